abbrev rm_X9_requireIndex : Room := { frames := 7, cells := 1, slots := 6, locals := 110 }
theorem dX9_requireIndex_0 : decode cX9_requireIndex 0 = .ok (.iload_n 0, 1) := by decide +kernel
theorem dX9_requireIndex_1 : decode cX9_requireIndex 1 = .ok (.ifCond .lt 8, 3) := by decide +kernel
theorem dX9_requireIndex_4 : decode cX9_requireIndex 4 = .ok (.iload_n 0, 1) := by decide +kernel
theorem dX9_requireIndex_5 : decode cX9_requireIndex 5 = .ok (.iload_n 1, 1) := by decide +kernel
theorem dX9_requireIndex_6 : decode cX9_requireIndex 6 = .ok (.if_icmp .lt 13, 3) := by decide +kernel
theorem dX9_requireIndex_9 : decode cX9_requireIndex 9 = .ok (.new 232, 3) := by decide +kernel
theorem dX9_requireIndex_12 : decode cX9_requireIndex 12 = .ok (.dup, 1) := by decide +kernel
theorem dX9_requireIndex_13 : decode cX9_requireIndex 13 = .ok (.ldc 234, 2) := by decide +kernel
theorem dX9_requireIndex_15 : decode cX9_requireIndex 15 = .ok (.invokespecial 236, 3) := by decide +kernel
theorem dX9_requireIndex_18 : decode cX9_requireIndex 18 = .ok (.athrow, 1) := by decide +kernel
theorem dX9_requireIndex_19 : decode cX9_requireIndex 19 = .ok (.return_, 1) := by decide +kernel
theorem gd_1_236 : ∀ w ∈ (vx_atS RX9 236 (xE 1) xnames).filter goodWord, w ∈ TB := by decide +kernel
theorem bd_1_236 : ∀ w ∈ (vx_atS RX9 236 (xE 1) xnames).filter (fun w => !goodWord w), w ∈ NBL := by decide +kernel
theorem ot_1_236 : ∀ w ∈ Cond.classLink RX9 232 (xE 1) :: Cond.initialized (xE 1) :: vx_atS RX9 236 (xE 1) xnames, vx_ot w = true := by decide +kernel
def f_X9_requireIndex (p0 p1 : Int32) : Nat :=
  if p0 < 0 then
    1
  else
    if p0 < p1 then
      0
    else
      1
set_option maxHeartbeats 4000000 in
set_option maxRecDepth 100000 in
theorem c_X9_requireIndex (l : Launch) (hfl : l.stackTraces = false) (ga : Nat → Nat) (D : va_G) (cI cJ cC : ClassId)  (sz : Nat) (p0 p1 : Int32) (t0 : Nat) (h : f_X9_requireIndex p0 p1 = t0) : vx_Met l yX9_requireIndex (Cond.code yX9_requireIndex cX9_requireIndex 2 none :: TB) rm_X9_requireIndex (PreX ga D cI cJ cC [] sz [.int p0, .int p1]) (QX t0 none D [] (va_A [] sz)) (XX t0 D [] (va_A [] sz)) 1 6 (va_A [] sz) := by
  refine metX (own := RX9) (by decide) rfl (Nat.le_of_ble_eq_true rfl) ?_
  intro p e s m below meth c S hr hlk hnt hP hK A hAe hD hA hS hG ls hl
  clear hAe
  have hx := S.1
  have hb := S.2.1
  have hl : lv_has ls 2 [(0, .int p0), (1, .int p1)] := hl
  refine lv_iload_n hx hb dX9_requireIndex_0 rfl (lv_at hl 0 rfl) ?_
  refine lv_if_lt (tgt := 9) hx hb dX9_requireIndex_1 (by decide) (fun c1 => ?_) (fun c1 => ?_)
  · have h := iteP c1 h
    subst h
    exact xthr (k := 1) (is := 234) (tx := "there is no such number") S hlk hnt hfl (by decide) (by decide) tb397 tb38 gd_1_236 bd_1_236 ot_1_236 hG (List.mem_of_getElem? (i := 2) rfl) (hP.sub [] rfl) (hD.sub [] (by decide) rfl) hS hl.1 dX9_requireIndex_9 dX9_requireIndex_12 dX9_requireIndex_13 dX9_requireIndex_15 dX9_requireIndex_18 (Nat.le_of_ble_eq_true rfl) (Nat.le_of_ble_eq_true rfl) (Nat.le_of_ble_eq_true rfl) (Nat.le_of_ble_eq_true rfl) (Nat.le_of_ble_eq_true rfl) (Nat.le_of_ble_eq_true rfl)
  · have h := iteN c1 h
    refine lv_iload_n hx hb dX9_requireIndex_4 rfl (lv_at hl 0 rfl) ?_
    refine lv_iload_n hx hb dX9_requireIndex_5 rfl (lv_at hl 1 rfl) ?_
    refine lv_icmp_lt (tgt := 19) hx hb dX9_requireIndex_6 (by decide) (fun c2 => ?_) (fun c2 => ?_)
    · have h := iteP c2 h
      subst h
      exact xRv S hr hlk (Nat.le_of_ble_eq_true rfl) (Nat.le_of_ble_eq_true rfl) (hP.sub [] rfl) (hD.sub [] (by decide) rfl) hS dX9_requireIndex_19
    · have h := iteN c2 h
      subst h
      exact xthr (k := 1) (is := 234) (tx := "there is no such number") S hlk hnt hfl (by decide) (by decide) tb397 tb38 gd_1_236 bd_1_236 ot_1_236 hG (List.mem_of_getElem? (i := 2) rfl) (hP.sub [] rfl) (hD.sub [] (by decide) rfl) hS hl.1 dX9_requireIndex_9 dX9_requireIndex_12 dX9_requireIndex_13 dX9_requireIndex_15 dX9_requireIndex_18 (Nat.le_of_ble_eq_true rfl) (Nat.le_of_ble_eq_true rfl) (Nat.le_of_ble_eq_true rfl) (Nat.le_of_ble_eq_true rfl) (Nat.le_of_ble_eq_true rfl) (Nat.le_of_ble_eq_true rfl)
abbrev rm_X9_requireArgument : Room := { frames := 7, cells := 1, slots := 6, locals := 110 }
theorem dX9_requireArgument_0 : decode cX9_requireArgument 0 = .ok (.iload_n 0, 1) := by decide +kernel
theorem dX9_requireArgument_1 : decode cX9_requireArgument 1 = .ok (.ifCond .ne 13, 3) := by decide +kernel
theorem dX9_requireArgument_4 : decode cX9_requireArgument 4 = .ok (.new 241, 3) := by decide +kernel
theorem dX9_requireArgument_7 : decode cX9_requireArgument 7 = .ok (.dup, 1) := by decide +kernel
theorem dX9_requireArgument_8 : decode cX9_requireArgument 8 = .ok (.ldc 243, 2) := by decide +kernel
theorem dX9_requireArgument_10 : decode cX9_requireArgument 10 = .ok (.invokespecial 245, 3) := by decide +kernel
theorem dX9_requireArgument_13 : decode cX9_requireArgument 13 = .ok (.athrow, 1) := by decide +kernel
theorem dX9_requireArgument_14 : decode cX9_requireArgument 14 = .ok (.return_, 1) := by decide +kernel
theorem gd_2_245 : ∀ w ∈ (vx_atS RX9 245 (xE 2) xnames).filter goodWord, w ∈ TB := by decide +kernel
theorem bd_2_245 : ∀ w ∈ (vx_atS RX9 245 (xE 2) xnames).filter (fun w => !goodWord w), w ∈ NBL := by decide +kernel
theorem ot_2_245 : ∀ w ∈ Cond.classLink RX9 241 (xE 2) :: Cond.initialized (xE 2) :: vx_atS RX9 245 (xE 2) xnames, vx_ot w = true := by decide +kernel
def f_X9_requireArgument (p0 : Int32) : Nat :=
  if p0 = 0 then
    2
  else
    0
set_option maxHeartbeats 4000000 in
set_option maxRecDepth 100000 in
theorem c_X9_requireArgument (l : Launch) (hfl : l.stackTraces = false) (ga : Nat → Nat) (D : va_G) (cI cJ cC : ClassId)  (sz : Nat) (p0 : Int32) (t0 : Nat) (h : f_X9_requireArgument p0 = t0) : vx_Met l yX9_requireArgument (Cond.code yX9_requireArgument cX9_requireArgument 1 none :: TB) rm_X9_requireArgument (PreX ga D cI cJ cC [] sz [.int p0]) (QX t0 none D [] (va_A [] sz)) (XX t0 D [] (va_A [] sz)) 1 6 (va_A [] sz) := by
  refine metX (own := RX9) (by decide) rfl (Nat.le_of_ble_eq_true rfl) ?_
  intro p e s m below meth c S hr hlk hnt hP hK A hAe hD hA hS hG ls hl
  clear hAe
  have hx := S.1
  have hb := S.2.1
  have hl : lv_has ls 1 [(0, .int p0)] := hl
  refine lv_iload_n hx hb dX9_requireArgument_0 rfl (lv_at hl 0 rfl) ?_
  refine lv_if_ne (tgt := 14) hx hb dX9_requireArgument_1 (by decide) (fun c1 => ?_) (fun c1 => ?_)
  · have h := iteN c1 h
    subst h
    exact xRv S hr hlk (Nat.le_of_ble_eq_true rfl) (Nat.le_of_ble_eq_true rfl) (hP.sub [] rfl) (hD.sub [] (by decide) rfl) hS dX9_requireArgument_14
  · have h := iteP c1 h
    subst h
    exact xthr (k := 2) (is := 243) (tx := "an argument is out of its range") S hlk hnt hfl (by decide) (by decide) tb463 tb35 gd_2_245 bd_2_245 ot_2_245 hG (List.mem_of_getElem? (i := 3) rfl) (hP.sub [] rfl) (hD.sub [] (by decide) rfl) hS hl.1 dX9_requireArgument_4 dX9_requireArgument_7 dX9_requireArgument_8 dX9_requireArgument_10 dX9_requireArgument_13 (Nat.le_of_ble_eq_true rfl) (Nat.le_of_ble_eq_true rfl) (Nat.le_of_ble_eq_true rfl) (Nat.le_of_ble_eq_true rfl) (Nat.le_of_ble_eq_true rfl) (Nat.le_of_ble_eq_true rfl)
abbrev rm_X9_requireNoSession : Room := { frames := 7, cells := 1, slots := 6, locals := 110 }
theorem dX9_requireNoSession_0 : decode cX9_requireNoSession 0 = .ok (.aload_n 0, 1) := by decide +kernel
theorem dX9_requireNoSession_1 : decode cX9_requireNoSession 1 = .ok (.getfield 21, 3) := by decide +kernel
theorem dX9_requireNoSession_4 : decode cX9_requireNoSession 4 = .ok (.getfield 113, 3) := by decide +kernel
theorem dX9_requireNoSession_7 : decode cX9_requireNoSession 7 = .ok (.ifCond .eq 13, 3) := by decide +kernel
theorem dX9_requireNoSession_10 : decode cX9_requireNoSession 10 = .ok (.new 246, 3) := by decide +kernel
theorem dX9_requireNoSession_13 : decode cX9_requireNoSession 13 = .ok (.dup, 1) := by decide +kernel
theorem dX9_requireNoSession_14 : decode cX9_requireNoSession 14 = .ok (.ldc 253, 2) := by decide +kernel
theorem dX9_requireNoSession_16 : decode cX9_requireNoSession 16 = .ok (.invokespecial 250, 3) := by decide +kernel
theorem dX9_requireNoSession_19 : decode cX9_requireNoSession 19 = .ok (.athrow, 1) := by decide +kernel
theorem dX9_requireNoSession_20 : decode cX9_requireNoSession 20 = .ok (.return_, 1) := by decide +kernel
theorem gf_X9_21 {p : Program} {l : Launch} {e : Env} {R : Room} {s : State} {m : MethodId} {args : Array Value} {below : List Frame} {meth : Method} {c : Code} {H : Heap} {locs : List Loc} {cells slots : Nat} {Q : State → Prop} {cc : ByteArray} {pc nL : Nat} {ls : Array Slot} {rest : List Value} {D : va_G} {ws : va_W} {tys : List (ClassId × FieldType)} (S : CallFix p m c cc nL s args TB RX9) (hK : va_K D vwCl tys s) (hP : va_P D vwCl ws H) (q0 : Nat) {a : Nat} {fs : List Value} (he : ws[q0]? = some (a, .inr (9, fs))) {v : Value} (hv : fs[1]? = some v) (hdg : decode cc pc = .ok (.getfield 21, 3))
    (kk : W p l e R s m args below meth c H locs cells slots Q (F0 m (pc + 3) ls (v :: rest))) : W p l e R s m args below meth c H locs cells slots Q (F0 m pc ls (.ref a :: rest)) :=
  va_get (D := D) (ci := 9) (C := RX9) (T := TX9) (N := 3) S.1 S.2.1 S.2.2.2.2 iwX9 S.2.2.2.1 hK hP q0 he rfl 1 (by decide) (S.2.2.2.2 _ tb294) (fun _ h9 => h9) hv hdg kk
theorem gf_X9_113 {p : Program} {l : Launch} {e : Env} {R : Room} {s : State} {m : MethodId} {args : Array Value} {below : List Frame} {meth : Method} {c : Code} {H : Heap} {locs : List Loc} {cells slots : Nat} {Q : State → Prop} {cc : ByteArray} {pc nL : Nat} {ls : Array Slot} {rest : List Value} {D : va_G} {ws : va_W} {tys : List (ClassId × FieldType)} (S : CallFix p m c cc nL s args TB RX9) (hK : va_K D vwCl tys s) (hP : va_P D vwCl ws H) (q0 : Nat) {a : Nat} {fs : List Value} (he : ws[q0]? = some (a, .inr (6, fs))) {v : Value} (hv : fs[11]? = some v) (hdg : decode cc pc = .ok (.getfield 113, 3))
    (kk : W p l e R s m args below meth c H locs cells slots Q (F0 m (pc + 3) ls (v :: rest))) : W p l e R s m args below meth c H locs cells slots Q (F0 m pc ls (.ref a :: rest)) :=
  va_get (D := D) (ci := 6) (C := RX6) (T := TX6) (N := 14) S.1 S.2.1 S.2.2.2.2 iwX6 S.2.2.2.1 hK hP q0 he rfl 11 (by decide) (S.2.2.2.2 _ tb259) (fun _ h9 => h9) hv hdg kk
theorem gd_3_250 : ∀ w ∈ (vx_atS RX9 250 (xE 3) xnames).filter goodWord, w ∈ TB := by decide +kernel
theorem bd_3_250 : ∀ w ∈ (vx_atS RX9 250 (xE 3) xnames).filter (fun w => !goodWord w), w ∈ NBL := by decide +kernel
theorem ot_3_250 : ∀ w ∈ Cond.classLink RX9 246 (xE 3) :: Cond.initialized (xE 3) :: vx_atS RX9 250 (xE 3) xnames, vx_ot w = true := by decide +kernel
def f_X9_requireNoSession (v1_state : Int32) : Nat :=
  if v1_state = 0 then
    0
  else
    3
set_option maxHeartbeats 4000000 in
set_option maxRecDepth 100000 in
theorem c_X9_requireNoSession (l : Launch) (hfl : l.stackTraces = false) (ga : Nat → Nat) (D : va_G) (cI cJ cC : ClassId) (h0 h1 kthis_stream kthis_scratch kthis_session_video kthis_session_audio kthis_session_samples kthis_session_download kthis_session_accounts kthis_session_line : Nat) (v1_mode v1_startThreshold v1_lastRung v1_lastChange v1_state v1_time v1_position : Int32) (sz : Nat)  (t0 : Nat) (h : f_X9_requireNoSession v1_state = t0) : vx_Met l yX9_requireNoSession (Cond.code yX9_requireNoSession cX9_requireNoSession 1 none :: TB) rm_X9_requireNoSession (PreX ga D cI cJ cC [(h0, .inr (9, [.ref kthis_stream, .ref h1, .ref kthis_scratch])), (h1, .inr (6, [.ref kthis_stream, .ref kthis_session_video, .ref kthis_session_audio, .ref kthis_session_samples, .ref kthis_session_download, .ref kthis_session_accounts, .ref kthis_session_line, .int v1_mode, .int v1_startThreshold, .int v1_lastRung, .int v1_lastChange, .int v1_state, .int v1_time, .int v1_position]))] sz [.ref h0]) (QX t0 none D [(h0, .inr (9, [.ref kthis_stream, .ref h1, .ref kthis_scratch])), (h1, .inr (6, [.ref kthis_stream, .ref kthis_session_video, .ref kthis_session_audio, .ref kthis_session_samples, .ref kthis_session_download, .ref kthis_session_accounts, .ref kthis_session_line, .int v1_mode, .int v1_startThreshold, .int v1_lastRung, .int v1_lastChange, .int v1_state, .int v1_time, .int v1_position]))] (va_A [(h0, .inr (9, [.ref kthis_stream, .ref h1, .ref kthis_scratch])), (h1, .inr (6, [.ref kthis_stream, .ref kthis_session_video, .ref kthis_session_audio, .ref kthis_session_samples, .ref kthis_session_download, .ref kthis_session_accounts, .ref kthis_session_line, .int v1_mode, .int v1_startThreshold, .int v1_lastRung, .int v1_lastChange, .int v1_state, .int v1_time, .int v1_position]))] sz)) (XX t0 D [(h0, .inr (9, [.ref kthis_stream, .ref h1, .ref kthis_scratch])), (h1, .inr (6, [.ref kthis_stream, .ref kthis_session_video, .ref kthis_session_audio, .ref kthis_session_samples, .ref kthis_session_download, .ref kthis_session_accounts, .ref kthis_session_line, .int v1_mode, .int v1_startThreshold, .int v1_lastRung, .int v1_lastChange, .int v1_state, .int v1_time, .int v1_position]))] (va_A [(h0, .inr (9, [.ref kthis_stream, .ref h1, .ref kthis_scratch])), (h1, .inr (6, [.ref kthis_stream, .ref kthis_session_video, .ref kthis_session_audio, .ref kthis_session_samples, .ref kthis_session_download, .ref kthis_session_accounts, .ref kthis_session_line, .int v1_mode, .int v1_startThreshold, .int v1_lastRung, .int v1_lastChange, .int v1_state, .int v1_time, .int v1_position]))] sz)) 1 6 (va_A [(h0, .inr (9, [.ref kthis_stream, .ref h1, .ref kthis_scratch])), (h1, .inr (6, [.ref kthis_stream, .ref kthis_session_video, .ref kthis_session_audio, .ref kthis_session_samples, .ref kthis_session_download, .ref kthis_session_accounts, .ref kthis_session_line, .int v1_mode, .int v1_startThreshold, .int v1_lastRung, .int v1_lastChange, .int v1_state, .int v1_time, .int v1_position]))] sz) := by
  refine metX (own := RX9) (by decide) rfl (Nat.le_of_ble_eq_true rfl) ?_
  intro p e s m below meth c S hr hlk hnt hP hK A hAe hD hA hS hG ls hl
  clear hAe
  have hx := S.1
  have hb := S.2.1
  have hl : lv_has ls 1 [(0, .ref h0)] := hl
  refine lv_aload_n hx hb dX9_requireNoSession_0 rfl (lv_at hl 0 rfl) ?_
  refine gf_X9_21 (v := .ref h1) S hK hP 0 rfl rfl dX9_requireNoSession_1 ?_
  refine gf_X9_113 (v := .int v1_state) S hK hP 1 rfl rfl dX9_requireNoSession_4 ?_
  refine lv_if_eq (tgt := 20) hx hb dX9_requireNoSession_7 (by decide) (fun c1 => ?_) (fun c1 => ?_)
  · have h := iteP c1 h
    subst h
    exact xRv S hr hlk (Nat.le_of_ble_eq_true rfl) (Nat.le_of_ble_eq_true rfl) (hP.sub [0, 1] rfl) (hD.sub [0, 1] (by decide) rfl) hS dX9_requireNoSession_20
  · have h := iteN c1 h
    subst h
    exact xthr (k := 3) (is := 253) (tx := "there is a session") S hlk hnt hfl (by decide) (by decide) tb310 tb34 gd_3_250 bd_3_250 ot_3_250 hG (List.mem_of_getElem? (i := 0) rfl) (hP.sub [0, 1] rfl) (hD.sub [0, 1] (by decide) rfl) hS hl.1 dX9_requireNoSession_10 dX9_requireNoSession_13 dX9_requireNoSession_14 dX9_requireNoSession_16 dX9_requireNoSession_19 (Nat.le_of_ble_eq_true rfl) (Nat.le_of_ble_eq_true rfl) (Nat.le_of_ble_eq_true rfl) (Nat.le_of_ble_eq_true rfl) (Nat.le_of_ble_eq_true rfl) (Nat.le_of_ble_eq_true rfl)
abbrev rm_X9_setParameter : Room := { frames := 8, cells := 3, slots := 18, locals := 131 }
theorem dX9_setParameter_0 : decode cX9_setParameter 0 = .ok (.iload_n 1, 1) := by decide +kernel
theorem dX9_setParameter_1 : decode cX9_setParameter 1 = .ok (.getstatic 28, 3) := by decide +kernel
theorem dX9_setParameter_4 : decode cX9_setParameter 4 = .ok (.arraylength, 1) := by decide +kernel
theorem dX9_setParameter_5 : decode cX9_setParameter 5 = .ok (.invokestatic 32, 3) := by decide +kernel
theorem dX9_setParameter_8 : decode cX9_setParameter 8 = .ok (.iload_n 1, 1) := by decide +kernel
theorem dX9_setParameter_9 : decode cX9_setParameter 9 = .ok (.iload_n 2, 1) := by decide +kernel
theorem dX9_setParameter_10 : decode cX9_setParameter 10 = .ok (.invokestatic 36, 3) := by decide +kernel
theorem dX9_setParameter_13 : decode cX9_setParameter 13 = .ok (.invokestatic 40, 3) := by decide +kernel
theorem dX9_setParameter_16 : decode cX9_setParameter 16 = .ok (.aload_n 0, 1) := by decide +kernel
theorem dX9_setParameter_17 : decode cX9_setParameter 17 = .ok (.invokevirtual 44, 3) := by decide +kernel
theorem dX9_setParameter_20 : decode cX9_setParameter 20 = .ok (.aload_n 0, 1) := by decide +kernel
theorem dX9_setParameter_21 : decode cX9_setParameter 21 = .ok (.getfield 10, 3) := by decide +kernel
theorem dX9_setParameter_24 : decode cX9_setParameter 24 = .ok (.iload_n 1, 1) := by decide +kernel
theorem dX9_setParameter_25 : decode cX9_setParameter 25 = .ok (.iload_n 2, 1) := by decide +kernel
theorem dX9_setParameter_26 : decode cX9_setParameter 26 = .ok (.invokevirtual 47, 3) := by decide +kernel
theorem dX9_setParameter_29 : decode cX9_setParameter 29 = .ok (.ireturn, 1) := by decide +kernel
theorem cw_X9_32 {R : Room} {s : State} {args : Array Value} (hts : ∀ w ∈ TB, w.before args s = true) (hR : rm_X9_requireIndex.frames + 1 ≤ R.frames ∧ 8 + (2 + 11) + rm_X9_requireIndex.locals ≤ R.locals) : CallB R s args RX9 32 yX9_requireIndex cX9_requireIndex 2 none (Cond.code yX9_requireIndex cX9_requireIndex 2 none :: TB) rm_X9_requireIndex 1 6 2 ∧ (Cond.static yX9_requireIndex).before args s = true := cwS 2 hts (gS tb394 tb395 tb21 tb396) rfl rfl rfl ⟨rfl, by decide, by decide, by decide +kernel⟩ hR
theorem cw_X9_36 {R : Room} {s : State} {args : Array Value} (hts : ∀ w ∈ TB, w.before args s = true) (hR : rm_X8_allows.frames + 1 ≤ R.frames ∧ 8 + (2 + 11) + rm_X8_allows.locals ≤ R.locals) : CallB R s args RX9 36 yX8_allows cX8_allows 2 (some .boolean) (Cond.code yX8_allows cX8_allows 2 (some .boolean) :: TB) rm_X8_allows 0 0 2 ∧ (Cond.static yX8_allows).before args s = true := va_cwS 2 hts (gSx tb763 tb764 tb22 tb765) rfl rfl rfl ⟨by decide, by decide, by decide +kernel⟩ hR
theorem cw_X9_40 {R : Room} {s : State} {args : Array Value} (hts : ∀ w ∈ TB, w.before args s = true) (hR : rm_X9_requireArgument.frames + 1 ≤ R.frames ∧ 8 + (1 + 11) + rm_X9_requireArgument.locals ≤ R.locals) : CallB R s args RX9 40 yX9_requireArgument cX9_requireArgument 1 none (Cond.code yX9_requireArgument cX9_requireArgument 1 none :: TB) rm_X9_requireArgument 1 6 1 ∧ (Cond.static yX9_requireArgument).before args s = true := cwS 1 hts (gS tb460 tb461 tb21 tb462) rfl rfl rfl ⟨rfl, by decide, by decide, by decide +kernel⟩ hR
theorem cw_X9_44 {R : Room} {s : State} {args : Array Value} (hts : ∀ w ∈ TB, w.before args s = true) (hR : rm_X9_requireNoSession.frames + 1 ≤ R.frames ∧ 8 + (1 + 11) + rm_X9_requireNoSession.locals ≤ R.locals) : CallW R s args RX9 RX9 44 yX9_requireNoSession cX9_requireNoSession 1 none (Cond.code yX9_requireNoSession cX9_requireNoSession 1 none :: TB) rm_X9_requireNoSession 1 6 0 := cwV 0 hts (gV tb307 tb308 tb0 tb21 tb309) rfl rfl rfl ⟨rfl, by decide, by decide, by decide +kernel⟩ hR
theorem gf_X9_10 {p : Program} {l : Launch} {e : Env} {R : Room} {s : State} {m : MethodId} {args : Array Value} {below : List Frame} {meth : Method} {c : Code} {H : Heap} {locs : List Loc} {cells slots : Nat} {Q : State → Prop} {cc : ByteArray} {pc nL : Nat} {ls : Array Slot} {rest : List Value} {D : va_G} {ws : va_W} {tys : List (ClassId × FieldType)} (S : CallFix p m c cc nL s args TB RX9) (hK : va_K D vwCl tys s) (hP : va_P D vwCl ws H) (q0 : Nat) {a : Nat} {fs : List Value} (he : ws[q0]? = some (a, .inr (9, fs))) {v : Value} (hv : fs[0]? = some v) (hdg : decode cc pc = .ok (.getfield 10, 3))
    (kk : W p l e R s m args below meth c H locs cells slots Q (F0 m (pc + 3) ls (v :: rest))) : W p l e R s m args below meth c H locs cells slots Q (F0 m pc ls (.ref a :: rest)) :=
  va_get (D := D) (ci := 9) (C := RX9) (T := TX9) (N := 3) S.1 S.2.1 S.2.2.2.2 iwX9 S.2.2.2.1 hK hP q0 he rfl 0 (by decide) (S.2.2.2.2 _ tb293) (fun _ h9 => h9) hv hdg kk
theorem cw_X9_47 {R : Room} {s : State} {args : Array Value} (hts : ∀ w ∈ TB, w.before args s = true) (hR : rm_X8_replaceValue.frames + 1 ≤ R.frames ∧ 8 + (4 + 11) + rm_X8_replaceValue.locals ≤ R.locals) : CallW R s args RX9 RX8 47 yX8_replaceValue cX8_replaceValue 4 (some .int) (Cond.code yX8_replaceValue cX8_replaceValue 4 (some .int) :: TB) rm_X8_replaceValue 0 0 2 := cwV 2 hts (gV tb766 tb767 tb768 tb22 tb769) rfl rfl rfl ⟨rfl, by decide, by decide, by decide +kernel⟩ hR
def f_X9_setParameter (v1_state : Int32) (r3 : Nat → Int32) (p0 p1 : Int32) : Nat × Int32 × (Nat → Int32) :=
  bnd (f_X9_requireIndex p0 15) fun (k1 : Nat) =>
  if k1 = 0 then
    bnd (f_X9_requireArgument (f_X8_allows p0 p1)) fun (k3 : Nat) =>
    if k3 = 0 then
      bnd (f_X9_requireNoSession v1_state) fun (k5 : Nat) =>
      if k5 = 0 then
        bnd2 (f_X8_replaceValue r3 p0 p1) fun (y7 : Int32) (u8 : Nat → Int32) =>
        (0, y7, u8)
      else
        (k5, 0, r3)
    else
      (k3, 0, r3)
  else
    (k1, 0, r3)
set_option maxHeartbeats 4000000 in
set_option maxRecDepth 100000 in
theorem c_X9_setParameter (l : Launch) (hfl : l.stackTraces = false) (ga : Nat → Nat) (D : va_G) (cI cJ cC : ClassId) (h0 h1 h2 h3 kthis_scratch kthis_session_video kthis_session_audio kthis_session_samples kthis_session_download kthis_session_accounts kthis_session_line kthis_stream_video kthis_stream_audio kthis_stream_plan : Nat) (v1_mode v1_startThreshold v1_lastRung v1_lastChange v1_state v1_time v1_position : Int32) (r3 : Nat → Int32) (sz : Nat) (p0 p1 : Int32) (T : Nat × Int32 × (Nat → Int32)) (h : f_X9_setParameter v1_state r3 p0 p1 = T) : vx_Met l yX9_setParameter (Cond.code yX9_setParameter cX9_setParameter 3 (some .int) :: TB) rm_X9_setParameter (PreX ga D cI cJ cC [(h0, .inr (9, [.ref h2, .ref h1, .ref kthis_scratch])), (h1, .inr (6, [.ref h2, .ref kthis_session_video, .ref kthis_session_audio, .ref kthis_session_samples, .ref kthis_session_download, .ref kthis_session_accounts, .ref kthis_session_line, .int v1_mode, .int v1_startThreshold, .int v1_lastRung, .int v1_lastChange, .int v1_state, .int v1_time, .int v1_position])), (h2, .inr (8, [.ref h3, .ref kthis_stream_video, .ref kthis_stream_audio, .ref kthis_stream_plan])), (h3, .inl (cI, 15, .inl r3))] sz [.ref h0, .int p0, .int p1]) (QX T.1 (some (.int T.2.1)) D [(h0, .inr (9, [.ref h2, .ref h1, .ref kthis_scratch])), (h1, .inr (6, [.ref h2, .ref kthis_session_video, .ref kthis_session_audio, .ref kthis_session_samples, .ref kthis_session_download, .ref kthis_session_accounts, .ref kthis_session_line, .int v1_mode, .int v1_startThreshold, .int v1_lastRung, .int v1_lastChange, .int v1_state, .int v1_time, .int v1_position])), (h2, .inr (8, [.ref h3, .ref kthis_stream_video, .ref kthis_stream_audio, .ref kthis_stream_plan])), (h3, .inl (cI, 15, .inl T.2.2))] (va_A [(h0, .inr (9, [.ref h2, .ref h1, .ref kthis_scratch])), (h1, .inr (6, [.ref h2, .ref kthis_session_video, .ref kthis_session_audio, .ref kthis_session_samples, .ref kthis_session_download, .ref kthis_session_accounts, .ref kthis_session_line, .int v1_mode, .int v1_startThreshold, .int v1_lastRung, .int v1_lastChange, .int v1_state, .int v1_time, .int v1_position])), (h2, .inr (8, [.ref h3, .ref kthis_stream_video, .ref kthis_stream_audio, .ref kthis_stream_plan])), (h3, .inl (cI, 15, .inl r3))] sz)) (XX T.1 D [(h0, .inr (9, [.ref h2, .ref h1, .ref kthis_scratch])), (h1, .inr (6, [.ref h2, .ref kthis_session_video, .ref kthis_session_audio, .ref kthis_session_samples, .ref kthis_session_download, .ref kthis_session_accounts, .ref kthis_session_line, .int v1_mode, .int v1_startThreshold, .int v1_lastRung, .int v1_lastChange, .int v1_state, .int v1_time, .int v1_position])), (h2, .inr (8, [.ref h3, .ref kthis_stream_video, .ref kthis_stream_audio, .ref kthis_stream_plan])), (h3, .inl (cI, 15, .inl T.2.2))] (va_A [(h0, .inr (9, [.ref h2, .ref h1, .ref kthis_scratch])), (h1, .inr (6, [.ref h2, .ref kthis_session_video, .ref kthis_session_audio, .ref kthis_session_samples, .ref kthis_session_download, .ref kthis_session_accounts, .ref kthis_session_line, .int v1_mode, .int v1_startThreshold, .int v1_lastRung, .int v1_lastChange, .int v1_state, .int v1_time, .int v1_position])), (h2, .inr (8, [.ref h3, .ref kthis_stream_video, .ref kthis_stream_audio, .ref kthis_stream_plan])), (h3, .inl (cI, 15, .inl r3))] sz)) 3 18 (va_A [(h0, .inr (9, [.ref h2, .ref h1, .ref kthis_scratch])), (h1, .inr (6, [.ref h2, .ref kthis_session_video, .ref kthis_session_audio, .ref kthis_session_samples, .ref kthis_session_download, .ref kthis_session_accounts, .ref kthis_session_line, .int v1_mode, .int v1_startThreshold, .int v1_lastRung, .int v1_lastChange, .int v1_state, .int v1_time, .int v1_position])), (h2, .inr (8, [.ref h3, .ref kthis_stream_video, .ref kthis_stream_audio, .ref kthis_stream_plan])), (h3, .inl (cI, 15, .inl r3))] sz) := by
  refine metX (own := RX9) (by decide) rfl (Nat.le_of_ble_eq_true rfl) ?_
  intro p e s m below meth c S hr hlk hnt hP hK A hAe hD hA hS hG ls hl
  clear hAe
  have hx := S.1
  have hb := S.2.1
  have hl : lv_has ls 3 [(0, .ref h0), (1, .int p0), (2, .int p1)] := hl
  refine lv_iload_n hx hb dX9_setParameter_0 rfl (lv_at hl 1 rfl) ?_
  refine va_gets hx hb (hG.2.2.2.2.1 (0, "FIRST_VALUES", FV) (List.mem_of_getElem? (i := 0) rfl)).1 hS S.2.2.2.1 (S.2.2.2.2 _ tb762) (fun _ h9 => h9) dX9_setParameter_1 ?_
  refine va_tlen hx hb (hG.2.2.2.2.1 (0, "FIRST_VALUES", FV) (List.mem_of_getElem? (i := 0) rfl)).2 hS (v := 15) rfl dX9_setParameter_4 ?_
  obtain ⟨k1, e_k1⟩ : ∃ a0, f_X9_requireIndex p0 15 = a0 := ⟨_, rfl⟩
  have h := bnd_eq e_k1 h
  refine xcS (pc1 := 8) (rest := []) (st1 := []) (wr := [(h0, .inr (9, [.ref h2, .ref h1, .ref kthis_scratch])), (h1, .inr (6, [.ref h2, .ref kthis_session_video, .ref kthis_session_audio, .ref kthis_session_samples, .ref kthis_session_download, .ref kthis_session_accounts, .ref kthis_session_line, .int v1_mode, .int v1_startThreshold, .int v1_lastRung, .int v1_lastChange, .int v1_state, .int v1_time, .int v1_position])), (h2, .inr (8, [.ref h3, .ref kthis_stream_video, .ref kthis_stream_audio, .ref kthis_stream_plan])), (h3, .inl (cI, 15, .inl r3))]) (cells1 := 1) (slots1 := 6) S (c_X9_requireIndex l hfl ga D cI cJ cC  s.heap.size p0 15 k1 e_k1) (cw_X9_32 S.2.2.2.2 ⟨Nat.le_of_ble_eq_true rfl, Nat.le_of_ble_eq_true rfl⟩) hK hP hD hS hA hG [] [0, 1, 2, 3] rfl rfl rfl (by decide) (by decide) (by decide) rfl hl.1 rfl (Nat.le_of_ble_eq_true rfl) ⟨Nat.le_of_ble_eq_true rfl, Nat.le_of_ble_eq_true rfl⟩ rfl rfl rfl rfl dX9_setParameter_5 (fun c2 H locs ce q9 hP hD hS hce hcv hcl => ?_) (fun c2 H locs hP hD hS => ?_)
  · have h := iteN c2 h
    have hP : va_P D vwCl [(h0, .inr (9, [.ref h2, .ref h1, .ref kthis_scratch])), (h1, .inr (6, [.ref h2, .ref kthis_session_video, .ref kthis_session_audio, .ref kthis_session_samples, .ref kthis_session_download, .ref kthis_session_accounts, .ref kthis_session_line, .int v1_mode, .int v1_startThreshold, .int v1_lastRung, .int v1_lastChange, .int v1_state, .int v1_time, .int v1_position])), (h2, .inr (8, [.ref h3, .ref kthis_stream_video, .ref kthis_stream_audio, .ref kthis_stream_plan])), (h3, .inl (cI, 15, .inl r3))] H := hP
    have hD : va_D A [(h0, .inr (9, [.ref h2, .ref h1, .ref kthis_scratch])), (h1, .inr (6, [.ref h2, .ref kthis_session_video, .ref kthis_session_audio, .ref kthis_session_samples, .ref kthis_session_download, .ref kthis_session_accounts, .ref kthis_session_line, .int v1_mode, .int v1_startThreshold, .int v1_lastRung, .int v1_lastChange, .int v1_state, .int v1_time, .int v1_position])), (h2, .inr (8, [.ref h3, .ref kthis_stream_video, .ref kthis_stream_audio, .ref kthis_stream_plan])), (h3, .inl (cI, 15, .inl r3))] := hD
    subst h
    exact xout hnt hlk c2 (hP.sub [0, 1, 2, 3] rfl) (hD.sub [0, 1, 2, 3] (by decide) rfl) hS hce hcv hcl (Nat.le_of_ble_eq_true rfl) (Nat.le_of_ble_eq_true rfl)
  · have h := iteP c2 h
    have hP : va_P D vwCl [(h0, .inr (9, [.ref h2, .ref h1, .ref kthis_scratch])), (h1, .inr (6, [.ref h2, .ref kthis_session_video, .ref kthis_session_audio, .ref kthis_session_samples, .ref kthis_session_download, .ref kthis_session_accounts, .ref kthis_session_line, .int v1_mode, .int v1_startThreshold, .int v1_lastRung, .int v1_lastChange, .int v1_state, .int v1_time, .int v1_position])), (h2, .inr (8, [.ref h3, .ref kthis_stream_video, .ref kthis_stream_audio, .ref kthis_stream_plan])), (h3, .inl (cI, 15, .inl r3))] H := hP
    have hD : va_D A [(h0, .inr (9, [.ref h2, .ref h1, .ref kthis_scratch])), (h1, .inr (6, [.ref h2, .ref kthis_session_video, .ref kthis_session_audio, .ref kthis_session_samples, .ref kthis_session_download, .ref kthis_session_accounts, .ref kthis_session_line, .int v1_mode, .int v1_startThreshold, .int v1_lastRung, .int v1_lastChange, .int v1_state, .int v1_time, .int v1_position])), (h2, .inr (8, [.ref h3, .ref kthis_stream_video, .ref kthis_stream_audio, .ref kthis_stream_plan])), (h3, .inl (cI, 15, .inl r3))] := hD
    refine lv_iload_n hx hb dX9_setParameter_8 rfl (lv_at hl 1 rfl) ?_
    refine lv_iload_n hx hb dX9_setParameter_9 rfl (lv_at hl 2 rfl) ?_
    refine rdGS (pc1 := 13) (rest := []) (st1 := [.int (f_X8_allows p0 p1)]) S (c_X8_allows l ga D cI cJ cC  p0 p1 _ rfl) (cw_X9_36 S.2.2.2.2 ⟨Nat.le_of_ble_eq_true rfl, Nat.le_of_ble_eq_true rfl⟩) hK hS hG (hP.sub [] rfl) rfl hl.1 rfl (Nat.le_of_ble_eq_true rfl) ⟨Nat.le_of_ble_eq_true rfl, Nat.le_of_ble_eq_true rfl⟩ rfl rfl dX9_setParameter_10 ?_
    obtain ⟨k3, e_k3⟩ : ∃ a0, f_X9_requireArgument (f_X8_allows p0 p1) = a0 := ⟨_, rfl⟩
    have h := bnd_eq e_k3 h
    refine xcS (pc1 := 16) (rest := []) (st1 := []) (wr := [(h0, .inr (9, [.ref h2, .ref h1, .ref kthis_scratch])), (h1, .inr (6, [.ref h2, .ref kthis_session_video, .ref kthis_session_audio, .ref kthis_session_samples, .ref kthis_session_download, .ref kthis_session_accounts, .ref kthis_session_line, .int v1_mode, .int v1_startThreshold, .int v1_lastRung, .int v1_lastChange, .int v1_state, .int v1_time, .int v1_position])), (h2, .inr (8, [.ref h3, .ref kthis_stream_video, .ref kthis_stream_audio, .ref kthis_stream_plan])), (h3, .inl (cI, 15, .inl r3))]) (cells1 := 2) (slots1 := 12) S (c_X9_requireArgument l hfl ga D cI cJ cC  H.size (f_X8_allows p0 p1) k3 e_k3) (cw_X9_40 S.2.2.2.2 ⟨Nat.le_of_ble_eq_true rfl, Nat.le_of_ble_eq_true rfl⟩) hK hP hD hS hA hG [] [0, 1, 2, 3] rfl rfl rfl (by decide) (by decide) (by decide) rfl hl.1 rfl (Nat.le_of_ble_eq_true rfl) ⟨Nat.le_of_ble_eq_true rfl, Nat.le_of_ble_eq_true rfl⟩ rfl rfl rfl rfl dX9_setParameter_13 (fun c4 H locs ce q9 hP hD hS hce hcv hcl => ?_) (fun c4 H locs hP hD hS => ?_)
    · have h := iteN c4 h
      have hP : va_P D vwCl [(h0, .inr (9, [.ref h2, .ref h1, .ref kthis_scratch])), (h1, .inr (6, [.ref h2, .ref kthis_session_video, .ref kthis_session_audio, .ref kthis_session_samples, .ref kthis_session_download, .ref kthis_session_accounts, .ref kthis_session_line, .int v1_mode, .int v1_startThreshold, .int v1_lastRung, .int v1_lastChange, .int v1_state, .int v1_time, .int v1_position])), (h2, .inr (8, [.ref h3, .ref kthis_stream_video, .ref kthis_stream_audio, .ref kthis_stream_plan])), (h3, .inl (cI, 15, .inl r3))] H := hP
      have hD : va_D A [(h0, .inr (9, [.ref h2, .ref h1, .ref kthis_scratch])), (h1, .inr (6, [.ref h2, .ref kthis_session_video, .ref kthis_session_audio, .ref kthis_session_samples, .ref kthis_session_download, .ref kthis_session_accounts, .ref kthis_session_line, .int v1_mode, .int v1_startThreshold, .int v1_lastRung, .int v1_lastChange, .int v1_state, .int v1_time, .int v1_position])), (h2, .inr (8, [.ref h3, .ref kthis_stream_video, .ref kthis_stream_audio, .ref kthis_stream_plan])), (h3, .inl (cI, 15, .inl r3))] := hD
      subst h
      exact xout hnt hlk c4 (hP.sub [0, 1, 2, 3] rfl) (hD.sub [0, 1, 2, 3] (by decide) rfl) hS hce hcv hcl (Nat.le_of_ble_eq_true rfl) (Nat.le_of_ble_eq_true rfl)
    · have h := iteP c4 h
      have hP : va_P D vwCl [(h0, .inr (9, [.ref h2, .ref h1, .ref kthis_scratch])), (h1, .inr (6, [.ref h2, .ref kthis_session_video, .ref kthis_session_audio, .ref kthis_session_samples, .ref kthis_session_download, .ref kthis_session_accounts, .ref kthis_session_line, .int v1_mode, .int v1_startThreshold, .int v1_lastRung, .int v1_lastChange, .int v1_state, .int v1_time, .int v1_position])), (h2, .inr (8, [.ref h3, .ref kthis_stream_video, .ref kthis_stream_audio, .ref kthis_stream_plan])), (h3, .inl (cI, 15, .inl r3))] H := hP
      have hD : va_D A [(h0, .inr (9, [.ref h2, .ref h1, .ref kthis_scratch])), (h1, .inr (6, [.ref h2, .ref kthis_session_video, .ref kthis_session_audio, .ref kthis_session_samples, .ref kthis_session_download, .ref kthis_session_accounts, .ref kthis_session_line, .int v1_mode, .int v1_startThreshold, .int v1_lastRung, .int v1_lastChange, .int v1_state, .int v1_time, .int v1_position])), (h2, .inr (8, [.ref h3, .ref kthis_stream_video, .ref kthis_stream_audio, .ref kthis_stream_plan])), (h3, .inl (cI, 15, .inl r3))] := hD
      refine lv_aload_n hx hb dX9_setParameter_16 rfl (lv_at hl 0 rfl) ?_
      obtain ⟨k5, e_k5⟩ : ∃ a0, f_X9_requireNoSession v1_state = a0 := ⟨_, rfl⟩
      have h := bnd_eq e_k5 h
      refine xcV (pc1 := 20) (rest := []) (st1 := []) (wr := [(h2, .inr (8, [.ref h3, .ref kthis_stream_video, .ref kthis_stream_audio, .ref kthis_stream_plan])), (h3, .inl (cI, 15, .inl r3))]) (cells1 := 3) (slots1 := 18) S (c_X9_requireNoSession l hfl ga D cI cJ cC h0 h1 h2 kthis_scratch kthis_session_video kthis_session_audio kthis_session_samples kthis_session_download kthis_session_accounts kthis_session_line v1_mode v1_startThreshold v1_lastRung v1_lastChange v1_state v1_time v1_position H.size  k5 e_k5) (cw_X9_44 S.2.2.2.2 ⟨Nat.le_of_ble_eq_true rfl, Nat.le_of_ble_eq_true rfl⟩) hK hP hD hS hA hG [0, 1] [2, 3] rfl rfl rfl (by decide) (by decide) (by decide) rfl rfl rfl rfl hl.1 rfl (Nat.le_of_ble_eq_true rfl) ⟨Nat.le_of_ble_eq_true rfl, Nat.le_of_ble_eq_true rfl⟩ rfl rfl rfl rfl dX9_setParameter_17 (fun c6 H locs ce q9 hP hD hS hce hcv hcl => ?_) (fun c6 H locs hP hD hS => ?_)
      · have h := iteN c6 h
        have hP : va_P D vwCl [(h2, .inr (8, [.ref h3, .ref kthis_stream_video, .ref kthis_stream_audio, .ref kthis_stream_plan])), (h3, .inl (cI, 15, .inl r3)), (h0, .inr (9, [.ref h2, .ref h1, .ref kthis_scratch])), (h1, .inr (6, [.ref h2, .ref kthis_session_video, .ref kthis_session_audio, .ref kthis_session_samples, .ref kthis_session_download, .ref kthis_session_accounts, .ref kthis_session_line, .int v1_mode, .int v1_startThreshold, .int v1_lastRung, .int v1_lastChange, .int v1_state, .int v1_time, .int v1_position]))] H := hP
        have hD : va_D A [(h2, .inr (8, [.ref h3, .ref kthis_stream_video, .ref kthis_stream_audio, .ref kthis_stream_plan])), (h3, .inl (cI, 15, .inl r3)), (h0, .inr (9, [.ref h2, .ref h1, .ref kthis_scratch])), (h1, .inr (6, [.ref h2, .ref kthis_session_video, .ref kthis_session_audio, .ref kthis_session_samples, .ref kthis_session_download, .ref kthis_session_accounts, .ref kthis_session_line, .int v1_mode, .int v1_startThreshold, .int v1_lastRung, .int v1_lastChange, .int v1_state, .int v1_time, .int v1_position]))] := hD
        subst h
        exact xout hnt hlk c6 (hP.sub [2, 3, 0, 1] rfl) (hD.sub [2, 3, 0, 1] (by decide) rfl) hS hce hcv hcl (Nat.le_of_ble_eq_true rfl) (Nat.le_of_ble_eq_true rfl)
      · have h := iteP c6 h
        have hP : va_P D vwCl [(h2, .inr (8, [.ref h3, .ref kthis_stream_video, .ref kthis_stream_audio, .ref kthis_stream_plan])), (h3, .inl (cI, 15, .inl r3)), (h0, .inr (9, [.ref h2, .ref h1, .ref kthis_scratch])), (h1, .inr (6, [.ref h2, .ref kthis_session_video, .ref kthis_session_audio, .ref kthis_session_samples, .ref kthis_session_download, .ref kthis_session_accounts, .ref kthis_session_line, .int v1_mode, .int v1_startThreshold, .int v1_lastRung, .int v1_lastChange, .int v1_state, .int v1_time, .int v1_position]))] H := hP
        have hD : va_D A [(h2, .inr (8, [.ref h3, .ref kthis_stream_video, .ref kthis_stream_audio, .ref kthis_stream_plan])), (h3, .inl (cI, 15, .inl r3)), (h0, .inr (9, [.ref h2, .ref h1, .ref kthis_scratch])), (h1, .inr (6, [.ref h2, .ref kthis_session_video, .ref kthis_session_audio, .ref kthis_session_samples, .ref kthis_session_download, .ref kthis_session_accounts, .ref kthis_session_line, .int v1_mode, .int v1_startThreshold, .int v1_lastRung, .int v1_lastChange, .int v1_state, .int v1_time, .int v1_position]))] := hD
        refine lv_aload_n hx hb dX9_setParameter_20 rfl (lv_at hl 0 rfl) ?_
        refine gf_X9_10 (v := .ref h2) S hK hP 2 rfl rfl dX9_setParameter_21 ?_
        refine lv_iload_n hx hb dX9_setParameter_24 rfl (lv_at hl 1 rfl) ?_
        refine lv_iload_n hx hb dX9_setParameter_25 rfl (lv_at hl 2 rfl) ?_
        obtain ⟨y7, u8, e_y7⟩ : ∃ a0 a1, f_X8_replaceValue r3 p0 p1 = (a0, a1) := ⟨_, _, rfl⟩
        have h := bnd2_eq e_y7 h
        refine wrV (pc1 := 29) (rest := []) (st1 := [.int y7]) (wr := [(h0, .inr (9, [.ref h2, .ref h1, .ref kthis_scratch])), (h1, .inr (6, [.ref h2, .ref kthis_session_video, .ref kthis_session_audio, .ref kthis_session_samples, .ref kthis_session_download, .ref kthis_session_accounts, .ref kthis_session_line, .int v1_mode, .int v1_startThreshold, .int v1_lastRung, .int v1_lastChange, .int v1_state, .int v1_time, .int v1_position]))]) S (c_X8_replaceValue l D cI cJ cC h2 h3 kthis_stream_video kthis_stream_audio kthis_stream_plan r3 H.size p0 p1 (y7, u8) e_y7) (cw_X9_47 S.2.2.2.2 ⟨Nat.le_of_ble_eq_true rfl, Nat.le_of_ble_eq_true rfl⟩) hK hP hD hS hA [0, 1] [2, 3] rfl rfl rfl (by decide) (by decide) (by decide) rfl rfl rfl rfl hl.1 rfl (Nat.le_of_ble_eq_true rfl) ⟨Nat.le_of_ble_eq_true rfl, Nat.le_of_ble_eq_true rfl⟩ rfl rfl dX9_setParameter_26 (fun H locs hP hD hS => ?_)
        have hP : va_P D vwCl [(h0, .inr (9, [.ref h2, .ref h1, .ref kthis_scratch])), (h1, .inr (6, [.ref h2, .ref kthis_session_video, .ref kthis_session_audio, .ref kthis_session_samples, .ref kthis_session_download, .ref kthis_session_accounts, .ref kthis_session_line, .int v1_mode, .int v1_startThreshold, .int v1_lastRung, .int v1_lastChange, .int v1_state, .int v1_time, .int v1_position])), (h2, .inr (8, [.ref h3, .ref kthis_stream_video, .ref kthis_stream_audio, .ref kthis_stream_plan])), (h3, .inl (cI, 15, .inl u8))] H := hP
        have hD : va_D A [(h0, .inr (9, [.ref h2, .ref h1, .ref kthis_scratch])), (h1, .inr (6, [.ref h2, .ref kthis_session_video, .ref kthis_session_audio, .ref kthis_session_samples, .ref kthis_session_download, .ref kthis_session_accounts, .ref kthis_session_line, .int v1_mode, .int v1_startThreshold, .int v1_lastRung, .int v1_lastChange, .int v1_state, .int v1_time, .int v1_position])), (h2, .inr (8, [.ref h3, .ref kthis_stream_video, .ref kthis_stream_audio, .ref kthis_stream_plan])), (h3, .inl (cI, 15, .inl u8))] := hD
        subst h
        exact xRi S hr hlk (Nat.le_of_ble_eq_true rfl) (Nat.le_of_ble_eq_true rfl) (hP.sub [0, 1, 2, 3] rfl) (hD.sub [0, 1, 2, 3] (by decide) rfl) hS dX9_setParameter_29
abbrev rm_X9_requireState : Room := { frames := 7, cells := 1, slots := 6, locals := 110 }
theorem dX9_requireState_0 : decode cX9_requireState 0 = .ok (.iload_n 0, 1) := by decide +kernel
theorem dX9_requireState_1 : decode cX9_requireState 1 = .ok (.ifCond .ne 13, 3) := by decide +kernel
theorem dX9_requireState_4 : decode cX9_requireState 4 = .ok (.new 246, 3) := by decide +kernel
theorem dX9_requireState_7 : decode cX9_requireState 7 = .ok (.dup, 1) := by decide +kernel
theorem dX9_requireState_8 : decode cX9_requireState 8 = .ok (.ldc 248, 2) := by decide +kernel
theorem dX9_requireState_10 : decode cX9_requireState 10 = .ok (.invokespecial 250, 3) := by decide +kernel
theorem dX9_requireState_13 : decode cX9_requireState 13 = .ok (.athrow, 1) := by decide +kernel
theorem dX9_requireState_14 : decode cX9_requireState 14 = .ok (.return_, 1) := by decide +kernel
def f_X9_requireState (p0 : Int32) : Nat :=
  if p0 = 0 then
    3
  else
    0
set_option maxHeartbeats 4000000 in
set_option maxRecDepth 100000 in
theorem c_X9_requireState (l : Launch) (hfl : l.stackTraces = false) (ga : Nat → Nat) (D : va_G) (cI cJ cC : ClassId)  (sz : Nat) (p0 : Int32) (t0 : Nat) (h : f_X9_requireState p0 = t0) : vx_Met l yX9_requireState (Cond.code yX9_requireState cX9_requireState 1 none :: TB) rm_X9_requireState (PreX ga D cI cJ cC [] sz [.int p0]) (QX t0 none D [] (va_A [] sz)) (XX t0 D [] (va_A [] sz)) 1 6 (va_A [] sz) := by
  refine metX (own := RX9) (by decide) rfl (Nat.le_of_ble_eq_true rfl) ?_
  intro p e s m below meth c S hr hlk hnt hP hK A hAe hD hA hS hG ls hl
  clear hAe
  have hx := S.1
  have hb := S.2.1
  have hl : lv_has ls 1 [(0, .int p0)] := hl
  refine lv_iload_n hx hb dX9_requireState_0 rfl (lv_at hl 0 rfl) ?_
  refine lv_if_ne (tgt := 14) hx hb dX9_requireState_1 (by decide) (fun c1 => ?_) (fun c1 => ?_)
  · have h := iteN c1 h
    subst h
    exact xRv S hr hlk (Nat.le_of_ble_eq_true rfl) (Nat.le_of_ble_eq_true rfl) (hP.sub [] rfl) (hD.sub [] (by decide) rfl) hS dX9_requireState_14
  · have h := iteP c1 h
    subst h
    exact xthr (k := 3) (is := 248) (tx := "the call is not possible now") S hlk hnt hfl (by decide) (by decide) tb310 tb34 gd_3_250 bd_3_250 ot_3_250 hG (List.mem_of_getElem? (i := 4) rfl) (hP.sub [] rfl) (hD.sub [] (by decide) rfl) hS hl.1 dX9_requireState_4 dX9_requireState_7 dX9_requireState_8 dX9_requireState_10 dX9_requireState_13 (Nat.le_of_ble_eq_true rfl) (Nat.le_of_ble_eq_true rfl) (Nat.le_of_ble_eq_true rfl) (Nat.le_of_ble_eq_true rfl) (Nat.le_of_ble_eq_true rfl) (Nat.le_of_ble_eq_true rfl)
