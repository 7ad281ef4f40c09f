abbrev rm_L_position : Room := { frames := 9, cells := 1, slots := 6, locals := 150 }
theorem dL_position_0 : decode cL_position 0 = .ok (.aload_n 1, 1) := by decide +kernel
theorem dL_position_1 : decode cL_position 1 = .ok (.iconst 0, 1) := by decide +kernel
theorem dL_position_2 : decode cL_position 2 = .ok (.aload_n 0, 1) := by decide +kernel
theorem dL_position_3 : decode cL_position 3 = .ok (.invokevirtual 49, 3) := by decide +kernel
theorem dL_position_6 : decode cL_position 6 = .ok (.i2l, 1) := by decide +kernel
theorem dL_position_7 : decode cL_position 7 = .ok (.lastore, 1) := by decide +kernel
theorem dL_position_8 : decode cL_position 8 = .ok (.goto 6, 3) := by decide +kernel
theorem dL_position_11 : decode cL_position 11 = .ok (.astore_n 2, 1) := by decide +kernel
theorem dL_position_12 : decode cL_position 12 = .ok (.iconst 1, 1) := by decide +kernel
theorem dL_position_13 : decode cL_position 13 = .ok (.ireturn, 1) := by decide +kernel
theorem dL_position_14 : decode cL_position 14 = .ok (.iconst 0, 1) := by decide +kernel
theorem dL_position_15 : decode cL_position 15 = .ok (.ireturn, 1) := by decide +kernel
theorem cw_L_49 {R : Room} {s : State} {args : Array Value} (hts : ∀ w ∈ TB, w.before args s = true) (hR : rm_X9_position.frames + 1 ≤ R.frames ∧ 8 + (1 + 11) + rm_X9_position.locals ≤ R.locals) : CallW R s args RL RX9 49 yX9_position cX9_position 1 (some .int) (Cond.code yX9_position cX9_position 1 (some .int) :: TB) rm_X9_position 1 6 0 := cwV 0 hts (gV tb771 tb772 tb773 tb47 tb774) rfl rfl rfl ⟨rfl, by decide, by decide, by decide +kernel⟩ hR
def f_L_position (v1_state v1_position : Int32) (r2 : Nat → Int64) : Option (Int32 × (Nat → Int64)) :=
  bnd2 (f_X9_position v1_state v1_position) fun (k1 : Nat) (y2 : Int32) =>
  if k1 = 0 then
    bnd (vp_updL r2 0 y2.toInt64) fun (u5 : Nat → Int64) =>
    some (0, u5)
  else
    if k1 = 3 then
      some (1, r2)
    else
      none
set_option maxHeartbeats 4000000 in
set_option maxRecDepth 100000 in
theorem c_L_position (l : Launch) (hfl : l.stackTraces = false) (ga : Nat → Nat) (D : va_G) (cI cJ cC : ClassId) (h0 h1 h2 kp0_stream kp0_scratch kp0_session_video kp0_session_audio kp0_session_samples kp0_session_download kp0_session_accounts kp0_session_line : Nat) (v1_mode v1_startThreshold v1_lastRung v1_lastChange v1_state v1_time v1_position : Int32) (r2 : Nat → Int64) (sz : Nat)  (T : Int32 × (Nat → Int64)) (h : f_L_position v1_state v1_position r2 = some T) : Met l yL_position (Cond.codeWith yL_position cL_position 3 (some .int) [(0, 8, 11, 17)] :: TB) rm_L_position (PreX ga D cI cJ cC [(h0, .inr (9, [.ref kp0_stream, .ref h1, .ref kp0_scratch])), (h1, .inr (6, [.ref kp0_stream, .ref kp0_session_video, .ref kp0_session_audio, .ref kp0_session_samples, .ref kp0_session_download, .ref kp0_session_accounts, .ref kp0_session_line, .int v1_mode, .int v1_startThreshold, .int v1_lastRung, .int v1_lastChange, .int v1_state, .int v1_time, .int v1_position])), (h2, .inl (cJ, 1, .inr (.inl r2)))] sz [.ref h0, .ref h2]) (QW (some (.int T.1)) D [(h0, .inr (9, [.ref kp0_stream, .ref h1, .ref kp0_scratch])), (h1, .inr (6, [.ref kp0_stream, .ref kp0_session_video, .ref kp0_session_audio, .ref kp0_session_samples, .ref kp0_session_download, .ref kp0_session_accounts, .ref kp0_session_line, .int v1_mode, .int v1_startThreshold, .int v1_lastRung, .int v1_lastChange, .int v1_state, .int v1_time, .int v1_position])), (h2, .inl (cJ, 1, .inr (.inl T.2)))] (va_A [(h0, .inr (9, [.ref kp0_stream, .ref h1, .ref kp0_scratch])), (h1, .inr (6, [.ref kp0_stream, .ref kp0_session_video, .ref kp0_session_audio, .ref kp0_session_samples, .ref kp0_session_download, .ref kp0_session_accounts, .ref kp0_session_line, .int v1_mode, .int v1_startThreshold, .int v1_lastRung, .int v1_lastChange, .int v1_state, .int v1_time, .int v1_position])), (h2, .inl (cJ, 1, .inr (.inl r2)))] sz)) 1 6 (va_A [(h0, .inr (9, [.ref kp0_stream, .ref h1, .ref kp0_scratch])), (h1, .inr (6, [.ref kp0_stream, .ref kp0_session_video, .ref kp0_session_audio, .ref kp0_session_samples, .ref kp0_session_download, .ref kp0_session_accounts, .ref kp0_session_line, .int v1_mode, .int v1_startThreshold, .int v1_lastRung, .int v1_lastChange, .int v1_state, .int v1_time, .int v1_position])), (h2, .inl (cJ, 1, .inr (.inl r2)))] sz) := by
  refine metL (own := RL) (by decide) rfl (Nat.le_of_ble_eq_true rfl) ?_
  intro p e s m below meth c S hr hlk htab hP hK A hAe hD hA hS hG ls hl
  clear hAe
  have hx := S.1
  have hb := S.2.1
  have hl : lv_has ls 3 [(0, .ref h0), (1, .ref h2)] := hl
  refine lv_aload_n hx hb dL_position_0 rfl (lv_at hl 1 rfl) ?_
  refine lv_iconst (v := 0) hx hb dL_position_1 li_0 ?_
  refine lv_aload_n hx hb dL_position_2 rfl (lv_at hl 0 rfl) ?_
  obtain ⟨k1, y2, e_k1⟩ : ∃ a0 a1, f_X9_position v1_state v1_position = (a0, a1) := ⟨_, _, rfl⟩
  have h := bnd2_eq e_k1 h
  refine xcV (pc1 := 6) (rest := [.int 0, .ref h2]) (st1 := [.int y2, .int 0, .ref h2]) (wr := [(h2, .inl (cJ, 1, .inr (.inl r2)))]) (cells1 := 1) (slots1 := 6) S (c_X9_position l hfl ga D cI cJ cC h0 h1 kp0_stream kp0_scratch kp0_session_video kp0_session_audio kp0_session_samples kp0_session_download kp0_session_accounts kp0_session_line v1_mode v1_startThreshold v1_lastRung v1_lastChange v1_state v1_time v1_position s.heap.size  (k1, y2) e_k1) (cw_L_49 S.2.2.2.2 ⟨Nat.le_of_ble_eq_true rfl, Nat.le_of_ble_eq_true rfl⟩) hK hP hD hS hA hG [0, 1] [2] rfl rfl rfl (by decide) (by decide) (by decide) rfl rfl rfl rfl hl.1 rfl (Nat.le_of_ble_eq_true rfl) ⟨Nat.le_of_ble_eq_true rfl, Nat.le_of_ble_eq_true rfl⟩ rfl rfl rfl rfl dL_position_3 (fun c3 H locs ce q9 hP hD hS hce hcv hcl => ?_) (fun c3 H locs hP hD hS => ?_)
  · have h := iteN c3 h
    have hP : va_P D vwCl [(h2, .inl (cJ, 1, .inr (.inl r2))), (h0, .inr (9, [.ref kp0_stream, .ref h1, .ref kp0_scratch])), (h1, .inr (6, [.ref kp0_stream, .ref kp0_session_video, .ref kp0_session_audio, .ref kp0_session_samples, .ref kp0_session_download, .ref kp0_session_accounts, .ref kp0_session_line, .int v1_mode, .int v1_startThreshold, .int v1_lastRung, .int v1_lastChange, .int v1_state, .int v1_time, .int v1_position]))] H := hP
    have hD : va_D A [(h2, .inl (cJ, 1, .inr (.inl r2))), (h0, .inr (9, [.ref kp0_stream, .ref h1, .ref kp0_scratch])), (h1, .inr (6, [.ref kp0_stream, .ref kp0_session_video, .ref kp0_session_audio, .ref kp0_session_samples, .ref kp0_session_download, .ref kp0_session_accounts, .ref kp0_session_line, .int v1_mode, .int v1_startThreshold, .int v1_lastRung, .int v1_lastChange, .int v1_state, .int v1_time, .int v1_position]))] := hD
    by_cases c4 : k1 = 3
    · have h := iteP c4 h
      subst c4
      refine vx_catch (name := "java/lang/IllegalStateException") (E := xE 3) (own := RL) S.2.2.2.1 [] ⟨0, 8, 11, 17⟩ [] htab (fun z hz => by cases hz) (by decide) (by decide) (S.2.2.2.2 _ tb389) (va_Nw.use rfl (hG.1 _ nb_16)) hce hcv hcl ?_
      refine W.eq (g2 := F0 m 11 ls [.ref q9]) rfl ?_
      refine lv_astore_n (lv' := [(2, .ref q9), (0, .ref h0), (1, .ref h2)]) hx hb dL_position_11 rfl hl (by decide) rfl (fun ls hl => ?_)
      refine lv_iconst (v := 1) hx hb dL_position_12 li_1 ?_
      have h := Option.some.inj h
      subst h
      exact lRi S hr hlk (Nat.le_of_ble_eq_true rfl) (Nat.le_of_ble_eq_true rfl) (hP.sub [1, 2, 0] rfl) (hD.sub [1, 2, 0] (by decide) rfl) hS dL_position_13
    · have h := iteN c4 h
      cases h
  · have h := iteP c3 h
    have hP : va_P D vwCl [(h2, .inl (cJ, 1, .inr (.inl r2))), (h0, .inr (9, [.ref kp0_stream, .ref h1, .ref kp0_scratch])), (h1, .inr (6, [.ref kp0_stream, .ref kp0_session_video, .ref kp0_session_audio, .ref kp0_session_samples, .ref kp0_session_download, .ref kp0_session_accounts, .ref kp0_session_line, .int v1_mode, .int v1_startThreshold, .int v1_lastRung, .int v1_lastChange, .int v1_state, .int v1_time, .int v1_position]))] H := hP
    have hD : va_D A [(h2, .inl (cJ, 1, .inr (.inl r2))), (h0, .inr (9, [.ref kp0_stream, .ref h1, .ref kp0_scratch])), (h1, .inr (6, [.ref kp0_stream, .ref kp0_session_video, .ref kp0_session_audio, .ref kp0_session_samples, .ref kp0_session_download, .ref kp0_session_accounts, .ref kp0_session_line, .int v1_mode, .int v1_startThreshold, .int v1_lastRung, .int v1_lastChange, .int v1_state, .int v1_time, .int v1_position]))] := hD
    refine lv_i2l hx hb dL_position_6 rfl ?_
    refine astJ (k := 0) (q0 := 0) S hK hP hD hS rfl vl_0_1 tn_0 dL_position_7 (fun H locs hP hD hS => ?_)
    have hP : va_P D vwCl [(h2, .inl (cJ, 1, .inr (.inl (vp_updL r2 0 y2.toInt64)))), (h0, .inr (9, [.ref kp0_stream, .ref h1, .ref kp0_scratch])), (h1, .inr (6, [.ref kp0_stream, .ref kp0_session_video, .ref kp0_session_audio, .ref kp0_session_samples, .ref kp0_session_download, .ref kp0_session_accounts, .ref kp0_session_line, .int v1_mode, .int v1_startThreshold, .int v1_lastRung, .int v1_lastChange, .int v1_state, .int v1_time, .int v1_position]))] H := hP
    have hD : va_D A [(h2, .inl (cJ, 1, .inr (.inl (vp_updL r2 0 y2.toInt64)))), (h0, .inr (9, [.ref kp0_stream, .ref h1, .ref kp0_scratch])), (h1, .inr (6, [.ref kp0_stream, .ref kp0_session_video, .ref kp0_session_audio, .ref kp0_session_samples, .ref kp0_session_download, .ref kp0_session_accounts, .ref kp0_session_line, .int v1_mode, .int v1_startThreshold, .int v1_lastRung, .int v1_lastChange, .int v1_state, .int v1_time, .int v1_position]))] := hD
    obtain ⟨u5, e_u5⟩ : ∃ z, z = vp_updL r2 0 y2.toInt64 := ⟨_, rfl⟩
    rw [← e_u5] at hP hD
    have h := bnd_eq e_u5.symm h
    refine lv_goto (tgt := 14) hx hb dL_position_8 (by decide) ?_
    refine lv_iconst (v := 0) hx hb dL_position_14 li_0 ?_
    have h := Option.some.inj h
    subst h
    exact lRi S hr hlk (Nat.le_of_ble_eq_true rfl) (Nat.le_of_ble_eq_true rfl) (hP.sub [1, 2, 0] rfl) (hD.sub [1, 2, 0] (by decide) rfl) hS dL_position_15
abbrev rm_L_buffer : Room := { frames := 9, cells := 2, slots := 12, locals := 152 }
theorem dL_buffer_0 : decode cL_buffer 0 = .ok (.aload_n 2, 1) := by decide +kernel
theorem dL_buffer_1 : decode cL_buffer 1 = .ok (.iconst 0, 1) := by decide +kernel
theorem dL_buffer_2 : decode cL_buffer 2 = .ok (.aload_n 0, 1) := by decide +kernel
theorem dL_buffer_3 : decode cL_buffer 3 = .ok (.iload_n 1, 1) := by decide +kernel
theorem dL_buffer_4 : decode cL_buffer 4 = .ok (.invokevirtual 52, 3) := by decide +kernel
theorem dL_buffer_7 : decode cL_buffer 7 = .ok (.i2l, 1) := by decide +kernel
theorem dL_buffer_8 : decode cL_buffer 8 = .ok (.lastore, 1) := by decide +kernel
theorem dL_buffer_9 : decode cL_buffer 9 = .ok (.goto 9, 3) := by decide +kernel
theorem dL_buffer_12 : decode cL_buffer 12 = .ok (.astore_n 3, 1) := by decide +kernel
theorem dL_buffer_13 : decode cL_buffer 13 = .ok (.iconst 1, 1) := by decide +kernel
theorem dL_buffer_14 : decode cL_buffer 14 = .ok (.ireturn, 1) := by decide +kernel
theorem dL_buffer_15 : decode cL_buffer 15 = .ok (.astore_n 3, 1) := by decide +kernel
theorem dL_buffer_16 : decode cL_buffer 16 = .ok (.iconst 2, 1) := by decide +kernel
theorem dL_buffer_17 : decode cL_buffer 17 = .ok (.ireturn, 1) := by decide +kernel
theorem dL_buffer_18 : decode cL_buffer 18 = .ok (.iconst 0, 1) := by decide +kernel
theorem dL_buffer_19 : decode cL_buffer 19 = .ok (.ireturn, 1) := by decide +kernel
theorem cw_L_52 {R : Room} {s : State} {args : Array Value} (hts : ∀ w ∈ TB, w.before args s = true) (hR : rm_X9_buffer.frames + 1 ≤ R.frames ∧ 8 + (2 + 11) + rm_X9_buffer.locals ≤ R.locals) : CallW R s args RL RX9 52 yX9_buffer cX9_buffer 2 (some .int) (Cond.code yX9_buffer cX9_buffer 2 (some .int) :: TB) rm_X9_buffer 2 12 1 := cwV 1 hts (gV tb778 tb779 tb780 tb47 tb781) rfl rfl rfl ⟨rfl, by decide, by decide, by decide +kernel⟩ hR
def f_L_buffer (v1_state v1_position v2_segments v3_segments v5_rungs : Int32) (r6 : Nat → Int32) (v7_rungs : Int32) (r8 : Nat → Int64) (p1 : Int32) : Option (Int32 × (Nat → Int64)) :=
  bnd2 (f_X9_buffer v1_state v1_position v2_segments v3_segments v5_rungs r6 v7_rungs p1) fun (k1 : Nat) (y2 : Int32) =>
  if k1 = 0 then
    bnd (vp_updL r8 0 y2.toInt64) fun (u6 : Nat → Int64) =>
    some (0, u6)
  else
    if k1 = 1 then
      some (1, r8)
    else
      if k1 = 3 then
        some (2, r8)
      else
        none
set_option maxHeartbeats 4000000 in
set_option maxRecDepth 100000 in
theorem c_L_buffer (l : Launch) (hfl : l.stackTraces = false) (ga : Nat → Nat) (D : va_G) (cI cJ cC : ClassId) (h0 h1 h2 h3 h4 h5 h6 h7 h8 kp0_scratch kp0_session_samples kp0_session_download kp0_session_accounts kp0_session_line kp0_session_audio_rungs kp0_session_video_rungs kp0_stream_plan kp0_stream_audio_rates kp0_stream_video_rates : Nat) (v1_mode v1_startThreshold v1_lastRung v1_lastChange v1_state v1_time v1_position v2_segments v3_segments v5_most v5_rungs : Int32) (r6 : Nat → Int32) (v7_most v7_rungs : Int32) (r8 : Nat → Int64) (sz : Nat) (p1 : Int32) (T : Int32 × (Nat → Int64)) (h : f_L_buffer v1_state v1_position v2_segments v3_segments v5_rungs r6 v7_rungs r8 p1 = some T) : Met l yL_buffer (Cond.codeWith yL_buffer cL_buffer 4 (some .int) [(0, 9, 12, 13), (0, 9, 15, 17)] :: TB) rm_L_buffer (PreX ga D cI cJ cC [(h0, .inr (9, [.ref h4, .ref h1, .ref kp0_scratch])), (h1, .inr (6, [.ref h4, .ref h3, .ref h2, .ref kp0_session_samples, .ref kp0_session_download, .ref kp0_session_accounts, .ref kp0_session_line, .int v1_mode, .int v1_startThreshold, .int v1_lastRung, .int v1_lastChange, .int v1_state, .int v1_time, .int v1_position])), (h2, .inr (7, [.ref kp0_session_audio_rungs, .int v2_segments])), (h3, .inr (7, [.ref kp0_session_video_rungs, .int v3_segments])), (h4, .inr (8, [.ref h6, .ref h7, .ref h5, .ref kp0_stream_plan])), (h5, .inr (2, [.ref kp0_stream_audio_rates, .int v5_most, .int v5_rungs])), (h6, .inl (cI, 15, .inl r6)), (h7, .inr (2, [.ref kp0_stream_video_rates, .int v7_most, .int v7_rungs])), (h8, .inl (cJ, 1, .inr (.inl r8)))] sz [.ref h0, .int p1, .ref h8]) (QW (some (.int T.1)) D [(h0, .inr (9, [.ref h4, .ref h1, .ref kp0_scratch])), (h1, .inr (6, [.ref h4, .ref h3, .ref h2, .ref kp0_session_samples, .ref kp0_session_download, .ref kp0_session_accounts, .ref kp0_session_line, .int v1_mode, .int v1_startThreshold, .int v1_lastRung, .int v1_lastChange, .int v1_state, .int v1_time, .int v1_position])), (h2, .inr (7, [.ref kp0_session_audio_rungs, .int v2_segments])), (h3, .inr (7, [.ref kp0_session_video_rungs, .int v3_segments])), (h4, .inr (8, [.ref h6, .ref h7, .ref h5, .ref kp0_stream_plan])), (h5, .inr (2, [.ref kp0_stream_audio_rates, .int v5_most, .int v5_rungs])), (h6, .inl (cI, 15, .inl r6)), (h7, .inr (2, [.ref kp0_stream_video_rates, .int v7_most, .int v7_rungs])), (h8, .inl (cJ, 1, .inr (.inl T.2)))] (va_A [(h0, .inr (9, [.ref h4, .ref h1, .ref kp0_scratch])), (h1, .inr (6, [.ref h4, .ref h3, .ref h2, .ref kp0_session_samples, .ref kp0_session_download, .ref kp0_session_accounts, .ref kp0_session_line, .int v1_mode, .int v1_startThreshold, .int v1_lastRung, .int v1_lastChange, .int v1_state, .int v1_time, .int v1_position])), (h2, .inr (7, [.ref kp0_session_audio_rungs, .int v2_segments])), (h3, .inr (7, [.ref kp0_session_video_rungs, .int v3_segments])), (h4, .inr (8, [.ref h6, .ref h7, .ref h5, .ref kp0_stream_plan])), (h5, .inr (2, [.ref kp0_stream_audio_rates, .int v5_most, .int v5_rungs])), (h6, .inl (cI, 15, .inl r6)), (h7, .inr (2, [.ref kp0_stream_video_rates, .int v7_most, .int v7_rungs])), (h8, .inl (cJ, 1, .inr (.inl r8)))] sz)) 2 12 (va_A [(h0, .inr (9, [.ref h4, .ref h1, .ref kp0_scratch])), (h1, .inr (6, [.ref h4, .ref h3, .ref h2, .ref kp0_session_samples, .ref kp0_session_download, .ref kp0_session_accounts, .ref kp0_session_line, .int v1_mode, .int v1_startThreshold, .int v1_lastRung, .int v1_lastChange, .int v1_state, .int v1_time, .int v1_position])), (h2, .inr (7, [.ref kp0_session_audio_rungs, .int v2_segments])), (h3, .inr (7, [.ref kp0_session_video_rungs, .int v3_segments])), (h4, .inr (8, [.ref h6, .ref h7, .ref h5, .ref kp0_stream_plan])), (h5, .inr (2, [.ref kp0_stream_audio_rates, .int v5_most, .int v5_rungs])), (h6, .inl (cI, 15, .inl r6)), (h7, .inr (2, [.ref kp0_stream_video_rates, .int v7_most, .int v7_rungs])), (h8, .inl (cJ, 1, .inr (.inl r8)))] sz) := by
  refine metL (own := RL) (by decide) rfl (Nat.le_of_ble_eq_true rfl) ?_
  intro p e s m below meth c S hr hlk htab hP hK A hAe hD hA hS hG ls hl
  clear hAe
  have hx := S.1
  have hb := S.2.1
  have hl : lv_has ls 4 [(0, .ref h0), (1, .int p1), (2, .ref h8)] := hl
  refine lv_aload_n hx hb dL_buffer_0 rfl (lv_at hl 2 rfl) ?_
  refine lv_iconst (v := 0) hx hb dL_buffer_1 li_0 ?_
  refine lv_aload_n hx hb dL_buffer_2 rfl (lv_at hl 0 rfl) ?_
  refine lv_iload_n hx hb dL_buffer_3 rfl (lv_at hl 1 rfl) ?_
  obtain ⟨k1, y2, e_k1⟩ : ∃ a0 a1, f_X9_buffer v1_state v1_position v2_segments v3_segments v5_rungs r6 v7_rungs p1 = (a0, a1) := ⟨_, _, rfl⟩
  have h := bnd2_eq e_k1 h
  refine xcV (pc1 := 7) (rest := [.int 0, .ref h8]) (st1 := [.int y2, .int 0, .ref h8]) (wr := [(h8, .inl (cJ, 1, .inr (.inl r8)))]) (cells1 := 2) (slots1 := 12) S (c_X9_buffer l hfl ga D cI cJ cC h0 h1 h2 h3 h4 h5 h6 h7 kp0_scratch kp0_session_samples kp0_session_download kp0_session_accounts kp0_session_line kp0_session_audio_rungs kp0_session_video_rungs kp0_stream_plan kp0_stream_audio_rates kp0_stream_video_rates v1_mode v1_startThreshold v1_lastRung v1_lastChange v1_state v1_time v1_position v2_segments v3_segments v5_most v5_rungs r6 v7_most v7_rungs s.heap.size p1 (k1, y2) e_k1) (cw_L_52 S.2.2.2.2 ⟨Nat.le_of_ble_eq_true rfl, Nat.le_of_ble_eq_true rfl⟩) hK hP hD hS hA hG [0, 1, 2, 3, 4, 5, 6, 7] [8] rfl rfl rfl (by decide) (by decide) (by decide) rfl rfl rfl rfl hl.1 rfl (Nat.le_of_ble_eq_true rfl) ⟨Nat.le_of_ble_eq_true rfl, Nat.le_of_ble_eq_true rfl⟩ rfl rfl rfl rfl dL_buffer_4 (fun c3 H locs ce q9 hP hD hS hce hcv hcl => ?_) (fun c3 H locs hP hD hS => ?_)
  · have h := iteN c3 h
    have hP : va_P D vwCl [(h8, .inl (cJ, 1, .inr (.inl r8))), (h0, .inr (9, [.ref h4, .ref h1, .ref kp0_scratch])), (h1, .inr (6, [.ref h4, .ref h3, .ref h2, .ref kp0_session_samples, .ref kp0_session_download, .ref kp0_session_accounts, .ref kp0_session_line, .int v1_mode, .int v1_startThreshold, .int v1_lastRung, .int v1_lastChange, .int v1_state, .int v1_time, .int v1_position])), (h2, .inr (7, [.ref kp0_session_audio_rungs, .int v2_segments])), (h3, .inr (7, [.ref kp0_session_video_rungs, .int v3_segments])), (h4, .inr (8, [.ref h6, .ref h7, .ref h5, .ref kp0_stream_plan])), (h5, .inr (2, [.ref kp0_stream_audio_rates, .int v5_most, .int v5_rungs])), (h6, .inl (cI, 15, .inl r6)), (h7, .inr (2, [.ref kp0_stream_video_rates, .int v7_most, .int v7_rungs]))] H := hP
    have hD : va_D A [(h8, .inl (cJ, 1, .inr (.inl r8))), (h0, .inr (9, [.ref h4, .ref h1, .ref kp0_scratch])), (h1, .inr (6, [.ref h4, .ref h3, .ref h2, .ref kp0_session_samples, .ref kp0_session_download, .ref kp0_session_accounts, .ref kp0_session_line, .int v1_mode, .int v1_startThreshold, .int v1_lastRung, .int v1_lastChange, .int v1_state, .int v1_time, .int v1_position])), (h2, .inr (7, [.ref kp0_session_audio_rungs, .int v2_segments])), (h3, .inr (7, [.ref kp0_session_video_rungs, .int v3_segments])), (h4, .inr (8, [.ref h6, .ref h7, .ref h5, .ref kp0_stream_plan])), (h5, .inr (2, [.ref kp0_stream_audio_rates, .int v5_most, .int v5_rungs])), (h6, .inl (cI, 15, .inl r6)), (h7, .inr (2, [.ref kp0_stream_video_rates, .int v7_most, .int v7_rungs]))] := hD
    by_cases c4 : k1 = 1
    · have h := iteP c4 h
      subst c4
      refine vx_catch (name := "java/lang/IndexOutOfBoundsException") (E := xE 1) (own := RL) S.2.2.2.1 [] ⟨0, 9, 12, 13⟩ [⟨0, 9, 15, 17⟩] htab (fun z hz => by cases hz) (by decide) (by decide) (S.2.2.2.2 _ tb387) (va_Nw.use rfl (hG.1 _ nb_9)) hce hcv hcl ?_
      refine W.eq (g2 := F0 m 12 ls [.ref q9]) rfl ?_
      refine lv_astore_n (lv' := [(3, .ref q9), (0, .ref h0), (1, .int p1), (2, .ref h8)]) hx hb dL_buffer_12 rfl hl (by decide) rfl (fun ls hl => ?_)
      refine lv_iconst (v := 1) hx hb dL_buffer_13 li_1 ?_
      have h := Option.some.inj h
      subst h
      exact lRi S hr hlk (Nat.le_of_ble_eq_true rfl) (Nat.le_of_ble_eq_true rfl) (hP.sub [1, 2, 3, 4, 5, 6, 7, 8, 0] rfl) (hD.sub [1, 2, 3, 4, 5, 6, 7, 8, 0] (by decide) rfl) hS dL_buffer_14
    · have h := iteN c4 h
      by_cases c5 : k1 = 3
      · have h := iteP c5 h
        subst c5
        refine vx_catch (name := "java/lang/IllegalStateException") (E := xE 3) (own := RL) S.2.2.2.1 [⟨0, 9, 12, 13⟩] ⟨0, 9, 15, 17⟩ [] htab (fun z hz => by
          simp only [List.mem_cons, List.not_mem_nil, or_false] at hz
          rcases hz with rfl
          · exact Or.inr ⟨by decide, "java/lang/IndexOutOfBoundsException", S.2.2.2.2 _ tb387, hG.2.2.2.2.2.1 ("java/lang/IllegalStateException", "java/lang/IndexOutOfBoundsException") (by decide)⟩) (by decide) (by decide) (S.2.2.2.2 _ tb389) (va_Nw.use rfl (hG.1 _ nb_16)) hce hcv hcl ?_
        refine W.eq (g2 := F0 m 15 ls [.ref q9]) rfl ?_
        refine lv_astore_n (lv' := [(3, .ref q9), (0, .ref h0), (1, .int p1), (2, .ref h8)]) hx hb dL_buffer_15 rfl hl (by decide) rfl (fun ls hl => ?_)
        refine lv_iconst (v := 2) hx hb dL_buffer_16 li_2 ?_
        have h := Option.some.inj h
        subst h
        exact lRi S hr hlk (Nat.le_of_ble_eq_true rfl) (Nat.le_of_ble_eq_true rfl) (hP.sub [1, 2, 3, 4, 5, 6, 7, 8, 0] rfl) (hD.sub [1, 2, 3, 4, 5, 6, 7, 8, 0] (by decide) rfl) hS dL_buffer_17
      · have h := iteN c5 h
        cases h
  · have h := iteP c3 h
    have hP : va_P D vwCl [(h8, .inl (cJ, 1, .inr (.inl r8))), (h0, .inr (9, [.ref h4, .ref h1, .ref kp0_scratch])), (h1, .inr (6, [.ref h4, .ref h3, .ref h2, .ref kp0_session_samples, .ref kp0_session_download, .ref kp0_session_accounts, .ref kp0_session_line, .int v1_mode, .int v1_startThreshold, .int v1_lastRung, .int v1_lastChange, .int v1_state, .int v1_time, .int v1_position])), (h2, .inr (7, [.ref kp0_session_audio_rungs, .int v2_segments])), (h3, .inr (7, [.ref kp0_session_video_rungs, .int v3_segments])), (h4, .inr (8, [.ref h6, .ref h7, .ref h5, .ref kp0_stream_plan])), (h5, .inr (2, [.ref kp0_stream_audio_rates, .int v5_most, .int v5_rungs])), (h6, .inl (cI, 15, .inl r6)), (h7, .inr (2, [.ref kp0_stream_video_rates, .int v7_most, .int v7_rungs]))] H := hP
    have hD : va_D A [(h8, .inl (cJ, 1, .inr (.inl r8))), (h0, .inr (9, [.ref h4, .ref h1, .ref kp0_scratch])), (h1, .inr (6, [.ref h4, .ref h3, .ref h2, .ref kp0_session_samples, .ref kp0_session_download, .ref kp0_session_accounts, .ref kp0_session_line, .int v1_mode, .int v1_startThreshold, .int v1_lastRung, .int v1_lastChange, .int v1_state, .int v1_time, .int v1_position])), (h2, .inr (7, [.ref kp0_session_audio_rungs, .int v2_segments])), (h3, .inr (7, [.ref kp0_session_video_rungs, .int v3_segments])), (h4, .inr (8, [.ref h6, .ref h7, .ref h5, .ref kp0_stream_plan])), (h5, .inr (2, [.ref kp0_stream_audio_rates, .int v5_most, .int v5_rungs])), (h6, .inl (cI, 15, .inl r6)), (h7, .inr (2, [.ref kp0_stream_video_rates, .int v7_most, .int v7_rungs]))] := hD
    refine lv_i2l hx hb dL_buffer_7 rfl ?_
    refine astJ (k := 0) (q0 := 0) S hK hP hD hS rfl vl_0_1 tn_0 dL_buffer_8 (fun H locs hP hD hS => ?_)
    have hP : va_P D vwCl [(h8, .inl (cJ, 1, .inr (.inl (vp_updL r8 0 y2.toInt64)))), (h0, .inr (9, [.ref h4, .ref h1, .ref kp0_scratch])), (h1, .inr (6, [.ref h4, .ref h3, .ref h2, .ref kp0_session_samples, .ref kp0_session_download, .ref kp0_session_accounts, .ref kp0_session_line, .int v1_mode, .int v1_startThreshold, .int v1_lastRung, .int v1_lastChange, .int v1_state, .int v1_time, .int v1_position])), (h2, .inr (7, [.ref kp0_session_audio_rungs, .int v2_segments])), (h3, .inr (7, [.ref kp0_session_video_rungs, .int v3_segments])), (h4, .inr (8, [.ref h6, .ref h7, .ref h5, .ref kp0_stream_plan])), (h5, .inr (2, [.ref kp0_stream_audio_rates, .int v5_most, .int v5_rungs])), (h6, .inl (cI, 15, .inl r6)), (h7, .inr (2, [.ref kp0_stream_video_rates, .int v7_most, .int v7_rungs]))] H := hP
    have hD : va_D A [(h8, .inl (cJ, 1, .inr (.inl (vp_updL r8 0 y2.toInt64)))), (h0, .inr (9, [.ref h4, .ref h1, .ref kp0_scratch])), (h1, .inr (6, [.ref h4, .ref h3, .ref h2, .ref kp0_session_samples, .ref kp0_session_download, .ref kp0_session_accounts, .ref kp0_session_line, .int v1_mode, .int v1_startThreshold, .int v1_lastRung, .int v1_lastChange, .int v1_state, .int v1_time, .int v1_position])), (h2, .inr (7, [.ref kp0_session_audio_rungs, .int v2_segments])), (h3, .inr (7, [.ref kp0_session_video_rungs, .int v3_segments])), (h4, .inr (8, [.ref h6, .ref h7, .ref h5, .ref kp0_stream_plan])), (h5, .inr (2, [.ref kp0_stream_audio_rates, .int v5_most, .int v5_rungs])), (h6, .inl (cI, 15, .inl r6)), (h7, .inr (2, [.ref kp0_stream_video_rates, .int v7_most, .int v7_rungs]))] := hD
    obtain ⟨u6, e_u6⟩ : ∃ z, z = vp_updL r8 0 y2.toInt64 := ⟨_, rfl⟩
    rw [← e_u6] at hP hD
    have h := bnd_eq e_u6.symm h
    refine lv_goto (tgt := 18) hx hb dL_buffer_9 (by decide) ?_
    refine lv_iconst (v := 0) hx hb dL_buffer_18 li_0 ?_
    have h := Option.some.inj h
    subst h
    exact lRi S hr hlk (Nat.le_of_ble_eq_true rfl) (Nat.le_of_ble_eq_true rfl) (hP.sub [1, 2, 3, 4, 5, 6, 7, 8, 0] rfl) (hD.sub [1, 2, 3, 4, 5, 6, 7, 8, 0] (by decide) rfl) hS dL_buffer_19
abbrev rm_L_downloaded : Room := { frames := 9, cells := 2, slots := 12, locals := 152 }
theorem dL_downloaded_0 : decode cL_downloaded 0 = .ok (.aload_n 2, 1) := by decide +kernel
theorem dL_downloaded_1 : decode cL_downloaded 1 = .ok (.iconst 0, 1) := by decide +kernel
theorem dL_downloaded_2 : decode cL_downloaded 2 = .ok (.aload_n 0, 1) := by decide +kernel
theorem dL_downloaded_3 : decode cL_downloaded 3 = .ok (.iload_n 1, 1) := by decide +kernel
theorem dL_downloaded_4 : decode cL_downloaded 4 = .ok (.invokevirtual 55, 3) := by decide +kernel
theorem dL_downloaded_7 : decode cL_downloaded 7 = .ok (.i2l, 1) := by decide +kernel
theorem dL_downloaded_8 : decode cL_downloaded 8 = .ok (.lastore, 1) := by decide +kernel
theorem dL_downloaded_9 : decode cL_downloaded 9 = .ok (.goto 9, 3) := by decide +kernel
theorem dL_downloaded_12 : decode cL_downloaded 12 = .ok (.astore_n 3, 1) := by decide +kernel
theorem dL_downloaded_13 : decode cL_downloaded 13 = .ok (.iconst 1, 1) := by decide +kernel
theorem dL_downloaded_14 : decode cL_downloaded 14 = .ok (.ireturn, 1) := by decide +kernel
theorem dL_downloaded_15 : decode cL_downloaded 15 = .ok (.astore_n 3, 1) := by decide +kernel
theorem dL_downloaded_16 : decode cL_downloaded 16 = .ok (.iconst 2, 1) := by decide +kernel
theorem dL_downloaded_17 : decode cL_downloaded 17 = .ok (.ireturn, 1) := by decide +kernel
theorem dL_downloaded_18 : decode cL_downloaded 18 = .ok (.iconst 0, 1) := by decide +kernel
theorem dL_downloaded_19 : decode cL_downloaded 19 = .ok (.ireturn, 1) := by decide +kernel
theorem cw_L_55 {R : Room} {s : State} {args : Array Value} (hts : ∀ w ∈ TB, w.before args s = true) (hR : rm_X9_downloaded.frames + 1 ≤ R.frames ∧ 8 + (2 + 11) + rm_X9_downloaded.locals ≤ R.locals) : CallW R s args RL RX9 55 yX9_downloaded cX9_downloaded 2 (some .int) (Cond.code yX9_downloaded cX9_downloaded 2 (some .int) :: TB) rm_X9_downloaded 2 12 1 := cwV 1 hts (gV tb785 tb786 tb787 tb47 tb788) rfl rfl rfl ⟨rfl, by decide, by decide, by decide +kernel⟩ hR
def f_L_downloaded (v1_state v2_segments v3_segments : Int32) (r4 : Nat → Int64) (p1 : Int32) : Option (Int32 × (Nat → Int64)) :=
  bnd2 (f_X9_downloaded v1_state v2_segments v3_segments p1) fun (k1 : Nat) (y2 : Int32) =>
  if k1 = 0 then
    bnd (vp_updL r4 0 y2.toInt64) fun (u6 : Nat → Int64) =>
    some (0, u6)
  else
    if k1 = 1 then
      some (1, r4)
    else
      if k1 = 3 then
        some (2, r4)
      else
        none
set_option maxHeartbeats 4000000 in
set_option maxRecDepth 100000 in
theorem c_L_downloaded (l : Launch) (hfl : l.stackTraces = false) (ga : Nat → Nat) (D : va_G) (cI cJ cC : ClassId) (h0 h1 h2 h3 h4 kp0_stream kp0_scratch kp0_session_samples kp0_session_download kp0_session_accounts kp0_session_line kp0_session_audio_rungs kp0_session_video_rungs : Nat) (v1_mode v1_startThreshold v1_lastRung v1_lastChange v1_state v1_time v1_position v2_segments v3_segments : Int32) (r4 : Nat → Int64) (sz : Nat) (p1 : Int32) (T : Int32 × (Nat → Int64)) (h : f_L_downloaded v1_state v2_segments v3_segments r4 p1 = some T) : Met l yL_downloaded (Cond.codeWith yL_downloaded cL_downloaded 4 (some .int) [(0, 9, 12, 13), (0, 9, 15, 17)] :: TB) rm_L_downloaded (PreX ga D cI cJ cC [(h0, .inr (9, [.ref kp0_stream, .ref h1, .ref kp0_scratch])), (h1, .inr (6, [.ref kp0_stream, .ref h3, .ref h2, .ref kp0_session_samples, .ref kp0_session_download, .ref kp0_session_accounts, .ref kp0_session_line, .int v1_mode, .int v1_startThreshold, .int v1_lastRung, .int v1_lastChange, .int v1_state, .int v1_time, .int v1_position])), (h2, .inr (7, [.ref kp0_session_audio_rungs, .int v2_segments])), (h3, .inr (7, [.ref kp0_session_video_rungs, .int v3_segments])), (h4, .inl (cJ, 1, .inr (.inl r4)))] sz [.ref h0, .int p1, .ref h4]) (QW (some (.int T.1)) D [(h0, .inr (9, [.ref kp0_stream, .ref h1, .ref kp0_scratch])), (h1, .inr (6, [.ref kp0_stream, .ref h3, .ref h2, .ref kp0_session_samples, .ref kp0_session_download, .ref kp0_session_accounts, .ref kp0_session_line, .int v1_mode, .int v1_startThreshold, .int v1_lastRung, .int v1_lastChange, .int v1_state, .int v1_time, .int v1_position])), (h2, .inr (7, [.ref kp0_session_audio_rungs, .int v2_segments])), (h3, .inr (7, [.ref kp0_session_video_rungs, .int v3_segments])), (h4, .inl (cJ, 1, .inr (.inl T.2)))] (va_A [(h0, .inr (9, [.ref kp0_stream, .ref h1, .ref kp0_scratch])), (h1, .inr (6, [.ref kp0_stream, .ref h3, .ref h2, .ref kp0_session_samples, .ref kp0_session_download, .ref kp0_session_accounts, .ref kp0_session_line, .int v1_mode, .int v1_startThreshold, .int v1_lastRung, .int v1_lastChange, .int v1_state, .int v1_time, .int v1_position])), (h2, .inr (7, [.ref kp0_session_audio_rungs, .int v2_segments])), (h3, .inr (7, [.ref kp0_session_video_rungs, .int v3_segments])), (h4, .inl (cJ, 1, .inr (.inl r4)))] sz)) 2 12 (va_A [(h0, .inr (9, [.ref kp0_stream, .ref h1, .ref kp0_scratch])), (h1, .inr (6, [.ref kp0_stream, .ref h3, .ref h2, .ref kp0_session_samples, .ref kp0_session_download, .ref kp0_session_accounts, .ref kp0_session_line, .int v1_mode, .int v1_startThreshold, .int v1_lastRung, .int v1_lastChange, .int v1_state, .int v1_time, .int v1_position])), (h2, .inr (7, [.ref kp0_session_audio_rungs, .int v2_segments])), (h3, .inr (7, [.ref kp0_session_video_rungs, .int v3_segments])), (h4, .inl (cJ, 1, .inr (.inl r4)))] sz) := by
  refine metL (own := RL) (by decide) rfl (Nat.le_of_ble_eq_true rfl) ?_
  intro p e s m below meth c S hr hlk htab hP hK A hAe hD hA hS hG ls hl
  clear hAe
  have hx := S.1
  have hb := S.2.1
  have hl : lv_has ls 4 [(0, .ref h0), (1, .int p1), (2, .ref h4)] := hl
  refine lv_aload_n hx hb dL_downloaded_0 rfl (lv_at hl 2 rfl) ?_
  refine lv_iconst (v := 0) hx hb dL_downloaded_1 li_0 ?_
  refine lv_aload_n hx hb dL_downloaded_2 rfl (lv_at hl 0 rfl) ?_
  refine lv_iload_n hx hb dL_downloaded_3 rfl (lv_at hl 1 rfl) ?_
  obtain ⟨k1, y2, e_k1⟩ : ∃ a0 a1, f_X9_downloaded v1_state v2_segments v3_segments p1 = (a0, a1) := ⟨_, _, rfl⟩
  have h := bnd2_eq e_k1 h
  refine xcV (pc1 := 7) (rest := [.int 0, .ref h4]) (st1 := [.int y2, .int 0, .ref h4]) (wr := [(h4, .inl (cJ, 1, .inr (.inl r4)))]) (cells1 := 2) (slots1 := 12) S (c_X9_downloaded l hfl ga D cI cJ cC h0 h1 h2 h3 kp0_stream kp0_scratch kp0_session_samples kp0_session_download kp0_session_accounts kp0_session_line kp0_session_audio_rungs kp0_session_video_rungs v1_mode v1_startThreshold v1_lastRung v1_lastChange v1_state v1_time v1_position v2_segments v3_segments s.heap.size p1 (k1, y2) e_k1) (cw_L_55 S.2.2.2.2 ⟨Nat.le_of_ble_eq_true rfl, Nat.le_of_ble_eq_true rfl⟩) hK hP hD hS hA hG [0, 1, 2, 3] [4] rfl rfl rfl (by decide) (by decide) (by decide) rfl rfl rfl rfl hl.1 rfl (Nat.le_of_ble_eq_true rfl) ⟨Nat.le_of_ble_eq_true rfl, Nat.le_of_ble_eq_true rfl⟩ rfl rfl rfl rfl dL_downloaded_4 (fun c3 H locs ce q9 hP hD hS hce hcv hcl => ?_) (fun c3 H locs hP hD hS => ?_)
  · have h := iteN c3 h
    have hP : va_P D vwCl [(h4, .inl (cJ, 1, .inr (.inl r4))), (h0, .inr (9, [.ref kp0_stream, .ref h1, .ref kp0_scratch])), (h1, .inr (6, [.ref kp0_stream, .ref h3, .ref h2, .ref kp0_session_samples, .ref kp0_session_download, .ref kp0_session_accounts, .ref kp0_session_line, .int v1_mode, .int v1_startThreshold, .int v1_lastRung, .int v1_lastChange, .int v1_state, .int v1_time, .int v1_position])), (h2, .inr (7, [.ref kp0_session_audio_rungs, .int v2_segments])), (h3, .inr (7, [.ref kp0_session_video_rungs, .int v3_segments]))] H := hP
    have hD : va_D A [(h4, .inl (cJ, 1, .inr (.inl r4))), (h0, .inr (9, [.ref kp0_stream, .ref h1, .ref kp0_scratch])), (h1, .inr (6, [.ref kp0_stream, .ref h3, .ref h2, .ref kp0_session_samples, .ref kp0_session_download, .ref kp0_session_accounts, .ref kp0_session_line, .int v1_mode, .int v1_startThreshold, .int v1_lastRung, .int v1_lastChange, .int v1_state, .int v1_time, .int v1_position])), (h2, .inr (7, [.ref kp0_session_audio_rungs, .int v2_segments])), (h3, .inr (7, [.ref kp0_session_video_rungs, .int v3_segments]))] := hD
    by_cases c4 : k1 = 1
    · have h := iteP c4 h
      subst c4
      refine vx_catch (name := "java/lang/IndexOutOfBoundsException") (E := xE 1) (own := RL) S.2.2.2.1 [] ⟨0, 9, 12, 13⟩ [⟨0, 9, 15, 17⟩] htab (fun z hz => by cases hz) (by decide) (by decide) (S.2.2.2.2 _ tb387) (va_Nw.use rfl (hG.1 _ nb_9)) hce hcv hcl ?_
      refine W.eq (g2 := F0 m 12 ls [.ref q9]) rfl ?_
      refine lv_astore_n (lv' := [(3, .ref q9), (0, .ref h0), (1, .int p1), (2, .ref h4)]) hx hb dL_downloaded_12 rfl hl (by decide) rfl (fun ls hl => ?_)
      refine lv_iconst (v := 1) hx hb dL_downloaded_13 li_1 ?_
      have h := Option.some.inj h
      subst h
      exact lRi S hr hlk (Nat.le_of_ble_eq_true rfl) (Nat.le_of_ble_eq_true rfl) (hP.sub [1, 2, 3, 4, 0] rfl) (hD.sub [1, 2, 3, 4, 0] (by decide) rfl) hS dL_downloaded_14
    · have h := iteN c4 h
      by_cases c5 : k1 = 3
      · have h := iteP c5 h
        subst c5
        refine vx_catch (name := "java/lang/IllegalStateException") (E := xE 3) (own := RL) S.2.2.2.1 [⟨0, 9, 12, 13⟩] ⟨0, 9, 15, 17⟩ [] htab (fun z hz => by
          simp only [List.mem_cons, List.not_mem_nil, or_false] at hz
          rcases hz with rfl
          · exact Or.inr ⟨by decide, "java/lang/IndexOutOfBoundsException", S.2.2.2.2 _ tb387, hG.2.2.2.2.2.1 ("java/lang/IllegalStateException", "java/lang/IndexOutOfBoundsException") (by decide)⟩) (by decide) (by decide) (S.2.2.2.2 _ tb389) (va_Nw.use rfl (hG.1 _ nb_16)) hce hcv hcl ?_
        refine W.eq (g2 := F0 m 15 ls [.ref q9]) rfl ?_
        refine lv_astore_n (lv' := [(3, .ref q9), (0, .ref h0), (1, .int p1), (2, .ref h4)]) hx hb dL_downloaded_15 rfl hl (by decide) rfl (fun ls hl => ?_)
        refine lv_iconst (v := 2) hx hb dL_downloaded_16 li_2 ?_
        have h := Option.some.inj h
        subst h
        exact lRi S hr hlk (Nat.le_of_ble_eq_true rfl) (Nat.le_of_ble_eq_true rfl) (hP.sub [1, 2, 3, 4, 0] rfl) (hD.sub [1, 2, 3, 4, 0] (by decide) rfl) hS dL_downloaded_17
      · have h := iteN c5 h
        cases h
  · have h := iteP c3 h
    have hP : va_P D vwCl [(h4, .inl (cJ, 1, .inr (.inl r4))), (h0, .inr (9, [.ref kp0_stream, .ref h1, .ref kp0_scratch])), (h1, .inr (6, [.ref kp0_stream, .ref h3, .ref h2, .ref kp0_session_samples, .ref kp0_session_download, .ref kp0_session_accounts, .ref kp0_session_line, .int v1_mode, .int v1_startThreshold, .int v1_lastRung, .int v1_lastChange, .int v1_state, .int v1_time, .int v1_position])), (h2, .inr (7, [.ref kp0_session_audio_rungs, .int v2_segments])), (h3, .inr (7, [.ref kp0_session_video_rungs, .int v3_segments]))] H := hP
    have hD : va_D A [(h4, .inl (cJ, 1, .inr (.inl r4))), (h0, .inr (9, [.ref kp0_stream, .ref h1, .ref kp0_scratch])), (h1, .inr (6, [.ref kp0_stream, .ref h3, .ref h2, .ref kp0_session_samples, .ref kp0_session_download, .ref kp0_session_accounts, .ref kp0_session_line, .int v1_mode, .int v1_startThreshold, .int v1_lastRung, .int v1_lastChange, .int v1_state, .int v1_time, .int v1_position])), (h2, .inr (7, [.ref kp0_session_audio_rungs, .int v2_segments])), (h3, .inr (7, [.ref kp0_session_video_rungs, .int v3_segments]))] := hD
    refine lv_i2l hx hb dL_downloaded_7 rfl ?_
    refine astJ (k := 0) (q0 := 0) S hK hP hD hS rfl vl_0_1 tn_0 dL_downloaded_8 (fun H locs hP hD hS => ?_)
    have hP : va_P D vwCl [(h4, .inl (cJ, 1, .inr (.inl (vp_updL r4 0 y2.toInt64)))), (h0, .inr (9, [.ref kp0_stream, .ref h1, .ref kp0_scratch])), (h1, .inr (6, [.ref kp0_stream, .ref h3, .ref h2, .ref kp0_session_samples, .ref kp0_session_download, .ref kp0_session_accounts, .ref kp0_session_line, .int v1_mode, .int v1_startThreshold, .int v1_lastRung, .int v1_lastChange, .int v1_state, .int v1_time, .int v1_position])), (h2, .inr (7, [.ref kp0_session_audio_rungs, .int v2_segments])), (h3, .inr (7, [.ref kp0_session_video_rungs, .int v3_segments]))] H := hP
    have hD : va_D A [(h4, .inl (cJ, 1, .inr (.inl (vp_updL r4 0 y2.toInt64)))), (h0, .inr (9, [.ref kp0_stream, .ref h1, .ref kp0_scratch])), (h1, .inr (6, [.ref kp0_stream, .ref h3, .ref h2, .ref kp0_session_samples, .ref kp0_session_download, .ref kp0_session_accounts, .ref kp0_session_line, .int v1_mode, .int v1_startThreshold, .int v1_lastRung, .int v1_lastChange, .int v1_state, .int v1_time, .int v1_position])), (h2, .inr (7, [.ref kp0_session_audio_rungs, .int v2_segments])), (h3, .inr (7, [.ref kp0_session_video_rungs, .int v3_segments]))] := hD
    obtain ⟨u6, e_u6⟩ : ∃ z, z = vp_updL r4 0 y2.toInt64 := ⟨_, rfl⟩
    rw [← e_u6] at hP hD
    have h := bnd_eq e_u6.symm h
    refine lv_goto (tgt := 18) hx hb dL_downloaded_9 (by decide) ?_
    refine lv_iconst (v := 0) hx hb dL_downloaded_18 li_0 ?_
    have h := Option.some.inj h
    subst h
    exact lRi S hr hlk (Nat.le_of_ble_eq_true rfl) (Nat.le_of_ble_eq_true rfl) (hP.sub [1, 2, 3, 4, 0] rfl) (hD.sub [1, 2, 3, 4, 0] (by decide) rfl) hS dL_downloaded_19
abbrev rm_L_rungOf : Room := { frames := 9, cells := 3, slots := 18, locals := 153 }
theorem dL_rungOf_0 : decode cL_rungOf 0 = .ok (.aload_n 3, 1) := by decide +kernel
theorem dL_rungOf_1 : decode cL_rungOf 1 = .ok (.iconst 0, 1) := by decide +kernel
theorem dL_rungOf_2 : decode cL_rungOf 2 = .ok (.aload_n 0, 1) := by decide +kernel
theorem dL_rungOf_3 : decode cL_rungOf 3 = .ok (.iload_n 1, 1) := by decide +kernel
theorem dL_rungOf_4 : decode cL_rungOf 4 = .ok (.iload_n 2, 1) := by decide +kernel
theorem dL_rungOf_5 : decode cL_rungOf 5 = .ok (.invokevirtual 58, 3) := by decide +kernel
theorem dL_rungOf_8 : decode cL_rungOf 8 = .ok (.i2l, 1) := by decide +kernel
theorem dL_rungOf_9 : decode cL_rungOf 9 = .ok (.lastore, 1) := by decide +kernel
theorem dL_rungOf_10 : decode cL_rungOf 10 = .ok (.goto 11, 3) := by decide +kernel
theorem dL_rungOf_13 : decode cL_rungOf 13 = .ok (.astore 4, 2) := by decide +kernel
theorem dL_rungOf_15 : decode cL_rungOf 15 = .ok (.iconst 1, 1) := by decide +kernel
theorem dL_rungOf_16 : decode cL_rungOf 16 = .ok (.ireturn, 1) := by decide +kernel
theorem dL_rungOf_17 : decode cL_rungOf 17 = .ok (.astore 4, 2) := by decide +kernel
theorem dL_rungOf_19 : decode cL_rungOf 19 = .ok (.iconst 2, 1) := by decide +kernel
theorem dL_rungOf_20 : decode cL_rungOf 20 = .ok (.ireturn, 1) := by decide +kernel
theorem dL_rungOf_21 : decode cL_rungOf 21 = .ok (.iconst 0, 1) := by decide +kernel
theorem dL_rungOf_22 : decode cL_rungOf 22 = .ok (.ireturn, 1) := by decide +kernel
theorem cw_L_58 {R : Room} {s : State} {args : Array Value} (hts : ∀ w ∈ TB, w.before args s = true) (hR : rm_X9_rungOf.frames + 1 ≤ R.frames ∧ 8 + (3 + 11) + rm_X9_rungOf.locals ≤ R.locals) : CallW R s args RL RX9 58 yX9_rungOf cX9_rungOf 3 (some .int) (Cond.code yX9_rungOf cX9_rungOf 3 (some .int) :: TB) rm_X9_rungOf 3 18 2 := cwV 2 hts (gV tb793 tb794 tb795 tb47 tb796) rfl rfl rfl ⟨rfl, by decide, by decide, by decide +kernel⟩ hR
def f_L_rungOf (v1_state v2_segments : Int32) (r3 : Nat → Int32) (v4_segments : Int32) (r5 : Nat → Int32) (r6 : Nat → Int64) (p1 p2 : Int32) : Option (Int32 × (Nat → Int64)) :=
  bnd2 (f_X9_rungOf v1_state v2_segments r3 v4_segments r5 p1 p2) fun (k1 : Nat) (y2 : Int32) =>
  if k1 = 0 then
    bnd (vp_updL r6 0 y2.toInt64) fun (u6 : Nat → Int64) =>
    some (0, u6)
  else
    if k1 = 1 then
      some (1, r6)
    else
      if k1 = 3 then
        some (2, r6)
      else
        none
set_option maxHeartbeats 4000000 in
set_option maxRecDepth 100000 in
theorem c_L_rungOf (l : Launch) (hfl : l.stackTraces = false) (ga : Nat → Nat) (D : va_G) (cI cJ cC : ClassId) (h0 h1 h2 h3 h4 h5 h6 kp0_stream kp0_scratch kp0_session_samples kp0_session_download kp0_session_accounts kp0_session_line : Nat) (v1_mode v1_startThreshold v1_lastRung v1_lastChange v1_state v1_time v1_position v2_segments : Int32) (r3 : Nat → Int32) (v4_segments : Int32) (r5 : Nat → Int32) (r6 : Nat → Int64) (sz : Nat) (p1 p2 : Int32) (T : Int32 × (Nat → Int64)) (h : f_L_rungOf v1_state v2_segments r3 v4_segments r5 r6 p1 p2 = some T) : Met l yL_rungOf (Cond.codeWith yL_rungOf cL_rungOf 5 (some .int) [(0, 10, 13, 13), (0, 10, 17, 17)] :: TB) rm_L_rungOf (PreX ga D cI cJ cC [(h0, .inr (9, [.ref kp0_stream, .ref h1, .ref kp0_scratch])), (h1, .inr (6, [.ref kp0_stream, .ref h4, .ref h2, .ref kp0_session_samples, .ref kp0_session_download, .ref kp0_session_accounts, .ref kp0_session_line, .int v1_mode, .int v1_startThreshold, .int v1_lastRung, .int v1_lastChange, .int v1_state, .int v1_time, .int v1_position])), (h2, .inr (7, [.ref h3, .int v2_segments])), (h3, .inl (cI, 200, .inl r3)), (h4, .inr (7, [.ref h5, .int v4_segments])), (h5, .inl (cI, 200, .inl r5)), (h6, .inl (cJ, 1, .inr (.inl r6)))] sz [.ref h0, .int p1, .int p2, .ref h6]) (QW (some (.int T.1)) D [(h0, .inr (9, [.ref kp0_stream, .ref h1, .ref kp0_scratch])), (h1, .inr (6, [.ref kp0_stream, .ref h4, .ref h2, .ref kp0_session_samples, .ref kp0_session_download, .ref kp0_session_accounts, .ref kp0_session_line, .int v1_mode, .int v1_startThreshold, .int v1_lastRung, .int v1_lastChange, .int v1_state, .int v1_time, .int v1_position])), (h2, .inr (7, [.ref h3, .int v2_segments])), (h3, .inl (cI, 200, .inl r3)), (h4, .inr (7, [.ref h5, .int v4_segments])), (h5, .inl (cI, 200, .inl r5)), (h6, .inl (cJ, 1, .inr (.inl T.2)))] (va_A [(h0, .inr (9, [.ref kp0_stream, .ref h1, .ref kp0_scratch])), (h1, .inr (6, [.ref kp0_stream, .ref h4, .ref h2, .ref kp0_session_samples, .ref kp0_session_download, .ref kp0_session_accounts, .ref kp0_session_line, .int v1_mode, .int v1_startThreshold, .int v1_lastRung, .int v1_lastChange, .int v1_state, .int v1_time, .int v1_position])), (h2, .inr (7, [.ref h3, .int v2_segments])), (h3, .inl (cI, 200, .inl r3)), (h4, .inr (7, [.ref h5, .int v4_segments])), (h5, .inl (cI, 200, .inl r5)), (h6, .inl (cJ, 1, .inr (.inl r6)))] sz)) 3 18 (va_A [(h0, .inr (9, [.ref kp0_stream, .ref h1, .ref kp0_scratch])), (h1, .inr (6, [.ref kp0_stream, .ref h4, .ref h2, .ref kp0_session_samples, .ref kp0_session_download, .ref kp0_session_accounts, .ref kp0_session_line, .int v1_mode, .int v1_startThreshold, .int v1_lastRung, .int v1_lastChange, .int v1_state, .int v1_time, .int v1_position])), (h2, .inr (7, [.ref h3, .int v2_segments])), (h3, .inl (cI, 200, .inl r3)), (h4, .inr (7, [.ref h5, .int v4_segments])), (h5, .inl (cI, 200, .inl r5)), (h6, .inl (cJ, 1, .inr (.inl r6)))] sz) := by
  refine metL (own := RL) (by decide) rfl (Nat.le_of_ble_eq_true rfl) ?_
  intro p e s m below meth c S hr hlk htab hP hK A hAe hD hA hS hG ls hl
  clear hAe
  have hx := S.1
  have hb := S.2.1
  have hl : lv_has ls 5 [(0, .ref h0), (1, .int p1), (2, .int p2), (3, .ref h6)] := hl
  refine lv_aload_n hx hb dL_rungOf_0 rfl (lv_at hl 3 rfl) ?_
  refine lv_iconst (v := 0) hx hb dL_rungOf_1 li_0 ?_
  refine lv_aload_n hx hb dL_rungOf_2 rfl (lv_at hl 0 rfl) ?_
  refine lv_iload_n hx hb dL_rungOf_3 rfl (lv_at hl 1 rfl) ?_
  refine lv_iload_n hx hb dL_rungOf_4 rfl (lv_at hl 2 rfl) ?_
  obtain ⟨k1, y2, e_k1⟩ : ∃ a0 a1, f_X9_rungOf v1_state v2_segments r3 v4_segments r5 p1 p2 = (a0, a1) := ⟨_, _, rfl⟩
  have h := bnd2_eq e_k1 h
  refine xcV (pc1 := 8) (rest := [.int 0, .ref h6]) (st1 := [.int y2, .int 0, .ref h6]) (wr := [(h6, .inl (cJ, 1, .inr (.inl r6)))]) (cells1 := 3) (slots1 := 18) S (c_X9_rungOf l hfl ga D cI cJ cC h0 h1 h2 h3 h4 h5 kp0_stream kp0_scratch kp0_session_samples kp0_session_download kp0_session_accounts kp0_session_line v1_mode v1_startThreshold v1_lastRung v1_lastChange v1_state v1_time v1_position v2_segments r3 v4_segments r5 s.heap.size p1 p2 (k1, y2) e_k1) (cw_L_58 S.2.2.2.2 ⟨Nat.le_of_ble_eq_true rfl, Nat.le_of_ble_eq_true rfl⟩) hK hP hD hS hA hG [0, 1, 2, 3, 4, 5] [6] rfl rfl rfl (by decide) (by decide) (by decide) rfl rfl rfl rfl hl.1 rfl (Nat.le_of_ble_eq_true rfl) ⟨Nat.le_of_ble_eq_true rfl, Nat.le_of_ble_eq_true rfl⟩ rfl rfl rfl rfl dL_rungOf_5 (fun c3 H locs ce q9 hP hD hS hce hcv hcl => ?_) (fun c3 H locs hP hD hS => ?_)
  · have h := iteN c3 h
    have hP : va_P D vwCl [(h6, .inl (cJ, 1, .inr (.inl r6))), (h0, .inr (9, [.ref kp0_stream, .ref h1, .ref kp0_scratch])), (h1, .inr (6, [.ref kp0_stream, .ref h4, .ref h2, .ref kp0_session_samples, .ref kp0_session_download, .ref kp0_session_accounts, .ref kp0_session_line, .int v1_mode, .int v1_startThreshold, .int v1_lastRung, .int v1_lastChange, .int v1_state, .int v1_time, .int v1_position])), (h2, .inr (7, [.ref h3, .int v2_segments])), (h3, .inl (cI, 200, .inl r3)), (h4, .inr (7, [.ref h5, .int v4_segments])), (h5, .inl (cI, 200, .inl r5))] H := hP
    have hD : va_D A [(h6, .inl (cJ, 1, .inr (.inl r6))), (h0, .inr (9, [.ref kp0_stream, .ref h1, .ref kp0_scratch])), (h1, .inr (6, [.ref kp0_stream, .ref h4, .ref h2, .ref kp0_session_samples, .ref kp0_session_download, .ref kp0_session_accounts, .ref kp0_session_line, .int v1_mode, .int v1_startThreshold, .int v1_lastRung, .int v1_lastChange, .int v1_state, .int v1_time, .int v1_position])), (h2, .inr (7, [.ref h3, .int v2_segments])), (h3, .inl (cI, 200, .inl r3)), (h4, .inr (7, [.ref h5, .int v4_segments])), (h5, .inl (cI, 200, .inl r5))] := hD
    by_cases c4 : k1 = 1
    · have h := iteP c4 h
      subst c4
      refine vx_catch (name := "java/lang/IndexOutOfBoundsException") (E := xE 1) (own := RL) S.2.2.2.1 [] ⟨0, 10, 13, 13⟩ [⟨0, 10, 17, 17⟩] htab (fun z hz => by cases hz) (by decide) (by decide) (S.2.2.2.2 _ tb387) (va_Nw.use rfl (hG.1 _ nb_9)) hce hcv hcl ?_
      refine W.eq (g2 := F0 m 13 ls [.ref q9]) rfl ?_
      refine lv_astore (lv' := [(4, .ref q9), (0, .ref h0), (1, .int p1), (2, .int p2), (3, .ref h6)]) hx hb dL_rungOf_13 hl (by decide) rfl (fun ls hl => ?_)
      refine lv_iconst (v := 1) hx hb dL_rungOf_15 li_1 ?_
      have h := Option.some.inj h
      subst h
      exact lRi S hr hlk (Nat.le_of_ble_eq_true rfl) (Nat.le_of_ble_eq_true rfl) (hP.sub [1, 2, 3, 4, 5, 6, 0] rfl) (hD.sub [1, 2, 3, 4, 5, 6, 0] (by decide) rfl) hS dL_rungOf_16
    · have h := iteN c4 h
      by_cases c5 : k1 = 3
      · have h := iteP c5 h
        subst c5
        refine vx_catch (name := "java/lang/IllegalStateException") (E := xE 3) (own := RL) S.2.2.2.1 [⟨0, 10, 13, 13⟩] ⟨0, 10, 17, 17⟩ [] htab (fun z hz => by
          simp only [List.mem_cons, List.not_mem_nil, or_false] at hz
          rcases hz with rfl
          · exact Or.inr ⟨by decide, "java/lang/IndexOutOfBoundsException", S.2.2.2.2 _ tb387, hG.2.2.2.2.2.1 ("java/lang/IllegalStateException", "java/lang/IndexOutOfBoundsException") (by decide)⟩) (by decide) (by decide) (S.2.2.2.2 _ tb389) (va_Nw.use rfl (hG.1 _ nb_16)) hce hcv hcl ?_
        refine W.eq (g2 := F0 m 17 ls [.ref q9]) rfl ?_
        refine lv_astore (lv' := [(4, .ref q9), (0, .ref h0), (1, .int p1), (2, .int p2), (3, .ref h6)]) hx hb dL_rungOf_17 hl (by decide) rfl (fun ls hl => ?_)
        refine lv_iconst (v := 2) hx hb dL_rungOf_19 li_2 ?_
        have h := Option.some.inj h
        subst h
        exact lRi S hr hlk (Nat.le_of_ble_eq_true rfl) (Nat.le_of_ble_eq_true rfl) (hP.sub [1, 2, 3, 4, 5, 6, 0] rfl) (hD.sub [1, 2, 3, 4, 5, 6, 0] (by decide) rfl) hS dL_rungOf_20
      · have h := iteN c5 h
        cases h
  · have h := iteP c3 h
    have hP : va_P D vwCl [(h6, .inl (cJ, 1, .inr (.inl r6))), (h0, .inr (9, [.ref kp0_stream, .ref h1, .ref kp0_scratch])), (h1, .inr (6, [.ref kp0_stream, .ref h4, .ref h2, .ref kp0_session_samples, .ref kp0_session_download, .ref kp0_session_accounts, .ref kp0_session_line, .int v1_mode, .int v1_startThreshold, .int v1_lastRung, .int v1_lastChange, .int v1_state, .int v1_time, .int v1_position])), (h2, .inr (7, [.ref h3, .int v2_segments])), (h3, .inl (cI, 200, .inl r3)), (h4, .inr (7, [.ref h5, .int v4_segments])), (h5, .inl (cI, 200, .inl r5))] H := hP
    have hD : va_D A [(h6, .inl (cJ, 1, .inr (.inl r6))), (h0, .inr (9, [.ref kp0_stream, .ref h1, .ref kp0_scratch])), (h1, .inr (6, [.ref kp0_stream, .ref h4, .ref h2, .ref kp0_session_samples, .ref kp0_session_download, .ref kp0_session_accounts, .ref kp0_session_line, .int v1_mode, .int v1_startThreshold, .int v1_lastRung, .int v1_lastChange, .int v1_state, .int v1_time, .int v1_position])), (h2, .inr (7, [.ref h3, .int v2_segments])), (h3, .inl (cI, 200, .inl r3)), (h4, .inr (7, [.ref h5, .int v4_segments])), (h5, .inl (cI, 200, .inl r5))] := hD
    refine lv_i2l hx hb dL_rungOf_8 rfl ?_
    refine astJ (k := 0) (q0 := 0) S hK hP hD hS rfl vl_0_1 tn_0 dL_rungOf_9 (fun H locs hP hD hS => ?_)
    have hP : va_P D vwCl [(h6, .inl (cJ, 1, .inr (.inl (vp_updL r6 0 y2.toInt64)))), (h0, .inr (9, [.ref kp0_stream, .ref h1, .ref kp0_scratch])), (h1, .inr (6, [.ref kp0_stream, .ref h4, .ref h2, .ref kp0_session_samples, .ref kp0_session_download, .ref kp0_session_accounts, .ref kp0_session_line, .int v1_mode, .int v1_startThreshold, .int v1_lastRung, .int v1_lastChange, .int v1_state, .int v1_time, .int v1_position])), (h2, .inr (7, [.ref h3, .int v2_segments])), (h3, .inl (cI, 200, .inl r3)), (h4, .inr (7, [.ref h5, .int v4_segments])), (h5, .inl (cI, 200, .inl r5))] H := hP
    have hD : va_D A [(h6, .inl (cJ, 1, .inr (.inl (vp_updL r6 0 y2.toInt64)))), (h0, .inr (9, [.ref kp0_stream, .ref h1, .ref kp0_scratch])), (h1, .inr (6, [.ref kp0_stream, .ref h4, .ref h2, .ref kp0_session_samples, .ref kp0_session_download, .ref kp0_session_accounts, .ref kp0_session_line, .int v1_mode, .int v1_startThreshold, .int v1_lastRung, .int v1_lastChange, .int v1_state, .int v1_time, .int v1_position])), (h2, .inr (7, [.ref h3, .int v2_segments])), (h3, .inl (cI, 200, .inl r3)), (h4, .inr (7, [.ref h5, .int v4_segments])), (h5, .inl (cI, 200, .inl r5))] := hD
    obtain ⟨u6, e_u6⟩ : ∃ z, z = vp_updL r6 0 y2.toInt64 := ⟨_, rfl⟩
    rw [← e_u6] at hP hD
    have h := bnd_eq e_u6.symm h
    refine lv_goto (tgt := 21) hx hb dL_rungOf_10 (by decide) ?_
    refine lv_iconst (v := 0) hx hb dL_rungOf_21 li_0 ?_
    have h := Option.some.inj h
    subst h
    exact lRi S hr hlk (Nat.le_of_ble_eq_true rfl) (Nat.le_of_ble_eq_true rfl) (hP.sub [1, 2, 3, 4, 5, 6, 0] rfl) (hD.sub [1, 2, 3, 4, 5, 6, 0] (by decide) rfl) hS dL_rungOf_22
abbrev rm_L_download : Room := { frames := 9, cells := 2, slots := 12, locals := 152 }
theorem dL_download_0 : decode cL_download 0 = .ok (.aload_n 2, 1) := by decide +kernel
theorem dL_download_1 : decode cL_download 1 = .ok (.iconst 0, 1) := by decide +kernel
theorem dL_download_2 : decode cL_download 2 = .ok (.aload_n 0, 1) := by decide +kernel
theorem dL_download_3 : decode cL_download 3 = .ok (.iload_n 1, 1) := by decide +kernel
theorem dL_download_4 : decode cL_download 4 = .ok (.invokevirtual 61, 3) := by decide +kernel
theorem dL_download_7 : decode cL_download 7 = .ok (.i2l, 1) := by decide +kernel
theorem dL_download_8 : decode cL_download 8 = .ok (.lastore, 1) := by decide +kernel
theorem dL_download_9 : decode cL_download 9 = .ok (.goto 9, 3) := by decide +kernel
theorem dL_download_12 : decode cL_download 12 = .ok (.astore_n 3, 1) := by decide +kernel
theorem dL_download_13 : decode cL_download 13 = .ok (.iconst 1, 1) := by decide +kernel
theorem dL_download_14 : decode cL_download 14 = .ok (.ireturn, 1) := by decide +kernel
theorem dL_download_15 : decode cL_download 15 = .ok (.astore_n 3, 1) := by decide +kernel
theorem dL_download_16 : decode cL_download 16 = .ok (.iconst 2, 1) := by decide +kernel
theorem dL_download_17 : decode cL_download 17 = .ok (.ireturn, 1) := by decide +kernel
theorem dL_download_18 : decode cL_download 18 = .ok (.iconst 0, 1) := by decide +kernel
theorem dL_download_19 : decode cL_download 19 = .ok (.ireturn, 1) := by decide +kernel
theorem cw_L_61 {R : Room} {s : State} {args : Array Value} (hts : ∀ w ∈ TB, w.before args s = true) (hR : rm_X9_download.frames + 1 ≤ R.frames ∧ 8 + (2 + 11) + rm_X9_download.locals ≤ R.locals) : CallW R s args RL RX9 61 yX9_download cX9_download 2 (some .int) (Cond.code yX9_download cX9_download 2 (some .int) :: TB) rm_X9_download 2 12 1 := cwV 1 hts (gV tb804 tb805 tb806 tb47 tb807) rfl rfl rfl ⟨rfl, by decide, by decide, by decide +kernel⟩ hR
def f_L_download (v1_state v2_going v2_track v2_segment v2_rung v2_waiting v2_duration : Int32) (r3 : Nat → Int64) (p1 : Int32) : Option (Int32 × (Nat → Int64)) :=
  bnd2 (f_X9_download v1_state v2_going v2_track v2_segment v2_rung v2_waiting v2_duration p1) fun (k1 : Nat) (y2 : Int32) =>
  if k1 = 0 then
    bnd (vp_updL r3 0 y2.toInt64) fun (u6 : Nat → Int64) =>
    some (0, u6)
  else
    if k1 = 1 then
      some (1, r3)
    else
      if k1 = 3 then
        some (2, r3)
      else
        none
set_option maxHeartbeats 4000000 in
set_option maxRecDepth 100000 in
theorem c_L_download (l : Launch) (hfl : l.stackTraces = false) (ga : Nat → Nat) (D : va_G) (cI cJ cC : ClassId) (h0 h1 h2 h3 kp0_stream kp0_scratch kp0_session_video kp0_session_audio kp0_session_samples kp0_session_accounts kp0_session_line : Nat) (v1_mode v1_startThreshold v1_lastRung v1_lastChange v1_state v1_time v1_position v2_going v2_track v2_segment v2_rung v2_waiting v2_duration : Int32) (v2_bits v2_received : Int64) (r3 : Nat → Int64) (sz : Nat) (p1 : Int32) (T : Int32 × (Nat → Int64)) (h : f_L_download v1_state v2_going v2_track v2_segment v2_rung v2_waiting v2_duration r3 p1 = some T) : Met l yL_download (Cond.codeWith yL_download cL_download 4 (some .int) [(0, 9, 12, 13), (0, 9, 15, 17)] :: TB) rm_L_download (PreX ga D cI cJ cC [(h0, .inr (9, [.ref kp0_stream, .ref h1, .ref kp0_scratch])), (h1, .inr (6, [.ref kp0_stream, .ref kp0_session_video, .ref kp0_session_audio, .ref kp0_session_samples, .ref h2, .ref kp0_session_accounts, .ref kp0_session_line, .int v1_mode, .int v1_startThreshold, .int v1_lastRung, .int v1_lastChange, .int v1_state, .int v1_time, .int v1_position])), (h2, .inr (1, [.int v2_going, .int v2_track, .int v2_segment, .int v2_rung, .int v2_waiting, .int v2_duration, .long v2_bits, .long v2_received])), (h3, .inl (cJ, 1, .inr (.inl r3)))] sz [.ref h0, .int p1, .ref h3]) (QW (some (.int T.1)) D [(h0, .inr (9, [.ref kp0_stream, .ref h1, .ref kp0_scratch])), (h1, .inr (6, [.ref kp0_stream, .ref kp0_session_video, .ref kp0_session_audio, .ref kp0_session_samples, .ref h2, .ref kp0_session_accounts, .ref kp0_session_line, .int v1_mode, .int v1_startThreshold, .int v1_lastRung, .int v1_lastChange, .int v1_state, .int v1_time, .int v1_position])), (h2, .inr (1, [.int v2_going, .int v2_track, .int v2_segment, .int v2_rung, .int v2_waiting, .int v2_duration, .long v2_bits, .long v2_received])), (h3, .inl (cJ, 1, .inr (.inl T.2)))] (va_A [(h0, .inr (9, [.ref kp0_stream, .ref h1, .ref kp0_scratch])), (h1, .inr (6, [.ref kp0_stream, .ref kp0_session_video, .ref kp0_session_audio, .ref kp0_session_samples, .ref h2, .ref kp0_session_accounts, .ref kp0_session_line, .int v1_mode, .int v1_startThreshold, .int v1_lastRung, .int v1_lastChange, .int v1_state, .int v1_time, .int v1_position])), (h2, .inr (1, [.int v2_going, .int v2_track, .int v2_segment, .int v2_rung, .int v2_waiting, .int v2_duration, .long v2_bits, .long v2_received])), (h3, .inl (cJ, 1, .inr (.inl r3)))] sz)) 2 12 (va_A [(h0, .inr (9, [.ref kp0_stream, .ref h1, .ref kp0_scratch])), (h1, .inr (6, [.ref kp0_stream, .ref kp0_session_video, .ref kp0_session_audio, .ref kp0_session_samples, .ref h2, .ref kp0_session_accounts, .ref kp0_session_line, .int v1_mode, .int v1_startThreshold, .int v1_lastRung, .int v1_lastChange, .int v1_state, .int v1_time, .int v1_position])), (h2, .inr (1, [.int v2_going, .int v2_track, .int v2_segment, .int v2_rung, .int v2_waiting, .int v2_duration, .long v2_bits, .long v2_received])), (h3, .inl (cJ, 1, .inr (.inl r3)))] sz) := by
  refine metL (own := RL) (by decide) rfl (Nat.le_of_ble_eq_true rfl) ?_
  intro p e s m below meth c S hr hlk htab hP hK A hAe hD hA hS hG ls hl
  clear hAe
  have hx := S.1
  have hb := S.2.1
  have hl : lv_has ls 4 [(0, .ref h0), (1, .int p1), (2, .ref h3)] := hl
  refine lv_aload_n hx hb dL_download_0 rfl (lv_at hl 2 rfl) ?_
  refine lv_iconst (v := 0) hx hb dL_download_1 li_0 ?_
  refine lv_aload_n hx hb dL_download_2 rfl (lv_at hl 0 rfl) ?_
  refine lv_iload_n hx hb dL_download_3 rfl (lv_at hl 1 rfl) ?_
  obtain ⟨k1, y2, e_k1⟩ : ∃ a0 a1, f_X9_download v1_state v2_going v2_track v2_segment v2_rung v2_waiting v2_duration p1 = (a0, a1) := ⟨_, _, rfl⟩
  have h := bnd2_eq e_k1 h
  refine xcV (pc1 := 7) (rest := [.int 0, .ref h3]) (st1 := [.int y2, .int 0, .ref h3]) (wr := [(h3, .inl (cJ, 1, .inr (.inl r3)))]) (cells1 := 2) (slots1 := 12) S (c_X9_download l hfl ga D cI cJ cC h0 h1 h2 kp0_stream kp0_scratch kp0_session_video kp0_session_audio kp0_session_samples kp0_session_accounts kp0_session_line v1_mode v1_startThreshold v1_lastRung v1_lastChange v1_state v1_time v1_position v2_going v2_track v2_segment v2_rung v2_waiting v2_duration v2_bits v2_received s.heap.size p1 (k1, y2) e_k1) (cw_L_61 S.2.2.2.2 ⟨Nat.le_of_ble_eq_true rfl, Nat.le_of_ble_eq_true rfl⟩) hK hP hD hS hA hG [0, 1, 2] [3] rfl rfl rfl (by decide) (by decide) (by decide) rfl rfl rfl rfl hl.1 rfl (Nat.le_of_ble_eq_true rfl) ⟨Nat.le_of_ble_eq_true rfl, Nat.le_of_ble_eq_true rfl⟩ rfl rfl rfl rfl dL_download_4 (fun c3 H locs ce q9 hP hD hS hce hcv hcl => ?_) (fun c3 H locs hP hD hS => ?_)
  · have h := iteN c3 h
    have hP : va_P D vwCl [(h3, .inl (cJ, 1, .inr (.inl r3))), (h0, .inr (9, [.ref kp0_stream, .ref h1, .ref kp0_scratch])), (h1, .inr (6, [.ref kp0_stream, .ref kp0_session_video, .ref kp0_session_audio, .ref kp0_session_samples, .ref h2, .ref kp0_session_accounts, .ref kp0_session_line, .int v1_mode, .int v1_startThreshold, .int v1_lastRung, .int v1_lastChange, .int v1_state, .int v1_time, .int v1_position])), (h2, .inr (1, [.int v2_going, .int v2_track, .int v2_segment, .int v2_rung, .int v2_waiting, .int v2_duration, .long v2_bits, .long v2_received]))] H := hP
    have hD : va_D A [(h3, .inl (cJ, 1, .inr (.inl r3))), (h0, .inr (9, [.ref kp0_stream, .ref h1, .ref kp0_scratch])), (h1, .inr (6, [.ref kp0_stream, .ref kp0_session_video, .ref kp0_session_audio, .ref kp0_session_samples, .ref h2, .ref kp0_session_accounts, .ref kp0_session_line, .int v1_mode, .int v1_startThreshold, .int v1_lastRung, .int v1_lastChange, .int v1_state, .int v1_time, .int v1_position])), (h2, .inr (1, [.int v2_going, .int v2_track, .int v2_segment, .int v2_rung, .int v2_waiting, .int v2_duration, .long v2_bits, .long v2_received]))] := hD
    by_cases c4 : k1 = 1
    · have h := iteP c4 h
      subst c4
      refine vx_catch (name := "java/lang/IndexOutOfBoundsException") (E := xE 1) (own := RL) S.2.2.2.1 [] ⟨0, 9, 12, 13⟩ [⟨0, 9, 15, 17⟩] htab (fun z hz => by cases hz) (by decide) (by decide) (S.2.2.2.2 _ tb387) (va_Nw.use rfl (hG.1 _ nb_9)) hce hcv hcl ?_
      refine W.eq (g2 := F0 m 12 ls [.ref q9]) rfl ?_
      refine lv_astore_n (lv' := [(3, .ref q9), (0, .ref h0), (1, .int p1), (2, .ref h3)]) hx hb dL_download_12 rfl hl (by decide) rfl (fun ls hl => ?_)
      refine lv_iconst (v := 1) hx hb dL_download_13 li_1 ?_
      have h := Option.some.inj h
      subst h
      exact lRi S hr hlk (Nat.le_of_ble_eq_true rfl) (Nat.le_of_ble_eq_true rfl) (hP.sub [1, 2, 3, 0] rfl) (hD.sub [1, 2, 3, 0] (by decide) rfl) hS dL_download_14
    · have h := iteN c4 h
      by_cases c5 : k1 = 3
      · have h := iteP c5 h
        subst c5
        refine vx_catch (name := "java/lang/IllegalStateException") (E := xE 3) (own := RL) S.2.2.2.1 [⟨0, 9, 12, 13⟩] ⟨0, 9, 15, 17⟩ [] htab (fun z hz => by
          simp only [List.mem_cons, List.not_mem_nil, or_false] at hz
          rcases hz with rfl
          · exact Or.inr ⟨by decide, "java/lang/IndexOutOfBoundsException", S.2.2.2.2 _ tb387, hG.2.2.2.2.2.1 ("java/lang/IllegalStateException", "java/lang/IndexOutOfBoundsException") (by decide)⟩) (by decide) (by decide) (S.2.2.2.2 _ tb389) (va_Nw.use rfl (hG.1 _ nb_16)) hce hcv hcl ?_
        refine W.eq (g2 := F0 m 15 ls [.ref q9]) rfl ?_
        refine lv_astore_n (lv' := [(3, .ref q9), (0, .ref h0), (1, .int p1), (2, .ref h3)]) hx hb dL_download_15 rfl hl (by decide) rfl (fun ls hl => ?_)
        refine lv_iconst (v := 2) hx hb dL_download_16 li_2 ?_
        have h := Option.some.inj h
        subst h
        exact lRi S hr hlk (Nat.le_of_ble_eq_true rfl) (Nat.le_of_ble_eq_true rfl) (hP.sub [1, 2, 3, 0] rfl) (hD.sub [1, 2, 3, 0] (by decide) rfl) hS dL_download_17
      · have h := iteN c5 h
        cases h
  · have h := iteP c3 h
    have hP : va_P D vwCl [(h3, .inl (cJ, 1, .inr (.inl r3))), (h0, .inr (9, [.ref kp0_stream, .ref h1, .ref kp0_scratch])), (h1, .inr (6, [.ref kp0_stream, .ref kp0_session_video, .ref kp0_session_audio, .ref kp0_session_samples, .ref h2, .ref kp0_session_accounts, .ref kp0_session_line, .int v1_mode, .int v1_startThreshold, .int v1_lastRung, .int v1_lastChange, .int v1_state, .int v1_time, .int v1_position])), (h2, .inr (1, [.int v2_going, .int v2_track, .int v2_segment, .int v2_rung, .int v2_waiting, .int v2_duration, .long v2_bits, .long v2_received]))] H := hP
    have hD : va_D A [(h3, .inl (cJ, 1, .inr (.inl r3))), (h0, .inr (9, [.ref kp0_stream, .ref h1, .ref kp0_scratch])), (h1, .inr (6, [.ref kp0_stream, .ref kp0_session_video, .ref kp0_session_audio, .ref kp0_session_samples, .ref h2, .ref kp0_session_accounts, .ref kp0_session_line, .int v1_mode, .int v1_startThreshold, .int v1_lastRung, .int v1_lastChange, .int v1_state, .int v1_time, .int v1_position])), (h2, .inr (1, [.int v2_going, .int v2_track, .int v2_segment, .int v2_rung, .int v2_waiting, .int v2_duration, .long v2_bits, .long v2_received]))] := hD
    refine lv_i2l hx hb dL_download_7 rfl ?_
    refine astJ (k := 0) (q0 := 0) S hK hP hD hS rfl vl_0_1 tn_0 dL_download_8 (fun H locs hP hD hS => ?_)
    have hP : va_P D vwCl [(h3, .inl (cJ, 1, .inr (.inl (vp_updL r3 0 y2.toInt64)))), (h0, .inr (9, [.ref kp0_stream, .ref h1, .ref kp0_scratch])), (h1, .inr (6, [.ref kp0_stream, .ref kp0_session_video, .ref kp0_session_audio, .ref kp0_session_samples, .ref h2, .ref kp0_session_accounts, .ref kp0_session_line, .int v1_mode, .int v1_startThreshold, .int v1_lastRung, .int v1_lastChange, .int v1_state, .int v1_time, .int v1_position])), (h2, .inr (1, [.int v2_going, .int v2_track, .int v2_segment, .int v2_rung, .int v2_waiting, .int v2_duration, .long v2_bits, .long v2_received]))] H := hP
    have hD : va_D A [(h3, .inl (cJ, 1, .inr (.inl (vp_updL r3 0 y2.toInt64)))), (h0, .inr (9, [.ref kp0_stream, .ref h1, .ref kp0_scratch])), (h1, .inr (6, [.ref kp0_stream, .ref kp0_session_video, .ref kp0_session_audio, .ref kp0_session_samples, .ref h2, .ref kp0_session_accounts, .ref kp0_session_line, .int v1_mode, .int v1_startThreshold, .int v1_lastRung, .int v1_lastChange, .int v1_state, .int v1_time, .int v1_position])), (h2, .inr (1, [.int v2_going, .int v2_track, .int v2_segment, .int v2_rung, .int v2_waiting, .int v2_duration, .long v2_bits, .long v2_received]))] := hD
    obtain ⟨u6, e_u6⟩ : ∃ z, z = vp_updL r3 0 y2.toInt64 := ⟨_, rfl⟩
    rw [← e_u6] at hP hD
    have h := bnd_eq e_u6.symm h
    refine lv_goto (tgt := 18) hx hb dL_download_9 (by decide) ?_
    refine lv_iconst (v := 0) hx hb dL_download_18 li_0 ?_
    have h := Option.some.inj h
    subst h
    exact lRi S hr hlk (Nat.le_of_ble_eq_true rfl) (Nat.le_of_ble_eq_true rfl) (hP.sub [1, 2, 3, 0] rfl) (hD.sub [1, 2, 3, 0] (by decide) rfl) hS dL_download_19
abbrev rm_L_received : Room := { frames := 9, cells := 1, slots := 6, locals := 150 }
theorem dL_received_0 : decode cL_received 0 = .ok (.aload_n 1, 1) := by decide +kernel
theorem dL_received_1 : decode cL_received 1 = .ok (.iconst 0, 1) := by decide +kernel
theorem dL_received_2 : decode cL_received 2 = .ok (.aload_n 0, 1) := by decide +kernel
theorem dL_received_3 : decode cL_received 3 = .ok (.invokevirtual 64, 3) := by decide +kernel
theorem dL_received_6 : decode cL_received 6 = .ok (.lastore, 1) := by decide +kernel
theorem dL_received_7 : decode cL_received 7 = .ok (.goto 6, 3) := by decide +kernel
theorem dL_received_10 : decode cL_received 10 = .ok (.astore_n 2, 1) := by decide +kernel
theorem dL_received_11 : decode cL_received 11 = .ok (.iconst 1, 1) := by decide +kernel
theorem dL_received_12 : decode cL_received 12 = .ok (.ireturn, 1) := by decide +kernel
theorem dL_received_13 : decode cL_received 13 = .ok (.iconst 0, 1) := by decide +kernel
theorem dL_received_14 : decode cL_received 14 = .ok (.ireturn, 1) := by decide +kernel
theorem cw_L_64 {R : Room} {s : State} {args : Array Value} (hts : ∀ w ∈ TB, w.before args s = true) (hR : rm_X9_received.frames + 1 ≤ R.frames ∧ 8 + (1 + 11) + rm_X9_received.locals ≤ R.locals) : CallW R s args RL RX9 64 yX9_received cX9_received 1 (some .long) (Cond.code yX9_received cX9_received 1 (some .long) :: TB) rm_X9_received 1 6 0 := cwV 0 hts (gV tb811 tb812 tb813 tb47 tb814) rfl rfl rfl ⟨rfl, by decide, by decide, by decide +kernel⟩ hR
def f_L_received (v1_state v2_going : Int32) (v2_received : Int64) (r3 : Nat → Int64) : Option (Int32 × (Nat → Int64)) :=
  bnd2 (f_X9_received v1_state v2_going v2_received) fun (k1 : Nat) (z2 : Int64) =>
  if k1 = 0 then
    bnd (vp_updL r3 0 z2) fun (u5 : Nat → Int64) =>
    some (0, u5)
  else
    if k1 = 3 then
      some (1, r3)
    else
      none
set_option maxHeartbeats 4000000 in
set_option maxRecDepth 100000 in
theorem c_L_received (l : Launch) (hfl : l.stackTraces = false) (ga : Nat → Nat) (D : va_G) (cI cJ cC : ClassId) (h0 h1 h2 h3 kp0_stream kp0_scratch kp0_session_video kp0_session_audio kp0_session_samples kp0_session_accounts kp0_session_line : Nat) (v1_mode v1_startThreshold v1_lastRung v1_lastChange v1_state v1_time v1_position v2_going v2_track v2_segment v2_rung v2_waiting v2_duration : Int32) (v2_bits v2_received : Int64) (r3 : Nat → Int64) (sz : Nat)  (T : Int32 × (Nat → Int64)) (h : f_L_received v1_state v2_going v2_received r3 = some T) : Met l yL_received (Cond.codeWith yL_received cL_received 3 (some .int) [(0, 7, 10, 17)] :: TB) rm_L_received (PreX ga D cI cJ cC [(h0, .inr (9, [.ref kp0_stream, .ref h1, .ref kp0_scratch])), (h1, .inr (6, [.ref kp0_stream, .ref kp0_session_video, .ref kp0_session_audio, .ref kp0_session_samples, .ref h2, .ref kp0_session_accounts, .ref kp0_session_line, .int v1_mode, .int v1_startThreshold, .int v1_lastRung, .int v1_lastChange, .int v1_state, .int v1_time, .int v1_position])), (h2, .inr (1, [.int v2_going, .int v2_track, .int v2_segment, .int v2_rung, .int v2_waiting, .int v2_duration, .long v2_bits, .long v2_received])), (h3, .inl (cJ, 1, .inr (.inl r3)))] sz [.ref h0, .ref h3]) (QW (some (.int T.1)) D [(h0, .inr (9, [.ref kp0_stream, .ref h1, .ref kp0_scratch])), (h1, .inr (6, [.ref kp0_stream, .ref kp0_session_video, .ref kp0_session_audio, .ref kp0_session_samples, .ref h2, .ref kp0_session_accounts, .ref kp0_session_line, .int v1_mode, .int v1_startThreshold, .int v1_lastRung, .int v1_lastChange, .int v1_state, .int v1_time, .int v1_position])), (h2, .inr (1, [.int v2_going, .int v2_track, .int v2_segment, .int v2_rung, .int v2_waiting, .int v2_duration, .long v2_bits, .long v2_received])), (h3, .inl (cJ, 1, .inr (.inl T.2)))] (va_A [(h0, .inr (9, [.ref kp0_stream, .ref h1, .ref kp0_scratch])), (h1, .inr (6, [.ref kp0_stream, .ref kp0_session_video, .ref kp0_session_audio, .ref kp0_session_samples, .ref h2, .ref kp0_session_accounts, .ref kp0_session_line, .int v1_mode, .int v1_startThreshold, .int v1_lastRung, .int v1_lastChange, .int v1_state, .int v1_time, .int v1_position])), (h2, .inr (1, [.int v2_going, .int v2_track, .int v2_segment, .int v2_rung, .int v2_waiting, .int v2_duration, .long v2_bits, .long v2_received])), (h3, .inl (cJ, 1, .inr (.inl r3)))] sz)) 1 6 (va_A [(h0, .inr (9, [.ref kp0_stream, .ref h1, .ref kp0_scratch])), (h1, .inr (6, [.ref kp0_stream, .ref kp0_session_video, .ref kp0_session_audio, .ref kp0_session_samples, .ref h2, .ref kp0_session_accounts, .ref kp0_session_line, .int v1_mode, .int v1_startThreshold, .int v1_lastRung, .int v1_lastChange, .int v1_state, .int v1_time, .int v1_position])), (h2, .inr (1, [.int v2_going, .int v2_track, .int v2_segment, .int v2_rung, .int v2_waiting, .int v2_duration, .long v2_bits, .long v2_received])), (h3, .inl (cJ, 1, .inr (.inl r3)))] sz) := by
  refine metL (own := RL) (by decide) rfl (Nat.le_of_ble_eq_true rfl) ?_
  intro p e s m below meth c S hr hlk htab hP hK A hAe hD hA hS hG ls hl
  clear hAe
  have hx := S.1
  have hb := S.2.1
  have hl : lv_has ls 3 [(0, .ref h0), (1, .ref h3)] := hl
  refine lv_aload_n hx hb dL_received_0 rfl (lv_at hl 1 rfl) ?_
  refine lv_iconst (v := 0) hx hb dL_received_1 li_0 ?_
  refine lv_aload_n hx hb dL_received_2 rfl (lv_at hl 0 rfl) ?_
  obtain ⟨k1, z2, e_k1⟩ : ∃ a0 a1, f_X9_received v1_state v2_going v2_received = (a0, a1) := ⟨_, _, rfl⟩
  have h := bnd2_eq e_k1 h
  refine xcV (pc1 := 6) (rest := [.int 0, .ref h3]) (st1 := [.long z2, .int 0, .ref h3]) (wr := [(h3, .inl (cJ, 1, .inr (.inl r3)))]) (cells1 := 1) (slots1 := 6) S (c_X9_received l hfl ga D cI cJ cC h0 h1 h2 kp0_stream kp0_scratch kp0_session_video kp0_session_audio kp0_session_samples kp0_session_accounts kp0_session_line v1_mode v1_startThreshold v1_lastRung v1_lastChange v1_state v1_time v1_position v2_going v2_track v2_segment v2_rung v2_waiting v2_duration v2_bits v2_received s.heap.size  (k1, z2) e_k1) (cw_L_64 S.2.2.2.2 ⟨Nat.le_of_ble_eq_true rfl, Nat.le_of_ble_eq_true rfl⟩) hK hP hD hS hA hG [0, 1, 2] [3] rfl rfl rfl (by decide) (by decide) (by decide) rfl rfl rfl rfl hl.1 rfl (Nat.le_of_ble_eq_true rfl) ⟨Nat.le_of_ble_eq_true rfl, Nat.le_of_ble_eq_true rfl⟩ rfl rfl rfl rfl dL_received_3 (fun c3 H locs ce q9 hP hD hS hce hcv hcl => ?_) (fun c3 H locs hP hD hS => ?_)
  · have h := iteN c3 h
    have hP : va_P D vwCl [(h3, .inl (cJ, 1, .inr (.inl r3))), (h0, .inr (9, [.ref kp0_stream, .ref h1, .ref kp0_scratch])), (h1, .inr (6, [.ref kp0_stream, .ref kp0_session_video, .ref kp0_session_audio, .ref kp0_session_samples, .ref h2, .ref kp0_session_accounts, .ref kp0_session_line, .int v1_mode, .int v1_startThreshold, .int v1_lastRung, .int v1_lastChange, .int v1_state, .int v1_time, .int v1_position])), (h2, .inr (1, [.int v2_going, .int v2_track, .int v2_segment, .int v2_rung, .int v2_waiting, .int v2_duration, .long v2_bits, .long v2_received]))] H := hP
    have hD : va_D A [(h3, .inl (cJ, 1, .inr (.inl r3))), (h0, .inr (9, [.ref kp0_stream, .ref h1, .ref kp0_scratch])), (h1, .inr (6, [.ref kp0_stream, .ref kp0_session_video, .ref kp0_session_audio, .ref kp0_session_samples, .ref h2, .ref kp0_session_accounts, .ref kp0_session_line, .int v1_mode, .int v1_startThreshold, .int v1_lastRung, .int v1_lastChange, .int v1_state, .int v1_time, .int v1_position])), (h2, .inr (1, [.int v2_going, .int v2_track, .int v2_segment, .int v2_rung, .int v2_waiting, .int v2_duration, .long v2_bits, .long v2_received]))] := hD
    by_cases c4 : k1 = 3
    · have h := iteP c4 h
      subst c4
      refine vx_catch (name := "java/lang/IllegalStateException") (E := xE 3) (own := RL) S.2.2.2.1 [] ⟨0, 7, 10, 17⟩ [] htab (fun z hz => by cases hz) (by decide) (by decide) (S.2.2.2.2 _ tb389) (va_Nw.use rfl (hG.1 _ nb_16)) hce hcv hcl ?_
      refine W.eq (g2 := F0 m 10 ls [.ref q9]) rfl ?_
      refine lv_astore_n (lv' := [(2, .ref q9), (0, .ref h0), (1, .ref h3)]) hx hb dL_received_10 rfl hl (by decide) rfl (fun ls hl => ?_)
      refine lv_iconst (v := 1) hx hb dL_received_11 li_1 ?_
      have h := Option.some.inj h
      subst h
      exact lRi S hr hlk (Nat.le_of_ble_eq_true rfl) (Nat.le_of_ble_eq_true rfl) (hP.sub [1, 2, 3, 0] rfl) (hD.sub [1, 2, 3, 0] (by decide) rfl) hS dL_received_12
    · have h := iteN c4 h
      cases h
  · have h := iteP c3 h
    have hP : va_P D vwCl [(h3, .inl (cJ, 1, .inr (.inl r3))), (h0, .inr (9, [.ref kp0_stream, .ref h1, .ref kp0_scratch])), (h1, .inr (6, [.ref kp0_stream, .ref kp0_session_video, .ref kp0_session_audio, .ref kp0_session_samples, .ref h2, .ref kp0_session_accounts, .ref kp0_session_line, .int v1_mode, .int v1_startThreshold, .int v1_lastRung, .int v1_lastChange, .int v1_state, .int v1_time, .int v1_position])), (h2, .inr (1, [.int v2_going, .int v2_track, .int v2_segment, .int v2_rung, .int v2_waiting, .int v2_duration, .long v2_bits, .long v2_received]))] H := hP
    have hD : va_D A [(h3, .inl (cJ, 1, .inr (.inl r3))), (h0, .inr (9, [.ref kp0_stream, .ref h1, .ref kp0_scratch])), (h1, .inr (6, [.ref kp0_stream, .ref kp0_session_video, .ref kp0_session_audio, .ref kp0_session_samples, .ref h2, .ref kp0_session_accounts, .ref kp0_session_line, .int v1_mode, .int v1_startThreshold, .int v1_lastRung, .int v1_lastChange, .int v1_state, .int v1_time, .int v1_position])), (h2, .inr (1, [.int v2_going, .int v2_track, .int v2_segment, .int v2_rung, .int v2_waiting, .int v2_duration, .long v2_bits, .long v2_received]))] := hD
    refine astJ (k := 0) (q0 := 0) S hK hP hD hS rfl vl_0_1 tn_0 dL_received_6 (fun H locs hP hD hS => ?_)
    have hP : va_P D vwCl [(h3, .inl (cJ, 1, .inr (.inl (vp_updL r3 0 z2)))), (h0, .inr (9, [.ref kp0_stream, .ref h1, .ref kp0_scratch])), (h1, .inr (6, [.ref kp0_stream, .ref kp0_session_video, .ref kp0_session_audio, .ref kp0_session_samples, .ref h2, .ref kp0_session_accounts, .ref kp0_session_line, .int v1_mode, .int v1_startThreshold, .int v1_lastRung, .int v1_lastChange, .int v1_state, .int v1_time, .int v1_position])), (h2, .inr (1, [.int v2_going, .int v2_track, .int v2_segment, .int v2_rung, .int v2_waiting, .int v2_duration, .long v2_bits, .long v2_received]))] H := hP
    have hD : va_D A [(h3, .inl (cJ, 1, .inr (.inl (vp_updL r3 0 z2)))), (h0, .inr (9, [.ref kp0_stream, .ref h1, .ref kp0_scratch])), (h1, .inr (6, [.ref kp0_stream, .ref kp0_session_video, .ref kp0_session_audio, .ref kp0_session_samples, .ref h2, .ref kp0_session_accounts, .ref kp0_session_line, .int v1_mode, .int v1_startThreshold, .int v1_lastRung, .int v1_lastChange, .int v1_state, .int v1_time, .int v1_position])), (h2, .inr (1, [.int v2_going, .int v2_track, .int v2_segment, .int v2_rung, .int v2_waiting, .int v2_duration, .long v2_bits, .long v2_received]))] := hD
    obtain ⟨u5, e_u5⟩ : ∃ z, z = vp_updL r3 0 z2 := ⟨_, rfl⟩
    rw [← e_u5] at hP hD
    have h := bnd_eq e_u5.symm h
    refine lv_goto (tgt := 13) hx hb dL_received_7 (by decide) ?_
    refine lv_iconst (v := 0) hx hb dL_received_13 li_0 ?_
    have h := Option.some.inj h
    subst h
    exact lRi S hr hlk (Nat.le_of_ble_eq_true rfl) (Nat.le_of_ble_eq_true rfl) (hP.sub [1, 2, 3, 0] rfl) (hD.sub [1, 2, 3, 0] (by decide) rfl) hS dL_received_14
abbrev rm_L_estimate : Room := { frames := 9, cells := 1, slots := 6, locals := 150 }
theorem dL_estimate_0 : decode cL_estimate 0 = .ok (.aload_n 1, 1) := by decide +kernel
theorem dL_estimate_1 : decode cL_estimate 1 = .ok (.iconst 0, 1) := by decide +kernel
theorem dL_estimate_2 : decode cL_estimate 2 = .ok (.aload_n 0, 1) := by decide +kernel
theorem dL_estimate_3 : decode cL_estimate 3 = .ok (.invokevirtual 68, 3) := by decide +kernel
theorem dL_estimate_6 : decode cL_estimate 6 = .ok (.i2l, 1) := by decide +kernel
theorem dL_estimate_7 : decode cL_estimate 7 = .ok (.lastore, 1) := by decide +kernel
theorem dL_estimate_8 : decode cL_estimate 8 = .ok (.goto 6, 3) := by decide +kernel
theorem dL_estimate_11 : decode cL_estimate 11 = .ok (.astore_n 2, 1) := by decide +kernel
theorem dL_estimate_12 : decode cL_estimate 12 = .ok (.iconst 1, 1) := by decide +kernel
theorem dL_estimate_13 : decode cL_estimate 13 = .ok (.ireturn, 1) := by decide +kernel
theorem dL_estimate_14 : decode cL_estimate 14 = .ok (.iconst 0, 1) := by decide +kernel
theorem dL_estimate_15 : decode cL_estimate 15 = .ok (.ireturn, 1) := by decide +kernel
theorem cw_L_68 {R : Room} {s : State} {args : Array Value} (hts : ∀ w ∈ TB, w.before args s = true) (hR : rm_X9_estimate.frames + 1 ≤ R.frames ∧ 8 + (1 + 11) + rm_X9_estimate.locals ≤ R.locals) : CallW R s args RL RX9 68 yX9_estimate cX9_estimate 1 (some .int) (Cond.code yX9_estimate cX9_estimate 1 (some .int) :: TB) rm_X9_estimate 1 6 0 := cwV 0 hts (gV tb818 tb819 tb820 tb47 tb821) rfl rfl rfl ⟨rfl, by decide, by decide, by decide +kernel⟩ hR
def f_L_estimate (v1_state v2_kept : Int32) (r3 r4 : Nat → Int64) (r6 : Nat → Int32) (r7 : Nat → Int64) : Option (Int32 × (Nat → Int64)) :=
  bnd2 (f_X9_estimate v1_state v2_kept r3 r4 r6) fun (k1 : Nat) (y2 : Int32) =>
  if k1 = 0 then
    bnd (vp_updL r7 0 y2.toInt64) fun (u5 : Nat → Int64) =>
    some (0, u5)
  else
    if k1 = 3 then
      some (1, r7)
    else
      none
set_option maxHeartbeats 4000000 in
set_option maxRecDepth 100000 in
theorem c_L_estimate (l : Launch) (hfl : l.stackTraces = false) (ga : Nat → Nat) (D : va_G) (cI cJ cC : ClassId) (h0 h1 h2 h3 h4 h5 h6 h7 kp0_scratch kp0_session_video kp0_session_audio kp0_session_download kp0_session_accounts kp0_session_line kp0_stream_video kp0_stream_audio kp0_stream_plan : Nat) (v1_mode v1_startThreshold v1_lastRung v1_lastChange v1_state v1_time v1_position v2_kept : Int32) (r3 r4 : Nat → Int64) (r6 : Nat → Int32) (r7 : Nat → Int64) (sz : Nat)  (T : Int32 × (Nat → Int64)) (h : f_L_estimate v1_state v2_kept r3 r4 r6 r7 = some T) : Met l yL_estimate (Cond.codeWith yL_estimate cL_estimate 3 (some .int) [(0, 8, 11, 17)] :: TB) rm_L_estimate (PreX ga D cI cJ cC [(h0, .inr (9, [.ref h5, .ref h1, .ref kp0_scratch])), (h1, .inr (6, [.ref h5, .ref kp0_session_video, .ref kp0_session_audio, .ref h2, .ref kp0_session_download, .ref kp0_session_accounts, .ref kp0_session_line, .int v1_mode, .int v1_startThreshold, .int v1_lastRung, .int v1_lastChange, .int v1_state, .int v1_time, .int v1_position])), (h2, .inr (5, [.ref h3, .ref h4, .int v2_kept])), (h3, .inl (cJ, 10, .inr (.inl r3))), (h4, .inl (cJ, 10, .inr (.inl r4))), (h5, .inr (8, [.ref h6, .ref kp0_stream_video, .ref kp0_stream_audio, .ref kp0_stream_plan])), (h6, .inl (cI, 15, .inl r6)), (h7, .inl (cJ, 1, .inr (.inl r7)))] sz [.ref h0, .ref h7]) (QW (some (.int T.1)) D [(h0, .inr (9, [.ref h5, .ref h1, .ref kp0_scratch])), (h1, .inr (6, [.ref h5, .ref kp0_session_video, .ref kp0_session_audio, .ref h2, .ref kp0_session_download, .ref kp0_session_accounts, .ref kp0_session_line, .int v1_mode, .int v1_startThreshold, .int v1_lastRung, .int v1_lastChange, .int v1_state, .int v1_time, .int v1_position])), (h2, .inr (5, [.ref h3, .ref h4, .int v2_kept])), (h3, .inl (cJ, 10, .inr (.inl r3))), (h4, .inl (cJ, 10, .inr (.inl r4))), (h5, .inr (8, [.ref h6, .ref kp0_stream_video, .ref kp0_stream_audio, .ref kp0_stream_plan])), (h6, .inl (cI, 15, .inl r6)), (h7, .inl (cJ, 1, .inr (.inl T.2)))] (va_A [(h0, .inr (9, [.ref h5, .ref h1, .ref kp0_scratch])), (h1, .inr (6, [.ref h5, .ref kp0_session_video, .ref kp0_session_audio, .ref h2, .ref kp0_session_download, .ref kp0_session_accounts, .ref kp0_session_line, .int v1_mode, .int v1_startThreshold, .int v1_lastRung, .int v1_lastChange, .int v1_state, .int v1_time, .int v1_position])), (h2, .inr (5, [.ref h3, .ref h4, .int v2_kept])), (h3, .inl (cJ, 10, .inr (.inl r3))), (h4, .inl (cJ, 10, .inr (.inl r4))), (h5, .inr (8, [.ref h6, .ref kp0_stream_video, .ref kp0_stream_audio, .ref kp0_stream_plan])), (h6, .inl (cI, 15, .inl r6)), (h7, .inl (cJ, 1, .inr (.inl r7)))] sz)) 1 6 (va_A [(h0, .inr (9, [.ref h5, .ref h1, .ref kp0_scratch])), (h1, .inr (6, [.ref h5, .ref kp0_session_video, .ref kp0_session_audio, .ref h2, .ref kp0_session_download, .ref kp0_session_accounts, .ref kp0_session_line, .int v1_mode, .int v1_startThreshold, .int v1_lastRung, .int v1_lastChange, .int v1_state, .int v1_time, .int v1_position])), (h2, .inr (5, [.ref h3, .ref h4, .int v2_kept])), (h3, .inl (cJ, 10, .inr (.inl r3))), (h4, .inl (cJ, 10, .inr (.inl r4))), (h5, .inr (8, [.ref h6, .ref kp0_stream_video, .ref kp0_stream_audio, .ref kp0_stream_plan])), (h6, .inl (cI, 15, .inl r6)), (h7, .inl (cJ, 1, .inr (.inl r7)))] sz) := by
  refine metL (own := RL) (by decide) rfl (Nat.le_of_ble_eq_true rfl) ?_
  intro p e s m below meth c S hr hlk htab hP hK A hAe hD hA hS hG ls hl
  clear hAe
  have hx := S.1
  have hb := S.2.1
  have hl : lv_has ls 3 [(0, .ref h0), (1, .ref h7)] := hl
  refine lv_aload_n hx hb dL_estimate_0 rfl (lv_at hl 1 rfl) ?_
  refine lv_iconst (v := 0) hx hb dL_estimate_1 li_0 ?_
  refine lv_aload_n hx hb dL_estimate_2 rfl (lv_at hl 0 rfl) ?_
  obtain ⟨k1, y2, e_k1⟩ : ∃ a0 a1, f_X9_estimate v1_state v2_kept r3 r4 r6 = (a0, a1) := ⟨_, _, rfl⟩
  have h := bnd2_eq e_k1 h
  refine xcV (pc1 := 6) (rest := [.int 0, .ref h7]) (st1 := [.int y2, .int 0, .ref h7]) (wr := [(h7, .inl (cJ, 1, .inr (.inl r7)))]) (cells1 := 1) (slots1 := 6) S (c_X9_estimate l hfl ga D cI cJ cC h0 h1 h2 h3 h4 h5 h6 kp0_scratch kp0_session_video kp0_session_audio kp0_session_download kp0_session_accounts kp0_session_line kp0_stream_video kp0_stream_audio kp0_stream_plan v1_mode v1_startThreshold v1_lastRung v1_lastChange v1_state v1_time v1_position v2_kept r3 r4 r6 s.heap.size  (k1, y2) e_k1) (cw_L_68 S.2.2.2.2 ⟨Nat.le_of_ble_eq_true rfl, Nat.le_of_ble_eq_true rfl⟩) hK hP hD hS hA hG [0, 1, 2, 3, 4, 5, 6] [7] rfl rfl rfl (by decide) (by decide) (by decide) rfl rfl rfl rfl hl.1 rfl (Nat.le_of_ble_eq_true rfl) ⟨Nat.le_of_ble_eq_true rfl, Nat.le_of_ble_eq_true rfl⟩ rfl rfl rfl rfl dL_estimate_3 (fun c3 H locs ce q9 hP hD hS hce hcv hcl => ?_) (fun c3 H locs hP hD hS => ?_)
  · have h := iteN c3 h
    have hP : va_P D vwCl [(h7, .inl (cJ, 1, .inr (.inl r7))), (h0, .inr (9, [.ref h5, .ref h1, .ref kp0_scratch])), (h1, .inr (6, [.ref h5, .ref kp0_session_video, .ref kp0_session_audio, .ref h2, .ref kp0_session_download, .ref kp0_session_accounts, .ref kp0_session_line, .int v1_mode, .int v1_startThreshold, .int v1_lastRung, .int v1_lastChange, .int v1_state, .int v1_time, .int v1_position])), (h2, .inr (5, [.ref h3, .ref h4, .int v2_kept])), (h3, .inl (cJ, 10, .inr (.inl r3))), (h4, .inl (cJ, 10, .inr (.inl r4))), (h5, .inr (8, [.ref h6, .ref kp0_stream_video, .ref kp0_stream_audio, .ref kp0_stream_plan])), (h6, .inl (cI, 15, .inl r6))] H := hP
    have hD : va_D A [(h7, .inl (cJ, 1, .inr (.inl r7))), (h0, .inr (9, [.ref h5, .ref h1, .ref kp0_scratch])), (h1, .inr (6, [.ref h5, .ref kp0_session_video, .ref kp0_session_audio, .ref h2, .ref kp0_session_download, .ref kp0_session_accounts, .ref kp0_session_line, .int v1_mode, .int v1_startThreshold, .int v1_lastRung, .int v1_lastChange, .int v1_state, .int v1_time, .int v1_position])), (h2, .inr (5, [.ref h3, .ref h4, .int v2_kept])), (h3, .inl (cJ, 10, .inr (.inl r3))), (h4, .inl (cJ, 10, .inr (.inl r4))), (h5, .inr (8, [.ref h6, .ref kp0_stream_video, .ref kp0_stream_audio, .ref kp0_stream_plan])), (h6, .inl (cI, 15, .inl r6))] := hD
    by_cases c4 : k1 = 3
    · have h := iteP c4 h
      subst c4
      refine vx_catch (name := "java/lang/IllegalStateException") (E := xE 3) (own := RL) S.2.2.2.1 [] ⟨0, 8, 11, 17⟩ [] htab (fun z hz => by cases hz) (by decide) (by decide) (S.2.2.2.2 _ tb389) (va_Nw.use rfl (hG.1 _ nb_16)) hce hcv hcl ?_
      refine W.eq (g2 := F0 m 11 ls [.ref q9]) rfl ?_
      refine lv_astore_n (lv' := [(2, .ref q9), (0, .ref h0), (1, .ref h7)]) hx hb dL_estimate_11 rfl hl (by decide) rfl (fun ls hl => ?_)
      refine lv_iconst (v := 1) hx hb dL_estimate_12 li_1 ?_
      have h := Option.some.inj h
      subst h
      exact lRi S hr hlk (Nat.le_of_ble_eq_true rfl) (Nat.le_of_ble_eq_true rfl) (hP.sub [1, 2, 3, 4, 5, 6, 7, 0] rfl) (hD.sub [1, 2, 3, 4, 5, 6, 7, 0] (by decide) rfl) hS dL_estimate_13
    · have h := iteN c4 h
      cases h
  · have h := iteP c3 h
    have hP : va_P D vwCl [(h7, .inl (cJ, 1, .inr (.inl r7))), (h0, .inr (9, [.ref h5, .ref h1, .ref kp0_scratch])), (h1, .inr (6, [.ref h5, .ref kp0_session_video, .ref kp0_session_audio, .ref h2, .ref kp0_session_download, .ref kp0_session_accounts, .ref kp0_session_line, .int v1_mode, .int v1_startThreshold, .int v1_lastRung, .int v1_lastChange, .int v1_state, .int v1_time, .int v1_position])), (h2, .inr (5, [.ref h3, .ref h4, .int v2_kept])), (h3, .inl (cJ, 10, .inr (.inl r3))), (h4, .inl (cJ, 10, .inr (.inl r4))), (h5, .inr (8, [.ref h6, .ref kp0_stream_video, .ref kp0_stream_audio, .ref kp0_stream_plan])), (h6, .inl (cI, 15, .inl r6))] H := hP
    have hD : va_D A [(h7, .inl (cJ, 1, .inr (.inl r7))), (h0, .inr (9, [.ref h5, .ref h1, .ref kp0_scratch])), (h1, .inr (6, [.ref h5, .ref kp0_session_video, .ref kp0_session_audio, .ref h2, .ref kp0_session_download, .ref kp0_session_accounts, .ref kp0_session_line, .int v1_mode, .int v1_startThreshold, .int v1_lastRung, .int v1_lastChange, .int v1_state, .int v1_time, .int v1_position])), (h2, .inr (5, [.ref h3, .ref h4, .int v2_kept])), (h3, .inl (cJ, 10, .inr (.inl r3))), (h4, .inl (cJ, 10, .inr (.inl r4))), (h5, .inr (8, [.ref h6, .ref kp0_stream_video, .ref kp0_stream_audio, .ref kp0_stream_plan])), (h6, .inl (cI, 15, .inl r6))] := hD
    refine lv_i2l hx hb dL_estimate_6 rfl ?_
    refine astJ (k := 0) (q0 := 0) S hK hP hD hS rfl vl_0_1 tn_0 dL_estimate_7 (fun H locs hP hD hS => ?_)
    have hP : va_P D vwCl [(h7, .inl (cJ, 1, .inr (.inl (vp_updL r7 0 y2.toInt64)))), (h0, .inr (9, [.ref h5, .ref h1, .ref kp0_scratch])), (h1, .inr (6, [.ref h5, .ref kp0_session_video, .ref kp0_session_audio, .ref h2, .ref kp0_session_download, .ref kp0_session_accounts, .ref kp0_session_line, .int v1_mode, .int v1_startThreshold, .int v1_lastRung, .int v1_lastChange, .int v1_state, .int v1_time, .int v1_position])), (h2, .inr (5, [.ref h3, .ref h4, .int v2_kept])), (h3, .inl (cJ, 10, .inr (.inl r3))), (h4, .inl (cJ, 10, .inr (.inl r4))), (h5, .inr (8, [.ref h6, .ref kp0_stream_video, .ref kp0_stream_audio, .ref kp0_stream_plan])), (h6, .inl (cI, 15, .inl r6))] H := hP
    have hD : va_D A [(h7, .inl (cJ, 1, .inr (.inl (vp_updL r7 0 y2.toInt64)))), (h0, .inr (9, [.ref h5, .ref h1, .ref kp0_scratch])), (h1, .inr (6, [.ref h5, .ref kp0_session_video, .ref kp0_session_audio, .ref h2, .ref kp0_session_download, .ref kp0_session_accounts, .ref kp0_session_line, .int v1_mode, .int v1_startThreshold, .int v1_lastRung, .int v1_lastChange, .int v1_state, .int v1_time, .int v1_position])), (h2, .inr (5, [.ref h3, .ref h4, .int v2_kept])), (h3, .inl (cJ, 10, .inr (.inl r3))), (h4, .inl (cJ, 10, .inr (.inl r4))), (h5, .inr (8, [.ref h6, .ref kp0_stream_video, .ref kp0_stream_audio, .ref kp0_stream_plan])), (h6, .inl (cI, 15, .inl r6))] := hD
    obtain ⟨u5, e_u5⟩ : ∃ z, z = vp_updL r7 0 y2.toInt64 := ⟨_, rfl⟩
    rw [← e_u5] at hP hD
    have h := bnd_eq e_u5.symm h
    refine lv_goto (tgt := 14) hx hb dL_estimate_8 (by decide) ?_
    refine lv_iconst (v := 0) hx hb dL_estimate_14 li_0 ?_
    have h := Option.some.inj h
    subst h
    exact lRi S hr hlk (Nat.le_of_ble_eq_true rfl) (Nat.le_of_ble_eq_true rfl) (hP.sub [1, 2, 3, 4, 5, 6, 7, 0] rfl) (hD.sub [1, 2, 3, 4, 5, 6, 7, 0] (by decide) rfl) hS dL_estimate_15
abbrev rm_L_nextRung : Room := { frames := 9, cells := 1, slots := 6, locals := 150 }
theorem dL_nextRung_0 : decode cL_nextRung 0 = .ok (.aload_n 1, 1) := by decide +kernel
theorem dL_nextRung_1 : decode cL_nextRung 1 = .ok (.iconst 0, 1) := by decide +kernel
theorem dL_nextRung_2 : decode cL_nextRung 2 = .ok (.aload_n 0, 1) := by decide +kernel
theorem dL_nextRung_3 : decode cL_nextRung 3 = .ok (.invokevirtual 71, 3) := by decide +kernel
theorem dL_nextRung_6 : decode cL_nextRung 6 = .ok (.i2l, 1) := by decide +kernel
theorem dL_nextRung_7 : decode cL_nextRung 7 = .ok (.lastore, 1) := by decide +kernel
theorem dL_nextRung_8 : decode cL_nextRung 8 = .ok (.goto 6, 3) := by decide +kernel
theorem dL_nextRung_11 : decode cL_nextRung 11 = .ok (.astore_n 2, 1) := by decide +kernel
theorem dL_nextRung_12 : decode cL_nextRung 12 = .ok (.iconst 1, 1) := by decide +kernel
theorem dL_nextRung_13 : decode cL_nextRung 13 = .ok (.ireturn, 1) := by decide +kernel
theorem dL_nextRung_14 : decode cL_nextRung 14 = .ok (.iconst 0, 1) := by decide +kernel
theorem dL_nextRung_15 : decode cL_nextRung 15 = .ok (.ireturn, 1) := by decide +kernel
theorem cw_L_71 {R : Room} {s : State} {args : Array Value} (hts : ∀ w ∈ TB, w.before args s = true) (hR : rm_X9_nextRung.frames + 1 ≤ R.frames ∧ 8 + (1 + 11) + rm_X9_nextRung.locals ≤ R.locals) : CallW R s args RL RX9 71 yX9_nextRung cX9_nextRung 1 (some .int) (Cond.code yX9_nextRung cX9_nextRung 1 (some .int) :: TB) rm_X9_nextRung 1 6 0 := cwV 0 hts (gV tb825 tb826 tb827 tb47 tb828) rfl rfl rfl ⟨rfl, by decide, by decide, by decide +kernel⟩ hR
def f_L_nextRung (v1_mode v1_lastRung v1_lastChange v1_state v1_time v1_position v2_kept : Int32) (r3 r4 : Nat → Int64) (v5_segments : Int32) (r7 : Nat → Int32) (v8_rungs : Int32) (r9 : Nat → Int32) (r10 : Nat → Int64) : Option (Int32 × (Nat → Int64)) :=
  obnd2 (f_X9_nextRung v1_mode v1_lastRung v1_lastChange v1_state v1_time v1_position v2_kept r3 r4 v5_segments r7 v8_rungs r9) fun (k1 : Nat) (y2 : Int32) =>
  if k1 = 0 then
    bnd (vp_updL r10 0 y2.toInt64) fun (u5 : Nat → Int64) =>
    some (0, u5)
  else
    if k1 = 3 then
      some (1, r10)
    else
      none
set_option maxHeartbeats 4000000 in
set_option maxRecDepth 100000 in
theorem c_L_nextRung (l : Launch) (hfl : l.stackTraces = false) (ga : Nat → Nat) (D : va_G) (cI cJ cC : ClassId) (h0 h1 h2 h3 h4 h5 h6 h7 h8 h9 h10 kp0_scratch kp0_session_audio kp0_session_download kp0_session_accounts kp0_session_line kp0_session_video_rungs kp0_stream_audio kp0_stream_plan : Nat) (v1_mode v1_startThreshold v1_lastRung v1_lastChange v1_state v1_time v1_position v2_kept : Int32) (r3 r4 : Nat → Int64) (v5_segments : Int32) (r7 : Nat → Int32) (v8_most v8_rungs : Int32) (r9 : Nat → Int32) (r10 : Nat → Int64) (sz : Nat)  (T : Int32 × (Nat → Int64)) (h : f_L_nextRung v1_mode v1_lastRung v1_lastChange v1_state v1_time v1_position v2_kept r3 r4 v5_segments r7 v8_rungs r9 r10 = some T) : Met l yL_nextRung (Cond.codeWith yL_nextRung cL_nextRung 3 (some .int) [(0, 8, 11, 17)] :: TB) rm_L_nextRung (PreX ga D cI cJ cC [(h0, .inr (9, [.ref h6, .ref h1, .ref kp0_scratch])), (h1, .inr (6, [.ref h6, .ref h5, .ref kp0_session_audio, .ref h2, .ref kp0_session_download, .ref kp0_session_accounts, .ref kp0_session_line, .int v1_mode, .int v1_startThreshold, .int v1_lastRung, .int v1_lastChange, .int v1_state, .int v1_time, .int v1_position])), (h2, .inr (5, [.ref h3, .ref h4, .int v2_kept])), (h3, .inl (cJ, 10, .inr (.inl r3))), (h4, .inl (cJ, 10, .inr (.inl r4))), (h5, .inr (7, [.ref kp0_session_video_rungs, .int v5_segments])), (h6, .inr (8, [.ref h7, .ref h8, .ref kp0_stream_audio, .ref kp0_stream_plan])), (h7, .inl (cI, 15, .inl r7)), (h8, .inr (2, [.ref h9, .int v8_most, .int v8_rungs])), (h9, .inl (cI, 6, .inl r9)), (h10, .inl (cJ, 1, .inr (.inl r10)))] sz [.ref h0, .ref h10]) (QW (some (.int T.1)) D [(h0, .inr (9, [.ref h6, .ref h1, .ref kp0_scratch])), (h1, .inr (6, [.ref h6, .ref h5, .ref kp0_session_audio, .ref h2, .ref kp0_session_download, .ref kp0_session_accounts, .ref kp0_session_line, .int v1_mode, .int v1_startThreshold, .int v1_lastRung, .int v1_lastChange, .int v1_state, .int v1_time, .int v1_position])), (h2, .inr (5, [.ref h3, .ref h4, .int v2_kept])), (h3, .inl (cJ, 10, .inr (.inl r3))), (h4, .inl (cJ, 10, .inr (.inl r4))), (h5, .inr (7, [.ref kp0_session_video_rungs, .int v5_segments])), (h6, .inr (8, [.ref h7, .ref h8, .ref kp0_stream_audio, .ref kp0_stream_plan])), (h7, .inl (cI, 15, .inl r7)), (h8, .inr (2, [.ref h9, .int v8_most, .int v8_rungs])), (h9, .inl (cI, 6, .inl r9)), (h10, .inl (cJ, 1, .inr (.inl T.2)))] (va_A [(h0, .inr (9, [.ref h6, .ref h1, .ref kp0_scratch])), (h1, .inr (6, [.ref h6, .ref h5, .ref kp0_session_audio, .ref h2, .ref kp0_session_download, .ref kp0_session_accounts, .ref kp0_session_line, .int v1_mode, .int v1_startThreshold, .int v1_lastRung, .int v1_lastChange, .int v1_state, .int v1_time, .int v1_position])), (h2, .inr (5, [.ref h3, .ref h4, .int v2_kept])), (h3, .inl (cJ, 10, .inr (.inl r3))), (h4, .inl (cJ, 10, .inr (.inl r4))), (h5, .inr (7, [.ref kp0_session_video_rungs, .int v5_segments])), (h6, .inr (8, [.ref h7, .ref h8, .ref kp0_stream_audio, .ref kp0_stream_plan])), (h7, .inl (cI, 15, .inl r7)), (h8, .inr (2, [.ref h9, .int v8_most, .int v8_rungs])), (h9, .inl (cI, 6, .inl r9)), (h10, .inl (cJ, 1, .inr (.inl r10)))] sz)) 1 6 (va_A [(h0, .inr (9, [.ref h6, .ref h1, .ref kp0_scratch])), (h1, .inr (6, [.ref h6, .ref h5, .ref kp0_session_audio, .ref h2, .ref kp0_session_download, .ref kp0_session_accounts, .ref kp0_session_line, .int v1_mode, .int v1_startThreshold, .int v1_lastRung, .int v1_lastChange, .int v1_state, .int v1_time, .int v1_position])), (h2, .inr (5, [.ref h3, .ref h4, .int v2_kept])), (h3, .inl (cJ, 10, .inr (.inl r3))), (h4, .inl (cJ, 10, .inr (.inl r4))), (h5, .inr (7, [.ref kp0_session_video_rungs, .int v5_segments])), (h6, .inr (8, [.ref h7, .ref h8, .ref kp0_stream_audio, .ref kp0_stream_plan])), (h7, .inl (cI, 15, .inl r7)), (h8, .inr (2, [.ref h9, .int v8_most, .int v8_rungs])), (h9, .inl (cI, 6, .inl r9)), (h10, .inl (cJ, 1, .inr (.inl r10)))] sz) := by
  refine metL (own := RL) (by decide) rfl (Nat.le_of_ble_eq_true rfl) ?_
  intro p e s m below meth c S hr hlk htab hP hK A hAe hD hA hS hG ls hl
  clear hAe
  have hx := S.1
  have hb := S.2.1
  have hl : lv_has ls 3 [(0, .ref h0), (1, .ref h10)] := hl
  refine lv_aload_n hx hb dL_nextRung_0 rfl (lv_at hl 1 rfl) ?_
  refine lv_iconst (v := 0) hx hb dL_nextRung_1 li_0 ?_
  refine lv_aload_n hx hb dL_nextRung_2 rfl (lv_at hl 0 rfl) ?_
  obtain ⟨k1, y2, e_k1, h⟩ := obnd2_eq h
  refine xcV (pc1 := 6) (rest := [.int 0, .ref h10]) (st1 := [.int y2, .int 0, .ref h10]) (wr := [(h10, .inl (cJ, 1, .inr (.inl r10)))]) (cells1 := 1) (slots1 := 6) S (c_X9_nextRung l hfl ga D cI cJ cC h0 h1 h2 h3 h4 h5 h6 h7 h8 h9 kp0_scratch kp0_session_audio kp0_session_download kp0_session_accounts kp0_session_line kp0_session_video_rungs kp0_stream_audio kp0_stream_plan v1_mode v1_startThreshold v1_lastRung v1_lastChange v1_state v1_time v1_position v2_kept r3 r4 v5_segments r7 v8_most v8_rungs r9 s.heap.size  (k1, y2) e_k1) (cw_L_71 S.2.2.2.2 ⟨Nat.le_of_ble_eq_true rfl, Nat.le_of_ble_eq_true rfl⟩) hK hP hD hS hA hG [0, 1, 2, 3, 4, 5, 6, 7, 8, 9] [10] rfl rfl rfl (by decide) (by decide) (by decide) rfl rfl rfl rfl hl.1 rfl (Nat.le_of_ble_eq_true rfl) ⟨Nat.le_of_ble_eq_true rfl, Nat.le_of_ble_eq_true rfl⟩ rfl rfl rfl rfl dL_nextRung_3 (fun c3 H locs ce q9 hP hD hS hce hcv hcl => ?_) (fun c3 H locs hP hD hS => ?_)
  · have h := iteN c3 h
    have hP : va_P D vwCl [(h10, .inl (cJ, 1, .inr (.inl r10))), (h0, .inr (9, [.ref h6, .ref h1, .ref kp0_scratch])), (h1, .inr (6, [.ref h6, .ref h5, .ref kp0_session_audio, .ref h2, .ref kp0_session_download, .ref kp0_session_accounts, .ref kp0_session_line, .int v1_mode, .int v1_startThreshold, .int v1_lastRung, .int v1_lastChange, .int v1_state, .int v1_time, .int v1_position])), (h2, .inr (5, [.ref h3, .ref h4, .int v2_kept])), (h3, .inl (cJ, 10, .inr (.inl r3))), (h4, .inl (cJ, 10, .inr (.inl r4))), (h5, .inr (7, [.ref kp0_session_video_rungs, .int v5_segments])), (h6, .inr (8, [.ref h7, .ref h8, .ref kp0_stream_audio, .ref kp0_stream_plan])), (h7, .inl (cI, 15, .inl r7)), (h8, .inr (2, [.ref h9, .int v8_most, .int v8_rungs])), (h9, .inl (cI, 6, .inl r9))] H := hP
    have hD : va_D A [(h10, .inl (cJ, 1, .inr (.inl r10))), (h0, .inr (9, [.ref h6, .ref h1, .ref kp0_scratch])), (h1, .inr (6, [.ref h6, .ref h5, .ref kp0_session_audio, .ref h2, .ref kp0_session_download, .ref kp0_session_accounts, .ref kp0_session_line, .int v1_mode, .int v1_startThreshold, .int v1_lastRung, .int v1_lastChange, .int v1_state, .int v1_time, .int v1_position])), (h2, .inr (5, [.ref h3, .ref h4, .int v2_kept])), (h3, .inl (cJ, 10, .inr (.inl r3))), (h4, .inl (cJ, 10, .inr (.inl r4))), (h5, .inr (7, [.ref kp0_session_video_rungs, .int v5_segments])), (h6, .inr (8, [.ref h7, .ref h8, .ref kp0_stream_audio, .ref kp0_stream_plan])), (h7, .inl (cI, 15, .inl r7)), (h8, .inr (2, [.ref h9, .int v8_most, .int v8_rungs])), (h9, .inl (cI, 6, .inl r9))] := hD
    by_cases c4 : k1 = 3
    · have h := iteP c4 h
      subst c4
      refine vx_catch (name := "java/lang/IllegalStateException") (E := xE 3) (own := RL) S.2.2.2.1 [] ⟨0, 8, 11, 17⟩ [] htab (fun z hz => by cases hz) (by decide) (by decide) (S.2.2.2.2 _ tb389) (va_Nw.use rfl (hG.1 _ nb_16)) hce hcv hcl ?_
      refine W.eq (g2 := F0 m 11 ls [.ref q9]) rfl ?_
      refine lv_astore_n (lv' := [(2, .ref q9), (0, .ref h0), (1, .ref h10)]) hx hb dL_nextRung_11 rfl hl (by decide) rfl (fun ls hl => ?_)
      refine lv_iconst (v := 1) hx hb dL_nextRung_12 li_1 ?_
      have h := Option.some.inj h
      subst h
      exact lRi S hr hlk (Nat.le_of_ble_eq_true rfl) (Nat.le_of_ble_eq_true rfl) (hP.sub [1, 2, 3, 4, 5, 6, 7, 8, 9, 10, 0] rfl) (hD.sub [1, 2, 3, 4, 5, 6, 7, 8, 9, 10, 0] (by decide) rfl) hS dL_nextRung_13
    · have h := iteN c4 h
      cases h
  · have h := iteP c3 h
    have hP : va_P D vwCl [(h10, .inl (cJ, 1, .inr (.inl r10))), (h0, .inr (9, [.ref h6, .ref h1, .ref kp0_scratch])), (h1, .inr (6, [.ref h6, .ref h5, .ref kp0_session_audio, .ref h2, .ref kp0_session_download, .ref kp0_session_accounts, .ref kp0_session_line, .int v1_mode, .int v1_startThreshold, .int v1_lastRung, .int v1_lastChange, .int v1_state, .int v1_time, .int v1_position])), (h2, .inr (5, [.ref h3, .ref h4, .int v2_kept])), (h3, .inl (cJ, 10, .inr (.inl r3))), (h4, .inl (cJ, 10, .inr (.inl r4))), (h5, .inr (7, [.ref kp0_session_video_rungs, .int v5_segments])), (h6, .inr (8, [.ref h7, .ref h8, .ref kp0_stream_audio, .ref kp0_stream_plan])), (h7, .inl (cI, 15, .inl r7)), (h8, .inr (2, [.ref h9, .int v8_most, .int v8_rungs])), (h9, .inl (cI, 6, .inl r9))] H := hP
    have hD : va_D A [(h10, .inl (cJ, 1, .inr (.inl r10))), (h0, .inr (9, [.ref h6, .ref h1, .ref kp0_scratch])), (h1, .inr (6, [.ref h6, .ref h5, .ref kp0_session_audio, .ref h2, .ref kp0_session_download, .ref kp0_session_accounts, .ref kp0_session_line, .int v1_mode, .int v1_startThreshold, .int v1_lastRung, .int v1_lastChange, .int v1_state, .int v1_time, .int v1_position])), (h2, .inr (5, [.ref h3, .ref h4, .int v2_kept])), (h3, .inl (cJ, 10, .inr (.inl r3))), (h4, .inl (cJ, 10, .inr (.inl r4))), (h5, .inr (7, [.ref kp0_session_video_rungs, .int v5_segments])), (h6, .inr (8, [.ref h7, .ref h8, .ref kp0_stream_audio, .ref kp0_stream_plan])), (h7, .inl (cI, 15, .inl r7)), (h8, .inr (2, [.ref h9, .int v8_most, .int v8_rungs])), (h9, .inl (cI, 6, .inl r9))] := hD
    refine lv_i2l hx hb dL_nextRung_6 rfl ?_
    refine astJ (k := 0) (q0 := 0) S hK hP hD hS rfl vl_0_1 tn_0 dL_nextRung_7 (fun H locs hP hD hS => ?_)
    have hP : va_P D vwCl [(h10, .inl (cJ, 1, .inr (.inl (vp_updL r10 0 y2.toInt64)))), (h0, .inr (9, [.ref h6, .ref h1, .ref kp0_scratch])), (h1, .inr (6, [.ref h6, .ref h5, .ref kp0_session_audio, .ref h2, .ref kp0_session_download, .ref kp0_session_accounts, .ref kp0_session_line, .int v1_mode, .int v1_startThreshold, .int v1_lastRung, .int v1_lastChange, .int v1_state, .int v1_time, .int v1_position])), (h2, .inr (5, [.ref h3, .ref h4, .int v2_kept])), (h3, .inl (cJ, 10, .inr (.inl r3))), (h4, .inl (cJ, 10, .inr (.inl r4))), (h5, .inr (7, [.ref kp0_session_video_rungs, .int v5_segments])), (h6, .inr (8, [.ref h7, .ref h8, .ref kp0_stream_audio, .ref kp0_stream_plan])), (h7, .inl (cI, 15, .inl r7)), (h8, .inr (2, [.ref h9, .int v8_most, .int v8_rungs])), (h9, .inl (cI, 6, .inl r9))] H := hP
    have hD : va_D A [(h10, .inl (cJ, 1, .inr (.inl (vp_updL r10 0 y2.toInt64)))), (h0, .inr (9, [.ref h6, .ref h1, .ref kp0_scratch])), (h1, .inr (6, [.ref h6, .ref h5, .ref kp0_session_audio, .ref h2, .ref kp0_session_download, .ref kp0_session_accounts, .ref kp0_session_line, .int v1_mode, .int v1_startThreshold, .int v1_lastRung, .int v1_lastChange, .int v1_state, .int v1_time, .int v1_position])), (h2, .inr (5, [.ref h3, .ref h4, .int v2_kept])), (h3, .inl (cJ, 10, .inr (.inl r3))), (h4, .inl (cJ, 10, .inr (.inl r4))), (h5, .inr (7, [.ref kp0_session_video_rungs, .int v5_segments])), (h6, .inr (8, [.ref h7, .ref h8, .ref kp0_stream_audio, .ref kp0_stream_plan])), (h7, .inl (cI, 15, .inl r7)), (h8, .inr (2, [.ref h9, .int v8_most, .int v8_rungs])), (h9, .inl (cI, 6, .inl r9))] := hD
    obtain ⟨u5, e_u5⟩ : ∃ z, z = vp_updL r10 0 y2.toInt64 := ⟨_, rfl⟩
    rw [← e_u5] at hP hD
    have h := bnd_eq e_u5.symm h
    refine lv_goto (tgt := 14) hx hb dL_nextRung_8 (by decide) ?_
    refine lv_iconst (v := 0) hx hb dL_nextRung_14 li_0 ?_
    have h := Option.some.inj h
    subst h
    exact lRi S hr hlk (Nat.le_of_ble_eq_true rfl) (Nat.le_of_ble_eq_true rfl) (hP.sub [1, 2, 3, 4, 5, 6, 7, 8, 9, 10, 0] rfl) (hD.sub [1, 2, 3, 4, 5, 6, 7, 8, 9, 10, 0] (by decide) rfl) hS dL_nextRung_15
abbrev rm_L_latency : Room := { frames := 9, cells := 1, slots := 6, locals := 150 }
theorem dL_latency_0 : decode cL_latency 0 = .ok (.aload_n 1, 1) := by decide +kernel
theorem dL_latency_1 : decode cL_latency 1 = .ok (.iconst 0, 1) := by decide +kernel
theorem dL_latency_2 : decode cL_latency 2 = .ok (.aload_n 0, 1) := by decide +kernel
theorem dL_latency_3 : decode cL_latency 3 = .ok (.invokevirtual 74, 3) := by decide +kernel
theorem dL_latency_6 : decode cL_latency 6 = .ok (.i2l, 1) := by decide +kernel
theorem dL_latency_7 : decode cL_latency 7 = .ok (.lastore, 1) := by decide +kernel
theorem dL_latency_8 : decode cL_latency 8 = .ok (.goto 6, 3) := by decide +kernel
theorem dL_latency_11 : decode cL_latency 11 = .ok (.astore_n 2, 1) := by decide +kernel
theorem dL_latency_12 : decode cL_latency 12 = .ok (.iconst 1, 1) := by decide +kernel
theorem dL_latency_13 : decode cL_latency 13 = .ok (.ireturn, 1) := by decide +kernel
theorem dL_latency_14 : decode cL_latency 14 = .ok (.iconst 0, 1) := by decide +kernel
theorem dL_latency_15 : decode cL_latency 15 = .ok (.ireturn, 1) := by decide +kernel
theorem cw_L_74 {R : Room} {s : State} {args : Array Value} (hts : ∀ w ∈ TB, w.before args s = true) (hR : rm_X9_latency.frames + 1 ≤ R.frames ∧ 8 + (1 + 11) + rm_X9_latency.locals ≤ R.locals) : CallW R s args RL RX9 74 yX9_latency cX9_latency 1 (some .int) (Cond.code yX9_latency cX9_latency 1 (some .int) :: TB) rm_X9_latency 1 6 0 := cwV 0 hts (gV tb833 tb834 tb835 tb47 tb836) rfl rfl rfl ⟨rfl, by decide, by decide, by decide +kernel⟩ hR
def f_L_latency (v1_state v1_time v1_position : Int32) (r3 : Nat → Int32) (r4 : Nat → Int64) : Option (Int32 × (Nat → Int64)) :=
  bnd2 (f_X9_latency v1_state v1_time v1_position r3) fun (k1 : Nat) (y2 : Int32) =>
  if k1 = 0 then
    bnd (vp_updL r4 0 y2.toInt64) fun (u5 : Nat → Int64) =>
    some (0, u5)
  else
    if k1 = 3 then
      some (1, r4)
    else
      none
set_option maxHeartbeats 4000000 in
set_option maxRecDepth 100000 in
theorem c_L_latency (l : Launch) (hfl : l.stackTraces = false) (ga : Nat → Nat) (D : va_G) (cI cJ cC : ClassId) (h0 h1 h2 h3 h4 kp0_scratch kp0_session_video kp0_session_audio kp0_session_samples kp0_session_download kp0_session_accounts kp0_session_line kp0_stream_video kp0_stream_audio kp0_stream_plan : Nat) (v1_mode v1_startThreshold v1_lastRung v1_lastChange v1_state v1_time v1_position : Int32) (r3 : Nat → Int32) (r4 : Nat → Int64) (sz : Nat)  (T : Int32 × (Nat → Int64)) (h : f_L_latency v1_state v1_time v1_position r3 r4 = some T) : Met l yL_latency (Cond.codeWith yL_latency cL_latency 3 (some .int) [(0, 8, 11, 17)] :: TB) rm_L_latency (PreX ga D cI cJ cC [(h0, .inr (9, [.ref h2, .ref h1, .ref kp0_scratch])), (h1, .inr (6, [.ref h2, .ref kp0_session_video, .ref kp0_session_audio, .ref kp0_session_samples, .ref kp0_session_download, .ref kp0_session_accounts, .ref kp0_session_line, .int v1_mode, .int v1_startThreshold, .int v1_lastRung, .int v1_lastChange, .int v1_state, .int v1_time, .int v1_position])), (h2, .inr (8, [.ref h3, .ref kp0_stream_video, .ref kp0_stream_audio, .ref kp0_stream_plan])), (h3, .inl (cI, 15, .inl r3)), (h4, .inl (cJ, 1, .inr (.inl r4)))] sz [.ref h0, .ref h4]) (QW (some (.int T.1)) D [(h0, .inr (9, [.ref h2, .ref h1, .ref kp0_scratch])), (h1, .inr (6, [.ref h2, .ref kp0_session_video, .ref kp0_session_audio, .ref kp0_session_samples, .ref kp0_session_download, .ref kp0_session_accounts, .ref kp0_session_line, .int v1_mode, .int v1_startThreshold, .int v1_lastRung, .int v1_lastChange, .int v1_state, .int v1_time, .int v1_position])), (h2, .inr (8, [.ref h3, .ref kp0_stream_video, .ref kp0_stream_audio, .ref kp0_stream_plan])), (h3, .inl (cI, 15, .inl r3)), (h4, .inl (cJ, 1, .inr (.inl T.2)))] (va_A [(h0, .inr (9, [.ref h2, .ref h1, .ref kp0_scratch])), (h1, .inr (6, [.ref h2, .ref kp0_session_video, .ref kp0_session_audio, .ref kp0_session_samples, .ref kp0_session_download, .ref kp0_session_accounts, .ref kp0_session_line, .int v1_mode, .int v1_startThreshold, .int v1_lastRung, .int v1_lastChange, .int v1_state, .int v1_time, .int v1_position])), (h2, .inr (8, [.ref h3, .ref kp0_stream_video, .ref kp0_stream_audio, .ref kp0_stream_plan])), (h3, .inl (cI, 15, .inl r3)), (h4, .inl (cJ, 1, .inr (.inl r4)))] sz)) 1 6 (va_A [(h0, .inr (9, [.ref h2, .ref h1, .ref kp0_scratch])), (h1, .inr (6, [.ref h2, .ref kp0_session_video, .ref kp0_session_audio, .ref kp0_session_samples, .ref kp0_session_download, .ref kp0_session_accounts, .ref kp0_session_line, .int v1_mode, .int v1_startThreshold, .int v1_lastRung, .int v1_lastChange, .int v1_state, .int v1_time, .int v1_position])), (h2, .inr (8, [.ref h3, .ref kp0_stream_video, .ref kp0_stream_audio, .ref kp0_stream_plan])), (h3, .inl (cI, 15, .inl r3)), (h4, .inl (cJ, 1, .inr (.inl r4)))] sz) := by
  refine metL (own := RL) (by decide) rfl (Nat.le_of_ble_eq_true rfl) ?_
  intro p e s m below meth c S hr hlk htab hP hK A hAe hD hA hS hG ls hl
  clear hAe
  have hx := S.1
  have hb := S.2.1
  have hl : lv_has ls 3 [(0, .ref h0), (1, .ref h4)] := hl
  refine lv_aload_n hx hb dL_latency_0 rfl (lv_at hl 1 rfl) ?_
  refine lv_iconst (v := 0) hx hb dL_latency_1 li_0 ?_
  refine lv_aload_n hx hb dL_latency_2 rfl (lv_at hl 0 rfl) ?_
  obtain ⟨k1, y2, e_k1⟩ : ∃ a0 a1, f_X9_latency v1_state v1_time v1_position r3 = (a0, a1) := ⟨_, _, rfl⟩
  have h := bnd2_eq e_k1 h
  refine xcV (pc1 := 6) (rest := [.int 0, .ref h4]) (st1 := [.int y2, .int 0, .ref h4]) (wr := [(h4, .inl (cJ, 1, .inr (.inl r4)))]) (cells1 := 1) (slots1 := 6) S (c_X9_latency l hfl ga D cI cJ cC h0 h1 h2 h3 kp0_scratch kp0_session_video kp0_session_audio kp0_session_samples kp0_session_download kp0_session_accounts kp0_session_line kp0_stream_video kp0_stream_audio kp0_stream_plan v1_mode v1_startThreshold v1_lastRung v1_lastChange v1_state v1_time v1_position r3 s.heap.size  (k1, y2) e_k1) (cw_L_74 S.2.2.2.2 ⟨Nat.le_of_ble_eq_true rfl, Nat.le_of_ble_eq_true rfl⟩) hK hP hD hS hA hG [0, 1, 2, 3] [4] rfl rfl rfl (by decide) (by decide) (by decide) rfl rfl rfl rfl hl.1 rfl (Nat.le_of_ble_eq_true rfl) ⟨Nat.le_of_ble_eq_true rfl, Nat.le_of_ble_eq_true rfl⟩ rfl rfl rfl rfl dL_latency_3 (fun c3 H locs ce q9 hP hD hS hce hcv hcl => ?_) (fun c3 H locs hP hD hS => ?_)
  · have h := iteN c3 h
    have hP : va_P D vwCl [(h4, .inl (cJ, 1, .inr (.inl r4))), (h0, .inr (9, [.ref h2, .ref h1, .ref kp0_scratch])), (h1, .inr (6, [.ref h2, .ref kp0_session_video, .ref kp0_session_audio, .ref kp0_session_samples, .ref kp0_session_download, .ref kp0_session_accounts, .ref kp0_session_line, .int v1_mode, .int v1_startThreshold, .int v1_lastRung, .int v1_lastChange, .int v1_state, .int v1_time, .int v1_position])), (h2, .inr (8, [.ref h3, .ref kp0_stream_video, .ref kp0_stream_audio, .ref kp0_stream_plan])), (h3, .inl (cI, 15, .inl r3))] H := hP
    have hD : va_D A [(h4, .inl (cJ, 1, .inr (.inl r4))), (h0, .inr (9, [.ref h2, .ref h1, .ref kp0_scratch])), (h1, .inr (6, [.ref h2, .ref kp0_session_video, .ref kp0_session_audio, .ref kp0_session_samples, .ref kp0_session_download, .ref kp0_session_accounts, .ref kp0_session_line, .int v1_mode, .int v1_startThreshold, .int v1_lastRung, .int v1_lastChange, .int v1_state, .int v1_time, .int v1_position])), (h2, .inr (8, [.ref h3, .ref kp0_stream_video, .ref kp0_stream_audio, .ref kp0_stream_plan])), (h3, .inl (cI, 15, .inl r3))] := hD
    by_cases c4 : k1 = 3
    · have h := iteP c4 h
      subst c4
      refine vx_catch (name := "java/lang/IllegalStateException") (E := xE 3) (own := RL) S.2.2.2.1 [] ⟨0, 8, 11, 17⟩ [] htab (fun z hz => by cases hz) (by decide) (by decide) (S.2.2.2.2 _ tb389) (va_Nw.use rfl (hG.1 _ nb_16)) hce hcv hcl ?_
      refine W.eq (g2 := F0 m 11 ls [.ref q9]) rfl ?_
      refine lv_astore_n (lv' := [(2, .ref q9), (0, .ref h0), (1, .ref h4)]) hx hb dL_latency_11 rfl hl (by decide) rfl (fun ls hl => ?_)
      refine lv_iconst (v := 1) hx hb dL_latency_12 li_1 ?_
      have h := Option.some.inj h
      subst h
      exact lRi S hr hlk (Nat.le_of_ble_eq_true rfl) (Nat.le_of_ble_eq_true rfl) (hP.sub [1, 2, 3, 4, 0] rfl) (hD.sub [1, 2, 3, 4, 0] (by decide) rfl) hS dL_latency_13
    · have h := iteN c4 h
      cases h
  · have h := iteP c3 h
    have hP : va_P D vwCl [(h4, .inl (cJ, 1, .inr (.inl r4))), (h0, .inr (9, [.ref h2, .ref h1, .ref kp0_scratch])), (h1, .inr (6, [.ref h2, .ref kp0_session_video, .ref kp0_session_audio, .ref kp0_session_samples, .ref kp0_session_download, .ref kp0_session_accounts, .ref kp0_session_line, .int v1_mode, .int v1_startThreshold, .int v1_lastRung, .int v1_lastChange, .int v1_state, .int v1_time, .int v1_position])), (h2, .inr (8, [.ref h3, .ref kp0_stream_video, .ref kp0_stream_audio, .ref kp0_stream_plan])), (h3, .inl (cI, 15, .inl r3))] H := hP
    have hD : va_D A [(h4, .inl (cJ, 1, .inr (.inl r4))), (h0, .inr (9, [.ref h2, .ref h1, .ref kp0_scratch])), (h1, .inr (6, [.ref h2, .ref kp0_session_video, .ref kp0_session_audio, .ref kp0_session_samples, .ref kp0_session_download, .ref kp0_session_accounts, .ref kp0_session_line, .int v1_mode, .int v1_startThreshold, .int v1_lastRung, .int v1_lastChange, .int v1_state, .int v1_time, .int v1_position])), (h2, .inr (8, [.ref h3, .ref kp0_stream_video, .ref kp0_stream_audio, .ref kp0_stream_plan])), (h3, .inl (cI, 15, .inl r3))] := hD
    refine lv_i2l hx hb dL_latency_6 rfl ?_
    refine astJ (k := 0) (q0 := 0) S hK hP hD hS rfl vl_0_1 tn_0 dL_latency_7 (fun H locs hP hD hS => ?_)
    have hP : va_P D vwCl [(h4, .inl (cJ, 1, .inr (.inl (vp_updL r4 0 y2.toInt64)))), (h0, .inr (9, [.ref h2, .ref h1, .ref kp0_scratch])), (h1, .inr (6, [.ref h2, .ref kp0_session_video, .ref kp0_session_audio, .ref kp0_session_samples, .ref kp0_session_download, .ref kp0_session_accounts, .ref kp0_session_line, .int v1_mode, .int v1_startThreshold, .int v1_lastRung, .int v1_lastChange, .int v1_state, .int v1_time, .int v1_position])), (h2, .inr (8, [.ref h3, .ref kp0_stream_video, .ref kp0_stream_audio, .ref kp0_stream_plan])), (h3, .inl (cI, 15, .inl r3))] H := hP
    have hD : va_D A [(h4, .inl (cJ, 1, .inr (.inl (vp_updL r4 0 y2.toInt64)))), (h0, .inr (9, [.ref h2, .ref h1, .ref kp0_scratch])), (h1, .inr (6, [.ref h2, .ref kp0_session_video, .ref kp0_session_audio, .ref kp0_session_samples, .ref kp0_session_download, .ref kp0_session_accounts, .ref kp0_session_line, .int v1_mode, .int v1_startThreshold, .int v1_lastRung, .int v1_lastChange, .int v1_state, .int v1_time, .int v1_position])), (h2, .inr (8, [.ref h3, .ref kp0_stream_video, .ref kp0_stream_audio, .ref kp0_stream_plan])), (h3, .inl (cI, 15, .inl r3))] := hD
    obtain ⟨u5, e_u5⟩ : ∃ z, z = vp_updL r4 0 y2.toInt64 := ⟨_, rfl⟩
    rw [← e_u5] at hP hD
    have h := bnd_eq e_u5.symm h
    refine lv_goto (tgt := 14) hx hb dL_latency_8 (by decide) ?_
    refine lv_iconst (v := 0) hx hb dL_latency_14 li_0 ?_
    have h := Option.some.inj h
    subst h
    exact lRi S hr hlk (Nat.le_of_ble_eq_true rfl) (Nat.le_of_ble_eq_true rfl) (hP.sub [1, 2, 3, 4, 0] rfl) (hD.sub [1, 2, 3, 4, 0] (by decide) rfl) hS dL_latency_15
abbrev rm_L_spent : Room := { frames := 9, cells := 2, slots := 12, locals := 152 }
theorem dL_spent_0 : decode cL_spent 0 = .ok (.aload_n 2, 1) := by decide +kernel
theorem dL_spent_1 : decode cL_spent 1 = .ok (.iconst 0, 1) := by decide +kernel
theorem dL_spent_2 : decode cL_spent 2 = .ok (.aload_n 0, 1) := by decide +kernel
theorem dL_spent_3 : decode cL_spent 3 = .ok (.iload_n 1, 1) := by decide +kernel
theorem dL_spent_4 : decode cL_spent 4 = .ok (.invokevirtual 77, 3) := by decide +kernel
theorem dL_spent_7 : decode cL_spent 7 = .ok (.i2l, 1) := by decide +kernel
theorem dL_spent_8 : decode cL_spent 8 = .ok (.lastore, 1) := by decide +kernel
theorem dL_spent_9 : decode cL_spent 9 = .ok (.goto 9, 3) := by decide +kernel
theorem dL_spent_12 : decode cL_spent 12 = .ok (.astore_n 3, 1) := by decide +kernel
theorem dL_spent_13 : decode cL_spent 13 = .ok (.iconst 1, 1) := by decide +kernel
theorem dL_spent_14 : decode cL_spent 14 = .ok (.ireturn, 1) := by decide +kernel
theorem dL_spent_15 : decode cL_spent 15 = .ok (.astore_n 3, 1) := by decide +kernel
theorem dL_spent_16 : decode cL_spent 16 = .ok (.iconst 2, 1) := by decide +kernel
theorem dL_spent_17 : decode cL_spent 17 = .ok (.ireturn, 1) := by decide +kernel
theorem dL_spent_18 : decode cL_spent 18 = .ok (.iconst 0, 1) := by decide +kernel
theorem dL_spent_19 : decode cL_spent 19 = .ok (.ireturn, 1) := by decide +kernel
theorem cw_L_77 {R : Room} {s : State} {args : Array Value} (hts : ∀ w ∈ TB, w.before args s = true) (hR : rm_X9_spent.frames + 1 ≤ R.frames ∧ 8 + (2 + 11) + rm_X9_spent.locals ≤ R.locals) : CallW R s args RL RX9 77 yX9_spent cX9_spent 2 (some .int) (Cond.code yX9_spent cX9_spent 2 (some .int) :: TB) rm_X9_spent 2 12 1 := cwV 1 hts (gV tb842 tb843 tb844 tb47 tb845) rfl rfl rfl ⟨rfl, by decide, by decide, by decide +kernel⟩ hR
def f_L_spent (v1_state v2_startUpTime v2_stallTime v2_playTime : Int32) (r3 : Nat → Int64) (p1 : Int32) : Option (Int32 × (Nat → Int64)) :=
  bnd2 (f_X9_spent v1_state v2_startUpTime v2_stallTime v2_playTime p1) fun (k1 : Nat) (y2 : Int32) =>
  if k1 = 0 then
    bnd (vp_updL r3 0 y2.toInt64) fun (u6 : Nat → Int64) =>
    some (0, u6)
  else
    if k1 = 1 then
      some (1, r3)
    else
      if k1 = 3 then
        some (2, r3)
      else
        none
set_option maxHeartbeats 4000000 in
set_option maxRecDepth 100000 in
theorem c_L_spent (l : Launch) (hfl : l.stackTraces = false) (ga : Nat → Nat) (D : va_G) (cI cJ cC : ClassId) (h0 h1 h2 h3 kp0_stream kp0_scratch kp0_session_video kp0_session_audio kp0_session_samples kp0_session_download kp0_session_line : Nat) (v1_mode v1_startThreshold v1_lastRung v1_lastChange v1_state v1_time v1_position v2_startUpTime v2_stallTime v2_playTime v2_stalls v2_abandoned v2_finished v2_switches : Int32) (v2_wasted v2_quality : Int64) (r3 : Nat → Int64) (sz : Nat) (p1 : Int32) (T : Int32 × (Nat → Int64)) (h : f_L_spent v1_state v2_startUpTime v2_stallTime v2_playTime r3 p1 = some T) : Met l yL_spent (Cond.codeWith yL_spent cL_spent 4 (some .int) [(0, 9, 12, 13), (0, 9, 15, 17)] :: TB) rm_L_spent (PreX ga D cI cJ cC [(h0, .inr (9, [.ref kp0_stream, .ref h1, .ref kp0_scratch])), (h1, .inr (6, [.ref kp0_stream, .ref kp0_session_video, .ref kp0_session_audio, .ref kp0_session_samples, .ref kp0_session_download, .ref h2, .ref kp0_session_line, .int v1_mode, .int v1_startThreshold, .int v1_lastRung, .int v1_lastChange, .int v1_state, .int v1_time, .int v1_position])), (h2, .inr (0, [.int v2_startUpTime, .int v2_stallTime, .int v2_playTime, .int v2_stalls, .int v2_abandoned, .int v2_finished, .int v2_switches, .long v2_wasted, .long v2_quality])), (h3, .inl (cJ, 1, .inr (.inl r3)))] sz [.ref h0, .int p1, .ref h3]) (QW (some (.int T.1)) D [(h0, .inr (9, [.ref kp0_stream, .ref h1, .ref kp0_scratch])), (h1, .inr (6, [.ref kp0_stream, .ref kp0_session_video, .ref kp0_session_audio, .ref kp0_session_samples, .ref kp0_session_download, .ref h2, .ref kp0_session_line, .int v1_mode, .int v1_startThreshold, .int v1_lastRung, .int v1_lastChange, .int v1_state, .int v1_time, .int v1_position])), (h2, .inr (0, [.int v2_startUpTime, .int v2_stallTime, .int v2_playTime, .int v2_stalls, .int v2_abandoned, .int v2_finished, .int v2_switches, .long v2_wasted, .long v2_quality])), (h3, .inl (cJ, 1, .inr (.inl T.2)))] (va_A [(h0, .inr (9, [.ref kp0_stream, .ref h1, .ref kp0_scratch])), (h1, .inr (6, [.ref kp0_stream, .ref kp0_session_video, .ref kp0_session_audio, .ref kp0_session_samples, .ref kp0_session_download, .ref h2, .ref kp0_session_line, .int v1_mode, .int v1_startThreshold, .int v1_lastRung, .int v1_lastChange, .int v1_state, .int v1_time, .int v1_position])), (h2, .inr (0, [.int v2_startUpTime, .int v2_stallTime, .int v2_playTime, .int v2_stalls, .int v2_abandoned, .int v2_finished, .int v2_switches, .long v2_wasted, .long v2_quality])), (h3, .inl (cJ, 1, .inr (.inl r3)))] sz)) 2 12 (va_A [(h0, .inr (9, [.ref kp0_stream, .ref h1, .ref kp0_scratch])), (h1, .inr (6, [.ref kp0_stream, .ref kp0_session_video, .ref kp0_session_audio, .ref kp0_session_samples, .ref kp0_session_download, .ref h2, .ref kp0_session_line, .int v1_mode, .int v1_startThreshold, .int v1_lastRung, .int v1_lastChange, .int v1_state, .int v1_time, .int v1_position])), (h2, .inr (0, [.int v2_startUpTime, .int v2_stallTime, .int v2_playTime, .int v2_stalls, .int v2_abandoned, .int v2_finished, .int v2_switches, .long v2_wasted, .long v2_quality])), (h3, .inl (cJ, 1, .inr (.inl r3)))] sz) := by
  refine metL (own := RL) (by decide) rfl (Nat.le_of_ble_eq_true rfl) ?_
  intro p e s m below meth c S hr hlk htab hP hK A hAe hD hA hS hG ls hl
  clear hAe
  have hx := S.1
  have hb := S.2.1
  have hl : lv_has ls 4 [(0, .ref h0), (1, .int p1), (2, .ref h3)] := hl
  refine lv_aload_n hx hb dL_spent_0 rfl (lv_at hl 2 rfl) ?_
  refine lv_iconst (v := 0) hx hb dL_spent_1 li_0 ?_
  refine lv_aload_n hx hb dL_spent_2 rfl (lv_at hl 0 rfl) ?_
  refine lv_iload_n hx hb dL_spent_3 rfl (lv_at hl 1 rfl) ?_
  obtain ⟨k1, y2, e_k1⟩ : ∃ a0 a1, f_X9_spent v1_state v2_startUpTime v2_stallTime v2_playTime p1 = (a0, a1) := ⟨_, _, rfl⟩
  have h := bnd2_eq e_k1 h
  refine xcV (pc1 := 7) (rest := [.int 0, .ref h3]) (st1 := [.int y2, .int 0, .ref h3]) (wr := [(h3, .inl (cJ, 1, .inr (.inl r3)))]) (cells1 := 2) (slots1 := 12) S (c_X9_spent l hfl ga D cI cJ cC h0 h1 h2 kp0_stream kp0_scratch kp0_session_video kp0_session_audio kp0_session_samples kp0_session_download kp0_session_line v1_mode v1_startThreshold v1_lastRung v1_lastChange v1_state v1_time v1_position v2_startUpTime v2_stallTime v2_playTime v2_stalls v2_abandoned v2_finished v2_switches v2_wasted v2_quality s.heap.size p1 (k1, y2) e_k1) (cw_L_77 S.2.2.2.2 ⟨Nat.le_of_ble_eq_true rfl, Nat.le_of_ble_eq_true rfl⟩) hK hP hD hS hA hG [0, 1, 2] [3] rfl rfl rfl (by decide) (by decide) (by decide) rfl rfl rfl rfl hl.1 rfl (Nat.le_of_ble_eq_true rfl) ⟨Nat.le_of_ble_eq_true rfl, Nat.le_of_ble_eq_true rfl⟩ rfl rfl rfl rfl dL_spent_4 (fun c3 H locs ce q9 hP hD hS hce hcv hcl => ?_) (fun c3 H locs hP hD hS => ?_)
  · have h := iteN c3 h
    have hP : va_P D vwCl [(h3, .inl (cJ, 1, .inr (.inl r3))), (h0, .inr (9, [.ref kp0_stream, .ref h1, .ref kp0_scratch])), (h1, .inr (6, [.ref kp0_stream, .ref kp0_session_video, .ref kp0_session_audio, .ref kp0_session_samples, .ref kp0_session_download, .ref h2, .ref kp0_session_line, .int v1_mode, .int v1_startThreshold, .int v1_lastRung, .int v1_lastChange, .int v1_state, .int v1_time, .int v1_position])), (h2, .inr (0, [.int v2_startUpTime, .int v2_stallTime, .int v2_playTime, .int v2_stalls, .int v2_abandoned, .int v2_finished, .int v2_switches, .long v2_wasted, .long v2_quality]))] H := hP
    have hD : va_D A [(h3, .inl (cJ, 1, .inr (.inl r3))), (h0, .inr (9, [.ref kp0_stream, .ref h1, .ref kp0_scratch])), (h1, .inr (6, [.ref kp0_stream, .ref kp0_session_video, .ref kp0_session_audio, .ref kp0_session_samples, .ref kp0_session_download, .ref h2, .ref kp0_session_line, .int v1_mode, .int v1_startThreshold, .int v1_lastRung, .int v1_lastChange, .int v1_state, .int v1_time, .int v1_position])), (h2, .inr (0, [.int v2_startUpTime, .int v2_stallTime, .int v2_playTime, .int v2_stalls, .int v2_abandoned, .int v2_finished, .int v2_switches, .long v2_wasted, .long v2_quality]))] := hD
    by_cases c4 : k1 = 1
    · have h := iteP c4 h
      subst c4
      refine vx_catch (name := "java/lang/IndexOutOfBoundsException") (E := xE 1) (own := RL) S.2.2.2.1 [] ⟨0, 9, 12, 13⟩ [⟨0, 9, 15, 17⟩] htab (fun z hz => by cases hz) (by decide) (by decide) (S.2.2.2.2 _ tb387) (va_Nw.use rfl (hG.1 _ nb_9)) hce hcv hcl ?_
      refine W.eq (g2 := F0 m 12 ls [.ref q9]) rfl ?_
      refine lv_astore_n (lv' := [(3, .ref q9), (0, .ref h0), (1, .int p1), (2, .ref h3)]) hx hb dL_spent_12 rfl hl (by decide) rfl (fun ls hl => ?_)
      refine lv_iconst (v := 1) hx hb dL_spent_13 li_1 ?_
      have h := Option.some.inj h
      subst h
      exact lRi S hr hlk (Nat.le_of_ble_eq_true rfl) (Nat.le_of_ble_eq_true rfl) (hP.sub [1, 2, 3, 0] rfl) (hD.sub [1, 2, 3, 0] (by decide) rfl) hS dL_spent_14
    · have h := iteN c4 h
      by_cases c5 : k1 = 3
      · have h := iteP c5 h
        subst c5
        refine vx_catch (name := "java/lang/IllegalStateException") (E := xE 3) (own := RL) S.2.2.2.1 [⟨0, 9, 12, 13⟩] ⟨0, 9, 15, 17⟩ [] htab (fun z hz => by
          simp only [List.mem_cons, List.not_mem_nil, or_false] at hz
          rcases hz with rfl
          · exact Or.inr ⟨by decide, "java/lang/IndexOutOfBoundsException", S.2.2.2.2 _ tb387, hG.2.2.2.2.2.1 ("java/lang/IllegalStateException", "java/lang/IndexOutOfBoundsException") (by decide)⟩) (by decide) (by decide) (S.2.2.2.2 _ tb389) (va_Nw.use rfl (hG.1 _ nb_16)) hce hcv hcl ?_
        refine W.eq (g2 := F0 m 15 ls [.ref q9]) rfl ?_
        refine lv_astore_n (lv' := [(3, .ref q9), (0, .ref h0), (1, .int p1), (2, .ref h3)]) hx hb dL_spent_15 rfl hl (by decide) rfl (fun ls hl => ?_)
        refine lv_iconst (v := 2) hx hb dL_spent_16 li_2 ?_
        have h := Option.some.inj h
        subst h
        exact lRi S hr hlk (Nat.le_of_ble_eq_true rfl) (Nat.le_of_ble_eq_true rfl) (hP.sub [1, 2, 3, 0] rfl) (hD.sub [1, 2, 3, 0] (by decide) rfl) hS dL_spent_17
      · have h := iteN c5 h
        cases h
  · have h := iteP c3 h
    have hP : va_P D vwCl [(h3, .inl (cJ, 1, .inr (.inl r3))), (h0, .inr (9, [.ref kp0_stream, .ref h1, .ref kp0_scratch])), (h1, .inr (6, [.ref kp0_stream, .ref kp0_session_video, .ref kp0_session_audio, .ref kp0_session_samples, .ref kp0_session_download, .ref h2, .ref kp0_session_line, .int v1_mode, .int v1_startThreshold, .int v1_lastRung, .int v1_lastChange, .int v1_state, .int v1_time, .int v1_position])), (h2, .inr (0, [.int v2_startUpTime, .int v2_stallTime, .int v2_playTime, .int v2_stalls, .int v2_abandoned, .int v2_finished, .int v2_switches, .long v2_wasted, .long v2_quality]))] H := hP
    have hD : va_D A [(h3, .inl (cJ, 1, .inr (.inl r3))), (h0, .inr (9, [.ref kp0_stream, .ref h1, .ref kp0_scratch])), (h1, .inr (6, [.ref kp0_stream, .ref kp0_session_video, .ref kp0_session_audio, .ref kp0_session_samples, .ref kp0_session_download, .ref h2, .ref kp0_session_line, .int v1_mode, .int v1_startThreshold, .int v1_lastRung, .int v1_lastChange, .int v1_state, .int v1_time, .int v1_position])), (h2, .inr (0, [.int v2_startUpTime, .int v2_stallTime, .int v2_playTime, .int v2_stalls, .int v2_abandoned, .int v2_finished, .int v2_switches, .long v2_wasted, .long v2_quality]))] := hD
    refine lv_i2l hx hb dL_spent_7 rfl ?_
    refine astJ (k := 0) (q0 := 0) S hK hP hD hS rfl vl_0_1 tn_0 dL_spent_8 (fun H locs hP hD hS => ?_)
    have hP : va_P D vwCl [(h3, .inl (cJ, 1, .inr (.inl (vp_updL r3 0 y2.toInt64)))), (h0, .inr (9, [.ref kp0_stream, .ref h1, .ref kp0_scratch])), (h1, .inr (6, [.ref kp0_stream, .ref kp0_session_video, .ref kp0_session_audio, .ref kp0_session_samples, .ref kp0_session_download, .ref h2, .ref kp0_session_line, .int v1_mode, .int v1_startThreshold, .int v1_lastRung, .int v1_lastChange, .int v1_state, .int v1_time, .int v1_position])), (h2, .inr (0, [.int v2_startUpTime, .int v2_stallTime, .int v2_playTime, .int v2_stalls, .int v2_abandoned, .int v2_finished, .int v2_switches, .long v2_wasted, .long v2_quality]))] H := hP
    have hD : va_D A [(h3, .inl (cJ, 1, .inr (.inl (vp_updL r3 0 y2.toInt64)))), (h0, .inr (9, [.ref kp0_stream, .ref h1, .ref kp0_scratch])), (h1, .inr (6, [.ref kp0_stream, .ref kp0_session_video, .ref kp0_session_audio, .ref kp0_session_samples, .ref kp0_session_download, .ref h2, .ref kp0_session_line, .int v1_mode, .int v1_startThreshold, .int v1_lastRung, .int v1_lastChange, .int v1_state, .int v1_time, .int v1_position])), (h2, .inr (0, [.int v2_startUpTime, .int v2_stallTime, .int v2_playTime, .int v2_stalls, .int v2_abandoned, .int v2_finished, .int v2_switches, .long v2_wasted, .long v2_quality]))] := hD
    obtain ⟨u6, e_u6⟩ : ∃ z, z = vp_updL r3 0 y2.toInt64 := ⟨_, rfl⟩
    rw [← e_u6] at hP hD
    have h := bnd_eq e_u6.symm h
    refine lv_goto (tgt := 18) hx hb dL_spent_9 (by decide) ?_
    refine lv_iconst (v := 0) hx hb dL_spent_18 li_0 ?_
    have h := Option.some.inj h
    subst h
    exact lRi S hr hlk (Nat.le_of_ble_eq_true rfl) (Nat.le_of_ble_eq_true rfl) (hP.sub [1, 2, 3, 0] rfl) (hD.sub [1, 2, 3, 0] (by decide) rfl) hS dL_spent_19
abbrev rm_L_count : Room := { frames := 9, cells := 2, slots := 12, locals := 152 }
theorem dL_count_0 : decode cL_count 0 = .ok (.aload_n 2, 1) := by decide +kernel
theorem dL_count_1 : decode cL_count 1 = .ok (.iconst 0, 1) := by decide +kernel
theorem dL_count_2 : decode cL_count 2 = .ok (.aload_n 0, 1) := by decide +kernel
theorem dL_count_3 : decode cL_count 3 = .ok (.iload_n 1, 1) := by decide +kernel
theorem dL_count_4 : decode cL_count 4 = .ok (.invokevirtual 80, 3) := by decide +kernel
theorem dL_count_7 : decode cL_count 7 = .ok (.i2l, 1) := by decide +kernel
theorem dL_count_8 : decode cL_count 8 = .ok (.lastore, 1) := by decide +kernel
theorem dL_count_9 : decode cL_count 9 = .ok (.goto 9, 3) := by decide +kernel
theorem dL_count_12 : decode cL_count 12 = .ok (.astore_n 3, 1) := by decide +kernel
theorem dL_count_13 : decode cL_count 13 = .ok (.iconst 1, 1) := by decide +kernel
theorem dL_count_14 : decode cL_count 14 = .ok (.ireturn, 1) := by decide +kernel
theorem dL_count_15 : decode cL_count 15 = .ok (.astore_n 3, 1) := by decide +kernel
theorem dL_count_16 : decode cL_count 16 = .ok (.iconst 2, 1) := by decide +kernel
theorem dL_count_17 : decode cL_count 17 = .ok (.ireturn, 1) := by decide +kernel
theorem dL_count_18 : decode cL_count 18 = .ok (.iconst 0, 1) := by decide +kernel
theorem dL_count_19 : decode cL_count 19 = .ok (.ireturn, 1) := by decide +kernel
theorem cw_L_80 {R : Room} {s : State} {args : Array Value} (hts : ∀ w ∈ TB, w.before args s = true) (hR : rm_X9_count.frames + 1 ≤ R.frames ∧ 8 + (2 + 11) + rm_X9_count.locals ≤ R.locals) : CallW R s args RL RX9 80 yX9_count cX9_count 2 (some .int) (Cond.code yX9_count cX9_count 2 (some .int) :: TB) rm_X9_count 2 12 1 := cwV 1 hts (gV tb849 tb850 tb851 tb47 tb852) rfl rfl rfl ⟨rfl, by decide, by decide, by decide +kernel⟩ hR
def f_L_count (v1_state v2_stalls v2_abandoned v2_finished v2_switches : Int32) (r3 : Nat → Int64) (p1 : Int32) : Option (Int32 × (Nat → Int64)) :=
  bnd2 (f_X9_count v1_state v2_stalls v2_abandoned v2_finished v2_switches p1) fun (k1 : Nat) (y2 : Int32) =>
  if k1 = 0 then
    bnd (vp_updL r3 0 y2.toInt64) fun (u6 : Nat → Int64) =>
    some (0, u6)
  else
    if k1 = 1 then
      some (1, r3)
    else
      if k1 = 3 then
        some (2, r3)
      else
        none
set_option maxHeartbeats 4000000 in
set_option maxRecDepth 100000 in
theorem c_L_count (l : Launch) (hfl : l.stackTraces = false) (ga : Nat → Nat) (D : va_G) (cI cJ cC : ClassId) (h0 h1 h2 h3 kp0_stream kp0_scratch kp0_session_video kp0_session_audio kp0_session_samples kp0_session_download kp0_session_line : Nat) (v1_mode v1_startThreshold v1_lastRung v1_lastChange v1_state v1_time v1_position v2_startUpTime v2_stallTime v2_playTime v2_stalls v2_abandoned v2_finished v2_switches : Int32) (v2_wasted v2_quality : Int64) (r3 : Nat → Int64) (sz : Nat) (p1 : Int32) (T : Int32 × (Nat → Int64)) (h : f_L_count v1_state v2_stalls v2_abandoned v2_finished v2_switches r3 p1 = some T) : Met l yL_count (Cond.codeWith yL_count cL_count 4 (some .int) [(0, 9, 12, 13), (0, 9, 15, 17)] :: TB) rm_L_count (PreX ga D cI cJ cC [(h0, .inr (9, [.ref kp0_stream, .ref h1, .ref kp0_scratch])), (h1, .inr (6, [.ref kp0_stream, .ref kp0_session_video, .ref kp0_session_audio, .ref kp0_session_samples, .ref kp0_session_download, .ref h2, .ref kp0_session_line, .int v1_mode, .int v1_startThreshold, .int v1_lastRung, .int v1_lastChange, .int v1_state, .int v1_time, .int v1_position])), (h2, .inr (0, [.int v2_startUpTime, .int v2_stallTime, .int v2_playTime, .int v2_stalls, .int v2_abandoned, .int v2_finished, .int v2_switches, .long v2_wasted, .long v2_quality])), (h3, .inl (cJ, 1, .inr (.inl r3)))] sz [.ref h0, .int p1, .ref h3]) (QW (some (.int T.1)) D [(h0, .inr (9, [.ref kp0_stream, .ref h1, .ref kp0_scratch])), (h1, .inr (6, [.ref kp0_stream, .ref kp0_session_video, .ref kp0_session_audio, .ref kp0_session_samples, .ref kp0_session_download, .ref h2, .ref kp0_session_line, .int v1_mode, .int v1_startThreshold, .int v1_lastRung, .int v1_lastChange, .int v1_state, .int v1_time, .int v1_position])), (h2, .inr (0, [.int v2_startUpTime, .int v2_stallTime, .int v2_playTime, .int v2_stalls, .int v2_abandoned, .int v2_finished, .int v2_switches, .long v2_wasted, .long v2_quality])), (h3, .inl (cJ, 1, .inr (.inl T.2)))] (va_A [(h0, .inr (9, [.ref kp0_stream, .ref h1, .ref kp0_scratch])), (h1, .inr (6, [.ref kp0_stream, .ref kp0_session_video, .ref kp0_session_audio, .ref kp0_session_samples, .ref kp0_session_download, .ref h2, .ref kp0_session_line, .int v1_mode, .int v1_startThreshold, .int v1_lastRung, .int v1_lastChange, .int v1_state, .int v1_time, .int v1_position])), (h2, .inr (0, [.int v2_startUpTime, .int v2_stallTime, .int v2_playTime, .int v2_stalls, .int v2_abandoned, .int v2_finished, .int v2_switches, .long v2_wasted, .long v2_quality])), (h3, .inl (cJ, 1, .inr (.inl r3)))] sz)) 2 12 (va_A [(h0, .inr (9, [.ref kp0_stream, .ref h1, .ref kp0_scratch])), (h1, .inr (6, [.ref kp0_stream, .ref kp0_session_video, .ref kp0_session_audio, .ref kp0_session_samples, .ref kp0_session_download, .ref h2, .ref kp0_session_line, .int v1_mode, .int v1_startThreshold, .int v1_lastRung, .int v1_lastChange, .int v1_state, .int v1_time, .int v1_position])), (h2, .inr (0, [.int v2_startUpTime, .int v2_stallTime, .int v2_playTime, .int v2_stalls, .int v2_abandoned, .int v2_finished, .int v2_switches, .long v2_wasted, .long v2_quality])), (h3, .inl (cJ, 1, .inr (.inl r3)))] sz) := by
  refine metL (own := RL) (by decide) rfl (Nat.le_of_ble_eq_true rfl) ?_
  intro p e s m below meth c S hr hlk htab hP hK A hAe hD hA hS hG ls hl
  clear hAe
  have hx := S.1
  have hb := S.2.1
  have hl : lv_has ls 4 [(0, .ref h0), (1, .int p1), (2, .ref h3)] := hl
  refine lv_aload_n hx hb dL_count_0 rfl (lv_at hl 2 rfl) ?_
  refine lv_iconst (v := 0) hx hb dL_count_1 li_0 ?_
  refine lv_aload_n hx hb dL_count_2 rfl (lv_at hl 0 rfl) ?_
  refine lv_iload_n hx hb dL_count_3 rfl (lv_at hl 1 rfl) ?_
  obtain ⟨k1, y2, e_k1⟩ : ∃ a0 a1, f_X9_count v1_state v2_stalls v2_abandoned v2_finished v2_switches p1 = (a0, a1) := ⟨_, _, rfl⟩
  have h := bnd2_eq e_k1 h
  refine xcV (pc1 := 7) (rest := [.int 0, .ref h3]) (st1 := [.int y2, .int 0, .ref h3]) (wr := [(h3, .inl (cJ, 1, .inr (.inl r3)))]) (cells1 := 2) (slots1 := 12) S (c_X9_count l hfl ga D cI cJ cC h0 h1 h2 kp0_stream kp0_scratch kp0_session_video kp0_session_audio kp0_session_samples kp0_session_download kp0_session_line v1_mode v1_startThreshold v1_lastRung v1_lastChange v1_state v1_time v1_position v2_startUpTime v2_stallTime v2_playTime v2_stalls v2_abandoned v2_finished v2_switches v2_wasted v2_quality s.heap.size p1 (k1, y2) e_k1) (cw_L_80 S.2.2.2.2 ⟨Nat.le_of_ble_eq_true rfl, Nat.le_of_ble_eq_true rfl⟩) hK hP hD hS hA hG [0, 1, 2] [3] rfl rfl rfl (by decide) (by decide) (by decide) rfl rfl rfl rfl hl.1 rfl (Nat.le_of_ble_eq_true rfl) ⟨Nat.le_of_ble_eq_true rfl, Nat.le_of_ble_eq_true rfl⟩ rfl rfl rfl rfl dL_count_4 (fun c3 H locs ce q9 hP hD hS hce hcv hcl => ?_) (fun c3 H locs hP hD hS => ?_)
  · have h := iteN c3 h
    have hP : va_P D vwCl [(h3, .inl (cJ, 1, .inr (.inl r3))), (h0, .inr (9, [.ref kp0_stream, .ref h1, .ref kp0_scratch])), (h1, .inr (6, [.ref kp0_stream, .ref kp0_session_video, .ref kp0_session_audio, .ref kp0_session_samples, .ref kp0_session_download, .ref h2, .ref kp0_session_line, .int v1_mode, .int v1_startThreshold, .int v1_lastRung, .int v1_lastChange, .int v1_state, .int v1_time, .int v1_position])), (h2, .inr (0, [.int v2_startUpTime, .int v2_stallTime, .int v2_playTime, .int v2_stalls, .int v2_abandoned, .int v2_finished, .int v2_switches, .long v2_wasted, .long v2_quality]))] H := hP
    have hD : va_D A [(h3, .inl (cJ, 1, .inr (.inl r3))), (h0, .inr (9, [.ref kp0_stream, .ref h1, .ref kp0_scratch])), (h1, .inr (6, [.ref kp0_stream, .ref kp0_session_video, .ref kp0_session_audio, .ref kp0_session_samples, .ref kp0_session_download, .ref h2, .ref kp0_session_line, .int v1_mode, .int v1_startThreshold, .int v1_lastRung, .int v1_lastChange, .int v1_state, .int v1_time, .int v1_position])), (h2, .inr (0, [.int v2_startUpTime, .int v2_stallTime, .int v2_playTime, .int v2_stalls, .int v2_abandoned, .int v2_finished, .int v2_switches, .long v2_wasted, .long v2_quality]))] := hD
    by_cases c4 : k1 = 1
    · have h := iteP c4 h
      subst c4
      refine vx_catch (name := "java/lang/IndexOutOfBoundsException") (E := xE 1) (own := RL) S.2.2.2.1 [] ⟨0, 9, 12, 13⟩ [⟨0, 9, 15, 17⟩] htab (fun z hz => by cases hz) (by decide) (by decide) (S.2.2.2.2 _ tb387) (va_Nw.use rfl (hG.1 _ nb_9)) hce hcv hcl ?_
      refine W.eq (g2 := F0 m 12 ls [.ref q9]) rfl ?_
      refine lv_astore_n (lv' := [(3, .ref q9), (0, .ref h0), (1, .int p1), (2, .ref h3)]) hx hb dL_count_12 rfl hl (by decide) rfl (fun ls hl => ?_)
      refine lv_iconst (v := 1) hx hb dL_count_13 li_1 ?_
      have h := Option.some.inj h
      subst h
      exact lRi S hr hlk (Nat.le_of_ble_eq_true rfl) (Nat.le_of_ble_eq_true rfl) (hP.sub [1, 2, 3, 0] rfl) (hD.sub [1, 2, 3, 0] (by decide) rfl) hS dL_count_14
    · have h := iteN c4 h
      by_cases c5 : k1 = 3
      · have h := iteP c5 h
        subst c5
        refine vx_catch (name := "java/lang/IllegalStateException") (E := xE 3) (own := RL) S.2.2.2.1 [⟨0, 9, 12, 13⟩] ⟨0, 9, 15, 17⟩ [] htab (fun z hz => by
          simp only [List.mem_cons, List.not_mem_nil, or_false] at hz
          rcases hz with rfl
          · exact Or.inr ⟨by decide, "java/lang/IndexOutOfBoundsException", S.2.2.2.2 _ tb387, hG.2.2.2.2.2.1 ("java/lang/IllegalStateException", "java/lang/IndexOutOfBoundsException") (by decide)⟩) (by decide) (by decide) (S.2.2.2.2 _ tb389) (va_Nw.use rfl (hG.1 _ nb_16)) hce hcv hcl ?_
        refine W.eq (g2 := F0 m 15 ls [.ref q9]) rfl ?_
        refine lv_astore_n (lv' := [(3, .ref q9), (0, .ref h0), (1, .int p1), (2, .ref h3)]) hx hb dL_count_15 rfl hl (by decide) rfl (fun ls hl => ?_)
        refine lv_iconst (v := 2) hx hb dL_count_16 li_2 ?_
        have h := Option.some.inj h
        subst h
        exact lRi S hr hlk (Nat.le_of_ble_eq_true rfl) (Nat.le_of_ble_eq_true rfl) (hP.sub [1, 2, 3, 0] rfl) (hD.sub [1, 2, 3, 0] (by decide) rfl) hS dL_count_17
      · have h := iteN c5 h
        cases h
  · have h := iteP c3 h
    have hP : va_P D vwCl [(h3, .inl (cJ, 1, .inr (.inl r3))), (h0, .inr (9, [.ref kp0_stream, .ref h1, .ref kp0_scratch])), (h1, .inr (6, [.ref kp0_stream, .ref kp0_session_video, .ref kp0_session_audio, .ref kp0_session_samples, .ref kp0_session_download, .ref h2, .ref kp0_session_line, .int v1_mode, .int v1_startThreshold, .int v1_lastRung, .int v1_lastChange, .int v1_state, .int v1_time, .int v1_position])), (h2, .inr (0, [.int v2_startUpTime, .int v2_stallTime, .int v2_playTime, .int v2_stalls, .int v2_abandoned, .int v2_finished, .int v2_switches, .long v2_wasted, .long v2_quality]))] H := hP
    have hD : va_D A [(h3, .inl (cJ, 1, .inr (.inl r3))), (h0, .inr (9, [.ref kp0_stream, .ref h1, .ref kp0_scratch])), (h1, .inr (6, [.ref kp0_stream, .ref kp0_session_video, .ref kp0_session_audio, .ref kp0_session_samples, .ref kp0_session_download, .ref h2, .ref kp0_session_line, .int v1_mode, .int v1_startThreshold, .int v1_lastRung, .int v1_lastChange, .int v1_state, .int v1_time, .int v1_position])), (h2, .inr (0, [.int v2_startUpTime, .int v2_stallTime, .int v2_playTime, .int v2_stalls, .int v2_abandoned, .int v2_finished, .int v2_switches, .long v2_wasted, .long v2_quality]))] := hD
    refine lv_i2l hx hb dL_count_7 rfl ?_
    refine astJ (k := 0) (q0 := 0) S hK hP hD hS rfl vl_0_1 tn_0 dL_count_8 (fun H locs hP hD hS => ?_)
    have hP : va_P D vwCl [(h3, .inl (cJ, 1, .inr (.inl (vp_updL r3 0 y2.toInt64)))), (h0, .inr (9, [.ref kp0_stream, .ref h1, .ref kp0_scratch])), (h1, .inr (6, [.ref kp0_stream, .ref kp0_session_video, .ref kp0_session_audio, .ref kp0_session_samples, .ref kp0_session_download, .ref h2, .ref kp0_session_line, .int v1_mode, .int v1_startThreshold, .int v1_lastRung, .int v1_lastChange, .int v1_state, .int v1_time, .int v1_position])), (h2, .inr (0, [.int v2_startUpTime, .int v2_stallTime, .int v2_playTime, .int v2_stalls, .int v2_abandoned, .int v2_finished, .int v2_switches, .long v2_wasted, .long v2_quality]))] H := hP
    have hD : va_D A [(h3, .inl (cJ, 1, .inr (.inl (vp_updL r3 0 y2.toInt64)))), (h0, .inr (9, [.ref kp0_stream, .ref h1, .ref kp0_scratch])), (h1, .inr (6, [.ref kp0_stream, .ref kp0_session_video, .ref kp0_session_audio, .ref kp0_session_samples, .ref kp0_session_download, .ref h2, .ref kp0_session_line, .int v1_mode, .int v1_startThreshold, .int v1_lastRung, .int v1_lastChange, .int v1_state, .int v1_time, .int v1_position])), (h2, .inr (0, [.int v2_startUpTime, .int v2_stallTime, .int v2_playTime, .int v2_stalls, .int v2_abandoned, .int v2_finished, .int v2_switches, .long v2_wasted, .long v2_quality]))] := hD
    obtain ⟨u6, e_u6⟩ : ∃ z, z = vp_updL r3 0 y2.toInt64 := ⟨_, rfl⟩
    rw [← e_u6] at hP hD
    have h := bnd_eq e_u6.symm h
    refine lv_goto (tgt := 18) hx hb dL_count_9 (by decide) ?_
    refine lv_iconst (v := 0) hx hb dL_count_18 li_0 ?_
    have h := Option.some.inj h
    subst h
    exact lRi S hr hlk (Nat.le_of_ble_eq_true rfl) (Nat.le_of_ble_eq_true rfl) (hP.sub [1, 2, 3, 0] rfl) (hD.sub [1, 2, 3, 0] (by decide) rfl) hS dL_count_19
