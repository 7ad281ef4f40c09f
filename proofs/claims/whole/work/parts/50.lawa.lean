/-! the law: its helpers' calls, its counter, its end -/
section LWL
variable {p : Program} {l : Launch} {e : Env} {R : Room} {s : State} {m : MethodId} {args : Array Value} {below : List Frame} {meth : Method} {c : Code} {H : Heap} {locs : List Loc} {cells slots cells1 slots1 mc ms : Nat} {Q : State → Prop} {cc : ByteArray} {pc nL : Nat} {ls : Array Slot} {rest : List Value} {D : va_G} {ws wc wr W1 : va_W} {cI cJ cC : ClassId} {own : String} {A : Nat → Prop} {ga : Nat → Nat}
variable {y : MethodName} {bytes : ByteArray} {maxL n index : Nat} {ret : Option FieldType} {rm : Room} {As st : List Value} {v : Option Value} {cs : List Cond} {hh : List (Nat × Nat × Nat × Nat)}
theorem lcS (S : CallFix p m c cc nL s args TB own) (hM : Met l y cs rm (PreX ga D cI cJ cC wc H.size As) (QW v D W1 (va_A wc H.size)) mc ms (va_A wc H.size)) (cw : vx_CSW R s args own index y bytes maxL ret hh cs rm mc ms n) (hK : va_K D vwCl (ty3 cI cJ cC) s) (hP : va_P D vwCl ws H) (hD : va_D A ws) (hS : va_S A s.heap H locs) (hA : ∀ q : Nat, s.heap.size ≤ q → A q) (hG : GX ga A s) (isC isR : List Nat) (hs : isC.filterMap (fun i => ws[i]?) = wc) (hC : isC.map (fun i => ws[i]?) = wc.map some) (hR : isR.map (fun i => ws[i]?) = wr.map some) (hnC : va_nd isC = true) (hnR : va_nd isR = true) (hdis : ∀ i ∈ isR, i ∉ isC)
    (hn : As.length = n) (hl : ls.size = nL) (hst : st = As.reverse ++ rest) (hW : (rest.map fun v => v.category).sum ≤ 8) (hf : cells + mc ≤ R.cells ∧ slots + ms ≤ R.slots) {pc1 : Nat} {st1 : List Value} (hpc : pc + 3 = pc1) (hst1 : v.toList ++ rest = st1) (hc1 : cells + mc = cells1) (hs1 : slots + ms = slots1) (hdg : decode cc pc = .ok (.invokestatic index, 3))
    (kk : ∀ (H1 : Heap) (locs1 : List Loc), va_P D vwCl (wr ++ W1) H1 → va_D A (wr ++ W1) → va_S A s.heap H1 locs1 → W p l e R s m args below meth c H1 locs1 cells1 slots1 Q (F0 m pc1 ls st1)) : W p l e R s m args below meth c H locs cells slots Q (F0 m pc ls st) := by
  subst hpc; subst hst1; subst hc1; subst hs1
  have hPc := hP.sub isC hs
  have hDc := hD.sub isC hnC hC
  have hF := va_free (wc := wc) hD hS hA isC hC
  have hr := vx_runSW (H := H) (locs := locs) (cells := cells) (slots := slots) (g := F0 m pc ls st) (rest := rest) (e := e) (below := below) (meth := meth) S hM cw ⟨fbX, fun U hU hW => ⟨rfl, by rw [hU], by rw [hU]; exact hPc, va_K.moved hW.alike hK, hDc.weaken (fun _ _ _ _ => trivial), hG.call hS hF hW hU⟩⟩ rfl hn hl hst (lv_room hW) hdg hf
  intro T hT X
  obtain ⟨v', st₀, t, T', L, h0, X', hL, e1, e2, ⟨hv, hb, hFr⟩, stp⟩ := hr T hT X
  cases hv
  obtain ⟨k1, k2, k3⟩ := vx_keep h0 e1 hS (fun q _ h => hF q h) hF hL hFr
  obtain ⟨hP1, hD1⟩ := va_join (wr := wr) (w1 := W1) hP hD isC isR hC hR hnR hdis k2 hF (by rw [e1]; exact hb.1) hb.2
  obtain ⟨t2, a1, b1⟩ := kk T'.heap (locs ++ L) hP1 hD1 k3 T' rfl X'
  exact ⟨t2, stp t2 a1, b1⟩
theorem lwf {a b : Nat} (h : a ≤ 3000) (h2 : b ≤ 20000) : a ≤ room_1.cells ∧ b ≤ room_1.slots := ⟨Nat.le_trans h (Nat.le_of_ble_eq_true rfl), Nat.le_trans h2 (Nat.le_of_ble_eq_true rfl)⟩
abbrev lwmu (L : Nat) (i : Int32) : Nat := ((L : Int) - i.toInt).toNat
def lwcy (L n cells slots : Nat) (i : Int32) : Prop := 0 ≤ i + 4 ∧ lwmu L (i + 4) < n ∧ cells + 4 + lwmu L (i + 4) ≤ 3000 ∧ slots + 24 + 6 * lwmu L (i + 4) ≤ 20000 ∧ vp_in i L ∧ vp_in (i + 1) L ∧ vp_in (i + 2) L ∧ vp_in (i + 3) L
theorem lw_nx {L n cells slots : Nat} {i : Int32} (h0 : 0 ≤ i) (hc : ¬ Int32.ofNat L - 4 < i) (hL : L ≤ 2048) (hmu : lwmu L i < n + 1) (hcc : cells + lwmu L i ≤ 3000) (hcs : slots + 6 * lwmu L i ≤ 20000) : lwcy L n cells slots i := by
  have e0 : (0 : Int32).toInt = 0 := rfl
  have eL : (Int32.ofNat L).toInt = (L : Int) := nI_toInt (by omega)
  have e4 : (Int32.ofNat L - 4).toInt = (L : Int) - 4 := by
    rw [Int32.toInt_sub, eL, show (4 : Int32).toInt = 4 from rfl]
    exact Int.bmod_eq_of_le (by omega) (by omega)
  have h1 : i.toInt ≤ (L : Int) - 4 := by
    rw [Int32.lt_iff_toInt_lt, e4] at hc; omega
  rw [Int32.le_iff_toInt_le, e0] at h0
  have ad : ∀ k : Int32, 0 ≤ k.toInt → k.toInt ≤ 4 → (i + k).toInt = i.toInt + k.toInt := fun k q1 q2 => by
    rw [Int32.toInt_add]
    exact Int.bmod_eq_of_le (by omega) (by omega)
  have a1 := ad 1 (by decide) (by decide)
  have a2 := ad 2 (by decide) (by decide)
  have a3 := ad 3 (by decide) (by decide)
  have a4 := ad 4 (by decide) (by decide)
  have b1 : (1 : Int32).toInt = 1 := rfl
  have b2 : (2 : Int32).toInt = 2 := rfl
  have b3 : (3 : Int32).toInt = 3 := rfl
  have b4 : (4 : Int32).toInt = 4 := rfl
  unfold lwcy
  unfold lwmu at *
  rw [Int32.le_iff_toInt_le, e0, a4, b4]
  refine ⟨by omega, by omega, by omega, by omega, vp_in_iff.mpr ⟨by omega, by omega⟩, vp_in_iff.mpr ⟨by omega, by omega⟩, vp_in_iff.mpr ⟨by omega, by omega⟩, vp_in_iff.mpr ⟨by omega, by omega⟩⟩
end LWL

abbrev rm_L_setParameter : Room := { frames := 9, cells := 3, slots := 18, locals := 153 }
theorem dL_setParameter_0 : decode cL_setParameter 0 = .ok (.aload_n 3, 1) := by decide +kernel
theorem dL_setParameter_1 : decode cL_setParameter 1 = .ok (.iconst 0, 1) := by decide +kernel
theorem dL_setParameter_2 : decode cL_setParameter 2 = .ok (.aload_n 0, 1) := by decide +kernel
theorem dL_setParameter_3 : decode cL_setParameter 3 = .ok (.iload_n 1, 1) := by decide +kernel
theorem dL_setParameter_4 : decode cL_setParameter 4 = .ok (.iload_n 2, 1) := by decide +kernel
theorem dL_setParameter_5 : decode cL_setParameter 5 = .ok (.invokevirtual 7, 3) := by decide +kernel
theorem dL_setParameter_8 : decode cL_setParameter 8 = .ok (.i2l, 1) := by decide +kernel
theorem dL_setParameter_9 : decode cL_setParameter 9 = .ok (.lastore, 1) := by decide +kernel
theorem dL_setParameter_10 : decode cL_setParameter 10 = .ok (.goto 15, 3) := by decide +kernel
theorem dL_setParameter_13 : decode cL_setParameter 13 = .ok (.astore 4, 2) := by decide +kernel
theorem dL_setParameter_15 : decode cL_setParameter 15 = .ok (.iconst 1, 1) := by decide +kernel
theorem dL_setParameter_16 : decode cL_setParameter 16 = .ok (.ireturn, 1) := by decide +kernel
theorem dL_setParameter_17 : decode cL_setParameter 17 = .ok (.astore 4, 2) := by decide +kernel
theorem dL_setParameter_19 : decode cL_setParameter 19 = .ok (.iconst 2, 1) := by decide +kernel
theorem dL_setParameter_20 : decode cL_setParameter 20 = .ok (.ireturn, 1) := by decide +kernel
theorem dL_setParameter_21 : decode cL_setParameter 21 = .ok (.astore 4, 2) := by decide +kernel
theorem dL_setParameter_23 : decode cL_setParameter 23 = .ok (.iconst 3, 1) := by decide +kernel
theorem dL_setParameter_24 : decode cL_setParameter 24 = .ok (.ireturn, 1) := by decide +kernel
theorem dL_setParameter_25 : decode cL_setParameter 25 = .ok (.iconst 0, 1) := by decide +kernel
theorem dL_setParameter_26 : decode cL_setParameter 26 = .ok (.ireturn, 1) := by decide +kernel
theorem cw_L_7 {R : Room} {s : State} {args : Array Value} (hts : ∀ w ∈ TB, w.before args s = true) (hR : rm_X9_setParameter.frames + 1 ≤ R.frames ∧ 8 + (3 + 11) + rm_X9_setParameter.locals ≤ R.locals) : CallW R s args RL RX9 7 yX9_setParameter cX9_setParameter 3 (some .int) (Cond.code yX9_setParameter cX9_setParameter 3 (some .int) :: TB) rm_X9_setParameter 3 18 2 := cwV 2 hts (gV tb390 tb391 tb392 tb47 tb393) rfl rfl rfl ⟨rfl, by decide, by decide, by decide +kernel⟩ hR
def f_L_setParameter (v1_state : Int32) (r3 : Nat → Int32) (r4 : Nat → Int64) (p1 p2 : Int32) : Option (Int32 × (Nat → Int32) × (Nat → Int64)) :=
  bnd3 (f_X9_setParameter v1_state r3 p1 p2) fun (k1 : Nat) (y2 : Int32) (u3 : Nat → Int32) =>
  if k1 = 0 then
    bnd (vp_updL r4 0 y2.toInt64) fun (u8 : Nat → Int64) =>
    some (0, u3, u8)
  else
    if k1 = 1 then
      some (1, u3, r4)
    else
      if k1 = 2 then
        some (2, u3, r4)
      else
        if k1 = 3 then
          some (3, u3, r4)
        else
          none
set_option maxHeartbeats 4000000 in
set_option maxRecDepth 100000 in
theorem c_L_setParameter (l : Launch) (hfl : l.stackTraces = false) (ga : Nat → Nat) (D : va_G) (cI cJ cC : ClassId) (h0 h1 h2 h3 h4 kp0_scratch kp0_session_video kp0_session_audio kp0_session_samples kp0_session_download kp0_session_accounts kp0_session_line kp0_stream_video kp0_stream_audio kp0_stream_plan : Nat) (v1_mode v1_startThreshold v1_lastRung v1_lastChange v1_state v1_time v1_position : Int32) (r3 : Nat → Int32) (r4 : Nat → Int64) (sz : Nat) (p1 p2 : Int32) (T : Int32 × (Nat → Int32) × (Nat → Int64)) (h : f_L_setParameter v1_state r3 r4 p1 p2 = some T) : Met l yL_setParameter (Cond.codeWith yL_setParameter cL_setParameter 5 (some .int) [(0, 10, 13, 13), (0, 10, 17, 15), (0, 10, 21, 17)] :: TB) rm_L_setParameter (PreX ga D cI cJ cC [(h0, .inr (9, [.ref h2, .ref h1, .ref kp0_scratch])), (h1, .inr (6, [.ref h2, .ref kp0_session_video, .ref kp0_session_audio, .ref kp0_session_samples, .ref kp0_session_download, .ref kp0_session_accounts, .ref kp0_session_line, .int v1_mode, .int v1_startThreshold, .int v1_lastRung, .int v1_lastChange, .int v1_state, .int v1_time, .int v1_position])), (h2, .inr (8, [.ref h3, .ref kp0_stream_video, .ref kp0_stream_audio, .ref kp0_stream_plan])), (h3, .inl (cI, 15, .inl r3)), (h4, .inl (cJ, 1, .inr (.inl r4)))] sz [.ref h0, .int p1, .int p2, .ref h4]) (QW (some (.int T.1)) D [(h0, .inr (9, [.ref h2, .ref h1, .ref kp0_scratch])), (h1, .inr (6, [.ref h2, .ref kp0_session_video, .ref kp0_session_audio, .ref kp0_session_samples, .ref kp0_session_download, .ref kp0_session_accounts, .ref kp0_session_line, .int v1_mode, .int v1_startThreshold, .int v1_lastRung, .int v1_lastChange, .int v1_state, .int v1_time, .int v1_position])), (h2, .inr (8, [.ref h3, .ref kp0_stream_video, .ref kp0_stream_audio, .ref kp0_stream_plan])), (h3, .inl (cI, 15, .inl T.2.1)), (h4, .inl (cJ, 1, .inr (.inl T.2.2)))] (va_A [(h0, .inr (9, [.ref h2, .ref h1, .ref kp0_scratch])), (h1, .inr (6, [.ref h2, .ref kp0_session_video, .ref kp0_session_audio, .ref kp0_session_samples, .ref kp0_session_download, .ref kp0_session_accounts, .ref kp0_session_line, .int v1_mode, .int v1_startThreshold, .int v1_lastRung, .int v1_lastChange, .int v1_state, .int v1_time, .int v1_position])), (h2, .inr (8, [.ref h3, .ref kp0_stream_video, .ref kp0_stream_audio, .ref kp0_stream_plan])), (h3, .inl (cI, 15, .inl r3)), (h4, .inl (cJ, 1, .inr (.inl r4)))] sz)) 3 18 (va_A [(h0, .inr (9, [.ref h2, .ref h1, .ref kp0_scratch])), (h1, .inr (6, [.ref h2, .ref kp0_session_video, .ref kp0_session_audio, .ref kp0_session_samples, .ref kp0_session_download, .ref kp0_session_accounts, .ref kp0_session_line, .int v1_mode, .int v1_startThreshold, .int v1_lastRung, .int v1_lastChange, .int v1_state, .int v1_time, .int v1_position])), (h2, .inr (8, [.ref h3, .ref kp0_stream_video, .ref kp0_stream_audio, .ref kp0_stream_plan])), (h3, .inl (cI, 15, .inl r3)), (h4, .inl (cJ, 1, .inr (.inl r4)))] sz) := by
  refine metL (own := RL) (by decide) rfl (Nat.le_of_ble_eq_true rfl) ?_
  intro p e s m below meth c S hr hlk htab hP hK A hAe hD hA hS hG ls hl
  clear hAe
  have hx := S.1
  have hb := S.2.1
  have hl : lv_has ls 5 [(0, .ref h0), (1, .int p1), (2, .int p2), (3, .ref h4)] := hl
  refine lv_aload_n hx hb dL_setParameter_0 rfl (lv_at hl 3 rfl) ?_
  refine lv_iconst (v := 0) hx hb dL_setParameter_1 li_0 ?_
  refine lv_aload_n hx hb dL_setParameter_2 rfl (lv_at hl 0 rfl) ?_
  refine lv_iload_n hx hb dL_setParameter_3 rfl (lv_at hl 1 rfl) ?_
  refine lv_iload_n hx hb dL_setParameter_4 rfl (lv_at hl 2 rfl) ?_
  obtain ⟨k1, y2, u3, e_k1⟩ : ∃ a0 a1 a2, f_X9_setParameter v1_state r3 p1 p2 = (a0, a1, a2) := ⟨_, _, _, rfl⟩
  have h := bnd3_eq e_k1 h
  refine xcV (pc1 := 8) (rest := [.int 0, .ref h4]) (st1 := [.int y2, .int 0, .ref h4]) (wr := [(h4, .inl (cJ, 1, .inr (.inl r4)))]) (cells1 := 3) (slots1 := 18) S (c_X9_setParameter l hfl ga D cI cJ cC h0 h1 h2 h3 kp0_scratch kp0_session_video kp0_session_audio kp0_session_samples kp0_session_download kp0_session_accounts kp0_session_line kp0_stream_video kp0_stream_audio kp0_stream_plan v1_mode v1_startThreshold v1_lastRung v1_lastChange v1_state v1_time v1_position r3 s.heap.size p1 p2 (k1, y2, u3) e_k1) (cw_L_7 S.2.2.2.2 ⟨Nat.le_of_ble_eq_true rfl, Nat.le_of_ble_eq_true rfl⟩) hK hP hD hS hA hG [0, 1, 2, 3] [4] rfl rfl rfl (by decide) (by decide) (by decide) rfl rfl rfl rfl hl.1 rfl (Nat.le_of_ble_eq_true rfl) ⟨Nat.le_of_ble_eq_true rfl, Nat.le_of_ble_eq_true rfl⟩ rfl rfl rfl rfl dL_setParameter_5 (fun c4 H locs ce q9 hP hD hS hce hcv hcl => ?_) (fun c4 H locs hP hD hS => ?_)
  · have h := iteN c4 h
    have hP : va_P D vwCl [(h4, .inl (cJ, 1, .inr (.inl r4))), (h0, .inr (9, [.ref h2, .ref h1, .ref kp0_scratch])), (h1, .inr (6, [.ref h2, .ref kp0_session_video, .ref kp0_session_audio, .ref kp0_session_samples, .ref kp0_session_download, .ref kp0_session_accounts, .ref kp0_session_line, .int v1_mode, .int v1_startThreshold, .int v1_lastRung, .int v1_lastChange, .int v1_state, .int v1_time, .int v1_position])), (h2, .inr (8, [.ref h3, .ref kp0_stream_video, .ref kp0_stream_audio, .ref kp0_stream_plan])), (h3, .inl (cI, 15, .inl u3))] H := hP
    have hD : va_D A [(h4, .inl (cJ, 1, .inr (.inl r4))), (h0, .inr (9, [.ref h2, .ref h1, .ref kp0_scratch])), (h1, .inr (6, [.ref h2, .ref kp0_session_video, .ref kp0_session_audio, .ref kp0_session_samples, .ref kp0_session_download, .ref kp0_session_accounts, .ref kp0_session_line, .int v1_mode, .int v1_startThreshold, .int v1_lastRung, .int v1_lastChange, .int v1_state, .int v1_time, .int v1_position])), (h2, .inr (8, [.ref h3, .ref kp0_stream_video, .ref kp0_stream_audio, .ref kp0_stream_plan])), (h3, .inl (cI, 15, .inl u3))] := hD
    by_cases c5 : k1 = 1
    · have h := iteP c5 h
      subst c5
      refine vx_catch (name := "java/lang/IndexOutOfBoundsException") (E := xE 1) (own := RL) S.2.2.2.1 [] ⟨0, 10, 13, 13⟩ [⟨0, 10, 17, 15⟩, ⟨0, 10, 21, 17⟩] htab (fun z hz => by cases hz) (by decide) (by decide) (S.2.2.2.2 _ tb387) (va_Nw.use rfl (hG.1 _ nb_9)) hce hcv hcl ?_
      refine W.eq (g2 := F0 m 13 ls [.ref q9]) rfl ?_
      refine lv_astore (lv' := [(4, .ref q9), (0, .ref h0), (1, .int p1), (2, .int p2), (3, .ref h4)]) hx hb dL_setParameter_13 hl (by decide) rfl (fun ls hl => ?_)
      refine lv_iconst (v := 1) hx hb dL_setParameter_15 li_1 ?_
      have h := Option.some.inj h
      subst h
      exact lRi S hr hlk (Nat.le_of_ble_eq_true rfl) (Nat.le_of_ble_eq_true rfl) (hP.sub [1, 2, 3, 4, 0] rfl) (hD.sub [1, 2, 3, 4, 0] (by decide) rfl) hS dL_setParameter_16
    · have h := iteN c5 h
      by_cases c6 : k1 = 2
      · have h := iteP c6 h
        subst c6
        refine vx_catch (name := "java/lang/IllegalArgumentException") (E := xE 2) (own := RL) S.2.2.2.1 [⟨0, 10, 13, 13⟩] ⟨0, 10, 17, 15⟩ [⟨0, 10, 21, 17⟩] htab (fun z hz => by
          simp only [List.mem_cons, List.not_mem_nil, or_false] at hz
          rcases hz with rfl
          · exact Or.inr ⟨by decide, "java/lang/IndexOutOfBoundsException", S.2.2.2.2 _ tb387, hG.2.2.2.2.2.1 ("java/lang/IllegalArgumentException", "java/lang/IndexOutOfBoundsException") (by decide)⟩) (by decide) (by decide) (S.2.2.2.2 _ tb388) (va_Nw.use rfl (hG.1 _ nb_15)) hce hcv hcl ?_
        refine W.eq (g2 := F0 m 17 ls [.ref q9]) rfl ?_
        refine lv_astore (lv' := [(4, .ref q9), (0, .ref h0), (1, .int p1), (2, .int p2), (3, .ref h4)]) hx hb dL_setParameter_17 hl (by decide) rfl (fun ls hl => ?_)
        refine lv_iconst (v := 2) hx hb dL_setParameter_19 li_2 ?_
        have h := Option.some.inj h
        subst h
        exact lRi S hr hlk (Nat.le_of_ble_eq_true rfl) (Nat.le_of_ble_eq_true rfl) (hP.sub [1, 2, 3, 4, 0] rfl) (hD.sub [1, 2, 3, 4, 0] (by decide) rfl) hS dL_setParameter_20
      · have h := iteN c6 h
        by_cases c7 : k1 = 3
        · have h := iteP c7 h
          subst c7
          refine vx_catch (name := "java/lang/IllegalStateException") (E := xE 3) (own := RL) S.2.2.2.1 [⟨0, 10, 13, 13⟩, ⟨0, 10, 17, 15⟩] ⟨0, 10, 21, 17⟩ [] htab (fun z hz => by
            simp only [List.mem_cons, List.not_mem_nil, or_false] at hz
            rcases hz with rfl | rfl
            · exact Or.inr ⟨by decide, "java/lang/IndexOutOfBoundsException", S.2.2.2.2 _ tb387, hG.2.2.2.2.2.1 ("java/lang/IllegalStateException", "java/lang/IndexOutOfBoundsException") (by decide)⟩
            · exact Or.inr ⟨by decide, "java/lang/IllegalArgumentException", S.2.2.2.2 _ tb388, hG.2.2.2.2.2.1 ("java/lang/IllegalStateException", "java/lang/IllegalArgumentException") (by decide)⟩) (by decide) (by decide) (S.2.2.2.2 _ tb389) (va_Nw.use rfl (hG.1 _ nb_16)) hce hcv hcl ?_
          refine W.eq (g2 := F0 m 21 ls [.ref q9]) rfl ?_
          refine lv_astore (lv' := [(4, .ref q9), (0, .ref h0), (1, .int p1), (2, .int p2), (3, .ref h4)]) hx hb dL_setParameter_21 hl (by decide) rfl (fun ls hl => ?_)
          refine lv_iconst (v := 3) hx hb dL_setParameter_23 li_3 ?_
          have h := Option.some.inj h
          subst h
          exact lRi S hr hlk (Nat.le_of_ble_eq_true rfl) (Nat.le_of_ble_eq_true rfl) (hP.sub [1, 2, 3, 4, 0] rfl) (hD.sub [1, 2, 3, 4, 0] (by decide) rfl) hS dL_setParameter_24
        · have h := iteN c7 h
          cases h
  · have h := iteP c4 h
    have hP : va_P D vwCl [(h4, .inl (cJ, 1, .inr (.inl r4))), (h0, .inr (9, [.ref h2, .ref h1, .ref kp0_scratch])), (h1, .inr (6, [.ref h2, .ref kp0_session_video, .ref kp0_session_audio, .ref kp0_session_samples, .ref kp0_session_download, .ref kp0_session_accounts, .ref kp0_session_line, .int v1_mode, .int v1_startThreshold, .int v1_lastRung, .int v1_lastChange, .int v1_state, .int v1_time, .int v1_position])), (h2, .inr (8, [.ref h3, .ref kp0_stream_video, .ref kp0_stream_audio, .ref kp0_stream_plan])), (h3, .inl (cI, 15, .inl u3))] H := hP
    have hD : va_D A [(h4, .inl (cJ, 1, .inr (.inl r4))), (h0, .inr (9, [.ref h2, .ref h1, .ref kp0_scratch])), (h1, .inr (6, [.ref h2, .ref kp0_session_video, .ref kp0_session_audio, .ref kp0_session_samples, .ref kp0_session_download, .ref kp0_session_accounts, .ref kp0_session_line, .int v1_mode, .int v1_startThreshold, .int v1_lastRung, .int v1_lastChange, .int v1_state, .int v1_time, .int v1_position])), (h2, .inr (8, [.ref h3, .ref kp0_stream_video, .ref kp0_stream_audio, .ref kp0_stream_plan])), (h3, .inl (cI, 15, .inl u3))] := hD
    refine lv_i2l hx hb dL_setParameter_8 rfl ?_
    refine astJ (k := 0) (q0 := 0) S hK hP hD hS rfl vl_0_1 tn_0 dL_setParameter_9 (fun H locs hP hD hS => ?_)
    have hP : va_P D vwCl [(h4, .inl (cJ, 1, .inr (.inl (vp_updL r4 0 y2.toInt64)))), (h0, .inr (9, [.ref h2, .ref h1, .ref kp0_scratch])), (h1, .inr (6, [.ref h2, .ref kp0_session_video, .ref kp0_session_audio, .ref kp0_session_samples, .ref kp0_session_download, .ref kp0_session_accounts, .ref kp0_session_line, .int v1_mode, .int v1_startThreshold, .int v1_lastRung, .int v1_lastChange, .int v1_state, .int v1_time, .int v1_position])), (h2, .inr (8, [.ref h3, .ref kp0_stream_video, .ref kp0_stream_audio, .ref kp0_stream_plan])), (h3, .inl (cI, 15, .inl u3))] H := hP
    have hD : va_D A [(h4, .inl (cJ, 1, .inr (.inl (vp_updL r4 0 y2.toInt64)))), (h0, .inr (9, [.ref h2, .ref h1, .ref kp0_scratch])), (h1, .inr (6, [.ref h2, .ref kp0_session_video, .ref kp0_session_audio, .ref kp0_session_samples, .ref kp0_session_download, .ref kp0_session_accounts, .ref kp0_session_line, .int v1_mode, .int v1_startThreshold, .int v1_lastRung, .int v1_lastChange, .int v1_state, .int v1_time, .int v1_position])), (h2, .inr (8, [.ref h3, .ref kp0_stream_video, .ref kp0_stream_audio, .ref kp0_stream_plan])), (h3, .inl (cI, 15, .inl u3))] := hD
    obtain ⟨u8, e_u8⟩ : ∃ z, z = vp_updL r4 0 y2.toInt64 := ⟨_, rfl⟩
    rw [← e_u8] at hP hD
    have h := bnd_eq e_u8.symm h
    refine lv_goto (tgt := 25) hx hb dL_setParameter_10 (by decide) ?_
    refine lv_iconst (v := 0) hx hb dL_setParameter_25 li_0 ?_
    have h := Option.some.inj h
    subst h
    exact lRi S hr hlk (Nat.le_of_ble_eq_true rfl) (Nat.le_of_ble_eq_true rfl) (hP.sub [1, 2, 3, 4, 0] rfl) (hD.sub [1, 2, 3, 4, 0] (by decide) rfl) hS dL_setParameter_26
abbrev rm_L_addRung : Room := { frames := 9, cells := 4, slots := 24, locals := 154 }
theorem dL_addRung_0 : decode cL_addRung 0 = .ok (.aload_n 3, 1) := by decide +kernel
theorem dL_addRung_1 : decode cL_addRung 1 = .ok (.iconst 0, 1) := by decide +kernel
theorem dL_addRung_2 : decode cL_addRung 2 = .ok (.aload_n 0, 1) := by decide +kernel
theorem dL_addRung_3 : decode cL_addRung 3 = .ok (.iload_n 1, 1) := by decide +kernel
theorem dL_addRung_4 : decode cL_addRung 4 = .ok (.iload_n 2, 1) := by decide +kernel
theorem dL_addRung_5 : decode cL_addRung 5 = .ok (.invokevirtual 19, 3) := by decide +kernel
theorem dL_addRung_8 : decode cL_addRung 8 = .ok (.i2l, 1) := by decide +kernel
theorem dL_addRung_9 : decode cL_addRung 9 = .ok (.lastore, 1) := by decide +kernel
theorem dL_addRung_10 : decode cL_addRung 10 = .ok (.goto 15, 3) := by decide +kernel
theorem dL_addRung_13 : decode cL_addRung 13 = .ok (.astore 4, 2) := by decide +kernel
theorem dL_addRung_15 : decode cL_addRung 15 = .ok (.iconst 1, 1) := by decide +kernel
theorem dL_addRung_16 : decode cL_addRung 16 = .ok (.ireturn, 1) := by decide +kernel
theorem dL_addRung_17 : decode cL_addRung 17 = .ok (.astore 4, 2) := by decide +kernel
theorem dL_addRung_19 : decode cL_addRung 19 = .ok (.iconst 2, 1) := by decide +kernel
theorem dL_addRung_20 : decode cL_addRung 20 = .ok (.ireturn, 1) := by decide +kernel
theorem dL_addRung_21 : decode cL_addRung 21 = .ok (.astore 4, 2) := by decide +kernel
theorem dL_addRung_23 : decode cL_addRung 23 = .ok (.iconst 3, 1) := by decide +kernel
theorem dL_addRung_24 : decode cL_addRung 24 = .ok (.ireturn, 1) := by decide +kernel
theorem dL_addRung_25 : decode cL_addRung 25 = .ok (.iconst 0, 1) := by decide +kernel
theorem dL_addRung_26 : decode cL_addRung 26 = .ok (.ireturn, 1) := by decide +kernel
theorem cw_L_19 {R : Room} {s : State} {args : Array Value} (hts : ∀ w ∈ TB, w.before args s = true) (hR : rm_X9_addRung.frames + 1 ≤ R.frames ∧ 8 + (4 + 11) + rm_X9_addRung.locals ≤ R.locals) : CallW R s args RL RX9 19 yX9_addRung cX9_addRung 4 (some .int) (Cond.code yX9_addRung cX9_addRung 4 (some .int) :: TB) rm_X9_addRung 4 24 2 := cwV 2 hts (gV tb500 tb501 tb502 tb47 tb503) rfl rfl rfl ⟨rfl, by decide, by decide, by decide +kernel⟩ hR
def f_L_addRung (v1_state v3_most v3_rungs : Int32) (r4 : Nat → Int32) (v5_most v5_rungs : Int32) (r6 : Nat → Int32) (r7 : Nat → Int64) (p1 p2 : Int32) : Option (Int32 × Int32 × (Nat → Int32) × Int32 × (Nat → Int32) × (Nat → Int64)) :=
  bnd6 (f_X9_addRung v1_state v3_most v3_rungs r4 v5_most v5_rungs r6 p1 p2) fun (k1 : Nat) (y2 : Int32) (y3 : Int32) (u4 : Nat → Int32) (y5 : Int32) (u6 : Nat → Int32) =>
  if k1 = 0 then
    bnd (vp_updL r7 0 y2.toInt64) fun (u11 : Nat → Int64) =>
    some (0, y3, u4, y5, u6, u11)
  else
    if k1 = 1 then
      some (1, y3, u4, y5, u6, r7)
    else
      if k1 = 2 then
        some (2, y3, u4, y5, u6, r7)
      else
        if k1 = 3 then
          some (3, y3, u4, y5, u6, r7)
        else
          none
set_option maxHeartbeats 4000000 in
set_option maxRecDepth 100000 in
theorem c_L_addRung (l : Launch) (hfl : l.stackTraces = false) (ga : Nat → Nat) (D : va_G) (cI cJ cC : ClassId) (h0 h1 h2 h3 h4 h5 h6 h7 kp0_scratch kp0_session_video kp0_session_audio kp0_session_samples kp0_session_download kp0_session_accounts kp0_session_line kp0_stream_values kp0_stream_plan : Nat) (v1_mode v1_startThreshold v1_lastRung v1_lastChange v1_state v1_time v1_position v3_most v3_rungs : Int32) (r4 : Nat → Int32) (v5_most v5_rungs : Int32) (r6 : Nat → Int32) (r7 : Nat → Int64) (sz : Nat) (p1 p2 : Int32) (T : Int32 × Int32 × (Nat → Int32) × Int32 × (Nat → Int32) × (Nat → Int64)) (h : f_L_addRung v1_state v3_most v3_rungs r4 v5_most v5_rungs r6 r7 p1 p2 = some T) : Met l yL_addRung (Cond.codeWith yL_addRung cL_addRung 5 (some .int) [(0, 10, 13, 13), (0, 10, 17, 15), (0, 10, 21, 17)] :: TB) rm_L_addRung (PreX ga D cI cJ cC [(h0, .inr (9, [.ref h2, .ref h1, .ref kp0_scratch])), (h1, .inr (6, [.ref h2, .ref kp0_session_video, .ref kp0_session_audio, .ref kp0_session_samples, .ref kp0_session_download, .ref kp0_session_accounts, .ref kp0_session_line, .int v1_mode, .int v1_startThreshold, .int v1_lastRung, .int v1_lastChange, .int v1_state, .int v1_time, .int v1_position])), (h2, .inr (8, [.ref kp0_stream_values, .ref h5, .ref h3, .ref kp0_stream_plan])), (h3, .inr (2, [.ref h4, .int v3_most, .int v3_rungs])), (h4, .inl (cI, 6, .inl r4)), (h5, .inr (2, [.ref h6, .int v5_most, .int v5_rungs])), (h6, .inl (cI, 6, .inl r6)), (h7, .inl (cJ, 1, .inr (.inl r7)))] sz [.ref h0, .int p1, .int p2, .ref h7]) (QW (some (.int T.1)) D [(h0, .inr (9, [.ref h2, .ref h1, .ref kp0_scratch])), (h1, .inr (6, [.ref h2, .ref kp0_session_video, .ref kp0_session_audio, .ref kp0_session_samples, .ref kp0_session_download, .ref kp0_session_accounts, .ref kp0_session_line, .int v1_mode, .int v1_startThreshold, .int v1_lastRung, .int v1_lastChange, .int v1_state, .int v1_time, .int v1_position])), (h2, .inr (8, [.ref kp0_stream_values, .ref h5, .ref h3, .ref kp0_stream_plan])), (h3, .inr (2, [.ref h4, .int v3_most, .int T.2.1])), (h4, .inl (cI, 6, .inl T.2.2.1)), (h5, .inr (2, [.ref h6, .int v5_most, .int T.2.2.2.1])), (h6, .inl (cI, 6, .inl T.2.2.2.2.1)), (h7, .inl (cJ, 1, .inr (.inl T.2.2.2.2.2)))] (va_A [(h0, .inr (9, [.ref h2, .ref h1, .ref kp0_scratch])), (h1, .inr (6, [.ref h2, .ref kp0_session_video, .ref kp0_session_audio, .ref kp0_session_samples, .ref kp0_session_download, .ref kp0_session_accounts, .ref kp0_session_line, .int v1_mode, .int v1_startThreshold, .int v1_lastRung, .int v1_lastChange, .int v1_state, .int v1_time, .int v1_position])), (h2, .inr (8, [.ref kp0_stream_values, .ref h5, .ref h3, .ref kp0_stream_plan])), (h3, .inr (2, [.ref h4, .int v3_most, .int v3_rungs])), (h4, .inl (cI, 6, .inl r4)), (h5, .inr (2, [.ref h6, .int v5_most, .int v5_rungs])), (h6, .inl (cI, 6, .inl r6)), (h7, .inl (cJ, 1, .inr (.inl r7)))] sz)) 4 24 (va_A [(h0, .inr (9, [.ref h2, .ref h1, .ref kp0_scratch])), (h1, .inr (6, [.ref h2, .ref kp0_session_video, .ref kp0_session_audio, .ref kp0_session_samples, .ref kp0_session_download, .ref kp0_session_accounts, .ref kp0_session_line, .int v1_mode, .int v1_startThreshold, .int v1_lastRung, .int v1_lastChange, .int v1_state, .int v1_time, .int v1_position])), (h2, .inr (8, [.ref kp0_stream_values, .ref h5, .ref h3, .ref kp0_stream_plan])), (h3, .inr (2, [.ref h4, .int v3_most, .int v3_rungs])), (h4, .inl (cI, 6, .inl r4)), (h5, .inr (2, [.ref h6, .int v5_most, .int v5_rungs])), (h6, .inl (cI, 6, .inl r6)), (h7, .inl (cJ, 1, .inr (.inl r7)))] sz) := by
  refine metL (own := RL) (by decide) rfl (Nat.le_of_ble_eq_true rfl) ?_
  intro p e s m below meth c S hr hlk htab hP hK A hAe hD hA hS hG ls hl
  clear hAe
  have hx := S.1
  have hb := S.2.1
  have hl : lv_has ls 5 [(0, .ref h0), (1, .int p1), (2, .int p2), (3, .ref h7)] := hl
  refine lv_aload_n hx hb dL_addRung_0 rfl (lv_at hl 3 rfl) ?_
  refine lv_iconst (v := 0) hx hb dL_addRung_1 li_0 ?_
  refine lv_aload_n hx hb dL_addRung_2 rfl (lv_at hl 0 rfl) ?_
  refine lv_iload_n hx hb dL_addRung_3 rfl (lv_at hl 1 rfl) ?_
  refine lv_iload_n hx hb dL_addRung_4 rfl (lv_at hl 2 rfl) ?_
  obtain ⟨k1, y2, y3, u4, y5, u6, e_k1⟩ : ∃ a0 a1 a2 a3 a4 a5, f_X9_addRung v1_state v3_most v3_rungs r4 v5_most v5_rungs r6 p1 p2 = (a0, a1, a2, a3, a4, a5) := ⟨_, _, _, _, _, _, rfl⟩
  have h := bnd6_eq e_k1 h
  refine xcV (pc1 := 8) (rest := [.int 0, .ref h7]) (st1 := [.int y2, .int 0, .ref h7]) (wr := [(h7, .inl (cJ, 1, .inr (.inl r7)))]) (cells1 := 4) (slots1 := 24) S (c_X9_addRung l hfl ga D cI cJ cC h0 h1 h2 h3 h4 h5 h6 kp0_scratch kp0_session_video kp0_session_audio kp0_session_samples kp0_session_download kp0_session_accounts kp0_session_line kp0_stream_values kp0_stream_plan v1_mode v1_startThreshold v1_lastRung v1_lastChange v1_state v1_time v1_position v3_most v3_rungs r4 v5_most v5_rungs r6 s.heap.size p1 p2 (k1, y2, y3, u4, y5, u6) e_k1) (cw_L_19 S.2.2.2.2 ⟨Nat.le_of_ble_eq_true rfl, Nat.le_of_ble_eq_true rfl⟩) hK hP hD hS hA hG [0, 1, 2, 3, 4, 5, 6] [7] rfl rfl rfl (by decide) (by decide) (by decide) rfl rfl rfl rfl hl.1 rfl (Nat.le_of_ble_eq_true rfl) ⟨Nat.le_of_ble_eq_true rfl, Nat.le_of_ble_eq_true rfl⟩ rfl rfl rfl rfl dL_addRung_5 (fun c7 H locs ce q9 hP hD hS hce hcv hcl => ?_) (fun c7 H locs hP hD hS => ?_)
  · have h := iteN c7 h
    have hP : va_P D vwCl [(h7, .inl (cJ, 1, .inr (.inl r7))), (h0, .inr (9, [.ref h2, .ref h1, .ref kp0_scratch])), (h1, .inr (6, [.ref h2, .ref kp0_session_video, .ref kp0_session_audio, .ref kp0_session_samples, .ref kp0_session_download, .ref kp0_session_accounts, .ref kp0_session_line, .int v1_mode, .int v1_startThreshold, .int v1_lastRung, .int v1_lastChange, .int v1_state, .int v1_time, .int v1_position])), (h2, .inr (8, [.ref kp0_stream_values, .ref h5, .ref h3, .ref kp0_stream_plan])), (h3, .inr (2, [.ref h4, .int v3_most, .int y3])), (h4, .inl (cI, 6, .inl u4)), (h5, .inr (2, [.ref h6, .int v5_most, .int y5])), (h6, .inl (cI, 6, .inl u6))] H := hP
    have hD : va_D A [(h7, .inl (cJ, 1, .inr (.inl r7))), (h0, .inr (9, [.ref h2, .ref h1, .ref kp0_scratch])), (h1, .inr (6, [.ref h2, .ref kp0_session_video, .ref kp0_session_audio, .ref kp0_session_samples, .ref kp0_session_download, .ref kp0_session_accounts, .ref kp0_session_line, .int v1_mode, .int v1_startThreshold, .int v1_lastRung, .int v1_lastChange, .int v1_state, .int v1_time, .int v1_position])), (h2, .inr (8, [.ref kp0_stream_values, .ref h5, .ref h3, .ref kp0_stream_plan])), (h3, .inr (2, [.ref h4, .int v3_most, .int y3])), (h4, .inl (cI, 6, .inl u4)), (h5, .inr (2, [.ref h6, .int v5_most, .int y5])), (h6, .inl (cI, 6, .inl u6))] := hD
    by_cases c8 : k1 = 1
    · have h := iteP c8 h
      subst c8
      refine vx_catch (name := "java/lang/IndexOutOfBoundsException") (E := xE 1) (own := RL) S.2.2.2.1 [] ⟨0, 10, 13, 13⟩ [⟨0, 10, 17, 15⟩, ⟨0, 10, 21, 17⟩] htab (fun z hz => by cases hz) (by decide) (by decide) (S.2.2.2.2 _ tb387) (va_Nw.use rfl (hG.1 _ nb_9)) hce hcv hcl ?_
      refine W.eq (g2 := F0 m 13 ls [.ref q9]) rfl ?_
      refine lv_astore (lv' := [(4, .ref q9), (0, .ref h0), (1, .int p1), (2, .int p2), (3, .ref h7)]) hx hb dL_addRung_13 hl (by decide) rfl (fun ls hl => ?_)
      refine lv_iconst (v := 1) hx hb dL_addRung_15 li_1 ?_
      have h := Option.some.inj h
      subst h
      exact lRi S hr hlk (Nat.le_of_ble_eq_true rfl) (Nat.le_of_ble_eq_true rfl) (hP.sub [1, 2, 3, 4, 5, 6, 7, 0] rfl) (hD.sub [1, 2, 3, 4, 5, 6, 7, 0] (by decide) rfl) hS dL_addRung_16
    · have h := iteN c8 h
      by_cases c9 : k1 = 2
      · have h := iteP c9 h
        subst c9
        refine vx_catch (name := "java/lang/IllegalArgumentException") (E := xE 2) (own := RL) S.2.2.2.1 [⟨0, 10, 13, 13⟩] ⟨0, 10, 17, 15⟩ [⟨0, 10, 21, 17⟩] htab (fun z hz => by
          simp only [List.mem_cons, List.not_mem_nil, or_false] at hz
          rcases hz with rfl
          · exact Or.inr ⟨by decide, "java/lang/IndexOutOfBoundsException", S.2.2.2.2 _ tb387, hG.2.2.2.2.2.1 ("java/lang/IllegalArgumentException", "java/lang/IndexOutOfBoundsException") (by decide)⟩) (by decide) (by decide) (S.2.2.2.2 _ tb388) (va_Nw.use rfl (hG.1 _ nb_15)) hce hcv hcl ?_
        refine W.eq (g2 := F0 m 17 ls [.ref q9]) rfl ?_
        refine lv_astore (lv' := [(4, .ref q9), (0, .ref h0), (1, .int p1), (2, .int p2), (3, .ref h7)]) hx hb dL_addRung_17 hl (by decide) rfl (fun ls hl => ?_)
        refine lv_iconst (v := 2) hx hb dL_addRung_19 li_2 ?_
        have h := Option.some.inj h
        subst h
        exact lRi S hr hlk (Nat.le_of_ble_eq_true rfl) (Nat.le_of_ble_eq_true rfl) (hP.sub [1, 2, 3, 4, 5, 6, 7, 0] rfl) (hD.sub [1, 2, 3, 4, 5, 6, 7, 0] (by decide) rfl) hS dL_addRung_20
      · have h := iteN c9 h
        by_cases c10 : k1 = 3
        · have h := iteP c10 h
          subst c10
          refine vx_catch (name := "java/lang/IllegalStateException") (E := xE 3) (own := RL) S.2.2.2.1 [⟨0, 10, 13, 13⟩, ⟨0, 10, 17, 15⟩] ⟨0, 10, 21, 17⟩ [] htab (fun z hz => by
            simp only [List.mem_cons, List.not_mem_nil, or_false] at hz
            rcases hz with rfl | rfl
            · exact Or.inr ⟨by decide, "java/lang/IndexOutOfBoundsException", S.2.2.2.2 _ tb387, hG.2.2.2.2.2.1 ("java/lang/IllegalStateException", "java/lang/IndexOutOfBoundsException") (by decide)⟩
            · exact Or.inr ⟨by decide, "java/lang/IllegalArgumentException", S.2.2.2.2 _ tb388, hG.2.2.2.2.2.1 ("java/lang/IllegalStateException", "java/lang/IllegalArgumentException") (by decide)⟩) (by decide) (by decide) (S.2.2.2.2 _ tb389) (va_Nw.use rfl (hG.1 _ nb_16)) hce hcv hcl ?_
          refine W.eq (g2 := F0 m 21 ls [.ref q9]) rfl ?_
          refine lv_astore (lv' := [(4, .ref q9), (0, .ref h0), (1, .int p1), (2, .int p2), (3, .ref h7)]) hx hb dL_addRung_21 hl (by decide) rfl (fun ls hl => ?_)
          refine lv_iconst (v := 3) hx hb dL_addRung_23 li_3 ?_
          have h := Option.some.inj h
          subst h
          exact lRi S hr hlk (Nat.le_of_ble_eq_true rfl) (Nat.le_of_ble_eq_true rfl) (hP.sub [1, 2, 3, 4, 5, 6, 7, 0] rfl) (hD.sub [1, 2, 3, 4, 5, 6, 7, 0] (by decide) rfl) hS dL_addRung_24
        · have h := iteN c10 h
          cases h
  · have h := iteP c7 h
    have hP : va_P D vwCl [(h7, .inl (cJ, 1, .inr (.inl r7))), (h0, .inr (9, [.ref h2, .ref h1, .ref kp0_scratch])), (h1, .inr (6, [.ref h2, .ref kp0_session_video, .ref kp0_session_audio, .ref kp0_session_samples, .ref kp0_session_download, .ref kp0_session_accounts, .ref kp0_session_line, .int v1_mode, .int v1_startThreshold, .int v1_lastRung, .int v1_lastChange, .int v1_state, .int v1_time, .int v1_position])), (h2, .inr (8, [.ref kp0_stream_values, .ref h5, .ref h3, .ref kp0_stream_plan])), (h3, .inr (2, [.ref h4, .int v3_most, .int y3])), (h4, .inl (cI, 6, .inl u4)), (h5, .inr (2, [.ref h6, .int v5_most, .int y5])), (h6, .inl (cI, 6, .inl u6))] H := hP
    have hD : va_D A [(h7, .inl (cJ, 1, .inr (.inl r7))), (h0, .inr (9, [.ref h2, .ref h1, .ref kp0_scratch])), (h1, .inr (6, [.ref h2, .ref kp0_session_video, .ref kp0_session_audio, .ref kp0_session_samples, .ref kp0_session_download, .ref kp0_session_accounts, .ref kp0_session_line, .int v1_mode, .int v1_startThreshold, .int v1_lastRung, .int v1_lastChange, .int v1_state, .int v1_time, .int v1_position])), (h2, .inr (8, [.ref kp0_stream_values, .ref h5, .ref h3, .ref kp0_stream_plan])), (h3, .inr (2, [.ref h4, .int v3_most, .int y3])), (h4, .inl (cI, 6, .inl u4)), (h5, .inr (2, [.ref h6, .int v5_most, .int y5])), (h6, .inl (cI, 6, .inl u6))] := hD
    refine lv_i2l hx hb dL_addRung_8 rfl ?_
    refine astJ (k := 0) (q0 := 0) S hK hP hD hS rfl vl_0_1 tn_0 dL_addRung_9 (fun H locs hP hD hS => ?_)
    have hP : va_P D vwCl [(h7, .inl (cJ, 1, .inr (.inl (vp_updL r7 0 y2.toInt64)))), (h0, .inr (9, [.ref h2, .ref h1, .ref kp0_scratch])), (h1, .inr (6, [.ref h2, .ref kp0_session_video, .ref kp0_session_audio, .ref kp0_session_samples, .ref kp0_session_download, .ref kp0_session_accounts, .ref kp0_session_line, .int v1_mode, .int v1_startThreshold, .int v1_lastRung, .int v1_lastChange, .int v1_state, .int v1_time, .int v1_position])), (h2, .inr (8, [.ref kp0_stream_values, .ref h5, .ref h3, .ref kp0_stream_plan])), (h3, .inr (2, [.ref h4, .int v3_most, .int y3])), (h4, .inl (cI, 6, .inl u4)), (h5, .inr (2, [.ref h6, .int v5_most, .int y5])), (h6, .inl (cI, 6, .inl u6))] H := hP
    have hD : va_D A [(h7, .inl (cJ, 1, .inr (.inl (vp_updL r7 0 y2.toInt64)))), (h0, .inr (9, [.ref h2, .ref h1, .ref kp0_scratch])), (h1, .inr (6, [.ref h2, .ref kp0_session_video, .ref kp0_session_audio, .ref kp0_session_samples, .ref kp0_session_download, .ref kp0_session_accounts, .ref kp0_session_line, .int v1_mode, .int v1_startThreshold, .int v1_lastRung, .int v1_lastChange, .int v1_state, .int v1_time, .int v1_position])), (h2, .inr (8, [.ref kp0_stream_values, .ref h5, .ref h3, .ref kp0_stream_plan])), (h3, .inr (2, [.ref h4, .int v3_most, .int y3])), (h4, .inl (cI, 6, .inl u4)), (h5, .inr (2, [.ref h6, .int v5_most, .int y5])), (h6, .inl (cI, 6, .inl u6))] := hD
    obtain ⟨u11, e_u11⟩ : ∃ z, z = vp_updL r7 0 y2.toInt64 := ⟨_, rfl⟩
    rw [← e_u11] at hP hD
    have h := bnd_eq e_u11.symm h
    refine lv_goto (tgt := 25) hx hb dL_addRung_10 (by decide) ?_
    refine lv_iconst (v := 0) hx hb dL_addRung_25 li_0 ?_
    have h := Option.some.inj h
    subst h
    exact lRi S hr hlk (Nat.le_of_ble_eq_true rfl) (Nat.le_of_ble_eq_true rfl) (hP.sub [1, 2, 3, 4, 5, 6, 7, 0] rfl) (hD.sub [1, 2, 3, 4, 5, 6, 7, 0] (by decide) rfl) hS dL_addRung_26
abbrev rm_L_addPhase : Room := { frames := 9, cells := 4, slots := 24, locals := 152 }
theorem dL_addPhase_0 : decode cL_addPhase 0 = .ok (.aload_n 3, 1) := by decide +kernel
theorem dL_addPhase_1 : decode cL_addPhase 1 = .ok (.iconst 0, 1) := by decide +kernel
theorem dL_addPhase_2 : decode cL_addPhase 2 = .ok (.aload_n 0, 1) := by decide +kernel
theorem dL_addPhase_3 : decode cL_addPhase 3 = .ok (.iload_n 1, 1) := by decide +kernel
theorem dL_addPhase_4 : decode cL_addPhase 4 = .ok (.iload_n 2, 1) := by decide +kernel
theorem dL_addPhase_5 : decode cL_addPhase 5 = .ok (.invokevirtual 22, 3) := by decide +kernel
theorem dL_addPhase_8 : decode cL_addPhase 8 = .ok (.i2l, 1) := by decide +kernel
theorem dL_addPhase_9 : decode cL_addPhase 9 = .ok (.lastore, 1) := by decide +kernel
theorem dL_addPhase_10 : decode cL_addPhase 10 = .ok (.goto 11, 3) := by decide +kernel
theorem dL_addPhase_13 : decode cL_addPhase 13 = .ok (.astore 4, 2) := by decide +kernel
theorem dL_addPhase_15 : decode cL_addPhase 15 = .ok (.iconst 1, 1) := by decide +kernel
theorem dL_addPhase_16 : decode cL_addPhase 16 = .ok (.ireturn, 1) := by decide +kernel
theorem dL_addPhase_17 : decode cL_addPhase 17 = .ok (.astore 4, 2) := by decide +kernel
theorem dL_addPhase_19 : decode cL_addPhase 19 = .ok (.iconst 2, 1) := by decide +kernel
theorem dL_addPhase_20 : decode cL_addPhase 20 = .ok (.ireturn, 1) := by decide +kernel
theorem dL_addPhase_21 : decode cL_addPhase 21 = .ok (.iconst 0, 1) := by decide +kernel
theorem dL_addPhase_22 : decode cL_addPhase 22 = .ok (.ireturn, 1) := by decide +kernel
theorem cw_L_22 {R : Room} {s : State} {args : Array Value} (hts : ∀ w ∈ TB, w.before args s = true) (hR : rm_X9_addPhase.frames + 1 ≤ R.frames ∧ 8 + (3 + 11) + rm_X9_addPhase.locals ≤ R.locals) : CallW R s args RL RX9 22 yX9_addPhase cX9_addPhase 3 (some .int) (Cond.code yX9_addPhase cX9_addPhase 3 (some .int) :: TB) rm_X9_addPhase 4 24 2 := cwV 2 hts (gV tb528 tb529 tb530 tb47 tb531) rfl rfl rfl ⟨rfl, by decide, by decide, by decide +kernel⟩ hR
def f_L_addPhase (v1_state v3_total v3_phases : Int32) (r4 r5 : Nat → Int32) (r6 : Nat → Int64) (p1 p2 : Int32) : Option (Int32 × Int32 × Int32 × (Nat → Int32) × (Nat → Int32) × (Nat → Int64)) :=
  bnd6 (f_X9_addPhase v1_state v3_total v3_phases r4 r5 p1 p2) fun (k1 : Nat) (y2 : Int32) (y3 : Int32) (y4 : Int32) (u5 : Nat → Int32) (u6 : Nat → Int32) =>
  if k1 = 0 then
    bnd (vp_updL r6 0 y2.toInt64) fun (u10 : Nat → Int64) =>
    some (0, y3, y4, u5, u6, u10)
  else
    if k1 = 2 then
      some (1, y3, y4, u5, u6, r6)
    else
      if k1 = 3 then
        some (2, y3, y4, u5, u6, r6)
      else
        none
set_option maxHeartbeats 4000000 in
set_option maxRecDepth 100000 in
theorem c_L_addPhase (l : Launch) (hfl : l.stackTraces = false) (ga : Nat → Nat) (D : va_G) (cI cJ cC : ClassId) (h0 h1 h2 h3 h4 h5 h6 kp0_scratch kp0_session_video kp0_session_audio kp0_session_samples kp0_session_download kp0_session_accounts kp0_session_line kp0_stream_values kp0_stream_video kp0_stream_audio : Nat) (v1_mode v1_startThreshold v1_lastRung v1_lastChange v1_state v1_time v1_position v3_total v3_phases : Int32) (r4 r5 : Nat → Int32) (r6 : Nat → Int64) (sz : Nat) (p1 p2 : Int32) (T : Int32 × Int32 × Int32 × (Nat → Int32) × (Nat → Int32) × (Nat → Int64)) (h : f_L_addPhase v1_state v3_total v3_phases r4 r5 r6 p1 p2 = some T) : Met l yL_addPhase (Cond.codeWith yL_addPhase cL_addPhase 5 (some .int) [(0, 10, 13, 15), (0, 10, 17, 17)] :: TB) rm_L_addPhase (PreX ga D cI cJ cC [(h0, .inr (9, [.ref h2, .ref h1, .ref kp0_scratch])), (h1, .inr (6, [.ref h2, .ref kp0_session_video, .ref kp0_session_audio, .ref kp0_session_samples, .ref kp0_session_download, .ref kp0_session_accounts, .ref kp0_session_line, .int v1_mode, .int v1_startThreshold, .int v1_lastRung, .int v1_lastChange, .int v1_state, .int v1_time, .int v1_position])), (h2, .inr (8, [.ref kp0_stream_values, .ref kp0_stream_video, .ref kp0_stream_audio, .ref h3])), (h3, .inr (4, [.ref h4, .ref h5, .int v3_total, .int v3_phases])), (h4, .inl (cI, 20, .inl r4)), (h5, .inl (cI, 20, .inl r5)), (h6, .inl (cJ, 1, .inr (.inl r6)))] sz [.ref h0, .int p1, .int p2, .ref h6]) (QW (some (.int T.1)) D [(h0, .inr (9, [.ref h2, .ref h1, .ref kp0_scratch])), (h1, .inr (6, [.ref h2, .ref kp0_session_video, .ref kp0_session_audio, .ref kp0_session_samples, .ref kp0_session_download, .ref kp0_session_accounts, .ref kp0_session_line, .int v1_mode, .int v1_startThreshold, .int v1_lastRung, .int v1_lastChange, .int v1_state, .int v1_time, .int v1_position])), (h2, .inr (8, [.ref kp0_stream_values, .ref kp0_stream_video, .ref kp0_stream_audio, .ref h3])), (h3, .inr (4, [.ref h4, .ref h5, .int T.2.1, .int T.2.2.1])), (h4, .inl (cI, 20, .inl T.2.2.2.1)), (h5, .inl (cI, 20, .inl T.2.2.2.2.1)), (h6, .inl (cJ, 1, .inr (.inl T.2.2.2.2.2)))] (va_A [(h0, .inr (9, [.ref h2, .ref h1, .ref kp0_scratch])), (h1, .inr (6, [.ref h2, .ref kp0_session_video, .ref kp0_session_audio, .ref kp0_session_samples, .ref kp0_session_download, .ref kp0_session_accounts, .ref kp0_session_line, .int v1_mode, .int v1_startThreshold, .int v1_lastRung, .int v1_lastChange, .int v1_state, .int v1_time, .int v1_position])), (h2, .inr (8, [.ref kp0_stream_values, .ref kp0_stream_video, .ref kp0_stream_audio, .ref h3])), (h3, .inr (4, [.ref h4, .ref h5, .int v3_total, .int v3_phases])), (h4, .inl (cI, 20, .inl r4)), (h5, .inl (cI, 20, .inl r5)), (h6, .inl (cJ, 1, .inr (.inl r6)))] sz)) 4 24 (va_A [(h0, .inr (9, [.ref h2, .ref h1, .ref kp0_scratch])), (h1, .inr (6, [.ref h2, .ref kp0_session_video, .ref kp0_session_audio, .ref kp0_session_samples, .ref kp0_session_download, .ref kp0_session_accounts, .ref kp0_session_line, .int v1_mode, .int v1_startThreshold, .int v1_lastRung, .int v1_lastChange, .int v1_state, .int v1_time, .int v1_position])), (h2, .inr (8, [.ref kp0_stream_values, .ref kp0_stream_video, .ref kp0_stream_audio, .ref h3])), (h3, .inr (4, [.ref h4, .ref h5, .int v3_total, .int v3_phases])), (h4, .inl (cI, 20, .inl r4)), (h5, .inl (cI, 20, .inl r5)), (h6, .inl (cJ, 1, .inr (.inl r6)))] sz) := by
  refine metL (own := RL) (by decide) rfl (Nat.le_of_ble_eq_true rfl) ?_
  intro p e s m below meth c S hr hlk htab hP hK A hAe hD hA hS hG ls hl
  clear hAe
  have hx := S.1
  have hb := S.2.1
  have hl : lv_has ls 5 [(0, .ref h0), (1, .int p1), (2, .int p2), (3, .ref h6)] := hl
  refine lv_aload_n hx hb dL_addPhase_0 rfl (lv_at hl 3 rfl) ?_
  refine lv_iconst (v := 0) hx hb dL_addPhase_1 li_0 ?_
  refine lv_aload_n hx hb dL_addPhase_2 rfl (lv_at hl 0 rfl) ?_
  refine lv_iload_n hx hb dL_addPhase_3 rfl (lv_at hl 1 rfl) ?_
  refine lv_iload_n hx hb dL_addPhase_4 rfl (lv_at hl 2 rfl) ?_
  obtain ⟨k1, y2, y3, y4, u5, u6, e_k1⟩ : ∃ a0 a1 a2 a3 a4 a5, f_X9_addPhase v1_state v3_total v3_phases r4 r5 p1 p2 = (a0, a1, a2, a3, a4, a5) := ⟨_, _, _, _, _, _, rfl⟩
  have h := bnd6_eq e_k1 h
  refine xcV (pc1 := 8) (rest := [.int 0, .ref h6]) (st1 := [.int y2, .int 0, .ref h6]) (wr := [(h6, .inl (cJ, 1, .inr (.inl r6)))]) (cells1 := 4) (slots1 := 24) S (c_X9_addPhase l hfl ga D cI cJ cC h0 h1 h2 h3 h4 h5 kp0_scratch kp0_session_video kp0_session_audio kp0_session_samples kp0_session_download kp0_session_accounts kp0_session_line kp0_stream_values kp0_stream_video kp0_stream_audio v1_mode v1_startThreshold v1_lastRung v1_lastChange v1_state v1_time v1_position v3_total v3_phases r4 r5 s.heap.size p1 p2 (k1, y2, y3, y4, u5, u6) e_k1) (cw_L_22 S.2.2.2.2 ⟨Nat.le_of_ble_eq_true rfl, Nat.le_of_ble_eq_true rfl⟩) hK hP hD hS hA hG [0, 1, 2, 3, 4, 5] [6] rfl rfl rfl (by decide) (by decide) (by decide) rfl rfl rfl rfl hl.1 rfl (Nat.le_of_ble_eq_true rfl) ⟨Nat.le_of_ble_eq_true rfl, Nat.le_of_ble_eq_true rfl⟩ rfl rfl rfl rfl dL_addPhase_5 (fun c7 H locs ce q9 hP hD hS hce hcv hcl => ?_) (fun c7 H locs hP hD hS => ?_)
  · have h := iteN c7 h
    have hP : va_P D vwCl [(h6, .inl (cJ, 1, .inr (.inl r6))), (h0, .inr (9, [.ref h2, .ref h1, .ref kp0_scratch])), (h1, .inr (6, [.ref h2, .ref kp0_session_video, .ref kp0_session_audio, .ref kp0_session_samples, .ref kp0_session_download, .ref kp0_session_accounts, .ref kp0_session_line, .int v1_mode, .int v1_startThreshold, .int v1_lastRung, .int v1_lastChange, .int v1_state, .int v1_time, .int v1_position])), (h2, .inr (8, [.ref kp0_stream_values, .ref kp0_stream_video, .ref kp0_stream_audio, .ref h3])), (h3, .inr (4, [.ref h4, .ref h5, .int y3, .int y4])), (h4, .inl (cI, 20, .inl u5)), (h5, .inl (cI, 20, .inl u6))] H := hP
    have hD : va_D A [(h6, .inl (cJ, 1, .inr (.inl r6))), (h0, .inr (9, [.ref h2, .ref h1, .ref kp0_scratch])), (h1, .inr (6, [.ref h2, .ref kp0_session_video, .ref kp0_session_audio, .ref kp0_session_samples, .ref kp0_session_download, .ref kp0_session_accounts, .ref kp0_session_line, .int v1_mode, .int v1_startThreshold, .int v1_lastRung, .int v1_lastChange, .int v1_state, .int v1_time, .int v1_position])), (h2, .inr (8, [.ref kp0_stream_values, .ref kp0_stream_video, .ref kp0_stream_audio, .ref h3])), (h3, .inr (4, [.ref h4, .ref h5, .int y3, .int y4])), (h4, .inl (cI, 20, .inl u5)), (h5, .inl (cI, 20, .inl u6))] := hD
    by_cases c8 : k1 = 2
    · have h := iteP c8 h
      subst c8
      refine vx_catch (name := "java/lang/IllegalArgumentException") (E := xE 2) (own := RL) S.2.2.2.1 [] ⟨0, 10, 13, 15⟩ [⟨0, 10, 17, 17⟩] htab (fun z hz => by cases hz) (by decide) (by decide) (S.2.2.2.2 _ tb388) (va_Nw.use rfl (hG.1 _ nb_15)) hce hcv hcl ?_
      refine W.eq (g2 := F0 m 13 ls [.ref q9]) rfl ?_
      refine lv_astore (lv' := [(4, .ref q9), (0, .ref h0), (1, .int p1), (2, .int p2), (3, .ref h6)]) hx hb dL_addPhase_13 hl (by decide) rfl (fun ls hl => ?_)
      refine lv_iconst (v := 1) hx hb dL_addPhase_15 li_1 ?_
      have h := Option.some.inj h
      subst h
      exact lRi S hr hlk (Nat.le_of_ble_eq_true rfl) (Nat.le_of_ble_eq_true rfl) (hP.sub [1, 2, 3, 4, 5, 6, 0] rfl) (hD.sub [1, 2, 3, 4, 5, 6, 0] (by decide) rfl) hS dL_addPhase_16
    · have h := iteN c8 h
      by_cases c9 : k1 = 3
      · have h := iteP c9 h
        subst c9
        refine vx_catch (name := "java/lang/IllegalStateException") (E := xE 3) (own := RL) S.2.2.2.1 [⟨0, 10, 13, 15⟩] ⟨0, 10, 17, 17⟩ [] htab (fun z hz => by
          simp only [List.mem_cons, List.not_mem_nil, or_false] at hz
          rcases hz with rfl
          · exact Or.inr ⟨by decide, "java/lang/IllegalArgumentException", S.2.2.2.2 _ tb388, hG.2.2.2.2.2.1 ("java/lang/IllegalStateException", "java/lang/IllegalArgumentException") (by decide)⟩) (by decide) (by decide) (S.2.2.2.2 _ tb389) (va_Nw.use rfl (hG.1 _ nb_16)) hce hcv hcl ?_
        refine W.eq (g2 := F0 m 17 ls [.ref q9]) rfl ?_
        refine lv_astore (lv' := [(4, .ref q9), (0, .ref h0), (1, .int p1), (2, .int p2), (3, .ref h6)]) hx hb dL_addPhase_17 hl (by decide) rfl (fun ls hl => ?_)
        refine lv_iconst (v := 2) hx hb dL_addPhase_19 li_2 ?_
        have h := Option.some.inj h
        subst h
        exact lRi S hr hlk (Nat.le_of_ble_eq_true rfl) (Nat.le_of_ble_eq_true rfl) (hP.sub [1, 2, 3, 4, 5, 6, 0] rfl) (hD.sub [1, 2, 3, 4, 5, 6, 0] (by decide) rfl) hS dL_addPhase_20
      · have h := iteN c9 h
        cases h
  · have h := iteP c7 h
    have hP : va_P D vwCl [(h6, .inl (cJ, 1, .inr (.inl r6))), (h0, .inr (9, [.ref h2, .ref h1, .ref kp0_scratch])), (h1, .inr (6, [.ref h2, .ref kp0_session_video, .ref kp0_session_audio, .ref kp0_session_samples, .ref kp0_session_download, .ref kp0_session_accounts, .ref kp0_session_line, .int v1_mode, .int v1_startThreshold, .int v1_lastRung, .int v1_lastChange, .int v1_state, .int v1_time, .int v1_position])), (h2, .inr (8, [.ref kp0_stream_values, .ref kp0_stream_video, .ref kp0_stream_audio, .ref h3])), (h3, .inr (4, [.ref h4, .ref h5, .int y3, .int y4])), (h4, .inl (cI, 20, .inl u5)), (h5, .inl (cI, 20, .inl u6))] H := hP
    have hD : va_D A [(h6, .inl (cJ, 1, .inr (.inl r6))), (h0, .inr (9, [.ref h2, .ref h1, .ref kp0_scratch])), (h1, .inr (6, [.ref h2, .ref kp0_session_video, .ref kp0_session_audio, .ref kp0_session_samples, .ref kp0_session_download, .ref kp0_session_accounts, .ref kp0_session_line, .int v1_mode, .int v1_startThreshold, .int v1_lastRung, .int v1_lastChange, .int v1_state, .int v1_time, .int v1_position])), (h2, .inr (8, [.ref kp0_stream_values, .ref kp0_stream_video, .ref kp0_stream_audio, .ref h3])), (h3, .inr (4, [.ref h4, .ref h5, .int y3, .int y4])), (h4, .inl (cI, 20, .inl u5)), (h5, .inl (cI, 20, .inl u6))] := hD
    refine lv_i2l hx hb dL_addPhase_8 rfl ?_
    refine astJ (k := 0) (q0 := 0) S hK hP hD hS rfl vl_0_1 tn_0 dL_addPhase_9 (fun H locs hP hD hS => ?_)
    have hP : va_P D vwCl [(h6, .inl (cJ, 1, .inr (.inl (vp_updL r6 0 y2.toInt64)))), (h0, .inr (9, [.ref h2, .ref h1, .ref kp0_scratch])), (h1, .inr (6, [.ref h2, .ref kp0_session_video, .ref kp0_session_audio, .ref kp0_session_samples, .ref kp0_session_download, .ref kp0_session_accounts, .ref kp0_session_line, .int v1_mode, .int v1_startThreshold, .int v1_lastRung, .int v1_lastChange, .int v1_state, .int v1_time, .int v1_position])), (h2, .inr (8, [.ref kp0_stream_values, .ref kp0_stream_video, .ref kp0_stream_audio, .ref h3])), (h3, .inr (4, [.ref h4, .ref h5, .int y3, .int y4])), (h4, .inl (cI, 20, .inl u5)), (h5, .inl (cI, 20, .inl u6))] H := hP
    have hD : va_D A [(h6, .inl (cJ, 1, .inr (.inl (vp_updL r6 0 y2.toInt64)))), (h0, .inr (9, [.ref h2, .ref h1, .ref kp0_scratch])), (h1, .inr (6, [.ref h2, .ref kp0_session_video, .ref kp0_session_audio, .ref kp0_session_samples, .ref kp0_session_download, .ref kp0_session_accounts, .ref kp0_session_line, .int v1_mode, .int v1_startThreshold, .int v1_lastRung, .int v1_lastChange, .int v1_state, .int v1_time, .int v1_position])), (h2, .inr (8, [.ref kp0_stream_values, .ref kp0_stream_video, .ref kp0_stream_audio, .ref h3])), (h3, .inr (4, [.ref h4, .ref h5, .int y3, .int y4])), (h4, .inl (cI, 20, .inl u5)), (h5, .inl (cI, 20, .inl u6))] := hD
    obtain ⟨u10, e_u10⟩ : ∃ z, z = vp_updL r6 0 y2.toInt64 := ⟨_, rfl⟩
    rw [← e_u10] at hP hD
    have h := bnd_eq e_u10.symm h
    refine lv_goto (tgt := 21) hx hb dL_addPhase_10 (by decide) ?_
    refine lv_iconst (v := 0) hx hb dL_addPhase_21 li_0 ?_
    have h := Option.some.inj h
    subst h
    exact lRi S hr hlk (Nat.le_of_ble_eq_true rfl) (Nat.le_of_ble_eq_true rfl) (hP.sub [1, 2, 3, 4, 5, 6, 0] rfl) (hD.sub [1, 2, 3, 4, 5, 6, 0] (by decide) rfl) hS dL_addPhase_22
abbrev rm_L_clear : Room := { frames := 9, cells := 1, slots := 6, locals := 151 }
theorem dL_clear_0 : decode cL_clear 0 = .ok (.aload_n 1, 1) := by decide +kernel
theorem dL_clear_1 : decode cL_clear 1 = .ok (.iconst 0, 1) := by decide +kernel
theorem dL_clear_2 : decode cL_clear 2 = .ok (.aload_n 0, 1) := by decide +kernel
theorem dL_clear_3 : decode cL_clear 3 = .ok (.invokevirtual 25, 3) := by decide +kernel
theorem dL_clear_6 : decode cL_clear 6 = .ok (.i2l, 1) := by decide +kernel
theorem dL_clear_7 : decode cL_clear 7 = .ok (.lastore, 1) := by decide +kernel
theorem dL_clear_8 : decode cL_clear 8 = .ok (.goto 6, 3) := by decide +kernel
theorem dL_clear_11 : decode cL_clear 11 = .ok (.astore_n 2, 1) := by decide +kernel
theorem dL_clear_12 : decode cL_clear 12 = .ok (.iconst 1, 1) := by decide +kernel
theorem dL_clear_13 : decode cL_clear 13 = .ok (.ireturn, 1) := by decide +kernel
theorem dL_clear_14 : decode cL_clear 14 = .ok (.iconst 0, 1) := by decide +kernel
theorem dL_clear_15 : decode cL_clear 15 = .ok (.ireturn, 1) := by decide +kernel
theorem cw_L_25 {R : Room} {s : State} {args : Array Value} (hts : ∀ w ∈ TB, w.before args s = true) (hR : rm_X9_clear.frames + 1 ≤ R.frames ∧ 8 + (2 + 11) + rm_X9_clear.locals ≤ R.locals) : CallW R s args RL RX9 25 yX9_clear cX9_clear 2 (some .int) (Cond.code yX9_clear cX9_clear 2 (some .int) :: TB) rm_X9_clear 1 6 0 := cwV 0 hts (gV tb544 tb545 tb546 tb47 tb547) rfl rfl rfl ⟨rfl, by decide, by decide, by decide +kernel⟩ hR
def f_L_clear (v1_state v3_rungs v4_total v4_phases v5_rungs : Int32) (r6 : Nat → Int64) : Option (Int32 × Int32 × Int32 × Int32 × Int32 × (Nat → Int64)) :=
  bnd6 (f_X9_clear v1_state v3_rungs v4_total v4_phases v5_rungs) fun (k1 : Nat) (y2 : Int32) (y3 : Int32) (y4 : Int32) (y5 : Int32) (y6 : Int32) =>
  if k1 = 0 then
    bnd (vp_updL r6 0 y2.toInt64) fun (u9 : Nat → Int64) =>
    some (0, y3, y4, y5, y6, u9)
  else
    if k1 = 3 then
      some (1, y3, y4, y5, y6, r6)
    else
      none
set_option maxHeartbeats 4000000 in
set_option maxRecDepth 100000 in
theorem c_L_clear (l : Launch) (hfl : l.stackTraces = false) (ga : Nat → Nat) (D : va_G) (cI cJ cC : ClassId) (h0 h1 h2 h3 h4 h5 h6 kp0_scratch kp0_session_video kp0_session_audio kp0_session_samples kp0_session_download kp0_session_accounts kp0_session_line kp0_stream_values kp0_stream_audio_rates kp0_stream_plan_lengths kp0_stream_plan_rates kp0_stream_video_rates : Nat) (v1_mode v1_startThreshold v1_lastRung v1_lastChange v1_state v1_time v1_position v3_most v3_rungs v4_total v4_phases v5_most v5_rungs : Int32) (r6 : Nat → Int64) (sz : Nat)  (T : Int32 × Int32 × Int32 × Int32 × Int32 × (Nat → Int64)) (h : f_L_clear v1_state v3_rungs v4_total v4_phases v5_rungs r6 = some T) : Met l yL_clear (Cond.codeWith yL_clear cL_clear 3 (some .int) [(0, 8, 11, 17)] :: TB) rm_L_clear (PreX ga D cI cJ cC [(h0, .inr (9, [.ref h2, .ref h1, .ref kp0_scratch])), (h1, .inr (6, [.ref h2, .ref kp0_session_video, .ref kp0_session_audio, .ref kp0_session_samples, .ref kp0_session_download, .ref kp0_session_accounts, .ref kp0_session_line, .int v1_mode, .int v1_startThreshold, .int v1_lastRung, .int v1_lastChange, .int v1_state, .int v1_time, .int v1_position])), (h2, .inr (8, [.ref kp0_stream_values, .ref h5, .ref h3, .ref h4])), (h3, .inr (2, [.ref kp0_stream_audio_rates, .int v3_most, .int v3_rungs])), (h4, .inr (4, [.ref kp0_stream_plan_lengths, .ref kp0_stream_plan_rates, .int v4_total, .int v4_phases])), (h5, .inr (2, [.ref kp0_stream_video_rates, .int v5_most, .int v5_rungs])), (h6, .inl (cJ, 1, .inr (.inl r6)))] sz [.ref h0, .ref h6]) (QW (some (.int T.1)) D [(h0, .inr (9, [.ref h2, .ref h1, .ref kp0_scratch])), (h1, .inr (6, [.ref h2, .ref kp0_session_video, .ref kp0_session_audio, .ref kp0_session_samples, .ref kp0_session_download, .ref kp0_session_accounts, .ref kp0_session_line, .int v1_mode, .int v1_startThreshold, .int v1_lastRung, .int v1_lastChange, .int v1_state, .int v1_time, .int v1_position])), (h2, .inr (8, [.ref kp0_stream_values, .ref h5, .ref h3, .ref h4])), (h3, .inr (2, [.ref kp0_stream_audio_rates, .int v3_most, .int T.2.1])), (h4, .inr (4, [.ref kp0_stream_plan_lengths, .ref kp0_stream_plan_rates, .int T.2.2.1, .int T.2.2.2.1])), (h5, .inr (2, [.ref kp0_stream_video_rates, .int v5_most, .int T.2.2.2.2.1])), (h6, .inl (cJ, 1, .inr (.inl T.2.2.2.2.2)))] (va_A [(h0, .inr (9, [.ref h2, .ref h1, .ref kp0_scratch])), (h1, .inr (6, [.ref h2, .ref kp0_session_video, .ref kp0_session_audio, .ref kp0_session_samples, .ref kp0_session_download, .ref kp0_session_accounts, .ref kp0_session_line, .int v1_mode, .int v1_startThreshold, .int v1_lastRung, .int v1_lastChange, .int v1_state, .int v1_time, .int v1_position])), (h2, .inr (8, [.ref kp0_stream_values, .ref h5, .ref h3, .ref h4])), (h3, .inr (2, [.ref kp0_stream_audio_rates, .int v3_most, .int v3_rungs])), (h4, .inr (4, [.ref kp0_stream_plan_lengths, .ref kp0_stream_plan_rates, .int v4_total, .int v4_phases])), (h5, .inr (2, [.ref kp0_stream_video_rates, .int v5_most, .int v5_rungs])), (h6, .inl (cJ, 1, .inr (.inl r6)))] sz)) 1 6 (va_A [(h0, .inr (9, [.ref h2, .ref h1, .ref kp0_scratch])), (h1, .inr (6, [.ref h2, .ref kp0_session_video, .ref kp0_session_audio, .ref kp0_session_samples, .ref kp0_session_download, .ref kp0_session_accounts, .ref kp0_session_line, .int v1_mode, .int v1_startThreshold, .int v1_lastRung, .int v1_lastChange, .int v1_state, .int v1_time, .int v1_position])), (h2, .inr (8, [.ref kp0_stream_values, .ref h5, .ref h3, .ref h4])), (h3, .inr (2, [.ref kp0_stream_audio_rates, .int v3_most, .int v3_rungs])), (h4, .inr (4, [.ref kp0_stream_plan_lengths, .ref kp0_stream_plan_rates, .int v4_total, .int v4_phases])), (h5, .inr (2, [.ref kp0_stream_video_rates, .int v5_most, .int v5_rungs])), (h6, .inl (cJ, 1, .inr (.inl r6)))] sz) := by
  refine metL (own := RL) (by decide) rfl (Nat.le_of_ble_eq_true rfl) ?_
  intro p e s m below meth c S hr hlk htab hP hK A hAe hD hA hS hG ls hl
  clear hAe
  have hx := S.1
  have hb := S.2.1
  have hl : lv_has ls 3 [(0, .ref h0), (1, .ref h6)] := hl
  refine lv_aload_n hx hb dL_clear_0 rfl (lv_at hl 1 rfl) ?_
  refine lv_iconst (v := 0) hx hb dL_clear_1 li_0 ?_
  refine lv_aload_n hx hb dL_clear_2 rfl (lv_at hl 0 rfl) ?_
  obtain ⟨k1, y2, y3, y4, y5, y6, e_k1⟩ : ∃ a0 a1 a2 a3 a4 a5, f_X9_clear v1_state v3_rungs v4_total v4_phases v5_rungs = (a0, a1, a2, a3, a4, a5) := ⟨_, _, _, _, _, _, rfl⟩
  have h := bnd6_eq e_k1 h
  refine xcV (pc1 := 6) (rest := [.int 0, .ref h6]) (st1 := [.int y2, .int 0, .ref h6]) (wr := [(h6, .inl (cJ, 1, .inr (.inl r6)))]) (cells1 := 1) (slots1 := 6) S (c_X9_clear l hfl ga D cI cJ cC h0 h1 h2 h3 h4 h5 kp0_scratch kp0_session_video kp0_session_audio kp0_session_samples kp0_session_download kp0_session_accounts kp0_session_line kp0_stream_values kp0_stream_audio_rates kp0_stream_plan_lengths kp0_stream_plan_rates kp0_stream_video_rates v1_mode v1_startThreshold v1_lastRung v1_lastChange v1_state v1_time v1_position v3_most v3_rungs v4_total v4_phases v5_most v5_rungs s.heap.size  (k1, y2, y3, y4, y5, y6) e_k1) (cw_L_25 S.2.2.2.2 ⟨Nat.le_of_ble_eq_true rfl, Nat.le_of_ble_eq_true rfl⟩) hK hP hD hS hA hG [0, 1, 2, 3, 4, 5] [6] rfl rfl rfl (by decide) (by decide) (by decide) rfl rfl rfl rfl hl.1 rfl (Nat.le_of_ble_eq_true rfl) ⟨Nat.le_of_ble_eq_true rfl, Nat.le_of_ble_eq_true rfl⟩ rfl rfl rfl rfl dL_clear_3 (fun c7 H locs ce q9 hP hD hS hce hcv hcl => ?_) (fun c7 H locs hP hD hS => ?_)
  · have h := iteN c7 h
    have hP : va_P D vwCl [(h6, .inl (cJ, 1, .inr (.inl r6))), (h0, .inr (9, [.ref h2, .ref h1, .ref kp0_scratch])), (h1, .inr (6, [.ref h2, .ref kp0_session_video, .ref kp0_session_audio, .ref kp0_session_samples, .ref kp0_session_download, .ref kp0_session_accounts, .ref kp0_session_line, .int v1_mode, .int v1_startThreshold, .int v1_lastRung, .int v1_lastChange, .int v1_state, .int v1_time, .int v1_position])), (h2, .inr (8, [.ref kp0_stream_values, .ref h5, .ref h3, .ref h4])), (h3, .inr (2, [.ref kp0_stream_audio_rates, .int v3_most, .int y3])), (h4, .inr (4, [.ref kp0_stream_plan_lengths, .ref kp0_stream_plan_rates, .int y4, .int y5])), (h5, .inr (2, [.ref kp0_stream_video_rates, .int v5_most, .int y6]))] H := hP
    have hD : va_D A [(h6, .inl (cJ, 1, .inr (.inl r6))), (h0, .inr (9, [.ref h2, .ref h1, .ref kp0_scratch])), (h1, .inr (6, [.ref h2, .ref kp0_session_video, .ref kp0_session_audio, .ref kp0_session_samples, .ref kp0_session_download, .ref kp0_session_accounts, .ref kp0_session_line, .int v1_mode, .int v1_startThreshold, .int v1_lastRung, .int v1_lastChange, .int v1_state, .int v1_time, .int v1_position])), (h2, .inr (8, [.ref kp0_stream_values, .ref h5, .ref h3, .ref h4])), (h3, .inr (2, [.ref kp0_stream_audio_rates, .int v3_most, .int y3])), (h4, .inr (4, [.ref kp0_stream_plan_lengths, .ref kp0_stream_plan_rates, .int y4, .int y5])), (h5, .inr (2, [.ref kp0_stream_video_rates, .int v5_most, .int y6]))] := hD
    by_cases c8 : k1 = 3
    · have h := iteP c8 h
      subst c8
      refine vx_catch (name := "java/lang/IllegalStateException") (E := xE 3) (own := RL) S.2.2.2.1 [] ⟨0, 8, 11, 17⟩ [] htab (fun z hz => by cases hz) (by decide) (by decide) (S.2.2.2.2 _ tb389) (va_Nw.use rfl (hG.1 _ nb_16)) hce hcv hcl ?_
      refine W.eq (g2 := F0 m 11 ls [.ref q9]) rfl ?_
      refine lv_astore_n (lv' := [(2, .ref q9), (0, .ref h0), (1, .ref h6)]) hx hb dL_clear_11 rfl hl (by decide) rfl (fun ls hl => ?_)
      refine lv_iconst (v := 1) hx hb dL_clear_12 li_1 ?_
      have h := Option.some.inj h
      subst h
      exact lRi S hr hlk (Nat.le_of_ble_eq_true rfl) (Nat.le_of_ble_eq_true rfl) (hP.sub [1, 2, 3, 4, 5, 6, 0] rfl) (hD.sub [1, 2, 3, 4, 5, 6, 0] (by decide) rfl) hS dL_clear_13
    · have h := iteN c8 h
      cases h
  · have h := iteP c7 h
    have hP : va_P D vwCl [(h6, .inl (cJ, 1, .inr (.inl r6))), (h0, .inr (9, [.ref h2, .ref h1, .ref kp0_scratch])), (h1, .inr (6, [.ref h2, .ref kp0_session_video, .ref kp0_session_audio, .ref kp0_session_samples, .ref kp0_session_download, .ref kp0_session_accounts, .ref kp0_session_line, .int v1_mode, .int v1_startThreshold, .int v1_lastRung, .int v1_lastChange, .int v1_state, .int v1_time, .int v1_position])), (h2, .inr (8, [.ref kp0_stream_values, .ref h5, .ref h3, .ref h4])), (h3, .inr (2, [.ref kp0_stream_audio_rates, .int v3_most, .int y3])), (h4, .inr (4, [.ref kp0_stream_plan_lengths, .ref kp0_stream_plan_rates, .int y4, .int y5])), (h5, .inr (2, [.ref kp0_stream_video_rates, .int v5_most, .int y6]))] H := hP
    have hD : va_D A [(h6, .inl (cJ, 1, .inr (.inl r6))), (h0, .inr (9, [.ref h2, .ref h1, .ref kp0_scratch])), (h1, .inr (6, [.ref h2, .ref kp0_session_video, .ref kp0_session_audio, .ref kp0_session_samples, .ref kp0_session_download, .ref kp0_session_accounts, .ref kp0_session_line, .int v1_mode, .int v1_startThreshold, .int v1_lastRung, .int v1_lastChange, .int v1_state, .int v1_time, .int v1_position])), (h2, .inr (8, [.ref kp0_stream_values, .ref h5, .ref h3, .ref h4])), (h3, .inr (2, [.ref kp0_stream_audio_rates, .int v3_most, .int y3])), (h4, .inr (4, [.ref kp0_stream_plan_lengths, .ref kp0_stream_plan_rates, .int y4, .int y5])), (h5, .inr (2, [.ref kp0_stream_video_rates, .int v5_most, .int y6]))] := hD
    refine lv_i2l hx hb dL_clear_6 rfl ?_
    refine astJ (k := 0) (q0 := 0) S hK hP hD hS rfl vl_0_1 tn_0 dL_clear_7 (fun H locs hP hD hS => ?_)
    have hP : va_P D vwCl [(h6, .inl (cJ, 1, .inr (.inl (vp_updL r6 0 y2.toInt64)))), (h0, .inr (9, [.ref h2, .ref h1, .ref kp0_scratch])), (h1, .inr (6, [.ref h2, .ref kp0_session_video, .ref kp0_session_audio, .ref kp0_session_samples, .ref kp0_session_download, .ref kp0_session_accounts, .ref kp0_session_line, .int v1_mode, .int v1_startThreshold, .int v1_lastRung, .int v1_lastChange, .int v1_state, .int v1_time, .int v1_position])), (h2, .inr (8, [.ref kp0_stream_values, .ref h5, .ref h3, .ref h4])), (h3, .inr (2, [.ref kp0_stream_audio_rates, .int v3_most, .int y3])), (h4, .inr (4, [.ref kp0_stream_plan_lengths, .ref kp0_stream_plan_rates, .int y4, .int y5])), (h5, .inr (2, [.ref kp0_stream_video_rates, .int v5_most, .int y6]))] H := hP
    have hD : va_D A [(h6, .inl (cJ, 1, .inr (.inl (vp_updL r6 0 y2.toInt64)))), (h0, .inr (9, [.ref h2, .ref h1, .ref kp0_scratch])), (h1, .inr (6, [.ref h2, .ref kp0_session_video, .ref kp0_session_audio, .ref kp0_session_samples, .ref kp0_session_download, .ref kp0_session_accounts, .ref kp0_session_line, .int v1_mode, .int v1_startThreshold, .int v1_lastRung, .int v1_lastChange, .int v1_state, .int v1_time, .int v1_position])), (h2, .inr (8, [.ref kp0_stream_values, .ref h5, .ref h3, .ref h4])), (h3, .inr (2, [.ref kp0_stream_audio_rates, .int v3_most, .int y3])), (h4, .inr (4, [.ref kp0_stream_plan_lengths, .ref kp0_stream_plan_rates, .int y4, .int y5])), (h5, .inr (2, [.ref kp0_stream_video_rates, .int v5_most, .int y6]))] := hD
    obtain ⟨u9, e_u9⟩ : ∃ z, z = vp_updL r6 0 y2.toInt64 := ⟨_, rfl⟩
    rw [← e_u9] at hP hD
    have h := bnd_eq e_u9.symm h
    refine lv_goto (tgt := 14) hx hb dL_clear_8 (by decide) ?_
    refine lv_iconst (v := 0) hx hb dL_clear_14 li_0 ?_
    have h := Option.some.inj h
    subst h
    exact lRi S hr hlk (Nat.le_of_ble_eq_true rfl) (Nat.le_of_ble_eq_true rfl) (hP.sub [1, 2, 3, 4, 5, 6, 0] rfl) (hD.sub [1, 2, 3, 4, 5, 6, 0] (by decide) rfl) hS dL_clear_15
abbrev rm_L_bandwidth : Room := { frames := 9, cells := 1, slots := 6, locals := 151 }
theorem dL_bandwidth_0 : decode cL_bandwidth 0 = .ok (.aload_n 2, 1) := by decide +kernel
theorem dL_bandwidth_1 : decode cL_bandwidth 1 = .ok (.iconst 0, 1) := by decide +kernel
theorem dL_bandwidth_2 : decode cL_bandwidth 2 = .ok (.aload_n 0, 1) := by decide +kernel
theorem dL_bandwidth_3 : decode cL_bandwidth 3 = .ok (.iload_n 1, 1) := by decide +kernel
theorem dL_bandwidth_4 : decode cL_bandwidth 4 = .ok (.invokevirtual 29, 3) := by decide +kernel
theorem dL_bandwidth_7 : decode cL_bandwidth 7 = .ok (.i2l, 1) := by decide +kernel
theorem dL_bandwidth_8 : decode cL_bandwidth 8 = .ok (.lastore, 1) := by decide +kernel
theorem dL_bandwidth_9 : decode cL_bandwidth 9 = .ok (.goto 6, 3) := by decide +kernel
theorem dL_bandwidth_12 : decode cL_bandwidth 12 = .ok (.astore_n 3, 1) := by decide +kernel
theorem dL_bandwidth_13 : decode cL_bandwidth 13 = .ok (.iconst 1, 1) := by decide +kernel
theorem dL_bandwidth_14 : decode cL_bandwidth 14 = .ok (.ireturn, 1) := by decide +kernel
theorem dL_bandwidth_15 : decode cL_bandwidth 15 = .ok (.iconst 0, 1) := by decide +kernel
theorem dL_bandwidth_16 : decode cL_bandwidth 16 = .ok (.ireturn, 1) := by decide +kernel
theorem cw_L_29 {R : Room} {s : State} {args : Array Value} (hts : ∀ w ∈ TB, w.before args s = true) (hR : rm_X9_bandwidth.frames + 1 ≤ R.frames ∧ 8 + (2 + 11) + rm_X9_bandwidth.locals ≤ R.locals) : CallW R s args RL RX9 29 yX9_bandwidth cX9_bandwidth 2 (some .int) (Cond.code yX9_bandwidth cX9_bandwidth 2 (some .int) :: TB) rm_X9_bandwidth 1 6 1 := cwV 1 hts (gV tb559 tb560 tb561 tb47 tb562) rfl rfl rfl ⟨rfl, by decide, by decide, by decide +kernel⟩ hR
def f_L_bandwidth (v2_total v2_phases : Int32) (r3 r4 : Nat → Int32) (r5 : Nat → Int64) (p1 : Int32) : Option (Int32 × (Nat → Int64)) :=
  bnd2 (f_X9_bandwidth v2_total v2_phases r3 r4 p1) fun (k1 : Nat) (y2 : Int32) =>
  if k1 = 0 then
    bnd (vp_updL r5 0 y2.toInt64) fun (u5 : Nat → Int64) =>
    some (0, u5)
  else
    if k1 = 2 then
      some (1, r5)
    else
      none
set_option maxHeartbeats 4000000 in
set_option maxRecDepth 100000 in
theorem c_L_bandwidth (l : Launch) (hfl : l.stackTraces = false) (ga : Nat → Nat) (D : va_G) (cI cJ cC : ClassId) (h0 h1 h2 h3 h4 h5 kp0_session kp0_scratch kp0_stream_values kp0_stream_video kp0_stream_audio : Nat) (v2_total v2_phases : Int32) (r3 r4 : Nat → Int32) (r5 : Nat → Int64) (sz : Nat) (p1 : Int32) (T : Int32 × (Nat → Int64)) (h : f_L_bandwidth v2_total v2_phases r3 r4 r5 p1 = some T) : Met l yL_bandwidth (Cond.codeWith yL_bandwidth cL_bandwidth 4 (some .int) [(0, 9, 12, 15)] :: TB) rm_L_bandwidth (PreX ga D cI cJ cC [(h0, .inr (9, [.ref h1, .ref kp0_session, .ref kp0_scratch])), (h1, .inr (8, [.ref kp0_stream_values, .ref kp0_stream_video, .ref kp0_stream_audio, .ref h2])), (h2, .inr (4, [.ref h3, .ref h4, .int v2_total, .int v2_phases])), (h3, .inl (cI, 20, .inl r3)), (h4, .inl (cI, 20, .inl r4)), (h5, .inl (cJ, 1, .inr (.inl r5)))] sz [.ref h0, .int p1, .ref h5]) (QW (some (.int T.1)) D [(h0, .inr (9, [.ref h1, .ref kp0_session, .ref kp0_scratch])), (h1, .inr (8, [.ref kp0_stream_values, .ref kp0_stream_video, .ref kp0_stream_audio, .ref h2])), (h2, .inr (4, [.ref h3, .ref h4, .int v2_total, .int v2_phases])), (h3, .inl (cI, 20, .inl r3)), (h4, .inl (cI, 20, .inl r4)), (h5, .inl (cJ, 1, .inr (.inl T.2)))] (va_A [(h0, .inr (9, [.ref h1, .ref kp0_session, .ref kp0_scratch])), (h1, .inr (8, [.ref kp0_stream_values, .ref kp0_stream_video, .ref kp0_stream_audio, .ref h2])), (h2, .inr (4, [.ref h3, .ref h4, .int v2_total, .int v2_phases])), (h3, .inl (cI, 20, .inl r3)), (h4, .inl (cI, 20, .inl r4)), (h5, .inl (cJ, 1, .inr (.inl r5)))] sz)) 1 6 (va_A [(h0, .inr (9, [.ref h1, .ref kp0_session, .ref kp0_scratch])), (h1, .inr (8, [.ref kp0_stream_values, .ref kp0_stream_video, .ref kp0_stream_audio, .ref h2])), (h2, .inr (4, [.ref h3, .ref h4, .int v2_total, .int v2_phases])), (h3, .inl (cI, 20, .inl r3)), (h4, .inl (cI, 20, .inl r4)), (h5, .inl (cJ, 1, .inr (.inl r5)))] sz) := by
  refine metL (own := RL) (by decide) rfl (Nat.le_of_ble_eq_true rfl) ?_
  intro p e s m below meth c S hr hlk htab hP hK A hAe hD hA hS hG ls hl
  clear hAe
  have hx := S.1
  have hb := S.2.1
  have hl : lv_has ls 4 [(0, .ref h0), (1, .int p1), (2, .ref h5)] := hl
  refine lv_aload_n hx hb dL_bandwidth_0 rfl (lv_at hl 2 rfl) ?_
  refine lv_iconst (v := 0) hx hb dL_bandwidth_1 li_0 ?_
  refine lv_aload_n hx hb dL_bandwidth_2 rfl (lv_at hl 0 rfl) ?_
  refine lv_iload_n hx hb dL_bandwidth_3 rfl (lv_at hl 1 rfl) ?_
  obtain ⟨k1, y2, e_k1⟩ : ∃ a0 a1, f_X9_bandwidth v2_total v2_phases r3 r4 p1 = (a0, a1) := ⟨_, _, rfl⟩
  have h := bnd2_eq e_k1 h
  refine xcV (pc1 := 7) (rest := [.int 0, .ref h5]) (st1 := [.int y2, .int 0, .ref h5]) (wr := [(h5, .inl (cJ, 1, .inr (.inl r5)))]) (cells1 := 1) (slots1 := 6) S (c_X9_bandwidth l hfl ga D cI cJ cC h0 h1 h2 h3 h4 kp0_session kp0_scratch kp0_stream_values kp0_stream_video kp0_stream_audio v2_total v2_phases r3 r4 s.heap.size p1 (k1, y2) e_k1) (cw_L_29 S.2.2.2.2 ⟨Nat.le_of_ble_eq_true rfl, Nat.le_of_ble_eq_true rfl⟩) hK hP hD hS hA hG [0, 1, 2, 3, 4] [5] rfl rfl rfl (by decide) (by decide) (by decide) rfl rfl rfl rfl hl.1 rfl (Nat.le_of_ble_eq_true rfl) ⟨Nat.le_of_ble_eq_true rfl, Nat.le_of_ble_eq_true rfl⟩ rfl rfl rfl rfl dL_bandwidth_4 (fun c3 H locs ce q9 hP hD hS hce hcv hcl => ?_) (fun c3 H locs hP hD hS => ?_)
  · have h := iteN c3 h
    have hP : va_P D vwCl [(h5, .inl (cJ, 1, .inr (.inl r5))), (h0, .inr (9, [.ref h1, .ref kp0_session, .ref kp0_scratch])), (h1, .inr (8, [.ref kp0_stream_values, .ref kp0_stream_video, .ref kp0_stream_audio, .ref h2])), (h2, .inr (4, [.ref h3, .ref h4, .int v2_total, .int v2_phases])), (h3, .inl (cI, 20, .inl r3)), (h4, .inl (cI, 20, .inl r4))] H := hP
    have hD : va_D A [(h5, .inl (cJ, 1, .inr (.inl r5))), (h0, .inr (9, [.ref h1, .ref kp0_session, .ref kp0_scratch])), (h1, .inr (8, [.ref kp0_stream_values, .ref kp0_stream_video, .ref kp0_stream_audio, .ref h2])), (h2, .inr (4, [.ref h3, .ref h4, .int v2_total, .int v2_phases])), (h3, .inl (cI, 20, .inl r3)), (h4, .inl (cI, 20, .inl r4))] := hD
    by_cases c4 : k1 = 2
    · have h := iteP c4 h
      subst c4
      refine vx_catch (name := "java/lang/IllegalArgumentException") (E := xE 2) (own := RL) S.2.2.2.1 [] ⟨0, 9, 12, 15⟩ [] htab (fun z hz => by cases hz) (by decide) (by decide) (S.2.2.2.2 _ tb388) (va_Nw.use rfl (hG.1 _ nb_15)) hce hcv hcl ?_
      refine W.eq (g2 := F0 m 12 ls [.ref q9]) rfl ?_
      refine lv_astore_n (lv' := [(3, .ref q9), (0, .ref h0), (1, .int p1), (2, .ref h5)]) hx hb dL_bandwidth_12 rfl hl (by decide) rfl (fun ls hl => ?_)
      refine lv_iconst (v := 1) hx hb dL_bandwidth_13 li_1 ?_
      have h := Option.some.inj h
      subst h
      exact lRi S hr hlk (Nat.le_of_ble_eq_true rfl) (Nat.le_of_ble_eq_true rfl) (hP.sub [1, 2, 3, 4, 5, 0] rfl) (hD.sub [1, 2, 3, 4, 5, 0] (by decide) rfl) hS dL_bandwidth_14
    · have h := iteN c4 h
      cases h
  · have h := iteP c3 h
    have hP : va_P D vwCl [(h5, .inl (cJ, 1, .inr (.inl r5))), (h0, .inr (9, [.ref h1, .ref kp0_session, .ref kp0_scratch])), (h1, .inr (8, [.ref kp0_stream_values, .ref kp0_stream_video, .ref kp0_stream_audio, .ref h2])), (h2, .inr (4, [.ref h3, .ref h4, .int v2_total, .int v2_phases])), (h3, .inl (cI, 20, .inl r3)), (h4, .inl (cI, 20, .inl r4))] H := hP
    have hD : va_D A [(h5, .inl (cJ, 1, .inr (.inl r5))), (h0, .inr (9, [.ref h1, .ref kp0_session, .ref kp0_scratch])), (h1, .inr (8, [.ref kp0_stream_values, .ref kp0_stream_video, .ref kp0_stream_audio, .ref h2])), (h2, .inr (4, [.ref h3, .ref h4, .int v2_total, .int v2_phases])), (h3, .inl (cI, 20, .inl r3)), (h4, .inl (cI, 20, .inl r4))] := hD
    refine lv_i2l hx hb dL_bandwidth_7 rfl ?_
    refine astJ (k := 0) (q0 := 0) S hK hP hD hS rfl vl_0_1 tn_0 dL_bandwidth_8 (fun H locs hP hD hS => ?_)
    have hP : va_P D vwCl [(h5, .inl (cJ, 1, .inr (.inl (vp_updL r5 0 y2.toInt64)))), (h0, .inr (9, [.ref h1, .ref kp0_session, .ref kp0_scratch])), (h1, .inr (8, [.ref kp0_stream_values, .ref kp0_stream_video, .ref kp0_stream_audio, .ref h2])), (h2, .inr (4, [.ref h3, .ref h4, .int v2_total, .int v2_phases])), (h3, .inl (cI, 20, .inl r3)), (h4, .inl (cI, 20, .inl r4))] H := hP
    have hD : va_D A [(h5, .inl (cJ, 1, .inr (.inl (vp_updL r5 0 y2.toInt64)))), (h0, .inr (9, [.ref h1, .ref kp0_session, .ref kp0_scratch])), (h1, .inr (8, [.ref kp0_stream_values, .ref kp0_stream_video, .ref kp0_stream_audio, .ref h2])), (h2, .inr (4, [.ref h3, .ref h4, .int v2_total, .int v2_phases])), (h3, .inl (cI, 20, .inl r3)), (h4, .inl (cI, 20, .inl r4))] := hD
    obtain ⟨u5, e_u5⟩ : ∃ z, z = vp_updL r5 0 y2.toInt64 := ⟨_, rfl⟩
    rw [← e_u5] at hP hD
    have h := bnd_eq e_u5.symm h
    refine lv_goto (tgt := 15) hx hb dL_bandwidth_9 (by decide) ?_
    refine lv_iconst (v := 0) hx hb dL_bandwidth_15 li_0 ?_
    have h := Option.some.inj h
    subst h
    exact lRi S hr hlk (Nat.le_of_ble_eq_true rfl) (Nat.le_of_ble_eq_true rfl) (hP.sub [1, 2, 3, 4, 5, 0] rfl) (hD.sub [1, 2, 3, 4, 5, 0] (by decide) rfl) hS dL_bandwidth_16
abbrev rm_L_size : Room := { frames := 9, cells := 3, slots := 18, locals := 154 }
theorem dL_size_0 : decode cL_size 0 = .ok (.aload 4, 2) := by decide +kernel
theorem dL_size_2 : decode cL_size 2 = .ok (.iconst 0, 1) := by decide +kernel
theorem dL_size_3 : decode cL_size 3 = .ok (.aload_n 0, 1) := by decide +kernel
theorem dL_size_4 : decode cL_size 4 = .ok (.iload_n 1, 1) := by decide +kernel
theorem dL_size_5 : decode cL_size 5 = .ok (.iload_n 2, 1) := by decide +kernel
theorem dL_size_6 : decode cL_size 6 = .ok (.iload_n 3, 1) := by decide +kernel
theorem dL_size_7 : decode cL_size 7 = .ok (.invokevirtual 33, 3) := by decide +kernel
theorem dL_size_10 : decode cL_size 10 = .ok (.lastore, 1) := by decide +kernel
theorem dL_size_11 : decode cL_size 11 = .ok (.goto 7, 3) := by decide +kernel
theorem dL_size_14 : decode cL_size 14 = .ok (.astore 5, 2) := by decide +kernel
theorem dL_size_16 : decode cL_size 16 = .ok (.iconst 1, 1) := by decide +kernel
theorem dL_size_17 : decode cL_size 17 = .ok (.ireturn, 1) := by decide +kernel
theorem dL_size_18 : decode cL_size 18 = .ok (.iconst 0, 1) := by decide +kernel
theorem dL_size_19 : decode cL_size 19 = .ok (.ireturn, 1) := by decide +kernel
theorem cw_L_33 {R : Room} {s : State} {args : Array Value} (hts : ∀ w ∈ TB, w.before args s = true) (hR : rm_X9_size.frames + 1 ≤ R.frames ∧ 8 + (4 + 11) + rm_X9_size.locals ≤ R.locals) : CallW R s args RL RX9 33 yX9_size cX9_size 4 (some .long) (Cond.code yX9_size cX9_size 4 (some .long) :: TB) rm_X9_size 3 18 3 := cwV 3 hts (gV tb570 tb571 tb572 tb47 tb573) rfl rfl rfl ⟨rfl, by decide, by decide, by decide +kernel⟩ hR
def f_L_size (v2_rungs : Int32) (r3 r4 : Nat → Int32) (v5_rungs : Int32) (r6 : Nat → Int32) (r7 : Nat → Int64) (p1 p2 p3 : Int32) : Option (Int32 × (Nat → Int64)) :=
  bnd2 (f_X9_size v2_rungs r3 r4 v5_rungs r6 p1 p2 p3) fun (k1 : Nat) (z2 : Int64) =>
  if k1 = 0 then
    bnd (vp_updL r7 0 z2) fun (u5 : Nat → Int64) =>
    some (0, u5)
  else
    if k1 = 1 then
      some (1, r7)
    else
      none
set_option maxHeartbeats 4000000 in
set_option maxRecDepth 100000 in
theorem c_L_size (l : Launch) (hfl : l.stackTraces = false) (ga : Nat → Nat) (D : va_G) (cI cJ cC : ClassId) (h0 h1 h2 h3 h4 h5 h6 h7 kp0_session kp0_scratch kp0_stream_plan : Nat) (v2_most v2_rungs : Int32) (r3 r4 : Nat → Int32) (v5_most v5_rungs : Int32) (r6 : Nat → Int32) (r7 : Nat → Int64) (sz : Nat) (p1 p2 p3 : Int32) (T : Int32 × (Nat → Int64)) (h : f_L_size v2_rungs r3 r4 v5_rungs r6 r7 p1 p2 p3 = some T) : Met l yL_size (Cond.codeWith yL_size cL_size 6 (some .int) [(0, 11, 14, 13)] :: TB) rm_L_size (PreX ga D cI cJ cC [(h0, .inr (9, [.ref h1, .ref kp0_session, .ref kp0_scratch])), (h1, .inr (8, [.ref h4, .ref h5, .ref h2, .ref kp0_stream_plan])), (h2, .inr (2, [.ref h3, .int v2_most, .int v2_rungs])), (h3, .inl (cI, 6, .inl r3)), (h4, .inl (cI, 15, .inl r4)), (h5, .inr (2, [.ref h6, .int v5_most, .int v5_rungs])), (h6, .inl (cI, 6, .inl r6)), (h7, .inl (cJ, 1, .inr (.inl r7)))] sz [.ref h0, .int p1, .int p2, .int p3, .ref h7]) (QW (some (.int T.1)) D [(h0, .inr (9, [.ref h1, .ref kp0_session, .ref kp0_scratch])), (h1, .inr (8, [.ref h4, .ref h5, .ref h2, .ref kp0_stream_plan])), (h2, .inr (2, [.ref h3, .int v2_most, .int v2_rungs])), (h3, .inl (cI, 6, .inl r3)), (h4, .inl (cI, 15, .inl r4)), (h5, .inr (2, [.ref h6, .int v5_most, .int v5_rungs])), (h6, .inl (cI, 6, .inl r6)), (h7, .inl (cJ, 1, .inr (.inl T.2)))] (va_A [(h0, .inr (9, [.ref h1, .ref kp0_session, .ref kp0_scratch])), (h1, .inr (8, [.ref h4, .ref h5, .ref h2, .ref kp0_stream_plan])), (h2, .inr (2, [.ref h3, .int v2_most, .int v2_rungs])), (h3, .inl (cI, 6, .inl r3)), (h4, .inl (cI, 15, .inl r4)), (h5, .inr (2, [.ref h6, .int v5_most, .int v5_rungs])), (h6, .inl (cI, 6, .inl r6)), (h7, .inl (cJ, 1, .inr (.inl r7)))] sz)) 3 18 (va_A [(h0, .inr (9, [.ref h1, .ref kp0_session, .ref kp0_scratch])), (h1, .inr (8, [.ref h4, .ref h5, .ref h2, .ref kp0_stream_plan])), (h2, .inr (2, [.ref h3, .int v2_most, .int v2_rungs])), (h3, .inl (cI, 6, .inl r3)), (h4, .inl (cI, 15, .inl r4)), (h5, .inr (2, [.ref h6, .int v5_most, .int v5_rungs])), (h6, .inl (cI, 6, .inl r6)), (h7, .inl (cJ, 1, .inr (.inl r7)))] sz) := by
  refine metL (own := RL) (by decide) rfl (Nat.le_of_ble_eq_true rfl) ?_
  intro p e s m below meth c S hr hlk htab hP hK A hAe hD hA hS hG ls hl
  clear hAe
  have hx := S.1
  have hb := S.2.1
  have hl : lv_has ls 6 [(0, .ref h0), (1, .int p1), (2, .int p2), (3, .int p3), (4, .ref h7)] := hl
  refine lv_aload hx hb dL_size_0 (lv_at hl 4 rfl) ?_
  refine lv_iconst (v := 0) hx hb dL_size_2 li_0 ?_
  refine lv_aload_n hx hb dL_size_3 rfl (lv_at hl 0 rfl) ?_
  refine lv_iload_n hx hb dL_size_4 rfl (lv_at hl 1 rfl) ?_
  refine lv_iload_n hx hb dL_size_5 rfl (lv_at hl 2 rfl) ?_
  refine lv_iload_n hx hb dL_size_6 rfl (lv_at hl 3 rfl) ?_
  obtain ⟨k1, z2, e_k1⟩ : ∃ a0 a1, f_X9_size v2_rungs r3 r4 v5_rungs r6 p1 p2 p3 = (a0, a1) := ⟨_, _, rfl⟩
  have h := bnd2_eq e_k1 h
  refine xcV (pc1 := 10) (rest := [.int 0, .ref h7]) (st1 := [.long z2, .int 0, .ref h7]) (wr := [(h7, .inl (cJ, 1, .inr (.inl r7)))]) (cells1 := 3) (slots1 := 18) S (c_X9_size l hfl ga D cI cJ cC h0 h1 h2 h3 h4 h5 h6 kp0_session kp0_scratch kp0_stream_plan v2_most v2_rungs r3 r4 v5_most v5_rungs r6 s.heap.size p1 p2 p3 (k1, z2) e_k1) (cw_L_33 S.2.2.2.2 ⟨Nat.le_of_ble_eq_true rfl, Nat.le_of_ble_eq_true rfl⟩) hK hP hD hS hA hG [0, 1, 2, 3, 4, 5, 6] [7] rfl rfl rfl (by decide) (by decide) (by decide) rfl rfl rfl rfl hl.1 rfl (Nat.le_of_ble_eq_true rfl) ⟨Nat.le_of_ble_eq_true rfl, Nat.le_of_ble_eq_true rfl⟩ rfl rfl rfl rfl dL_size_7 (fun c3 H locs ce q9 hP hD hS hce hcv hcl => ?_) (fun c3 H locs hP hD hS => ?_)
  · have h := iteN c3 h
    have hP : va_P D vwCl [(h7, .inl (cJ, 1, .inr (.inl r7))), (h0, .inr (9, [.ref h1, .ref kp0_session, .ref kp0_scratch])), (h1, .inr (8, [.ref h4, .ref h5, .ref h2, .ref kp0_stream_plan])), (h2, .inr (2, [.ref h3, .int v2_most, .int v2_rungs])), (h3, .inl (cI, 6, .inl r3)), (h4, .inl (cI, 15, .inl r4)), (h5, .inr (2, [.ref h6, .int v5_most, .int v5_rungs])), (h6, .inl (cI, 6, .inl r6))] H := hP
    have hD : va_D A [(h7, .inl (cJ, 1, .inr (.inl r7))), (h0, .inr (9, [.ref h1, .ref kp0_session, .ref kp0_scratch])), (h1, .inr (8, [.ref h4, .ref h5, .ref h2, .ref kp0_stream_plan])), (h2, .inr (2, [.ref h3, .int v2_most, .int v2_rungs])), (h3, .inl (cI, 6, .inl r3)), (h4, .inl (cI, 15, .inl r4)), (h5, .inr (2, [.ref h6, .int v5_most, .int v5_rungs])), (h6, .inl (cI, 6, .inl r6))] := hD
    by_cases c4 : k1 = 1
    · have h := iteP c4 h
      subst c4
      refine vx_catch (name := "java/lang/IndexOutOfBoundsException") (E := xE 1) (own := RL) S.2.2.2.1 [] ⟨0, 11, 14, 13⟩ [] htab (fun z hz => by cases hz) (by decide) (by decide) (S.2.2.2.2 _ tb387) (va_Nw.use rfl (hG.1 _ nb_9)) hce hcv hcl ?_
      refine W.eq (g2 := F0 m 14 ls [.ref q9]) rfl ?_
      refine lv_astore (lv' := [(5, .ref q9), (0, .ref h0), (1, .int p1), (2, .int p2), (3, .int p3), (4, .ref h7)]) hx hb dL_size_14 hl (by decide) rfl (fun ls hl => ?_)
      refine lv_iconst (v := 1) hx hb dL_size_16 li_1 ?_
      have h := Option.some.inj h
      subst h
      exact lRi S hr hlk (Nat.le_of_ble_eq_true rfl) (Nat.le_of_ble_eq_true rfl) (hP.sub [1, 2, 3, 4, 5, 6, 7, 0] rfl) (hD.sub [1, 2, 3, 4, 5, 6, 7, 0] (by decide) rfl) hS dL_size_17
    · have h := iteN c4 h
      cases h
  · have h := iteP c3 h
    have hP : va_P D vwCl [(h7, .inl (cJ, 1, .inr (.inl r7))), (h0, .inr (9, [.ref h1, .ref kp0_session, .ref kp0_scratch])), (h1, .inr (8, [.ref h4, .ref h5, .ref h2, .ref kp0_stream_plan])), (h2, .inr (2, [.ref h3, .int v2_most, .int v2_rungs])), (h3, .inl (cI, 6, .inl r3)), (h4, .inl (cI, 15, .inl r4)), (h5, .inr (2, [.ref h6, .int v5_most, .int v5_rungs])), (h6, .inl (cI, 6, .inl r6))] H := hP
    have hD : va_D A [(h7, .inl (cJ, 1, .inr (.inl r7))), (h0, .inr (9, [.ref h1, .ref kp0_session, .ref kp0_scratch])), (h1, .inr (8, [.ref h4, .ref h5, .ref h2, .ref kp0_stream_plan])), (h2, .inr (2, [.ref h3, .int v2_most, .int v2_rungs])), (h3, .inl (cI, 6, .inl r3)), (h4, .inl (cI, 15, .inl r4)), (h5, .inr (2, [.ref h6, .int v5_most, .int v5_rungs])), (h6, .inl (cI, 6, .inl r6))] := hD
    refine astJ (k := 0) (q0 := 0) S hK hP hD hS rfl vl_0_1 tn_0 dL_size_10 (fun H locs hP hD hS => ?_)
    have hP : va_P D vwCl [(h7, .inl (cJ, 1, .inr (.inl (vp_updL r7 0 z2)))), (h0, .inr (9, [.ref h1, .ref kp0_session, .ref kp0_scratch])), (h1, .inr (8, [.ref h4, .ref h5, .ref h2, .ref kp0_stream_plan])), (h2, .inr (2, [.ref h3, .int v2_most, .int v2_rungs])), (h3, .inl (cI, 6, .inl r3)), (h4, .inl (cI, 15, .inl r4)), (h5, .inr (2, [.ref h6, .int v5_most, .int v5_rungs])), (h6, .inl (cI, 6, .inl r6))] H := hP
    have hD : va_D A [(h7, .inl (cJ, 1, .inr (.inl (vp_updL r7 0 z2)))), (h0, .inr (9, [.ref h1, .ref kp0_session, .ref kp0_scratch])), (h1, .inr (8, [.ref h4, .ref h5, .ref h2, .ref kp0_stream_plan])), (h2, .inr (2, [.ref h3, .int v2_most, .int v2_rungs])), (h3, .inl (cI, 6, .inl r3)), (h4, .inl (cI, 15, .inl r4)), (h5, .inr (2, [.ref h6, .int v5_most, .int v5_rungs])), (h6, .inl (cI, 6, .inl r6))] := hD
    obtain ⟨u5, e_u5⟩ : ∃ z, z = vp_updL r7 0 z2 := ⟨_, rfl⟩
    rw [← e_u5] at hP hD
    have h := bnd_eq e_u5.symm h
    refine lv_goto (tgt := 18) hx hb dL_size_11 (by decide) ?_
    refine lv_iconst (v := 0) hx hb dL_size_18 li_0 ?_
    have h := Option.some.inj h
    subst h
    exact lRi S hr hlk (Nat.le_of_ble_eq_true rfl) (Nat.le_of_ble_eq_true rfl) (hP.sub [1, 2, 3, 4, 5, 6, 7, 0] rfl) (hD.sub [1, 2, 3, 4, 5, 6, 7, 0] (by decide) rfl) hS dL_size_19
abbrev rm_L_start : Room := { frames := 9, cells := 2, slots := 12, locals := 150 }
theorem dL_start_0 : decode cL_start 0 = .ok (.aload_n 1, 1) := by decide +kernel
theorem dL_start_1 : decode cL_start 1 = .ok (.iconst 0, 1) := by decide +kernel
theorem dL_start_2 : decode cL_start 2 = .ok (.aload_n 0, 1) := by decide +kernel
theorem dL_start_3 : decode cL_start 3 = .ok (.invokevirtual 37, 3) := by decide +kernel
theorem dL_start_6 : decode cL_start 6 = .ok (.i2l, 1) := by decide +kernel
theorem dL_start_7 : decode cL_start 7 = .ok (.lastore, 1) := by decide +kernel
theorem dL_start_8 : decode cL_start 8 = .ok (.goto 6, 3) := by decide +kernel
theorem dL_start_11 : decode cL_start 11 = .ok (.astore_n 2, 1) := by decide +kernel
theorem dL_start_12 : decode cL_start 12 = .ok (.iconst 1, 1) := by decide +kernel
theorem dL_start_13 : decode cL_start 13 = .ok (.ireturn, 1) := by decide +kernel
theorem dL_start_14 : decode cL_start 14 = .ok (.iconst 0, 1) := by decide +kernel
theorem dL_start_15 : decode cL_start 15 = .ok (.ireturn, 1) := by decide +kernel
theorem cw_L_37 {R : Room} {s : State} {args : Array Value} (hts : ∀ w ∈ TB, w.before args s = true) (hR : rm_X9_start.frames + 1 ≤ R.frames ∧ 8 + (1 + 11) + rm_X9_start.locals ≤ R.locals) : CallW R s args RL RX9 37 yX9_start cX9_start 1 (some .int) (Cond.code yX9_start cX9_start 1 (some .int) :: TB) rm_X9_start 2 12 0 := cwV 0 hts (gV tb588 tb589 tb590 tb47 tb591) rfl rfl rfl ⟨rfl, by decide, by decide, by decide +kernel⟩ hR
def f_L_start (v1_mode v1_startThreshold v1_lastRung v1_lastChange v1_state v1_time v1_position v2_startUpTime v2_stallTime v2_playTime v2_stalls v2_abandoned v2_finished v2_switches : Int32) (v2_wasted v2_quality : Int64) (v3_segments v4_going v5_length v6_kept v7_segments v9_phases : Int32) (r10 : Nat → Int32) (v11_rungs : Int32) (r12 : Nat → Int64) : Option (Int32 × Int32 × Int32 × Int32 × Int32 × Int32 × Int32 × Int32 × Int32 × Int32 × Int32 × Int32 × Int32 × Int32 × Int32 × Int64 × Int64 × Int32 × Int32 × Int32 × Int32 × Int32 × (Nat → Int64)) :=
  bnd23 (f_X9_start v1_mode v1_startThreshold v1_lastRung v1_lastChange v1_state v1_time v1_position v2_startUpTime v2_stallTime v2_playTime v2_stalls v2_abandoned v2_finished v2_switches v2_wasted v2_quality v3_segments v4_going v5_length v6_kept v7_segments v9_phases r10 v11_rungs) fun (k1 : Nat) (y2 : Int32) (y3 : Int32) (y4 : Int32) (y5 : Int32) (y6 : Int32) (y7 : Int32) (y8 : Int32) (y9 : Int32) (y10 : Int32) (y11 : Int32) (y12 : Int32) (y13 : Int32) (y14 : Int32) (y15 : Int32) (y16 : Int32) (z17 : Int64) (z18 : Int64) (y19 : Int32) (y20 : Int32) (y21 : Int32) (y22 : Int32) (y23 : Int32) =>
  if k1 = 0 then
    bnd (vp_updL r12 0 y2.toInt64) fun (u26 : Nat → Int64) =>
    some (0, y3, y4, y5, y6, y7, y8, y9, y10, y11, y12, y13, y14, y15, y16, z17, z18, y19, y20, y21, y22, y23, u26)
  else
    if k1 = 3 then
      some (1, y3, y4, y5, y6, y7, y8, y9, y10, y11, y12, y13, y14, y15, y16, z17, z18, y19, y20, y21, y22, y23, r12)
    else
      none
set_option maxHeartbeats 4000000 in
set_option maxRecDepth 100000 in
theorem c_L_start (l : Launch) (hfl : l.stackTraces = false) (ga : Nat → Nat) (D : va_G) (cI cJ cC : ClassId) (h0 h1 h2 h3 h4 h5 h6 h7 h8 h9 h10 h11 h12 kp0_scratch kp0_session_audio_rungs kp0_session_line_signs kp0_session_samples_bits kp0_session_samples_durations kp0_session_video_rungs kp0_stream_audio kp0_stream_plan_lengths kp0_stream_plan_rates kp0_stream_video_rates : Nat) (v1_mode v1_startThreshold v1_lastRung v1_lastChange v1_state v1_time v1_position v2_startUpTime v2_stallTime v2_playTime v2_stalls v2_abandoned v2_finished v2_switches : Int32) (v2_wasted v2_quality : Int64) (v3_segments v4_going v4_track v4_segment v4_rung v4_waiting v4_duration : Int32) (v4_bits v4_received : Int64) (v5_length v6_kept v7_segments v9_total v9_phases : Int32) (r10 : Nat → Int32) (v11_most v11_rungs : Int32) (r12 : Nat → Int64) (sz : Nat)  (T : Int32 × Int32 × Int32 × Int32 × Int32 × Int32 × Int32 × Int32 × Int32 × Int32 × Int32 × Int32 × Int32 × Int32 × Int32 × Int64 × Int64 × Int32 × Int32 × Int32 × Int32 × Int32 × (Nat → Int64)) (h : f_L_start v1_mode v1_startThreshold v1_lastRung v1_lastChange v1_state v1_time v1_position v2_startUpTime v2_stallTime v2_playTime v2_stalls v2_abandoned v2_finished v2_switches v2_wasted v2_quality v3_segments v4_going v5_length v6_kept v7_segments v9_phases r10 v11_rungs r12 = some T) : Met l yL_start (Cond.codeWith yL_start cL_start 3 (some .int) [(0, 8, 11, 17)] :: TB) rm_L_start (PreX ga D cI cJ cC [(h0, .inr (9, [.ref h8, .ref h1, .ref kp0_scratch])), (h1, .inr (6, [.ref h8, .ref h7, .ref h3, .ref h6, .ref h4, .ref h2, .ref h5, .int v1_mode, .int v1_startThreshold, .int v1_lastRung, .int v1_lastChange, .int v1_state, .int v1_time, .int v1_position])), (h2, .inr (0, [.int v2_startUpTime, .int v2_stallTime, .int v2_playTime, .int v2_stalls, .int v2_abandoned, .int v2_finished, .int v2_switches, .long v2_wasted, .long v2_quality])), (h3, .inr (7, [.ref kp0_session_audio_rungs, .int v3_segments])), (h4, .inr (1, [.int v4_going, .int v4_track, .int v4_segment, .int v4_rung, .int v4_waiting, .int v4_duration, .long v4_bits, .long v4_received])), (h5, .inr (3, [.ref kp0_session_line_signs, .int v5_length])), (h6, .inr (5, [.ref kp0_session_samples_bits, .ref kp0_session_samples_durations, .int v6_kept])), (h7, .inr (7, [.ref kp0_session_video_rungs, .int v7_segments])), (h8, .inr (8, [.ref h10, .ref h11, .ref kp0_stream_audio, .ref h9])), (h9, .inr (4, [.ref kp0_stream_plan_lengths, .ref kp0_stream_plan_rates, .int v9_total, .int v9_phases])), (h10, .inl (cI, 15, .inl r10)), (h11, .inr (2, [.ref kp0_stream_video_rates, .int v11_most, .int v11_rungs])), (h12, .inl (cJ, 1, .inr (.inl r12)))] sz [.ref h0, .ref h12]) (QW (some (.int T.1)) D [(h0, .inr (9, [.ref h8, .ref h1, .ref kp0_scratch])), (h1, .inr (6, [.ref h8, .ref h7, .ref h3, .ref h6, .ref h4, .ref h2, .ref h5, .int T.2.1, .int T.2.2.1, .int T.2.2.2.1, .int T.2.2.2.2.1, .int T.2.2.2.2.2.1, .int T.2.2.2.2.2.2.1, .int T.2.2.2.2.2.2.2.1])), (h2, .inr (0, [.int T.2.2.2.2.2.2.2.2.1, .int T.2.2.2.2.2.2.2.2.2.1, .int T.2.2.2.2.2.2.2.2.2.2.1, .int T.2.2.2.2.2.2.2.2.2.2.2.1, .int T.2.2.2.2.2.2.2.2.2.2.2.2.1, .int T.2.2.2.2.2.2.2.2.2.2.2.2.2.1, .int T.2.2.2.2.2.2.2.2.2.2.2.2.2.2.1, .long T.2.2.2.2.2.2.2.2.2.2.2.2.2.2.2.1, .long T.2.2.2.2.2.2.2.2.2.2.2.2.2.2.2.2.1])), (h3, .inr (7, [.ref kp0_session_audio_rungs, .int T.2.2.2.2.2.2.2.2.2.2.2.2.2.2.2.2.2.1])), (h4, .inr (1, [.int T.2.2.2.2.2.2.2.2.2.2.2.2.2.2.2.2.2.2.1, .int v4_track, .int v4_segment, .int v4_rung, .int v4_waiting, .int v4_duration, .long v4_bits, .long v4_received])), (h5, .inr (3, [.ref kp0_session_line_signs, .int T.2.2.2.2.2.2.2.2.2.2.2.2.2.2.2.2.2.2.2.1])), (h6, .inr (5, [.ref kp0_session_samples_bits, .ref kp0_session_samples_durations, .int T.2.2.2.2.2.2.2.2.2.2.2.2.2.2.2.2.2.2.2.2.1])), (h7, .inr (7, [.ref kp0_session_video_rungs, .int T.2.2.2.2.2.2.2.2.2.2.2.2.2.2.2.2.2.2.2.2.2.1])), (h8, .inr (8, [.ref h10, .ref h11, .ref kp0_stream_audio, .ref h9])), (h9, .inr (4, [.ref kp0_stream_plan_lengths, .ref kp0_stream_plan_rates, .int v9_total, .int v9_phases])), (h10, .inl (cI, 15, .inl r10)), (h11, .inr (2, [.ref kp0_stream_video_rates, .int v11_most, .int v11_rungs])), (h12, .inl (cJ, 1, .inr (.inl T.2.2.2.2.2.2.2.2.2.2.2.2.2.2.2.2.2.2.2.2.2.2)))] (va_A [(h0, .inr (9, [.ref h8, .ref h1, .ref kp0_scratch])), (h1, .inr (6, [.ref h8, .ref h7, .ref h3, .ref h6, .ref h4, .ref h2, .ref h5, .int v1_mode, .int v1_startThreshold, .int v1_lastRung, .int v1_lastChange, .int v1_state, .int v1_time, .int v1_position])), (h2, .inr (0, [.int v2_startUpTime, .int v2_stallTime, .int v2_playTime, .int v2_stalls, .int v2_abandoned, .int v2_finished, .int v2_switches, .long v2_wasted, .long v2_quality])), (h3, .inr (7, [.ref kp0_session_audio_rungs, .int v3_segments])), (h4, .inr (1, [.int v4_going, .int v4_track, .int v4_segment, .int v4_rung, .int v4_waiting, .int v4_duration, .long v4_bits, .long v4_received])), (h5, .inr (3, [.ref kp0_session_line_signs, .int v5_length])), (h6, .inr (5, [.ref kp0_session_samples_bits, .ref kp0_session_samples_durations, .int v6_kept])), (h7, .inr (7, [.ref kp0_session_video_rungs, .int v7_segments])), (h8, .inr (8, [.ref h10, .ref h11, .ref kp0_stream_audio, .ref h9])), (h9, .inr (4, [.ref kp0_stream_plan_lengths, .ref kp0_stream_plan_rates, .int v9_total, .int v9_phases])), (h10, .inl (cI, 15, .inl r10)), (h11, .inr (2, [.ref kp0_stream_video_rates, .int v11_most, .int v11_rungs])), (h12, .inl (cJ, 1, .inr (.inl r12)))] sz)) 2 12 (va_A [(h0, .inr (9, [.ref h8, .ref h1, .ref kp0_scratch])), (h1, .inr (6, [.ref h8, .ref h7, .ref h3, .ref h6, .ref h4, .ref h2, .ref h5, .int v1_mode, .int v1_startThreshold, .int v1_lastRung, .int v1_lastChange, .int v1_state, .int v1_time, .int v1_position])), (h2, .inr (0, [.int v2_startUpTime, .int v2_stallTime, .int v2_playTime, .int v2_stalls, .int v2_abandoned, .int v2_finished, .int v2_switches, .long v2_wasted, .long v2_quality])), (h3, .inr (7, [.ref kp0_session_audio_rungs, .int v3_segments])), (h4, .inr (1, [.int v4_going, .int v4_track, .int v4_segment, .int v4_rung, .int v4_waiting, .int v4_duration, .long v4_bits, .long v4_received])), (h5, .inr (3, [.ref kp0_session_line_signs, .int v5_length])), (h6, .inr (5, [.ref kp0_session_samples_bits, .ref kp0_session_samples_durations, .int v6_kept])), (h7, .inr (7, [.ref kp0_session_video_rungs, .int v7_segments])), (h8, .inr (8, [.ref h10, .ref h11, .ref kp0_stream_audio, .ref h9])), (h9, .inr (4, [.ref kp0_stream_plan_lengths, .ref kp0_stream_plan_rates, .int v9_total, .int v9_phases])), (h10, .inl (cI, 15, .inl r10)), (h11, .inr (2, [.ref kp0_stream_video_rates, .int v11_most, .int v11_rungs])), (h12, .inl (cJ, 1, .inr (.inl r12)))] sz) := by
  refine metL (own := RL) (by decide) rfl (Nat.le_of_ble_eq_true rfl) ?_
  intro p e s m below meth c S hr hlk htab hP hK A hAe hD hA hS hG ls hl
  clear hAe
  have hx := S.1
  have hb := S.2.1
  have hl : lv_has ls 3 [(0, .ref h0), (1, .ref h12)] := hl
  refine lv_aload_n hx hb dL_start_0 rfl (lv_at hl 1 rfl) ?_
  refine lv_iconst (v := 0) hx hb dL_start_1 li_0 ?_
  refine lv_aload_n hx hb dL_start_2 rfl (lv_at hl 0 rfl) ?_
  obtain ⟨k1, y2, y3, y4, y5, y6, y7, y8, y9, y10, y11, y12, y13, y14, y15, y16, z17, z18, y19, y20, y21, y22, y23, e_k1⟩ : ∃ a0 a1 a2 a3 a4 a5 a6 a7 a8 a9 a10 a11 a12 a13 a14 a15 a16 a17 a18 a19 a20 a21 a22, f_X9_start v1_mode v1_startThreshold v1_lastRung v1_lastChange v1_state v1_time v1_position v2_startUpTime v2_stallTime v2_playTime v2_stalls v2_abandoned v2_finished v2_switches v2_wasted v2_quality v3_segments v4_going v5_length v6_kept v7_segments v9_phases r10 v11_rungs = (a0, a1, a2, a3, a4, a5, a6, a7, a8, a9, a10, a11, a12, a13, a14, a15, a16, a17, a18, a19, a20, a21, a22) := ⟨_, _, _, _, _, _, _, _, _, _, _, _, _, _, _, _, _, _, _, _, _, _, _, rfl⟩
  have h := bnd23_eq e_k1 h
  refine xcV (pc1 := 6) (rest := [.int 0, .ref h12]) (st1 := [.int y2, .int 0, .ref h12]) (wr := [(h12, .inl (cJ, 1, .inr (.inl r12)))]) (cells1 := 2) (slots1 := 12) S (c_X9_start l hfl ga D cI cJ cC h0 h1 h2 h3 h4 h5 h6 h7 h8 h9 h10 h11 kp0_scratch kp0_session_audio_rungs kp0_session_line_signs kp0_session_samples_bits kp0_session_samples_durations kp0_session_video_rungs kp0_stream_audio kp0_stream_plan_lengths kp0_stream_plan_rates kp0_stream_video_rates v1_mode v1_startThreshold v1_lastRung v1_lastChange v1_state v1_time v1_position v2_startUpTime v2_stallTime v2_playTime v2_stalls v2_abandoned v2_finished v2_switches v2_wasted v2_quality v3_segments v4_going v4_track v4_segment v4_rung v4_waiting v4_duration v4_bits v4_received v5_length v6_kept v7_segments v9_total v9_phases r10 v11_most v11_rungs s.heap.size  (k1, y2, y3, y4, y5, y6, y7, y8, y9, y10, y11, y12, y13, y14, y15, y16, z17, z18, y19, y20, y21, y22, y23) e_k1) (cw_L_37 S.2.2.2.2 ⟨Nat.le_of_ble_eq_true rfl, Nat.le_of_ble_eq_true rfl⟩) hK hP hD hS hA hG [0, 1, 2, 3, 4, 5, 6, 7, 8, 9, 10, 11] [12] rfl rfl rfl (by decide) (by decide) (by decide) rfl rfl rfl rfl hl.1 rfl (Nat.le_of_ble_eq_true rfl) ⟨Nat.le_of_ble_eq_true rfl, Nat.le_of_ble_eq_true rfl⟩ rfl rfl rfl rfl dL_start_3 (fun c24 H locs ce q9 hP hD hS hce hcv hcl => ?_) (fun c24 H locs hP hD hS => ?_)
  · have h := iteN c24 h
    have hP : va_P D vwCl [(h12, .inl (cJ, 1, .inr (.inl r12))), (h0, .inr (9, [.ref h8, .ref h1, .ref kp0_scratch])), (h1, .inr (6, [.ref h8, .ref h7, .ref h3, .ref h6, .ref h4, .ref h2, .ref h5, .int y3, .int y4, .int y5, .int y6, .int y7, .int y8, .int y9])), (h2, .inr (0, [.int y10, .int y11, .int y12, .int y13, .int y14, .int y15, .int y16, .long z17, .long z18])), (h3, .inr (7, [.ref kp0_session_audio_rungs, .int y19])), (h4, .inr (1, [.int y20, .int v4_track, .int v4_segment, .int v4_rung, .int v4_waiting, .int v4_duration, .long v4_bits, .long v4_received])), (h5, .inr (3, [.ref kp0_session_line_signs, .int y21])), (h6, .inr (5, [.ref kp0_session_samples_bits, .ref kp0_session_samples_durations, .int y22])), (h7, .inr (7, [.ref kp0_session_video_rungs, .int y23])), (h8, .inr (8, [.ref h10, .ref h11, .ref kp0_stream_audio, .ref h9])), (h9, .inr (4, [.ref kp0_stream_plan_lengths, .ref kp0_stream_plan_rates, .int v9_total, .int v9_phases])), (h10, .inl (cI, 15, .inl r10)), (h11, .inr (2, [.ref kp0_stream_video_rates, .int v11_most, .int v11_rungs]))] H := hP
    have hD : va_D A [(h12, .inl (cJ, 1, .inr (.inl r12))), (h0, .inr (9, [.ref h8, .ref h1, .ref kp0_scratch])), (h1, .inr (6, [.ref h8, .ref h7, .ref h3, .ref h6, .ref h4, .ref h2, .ref h5, .int y3, .int y4, .int y5, .int y6, .int y7, .int y8, .int y9])), (h2, .inr (0, [.int y10, .int y11, .int y12, .int y13, .int y14, .int y15, .int y16, .long z17, .long z18])), (h3, .inr (7, [.ref kp0_session_audio_rungs, .int y19])), (h4, .inr (1, [.int y20, .int v4_track, .int v4_segment, .int v4_rung, .int v4_waiting, .int v4_duration, .long v4_bits, .long v4_received])), (h5, .inr (3, [.ref kp0_session_line_signs, .int y21])), (h6, .inr (5, [.ref kp0_session_samples_bits, .ref kp0_session_samples_durations, .int y22])), (h7, .inr (7, [.ref kp0_session_video_rungs, .int y23])), (h8, .inr (8, [.ref h10, .ref h11, .ref kp0_stream_audio, .ref h9])), (h9, .inr (4, [.ref kp0_stream_plan_lengths, .ref kp0_stream_plan_rates, .int v9_total, .int v9_phases])), (h10, .inl (cI, 15, .inl r10)), (h11, .inr (2, [.ref kp0_stream_video_rates, .int v11_most, .int v11_rungs]))] := hD
    by_cases c25 : k1 = 3
    · have h := iteP c25 h
      subst c25
      refine vx_catch (name := "java/lang/IllegalStateException") (E := xE 3) (own := RL) S.2.2.2.1 [] ⟨0, 8, 11, 17⟩ [] htab (fun z hz => by cases hz) (by decide) (by decide) (S.2.2.2.2 _ tb389) (va_Nw.use rfl (hG.1 _ nb_16)) hce hcv hcl ?_
      refine W.eq (g2 := F0 m 11 ls [.ref q9]) rfl ?_
      refine lv_astore_n (lv' := [(2, .ref q9), (0, .ref h0), (1, .ref h12)]) hx hb dL_start_11 rfl hl (by decide) rfl (fun ls hl => ?_)
      refine lv_iconst (v := 1) hx hb dL_start_12 li_1 ?_
      have h := Option.some.inj h
      subst h
      exact lRi S hr hlk (Nat.le_of_ble_eq_true rfl) (Nat.le_of_ble_eq_true rfl) (hP.sub [1, 2, 3, 4, 5, 6, 7, 8, 9, 10, 11, 12, 0] rfl) (hD.sub [1, 2, 3, 4, 5, 6, 7, 8, 9, 10, 11, 12, 0] (by decide) rfl) hS dL_start_13
    · have h := iteN c25 h
      cases h
  · have h := iteP c24 h
    have hP : va_P D vwCl [(h12, .inl (cJ, 1, .inr (.inl r12))), (h0, .inr (9, [.ref h8, .ref h1, .ref kp0_scratch])), (h1, .inr (6, [.ref h8, .ref h7, .ref h3, .ref h6, .ref h4, .ref h2, .ref h5, .int y3, .int y4, .int y5, .int y6, .int y7, .int y8, .int y9])), (h2, .inr (0, [.int y10, .int y11, .int y12, .int y13, .int y14, .int y15, .int y16, .long z17, .long z18])), (h3, .inr (7, [.ref kp0_session_audio_rungs, .int y19])), (h4, .inr (1, [.int y20, .int v4_track, .int v4_segment, .int v4_rung, .int v4_waiting, .int v4_duration, .long v4_bits, .long v4_received])), (h5, .inr (3, [.ref kp0_session_line_signs, .int y21])), (h6, .inr (5, [.ref kp0_session_samples_bits, .ref kp0_session_samples_durations, .int y22])), (h7, .inr (7, [.ref kp0_session_video_rungs, .int y23])), (h8, .inr (8, [.ref h10, .ref h11, .ref kp0_stream_audio, .ref h9])), (h9, .inr (4, [.ref kp0_stream_plan_lengths, .ref kp0_stream_plan_rates, .int v9_total, .int v9_phases])), (h10, .inl (cI, 15, .inl r10)), (h11, .inr (2, [.ref kp0_stream_video_rates, .int v11_most, .int v11_rungs]))] H := hP
    have hD : va_D A [(h12, .inl (cJ, 1, .inr (.inl r12))), (h0, .inr (9, [.ref h8, .ref h1, .ref kp0_scratch])), (h1, .inr (6, [.ref h8, .ref h7, .ref h3, .ref h6, .ref h4, .ref h2, .ref h5, .int y3, .int y4, .int y5, .int y6, .int y7, .int y8, .int y9])), (h2, .inr (0, [.int y10, .int y11, .int y12, .int y13, .int y14, .int y15, .int y16, .long z17, .long z18])), (h3, .inr (7, [.ref kp0_session_audio_rungs, .int y19])), (h4, .inr (1, [.int y20, .int v4_track, .int v4_segment, .int v4_rung, .int v4_waiting, .int v4_duration, .long v4_bits, .long v4_received])), (h5, .inr (3, [.ref kp0_session_line_signs, .int y21])), (h6, .inr (5, [.ref kp0_session_samples_bits, .ref kp0_session_samples_durations, .int y22])), (h7, .inr (7, [.ref kp0_session_video_rungs, .int y23])), (h8, .inr (8, [.ref h10, .ref h11, .ref kp0_stream_audio, .ref h9])), (h9, .inr (4, [.ref kp0_stream_plan_lengths, .ref kp0_stream_plan_rates, .int v9_total, .int v9_phases])), (h10, .inl (cI, 15, .inl r10)), (h11, .inr (2, [.ref kp0_stream_video_rates, .int v11_most, .int v11_rungs]))] := hD
    refine lv_i2l hx hb dL_start_6 rfl ?_
    refine astJ (k := 0) (q0 := 0) S hK hP hD hS rfl vl_0_1 tn_0 dL_start_7 (fun H locs hP hD hS => ?_)
    have hP : va_P D vwCl [(h12, .inl (cJ, 1, .inr (.inl (vp_updL r12 0 y2.toInt64)))), (h0, .inr (9, [.ref h8, .ref h1, .ref kp0_scratch])), (h1, .inr (6, [.ref h8, .ref h7, .ref h3, .ref h6, .ref h4, .ref h2, .ref h5, .int y3, .int y4, .int y5, .int y6, .int y7, .int y8, .int y9])), (h2, .inr (0, [.int y10, .int y11, .int y12, .int y13, .int y14, .int y15, .int y16, .long z17, .long z18])), (h3, .inr (7, [.ref kp0_session_audio_rungs, .int y19])), (h4, .inr (1, [.int y20, .int v4_track, .int v4_segment, .int v4_rung, .int v4_waiting, .int v4_duration, .long v4_bits, .long v4_received])), (h5, .inr (3, [.ref kp0_session_line_signs, .int y21])), (h6, .inr (5, [.ref kp0_session_samples_bits, .ref kp0_session_samples_durations, .int y22])), (h7, .inr (7, [.ref kp0_session_video_rungs, .int y23])), (h8, .inr (8, [.ref h10, .ref h11, .ref kp0_stream_audio, .ref h9])), (h9, .inr (4, [.ref kp0_stream_plan_lengths, .ref kp0_stream_plan_rates, .int v9_total, .int v9_phases])), (h10, .inl (cI, 15, .inl r10)), (h11, .inr (2, [.ref kp0_stream_video_rates, .int v11_most, .int v11_rungs]))] H := hP
    have hD : va_D A [(h12, .inl (cJ, 1, .inr (.inl (vp_updL r12 0 y2.toInt64)))), (h0, .inr (9, [.ref h8, .ref h1, .ref kp0_scratch])), (h1, .inr (6, [.ref h8, .ref h7, .ref h3, .ref h6, .ref h4, .ref h2, .ref h5, .int y3, .int y4, .int y5, .int y6, .int y7, .int y8, .int y9])), (h2, .inr (0, [.int y10, .int y11, .int y12, .int y13, .int y14, .int y15, .int y16, .long z17, .long z18])), (h3, .inr (7, [.ref kp0_session_audio_rungs, .int y19])), (h4, .inr (1, [.int y20, .int v4_track, .int v4_segment, .int v4_rung, .int v4_waiting, .int v4_duration, .long v4_bits, .long v4_received])), (h5, .inr (3, [.ref kp0_session_line_signs, .int y21])), (h6, .inr (5, [.ref kp0_session_samples_bits, .ref kp0_session_samples_durations, .int y22])), (h7, .inr (7, [.ref kp0_session_video_rungs, .int y23])), (h8, .inr (8, [.ref h10, .ref h11, .ref kp0_stream_audio, .ref h9])), (h9, .inr (4, [.ref kp0_stream_plan_lengths, .ref kp0_stream_plan_rates, .int v9_total, .int v9_phases])), (h10, .inl (cI, 15, .inl r10)), (h11, .inr (2, [.ref kp0_stream_video_rates, .int v11_most, .int v11_rungs]))] := hD
    obtain ⟨u26, e_u26⟩ : ∃ z, z = vp_updL r12 0 y2.toInt64 := ⟨_, rfl⟩
    rw [← e_u26] at hP hD
    have h := bnd_eq e_u26.symm h
    refine lv_goto (tgt := 14) hx hb dL_start_8 (by decide) ?_
    refine lv_iconst (v := 0) hx hb dL_start_14 li_0 ?_
    have h := Option.some.inj h
    subst h
    exact lRi S hr hlk (Nat.le_of_ble_eq_true rfl) (Nat.le_of_ble_eq_true rfl) (hP.sub [1, 2, 3, 4, 5, 6, 7, 8, 9, 10, 11, 12, 0] rfl) (hD.sub [1, 2, 3, 4, 5, 6, 7, 8, 9, 10, 11, 12, 0] (by decide) rfl) hS dL_start_15
abbrev rm_L_stop : Room := { frames := 9, cells := 1, slots := 6, locals := 150 }
theorem dL_stop_0 : decode cL_stop 0 = .ok (.aload_n 1, 1) := by decide +kernel
theorem dL_stop_1 : decode cL_stop 1 = .ok (.iconst 0, 1) := by decide +kernel
theorem dL_stop_2 : decode cL_stop 2 = .ok (.aload_n 0, 1) := by decide +kernel
theorem dL_stop_3 : decode cL_stop 3 = .ok (.invokevirtual 40, 3) := by decide +kernel
theorem dL_stop_6 : decode cL_stop 6 = .ok (.i2l, 1) := by decide +kernel
theorem dL_stop_7 : decode cL_stop 7 = .ok (.lastore, 1) := by decide +kernel
theorem dL_stop_8 : decode cL_stop 8 = .ok (.goto 6, 3) := by decide +kernel
theorem dL_stop_11 : decode cL_stop 11 = .ok (.astore_n 2, 1) := by decide +kernel
theorem dL_stop_12 : decode cL_stop 12 = .ok (.iconst 1, 1) := by decide +kernel
theorem dL_stop_13 : decode cL_stop 13 = .ok (.ireturn, 1) := by decide +kernel
theorem dL_stop_14 : decode cL_stop 14 = .ok (.iconst 0, 1) := by decide +kernel
theorem dL_stop_15 : decode cL_stop 15 = .ok (.ireturn, 1) := by decide +kernel
theorem cw_L_40 {R : Room} {s : State} {args : Array Value} (hts : ∀ w ∈ TB, w.before args s = true) (hR : rm_X9_stop.frames + 1 ≤ R.frames ∧ 8 + (1 + 11) + rm_X9_stop.locals ≤ R.locals) : CallW R s args RL RX9 40 yX9_stop cX9_stop 1 (some .int) (Cond.code yX9_stop cX9_stop 1 (some .int) :: TB) rm_X9_stop 1 6 0 := cwV 0 hts (gV tb619 tb620 tb621 tb47 tb622) rfl rfl rfl ⟨rfl, by decide, by decide, by decide +kernel⟩ hR
def f_L_stop (v1_state v1_time : Int32) (r2 : Nat → Int64) : Option (Int32 × Int32 × (Nat → Int64)) :=
  bnd3 (f_X9_stop v1_state v1_time) fun (k1 : Nat) (y2 : Int32) (y3 : Int32) =>
  if k1 = 0 then
    bnd (vp_updL r2 0 y2.toInt64) fun (u6 : Nat → Int64) =>
    some (0, y3, u6)
  else
    if k1 = 3 then
      some (1, y3, r2)
    else
      none
set_option maxHeartbeats 4000000 in
set_option maxRecDepth 100000 in
theorem c_L_stop (l : Launch) (hfl : l.stackTraces = false) (ga : Nat → Nat) (D : va_G) (cI cJ cC : ClassId) (h0 h1 h2 kp0_stream kp0_scratch kp0_session_video kp0_session_audio kp0_session_samples kp0_session_download kp0_session_accounts kp0_session_line : Nat) (v1_mode v1_startThreshold v1_lastRung v1_lastChange v1_state v1_time v1_position : Int32) (r2 : Nat → Int64) (sz : Nat)  (T : Int32 × Int32 × (Nat → Int64)) (h : f_L_stop v1_state v1_time r2 = some T) : Met l yL_stop (Cond.codeWith yL_stop cL_stop 3 (some .int) [(0, 8, 11, 17)] :: TB) rm_L_stop (PreX ga D cI cJ cC [(h0, .inr (9, [.ref kp0_stream, .ref h1, .ref kp0_scratch])), (h1, .inr (6, [.ref kp0_stream, .ref kp0_session_video, .ref kp0_session_audio, .ref kp0_session_samples, .ref kp0_session_download, .ref kp0_session_accounts, .ref kp0_session_line, .int v1_mode, .int v1_startThreshold, .int v1_lastRung, .int v1_lastChange, .int v1_state, .int v1_time, .int v1_position])), (h2, .inl (cJ, 1, .inr (.inl r2)))] sz [.ref h0, .ref h2]) (QW (some (.int T.1)) D [(h0, .inr (9, [.ref kp0_stream, .ref h1, .ref kp0_scratch])), (h1, .inr (6, [.ref kp0_stream, .ref kp0_session_video, .ref kp0_session_audio, .ref kp0_session_samples, .ref kp0_session_download, .ref kp0_session_accounts, .ref kp0_session_line, .int v1_mode, .int v1_startThreshold, .int v1_lastRung, .int v1_lastChange, .int T.2.1, .int v1_time, .int v1_position])), (h2, .inl (cJ, 1, .inr (.inl T.2.2)))] (va_A [(h0, .inr (9, [.ref kp0_stream, .ref h1, .ref kp0_scratch])), (h1, .inr (6, [.ref kp0_stream, .ref kp0_session_video, .ref kp0_session_audio, .ref kp0_session_samples, .ref kp0_session_download, .ref kp0_session_accounts, .ref kp0_session_line, .int v1_mode, .int v1_startThreshold, .int v1_lastRung, .int v1_lastChange, .int v1_state, .int v1_time, .int v1_position])), (h2, .inl (cJ, 1, .inr (.inl r2)))] sz)) 1 6 (va_A [(h0, .inr (9, [.ref kp0_stream, .ref h1, .ref kp0_scratch])), (h1, .inr (6, [.ref kp0_stream, .ref kp0_session_video, .ref kp0_session_audio, .ref kp0_session_samples, .ref kp0_session_download, .ref kp0_session_accounts, .ref kp0_session_line, .int v1_mode, .int v1_startThreshold, .int v1_lastRung, .int v1_lastChange, .int v1_state, .int v1_time, .int v1_position])), (h2, .inl (cJ, 1, .inr (.inl r2)))] sz) := by
  refine metL (own := RL) (by decide) rfl (Nat.le_of_ble_eq_true rfl) ?_
  intro p e s m below meth c S hr hlk htab hP hK A hAe hD hA hS hG ls hl
  clear hAe
  have hx := S.1
  have hb := S.2.1
  have hl : lv_has ls 3 [(0, .ref h0), (1, .ref h2)] := hl
  refine lv_aload_n hx hb dL_stop_0 rfl (lv_at hl 1 rfl) ?_
  refine lv_iconst (v := 0) hx hb dL_stop_1 li_0 ?_
  refine lv_aload_n hx hb dL_stop_2 rfl (lv_at hl 0 rfl) ?_
  obtain ⟨k1, y2, y3, e_k1⟩ : ∃ a0 a1 a2, f_X9_stop v1_state v1_time = (a0, a1, a2) := ⟨_, _, _, rfl⟩
  have h := bnd3_eq e_k1 h
  refine xcV (pc1 := 6) (rest := [.int 0, .ref h2]) (st1 := [.int y2, .int 0, .ref h2]) (wr := [(h2, .inl (cJ, 1, .inr (.inl r2)))]) (cells1 := 1) (slots1 := 6) S (c_X9_stop l hfl ga D cI cJ cC h0 h1 kp0_stream kp0_scratch kp0_session_video kp0_session_audio kp0_session_samples kp0_session_download kp0_session_accounts kp0_session_line v1_mode v1_startThreshold v1_lastRung v1_lastChange v1_state v1_time v1_position s.heap.size  (k1, y2, y3) e_k1) (cw_L_40 S.2.2.2.2 ⟨Nat.le_of_ble_eq_true rfl, Nat.le_of_ble_eq_true rfl⟩) hK hP hD hS hA hG [0, 1] [2] rfl rfl rfl (by decide) (by decide) (by decide) rfl rfl rfl rfl hl.1 rfl (Nat.le_of_ble_eq_true rfl) ⟨Nat.le_of_ble_eq_true rfl, Nat.le_of_ble_eq_true rfl⟩ rfl rfl rfl rfl dL_stop_3 (fun c4 H locs ce q9 hP hD hS hce hcv hcl => ?_) (fun c4 H locs hP hD hS => ?_)
  · have h := iteN c4 h
    have hP : va_P D vwCl [(h2, .inl (cJ, 1, .inr (.inl r2))), (h0, .inr (9, [.ref kp0_stream, .ref h1, .ref kp0_scratch])), (h1, .inr (6, [.ref kp0_stream, .ref kp0_session_video, .ref kp0_session_audio, .ref kp0_session_samples, .ref kp0_session_download, .ref kp0_session_accounts, .ref kp0_session_line, .int v1_mode, .int v1_startThreshold, .int v1_lastRung, .int v1_lastChange, .int y3, .int v1_time, .int v1_position]))] H := hP
    have hD : va_D A [(h2, .inl (cJ, 1, .inr (.inl r2))), (h0, .inr (9, [.ref kp0_stream, .ref h1, .ref kp0_scratch])), (h1, .inr (6, [.ref kp0_stream, .ref kp0_session_video, .ref kp0_session_audio, .ref kp0_session_samples, .ref kp0_session_download, .ref kp0_session_accounts, .ref kp0_session_line, .int v1_mode, .int v1_startThreshold, .int v1_lastRung, .int v1_lastChange, .int y3, .int v1_time, .int v1_position]))] := hD
    by_cases c5 : k1 = 3
    · have h := iteP c5 h
      subst c5
      refine vx_catch (name := "java/lang/IllegalStateException") (E := xE 3) (own := RL) S.2.2.2.1 [] ⟨0, 8, 11, 17⟩ [] htab (fun z hz => by cases hz) (by decide) (by decide) (S.2.2.2.2 _ tb389) (va_Nw.use rfl (hG.1 _ nb_16)) hce hcv hcl ?_
      refine W.eq (g2 := F0 m 11 ls [.ref q9]) rfl ?_
      refine lv_astore_n (lv' := [(2, .ref q9), (0, .ref h0), (1, .ref h2)]) hx hb dL_stop_11 rfl hl (by decide) rfl (fun ls hl => ?_)
      refine lv_iconst (v := 1) hx hb dL_stop_12 li_1 ?_
      have h := Option.some.inj h
      subst h
      exact lRi S hr hlk (Nat.le_of_ble_eq_true rfl) (Nat.le_of_ble_eq_true rfl) (hP.sub [1, 2, 0] rfl) (hD.sub [1, 2, 0] (by decide) rfl) hS dL_stop_13
    · have h := iteN c5 h
      cases h
  · have h := iteP c4 h
    have hP : va_P D vwCl [(h2, .inl (cJ, 1, .inr (.inl r2))), (h0, .inr (9, [.ref kp0_stream, .ref h1, .ref kp0_scratch])), (h1, .inr (6, [.ref kp0_stream, .ref kp0_session_video, .ref kp0_session_audio, .ref kp0_session_samples, .ref kp0_session_download, .ref kp0_session_accounts, .ref kp0_session_line, .int v1_mode, .int v1_startThreshold, .int v1_lastRung, .int v1_lastChange, .int y3, .int v1_time, .int v1_position]))] H := hP
    have hD : va_D A [(h2, .inl (cJ, 1, .inr (.inl r2))), (h0, .inr (9, [.ref kp0_stream, .ref h1, .ref kp0_scratch])), (h1, .inr (6, [.ref kp0_stream, .ref kp0_session_video, .ref kp0_session_audio, .ref kp0_session_samples, .ref kp0_session_download, .ref kp0_session_accounts, .ref kp0_session_line, .int v1_mode, .int v1_startThreshold, .int v1_lastRung, .int v1_lastChange, .int y3, .int v1_time, .int v1_position]))] := hD
    refine lv_i2l hx hb dL_stop_6 rfl ?_
    refine astJ (k := 0) (q0 := 0) S hK hP hD hS rfl vl_0_1 tn_0 dL_stop_7 (fun H locs hP hD hS => ?_)
    have hP : va_P D vwCl [(h2, .inl (cJ, 1, .inr (.inl (vp_updL r2 0 y2.toInt64)))), (h0, .inr (9, [.ref kp0_stream, .ref h1, .ref kp0_scratch])), (h1, .inr (6, [.ref kp0_stream, .ref kp0_session_video, .ref kp0_session_audio, .ref kp0_session_samples, .ref kp0_session_download, .ref kp0_session_accounts, .ref kp0_session_line, .int v1_mode, .int v1_startThreshold, .int v1_lastRung, .int v1_lastChange, .int y3, .int v1_time, .int v1_position]))] H := hP
    have hD : va_D A [(h2, .inl (cJ, 1, .inr (.inl (vp_updL r2 0 y2.toInt64)))), (h0, .inr (9, [.ref kp0_stream, .ref h1, .ref kp0_scratch])), (h1, .inr (6, [.ref kp0_stream, .ref kp0_session_video, .ref kp0_session_audio, .ref kp0_session_samples, .ref kp0_session_download, .ref kp0_session_accounts, .ref kp0_session_line, .int v1_mode, .int v1_startThreshold, .int v1_lastRung, .int v1_lastChange, .int y3, .int v1_time, .int v1_position]))] := hD
    obtain ⟨u6, e_u6⟩ : ∃ z, z = vp_updL r2 0 y2.toInt64 := ⟨_, rfl⟩
    rw [← e_u6] at hP hD
    have h := bnd_eq e_u6.symm h
    refine lv_goto (tgt := 14) hx hb dL_stop_8 (by decide) ?_
    refine lv_iconst (v := 0) hx hb dL_stop_14 li_0 ?_
    have h := Option.some.inj h
    subst h
    exact lRi S hr hlk (Nat.le_of_ble_eq_true rfl) (Nat.le_of_ble_eq_true rfl) (hP.sub [1, 2, 0] rfl) (hD.sub [1, 2, 0] (by decide) rfl) hS dL_stop_15
abbrev rm_L_run : Room := { frames := 10, cells := 3, slots := 18, locals := 171 }
theorem dL_run_0 : decode cL_run 0 = .ok (.aload_n 2, 1) := by decide +kernel
theorem dL_run_1 : decode cL_run 1 = .ok (.iconst 0, 1) := by decide +kernel
theorem dL_run_2 : decode cL_run 2 = .ok (.aload_n 0, 1) := by decide +kernel
theorem dL_run_3 : decode cL_run 3 = .ok (.iload_n 1, 1) := by decide +kernel
theorem dL_run_4 : decode cL_run 4 = .ok (.invokevirtual 43, 3) := by decide +kernel
theorem dL_run_7 : decode cL_run 7 = .ok (.i2l, 1) := by decide +kernel
theorem dL_run_8 : decode cL_run 8 = .ok (.lastore, 1) := by decide +kernel
theorem dL_run_9 : decode cL_run 9 = .ok (.goto 9, 3) := by decide +kernel
theorem dL_run_12 : decode cL_run 12 = .ok (.astore_n 3, 1) := by decide +kernel
theorem dL_run_13 : decode cL_run 13 = .ok (.iconst 1, 1) := by decide +kernel
theorem dL_run_14 : decode cL_run 14 = .ok (.ireturn, 1) := by decide +kernel
theorem dL_run_15 : decode cL_run 15 = .ok (.astore_n 3, 1) := by decide +kernel
theorem dL_run_16 : decode cL_run 16 = .ok (.iconst 2, 1) := by decide +kernel
theorem dL_run_17 : decode cL_run 17 = .ok (.ireturn, 1) := by decide +kernel
theorem dL_run_18 : decode cL_run 18 = .ok (.iconst 0, 1) := by decide +kernel
theorem dL_run_19 : decode cL_run 19 = .ok (.ireturn, 1) := by decide +kernel
theorem cw_L_43 {R : Room} {s : State} {args : Array Value} (hts : ∀ w ∈ TB, w.before args s = true) (hR : rm_X9_run.frames + 1 ≤ R.frames ∧ 8 + (2 + 11) + rm_X9_run.locals ≤ R.locals) : CallW R s args RL RX9 43 yX9_run cX9_run 2 (some .int) (Cond.code yX9_run cX9_run 2 (some .int) :: TB) rm_X9_run 3 18 1 := cwV 1 hts (gV tb629 tb630 tb631 tb47 tb632) rfl rfl rfl ⟨rfl, by decide, by decide, by decide +kernel⟩ hR
def f_L_run (v1_mode v1_startThreshold v1_lastRung v1_lastChange v1_state v1_time v1_position v2_startUpTime v2_stallTime v2_playTime v2_stalls v2_abandoned v2_finished v2_switches : Int32) (v2_wasted v2_quality : Int64) (v3_segments : Int32) (r4 : Nat → Int32) (v5_going v5_track v5_segment v5_rung v5_waiting v5_duration : Int32) (v5_bits v5_received : Int64) (v6_length : Int32) (r7 : Nat → Int32) (v8_kept : Int32) (r9 r10 : Nat → Int64) (v11_segments : Int32) (r12 : Nat → Int32) (v14_rungs : Int32) (r15 : Nat → Int32) (v16_total v16_phases : Int32) (r17 r18 r19 : Nat → Int32) (v20_rungs : Int32) (r21 : Nat → Int32) (r22 : Nat → Int64) (p1 : Int32) : Option (Int32 × Int32 × Int32 × Int32 × Int32 × Int32 × Int32 × Int32 × Int32 × Int32 × Int32 × Int32 × Int32 × Int64 × Int64 × Int32 × (Nat → Int32) × Int32 × Int32 × Int32 × Int32 × Int32 × Int32 × Int64 × Int64 × Int32 × (Nat → Int32) × Int32 × (Nat → Int64) × (Nat → Int64) × Int32 × (Nat → Int32) × (Nat → Int64)) :=
  obnd33 (f_X9_run v1_mode v1_startThreshold v1_lastRung v1_lastChange v1_state v1_time v1_position v2_startUpTime v2_stallTime v2_playTime v2_stalls v2_abandoned v2_finished v2_switches v2_wasted v2_quality v3_segments r4 v5_going v5_track v5_segment v5_rung v5_waiting v5_duration v5_bits v5_received v6_length r7 v8_kept r9 r10 v11_segments r12 v14_rungs r15 v16_total v16_phases r17 r18 r19 v20_rungs r21 p1) fun (k1 : Nat) (y2 : Int32) (y3 : Int32) (y4 : Int32) (y5 : Int32) (y6 : Int32) (y7 : Int32) (y8 : Int32) (y9 : Int32) (y10 : Int32) (y11 : Int32) (y12 : Int32) (y13 : Int32) (y14 : Int32) (z15 : Int64) (z16 : Int64) (y17 : Int32) (u18 : Nat → Int32) (y19 : Int32) (y20 : Int32) (y21 : Int32) (y22 : Int32) (y23 : Int32) (y24 : Int32) (z25 : Int64) (z26 : Int64) (y27 : Int32) (u28 : Nat → Int32) (y29 : Int32) (u30 : Nat → Int64) (u31 : Nat → Int64) (y32 : Int32) (u33 : Nat → Int32) =>
  if k1 = 0 then
    bnd (vp_updL r22 0 y2.toInt64) fun (u37 : Nat → Int64) =>
    some (0, y3, y4, y5, y6, y7, y8, y9, y10, y11, y12, y13, y14, z15, z16, y17, u18, y19, y20, y21, y22, y23, y24, z25, z26, y27, u28, y29, u30, u31, y32, u33, u37)
  else
    if k1 = 2 then
      some (1, y3, y4, y5, y6, y7, y8, y9, y10, y11, y12, y13, y14, z15, z16, y17, u18, y19, y20, y21, y22, y23, y24, z25, z26, y27, u28, y29, u30, u31, y32, u33, r22)
    else
      if k1 = 3 then
        some (2, y3, y4, y5, y6, y7, y8, y9, y10, y11, y12, y13, y14, z15, z16, y17, u18, y19, y20, y21, y22, y23, y24, z25, z26, y27, u28, y29, u30, u31, y32, u33, r22)
      else
        none
set_option maxHeartbeats 4000000 in
set_option maxRecDepth 100000 in
theorem c_L_run (l : Launch) (hfl : l.stackTraces = false) (ga : Nat → Nat) (D : va_G) (cI cJ cC : ClassId) (h0 h1 h2 h3 h4 h5 h6 h7 h8 h9 h10 h11 h12 h13 h14 h15 h16 h17 h18 h19 h20 h21 h22 kp0_scratch : Nat) (v1_mode v1_startThreshold v1_lastRung v1_lastChange v1_state v1_time v1_position v2_startUpTime v2_stallTime v2_playTime v2_stalls v2_abandoned v2_finished v2_switches : Int32) (v2_wasted v2_quality : Int64) (v3_segments : Int32) (r4 : Nat → Int32) (v5_going v5_track v5_segment v5_rung v5_waiting v5_duration : Int32) (v5_bits v5_received : Int64) (v6_length : Int32) (r7 : Nat → Int32) (v8_kept : Int32) (r9 r10 : Nat → Int64) (v11_segments : Int32) (r12 : Nat → Int32) (v14_most v14_rungs : Int32) (r15 : Nat → Int32) (v16_total v16_phases : Int32) (r17 r18 r19 : Nat → Int32) (v20_most v20_rungs : Int32) (r21 : Nat → Int32) (r22 : Nat → Int64) (sz : Nat) (p1 : Int32) (T : Int32 × Int32 × Int32 × Int32 × Int32 × Int32 × Int32 × Int32 × Int32 × Int32 × Int32 × Int32 × Int32 × Int64 × Int64 × Int32 × (Nat → Int32) × Int32 × Int32 × Int32 × Int32 × Int32 × Int32 × Int64 × Int64 × Int32 × (Nat → Int32) × Int32 × (Nat → Int64) × (Nat → Int64) × Int32 × (Nat → Int32) × (Nat → Int64)) (h : f_L_run v1_mode v1_startThreshold v1_lastRung v1_lastChange v1_state v1_time v1_position v2_startUpTime v2_stallTime v2_playTime v2_stalls v2_abandoned v2_finished v2_switches v2_wasted v2_quality v3_segments r4 v5_going v5_track v5_segment v5_rung v5_waiting v5_duration v5_bits v5_received v6_length r7 v8_kept r9 r10 v11_segments r12 v14_rungs r15 v16_total v16_phases r17 r18 r19 v20_rungs r21 r22 p1 = some T) : Met l yL_run (Cond.codeWith yL_run cL_run 4 (some .int) [(0, 9, 12, 15), (0, 9, 15, 17)] :: TB) rm_L_run (PreX ga D cI cJ cC [(h0, .inr (9, [.ref h13, .ref h1, .ref kp0_scratch])), (h1, .inr (6, [.ref h13, .ref h11, .ref h3, .ref h8, .ref h5, .ref h2, .ref h6, .int v1_mode, .int v1_startThreshold, .int v1_lastRung, .int v1_lastChange, .int v1_state, .int v1_time, .int v1_position])), (h2, .inr (0, [.int v2_startUpTime, .int v2_stallTime, .int v2_playTime, .int v2_stalls, .int v2_abandoned, .int v2_finished, .int v2_switches, .long v2_wasted, .long v2_quality])), (h3, .inr (7, [.ref h4, .int v3_segments])), (h4, .inl (cI, 200, .inl r4)), (h5, .inr (1, [.int v5_going, .int v5_track, .int v5_segment, .int v5_rung, .int v5_waiting, .int v5_duration, .long v5_bits, .long v5_received])), (h6, .inr (3, [.ref h7, .int v6_length])), (h7, .inl (cC, 300, .inl r7)), (h8, .inr (5, [.ref h9, .ref h10, .int v8_kept])), (h9, .inl (cJ, 10, .inr (.inl r9))), (h10, .inl (cJ, 10, .inr (.inl r10))), (h11, .inr (7, [.ref h12, .int v11_segments])), (h12, .inl (cI, 200, .inl r12)), (h13, .inr (8, [.ref h19, .ref h20, .ref h14, .ref h16])), (h14, .inr (2, [.ref h15, .int v14_most, .int v14_rungs])), (h15, .inl (cI, 6, .inl r15)), (h16, .inr (4, [.ref h17, .ref h18, .int v16_total, .int v16_phases])), (h17, .inl (cI, 20, .inl r17)), (h18, .inl (cI, 20, .inl r18)), (h19, .inl (cI, 15, .inl r19)), (h20, .inr (2, [.ref h21, .int v20_most, .int v20_rungs])), (h21, .inl (cI, 6, .inl r21)), (h22, .inl (cJ, 1, .inr (.inl r22)))] sz [.ref h0, .int p1, .ref h22]) (QW (some (.int T.1)) D [(h0, .inr (9, [.ref h13, .ref h1, .ref kp0_scratch])), (h1, .inr (6, [.ref h13, .ref h11, .ref h3, .ref h8, .ref h5, .ref h2, .ref h6, .int v1_mode, .int v1_startThreshold, .int T.2.1, .int T.2.2.1, .int T.2.2.2.1, .int T.2.2.2.2.1, .int T.2.2.2.2.2.1])), (h2, .inr (0, [.int T.2.2.2.2.2.2.1, .int T.2.2.2.2.2.2.2.1, .int T.2.2.2.2.2.2.2.2.1, .int T.2.2.2.2.2.2.2.2.2.1, .int T.2.2.2.2.2.2.2.2.2.2.1, .int T.2.2.2.2.2.2.2.2.2.2.2.1, .int T.2.2.2.2.2.2.2.2.2.2.2.2.1, .long T.2.2.2.2.2.2.2.2.2.2.2.2.2.1, .long T.2.2.2.2.2.2.2.2.2.2.2.2.2.2.1])), (h3, .inr (7, [.ref h4, .int T.2.2.2.2.2.2.2.2.2.2.2.2.2.2.2.1])), (h4, .inl (cI, 200, .inl T.2.2.2.2.2.2.2.2.2.2.2.2.2.2.2.2.1)), (h5, .inr (1, [.int T.2.2.2.2.2.2.2.2.2.2.2.2.2.2.2.2.2.1, .int T.2.2.2.2.2.2.2.2.2.2.2.2.2.2.2.2.2.2.1, .int T.2.2.2.2.2.2.2.2.2.2.2.2.2.2.2.2.2.2.2.1, .int T.2.2.2.2.2.2.2.2.2.2.2.2.2.2.2.2.2.2.2.2.1, .int T.2.2.2.2.2.2.2.2.2.2.2.2.2.2.2.2.2.2.2.2.2.1, .int T.2.2.2.2.2.2.2.2.2.2.2.2.2.2.2.2.2.2.2.2.2.2.1, .long T.2.2.2.2.2.2.2.2.2.2.2.2.2.2.2.2.2.2.2.2.2.2.2.1, .long T.2.2.2.2.2.2.2.2.2.2.2.2.2.2.2.2.2.2.2.2.2.2.2.2.1])), (h6, .inr (3, [.ref h7, .int T.2.2.2.2.2.2.2.2.2.2.2.2.2.2.2.2.2.2.2.2.2.2.2.2.2.1])), (h7, .inl (cC, 300, .inl T.2.2.2.2.2.2.2.2.2.2.2.2.2.2.2.2.2.2.2.2.2.2.2.2.2.2.1)), (h8, .inr (5, [.ref h9, .ref h10, .int T.2.2.2.2.2.2.2.2.2.2.2.2.2.2.2.2.2.2.2.2.2.2.2.2.2.2.2.1])), (h9, .inl (cJ, 10, .inr (.inl T.2.2.2.2.2.2.2.2.2.2.2.2.2.2.2.2.2.2.2.2.2.2.2.2.2.2.2.2.1))), (h10, .inl (cJ, 10, .inr (.inl T.2.2.2.2.2.2.2.2.2.2.2.2.2.2.2.2.2.2.2.2.2.2.2.2.2.2.2.2.2.1))), (h11, .inr (7, [.ref h12, .int T.2.2.2.2.2.2.2.2.2.2.2.2.2.2.2.2.2.2.2.2.2.2.2.2.2.2.2.2.2.2.1])), (h12, .inl (cI, 200, .inl T.2.2.2.2.2.2.2.2.2.2.2.2.2.2.2.2.2.2.2.2.2.2.2.2.2.2.2.2.2.2.2.1)), (h13, .inr (8, [.ref h19, .ref h20, .ref h14, .ref h16])), (h14, .inr (2, [.ref h15, .int v14_most, .int v14_rungs])), (h15, .inl (cI, 6, .inl r15)), (h16, .inr (4, [.ref h17, .ref h18, .int v16_total, .int v16_phases])), (h17, .inl (cI, 20, .inl r17)), (h18, .inl (cI, 20, .inl r18)), (h19, .inl (cI, 15, .inl r19)), (h20, .inr (2, [.ref h21, .int v20_most, .int v20_rungs])), (h21, .inl (cI, 6, .inl r21)), (h22, .inl (cJ, 1, .inr (.inl T.2.2.2.2.2.2.2.2.2.2.2.2.2.2.2.2.2.2.2.2.2.2.2.2.2.2.2.2.2.2.2.2)))] (va_A [(h0, .inr (9, [.ref h13, .ref h1, .ref kp0_scratch])), (h1, .inr (6, [.ref h13, .ref h11, .ref h3, .ref h8, .ref h5, .ref h2, .ref h6, .int v1_mode, .int v1_startThreshold, .int v1_lastRung, .int v1_lastChange, .int v1_state, .int v1_time, .int v1_position])), (h2, .inr (0, [.int v2_startUpTime, .int v2_stallTime, .int v2_playTime, .int v2_stalls, .int v2_abandoned, .int v2_finished, .int v2_switches, .long v2_wasted, .long v2_quality])), (h3, .inr (7, [.ref h4, .int v3_segments])), (h4, .inl (cI, 200, .inl r4)), (h5, .inr (1, [.int v5_going, .int v5_track, .int v5_segment, .int v5_rung, .int v5_waiting, .int v5_duration, .long v5_bits, .long v5_received])), (h6, .inr (3, [.ref h7, .int v6_length])), (h7, .inl (cC, 300, .inl r7)), (h8, .inr (5, [.ref h9, .ref h10, .int v8_kept])), (h9, .inl (cJ, 10, .inr (.inl r9))), (h10, .inl (cJ, 10, .inr (.inl r10))), (h11, .inr (7, [.ref h12, .int v11_segments])), (h12, .inl (cI, 200, .inl r12)), (h13, .inr (8, [.ref h19, .ref h20, .ref h14, .ref h16])), (h14, .inr (2, [.ref h15, .int v14_most, .int v14_rungs])), (h15, .inl (cI, 6, .inl r15)), (h16, .inr (4, [.ref h17, .ref h18, .int v16_total, .int v16_phases])), (h17, .inl (cI, 20, .inl r17)), (h18, .inl (cI, 20, .inl r18)), (h19, .inl (cI, 15, .inl r19)), (h20, .inr (2, [.ref h21, .int v20_most, .int v20_rungs])), (h21, .inl (cI, 6, .inl r21)), (h22, .inl (cJ, 1, .inr (.inl r22)))] sz)) 3 18 (va_A [(h0, .inr (9, [.ref h13, .ref h1, .ref kp0_scratch])), (h1, .inr (6, [.ref h13, .ref h11, .ref h3, .ref h8, .ref h5, .ref h2, .ref h6, .int v1_mode, .int v1_startThreshold, .int v1_lastRung, .int v1_lastChange, .int v1_state, .int v1_time, .int v1_position])), (h2, .inr (0, [.int v2_startUpTime, .int v2_stallTime, .int v2_playTime, .int v2_stalls, .int v2_abandoned, .int v2_finished, .int v2_switches, .long v2_wasted, .long v2_quality])), (h3, .inr (7, [.ref h4, .int v3_segments])), (h4, .inl (cI, 200, .inl r4)), (h5, .inr (1, [.int v5_going, .int v5_track, .int v5_segment, .int v5_rung, .int v5_waiting, .int v5_duration, .long v5_bits, .long v5_received])), (h6, .inr (3, [.ref h7, .int v6_length])), (h7, .inl (cC, 300, .inl r7)), (h8, .inr (5, [.ref h9, .ref h10, .int v8_kept])), (h9, .inl (cJ, 10, .inr (.inl r9))), (h10, .inl (cJ, 10, .inr (.inl r10))), (h11, .inr (7, [.ref h12, .int v11_segments])), (h12, .inl (cI, 200, .inl r12)), (h13, .inr (8, [.ref h19, .ref h20, .ref h14, .ref h16])), (h14, .inr (2, [.ref h15, .int v14_most, .int v14_rungs])), (h15, .inl (cI, 6, .inl r15)), (h16, .inr (4, [.ref h17, .ref h18, .int v16_total, .int v16_phases])), (h17, .inl (cI, 20, .inl r17)), (h18, .inl (cI, 20, .inl r18)), (h19, .inl (cI, 15, .inl r19)), (h20, .inr (2, [.ref h21, .int v20_most, .int v20_rungs])), (h21, .inl (cI, 6, .inl r21)), (h22, .inl (cJ, 1, .inr (.inl r22)))] sz) := by
  refine metL (own := RL) (by decide) rfl (Nat.le_of_ble_eq_true rfl) ?_
  intro p e s m below meth c S hr hlk htab hP hK A hAe hD hA hS hG ls hl
  clear hAe
  have hx := S.1
  have hb := S.2.1
  have hl : lv_has ls 4 [(0, .ref h0), (1, .int p1), (2, .ref h22)] := hl
  refine lv_aload_n hx hb dL_run_0 rfl (lv_at hl 2 rfl) ?_
  refine lv_iconst (v := 0) hx hb dL_run_1 li_0 ?_
  refine lv_aload_n hx hb dL_run_2 rfl (lv_at hl 0 rfl) ?_
  refine lv_iload_n hx hb dL_run_3 rfl (lv_at hl 1 rfl) ?_
  obtain ⟨k1, y2, y3, y4, y5, y6, y7, y8, y9, y10, y11, y12, y13, y14, z15, z16, y17, u18, y19, y20, y21, y22, y23, y24, z25, z26, y27, u28, y29, u30, u31, y32, u33, e_k1, h⟩ := obnd33_eq h
  refine xcV (pc1 := 7) (rest := [.int 0, .ref h22]) (st1 := [.int y2, .int 0, .ref h22]) (wr := [(h22, .inl (cJ, 1, .inr (.inl r22)))]) (cells1 := 3) (slots1 := 18) S (c_X9_run l hfl ga D cI cJ cC h0 h1 h2 h3 h4 h5 h6 h7 h8 h9 h10 h11 h12 h13 h14 h15 h16 h17 h18 h19 h20 h21 kp0_scratch v1_mode v1_startThreshold v1_lastRung v1_lastChange v1_state v1_time v1_position v2_startUpTime v2_stallTime v2_playTime v2_stalls v2_abandoned v2_finished v2_switches v2_wasted v2_quality v3_segments r4 v5_going v5_track v5_segment v5_rung v5_waiting v5_duration v5_bits v5_received v6_length r7 v8_kept r9 r10 v11_segments r12 v14_most v14_rungs r15 v16_total v16_phases r17 r18 r19 v20_most v20_rungs r21 s.heap.size p1 (k1, y2, y3, y4, y5, y6, y7, y8, y9, y10, y11, y12, y13, y14, z15, z16, y17, u18, y19, y20, y21, y22, y23, y24, z25, z26, y27, u28, y29, u30, u31, y32, u33) e_k1) (cw_L_43 S.2.2.2.2 ⟨Nat.le_of_ble_eq_true rfl, Nat.le_of_ble_eq_true rfl⟩) hK hP hD hS hA hG [0, 1, 2, 3, 4, 5, 6, 7, 8, 9, 10, 11, 12, 13, 14, 15, 16, 17, 18, 19, 20, 21] [22] rfl rfl rfl (by decide) (by decide) (by decide) rfl rfl rfl rfl hl.1 rfl (Nat.le_of_ble_eq_true rfl) ⟨Nat.le_of_ble_eq_true rfl, Nat.le_of_ble_eq_true rfl⟩ rfl rfl rfl rfl dL_run_4 (fun c34 H locs ce q9 hP hD hS hce hcv hcl => ?_) (fun c34 H locs hP hD hS => ?_)
  · have h := iteN c34 h
    have hP : va_P D vwCl [(h22, .inl (cJ, 1, .inr (.inl r22))), (h0, .inr (9, [.ref h13, .ref h1, .ref kp0_scratch])), (h1, .inr (6, [.ref h13, .ref h11, .ref h3, .ref h8, .ref h5, .ref h2, .ref h6, .int v1_mode, .int v1_startThreshold, .int y3, .int y4, .int y5, .int y6, .int y7])), (h2, .inr (0, [.int y8, .int y9, .int y10, .int y11, .int y12, .int y13, .int y14, .long z15, .long z16])), (h3, .inr (7, [.ref h4, .int y17])), (h4, .inl (cI, 200, .inl u18)), (h5, .inr (1, [.int y19, .int y20, .int y21, .int y22, .int y23, .int y24, .long z25, .long z26])), (h6, .inr (3, [.ref h7, .int y27])), (h7, .inl (cC, 300, .inl u28)), (h8, .inr (5, [.ref h9, .ref h10, .int y29])), (h9, .inl (cJ, 10, .inr (.inl u30))), (h10, .inl (cJ, 10, .inr (.inl u31))), (h11, .inr (7, [.ref h12, .int y32])), (h12, .inl (cI, 200, .inl u33)), (h13, .inr (8, [.ref h19, .ref h20, .ref h14, .ref h16])), (h14, .inr (2, [.ref h15, .int v14_most, .int v14_rungs])), (h15, .inl (cI, 6, .inl r15)), (h16, .inr (4, [.ref h17, .ref h18, .int v16_total, .int v16_phases])), (h17, .inl (cI, 20, .inl r17)), (h18, .inl (cI, 20, .inl r18)), (h19, .inl (cI, 15, .inl r19)), (h20, .inr (2, [.ref h21, .int v20_most, .int v20_rungs])), (h21, .inl (cI, 6, .inl r21))] H := hP
    have hD : va_D A [(h22, .inl (cJ, 1, .inr (.inl r22))), (h0, .inr (9, [.ref h13, .ref h1, .ref kp0_scratch])), (h1, .inr (6, [.ref h13, .ref h11, .ref h3, .ref h8, .ref h5, .ref h2, .ref h6, .int v1_mode, .int v1_startThreshold, .int y3, .int y4, .int y5, .int y6, .int y7])), (h2, .inr (0, [.int y8, .int y9, .int y10, .int y11, .int y12, .int y13, .int y14, .long z15, .long z16])), (h3, .inr (7, [.ref h4, .int y17])), (h4, .inl (cI, 200, .inl u18)), (h5, .inr (1, [.int y19, .int y20, .int y21, .int y22, .int y23, .int y24, .long z25, .long z26])), (h6, .inr (3, [.ref h7, .int y27])), (h7, .inl (cC, 300, .inl u28)), (h8, .inr (5, [.ref h9, .ref h10, .int y29])), (h9, .inl (cJ, 10, .inr (.inl u30))), (h10, .inl (cJ, 10, .inr (.inl u31))), (h11, .inr (7, [.ref h12, .int y32])), (h12, .inl (cI, 200, .inl u33)), (h13, .inr (8, [.ref h19, .ref h20, .ref h14, .ref h16])), (h14, .inr (2, [.ref h15, .int v14_most, .int v14_rungs])), (h15, .inl (cI, 6, .inl r15)), (h16, .inr (4, [.ref h17, .ref h18, .int v16_total, .int v16_phases])), (h17, .inl (cI, 20, .inl r17)), (h18, .inl (cI, 20, .inl r18)), (h19, .inl (cI, 15, .inl r19)), (h20, .inr (2, [.ref h21, .int v20_most, .int v20_rungs])), (h21, .inl (cI, 6, .inl r21))] := hD
    by_cases c35 : k1 = 2
    · have h := iteP c35 h
      subst c35
      refine vx_catch (name := "java/lang/IllegalArgumentException") (E := xE 2) (own := RL) S.2.2.2.1 [] ⟨0, 9, 12, 15⟩ [⟨0, 9, 15, 17⟩] htab (fun z hz => by cases hz) (by decide) (by decide) (S.2.2.2.2 _ tb388) (va_Nw.use rfl (hG.1 _ nb_15)) hce hcv hcl ?_
      refine W.eq (g2 := F0 m 12 ls [.ref q9]) rfl ?_
      refine lv_astore_n (lv' := [(3, .ref q9), (0, .ref h0), (1, .int p1), (2, .ref h22)]) hx hb dL_run_12 rfl hl (by decide) rfl (fun ls hl => ?_)
      refine lv_iconst (v := 1) hx hb dL_run_13 li_1 ?_
      have h := Option.some.inj h
      subst h
      exact lRi S hr hlk (Nat.le_of_ble_eq_true rfl) (Nat.le_of_ble_eq_true rfl) (hP.sub [1, 2, 3, 4, 5, 6, 7, 8, 9, 10, 11, 12, 13, 14, 15, 16, 17, 18, 19, 20, 21, 22, 0] rfl) (hD.sub [1, 2, 3, 4, 5, 6, 7, 8, 9, 10, 11, 12, 13, 14, 15, 16, 17, 18, 19, 20, 21, 22, 0] (by decide) rfl) hS dL_run_14
    · have h := iteN c35 h
      by_cases c36 : k1 = 3
      · have h := iteP c36 h
        subst c36
        refine vx_catch (name := "java/lang/IllegalStateException") (E := xE 3) (own := RL) S.2.2.2.1 [⟨0, 9, 12, 15⟩] ⟨0, 9, 15, 17⟩ [] htab (fun z hz => by
          simp only [List.mem_cons, List.not_mem_nil, or_false] at hz
          rcases hz with rfl
          · exact Or.inr ⟨by decide, "java/lang/IllegalArgumentException", S.2.2.2.2 _ tb388, hG.2.2.2.2.2.1 ("java/lang/IllegalStateException", "java/lang/IllegalArgumentException") (by decide)⟩) (by decide) (by decide) (S.2.2.2.2 _ tb389) (va_Nw.use rfl (hG.1 _ nb_16)) hce hcv hcl ?_
        refine W.eq (g2 := F0 m 15 ls [.ref q9]) rfl ?_
        refine lv_astore_n (lv' := [(3, .ref q9), (0, .ref h0), (1, .int p1), (2, .ref h22)]) hx hb dL_run_15 rfl hl (by decide) rfl (fun ls hl => ?_)
        refine lv_iconst (v := 2) hx hb dL_run_16 li_2 ?_
        have h := Option.some.inj h
        subst h
        exact lRi S hr hlk (Nat.le_of_ble_eq_true rfl) (Nat.le_of_ble_eq_true rfl) (hP.sub [1, 2, 3, 4, 5, 6, 7, 8, 9, 10, 11, 12, 13, 14, 15, 16, 17, 18, 19, 20, 21, 22, 0] rfl) (hD.sub [1, 2, 3, 4, 5, 6, 7, 8, 9, 10, 11, 12, 13, 14, 15, 16, 17, 18, 19, 20, 21, 22, 0] (by decide) rfl) hS dL_run_17
      · have h := iteN c36 h
        cases h
  · have h := iteP c34 h
    have hP : va_P D vwCl [(h22, .inl (cJ, 1, .inr (.inl r22))), (h0, .inr (9, [.ref h13, .ref h1, .ref kp0_scratch])), (h1, .inr (6, [.ref h13, .ref h11, .ref h3, .ref h8, .ref h5, .ref h2, .ref h6, .int v1_mode, .int v1_startThreshold, .int y3, .int y4, .int y5, .int y6, .int y7])), (h2, .inr (0, [.int y8, .int y9, .int y10, .int y11, .int y12, .int y13, .int y14, .long z15, .long z16])), (h3, .inr (7, [.ref h4, .int y17])), (h4, .inl (cI, 200, .inl u18)), (h5, .inr (1, [.int y19, .int y20, .int y21, .int y22, .int y23, .int y24, .long z25, .long z26])), (h6, .inr (3, [.ref h7, .int y27])), (h7, .inl (cC, 300, .inl u28)), (h8, .inr (5, [.ref h9, .ref h10, .int y29])), (h9, .inl (cJ, 10, .inr (.inl u30))), (h10, .inl (cJ, 10, .inr (.inl u31))), (h11, .inr (7, [.ref h12, .int y32])), (h12, .inl (cI, 200, .inl u33)), (h13, .inr (8, [.ref h19, .ref h20, .ref h14, .ref h16])), (h14, .inr (2, [.ref h15, .int v14_most, .int v14_rungs])), (h15, .inl (cI, 6, .inl r15)), (h16, .inr (4, [.ref h17, .ref h18, .int v16_total, .int v16_phases])), (h17, .inl (cI, 20, .inl r17)), (h18, .inl (cI, 20, .inl r18)), (h19, .inl (cI, 15, .inl r19)), (h20, .inr (2, [.ref h21, .int v20_most, .int v20_rungs])), (h21, .inl (cI, 6, .inl r21))] H := hP
    have hD : va_D A [(h22, .inl (cJ, 1, .inr (.inl r22))), (h0, .inr (9, [.ref h13, .ref h1, .ref kp0_scratch])), (h1, .inr (6, [.ref h13, .ref h11, .ref h3, .ref h8, .ref h5, .ref h2, .ref h6, .int v1_mode, .int v1_startThreshold, .int y3, .int y4, .int y5, .int y6, .int y7])), (h2, .inr (0, [.int y8, .int y9, .int y10, .int y11, .int y12, .int y13, .int y14, .long z15, .long z16])), (h3, .inr (7, [.ref h4, .int y17])), (h4, .inl (cI, 200, .inl u18)), (h5, .inr (1, [.int y19, .int y20, .int y21, .int y22, .int y23, .int y24, .long z25, .long z26])), (h6, .inr (3, [.ref h7, .int y27])), (h7, .inl (cC, 300, .inl u28)), (h8, .inr (5, [.ref h9, .ref h10, .int y29])), (h9, .inl (cJ, 10, .inr (.inl u30))), (h10, .inl (cJ, 10, .inr (.inl u31))), (h11, .inr (7, [.ref h12, .int y32])), (h12, .inl (cI, 200, .inl u33)), (h13, .inr (8, [.ref h19, .ref h20, .ref h14, .ref h16])), (h14, .inr (2, [.ref h15, .int v14_most, .int v14_rungs])), (h15, .inl (cI, 6, .inl r15)), (h16, .inr (4, [.ref h17, .ref h18, .int v16_total, .int v16_phases])), (h17, .inl (cI, 20, .inl r17)), (h18, .inl (cI, 20, .inl r18)), (h19, .inl (cI, 15, .inl r19)), (h20, .inr (2, [.ref h21, .int v20_most, .int v20_rungs])), (h21, .inl (cI, 6, .inl r21))] := hD
    refine lv_i2l hx hb dL_run_7 rfl ?_
    refine astJ (k := 0) (q0 := 0) S hK hP hD hS rfl vl_0_1 tn_0 dL_run_8 (fun H locs hP hD hS => ?_)
    have hP : va_P D vwCl [(h22, .inl (cJ, 1, .inr (.inl (vp_updL r22 0 y2.toInt64)))), (h0, .inr (9, [.ref h13, .ref h1, .ref kp0_scratch])), (h1, .inr (6, [.ref h13, .ref h11, .ref h3, .ref h8, .ref h5, .ref h2, .ref h6, .int v1_mode, .int v1_startThreshold, .int y3, .int y4, .int y5, .int y6, .int y7])), (h2, .inr (0, [.int y8, .int y9, .int y10, .int y11, .int y12, .int y13, .int y14, .long z15, .long z16])), (h3, .inr (7, [.ref h4, .int y17])), (h4, .inl (cI, 200, .inl u18)), (h5, .inr (1, [.int y19, .int y20, .int y21, .int y22, .int y23, .int y24, .long z25, .long z26])), (h6, .inr (3, [.ref h7, .int y27])), (h7, .inl (cC, 300, .inl u28)), (h8, .inr (5, [.ref h9, .ref h10, .int y29])), (h9, .inl (cJ, 10, .inr (.inl u30))), (h10, .inl (cJ, 10, .inr (.inl u31))), (h11, .inr (7, [.ref h12, .int y32])), (h12, .inl (cI, 200, .inl u33)), (h13, .inr (8, [.ref h19, .ref h20, .ref h14, .ref h16])), (h14, .inr (2, [.ref h15, .int v14_most, .int v14_rungs])), (h15, .inl (cI, 6, .inl r15)), (h16, .inr (4, [.ref h17, .ref h18, .int v16_total, .int v16_phases])), (h17, .inl (cI, 20, .inl r17)), (h18, .inl (cI, 20, .inl r18)), (h19, .inl (cI, 15, .inl r19)), (h20, .inr (2, [.ref h21, .int v20_most, .int v20_rungs])), (h21, .inl (cI, 6, .inl r21))] H := hP
    have hD : va_D A [(h22, .inl (cJ, 1, .inr (.inl (vp_updL r22 0 y2.toInt64)))), (h0, .inr (9, [.ref h13, .ref h1, .ref kp0_scratch])), (h1, .inr (6, [.ref h13, .ref h11, .ref h3, .ref h8, .ref h5, .ref h2, .ref h6, .int v1_mode, .int v1_startThreshold, .int y3, .int y4, .int y5, .int y6, .int y7])), (h2, .inr (0, [.int y8, .int y9, .int y10, .int y11, .int y12, .int y13, .int y14, .long z15, .long z16])), (h3, .inr (7, [.ref h4, .int y17])), (h4, .inl (cI, 200, .inl u18)), (h5, .inr (1, [.int y19, .int y20, .int y21, .int y22, .int y23, .int y24, .long z25, .long z26])), (h6, .inr (3, [.ref h7, .int y27])), (h7, .inl (cC, 300, .inl u28)), (h8, .inr (5, [.ref h9, .ref h10, .int y29])), (h9, .inl (cJ, 10, .inr (.inl u30))), (h10, .inl (cJ, 10, .inr (.inl u31))), (h11, .inr (7, [.ref h12, .int y32])), (h12, .inl (cI, 200, .inl u33)), (h13, .inr (8, [.ref h19, .ref h20, .ref h14, .ref h16])), (h14, .inr (2, [.ref h15, .int v14_most, .int v14_rungs])), (h15, .inl (cI, 6, .inl r15)), (h16, .inr (4, [.ref h17, .ref h18, .int v16_total, .int v16_phases])), (h17, .inl (cI, 20, .inl r17)), (h18, .inl (cI, 20, .inl r18)), (h19, .inl (cI, 15, .inl r19)), (h20, .inr (2, [.ref h21, .int v20_most, .int v20_rungs])), (h21, .inl (cI, 6, .inl r21))] := hD
    obtain ⟨u37, e_u37⟩ : ∃ z, z = vp_updL r22 0 y2.toInt64 := ⟨_, rfl⟩
    rw [← e_u37] at hP hD
    have h := bnd_eq e_u37.symm h
    refine lv_goto (tgt := 18) hx hb dL_run_9 (by decide) ?_
    refine lv_iconst (v := 0) hx hb dL_run_18 li_0 ?_
    have h := Option.some.inj h
    subst h
    exact lRi S hr hlk (Nat.le_of_ble_eq_true rfl) (Nat.le_of_ble_eq_true rfl) (hP.sub [1, 2, 3, 4, 5, 6, 7, 8, 9, 10, 11, 12, 13, 14, 15, 16, 17, 18, 19, 20, 21, 22, 0] rfl) (hD.sub [1, 2, 3, 4, 5, 6, 7, 8, 9, 10, 11, 12, 13, 14, 15, 16, 17, 18, 19, 20, 21, 22, 0] (by decide) rfl) hS dL_run_19
abbrev rm_L_time : Room := { frames := 9, cells := 1, slots := 6, locals := 150 }
theorem dL_time_0 : decode cL_time 0 = .ok (.aload_n 1, 1) := by decide +kernel
theorem dL_time_1 : decode cL_time 1 = .ok (.iconst 0, 1) := by decide +kernel
theorem dL_time_2 : decode cL_time 2 = .ok (.aload_n 0, 1) := by decide +kernel
theorem dL_time_3 : decode cL_time 3 = .ok (.invokevirtual 46, 3) := by decide +kernel
theorem dL_time_6 : decode cL_time 6 = .ok (.i2l, 1) := by decide +kernel
theorem dL_time_7 : decode cL_time 7 = .ok (.lastore, 1) := by decide +kernel
theorem dL_time_8 : decode cL_time 8 = .ok (.goto 6, 3) := by decide +kernel
theorem dL_time_11 : decode cL_time 11 = .ok (.astore_n 2, 1) := by decide +kernel
theorem dL_time_12 : decode cL_time 12 = .ok (.iconst 1, 1) := by decide +kernel
theorem dL_time_13 : decode cL_time 13 = .ok (.ireturn, 1) := by decide +kernel
theorem dL_time_14 : decode cL_time 14 = .ok (.iconst 0, 1) := by decide +kernel
theorem dL_time_15 : decode cL_time 15 = .ok (.ireturn, 1) := by decide +kernel
theorem cw_L_46 {R : Room} {s : State} {args : Array Value} (hts : ∀ w ∈ TB, w.before args s = true) (hR : rm_X9_time.frames + 1 ≤ R.frames ∧ 8 + (1 + 11) + rm_X9_time.locals ≤ R.locals) : CallW R s args RL RX9 46 yX9_time cX9_time 1 (some .int) (Cond.code yX9_time cX9_time 1 (some .int) :: TB) rm_X9_time 1 6 0 := cwV 0 hts (gV tb764 tb765 tb766 tb47 tb767) rfl rfl rfl ⟨rfl, by decide, by decide, by decide +kernel⟩ hR
def f_L_time (v1_state v1_time : Int32) (r2 : Nat → Int64) : Option (Int32 × (Nat → Int64)) :=
  bnd2 (f_X9_time v1_state v1_time) fun (k1 : Nat) (y2 : Int32) =>
  if k1 = 0 then
    bnd (vp_updL r2 0 y2.toInt64) fun (u5 : Nat → Int64) =>
    some (0, u5)
  else
    if k1 = 3 then
      some (1, r2)
    else
      none
set_option maxHeartbeats 4000000 in
set_option maxRecDepth 100000 in
theorem c_L_time (l : Launch) (hfl : l.stackTraces = false) (ga : Nat → Nat) (D : va_G) (cI cJ cC : ClassId) (h0 h1 h2 kp0_stream kp0_scratch kp0_session_video kp0_session_audio kp0_session_samples kp0_session_download kp0_session_accounts kp0_session_line : Nat) (v1_mode v1_startThreshold v1_lastRung v1_lastChange v1_state v1_time v1_position : Int32) (r2 : Nat → Int64) (sz : Nat)  (T : Int32 × (Nat → Int64)) (h : f_L_time v1_state v1_time r2 = some T) : Met l yL_time (Cond.codeWith yL_time cL_time 3 (some .int) [(0, 8, 11, 17)] :: TB) rm_L_time (PreX ga D cI cJ cC [(h0, .inr (9, [.ref kp0_stream, .ref h1, .ref kp0_scratch])), (h1, .inr (6, [.ref kp0_stream, .ref kp0_session_video, .ref kp0_session_audio, .ref kp0_session_samples, .ref kp0_session_download, .ref kp0_session_accounts, .ref kp0_session_line, .int v1_mode, .int v1_startThreshold, .int v1_lastRung, .int v1_lastChange, .int v1_state, .int v1_time, .int v1_position])), (h2, .inl (cJ, 1, .inr (.inl r2)))] sz [.ref h0, .ref h2]) (QW (some (.int T.1)) D [(h0, .inr (9, [.ref kp0_stream, .ref h1, .ref kp0_scratch])), (h1, .inr (6, [.ref kp0_stream, .ref kp0_session_video, .ref kp0_session_audio, .ref kp0_session_samples, .ref kp0_session_download, .ref kp0_session_accounts, .ref kp0_session_line, .int v1_mode, .int v1_startThreshold, .int v1_lastRung, .int v1_lastChange, .int v1_state, .int v1_time, .int v1_position])), (h2, .inl (cJ, 1, .inr (.inl T.2)))] (va_A [(h0, .inr (9, [.ref kp0_stream, .ref h1, .ref kp0_scratch])), (h1, .inr (6, [.ref kp0_stream, .ref kp0_session_video, .ref kp0_session_audio, .ref kp0_session_samples, .ref kp0_session_download, .ref kp0_session_accounts, .ref kp0_session_line, .int v1_mode, .int v1_startThreshold, .int v1_lastRung, .int v1_lastChange, .int v1_state, .int v1_time, .int v1_position])), (h2, .inl (cJ, 1, .inr (.inl r2)))] sz)) 1 6 (va_A [(h0, .inr (9, [.ref kp0_stream, .ref h1, .ref kp0_scratch])), (h1, .inr (6, [.ref kp0_stream, .ref kp0_session_video, .ref kp0_session_audio, .ref kp0_session_samples, .ref kp0_session_download, .ref kp0_session_accounts, .ref kp0_session_line, .int v1_mode, .int v1_startThreshold, .int v1_lastRung, .int v1_lastChange, .int v1_state, .int v1_time, .int v1_position])), (h2, .inl (cJ, 1, .inr (.inl r2)))] sz) := by
  refine metL (own := RL) (by decide) rfl (Nat.le_of_ble_eq_true rfl) ?_
  intro p e s m below meth c S hr hlk htab hP hK A hAe hD hA hS hG ls hl
  clear hAe
  have hx := S.1
  have hb := S.2.1
  have hl : lv_has ls 3 [(0, .ref h0), (1, .ref h2)] := hl
  refine lv_aload_n hx hb dL_time_0 rfl (lv_at hl 1 rfl) ?_
  refine lv_iconst (v := 0) hx hb dL_time_1 li_0 ?_
  refine lv_aload_n hx hb dL_time_2 rfl (lv_at hl 0 rfl) ?_
  obtain ⟨k1, y2, e_k1⟩ : ∃ a0 a1, f_X9_time v1_state v1_time = (a0, a1) := ⟨_, _, rfl⟩
  have h := bnd2_eq e_k1 h
  refine xcV (pc1 := 6) (rest := [.int 0, .ref h2]) (st1 := [.int y2, .int 0, .ref h2]) (wr := [(h2, .inl (cJ, 1, .inr (.inl r2)))]) (cells1 := 1) (slots1 := 6) S (c_X9_time l hfl ga D cI cJ cC h0 h1 kp0_stream kp0_scratch kp0_session_video kp0_session_audio kp0_session_samples kp0_session_download kp0_session_accounts kp0_session_line v1_mode v1_startThreshold v1_lastRung v1_lastChange v1_state v1_time v1_position s.heap.size  (k1, y2) e_k1) (cw_L_46 S.2.2.2.2 ⟨Nat.le_of_ble_eq_true rfl, Nat.le_of_ble_eq_true rfl⟩) hK hP hD hS hA hG [0, 1] [2] rfl rfl rfl (by decide) (by decide) (by decide) rfl rfl rfl rfl hl.1 rfl (Nat.le_of_ble_eq_true rfl) ⟨Nat.le_of_ble_eq_true rfl, Nat.le_of_ble_eq_true rfl⟩ rfl rfl rfl rfl dL_time_3 (fun c3 H locs ce q9 hP hD hS hce hcv hcl => ?_) (fun c3 H locs hP hD hS => ?_)
  · have h := iteN c3 h
    have hP : va_P D vwCl [(h2, .inl (cJ, 1, .inr (.inl r2))), (h0, .inr (9, [.ref kp0_stream, .ref h1, .ref kp0_scratch])), (h1, .inr (6, [.ref kp0_stream, .ref kp0_session_video, .ref kp0_session_audio, .ref kp0_session_samples, .ref kp0_session_download, .ref kp0_session_accounts, .ref kp0_session_line, .int v1_mode, .int v1_startThreshold, .int v1_lastRung, .int v1_lastChange, .int v1_state, .int v1_time, .int v1_position]))] H := hP
    have hD : va_D A [(h2, .inl (cJ, 1, .inr (.inl r2))), (h0, .inr (9, [.ref kp0_stream, .ref h1, .ref kp0_scratch])), (h1, .inr (6, [.ref kp0_stream, .ref kp0_session_video, .ref kp0_session_audio, .ref kp0_session_samples, .ref kp0_session_download, .ref kp0_session_accounts, .ref kp0_session_line, .int v1_mode, .int v1_startThreshold, .int v1_lastRung, .int v1_lastChange, .int v1_state, .int v1_time, .int v1_position]))] := hD
    by_cases c4 : k1 = 3
    · have h := iteP c4 h
      subst c4
      refine vx_catch (name := "java/lang/IllegalStateException") (E := xE 3) (own := RL) S.2.2.2.1 [] ⟨0, 8, 11, 17⟩ [] htab (fun z hz => by cases hz) (by decide) (by decide) (S.2.2.2.2 _ tb389) (va_Nw.use rfl (hG.1 _ nb_16)) hce hcv hcl ?_
      refine W.eq (g2 := F0 m 11 ls [.ref q9]) rfl ?_
      refine lv_astore_n (lv' := [(2, .ref q9), (0, .ref h0), (1, .ref h2)]) hx hb dL_time_11 rfl hl (by decide) rfl (fun ls hl => ?_)
      refine lv_iconst (v := 1) hx hb dL_time_12 li_1 ?_
      have h := Option.some.inj h
      subst h
      exact lRi S hr hlk (Nat.le_of_ble_eq_true rfl) (Nat.le_of_ble_eq_true rfl) (hP.sub [1, 2, 0] rfl) (hD.sub [1, 2, 0] (by decide) rfl) hS dL_time_13
    · have h := iteN c4 h
      cases h
  · have h := iteP c3 h
    have hP : va_P D vwCl [(h2, .inl (cJ, 1, .inr (.inl r2))), (h0, .inr (9, [.ref kp0_stream, .ref h1, .ref kp0_scratch])), (h1, .inr (6, [.ref kp0_stream, .ref kp0_session_video, .ref kp0_session_audio, .ref kp0_session_samples, .ref kp0_session_download, .ref kp0_session_accounts, .ref kp0_session_line, .int v1_mode, .int v1_startThreshold, .int v1_lastRung, .int v1_lastChange, .int v1_state, .int v1_time, .int v1_position]))] H := hP
    have hD : va_D A [(h2, .inl (cJ, 1, .inr (.inl r2))), (h0, .inr (9, [.ref kp0_stream, .ref h1, .ref kp0_scratch])), (h1, .inr (6, [.ref kp0_stream, .ref kp0_session_video, .ref kp0_session_audio, .ref kp0_session_samples, .ref kp0_session_download, .ref kp0_session_accounts, .ref kp0_session_line, .int v1_mode, .int v1_startThreshold, .int v1_lastRung, .int v1_lastChange, .int v1_state, .int v1_time, .int v1_position]))] := hD
    refine lv_i2l hx hb dL_time_6 rfl ?_
    refine astJ (k := 0) (q0 := 0) S hK hP hD hS rfl vl_0_1 tn_0 dL_time_7 (fun H locs hP hD hS => ?_)
    have hP : va_P D vwCl [(h2, .inl (cJ, 1, .inr (.inl (vp_updL r2 0 y2.toInt64)))), (h0, .inr (9, [.ref kp0_stream, .ref h1, .ref kp0_scratch])), (h1, .inr (6, [.ref kp0_stream, .ref kp0_session_video, .ref kp0_session_audio, .ref kp0_session_samples, .ref kp0_session_download, .ref kp0_session_accounts, .ref kp0_session_line, .int v1_mode, .int v1_startThreshold, .int v1_lastRung, .int v1_lastChange, .int v1_state, .int v1_time, .int v1_position]))] H := hP
    have hD : va_D A [(h2, .inl (cJ, 1, .inr (.inl (vp_updL r2 0 y2.toInt64)))), (h0, .inr (9, [.ref kp0_stream, .ref h1, .ref kp0_scratch])), (h1, .inr (6, [.ref kp0_stream, .ref kp0_session_video, .ref kp0_session_audio, .ref kp0_session_samples, .ref kp0_session_download, .ref kp0_session_accounts, .ref kp0_session_line, .int v1_mode, .int v1_startThreshold, .int v1_lastRung, .int v1_lastChange, .int v1_state, .int v1_time, .int v1_position]))] := hD
    obtain ⟨u5, e_u5⟩ : ∃ z, z = vp_updL r2 0 y2.toInt64 := ⟨_, rfl⟩
    rw [← e_u5] at hP hD
    have h := bnd_eq e_u5.symm h
    refine lv_goto (tgt := 14) hx hb dL_time_8 (by decide) ?_
    refine lv_iconst (v := 0) hx hb dL_time_14 li_0 ?_
    have h := Option.some.inj h
    subst h
    exact lRi S hr hlk (Nat.le_of_ble_eq_true rfl) (Nat.le_of_ble_eq_true rfl) (hP.sub [1, 2, 0] rfl) (hD.sub [1, 2, 0] (by decide) rfl) hS dL_time_15
