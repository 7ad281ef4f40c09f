/-! the law: its end -/
set_option maxHeartbeats 4000000 in
set_option maxRecDepth 100000 in
theorem law_end {xs : Nat → Int32} {L : Nat} (hL : L ≤ 260) {c : Cf} {x_mode : Int32} {x_th : Int32} {x_last : Int32} {x_chg : Int32} {x_state : Int32} {x_time : Int32} {x_pos : Int32} {x_su : Int32} {x_st : Int32} {x_pl : Int32} {x_stalls : Int32} {x_aband : Int32} {x_fin : Int32} {x_sw : Int32} {x_wasted : Int64} {x_qual : Int64} {x_as : Int32} {x_aa : Nat → Int32} {x_going : Int32} {x_track : Int32} {x_seg : Int32} {x_rung : Int32} {x_wait : Int32} {x_dur : Int32} {x_need : Int64} {x_got : Int64} {x_len : Int32} {x_sg : Nat → Int32} {x_kept : Int32} {x_bits : Nat → Int64} {x_durs : Nat → Int64} {x_vs : Int32} {x_va : Nat → Int32} {mode : Int32} {th : Int32} {last : Int32} {chg : Int32} {state : Int32} {time : Int32} {pos : Int32} {su : Int32} {st : Int32} {pl : Int32} {stalls : Int32} {aband : Int32} {fin : Int32} {sw : Int32} {wasted : Int64} {qual : Int64} {as : Int32} {aa : Nat → Int32} {going : Int32} {track : Int32} {seg : Int32} {rung : Int32} {wait : Int32} {dur : Int32} {need : Int64} {got : Int64} {len : Int32} {sg : Nat → Int32} {kept : Int32} {bits : Nat → Int64} {durs : Nat → Int64} {vs : Int32} {va : Nat → Int32} {va8 : Nat → Int32} {vn : Int32} {vr : Nat → Int32} {an : Int32} {ar : Nat → Int32} {tot : Int32} {ph : Int32} {ln : Nat → Int32} {fl : Nat → Int32} {l2 l3 l4 l5 : Int32} {t g : Nat} (W : WfC c) (K : CC c va8 vn vr an ar tot ph ln fl) (V : 1 ≤ c.vn) (P : 1 ≤ c.ph) (hp : c.ph = ((1 : Int) + (upv (cel xs L 3 >>> (8 &&& 31)) 4).toInt)) (em : mode.toInt = c.v 12) (et : th.toInt = c.v 3) (R : RC c (sgS c t) last chg state time pos su st pl stalls aband fin sw wasted qual as aa going track seg rung wait dur need got len sg kept bits durs vs va) (F : chk x_sg 300 = true) (ht : t ≤ 20000) (h5 : 6 ≤ l5.toInt) : f_L_law_b104 3 6 xs L (g + 1) x_mode x_th x_last x_chg x_state x_time x_pos x_su x_st x_pl x_stalls x_aband x_fin x_sw x_wasted x_qual x_as x_aa x_going x_track x_seg x_rung x_wait x_dur x_need x_got x_len x_sg x_kept x_bits x_durs x_vs x_va mode th last chg state time pos su st pl stalls aband fin sw wasted qual as aa going track seg rung wait dur need got len sg kept bits durs vs va an ar tot ph ln fl va8 vn vr l2 l3 l4 l5 = some 1 := by
  obtain ⟨S, e, iv, ln9⟩ := sg_ok W V t ht
  have Rt := R.time
  rw [e] at Rt
  have m0 := W.a12
  have m1 := W.b12
  have ns := ne_st S R.state
  obtain ⟨b, modeB, thB, lastB, chgB, stateB, timeB, posB, suB, stB, plB, stallsB, abandB, finB, swB, wastedB, qualB, asB, aaB, goingB, trackB, segB, rungB, waitB, durB, needB, gotB, lenB, sgB, keptB, bitsB, dursB, vsB, vaB, hb, Fb, b0, b2, hmax⟩ := q_best (x_mode := x_mode) (x_th := x_th) (x_last := x_last) (x_chg := x_chg) (x_state := x_state) (x_time := x_time) (x_pos := x_pos) (x_su := x_su) (x_st := x_st) (x_pl := x_pl) (x_stalls := x_stalls) (x_aband := x_aband) (x_fin := x_fin) (x_sw := x_sw) (x_wasted := x_wasted) (x_qual := x_qual) (x_as := x_as) (x_aa := x_aa) (x_going := x_going) (x_track := x_track) (x_seg := x_seg) (x_rung := x_rung) (x_wait := x_wait) (x_dur := x_dur) (x_need := x_need) (x_got := x_got) (x_len := x_len) (x_sg := x_sg) (x_kept := x_kept) (x_bits := x_bits) (x_durs := x_durs) (x_vs := x_vs) (x_va := x_va) W K V P F Rt ht
  obtain ⟨r, y_mode, y_th, lastL, chgL, stateL, timeL, posL, suL, stL, plL, stallsL, abandL, finL, swL, wastedL, qualL, asL, aaL, goingL, trackL, segL, rungL, waitL, durL, needL, gotL, lenL, sgL, keptL, bitsL, dursL, vsL, vaL, hl, Fl, r0, r1⟩ := q_least (x_mode := modeB) (x_th := thB) (x_last := lastB) (x_chg := chgB) (x_state := stateB) (x_time := timeB) (x_pos := posB) (x_su := suB) (x_st := stB) (x_pl := plB) (x_stalls := stallsB) (x_aband := abandB) (x_fin := finB) (x_sw := swB) (x_wasted := wastedB) (x_qual := qualB) (x_as := asB) (x_aa := aaB) (x_going := goingB) (x_track := trackB) (x_seg := segB) (x_rung := rungB) (x_wait := waitB) (x_dur := durB) (x_need := needB) (x_got := gotB) (x_len := lenB) (x_sg := sgB) (x_kept := keptB) (x_bits := bitsB) (x_durs := dursB) (x_vs := vsB) (x_va := vaB) W K V P (p := time) Fb Rt ht
  obtain ⟨z_mode, z_th, lastT, chgT, stateT, timeT, posT, suT, stT, plT, stallsT, abandT, finT, swT, wastedT, qualT, asT, aaT, goingT, trackT, segT, rungT, waitT, durT, needT, gotT, lenT, sgT, keptT, bitsT, dursT, vsT, vaT, hz, Fz⟩ := q_trial (x_mode := y_mode) (x_th := y_th) (x_last := lastL) (x_chg := chgL) (x_state := stateL) (x_time := timeL) (x_pos := posL) (x_su := suL) (x_st := stL) (x_pl := plL) (x_stalls := stallsL) (x_aband := abandL) (x_fin := finL) (x_sw := swL) (x_wasted := wastedL) (x_qual := qualL) (x_as := asL) (x_aa := aaL) (x_going := goingL) (x_track := trackL) (x_seg := segL) (x_rung := rungL) (x_wait := waitL) (x_dur := durL) (x_need := needL) (x_got := gotL) (x_len := lenL) (x_sg := sgL) (x_kept := keptL) (x_bits := bitsL) (x_durs := dursL) (x_vs := vsL) (x_va := vaL) W K V P (p1 := b) (p2 := time) Fl b0 b2 Rt ht
  have k1 := K.v 1 (by decide)
  have k12 := K.v 12 (by decide)
  have k3 := K.v 3 (by decide)
  have w1 := W.m0
  have Sf : WfS c (4 * freshS.time) freshS := fresh_wf W V
  have ft : freshS.time = 0 := rfl
  obtain ⟨last3, chg3, state3, time3, pos3, su3, st3, pl3, stalls3, aband3, fin3, sw3, wasted3, qual3, as3, aa3, going3, track3, seg3, rung3, wait3, dur3, need3, got3, len3, sg3, kept3, bits3, durs3, vs3, va3, hr, R3⟩ := q_ran (mode := va8 12) (th := va8 3) W K V Sf (rc_fresh (aa := aa) (track := track) (seg := seg) (rung := rung) (wait := wait) (dur := dur) (need := need) (got := got) (bits := bits) (durs := durs) (va := va) R.ft) Rt ht (by rw [ft]; decide)
  rw [k12, k3] at R3
  have R3 : RC c (sgS c t) last3 chg3 state3 time3 pos3 su3 st3 pl3 stalls3 aband3 fin3 sw3 wasted3 qual3 as3 aa3 going3 track3 seg3 rung3 wait3 dur3 need3 got3 len3 sg3 kept3 bits3 durs3 vs3 va3 := R3
  have b3 := upv_b (x := cel xs L 3 >>> (8 &&& 31)) (m := 4) (by decide)
  simp only [Int32.reduceToInt] at b3
  have ep : ((1 : Int32) + upv (cel xs L 3 >>> (8 &&& 31)) 4).toInt = 1 + (upv (cel xs L 3 >>> (8 &&& 31)) 4).toInt := by rw [add32 (by simp only [Int32.reduceToInt]; omega) (by simp only [Int32.reduceToInt]; omega)]; rfl
  have hm := hmax (c.v 12) m0 m1
  unfold f_L_law_b104
  rw [if_pos (by rw [le32]; simp only [Int32.reduceToInt]; exact h5), w_time S R, b2_s, if_pos rfl, x_score S R, b2_s, if_pos rfl]
  rw [hb, o35_s, if_pos rfl]
  rw [hl, o35_s, if_pos rfl]
  rw [hz, o34_s, if_neg (by rw [lt64]; unfold sgS; omega), if_neg (by rw [lt32]; simp only [Int32.reduceToInt]; omega), if_neg (by rw [lt32]; simp only [Int32.reduceToInt]; omega)]
  rw [q_failsN W K ns, o72_s, if_neg one_z]
  rw [x_stop S R, b3_s, if_pos rfl, if_pos rfl, if_pos (show f_X9_state 0 = 0 from rfl)]
  rw [q_start K.ph K.vn V P, o22_s, if_neg (by rw [le32, k1]; simp only [Int32.reduceToInt]; omega)]
  rw [hr, o32_s, if_neg (by rw [lt32, R3.pos]; have := S.p0; simp only [Int32.reduceToInt]; omega)]
  rw [x_score S R3, b2_s, if_pos rfl, if_pos rfl]
  rw [x_stop S R3, b3_s, if_pos rfl, if_pos (by rw [eq32, R3.time, R.time])]
  rw [x_clear, b6_s, if_pos rfl, cel_e hL (by decide), obnd_some, upv_e (by decide), obnd_some, if_pos (by rw [eq32, ep, K.ph, hp]; omega)]
  rw [q_start0, o22_s, if_pos rfl]
