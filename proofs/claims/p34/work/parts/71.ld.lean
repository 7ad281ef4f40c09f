/-! the law as a whole -/
theorem law_loop {xs : Nat → Int32} {L : Nat} (hL : L ≤ 260) {c : Cf} {mode th : Int32} {va8 : Nat → Int32} {vn : Int32} {vr : Nat → Int32} {an : Int32} {ar : Nat → Int32} {tot : Int32} {ph : Int32} {ln : Nat → Int32} {fl : Nat → Int32} {l2 l3 l4 : Int32} (W : WfC c) (K : CC c va8 vn vr an ar tot ph ln fl) (V : 1 ≤ c.vn) (P : 1 ≤ c.ph) (hp : c.ph = ((1 : Int) + (upv (cel xs L 3 >>> (8 &&& 31)) 4).toInt)) (em : mode.toInt = c.v 12) (et : th.toInt = c.v 3) (h2 : l2.toInt = c.v 0) (h3 : (l3 = 0 ∧ c.an = 0) ∨ (l3 = 1 ∧ 1 ≤ c.an)) (h4 : l4.toInt = c.v 12) : ∀ (m k g t : Nat) (x_mode : Int32) (x_th : Int32) (x_last : Int32) (x_chg : Int32) (x_state : Int32) (x_time : Int32) (x_pos : Int32) (x_su : Int32) (x_st : Int32) (x_pl : Int32) (x_stalls : Int32) (x_aband : Int32) (x_fin : Int32) (x_sw : Int32) (x_wasted : Int64) (x_qual : Int64) (x_as : Int32) (x_aa : Nat → Int32) (x_going : Int32) (x_track : Int32) (x_seg : Int32) (x_rung : Int32) (x_wait : Int32) (x_dur : Int32) (x_need : Int64) (x_got : Int64) (x_len : Int32) (x_sg : Nat → Int32) (x_kept : Int32) (x_bits : Nat → Int64) (x_durs : Nat → Int64) (x_vs : Int32) (x_va : Nat → Int32) (last : Int32) (chg : Int32) (state : Int32) (time : Int32) (pos : Int32) (su : Int32) (st : Int32) (pl : Int32) (stalls : Int32) (aband : Int32) (fin : Int32) (sw : Int32) (wasted : Int64) (qual : Int64) (as : Int32) (aa : Nat → Int32) (going : Int32) (track : Int32) (seg : Int32) (rung : Int32) (wait : Int32) (dur : Int32) (need : Int64) (got : Int64) (len : Int32) (sg : Nat → Int32) (kept : Int32) (bits : Nat → Int64) (durs : Nat → Int64) (vs : Int32) (va : Nat → Int32) (l5 : Int32), RC c (sgS c t) last chg state time pos su st pl stalls aband fin sw wasted qual as aa going track seg rung wait dur need got len sg kept bits durs vs va → chk x_sg 300 = true → t ≤ 1500 * k → l5.toInt = k → k + m = 6 → m < g → f_L_law_b104 3 6 xs L g x_mode x_th x_last x_chg x_state x_time x_pos x_su x_st x_pl x_stalls x_aband x_fin x_sw x_wasted x_qual x_as x_aa x_going x_track x_seg x_rung x_wait x_dur x_need x_got x_len x_sg x_kept x_bits x_durs x_vs x_va mode th last chg state time pos su st pl stalls aband fin sw wasted qual as aa going track seg rung wait dur need got len sg kept bits durs vs va an ar tot ph ln fl va8 vn vr l2 l3 l4 l5 = some 1 := by
  intro m
  induction m with
  | zero =>
    intro k g t x_mode x_th x_last x_chg x_state x_time x_pos x_su x_st x_pl x_stalls x_aband x_fin x_sw x_wasted x_qual x_as x_aa x_going x_track x_seg x_rung x_wait x_dur x_need x_got x_len x_sg x_kept x_bits x_durs x_vs x_va last chg state time pos su st pl stalls aband fin sw wasted qual as aa going track seg rung wait dur need got len sg kept bits durs vs va l5 R F ht hk hm hg
    obtain ⟨g, rfl⟩ : ∃ q, g = q + 1 := ⟨g - 1, by omega⟩
    exact law_end hL W K V P hp em et R F (by omega) (by omega)
  | succ m ih =>
    intro k g t x_mode x_th x_last x_chg x_state x_time x_pos x_su x_st x_pl x_stalls x_aband x_fin x_sw x_wasted x_qual x_as x_aa x_going x_track x_seg x_rung x_wait x_dur x_need x_got x_len x_sg x_kept x_bits x_durs x_vs x_va last chg state time pos su st pl stalls aband fin sw wasted qual as aa going track seg rung wait dur need got len sg kept bits durs vs va l5 R F ht hk hm hg
    obtain ⟨g, rfl⟩ : ∃ q, g = q + 1 := ⟨g - 1, by omega⟩
    obtain ⟨n, z_mode, z_th, lastT, chgT, stateT, timeT, posT, suT, stT, plT, stallsT, abandT, finT, swT, wastedT, qualT, asT, aaT, goingT, trackT, segT, rungT, waitT, durT, needT, gotT, lenT, sgT, keptT, bitsT, dursT, vsT, vaT, last3, chg3, state3, time3, pos3, su3, st3, pl3, stalls3, aband3, fin3, sw3, wasted3, qual3, as3, aa3, going3, track3, seg3, rung3, wait3, dur3, need3, got3, len3, sg3, kept3, bits3, durs3, vs3, va3, n1, e, R3, F3⟩ := law_step (g := g) hL W K V P em et R F h2 h3 h4 (by omega) (by omega) (by omega)
    rw [e]
    exact ih (k + 1) g (t + n) z_mode z_th lastT chgT stateT timeT posT suT stT plT stallsT abandT finT swT wastedT qualT asT aaT goingT trackT segT rungT waitT durT needT gotT lenT sgT keptT bitsT dursT vsT vaT last3 chg3 state3 time3 pos3 su3 st3 pl3 stalls3 aband3 fin3 sw3 wasted3 qual3 as3 aa3 going3 track3 seg3 rung3 wait3 dur3 need3 got3 len3 sg3 kept3 bits3 durs3 vs3 va3 (l5 + 1) R3 F3 (by omega) (by rw [add32 (by simp only [Int32.reduceToInt]; omega) (by simp only [Int32.reduceToInt]; omega), hk]; rfl) (by omega) (by omega)
def startC : Cf := Cf.mk (fun k => (FV k).toInt) 0 0 0 0 (fun _ => 0) (fun _ => 0) (fun _ => 0) (fun _ => 0)
theorem start_wf : WfC startC := WfC.mk (h_d0 := by decide) (h_d1 := by decide) (h_m0 := by decide) (h_m1 := by decide) (h_a2 := by decide) (h_b2 := by decide) (h_a3 := by decide) (h_b3 := by decide) (h_a4 := by decide) (h_b4 := by decide) (h_a5 := by decide) (h_b5 := by decide) (h_a6 := by decide) (h_b6 := by decide) (h_a7 := by decide) (h_b7 := by decide) (h_a8 := by decide) (h_b8 := by decide) (h_a9 := by decide) (h_b9 := by decide) (h_a10 := by decide) (h_b10 := by decide) (h_a11 := by decide) (h_b11 := by decide) (h_a12 := by decide) (h_b12 := by decide) (h_a13 := by decide) (h_b13 := by decide) (h_a14 := by decide) (h_b14 := by decide) (h_vn0 := by decide) (h_vn1 := by decide) (h_an0 := by decide) (h_an1 := by decide) (h_ph0 := by decide) (h_ph1 := by decide) (h_vr0 := none_k) (h_ar0 := none_k) (h_ln0 := none_k) (h_fl0 := none_k)
theorem start_cc {vr ar ln fl : Nat → Int32} : CC startC FV 0 vr 0 ar 0 0 ln fl :=
  CC.mk (h_v := fun k hk => rfl) (h_vn := rfl) (h_an := rfl) (h_ph := rfl) (h_tot := rfl) (h_vr := none_k) (h_ar := none_k) (h_ln := none_k) (h_fl := none_k)
set_option maxHeartbeats 4000000 in
set_option maxRecDepth 100000 in
theorem law_all {xs : Nat → Int32} {L : Nat} (hL : L ≤ 260) {x_mode : Int32} {x_th : Int32} {x_last : Int32} {x_chg : Int32} {x_state : Int32} {x_time : Int32} {x_pos : Int32} {x_su : Int32} {x_st : Int32} {x_pl : Int32} {x_stalls : Int32} {x_aband : Int32} {x_fin : Int32} {x_sw : Int32} {x_wasted : Int64} {x_qual : Int64} {x_as : Int32} {x_aa : Nat → Int32} {x_going : Int32} {x_track : Int32} {x_seg : Int32} {x_rung : Int32} {x_wait : Int32} {x_dur : Int32} {x_need : Int64} {x_got : Int64} {x_len : Int32} {x_sg : Nat → Int32} {x_kept : Int32} {x_bits : Nat → Int64} {x_durs : Nat → Int64} {x_vs : Int32} {x_va : Nat → Int32} {mode : Int32} {th : Int32} {last : Int32} {chg : Int32} {time : Int32} {pos : Int32} {su : Int32} {st : Int32} {pl : Int32} {stalls : Int32} {aband : Int32} {fin : Int32} {sw : Int32} {wasted : Int64} {qual : Int64} {as : Int32} {aa : Nat → Int32} {going : Int32} {track : Int32} {seg : Int32} {rung : Int32} {wait : Int32} {dur : Int32} {need : Int64} {got : Int64} {len : Int32} {sg : Nat → Int32} {kept : Int32} {bits : Nat → Int64} {durs : Nat → Int64} {vs : Int32} {va : Nat → Int32} {vr ar ln fl : Nat → Int32} (F : chk x_sg 300 = true) (Fs : chk sg 300 = true) : f_L_law_b8 x_mode x_th x_last x_chg x_state x_time x_pos x_su x_st x_pl x_stalls x_aband x_fin x_sw x_wasted x_qual x_as x_aa x_going x_track x_seg x_rung x_wait x_dur x_need x_got x_len x_sg x_kept x_bits x_durs x_vs x_va mode th last chg 0 time pos su st pl stalls aband fin sw wasted qual as aa going track seg rung wait dur need got len sg kept bits durs vs va 3 0 ar 0 0 ln fl FV 6 0 vr xs L = some 1 := by
  obtain ⟨w13, g0, g1, hD⟩ := q_settings (xs := xs) (vr := vr) (ar := ar) (ln := ln) (fl := fl) hL
  obtain ⟨an', ar', tot', ph', ln', fl', vn', vr', c, hq, W, K, ev, V, ea, ep⟩ := hD
  have sb := set_b (xs := xs) (L := L) g0 g1
  have bl := sb.1
  have s1 := sb.2.1
  have b4 := upv_b (x := cel xs L 3 >>> (4 &&& 31)) (m := 4) (by decide)
  have b8 := upv_b (x := cel xs L 3 >>> (8 &&& 31)) (m := 4) (by decide)
  simp only [Int32.reduceToInt] at b4 b8
  have P : 1 ≤ c.ph := by omega
  have k1 := K.v 1 (by decide)
  have k12 := K.v 12 (by decide)
  have k3 := K.v 3 (by decide)
  have h2 : ((100 : Int32) + upv (cel xs L 0) 2000).toInt = c.v 0 := (K.v 0 (by decide))
  have h4 : (upv (cel xs L 1 >>> (14 &&& 31)) 3).toInt = c.v 12 := k12
  have bl : 100 ≤ ((100 : Int32) + upv (cel xs L 0) 2000).toInt ∧ ((100 : Int32) + upv (cel xs L 0) 2000).toInt ≤ 2099 := bl
  unfold f_L_law_b8
  rw [q_start0, o22_s, if_pos rfl]
  rw [q_trial0, o34_s, if_pos rfl]
  rw [q_fails0 start_wf start_cc, o72_s, if_neg one_z]
  rw [hq, o10_s, if_neg (by rw [lt32]; simp only [Int32.reduceToInt]; omega)]
  rw [q_start K.ph K.vn V P, o22_s, if_neg (by rw [lt32]; simp only [Int32.reduceToInt]; omega)]
  rw [q_failsN W K one_z, o72_s, if_neg one_z]
  rw [cel_e hL (by decide), obnd_some, upv_e (by decide), obnd_some]
  by_cases q : (upv (cel xs L 3 >>> (4 &&& 31)) 4).toInt ≤ 0
  · rw [if_pos (by rw [le32]; simp only [Int32.reduceToInt]; exact q), cel_e hL (by decide), obnd_some, upv_e (by decide), obnd_some]
    exact law_loop (l3 := 0) hL W K V P ep k12 k3 h2 (Or.inl ⟨rfl, by omega⟩) h4 6 0 (mug 6 0 + 1) 0 _ _ _ _ _ _ _ _ _ _ _ _ _ _ _ _ _ _ _ _ _ _ _ _ _ _ _ _ _ _ _ _ _ _ _ _ _ _ _ _ _ _ _ _ _ _ _ _ _ _ _ _ _ _ _ _ _ _ _ _ _ _ _ _ 0 (rc_fresh (aa := aa) (track := track) (seg := seg) (rung := rung) (wait := wait) (dur := dur) (need := need) (got := got) (bits := bits) (durs := durs) (va := va) Fs) F (by omega) rfl rfl (by decide)
  · rw [if_neg (by rw [le32]; simp only [Int32.reduceToInt]; exact q), cel_e hL (by decide), obnd_some, upv_e (by decide), obnd_some]
    exact law_loop (l3 := 1) hL W K V P ep k12 k3 h2 (Or.inr ⟨rfl, by omega⟩) h4 6 0 (mug 6 0 + 1) 0 _ _ _ _ _ _ _ _ _ _ _ _ _ _ _ _ _ _ _ _ _ _ _ _ _ _ _ _ _ _ _ _ _ _ _ _ _ _ _ _ _ _ _ _ _ _ _ _ _ _ _ _ _ _ _ _ _ _ _ _ _ _ _ _ 0 (rc_fresh (aa := aa) (track := track) (seg := seg) (rung := rung) (wait := wait) (dur := dur) (need := need) (got := got) (bits := bits) (durs := durs) (va := va) Fs) F (by omega) rfl rfl (by decide)
