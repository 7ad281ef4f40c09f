theorem a_trialScore {c : Cf} {va8 : Nat → Int32} {vn : Int32} {vr : Nat → Int32} {an : Int32} {ar : Nat → Int32} {tot : Int32} {ph : Int32} {ln : Nat → Int32} {fl : Nat → Int32} {p : Nat → Int32} {la : Nat → Int32} {ra : Nat → Int32} {pm : Int32} {lm : Nat → Int32} {fm : Nat → Int32} (W : WfC c) (K : CC c va8 vn vr an ar tot ph ln fl) (L : CM c p la ra pm lm fm) {xmode : Int32} {xth : Int32} {x_last : Int32} {x_chg : Int32} {x_state : Int32} {x_time : Int32} {x_pos : Int32} {x_su : Int32} {x_st : Int32} {x_pl : Int32} {x_stalls : Int32} {x_aband : Int32} {x_fin : Int32} {x_sw : Int32} {x_wasted : Int64} {x_qual : Int64} {x_as : Int32} {x_aa : Nat → Int32} {x_going : Int32} {x_track : Int32} {x_seg : Int32} {x_rung : Int32} {x_wait : Int32} {x_dur : Int32} {x_need : Int64} {x_got : Int64} {x_len : Int32} {x_sg : Nat → Int32} {x_kept : Int32} {x_bits : Nat → Int64} {x_durs : Nat → Int64} {x_vs : Int32} {x_va : Nat → Int32} {r2 r42 : Nat → Int64} {p1 p2 : Int32} (F : chk x_sg 300 = true) : ∃ z b t u, f_L_trialScore xmode xth x_last x_chg x_state x_time x_pos x_su x_st x_pl x_stalls x_aband x_fin x_sw x_wasted x_qual x_as x_aa x_going x_track x_seg x_rung x_wait x_dur x_need x_got x_len x_sg x_kept x_bits x_durs x_vs x_va an ar tot ph ln fl va8 vn vr r2 p1 p2 = some z ∧ f_X10_trialScore pm fm la lm p ra r42 p1 p2 = some (b, t, u) ∧ t = z.1 ∧ (z.1 = 0 → z.2.2.2.2.2.2.2.2.2.2.2.2.2.2.2.2.2.2.2.2.2.2.2.2.2.2.2.2.2.2.2.2.2.2 0 = b) ∧ chk z.2.2.2.2.2.2.2.2.2.2.2.2.2.2.2.2.2.2.2.2.2.2.2.2.2.2.2.2.1 300 = true := by
  have bad2 : f_X9_trialScore xmode xth x_last x_chg x_state x_time x_pos x_su x_st x_pl x_stalls x_aband x_fin x_sw x_wasted x_qual x_as x_aa x_going x_track x_seg x_rung x_wait x_dur x_need x_got x_len x_sg x_kept x_bits x_durs x_vs x_va an ar tot ph ln fl va8 vn vr p1 p2 = some (2, 0, xmode, xth, x_last, x_chg, x_state, x_time, x_pos, x_su, x_st, x_pl, x_stalls, x_aband, x_fin, x_sw, x_wasted, x_qual, x_as, x_aa, x_going, x_track, x_seg, x_rung, x_wait, x_dur, x_need, x_got, x_len, x_sg, x_kept, x_bits, x_durs, x_vs, x_va) → f_L_trialScore xmode xth x_last x_chg x_state x_time x_pos x_su x_st x_pl x_stalls x_aband x_fin x_sw x_wasted x_qual x_as x_aa x_going x_track x_seg x_rung x_wait x_dur x_need x_got x_len x_sg x_kept x_bits x_durs x_vs x_va an ar tot ph ln fl va8 vn vr r2 p1 p2 = some (1, xmode, xth, x_last, x_chg, x_state, x_time, x_pos, x_su, x_st, x_pl, x_stalls, x_aband, x_fin, x_sw, x_wasted, x_qual, x_as, x_aa, x_going, x_track, x_seg, x_rung, x_wait, x_dur, x_need, x_got, x_len, x_sg, x_kept, x_bits, x_durs, x_vs, x_va, r2) := fun h => by unfold f_L_trialScore; rw [h, o35_s]; rfl
  have bad3 : f_X9_trialScore xmode xth x_last x_chg x_state x_time x_pos x_su x_st x_pl x_stalls x_aband x_fin x_sw x_wasted x_qual x_as x_aa x_going x_track x_seg x_rung x_wait x_dur x_need x_got x_len x_sg x_kept x_bits x_durs x_vs x_va an ar tot ph ln fl va8 vn vr p1 p2 = some (3, 0, xmode, xth, x_last, x_chg, x_state, x_time, x_pos, x_su, x_st, x_pl, x_stalls, x_aband, x_fin, x_sw, x_wasted, x_qual, x_as, x_aa, x_going, x_track, x_seg, x_rung, x_wait, x_dur, x_need, x_got, x_len, x_sg, x_kept, x_bits, x_durs, x_vs, x_va) → f_L_trialScore xmode xth x_last x_chg x_state x_time x_pos x_su x_st x_pl x_stalls x_aband x_fin x_sw x_wasted x_qual x_as x_aa x_going x_track x_seg x_rung x_wait x_dur x_need x_got x_len x_sg x_kept x_bits x_durs x_vs x_va an ar tot ph ln fl va8 vn vr r2 p1 p2 = some (2, xmode, xth, x_last, x_chg, x_state, x_time, x_pos, x_su, x_st, x_pl, x_stalls, x_aband, x_fin, x_sw, x_wasted, x_qual, x_as, x_aa, x_going, x_track, x_seg, x_rung, x_wait, x_dur, x_need, x_got, x_len, x_sg, x_kept, x_bits, x_durs, x_vs, x_va, r2) := fun h => by unfold f_L_trialScore; rw [h, o35_s]; rfl
  by_cases hq : 0 ≤ p1.toInt ∧ p1.toInt ≤ 2
  · have i1 : f_X10_in p1.toInt64 0 2 = 1 := in_i hq.1 hq.2
    have g1 : ¬ p1 < 0 := by rw [lt32]; simp only [Int32.reduceToInt]; omega
    have g2 : ¬ 3 ≤ p1 := by rw [le32]; simp only [Int32.reduceToInt]; omega
    by_cases hm : 0 ≤ p2.toInt ∧ p2.toInt ≤ 20000
    · have c0 := ms_0 hm
      have i0 := in_m hm
      by_cases h : 1 ≤ c.vn ∧ 1 ≤ c.ph
      · obtain ⟨q1, q2⟩ := pl_1 K.ph K.vn L.ph L.vn h.1 h.2
        obtain ⟨z, u, hz, hu, hf⟩ := t_pts W K L h.1 (r42 := r42) (p0 := p1) (p1 := p2) (x_aa := x_aa) (x_track := x_track) (x_seg := x_seg) (x_rung := x_rung) (x_wait := x_wait) (x_dur := x_dur) (x_need := x_need) (x_got := x_got) (x_bits := x_bits) (x_durs := x_durs) (x_va := x_va) F hm
        have e : f_X9_trialScore xmode xth x_last x_chg x_state x_time x_pos x_su x_st x_pl x_stalls x_aband x_fin x_sw x_wasted x_qual x_as x_aa x_going x_track x_seg x_rung x_wait x_dur x_need x_got x_len x_sg x_kept x_bits x_durs x_vs x_va an ar tot ph ln fl va8 vn vr p1 p2 = some (0, z) := by
          unfold f_X9_trialScore
          rw [if_neg g1, if_neg g2, ra_1, bnd_p, if_pos rfl, c0, bnd_p, if_pos rfl, q1, rs_1, bnd_p, if_pos rfl, hz, o34_v]
        refine ⟨(0, z.2.1, z.2.2.1, z.2.2.2.1, z.2.2.2.2.1, z.2.2.2.2.2.1, z.2.2.2.2.2.2.1, z.2.2.2.2.2.2.2.1, z.2.2.2.2.2.2.2.2.1, z.2.2.2.2.2.2.2.2.2.1, z.2.2.2.2.2.2.2.2.2.2.1, z.2.2.2.2.2.2.2.2.2.2.2.1, z.2.2.2.2.2.2.2.2.2.2.2.2.1, z.2.2.2.2.2.2.2.2.2.2.2.2.2.1, z.2.2.2.2.2.2.2.2.2.2.2.2.2.2.1, z.2.2.2.2.2.2.2.2.2.2.2.2.2.2.2.1, z.2.2.2.2.2.2.2.2.2.2.2.2.2.2.2.2.1, z.2.2.2.2.2.2.2.2.2.2.2.2.2.2.2.2.2.1, z.2.2.2.2.2.2.2.2.2.2.2.2.2.2.2.2.2.2.1, z.2.2.2.2.2.2.2.2.2.2.2.2.2.2.2.2.2.2.2.1, z.2.2.2.2.2.2.2.2.2.2.2.2.2.2.2.2.2.2.2.2.1, z.2.2.2.2.2.2.2.2.2.2.2.2.2.2.2.2.2.2.2.2.2.1, z.2.2.2.2.2.2.2.2.2.2.2.2.2.2.2.2.2.2.2.2.2.2.1, z.2.2.2.2.2.2.2.2.2.2.2.2.2.2.2.2.2.2.2.2.2.2.2.1, z.2.2.2.2.2.2.2.2.2.2.2.2.2.2.2.2.2.2.2.2.2.2.2.2.1, z.2.2.2.2.2.2.2.2.2.2.2.2.2.2.2.2.2.2.2.2.2.2.2.2.2.1, z.2.2.2.2.2.2.2.2.2.2.2.2.2.2.2.2.2.2.2.2.2.2.2.2.2.2.1, z.2.2.2.2.2.2.2.2.2.2.2.2.2.2.2.2.2.2.2.2.2.2.2.2.2.2.2.1, z.2.2.2.2.2.2.2.2.2.2.2.2.2.2.2.2.2.2.2.2.2.2.2.2.2.2.2.2.1, z.2.2.2.2.2.2.2.2.2.2.2.2.2.2.2.2.2.2.2.2.2.2.2.2.2.2.2.2.2.1, z.2.2.2.2.2.2.2.2.2.2.2.2.2.2.2.2.2.2.2.2.2.2.2.2.2.2.2.2.2.2.1, z.2.2.2.2.2.2.2.2.2.2.2.2.2.2.2.2.2.2.2.2.2.2.2.2.2.2.2.2.2.2.2.1, z.2.2.2.2.2.2.2.2.2.2.2.2.2.2.2.2.2.2.2.2.2.2.2.2.2.2.2.2.2.2.2.2.1, z.2.2.2.2.2.2.2.2.2.2.2.2.2.2.2.2.2.2.2.2.2.2.2.2.2.2.2.2.2.2.2.2.2, vp_updL r2 0 z.1), z.1, 0, u, by { unfold f_L_trialScore; rw [e, o35_v, if_pos rfl, bnd_p] }, ?_, rfl, fun _ => (show vp_updL r2 0 (z.1) 0 = z.1 from updL_eq), hf⟩
        unfold f_X10_trialScore
        rw [i1, if_neg one_z, i0, if_neg one_z, q2, if_pos rfl, hu]
        rfl
      · obtain ⟨q1, q2⟩ := pl_0 W K.ph K.vn L.ph L.vn h
        refine ⟨(2, xmode, xth, x_last, x_chg, x_state, x_time, x_pos, x_su, x_st, x_pl, x_stalls, x_aband, x_fin, x_sw, x_wasted, x_qual, x_as, x_aa, x_going, x_track, x_seg, x_rung, x_wait, x_dur, x_need, x_got, x_len, x_sg, x_kept, x_bits, x_durs, x_vs, x_va, r2), 0, 2, r42, bad3 (by
          unfold f_X9_trialScore
          rw [if_neg g1, if_neg g2, ra_1, bnd_p, if_pos rfl, c0, bnd_p, if_pos rfl, q1, rs_0, bnd_p, if_neg (by decide)]), ?_, rfl, fun q => absurd q (by show ¬ (2 : Int32) = 0; decide), F⟩
        unfold f_X10_trialScore
        rw [i1, if_neg one_z, i0, if_neg one_z, q2, if_neg one_z]
    · refine ⟨(1, xmode, xth, x_last, x_chg, x_state, x_time, x_pos, x_su, x_st, x_pl, x_stalls, x_aband, x_fin, x_sw, x_wasted, x_qual, x_as, x_aa, x_going, x_track, x_seg, x_rung, x_wait, x_dur, x_need, x_got, x_len, x_sg, x_kept, x_bits, x_durs, x_vs, x_va, r2), 0, 1, r42, bad2 (by
        unfold f_X9_trialScore
        rw [if_neg g1, if_neg g2, ra_1, bnd_p, if_pos rfl, ms_2 hm, bnd_p, if_neg (by decide)]), ?_, rfl, fun q => absurd q (by show ¬ (1 : Int32) = 0; decide), F⟩
      unfold f_X10_trialScore
      rw [i1, if_neg one_z, in_n hm, if_pos rfl]
  · have i1 : f_X10_in p1.toInt64 0 2 = 0 := in_o hq
    refine ⟨(1, xmode, xth, x_last, x_chg, x_state, x_time, x_pos, x_su, x_st, x_pl, x_stalls, x_aband, x_fin, x_sw, x_wasted, x_qual, x_as, x_aa, x_going, x_track, x_seg, x_rung, x_wait, x_dur, x_need, x_got, x_len, x_sg, x_kept, x_bits, x_durs, x_vs, x_va, r2), 0, 1, r42, bad2 (by
      unfold f_X9_trialScore
      by_cases a : p1 < 0
      · rw [if_pos a, ra_0, bnd_p, if_neg (by decide)]
      · have b : 3 ≤ p1 := by
          rw [lt32] at a
          rw [le32]
          simp only [Int32.reduceToInt] at a ⊢
          omega
        rw [if_neg a, if_pos b, ra_0, bnd_p, if_neg (by decide)]), ?_, rfl, fun q => absurd q (by show ¬ (1 : Int32) = 0; decide), F⟩
    unfold f_X10_trialScore
    rw [i1, if_pos rfl]
