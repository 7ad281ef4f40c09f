/-! what a trial answers -/
theorem t_pts {c : Cf} {va8 : Nat → Int32} {vn : Int32} {vr : Nat → Int32} {an : Int32} {ar : Nat → Int32} {tot : Int32} {ph : Int32} {ln : Nat → Int32} {fl : Nat → Int32} {p : Nat → Int32} {la : Nat → Int32} {ra : Nat → Int32} {pm : Int32} {lm : Nat → Int32} {fm : Nat → Int32} (W : WfC c) (K : CC c va8 vn vr an ar tot ph ln fl) (L : CM c p la ra pm lm fm) (V : 1 ≤ c.vn) {x_aa : Nat → Int32} {x_track : Int32} {x_seg : Int32} {x_rung : Int32} {x_wait : Int32} {x_dur : Int32} {x_need : Int64} {x_got : Int64} {x_sg : Nat → Int32} {x_bits : Nat → Int64} {x_durs : Nat → Int64} {x_va : Nat → Int32} {r42 : Nat → Int64} {p0 p1 : Int32} (F : chk x_sg 300 = true) (hm : 0 ≤ p1.toInt ∧ p1.toInt ≤ 20000) : ∃ z u, f_X9_pointsInMode x_aa x_track x_seg x_rung x_wait x_dur x_need x_got x_sg x_bits x_durs x_va an ar tot ph ln fl va8 vn vr p0 p1 = some z ∧ f_X10_scoreBy pm fm la lm p ra r42 p0 p1 = some (z.1, u) ∧ chk z.2.2.2.2.2.2.2.2.2.2.2.2.2.2.2.2.2.2.2.2.2.2.2.2.2.2.2.2.1 300 = true := by
  have k3 := K.v 3 (by decide)
  have l3 := L.v 3 (by decide)
  have v3 : f_X8_valueOf va8 3 = va8 3 := vo (by decide) (by decide)
  obtain ⟨n, hn⟩ : ∃ n : Nat, p1.toInt = n := ⟨p1.toInt.toNat, by omega⟩
  have ft : freshS.time = 0 := rfl
  have Sf := fresh_wf W V
  obtain ⟨last3, chg3, state3, time3, pos3, su3, st3, pl3, stalls3, aband3, fin3, sw3, wasted3, qual3, as3, aa3, going3, track3, seg3, rung3, wait3, dur3, need3, got3, len3, sg3, kept3, bits3, durs3, vs3, va3, ha, R3⟩ := c_adv W Sf V K (mode := p0) (th := va8 3) hn (by omega) (by rw [ft]; omega) (rc_fresh (aa := x_aa) (track := x_track) (seg := x_seg) (rung := x_rung) (wait := x_wait) (dur := x_dur) (need := x_need) (got := x_got) (bits := x_bits) (durs := x_durs) (va := x_va) F)
  obtain ⟨s2, hg, M3⟩ := m_goes W Sf V L (mode := p0) (th := p 3) hn (by omega) (by rw [ft]; omega) (m_clear (r := r42))
  rw [l3, ← k3] at M3
  have e := m_score W V K L R3 M3
  refine ⟨(f_X6_points su3 st3 pl3 qual3 vn vr, p0, va8 3, last3, chg3, state3, time3, pos3, su3, st3, pl3, stalls3, aband3, fin3, sw3, wasted3, qual3, as3, aa3, going3, track3, seg3, rung3, wait3, dur3, need3, got3, len3, sg3, kept3, bits3, durs3, vs3, va3), s2, ?_, ?_, R3.ft⟩
  · unfold f_X9_pointsInMode
    rw [be_eq, v3]
    simp only [bnd21]
    rw [ha]
    rfl
  · unfold f_X10_scoreBy
    simp only [bnd]
    rw [hg, obnd_some, e, obnd_some]
theorem a_trialScore {c : Cf} {va8 : Nat → Int32} {vn : Int32} {vr : Nat → Int32} {an : Int32} {ar : Nat → Int32} {tot : Int32} {ph : Int32} {ln : Nat → Int32} {fl : Nat → Int32} {p : Nat → Int32} {la : Nat → Int32} {ra : Nat → Int32} {pm : Int32} {lm : Nat → Int32} {fm : Nat → Int32} (W : WfC c) (K : CC c va8 vn vr an ar tot ph ln fl) (L : CM c p la ra pm lm fm) {xmode : Int32} {xth : Int32} {x_last : Int32} {x_chg : Int32} {x_state : Int32} {x_time : Int32} {x_pos : Int32} {x_su : Int32} {x_st : Int32} {x_pl : Int32} {x_stalls : Int32} {x_aband : Int32} {x_fin : Int32} {x_sw : Int32} {x_wasted : Int64} {x_qual : Int64} {x_as : Int32} {x_aa : Nat → Int32} {x_going : Int32} {x_track : Int32} {x_seg : Int32} {x_rung : Int32} {x_wait : Int32} {x_dur : Int32} {x_need : Int64} {x_got : Int64} {x_len : Int32} {x_sg : Nat → Int32} {x_kept : Int32} {x_bits : Nat → Int64} {x_durs : Nat → Int64} {x_vs : Int32} {x_va : Nat → Int32} {r2 r42 : Nat → Int64} {p1 p2 : Int32} (F : chk x_sg 300 = true) : ∃ z b t u, f_L_trialScore xmode xth x_last x_chg x_state x_time x_pos x_su x_st x_pl x_stalls x_aband x_fin x_sw x_wasted x_qual x_as x_aa x_going x_track x_seg x_rung x_wait x_dur x_need x_got x_len x_sg x_kept x_bits x_durs x_vs x_va an ar tot ph ln fl va8 vn vr r2 p1 p2 = some z ∧ f_X10_trialScore pm fm la lm p ra r42 p1 p2 = some (b, t, u) ∧ t = z.1 ∧ (z.1 = 0 → z.2.2.2.2.2.2.2.2.2.2.2.2.2.2.2.2.2.2.2.2.2.2.2.2.2.2.2.2.2.2.2.2.2.2 0 = b) ∧ chk z.2.2.2.2.2.2.2.2.2.2.2.2.2.2.2.2.2.2.2.2.2.2.2.2.2.2.2.2.1 300 = true := by
  have n2 : ¬ (2 : Nat) = 0 := by decide
  have bad : ∀ k : Nat, f_X9_trialScore xmode xth x_last x_chg x_state x_time x_pos x_su x_st x_pl x_stalls x_aband x_fin x_sw x_wasted x_qual x_as x_aa x_going x_track x_seg x_rung x_wait x_dur x_need x_got x_len x_sg x_kept x_bits x_durs x_vs x_va an ar tot ph ln fl va8 vn vr p1 p2 = some (k, 0, xmode, xth, x_last, x_chg, x_state, x_time, x_pos, x_su, x_st, x_pl, x_stalls, x_aband, x_fin, x_sw, x_wasted, x_qual, x_as, x_aa, x_going, x_track, x_seg, x_rung, x_wait, x_dur, x_need, x_got, x_len, x_sg, x_kept, x_bits, x_durs, x_vs, x_va) → k = 2 ∨ k = 3 → ∃ z, f_L_trialScore xmode xth x_last x_chg x_state x_time x_pos x_su x_st x_pl x_stalls x_aband x_fin x_sw x_wasted x_qual x_as x_aa x_going x_track x_seg x_rung x_wait x_dur x_need x_got x_len x_sg x_kept x_bits x_durs x_vs x_va an ar tot ph ln fl va8 vn vr r2 p1 p2 = some z ∧ z.1 = (if k = 2 then 1 else 2) ∧ chk z.2.2.2.2.2.2.2.2.2.2.2.2.2.2.2.2.2.2.2.2.2.2.2.2.2.2.2.2.1 300 = true := fun k h hk => by
    unfold f_L_trialScore
    rw [h]
    rcases hk with rfl | rfl
    · exact ⟨_, rfl, rfl, F⟩
    · exact ⟨_, rfl, rfl, F⟩
  by_cases hq : 0 ≤ p1.toInt ∧ p1.toInt ≤ 2
  · have i1 : f_X10_in p1.toInt64 0 2 = 1 := in_i hq.1 hq.2
    have g1 : ¬ p1 < 0 := by rw [lt32]; simp only [Int32.reduceToInt]; omega
    have g2 : ¬ 3 ≤ p1 := by rw [le32]; simp only [Int32.reduceToInt]; omega
    by_cases hm : 0 ≤ p2.toInt ∧ p2.toInt ≤ 20000
    · have c0 := ms_0 hm
      have i0 := in_m hm
      by_cases h : 1 ≤ c.vn ∧ 1 ≤ c.ph
      · obtain ⟨q1, q2⟩ := pl_1 K.ph K.vn L.ph L.vn h.1 h.2
        obtain ⟨z, u, hz, hu, hf⟩ := t_pts W K L h.1 (r42 := r42) (p0 := p1) (p1 := p2) (x_aa := x_aa) (x_track := x_track) (x_seg := x_seg) (x_rung := x_rung) (x_wait := x_wait) (x_dur := x_dur) (x_need := x_need) (x_got := x_got) (x_bits := x_bits) (x_durs := x_durs) (x_va := x_va) F hm
        have e : f_X9_trialScore xmode xth x_last x_chg x_state x_time x_pos x_su x_st x_pl x_stalls x_aband x_fin x_sw x_wasted x_qual x_as x_aa x_going x_track x_seg x_rung x_wait x_dur x_need x_got x_len x_sg x_kept x_bits x_durs x_vs x_va an ar tot ph ln fl va8 vn vr p1 p2 = some (0, z) := by
          unfold f_X9_trialScore
          rw [if_neg g1, if_neg g2, ra_1]
          simp only [bnd, if_true]
          rw [c0, if_pos rfl, q1, rs_1, if_pos rfl, hz]
          rfl
        refine ⟨_, z.1, 0, u, by { unfold f_L_trialScore; rw [e]; rfl }, ?_, rfl, fun _ => ?_, hf⟩
        · unfold f_X10_trialScore
          rw [i1, if_neg one_z, i0, if_neg one_z, q2, if_pos rfl, hu]
          rfl
        · exact updL_eq
      · obtain ⟨q1, q2⟩ := pl_0 W K.ph K.vn L.ph L.vn h
        obtain ⟨z, hz, e1, hf⟩ := bad 3 (by
          unfold f_X9_trialScore
          rw [if_neg g1, if_neg g2, ra_1]
          simp only [bnd, if_true]
          rw [c0, if_pos rfl, q1, rs_0, if_neg (by decide)]) (Or.inr rfl)
        have e1 : z.1 = 2 := e1
        refine ⟨z, 0, 2, r42, hz, ?_, e1.symm, fun q => absurd (e1.symm.trans q) (by decide), hf⟩
        unfold f_X10_trialScore
        rw [i1, if_neg one_z, i0, if_neg one_z, q2, if_neg one_z]
    · obtain ⟨z, hz, e1, hf⟩ := bad 2 (by
        unfold f_X9_trialScore
        rw [if_neg g1, if_neg g2, ra_1]
        simp only [bnd, if_true]
        rw [ms_2 hm, if_neg (by decide)]) (Or.inl rfl)
      have e1 : z.1 = 1 := e1
      refine ⟨z, 0, 1, r42, hz, ?_, e1.symm, fun q => absurd (e1.symm.trans q) (by decide), hf⟩
      unfold f_X10_trialScore
      rw [i1, if_neg one_z, in_n hm, if_pos rfl]
  · have i1 : f_X10_in p1.toInt64 0 2 = 0 := in_o hq
    obtain ⟨z, hz, e1, hf⟩ := bad 2 (by
      unfold f_X9_trialScore
      by_cases a : p1 < 0
      · rw [if_pos a, ra_0]; rfl
      · have b : 3 ≤ p1 := by
          rw [lt32] at a
          rw [le32]
          simp only [Int32.reduceToInt] at a ⊢
          omega
        rw [if_neg a, if_pos b, ra_0]; rfl) (Or.inl rfl)
    have e1 : z.1 = 1 := e1
    refine ⟨z, 0, 1, r42, hz, ?_, e1.symm, fun q => absurd (e1.symm.trans q) (by decide), hf⟩
    unfold f_X10_trialScore
    rw [i1, if_pos rfl]
theorem a_bestMode {c : Cf} {va8 : Nat → Int32} {vn : Int32} {vr : Nat → Int32} {an : Int32} {ar : Nat → Int32} {tot : Int32} {ph : Int32} {ln : Nat → Int32} {fl : Nat → Int32} {p : Nat → Int32} {la : Nat → Int32} {ra : Nat → Int32} {pm : Int32} {lm : Nat → Int32} {fm : Nat → Int32} (W : WfC c) (K : CC c va8 vn vr an ar tot ph ln fl) (L : CM c p la ra pm lm fm) {xmode : Int32} {xth : Int32} {x_last : Int32} {x_chg : Int32} {x_state : Int32} {x_time : Int32} {x_pos : Int32} {x_su : Int32} {x_st : Int32} {x_pl : Int32} {x_stalls : Int32} {x_aband : Int32} {x_fin : Int32} {x_sw : Int32} {x_wasted : Int64} {x_qual : Int64} {x_as : Int32} {x_aa : Nat → Int32} {x_going : Int32} {x_track : Int32} {x_seg : Int32} {x_rung : Int32} {x_wait : Int32} {x_dur : Int32} {x_need : Int64} {x_got : Int64} {x_len : Int32} {x_sg : Nat → Int32} {x_kept : Int32} {x_bits : Nat → Int64} {x_durs : Nat → Int64} {x_vs : Int32} {x_va : Nat → Int32} {r2 r42 : Nat → Int64} {p1 : Int32} (F : chk x_sg 300 = true) : ∃ z b t u, f_L_bestMode xmode xth x_last x_chg x_state x_time x_pos x_su x_st x_pl x_stalls x_aband x_fin x_sw x_wasted x_qual x_as x_aa x_going x_track x_seg x_rung x_wait x_dur x_need x_got x_len x_sg x_kept x_bits x_durs x_vs x_va an ar tot ph ln fl va8 vn vr r2 p1 = some z ∧ f_X10_bestMode pm fm la lm p ra r42 p1 = some (b, t, u) ∧ t = z.1 ∧ (z.1 = 0 → z.2.2.2.2.2.2.2.2.2.2.2.2.2.2.2.2.2.2.2.2.2.2.2.2.2.2.2.2.2.2.2.2.2.2 0 = b.toInt64) ∧ chk z.2.2.2.2.2.2.2.2.2.2.2.2.2.2.2.2.2.2.2.2.2.2.2.2.2.2.2.2.1 300 = true := by
  by_cases hm : 0 ≤ p1.toInt ∧ p1.toInt ≤ 20000
  · have c0 := ms_0 hm
    have i0 := in_m hm
    by_cases h : 1 ≤ c.vn ∧ 1 ≤ c.ph
    · obtain ⟨q1, q2⟩ := pl_1 K.ph K.vn L.ph L.vn h.1 h.2
      have it : f_X10_isTrial pm la p1 = (1, 0) := by unfold f_X10_isTrial; rw [i0, if_neg one_z, q2, if_pos rfl]
      obtain ⟨za, ua, ha, ra2, fa⟩ := t_pts W K L h.1 (r42 := r42) (p0 := 0) (p1 := p1) (x_aa := x_aa) (x_track := x_track) (x_seg := x_seg) (x_rung := x_rung) (x_wait := x_wait) (x_dur := x_dur) (x_need := x_need) (x_got := x_got) (x_bits := x_bits) (x_durs := x_durs) (x_va := x_va) F hm
      obtain ⟨zb, ub, hb, rb2, fb⟩ := t_pts W K L h.1 (r42 := ua) (p0 := 1) (p1 := p1) (x_aa := za.2.2.2.2.2.2.2.2.2.2.2.2.2.2.2.2.2.2.1) (x_track := za.2.2.2.2.2.2.2.2.2.2.2.2.2.2.2.2.2.2.2.2.1) (x_seg := za.2.2.2.2.2.2.2.2.2.2.2.2.2.2.2.2.2.2.2.2.2.1) (x_rung := za.2.2.2.2.2.2.2.2.2.2.2.2.2.2.2.2.2.2.2.2.2.2.1) (x_wait := za.2.2.2.2.2.2.2.2.2.2.2.2.2.2.2.2.2.2.2.2.2.2.2.1) (x_dur := za.2.2.2.2.2.2.2.2.2.2.2.2.2.2.2.2.2.2.2.2.2.2.2.2.1) (x_need := za.2.2.2.2.2.2.2.2.2.2.2.2.2.2.2.2.2.2.2.2.2.2.2.2.2.1) (x_got := za.2.2.2.2.2.2.2.2.2.2.2.2.2.2.2.2.2.2.2.2.2.2.2.2.2.2.1) (x_bits := za.2.2.2.2.2.2.2.2.2.2.2.2.2.2.2.2.2.2.2.2.2.2.2.2.2.2.2.2.2.2.1) (x_durs := za.2.2.2.2.2.2.2.2.2.2.2.2.2.2.2.2.2.2.2.2.2.2.2.2.2.2.2.2.2.2.2.1) (x_va := za.2.2.2.2.2.2.2.2.2.2.2.2.2.2.2.2.2.2.2.2.2.2.2.2.2.2.2.2.2.2.2.2.2) fa hm
      obtain ⟨zc, uc, hc, rc2, fc⟩ := t_pts W K L h.1 (r42 := ub) (p0 := 2) (p1 := p1) (x_aa := zb.2.2.2.2.2.2.2.2.2.2.2.2.2.2.2.2.2.2.1) (x_track := zb.2.2.2.2.2.2.2.2.2.2.2.2.2.2.2.2.2.2.2.2.1) (x_seg := zb.2.2.2.2.2.2.2.2.2.2.2.2.2.2.2.2.2.2.2.2.2.1) (x_rung := zb.2.2.2.2.2.2.2.2.2.2.2.2.2.2.2.2.2.2.2.2.2.2.1) (x_wait := zb.2.2.2.2.2.2.2.2.2.2.2.2.2.2.2.2.2.2.2.2.2.2.2.1) (x_dur := zb.2.2.2.2.2.2.2.2.2.2.2.2.2.2.2.2.2.2.2.2.2.2.2.2.1) (x_need := zb.2.2.2.2.2.2.2.2.2.2.2.2.2.2.2.2.2.2.2.2.2.2.2.2.2.1) (x_got := zb.2.2.2.2.2.2.2.2.2.2.2.2.2.2.2.2.2.2.2.2.2.2.2.2.2.2.1) (x_bits := zb.2.2.2.2.2.2.2.2.2.2.2.2.2.2.2.2.2.2.2.2.2.2.2.2.2.2.2.2.2.2.1) (x_durs := zb.2.2.2.2.2.2.2.2.2.2.2.2.2.2.2.2.2.2.2.2.2.2.2.2.2.2.2.2.2.2.2.1) (x_va := zb.2.2.2.2.2.2.2.2.2.2.2.2.2.2.2.2.2.2.2.2.2.2.2.2.2.2.2.2.2.2.2.2.2) fb hm
      have l3 : ∀ (g : Nat) (b : Int32) (bp : Int64), f_X9_bestMode_b26 an ar tot ph ln fl va8 vn vr (g + 1) zc.2.1 zc.2.2.1 zc.2.2.2.1 zc.2.2.2.2.1 zc.2.2.2.2.2.1 zc.2.2.2.2.2.2.1 zc.2.2.2.2.2.2.2.1 zc.2.2.2.2.2.2.2.2.1 zc.2.2.2.2.2.2.2.2.2.1 zc.2.2.2.2.2.2.2.2.2.2.1 zc.2.2.2.2.2.2.2.2.2.2.2.1 zc.2.2.2.2.2.2.2.2.2.2.2.2.1 zc.2.2.2.2.2.2.2.2.2.2.2.2.2.1 zc.2.2.2.2.2.2.2.2.2.2.2.2.2.2.1 zc.2.2.2.2.2.2.2.2.2.2.2.2.2.2.2.1 zc.2.2.2.2.2.2.2.2.2.2.2.2.2.2.2.2.1 zc.2.2.2.2.2.2.2.2.2.2.2.2.2.2.2.2.2.1 zc.2.2.2.2.2.2.2.2.2.2.2.2.2.2.2.2.2.2.1 zc.2.2.2.2.2.2.2.2.2.2.2.2.2.2.2.2.2.2.2.1 zc.2.2.2.2.2.2.2.2.2.2.2.2.2.2.2.2.2.2.2.2.1 zc.2.2.2.2.2.2.2.2.2.2.2.2.2.2.2.2.2.2.2.2.2.1 zc.2.2.2.2.2.2.2.2.2.2.2.2.2.2.2.2.2.2.2.2.2.2.1 zc.2.2.2.2.2.2.2.2.2.2.2.2.2.2.2.2.2.2.2.2.2.2.2.1 zc.2.2.2.2.2.2.2.2.2.2.2.2.2.2.2.2.2.2.2.2.2.2.2.2.1 zc.2.2.2.2.2.2.2.2.2.2.2.2.2.2.2.2.2.2.2.2.2.2.2.2.2.1 zc.2.2.2.2.2.2.2.2.2.2.2.2.2.2.2.2.2.2.2.2.2.2.2.2.2.2.1 zc.2.2.2.2.2.2.2.2.2.2.2.2.2.2.2.2.2.2.2.2.2.2.2.2.2.2.2.1 zc.2.2.2.2.2.2.2.2.2.2.2.2.2.2.2.2.2.2.2.2.2.2.2.2.2.2.2.2.1 zc.2.2.2.2.2.2.2.2.2.2.2.2.2.2.2.2.2.2.2.2.2.2.2.2.2.2.2.2.2.1 zc.2.2.2.2.2.2.2.2.2.2.2.2.2.2.2.2.2.2.2.2.2.2.2.2.2.2.2.2.2.2.1 zc.2.2.2.2.2.2.2.2.2.2.2.2.2.2.2.2.2.2.2.2.2.2.2.2.2.2.2.2.2.2.2.1 zc.2.2.2.2.2.2.2.2.2.2.2.2.2.2.2.2.2.2.2.2.2.2.2.2.2.2.2.2.2.2.2.2.1 zc.2.2.2.2.2.2.2.2.2.2.2.2.2.2.2.2.2.2.2.2.2.2.2.2.2.2.2.2.2.2.2.2.2 p1 b bp 3 = some (0, b, zc.2) := fun g b bp => by
        rw [f_X9_bestMode_b26, if_pos (by decide)]
      have l2 : ∀ (g : Nat) (b : Int32) (bp : Int64), f_X9_bestMode_b26 an ar tot ph ln fl va8 vn vr (g + 2) zb.2.1 zb.2.2.1 zb.2.2.2.1 zb.2.2.2.2.1 zb.2.2.2.2.2.1 zb.2.2.2.2.2.2.1 zb.2.2.2.2.2.2.2.1 zb.2.2.2.2.2.2.2.2.1 zb.2.2.2.2.2.2.2.2.2.1 zb.2.2.2.2.2.2.2.2.2.2.1 zb.2.2.2.2.2.2.2.2.2.2.2.1 zb.2.2.2.2.2.2.2.2.2.2.2.2.1 zb.2.2.2.2.2.2.2.2.2.2.2.2.2.1 zb.2.2.2.2.2.2.2.2.2.2.2.2.2.2.1 zb.2.2.2.2.2.2.2.2.2.2.2.2.2.2.2.1 zb.2.2.2.2.2.2.2.2.2.2.2.2.2.2.2.2.1 zb.2.2.2.2.2.2.2.2.2.2.2.2.2.2.2.2.2.1 zb.2.2.2.2.2.2.2.2.2.2.2.2.2.2.2.2.2.2.1 zb.2.2.2.2.2.2.2.2.2.2.2.2.2.2.2.2.2.2.2.1 zb.2.2.2.2.2.2.2.2.2.2.2.2.2.2.2.2.2.2.2.2.1 zb.2.2.2.2.2.2.2.2.2.2.2.2.2.2.2.2.2.2.2.2.2.1 zb.2.2.2.2.2.2.2.2.2.2.2.2.2.2.2.2.2.2.2.2.2.2.1 zb.2.2.2.2.2.2.2.2.2.2.2.2.2.2.2.2.2.2.2.2.2.2.2.1 zb.2.2.2.2.2.2.2.2.2.2.2.2.2.2.2.2.2.2.2.2.2.2.2.2.1 zb.2.2.2.2.2.2.2.2.2.2.2.2.2.2.2.2.2.2.2.2.2.2.2.2.2.1 zb.2.2.2.2.2.2.2.2.2.2.2.2.2.2.2.2.2.2.2.2.2.2.2.2.2.2.1 zb.2.2.2.2.2.2.2.2.2.2.2.2.2.2.2.2.2.2.2.2.2.2.2.2.2.2.2.1 zb.2.2.2.2.2.2.2.2.2.2.2.2.2.2.2.2.2.2.2.2.2.2.2.2.2.2.2.2.1 zb.2.2.2.2.2.2.2.2.2.2.2.2.2.2.2.2.2.2.2.2.2.2.2.2.2.2.2.2.2.1 zb.2.2.2.2.2.2.2.2.2.2.2.2.2.2.2.2.2.2.2.2.2.2.2.2.2.2.2.2.2.2.1 zb.2.2.2.2.2.2.2.2.2.2.2.2.2.2.2.2.2.2.2.2.2.2.2.2.2.2.2.2.2.2.2.1 zb.2.2.2.2.2.2.2.2.2.2.2.2.2.2.2.2.2.2.2.2.2.2.2.2.2.2.2.2.2.2.2.2.1 zb.2.2.2.2.2.2.2.2.2.2.2.2.2.2.2.2.2.2.2.2.2.2.2.2.2.2.2.2.2.2.2.2.2 p1 b bp 2 = some (0, (if zc.1 ≤ bp then b else 2), zc.2) := fun g b bp => by
        rw [f_X9_bestMode_b26, if_neg (by decide), hc]
        simp only [obnd34]
        by_cases q : zc.1 ≤ bp
        · rw [if_pos q, if_pos q]; exact l3 g b bp
        · rw [if_neg q, if_neg q]; exact l3 g 2 zc.1
      have l1 : ∀ (g : Nat) (b : Int32) (bp : Int64), f_X9_bestMode_b26 an ar tot ph ln fl va8 vn vr (g + 3) za.2.1 za.2.2.1 za.2.2.2.1 za.2.2.2.2.1 za.2.2.2.2.2.1 za.2.2.2.2.2.2.1 za.2.2.2.2.2.2.2.1 za.2.2.2.2.2.2.2.2.1 za.2.2.2.2.2.2.2.2.2.1 za.2.2.2.2.2.2.2.2.2.2.1 za.2.2.2.2.2.2.2.2.2.2.2.1 za.2.2.2.2.2.2.2.2.2.2.2.2.1 za.2.2.2.2.2.2.2.2.2.2.2.2.2.1 za.2.2.2.2.2.2.2.2.2.2.2.2.2.2.1 za.2.2.2.2.2.2.2.2.2.2.2.2.2.2.2.1 za.2.2.2.2.2.2.2.2.2.2.2.2.2.2.2.2.1 za.2.2.2.2.2.2.2.2.2.2.2.2.2.2.2.2.2.1 za.2.2.2.2.2.2.2.2.2.2.2.2.2.2.2.2.2.2.1 za.2.2.2.2.2.2.2.2.2.2.2.2.2.2.2.2.2.2.2.1 za.2.2.2.2.2.2.2.2.2.2.2.2.2.2.2.2.2.2.2.2.1 za.2.2.2.2.2.2.2.2.2.2.2.2.2.2.2.2.2.2.2.2.2.1 za.2.2.2.2.2.2.2.2.2.2.2.2.2.2.2.2.2.2.2.2.2.2.1 za.2.2.2.2.2.2.2.2.2.2.2.2.2.2.2.2.2.2.2.2.2.2.2.1 za.2.2.2.2.2.2.2.2.2.2.2.2.2.2.2.2.2.2.2.2.2.2.2.2.1 za.2.2.2.2.2.2.2.2.2.2.2.2.2.2.2.2.2.2.2.2.2.2.2.2.2.1 za.2.2.2.2.2.2.2.2.2.2.2.2.2.2.2.2.2.2.2.2.2.2.2.2.2.2.1 za.2.2.2.2.2.2.2.2.2.2.2.2.2.2.2.2.2.2.2.2.2.2.2.2.2.2.2.1 za.2.2.2.2.2.2.2.2.2.2.2.2.2.2.2.2.2.2.2.2.2.2.2.2.2.2.2.2.1 za.2.2.2.2.2.2.2.2.2.2.2.2.2.2.2.2.2.2.2.2.2.2.2.2.2.2.2.2.2.1 za.2.2.2.2.2.2.2.2.2.2.2.2.2.2.2.2.2.2.2.2.2.2.2.2.2.2.2.2.2.2.1 za.2.2.2.2.2.2.2.2.2.2.2.2.2.2.2.2.2.2.2.2.2.2.2.2.2.2.2.2.2.2.2.1 za.2.2.2.2.2.2.2.2.2.2.2.2.2.2.2.2.2.2.2.2.2.2.2.2.2.2.2.2.2.2.2.2.1 za.2.2.2.2.2.2.2.2.2.2.2.2.2.2.2.2.2.2.2.2.2.2.2.2.2.2.2.2.2.2.2.2.2 p1 b bp 1 = (if zb.1 ≤ bp then some (0, (if zc.1 ≤ bp then b else 2), zc.2) else some (0, (if zc.1 ≤ zb.1 then 1 else 2), zc.2)) := fun g b bp => by
        rw [f_X9_bestMode_b26, if_neg (by decide), hb]
        simp only [obnd34]
        by_cases q : zb.1 ≤ bp
        · rw [if_pos q, if_pos q]; exact l2 g b bp
        · rw [if_neg q, if_neg q]; exact l2 g 1 zb.1
      have e : f_X9_bestMode xmode xth x_last x_chg x_state x_time x_pos x_su x_st x_pl x_stalls x_aband x_fin x_sw x_wasted x_qual x_as x_aa x_going x_track x_seg x_rung x_wait x_dur x_need x_got x_len x_sg x_kept x_bits x_durs x_vs x_va an ar tot ph ln fl va8 vn vr p1 = (if zb.1 ≤ za.1 then some (0, (if zc.1 ≤ za.1 then 0 else 2), zc.2) else some (0, (if zc.1 ≤ zb.1 then 1 else 2), zc.2)) := by
        unfold f_X9_bestMode
        simp only [bnd]
        rw [c0, if_pos rfl, q1, rs_1, if_pos rfl, ha]
        simp only [obnd34]
        exact l1 0 0 za.1
      have e2 : f_X10_bestMode pm fm la lm p ra r42 p1 = (if zc.1 ≤ za.1 then (if zb.1 ≤ za.1 then some (0, 0, uc) else some (1, 0, uc)) else if zc.1 ≤ zb.1 then (if zb.1 ≤ za.1 then some (0, 0, uc) else some (1, 0, uc)) else some (2, 0, uc)) := by
        unfold f_X10_bestMode
        rw [it]
        simp only [bnd2, one_z, if_false]
        rw [ra2]
        simp only [obnd2]
        rw [rb2]
        simp only [obnd2]
        rw [rc2]
        rfl
      have fin : ∀ b : Int32, f_X9_bestMode xmode xth x_last x_chg x_state x_time x_pos x_su x_st x_pl x_stalls x_aband x_fin x_sw x_wasted x_qual x_as x_aa x_going x_track x_seg x_rung x_wait x_dur x_need x_got x_len x_sg x_kept x_bits x_durs x_vs x_va an ar tot ph ln fl va8 vn vr p1 = some (0, b, zc.2) → f_X10_bestMode pm fm la lm p ra r42 p1 = some (b, 0, uc) → ∃ z b t u, f_L_bestMode xmode xth x_last x_chg x_state x_time x_pos x_su x_st x_pl x_stalls x_aband x_fin x_sw x_wasted x_qual x_as x_aa x_going x_track x_seg x_rung x_wait x_dur x_need x_got x_len x_sg x_kept x_bits x_durs x_vs x_va an ar tot ph ln fl va8 vn vr r2 p1 = some z ∧ f_X10_bestMode pm fm la lm p ra r42 p1 = some (b, t, u) ∧ t = z.1 ∧ (z.1 = 0 → z.2.2.2.2.2.2.2.2.2.2.2.2.2.2.2.2.2.2.2.2.2.2.2.2.2.2.2.2.2.2.2.2.2.2 0 = b.toInt64) ∧ chk z.2.2.2.2.2.2.2.2.2.2.2.2.2.2.2.2.2.2.2.2.2.2.2.2.2.2.2.2.1 300 = true := fun b h1 h2 =>
        ⟨_, b, 0, uc, by { unfold f_L_bestMode; rw [h1]; rfl }, h2, rfl, fun _ => updL_eq, fc⟩
      by_cases q1 : zb.1 ≤ za.1
      · by_cases q2 : zc.1 ≤ za.1
        · exact fin 0 (by rw [e, if_pos q1, if_pos q2]) (by rw [e2, if_pos q2, if_pos q1])
        · have q3 : ¬ zc.1 ≤ zb.1 := by
            rw [le64] at q1 q2 ⊢
            omega
          exact fin 2 (by rw [e, if_pos q1, if_neg q2]) (by rw [e2, if_neg q2, if_neg q3])
      · by_cases q2 : zc.1 ≤ za.1
        · have q3 : zc.1 ≤ zb.1 := by
            rw [le64] at q1 q2 ⊢
            omega
          exact fin 1 (by rw [e, if_neg q1, if_pos q3]) (by rw [e2, if_pos q2, if_neg q1])
        · by_cases q3 : zc.1 ≤ zb.1
          · exact fin 1 (by rw [e, if_neg q1, if_pos q3]) (by rw [e2, if_neg q2, if_pos q3, if_neg q1])
          · exact fin 2 (by rw [e, if_neg q1, if_neg q3]) (by rw [e2, if_neg q2, if_neg q3])
    · obtain ⟨q1, q2⟩ := pl_0 W K.ph K.vn L.ph L.vn h
      refine ⟨_, 0, 2, r42, by { unfold f_L_bestMode f_X9_bestMode; simp only [bnd]; rw [c0, if_pos rfl, q1, rs_0, if_neg (by decide)]; rfl }, ?_, rfl, fun q => absurd q (by show ¬ (2 : Int32) = 0; decide), F⟩
      unfold f_X10_bestMode f_X10_isTrial
      rw [i0, if_neg one_z, q2, if_neg one_z]; rfl
  · refine ⟨_, 0, 1, r42, by { unfold f_L_bestMode f_X9_bestMode; simp only [bnd]; rw [ms_2 hm, if_neg (by decide)]; rfl }, ?_, rfl, fun q => absurd q (by show ¬ (1 : Int32) = 0; decide), F⟩
    unfold f_X10_bestMode f_X10_isTrial
    rw [in_n hm, if_pos rfl]; rfl
theorem c_pws {c : Cf} {va8 : Nat → Int32} {vn : Int32} {vr : Nat → Int32} {an : Int32} {ar : Nat → Int32} {tot : Int32} {ph : Int32} {ln : Nat → Int32} {fl : Nat → Int32} {p : Nat → Int32} {la : Nat → Int32} {ra : Nat → Int32} {pm : Int32} {lm : Nat → Int32} {fm : Nat → Int32} (W : WfC c) (K : CC c va8 vn vr an ar tot ph ln fl) (L : CM c p la ra pm lm fm) (V : 1 ≤ c.vn) {mode th l2 : Int32} : ∀ (m g : Nat) (σ : Ss) (T : Int), WfS c T σ → T + 4 * m ≤ 41000000 → σ.time + m ≤ 10020000 → ∀ (last : Int32) (chg : Int32) (state : Int32) (time : Int32) (pos : Int32) (su : Int32) (st : Int32) (pl : Int32) (stalls : Int32) (aband : Int32) (fin : Int32) (sw : Int32) (wasted : Int64) (qual : Int64) (as : Int32) (aa : Nat → Int32) (going : Int32) (track : Int32) (seg : Int32) (rung : Int32) (wait : Int32) (dur : Int32) (need : Int64) (got : Int64) (len : Int32) (sg : Nat → Int32) (kept : Int32) (bits : Nat → Int64) (durs : Nat → Int64) (vs : Int32) (va : Nat → Int32) (_ : RC c σ last chg state time pos su st pl stalls aband fin sw wasted qual as aa going track seg rung wait dur need got len sg kept bits durs vs va) (l3 : Int32), l3.toInt + m = l2.toInt → m < g → ∃ z, f_X9_playsWithoutStall_b19 an ar tot ph ln fl va8 vn vr g mode th last chg state time pos su st pl stalls aband fin sw wasted qual as aa going track seg rung wait dur need got len sg kept bits durs vs va l2 l3 = some z ∧ z.1 = (if (iterS c mode.toInt th.toInt m σ).stalls = 0 then 1 else 0) ∧ chk z.2.2.2.2.2.2.2.2.2.2.2.2.2.2.2.2.2.2.2.2.2.2.2.2.2.2.2.2.1 300 = true
  | 0, g + 1, σ, T, S, hT, ht, last, chg, state, time, pos, su, st, pl, stalls, aband, fin, sw, wasted, qual, as, aa, going, track, seg, rung, wait, dur, need, got, len, sg, kept, bits, durs, vs, va, R, l3, hl, hg => by
    unfold f_X9_playsWithoutStall_b19 iterS
    rw [if_pos (by rw [le32]; omega)]
    by_cases h : σ.stalls = 0
    · rw [if_pos (by rw [eq32, R.stalls, h]; rfl), if_pos h]
      exact ⟨_, rfl, rfl, R.ft⟩
    · rw [if_neg (by rw [eq32, R.stalls]; exact h), if_neg h]
      exact ⟨_, rfl, rfl, R.ft⟩
  | m + 1, g + 1, σ, T, S, hT, ht, last, chg, state, time, pos, su, st, pl, stalls, aband, fin, sw, wasted, qual, as, aa, going, track, seg, rung, wait, dur, need, got, len, sg, kept, bits, durs, vs, va, R, l3, hl, hg => by
    have tw := tick_wf W S V mode.toInt th.toInt (by omega) (by omega)
    have st0 := S.stalls0
    have mono := stl_iter (c := c) (mode := mode.toInt) (th := th.toInt) (m + 1) σ
    have l2b := Int32.toInt_lt l2
    have l3b := Int32.le_toInt l3
    unfold f_X9_playsWithoutStall_b19
    rw [if_neg (by rw [le32]; omega)]
    by_cases h : σ.stalls = 0
    · obtain ⟨last3, chg3, state3, time3, pos3, su3, st3, pl3, stalls3, aband3, fin3, sw3, wasted3, qual3, as3, aa3, going3, track3, seg3, rung3, wait3, dur3, need3, got3, len3, sg3, kept3, bits3, durs3, vs3, va3, ha, R3⟩ := c_adv W S V K (mode := mode) (th := th) (ms := 1) (n := 1) rfl (by omega) (by omega) R
      rw [if_pos (by rw [eq32, R.stalls, h]; rfl), ha]
      simp only [obnd31]
      unfold iterS
      exact c_pws W K L V m g (tickS c mode.toInt th.toInt σ) (T + 4) tw.1 (by omega) (by rw [tw.2]; omega) _ _ _ _ _ _ _ _ _ _ _ _ _ _ _ _ _ _ _ _ _ _ _ _ _ _ _ _ _ _ _ R3 (l3 + 1) (by rw [add32 (by simp only [Int32.reduceToInt]; omega) (by simp only [Int32.reduceToInt]; omega)]; simp only [Int32.reduceToInt]; omega) (by omega)
    · have hs : ¬ stalls = 0 := by rw [eq32, R.stalls]; exact h
      rw [if_neg hs, if_neg hs, if_neg (by omega)]
      exact ⟨_, rfl, rfl, R.ft⟩
theorem t_pws {c : Cf} {va8 : Nat → Int32} {vn : Int32} {vr : Nat → Int32} {an : Int32} {ar : Nat → Int32} {tot : Int32} {ph : Int32} {ln : Nat → Int32} {fl : Nat → Int32} {p : Nat → Int32} {la : Nat → Int32} {ra : Nat → Int32} {pm : Int32} {lm : Nat → Int32} {fm : Nat → Int32} (W : WfC c) (K : CC c va8 vn vr an ar tot ph ln fl) (L : CM c p la ra pm lm fm) (V : 1 ≤ c.vn) {x_aa : Nat → Int32} {x_track : Int32} {x_seg : Int32} {x_rung : Int32} {x_wait : Int32} {x_dur : Int32} {x_need : Int64} {x_got : Int64} {x_sg : Nat → Int32} {x_bits : Nat → Int64} {x_durs : Nat → Int64} {x_va : Nat → Int32} {r42 : Nat → Int64} {y w p1 : Int32} (F : chk x_sg 300 = true) (hm : 0 ≤ p1.toInt ∧ p1.toInt ≤ 20000) (hy : y.toInt = w.toInt) : ∃ z u, f_X9_playsWithoutStall x_aa x_track x_seg x_rung x_wait x_dur x_need x_got x_sg x_bits x_durs x_va an ar tot ph ln fl va8 vn vr y p1 = some z ∧ f_X10_goesOn pm fm la lm p ra (f_X10_clears r42) p1 (p 12) w = some u ∧ (z.1 = 0 ↔ ¬ u 18 = 0) ∧ chk z.2.2.2.2.2.2.2.2.2.2.2.2.2.2.2.2.2.2.2.2.2.2.2.2.2.2.2.2.1 300 = true := by
  have k12 := K.v 12 (by decide)
  have l12 := L.v 12 (by decide)
  have v12 : f_X8_valueOf va8 12 = va8 12 := vo (by decide) (by decide)
  obtain ⟨n, hn⟩ : ∃ n : Nat, p1.toInt = n := ⟨p1.toInt.toNat, by omega⟩
  have ft : freshS.time = 0 := rfl
  have Sf := fresh_wf W V
  obtain ⟨z, hz, e1, hf⟩ := c_pws W K L V (mode := va8 12) (th := y) (l2 := p1) n (((p1.toInt - (0 : Int32).toInt).toNat) + 1) freshS 0 Sf (by omega) (by rw [ft]; omega) _ _ _ _ _ _ _ _ _ _ _ _ _ _ _ _ _ _ _ _ _ _ _ _ _ _ _ _ _ _ _ (rc_fresh (aa := x_aa) (track := x_track) (seg := x_seg) (rung := x_rung) (wait := x_wait) (dur := x_dur) (need := x_need) (got := x_got) (bits := x_bits) (durs := x_durs) (va := x_va) F) 0 (by simp only [Int32.reduceToInt]; omega) (by simp only [Int32.reduceToInt]; omega)
  obtain ⟨u, hu, M3⟩ := m_goes W Sf V L (mode := p 12) (th := w) hn (by omega) (by rw [ft]; omega) (m_clear (r := r42))
  have Ms := M3.stalls
  rw [l12, ← k12, ← hy] at Ms
  refine ⟨z, u, ?_, hu, ?_, hf⟩
  · unfold f_X9_playsWithoutStall
    rw [be_eq, v12]
    simp only [bnd21]
    exact hz
  · rw [e1, eq64, Ms]
    by_cases h : (iterS c (va8 12).toInt y.toInt n freshS).stalls = 0
    · rw [if_pos h]; exact ⟨fun q => absurd q one_z, fun q => absurd h q⟩
    · rw [if_neg h]; exact ⟨fun _ => h, fun _ => rfl⟩
theorem t_least {c : Cf} {va8 : Nat → Int32} {vn : Int32} {vr : Nat → Int32} {an : Int32} {ar : Nat → Int32} {tot : Int32} {ph : Int32} {ln : Nat → Int32} {fl : Nat → Int32} {p : Nat → Int32} {la : Nat → Int32} {ra : Nat → Int32} {pm : Int32} {lm : Nat → Int32} {fm : Nat → Int32} (W : WfC c) (K : CC c va8 vn vr an ar tot ph ln fl) (L : CM c p la ra pm lm fm) (V : 1 ≤ c.vn) {t p1 : Int32} (hm : 0 ≤ p1.toInt ∧ p1.toInt ≤ 20000) : ∀ (m k g : Nat), k + m = 11 → m < g → ∀ (xmode : Int32) (xth : Int32) (x_last : Int32) (x_chg : Int32) (x_state : Int32) (x_time : Int32) (x_pos : Int32) (x_su : Int32) (x_st : Int32) (x_pl : Int32) (x_stalls : Int32) (x_aband : Int32) (x_fin : Int32) (x_sw : Int32) (x_wasted : Int64) (x_qual : Int64) (x_as : Int32) (x_aa : Nat → Int32) (x_going : Int32) (x_track : Int32) (x_seg : Int32) (x_rung : Int32) (x_wait : Int32) (x_dur : Int32) (x_need : Int64) (x_got : Int64) (x_len : Int32) (x_sg : Nat → Int32) (x_kept : Int32) (x_bits : Nat → Int64) (x_durs : Nat → Int64) (x_vs : Int32) (x_va : Nat → Int32) (_ : chk x_sg 300 = true) (r42 : Nat → Int64) (l2 : Int32), l2.toInt = k → ∃ z b u, f_X9_leastStart_b16 an ar tot ph ln fl va8 vn vr g xmode xth x_last x_chg x_state x_time x_pos x_su x_st x_pl x_stalls x_aband x_fin x_sw x_wasted x_qual x_as x_aa x_going x_track x_seg x_rung x_wait x_dur x_need x_got x_len x_sg x_kept x_bits x_durs x_vs x_va p1 l2 = some z ∧ f_X10_leastStart_b12 pm fm la lm p ra g t r42 p1 l2 = some (b, t, u) ∧ z.1 = 0 ∧ z.2.1 = b ∧ chk z.2.2.2.2.2.2.2.2.2.2.2.2.2.2.2.2.2.2.2.2.2.2.2.2.2.2.2.2.2.1 300 = true
  | 0, k, g + 1, hk, hg, xmode, xth, x_last, x_chg, x_state, x_time, x_pos, x_su, x_st, x_pl, x_stalls, x_aband, x_fin, x_sw, x_wasted, x_qual, x_as, x_aa, x_going, x_track, x_seg, x_rung, x_wait, x_dur, x_need, x_got, x_len, x_sg, x_kept, x_bits, x_durs, x_vs, x_va, F, r42, l2, hl => by
    unfold f_X9_leastStart_b16 f_X10_leastStart_b12
    rw [if_pos (by rw [lt32]; simp only [Int32.reduceToInt]; omega), if_pos (by rw [lt32]; simp only [Int32.reduceToInt]; omega)]
    exact ⟨_, _, _, rfl, rfl, rfl, rfl, F⟩
  | m + 1, k, g + 1, hk, hg, xmode, xth, x_last, x_chg, x_state, x_time, x_pos, x_su, x_st, x_pl, x_stalls, x_aband, x_fin, x_sw, x_wasted, x_qual, x_as, x_aa, x_going, x_track, x_seg, x_rung, x_wait, x_dur, x_need, x_got, x_len, x_sg, x_kept, x_bits, x_durs, x_vs, x_va, F, r42, l2, hl => by
    have k0 := K.v 0 (by decide)
    have l0 := L.v 0 (by decide)
    have d0 := W.d0
    have d1 := W.d1
    have v0 : f_X8_valueOf va8 0 = va8 0 := vo (by decide) (by decide)
    have b := mulb (a := l2.toInt) (b := c.v 0) (A := 10) (B := 10000) (by omega) (by omega) (by omega) d1
    have e1 : (l2 * va8 0).toInt = l2.toInt * c.v 0 := by rw [mul32 (by rw [k0]; omega) (by rw [k0]; omega), k0]
    have e2 : (l2 * p 0).toInt = l2.toInt * c.v 0 := by rw [mul32 (by rw [l0]; omega) (by rw [l0]; omega), l0]
    have e3 : (l2 + 1).toInt = ((k + 1 : Nat) : Int) := by rw [add32 (by simp only [Int32.reduceToInt]; omega) (by simp only [Int32.reduceToInt]; omega), hl]; rfl
    have em : (mn32 (l2 * va8 0) 60000).toInt = min (l2.toInt * c.v 0) 60000 := by rw [min32, e1]; rfl
    have step : ∀ w : Int32, w.toInt = min (l2.toInt * c.v 0) 60000 → ∃ z b u, f_X9_leastStart_b16 an ar tot ph ln fl va8 vn vr (g + 1) xmode xth x_last x_chg x_state x_time x_pos x_su x_st x_pl x_stalls x_aband x_fin x_sw x_wasted x_qual x_as x_aa x_going x_track x_seg x_rung x_wait x_dur x_need x_got x_len x_sg x_kept x_bits x_durs x_vs x_va p1 l2 = some z ∧ (bnd (f_X10_clears r42) fun (u3 : Nat → Int64) => obnd (f_X10_goesOn pm fm la lm p ra u3 p1 (p 12) w) fun (u4 : Nat → Int64) => if (u4 18) = 0 then some (l2, t, u4) else f_X10_leastStart_b12 pm fm la lm p ra g t u4 p1 (l2 + 1)) = some (b, t, u) ∧ z.1 = 0 ∧ z.2.1 = b ∧ chk z.2.2.2.2.2.2.2.2.2.2.2.2.2.2.2.2.2.2.2.2.2.2.2.2.2.2.2.2.2.1 300 = true := fun w hw => by
      obtain ⟨z, u, hz, hu, iff, hf⟩ := t_pws W K L V (r42 := r42) (y := mn32 (l2 * va8 0) 60000) (w := w) (p1 := p1) (x_aa := x_aa) (x_track := x_track) (x_seg := x_seg) (x_rung := x_rung) (x_wait := x_wait) (x_dur := x_dur) (x_need := x_need) (x_got := x_got) (x_bits := x_bits) (x_durs := x_durs) (x_va := x_va) F hm (em.trans hw.symm)
      rw [bnd_p, hu, obnd_some]
      unfold f_X9_leastStart_b16
      rw [if_neg (by rw [lt32]; simp only [Int32.reduceToInt]; omega), v0, bnd_p, hz]
      simp only [obnd34]
      by_cases q : z.1 = 0
      · rw [if_pos q, if_neg (iff.mp q)]
        exact t_least W K L V hm m (k + 1) g (by omega) (by omega) _ _ _ _ _ _ _ _ _ _ _ _ _ _ _ _ _ _ _ _ _ _ _ _ _ _ _ _ _ _ _ _ _ hf u (l2 + 1) e3
      · have q2 : u 18 = 0 := Decidable.byContradiction (fun n => q (iff.mpr n))
        rw [if_neg q, if_pos q2]
        exact ⟨_, _, _, rfl, rfl, rfl, rfl, hf⟩
    unfold f_X10_leastStart_b12
    rw [if_neg (by rw [lt32]; simp only [Int32.reduceToInt]; omega)]
    by_cases q : l2.toInt * c.v 0 ≤ 60000
    · rw [if_pos (by rw [le32, e2]; exact q)]
      exact step (l2 * p 0) (by rw [e2]; omega)
    · rw [if_neg (by rw [le32, e2]; exact q)]
      exact step 60000 (by simp only [Int32.reduceToInt]; omega)
theorem a_leastStart {c : Cf} {va8 : Nat → Int32} {vn : Int32} {vr : Nat → Int32} {an : Int32} {ar : Nat → Int32} {tot : Int32} {ph : Int32} {ln : Nat → Int32} {fl : Nat → Int32} {p : Nat → Int32} {la : Nat → Int32} {ra : Nat → Int32} {pm : Int32} {lm : Nat → Int32} {fm : Nat → Int32} (W : WfC c) (K : CC c va8 vn vr an ar tot ph ln fl) (L : CM c p la ra pm lm fm) {xmode : Int32} {xth : Int32} {x_last : Int32} {x_chg : Int32} {x_state : Int32} {x_time : Int32} {x_pos : Int32} {x_su : Int32} {x_st : Int32} {x_pl : Int32} {x_stalls : Int32} {x_aband : Int32} {x_fin : Int32} {x_sw : Int32} {x_wasted : Int64} {x_qual : Int64} {x_as : Int32} {x_aa : Nat → Int32} {x_going : Int32} {x_track : Int32} {x_seg : Int32} {x_rung : Int32} {x_wait : Int32} {x_dur : Int32} {x_need : Int64} {x_got : Int64} {x_len : Int32} {x_sg : Nat → Int32} {x_kept : Int32} {x_bits : Nat → Int64} {x_durs : Nat → Int64} {x_vs : Int32} {x_va : Nat → Int32} {r2 r42 : Nat → Int64} {p1 : Int32} (F : chk x_sg 300 = true) : ∃ z b t u, f_L_leastStart xmode xth x_last x_chg x_state x_time x_pos x_su x_st x_pl x_stalls x_aband x_fin x_sw x_wasted x_qual x_as x_aa x_going x_track x_seg x_rung x_wait x_dur x_need x_got x_len x_sg x_kept x_bits x_durs x_vs x_va an ar tot ph ln fl va8 vn vr r2 p1 = some z ∧ f_X10_leastStart pm fm la lm p ra r42 p1 = some (b, t, u) ∧ t = z.1 ∧ (z.1 = 0 → z.2.2.2.2.2.2.2.2.2.2.2.2.2.2.2.2.2.2.2.2.2.2.2.2.2.2.2.2.2.2.2.2.2.2 0 = b.toInt64) ∧ chk z.2.2.2.2.2.2.2.2.2.2.2.2.2.2.2.2.2.2.2.2.2.2.2.2.2.2.2.2.1 300 = true := by
  by_cases hm : 0 ≤ p1.toInt ∧ p1.toInt ≤ 20000
  · have c0 := ms_0 hm
    have i0 := in_m hm
    by_cases h : 1 ≤ c.vn ∧ 1 ≤ c.ph
    · obtain ⟨q1, q2⟩ := pl_1 K.ph K.vn L.ph L.vn h.1 h.2
      have it : f_X10_isTrial pm la p1 = (1, 0) := by unfold f_X10_isTrial; rw [i0, if_neg one_z, q2, if_pos rfl]
      obtain ⟨z, b, u, hz, hu, e1, e2, hf⟩ := t_least W K L h.1 (t := 0) hm 11 0 ((((11 : Int32).toInt - (0 : Int32).toInt).toNat) + 1) (by omega) (by decide) xmode xth x_last x_chg x_state x_time x_pos x_su x_st x_pl x_stalls x_aband x_fin x_sw x_wasted x_qual x_as x_aa x_going x_track x_seg x_rung x_wait x_dur x_need x_got x_len x_sg x_kept x_bits x_durs x_vs x_va F r42 0 rfl
      have e : f_X9_leastStart xmode xth x_last x_chg x_state x_time x_pos x_su x_st x_pl x_stalls x_aband x_fin x_sw x_wasted x_qual x_as x_aa x_going x_track x_seg x_rung x_wait x_dur x_need x_got x_len x_sg x_kept x_bits x_durs x_vs x_va an ar tot ph ln fl va8 vn vr p1 = some z := by
        unfold f_X9_leastStart
        simp only [bnd]
        rw [c0, if_pos rfl, q1, rs_1, if_pos rfl]
        exact hz
      have e3 : z = (0, b, z.2.2) := by rw [← e1, ← e2]
      rw [e3] at e
      refine ⟨_, b, 0, u, by { unfold f_L_leastStart; rw [e]; rfl }, ?_, rfl, fun _ => updL_eq, hf⟩
      unfold f_X10_leastStart
      rw [it]
      simp only [bnd2, one_z, if_false]
      exact hu
    · obtain ⟨q1, q2⟩ := pl_0 W K.ph K.vn L.ph L.vn h
      refine ⟨_, 0, 2, r42, by { unfold f_L_leastStart f_X9_leastStart; simp only [bnd]; rw [c0, if_pos rfl, q1, rs_0, if_neg (by decide)]; rfl }, ?_, rfl, fun q => absurd q (by show ¬ (2 : Int32) = 0; decide), F⟩
      unfold f_X10_leastStart f_X10_isTrial
      rw [i0, if_neg one_z, q2, if_neg one_z]; rfl
  · refine ⟨_, 0, 1, r42, by { unfold f_L_leastStart f_X9_leastStart; simp only [bnd]; rw [ms_2 hm, if_neg (by decide)]; rfl }, ?_, rfl, fun q => absurd q (by show ¬ (1 : Int32) = 0; decide), F⟩
    unfold f_X10_leastStart f_X10_isTrial
    rw [in_n hm, if_pos rfl]; rfl
