theorem a_forecast {c : Cf} {mode : Int32} {th : Int32} {last : Int32} {chg : Int32} {state : Int32} {time : Int32} {pos : Int32} {su : Int32} {st : Int32} {pl : Int32} {stalls : Int32} {aband : Int32} {fin : Int32} {sw : Int32} {wasted : Int64} {qual : Int64} {as : Int32} {aa : Nat → Int32} {going : Int32} {track : Int32} {seg : Int32} {rung : Int32} {wait : Int32} {dur : Int32} {need : Int64} {got : Int64} {len : Int32} {sg : Nat → Int32} {kept : Int32} {bits : Nat → Int64} {durs : Nat → Int64} {vs : Int32} {va : Nat → Int32} {va8 : Nat → Int32} {vn : Int32} {vr : Nat → Int32} {an : Int32} {ar : Nat → Int32} {tot : Int32} {ph : Int32} {ln : Nat → Int32} {fl : Nat → Int32} {p : Nat → Int32} {la : Nat → Int32} {ra : Nat → Int32} {pm : Int32} {lm : Nat → Int32} {fm : Nat → Int32} {has : Int32} {s : Nat → Int64} (W : WfC c) (K : CC c va8 vn vr an ar tot ph ln fl) (L : CM c p la ra pm lm fm) (E : SE c mode th last chg state time pos su st pl stalls aband fin sw wasted qual as aa going track seg rung wait dur need got len sg kept bits durs vs va has s) {xmode : Int32} {xth : Int32} {x_last : Int32} {x_chg : Int32} {x_state : Int32} {x_time : Int32} {x_pos : Int32} {x_su : Int32} {x_st : Int32} {x_pl : Int32} {x_stalls : Int32} {x_aband : Int32} {x_fin : Int32} {x_sw : Int32} {x_wasted : Int64} {x_qual : Int64} {x_as : Int32} {x_aa : Nat → Int32} {x_going : Int32} {x_track : Int32} {x_seg : Int32} {x_rung : Int32} {x_wait : Int32} {x_dur : Int32} {x_need : Int64} {x_got : Int64} {x_len : Int32} {x_sg : Nat → Int32} {x_kept : Int32} {x_bits : Nat → Int64} {x_durs : Nat → Int64} {x_vs : Int32} {x_va : Nat → Int32} {r2 r42 : Nat → Int64} {p1 p2 : Int32} (F : chk x_sg 300 = true) : ∃ z b t u, f_L_forecast xmode xth x_last x_chg x_state x_time x_pos x_su x_st x_pl x_stalls x_aband x_fin x_sw x_wasted x_qual x_as x_aa x_going x_track x_seg x_rung x_wait x_dur x_need x_got x_len x_sg x_kept x_bits x_durs x_vs x_va mode th last chg state time pos su st pl stalls aband fin sw wasted qual as aa going track seg rung wait dur need got len sg kept bits durs vs va an ar tot ph ln fl va8 vn vr r2 p1 p2 = some z ∧ f_X10_forecast pm has fm la lm s p ra r42 p1 p2 = some (b, t, u) ∧ t = z.1 ∧ (z.1 = 0 → z.2.2.2.2.2.2.2.2.2.2.2.2.2.2.2.2.2.2.2.2.2.2.2.2.2.2.2.2.2.2.2.2.2.2 0 = b.toInt64) ∧ chk z.2.2.2.2.2.2.2.2.2.2.2.2.2.2.2.2.2.2.2.2.2.2.2.2.2.2.2.2.1 300 = true := by
  have l3 := L.v 3 (by decide)
  have l12 := L.v 12 (by decide)
  by_cases hm : 0 ≤ p1.toInt ∧ p1.toInt ≤ 20000
  · have c0 := ms_0 hm
    have i0 := in_m hm
    by_cases hw : 0 ≤ p2.toInt ∧ p2.toInt < 4
    · have c1 : f_X9_requireIndex p2 4 = 0 := ix_c hw.1 (by simp only [Int32.reduceToInt]; omega)
      have i1 : f_X10_in p2.toInt64 0 3 = 1 := in_i (by simp only [Int64.reduceToInt]; omega) (by simp only [Int64.reduceToInt]; omega)
      rcases E with ⟨rfl, rfl⟩ | ⟨rfl, em, et, V, P, σ, S, tb, sq, R, M⟩
      · exact ⟨(3, xmode, xth, x_last, x_chg, x_state, x_time, x_pos, x_su, x_st, x_pl, x_stalls, x_aband, x_fin, x_sw, x_wasted, x_qual, x_as, x_aa, x_going, x_track, x_seg, x_rung, x_wait, x_dur, x_need, x_got, x_len, x_sg, x_kept, x_bits, x_durs, x_vs, x_va, r2), 0, 3, r42, by unfold f_L_forecast f_X9_forecast; rw [c0, bnd_p, if_pos rfl, c1, bnd_p, if_pos rfl, rq_0, bnd_p, if_neg (by decide), o35_s]; rfl, by unfold f_X10_forecast; rw [i0, if_neg one_z, i1, if_neg one_z, if_pos rfl], rfl, fun q => absurd q (by show ¬ (3 : Int32) = 0; decide), F⟩
      · have rs := rq_s (ne_st S R.state)
        have m1 := W.m1
        have v1 := S.v1
        have a1 := S.a1
        have n1 := S.n1
        have k1 := S.k1
        have hc := c_copy (xaa := x_aa) (xsg := x_sg) (xb := x_bits) (xd := x_durs) (xva := x_va) (mode := mode) (th := th) S R
        have RR := rc_copy (xaa := x_aa) (xsg := x_sg) (xb := x_bits) (xd := x_durs) (xva := x_va) R (by omega) (by omega) n1 k1
        obtain ⟨n, hn⟩ : ∃ n : Nat, p1.toInt = n := ⟨p1.toInt.toNat, by omega⟩
        have t0 := S.t0
        obtain ⟨last3, chg3, state3, time3, pos3, su3, st3, pl3, stalls3, aband3, fin3, sw3, wasted3, qual3, as3, aa3, going3, track3, seg3, rung3, wait3, dur3, need3, got3, len3, sg3, kept3, bits3, durs3, vs3, va3, ha, R3⟩ := c_adv W S V K (mode := mode) (th := th) hn (by omega) (by omega) RR
        obtain ⟨u, hu, eu⟩ := m_copyL (pm := pm) (fm := fm) (la := la) (lm := lm) (p := p) (ra := ra) (s := s) (t := 0) (p1 := p1) (p2 := p2) 760 0 ((((760 : Int32).toInt - (0 : Int32).toInt).toNat) + 1) r42 0 (by omega) (by decide) rfl (fun j hj => absurd hj (Nat.not_lt_zero _))
        have MM := rm_congr M (by omega) (by omega) n1 k1 eu
        obtain ⟨s2, hg, M3⟩ := m_goes W S V L (mode := p 12) (th := p 3) hn (by omega) (by omega) MM
        rw [l12, l3, ← em, ← et] at M3
        have it := iter_wf W V mode.toInt th.toInt n σ (4 * σ.time) S (by omega) (by omega)
        rw [hg, obnd_some] at hu
        have key : f_X10_forecast pm 1 fm la lm s p ra r42 p1 p2 = (if p2 = 0 then some ((s2 2).toInt32, 0, s2) else if p2 = 1 then some ((s2 1).toInt32, 0, s2) else if p2 = 2 then some ((s2 16).toInt32, 0, s2) else obnd (f_X10_bufferOf p s2 0) fun (z6 : Int64) => some (z6.toInt32, 0, s2)) := by
          unfold f_X10_forecast; rw [i0, if_neg one_z, i1, if_neg one_z, if_neg one_z]; exact hu
        have x1 : f_X9_forecast xmode xth x_last x_chg x_state x_time x_pos x_su x_st x_pl x_stalls x_aband x_fin x_sw x_wasted x_qual x_as x_aa x_going x_track x_seg x_rung x_wait x_dur x_need x_got x_len x_sg x_kept x_bits x_durs x_vs x_va mode th last chg state time pos su st pl stalls aband fin sw wasted qual as aa going track seg rung wait dur need got len sg kept bits durs vs va an ar tot ph ln fl va8 vn vr p1 p2 = (if p2 = 0 then some (0, state3, mode, th, last3, chg3, state3, time3, pos3, su3, st3, pl3, stalls3, aband3, fin3, sw3, wasted3, qual3, as3, aa3, going3, track3, seg3, rung3, wait3, dur3, need3, got3, len3, sg3, kept3, bits3, durs3, vs3, va3) else if p2 = 1 then some (0, pos3, mode, th, last3, chg3, state3, time3, pos3, su3, st3, pl3, stalls3, aband3, fin3, sw3, wasted3, qual3, as3, aa3, going3, track3, seg3, rung3, wait3, dur3, need3, got3, len3, sg3, kept3, bits3, durs3, vs3, va3) else if p2 = 2 then some (0, st3, mode, th, last3, chg3, state3, time3, pos3, su3, st3, pl3, stalls3, aband3, fin3, sw3, wasted3, qual3, as3, aa3, going3, track3, seg3, rung3, wait3, dur3, need3, got3, len3, sg3, kept3, bits3, durs3, vs3, va3) else some (0, f_X6_bufferOf_0 pos3 va8 vn vs3, mode, th, last3, chg3, state3, time3, pos3, su3, st3, pl3, stalls3, aband3, fin3, sw3, wasted3, qual3, as3, aa3, going3, track3, seg3, rung3, wait3, dur3, need3, got3, len3, sg3, kept3, bits3, durs3, vs3, va3)) := by
          unfold f_X9_forecast
          rw [c0, bnd_p, if_pos rfl, c1, bnd_p, if_pos rfl, rs, bnd_p, if_pos rfl, hc]
          rw [o33_s, ha, o31_s]
          rfl
        have e : p2.toInt = 0 ∨ p2.toInt = 1 ∨ p2.toInt = 2 ∨ p2.toInt = 3 := by omega
        rcases e with e | e | e | e
        · have e : p2 = 0 := eq32.mpr e
          subst e
          exact ⟨(0, mode, th, last3, chg3, state3, time3, pos3, su3, st3, pl3, stalls3, aband3, fin3, sw3, wasted3, qual3, as3, aa3, going3, track3, seg3, rung3, wait3, dur3, need3, got3, len3, sg3, kept3, bits3, durs3, vs3, va3, vp_updL r2 0 (state3).toInt64), (s2 2).toInt32, 0, s2, by unfold f_L_forecast; rw [x1, if_pos rfl, o35_s, if_pos rfl, bnd_p], by rw [key, if_pos rfl], rfl, fun _ => by { show vp_updL r2 0 (state3).toInt64 0 = _; rw [updL_eq, cv (M3.state.trans R3.state.symm)] }, R3.ft⟩
        · have e : p2 = 1 := eq32.mpr e
          subst e
          exact ⟨(0, mode, th, last3, chg3, state3, time3, pos3, su3, st3, pl3, stalls3, aband3, fin3, sw3, wasted3, qual3, as3, aa3, going3, track3, seg3, rung3, wait3, dur3, need3, got3, len3, sg3, kept3, bits3, durs3, vs3, va3, vp_updL r2 0 (pos3).toInt64), (s2 1).toInt32, 0, s2, by unfold f_L_forecast; rw [x1, if_neg (by decide), if_pos rfl, o35_s, if_pos rfl, bnd_p], by rw [key, if_neg (by decide), if_pos rfl], rfl, fun _ => by { show vp_updL r2 0 (pos3).toInt64 0 = _; rw [updL_eq, cv (M3.pos.trans R3.pos.symm)] }, R3.ft⟩
        · have e : p2 = 2 := eq32.mpr e
          subst e
          exact ⟨(0, mode, th, last3, chg3, state3, time3, pos3, su3, st3, pl3, stalls3, aband3, fin3, sw3, wasted3, qual3, as3, aa3, going3, track3, seg3, rung3, wait3, dur3, need3, got3, len3, sg3, kept3, bits3, durs3, vs3, va3, vp_updL r2 0 (st3).toInt64), (s2 16).toInt32, 0, s2, by unfold f_L_forecast; rw [x1, if_neg (by decide), if_neg (by decide), if_pos rfl, o35_s, if_pos rfl, bnd_p], by rw [key, if_neg (by decide), if_neg (by decide), if_pos rfl], rfl, fun _ => by { show vp_updL r2 0 (st3).toInt64 0 = _; rw [updL_eq, cv (M3.st.trans R3.st.symm)] }, R3.ft⟩
        · have e : p2 = 3 := eq32.mpr e
          subst e
          obtain ⟨y, hy, ey⟩ := m_buf0 W it.1 L M3
          have eb := c_buf0 W it.1 V (K.v 0 (by decide)) R3.pos K.vn R3.vs
          exact ⟨(0, mode, th, last3, chg3, state3, time3, pos3, su3, st3, pl3, stalls3, aband3, fin3, sw3, wasted3, qual3, as3, aa3, going3, track3, seg3, rung3, wait3, dur3, need3, got3, len3, sg3, kept3, bits3, durs3, vs3, va3, vp_updL r2 0 (f_X6_bufferOf_0 pos3 va8 vn vs3).toInt64), y.toInt32, 0, s2, by unfold f_L_forecast; rw [x1, if_neg (by decide), if_neg (by decide), if_neg (by decide), o35_s, if_pos rfl, bnd_p], by rw [key, if_neg (by decide), if_neg (by decide), if_neg (by decide), hy]; rfl, rfl, fun _ => by { show vp_updL r2 0 (f_X6_bufferOf_0 pos3 va8 vn vs3).toInt64 0 = _; rw [updL_eq, cv (ey.trans eb.symm)] }, R3.ft⟩
    · have c1 : f_X9_requireIndex p2 4 = 1 := ix_b (by simp only [Int32.reduceToInt]; omega)
      have i1 : f_X10_in p2.toInt64 0 3 = 0 := in_o (by simp only [Int64.reduceToInt]; omega)
      exact ⟨(2, xmode, xth, x_last, x_chg, x_state, x_time, x_pos, x_su, x_st, x_pl, x_stalls, x_aband, x_fin, x_sw, x_wasted, x_qual, x_as, x_aa, x_going, x_track, x_seg, x_rung, x_wait, x_dur, x_need, x_got, x_len, x_sg, x_kept, x_bits, x_durs, x_vs, x_va, r2), 0, 2, r42, by unfold f_L_forecast f_X9_forecast; rw [c0, bnd_p, if_pos rfl, c1, bnd_p, if_neg (by decide), o35_s]; rfl, by unfold f_X10_forecast; rw [i0, if_neg one_z, i1, if_pos rfl], rfl, fun q => absurd q (by show ¬ (2 : Int32) = 0; decide), F⟩
  · exact ⟨(1, xmode, xth, x_last, x_chg, x_state, x_time, x_pos, x_su, x_st, x_pl, x_stalls, x_aband, x_fin, x_sw, x_wasted, x_qual, x_as, x_aa, x_going, x_track, x_seg, x_rung, x_wait, x_dur, x_need, x_got, x_len, x_sg, x_kept, x_bits, x_durs, x_vs, x_va, r2), 0, 1, r42, by unfold f_L_forecast f_X9_forecast; rw [ms_2 hm, bnd_p, if_neg (by decide), o35_s]; rfl, by unfold f_X10_forecast; rw [in_n hm, if_pos rfl], rfl, fun q => absurd q (by show ¬ (1 : Int32) = 0; decide), F⟩
