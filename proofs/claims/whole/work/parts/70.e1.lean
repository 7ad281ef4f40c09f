theorem a_start {c : Cf} {mode : Int32} {th : Int32} {last : Int32} {chg : Int32} {state : Int32} {time : Int32} {pos : Int32} {su : Int32} {st : Int32} {pl : Int32} {stalls : Int32} {aband : Int32} {fin : Int32} {sw : Int32} {wasted : Int64} {qual : Int64} {as : Int32} {aa : Nat → Int32} {going : Int32} {track : Int32} {seg : Int32} {rung : Int32} {wait : Int32} {dur : Int32} {need : Int64} {got : Int64} {len : Int32} {sg : Nat → Int32} {kept : Int32} {bits : Nat → Int64} {durs : Nat → Int64} {vs : Int32} {va : Nat → Int32} {va8 : Nat → Int32} {vn : Int32} {vr : Nat → Int32} {an : Int32} {ar : Nat → Int32} {tot : Int32} {ph : Int32} {ln : Nat → Int32} {fl : Nat → Int32} {p : Nat → Int32} {la : Nat → Int32} {ra : Nat → Int32} {pm : Int32} {lm : Nat → Int32} {fm : Nat → Int32} {has : Int32} {s : Nat → Int64} (W : WfC c) (K : CC c va8 vn vr an ar tot ph ln fl) (L : CM c p la ra pm lm fm) (E : SE c mode th last chg state time pos su st pl stalls aband fin sw wasted qual as aa going track seg rung wait dur need got len sg kept bits durs vs va has s) {r2 : Nat → Int64} (F : chk sg 300 = true) : ∃ k mode2 th2 last2 chg2 state2 time2 pos2 su2 st2 pl2 stalls2 aband2 fin2 sw2 wasted2 qual2 as2 going2 len2 kept2 vs2 r b has2 t s2, f_L_start mode th last chg state time pos su st pl stalls aband fin sw wasted qual as going len kept vs ph va8 vn r2 = some (k, mode2, th2, last2, chg2, state2, time2, pos2, su2, st2, pl2, stalls2, aband2, fin2, sw2, wasted2, qual2, as2, going2, len2, kept2, vs2, r) ∧ f_X10_start pm has la s p = (b, has2, t, s2) ∧ t = k ∧ (k = 0 → r 0 = b.toInt64) ∧ SE c mode2 th2 last2 chg2 state2 time2 pos2 su2 st2 pl2 stalls2 aband2 fin2 sw2 wasted2 qual2 as2 aa going2 track seg rung wait dur need got len2 sg kept2 bits durs vs2 va has2 s2 := by
  have k1 := K.v 1 (by decide)
  have k3 := K.v 3 (by decide)
  have k12 := K.v 12 (by decide)
  have v1 : f_X8_valueOf va8 1 = va8 1 := vo (by decide) (by decide)
  have v3 : f_X8_valueOf va8 3 = va8 3 := vo (by decide) (by decide)
  have v12 : f_X8_valueOf va8 12 = va8 12 := vo (by decide) (by decide)
  have ep : va8 1 = p 1 := eq32.mpr (k1.trans (L.v 1 (by decide)).symm)
  rcases E with ⟨rfl, rfl⟩ | E
  · by_cases h : 1 ≤ c.vn ∧ 1 ≤ c.ph
    · obtain ⟨q1, q2⟩ := pl_1 K.ph K.vn L.ph L.vn h.1 h.2
      refine ⟨0, va8 12, va8 3, (-1), 0, 1, 0, 0, 0, 0, 0, 0, 0, 0, 0, 0, 0, 0, 0, 0, 0, 0, vp_updL r2 0 (va8 1).toInt64, p 1, 1, 0, f_X10_clears s, ?_, ?_, rfl, fun _ => by rw [updL_eq, ep], Or.inr ⟨rfl, k12, k3, h.1, h.2, freshS, fresh_wf W h.1, (by show (0 : Int) ≤ 10000000; decide), sw_fresh, rc_fresh F, m_clear⟩⟩
      · have x1 : f_X9_start mode th last chg 0 time pos su st pl stalls aband fin sw wasted qual as going len kept vs ph va8 vn = (0, va8 1, va8 12, va8 3, (-1), 0, 1, 0, 0, 0, 0, 0, 0, 0, 0, 0, 0, 0, 0, 0, 0, 0, 0) := by
          unfold f_X9_start
          rw [rn_0, bnd_p, if_pos rfl, q1, rs_1, bnd_p, if_pos rfl, be_eq, b21_s, v1, v3, v12]
        unfold f_L_start
        rw [x1, b23_s, if_pos rfl, bnd_p]
      · unfold f_X10_start; rw [if_pos rfl, q2, if_pos rfl]; rfl
    · obtain ⟨q1, q2⟩ := pl_0 W K.ph K.vn L.ph L.vn h
      exact ⟨1, mode, th, last, chg, 0, time, pos, su, st, pl, stalls, aband, fin, sw, wasted, qual, as, going, len, kept, vs, r2, 0, 0, 1, s, by unfold f_L_start f_X9_start; rw [rn_0, bnd_p, if_pos rfl, q1, rs_0, bnd_p, if_neg (by decide), b23_s]; rfl, by unfold f_X10_start; rw [if_pos rfl, q2, if_neg one_z]; rfl, rfl, fun q => absurd q (by decide), Or.inl ⟨rfl, rfl⟩⟩
  · obtain ⟨rfl, em, et, V, P, σ, S, tb, sq, R, M⟩ := E
    have rn := rn_1 (ne_st S R.state)
    exact ⟨1, mode, th, last, chg, state, time, pos, su, st, pl, stalls, aband, fin, sw, wasted, qual, as, going, len, kept, vs, r2, 0, 1, 1, s, by unfold f_L_start f_X9_start; rw [rn, bnd_p, if_neg (by decide), b23_s]; rfl, by unfold f_X10_start; rw [if_neg one_z]; rfl, rfl, fun q => absurd q (by decide), Or.inr ⟨rfl, em, et, V, P, σ, S, tb, sq, R, M⟩⟩
