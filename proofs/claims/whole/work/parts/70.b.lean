/-! what a call that only looks answers -/
theorem a_time {c : Cf} {mode : Int32} {th : Int32} {last : Int32} {chg : Int32} {state : Int32} {time : Int32} {pos : Int32} {su : Int32} {st : Int32} {pl : Int32} {stalls : Int32} {aband : Int32} {fin : Int32} {sw : Int32} {wasted : Int64} {qual : Int64} {as : Int32} {aa : Nat → Int32} {going : Int32} {track : Int32} {seg : Int32} {rung : Int32} {wait : Int32} {dur : Int32} {need : Int64} {got : Int64} {len : Int32} {sg : Nat → Int32} {kept : Int32} {bits : Nat → Int64} {durs : Nat → Int64} {vs : Int32} {va : Nat → Int32} {va8 : Nat → Int32} {vn : Int32} {vr : Nat → Int32} {an : Int32} {ar : Nat → Int32} {tot : Int32} {ph : Int32} {ln : Nat → Int32} {fl : Nat → Int32} {p : Nat → Int32} {la : Nat → Int32} {ra : Nat → Int32} {pm : Int32} {lm : Nat → Int32} {fm : Nat → Int32} {has : Int32} {s : Nat → Int64} (W : WfC c) (K : CC c va8 vn vr an ar tot ph ln fl) (L : CM c p la ra pm lm fm) (E : SE c mode th last chg state time pos su st pl stalls aband fin sw wasted qual as aa going track seg rung wait dur need got len sg kept bits durs vs va has s) {r2 : Nat → Int64}  : Ag (f_L_time state time r2) (some (f_X10_time has s)) := by
  rcases E with ⟨rfl, rfl⟩ | ⟨rfl, em, et, V, P, σ, S, tb, sq, R, M⟩
  · exact ⟨1, r2, 0, 1, by simp [f_L_time, f_X9_time, f_X9_requireSession, bnd, bnd2], by simp [f_X10_time, f_X10_told, bnd2], rfl, fun q => absurd q (by decide)⟩
  · have h1 := ne_st S R.state
    have rs := rq_s h1
    refine ⟨0, vp_updL r2 0 time.toInt64, (s 0).toInt32, 0, by simp [f_L_time, f_X9_time, rs, bnd, bnd2], by simp [f_X10_time, f_X10_told, bnd2, one_z], rfl, fun _ => ?_⟩
    rw [updL_eq]; rw [cv (M.time.trans R.time.symm)]
theorem a_position {c : Cf} {mode : Int32} {th : Int32} {last : Int32} {chg : Int32} {state : Int32} {time : Int32} {pos : Int32} {su : Int32} {st : Int32} {pl : Int32} {stalls : Int32} {aband : Int32} {fin : Int32} {sw : Int32} {wasted : Int64} {qual : Int64} {as : Int32} {aa : Nat → Int32} {going : Int32} {track : Int32} {seg : Int32} {rung : Int32} {wait : Int32} {dur : Int32} {need : Int64} {got : Int64} {len : Int32} {sg : Nat → Int32} {kept : Int32} {bits : Nat → Int64} {durs : Nat → Int64} {vs : Int32} {va : Nat → Int32} {va8 : Nat → Int32} {vn : Int32} {vr : Nat → Int32} {an : Int32} {ar : Nat → Int32} {tot : Int32} {ph : Int32} {ln : Nat → Int32} {fl : Nat → Int32} {p : Nat → Int32} {la : Nat → Int32} {ra : Nat → Int32} {pm : Int32} {lm : Nat → Int32} {fm : Nat → Int32} {has : Int32} {s : Nat → Int64} (W : WfC c) (K : CC c va8 vn vr an ar tot ph ln fl) (L : CM c p la ra pm lm fm) (E : SE c mode th last chg state time pos su st pl stalls aband fin sw wasted qual as aa going track seg rung wait dur need got len sg kept bits durs vs va has s) {r2 : Nat → Int64}  : Ag (f_L_position state pos r2) (some (f_X10_position has s)) := by
  rcases E with ⟨rfl, rfl⟩ | ⟨rfl, em, et, V, P, σ, S, tb, sq, R, M⟩
  · exact ⟨1, r2, 0, 1, by simp [f_L_position, f_X9_position, f_X9_requireSession, bnd, bnd2], by simp [f_X10_position, f_X10_told, bnd2], rfl, fun q => absurd q (by decide)⟩
  · have h1 := ne_st S R.state
    have rs := rq_s h1
    refine ⟨0, vp_updL r2 0 pos.toInt64, (s 1).toInt32, 0, by simp [f_L_position, f_X9_position, rs, bnd, bnd2], by simp [f_X10_position, f_X10_told, bnd2, one_z], rfl, fun _ => ?_⟩
    rw [updL_eq]; rw [cv (M.pos.trans R.pos.symm)]
theorem a_wasted {c : Cf} {mode : Int32} {th : Int32} {last : Int32} {chg : Int32} {state : Int32} {time : Int32} {pos : Int32} {su : Int32} {st : Int32} {pl : Int32} {stalls : Int32} {aband : Int32} {fin : Int32} {sw : Int32} {wasted : Int64} {qual : Int64} {as : Int32} {aa : Nat → Int32} {going : Int32} {track : Int32} {seg : Int32} {rung : Int32} {wait : Int32} {dur : Int32} {need : Int64} {got : Int64} {len : Int32} {sg : Nat → Int32} {kept : Int32} {bits : Nat → Int64} {durs : Nat → Int64} {vs : Int32} {va : Nat → Int32} {va8 : Nat → Int32} {vn : Int32} {vr : Nat → Int32} {an : Int32} {ar : Nat → Int32} {tot : Int32} {ph : Int32} {ln : Nat → Int32} {fl : Nat → Int32} {p : Nat → Int32} {la : Nat → Int32} {ra : Nat → Int32} {pm : Int32} {lm : Nat → Int32} {fm : Nat → Int32} {has : Int32} {s : Nat → Int64} (W : WfC c) (K : CC c va8 vn vr an ar tot ph ln fl) (L : CM c p la ra pm lm fm) (E : SE c mode th last chg state time pos su st pl stalls aband fin sw wasted qual as aa going track seg rung wait dur need got len sg kept bits durs vs va has s) {r2 : Nat → Int64}  : Al (f_L_wasted state wasted r2) (some (f_X10_wasted has s)) := by
  rcases E with ⟨rfl, rfl⟩ | ⟨rfl, em, et, V, P, σ, S, tb, sq, R, M⟩
  · exact ⟨1, r2, 0, 1, by simp [f_L_wasted, f_X9_wasted, f_X9_requireSession, bnd, bnd2], by simp [f_X10_wasted, f_X10_told, bnd2], rfl, fun q => absurd q (by decide)⟩
  · have h1 := ne_st S R.state
    have rs := rq_s h1
    refine ⟨0, vp_updL r2 0 wasted, s 21, 0, by simp [f_L_wasted, f_X9_wasted, rs, bnd, bnd2], by simp [f_X10_wasted, f_X10_told, bnd2, one_z], rfl, fun _ => ?_⟩
    rw [updL_eq]; rw [M.wasted, R.wasted]
theorem a_quality {c : Cf} {mode : Int32} {th : Int32} {last : Int32} {chg : Int32} {state : Int32} {time : Int32} {pos : Int32} {su : Int32} {st : Int32} {pl : Int32} {stalls : Int32} {aband : Int32} {fin : Int32} {sw : Int32} {wasted : Int64} {qual : Int64} {as : Int32} {aa : Nat → Int32} {going : Int32} {track : Int32} {seg : Int32} {rung : Int32} {wait : Int32} {dur : Int32} {need : Int64} {got : Int64} {len : Int32} {sg : Nat → Int32} {kept : Int32} {bits : Nat → Int64} {durs : Nat → Int64} {vs : Int32} {va : Nat → Int32} {va8 : Nat → Int32} {vn : Int32} {vr : Nat → Int32} {an : Int32} {ar : Nat → Int32} {tot : Int32} {ph : Int32} {ln : Nat → Int32} {fl : Nat → Int32} {p : Nat → Int32} {la : Nat → Int32} {ra : Nat → Int32} {pm : Int32} {lm : Nat → Int32} {fm : Nat → Int32} {has : Int32} {s : Nat → Int64} (W : WfC c) (K : CC c va8 vn vr an ar tot ph ln fl) (L : CM c p la ra pm lm fm) (E : SE c mode th last chg state time pos su st pl stalls aband fin sw wasted qual as aa going track seg rung wait dur need got len sg kept bits durs vs va has s) {r2 : Nat → Int64}  : Al (f_L_quality state qual r2) (some (f_X10_quality has s)) := by
  rcases E with ⟨rfl, rfl⟩ | ⟨rfl, em, et, V, P, σ, S, tb, sq, R, M⟩
  · exact ⟨1, r2, 0, 1, by simp [f_L_quality, f_X9_quality, f_X9_requireSession, bnd, bnd2], by simp [f_X10_quality, f_X10_told, bnd2], rfl, fun q => absurd q (by decide)⟩
  · have h1 := ne_st S R.state
    have rs := rq_s h1
    refine ⟨0, vp_updL r2 0 qual, s 22, 0, by simp [f_L_quality, f_X9_quality, rs, bnd, bnd2], by simp [f_X10_quality, f_X10_told, bnd2, one_z], rfl, fun _ => ?_⟩
    rw [updL_eq]; rw [M.qual, R.qual]
theorem a_buffer {c : Cf} {mode : Int32} {th : Int32} {last : Int32} {chg : Int32} {state : Int32} {time : Int32} {pos : Int32} {su : Int32} {st : Int32} {pl : Int32} {stalls : Int32} {aband : Int32} {fin : Int32} {sw : Int32} {wasted : Int64} {qual : Int64} {as : Int32} {aa : Nat → Int32} {going : Int32} {track : Int32} {seg : Int32} {rung : Int32} {wait : Int32} {dur : Int32} {need : Int64} {got : Int64} {len : Int32} {sg : Nat → Int32} {kept : Int32} {bits : Nat → Int64} {durs : Nat → Int64} {vs : Int32} {va : Nat → Int32} {va8 : Nat → Int32} {vn : Int32} {vr : Nat → Int32} {an : Int32} {ar : Nat → Int32} {tot : Int32} {ph : Int32} {ln : Nat → Int32} {fl : Nat → Int32} {p : Nat → Int32} {la : Nat → Int32} {ra : Nat → Int32} {pm : Int32} {lm : Nat → Int32} {fm : Nat → Int32} {has : Int32} {s : Nat → Int64} (W : WfC c) (K : CC c va8 vn vr an ar tot ph ln fl) (L : CM c p la ra pm lm fm) (E : SE c mode th last chg state time pos su st pl stalls aband fin sw wasted qual as aa going track seg rung wait dur need got len sg kept bits durs vs va has s) {r2 : Nat → Int64} {p1 : Int32} : Ag (f_L_buffer state pos as vs an va8 vn r2 p1) (f_X10_buffer has la s p p1) := by
  by_cases hp : 0 ≤ p1.toInt ∧ p1.toInt < 2
  · have ix : f_X9_requireIndex p1 2 = 0 := ix_c hp.1 (by simp only [Int32.reduceToInt]; omega)
    have im : f_X10_in p1.toInt64 0 1 = 1 := in_i (by simp only [Int64.reduceToInt]; omega) (by simp only [Int64.reduceToInt]; omega)
    rcases E with ⟨rfl, rfl⟩ | ⟨rfl, em, et, V, P, σ, S, tb, sq, R, M⟩
    · exact ⟨2, r2, 0, 2, by simp [f_L_buffer, f_X9_buffer, ix, f_X9_requireSession, bnd, bnd2], by simp [f_X10_buffer, im, f_X10_isWrong, bnd2, one_z], rfl, fun q => absurd q (by decide)⟩
    · have h1 := ne_st S R.state
      have rs := rq_s h1
      have iw : f_X10_isWrong 1 1 = (0, 0) := rfl
      have e : p1.toInt = 0 ∨ p1.toInt = 1 := by omega
      rcases e with e | e
      · have e : p1 = 0 := eq32.mpr e
        subst e
        obtain ⟨z, hz, ez⟩ := m_buf0 W S L M
        have eb := c_buf0 W S V (K.v 0 (by decide)) R.pos K.vn R.vs
        have l0 : ¬ la 0 = 0 := by rw [eq32, L.vn]; simp only [Int32.reduceToInt]; omega
        refine ⟨0, vp_updL r2 0 (f_X6_bufferOf_0 pos va8 vn vs).toInt64, z.toInt32, 0, by simp [f_L_buffer, f_X9_buffer, ix, rs, bnd, bnd2], ?_, rfl, fun _ => ?_⟩
        · unfold f_X10_buffer
          rw [im, iw]
          simp only [bnd2, if_true]
          rw [grd_v (by decide) (by decide), tn0, if_neg l0, hz]; rfl
        · rw [updL_eq, cv (ez.trans eb.symm)]
      · have e : p1 = 1 := eq32.mpr e
        subst e
        by_cases l1 : la 1 = 0
        · have a0 : an = 0 := by rw [eq32, K.an, ← L.an, l1]
          refine ⟨0, vp_updL r2 0 (f_X6_bufferOf_1 pos as an va8).toInt64, 0, 0, by simp [f_L_buffer, f_X9_buffer, ix, rs, bnd, bnd2, one_z], ?_, rfl, fun _ => ?_⟩
          · unfold f_X10_buffer
            rw [im, iw]
            simp only [bnd2, if_true]
            rw [grd_v (by decide) (by decide), tn1, if_pos l1]
          · rw [updL_eq]; unfold f_X6_bufferOf_1; rw [if_pos a0]
        · have A : 1 ≤ c.an := by
            have := W.an0
            have := L.an
            rw [eq32] at l1
            simp only [Int32.reduceToInt] at l1
            omega
          obtain ⟨z, hz, ez⟩ := m_buf1 W S L M
          have eb := c_buf1 W S A (K.v 0 (by decide)) R.pos K.an R.as
          refine ⟨0, vp_updL r2 0 (f_X6_bufferOf_1 pos as an va8).toInt64, z.toInt32, 0, by simp [f_L_buffer, f_X9_buffer, ix, rs, bnd, bnd2, one_z], ?_, rfl, fun _ => ?_⟩
          · unfold f_X10_buffer
            rw [im, iw]
            simp only [bnd2, if_true]
            rw [grd_v (by decide) (by decide), tn1, if_neg l1, hz]; rfl
          · rw [updL_eq, cv (ez.trans eb.symm)]
  · have ix : f_X9_requireIndex p1 2 = 1 := ix_b (by simp only [Int32.reduceToInt]; omega)
    have im : f_X10_in p1.toInt64 0 1 = 0 := in_o (by simp only [Int64.reduceToInt]; omega)
    exact ⟨1, r2, 0, 1, by simp [f_L_buffer, f_X9_buffer, ix, bnd, bnd2], by simp [f_X10_buffer, im, f_X10_isWrong, bnd2, one_z], rfl, fun q => absurd q (by decide)⟩
theorem a_downloaded {c : Cf} {mode : Int32} {th : Int32} {last : Int32} {chg : Int32} {state : Int32} {time : Int32} {pos : Int32} {su : Int32} {st : Int32} {pl : Int32} {stalls : Int32} {aband : Int32} {fin : Int32} {sw : Int32} {wasted : Int64} {qual : Int64} {as : Int32} {aa : Nat → Int32} {going : Int32} {track : Int32} {seg : Int32} {rung : Int32} {wait : Int32} {dur : Int32} {need : Int64} {got : Int64} {len : Int32} {sg : Nat → Int32} {kept : Int32} {bits : Nat → Int64} {durs : Nat → Int64} {vs : Int32} {va : Nat → Int32} {va8 : Nat → Int32} {vn : Int32} {vr : Nat → Int32} {an : Int32} {ar : Nat → Int32} {tot : Int32} {ph : Int32} {ln : Nat → Int32} {fl : Nat → Int32} {p : Nat → Int32} {la : Nat → Int32} {ra : Nat → Int32} {pm : Int32} {lm : Nat → Int32} {fm : Nat → Int32} {has : Int32} {s : Nat → Int64} (W : WfC c) (K : CC c va8 vn vr an ar tot ph ln fl) (L : CM c p la ra pm lm fm) (E : SE c mode th last chg state time pos su st pl stalls aband fin sw wasted qual as aa going track seg rung wait dur need got len sg kept bits durs vs va has s) {r2 : Nat → Int64} {p1 : Int32} : Ag (f_L_downloaded state as vs r2 p1) (f_X10_downloaded has s p1) := by
  by_cases hp : 0 ≤ p1.toInt ∧ p1.toInt < 2
  · have ix : f_X9_requireIndex p1 2 = 0 := ix_c hp.1 (by simp only [Int32.reduceToInt]; omega)
    have im : f_X10_in p1.toInt64 0 1 = 1 := in_i (by simp only [Int64.reduceToInt]; omega) (by simp only [Int64.reduceToInt]; omega)
    rcases E with ⟨rfl, rfl⟩ | ⟨rfl, em, et, V, P, σ, S, tb, sq, R, M⟩
    · exact ⟨2, r2, 0, 2, by simp [f_L_downloaded, f_X9_downloaded, ix, f_X9_requireSession, bnd, bnd2], by simp [f_X10_downloaded, im, f_X10_isWrong, bnd2, one_z], rfl, fun q => absurd q (by decide)⟩
    · have h1 := ne_st S R.state
      have rs := rq_s h1
      have iw : f_X10_isWrong 1 1 = (0, 0) := rfl
      have e : p1.toInt = 0 ∨ p1.toInt = 1 := by omega
      rcases e with e | e
      · have e : p1 = 0 := eq32.mpr e
        subst e
        refine ⟨0, vp_updL r2 0 vs.toInt64, (s 3).toInt32, 0, by simp [f_L_downloaded, f_X9_downloaded, ix, rs, bnd, bnd2], ?_, rfl, fun _ => ?_⟩
        · unfold f_X10_downloaded
          rw [im, iw]
          simp only [bnd2, if_true]
          rw [grd_v (by decide) (by decide)]; rfl
        · rw [updL_eq, cv (M.vs.trans R.vs.symm)]
      · have e : p1 = 1 := eq32.mpr e
        subst e
        refine ⟨0, vp_updL r2 0 as.toInt64, (s 4).toInt32, 0, by simp [f_L_downloaded, f_X9_downloaded, ix, rs, bnd, bnd2, one_z], ?_, rfl, fun _ => ?_⟩
        · unfold f_X10_downloaded
          rw [im, iw]
          simp only [bnd2, if_true]
          rw [grd_v (by decide) (by decide)]; rfl
        · rw [updL_eq, cv (M.as.trans R.as.symm)]
  · have ix : f_X9_requireIndex p1 2 = 1 := ix_b (by simp only [Int32.reduceToInt]; omega)
    have im : f_X10_in p1.toInt64 0 1 = 0 := in_o (by simp only [Int64.reduceToInt]; omega)
    exact ⟨1, r2, 0, 1, by simp [f_L_downloaded, f_X9_downloaded, ix, bnd, bnd2], by simp [f_X10_downloaded, im, f_X10_isWrong, bnd2, one_z], rfl, fun q => absurd q (by decide)⟩
theorem a_spent {c : Cf} {mode : Int32} {th : Int32} {last : Int32} {chg : Int32} {state : Int32} {time : Int32} {pos : Int32} {su : Int32} {st : Int32} {pl : Int32} {stalls : Int32} {aband : Int32} {fin : Int32} {sw : Int32} {wasted : Int64} {qual : Int64} {as : Int32} {aa : Nat → Int32} {going : Int32} {track : Int32} {seg : Int32} {rung : Int32} {wait : Int32} {dur : Int32} {need : Int64} {got : Int64} {len : Int32} {sg : Nat → Int32} {kept : Int32} {bits : Nat → Int64} {durs : Nat → Int64} {vs : Int32} {va : Nat → Int32} {va8 : Nat → Int32} {vn : Int32} {vr : Nat → Int32} {an : Int32} {ar : Nat → Int32} {tot : Int32} {ph : Int32} {ln : Nat → Int32} {fl : Nat → Int32} {p : Nat → Int32} {la : Nat → Int32} {ra : Nat → Int32} {pm : Int32} {lm : Nat → Int32} {fm : Nat → Int32} {has : Int32} {s : Nat → Int64} (W : WfC c) (K : CC c va8 vn vr an ar tot ph ln fl) (L : CM c p la ra pm lm fm) (E : SE c mode th last chg state time pos su st pl stalls aband fin sw wasted qual as aa going track seg rung wait dur need got len sg kept bits durs vs va has s) {r2 : Nat → Int64} {p1 : Int32} : Ag (f_L_spent state su st pl r2 p1) (f_X10_spent has s p1) := by
  by_cases hp : 0 ≤ p1.toInt ∧ p1.toInt < 3
  · have ix : f_X9_requireIndex p1 3 = 0 := ix_c hp.1 (by simp only [Int32.reduceToInt]; omega)
    have im : f_X10_in p1.toInt64 0 2 = 1 := in_i (by simp only [Int64.reduceToInt]; omega) (by simp only [Int64.reduceToInt]; omega)
    rcases E with ⟨rfl, rfl⟩ | ⟨rfl, em, et, V, P, σ, S, tb, sq, R, M⟩
    · exact ⟨2, r2, 0, 2, by simp [f_L_spent, f_X9_spent, ix, f_X9_requireSession, bnd, bnd2], by simp [f_X10_spent, im, f_X10_isWrong, bnd2, one_z], rfl, fun q => absurd q (by decide)⟩
    · have h1 := ne_st S R.state
      have rs := rq_s h1
      have iw : f_X10_isWrong 1 1 = (0, 0) := rfl
      have e : p1.toInt = 0 ∨ p1.toInt = 1 ∨ p1.toInt = 2 := by omega
      rcases e with e | e | e
      · have e : p1 = 0 := eq32.mpr e
        subst e
        refine ⟨0, vp_updL r2 0 su.toInt64, (s 15).toInt32, 0, by simp [f_L_spent, f_X9_spent, f_X0_timeSpent, f_X0_eventsOf, ix, rs, bnd, bnd2], ?_, rfl, fun _ => ?_⟩
        · unfold f_X10_spent
          rw [im, iw]
          simp only [bnd2, if_true]
          rw [grd_v (by decide) (by decide)]; rfl
        · rw [updL_eq, cv (M.su.trans R.su.symm)]
      · have e : p1 = 1 := eq32.mpr e
        subst e
        refine ⟨0, vp_updL r2 0 st.toInt64, (s 16).toInt32, 0, by simp [f_L_spent, f_X9_spent, f_X0_timeSpent, f_X0_eventsOf, ix, rs, bnd, bnd2], ?_, rfl, fun _ => ?_⟩
        · unfold f_X10_spent
          rw [im, iw]
          simp only [bnd2, if_true]
          rw [grd_v (by decide) (by decide)]; rfl
        · rw [updL_eq, cv (M.st.trans R.st.symm)]
      · have e : p1 = 2 := eq32.mpr e
        subst e
        refine ⟨0, vp_updL r2 0 pl.toInt64, (s 17).toInt32, 0, by simp [f_L_spent, f_X9_spent, f_X0_timeSpent, f_X0_eventsOf, ix, rs, bnd, bnd2], ?_, rfl, fun _ => ?_⟩
        · unfold f_X10_spent
          rw [im, iw]
          simp only [bnd2, if_true]
          rw [grd_v (by decide) (by decide)]; rfl
        · rw [updL_eq, cv (M.pl.trans R.pl.symm)]
  · have ix : f_X9_requireIndex p1 3 = 1 := ix_b (by simp only [Int32.reduceToInt]; omega)
    have im : f_X10_in p1.toInt64 0 2 = 0 := in_o (by simp only [Int64.reduceToInt]; omega)
    exact ⟨1, r2, 0, 1, by simp [f_L_spent, f_X9_spent, ix, bnd, bnd2], by simp [f_X10_spent, im, f_X10_isWrong, bnd2, one_z], rfl, fun q => absurd q (by decide)⟩
theorem m_fact {c : Cf} {σ : Ss} {T : Int} {last : Int32} {chg : Int32} {state : Int32} {time : Int32} {pos : Int32} {su : Int32} {st : Int32} {pl : Int32} {stalls : Int32} {aband : Int32} {fin : Int32} {sw : Int32} {wasted : Int64} {qual : Int64} {as : Int32} {aa : Nat → Int32} {going : Int32} {track : Int32} {seg : Int32} {rung : Int32} {wait : Int32} {dur : Int32} {need : Int64} {got : Int64} {len : Int32} {sg : Nat → Int32} {kept : Int32} {bits : Nat → Int64} {durs : Nat → Int64} {vs : Int32} {va : Nat → Int32} {s : Nat → Int64} (S : WfS c T σ) (R : RC c σ last chg state time pos su st pl stalls aband fin sw wasted qual as aa going track seg rung wait dur need got len sg kept bits durs vs va) (M : RM c σ s) {p1 : Int32} (h0 : 0 ≤ p1.toInt) (h1 : p1.toInt < 5) : ∃ y, f_X10_ofDownload s p1 = some y ∧ y = f_X1_fact going track seg rung wait dur p1 := by
  have rg := R.going
  have mg := M.going
  rcases S.g0 with g | g
  · have a0 : going = 0 := by rw [eq32, rg, g]; rfl
    have b0 : s 5 = 0 := by rw [eq64, mg, g]; rfl
    refine ⟨-1, ?_, ?_⟩
    · unfold f_X10_ofDownload; rw [if_pos b0]
    · unfold f_X1_fact; rw [if_pos a0]
  · have a0 : ¬ going = 0 := by rw [eq32, rg, g]; decide
    have b0 : ¬ s 5 = 0 := by rw [eq64, mg, g]; decide
    have e : p1.toInt = 0 ∨ p1.toInt = 1 ∨ p1.toInt = 2 ∨ p1.toInt = 3 ∨ p1.toInt = 4 := by omega
    unfold f_X10_ofDownload f_X1_fact
    rw [if_neg b0, if_neg a0]
    rcases e with e | e | e | e | e
    · have e : p1 = 0 := eq32.mpr e
      subst e
      refine ⟨(s 6).toInt32, ?_, ?_⟩
      · rw [grd_v (by decide) (by decide)]; rfl
      · rw [if_pos rfl]; exact cv ((M.track g).trans (R.track g).symm)
    · have e : p1 = 1 := eq32.mpr e
      subst e
      refine ⟨(s 7).toInt32, ?_, ?_⟩
      · rw [grd_v (by decide) (by decide)]; rfl
      · rw [if_neg (by decide), if_pos rfl]; exact cv ((M.seg g).trans (R.seg g).symm)
    · have e : p1 = 2 := eq32.mpr e
      subst e
      refine ⟨(s 8).toInt32, ?_, ?_⟩
      · rw [grd_v (by decide) (by decide)]; rfl
      · rw [if_neg (by decide), if_neg (by decide), if_pos rfl]; exact cv ((M.rung g).trans (R.rung g).symm)
    · have e : p1 = 3 := eq32.mpr e
      subst e
      refine ⟨(s 9).toInt32, ?_, ?_⟩
      · rw [grd_v (by decide) (by decide)]; rfl
      · rw [if_neg (by decide), if_neg (by decide), if_neg (by decide), if_pos rfl]; exact cv ((M.wait g).trans (R.wait g).symm)
    · have e : p1 = 4 := eq32.mpr e
      subst e
      refine ⟨(s 10).toInt32, ?_, ?_⟩
      · rw [grd_v (by decide) (by decide)]; rfl
      · rw [if_neg (by decide), if_neg (by decide), if_neg (by decide), if_neg (by decide)]; exact cv ((M.dur g).trans (R.dur g).symm)
theorem a_download {c : Cf} {mode : Int32} {th : Int32} {last : Int32} {chg : Int32} {state : Int32} {time : Int32} {pos : Int32} {su : Int32} {st : Int32} {pl : Int32} {stalls : Int32} {aband : Int32} {fin : Int32} {sw : Int32} {wasted : Int64} {qual : Int64} {as : Int32} {aa : Nat → Int32} {going : Int32} {track : Int32} {seg : Int32} {rung : Int32} {wait : Int32} {dur : Int32} {need : Int64} {got : Int64} {len : Int32} {sg : Nat → Int32} {kept : Int32} {bits : Nat → Int64} {durs : Nat → Int64} {vs : Int32} {va : Nat → Int32} {va8 : Nat → Int32} {vn : Int32} {vr : Nat → Int32} {an : Int32} {ar : Nat → Int32} {tot : Int32} {ph : Int32} {ln : Nat → Int32} {fl : Nat → Int32} {p : Nat → Int32} {la : Nat → Int32} {ra : Nat → Int32} {pm : Int32} {lm : Nat → Int32} {fm : Nat → Int32} {has : Int32} {s : Nat → Int64} (W : WfC c) (K : CC c va8 vn vr an ar tot ph ln fl) (L : CM c p la ra pm lm fm) (E : SE c mode th last chg state time pos su st pl stalls aband fin sw wasted qual as aa going track seg rung wait dur need got len sg kept bits durs vs va has s) {r2 : Nat → Int64} {p1 : Int32} : Ag (f_L_download state going track seg rung wait dur r2 p1) (f_X10_download has s p1) := by
  by_cases hp : 0 ≤ p1.toInt ∧ p1.toInt < 5
  · have ix : f_X9_requireIndex p1 5 = 0 := ix_c hp.1 (by simp only [Int32.reduceToInt]; omega)
    have im : f_X10_in p1.toInt64 0 4 = 1 := in_i (by simp only [Int64.reduceToInt]; omega) (by simp only [Int64.reduceToInt]; omega)
    rcases E with ⟨rfl, rfl⟩ | ⟨rfl, em, et, V, P, σ, S, tb, sq, R, M⟩
    · exact ⟨2, r2, 0, 2, by simp [f_L_download, f_X9_download, ix, f_X9_requireSession, bnd, bnd2], by simp [f_X10_download, im, f_X10_isWrong, bnd2, one_z], rfl, fun q => absurd q (by decide)⟩
    · have h1 := ne_st S R.state
      have rs := rq_s h1
      have iw : f_X10_isWrong 1 1 = (0, 0) := rfl
      have fa : f_X1_fact going track seg rung wait dur p1 = (if going = 0 then (-1) else if p1 = 0 then track else if p1 = 1 then seg else if p1 = 2 then rung else if p1 = 3 then wait else dur) := rfl
      obtain ⟨y, hy, ey⟩ := m_fact S R M hp.1 (by omega)
      refine ⟨0, vp_updL r2 0 (f_X1_fact going track seg rung wait dur p1).toInt64, y, 0, by simp [f_L_download, f_X9_download, ix, rs, bnd, bnd2], ?_, rfl, fun _ => ?_⟩
      · unfold f_X10_download
        rw [im, iw]
        simp only [bnd2, if_true]
        rw [hy]; rfl
      · rw [updL_eq, ey]
  · have ix : f_X9_requireIndex p1 5 = 1 := ix_b (by simp only [Int32.reduceToInt]; omega)
    have im : f_X10_in p1.toInt64 0 4 = 0 := in_o (by simp only [Int64.reduceToInt]; omega)
    exact ⟨1, r2, 0, 1, by simp [f_L_download, f_X9_download, ix, bnd, bnd2], by simp [f_X10_download, im, f_X10_isWrong, bnd2, one_z], rfl, fun q => absurd q (by decide)⟩
theorem m_rec {c : Cf} {σ : Ss} {T : Int} {last : Int32} {chg : Int32} {state : Int32} {time : Int32} {pos : Int32} {su : Int32} {st : Int32} {pl : Int32} {stalls : Int32} {aband : Int32} {fin : Int32} {sw : Int32} {wasted : Int64} {qual : Int64} {as : Int32} {aa : Nat → Int32} {going : Int32} {track : Int32} {seg : Int32} {rung : Int32} {wait : Int32} {dur : Int32} {need : Int64} {got : Int64} {len : Int32} {sg : Nat → Int32} {kept : Int32} {bits : Nat → Int64} {durs : Nat → Int64} {vs : Int32} {va : Nat → Int32} {s : Nat → Int64} (S : WfS c T σ) (R : RC c σ last chg state time pos su st pl stalls aband fin sw wasted qual as aa going track seg rung wait dur need got len sg kept bits durs vs va) (M : RM c σ s) : (if s 5 = 0 then (-1) else s 11) = f_X1_receivedOrNone going got := by
  have rg := R.going
  have mg := M.going
  unfold f_X1_receivedOrNone
  rcases S.g0 with g | g
  · rw [if_pos (by rw [eq64, mg, g]; rfl), if_pos (by rw [eq32, rg, g]; rfl)]
  · rw [if_neg (by rw [eq64, mg, g]; decide), if_neg (by rw [eq32, rg, g]; decide), eq64, M.got g, R.got g]
theorem a_received {c : Cf} {mode : Int32} {th : Int32} {last : Int32} {chg : Int32} {state : Int32} {time : Int32} {pos : Int32} {su : Int32} {st : Int32} {pl : Int32} {stalls : Int32} {aband : Int32} {fin : Int32} {sw : Int32} {wasted : Int64} {qual : Int64} {as : Int32} {aa : Nat → Int32} {going : Int32} {track : Int32} {seg : Int32} {rung : Int32} {wait : Int32} {dur : Int32} {need : Int64} {got : Int64} {len : Int32} {sg : Nat → Int32} {kept : Int32} {bits : Nat → Int64} {durs : Nat → Int64} {vs : Int32} {va : Nat → Int32} {va8 : Nat → Int32} {vn : Int32} {vr : Nat → Int32} {an : Int32} {ar : Nat → Int32} {tot : Int32} {ph : Int32} {ln : Nat → Int32} {fl : Nat → Int32} {p : Nat → Int32} {la : Nat → Int32} {ra : Nat → Int32} {pm : Int32} {lm : Nat → Int32} {fm : Nat → Int32} {has : Int32} {s : Nat → Int64} (W : WfC c) (K : CC c va8 vn vr an ar tot ph ln fl) (L : CM c p la ra pm lm fm) (E : SE c mode th last chg state time pos su st pl stalls aband fin sw wasted qual as aa going track seg rung wait dur need got len sg kept bits durs vs va has s) {r2 : Nat → Int64}  : Al (f_L_received state going got r2) (some (f_X10_received has s)) := by
  rcases E with ⟨rfl, rfl⟩ | ⟨rfl, em, et, V, P, σ, S, tb, sq, R, M⟩
  · refine ⟨1, r2, 0, 1, by simp [f_L_received, f_X9_received, f_X9_requireSession, bnd, bnd2], ?_, rfl, fun q => absurd q (by decide)⟩
    unfold f_X10_received
    split <;> simp [f_X10_told, bnd2]
  · have rs := rq_s (ne_st S R.state)
    have e := m_rec S R M
    refine ⟨0, vp_updL r2 0 (f_X1_receivedOrNone going got), if s 5 = 0 then (-1) else s 11, 0, by simp [f_L_received, f_X9_received, rs, bnd, bnd2], ?_, rfl, fun _ => ?_⟩
    · unfold f_X10_received
      by_cases h : s 5 = 0
      · rw [if_pos h, if_pos h]; simp [f_X10_told, bnd2, one_z]
      · rw [if_neg h, if_neg h]; simp [f_X10_told, bnd2, one_z]
    · rw [updL_eq, e]
theorem m_est2 {c : Cf} {σ : Ss} {T : Int} {last : Int32} {chg : Int32} {state : Int32} {time : Int32} {pos : Int32} {su : Int32} {st : Int32} {pl : Int32} {stalls : Int32} {aband : Int32} {fin : Int32} {sw : Int32} {wasted : Int64} {qual : Int64} {as : Int32} {aa : Nat → Int32} {going : Int32} {track : Int32} {seg : Int32} {rung : Int32} {wait : Int32} {dur : Int32} {need : Int64} {got : Int64} {len : Int32} {sg : Nat → Int32} {kept : Int32} {bits : Nat → Int64} {durs : Nat → Int64} {vs : Int32} {va : Nat → Int32} {va8 : Nat → Int32} {vn : Int32} {vr : Nat → Int32} {an : Int32} {ar : Nat → Int32} {tot : Int32} {ph : Int32} {ln : Nat → Int32} {fl : Nat → Int32} {p : Nat → Int32} {la : Nat → Int32} {ra : Nat → Int32} {pm : Int32} {lm : Nat → Int32} {fm : Nat → Int32} {s : Nat → Int64} (W : WfC c) (K : CC c va8 vn vr an ar tot ph ln fl) (L : CM c p la ra pm lm fm) (S : WfS c T σ) (R : RC c σ last chg state time pos su st pl stalls aband fin sw wasted qual as aa going track seg rung wait dur need got len sg kept bits durs vs va) (M : RM c σ s) : ∃ z, f_X10_estimateOf s (p 8) = some z ∧ z.toInt = (f_X6_throughput kept bits durs va8).toInt := by
  obtain ⟨n1, n2, n3, n4⟩ := nSm_i W S
  have e8 : f_X8_valueOf va8 8 = va8 8 := vo (by decide) (by decide)
  have k8 := K.v 8 (by decide)
  have l8 := L.v 8 (by decide)
  obtain ⟨z, hz, ez⟩ := m_est (r0 := s) (w := p 8) (b := σ.bits) (d := σ.durs) (n := nSm c σ) (by rw [M.kept, l8]; exact n1) n2 n3 (fun k hk => M.bits k (by omega)) (fun k hk => M.durs k (by omega))
  refine ⟨z, hz, ?_⟩
  unfold f_X6_throughput
  rw [ez, e8]
  exact (c_est (b := σ.bits) (d := σ.durs) (n := nSm c σ) (by rw [R.kept, k8]; exact n1) n2 n3 (fun k hk => R.bits k (by omega)) (fun k hk => R.durs k (by omega))).symm
theorem a_estimate {c : Cf} {mode : Int32} {th : Int32} {last : Int32} {chg : Int32} {state : Int32} {time : Int32} {pos : Int32} {su : Int32} {st : Int32} {pl : Int32} {stalls : Int32} {aband : Int32} {fin : Int32} {sw : Int32} {wasted : Int64} {qual : Int64} {as : Int32} {aa : Nat → Int32} {going : Int32} {track : Int32} {seg : Int32} {rung : Int32} {wait : Int32} {dur : Int32} {need : Int64} {got : Int64} {len : Int32} {sg : Nat → Int32} {kept : Int32} {bits : Nat → Int64} {durs : Nat → Int64} {vs : Int32} {va : Nat → Int32} {va8 : Nat → Int32} {vn : Int32} {vr : Nat → Int32} {an : Int32} {ar : Nat → Int32} {tot : Int32} {ph : Int32} {ln : Nat → Int32} {fl : Nat → Int32} {p : Nat → Int32} {la : Nat → Int32} {ra : Nat → Int32} {pm : Int32} {lm : Nat → Int32} {fm : Nat → Int32} {has : Int32} {s : Nat → Int64} (W : WfC c) (K : CC c va8 vn vr an ar tot ph ln fl) (L : CM c p la ra pm lm fm) (E : SE c mode th last chg state time pos su st pl stalls aband fin sw wasted qual as aa going track seg rung wait dur need got len sg kept bits durs vs va has s) {r2 : Nat → Int64}  : Ag (f_L_estimate state kept bits durs va8 r2) (f_X10_estimate has s p) := by
  have w8 := W.a8
  have x8 := W.b8
  have l8 := L.v 8 (by decide)
  rcases E with ⟨rfl, rfl⟩ | ⟨rfl, em, et, V, P, σ, S, tb, sq, R, M⟩
  · obtain ⟨z, hz⟩ := m_est0 (s := s) (w := p 8) (by omega) (by omega)
    exact ⟨1, r2, 0, 1, by simp [f_L_estimate, f_X9_estimate, f_X9_requireSession, bnd, bnd2], by simp [f_X10_estimate, hz, obnd, f_X10_told, bnd2], rfl, fun q => absurd q (by decide)⟩
  · have rs := rq_s (ne_st S R.state)
    obtain ⟨z, hz, ez⟩ := m_est2 W K L S R M
    refine ⟨0, vp_updL r2 0 (f_X6_throughput kept bits durs va8).toInt64, z.toInt32, 0, by simp [f_L_estimate, f_X9_estimate, rs, bnd, bnd2], by simp [f_X10_estimate, hz, obnd, f_X10_told, bnd2, one_z], rfl, fun _ => ?_⟩
    rw [updL_eq, cv ez]
theorem a_nextRung {c : Cf} {mode : Int32} {th : Int32} {last : Int32} {chg : Int32} {state : Int32} {time : Int32} {pos : Int32} {su : Int32} {st : Int32} {pl : Int32} {stalls : Int32} {aband : Int32} {fin : Int32} {sw : Int32} {wasted : Int64} {qual : Int64} {as : Int32} {aa : Nat → Int32} {going : Int32} {track : Int32} {seg : Int32} {rung : Int32} {wait : Int32} {dur : Int32} {need : Int64} {got : Int64} {len : Int32} {sg : Nat → Int32} {kept : Int32} {bits : Nat → Int64} {durs : Nat → Int64} {vs : Int32} {va : Nat → Int32} {va8 : Nat → Int32} {vn : Int32} {vr : Nat → Int32} {an : Int32} {ar : Nat → Int32} {tot : Int32} {ph : Int32} {ln : Nat → Int32} {fl : Nat → Int32} {p : Nat → Int32} {la : Nat → Int32} {ra : Nat → Int32} {pm : Int32} {lm : Nat → Int32} {fm : Nat → Int32} {has : Int32} {s : Nat → Int64} (W : WfC c) (K : CC c va8 vn vr an ar tot ph ln fl) (L : CM c p la ra pm lm fm) (E : SE c mode th last chg state time pos su st pl stalls aband fin sw wasted qual as aa going track seg rung wait dur need got len sg kept bits durs vs va has s) {r2 : Nat → Int64}  : Ag (f_L_nextRung mode last chg state time pos kept bits durs vs va8 vn vr r2) (f_X10_nextRung has la s p ra) := by
  rcases E with ⟨rfl, rfl⟩ | ⟨rfl, em, et, V, P, σ, S, tb, sq, R, M⟩
  · exact ⟨1, r2, 0, 1, by simp [f_L_nextRung, f_X9_nextRung, f_X9_requireSession, bnd, bnd2, obnd2], by simp [f_X10_nextRung], rfl, fun q => absurd q (by decide)⟩
  · have rs := rq_s (ne_st S R.state)
    obtain ⟨y, hy, ey⟩ := c_vid (mode := mode) (bits := bits) (durs := durs) W S V K.v R.pos K.vn R.vs R.last R.chg R.time R.kept R.bits R.durs K.vr
    obtain ⟨z, hz, ez⟩ := m_chosen (mode := p 12) W S V L M
    have l12 := L.v 12 (by decide)
    refine ⟨0, vp_updL r2 0 y.toInt64, z.toInt32, 0, by simp [f_L_nextRung, f_X9_nextRung, rs, bnd, bnd2, obnd2, hy, obnd], by simp [f_X10_nextRung, hz, obnd, one_z], rfl, fun _ => ?_⟩
    rw [updL_eq, cv (show z.toInt = y.toInt by rw [ez, ey, l12, em])]
theorem a_latency {c : Cf} {mode : Int32} {th : Int32} {last : Int32} {chg : Int32} {state : Int32} {time : Int32} {pos : Int32} {su : Int32} {st : Int32} {pl : Int32} {stalls : Int32} {aband : Int32} {fin : Int32} {sw : Int32} {wasted : Int64} {qual : Int64} {as : Int32} {aa : Nat → Int32} {going : Int32} {track : Int32} {seg : Int32} {rung : Int32} {wait : Int32} {dur : Int32} {need : Int64} {got : Int64} {len : Int32} {sg : Nat → Int32} {kept : Int32} {bits : Nat → Int64} {durs : Nat → Int64} {vs : Int32} {va : Nat → Int32} {va8 : Nat → Int32} {vn : Int32} {vr : Nat → Int32} {an : Int32} {ar : Nat → Int32} {tot : Int32} {ph : Int32} {ln : Nat → Int32} {fl : Nat → Int32} {p : Nat → Int32} {la : Nat → Int32} {ra : Nat → Int32} {pm : Int32} {lm : Nat → Int32} {fm : Nat → Int32} {has : Int32} {s : Nat → Int64} (W : WfC c) (K : CC c va8 vn vr an ar tot ph ln fl) (L : CM c p la ra pm lm fm) (E : SE c mode th last chg state time pos su st pl stalls aband fin sw wasted qual as aa going track seg rung wait dur need got len sg kept bits durs vs va has s) {r2 : Nat → Int64}  : Ag (f_L_latency state time pos va8 r2) (some (f_X10_latency has s p)) := by
  have l13 := L.v 13 (by decide)
  have k13 := K.v 13 (by decide)
  have a13 := W.a13
  have b13 := W.b13
  have v13 : f_X8_valueOf va8 13 = va8 13 := vo (by decide) (by decide)
  rcases E with ⟨rfl, rfl⟩ | ⟨rfl, em, et, V, P, σ, S, tb, sq, R, M⟩
  · refine ⟨1, r2, 0, 1, by simp [f_L_latency, f_X9_latency, f_X9_requireSession, bnd, bnd2], ?_, rfl, fun q => absurd q (by decide)⟩
    unfold f_X10_latency
    split <;> simp [f_X10_told, bnd2]
  · have rs := rq_s (ne_st S R.state)
    have t0 := S.t0
    have q0 := S.p0
    have qv := S.pv
    have vD := WfS.vD W S
    have Rt := R.time
    have Rp := R.pos
    have Mt := M.time
    have Mp := M.pos
    by_cases h : c.v 13 = 0
    · have il : f_X8_isLive va8 = 0 := by unfold f_X8_isLive; rw [v13, if_pos (by rw [le32, k13, h]; decide)]
      have pz : p 13 = 0 := by rw [eq32, l13, h]; rfl
      refine ⟨0, vp_updL r2 0 ((-1 : Int32)).toInt64, ((-1 : Int64)).toInt32, 0, by simp [f_L_latency, f_X9_latency, rs, bnd, bnd2, il], ?_, rfl, fun _ => ?_⟩
      · unfold f_X10_latency; rw [if_pos pz]; simp [f_X10_told, bnd2, one_z]
      · rw [updL_eq]; rfl
    · have il : f_X8_isLive va8 = 1 := by unfold f_X8_isLive; rw [v13, if_neg (by rw [le32, k13]; simp only [Int32.reduceToInt]; omega)]
      have pz : ¬ p 13 = 0 := by rw [eq32, l13]; simp only [Int32.reduceToInt]; omega
      have e1 : (f_X6_behindLive time pos va8).toInt = σ.time + c.v 13 - σ.pos := by
        unfold f_X6_behindLive
        rw [v13]
        have ea : (time + va8 13).toInt = σ.time + c.v 13 := by rw [add32 (by omega) (by omega), Rt, k13]
        rw [sub32 (by omega) (by omega), ea, Rp]
      have e2 : ((s 0 + (p 13).toInt64) - s 1).toInt = σ.time + c.v 13 - σ.pos := by
        have ea : (s 0 + (p 13).toInt64).toInt = σ.time + c.v 13 := by rw [add64 (by rw [tl]; omega) (by rw [tl]; omega), tl, Mt, l13]
        rw [sub64 (by omega) (by omega), ea, Mp]
      refine ⟨0, vp_updL r2 0 (f_X6_behindLive time pos va8).toInt64, ((s 0 + (p 13).toInt64) - s 1).toInt32, 0, by simp [f_L_latency, f_X9_latency, rs, bnd, bnd2, il, one_z], ?_, rfl, fun _ => ?_⟩
      · unfold f_X10_latency; rw [if_neg pz]; simp [f_X10_told, bnd2, one_z]
      · rw [updL_eq, cv (e2.trans e1.symm)]
