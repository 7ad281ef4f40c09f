/-! the law: the session after so many milliseconds -/
def sgS (c : Cf) (t : Nat) : Ss := iterS c (c.v 12) (c.v 3) t freshS
theorem sg_ok {c : Cf} (W : WfC c) (V : 1 ≤ c.vn) (t : Nat) (h : t ≤ 20000) : WfS c (4 * (sgS c t).time) (sgS c t) ∧ (sgS c t).time = t ∧ Inv c (sgS c t) ∧ LEN (sgS c t) := by
  have ft : freshS.time = 0 := rfl
  have Sf := fresh_wf W V
  have i := iter_wf W V (c.v 12) (c.v 3) t freshS 0 Sf (by omega) (by rw [ft]; omega)
  have j := inv_iter W V (c.v 12) (c.v 3) t freshS 0 Sf (by omega) (by rw [ft]; omega) (inv_fresh (c := c)).1
  have k := len_iter W V (c.v 12) (c.v 3) t freshS 0 Sf (by omega) (by rw [ft]; omega) (inv_fresh (c := c)).2
  have e : (sgS c t).time = t := by unfold sgS; rw [i.2, ft]; omega
  refine ⟨?_, e, j, k⟩
  rw [e]
  have h1 := i.1
  rw [show (0 : Int) + 4 * (t : Int) = 4 * (t : Int) by omega] at h1
  exact h1
theorem sg_add {c : Cf} (t n : Nat) : iterS c (c.v 12) (c.v 3) n (sgS c t) = sgS c (t + n) := iter_add t n freshS
theorem x_score {c : Cf} {σ : Ss} {T : Int} {last : Int32} {chg : Int32} {state : Int32} {time : Int32} {pos : Int32} {su : Int32} {st : Int32} {pl : Int32} {stalls : Int32} {aband : Int32} {fin : Int32} {sw : Int32} {wasted : Int64} {qual : Int64} {as : Int32} {aa : Nat → Int32} {going : Int32} {track : Int32} {seg : Int32} {rung : Int32} {wait : Int32} {dur : Int32} {need : Int64} {got : Int64} {len : Int32} {sg : Nat → Int32} {kept : Int32} {bits : Nat → Int64} {durs : Nat → Int64} {vs : Int32} {va : Nat → Int32} (S : WfS c T σ) (R : RC c σ last chg state time pos su st pl stalls aband fin sw wasted qual as aa going track seg rung wait dur need got len sg kept bits durs vs va) {vn : Int32} {vr : Nat → Int32} : f_X9_score state su st pl qual vn vr = (0, ptS vn vr σ) := by
  unfold f_X9_score
  rw [rq_s (ne_st S R.state), bnd_p, if_pos rfl, q_pts R]
theorem x_buf {c : Cf} {σ : Ss} {T : Int} {last : Int32} {chg : Int32} {state : Int32} {time : Int32} {pos : Int32} {su : Int32} {st : Int32} {pl : Int32} {stalls : Int32} {aband : Int32} {fin : Int32} {sw : Int32} {wasted : Int64} {qual : Int64} {as : Int32} {aa : Nat → Int32} {going : Int32} {track : Int32} {seg : Int32} {rung : Int32} {wait : Int32} {dur : Int32} {need : Int64} {got : Int64} {len : Int32} {sg : Nat → Int32} {kept : Int32} {bits : Nat → Int64} {durs : Nat → Int64} {vs : Int32} {va : Nat → Int32} {an : Int32} {va8 : Nat → Int32} {vn : Int32} (S : WfS c T σ) (R : RC c σ last chg state time pos su st pl stalls aband fin sw wasted qual as aa going track seg rung wait dur need got len sg kept bits durs vs va) : f_X9_buffer state pos as vs an va8 vn 0 = (0, f_X6_bufferOf_0 pos va8 vn vs) := by
  unfold f_X9_buffer
  rw [show f_X9_requireIndex 0 2 = 0 from by decide, bnd_p, if_pos rfl, rq_s (ne_st S R.state), bnd_p, if_pos rfl, if_pos rfl]
theorem x_stop {c : Cf} {σ : Ss} {T : Int} {last : Int32} {chg : Int32} {state : Int32} {time : Int32} {pos : Int32} {su : Int32} {st : Int32} {pl : Int32} {stalls : Int32} {aband : Int32} {fin : Int32} {sw : Int32} {wasted : Int64} {qual : Int64} {as : Int32} {aa : Nat → Int32} {going : Int32} {track : Int32} {seg : Int32} {rung : Int32} {wait : Int32} {dur : Int32} {need : Int64} {got : Int64} {len : Int32} {sg : Nat → Int32} {kept : Int32} {bits : Nat → Int64} {durs : Nat → Int64} {vs : Int32} {va : Nat → Int32} (S : WfS c T σ) (R : RC c σ last chg state time pos su st pl stalls aband fin sw wasted qual as aa going track seg rung wait dur need got len sg kept bits durs vs va) : f_X9_stop state time = (0, time, 0) := by
  unfold f_X9_stop
  rw [rq_s (ne_st S R.state), bnd_p, if_pos rfl]
theorem x_clear {an tot ph vn : Int32} : f_X9_clear 0 an tot ph vn = (0, ph, 0, 0, 0, 0) := by
  unfold f_X9_clear
  rw [rn_0, bnd_p, if_pos rfl]
  rfl
