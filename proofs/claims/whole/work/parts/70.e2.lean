theorem a_stop {c : Cf} {mode : Int32} {th : Int32} {last : Int32} {chg : Int32} {state : Int32} {time : Int32} {pos : Int32} {su : Int32} {st : Int32} {pl : Int32} {stalls : Int32} {aband : Int32} {fin : Int32} {sw : Int32} {wasted : Int64} {qual : Int64} {as : Int32} {aa : Nat → Int32} {going : Int32} {track : Int32} {seg : Int32} {rung : Int32} {wait : Int32} {dur : Int32} {need : Int64} {got : Int64} {len : Int32} {sg : Nat → Int32} {kept : Int32} {bits : Nat → Int64} {durs : Nat → Int64} {vs : Int32} {va : Nat → Int32} {va8 : Nat → Int32} {vn : Int32} {vr : Nat → Int32} {an : Int32} {ar : Nat → Int32} {tot : Int32} {ph : Int32} {ln : Nat → Int32} {fl : Nat → Int32} {p : Nat → Int32} {la : Nat → Int32} {ra : Nat → Int32} {pm : Int32} {lm : Nat → Int32} {fm : Nat → Int32} {has : Int32} {s : Nat → Int64} (W : WfC c) (K : CC c va8 vn vr an ar tot ph ln fl) (L : CM c p la ra pm lm fm) (E : SE c mode th last chg state time pos su st pl stalls aband fin sw wasted qual as aa going track seg rung wait dur need got len sg kept bits durs vs va has s) {r2 : Nat → Int64} : ∃ k state2 r b has2 t, f_L_stop state time r2 = some (k, state2, r) ∧ f_X10_stop has s = (b, has2, t) ∧ t = k ∧ (k = 0 → r 0 = b.toInt64) ∧ SE c mode th last chg state2 time pos su st pl stalls aband fin sw wasted qual as aa going track seg rung wait dur need got len sg kept bits durs vs va has2 s := by
  rcases E with ⟨rfl, rfl⟩ | ⟨rfl, em, et, V, P, σ, S, tb, sq, R, M⟩
  · exact ⟨1, 0, r2, 0, 0, 1, by simp [f_L_stop, f_X9_stop, f_X9_requireSession, bnd, bnd3], rfl, rfl, fun q => absurd q (by decide), Or.inl ⟨rfl, rfl⟩⟩
  · have rs := rq_s (ne_st S R.state)
    refine ⟨0, 0, vp_updL r2 0 time.toInt64, (s 0).toInt32, 0, 0, by simp [f_L_stop, f_X9_stop, rs, bnd, bnd3], ?_, rfl, fun _ => by rw [updL_eq, cv (M.time.trans R.time.symm)], Or.inl ⟨rfl, rfl⟩⟩
    unfold f_X10_stop; rw [if_neg one_z]
theorem ten_sub {p : Int32} (h : 0 ≤ p.toInt ∧ p.toInt ≤ 20000) : (10000000 - p).toInt = 10000000 - p.toInt := by
  rw [sub32 (by simp only [Int32.reduceToInt]; omega) (by simp only [Int32.reduceToInt]; omega)]
  simp only [Int32.reduceToInt]
theorem ms_0 {p : Int32} (h : 0 ≤ p.toInt ∧ p.toInt ≤ 20000) : f_X9_requireMilliseconds p = 0 := by
  unfold f_X9_requireMilliseconds
  rw [if_neg (by rw [lt32]; simp only [Int32.reduceToInt]; omega), if_neg (by rw [lt32]; simp only [Int32.reduceToInt]; omega)]; rfl
theorem ms_2 {p : Int32} (h : ¬ (0 ≤ p.toInt ∧ p.toInt ≤ 20000)) : f_X9_requireMilliseconds p = 2 := by
  unfold f_X9_requireMilliseconds
  by_cases g : p < 0
  · rw [if_pos g]; rfl
  · rw [if_neg g, if_pos]
    · rfl
    · rw [lt32] at g ⊢
      simp only [Int32.reduceToInt] at g ⊢
      omega
theorem in_m {p : Int32} (h : 0 ≤ p.toInt ∧ p.toInt ≤ 20000) : f_X10_in p.toInt64 0 20000 = 1 := in_i h.1 h.2
theorem in_n {p : Int32} (h : ¬ (0 ≤ p.toInt ∧ p.toInt ≤ 20000)) : f_X10_in p.toInt64 0 20000 = 0 := in_o h
