theorem c_pws {c : Cf} {va8 : Nat → Int32} {vn : Int32} {vr : Nat → Int32} {an : Int32} {ar : Nat → Int32} {tot : Int32} {ph : Int32} {ln : Nat → Int32} {fl : Nat → Int32} {p : Nat → Int32} {la : Nat → Int32} {ra : Nat → Int32} {pm : Int32} {lm : Nat → Int32} {fm : Nat → Int32} (W : WfC c) (K : CC c va8 vn vr an ar tot ph ln fl) (L : CM c p la ra pm lm fm) (V : 1 ≤ c.vn) {mode th l2 : Int32} : ∀ (m g : Nat) (σ : Ss) (T : Int), WfS c T σ → T + 4 * m ≤ 41000000 → σ.time + m ≤ 10020000 → ∀ (last : Int32) (chg : Int32) (state : Int32) (time : Int32) (pos : Int32) (su : Int32) (st : Int32) (pl : Int32) (stalls : Int32) (aband : Int32) (fin : Int32) (sw : Int32) (wasted : Int64) (qual : Int64) (as : Int32) (aa : Nat → Int32) (going : Int32) (track : Int32) (seg : Int32) (rung : Int32) (wait : Int32) (dur : Int32) (need : Int64) (got : Int64) (len : Int32) (sg : Nat → Int32) (kept : Int32) (bits : Nat → Int64) (durs : Nat → Int64) (vs : Int32) (va : Nat → Int32) (_ : RC c σ last chg state time pos su st pl stalls aband fin sw wasted qual as aa going track seg rung wait dur need got len sg kept bits durs vs va) (l3 : Int32), l3.toInt + m = l2.toInt → m < g → ∃ z, f_X9_playsWithoutStall_b19 an ar tot ph ln fl va8 vn vr g mode th last chg state time pos su st pl stalls aband fin sw wasted qual as aa going track seg rung wait dur need got len sg kept bits durs vs va l2 l3 = some z ∧ z.1 = (if (iterS c mode.toInt th.toInt m σ).stalls = 0 then 1 else 0) ∧ chk z.2.2.2.2.2.2.2.2.2.2.2.2.2.2.2.2.2.2.2.2.2.2.2.2.2.2.2.2.1 300 = true := by
  intro m
  induction m with
  | zero =>
    intro g σ T S hT ht last chg state time pos su st pl stalls aband fin sw wasted qual as aa going track seg rung wait dur need got len sg kept bits durs vs va R l3 hl hg
    obtain ⟨g, rfl⟩ : ∃ q, g = q + 1 := ⟨g - 1, by omega⟩
    unfold f_X9_playsWithoutStall_b19 iterS
    rw [if_pos (by rw [le32]; omega)]
    by_cases h : σ.stalls = 0
    · rw [if_pos (by rw [eq32, R.stalls, h]; rfl), if_pos h]
      exact ⟨(1, mode, th, last, chg, state, time, pos, su, st, pl, stalls, aband, fin, sw, wasted, qual, as, aa, going, track, seg, rung, wait, dur, need, got, len, sg, kept, bits, durs, vs, va), rfl, rfl, R.ft⟩
    · rw [if_neg (by rw [eq32, R.stalls]; exact h), if_neg h]
      exact ⟨(0, mode, th, last, chg, state, time, pos, su, st, pl, stalls, aband, fin, sw, wasted, qual, as, aa, going, track, seg, rung, wait, dur, need, got, len, sg, kept, bits, durs, vs, va), rfl, rfl, R.ft⟩
  | succ m ih =>
    intro g σ T S hT ht last chg state time pos su st pl stalls aband fin sw wasted qual as aa going track seg rung wait dur need got len sg kept bits durs vs va R l3 hl hg
    obtain ⟨g, rfl⟩ : ∃ q, g = q + 1 := ⟨g - 1, by omega⟩
    have tw := tick_wf W S V mode.toInt th.toInt (by omega) (by omega)
    have st0 := S.stalls0
    have mono := stl_iter (c := c) (mode := mode.toInt) (th := th.toInt) (m + 1) σ
    have l2b := Int32.toInt_lt l2
    have l3b := Int32.le_toInt l3
    unfold f_X9_playsWithoutStall_b19
    rw [if_neg (by rw [le32]; omega)]
    by_cases h : σ.stalls = 0
    · obtain ⟨last3, chg3, state3, time3, pos3, su3, st3, pl3, stalls3, aband3, fin3, sw3, wasted3, qual3, as3, aa3, going3, track3, seg3, rung3, wait3, dur3, need3, got3, len3, sg3, kept3, bits3, durs3, vs3, va3, ha, R3⟩ := c_adv W S V K (mode := mode) (th := th) (ms := 1) (n := 1) rfl (by omega) (by omega) R
      rw [if_pos (by rw [eq32, R.stalls, h]; rfl), ha, o31_s]
      unfold iterS
      exact ih g (tickS c mode.toInt th.toInt σ) (T + 4) tw.1 (by omega) (by rw [tw.2]; omega) _ _ _ _ _ _ _ _ _ _ _ _ _ _ _ _ _ _ _ _ _ _ _ _ _ _ _ _ _ _ _ R3 (l3 + 1) (by rw [add32 (by simp only [Int32.reduceToInt]; omega) (by simp only [Int32.reduceToInt]; omega)]; simp only [Int32.reduceToInt]; omega) (by omega)
    · have hs : ¬ stalls = 0 := by rw [eq32, R.stalls]; exact h
      rw [if_neg hs, if_neg hs, if_neg (by omega)]
      exact ⟨(0, mode, th, last, chg, state, time, pos, su, st, pl, stalls, aband, fin, sw, wasted, qual, as, aa, going, track, seg, rung, wait, dur, need, got, len, sg, kept, bits, durs, vs, va), rfl, rfl, R.ft⟩
