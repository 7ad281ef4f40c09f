/-! agrees: what is told of a session hangs together -/
theorem ag455 {c : Cf} {σ : Ss} {T : Int} {mode : Int32} {last : Int32} {chg : Int32} {state : Int32} {time : Int32} {pos : Int32} {su : Int32} {st : Int32} {pl : Int32} {stalls : Int32} {aband : Int32} {fin : Int32} {sw : Int32} {wasted : Int64} {qual : Int64} {as : Int32} {aa : Nat → Int32} {going : Int32} {track : Int32} {seg : Int32} {rung : Int32} {wait : Int32} {dur : Int32} {need : Int64} {got : Int64} {len : Int32} {sg : Nat → Int32} {kept : Int32} {bits : Nat → Int64} {durs : Nat → Int64} {vs : Int32} {va : Nat → Int32} {va8 : Nat → Int32} {vn : Int32} {vr : Nat → Int32} {an : Int32} {ar : Nat → Int32} {tot : Int32} {ph : Int32} {ln : Nat → Int32} {fl : Nat → Int32} (W : WfC c) (K : CC c va8 vn vr an ar tot ph ln fl) (V : 1 ≤ c.vn) (S : WfS c T σ) (R : RC c σ last chg state time pos su st pl stalls aband fin sw wasted qual as aa going track seg rung wait dur need got len sg kept bits durs vs va) : f_L_agrees_b455 mode last chg state time pos kept bits durs vs va8 vn vr = some 1 := by
  have rq := rq_s (ne_st S R.state)
  obtain ⟨z, hz, ez⟩ := c_vid W S V (mode := mode) (va := va8) (ra := vr) K.v R.pos K.vn R.vs R.last R.chg R.time R.kept R.bits R.durs K.vr
  have cb := chosenS_b W S V mode.toInt
  have h1 : f_X9_nextRung mode last chg state time pos kept bits durs vs va8 vn vr = some (0, z) := by
    unfold f_X9_nextRung
    rw [rq, bnd_p, if_pos rfl, hz, obnd_some]
  obtain ⟨n1, n2, n3, n4⟩ := nSm_i W S
  have v8 : f_X8_valueOf va8 8 = va8 8 := vo (by decide) (by decide)
  have k8 := K.v 8 (by decide)
  have Rk := R.kept
  have ee := c_est (r1 := bits) (r2 := durs) (kept := kept) (w := va8 8) (n := nSm c σ) (by rw [n1, Rk, k8]) n2 n3 (fun k q => R.bits k (by omega)) (fun k q => R.durs k (by omega))
  have eb := est_b n3
  have h2 : f_X9_estimate state kept bits durs va8 = (0, f_X5_rateOver kept bits durs (va8 8)) := by
    unfold f_X9_estimate f_X6_throughput
    rw [rq, bnd_p, if_pos rfl, v8]
  unfold f_L_agrees_b455
  rw [h1, o2_s, if_pos rfl, if_neg (by rw [lt32, ez]; simp only [Int32.reduceToInt]; omega), h2, b2_s, if_pos rfl, if_neg (by rw [lt32, ee]; simp only [Int32.reduceToInt]; omega)]
theorem nn_c {p : Int32} (h : 0 ≤ p.toInt) : f_X9_requireNotNegative p = 0 := if_pos (by rw [le32]; simp only [Int32.reduceToInt]; omega)
theorem ag402 {c : Cf} {σ : Ss} {T : Int} {mode : Int32} {last : Int32} {chg : Int32} {state : Int32} {time : Int32} {pos : Int32} {su : Int32} {st : Int32} {pl : Int32} {stalls : Int32} {aband : Int32} {fin : Int32} {sw : Int32} {wasted : Int64} {qual : Int64} {as : Int32} {aa : Nat → Int32} {going : Int32} {track : Int32} {seg : Int32} {rung : Int32} {wait : Int32} {dur : Int32} {need : Int64} {got : Int64} {len : Int32} {sg : Nat → Int32} {kept : Int32} {bits : Nat → Int64} {durs : Nat → Int64} {vs : Int32} {va : Nat → Int32} {va8 : Nat → Int32} {vn : Int32} {vr : Nat → Int32} {an : Int32} {ar : Nat → Int32} {tot : Int32} {ph : Int32} {ln : Nat → Int32} {fl : Nat → Int32} (W : WfC c) (K : CC c va8 vn vr an ar tot ph ln fl) (V : 1 ≤ c.vn) (S : WfS c T σ) (R : RC c σ last chg state time pos su st pl stalls aband fin sw wasted qual as aa going track seg rung wait dur need got len sg kept bits durs vs va) (iv : Inv c σ) (ln : LEN σ) (tb : σ.time ≤ 20000) {s1 : Int32} (hs : s1.toInt = if σ.time = 0 then 0 else (σ.time - 1) / 1000) : f_L_agrees_b402 mode last chg state time pos len sg kept bits durs vs va8 vn vr time s1 = some 1 := by
  have rq := rq_s (ne_st S R.state)
  have t0 := S.t0
  have Rt := R.time
  have Rn := R.len
  unfold LEN at ln
  have fin := ag455 (mode := mode) W K V S R
  have s0 : 0 ≤ s1.toInt := by
    rw [hs]; split <;> omega
  have h1 : f_X9_timeLine state len sg s1 = (0, f_X3_signAt len sg s1) := by
    unfold f_X9_timeLine
    rw [nn_c s0, bnd_p, if_pos rfl, rq, bnd_p, if_pos rfl]
  unfold f_L_agrees_b402
  rw [h1, b2_s, if_pos rfl]
  by_cases q : σ.time = 0
  · rw [if_pos q] at hs
    have e : f_X3_signAt len sg s1 = -1 := by
      unfold f_X3_signAt
      rw [if_neg (by rw [lt32]; simp only [Int32.reduceToInt]; omega), if_pos (by rw [le32]; omega)]
    rw [if_pos (by rw [eq32, Rt, q]; rfl), if_pos e]
    exact fin
  · rw [if_neg q] at hs
    have e : f_X3_signAt len sg s1 = sg s1.toInt.toNat := by
      unfold f_X3_signAt
      rw [if_neg (by rw [lt32]; simp only [Int32.reduceToInt]; omega), if_neg (by rw [le32]; omega), if_neg (by rw [le32]; simp only [Int32.reduceToInt]; omega)]
      rfl
    have rs := R.sg s1.toInt.toNat (by omega)
    have g := iv.2.2.2.2.2.2.2 s1.toInt.toNat (by omega)
    rw [e, if_neg (by rw [eq32, Rt]; simp only [Int32.reduceToInt]; omega)]
    by_cases c1 : σ.sg s1.toInt.toNat = 115
    · rw [if_pos (by rw [eq32, rs, c1]; rfl)]; exact fin
    · rw [if_neg (by rw [eq32, rs]; simp only [Int32.reduceToInt]; exact c1)]
      by_cases c2 : σ.sg s1.toInt.toNat = 45
      · rw [if_pos (by rw [eq32, rs, c2]; rfl)]; exact fin
      · rw [if_neg (by rw [eq32, rs]; simp only [Int32.reduceToInt]; exact c2)]
        by_cases c3 : σ.sg s1.toInt.toNat = 101
        · rw [if_pos (by rw [eq32, rs, c3]; rfl)]; exact fin
        · rcases g with g | g | g | g
          · exact absurd g c1
          · exact absurd g c2
          · exact absurd g c3
          · rw [if_neg (by rw [eq32, rs]; simp only [Int32.reduceToInt]; exact c3), if_neg (by rw [lt32, rs]; simp only [Int32.reduceToInt]; omega), if_neg (by rw [lt32, rs]; simp only [Int32.reduceToInt]; omega)]
            exact fin
theorem ag362 {c : Cf} {σ : Ss} {T : Int} {mode : Int32} {last : Int32} {chg : Int32} {state : Int32} {time : Int32} {pos : Int32} {su : Int32} {st : Int32} {pl : Int32} {stalls : Int32} {aband : Int32} {fin : Int32} {sw : Int32} {wasted : Int64} {qual : Int64} {as : Int32} {aa : Nat → Int32} {going : Int32} {track : Int32} {seg : Int32} {rung : Int32} {wait : Int32} {dur : Int32} {need : Int64} {got : Int64} {len : Int32} {sg : Nat → Int32} {kept : Int32} {bits : Nat → Int64} {durs : Nat → Int64} {vs : Int32} {va : Nat → Int32} {va8 : Nat → Int32} {vn : Int32} {vr : Nat → Int32} {an : Int32} {ar : Nat → Int32} {tot : Int32} {ph : Int32} {ln : Nat → Int32} {fl : Nat → Int32} (W : WfC c) (K : CC c va8 vn vr an ar tot ph ln fl) (V : 1 ≤ c.vn) (S : WfS c T σ) (R : RC c σ last chg state time pos su st pl stalls aband fin sw wasted qual as aa going track seg rung wait dur need got len sg kept bits durs vs va) (iv : Inv c σ) (ln : LEN σ) (tb : σ.time ≤ 20000) {s0 s1 : Int32} (e : s0 = s1) : f_L_agrees_b362 mode last chg state time pos len sg kept bits durs vs va8 vn vr time s0 s1 = some 1 := by
  have t0 := S.t0
  have Rt := R.time
  unfold f_L_agrees_b362
  rw [if_pos e]
  by_cases q : σ.time = 0
  · rw [if_pos (by rw [eq32, Rt, q]; rfl)]
    exact ag402 W K V S R iv ln tb (by rw [if_pos q]; rfl)
  · have e1 : (time - 1).toInt = σ.time - 1 := by rw [sub32 (by simp only [Int32.reduceToInt]; omega) (by simp only [Int32.reduceToInt]; omega), Rt]; rfl
    have e2 : ((time - 1) / 1000).toInt = (σ.time - 1) / 1000 := by rw [div32 (by omega) (by decide), e1]; rfl
    rw [if_neg (by rw [eq32, Rt]; simp only [Int32.reduceToInt]; omega), if_neg (by rw [le32, e2]; simp only [Int32.reduceToInt]; omega)]
    exact ag402 W K V S R iv ln tb (by rw [if_neg q]; exact e2)
theorem ag348 {c : Cf} {σ : Ss} {T : Int} {mode : Int32} {last : Int32} {chg : Int32} {state : Int32} {time : Int32} {pos : Int32} {su : Int32} {st : Int32} {pl : Int32} {stalls : Int32} {aband : Int32} {fin : Int32} {sw : Int32} {wasted : Int64} {qual : Int64} {as : Int32} {aa : Nat → Int32} {going : Int32} {track : Int32} {seg : Int32} {rung : Int32} {wait : Int32} {dur : Int32} {need : Int64} {got : Int64} {len : Int32} {sg : Nat → Int32} {kept : Int32} {bits : Nat → Int64} {durs : Nat → Int64} {vs : Int32} {va : Nat → Int32} {va8 : Nat → Int32} {vn : Int32} {vr : Nat → Int32} {an : Int32} {ar : Nat → Int32} {tot : Int32} {ph : Int32} {ln : Nat → Int32} {fl : Nat → Int32} (W : WfC c) (K : CC c va8 vn vr an ar tot ph ln fl) (V : 1 ≤ c.vn) (S : WfS c T σ) (R : RC c σ last chg state time pos su st pl stalls aband fin sw wasted qual as aa going track seg rung wait dur need got len sg kept bits durs vs va) (iv : Inv c σ) (ln : LEN σ) (tb : σ.time ≤ 20000) : f_L_agrees_b348 mode last chg state time pos wasted len sg kept bits durs vs va8 vn vr time (if σ.aband ≤ 0 then 0 else 1) = some 1 := by
  have rq := rq_s (ne_st S R.state)
  have a0 := S.aband0
  have i6 := iv.2.2.2.2.2.1
  unfold I6 at i6
  have h1 : f_X9_wasted state wasted = (0, wasted) := by
    unfold f_X9_wasted
    rw [rq, bnd_p, if_pos rfl]
  unfold f_L_agrees_b348
  rw [h1, b2_s, if_pos rfl, R.wasted]
  by_cases q : σ.aband ≤ 0
  · rw [if_pos (by rw [le64]; simp only [Int64.reduceToInt]; omega)]
    have := ag362 (mode := mode) W K V S R iv ln tb (s0 := if σ.aband ≤ 0 then 0 else 1) (s1 := 0) (if_pos q)
    exact this
  · rw [if_neg (by rw [le64]; simp only [Int64.reduceToInt]; omega)]
    exact ag362 (mode := mode) W K V S R iv ln tb (s0 := if σ.aband ≤ 0 then 0 else 1) (s1 := 1) (if_neg q)
theorem x_count {c : Cf} {σ : Ss} {T : Int} {last : Int32} {chg : Int32} {state : Int32} {time : Int32} {pos : Int32} {su : Int32} {st : Int32} {pl : Int32} {stalls : Int32} {aband : Int32} {fin : Int32} {sw : Int32} {wasted : Int64} {qual : Int64} {as : Int32} {aa : Nat → Int32} {going : Int32} {track : Int32} {seg : Int32} {rung : Int32} {wait : Int32} {dur : Int32} {need : Int64} {got : Int64} {len : Int32} {sg : Nat → Int32} {kept : Int32} {bits : Nat → Int64} {durs : Nat → Int64} {vs : Int32} {va : Nat → Int32} (S : WfS c T σ) (R : RC c σ last chg state time pos su st pl stalls aband fin sw wasted qual as aa going track seg rung wait dur need got len sg kept bits durs vs va) (k : Int32) (h0 : 0 ≤ k.toInt) (h1 : k.toInt < 4) : f_X9_count state stalls aband fin sw k = (0, f_X0_eventsOf stalls aband fin sw k) := by
  unfold f_X9_count
  rw [ix_c h0 (by simp only [Int32.reduceToInt]; omega), bnd_p, if_pos rfl, rq_s (ne_st S R.state), bnd_p, if_pos rfl]
theorem ag312 {c : Cf} {σ : Ss} {T : Int} {mode : Int32} {last : Int32} {chg : Int32} {state : Int32} {time : Int32} {pos : Int32} {su : Int32} {st : Int32} {pl : Int32} {stalls : Int32} {aband : Int32} {fin : Int32} {sw : Int32} {wasted : Int64} {qual : Int64} {as : Int32} {aa : Nat → Int32} {going : Int32} {track : Int32} {seg : Int32} {rung : Int32} {wait : Int32} {dur : Int32} {need : Int64} {got : Int64} {len : Int32} {sg : Nat → Int32} {kept : Int32} {bits : Nat → Int64} {durs : Nat → Int64} {vs : Int32} {va : Nat → Int32} {va8 : Nat → Int32} {vn : Int32} {vr : Nat → Int32} {an : Int32} {ar : Nat → Int32} {tot : Int32} {ph : Int32} {ln : Nat → Int32} {fl : Nat → Int32} (W : WfC c) (K : CC c va8 vn vr an ar tot ph ln fl) (V : 1 ≤ c.vn) (S : WfS c T σ) (R : RC c σ last chg state time pos su st pl stalls aband fin sw wasted qual as aa going track seg rung wait dur need got len sg kept bits durs vs va) (iv : Inv c σ) (ln : LEN σ) (tb : σ.time ≤ 20000) {l10 : Int32} (hl : l10.toInt = σ.sw) : f_L_agrees_b312 mode last chg state time pos stalls aband fin sw wasted len sg kept bits durs vs va8 vn vr time vs as l10 = some 1 := by
  have v0 := S.v0
  have v1 := S.v1
  have a0 := S.a0
  have a1 := S.a1
  have m1 := W.m1
  have Rv := R.vs
  have Ra := R.as
  have i2 := iv.2.1
  unfold I2 at i2
  have e : (vs + as).toInt = σ.fin := by rw [add32 (by omega) (by omega)]; omega
  unfold f_L_agrees_b312
  rw [x_count S R 3 (by decide) (by decide), b2_s, if_pos rfl, if_pos (show f_X0_eventsOf stalls aband fin sw 3 = l10 by rw [show f_X0_eventsOf stalls aband fin sw 3 = sw from rfl, eq32, R.sw, hl]), x_count S R 2 (by decide) (by decide), b2_s, if_pos rfl, if_pos (show f_X0_eventsOf stalls aband fin sw 2 = vs + as by rw [show f_X0_eventsOf stalls aband fin sw 2 = fin from rfl, eq32, R.fin, e]), x_count S R 1 (by decide) (by decide), b2_s, if_pos rfl, show f_X0_eventsOf stalls aband fin sw 1 = aband from rfl]
  have g := ag348 (mode := mode) W K V S R iv ln tb
  by_cases q : σ.aband ≤ 0
  · rw [if_pos (by rw [le32, R.aband]; exact q)]
    rw [if_pos q] at g
    exact g
  · rw [if_neg (by rw [le32, R.aband]; exact q)]
    rw [if_neg q] at g
    exact g
theorem w_rung {c : Cf} {σ : Ss} {T : Int} {last : Int32} {chg : Int32} {state : Int32} {time : Int32} {pos : Int32} {su : Int32} {st : Int32} {pl : Int32} {stalls : Int32} {aband : Int32} {fin : Int32} {sw : Int32} {wasted : Int64} {qual : Int64} {as : Int32} {aa : Nat → Int32} {going : Int32} {track : Int32} {seg : Int32} {rung : Int32} {wait : Int32} {dur : Int32} {need : Int64} {got : Int64} {len : Int32} {sg : Nat → Int32} {kept : Int32} {bits : Nat → Int64} {durs : Nat → Int64} {vs : Int32} {va : Nat → Int32} (S : WfS c T σ) (R : RC c σ last chg state time pos su st pl stalls aband fin sw wasted qual as aa going track seg rung wait dur need got len sg kept bits durs vs va) {k : Int32} (h0 : 0 ≤ k.toInt) : f_X9_rungOf state as aa vs va 0 k = (0, f_X7_rungAt vs va k) := by
  unfold f_X9_rungOf
  rw [show f_X9_requireIndex 0 2 = 0 from by decide, bnd_p, if_pos rfl, nn_c h0, bnd_p, if_pos rfl, rq_s (ne_st S R.state), bnd_p, if_pos rfl, if_pos rfl]
theorem ag_end {c : Cf} {σ : Ss} {T : Int} {mode : Int32} {last : Int32} {chg : Int32} {state : Int32} {time : Int32} {pos : Int32} {su : Int32} {st : Int32} {pl : Int32} {stalls : Int32} {aband : Int32} {fin : Int32} {sw : Int32} {wasted : Int64} {qual : Int64} {as : Int32} {aa : Nat → Int32} {going : Int32} {track : Int32} {seg : Int32} {rung : Int32} {wait : Int32} {dur : Int32} {need : Int64} {got : Int64} {len : Int32} {sg : Nat → Int32} {kept : Int32} {bits : Nat → Int64} {durs : Nat → Int64} {vs : Int32} {va : Nat → Int32} {va8 : Nat → Int32} {vn : Int32} {vr : Nat → Int32} {an : Int32} {ar : Nat → Int32} {tot : Int32} {ph : Int32} {ln : Nat → Int32} {fl : Nat → Int32} (W : WfC c) (K : CC c va8 vn vr an ar tot ph ln fl) (V : 1 ≤ c.vn) (S : WfS c T σ) (R : RC c σ last chg state time pos su st pl stalls aband fin sw wasted qual as aa going track seg rung wait dur need got len sg kept bits durs vs va) (iv : Inv c σ) (ln : LEN σ) (tb : σ.time ≤ 20000) {l10 l11 : Int32} {g : Nat} (hl : l10.toInt = σ.sw) (h : σ.vs ≤ l11.toInt) : f_L_agrees_b245 mode last chg state time pos stalls aband fin sw wasted as aa len sg kept bits durs vs va va8 vn vr (g + 1) time vs as l10 l11 = some 1 := by
  have v0 := S.v0
  have v1 := S.v1
  have m1 := W.m1
  have Rv := R.vs
  have fin := ag312 (mode := mode) W K V S R iv ln tb hl
  have e1 : f_X7_rungAt vs va vs = -1 := by
    unfold f_X7_rungAt
    rw [if_neg (by rw [lt32]; simp only [Int32.reduceToInt]; omega), if_pos (by rw [le32]; omega)]
  unfold f_L_agrees_b245
  rw [if_pos (by rw [le32]; omega), w_rung S R (by omega), b2_s, if_pos rfl, if_pos e1]
  by_cases q : σ.vs ≤ 0
  · rw [if_pos (by rw [le32]; simp only [Int32.reduceToInt]; omega)]; exact fin
  · have e2 : f_X7_rungAt vs va 0 = va 0 := c_at7 Rv (by omega) (by decide) (by simp only [Int32.reduceToInt]; omega)
    have i5 := iv.2.2.2.2.1.2.2 (by omega)
    have r0 := R.va 0 (by omega)
    rw [if_neg (by rw [le32]; simp only [Int32.reduceToInt]; omega), w_rung S R (by decide), b2_s, if_pos rfl, if_pos (by rw [e2, eq32, r0, i5]; rfl)]
    exact fin
theorem ag245 {c : Cf} {σ : Ss} {T : Int} {mode : Int32} {last : Int32} {chg : Int32} {state : Int32} {time : Int32} {pos : Int32} {su : Int32} {st : Int32} {pl : Int32} {stalls : Int32} {aband : Int32} {fin : Int32} {sw : Int32} {wasted : Int64} {qual : Int64} {as : Int32} {aa : Nat → Int32} {going : Int32} {track : Int32} {seg : Int32} {rung : Int32} {wait : Int32} {dur : Int32} {need : Int64} {got : Int64} {len : Int32} {sg : Nat → Int32} {kept : Int32} {bits : Nat → Int64} {durs : Nat → Int64} {vs : Int32} {va : Nat → Int32} {va8 : Nat → Int32} {vn : Int32} {vr : Nat → Int32} {an : Int32} {ar : Nat → Int32} {tot : Int32} {ph : Int32} {ln : Nat → Int32} {fl : Nat → Int32} (W : WfC c) (K : CC c va8 vn vr an ar tot ph ln fl) (V : 1 ≤ c.vn) (S : WfS c T σ) (R : RC c σ last chg state time pos su st pl stalls aband fin sw wasted qual as aa going track seg rung wait dur need got len sg kept bits durs vs va) (iv : Inv c σ) (ln : LEN σ) (tb : σ.time ≤ 20000) : ∀ (m k g : Nat) (l10 l11 : Int32), l11.toInt = k → 1 ≤ k → (k : Int) + m = σ.vs → l10.toInt = swN σ.va k → m < g → f_L_agrees_b245 mode last chg state time pos stalls aband fin sw wasted as aa len sg kept bits durs vs va va8 vn vr g time vs as l10 l11 = some 1
  | 0, k, g + 1, l10, l11, h1, hk, hm, h0, hg => by
    have sw := iv.2.2.2.1
    unfold SW at sw
    exact ag_end W K V S R iv ln tb (by rw [h0, sw]; congr 1; omega) (by omega)
  | m + 1, k, g + 1, l10, l11, h1, hk, hm, h0, hg => by
    have v1 := S.v1
    have m1 := W.m1
    have Rv := R.vs
    have sb := swN_b (f := σ.va) k
    have e1 : (l11 - 1).toInt = ((k - 1 : Nat) : Int) := by rw [sub32 (by simp only [Int32.reduceToInt]; omega) (by simp only [Int32.reduceToInt]; omega), h1]; simp only [Int32.reduceToInt]; omega
    have e2 : (l11 + 1).toInt = ((k + 1 : Nat) : Int) := by rw [add32 (by simp only [Int32.reduceToInt]; omega) (by simp only [Int32.reduceToInt]; omega), h1]; rfl
    have a1 : f_X7_rungAt vs va l11 = va k := by rw [c_at7 Rv (by omega) (by omega) (by omega), h1]; rfl
    have a2 : f_X7_rungAt vs va (l11 - 1) = va (k - 1) := by rw [c_at7 Rv (by omega) (by omega) (by omega), e1]; rfl
    have r1 := R.va k (by omega)
    have r2 := R.va (k - 1) (by omega)
    unfold f_L_agrees_b245
    rw [if_neg (by rw [le32]; omega), grd_v (by omega) (by omega), w_rung S R (by omega), b2_s, if_pos rfl, w_rung S R (by omega), b2_s, if_pos rfl, a1, a2]
    by_cases q : σ.va k = σ.va (k - 1)
    · rw [if_pos (by rw [eq32, r1, r2]; exact q)]
      refine ag245 W K V S R iv ln tb m (k + 1) g _ _ e2 (by omega) (by omega) ?_ (by omega)
      rw [add32 (by simp only [Int32.reduceToInt]; omega) (by simp only [Int32.reduceToInt]; omega), h0, swN, if_neg (fun a => a.2 q)]; rfl
    · rw [if_neg (by rw [eq32, r1, r2]; exact q)]
      refine ag245 W K V S R iv ln tb m (k + 1) g _ _ e2 (by omega) (by omega) ?_ (by omega)
      rw [add32 (by simp only [Int32.reduceToInt]; omega) (by simp only [Int32.reduceToInt]; omega), h0, swN, if_pos ⟨hk, q⟩]; rfl
theorem ag245s {c : Cf} {σ : Ss} {T : Int} {mode : Int32} {last : Int32} {chg : Int32} {state : Int32} {time : Int32} {pos : Int32} {su : Int32} {st : Int32} {pl : Int32} {stalls : Int32} {aband : Int32} {fin : Int32} {sw : Int32} {wasted : Int64} {qual : Int64} {as : Int32} {aa : Nat → Int32} {going : Int32} {track : Int32} {seg : Int32} {rung : Int32} {wait : Int32} {dur : Int32} {need : Int64} {got : Int64} {len : Int32} {sg : Nat → Int32} {kept : Int32} {bits : Nat → Int64} {durs : Nat → Int64} {vs : Int32} {va : Nat → Int32} {va8 : Nat → Int32} {vn : Int32} {vr : Nat → Int32} {an : Int32} {ar : Nat → Int32} {tot : Int32} {ph : Int32} {ln : Nat → Int32} {fl : Nat → Int32} (W : WfC c) (K : CC c va8 vn vr an ar tot ph ln fl) (V : 1 ≤ c.vn) (S : WfS c T σ) (R : RC c σ last chg state time pos su st pl stalls aband fin sw wasted qual as aa going track seg rung wait dur need got len sg kept bits durs vs va) (iv : Inv c σ) (ln : LEN σ) (tb : σ.time ≤ 20000) : f_L_agrees_b245 mode last chg state time pos stalls aband fin sw wasted as aa len sg kept bits durs vs va va8 vn vr (mug 200 1 + 1) time vs as 0 1 = some 1 := by
  have v0 := S.v0
  have v1 := S.v1
  have m1 := W.m1
  by_cases q : σ.vs ≤ 0
  · have sw := iv.2.2.2.1
    unfold SW at sw
    refine ag_end W K V S R iv ln tb ?_ (by simp only [Int32.reduceToInt]; omega)
    rw [sw, show σ.vs.toNat = 0 by omega]; rfl
  · have h0 : swN σ.va 1 = 0 := by
      unfold swN swN
      rw [if_neg (fun a => absurd a.1 (by decide))]; rfl
    exact ag245 W K V S R iv ln tb (σ.vs.toNat - 1) 1 _ 0 1 rfl (Nat.le_refl 1) (by omega) (by rw [h0]; rfl) (by rw [show mug 200 1 = 199 from rfl]; omega)
theorem x_recv {c : Cf} {σ : Ss} {T : Int} {last : Int32} {chg : Int32} {state : Int32} {time : Int32} {pos : Int32} {su : Int32} {st : Int32} {pl : Int32} {stalls : Int32} {aband : Int32} {fin : Int32} {sw : Int32} {wasted : Int64} {qual : Int64} {as : Int32} {aa : Nat → Int32} {going : Int32} {track : Int32} {seg : Int32} {rung : Int32} {wait : Int32} {dur : Int32} {need : Int64} {got : Int64} {len : Int32} {sg : Nat → Int32} {kept : Int32} {bits : Nat → Int64} {durs : Nat → Int64} {vs : Int32} {va : Nat → Int32} (S : WfS c T σ) (R : RC c σ last chg state time pos su st pl stalls aband fin sw wasted qual as aa going track seg rung wait dur need got len sg kept bits durs vs va) : f_X9_received state going got = (0, f_X1_receivedOrNone going got) := by
  unfold f_X9_received
  rw [rq_s (ne_st S R.state), bnd_p, if_pos rfl]
theorem ag221 {c : Cf} {σ : Ss} {T : Int} {mode : Int32} {last : Int32} {chg : Int32} {state : Int32} {time : Int32} {pos : Int32} {su : Int32} {st : Int32} {pl : Int32} {stalls : Int32} {aband : Int32} {fin : Int32} {sw : Int32} {wasted : Int64} {qual : Int64} {as : Int32} {aa : Nat → Int32} {going : Int32} {track : Int32} {seg : Int32} {rung : Int32} {wait : Int32} {dur : Int32} {need : Int64} {got : Int64} {len : Int32} {sg : Nat → Int32} {kept : Int32} {bits : Nat → Int64} {durs : Nat → Int64} {vs : Int32} {va : Nat → Int32} {va8 : Nat → Int32} {vn : Int32} {vr : Nat → Int32} {an : Int32} {ar : Nat → Int32} {tot : Int32} {ph : Int32} {ln : Nat → Int32} {fl : Nat → Int32} (W : WfC c) (K : CC c va8 vn vr an ar tot ph ln fl) (V : 1 ≤ c.vn) (S : WfS c T σ) (R : RC c σ last chg state time pos su st pl stalls aband fin sw wasted qual as aa going track seg rung wait dur need got len sg kept bits durs vs va) (iv : Inv c σ) (ln : LEN σ) (tb : σ.time ≤ 20000) {l9 : Int32} (hl : (σ.going = 1 ∧ 0 ≤ l9.toInt) ∨ (σ.going = 0 ∧ l9.toInt < 0)) : f_L_agrees_b221 mode last chg state time pos stalls aband fin sw wasted as aa going got len sg kept bits durs vs va va8 vn vr time vs as l9 = some 1 := by
  have fin := ag245s (mode := mode) W K V S R iv ln tb
  unfold f_L_agrees_b221
  rcases hl with ⟨g, h⟩ | ⟨g, h⟩
  · rw [if_pos (by rw [le32]; simp only [Int32.reduceToInt]; exact h)]; exact fin
  · have e : f_X1_receivedOrNone going got = -1 := by
      unfold f_X1_receivedOrNone
      rw [if_pos (by rw [eq32, R.going, g]; rfl)]
    rw [if_neg (by rw [le32]; simp only [Int32.reduceToInt]; omega), x_recv S R, b2_s, if_pos rfl, if_pos e]; exact fin
theorem x_down {c : Cf} {σ : Ss} {T : Int} {last : Int32} {chg : Int32} {state : Int32} {time : Int32} {pos : Int32} {su : Int32} {st : Int32} {pl : Int32} {stalls : Int32} {aband : Int32} {fin : Int32} {sw : Int32} {wasted : Int64} {qual : Int64} {as : Int32} {aa : Nat → Int32} {going : Int32} {track : Int32} {seg : Int32} {rung : Int32} {wait : Int32} {dur : Int32} {need : Int64} {got : Int64} {len : Int32} {sg : Nat → Int32} {kept : Int32} {bits : Nat → Int64} {durs : Nat → Int64} {vs : Int32} {va : Nat → Int32} (S : WfS c T σ) (R : RC c σ last chg state time pos su st pl stalls aband fin sw wasted qual as aa going track seg rung wait dur need got len sg kept bits durs vs va) {k : Int32} (h0 : 0 ≤ k.toInt) (h1 : k.toInt < 5) : f_X9_download state going track seg rung wait dur k = (0, f_X1_fact going track seg rung wait dur k) := by
  unfold f_X9_download
  rw [ix_c h0 (by simp only [Int32.reduceToInt]; omega), bnd_p, if_pos rfl, rq_s (ne_st S R.state), bnd_p, if_pos rfl]
theorem x_dled {c : Cf} {σ : Ss} {T : Int} {last : Int32} {chg : Int32} {state : Int32} {time : Int32} {pos : Int32} {su : Int32} {st : Int32} {pl : Int32} {stalls : Int32} {aband : Int32} {fin : Int32} {sw : Int32} {wasted : Int64} {qual : Int64} {as : Int32} {aa : Nat → Int32} {going : Int32} {track : Int32} {seg : Int32} {rung : Int32} {wait : Int32} {dur : Int32} {need : Int64} {got : Int64} {len : Int32} {sg : Nat → Int32} {kept : Int32} {bits : Nat → Int64} {durs : Nat → Int64} {vs : Int32} {va : Nat → Int32} (S : WfS c T σ) (R : RC c σ last chg state time pos su st pl stalls aband fin sw wasted qual as aa going track seg rung wait dur need got len sg kept bits durs vs va) {k : Int32} (h0 : 0 ≤ k.toInt) (h1 : k.toInt < 2) : f_X9_downloaded state as vs k = (0, if k = 0 then vs else as) := by
  unfold f_X9_downloaded
  rw [ix_c h0 (by simp only [Int32.reduceToInt]; omega), bnd_p, if_pos rfl, rq_s (ne_st S R.state), bnd_p, if_pos rfl]
  split <;> rfl
theorem x_size0 {c : Cf} {σ : Ss} {T : Int} {last : Int32} {chg : Int32} {state : Int32} {time : Int32} {pos : Int32} {su : Int32} {st : Int32} {pl : Int32} {stalls : Int32} {aband : Int32} {fin : Int32} {sw : Int32} {wasted : Int64} {qual : Int64} {as : Int32} {aa : Nat → Int32} {going : Int32} {track : Int32} {seg : Int32} {rung : Int32} {wait : Int32} {dur : Int32} {need : Int64} {got : Int64} {len : Int32} {sg : Nat → Int32} {kept : Int32} {bits : Nat → Int64} {durs : Nat → Int64} {vs : Int32} {va : Nat → Int32} {va8 : Nat → Int32} {vn : Int32} {vr : Nat → Int32} {an : Int32} {ar : Nat → Int32} {tot : Int32} {ph : Int32} {ln : Nat → Int32} {fl : Nat → Int32} (W : WfC c) (K : CC c va8 vn vr an ar tot ph ln fl) (S : WfS c T σ) (R : RC c σ last chg state time pos su st pl stalls aband fin sw wasted qual as aa going track seg rung wait dur need got len sg kept bits durs vs va) (g : σ.going = 1) (t : σ.track = 0) : ∃ z, f_X9_size an ar va8 vn vr 0 rung seg = (0, z) ∧ z.toInt = sizeS c 0 (c.vr σ.rung.toNat) σ.rung σ.seg := by
  have r0 := S.r0 g
  have r1 := S.r1 g
  rw [if_pos t] at r1
  have s1 := S.sl g
  have sq := S.sq g
  rw [if_pos t] at sq
  have v0 := S.v0
  have m1 := W.m1
  have n1 := W.vn1
  have Rr := R.rung g
  have Rs := R.seg g
  have k1 := K.v 1 (by decide)
  have kv := K.vn
  have v1 : f_X8_valueOf va8 1 = va8 1 := vo (by decide) (by decide)
  have rb := W.vr0 σ.rung.toNat (by omega)
  have ex := c_bits W (p0 := 0) (p1 := rung) (p2 := seg) (va := va8) (ra := vr) (rate := c.vr σ.rung.toNat) (K.v 0 (by decide)) (by rw [Rr]; exact K.vr _ (by omega)) (by omega) rb.2 (by decide) (by decide) (by omega) (by omega) (by omega) (by omega)
  refine ⟨f_X8_bitsOf_0 va8 vr 0 rung seg, ?_, by rw [ex, Rr, Rs]; rfl⟩
  unfold f_X9_size
  rw [show f_X9_requireIndex 0 2 = 0 from by decide, bnd_p, if_pos rfl, if_pos rfl, ix_c (by omega) (by omega), bnd_p, if_pos rfl, v1, ix_c (by omega) (by omega), bnd_p, if_pos rfl]
theorem x_size1 {c : Cf} {σ : Ss} {T : Int} {last : Int32} {chg : Int32} {state : Int32} {time : Int32} {pos : Int32} {su : Int32} {st : Int32} {pl : Int32} {stalls : Int32} {aband : Int32} {fin : Int32} {sw : Int32} {wasted : Int64} {qual : Int64} {as : Int32} {aa : Nat → Int32} {going : Int32} {track : Int32} {seg : Int32} {rung : Int32} {wait : Int32} {dur : Int32} {need : Int64} {got : Int64} {len : Int32} {sg : Nat → Int32} {kept : Int32} {bits : Nat → Int64} {durs : Nat → Int64} {vs : Int32} {va : Nat → Int32} {va8 : Nat → Int32} {vn : Int32} {vr : Nat → Int32} {an : Int32} {ar : Nat → Int32} {tot : Int32} {ph : Int32} {ln : Nat → Int32} {fl : Nat → Int32} (W : WfC c) (K : CC c va8 vn vr an ar tot ph ln fl) (S : WfS c T σ) (R : RC c σ last chg state time pos su st pl stalls aband fin sw wasted qual as aa going track seg rung wait dur need got len sg kept bits durs vs va) (g : σ.going = 1) (t : σ.track = 1) : ∃ z, f_X9_size an ar va8 vn vr 1 rung seg = (0, z) ∧ z.toInt = sizeS c 1 (c.ar σ.rung.toNat) σ.rung σ.seg := by
  have r0 := S.r0 g
  have r1 := S.r1 g
  rw [if_neg (by omega)] at r1
  have s1 := S.sl g
  have sq := S.sq g
  rw [if_neg (by omega)] at sq
  have v0 := S.a0
  have m1 := W.m1
  have n1 := W.an1
  have Rr := R.rung g
  have Rs := R.seg g
  have k1 := K.v 1 (by decide)
  have kv := K.an
  have v1 : f_X8_valueOf va8 1 = va8 1 := vo (by decide) (by decide)
  have rb := W.ar0 σ.rung.toNat (by omega)
  have ex := c_bits W (p0 := 1) (p1 := rung) (p2 := seg) (va := va8) (ra := ar) (rate := c.ar σ.rung.toNat) (K.v 0 (by decide)) (by rw [Rr]; exact K.ar _ (by omega)) (by omega) rb.2 (by decide) (by decide) (by omega) (by omega) (by omega) (by omega)
  refine ⟨f_X8_bitsOf_1 ar va8 1 rung seg, ?_, by rw [c_bits1, ex, Rr, Rs]; rfl⟩
  unfold f_X9_size
  rw [show f_X9_requireIndex 1 2 = 0 from by decide, bnd_p, if_pos rfl, if_neg one_z, ix_c (by omega) (by omega), bnd_p, if_pos rfl, v1, ix_c (by omega) (by omega), bnd_p, if_pos rfl]
theorem ag149 {c : Cf} {σ : Ss} {T : Int} {mode : Int32} {last : Int32} {chg : Int32} {state : Int32} {time : Int32} {pos : Int32} {su : Int32} {st : Int32} {pl : Int32} {stalls : Int32} {aband : Int32} {fin : Int32} {sw : Int32} {wasted : Int64} {qual : Int64} {as : Int32} {aa : Nat → Int32} {going : Int32} {track : Int32} {seg : Int32} {rung : Int32} {wait : Int32} {dur : Int32} {need : Int64} {got : Int64} {len : Int32} {sg : Nat → Int32} {kept : Int32} {bits : Nat → Int64} {durs : Nat → Int64} {vs : Int32} {va : Nat → Int32} {va8 : Nat → Int32} {vn : Int32} {vr : Nat → Int32} {an : Int32} {ar : Nat → Int32} {tot : Int32} {ph : Int32} {ln : Nat → Int32} {fl : Nat → Int32} (W : WfC c) (K : CC c va8 vn vr an ar tot ph ln fl) (V : 1 ≤ c.vn) (S : WfS c T σ) (R : RC c σ last chg state time pos su st pl stalls aband fin sw wasted qual as aa going track seg rung wait dur need got len sg kept bits durs vs va) (iv : Inv c σ) (ln : LEN σ) (tb : σ.time ≤ 20000) {s0 s1 : Int32} (e : s0 = s1) : f_L_agrees_b149 mode last chg state time pos stalls aband fin sw wasted as aa going track seg rung wait dur got len sg kept bits durs vs va an ar va8 vn vr time vs as s0 s1 = some 1 := by
  have Rg := R.going
  unfold f_L_agrees_b149
  rw [if_pos e, x_down S R (k := 0) (by decide) (by decide), b2_s, if_pos rfl]
  rcases S.g0 with g | g
  · have f0 : f_X1_fact going track seg rung wait dur 0 = -1 := by
      unfold f_X1_fact
      rw [if_pos (by rw [eq32, Rg, g]; rfl)]
    rw [f0, if_pos (by decide)]
    exact ag221 W K V S R iv ln tb (Or.inr ⟨g, by decide⟩)
  · have ng : ¬ going = 0 := by rw [eq32, Rg, g]; decide
    have fk : ∀ k : Int32, f_X1_fact going track seg rung wait dur k = if k = 0 then track else if k = 1 then seg else if k = 2 then rung else if k = 3 then wait else dur := fun k => by
      unfold f_X1_fact
      rw [if_neg ng]
    have Rt := R.track g
    have Rs := R.seg g
    have sq := S.sq g
    have Gg := R.got g
    have q0 := S.q0 g
    have q1 := S.q1 g
    have i3 := iv.2.2.1 g
    have eg : f_X1_receivedOrNone going got = got := if_neg ng
    have f0 := fk 0
    have f1 := fk 1
    have f2 := fk 2
    rw [if_pos rfl] at f0
    rw [if_neg (by decide), if_pos rfl] at f1
    rw [if_neg (by decide), if_neg (by decide), if_pos rfl] at f2
    have key : ∀ z : Int64, f_X9_size an ar va8 vn vr track rung seg = (0, z) → got.toInt < z.toInt → ∀ t : 0 ≤ track.toInt ∧ track.toInt < 2, seg = (if track = 0 then vs else as) → (if (f_X1_fact going track seg rung wait dur 0) < 0 then
        f_L_agrees_b221 mode last chg state time pos stalls aband fin sw wasted as aa going got len sg kept bits durs vs va va8 vn vr time vs as (f_X1_fact going track seg rung wait dur 0)
      else
        bnd2 (f_X9_download state going track seg rung wait dur 1) fun (k6 : Nat) (y7 : Int32) =>
        if k6 = 0 then
          bnd2 (f_X9_downloaded state as vs (f_X1_fact going track seg rung wait dur 0)) fun (k9 : Nat) (y10 : Int32) =>
          if k9 = 0 then
            if y7 = y10 then
              bnd2 (f_X9_received state going got) fun (k13 : Nat) (z14 : Int64) =>
              if k13 = 0 then
                if z14 < 0 then
                  some 0
                else
                  bnd2 (f_X9_received state going got) fun (k17 : Nat) (z18 : Int64) =>
                  if k17 = 0 then
                    bnd2 (f_X9_download state going track seg rung wait dur 2) fun (k20 : Nat) (y21 : Int32) =>
                    if k20 = 0 then
                      bnd2 (f_X9_download state going track seg rung wait dur 1) fun (k23 : Nat) (y24 : Int32) =>
                      if k23 = 0 then
                        bnd2 (f_X9_size an ar va8 vn vr (f_X1_fact going track seg rung wait dur 0) y21 y24) fun (k26 : Nat) (z27 : Int64) =>
                        if k26 = 0 then
                          if z18 < z27 then
                            f_L_agrees_b221 mode last chg state time pos stalls aband fin sw wasted as aa going got len sg kept bits durs vs va va8 vn vr time vs as (f_X1_fact going track seg rung wait dur 0)
                          else
                            bnd2 (f_X9_download state going track seg rung wait dur 4) fun (k30 : Nat) (y31 : Int32) =>
                            if k30 = 0 then
                              if 0 < y31 then
                                some 0
                              else
                                f_L_agrees_b221 mode last chg state time pos stalls aband fin sw wasted as aa going got len sg kept bits durs vs va va8 vn vr time vs as (f_X1_fact going track seg rung wait dur 0)
                            else
                              none
                        else
                          none
                      else
                        none
                    else
                      none
                  else
                    none
              else
                none
            else
              some 0
          else
            none
        else
          none) = some 1 := fun z hz lz t es => by
      rw [f0, if_neg (by rw [lt32]; simp only [Int32.reduceToInt]; omega), x_down S R (k := 1) (by decide) (by decide), b2_s, if_pos rfl, f1, x_dled S R t.1 t.2, b2_s, if_pos rfl, if_pos es, x_recv S R, b2_s, if_pos rfl, eg, if_neg (by rw [lt64, Gg]; simp only [Int64.reduceToInt]; omega), b2_s, if_pos rfl, x_down S R (k := 2) (by decide) (by decide), b2_s, if_pos rfl, f2, b2_s, if_pos rfl, hz, b2_s, if_pos rfl, if_pos (by rw [lt64]; exact lz)]
      exact ag221 W K V S R iv ln tb (Or.inl ⟨g, t.1⟩)
    rcases S.tr g with t | t
    · have et : track = 0 := by rw [eq32, Rt, t]; rfl
      obtain ⟨z, hz, ez⟩ := x_size0 W K S R g t
      rw [if_pos t] at sq
      refine key z (by rw [et]; exact hz) ?_ (by omega) ?_
      · rw [Gg, ez]
        rw [i3, t] at q1
        exact q1
      · rw [if_pos et, eq32, Rs, sq, R.vs]
    · have et : track = 1 := by rw [eq32, Rt, t]; rfl
      obtain ⟨z, hz, ez⟩ := x_size1 W K S R g t
      rw [if_neg (by omega)] at sq
      refine key z (by rw [et]; exact hz) ?_ (by omega) ?_
      · rw [Gg, ez]
        rw [i3, t] at q1
        exact q1
      · rw [if_neg (by rw [et]; exact one_z), eq32, Rs, sq, R.as]
theorem ag114 {c : Cf} {σ : Ss} {T : Int} {mode : Int32} {last : Int32} {chg : Int32} {state : Int32} {time : Int32} {pos : Int32} {su : Int32} {st : Int32} {pl : Int32} {stalls : Int32} {aband : Int32} {fin : Int32} {sw : Int32} {wasted : Int64} {qual : Int64} {as : Int32} {aa : Nat → Int32} {going : Int32} {track : Int32} {seg : Int32} {rung : Int32} {wait : Int32} {dur : Int32} {need : Int64} {got : Int64} {len : Int32} {sg : Nat → Int32} {kept : Int32} {bits : Nat → Int64} {durs : Nat → Int64} {vs : Int32} {va : Nat → Int32} {va8 : Nat → Int32} {vn : Int32} {vr : Nat → Int32} {an : Int32} {ar : Nat → Int32} {tot : Int32} {ph : Int32} {ln : Nat → Int32} {fl : Nat → Int32} {p1 p2 : Int32} (W : WfC c) (K : CC c va8 vn vr an ar tot ph ln fl) (V : 1 ≤ c.vn) (S : WfS c T σ) (R : RC c σ last chg state time pos su st pl stalls aband fin sw wasted qual as aa going track seg rung wait dur need got len sg kept bits durs vs va) (iv : Inv c σ) (ln : LEN σ) (tb : σ.time ≤ 20000) (hl : p1.toInt = c.v 0) (ha : (p2 = 0 ∧ c.an = 0) ∨ (p2 = 1 ∧ 1 ≤ c.an)) : f_L_agrees_b114 mode last chg state time pos stalls aband fin sw wasted as aa going track seg rung wait dur got len sg kept bits durs vs va an ar va8 vn vr p1 p2 time vs as pos = some 1 := by
  have rq := rq_s (ne_st S R.state)
  have vD := WfS.vD W S
  have aD := WfS.aD W S
  have p0 := S.p0
  have pv := S.pv
  have Rp := R.pos
  have Rv := R.vs
  have Ra := R.as
  have v1 := S.v1
  have v0 := S.v0
  have a0 := S.a0
  have b0 := c_buf0 W S V (K.v 0 (by decide)) Rp K.vn Rv
  have m1 : (p1 * vs).toInt = c.v 0 * σ.vs := by rw [mul32 (by rw [hl, Rv, Int.mul_comm]; omega) (by rw [hl, Rv, Int.mul_comm]; omega), hl, Rv]
  have m2 : (p1 * as).toInt = c.v 0 * σ.as := by rw [mul32 (by rw [hl, Ra, Int.mul_comm]; omega) (by rw [hl, Ra, Int.mul_comm]; omega), hl, Ra]
  have cm1 := Int.mul_comm (c.v 0) σ.vs
  have cm2 := Int.mul_comm (c.v 0) σ.as
  have e0 : f_X6_bufferOf_0 pos va8 vn vs = (p1 * vs) - pos := by
    rw [eq32, b0, sub32 (by omega) (by omega), m1, Rp]
    unfold bufV
    omega
  have h0 : f_X9_buffer state pos as vs an va8 vn 0 = (0, f_X6_bufferOf_0 pos va8 vn vs) := by
    unfold f_X9_buffer
    rw [show f_X9_requireIndex 0 2 = 0 from by decide, bnd_p, if_pos rfl, rq, bnd_p, if_pos rfl, if_pos rfl]
  have h1 : f_X9_buffer state pos as vs an va8 vn 1 = (0, f_X6_bufferOf_1 pos as an va8) := by
    unfold f_X9_buffer
    rw [show f_X9_requireIndex 1 2 = 0 from by decide, bnd_p, if_pos rfl, rq, bnd_p, if_pos rfl, if_neg one_z]
  unfold f_L_agrees_b114
  rw [h0, b2_s, if_pos rfl, if_pos e0, h1, b2_s, if_pos rfl]
  rcases ha with ⟨rfl, ha⟩ | ⟨rfl, ha⟩
  · rw [if_pos rfl]
    refine ag149 W K V S R iv ln tb ?_
    unfold f_X6_bufferOf_1
    rw [if_pos (by rw [eq32, K.an, ha]; rfl)]
  · rw [if_neg one_z]
    refine ag149 W K V S R iv ln tb ?_
    have pa := S.pa (by omega)
    rw [eq32, c_buf1 W S ha (K.v 0 (by decide)) Rp K.an Ra, sub32 (by omega) (by omega), m2, Rp]
    unfold bufA
    omega
theorem ag105 {c : Cf} {σ : Ss} {T : Int} {mode : Int32} {last : Int32} {chg : Int32} {state : Int32} {time : Int32} {pos : Int32} {su : Int32} {st : Int32} {pl : Int32} {stalls : Int32} {aband : Int32} {fin : Int32} {sw : Int32} {wasted : Int64} {qual : Int64} {as : Int32} {aa : Nat → Int32} {going : Int32} {track : Int32} {seg : Int32} {rung : Int32} {wait : Int32} {dur : Int32} {need : Int64} {got : Int64} {len : Int32} {sg : Nat → Int32} {kept : Int32} {bits : Nat → Int64} {durs : Nat → Int64} {vs : Int32} {va : Nat → Int32} {va8 : Nat → Int32} {vn : Int32} {vr : Nat → Int32} {an : Int32} {ar : Nat → Int32} {tot : Int32} {ph : Int32} {ln : Nat → Int32} {fl : Nat → Int32} {p1 p2 : Int32} (W : WfC c) (K : CC c va8 vn vr an ar tot ph ln fl) (V : 1 ≤ c.vn) (S : WfS c T σ) (R : RC c σ last chg state time pos su st pl stalls aband fin sw wasted qual as aa going track seg rung wait dur need got len sg kept bits durs vs va) (iv : Inv c σ) (ln : LEN σ) (tb : σ.time ≤ 20000) (hl : p1.toInt = c.v 0) (ha : (p2 = 0 ∧ c.an = 0) ∨ (p2 = 1 ∧ 1 ≤ c.an)) : f_L_agrees_b105 mode last chg state time pos stalls aband fin sw wasted as aa going track seg rung wait dur got len sg kept bits durs vs va an ar va8 vn vr p1 p2 time vs as pos = some 1 := by
  have fin := ag114 (mode := mode) W K V S R iv ln tb hl ha
  unfold f_L_agrees_b105
  rcases ha with ⟨rfl, ha⟩ | ⟨rfl, ha⟩
  · have i7 := (iv.2.2.2.2.2.2.1 (by omega)).1
    rw [if_pos rfl, if_pos (by rw [eq32, R.as, i7]; rfl)]
    exact fin
  · rw [if_neg one_z]
    exact fin
theorem ag83 {c : Cf} {σ : Ss} {T : Int} {mode : Int32} {last : Int32} {chg : Int32} {state : Int32} {time : Int32} {pos : Int32} {su : Int32} {st : Int32} {pl : Int32} {stalls : Int32} {aband : Int32} {fin : Int32} {sw : Int32} {wasted : Int64} {qual : Int64} {as : Int32} {aa : Nat → Int32} {going : Int32} {track : Int32} {seg : Int32} {rung : Int32} {wait : Int32} {dur : Int32} {need : Int64} {got : Int64} {len : Int32} {sg : Nat → Int32} {kept : Int32} {bits : Nat → Int64} {durs : Nat → Int64} {vs : Int32} {va : Nat → Int32} {va8 : Nat → Int32} {vn : Int32} {vr : Nat → Int32} {an : Int32} {ar : Nat → Int32} {tot : Int32} {ph : Int32} {ln : Nat → Int32} {fl : Nat → Int32} {p1 p2 : Int32} (W : WfC c) (K : CC c va8 vn vr an ar tot ph ln fl) (V : 1 ≤ c.vn) (S : WfS c T σ) (R : RC c σ last chg state time pos su st pl stalls aband fin sw wasted qual as aa going track seg rung wait dur need got len sg kept bits durs vs va) (iv : Inv c σ) (ln : LEN σ) (tb : σ.time ≤ 20000) (hl : p1.toInt = c.v 0) (ha : (p2 = 0 ∧ c.an = 0) ∨ (p2 = 1 ∧ 1 ≤ c.an)) : f_L_agrees_b83 mode last chg state time pos stalls aband fin sw wasted as aa going track seg rung wait dur got len sg kept bits durs vs va an ar va8 vn vr p1 p2 time vs as pos = some 1 := by
  have fin := ag105 (mode := mode) W K V S R iv ln tb hl ha
  have vD := WfS.vD W S
  have aD := WfS.aD W S
  have pv := S.pv
  have Rp := R.pos
  have Rv := R.vs
  have Ra := R.as
  have cm1 := Int.mul_comm (c.v 0) σ.vs
  have cm2 := Int.mul_comm (c.v 0) σ.as
  have m1 : (p1 * vs).toInt = c.v 0 * σ.vs := by rw [mul32 (by rw [hl, Rv, Int.mul_comm]; omega) (by rw [hl, Rv, Int.mul_comm]; omega), hl, Rv]
  have m2 : (p1 * as).toInt = c.v 0 * σ.as := by rw [mul32 (by rw [hl, Ra, Int.mul_comm]; omega) (by rw [hl, Ra, Int.mul_comm]; omega), hl, Ra]
  unfold f_L_agrees_b83
  rw [if_neg (by rw [lt32, m1, Rp]; omega)]
  rcases ha with ⟨rfl, ha⟩ | ⟨rfl, ha⟩
  · rw [if_pos rfl]; exact fin
  · have pa := S.pa (by omega)
    rw [if_neg one_z, if_neg (by rw [lt32, m2, Rp]; omega)]; exact fin
theorem x_spent {c : Cf} {σ : Ss} {T : Int} {last : Int32} {chg : Int32} {state : Int32} {time : Int32} {pos : Int32} {su : Int32} {st : Int32} {pl : Int32} {stalls : Int32} {aband : Int32} {fin : Int32} {sw : Int32} {wasted : Int64} {qual : Int64} {as : Int32} {aa : Nat → Int32} {going : Int32} {track : Int32} {seg : Int32} {rung : Int32} {wait : Int32} {dur : Int32} {need : Int64} {got : Int64} {len : Int32} {sg : Nat → Int32} {kept : Int32} {bits : Nat → Int64} {durs : Nat → Int64} {vs : Int32} {va : Nat → Int32} (S : WfS c T σ) (R : RC c σ last chg state time pos su st pl stalls aband fin sw wasted qual as aa going track seg rung wait dur need got len sg kept bits durs vs va) {k : Int32} (h0 : 0 ≤ k.toInt) (h1 : k.toInt < 3) : f_X9_spent state su st pl k = (0, f_X0_timeSpent su st pl k) := by
  unfold f_X9_spent
  rw [ix_c h0 (by simp only [Int32.reduceToInt]; omega), bnd_p, if_pos rfl, rq_s (ne_st S R.state), bnd_p, if_pos rfl]
theorem w_time {c : Cf} {σ : Ss} {T : Int} {last : Int32} {chg : Int32} {state : Int32} {time : Int32} {pos : Int32} {su : Int32} {st : Int32} {pl : Int32} {stalls : Int32} {aband : Int32} {fin : Int32} {sw : Int32} {wasted : Int64} {qual : Int64} {as : Int32} {aa : Nat → Int32} {going : Int32} {track : Int32} {seg : Int32} {rung : Int32} {wait : Int32} {dur : Int32} {need : Int64} {got : Int64} {len : Int32} {sg : Nat → Int32} {kept : Int32} {bits : Nat → Int64} {durs : Nat → Int64} {vs : Int32} {va : Nat → Int32} (S : WfS c T σ) (R : RC c σ last chg state time pos su st pl stalls aband fin sw wasted qual as aa going track seg rung wait dur need got len sg kept bits durs vs va) : f_X9_time state time = (0, time) := by
  unfold f_X9_time
  rw [rq_s (ne_st S R.state), bnd_p, if_pos rfl]
theorem w_pos {c : Cf} {σ : Ss} {T : Int} {last : Int32} {chg : Int32} {state : Int32} {time : Int32} {pos : Int32} {su : Int32} {st : Int32} {pl : Int32} {stalls : Int32} {aband : Int32} {fin : Int32} {sw : Int32} {wasted : Int64} {qual : Int64} {as : Int32} {aa : Nat → Int32} {going : Int32} {track : Int32} {seg : Int32} {rung : Int32} {wait : Int32} {dur : Int32} {need : Int64} {got : Int64} {len : Int32} {sg : Nat → Int32} {kept : Int32} {bits : Nat → Int64} {durs : Nat → Int64} {vs : Int32} {va : Nat → Int32} (S : WfS c T σ) (R : RC c σ last chg state time pos su st pl stalls aband fin sw wasted qual as aa going track seg rung wait dur need got len sg kept bits durs vs va) : f_X9_position state pos = (0, pos) := by
  unfold f_X9_position
  rw [rq_s (ne_st S R.state), bnd_p, if_pos rfl]
theorem q_agrees {c : Cf} {σ : Ss} {T : Int} {mode : Int32} {last : Int32} {chg : Int32} {state : Int32} {time : Int32} {pos : Int32} {su : Int32} {st : Int32} {pl : Int32} {stalls : Int32} {aband : Int32} {fin : Int32} {sw : Int32} {wasted : Int64} {qual : Int64} {as : Int32} {aa : Nat → Int32} {going : Int32} {track : Int32} {seg : Int32} {rung : Int32} {wait : Int32} {dur : Int32} {need : Int64} {got : Int64} {len : Int32} {sg : Nat → Int32} {kept : Int32} {bits : Nat → Int64} {durs : Nat → Int64} {vs : Int32} {va : Nat → Int32} {va8 : Nat → Int32} {vn : Int32} {vr : Nat → Int32} {an : Int32} {ar : Nat → Int32} {tot : Int32} {ph : Int32} {ln : Nat → Int32} {fl : Nat → Int32} {p1 p2 : Int32} (W : WfC c) (K : CC c va8 vn vr an ar tot ph ln fl) (V : 1 ≤ c.vn) (S : WfS c T σ) (R : RC c σ last chg state time pos su st pl stalls aband fin sw wasted qual as aa going track seg rung wait dur need got len sg kept bits durs vs va) (iv : Inv c σ) (ln : LEN σ) (tb : σ.time ≤ 20000) (hl : p1.toInt = c.v 0) (ha : (p2 = 0 ∧ c.an = 0) ∨ (p2 = 1 ∧ 1 ≤ c.an)) : f_L_agrees mode last chg state time pos su st pl stalls aband fin sw wasted as aa going track seg rung wait dur got len sg kept bits durs vs va an ar va8 vn vr p1 p2 = some 1 := by
  have fin := ag83 (mode := mode) W K V S R iv ln tb hl ha
  have Rs := R.state
  have s0 := S.s0
  have s1 := S.s1
  have Rt := R.time
  have i1 := iv.1
  unfold I1 at i1
  have su0 := S.su0
  have st0 := S.st0
  have pl0 := S.pl0
  have ea : (su + st).toInt = σ.su + σ.st := by rw [add32 (by rw [R.su, R.st]; omega) (by rw [R.su, R.st]; omega), R.su, R.st]
  have eb : ((su + st) + pl).toInt = σ.su + σ.st + σ.pl := by rw [add32 (by rw [ea, R.pl]; omega) (by rw [ea, R.pl]; omega), ea, R.pl]
  unfold f_L_agrees
  rw [w_time S R, b2_s, if_pos rfl, x_spent S R (k := 0) (by decide) (by decide), b2_s, if_pos rfl, x_spent S R (k := 1) (by decide) (by decide), b2_s, if_pos rfl, x_spent S R (k := 2) (by decide) (by decide), b2_s, if_pos rfl, x_dled S R (k := 0) (by decide) (by decide), b2_s, if_pos rfl, x_dled S R (k := 1) (by decide) (by decide), b2_s, if_pos rfl, w_pos S R, b2_s, if_pos rfl, show f_X9_state state = state from rfl, if_neg (by rw [lt32, Rs]; simp only [Int32.reduceToInt]; omega), if_neg (by rw [lt32, Rs]; simp only [Int32.reduceToInt]; omega), show f_X0_timeSpent su st pl 0 = su from rfl, show f_X0_timeSpent su st pl 1 = st from rfl, show f_X0_timeSpent su st pl 2 = pl from rfl, if_pos (show (0 : Int32) = 0 from rfl), if_neg one_z]
  by_cases q : σ.state = 4
  · rw [if_pos (by rw [eq32, Rs, q]; rfl), if_pos (by rw [le32, eb, Rt]; exact i1.1)]
    exact fin
  · rw [if_neg (by rw [eq32, Rs]; simp only [Int32.reduceToInt]; exact q), if_pos (by rw [eq32, eb, Rt]; exact i1.2 q)]
    exact fin
