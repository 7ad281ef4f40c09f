/-! what a call that begins, ends or goes on with a session answers -/
theorem pl_1 {c : Cf} {ph vn pm : Int32} {la : Nat → Int32} (h1 : ph.toInt = c.ph) (h2 : vn.toInt = c.vn) (h3 : pm.toInt = c.ph) (h4 : (la 0).toInt = c.vn) (V : 1 ≤ c.vn) (P : 1 ≤ c.ph) : f_X8_isPlayable ph vn = 1 ∧ f_X10_cannotStart pm la = 0 := by
  unfold f_X8_isPlayable f_X10_cannotStart
  constructor
  · rw [if_neg (by rw [le32]; simp only [Int32.reduceToInt]; omega), if_neg (by rw [le32]; simp only [Int32.reduceToInt]; omega)]
  · rw [if_neg (by rw [eq32]; simp only [Int32.reduceToInt]; omega), if_neg (by rw [eq32]; simp only [Int32.reduceToInt]; omega)]
theorem pl_0 {c : Cf} {ph vn pm : Int32} {la : Nat → Int32} (W : WfC c) (h1 : ph.toInt = c.ph) (h2 : vn.toInt = c.vn) (h3 : pm.toInt = c.ph) (h4 : (la 0).toInt = c.vn) (h : ¬ (1 ≤ c.vn ∧ 1 ≤ c.ph)) : f_X8_isPlayable ph vn = 0 ∧ f_X10_cannotStart pm la = 1 := by
  have v0 := W.vn0
  have p0 := W.ph0
  unfold f_X8_isPlayable f_X10_cannotStart
  by_cases g : c.vn ≤ 0
  · constructor
    · rw [if_pos (by rw [le32]; simp only [Int32.reduceToInt]; omega)]
    · rw [if_pos (by rw [eq32]; simp only [Int32.reduceToInt]; omega)]
  · constructor
    · rw [if_neg (by rw [le32]; simp only [Int32.reduceToInt]; omega), if_pos (by rw [le32]; simp only [Int32.reduceToInt]; omega)]
    · rw [if_neg (by rw [eq32]; simp only [Int32.reduceToInt]; omega), if_pos (by rw [eq32]; simp only [Int32.reduceToInt]; omega)]
theorem rq_0 : f_X9_requireSession 0 = 3 := rfl
theorem no_g {P : Prop} : freshS.going = 1 → P := fun h => absurd h (by show ¬ (0 : Int) = 1; decide)
theorem rc_fresh {c : Cf} {aa : Nat → Int32} {track : Int32} {seg : Int32} {rung : Int32} {wait : Int32} {dur : Int32} {need : Int64} {got : Int64} {sg : Nat → Int32} {bits : Nat → Int64} {durs : Nat → Int64} {va : Nat → Int32} (F : chk sg 300 = true) : RC c freshS (-1) 0 (1) 0 0 0 0 0 0 0 0 0 0 0 0 aa 0 track seg rung wait dur need got 0 sg 0 bits durs 0 va :=
  RC.mk (h_last := rfl) (h_chg := rfl) (h_state := rfl) (h_time := rfl) (h_pos := rfl) (h_su := rfl) (h_st := rfl) (h_pl := rfl) (h_stalls := rfl) (h_aband := rfl) (h_fin := rfl) (h_sw := rfl) (h_wasted := rfl) (h_qual := rfl) (h_as := rfl) (h_aa := none_k) (h_going := rfl) (h_track := no_g) (h_seg := no_g) (h_rung := no_g) (h_wait := no_g) (h_dur := no_g) (h_need := no_g) (h_got := no_g) (h_len := rfl) (h_sg := none_k) (h_ft := F) (h_kept := rfl) (h_bits := none_k) (h_durs := none_k) (h_vs := rfl) (h_va := none_k) 
theorem be_eq {p0 p1 : Int32} : f_X6_begin p0 p1 = (p0, p1, (-1), 0, 1, 0, 0, 0, 0, 0, 0, 0, 0, 0, 0, 0, 0, 0, 0, 0, 0) := rfl
theorem sw_fresh : SW freshS := rfl
theorem a_start {c : Cf} {mode : Int32} {th : Int32} {last : Int32} {chg : Int32} {state : Int32} {time : Int32} {pos : Int32} {su : Int32} {st : Int32} {pl : Int32} {stalls : Int32} {aband : Int32} {fin : Int32} {sw : Int32} {wasted : Int64} {qual : Int64} {as : Int32} {aa : Nat → Int32} {going : Int32} {track : Int32} {seg : Int32} {rung : Int32} {wait : Int32} {dur : Int32} {need : Int64} {got : Int64} {len : Int32} {sg : Nat → Int32} {kept : Int32} {bits : Nat → Int64} {durs : Nat → Int64} {vs : Int32} {va : Nat → Int32} {va8 : Nat → Int32} {vn : Int32} {vr : Nat → Int32} {an : Int32} {ar : Nat → Int32} {tot : Int32} {ph : Int32} {ln : Nat → Int32} {fl : Nat → Int32} {p : Nat → Int32} {la : Nat → Int32} {ra : Nat → Int32} {pm : Int32} {lm : Nat → Int32} {fm : Nat → Int32} {has : Int32} {s : Nat → Int64} (W : WfC c) (K : CC c va8 vn vr an ar tot ph ln fl) (L : CM c p la ra pm lm fm) (E : SE c mode th last chg state time pos su st pl stalls aband fin sw wasted qual as aa going track seg rung wait dur need got len sg kept bits durs vs va has s) {r2 : Nat → Int64} (F : chk sg 300 = true) : ∃ k mode2 th2 last2 chg2 state2 time2 pos2 su2 st2 pl2 stalls2 aband2 fin2 sw2 wasted2 qual2 as2 going2 len2 kept2 vs2 r b has2 t s2, f_L_start mode th last chg state time pos su st pl stalls aband fin sw wasted qual as going len kept vs ph va8 vn r2 = some (k, mode2, th2, last2, chg2, state2, time2, pos2, su2, st2, pl2, stalls2, aband2, fin2, sw2, wasted2, qual2, as2, going2, len2, kept2, vs2, r) ∧ f_X10_start pm has la s p = (b, has2, t, s2) ∧ t = k ∧ (k = 0 → r 0 = b.toInt64) ∧ SE c mode2 th2 last2 chg2 state2 time2 pos2 su2 st2 pl2 stalls2 aband2 fin2 sw2 wasted2 qual2 as2 aa going2 track seg rung wait dur need got len2 sg kept2 bits durs vs2 va has2 s2 := by
  have k1 := K.v 1 (by decide)
  have k3 := K.v 3 (by decide)
  have k12 := K.v 12 (by decide)
  have v1 : f_X8_valueOf va8 1 = va8 1 := vo (by decide) (by decide)
  have v3 : f_X8_valueOf va8 3 = va8 3 := vo (by decide) (by decide)
  have v12 : f_X8_valueOf va8 12 = va8 12 := vo (by decide) (by decide)
  have ep : va8 1 = p 1 := eq32.mpr (k1.trans (L.v 1 (by decide)).symm)
  rcases E with ⟨rfl, rfl⟩ | E
  · by_cases h : 1 ≤ c.vn ∧ 1 ≤ c.ph
    · obtain ⟨q1, q2⟩ := pl_1 K.ph K.vn L.ph L.vn h.1 h.2
      refine ⟨0, va8 12, va8 3, (-1), 0, 1, 0, 0, 0, 0, 0, 0, 0, 0, 0, 0, 0, 0, 0, 0, 0, 0, vp_updL r2 0 (va8 1).toInt64, p 1, 1, 0, f_X10_clears s, ?_, ?_, rfl, fun _ => by rw [updL_eq, ep], Or.inr ⟨rfl, k12, k3, h.1, h.2, freshS, fresh_wf W h.1, (by show (0 : Int) ≤ 10000000; decide), sw_fresh, rc_fresh F, m_clear⟩⟩
      · have x1 : f_X9_start mode th last chg 0 time pos su st pl stalls aband fin sw wasted qual as going len kept vs ph va8 vn = (0, va8 1, va8 12, va8 3, (-1), 0, 1, 0, 0, 0, 0, 0, 0, 0, 0, 0, 0, 0, 0, 0, 0, 0, 0) := by
        unfold f_X9_start
        rw [rn_0, bnd_p, if_pos rfl, q1, rs_1, bnd_p, if_pos rfl, be_eq, v1, v3, v12]
        rfl
      unfold f_L_start
      rw [x1]
      rfl
      · unfold f_X10_start; rw [if_pos rfl, q2, if_pos rfl]; rfl
    · obtain ⟨q1, q2⟩ := pl_0 W K.ph K.vn L.ph L.vn h
      exact ⟨1, mode, th, last, chg, 0, time, pos, su, st, pl, stalls, aband, fin, sw, wasted, qual, as, going, len, kept, vs, r2, 0, 0, 1, s, by unfold f_L_start f_X9_start; rw [rn_0, bnd_p, if_pos rfl, q1, rs_0, bnd_p, if_neg (by decide)]; rfl, by unfold f_X10_start; rw [if_pos rfl, q2, if_neg one_z]; rfl, rfl, fun q => absurd q (by decide), Or.inl ⟨rfl, rfl⟩⟩
  · have E2 := E
    obtain ⟨rfl, em, et, V, P, σ, S, tb, sq, R, M⟩ := E
    have rn := rn_1 (ne_st S R.state)
    exact ⟨1, mode, th, last, chg, state, time, pos, su, st, pl, stalls, aband, fin, sw, wasted, qual, as, going, len, kept, vs, r2, 0, 1, 1, s, by unfold f_L_start f_X9_start; rw [rn, bnd_p, if_neg (by decide)]; rfl, by unfold f_X10_start; rw [if_neg one_z]; rfl, rfl, fun q => absurd q (by decide), Or.inr E2⟩
theorem a_stop {c : Cf} {mode : Int32} {th : Int32} {last : Int32} {chg : Int32} {state : Int32} {time : Int32} {pos : Int32} {su : Int32} {st : Int32} {pl : Int32} {stalls : Int32} {aband : Int32} {fin : Int32} {sw : Int32} {wasted : Int64} {qual : Int64} {as : Int32} {aa : Nat → Int32} {going : Int32} {track : Int32} {seg : Int32} {rung : Int32} {wait : Int32} {dur : Int32} {need : Int64} {got : Int64} {len : Int32} {sg : Nat → Int32} {kept : Int32} {bits : Nat → Int64} {durs : Nat → Int64} {vs : Int32} {va : Nat → Int32} {va8 : Nat → Int32} {vn : Int32} {vr : Nat → Int32} {an : Int32} {ar : Nat → Int32} {tot : Int32} {ph : Int32} {ln : Nat → Int32} {fl : Nat → Int32} {p : Nat → Int32} {la : Nat → Int32} {ra : Nat → Int32} {pm : Int32} {lm : Nat → Int32} {fm : Nat → Int32} {has : Int32} {s : Nat → Int64} (W : WfC c) (K : CC c va8 vn vr an ar tot ph ln fl) (L : CM c p la ra pm lm fm) (E : SE c mode th last chg state time pos su st pl stalls aband fin sw wasted qual as aa going track seg rung wait dur need got len sg kept bits durs vs va has s) {r2 : Nat → Int64} : ∃ k state2 r b has2 t, f_L_stop state time r2 = some (k, state2, r) ∧ f_X10_stop has s = (b, has2, t) ∧ t = k ∧ (k = 0 → r 0 = b.toInt64) ∧ SE c mode th last chg state2 time pos su st pl stalls aband fin sw wasted qual as aa going track seg rung wait dur need got len sg kept bits durs vs va has2 s := by
  rcases E with ⟨rfl, rfl⟩ | ⟨rfl, em, et, V, P, σ, S, tb, sq, R, M⟩
  · exact ⟨1, 0, r2, 0, 0, 1, by simp [f_L_stop, f_X9_stop, f_X9_requireSession, bnd, bnd3], rfl, rfl, fun q => absurd q (by decide), Or.inl ⟨rfl, rfl⟩⟩
  · have rs := rq_s (ne_st S R.state)
    refine ⟨0, 0, vp_updL r2 0 time.toInt64, (s 0).toInt32, 0, 0, by simp [f_L_stop, f_X9_stop, rs, bnd, bnd3], ?_, rfl, fun _ => by rw [updL_eq, cv (M.time.trans R.time.symm)], Or.inl ⟨rfl, rfl⟩⟩
    unfold f_X10_stop; rw [if_neg one_z]
theorem ms_0 {p : Int32} (h : 0 ≤ p.toInt ∧ p.toInt ≤ 20000) : f_X9_requireMilliseconds p = 0 := by
  unfold f_X9_requireMilliseconds
  rw [if_neg (by rw [lt32]; simp only [Int32.reduceToInt]; omega), if_neg (by rw [lt32]; simp only [Int32.reduceToInt]; omega)]; rfl
theorem ms_2 {p : Int32} (h : ¬ (0 ≤ p.toInt ∧ p.toInt ≤ 20000)) : f_X9_requireMilliseconds p = 2 := by
  unfold f_X9_requireMilliseconds
  by_cases g : p < 0
  · rw [if_pos g]; rfl
  · rw [if_neg g, if_pos]
    · rfl
    · rw [lt32] at g ⊢
      simp only [Int32.reduceToInt] at g ⊢
      omega
theorem in_m {p : Int32} (h : 0 ≤ p.toInt ∧ p.toInt ≤ 20000) : f_X10_in p.toInt64 0 20000 = 1 := in_i h.1 h.2
theorem in_n {p : Int32} (h : ¬ (0 ≤ p.toInt ∧ p.toInt ≤ 20000)) : f_X10_in p.toInt64 0 20000 = 0 := in_o h
theorem a_run {c : Cf} {mode : Int32} {th : Int32} {last : Int32} {chg : Int32} {state : Int32} {time : Int32} {pos : Int32} {su : Int32} {st : Int32} {pl : Int32} {stalls : Int32} {aband : Int32} {fin : Int32} {sw : Int32} {wasted : Int64} {qual : Int64} {as : Int32} {aa : Nat → Int32} {going : Int32} {track : Int32} {seg : Int32} {rung : Int32} {wait : Int32} {dur : Int32} {need : Int64} {got : Int64} {len : Int32} {sg : Nat → Int32} {kept : Int32} {bits : Nat → Int64} {durs : Nat → Int64} {vs : Int32} {va : Nat → Int32} {va8 : Nat → Int32} {vn : Int32} {vr : Nat → Int32} {an : Int32} {ar : Nat → Int32} {tot : Int32} {ph : Int32} {ln : Nat → Int32} {fl : Nat → Int32} {p : Nat → Int32} {la : Nat → Int32} {ra : Nat → Int32} {pm : Int32} {lm : Nat → Int32} {fm : Nat → Int32} {has : Int32} {s : Nat → Int64} (W : WfC c) (K : CC c va8 vn vr an ar tot ph ln fl) (L : CM c p la ra pm lm fm) (E : SE c mode th last chg state time pos su st pl stalls aband fin sw wasted qual as aa going track seg rung wait dur need got len sg kept bits durs vs va has s) {r2 : Nat → Int64} {p1 : Int32} (F : chk sg 300 = true) : ∃ k last3 chg3 state3 time3 pos3 su3 st3 pl3 stalls3 aband3 fin3 sw3 wasted3 qual3 as3 aa3 going3 track3 seg3 rung3 wait3 dur3 need3 got3 len3 sg3 kept3 bits3 durs3 vs3 va3 r b t s2, f_L_run mode th last chg state time pos su st pl stalls aband fin sw wasted qual as aa going track seg rung wait dur need got len sg kept bits durs vs va an ar tot ph ln fl va8 vn vr r2 p1 = some (k, last3, chg3, state3, time3, pos3, su3, st3, pl3, stalls3, aband3, fin3, sw3, wasted3, qual3, as3, aa3, going3, track3, seg3, rung3, wait3, dur3, need3, got3, len3, sg3, kept3, bits3, durs3, vs3, va3, r) ∧ f_X10_run pm has fm la lm s p ra p1 = some (b, t, s2) ∧ t = k ∧ (k = 0 → r 0 = b.toInt64) ∧ SE c mode th last3 chg3 state3 time3 pos3 su3 st3 pl3 stalls3 aband3 fin3 sw3 wasted3 qual3 as3 aa3 going3 track3 seg3 rung3 wait3 dur3 need3 got3 len3 sg3 kept3 bits3 durs3 vs3 va3 has s2 ∧ chk sg3 300 = true := by
  have l3 := L.v 3 (by decide)
  have l12 := L.v 12 (by decide)
  by_cases hm : 0 ≤ p1.toInt ∧ p1.toInt ≤ 20000
  · have c0 := ms_0 hm
    have i0 := in_m hm
    rcases E with ⟨rfl, rfl⟩ | E
    · exact ⟨2, last, chg, 0, time, pos, su, st, pl, stalls, aband, fin, sw, wasted, qual, as, aa, going, track, seg, rung, wait, dur, need, got, len, sg, kept, bits, durs, vs, va, r2, 0, 2, s, by unfold f_L_run f_X9_run; rw [c0, bnd_p, if_pos rfl, rq_0, bnd_p, if_neg (by decide)]; rfl, by unfold f_X10_run; rw [i0, if_neg one_z, if_pos rfl]; rfl, rfl, fun q => absurd q (by decide), Or.inl ⟨rfl, rfl⟩, F⟩
    · have E2 := E
      obtain ⟨rfl, em, et, V, P, σ, S, tb, sq, R, M⟩ := E
      have rs := rq_s (ne_st S R.state)
      have Rt := R.time
      have Mt := M.time
      have t0 := S.t0
      have e1 : (10000000 - p1).toInt = 10000000 - p1.toInt := by rw [sub32 (by simp only [Int32.reduceToInt]; omega) (by simp only [Int32.reduceToInt]; omega)]; rfl
      have e2 : (s 0 + p1.toInt64).toInt = σ.time + p1.toInt := by rw [add64 (by rw [tl]; omega) (by rw [tl]; omega), tl, Mt]
      by_cases g : σ.time + p1.toInt ≤ 10000000
      · obtain ⟨n, hn⟩ : ∃ n : Nat, p1.toInt = n := ⟨p1.toInt.toNat, by omega⟩
        have it := iter_wf W V mode.toInt th.toInt n σ (4 * σ.time) S (by omega) (by omega)
        have isw := sw_iter W V mode.toInt th.toInt n σ (4 * σ.time) S (by omega) (by omega) sq
        obtain ⟨last3, chg3, state3, time3, pos3, su3, st3, pl3, stalls3, aband3, fin3, sw3, wasted3, qual3, as3, aa3, going3, track3, seg3, rung3, wait3, dur3, need3, got3, len3, sg3, kept3, bits3, durs3, vs3, va3, ha, R3⟩ := c_adv W S V K (mode := mode) (th := th) hn (by omega) (by omega) R
        obtain ⟨s2, hg, M3⟩ := m_goes W S V L (mode := p 12) (th := p 3) hn (by omega) (by omega) M
        have g1 : ¬ (10000000 - p1 < time) := by rw [lt32, e1]; omega
        rw [l12, l3, ← em, ← et] at M3
        have hT : 4 * σ.time + 4 * (n : Int) = 4 * (iterS c mode.toInt th.toInt n σ).time := by rw [it.2]; omega
        refine ⟨0, last3, chg3, state3, time3, pos3, su3, st3, pl3, stalls3, aband3, fin3, sw3, wasted3, qual3, as3, aa3, going3, track3, seg3, rung3, wait3, dur3, need3, got3, len3, sg3, kept3, bits3, durs3, vs3, va3, vp_updL r2 0 pos3.toInt64, (s2 1).toInt32, 0, s2, by unfold f_L_run f_X9_run; rw [c0, bnd_p, if_pos rfl, rs, bnd_p, if_pos rfl, if_neg g1, rs_1, bnd_p, if_pos rfl, ha]; rfl, ?_, rfl, fun _ => by rw [updL_eq, cv (M3.pos.trans R3.pos.symm)], Or.inr ⟨rfl, em, et, V, P, iterS c mode.toInt th.toInt n σ, ?_, ?_, isw, R3, M3⟩, R3.ft⟩
        · unfold f_X10_run; rw [i0, if_neg one_z, if_neg one_z, if_pos (by rw [le64, e2]; exact g), hg]; rfl
        · rw [← hT]; exact it.1
        · rw [it.2]; omega
      · have g1 : 10000000 - p1 < time := by rw [lt32, e1]; omega
        exact ⟨2, last, chg, state, time, pos, su, st, pl, stalls, aband, fin, sw, wasted, qual, as, aa, going, track, seg, rung, wait, dur, need, got, len, sg, kept, bits, durs, vs, va, r2, 0, 2, s, by unfold f_L_run f_X9_run; rw [c0, bnd_p, if_pos rfl, rs, bnd_p, if_pos rfl, if_pos g1, rs_0, bnd_p, if_neg (by decide)]; rfl, by unfold f_X10_run; rw [i0, if_neg one_z, if_neg one_z, if_neg (by rw [le64, e2]; exact g)]; rfl, rfl, fun q => absurd q (by decide), Or.inr E2, F⟩
  · exact ⟨1, last, chg, state, time, pos, su, st, pl, stalls, aband, fin, sw, wasted, qual, as, aa, going, track, seg, rung, wait, dur, need, got, len, sg, kept, bits, durs, vs, va, r2, 0, 1, s, by unfold f_L_run f_X9_run; rw [ms_2 hm, bnd_p, if_neg (by decide)]; rfl, by unfold f_X10_run; rw [in_n hm, if_pos rfl]; rfl, rfl, fun q => absurd q (by decide), E, F⟩
theorem cpy_at {α : Type} {f g : Nat → α} {n k : Nat} (h : k < n) : va_cpy f g 0 0 n k = f k := by
  unfold va_cpy
  rw [if_pos ⟨Nat.zero_le _, by omega⟩]
  congr 1
  omega
theorem chk_cpy {f g : Nat → Int32} {n : Nat} (h : chk f n = true) : chk (va_cpy f g 0 0 n) n = true := by
  unfold chk at *
  rw [List.all_eq_true] at *
  intro j hj
  have e : va_cpy f g 0 0 n j = f j := cpy_at (List.mem_range.mp hj)
  show fits .char (.int (va_cpy f g 0 0 n j)) = true
  rw [e]
  exact h j hj
theorem rc_copy {c : Cf} {σ : Ss} {last : Int32} {chg : Int32} {state : Int32} {time : Int32} {pos : Int32} {su : Int32} {st : Int32} {pl : Int32} {stalls : Int32} {aband : Int32} {fin : Int32} {sw : Int32} {wasted : Int64} {qual : Int64} {as : Int32} {aa : Nat → Int32} {going : Int32} {track : Int32} {seg : Int32} {rung : Int32} {wait : Int32} {dur : Int32} {need : Int64} {got : Int64} {len : Int32} {sg : Nat → Int32} {kept : Int32} {bits : Nat → Int64} {durs : Nat → Int64} {vs : Int32} {va : Nat → Int32} {xaa : Nat → Int32} {xsg : Nat → Int32} {xb : Nat → Int64} {xd : Nat → Int64} {xva : Nat → Int32} (R : RC c σ last chg state time pos su st pl stalls aband fin sw wasted qual as aa going track seg rung wait dur need got len sg kept bits durs vs va) (v1 : σ.vs ≤ 200) (a1 : σ.as ≤ 200) (n1 : σ.len ≤ 300) (k1 : σ.kept ≤ 10) : RC c σ last chg state time pos su st pl stalls aband fin sw wasted qual as (va_cpy aa xaa 0 0 200) going track seg rung wait dur need got len (va_cpy sg xsg 0 0 300) kept (va_cpy bits xb 0 0 10) (va_cpy durs xd 0 0 10) vs (va_cpy va xva 0 0 200) :=
  RC.mk (h_last := R.last) (h_chg := R.chg) (h_state := R.state) (h_time := R.time) (h_pos := R.pos) (h_su := R.su) (h_st := R.st) (h_pl := R.pl) (h_stalls := R.stalls) (h_aband := R.aband) (h_fin := R.fin) (h_sw := R.sw) (h_wasted := R.wasted) (h_qual := R.qual) (h_as := R.as) (h_aa := (fun k hk => by { rw [cpy_at (by omega)]; exact R.aa k hk })) (h_going := R.going) (h_track := R.track) (h_seg := R.seg) (h_rung := R.rung) (h_wait := R.wait) (h_dur := R.dur) (h_need := R.need) (h_got := R.got) (h_len := R.len) (h_sg := (fun k hk => by { rw [cpy_at (by omega)]; exact R.sg k hk })) (h_ft := (chk_cpy R.ft)) (h_kept := R.kept) (h_bits := (fun k hk => by { rw [cpy_at (by omega)]; exact R.bits k hk })) (h_durs := (fun k hk => by { rw [cpy_at (by omega)]; exact R.durs k hk })) (h_vs := R.vs) (h_va := (fun k hk => by { rw [cpy_at (by omega)]; exact R.va k hk })) 
theorem c_copy {c : Cf} {σ : Ss} {T : Int} {last : Int32} {chg : Int32} {state : Int32} {time : Int32} {pos : Int32} {su : Int32} {st : Int32} {pl : Int32} {stalls : Int32} {aband : Int32} {fin : Int32} {sw : Int32} {wasted : Int64} {qual : Int64} {as : Int32} {aa : Nat → Int32} {going : Int32} {track : Int32} {seg : Int32} {rung : Int32} {wait : Int32} {dur : Int32} {need : Int64} {got : Int64} {len : Int32} {sg : Nat → Int32} {kept : Int32} {bits : Nat → Int64} {durs : Nat → Int64} {vs : Int32} {va : Nat → Int32} {xaa : Nat → Int32} {xsg : Nat → Int32} {xb : Nat → Int64} {xd : Nat → Int64} {xva : Nat → Int32} {mode th : Int32} (S : WfS c T σ) (R : RC c σ last chg state time pos su st pl stalls aband fin sw wasted qual as aa going track seg rung wait dur need got len sg kept bits durs vs va) : f_X6_copyFrom xaa xsg xb xd xva mode th last chg state time pos su st pl stalls aband fin sw wasted qual as aa going track seg rung wait dur need got len sg kept bits durs vs va = some (mode, th, last, chg, state, time, pos, su, st, pl, stalls, aband, fin, sw, wasted, qual, as, (va_cpy aa xaa 0 0 200), going, track, seg, rung, wait, dur, need, got, len, (va_cpy sg xsg 0 0 300), kept, (va_cpy bits xb 0 0 10), (va_cpy durs xd 0 0 10), vs, (va_cpy va xva 0 0 200)) := by
  have g : isb going = true := by
    unfold isb
    rcases S.g0 with h | h
    · have e : going = 0 := by rw [eq32, R.going, h]; rfl
      rw [e]; rfl
    · have e : going = 1 := by rw [eq32, R.going, h]; rfl
      rw [e]; rfl
  unfold f_X6_copyFrom f_X3_copyFrom f_X1_copyFrom
  rw [grd_t R.ft, grd_t g]
  rfl
theorem rm_congr {c : Cf} {σ : Ss} {s u : Nat → Int64} (M : RM c σ s) (v1 : σ.vs ≤ 200) (a1 : σ.as ≤ 200) (n1 : σ.len ≤ 300) (k1 : σ.kept ≤ 10) (h : ∀ j, j < 760 → u j = s j) : RM c σ u :=
  RM.mk (h_time := (by { rw [h 0 (by omega)]; exact M.time })) (h_pos := (by { rw [h 1 (by omega)]; exact M.pos })) (h_state := (by { rw [h 2 (by omega)]; exact M.state })) (h_vs := (by { rw [h 3 (by omega)]; exact M.vs })) (h_as := (by { rw [h 4 (by omega)]; exact M.as })) (h_going := (by { rw [h 5 (by omega)]; exact M.going })) (h_track := (fun g => by { rw [h 6 (by omega)]; exact M.track g })) (h_seg := (fun g => by { rw [h 7 (by omega)]; exact M.seg g })) (h_rung := (fun g => by { rw [h 8 (by omega)]; exact M.rung g })) (h_wait := (fun g => by { rw [h 9 (by omega)]; exact M.wait g })) (h_dur := (fun g => by { rw [h 10 (by omega)]; exact M.dur g })) (h_got := (fun g => by { rw [h 11 (by omega)]; exact M.got g })) (h_need := (fun g => by { rw [h 12 (by omega)]; exact M.need g })) (h_last := (by { rw [h 13 (by omega)]; exact M.last })) (h_chg := (by { rw [h 14 (by omega)]; exact M.chg })) (h_su := (by { rw [h 15 (by omega)]; exact M.su })) (h_st := (by { rw [h 16 (by omega)]; exact M.st })) (h_pl := (by { rw [h 17 (by omega)]; exact M.pl })) (h_stalls := (by { rw [h 18 (by omega)]; exact M.stalls })) (h_aband := (by { rw [h 19 (by omega)]; exact M.aband })) (h_fin := (by { rw [h 20 (by omega)]; exact M.fin })) (h_wasted := (by { rw [h 21 (by omega)]; exact M.wasted })) (h_qual := (by { rw [h 22 (by omega)]; exact M.qual })) (h_len := (by { rw [h 23 (by omega)]; exact M.len })) (h_kept := (by { rw [h 24 (by omega)]; exact M.kept })) (h_bits := (fun k hk => by { rw [h _ (by omega)]; exact M.bits k hk })) (h_durs := (fun k hk => by { rw [h _ (by omega)]; exact M.durs k hk })) (h_va := (fun k hk => by { rw [h _ (by omega)]; exact M.va k hk })) (h_aa := (fun k hk => by { rw [h _ (by omega)]; exact M.aa k hk })) (h_sg := (fun k hk => by { rw [h _ (by omega)]; exact M.sg k hk })) 
theorem m_copyL {pm : Int32} {fm la lm p ra : Nat → Int32} {s : Nat → Int64} {t p1 p2 : Int32} : ∀ (n k g : Nat) (r : Nat → Int64) (l3 : Int32), k + n = 760 → n < g → l3.toInt = k → (∀ j, j < k → r j = s j) → ∃ u : Nat → Int64, f_X10_forecast_b59 pm fm la lm s p ra g t r p1 p2 l3 = (obnd (f_X10_goesOn pm fm la lm p ra u p1 (p 12) (p 3)) fun (u2 : Nat → Int64) => if p2 = 0 then some ((u2 2).toInt32, t, u2) else if p2 = 1 then some ((u2 1).toInt32, t, u2) else if p2 = 2 then some ((u2 16).toInt32, t, u2) else obnd (f_X10_bufferOf p u2 0) fun (z6 : Int64) => some (z6.toInt32, t, u2)) ∧ ∀ j, j < 760 → u j = s j
  | 0, k, g + 1, r, l3, hk, hg, h3, h => by
    unfold f_X10_forecast_b59
    rw [if_pos (by rw [le32]; simp only [Int32.reduceToInt]; omega)]
    exact ⟨r, rfl, fun j hj => h j (by omega)⟩
  | n + 1, k, g + 1, r, l3, hk, hg, h3, h => by
    have e1 : (l3 + 1).toInt = ((k + 1 : Nat) : Int) := by rw [add32 (by simp only [Int32.reduceToInt]; omega) (by simp only [Int32.reduceToInt]; omega), h3]; rfl
    have en : l3.toNatClampNeg = k := by rw [tn, h3]; omega
    unfold f_X10_forecast_b59
    rw [if_neg (by rw [le32]; simp only [Int32.reduceToInt]; omega), en]
    refine m_copyL n (k + 1) g _ _ (by omega) (by omega) e1 (fun j hj => ?_)
    by_cases q : j = k
    · rw [q, updL_eq]
    · rw [updL_ne q]; exact h j (by omega)
theorem a_forecast {c : Cf} {mode : Int32} {th : Int32} {last : Int32} {chg : Int32} {state : Int32} {time : Int32} {pos : Int32} {su : Int32} {st : Int32} {pl : Int32} {stalls : Int32} {aband : Int32} {fin : Int32} {sw : Int32} {wasted : Int64} {qual : Int64} {as : Int32} {aa : Nat → Int32} {going : Int32} {track : Int32} {seg : Int32} {rung : Int32} {wait : Int32} {dur : Int32} {need : Int64} {got : Int64} {len : Int32} {sg : Nat → Int32} {kept : Int32} {bits : Nat → Int64} {durs : Nat → Int64} {vs : Int32} {va : Nat → Int32} {va8 : Nat → Int32} {vn : Int32} {vr : Nat → Int32} {an : Int32} {ar : Nat → Int32} {tot : Int32} {ph : Int32} {ln : Nat → Int32} {fl : Nat → Int32} {p : Nat → Int32} {la : Nat → Int32} {ra : Nat → Int32} {pm : Int32} {lm : Nat → Int32} {fm : Nat → Int32} {has : Int32} {s : Nat → Int64} (W : WfC c) (K : CC c va8 vn vr an ar tot ph ln fl) (L : CM c p la ra pm lm fm) (E : SE c mode th last chg state time pos su st pl stalls aband fin sw wasted qual as aa going track seg rung wait dur need got len sg kept bits durs vs va has s) {xmode : Int32} {xth : Int32} {x_last : Int32} {x_chg : Int32} {x_state : Int32} {x_time : Int32} {x_pos : Int32} {x_su : Int32} {x_st : Int32} {x_pl : Int32} {x_stalls : Int32} {x_aband : Int32} {x_fin : Int32} {x_sw : Int32} {x_wasted : Int64} {x_qual : Int64} {x_as : Int32} {x_aa : Nat → Int32} {x_going : Int32} {x_track : Int32} {x_seg : Int32} {x_rung : Int32} {x_wait : Int32} {x_dur : Int32} {x_need : Int64} {x_got : Int64} {x_len : Int32} {x_sg : Nat → Int32} {x_kept : Int32} {x_bits : Nat → Int64} {x_durs : Nat → Int64} {x_vs : Int32} {x_va : Nat → Int32} {r2 r42 : Nat → Int64} {p1 p2 : Int32} (F : chk x_sg 300 = true) : ∃ z b t u, f_L_forecast xmode xth x_last x_chg x_state x_time x_pos x_su x_st x_pl x_stalls x_aband x_fin x_sw x_wasted x_qual x_as x_aa x_going x_track x_seg x_rung x_wait x_dur x_need x_got x_len x_sg x_kept x_bits x_durs x_vs x_va mode th last chg state time pos su st pl stalls aband fin sw wasted qual as aa going track seg rung wait dur need got len sg kept bits durs vs va an ar tot ph ln fl va8 vn vr r2 p1 p2 = some z ∧ f_X10_forecast pm has fm la lm s p ra r42 p1 p2 = some (b, t, u) ∧ t = z.1 ∧ (z.1 = 0 → z.2.2.2.2.2.2.2.2.2.2.2.2.2.2.2.2.2.2.2.2.2.2.2.2.2.2.2.2.2.2.2.2.2.2 0 = b.toInt64) ∧ chk z.2.2.2.2.2.2.2.2.2.2.2.2.2.2.2.2.2.2.2.2.2.2.2.2.2.2.2.2.1 300 = true := by
  have l3 := L.v 3 (by decide)
  have l12 := L.v 12 (by decide)
  by_cases hm : 0 ≤ p1.toInt ∧ p1.toInt ≤ 20000
  · have c0 := ms_0 hm
    have i0 := in_m hm
    by_cases hw : 0 ≤ p2.toInt ∧ p2.toInt < 4
    · have c1 : f_X9_requireIndex p2 4 = 0 := ix_c hw.1 (by simp only [Int32.reduceToInt]; omega)
      have i1 : f_X10_in p2.toInt64 0 3 = 1 := in_i (by simp only [Int64.reduceToInt]; omega) (by simp only [Int64.reduceToInt]; omega)
      rcases E with ⟨rfl, rfl⟩ | ⟨rfl, em, et, V, P, σ, S, tb, sq, R, M⟩
      · exact ⟨(3, xmode, xth, x_last, x_chg, x_state, x_time, x_pos, x_su, x_st, x_pl, x_stalls, x_aband, x_fin, x_sw, x_wasted, x_qual, x_as, x_aa, x_going, x_track, x_seg, x_rung, x_wait, x_dur, x_need, x_got, x_len, x_sg, x_kept, x_bits, x_durs, x_vs, x_va, r2), 0, 3, r42, by unfold f_L_forecast f_X9_forecast; rw [c0, bnd_p, if_pos rfl, c1, bnd_p, if_pos rfl, rq_0, bnd_p, if_neg (by decide)]; rfl, by unfold f_X10_forecast; rw [i0, if_neg one_z, i1, if_neg one_z, if_pos rfl], rfl, fun q => absurd q (by show ¬ (3 : Int32) = 0; decide), F⟩
      · have rs := rq_s (ne_st S R.state)
        have m1 := W.m1
        have v1 := S.v1
        have a1 := S.a1
        have n1 := S.n1
        have k1 := S.k1
        have hc := c_copy (xaa := x_aa) (xsg := x_sg) (xb := x_bits) (xd := x_durs) (xva := x_va) (mode := mode) (th := th) S R
        have RR := rc_copy (xaa := x_aa) (xsg := x_sg) (xb := x_bits) (xd := x_durs) (xva := x_va) R (by omega) (by omega) n1 k1
        obtain ⟨n, hn⟩ : ∃ n : Nat, p1.toInt = n := ⟨p1.toInt.toNat, by omega⟩
        have t0 := S.t0
        obtain ⟨last3, chg3, state3, time3, pos3, su3, st3, pl3, stalls3, aband3, fin3, sw3, wasted3, qual3, as3, aa3, going3, track3, seg3, rung3, wait3, dur3, need3, got3, len3, sg3, kept3, bits3, durs3, vs3, va3, ha, R3⟩ := c_adv W S V K (mode := mode) (th := th) hn (by omega) (by omega) RR
        obtain ⟨u, hu, eu⟩ := m_copyL (pm := pm) (fm := fm) (la := la) (lm := lm) (p := p) (ra := ra) (s := s) (t := 0) (p1 := p1) (p2 := p2) 760 0 ((((760 : Int32).toInt - (0 : Int32).toInt).toNat) + 1) r42 0 (by omega) (by decide) rfl (fun j hj => absurd hj (Nat.not_lt_zero _))
        have MM := rm_congr M (by omega) (by omega) n1 k1 eu
        obtain ⟨s2, hg, M3⟩ := m_goes W S V L (mode := p 12) (th := p 3) hn (by omega) (by omega) MM
        rw [l12, l3, ← em, ← et] at M3
        have it := iter_wf W V mode.toInt th.toInt n σ (4 * σ.time) S (by omega) (by omega)
        rw [hg, obnd_some] at hu
        have key : f_X10_forecast pm 1 fm la lm s p ra r42 p1 p2 = (if p2 = 0 then some ((s2 2).toInt32, 0, s2) else if p2 = 1 then some ((s2 1).toInt32, 0, s2) else if p2 = 2 then some ((s2 16).toInt32, 0, s2) else obnd (f_X10_bufferOf p s2 0) fun (z6 : Int64) => some (z6.toInt32, 0, s2)) := by
          unfold f_X10_forecast; rw [i0, if_neg one_z, i1, if_neg one_z, if_neg one_z]; exact hu
        have x1 : f_X9_forecast xmode xth x_last x_chg x_state x_time x_pos x_su x_st x_pl x_stalls x_aband x_fin x_sw x_wasted x_qual x_as x_aa x_going x_track x_seg x_rung x_wait x_dur x_need x_got x_len x_sg x_kept x_bits x_durs x_vs x_va mode th last chg state time pos su st pl stalls aband fin sw wasted qual as aa going track seg rung wait dur need got len sg kept bits durs vs va an ar tot ph ln fl va8 vn vr p1 p2 = (if p2 = 0 then some (0, state3, mode, th, last3, chg3, state3, time3, pos3, su3, st3, pl3, stalls3, aband3, fin3, sw3, wasted3, qual3, as3, aa3, going3, track3, seg3, rung3, wait3, dur3, need3, got3, len3, sg3, kept3, bits3, durs3, vs3, va3) else if p2 = 1 then some (0, pos3, mode, th, last3, chg3, state3, time3, pos3, su3, st3, pl3, stalls3, aband3, fin3, sw3, wasted3, qual3, as3, aa3, going3, track3, seg3, rung3, wait3, dur3, need3, got3, len3, sg3, kept3, bits3, durs3, vs3, va3) else if p2 = 2 then some (0, st3, mode, th, last3, chg3, state3, time3, pos3, su3, st3, pl3, stalls3, aband3, fin3, sw3, wasted3, qual3, as3, aa3, going3, track3, seg3, rung3, wait3, dur3, need3, got3, len3, sg3, kept3, bits3, durs3, vs3, va3) else some (0, f_X6_bufferOf_0 pos3 va8 vn vs3, mode, th, last3, chg3, state3, time3, pos3, su3, st3, pl3, stalls3, aband3, fin3, sw3, wasted3, qual3, as3, aa3, going3, track3, seg3, rung3, wait3, dur3, need3, got3, len3, sg3, kept3, bits3, durs3, vs3, va3)) := by
          unfold f_X9_forecast
          rw [c0, bnd_p, if_pos rfl, c1, bnd_p, if_pos rfl, rs, bnd_p, if_pos rfl, hc]
          show (obnd31 (f_X6_advance mode th last chg state time pos su st pl stalls aband fin sw wasted qual as (va_cpy aa x_aa 0 0 200) going track seg rung wait dur need got len (va_cpy sg x_sg 0 0 300) kept (va_cpy bits x_bits 0 0 10) (va_cpy durs x_durs 0 0 10) an ar tot ph ln fl va8 vn vr vs (va_cpy va x_va 0 0 200) p1) _) = _
          rw [ha]
          rfl
        have e : p2.toInt = 0 ∨ p2.toInt = 1 ∨ p2.toInt = 2 ∨ p2.toInt = 3 := by omega
        rcases e with e | e | e | e
        · have e : p2 = 0 := eq32.mpr e
          subst e
          exact ⟨(0, mode, th, last3, chg3, state3, time3, pos3, su3, st3, pl3, stalls3, aband3, fin3, sw3, wasted3, qual3, as3, aa3, going3, track3, seg3, rung3, wait3, dur3, need3, got3, len3, sg3, kept3, bits3, durs3, vs3, va3, vp_updL r2 0 (state3).toInt64), (s2 2).toInt32, 0, s2, by unfold f_L_forecast; rw [x1, if_pos rfl]; rfl, by rw [key, if_pos rfl], rfl, fun _ => by { show vp_updL r2 0 (state3).toInt64 0 = _; rw [updL_eq, cv (M3.state.trans R3.state.symm)] }, R3.ft⟩
        · have e : p2 = 1 := eq32.mpr e
          subst e
          exact ⟨(0, mode, th, last3, chg3, state3, time3, pos3, su3, st3, pl3, stalls3, aband3, fin3, sw3, wasted3, qual3, as3, aa3, going3, track3, seg3, rung3, wait3, dur3, need3, got3, len3, sg3, kept3, bits3, durs3, vs3, va3, vp_updL r2 0 (pos3).toInt64), (s2 1).toInt32, 0, s2, by unfold f_L_forecast; rw [x1, if_neg (by decide), if_pos rfl]; rfl, by rw [key, if_neg (by decide), if_pos rfl], rfl, fun _ => by { show vp_updL r2 0 (pos3).toInt64 0 = _; rw [updL_eq, cv (M3.pos.trans R3.pos.symm)] }, R3.ft⟩
        · have e : p2 = 2 := eq32.mpr e
          subst e
          exact ⟨(0, mode, th, last3, chg3, state3, time3, pos3, su3, st3, pl3, stalls3, aband3, fin3, sw3, wasted3, qual3, as3, aa3, going3, track3, seg3, rung3, wait3, dur3, need3, got3, len3, sg3, kept3, bits3, durs3, vs3, va3, vp_updL r2 0 (st3).toInt64), (s2 16).toInt32, 0, s2, by unfold f_L_forecast; rw [x1, if_neg (by decide), if_neg (by decide), if_pos rfl]; rfl, by rw [key, if_neg (by decide), if_neg (by decide), if_pos rfl], rfl, fun _ => by { show vp_updL r2 0 (st3).toInt64 0 = _; rw [updL_eq, cv (M3.st.trans R3.st.symm)] }, R3.ft⟩
        · have e : p2 = 3 := eq32.mpr e
          subst e
          obtain ⟨y, hy, ey⟩ := m_buf0 W it.1 L M3
          have eb := c_buf0 W it.1 V (K.v 0 (by decide)) R3.pos K.vn R3.vs
          exact ⟨(0, mode, th, last3, chg3, state3, time3, pos3, su3, st3, pl3, stalls3, aband3, fin3, sw3, wasted3, qual3, as3, aa3, going3, track3, seg3, rung3, wait3, dur3, need3, got3, len3, sg3, kept3, bits3, durs3, vs3, va3, vp_updL r2 0 (f_X6_bufferOf_0 pos3 va8 vn vs3).toInt64), y.toInt32, 0, s2, by unfold f_L_forecast; rw [x1, if_neg (by decide), if_neg (by decide), if_neg (by decide)]; rfl, by rw [key, if_neg (by decide), if_neg (by decide), if_neg (by decide), hy]; rfl, rfl, fun _ => by { show vp_updL r2 0 (f_X6_bufferOf_0 pos3 va8 vn vs3).toInt64 0 = _; rw [updL_eq, cv (ey.trans eb.symm)] }, R3.ft⟩
    · have c1 : f_X9_requireIndex p2 4 = 1 := ix_b (by simp only [Int32.reduceToInt]; omega)
      have i1 : f_X10_in p2.toInt64 0 3 = 0 := in_o (by simp only [Int64.reduceToInt]; omega)
      exact ⟨(2, xmode, xth, x_last, x_chg, x_state, x_time, x_pos, x_su, x_st, x_pl, x_stalls, x_aband, x_fin, x_sw, x_wasted, x_qual, x_as, x_aa, x_going, x_track, x_seg, x_rung, x_wait, x_dur, x_need, x_got, x_len, x_sg, x_kept, x_bits, x_durs, x_vs, x_va, r2), 0, 2, r42, by unfold f_L_forecast f_X9_forecast; rw [c0, bnd_p, if_pos rfl, c1, bnd_p, if_neg (by decide)]; rfl, by unfold f_X10_forecast; rw [i0, if_neg one_z, i1, if_pos rfl], rfl, fun q => absurd q (by show ¬ (2 : Int32) = 0; decide), F⟩
  · exact ⟨(1, xmode, xth, x_last, x_chg, x_state, x_time, x_pos, x_su, x_st, x_pl, x_stalls, x_aband, x_fin, x_sw, x_wasted, x_qual, x_as, x_aa, x_going, x_track, x_seg, x_rung, x_wait, x_dur, x_need, x_got, x_len, x_sg, x_kept, x_bits, x_durs, x_vs, x_va, r2), 0, 1, r42, by unfold f_L_forecast f_X9_forecast; rw [ms_2 hm, bnd_p, if_neg (by decide)]; rfl, by unfold f_X10_forecast; rw [in_n hm, if_pos rfl], rfl, fun q => absurd q (by show ¬ (1 : Int32) = 0; decide), F⟩
