/-! what a call that only looks answers: counts, scores, the time line -/
theorem m_cntL {c : Cf} {σ : Ss} {s : Nat → Int64} (M : RM c σ s) (v0 : 0 ≤ σ.vs) (v1 : σ.vs ≤ 200) : ∀ (m k g : Nat) (l2 l3 : Int32), k + m = σ.vs.toNat → m < g → 1 ≤ k → l3.toInt = k → l2.toInt = swN σ.va k → ∃ z, f_X10_counted_b20 s g l2 l3 = some z ∧ z.toInt = swN σ.va σ.vs.toNat
  | 0, k, g + 1, l2, l3, hk, hg, h1, h3, h2 => by
    have e := M.vs
    unfold f_X10_counted_b20
    rw [if_pos (by rw [le64, tl]; omega)]
    have ek : k = σ.vs.toNat := by omega
    exact ⟨_, rfl, by rw [h2, ek]⟩
  | m + 1, k, g + 1, l2, l3, hk, hg, h1, h3, h2 => by
    have e := M.vs
    have b := swN_b (f := σ.va) k
    have e5 : (50 + l3).toInt = 50 + k := by rw [add32 (by simp only [Int32.reduceToInt]; omega) (by simp only [Int32.reduceToInt]; omega), h3]; rfl
    have e4 : ((50 + l3) - 1).toInt = 50 + ((k - 1 : Nat) : Int) := by rw [sub32 (by simp only [Int32.reduceToInt]; omega) (by simp only [Int32.reduceToInt]; omega), e5]; simp only [Int32.reduceToInt]; omega
    have n5 : (50 + l3).toNatClampNeg = 50 + k := by rw [tn, e5]; omega
    have n4 : ((50 + l3) - 1).toNatClampNeg = 50 + (k - 1) := by rw [tn, e4]; omega
    have a5 := M.va k (by omega)
    have a4 := M.va (k - 1) (by omega)
    have e1 : (l3 + 1).toInt = ((k + 1 : Nat) : Int) := by rw [add32 (by simp only [Int32.reduceToInt]; omega) (by simp only [Int32.reduceToInt]; omega), h3]; rfl
    unfold f_X10_counted_b20
    rw [if_neg (by rw [le64, tl]; omega), grd_v (by omega) (by omega), grd_v (by omega) (by omega), n5, n4]
    by_cases h : σ.va k = σ.va (k - 1)
    · rw [if_pos (by rw [eq64, a5, a4]; exact h)]
      refine m_cntL M v0 v1 m (k + 1) g _ _ (by omega) (by omega) (by omega) e1 ?_
      rw [add32 (by simp only [Int32.reduceToInt]; omega) (by simp only [Int32.reduceToInt]; omega), h2]
      conv => { rhs; unfold swN }
      rw [if_neg (fun q => q.2 h)]; rfl
    · rw [if_neg (by rw [eq64, a5, a4]; exact h)]
      refine m_cntL M v0 v1 m (k + 1) g _ _ (by omega) (by omega) (by omega) e1 ?_
      rw [add32 (by simp only [Int32.reduceToInt]; omega) (by simp only [Int32.reduceToInt]; omega), h2]
      conv => { rhs; unfold swN }
      rw [if_pos ⟨h1, h⟩]; rfl
theorem m_counted {c : Cf} {σ : Ss} {T : Int} {last : Int32} {chg : Int32} {state : Int32} {time : Int32} {pos : Int32} {su : Int32} {st : Int32} {pl : Int32} {stalls : Int32} {aband : Int32} {fin : Int32} {sw : Int32} {wasted : Int64} {qual : Int64} {as : Int32} {aa : Nat → Int32} {going : Int32} {track : Int32} {seg : Int32} {rung : Int32} {wait : Int32} {dur : Int32} {need : Int64} {got : Int64} {len : Int32} {sg : Nat → Int32} {kept : Int32} {bits : Nat → Int64} {durs : Nat → Int64} {vs : Int32} {va : Nat → Int32} {s : Nat → Int64} (S : WfS c T σ) (m1 : c.v 1 ≤ 200) (sq : SW σ) (R : RC c σ last chg state time pos su st pl stalls aband fin sw wasted qual as aa going track seg rung wait dur need got len sg kept bits durs vs va) (M : RM c σ s) {p1 : Int32} (h0 : 0 ≤ p1.toInt) (h1 : p1.toInt < 4) : ∃ y, f_X10_counted s p1 = some y ∧ y = f_X0_eventsOf stalls aband fin sw p1 := by
  have e : p1.toInt = 0 ∨ p1.toInt = 1 ∨ p1.toInt = 2 ∨ p1.toInt = 3 := by omega
  have v0 := S.v0
  have v1 := S.v1
  have ev := M.vs
  rcases e with e | e | e | e
  · have e : p1 = 0 := eq32.mpr e
    subst e
    refine ⟨(s 18).toInt32, ?_, ?_⟩
    · unfold f_X10_counted; rw [if_neg (by decide), grd_v (by decide) (by decide)]; rfl
    · unfold f_X0_eventsOf; rw [if_pos rfl]; exact cv (M.stalls.trans R.stalls.symm)
  · have e : p1 = 1 := eq32.mpr e
    subst e
    refine ⟨(s 19).toInt32, ?_, ?_⟩
    · unfold f_X10_counted; rw [if_neg (by decide), grd_v (by decide) (by decide)]; rfl
    · unfold f_X0_eventsOf; rw [if_neg (by decide), if_pos rfl]; exact cv (M.aband.trans R.aband.symm)
  · have e : p1 = 2 := eq32.mpr e
    subst e
    refine ⟨(s 20).toInt32, ?_, ?_⟩
    · unfold f_X10_counted; rw [if_neg (by decide), grd_v (by decide) (by decide)]; rfl
    · unfold f_X0_eventsOf; rw [if_neg (by decide), if_neg (by decide), if_pos rfl]; exact cv (M.fin.trans R.fin.symm)
  · have e : p1 = 3 := eq32.mpr e
    subst e
    have key : ∃ z, f_X10_counted_b20 s ((((s 3).toInt - (1 : Int32).toInt).toNat) + 1) 0 1 = some z ∧ z.toInt = swN σ.va σ.vs.toNat := by
      by_cases g : 1 ≤ σ.vs
      · exact m_cntL M v0 (by omega) (σ.vs.toNat - 1) 1 _ 0 1 (by omega) (by simp only [Int32.reduceToInt]; omega) (by omega) rfl (by unfold swN; rw [if_neg (fun q => absurd q.1 (by decide))]; rfl)
      · have z0 : σ.vs.toNat = 0 := by omega
        unfold f_X10_counted_b20
        rw [if_pos (by rw [le64, tl]; simp only [Int32.reduceToInt]; omega), z0]
        exact ⟨_, rfl, rfl⟩
    obtain ⟨z, hz, ez⟩ := key
    refine ⟨z, ?_, ?_⟩
    · unfold f_X10_counted; rw [if_pos (by decide), grd_t (decide_eq_true (by omega))]; exact hz
    · unfold f_X0_eventsOf; rw [if_neg (by decide), if_neg (by decide), if_neg (by decide), eq32, ez, R.sw]; exact sq.symm
theorem a_count {c : Cf} {mode : Int32} {th : Int32} {last : Int32} {chg : Int32} {state : Int32} {time : Int32} {pos : Int32} {su : Int32} {st : Int32} {pl : Int32} {stalls : Int32} {aband : Int32} {fin : Int32} {sw : Int32} {wasted : Int64} {qual : Int64} {as : Int32} {aa : Nat → Int32} {going : Int32} {track : Int32} {seg : Int32} {rung : Int32} {wait : Int32} {dur : Int32} {need : Int64} {got : Int64} {len : Int32} {sg : Nat → Int32} {kept : Int32} {bits : Nat → Int64} {durs : Nat → Int64} {vs : Int32} {va : Nat → Int32} {va8 : Nat → Int32} {vn : Int32} {vr : Nat → Int32} {an : Int32} {ar : Nat → Int32} {tot : Int32} {ph : Int32} {ln : Nat → Int32} {fl : Nat → Int32} {p : Nat → Int32} {la : Nat → Int32} {ra : Nat → Int32} {pm : Int32} {lm : Nat → Int32} {fm : Nat → Int32} {has : Int32} {s : Nat → Int64} (W : WfC c) (K : CC c va8 vn vr an ar tot ph ln fl) (L : CM c p la ra pm lm fm) (E : SE c mode th last chg state time pos su st pl stalls aband fin sw wasted qual as aa going track seg rung wait dur need got len sg kept bits durs vs va has s) {r2 : Nat → Int64} {p1 : Int32} : Ag (f_L_count state stalls aband fin sw r2 p1) (f_X10_count has s p1) := by
  by_cases hp : 0 ≤ p1.toInt ∧ p1.toInt < 4
  · have ix : f_X9_requireIndex p1 4 = 0 := ix_c hp.1 (by simp only [Int32.reduceToInt]; omega)
    have im : f_X10_in p1.toInt64 0 3 = 1 := in_i (by simp only [Int64.reduceToInt]; omega) (by simp only [Int64.reduceToInt]; omega)
    rcases E with ⟨rfl, rfl⟩ | ⟨rfl, em, et, V, P, σ, S, tb, sq, R, M⟩
    · exact ⟨2, r2, 0, 2, by simp [f_L_count, f_X9_count, ix, f_X9_requireSession, bnd, bnd2], by simp [f_X10_count, im, f_X10_isWrong, bnd2, one_z], rfl, fun q => absurd q (by decide)⟩
    · have h1 := ne_st S R.state
      have rs := rq_s h1
      have iw : f_X10_isWrong 1 1 = (0, 0) := rfl
      have m1 := W.m1
      obtain ⟨y, hy, ey⟩ := m_counted S m1 sq R M hp.1 (by omega)
      refine ⟨0, vp_updL r2 0 (f_X0_eventsOf stalls aband fin sw p1).toInt64, y, 0, by simp [f_L_count, f_X9_count, ix, rs, bnd, bnd2], ?_, rfl, fun _ => ?_⟩
      · unfold f_X10_count
        rw [im, iw]
        simp only [bnd2, if_true]
        rw [hy]; rfl
      · rw [updL_eq, ey]
  · have ix : f_X9_requireIndex p1 4 = 1 := ix_b (by simp only [Int32.reduceToInt]; omega)
    have im : f_X10_in p1.toInt64 0 3 = 0 := in_o (by simp only [Int64.reduceToInt]; omega)
    exact ⟨1, r2, 0, 1, by simp [f_L_count, f_X9_count, ix, bnd, bnd2], by simp [f_X10_count, im, f_X10_isWrong, bnd2, one_z], rfl, fun q => absurd q (by decide)⟩
theorem m_score {c : Cf} {σ : Ss} {last : Int32} {chg : Int32} {state : Int32} {time : Int32} {pos : Int32} {su : Int32} {st : Int32} {pl : Int32} {stalls : Int32} {aband : Int32} {fin : Int32} {sw : Int32} {wasted : Int64} {qual : Int64} {as : Int32} {aa : Nat → Int32} {going : Int32} {track : Int32} {seg : Int32} {rung : Int32} {wait : Int32} {dur : Int32} {need : Int64} {got : Int64} {len : Int32} {sg : Nat → Int32} {kept : Int32} {bits : Nat → Int64} {durs : Nat → Int64} {vs : Int32} {va : Nat → Int32} {s : Nat → Int64} {va8 : Nat → Int32} {vn : Int32} {vr : Nat → Int32} {an : Int32} {ar : Nat → Int32} {tot : Int32} {ph : Int32} {ln : Nat → Int32} {fl : Nat → Int32} {p : Nat → Int32} {la : Nat → Int32} {ra : Nat → Int32} {pm : Int32} {lm : Nat → Int32} {fm : Nat → Int32} (W : WfC c) (V : 1 ≤ c.vn) (K : CC c va8 vn vr an ar tot ph ln fl) (L : CM c p la ra pm lm fm) (R : RC c σ last chg state time pos su st pl stalls aband fin sw wasted qual as aa going track seg rung wait dur need got len sg kept bits durs vs va) (M : RM c σ s) : f_X10_scoreOf la ra s = some (f_X6_points su st pl qual vn vr) := by
  have n1 := W.vn1
  have lv := L.vn
  have kv := K.vn
  have e1 : (la 0 - 1).toInt = c.vn - 1 := by rw [sub32 (by simp only [Int32.reduceToInt]; omega) (by simp only [Int32.reduceToInt]; omega), lv]; rfl
  have e2 : (vn - 1).toInt = c.vn - 1 := by rw [sub32 (by simp only [Int32.reduceToInt]; omega) (by simp only [Int32.reduceToInt]; omega), kv]; rfl
  have x1 := L.vr (c.vn - 1).toNat (by omega)
  have x2 := K.vr (c.vn - 1).toNat (by omega)
  have ea : (6 * (0 : Int32).toInt + ((la 0 - 1).toInt64).toInt).toNat = (c.vn - 1).toNat := by rw [tl, e1]; simp only [Int32.reduceToInt]; omega
  have et : f_X2_topRate vn vr = ra (c.vn - 1).toNat := by
    unfold f_X2_topRate
    rw [ro (by omega) (by omega), e2, eq32, x1, x2]
  unfold f_X10_scoreOf f_X6_points
  rw [m_rate (by decide) (by decide) (by rw [tl]; omega) (by rw [tl]; omega), ea, et]
  have es : (f_X0_timeSpent su st pl 1).toInt64 = s 16 := cvl (M.st.trans R.st.symm)
  simp only [obnd, bnd]
  rw [es, M.qual, R.qual]
theorem a_score {c : Cf} {mode : Int32} {th : Int32} {last : Int32} {chg : Int32} {state : Int32} {time : Int32} {pos : Int32} {su : Int32} {st : Int32} {pl : Int32} {stalls : Int32} {aband : Int32} {fin : Int32} {sw : Int32} {wasted : Int64} {qual : Int64} {as : Int32} {aa : Nat → Int32} {going : Int32} {track : Int32} {seg : Int32} {rung : Int32} {wait : Int32} {dur : Int32} {need : Int64} {got : Int64} {len : Int32} {sg : Nat → Int32} {kept : Int32} {bits : Nat → Int64} {durs : Nat → Int64} {vs : Int32} {va : Nat → Int32} {va8 : Nat → Int32} {vn : Int32} {vr : Nat → Int32} {an : Int32} {ar : Nat → Int32} {tot : Int32} {ph : Int32} {ln : Nat → Int32} {fl : Nat → Int32} {p : Nat → Int32} {la : Nat → Int32} {ra : Nat → Int32} {pm : Int32} {lm : Nat → Int32} {fm : Nat → Int32} {has : Int32} {s : Nat → Int64} (W : WfC c) (K : CC c va8 vn vr an ar tot ph ln fl) (L : CM c p la ra pm lm fm) (E : SE c mode th last chg state time pos su st pl stalls aband fin sw wasted qual as aa going track seg rung wait dur need got len sg kept bits durs vs va has s) {r2 : Nat → Int64}  : Al (f_L_score state su st pl qual vn vr r2) (f_X10_score has la s ra) := by
  rcases E with ⟨rfl, rfl⟩ | ⟨rfl, em, et, V, P, σ, S, tb, sq, R, M⟩
  · exact ⟨1, r2, 0, 1, by simp [f_L_score, f_X9_score, f_X9_requireSession, bnd, bnd2], by simp [f_X10_score], rfl, fun q => absurd q (by decide)⟩
  · have rs := rq_s (ne_st S R.state)
    have e := m_score W V K L R M
    refine ⟨0, vp_updL r2 0 (f_X6_points su st pl qual vn vr), f_X6_points su st pl qual vn vr, 0, by simp [f_L_score, f_X9_score, rs, bnd, bnd2], by simp [f_X10_score, e, obnd, one_z], rfl, fun _ => ?_⟩
    rw [updL_eq]
theorem nn_c {p : Int32} (h : 0 ≤ p.toInt) : f_X9_requireNotNegative p = 0 := if_pos (by rw [le32]; simp only [Int32.reduceToInt]; omega)
theorem nn_b {p : Int32} (h : ¬ 0 ≤ p.toInt) : f_X9_requireNotNegative p = 1 := if_neg (by rw [le32]; simp only [Int32.reduceToInt]; omega)
theorem a_timeLine {c : Cf} {mode : Int32} {th : Int32} {last : Int32} {chg : Int32} {state : Int32} {time : Int32} {pos : Int32} {su : Int32} {st : Int32} {pl : Int32} {stalls : Int32} {aband : Int32} {fin : Int32} {sw : Int32} {wasted : Int64} {qual : Int64} {as : Int32} {aa : Nat → Int32} {going : Int32} {track : Int32} {seg : Int32} {rung : Int32} {wait : Int32} {dur : Int32} {need : Int64} {got : Int64} {len : Int32} {sg : Nat → Int32} {kept : Int32} {bits : Nat → Int64} {durs : Nat → Int64} {vs : Int32} {va : Nat → Int32} {va8 : Nat → Int32} {vn : Int32} {vr : Nat → Int32} {an : Int32} {ar : Nat → Int32} {tot : Int32} {ph : Int32} {ln : Nat → Int32} {fl : Nat → Int32} {p : Nat → Int32} {la : Nat → Int32} {ra : Nat → Int32} {pm : Int32} {lm : Nat → Int32} {fm : Nat → Int32} {has : Int32} {s : Nat → Int64} (W : WfC c) (K : CC c va8 vn vr an ar tot ph ln fl) (L : CM c p la ra pm lm fm) (E : SE c mode th last chg state time pos su st pl stalls aband fin sw wasted qual as aa going track seg rung wait dur need got len sg kept bits durs vs va has s) {r2 : Nat → Int64} {p1 : Int32} : Ag (f_L_timeLine state len sg r2 p1) (f_X10_timeLine has s p1) := by
  by_cases hp : 0 ≤ p1.toInt
  · have ix := nn_c hp
    have ng : ¬ p1 < 0 := by rw [lt32]; simp only [Int32.reduceToInt]; omega
    rcases E with ⟨rfl, rfl⟩ | ⟨rfl, em, et, V, P, σ, S, tb, sq, R, M⟩
    · exact ⟨2, r2, 0, 2, by simp [f_L_timeLine, f_X9_timeLine, ix, f_X9_requireSession, bnd, bnd2], by unfold f_X10_timeLine; rw [if_neg ng]; simp [f_X10_isWrong, bnd2, one_z], rfl, fun q => absurd q (by decide)⟩
    · have rs := rq_s (ne_st S R.state)
      have iw : f_X10_isWrong 1 1 = (0, 0) := rfl
      have n1 := S.n1
      have Ml := M.len
      have Rl := R.len
      by_cases h : σ.len ≤ p1.toInt
      · have sa : f_X3_signAt len sg p1 = -1 := by unfold f_X3_signAt; rw [if_neg ng, if_pos (by rw [le32]; omega)]
        refine ⟨0, vp_updL r2 0 (f_X3_signAt len sg p1).toInt64, -1, 0, by simp [f_L_timeLine, f_X9_timeLine, ix, rs, bnd, bnd2], ?_, rfl, fun _ => ?_⟩
        · unfold f_X10_timeLine; rw [if_neg ng, iw]; simp only [bnd2, if_true]; rw [if_pos (by rw [le64, tl]; omega)]
        · rw [updL_eq, sa]
      · have sa : f_X3_signAt len sg p1 = sg p1.toInt.toNat := by unfold f_X3_signAt; rw [if_neg ng, if_neg (by rw [le32]; omega), if_neg (by rw [le32]; simp only [Int32.reduceToInt]; omega)]; rfl
        have e4 : (450 + p1).toInt = 450 + p1.toInt := by rw [add32 (by simp only [Int32.reduceToInt]; omega) (by simp only [Int32.reduceToInt]; omega)]; rfl
        have en : (450 + p1).toNatClampNeg = 450 + p1.toInt.toNat := by rw [tn, e4]; omega
        refine ⟨0, vp_updL r2 0 (f_X3_signAt len sg p1).toInt64, (s (450 + p1.toInt.toNat)).toInt32, 0, by simp [f_L_timeLine, f_X9_timeLine, ix, rs, bnd, bnd2], ?_, rfl, fun _ => ?_⟩
        · unfold f_X10_timeLine; rw [if_neg ng, iw]; simp only [bnd2, if_true]; rw [if_neg (by rw [le64, tl]; omega), grd_v (by omega) (by omega), en]
        · rw [updL_eq, sa, cv ((M.sg _ (by omega)).trans (R.sg _ (by omega)).symm)]
  · have ix := nn_b hp
    have ng : p1 < 0 := by rw [lt32]; simp only [Int32.reduceToInt]; omega
    exact ⟨1, r2, 0, 1, by simp [f_L_timeLine, f_X9_timeLine, ix, bnd, bnd2], by unfold f_X10_timeLine; rw [if_pos ng]; simp [f_X10_isWrong, bnd2, one_z], rfl, fun q => absurd q (by decide)⟩
theorem a_rungOf {c : Cf} {mode : Int32} {th : Int32} {last : Int32} {chg : Int32} {state : Int32} {time : Int32} {pos : Int32} {su : Int32} {st : Int32} {pl : Int32} {stalls : Int32} {aband : Int32} {fin : Int32} {sw : Int32} {wasted : Int64} {qual : Int64} {as : Int32} {aa : Nat → Int32} {going : Int32} {track : Int32} {seg : Int32} {rung : Int32} {wait : Int32} {dur : Int32} {need : Int64} {got : Int64} {len : Int32} {sg : Nat → Int32} {kept : Int32} {bits : Nat → Int64} {durs : Nat → Int64} {vs : Int32} {va : Nat → Int32} {va8 : Nat → Int32} {vn : Int32} {vr : Nat → Int32} {an : Int32} {ar : Nat → Int32} {tot : Int32} {ph : Int32} {ln : Nat → Int32} {fl : Nat → Int32} {p : Nat → Int32} {la : Nat → Int32} {ra : Nat → Int32} {pm : Int32} {lm : Nat → Int32} {fm : Nat → Int32} {has : Int32} {s : Nat → Int64} (W : WfC c) (K : CC c va8 vn vr an ar tot ph ln fl) (L : CM c p la ra pm lm fm) (E : SE c mode th last chg state time pos su st pl stalls aband fin sw wasted qual as aa going track seg rung wait dur need got len sg kept bits durs vs va has s) {r2 : Nat → Int64} {p1 : Int32} {p2 : Int32} : Ag (f_L_rungOf state as aa vs va r2 p1 p2) (f_X10_rungOf has s p1 p2) := by
  by_cases hp : 0 ≤ p1.toInt ∧ p1.toInt < 2
  · have ix : f_X9_requireIndex p1 2 = 0 := ix_c hp.1 (by simp only [Int32.reduceToInt]; omega)
    have im : f_X10_in p1.toInt64 0 1 = 1 := in_i (by simp only [Int64.reduceToInt]; omega) (by simp only [Int64.reduceToInt]; omega)
    by_cases hq : 0 ≤ p2.toInt
    · have iy := nn_c hq
      have ng : ¬ p2 < 0 := by rw [lt32]; simp only [Int32.reduceToInt]; omega
      rcases E with ⟨rfl, rfl⟩ | ⟨rfl, em, et, V, P, σ, S, tb, sq, R, M⟩
      · exact ⟨2, r2, 0, 2, by simp [f_L_rungOf, f_X9_rungOf, ix, iy, f_X9_requireSession, bnd, bnd2], by unfold f_X10_rungOf; rw [im, if_neg one_z, if_neg ng]; simp [f_X10_isWrong, bnd2, one_z], rfl, fun q => absurd q (by decide)⟩
      · have rs := rq_s (ne_st S R.state)
        have iw : f_X10_isWrong 1 1 = (0, 0) := rfl
        have m1 := W.m1
        have v1 := S.v1
        have a1 := S.a1
        have Mv := M.vs
        have Ma := M.as
        have Rv := R.vs
        have Ra := R.as
        have e : p1.toInt = 0 ∨ p1.toInt = 1 := by omega
        rcases e with e | e
        · have e : p1 = 0 := eq32.mpr e
          subst e
          by_cases h : σ.vs ≤ p2.toInt
          · have sa : f_X7_rungAt vs va p2 = -1 := by unfold f_X7_rungAt; rw [if_neg ng, if_pos (by rw [le32]; omega)]
            refine ⟨0, vp_updL r2 0 (f_X7_rungAt vs va p2).toInt64, -1, 0, by simp [f_L_rungOf, f_X9_rungOf, ix, iy, rs, bnd, bnd2, one_z], ?_, rfl, fun _ => ?_⟩
            · unfold f_X10_rungOf; rw [im, if_neg one_z, if_neg ng, iw]; simp only [bnd2, if_true]; rw [grd_v (by decide) (by decide)]; exact if_pos (by rw [le64, tl]; show (s 3).toInt ≤ _; omega)
            · rw [updL_eq, sa]
          · have sa : f_X7_rungAt vs va p2 = va p2.toInt.toNat := c_at7 R.vs (by omega) hq (by omega)
            have e4 : ((50 + (200 * 0)) + p2).toInt = 50 + p2.toInt := by rw [add32 (by simp only [show ((50 : Int32) + (200 * 0)).toInt = 50 from by decide]; omega) (by simp only [show ((50 : Int32) + (200 * 0)).toInt = 50 from by decide]; omega)]; rfl
            have en : ((50 + (200 * 0)) + p2).toNatClampNeg = 50 + p2.toInt.toNat := by rw [tn, e4]; omega
            refine ⟨0, vp_updL r2 0 (f_X7_rungAt vs va p2).toInt64, (s (50 + p2.toInt.toNat)).toInt32, 0, by simp [f_L_rungOf, f_X9_rungOf, ix, iy, rs, bnd, bnd2, one_z], ?_, rfl, fun _ => ?_⟩
            · unfold f_X10_rungOf; rw [im, if_neg one_z, if_neg ng, iw]; simp only [bnd2, if_true]; rw [grd_v (by decide) (by decide), grd_v (by omega) (by omega), en]; exact if_neg (by rw [le64, tl]; show ¬ (s 3).toInt ≤ _; omega)
            · rw [updL_eq, sa, cv ((M.va _ (by omega)).trans (R.va _ (by omega)).symm)]
        · have e : p1 = 1 := eq32.mpr e
          subst e
          by_cases h : σ.as ≤ p2.toInt
          · have sa : f_X7_rungAt as aa p2 = -1 := by unfold f_X7_rungAt; rw [if_neg ng, if_pos (by rw [le32]; omega)]
            refine ⟨0, vp_updL r2 0 (f_X7_rungAt as aa p2).toInt64, -1, 0, by simp [f_L_rungOf, f_X9_rungOf, ix, iy, rs, bnd, bnd2, one_z], ?_, rfl, fun _ => ?_⟩
            · unfold f_X10_rungOf; rw [im, if_neg one_z, if_neg ng, iw]; simp only [bnd2, if_true]; rw [grd_v (by decide) (by decide)]; exact if_pos (by rw [le64, tl]; show (s 4).toInt ≤ _; omega)
            · rw [updL_eq, sa]
          · have sa : f_X7_rungAt as aa p2 = aa p2.toInt.toNat := c_at7 R.as (by omega) hq (by omega)
            have e4 : ((50 + (200 * 1)) + p2).toInt = 250 + p2.toInt := by rw [add32 (by simp only [show ((50 : Int32) + (200 * 1)).toInt = 250 from by decide]; omega) (by simp only [show ((50 : Int32) + (200 * 1)).toInt = 250 from by decide]; omega)]; rfl
            have en : ((50 + (200 * 1)) + p2).toNatClampNeg = 250 + p2.toInt.toNat := by rw [tn, e4]; omega
            refine ⟨0, vp_updL r2 0 (f_X7_rungAt as aa p2).toInt64, (s (250 + p2.toInt.toNat)).toInt32, 0, by simp [f_L_rungOf, f_X9_rungOf, ix, iy, rs, bnd, bnd2, one_z], ?_, rfl, fun _ => ?_⟩
            · unfold f_X10_rungOf; rw [im, if_neg one_z, if_neg ng, iw]; simp only [bnd2, if_true]; rw [grd_v (by decide) (by decide), grd_v (by omega) (by omega), en]; exact if_neg (by rw [le64, tl]; show ¬ (s 4).toInt ≤ _; omega)
            · rw [updL_eq, sa, cv ((M.aa _ (by omega)).trans (R.aa _ (by omega)).symm)]
    · have iy := nn_b hq
      have ng : p2 < 0 := by rw [lt32]; simp only [Int32.reduceToInt]; omega
      exact ⟨1, r2, 0, 1, by simp [f_L_rungOf, f_X9_rungOf, ix, iy, bnd, bnd2], by unfold f_X10_rungOf; rw [im, if_neg one_z, if_pos ng]; simp [f_X10_isWrong, bnd2, one_z], rfl, fun q => absurd q (by decide)⟩
  · have ix : f_X9_requireIndex p1 2 = 1 := ix_b (by simp only [Int32.reduceToInt]; omega)
    have im : f_X10_in p1.toInt64 0 1 = 0 := in_o (by simp only [Int64.reduceToInt]; omega)
    exact ⟨1, r2, 0, 1, by simp [f_L_rungOf, f_X9_rungOf, ix, bnd, bnd2], by unfold f_X10_rungOf; rw [im, if_pos rfl]; simp [f_X10_isWrong, bnd2, one_z], rfl, fun q => absurd q (by decide)⟩
theorem m_213s {s : Nat → Int64} {n : Nat} {t : Int32} {l : Int64} {k y : Int32} (h : ¬ 4 ≤ k) (hk : f_X10_counted s k = some y) : f_X10_fingerprint_b213 s (n + 1) t l k = f_X10_fingerprint_b213 s n t (31 * l + y.toInt64) (k + 1) := by
  rw [f_X10_fingerprint_b213, if_neg h, hk]; rfl
theorem m_213e {s : Nat → Int64} {n : Nat} {t : Int32} {l : Int64} {k : Int32} (h : 4 ≤ k) : f_X10_fingerprint_b213 s (n + 1) t l k = some ((31 * ((31 * l) + s 21)) + s 22, t) := by
  rw [f_X10_fingerprint_b213, if_pos h]
theorem c_171s {stalls aband fin sw : Int32} {wasted qual : Int64} {n : Nat} {l : Int64} {k : Int32} (h : ¬ 4 ≤ k) : f_X9_fingerprint_b171 stalls aband fin sw wasted qual (n + 1) l k = f_X9_fingerprint_b171 stalls aband fin sw wasted qual n (31 * l + (f_X0_eventsOf stalls aband fin sw k).toInt64) (k + 1) := by
  rw [f_X9_fingerprint_b171, if_neg h]; rfl
theorem c_171e {stalls aband fin sw : Int32} {wasted qual : Int64} {n : Nat} {l : Int64} {k : Int32} (h : 4 ≤ k) : f_X9_fingerprint_b171 stalls aband fin sw wasted qual (n + 1) l k = (31 * ((31 * l) + wasted)) + qual := by
  rw [f_X9_fingerprint_b171, if_pos h]; rfl
theorem m_184s {s : Nat → Int64} {n : Nat} {t : Int32} {l : Int64} {k : Int32} (h : ¬ 3 ≤ k) (hv : vin (15 + k) 760 = true) : f_X10_fingerprint_b184 s (n + 1) t l k = f_X10_fingerprint_b184 s n t (31 * l + s (15 + k).toNatClampNeg) (k + 1) := by
  rw [f_X10_fingerprint_b184, if_neg h, grd_t hv]; rfl
theorem m_184e {s : Nat → Int64} {n : Nat} {t : Int32} {l : Int64} {k : Int32} (h : 3 ≤ k) : f_X10_fingerprint_b184 s (n + 1) t l k = f_X10_fingerprint_b213 s ((((4 : Int32).toInt - (0 : Int32).toInt).toNat) + 1) t l 0 := by
  rw [f_X10_fingerprint_b184, if_pos h]
theorem c_141s {su st pl stalls aband fin sw : Int32} {wasted qual : Int64} {n : Nat} {l : Int64} {k : Int32} (h : ¬ 3 ≤ k) : f_X9_fingerprint_b141 su st pl stalls aband fin sw wasted qual (n + 1) l k = f_X9_fingerprint_b141 su st pl stalls aband fin sw wasted qual n (31 * l + (f_X0_timeSpent su st pl k).toInt64) (k + 1) := by
  rw [f_X9_fingerprint_b141, if_neg h]; rfl
theorem c_141e {su st pl stalls aband fin sw : Int32} {wasted qual : Int64} {n : Nat} {l : Int64} {k : Int32} (h : 3 ≤ k) : f_X9_fingerprint_b141 su st pl stalls aband fin sw wasted qual (n + 1) l k = f_X9_fingerprint_b171 stalls aband fin sw wasted qual ((((4 : Int32).toInt - (0 : Int32).toInt).toNat) + 1) l 0 := by
  rw [f_X9_fingerprint_b141, if_pos h]
theorem m_106s {s : Nat → Int64} {p : Nat → Int32} {n : Nat} {t : Int32} {l : Int64} {k y : Int32} (h : ¬ 5 ≤ k) (hk : f_X10_ofDownload s k = some y) : f_X10_fingerprint_b106 s p (n + 1) t l k = f_X10_fingerprint_b106 s p n t (31 * l + y.toInt64) (k + 1) := by
  rw [f_X10_fingerprint_b106, if_neg h, hk]; rfl
theorem m_106e {s : Nat → Int64} {p : Nat → Int32} {n : Nat} {t : Int32} {l r e : Int64} {k : Int32} (h : 5 ≤ k) (hr : (if s 5 = 0 then (-1) else s 11) = r) (he : f_X10_estimateOf s (p 8) = some e) : f_X10_fingerprint_b106 s p (n + 1) t l k = f_X10_fingerprint_b184 s ((((3 : Int32).toInt - (0 : Int32).toInt).toNat) + 1) t (31 * (31 * l + r) + e) 0 := by
  rw [f_X10_fingerprint_b106, if_pos h, he, ← hr]
  by_cases q : s 5 = 0
  · rw [if_pos q, if_pos q, obnd_some, bnd_p]
  · rw [if_neg q, if_neg q, obnd_some, bnd_p]
theorem c_83s {su st pl stalls aband fin sw : Int32} {wasted qual : Int64} {going track seg rung wait dur : Int32} {got : Int64} {kept : Int32} {bits durs : Nat → Int64} {va8 : Nat → Int32} {n : Nat} {l : Int64} {k : Int32} (h : ¬ 5 ≤ k) : f_X9_fingerprint_b83 su st pl stalls aband fin sw wasted qual going track seg rung wait dur got kept bits durs va8 (n + 1) l k = f_X9_fingerprint_b83 su st pl stalls aband fin sw wasted qual going track seg rung wait dur got kept bits durs va8 n (31 * l + (f_X1_fact going track seg rung wait dur k).toInt64) (k + 1) := by
  rw [f_X9_fingerprint_b83, if_neg h]; rfl
theorem c_83e {su st pl stalls aband fin sw : Int32} {wasted qual : Int64} {going track seg rung wait dur : Int32} {got : Int64} {kept : Int32} {bits durs : Nat → Int64} {va8 : Nat → Int32} {n : Nat} {l : Int64} {k : Int32} (h : 5 ≤ k) : f_X9_fingerprint_b83 su st pl stalls aband fin sw wasted qual going track seg rung wait dur got kept bits durs va8 (n + 1) l k = f_X9_fingerprint_b141 su st pl stalls aband fin sw wasted qual ((((3 : Int32).toInt - (0 : Int32).toInt).toNat) + 1) (31 * (31 * l + f_X1_receivedOrNone going got) + (f_X6_throughput kept bits durs va8).toInt64) 0 := by
  rw [f_X9_fingerprint_b83, if_pos h, bnd_p, bnd_p, f_X9_mix, f_X9_mix]
theorem fu_3 : ((((3 : Int32).toInt - (0 : Int32).toInt).toNat) + 1) = 4 := by decide
theorem fu_4 : ((((4 : Int32).toInt - (0 : Int32).toInt).toNat) + 1) = 5 := by decide
theorem fi_0 : ((15 : Int32) + 0).toNatClampNeg = 15 := by decide
theorem fi_1 : ((15 : Int32) + (0 + 1)).toNatClampNeg = 16 := by decide
theorem fi_2 : ((15 : Int32) + (0 + 1 + 1)).toNatClampNeg = 17 := by decide
theorem m_fp1 {s : Nat → Int64} {f : Int32 → Int32} (h : ∀ k : Int32, 0 ≤ k.toInt → k.toInt < 4 → f_X10_counted s k = some (f k)) {t : Int32} {l : Int64} : f_X10_fingerprint_b213 s 5 t l 0 = some ((31 * ((31 * (31 * (31 * (31 * (31 * l + (f 0).toInt64) + (f (0 + 1)).toInt64) + (f (0 + 1 + 1)).toInt64) + (f (0 + 1 + 1 + 1)).toInt64)) + s 21)) + s 22, t) := by
  rw [m_213s (n := 4) (k := 0) (by decide) (h _ (by decide) (by decide)), m_213s (n := 3) (k := 0 + 1) (by decide) (h _ (by decide) (by decide)), m_213s (n := 2) (k := 0 + 1 + 1) (by decide) (h _ (by decide) (by decide)), m_213s (n := 1) (k := 0 + 1 + 1 + 1) (by decide) (h _ (by decide) (by decide)), m_213e (n := 0) (k := 0 + 1 + 1 + 1 + 1) (by decide)]
theorem c_fp1 {stalls aband fin sw : Int32} {wasted qual : Int64} {l : Int64} : f_X9_fingerprint_b171 stalls aband fin sw wasted qual 5 l 0 = (31 * ((31 * (31 * (31 * (31 * (31 * l + (f_X0_eventsOf stalls aband fin sw 0).toInt64) + (f_X0_eventsOf stalls aband fin sw (0 + 1)).toInt64) + (f_X0_eventsOf stalls aband fin sw (0 + 1 + 1)).toInt64) + (f_X0_eventsOf stalls aband fin sw (0 + 1 + 1 + 1)).toInt64)) + wasted)) + qual := by
  rw [c_171s (n := 4) (k := 0) (by decide), c_171s (n := 3) (k := 0 + 1) (by decide), c_171s (n := 2) (k := 0 + 1 + 1) (by decide), c_171s (n := 1) (k := 0 + 1 + 1 + 1) (by decide), c_171e (n := 0) (k := 0 + 1 + 1 + 1 + 1) (by decide)]
theorem m_fp2 {s : Nat → Int64} {t : Int32} {l : Int64} : f_X10_fingerprint_b184 s 4 t l 0 = f_X10_fingerprint_b213 s 5 t (31 * (31 * (31 * l + s 15) + s 16) + s 17) 0 := by
  rw [m_184s (n := 3) (k := 0) (by decide) (by decide), m_184s (n := 2) (k := 0 + 1) (by decide) (by decide), m_184s (n := 1) (k := 0 + 1 + 1) (by decide) (by decide), m_184e (n := 0) (k := 0 + 1 + 1 + 1) (by decide), fu_4, fi_0, fi_1, fi_2]
theorem c_fp2 {su st pl stalls aband fin sw : Int32} {wasted qual : Int64} {l : Int64} : f_X9_fingerprint_b141 su st pl stalls aband fin sw wasted qual 4 l 0 = f_X9_fingerprint_b171 stalls aband fin sw wasted qual 5 (31 * (31 * (31 * l + su.toInt64) + st.toInt64) + pl.toInt64) 0 := by
  have e0 : f_X0_timeSpent su st pl 0 = su := rfl
  have e1 : f_X0_timeSpent su st pl (0 + 1) = st := rfl
  have e2 : f_X0_timeSpent su st pl (0 + 1 + 1) = pl := rfl
  rw [c_141s (n := 3) (k := 0) (by decide), c_141s (n := 2) (k := 0 + 1) (by decide), c_141s (n := 1) (k := 0 + 1 + 1) (by decide), c_141e (n := 0) (k := 0 + 1 + 1 + 1) (by decide), fu_4, e0, e1, e2]
theorem m_fp3 {s : Nat → Int64} {p : Nat → Int32} {f : Int32 → Int32} {r e : Int64} (h : ∀ k : Int32, 0 ≤ k.toInt → k.toInt < 5 → f_X10_ofDownload s k = some (f k)) (hr : (if s 5 = 0 then (-1) else s 11) = r) (he : f_X10_estimateOf s (p 8) = some e) {t : Int32} {l : Int64} : f_X10_fingerprint_b106 s p 6 t l 0 = f_X10_fingerprint_b184 s 4 t (31 * (31 * (31 * (31 * (31 * (31 * (31 * l + (f 0).toInt64) + (f (0 + 1)).toInt64) + (f (0 + 1 + 1)).toInt64) + (f (0 + 1 + 1 + 1)).toInt64) + (f (0 + 1 + 1 + 1 + 1)).toInt64) + r) + e) 0 := by
  rw [m_106s (n := 5) (k := 0) (by decide) (h _ (by decide) (by decide)), m_106s (n := 4) (k := 0 + 1) (by decide) (h _ (by decide) (by decide)), m_106s (n := 3) (k := 0 + 1 + 1) (by decide) (h _ (by decide) (by decide)), m_106s (n := 2) (k := 0 + 1 + 1 + 1) (by decide) (h _ (by decide) (by decide)), m_106s (n := 1) (k := 0 + 1 + 1 + 1 + 1) (by decide) (h _ (by decide) (by decide)), m_106e (n := 0) (k := 0 + 1 + 1 + 1 + 1 + 1) (by decide) hr he, fu_3]
theorem c_fp3 {su st pl stalls aband fin sw : Int32} {wasted qual : Int64} {going track seg rung wait dur : Int32} {got : Int64} {kept : Int32} {bits durs : Nat → Int64} {va8 : Nat → Int32} {l : Int64} : f_X9_fingerprint_b83 su st pl stalls aband fin sw wasted qual going track seg rung wait dur got kept bits durs va8 6 l 0 = f_X9_fingerprint_b141 su st pl stalls aband fin sw wasted qual 4 (31 * (31 * (31 * (31 * (31 * (31 * (31 * l + (f_X1_fact going track seg rung wait dur 0).toInt64) + (f_X1_fact going track seg rung wait dur (0 + 1)).toInt64) + (f_X1_fact going track seg rung wait dur (0 + 1 + 1)).toInt64) + (f_X1_fact going track seg rung wait dur (0 + 1 + 1 + 1)).toInt64) + (f_X1_fact going track seg rung wait dur (0 + 1 + 1 + 1 + 1)).toInt64) + f_X1_receivedOrNone going got) + (f_X6_throughput kept bits durs va8).toInt64) 0 := by
  rw [c_83s (n := 5) (k := 0) (by decide), c_83s (n := 4) (k := 0 + 1) (by decide), c_83s (n := 3) (k := 0 + 1 + 1) (by decide), c_83s (n := 2) (k := 0 + 1 + 1 + 1) (by decide), c_83s (n := 1) (k := 0 + 1 + 1 + 1 + 1) (by decide), c_83e (n := 0) (k := 0 + 1 + 1 + 1 + 1 + 1) (by decide), fu_3]
theorem m_64s {la : Nat → Int32} {s : Nat → Int64} {p : Nat → Int32} {n : Nat} {t : Int32} {l w : Int64} {k : Int32} (h : ¬ 2 ≤ k) (hw : (if la k.toNatClampNeg = 0 then some 0 else f_X10_bufferOf p s k) = some w) : f_X10_fingerprint_b64 la s p (n + 1) t l k = f_X10_fingerprint_b64 la s p n t (31 * l + w) (k + 1) := by
  rw [f_X10_fingerprint_b64, if_neg h]
  by_cases q : la k.toNatClampNeg = 0
  · rw [if_pos q] at hw
    have hw := Option.some.inj hw
    rw [if_pos q, ← hw]
  · rw [if_neg q] at hw
    rw [if_neg q, hw]; rfl
theorem m_64e {la : Nat → Int32} {s : Nat → Int64} {p : Nat → Int32} {n : Nat} {t : Int32} {l : Int64} {k : Int32} (h : 2 ≤ k) : f_X10_fingerprint_b64 la s p (n + 1) t l k = f_X10_fingerprint_b106 s p ((((5 : Int32).toInt - (0 : Int32).toInt).toNat) + 1) t l 0 := by
  rw [f_X10_fingerprint_b64, if_pos h]
theorem a_fp {c : Cf} {mode : Int32} {th : Int32} {last : Int32} {chg : Int32} {state : Int32} {time : Int32} {pos : Int32} {su : Int32} {st : Int32} {pl : Int32} {stalls : Int32} {aband : Int32} {fin : Int32} {sw : Int32} {wasted : Int64} {qual : Int64} {as : Int32} {aa : Nat → Int32} {going : Int32} {track : Int32} {seg : Int32} {rung : Int32} {wait : Int32} {dur : Int32} {need : Int64} {got : Int64} {len : Int32} {sg : Nat → Int32} {kept : Int32} {bits : Nat → Int64} {durs : Nat → Int64} {vs : Int32} {va : Nat → Int32} {va8 : Nat → Int32} {vn : Int32} {vr : Nat → Int32} {an : Int32} {ar : Nat → Int32} {tot : Int32} {ph : Int32} {ln : Nat → Int32} {fl : Nat → Int32} {p : Nat → Int32} {la : Nat → Int32} {ra : Nat → Int32} {pm : Int32} {lm : Nat → Int32} {fm : Nat → Int32} {has : Int32} {s : Nat → Int64} (W : WfC c) (K : CC c va8 vn vr an ar tot ph ln fl) (L : CM c p la ra pm lm fm) (E : SE c mode th last chg state time pos su st pl stalls aband fin sw wasted qual as aa going track seg rung wait dur need got len sg kept bits durs vs va has s) : ∃ t, f_X10_fingerprint has la s p = some (f_X9_fingerprint state time pos su st pl stalls aband fin sw wasted qual as going track seg rung wait dur got kept bits durs vs an va8 vn, t) := by
  rcases E with ⟨rfl, rfl⟩ | ⟨rfl, em, et, V, P, σ, S, tb, sq, R, M⟩
  · refine ⟨0, ?_⟩
    unfold f_X10_fingerprint f_X9_fingerprint
    rw [if_pos rfl]
    unfold f_X10_fingerprint_b25
    rw [if_pos rfl]; rfl
  · have ns := ne_st S R.state
    have m1 := W.m1
    have hf := fun (k : Int32) (h0 : 0 ≤ k.toInt) (h1 : k.toInt < 5) => (show f_X10_ofDownload s k = some (f_X1_fact going track seg rung wait dur k) from by obtain ⟨y, hy, ey⟩ := m_fact S R M h0 h1; rw [hy, ey])
    have hc := fun (k : Int32) (h0 : 0 ≤ k.toInt) (h1 : k.toInt < 4) => (show f_X10_counted s k = some (f_X0_eventsOf stalls aband fin sw k) from by obtain ⟨y, hy, ey⟩ := m_counted S m1 sq R M h0 h1; rw [hy, ey])
    have hr := m_rec S R M
    obtain ⟨e, he, ee⟩ := m_est2 W K L S R M
    have ee : (f_X6_throughput kept bits durs va8).toInt64 = e := cvl ee
    obtain ⟨z, hz, ez⟩ := m_buf0 W S L M
    have eb := c_buf0 W S V (K.v 0 (by decide)) R.pos K.vn R.vs
    have eb : (f_X6_bufferOf_0 pos va8 vn vs).toInt64 = z := cvl (ez.trans eb.symm)
    have l0 : ¬ la 0 = 0 := by rw [eq32, L.vn]; simp only [Int32.reduceToInt]; omega
    have ha : ∃ w, (if la 1 = 0 then some 0 else f_X10_bufferOf p s 1) = some w ∧ (f_X6_bufferOf_1 pos as an va8).toInt64 = w := by
      by_cases l1 : la 1 = 0
      · have a0 : an = 0 := by rw [eq32, K.an, ← L.an, l1]
        refine ⟨0, if_pos l1, ?_⟩
        unfold f_X6_bufferOf_1; rw [if_pos a0]; rfl
      · have A : 1 ≤ c.an := by
          have := W.an0
          have := L.an
          rw [eq32] at l1
          simp only [Int32.reduceToInt] at l1
          omega
        obtain ⟨y, hy, ey⟩ := m_buf1 W S L M
        have ey2 := c_buf1 W S A (K.v 0 (by decide)) R.pos K.an R.as
        exact ⟨y, by rw [if_neg l1]; exact hy, cvl (ey.trans ey2.symm)⟩
    obtain ⟨w, hw, ew⟩ := ha
    have g3 : ((((2 : Int32).toInt - (0 : Int32).toInt).toNat) + 1) = 3 := by decide
    have g6 : ((((5 : Int32).toInt - (0 : Int32).toInt).toNat) + 1) = 6 := by decide
    have h0 : (if la (0 : Int32).toNatClampNeg = 0 then some 0 else f_X10_bufferOf p s 0) = some z := by rw [tn0, if_neg l0]; exact hz
    have h1 : (if la ((0 : Int32) + 1).toNatClampNeg = 0 then some 0 else f_X10_bufferOf p s (0 + 1)) = some w := hw
    have f64 : ∀ (t : Int32) (l : Int64), f_X10_fingerprint_b64 la s p 3 t l 0 = f_X10_fingerprint_b106 s p 6 t (31 * (31 * l + z) + w) 0 := fun t l => by
      rw [m_64s (n := 2) (k := 0) (by decide) h0, m_64s (n := 1) (k := 0 + 1) (by decide) h1, m_64e (n := 0) (k := 0 + 1 + 1) (by decide), g6]
    have x1 : state.toInt64 = s 2 := cvl (M.state.trans R.state.symm)
    have x2 : time.toInt64 = s 0 := cvl (M.time.trans R.time.symm)
    have x3 : pos.toInt64 = s 1 := cvl (M.pos.trans R.pos.symm)
    have x4 : su.toInt64 = s 15 := cvl (M.su.trans R.su.symm)
    have x5 : st.toInt64 = s 16 := cvl (M.st.trans R.st.symm)
    have x6 : pl.toInt64 = s 17 := cvl (M.pl.trans R.pl.symm)
    have em : f_X10_fingerprint 1 la s p = f_X10_fingerprint_b64 la s p 3 0 (31 * (31 * (1829 + s 2) + s 0) + s 1) 0 := by
      unfold f_X10_fingerprint f_X10_fingerprint_b25
      rw [if_neg one_z, if_neg one_z, bnd_p, g3]
    have ec : f_X9_fingerprint state time pos su st pl stalls aband fin sw wasted qual as going track seg rung wait dur got kept bits durs vs an va8 vn = f_X9_fingerprint_b83 su st pl stalls aband fin sw wasted qual going track seg rung wait dur got kept bits durs va8 6 (31 * (31 * (31 * (31 * (31 * 59 + state.toInt64) + time.toInt64) + pos.toInt64) + (f_X6_bufferOf_0 pos va8 vn vs).toInt64) + (f_X6_bufferOf_1 pos as an va8).toInt64) 0 := by
      unfold f_X9_fingerprint f_X9_mix
      rw [bnd_p, if_neg ns, bnd_p, bnd_p, bnd_p, bnd_p, g6]
    have e59 : (31 * 59 : Int64) = 1829 := by decide
    refine ⟨0, ?_⟩
    rw [em, ec, f64, m_fp3 hf hr he, m_fp2, m_fp1 hc, c_fp3, c_fp2, c_fp1, e59, x1, x2, x3, x4, x5, x6, eb, ew, ee, M.wasted, R.wasted, M.qual, R.qual]
theorem a_state {c : Cf} {mode : Int32} {th : Int32} {last : Int32} {chg : Int32} {state : Int32} {time : Int32} {pos : Int32} {su : Int32} {st : Int32} {pl : Int32} {stalls : Int32} {aband : Int32} {fin : Int32} {sw : Int32} {wasted : Int64} {qual : Int64} {as : Int32} {aa : Nat → Int32} {going : Int32} {track : Int32} {seg : Int32} {rung : Int32} {wait : Int32} {dur : Int32} {need : Int64} {got : Int64} {len : Int32} {sg : Nat → Int32} {kept : Int32} {bits : Nat → Int64} {durs : Nat → Int64} {vs : Int32} {va : Nat → Int32} {va8 : Nat → Int32} {vn : Int32} {vr : Nat → Int32} {an : Int32} {ar : Nat → Int32} {tot : Int32} {ph : Int32} {ln : Nat → Int32} {fl : Nat → Int32} {p : Nat → Int32} {la : Nat → Int32} {ra : Nat → Int32} {pm : Int32} {lm : Nat → Int32} {fm : Nat → Int32} {has : Int32} {s : Nat → Int64} (W : WfC c) (K : CC c va8 vn vr an ar tot ph ln fl) (L : CM c p la ra pm lm fm) (E : SE c mode th last chg state time pos su st pl stalls aband fin sw wasted qual as aa going track seg rung wait dur need got len sg kept bits durs vs va has s) : f_X9_state state = (f_X10_state has s).1 := by
  unfold f_X9_state f_X10_state
  rcases E with ⟨rfl, rfl⟩ | ⟨rfl, em, et, V, P, σ, S, tb, sq, R, M⟩
  · rfl
  · rw [if_neg one_z]; exact (cv (M.state.trans R.state.symm)).symm
