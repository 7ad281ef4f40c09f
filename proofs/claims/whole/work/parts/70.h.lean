/-! the law answers 1 -/
theorem law_one {xs : Nat → Int32} {L : Nat} (hL : L ≤ 2048) : ∀ (n : Nat) (pm : Int32) (has : Int32) (thr : Int32) (r2 : Nat → Int64) (x_mode : Int32) (x_th : Int32) (x_last : Int32) (x_chg : Int32) (x_state : Int32) (x_time : Int32) (x_pos : Int32) (x_su : Int32) (x_st : Int32) (x_pl : Int32) (x_stalls : Int32) (x_aband : Int32) (x_fin : Int32) (x_sw : Int32) (x_wasted : Int64) (x_qual : Int64) (x_as : Int32) (x_aa : Nat → Int32) (x_going : Int32) (x_track : Int32) (x_seg : Int32) (x_rung : Int32) (x_wait : Int32) (x_dur : Int32) (x_need : Int64) (x_got : Int64) (x_len : Int32) (x_sg : Nat → Int32) (x_kept : Int32) (x_bits : Nat → Int64) (x_durs : Nat → Int64) (x_vs : Int32) (x_va : Nat → Int32) (mode : Int32) (th : Int32) (last : Int32) (chg : Int32) (state : Int32) (time : Int32) (pos : Int32) (su : Int32) (st : Int32) (pl : Int32) (stalls : Int32) (aband : Int32) (fin : Int32) (sw : Int32) (wasted : Int64) (qual : Int64) (as : Int32) (aa : Nat → Int32) (going : Int32) (track : Int32) (seg : Int32) (rung : Int32) (wait : Int32) (dur : Int32) (need : Int64) (got : Int64) (len : Int32) (sg : Nat → Int32) (kept : Int32) (bits : Nat → Int64) (durs : Nat → Int64) (vs : Int32) (va : Nat → Int32) (an : Int32) (ar : Nat → Int32) (tot : Int32) (ph : Int32) (ln : Nat → Int32) (fl : Nat → Int32) (va8 : Nat → Int32) (vn : Int32) (vr : Nat → Int32) (fm : Nat → Int32) (la : Nat → Int32) (lm : Nat → Int32) (s : Nat → Int64) (p : Nat → Int32) (ra : Nat → Int32) (r42 : Nat → Int64) (l4 : Int32), 0 ≤ l4 → IV pm has x_sg mode th last chg state time pos su st pl stalls aband fin sw wasted qual as aa going track seg rung wait dur need got len sg kept bits durs vs va an ar tot ph ln fl va8 vn vr fm la lm s p ra → lwmu L l4 < n → f_L_law_b23 3 6 xs L n pm has thr r2 x_mode x_th x_last x_chg x_state x_time x_pos x_su x_st x_pl x_stalls x_aband x_fin x_sw x_wasted x_qual x_as x_aa x_going x_track x_seg x_rung x_wait x_dur x_need x_got x_len x_sg x_kept x_bits x_durs x_vs x_va mode th last chg state time pos su st pl stalls aband fin sw wasted qual as aa going track seg rung wait dur need got len sg kept bits durs vs va an ar tot ph ln fl va8 vn vr fm la lm s p ra r42 l4 = some 1 := by
  intro n
  induction n with
  | zero => intro pm has thr r2 x_mode x_th x_last x_chg x_state x_time x_pos x_su x_st x_pl x_stalls x_aband x_fin x_sw x_wasted x_qual x_as x_aa x_going x_track x_seg x_rung x_wait x_dur x_need x_got x_len x_sg x_kept x_bits x_durs x_vs x_va mode th last chg state time pos su st pl stalls aband fin sw wasted qual as aa going track seg rung wait dur need got len sg kept bits durs vs va an ar tot ph ln fl va8 vn vr fm la lm s p ra r42 l4 h0 I hmu; exact absurd hmu (Nat.not_lt_zero _)
  | succ n ih =>
    intro pm has thr r2 x_mode x_th x_last x_chg x_state x_time x_pos x_su x_st x_pl x_stalls x_aband x_fin x_sw x_wasted x_qual x_as x_aa x_going x_track x_seg x_rung x_wait x_dur x_need x_got x_len x_sg x_kept x_bits x_durs x_vs x_va mode th last chg state time pos su st pl stalls aband fin sw wasted qual as aa going track seg rung wait dur need got len sg kept bits durs vs va an ar tot ph ln fl va8 vn vr fm la lm s p ra r42 l4 h0 I hmu
    rw [f_L_law_b23]
    by_cases hc : Int32.ofNat L - 4 < l4
    · exact if_pos hc
    · refine (if_neg hc).trans ?_
      have hb : lwmu L l4 ≤ 2048 := by
        rw [le32] at h0
        simp only [Int32.reduceToInt] at h0
        show ((L : Int) - l4.toInt).toNat ≤ 2048
        omega
      have nx := lw_nx (cells := 0) (slots := 0) h0 hc hL hmu (by omega) (by omega)
      have go : ∀ (pm : Int32) (has : Int32) (thr : Int32) (r2 : Nat → Int64) (x_mode : Int32) (x_th : Int32) (x_last : Int32) (x_chg : Int32) (x_state : Int32) (x_time : Int32) (x_pos : Int32) (x_su : Int32) (x_st : Int32) (x_pl : Int32) (x_stalls : Int32) (x_aband : Int32) (x_fin : Int32) (x_sw : Int32) (x_wasted : Int64) (x_qual : Int64) (x_as : Int32) (x_aa : Nat → Int32) (x_going : Int32) (x_track : Int32) (x_seg : Int32) (x_rung : Int32) (x_wait : Int32) (x_dur : Int32) (x_need : Int64) (x_got : Int64) (x_len : Int32) (x_sg : Nat → Int32) (x_kept : Int32) (x_bits : Nat → Int64) (x_durs : Nat → Int64) (x_vs : Int32) (x_va : Nat → Int32) (mode : Int32) (th : Int32) (last : Int32) (chg : Int32) (state : Int32) (time : Int32) (pos : Int32) (su : Int32) (st : Int32) (pl : Int32) (stalls : Int32) (aband : Int32) (fin : Int32) (sw : Int32) (wasted : Int64) (qual : Int64) (as : Int32) (aa : Nat → Int32) (going : Int32) (track : Int32) (seg : Int32) (rung : Int32) (wait : Int32) (dur : Int32) (need : Int64) (got : Int64) (len : Int32) (sg : Nat → Int32) (kept : Int32) (bits : Nat → Int64) (durs : Nat → Int64) (vs : Int32) (va : Nat → Int32) (an : Int32) (ar : Nat → Int32) (tot : Int32) (ph : Int32) (ln : Nat → Int32) (fl : Nat → Int32) (va8 : Nat → Int32) (vn : Int32) (vr : Nat → Int32) (fm : Nat → Int32) (la : Nat → Int32) (lm : Nat → Int32) (s : Nat → Int64) (p : Nat → Int32) (ra : Nat → Int32) (r42 : Nat → Int64), IV pm has x_sg mode th last chg state time pos su st pl stalls aband fin sw wasted qual as aa going track seg rung wait dur need got len sg kept bits durs vs va an ar tot ph ln fl va8 vn vr fm la lm s p ra → f_L_law_b23 3 6 xs L n pm has thr r2 x_mode x_th x_last x_chg x_state x_time x_pos x_su x_st x_pl x_stalls x_aband x_fin x_sw x_wasted x_qual x_as x_aa x_going x_track x_seg x_rung x_wait x_dur x_need x_got x_len x_sg x_kept x_bits x_durs x_vs x_va mode th last chg state time pos su st pl stalls aband fin sw wasted qual as aa going track seg rung wait dur need got len sg kept bits durs vs va an ar tot ph ln fl va8 vn vr fm la lm s p ra r42 (l4 + 4) = some 1 := fun pm has thr r2 x_mode x_th x_last x_chg x_state x_time x_pos x_su x_st x_pl x_stalls x_aband x_fin x_sw x_wasted x_qual x_as x_aa x_going x_track x_seg x_rung x_wait x_dur x_need x_got x_len x_sg x_kept x_bits x_durs x_vs x_va mode th last chg state time pos su st pl stalls aband fin sw wasted qual as aa going track seg rung wait dur need got len sg kept bits durs vs va an ar tot ph ln fl va8 vn vr fm la lm s p ra r42 J => ih pm has thr r2 x_mode x_th x_last x_chg x_state x_time x_pos x_su x_st x_pl x_stalls x_aband x_fin x_sw x_wasted x_qual x_as x_aa x_going x_track x_seg x_rung x_wait x_dur x_need x_got x_len x_sg x_kept x_bits x_durs x_vs x_va mode th last chg state time pos su st pl stalls aband fin sw wasted qual as aa going track seg rung wait dur need got len sg kept bits durs vs va an ar tot ph ln fl va8 vn vr fm la lm s p ra r42 (l4 + 4) nx.1 J nx.2.1
      by_cases c0 : xs l4.toNatClampNeg &&& 31 = 0
      · exact (if_pos c0).trans (s_b176 I go)
      refine (if_neg c0).trans ?_
      by_cases c1 : xs l4.toNatClampNeg &&& 31 = 1
      · exact (if_pos c1).trans (s_b244 I go)
      refine (if_neg c1).trans ?_
      by_cases c2 : xs l4.toNatClampNeg &&& 31 = 2
      · exact (if_pos c2).trans (s_b312 I go)
      refine (if_neg c2).trans ?_
      by_cases c3 : xs l4.toNatClampNeg &&& 31 = 3
      · exact (if_pos c3).trans (s_b380 I go)
      refine (if_neg c3).trans ?_
      by_cases c4 : xs l4.toNatClampNeg &&& 31 = 4
      · exact (if_pos c4).trans (s_b424 I go)
      refine (if_neg c4).trans ?_
      by_cases c5 : xs l4.toNatClampNeg &&& 31 = 5
      · exact (if_pos c5).trans (s_b480 I go)
      refine (if_neg c5).trans ?_
      by_cases c6 : xs l4.toNatClampNeg &&& 31 = 6
      · exact (if_pos c6).trans (s_b559 I go)
      refine (if_neg c6).trans ?_
      by_cases c7 : xs l4.toNatClampNeg &&& 31 = 7
      · exact (if_pos c7).trans (s_b603 I go)
      refine (if_neg c7).trans ?_
      by_cases c8 : xs l4.toNatClampNeg &&& 31 = 8
      · exact (if_pos c8).trans (s_b647 I go)
      refine (if_neg c8).trans ?_
      by_cases c9 : xs l4.toNatClampNeg &&& 31 = 9
      · exact (if_pos c9).trans (s_b703 I go)
      refine (if_neg c9).trans ?_
      by_cases c10 : xs l4.toNatClampNeg &&& 31 = 10
      · exact (if_pos c10).trans (s_b716 I go)
      refine (if_neg c10).trans ?_
      by_cases c11 : xs l4.toNatClampNeg &&& 31 = 11
      · exact (if_pos c11).trans (s_b760 I go)
      refine (if_neg c11).trans ?_
      by_cases c12 : xs l4.toNatClampNeg &&& 31 = 12
      · exact (if_pos c12).trans (s_b804 I go)
      refine (if_neg c12).trans ?_
      by_cases c13 : xs l4.toNatClampNeg &&& 31 = 13
      · exact (if_pos c13).trans (s_b860 I go)
      refine (if_neg c13).trans ?_
      by_cases c14 : xs l4.toNatClampNeg &&& 31 = 14
      · exact (if_pos c14).trans (s_b916 I go)
      refine (if_neg c14).trans ?_
      by_cases c15 : xs l4.toNatClampNeg &&& 31 = 15
      · exact (if_pos c15).trans (s_b984 I go)
      refine (if_neg c15).trans ?_
      by_cases c16 : xs l4.toNatClampNeg &&& 31 = 16
      · exact (if_pos c16).trans (s_b1040 I go)
      refine (if_neg c16).trans ?_
      by_cases c17 : xs l4.toNatClampNeg &&& 31 = 17
      · exact (if_pos c17).trans (s_b1083 I go)
      refine (if_neg c17).trans ?_
      by_cases c18 : xs l4.toNatClampNeg &&& 31 = 18
      · exact (if_pos c18).trans (s_b1127 I go)
      refine (if_neg c18).trans ?_
      by_cases c19 : xs l4.toNatClampNeg &&& 31 = 19
      · exact (if_pos c19).trans (s_b1171 I go)
      refine (if_neg c19).trans ?_
      by_cases c20 : xs l4.toNatClampNeg &&& 31 = 20
      · exact (if_pos c20).trans (s_b1215 I go)
      refine (if_neg c20).trans ?_
      by_cases c21 : xs l4.toNatClampNeg &&& 31 = 21
      · exact (if_pos c21).trans (s_b1271 I go)
      refine (if_neg c21).trans ?_
      by_cases c22 : xs l4.toNatClampNeg &&& 31 = 22
      · exact (if_pos c22).trans (s_b1327 I go)
      refine (if_neg c22).trans ?_
      by_cases c23 : xs l4.toNatClampNeg &&& 31 = 23
      · exact (if_pos c23).trans (s_b1370 I go)
      refine (if_neg c23).trans ?_
      by_cases c24 : xs l4.toNatClampNeg &&& 31 = 24
      · exact (if_pos c24).trans (s_b1413 I go)
      refine (if_neg c24).trans ?_
      by_cases c25 : xs l4.toNatClampNeg &&& 31 = 25
      · exact (if_pos c25).trans (s_b1456 I go)
      refine (if_neg c25).trans ?_
      by_cases c26 : xs l4.toNatClampNeg &&& 31 = 26
      · exact (if_pos c26).trans (s_b1512 I go)
      refine (if_neg c26).trans ?_
      by_cases c27 : xs l4.toNatClampNeg &&& 31 = 27
      · exact (if_pos c27).trans (s_b1580 I go)
      refine (if_neg c27).trans ?_
      by_cases c28 : xs l4.toNatClampNeg &&& 31 = 28
      · exact (if_pos c28).trans (s_b1647 I go)
      refine (if_neg c28).trans ?_
      by_cases c29 : xs l4.toNatClampNeg &&& 31 = 29
      · exact (if_pos c29).trans (s_b1703 I go)
      refine (if_neg c29).trans ?_
      by_cases c30 : xs l4.toNatClampNeg &&& 31 = 30
      · exact (if_pos c30).trans (s_b1759 I go)
      refine (if_neg c30).trans ?_
      exact go _ _ _ _ _ _ _ _ _ _ _ _ _ _ _ _ _ _ _ _ _ _ _ _ _ _ _ _ _ _ _ _ _ _ _ _ _ _ _ _ _ _ _ _ _ _ _ _ _ _ _ _ _ _ _ _ _ _ _ _ _ _ _ _ _ _ _ _ _ _ _ _ _ _ _ _ _ _ _ _ _ _ _ _ _ _ I
