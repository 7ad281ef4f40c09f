theorem t_least {c : Cf} {va8 : Nat → Int32} {vn : Int32} {vr : Nat → Int32} {an : Int32} {ar : Nat → Int32} {tot : Int32} {ph : Int32} {ln : Nat → Int32} {fl : Nat → Int32} {p : Nat → Int32} {la : Nat → Int32} {ra : Nat → Int32} {pm : Int32} {lm : Nat → Int32} {fm : Nat → Int32} (W : WfC c) (K : CC c va8 vn vr an ar tot ph ln fl) (L : CM c p la ra pm lm fm) (V : 1 ≤ c.vn) {t p1 : Int32} (hm : 0 ≤ p1.toInt ∧ p1.toInt ≤ 20000) : ∀ (m k g : Nat), k + m = 11 → m < g → ∀ (xmode : Int32) (xth : Int32) (x_last : Int32) (x_chg : Int32) (x_state : Int32) (x_time : Int32) (x_pos : Int32) (x_su : Int32) (x_st : Int32) (x_pl : Int32) (x_stalls : Int32) (x_aband : Int32) (x_fin : Int32) (x_sw : Int32) (x_wasted : Int64) (x_qual : Int64) (x_as : Int32) (x_aa : Nat → Int32) (x_going : Int32) (x_track : Int32) (x_seg : Int32) (x_rung : Int32) (x_wait : Int32) (x_dur : Int32) (x_need : Int64) (x_got : Int64) (x_len : Int32) (x_sg : Nat → Int32) (x_kept : Int32) (x_bits : Nat → Int64) (x_durs : Nat → Int64) (x_vs : Int32) (x_va : Nat → Int32) (_ : chk x_sg 300 = true) (r42 : Nat → Int64) (l2 : Int32), l2.toInt = k → ∃ z b u, f_X9_leastStart_b16 an ar tot ph ln fl va8 vn vr g xmode xth x_last x_chg x_state x_time x_pos x_su x_st x_pl x_stalls x_aband x_fin x_sw x_wasted x_qual x_as x_aa x_going x_track x_seg x_rung x_wait x_dur x_need x_got x_len x_sg x_kept x_bits x_durs x_vs x_va p1 l2 = some z ∧ f_X10_leastStart_b12 pm fm la lm p ra g t r42 p1 l2 = some (b, t, u) ∧ z.1 = 0 ∧ z.2.1 = b ∧ chk z.2.2.2.2.2.2.2.2.2.2.2.2.2.2.2.2.2.2.2.2.2.2.2.2.2.2.2.2.2.1 300 = true := by
  intro m
  induction m with
  | zero =>
    intro k g hk hg xmode xth x_last x_chg x_state x_time x_pos x_su x_st x_pl x_stalls x_aband x_fin x_sw x_wasted x_qual x_as x_aa x_going x_track x_seg x_rung x_wait x_dur x_need x_got x_len x_sg x_kept x_bits x_durs x_vs x_va F r42 l2 hl
    obtain ⟨g, rfl⟩ : ∃ q, g = q + 1 := ⟨g - 1, by omega⟩
    unfold f_X9_leastStart_b16 f_X10_leastStart_b12
    rw [if_pos (by rw [lt32]; simp only [Int32.reduceToInt]; omega), if_pos (by rw [lt32]; simp only [Int32.reduceToInt]; omega)]
    exact ⟨(0, (-1), xmode, xth, x_last, x_chg, x_state, x_time, x_pos, x_su, x_st, x_pl, x_stalls, x_aband, x_fin, x_sw, x_wasted, x_qual, x_as, x_aa, x_going, x_track, x_seg, x_rung, x_wait, x_dur, x_need, x_got, x_len, x_sg, x_kept, x_bits, x_durs, x_vs, x_va), -1, r42, rfl, rfl, rfl, rfl, F⟩
  | succ m ih =>
    intro k g hk hg xmode xth x_last x_chg x_state x_time x_pos x_su x_st x_pl x_stalls x_aband x_fin x_sw x_wasted x_qual x_as x_aa x_going x_track x_seg x_rung x_wait x_dur x_need x_got x_len x_sg x_kept x_bits x_durs x_vs x_va F r42 l2 hl
    obtain ⟨g, rfl⟩ : ∃ q, g = q + 1 := ⟨g - 1, by omega⟩
    have k0 := K.v 0 (by decide)
    have l0 := L.v 0 (by decide)
    have d0 := W.d0
    have d1 := W.d1
    have v0 : f_X8_valueOf va8 0 = va8 0 := vo (by decide) (by decide)
    have b := mulb (a := l2.toInt) (b := c.v 0) (A := 10) (B := 10000) (by omega) (by omega) (by omega) d1
    have e1 : (l2 * va8 0).toInt = l2.toInt * c.v 0 := by rw [mul32 (by rw [k0]; omega) (by rw [k0]; omega), k0]
    have e2 : (l2 * p 0).toInt = l2.toInt * c.v 0 := by rw [mul32 (by rw [l0]; omega) (by rw [l0]; omega), l0]
    have e3 : (l2 + 1).toInt = ((k + 1 : Nat) : Int) := by rw [add32 (by simp only [Int32.reduceToInt]; omega) (by simp only [Int32.reduceToInt]; omega), hl]; rfl
    have step : ∀ w : Int32, w.toInt = min (l2.toInt * c.v 0) 60000 → ∃ z b u, f_X9_leastStart_b16 an ar tot ph ln fl va8 vn vr (g + 1) xmode xth x_last x_chg x_state x_time x_pos x_su x_st x_pl x_stalls x_aband x_fin x_sw x_wasted x_qual x_as x_aa x_going x_track x_seg x_rung x_wait x_dur x_need x_got x_len x_sg x_kept x_bits x_durs x_vs x_va p1 l2 = some z ∧ (bnd (f_X10_clears r42) fun (u3 : Nat → Int64) => obnd (f_X10_goesOn pm fm la lm p ra u3 p1 (p 12) w) fun (u4 : Nat → Int64) => if (u4 18) = 0 then some (l2, t, u4) else f_X10_leastStart_b12 pm fm la lm p ra g t u4 p1 (l2 + 1)) = some (b, t, u) ∧ z.1 = 0 ∧ z.2.1 = b ∧ chk z.2.2.2.2.2.2.2.2.2.2.2.2.2.2.2.2.2.2.2.2.2.2.2.2.2.2.2.2.2.1 300 = true := fun w hw => by
      obtain ⟨z, u, hz, hu, iff, hf⟩ := t_pws W K L V (r42 := r42) (y := mn32 (l2 * va8 0) 60000) (w := w) (p1 := p1) (x_aa := x_aa) (x_track := x_track) (x_seg := x_seg) (x_rung := x_rung) (x_wait := x_wait) (x_dur := x_dur) (x_need := x_need) (x_got := x_got) (x_bits := x_bits) (x_durs := x_durs) (x_va := x_va) F hm ((mn_eq e1).trans hw.symm)
      rw [bnd_p, hu, obnd_some]
      unfold f_X9_leastStart_b16
      rw [if_neg (by rw [lt32]; simp only [Int32.reduceToInt]; omega), v0, bnd_p, hz, o34_v]
      by_cases q : z.1 = 0
      · rw [if_pos q, if_neg (iff.mp q)]
        exact ih (k + 1) g (by omega) (by omega) _ _ _ _ _ _ _ _ _ _ _ _ _ _ _ _ _ _ _ _ _ _ _ _ _ _ _ _ _ _ _ _ _ hf u (l2 + 1) e3
      · have q2 : u 18 = 0 := Decidable.byContradiction (fun n => q (iff.mpr n))
        rw [if_neg q, if_pos q2]
        exact ⟨(0, l2, z.2.1, z.2.2.1, z.2.2.2.1, z.2.2.2.2.1, z.2.2.2.2.2.1, z.2.2.2.2.2.2.1, z.2.2.2.2.2.2.2.1, z.2.2.2.2.2.2.2.2.1, z.2.2.2.2.2.2.2.2.2.1, z.2.2.2.2.2.2.2.2.2.2.1, z.2.2.2.2.2.2.2.2.2.2.2.1, z.2.2.2.2.2.2.2.2.2.2.2.2.1, z.2.2.2.2.2.2.2.2.2.2.2.2.2.1, z.2.2.2.2.2.2.2.2.2.2.2.2.2.2.1, z.2.2.2.2.2.2.2.2.2.2.2.2.2.2.2.1, z.2.2.2.2.2.2.2.2.2.2.2.2.2.2.2.2.1, z.2.2.2.2.2.2.2.2.2.2.2.2.2.2.2.2.2.1, z.2.2.2.2.2.2.2.2.2.2.2.2.2.2.2.2.2.2.1, z.2.2.2.2.2.2.2.2.2.2.2.2.2.2.2.2.2.2.2.1, z.2.2.2.2.2.2.2.2.2.2.2.2.2.2.2.2.2.2.2.2.1, z.2.2.2.2.2.2.2.2.2.2.2.2.2.2.2.2.2.2.2.2.2.1, z.2.2.2.2.2.2.2.2.2.2.2.2.2.2.2.2.2.2.2.2.2.2.1, z.2.2.2.2.2.2.2.2.2.2.2.2.2.2.2.2.2.2.2.2.2.2.2.1, z.2.2.2.2.2.2.2.2.2.2.2.2.2.2.2.2.2.2.2.2.2.2.2.2.1, z.2.2.2.2.2.2.2.2.2.2.2.2.2.2.2.2.2.2.2.2.2.2.2.2.2.1, z.2.2.2.2.2.2.2.2.2.2.2.2.2.2.2.2.2.2.2.2.2.2.2.2.2.2.1, z.2.2.2.2.2.2.2.2.2.2.2.2.2.2.2.2.2.2.2.2.2.2.2.2.2.2.2.1, z.2.2.2.2.2.2.2.2.2.2.2.2.2.2.2.2.2.2.2.2.2.2.2.2.2.2.2.2.1, z.2.2.2.2.2.2.2.2.2.2.2.2.2.2.2.2.2.2.2.2.2.2.2.2.2.2.2.2.2.1, z.2.2.2.2.2.2.2.2.2.2.2.2.2.2.2.2.2.2.2.2.2.2.2.2.2.2.2.2.2.2.1, z.2.2.2.2.2.2.2.2.2.2.2.2.2.2.2.2.2.2.2.2.2.2.2.2.2.2.2.2.2.2.2.1, z.2.2.2.2.2.2.2.2.2.2.2.2.2.2.2.2.2.2.2.2.2.2.2.2.2.2.2.2.2.2.2.2.1, z.2.2.2.2.2.2.2.2.2.2.2.2.2.2.2.2.2.2.2.2.2.2.2.2.2.2.2.2.2.2.2.2.2), l2, u, rfl, rfl, rfl, rfl, hf⟩
    unfold f_X10_leastStart_b12
    rw [if_neg (by rw [lt32]; simp only [Int32.reduceToInt]; omega)]
    by_cases q : l2.toInt * c.v 0 ≤ 60000
    · rw [if_pos (by rw [le32, e2]; exact q)]
      exact step (l2 * p 0) (by rw [e2]; omega)
    · rw [if_neg (by rw [le32, e2]; exact q)]
      exact step 60000 (by simp only [Int32.reduceToInt]; omega)
