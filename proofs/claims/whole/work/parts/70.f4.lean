theorem t_pws {c : Cf} {va8 : Nat → Int32} {vn : Int32} {vr : Nat → Int32} {an : Int32} {ar : Nat → Int32} {tot : Int32} {ph : Int32} {ln : Nat → Int32} {fl : Nat → Int32} {p : Nat → Int32} {la : Nat → Int32} {ra : Nat → Int32} {pm : Int32} {lm : Nat → Int32} {fm : Nat → Int32} (W : WfC c) (K : CC c va8 vn vr an ar tot ph ln fl) (L : CM c p la ra pm lm fm) (V : 1 ≤ c.vn) {x_aa : Nat → Int32} {x_track : Int32} {x_seg : Int32} {x_rung : Int32} {x_wait : Int32} {x_dur : Int32} {x_need : Int64} {x_got : Int64} {x_sg : Nat → Int32} {x_bits : Nat → Int64} {x_durs : Nat → Int64} {x_va : Nat → Int32} {r42 : Nat → Int64} {y w p1 : Int32} (F : chk x_sg 300 = true) (hm : 0 ≤ p1.toInt ∧ p1.toInt ≤ 20000) (hy : y.toInt = w.toInt) : ∃ z u, f_X9_playsWithoutStall x_aa x_track x_seg x_rung x_wait x_dur x_need x_got x_sg x_bits x_durs x_va an ar tot ph ln fl va8 vn vr y p1 = some z ∧ f_X10_goesOn pm fm la lm p ra (f_X10_clears r42) p1 (p 12) w = some u ∧ (z.1 = 0 ↔ ¬ u 18 = 0) ∧ chk z.2.2.2.2.2.2.2.2.2.2.2.2.2.2.2.2.2.2.2.2.2.2.2.2.2.2.2.2.1 300 = true := by
  have k12 := K.v 12 (by decide)
  have l12 := L.v 12 (by decide)
  have v12 : f_X8_valueOf va8 12 = va8 12 := vo (by decide) (by decide)
  obtain ⟨n, hn⟩ : ∃ n : Nat, p1.toInt = n := ⟨p1.toInt.toNat, by omega⟩
  have ft : freshS.time = 0 := rfl
  have Sf := fresh_wf W V
  obtain ⟨z, hz, e1, hf⟩ := c_pws W K L V (mode := va8 12) (th := y) (l2 := p1) n (((p1.toInt - (0 : Int32).toInt).toNat) + 1) freshS 0 Sf (by omega) (by rw [ft]; omega) _ _ _ _ _ _ _ _ _ _ _ _ _ _ _ _ _ _ _ _ _ _ _ _ _ _ _ _ _ _ _ (rc_fresh (aa := x_aa) (track := x_track) (seg := x_seg) (rung := x_rung) (wait := x_wait) (dur := x_dur) (need := x_need) (got := x_got) (bits := x_bits) (durs := x_durs) (va := x_va) F) 0 (by simp only [Int32.reduceToInt]; omega) (by simp only [Int32.reduceToInt]; omega)
  obtain ⟨u, hu, M3⟩ := m_goes W Sf V L (mode := p 12) (th := w) hn (by omega) (by rw [ft]; omega) (m_clear (r := r42))
  have Ms := M3.stalls
  rw [l12, ← k12, ← hy] at Ms
  refine ⟨z, u, ?_, hu, ?_, hf⟩
  · unfold f_X9_playsWithoutStall
    rw [be_eq, b21_s, v12]
    exact hz
  · rw [e1, eq64, Ms]
    by_cases h : (iterS c (va8 12).toInt y.toInt n freshS).stalls = 0
    · rw [if_pos h]; exact ⟨fun q => absurd q one_z, fun q => absurd h q⟩
    · rw [if_neg h]; exact ⟨fun _ => h, fun _ => rfl⟩
