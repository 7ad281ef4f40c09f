def freshS : Ss := (Ss.mk (0) (0) (1) (0) (0) (0) (0) (0) (0) (0) (0) (0) (0) (-1) (0) (0) (0) (0) (0) (0) (0) (0) (0) (0) (0) (0) (fun _ => 0) (fun _ => 0) (fun _ => 0) (fun _ => 0) (fun _ => 0))
theorem fresh_wf {c : Cf} (W : WfC c) (V : 1 ≤ c.vn) : WfS c 0 freshS := by
  have d0 := W.d0
  have m0 := W.m0
  refine (WfS.mk (h_T0 := by decide) (h_T1 := by decide) (h_t0 := by decide) (h_t1 := by decide) (h_s0 := by decide) (h_s1 := by decide) (h_v0 := by decide) (h_v1 := ?_) (h_a0 := by decide) (h_a1 := ?_) (h_p0 := by decide) (h_pv := ?_) (h_pa := fun _ => ?_) (h_p2 := fun h => absurd h (by decide)) (h_l0 := by decide) (h_l1 := ?_) (h_c0 := by decide) (h_c1 := by decide) (h_n0 := by decide) (h_n1 := by decide) (h_k0 := by decide) (h_k1 := by decide) (h_g0 := Or.inl rfl) (h_tr := fun h => absurd h (by decide)) (h_sq := fun h => absurd h (by decide)) (h_sl := fun h => absurd h (by decide)) (h_r0 := fun h => absurd h (by decide)) (h_r1 := fun h => absurd h (by decide)) (h_w0 := fun h => absurd h (by decide)) (h_w1 := fun h => absurd h (by decide)) (h_d0 := fun h => absurd h (by decide)) (h_d1 := fun h => absurd h (by decide)) (h_e0 := fun h => absurd h (by decide)) (h_e1 := fun h => absurd h (by decide)) (h_q0 := fun h => absurd h (by decide)) (h_q1 := fun h => absurd h (by decide)) (h_su0 := by decide) (h_su1 := by decide) (h_st0 := by decide) (h_st1 := by decide) (h_pl0 := by decide) (h_pl1 := by decide) (h_stalls0 := by decide) (h_stalls1 := by decide) (h_aband0 := by decide) (h_aband1 := by decide) (h_fin0 := by decide) (h_fin1 := by decide) (h_sw0 := by decide) (h_sw1 := by decide) (h_va := fun k hk => ?_) (h_aa := fun k hk => ?_) (h_sg := fun k hk => ?_) (h_sm := fun k hk => absurd hk (by show ¬ k < 0; omega)))
  · show (0 : Int) ≤ c.v 1; omega
  · show (0 : Int) ≤ c.v 1; omega
  · show (0 : Int) ≤ 0 * c.v 0; omega
  · show (0 : Int) ≤ 0 * c.v 0; omega
  · show (-1 : Int) < c.vn; omega
  · have hk : (k : Int) < 0 := hk; omega
  · have hk : (k : Int) < 0 := hk; omega
  · have hk : (k : Int) < 0 := hk; omega
