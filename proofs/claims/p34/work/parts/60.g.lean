/-! a download begins -/
def rateS (c : Cf) (tr rung : Int) : Int := if tr = 0 then c.vr rung.toNat else c.ar rung.toNat
def beginsS (c : Cf) (σ : Ss) (tr seg rung : Int) : Ss :=
  (Ss.mk (σ.time) (σ.pos) (σ.state) (σ.vs) (σ.as) (1) (tr) (seg) (rung) (c.v 2) (0) (0) (sizeS c tr (rateS c tr rung) rung seg) (if tr = 0 then rung else σ.last) (if tr = 0 then (if 0 ≤ σ.last ∧ σ.last ≠ rung then σ.time else σ.chg) else σ.chg) (σ.su) (σ.st) (σ.pl) (σ.stalls) (σ.aband) (σ.fin) (σ.sw) (σ.len) (σ.kept) (σ.wasted) (σ.qual) (σ.va) (σ.aa) (σ.sg) (σ.bits) (σ.durs))
theorem rateS_b {c : Cf} (W : WfC c) {tr rung : Int} (h0 : 0 ≤ rung) (h1 : rung < if tr = 0 then c.vn else c.an) : 0 ≤ rateS c tr rung ∧ rateS c tr rung ≤ 50000 := by
  unfold rateS
  split at h1 <;> rename_i q
  · rw [if_pos q]; have := W.vr0 rung.toNat (by omega); omega
  · rw [if_neg q]; have := W.ar0 rung.toNat (by omega); omega
theorem begins_wf {c : Cf} {σ : Ss} (W : WfC c) {T : Int} (S : WfS c T σ) {tr rung : Int} (ht : tr = 0 ∨ tr = 1) (h0 : 0 ≤ rung) (h1 : rung < if tr = 0 then c.vn else c.an) (hs : (if tr = 0 then σ.vs else σ.as) < c.v 1) : WfS c T (beginsS c σ tr (if tr = 0 then σ.vs else σ.as) rung) := by
  have rb := rateS_b W h0 h1
  have sb := sizeS_b W (tr := tr) (rung := rung) (seg := if tr = 0 then σ.vs else σ.as) rb.1 rb.2
  have c0 := S.c0
  have c1 := S.c1
  have t0 := S.t0
  have T0 := S.T0
  have l0 := S.l0
  have l1 := S.l1
  have a2 := W.a2
  have b2 := W.b2
  have z0 : (0 : Int) ≤ 0 := Int.le_refl 0
  exact (WfS.mk (h_T0 := S.T0) (h_T1 := S.T1) (h_t0 := S.t0) (h_t1 := S.t1) (h_s0 := S.s0) (h_s1 := S.s1) (h_v0 := S.v0) (h_v1 := S.v1) (h_a0 := S.a0) (h_a1 := S.a1) (h_p0 := S.p0) (h_pv := S.pv) (h_pa := S.pa) (h_p2 := S.p2) (h_l0 := by show -1 ≤ (if tr = 0 then rung else σ.last); split <;> omega) (h_l1 := by
      show (if tr = 0 then rung else σ.last) < c.vn
      split <;> rename_i q
      · rw [if_pos q] at h1; exact h1
      · exact l1) (h_c0 := by show 0 ≤ (if tr = 0 then (if 0 ≤ σ.last ∧ σ.last ≠ rung then σ.time else σ.chg) else σ.chg); split <;> (try split) <;> omega) (h_c1 := by show (if tr = 0 then (if 0 ≤ σ.last ∧ σ.last ≠ rung then σ.time else σ.chg) else σ.chg) ≤ σ.time; split <;> (try split) <;> omega) (h_n0 := S.n0) (h_n1 := S.n1) (h_k0 := S.k0) (h_k1 := S.k1) (h_g0 := Or.inr rfl) (h_tr := fun _ => ht) (h_sq := fun _ => rfl) (h_sl := fun _ => hs) (h_r0 := fun _ => h0) (h_r1 := fun _ => h1) (h_w0 := fun _ => a2) (h_w1 := fun _ => b2) (h_d0 := fun _ => z0) (h_d1 := fun _ => T0) (h_e0 := fun _ => sb.2.2.1) (h_e1 := fun _ => sb.2.2.2) (h_q0 := fun _ => z0) (h_q1 := fun _ => by show (0 : Int) < sizeS c tr (rateS c tr rung) rung (if tr = 0 then σ.vs else σ.as); omega) (h_su0 := S.su0) (h_su1 := S.su1) (h_st0 := S.st0) (h_st1 := S.st1) (h_pl0 := S.pl0) (h_pl1 := S.pl1) (h_stalls0 := S.stalls0) (h_stalls1 := S.stalls1) (h_aband0 := S.aband0) (h_aband1 := S.aband1) (h_fin0 := S.fin0) (h_fin1 := S.fin1) (h_sw0 := S.sw0) (h_sw1 := S.sw1) (h_va := S.va) (h_aa := S.aa) (h_sg := S.sg) (h_sm := S.sm))
theorem c_begin0 {c : Cf} (W : WfC c) {last chg time sg ru : Int32} {va ra : Nat → Int32} {Rt : Int} (hv : ∀ k, k < 15 → (va k).toInt = c.v k) (hr : (ra ru.toInt.toNat).toInt = Rt) (b0 : 0 ≤ Rt) (b1 : Rt ≤ 50000) (r0 : 0 ≤ ru.toInt) (r1 : ru.toInt < 6) (s0 : 0 ≤ sg.toInt) (s1 : sg.toInt < 200) :
    ∃ chg' z, f_X6_beginDownload_0 last chg time va ra 0 sg ru = (ru, chg', 1, 0, sg, ru, va 2, 0, z, 0) ∧ chg'.toInt = (if 0 ≤ last.toInt ∧ last.toInt ≠ ru.toInt then time.toInt else chg.toInt) ∧ z.toInt = sizeS c 0 Rt ru.toInt sg.toInt := by
  have eb := c_bits W (p0 := 0) (p1 := ru) (p2 := sg) (hv 0 (by decide)) hr b0 b1 (by decide) (by decide) r0 r1 s0 s1
  have v2 : f_X8_valueOf va 2 = va 2 := vo (by decide) (by decide)
  unfold f_X6_beginDownload_0
  simp only [bnd, v2]
  by_cases q : last.toInt < 0
  · rw [if_pos (by rw [lt32]; exact q)]
    refine ⟨_, _, rfl, ?_, eb⟩
    rw [if_neg (by omega)]
  · rw [if_neg (by rw [lt32]; exact q)]
    by_cases q2 : ru.toInt = last.toInt
    · rw [if_pos (by rw [eq32]; exact q2)]
      refine ⟨_, _, rfl, ?_, eb⟩
      rw [if_neg (by omega)]
    · rw [if_neg (by rw [eq32]; exact q2)]
      refine ⟨_, _, rfl, ?_, eb⟩
      rw [if_pos (by omega)]
theorem rc_begin {c : Cf} {σ : Ss} {last : Int32} {chg : Int32} {state : Int32} {time : Int32} {pos : Int32} {su : Int32} {st : Int32} {pl : Int32} {stalls : Int32} {aband : Int32} {fin : Int32} {sw : Int32} {wasted : Int64} {qual : Int64} {as : Int32} {aa : Nat → Int32} {going : Int32} {track : Int32} {seg : Int32} {rung : Int32} {wait : Int32} {dur : Int32} {need : Int64} {got : Int64} {len : Int32} {sg : Nat → Int32} {kept : Int32} {bits : Nat → Int64} {durs : Nat → Int64} {vs : Int32} {va : Nat → Int32} (R : RC c σ last chg state time pos su st pl stalls aband fin sw wasted qual as aa going track seg rung wait dur need got len sg kept bits durs vs va) {tr sgi rui : Int} {last' chg' tr' sg' ru' wa' du' : Int32} {ne' go' : Int64}
    (h1 : last'.toInt = if tr = 0 then rui else σ.last) (h2 : chg'.toInt = if tr = 0 then (if 0 ≤ σ.last ∧ σ.last ≠ rui then σ.time else σ.chg) else σ.chg) (h3 : tr'.toInt = tr) (h4 : sg'.toInt = sgi) (h5 : ru'.toInt = rui) (h6 : wa'.toInt = c.v 2) (h7 : du'.toInt = 0) (h8 : ne'.toInt = sizeS c tr (rateS c tr rui) rui sgi) (h9 : go'.toInt = 0) :
    RC c (beginsS c σ tr sgi rui) last' chg' state time pos su st pl stalls aband fin sw wasted qual as aa 1 tr' sg' ru' wa' du' ne' go' len sg kept bits durs vs va :=
  (RC.mk (h_last := h1) (h_chg := h2) (h_state := R.state) (h_time := R.time) (h_pos := R.pos) (h_su := R.su) (h_st := R.st) (h_pl := R.pl) (h_stalls := R.stalls) (h_aband := R.aband) (h_fin := R.fin) (h_sw := R.sw) (h_wasted := R.wasted) (h_qual := R.qual) (h_as := R.as) (h_aa := R.aa) (h_going := rfl) (h_track := fun _ => h3) (h_seg := fun _ => h4) (h_rung := fun _ => h5) (h_wait := fun _ => h6) (h_dur := fun _ => h7) (h_need := fun _ => h8) (h_got := fun _ => h9) (h_len := R.len) (h_sg := R.sg) (h_ft := R.ft) (h_kept := R.kept) (h_bits := R.bits) (h_durs := R.durs) (h_vs := R.vs) (h_va := R.va))
/-! what may begin -/
abbrev mayV (c : Cf) (σ : Ss) : Prop := σ.vs < c.v 1 ∧ bufV c σ + c.v 0 ≤ c.v 7 ∧ (c.v 13 = 0 ∨ (σ.vs + 1) * c.v 0 - c.v 13 ≤ σ.time)
abbrev mayA (c : Cf) (σ : Ss) : Prop := 0 < c.an ∧ σ.as < c.v 1 ∧ bufA c σ + c.v 0 ≤ c.v 7 ∧ (c.v 13 = 0 ∨ (σ.as + 1) * c.v 0 - c.v 13 ≤ σ.time)
theorem c_avail {c : Cf} (W : WfC c) {seg time : Int32} {va : Nat → Int32} (hv : ∀ k, k < 15 → (va k).toInt = c.v k) (s0 : 0 ≤ seg.toInt) (s1 : seg.toInt < 200) : f_X8_isAvailable va seg time = if c.v 13 = 0 ∨ (seg.toInt + 1) * c.v 0 - c.v 13 ≤ time.toInt then 1 else 0 := by
  have v0 : f_X8_valueOf va 0 = va 0 := vo (by decide) (by decide)
  have v13 : f_X8_valueOf va 13 = va 13 := vo (by decide) (by decide)
  have h0 := hv 0 (by decide)
  have h13 := hv 13 (by decide)
  have d0 := W.d0
  have d1 := W.d1
  have a13 := W.a13
  have b13 := W.b13
  have e1 : (seg + 1).toInt = seg.toInt + 1 := by rw [add32 (by simp only [Int32.reduceToInt]; omega) (by simp only [Int32.reduceToInt]; omega)]; rfl
  have m := mulb (a := seg.toInt + 1) (b := c.v 0) (A := 200) (B := 10000) (by omega) (by omega) (by omega) (by omega)
  have e2 : ((seg + 1) * va 0).toInt = (seg.toInt + 1) * c.v 0 := by rw [mul32 (by rw [e1, h0]; omega) (by rw [e1, h0]; omega), e1, h0]
  have e3 : ((seg + 1) * va 0 - va 13).toInt = (seg.toInt + 1) * c.v 0 - c.v 13 := by rw [sub32 (by omega) (by omega), e2, h13]
  unfold f_X8_isAvailable
  rw [v0, v13]
  by_cases q : c.v 13 = 0
  · rw [if_pos (by rw [eq32, h13]; exact q), if_pos (Or.inl q)]
  · rw [if_neg (by rw [eq32, h13]; exact q)]
    by_cases q2 : (seg.toInt + 1) * c.v 0 - c.v 13 ≤ time.toInt
    · rw [if_neg (by rw [lt32]; omega), if_pos (Or.inr q2)]
    · rw [if_pos (by rw [lt32]; omega), if_neg (fun o => o.elim q q2)]
theorem one_z : ¬ ((1 : Int32) = 0) := by decide
theorem c_has0 {c : Cf} {σ : Ss} (W : WfC c) {T : Int} (S : WfS c T σ) (V : 1 ≤ c.vn) {time pos vn vs : Int32} {va : Nat → Int32} (hv : ∀ k, k < 15 → (va k).toInt = c.v k) (ht : time.toInt = σ.time) (h1 : pos.toInt = σ.pos) (h2 : vn.toInt = c.vn) (h3 : vs.toInt = σ.vs) :
    f_X6_hasNext_0 time pos va vn vs = if mayV c σ then 1 else 0 := by
  have v0 : f_X8_valueOf va 0 = va 0 := vo (by decide) (by decide)
  have v1 : f_X8_valueOf va 1 = va 1 := vo (by decide) (by decide)
  have v7 : f_X8_valueOf va 7 = va 7 := vo (by decide) (by decide)
  have h0 := hv 0 (by decide)
  have hm := hv 1 (by decide)
  have h7 := hv 7 (by decide)
  have eb := c_buf0 W S V (va := va) h0 h1 h2 h3
  have bb := (buf_b W S).1
  have d0 := W.d0
  have d1 := W.d1
  have m1 := W.m1
  have s0 := S.v0
  unfold f_X6_hasNext_0
  rw [if_neg (by rw [le32, h2]; simp only [Int32.reduceToInt]; omega), v0, v1, v7]
  by_cases q1 : σ.vs < c.v 1
  · rw [if_neg (by rw [le32]; omega), c_avail W hv (by omega) (by omega), h3, ht]
    have ea : (f_X6_bufferOf_0 pos va vn vs + va 0).toInt = bufV c σ + c.v 0 := by rw [add32 (by omega) (by omega), eb, h0]
    by_cases q2 : c.v 13 = 0 ∨ (σ.vs + 1) * c.v 0 - c.v 13 ≤ σ.time
    · rw [if_pos q2, if_neg one_z]
      by_cases q3 : bufV c σ + c.v 0 ≤ c.v 7
      · rw [if_neg (by rw [lt32]; omega), if_pos (show mayV c σ from ⟨q1, q3, q2⟩)]
      · rw [if_pos (by rw [lt32]; omega), if_neg (fun o : mayV c σ => q3 o.2.1)]
    · rw [if_neg q2, if_pos rfl, if_neg (fun o : mayV c σ => q2 o.2.2)]
  · rw [if_pos (by rw [le32]; omega), if_neg (fun o : mayV c σ => q1 o.1)]
theorem c_has1 {c : Cf} {σ : Ss} (W : WfC c) {T : Int} (S : WfS c T σ) {time pos an as : Int32} {va : Nat → Int32} (hv : ∀ k, k < 15 → (va k).toInt = c.v k) (ht : time.toInt = σ.time) (h1 : pos.toInt = σ.pos) (h2 : an.toInt = c.an) (h3 : as.toInt = σ.as) :
    f_X6_hasNext_1 time pos as an va = if mayA c σ then 1 else 0 := by
  have v0 : f_X8_valueOf va 0 = va 0 := vo (by decide) (by decide)
  have v1 : f_X8_valueOf va 1 = va 1 := vo (by decide) (by decide)
  have v7 : f_X8_valueOf va 7 = va 7 := vo (by decide) (by decide)
  have h0 := hv 0 (by decide)
  have hm := hv 1 (by decide)
  have h7 := hv 7 (by decide)
  have d0 := W.d0
  have d1 := W.d1
  have m1 := W.m1
  have s0 := S.a0
  unfold f_X6_hasNext_1
  rw [v0, v1, v7]
  by_cases q0 : 0 < c.an
  · have eb := c_buf1 W S q0 (va := va) h0 h1 h2 h3
    have bb := (buf_b W S).2 q0
    rw [if_neg (by rw [le32, h2]; simp only [Int32.reduceToInt]; omega)]
    by_cases q1 : σ.as < c.v 1
    · rw [if_neg (by rw [le32]; omega), c_avail W hv (by omega) (by omega), h3, ht]
      have ea : (f_X6_bufferOf_1 pos as an va + va 0).toInt = bufA c σ + c.v 0 := by rw [add32 (by omega) (by omega), eb, h0]
      by_cases q2 : c.v 13 = 0 ∨ (σ.as + 1) * c.v 0 - c.v 13 ≤ σ.time
      · rw [if_pos q2, if_neg one_z]
        by_cases q3 : bufA c σ + c.v 0 ≤ c.v 7
        · rw [if_neg (by rw [lt32]; omega), if_pos (show mayA c σ from ⟨q0, q1, q3, q2⟩)]
        · rw [if_pos (by rw [lt32]; omega), if_neg (fun o : mayA c σ => q3 o.2.2.1)]
      · rw [if_neg q2, if_pos rfl, if_neg (fun o : mayA c σ => q2 o.2.2.2)]
    · rw [if_pos (by rw [le32]; omega), if_neg (fun o : mayA c σ => q1 o.2.1)]
  · rw [if_pos (by rw [le32, h2]; simp only [Int32.reduceToInt]; omega), if_neg (fun o : mayA c σ => q0 o.1)]
def nextS (c : Cf) (σ : Ss) (mode : Int) : Ss :=
  if mayV c σ ∧ (¬ mayA c σ ∨ σ.vs ≤ σ.as) then beginsS c σ 0 σ.vs (chosenS c σ mode)
  else if mayA c σ then beginsS c σ 1 σ.as (bor c.ar 500 (lim c σ) c.an.toNat) else σ
theorem next_wf {c : Cf} {σ : Ss} (W : WfC c) {T : Int} (S : WfS c T σ) (V : 1 ≤ c.vn) (mode : Int) : WfS c T (nextS c σ mode) := by
  unfold nextS
  split
  · rename_i q
    have b := chosenS_b W S V mode
    have := begins_wf W S (tr := 0) (Or.inl rfl) b.1 (by rw [if_pos rfl]; exact b.2) (by rw [if_pos rfl]; exact q.1.1)
    rw [if_pos rfl] at this; exact this
  · split
    · rename_i q
      have a := q.1
      have b := bor_b (f := c.ar) (fac := 500) (lim := lim c σ) c.an.toNat
      have b' := b.2 (by omega)
      have := begins_wf W S (tr := 1) (Or.inr rfl) b.1 (by rw [if_neg (by decide)]; omega) (by rw [if_neg (by decide)]; exact q.2.1)
      rw [if_neg (by decide)] at this; exact this
    · exact S
theorem c_next {c : Cf} {σ : Ss} (W : WfC c) {T : Int} (S : WfS c T σ) (V : 1 ≤ c.vn) {va8 : Nat → Int32} {vn : Int32} {vr : Nat → Int32} {an : Int32} {ar : Nat → Int32} {tot ph : Int32} {ln fl : Nat → Int32} (K : CC c va8 vn vr an ar tot ph ln fl) {last : Int32} {chg : Int32} {state : Int32} {time : Int32} {pos : Int32} {su : Int32} {st : Int32} {pl : Int32} {stalls : Int32} {aband : Int32} {fin : Int32} {sw : Int32} {wasted : Int64} {qual : Int64} {as : Int32} {aa : Nat → Int32} {going : Int32} {track : Int32} {seg : Int32} {rung : Int32} {wait : Int32} {dur : Int32} {need : Int64} {got : Int64} {len : Int32} {sg : Nat → Int32} {kept : Int32} {bits : Nat → Int64} {durs : Nat → Int64} {vs : Int32} {va : Nat → Int32} (R : RC c σ last chg state time pos su st pl stalls aband fin sw wasted qual as aa going track seg rung wait dur need got len sg kept bits durs vs va) {mode : Int32} :
    ∃ last' chg' going' track' seg' rung' wait' dur' need' got', f_X6_beginNext mode last chg time pos as going track seg rung wait dur need got kept bits durs an ar va8 vn vr vs = some (last', chg', going', track', seg', rung', wait', dur', need', got') ∧ RC c (nextS c σ mode.toInt) last' chg' state time pos su st pl stalls aband fin sw wasted qual as aa going' track' seg' rung' wait' dur' need' got' len sg kept bits durs vs va := by
  have e0 := c_has0 W S V K.v R.time R.pos K.vn R.vs
  have e1 := c_has1 W S K.v R.time R.pos K.an R.as
  obtain ⟨n1, n2, n3, n4⟩ := nSm_i W S
  have a9 := W.a9
  have b9 := W.b9
  have k9 := K.v 9 (by decide)
  have k8 := K.v 8 (by decide)
  have kk := R.kept
  have k2 := K.v 2 (by decide)
  have v2 : f_X8_valueOf va8 2 = va8 2 := vo (by decide) (by decide)
  have m1 := W.m1
  have vn1 := W.vn1
  have an1 := W.an1
  have s0 := S.v0
  have s1 := S.a0
  have hvs := R.vs
  have has := R.as
  have hvn := K.vn
  have vid : mayV c σ → ∃ last' chg' going' track' seg' rung' wait' dur' need' got', (obnd (f_X6_videoRung mode last chg time pos kept bits durs va8 vn vr vs) fun (y14 : Int32) => bnd10 (f_X6_beginDownload_0 last chg time va8 vr 0 vs y14) fun (y15 : Int32) (y16 : Int32) (y17 : Int32) (y18 : Int32) (y19 : Int32) (y20 : Int32) (y21 : Int32) (y22 : Int32) (z23 : Int64) (z24 : Int64) => some (y15, y16, y17, y18, y19, y20, y21, y22, z23, z24)) = some (last', chg', going', track', seg', rung', wait', dur', need', got') ∧ RC c (beginsS c σ 0 σ.vs (chosenS c σ mode.toInt)) last' chg' state time pos su st pl stalls aband fin sw wasted qual as aa going' track' seg' rung' wait' dur' need' got' len sg kept bits durs vs va := by
    intro q
    have q1 := q.1
    obtain ⟨z, hz, ez⟩ := c_vid W S V (mode := mode) K.v R.pos K.vn R.vs R.last R.chg R.time R.kept R.bits R.durs K.vr
    have cb := chosenS_b W S V mode.toInt
    have rb := rateS_b W (tr := 0) (rung := z.toInt) (by omega) (by rw [if_pos rfl]; omega)
    obtain ⟨chg', w, hw, ec, ew⟩ := c_begin0 W (last := last) (chg := chg) (time := time) (sg := vs) (ru := z) (ra := vr) (Rt := rateS c 0 z.toInt) K.v (by rw [K.vr z.toInt.toNat (by omega)]; rfl) rb.1 rb.2 (by omega) (by omega) (by omega) (by omega)
    rw [hz, obnd_some, hw]
    refine ⟨_, _, _, _, _, _, _, _, _, _, rfl, rc_begin R ?_ ?_ rfl hvs ez k2 rfl ?_ rfl⟩
    · rw [if_pos rfl]; exact ez
    · rw [if_pos rfl, ec, ez, R.last, R.time, R.chg]
    · rw [ew, ez, hvs]
  have aud : mayA c σ → ∃ last' chg' going' track' seg' rung' wait' dur' need' got', (bnd8 (f_X6_beginDownload_1 ar va8 1 as (f_X6_rungByThroughput kept bits durs va8 an ar 500)) fun (y5 : Int32) (y6 : Int32) (y7 : Int32) (y8 : Int32) (y9 : Int32) (y10 : Int32) (z11 : Int64) (z12 : Int64) => some (last, chg, y5, y6, y7, y8, y9, y10, z11, z12)) = some (last', chg', going', track', seg', rung', wait', dur', need', got') ∧ RC c (beginsS c σ 1 σ.as (bor c.ar 500 (lim c σ) c.an.toNat)) last' chg' state time pos su st pl stalls aband fin sw wasted qual as aa going' track' seg' rung' wait' dur' need' got' len sg kept bits durs vs va := by
    intro q
    have q0 := q.1
    have q1 := q.2.1
    have hb := bor_b (f := c.ar) (fac := 500) (lim := lim c σ) c.an.toNat
    have hb' := hb.2 (by omega)
    have han := K.an
    have eb : (f_X6_rungByThroughput kept bits durs va8 an ar 500).toInt = bor c.ar 500 (lim c σ) c.an.toNat := by
      have := c_borne (fac := 500) (f := c.ar) (N := c.an.toNat) (kept := kept) (va := va8) (ra := ar) (rungs := an) (by rw [kk, k8]; exact n1) n2 n3 (fun k q => R.bits k (by omega)) (fun k q => R.durs k (by omega)) (by omega) (by omega) (by omega) (by omega) (by omega) (fun k q => ⟨K.ar k (by omega), by have := W.ar0 k (by omega); omega, (W.ar0 k (by omega)).2⟩) (by decide) (by decide)
      rw [this, k9]; rfl
    have rb := rateS_b W (tr := 1) (rung := bor c.ar 500 (lim c σ) c.an.toNat) (by omega) (by rw [if_neg (by decide)]; omega)
    have eq := c_bits W (p0 := 1) (p1 := f_X6_rungByThroughput kept bits durs va8 an ar 500) (p2 := as) (ra := ar) (rate := rateS c 1 (bor c.ar 500 (lim c σ) c.an.toNat)) (K.v 0 (by decide)) (by rw [eb, K.ar _ (by omega)]; rfl) rb.1 rb.2 (by decide) (by decide) (by omega) (by omega) (by omega) (by omega)
    unfold f_X6_beginDownload_1
    simp only [bnd, c_bits1, v2]
    refine ⟨_, _, _, _, _, _, _, _, _, _, rfl, rc_begin R ?_ ?_ rfl has eb k2 rfl ?_ rfl⟩
    · rw [if_neg (by decide)]; exact R.last
    · rw [if_neg (by decide)]; exact R.chg
    · rw [eq, eb, has]; rfl
  unfold f_X6_beginNext nextS
  simp only [bnd, e0, e1]
  by_cases qv : mayV c σ
  · by_cases qa : mayA c σ
    · rw [if_pos qv, if_pos qa, if_neg one_z, if_neg one_z]
      by_cases ql : σ.vs ≤ σ.as
      · rw [if_neg (by rw [lt32]; omega), if_pos ⟨qv, Or.inr ql⟩]
        exact vid qv
      · rw [if_pos (by rw [lt32]; omega), if_neg one_z, if_pos qa, if_neg (fun o : mayV c σ ∧ (¬ mayA c σ ∨ σ.vs ≤ σ.as) => o.2.elim (fun n => n qa) ql)]
        exact aud qa
    · rw [if_pos qv, if_neg qa, if_neg one_z, if_pos rfl, if_pos ⟨qv, Or.inl qa⟩]
      exact vid qv
  · have nq : ¬ (mayV c σ ∧ (¬ mayA c σ ∨ σ.vs ≤ σ.as)) := fun o => qv o.1
    by_cases qa : mayA c σ
    · rw [if_neg qv, if_pos qa, if_pos rfl, if_neg one_z, if_neg nq, if_pos qa]
      exact aud qa
    · rw [if_neg qv, if_neg qa, if_pos rfl, if_pos rfl, if_neg nq, if_neg qa]
      exact ⟨_, _, _, _, _, _, _, _, _, _, rfl, R⟩
