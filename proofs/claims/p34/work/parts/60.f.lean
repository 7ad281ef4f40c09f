/-! the program's side: what a session computes -/
theorem c_buf0 {c : Cf} {σ : Ss} (W : WfC c) {T : Int} (S : WfS c T σ) (V : 1 ≤ c.vn) {pos vn vs : Int32} {va : Nat → Int32} (hv : (va 0).toInt = c.v 0) (h1 : pos.toInt = σ.pos) (h2 : vn.toInt = c.vn) (h3 : vs.toInt = σ.vs) : (f_X6_bufferOf_0 pos va vn vs).toInt = bufV c σ := by
  have m := WfS.vD W S
  have p0 := S.p0
  have pv := S.pv
  have v0 : f_X8_valueOf va 0 = va 0 := vo (by decide) (by decide)
  have em : (vs * va 0).toInt = σ.vs * c.v 0 := by rw [mul32 (by rw [h3, hv]; omega) (by rw [h3, hv]; omega), h3, hv]
  unfold f_X6_bufferOf_0
  rw [if_neg (by rw [eq32, h2]; simp only [Int32.reduceToInt]; omega), v0, sub32 (by omega) (by omega), em, h1]; rfl
theorem c_buf1 {c : Cf} {σ : Ss} (W : WfC c) {T : Int} (S : WfS c T σ) (V : 1 ≤ c.an) {pos an as : Int32} {va : Nat → Int32} (hv : (va 0).toInt = c.v 0) (h1 : pos.toInt = σ.pos) (h2 : an.toInt = c.an) (h3 : as.toInt = σ.as) : (f_X6_bufferOf_1 pos as an va).toInt = bufA c σ := by
  have m := WfS.aD W S
  have p0 := S.p0
  have pv := S.pa (by omega)
  have v0 : f_X8_valueOf va 0 = va 0 := vo (by decide) (by decide)
  have em : (as * va 0).toInt = σ.as * c.v 0 := by rw [mul32 (by rw [h3, hv]; omega) (by rw [h3, hv]; omega), h3, hv]
  unfold f_X6_bufferOf_1
  rw [if_neg (by rw [eq32, h2]; simp only [Int32.reduceToInt]; omega), v0, sub32 (by omega) (by omega), em, h1]; rfl
theorem buf_b {c : Cf} {σ : Ss} (W : WfC c) {T : Int} (S : WfS c T σ) : (0 ≤ bufV c σ ∧ bufV c σ ≤ 2000000) ∧ (0 < c.an → 0 ≤ bufA c σ ∧ bufA c σ ≤ 2000000) := by
  have m := WfS.vD W S
  have n := WfS.aD W S
  have p0 := S.p0
  have pv := S.pv
  have pa := S.pa
  unfold bufV bufA
  refine ⟨by omega, fun h => ?_⟩
  have := pa h
  omega
theorem c_by {c : Cf} {σ : Ss} (W : WfC c) {T : Int} (S : WfS c T σ) (V : 1 ≤ c.vn) {pos vn vs : Int32} {va : Nat → Int32} (hv : ∀ k, k < 15 → (va k).toInt = c.v k) (h1 : pos.toInt = σ.pos) (h2 : vn.toInt = c.vn) (h3 : vs.toInt = σ.vs) : ∃ z, f_X6_rungByBuffer pos va vn vs = some z ∧ z.toInt = byS c (bufV c σ) := by
  have eb := c_buf0 W S V (va := va) (hv 0 (by decide)) h1 h2 h3
  have bb := (buf_b W S).1
  have v5 : f_X8_valueOf va 5 = va 5 := vo (by decide) (by decide)
  have v6 : f_X8_valueOf va 6 = va 6 := vo (by decide) (by decide)
  have h5 := hv 5 (by decide)
  have h6 := hv 6 (by decide)
  have b := byS_b W V (b := bufV c σ)
  have w5 := W.a5
  have w6 := W.b6
  have n1 := W.vn1
  have en : (vn - 1).toInt = c.vn - 1 := by rw [sub32 (by simp only [Int32.reduceToInt]; omega) (by simp only [Int32.reduceToInt]; omega), h2]; rfl
  unfold f_X6_rungByBuffer
  simp only [bnd, v5, v6]
  by_cases q5 : bufV c σ < c.v 5
  · rw [if_neg (by rw [le32]; omega)]
    refine ⟨_, rfl, ?_⟩
    unfold byS; rw [if_pos q5]; rfl
  · rw [if_pos (by rw [le32]; omega)]
    by_cases q6 : c.v 6 ≤ bufV c σ
    · rw [if_pos (by rw [le32]; omega)]
      refine ⟨_, rfl, ?_⟩
      unfold byS; rw [if_neg q5, if_pos q6, en]
    · have e65 : (va 6 - va 5).toInt = c.v 6 - c.v 5 := by rw [sub32 (by omega) (by omega), h5, h6]
      have eb5 : (f_X6_bufferOf_0 pos va vn vs - va 5).toInt = bufV c σ - c.v 5 := by rw [sub32 (by omega) (by omega), h5, eb]
      have em : ((vn - 1) * (f_X6_bufferOf_0 pos va vn vs - va 5)).toInt = (c.vn - 1) * (bufV c σ - c.v 5) := by
        have := b.2 (by omega) (by omega)
        rw [mul32 (by rw [en, eb5]; omega) (by rw [en, eb5]; omega), en, eb5]
      have := b.2 (by omega) (by omega)
      rw [if_neg (by rw [le32]; omega), if_pos (by rw [lt32]; omega), grd_m (by omega)]
      refine ⟨_, rfl, ?_⟩
      rw [div32 (by omega) (by omega), em, e65]
      unfold byS; rw [if_neg q5, if_neg q6]
theorem c_up {c : Cf} {σ : Ss} (W : WfC c) {T : Int} (S : WfS c T σ) {last chg time l1 : Int32} {va : Nat → Int32} (hv : (va 10).toInt = c.v 10) (h1 : last.toInt = σ.last) (h2 : chg.toInt = σ.chg) (h3 : time.toInt = σ.time) :
    ∃ z, f_X6_videoRung_b60 last chg time va l1 = some z ∧ z.toInt = stepUp c σ l1.toInt := by
  have l0 := S.l0
  have l1' := S.l1
  have c0 := S.c0
  have c1 := S.c1
  have t1 := S.t1
  have n1 := W.vn1
  have v10 : f_X8_valueOf va 10 = va 10 := vo (by decide) (by decide)
  have ed : (time - chg).toInt = σ.time - σ.chg := by rw [sub32 (by omega) (by omega), h2, h3]
  unfold f_X6_videoRung_b60 stepUp
  rw [v10]
  by_cases q : l1.toInt ≤ σ.last
  · rw [if_neg (by rw [lt32]; omega), if_pos q]; exact ⟨_, rfl, rfl⟩
  · rw [if_pos (by rw [lt32]; omega), if_neg q]
    by_cases q2 : c.v 10 ≤ σ.time - σ.chg
    · rw [if_pos (by rw [le32]; omega), if_pos q2]
      refine ⟨_, rfl, ?_⟩
      rw [add32 (by simp only [Int32.reduceToInt]; omega) (by simp only [Int32.reduceToInt]; omega), h1]; rfl
    · rw [if_neg (by rw [le32]; omega), if_neg q2]
      exact ⟨_, rfl, h1⟩
theorem c_vid {c : Cf} {σ : Ss} (W : WfC c) {T : Int} (S : WfS c T σ) (V : 1 ≤ c.vn) {mode last chg time pos kept vn vs : Int32} {bits durs : Nat → Int64} {va ra : Nat → Int32} (hv : ∀ k, k < 15 → (va k).toInt = c.v k) (h1 : pos.toInt = σ.pos) (h2 : vn.toInt = c.vn) (h3 : vs.toInt = σ.vs)
    (h4 : last.toInt = σ.last) (h5 : chg.toInt = σ.chg) (h6 : time.toInt = σ.time) (hk : kept.toInt = σ.kept) (hb : ∀ k : Nat, (k : Int) < σ.kept → (bits k).toInt = σ.bits k) (hd : ∀ k : Nat, (k : Int) < σ.kept → (durs k).toInt = σ.durs k)
    (hr : ∀ k : Nat, (k : Int) < c.vn → (ra k).toInt = c.vr k) : ∃ z, f_X6_videoRung mode last chg time pos kept bits durs va vn ra vs = some z ∧ z.toInt = chosenS c σ mode.toInt := by
  obtain ⟨n1, n2, n3, n4⟩ := nSm_i W S
  have a9 := W.a9
  have b9 := W.b9
  have e9 := hv 9 (by decide)
  have e8 := hv 8 (by decide)
  have vn1 := W.vn1
  have en : (vn - 1).toInt = c.vn - 1 := by rw [sub32 (by simp only [Int32.reduceToInt]; omega) (by simp only [Int32.reduceToInt]; omega), h2]; rfl
  have eb : (f_X6_rungByThroughput kept bits durs va vn ra 100).toInt = bor c.vr 100 (lim c σ) c.vn.toNat := by
    have := c_borne (fac := 100) (f := c.vr) (N := c.vn.toNat) (kept := kept) (va := va) (ra := ra) (rungs := vn) (by rw [hk, e8]; exact n1) n2 n3 (fun k q => hb k (by omega)) (fun k q => hd k (by omega)) (by omega) (by omega) (by omega) (by omega) (by omega) (fun k q => ⟨hr k (by omega), by have := W.vr0 k (by omega); omega, (W.vr0 k (by omega)).2⟩) (by decide) (by decide)
    rw [this, e9]; rfl
  obtain ⟨y, hy, ey⟩ := c_by W S V hv h1 h2 h3
  have by' := (byS_b W V (b := bufV c σ)).1
  unfold f_X6_videoRung chosenS
  by_cases q : σ.last < 0
  · rw [if_neg (by rw [le32]; simp only [Int32.reduceToInt]; omega), if_pos q]; exact ⟨_, rfl, rfl⟩
  · rw [if_pos (by rw [le32]; simp only [Int32.reduceToInt]; omega), if_neg q]
    unfold bestS f_X6_videoRung_b44
    simp only [bnd, hy, obnd_some]
    by_cases m1 : mode.toInt = 1
    · rw [if_pos (by rw [eq32]; exact m1), if_neg (by rw [eq32]; simp only [Int32.reduceToInt]; omega), if_neg (by omega), if_pos m1]
      obtain ⟨z, hz, ez⟩ := c_up W S (l1 := mn32 (vn - 1) y) (hv 10 (by decide)) h4 h5 h6
      refine ⟨z, hz, ?_⟩
      rw [ez, min32, en, ey]; congr 1; omega
    · rw [if_neg (by rw [eq32]; exact m1)]
      by_cases m0 : mode.toInt = 0
      · rw [if_pos (by rw [eq32]; exact m0), if_pos m0]
        obtain ⟨z, hz, ez⟩ := c_up W S (l1 := f_X6_rungByThroughput kept bits durs va vn ra 100) (hv 10 (by decide)) h4 h5 h6
        exact ⟨z, hz, by rw [ez, eb]⟩
      · rw [if_neg (by rw [eq32]; exact m0), if_neg m0, if_neg m1]
        obtain ⟨z, hz, ez⟩ := c_up W S (l1 := mn32 (f_X6_rungByThroughput kept bits durs va vn ra 100) y) (hv 10 (by decide)) h4 h5 h6
        exact ⟨z, hz, by rw [ez, min32, eb, ey]⟩
