/-! the settings in integers; what the program and the reference compute of them -/
abbrev Cf : Type := (Nat → Int) × Int × Int × Int × Int × (Nat → Int) × (Nat → Int) × (Nat → Int) × (Nat → Int)
abbrev Cf.v (z : Cf) : Nat → Int := z.1
abbrev Cf.vn (z : Cf) : Int := z.2.1
abbrev Cf.an (z : Cf) : Int := z.2.2.1
abbrev Cf.ph (z : Cf) : Int := z.2.2.2.1
abbrev Cf.tot (z : Cf) : Int := z.2.2.2.2.1
abbrev Cf.vr (z : Cf) : Nat → Int := z.2.2.2.2.2.1
abbrev Cf.ar (z : Cf) : Nat → Int := z.2.2.2.2.2.2.1
abbrev Cf.ln (z : Cf) : Nat → Int := z.2.2.2.2.2.2.2.1
abbrev Cf.fl (z : Cf) : Nat → Int := z.2.2.2.2.2.2.2.2
abbrev Cf.mk (v : Nat → Int) (vn : Int) (an : Int) (ph : Int) (tot : Int) (vr : Nat → Int) (ar : Nat → Int) (ln : Nat → Int) (fl : Nat → Int) : Cf := (v, vn, an, ph, tot, vr, ar, ln, fl)
def WfC (c : Cf) : Prop := (100 ≤ c.v 0) ∧ (c.v 0 ≤ 10000) ∧ (1 ≤ c.v 1) ∧ (c.v 1 ≤ 200) ∧ (0 ≤ c.v 2) ∧ (c.v 2 ≤ 2000) ∧ (0 ≤ c.v 3) ∧ (c.v 3 ≤ 60000) ∧ (0 ≤ c.v 4) ∧ (c.v 4 ≤ 60000) ∧ (0 ≤ c.v 5) ∧ (c.v 5 ≤ 60000) ∧ (0 ≤ c.v 6) ∧ (c.v 6 ≤ 60000) ∧ (0 ≤ c.v 7) ∧ (c.v 7 ≤ 60000) ∧ (1 ≤ c.v 8) ∧ (c.v 8 ≤ 10) ∧ (0 ≤ c.v 9) ∧ (c.v 9 ≤ 100) ∧ (0 ≤ c.v 10) ∧ (c.v 10 ≤ 20000) ∧ (0 ≤ c.v 11) ∧ (c.v 11 ≤ 5000) ∧ (0 ≤ c.v 12) ∧ (c.v 12 ≤ 2) ∧ (0 ≤ c.v 13) ∧ (c.v 13 ≤ 60000) ∧ (0 ≤ c.v 14) ∧ (c.v 14 ≤ 60000) ∧ (0 ≤ c.vn) ∧ (c.vn ≤ 6) ∧ (0 ≤ c.an) ∧ (c.an ≤ 3) ∧ (0 ≤ c.ph) ∧ (c.ph ≤ 20) ∧ (∀ k : Nat, (k : Int) < c.vn → 1 ≤ c.vr k ∧ c.vr k ≤ 50000) ∧ (∀ k : Nat, (k : Int) < c.an → 1 ≤ c.ar k ∧ c.ar k ≤ 50000) ∧ (∀ k : Nat, (k : Int) < c.ph → 1 ≤ c.ln k ∧ c.ln k ≤ 100000) ∧ (∀ k : Nat, (k : Int) < c.ph → 0 ≤ c.fl k ∧ c.fl k ≤ 100000)
theorem WfC.d0 {c : Cf} (Z : WfC c) : 100 ≤ c.v 0 := Z.1
theorem WfC.d1 {c : Cf} (Z : WfC c) : c.v 0 ≤ 10000 := Z.2.1
theorem WfC.m0 {c : Cf} (Z : WfC c) : 1 ≤ c.v 1 := Z.2.2.1
theorem WfC.m1 {c : Cf} (Z : WfC c) : c.v 1 ≤ 200 := Z.2.2.2.1
theorem WfC.a2 {c : Cf} (Z : WfC c) : 0 ≤ c.v 2 := Z.2.2.2.2.1
theorem WfC.b2 {c : Cf} (Z : WfC c) : c.v 2 ≤ 2000 := Z.2.2.2.2.2.1
theorem WfC.a3 {c : Cf} (Z : WfC c) : 0 ≤ c.v 3 := Z.2.2.2.2.2.2.1
theorem WfC.b3 {c : Cf} (Z : WfC c) : c.v 3 ≤ 60000 := Z.2.2.2.2.2.2.2.1
theorem WfC.a4 {c : Cf} (Z : WfC c) : 0 ≤ c.v 4 := Z.2.2.2.2.2.2.2.2.1
theorem WfC.b4 {c : Cf} (Z : WfC c) : c.v 4 ≤ 60000 := Z.2.2.2.2.2.2.2.2.2.1
theorem WfC.a5 {c : Cf} (Z : WfC c) : 0 ≤ c.v 5 := Z.2.2.2.2.2.2.2.2.2.2.1
theorem WfC.b5 {c : Cf} (Z : WfC c) : c.v 5 ≤ 60000 := Z.2.2.2.2.2.2.2.2.2.2.2.1
theorem WfC.a6 {c : Cf} (Z : WfC c) : 0 ≤ c.v 6 := Z.2.2.2.2.2.2.2.2.2.2.2.2.1
theorem WfC.b6 {c : Cf} (Z : WfC c) : c.v 6 ≤ 60000 := Z.2.2.2.2.2.2.2.2.2.2.2.2.2.1
theorem WfC.a7 {c : Cf} (Z : WfC c) : 0 ≤ c.v 7 := Z.2.2.2.2.2.2.2.2.2.2.2.2.2.2.1
theorem WfC.b7 {c : Cf} (Z : WfC c) : c.v 7 ≤ 60000 := Z.2.2.2.2.2.2.2.2.2.2.2.2.2.2.2.1
theorem WfC.a8 {c : Cf} (Z : WfC c) : 1 ≤ c.v 8 := Z.2.2.2.2.2.2.2.2.2.2.2.2.2.2.2.2.1
theorem WfC.b8 {c : Cf} (Z : WfC c) : c.v 8 ≤ 10 := Z.2.2.2.2.2.2.2.2.2.2.2.2.2.2.2.2.2.1
theorem WfC.a9 {c : Cf} (Z : WfC c) : 0 ≤ c.v 9 := Z.2.2.2.2.2.2.2.2.2.2.2.2.2.2.2.2.2.2.1
theorem WfC.b9 {c : Cf} (Z : WfC c) : c.v 9 ≤ 100 := Z.2.2.2.2.2.2.2.2.2.2.2.2.2.2.2.2.2.2.2.1
theorem WfC.a10 {c : Cf} (Z : WfC c) : 0 ≤ c.v 10 := Z.2.2.2.2.2.2.2.2.2.2.2.2.2.2.2.2.2.2.2.2.1
theorem WfC.b10 {c : Cf} (Z : WfC c) : c.v 10 ≤ 20000 := Z.2.2.2.2.2.2.2.2.2.2.2.2.2.2.2.2.2.2.2.2.2.1
theorem WfC.a11 {c : Cf} (Z : WfC c) : 0 ≤ c.v 11 := Z.2.2.2.2.2.2.2.2.2.2.2.2.2.2.2.2.2.2.2.2.2.2.1
theorem WfC.b11 {c : Cf} (Z : WfC c) : c.v 11 ≤ 5000 := Z.2.2.2.2.2.2.2.2.2.2.2.2.2.2.2.2.2.2.2.2.2.2.2.1
theorem WfC.a12 {c : Cf} (Z : WfC c) : 0 ≤ c.v 12 := Z.2.2.2.2.2.2.2.2.2.2.2.2.2.2.2.2.2.2.2.2.2.2.2.2.1
theorem WfC.b12 {c : Cf} (Z : WfC c) : c.v 12 ≤ 2 := Z.2.2.2.2.2.2.2.2.2.2.2.2.2.2.2.2.2.2.2.2.2.2.2.2.2.1
theorem WfC.a13 {c : Cf} (Z : WfC c) : 0 ≤ c.v 13 := Z.2.2.2.2.2.2.2.2.2.2.2.2.2.2.2.2.2.2.2.2.2.2.2.2.2.2.1
theorem WfC.b13 {c : Cf} (Z : WfC c) : c.v 13 ≤ 60000 := Z.2.2.2.2.2.2.2.2.2.2.2.2.2.2.2.2.2.2.2.2.2.2.2.2.2.2.2.1
theorem WfC.a14 {c : Cf} (Z : WfC c) : 0 ≤ c.v 14 := Z.2.2.2.2.2.2.2.2.2.2.2.2.2.2.2.2.2.2.2.2.2.2.2.2.2.2.2.2.1
theorem WfC.b14 {c : Cf} (Z : WfC c) : c.v 14 ≤ 60000 := Z.2.2.2.2.2.2.2.2.2.2.2.2.2.2.2.2.2.2.2.2.2.2.2.2.2.2.2.2.2.1
theorem WfC.vn0 {c : Cf} (Z : WfC c) : 0 ≤ c.vn := Z.2.2.2.2.2.2.2.2.2.2.2.2.2.2.2.2.2.2.2.2.2.2.2.2.2.2.2.2.2.2.1
theorem WfC.vn1 {c : Cf} (Z : WfC c) : c.vn ≤ 6 := Z.2.2.2.2.2.2.2.2.2.2.2.2.2.2.2.2.2.2.2.2.2.2.2.2.2.2.2.2.2.2.2.1
theorem WfC.an0 {c : Cf} (Z : WfC c) : 0 ≤ c.an := Z.2.2.2.2.2.2.2.2.2.2.2.2.2.2.2.2.2.2.2.2.2.2.2.2.2.2.2.2.2.2.2.2.1
theorem WfC.an1 {c : Cf} (Z : WfC c) : c.an ≤ 3 := Z.2.2.2.2.2.2.2.2.2.2.2.2.2.2.2.2.2.2.2.2.2.2.2.2.2.2.2.2.2.2.2.2.2.1
theorem WfC.ph0 {c : Cf} (Z : WfC c) : 0 ≤ c.ph := Z.2.2.2.2.2.2.2.2.2.2.2.2.2.2.2.2.2.2.2.2.2.2.2.2.2.2.2.2.2.2.2.2.2.2.1
theorem WfC.ph1 {c : Cf} (Z : WfC c) : c.ph ≤ 20 := Z.2.2.2.2.2.2.2.2.2.2.2.2.2.2.2.2.2.2.2.2.2.2.2.2.2.2.2.2.2.2.2.2.2.2.2.1
theorem WfC.vr0 {c : Cf} (Z : WfC c) : ∀ k : Nat, (k : Int) < c.vn → 1 ≤ c.vr k ∧ c.vr k ≤ 50000 := Z.2.2.2.2.2.2.2.2.2.2.2.2.2.2.2.2.2.2.2.2.2.2.2.2.2.2.2.2.2.2.2.2.2.2.2.2.1
theorem WfC.ar0 {c : Cf} (Z : WfC c) : ∀ k : Nat, (k : Int) < c.an → 1 ≤ c.ar k ∧ c.ar k ≤ 50000 := Z.2.2.2.2.2.2.2.2.2.2.2.2.2.2.2.2.2.2.2.2.2.2.2.2.2.2.2.2.2.2.2.2.2.2.2.2.2.1
theorem WfC.ln0 {c : Cf} (Z : WfC c) : ∀ k : Nat, (k : Int) < c.ph → 1 ≤ c.ln k ∧ c.ln k ≤ 100000 := Z.2.2.2.2.2.2.2.2.2.2.2.2.2.2.2.2.2.2.2.2.2.2.2.2.2.2.2.2.2.2.2.2.2.2.2.2.2.2.1
theorem WfC.fl0 {c : Cf} (Z : WfC c) : ∀ k : Nat, (k : Int) < c.ph → 0 ≤ c.fl k ∧ c.fl k ≤ 100000 := Z.2.2.2.2.2.2.2.2.2.2.2.2.2.2.2.2.2.2.2.2.2.2.2.2.2.2.2.2.2.2.2.2.2.2.2.2.2.2.2
theorem WfC.mk {c : Cf} (h_d0 : 100 ≤ c.v 0) (h_d1 : c.v 0 ≤ 10000) (h_m0 : 1 ≤ c.v 1) (h_m1 : c.v 1 ≤ 200) (h_a2 : 0 ≤ c.v 2) (h_b2 : c.v 2 ≤ 2000) (h_a3 : 0 ≤ c.v 3) (h_b3 : c.v 3 ≤ 60000) (h_a4 : 0 ≤ c.v 4) (h_b4 : c.v 4 ≤ 60000) (h_a5 : 0 ≤ c.v 5) (h_b5 : c.v 5 ≤ 60000) (h_a6 : 0 ≤ c.v 6) (h_b6 : c.v 6 ≤ 60000) (h_a7 : 0 ≤ c.v 7) (h_b7 : c.v 7 ≤ 60000) (h_a8 : 1 ≤ c.v 8) (h_b8 : c.v 8 ≤ 10) (h_a9 : 0 ≤ c.v 9) (h_b9 : c.v 9 ≤ 100) (h_a10 : 0 ≤ c.v 10) (h_b10 : c.v 10 ≤ 20000) (h_a11 : 0 ≤ c.v 11) (h_b11 : c.v 11 ≤ 5000) (h_a12 : 0 ≤ c.v 12) (h_b12 : c.v 12 ≤ 2) (h_a13 : 0 ≤ c.v 13) (h_b13 : c.v 13 ≤ 60000) (h_a14 : 0 ≤ c.v 14) (h_b14 : c.v 14 ≤ 60000) (h_vn0 : 0 ≤ c.vn) (h_vn1 : c.vn ≤ 6) (h_an0 : 0 ≤ c.an) (h_an1 : c.an ≤ 3) (h_ph0 : 0 ≤ c.ph) (h_ph1 : c.ph ≤ 20) (h_vr0 : ∀ k : Nat, (k : Int) < c.vn → 1 ≤ c.vr k ∧ c.vr k ≤ 50000) (h_ar0 : ∀ k : Nat, (k : Int) < c.an → 1 ≤ c.ar k ∧ c.ar k ≤ 50000) (h_ln0 : ∀ k : Nat, (k : Int) < c.ph → 1 ≤ c.ln k ∧ c.ln k ≤ 100000) (h_fl0 : ∀ k : Nat, (k : Int) < c.ph → 0 ≤ c.fl k ∧ c.fl k ≤ 100000) : WfC c := ⟨h_d0, h_d1, h_m0, h_m1, h_a2, h_b2, h_a3, h_b3, h_a4, h_b4, h_a5, h_b5, h_a6, h_b6, h_a7, h_b7, h_a8, h_b8, h_a9, h_b9, h_a10, h_b10, h_a11, h_b11, h_a12, h_b12, h_a13, h_b13, h_a14, h_b14, h_vn0, h_vn1, h_an0, h_an1, h_ph0, h_ph1, h_vr0, h_ar0, h_ln0, h_fl0⟩
def sumN (f : Nat → Int) : Nat → Int
  | 0 => 0
  | n + 1 => sumN f n + f n
/-! the program's settings: values, video ladder, audio ladder, plan -/
def CC (c : Cf) (va : Nat → Int32) (vn : Int32) (vr : Nat → Int32) (an : Int32) (ar : Nat → Int32) (tot ph : Int32) (ln fl : Nat → Int32) : Prop := (∀ k, k < 15 → (va k).toInt = c.v k) ∧ (vn.toInt = c.vn) ∧ (an.toInt = c.an) ∧ (ph.toInt = c.ph) ∧ (tot.toInt = sumN c.ln c.ph.toNat) ∧ (∀ k : Nat, (k : Int) < c.vn → (vr k).toInt = c.vr k) ∧ (∀ k : Nat, (k : Int) < c.an → (ar k).toInt = c.ar k) ∧ (∀ k : Nat, (k : Int) < c.ph → (ln k).toInt = c.ln k) ∧ (∀ k : Nat, (k : Int) < c.ph → (fl k).toInt = c.fl k)
theorem CC.v {c : Cf} {va : Nat → Int32} {vn : Int32} {vr : Nat → Int32} {an : Int32} {ar : Nat → Int32} {tot ph : Int32} {ln fl : Nat → Int32} (Z : CC c va vn vr an ar tot ph ln fl) : ∀ k, k < 15 → (va k).toInt = c.v k := Z.1
theorem CC.vn {c : Cf} {va : Nat → Int32} {vn : Int32} {vr : Nat → Int32} {an : Int32} {ar : Nat → Int32} {tot ph : Int32} {ln fl : Nat → Int32} (Z : CC c va vn vr an ar tot ph ln fl) : vn.toInt = c.vn := Z.2.1
theorem CC.an {c : Cf} {va : Nat → Int32} {vn : Int32} {vr : Nat → Int32} {an : Int32} {ar : Nat → Int32} {tot ph : Int32} {ln fl : Nat → Int32} (Z : CC c va vn vr an ar tot ph ln fl) : an.toInt = c.an := Z.2.2.1
theorem CC.ph {c : Cf} {va : Nat → Int32} {vn : Int32} {vr : Nat → Int32} {an : Int32} {ar : Nat → Int32} {tot ph : Int32} {ln fl : Nat → Int32} (Z : CC c va vn vr an ar tot ph ln fl) : ph.toInt = c.ph := Z.2.2.2.1
theorem CC.tot {c : Cf} {va : Nat → Int32} {vn : Int32} {vr : Nat → Int32} {an : Int32} {ar : Nat → Int32} {tot ph : Int32} {ln fl : Nat → Int32} (Z : CC c va vn vr an ar tot ph ln fl) : tot.toInt = sumN c.ln c.ph.toNat := Z.2.2.2.2.1
theorem CC.vr {c : Cf} {va : Nat → Int32} {vn : Int32} {vr : Nat → Int32} {an : Int32} {ar : Nat → Int32} {tot ph : Int32} {ln fl : Nat → Int32} (Z : CC c va vn vr an ar tot ph ln fl) : ∀ k : Nat, (k : Int) < c.vn → (vr k).toInt = c.vr k := Z.2.2.2.2.2.1
theorem CC.ar {c : Cf} {va : Nat → Int32} {vn : Int32} {vr : Nat → Int32} {an : Int32} {ar : Nat → Int32} {tot ph : Int32} {ln fl : Nat → Int32} (Z : CC c va vn vr an ar tot ph ln fl) : ∀ k : Nat, (k : Int) < c.an → (ar k).toInt = c.ar k := Z.2.2.2.2.2.2.1
theorem CC.ln {c : Cf} {va : Nat → Int32} {vn : Int32} {vr : Nat → Int32} {an : Int32} {ar : Nat → Int32} {tot ph : Int32} {ln fl : Nat → Int32} (Z : CC c va vn vr an ar tot ph ln fl) : ∀ k : Nat, (k : Int) < c.ph → (ln k).toInt = c.ln k := Z.2.2.2.2.2.2.2.1
theorem CC.fl {c : Cf} {va : Nat → Int32} {vn : Int32} {vr : Nat → Int32} {an : Int32} {ar : Nat → Int32} {tot ph : Int32} {ln fl : Nat → Int32} (Z : CC c va vn vr an ar tot ph ln fl) : ∀ k : Nat, (k : Int) < c.ph → (fl k).toInt = c.fl k := Z.2.2.2.2.2.2.2.2
theorem CC.mk {c : Cf} {va : Nat → Int32} {vn : Int32} {vr : Nat → Int32} {an : Int32} {ar : Nat → Int32} {tot ph : Int32} {ln fl : Nat → Int32} (h_v : ∀ k, k < 15 → (va k).toInt = c.v k) (h_vn : vn.toInt = c.vn) (h_an : an.toInt = c.an) (h_ph : ph.toInt = c.ph) (h_tot : tot.toInt = sumN c.ln c.ph.toNat) (h_vr : ∀ k : Nat, (k : Int) < c.vn → (vr k).toInt = c.vr k) (h_ar : ∀ k : Nat, (k : Int) < c.an → (ar k).toInt = c.ar k) (h_ln : ∀ k : Nat, (k : Int) < c.ph → (ln k).toInt = c.ln k) (h_fl : ∀ k : Nat, (k : Int) < c.ph → (fl k).toInt = c.fl k) : CC c va vn vr an ar tot ph ln fl := ⟨h_v, h_vn, h_an, h_ph, h_tot, h_vr, h_ar, h_ln, h_fl⟩
/-! the reference's settings: p, ladder, rates, phases, lengths, flows -/
theorem mulb {a b A B : Int} (a0 : 0 ≤ a) (a1 : a ≤ A) (b0 : 0 ≤ b) (b1 : b ≤ B) : 0 ≤ a * b ∧ a * b ≤ A * B :=
  ⟨Int.mul_nonneg a0 b0, Int.mul_le_mul a1 b1 b0 (by omega)⟩
theorem vo {r : Nat → Int32} {k : Int32} (h0 : 0 ≤ k.toInt) (h1 : k.toInt < 15) : f_X8_valueOf r k = r k.toInt.toNat := by
  unfold f_X8_valueOf
  rw [if_neg (by rw [lt32]; simp only [Int32.reduceToInt]; omega), if_neg (by rw [le32]; simp only [Int32.reduceToInt]; omega)]; rfl
theorem ro {r : Nat → Int32} {k : Int32} (h0 : 0 ≤ k.toInt) (h1 : k.toInt < 6) : f_X2_rateOf r k = r k.toInt.toNat := by
  unfold f_X2_rateOf
  rw [if_neg (by rw [lt32]; simp only [Int32.reduceToInt]; omega), if_neg (by rw [le32]; simp only [Int32.reduceToInt]; omega)]; rfl
/-! the size of a segment -/
def sizeS (c : Cf) (tr rate rung seg : Int) : Int := max 1 (rate * c.v 0 * (85 + (7 * seg + 13 * rung + 3 * tr) % 31) / 100)
theorem sizeS_b {c : Cf} (W : WfC c) {tr rate rung seg : Int} (h0 : 0 ≤ rate) (h1 : rate ≤ 50000) :
    (0 ≤ rate * c.v 0 ∧ rate * c.v 0 ≤ 500000000) ∧ (0 ≤ rate * c.v 0 * (85 + (7 * seg + 13 * rung + 3 * tr) % 31) ∧ rate * c.v 0 * (85 + (7 * seg + 13 * rung + 3 * tr) % 31) ≤ 57500000000) ∧ 1 ≤ sizeS c tr rate rung seg ∧ sizeS c tr rate rung seg ≤ 575000000 := by
  have h2 := W.d0
  have h3 := W.d1
  have a := mulb h0 h1 (by omega : 0 ≤ c.v 0) h3
  have b := mulb a.1 (by omega : rate * c.v 0 ≤ 500000000) (by omega : 0 ≤ 85 + (7 * seg + 13 * rung + 3 * tr) % 31) (by omega : 85 + (7 * seg + 13 * rung + 3 * tr) % 31 ≤ 115)
  refine ⟨⟨a.1, by omega⟩, ⟨b.1, by omega⟩, ?_, ?_⟩ <;> unfold sizeS <;> omega
theorem c_bits {c : Cf} (W : WfC c) {va ra : Nat → Int32} {p0 p1 p2 : Int32} {rate : Int} (hv : (va 0).toInt = c.v 0) (hr : (ra p1.toInt.toNat).toInt = rate)
    (h0 : 0 ≤ rate) (h1 : rate ≤ 50000) (t0 : 0 ≤ p0.toInt) (t1 : p0.toInt ≤ 1) (r0 : 0 ≤ p1.toInt) (r1 : p1.toInt < 6) (s0 : 0 ≤ p2.toInt) (s1 : p2.toInt < 200) :
    (f_X8_bitsOf_0 va ra p0 p1 p2).toInt = sizeS c p0.toInt rate p1.toInt p2.toInt := by
  have hb := sizeS_b W (tr := p0.toInt) (rung := p1.toInt) (seg := p2.toInt) h0 h1
  have e1 : ((85 + (rm32 (((7 * p2) + (13 * p1)) + (3 * p0)) 31)).toInt64).toInt = 85 + (7 * p2.toInt + 13 * p1.toInt + 3 * p0.toInt) % 31 := by
    have e7 : (7 * p2 : Int32).toInt = 7 * p2.toInt := mul32 (by simp only [Int32.reduceToInt]; omega) (by simp only [Int32.reduceToInt]; omega)
    have e13 : (13 * p1 : Int32).toInt = 13 * p1.toInt := mul32 (by simp only [Int32.reduceToInt]; omega) (by simp only [Int32.reduceToInt]; omega)
    have e3 : (3 * p0 : Int32).toInt = 3 * p0.toInt := mul32 (by simp only [Int32.reduceToInt]; omega) (by simp only [Int32.reduceToInt]; omega)
    have es : (((7 * p2) + (13 * p1)) + (3 * p0) : Int32).toInt = 7 * p2.toInt + 13 * p1.toInt + 3 * p0.toInt := by
      have ea : (7 * p2 + 13 * p1 : Int32).toInt = 7 * p2.toInt + 13 * p1.toInt := by rw [add32 (by omega) (by omega), e7, e13]
      rw [add32 (by omega) (by omega), ea, e3]
    have er : (rm32 (((7 * p2) + (13 * p1)) + (3 * p0)) 31).toInt = (7 * p2.toInt + 13 * p1.toInt + 3 * p0.toInt) % 31 := by
      rw [rem32 (by omega) (by decide), es]; rfl
    rw [tl, add32 (by rw [er]; simp only [Int32.reduceToInt]; omega) (by rw [er]; simp only [Int32.reduceToInt]; omega), er]; rfl
  unfold f_X8_bitsOf_0 bnd
  have v0 : f_X8_valueOf va 0 = va 0 := vo (by decide) (by decide)
  have d0 := W.d0
  have d1 := W.d1
  have ea : ((f_X2_rateOf ra p1).toInt64 * (f_X8_valueOf va 0).toInt64).toInt = rate * c.v 0 := by
    have e2 : ((f_X2_rateOf ra p1).toInt64).toInt = rate := by rw [ro r0 r1, tl, hr]
    have e3 : ((f_X8_valueOf va 0).toInt64).toInt = c.v 0 := by rw [v0, tl, hv]
    rw [mul64 (by rw [e2, e3]; omega) (by rw [e2, e3]; omega), e2, e3]
  have eb : ((f_X2_rateOf ra p1).toInt64 * (f_X8_valueOf va 0).toInt64 * (85 + (rm32 (((7 * p2) + (13 * p1)) + (3 * p0)) 31)).toInt64).toInt = rate * c.v 0 * (85 + (7 * p2.toInt + 13 * p1.toInt + 3 * p0.toInt) % 31) := by
    rw [mul64 (by rw [ea, e1]; omega) (by rw [ea, e1]; omega), ea, e1]
  rw [max64, div64 (by rw [eb]; omega) (by decide), eb]
  rfl
