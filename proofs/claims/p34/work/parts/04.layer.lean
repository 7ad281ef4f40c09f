/-! The layer: one form of contract for a method that reads, one for a method that writes; calls of both; ends of both. -/
-- pure words: what a method computes is said by a function made of these
def bnd {α β : Type} (x : α) (k : α → β) : β := k x
theorem bnd_eq {α β : Type} {x y : α} {k : α → β} {t : β} (e : x = y) (h : bnd x k = t) : k y = t := by subst e; exact h
def obnd {α β : Type} (o : Option α) (k : α → Option β) : Option β := match o with
  | none => none
  | some x => k x
theorem obnd_eq {α β : Type} {o : Option α} {k : α → Option β} {t : β} (h : obnd o k = some t) : ∃ x, o = some x ∧ k x = some t := by
  cases o with
  | none => cases h
  | some x => exact ⟨x, rfl, h⟩
def grd {α : Type} (b : Bool) (k : Option α) : Option α := if b = true then k else none
theorem grd_eq {α : Type} {b : Bool} {k : Option α} {t : α} (h : grd b k = some t) : b = true ∧ k = some t := by
  unfold grd at h
  split at h
  · rename_i h1; exact ⟨h1, h⟩
  · cases h
theorem iteP {α : Type} {c : Prop} {_ : Decidable c} {A B t : α} (hc : c) (h : (if c then A else B) = t) : A = t := (if_pos hc).symm.trans h
theorem iteN {α : Type} {c : Prop} {_ : Decidable c} {A B t : α} (hc : ¬ c) (h : (if c then A else B) = t) : B = t := (if_neg hc).symm.trans h
/-- an index in its row -/
def vin (i : Int32) (n : Nat) : Bool := decide (0 ≤ i.toInt) && decide (i.toInt < n)
theorem vin_in {i : Int32} {n : Nat} (h : vin i n = true) : vp_in i n := by
  unfold vin at h
  rw [Bool.and_eq_true, decide_eq_true_eq, decide_eq_true_eq] at h
  exact vp_in_iff.mpr h
/-- not nought -/
def nz32 (i : Int32) : Bool := decide (¬ i = 0)
def nz64 (i : Int64) : Bool := decide (¬ i = 0)
theorem nz32_ne {i : Int32} (h : nz32 i = true) : ¬ i = 0 := of_decide_eq_true h
theorem nz64_ne {i : Int64} (h : nz64 i = true) : ¬ i = 0 := of_decide_eq_true h
theorem nlt32 {a b : Int32} (h : ¬ a < b) : b ≤ a := by
  rw [Int32.lt_iff_toInt_lt] at h; rw [Int32.le_iff_toInt_le]; omega
theorem nle32 {a b : Int32} (h : ¬ a ≤ b) : b < a := by
  rw [Int32.le_iff_toInt_le] at h; rw [Int32.lt_iff_toInt_lt]; omega
theorem nlt64 {a b : Int64} (h : ¬ a < b) : b ≤ a := by
  rw [Int64.lt_iff_toInt_lt] at h; rw [Int64.le_iff_toInt_le]; omega
theorem nle64 {a b : Int64} (h : ¬ a ≤ b) : b < a := by
  rw [Int64.le_iff_toInt_le] at h; rw [Int64.lt_iff_toInt_lt]; omega
theorem pos_ne32 {a : Int32} (h : 0 < a) : ¬ a = 0 := fun q => by subst q; exact absurd h (by decide)
theorem pos_ne64 {a : Int64} (h : 0 < a) : ¬ a = 0 := fun q => by subst q; exact absurd h (by decide)
theorem inc_nn {i N : Int32} (h0 : 0 ≤ i) (h : i < N) : 0 ≤ i + 1 := by
  rw [Int32.lt_iff_toInt_lt] at h
  rw [Int32.le_iff_toInt_le] at h0 ⊢
  have h1 := Int32.toInt_lt N
  have h3 : (i + 1).toInt = i.toInt + 1 := by
    rw [Int32.toInt_add, show (1 : Int32).toInt = 1 from rfl]
    exact Int.bmod_eq_of_le (by have : (0 : Int32).toInt = 0 := rfl; omega) (by omega)
  have : (0 : Int32).toInt = 0 := rfl
  omega
/-- a boolean's value -/
def isb (v : Int32) : Bool := decide (v = 0) || decide (v = 1)
theorem isb_n {v : Int32} (h : isb v = true) : narrow .boolean (.int v) = .int v := by
  unfold isb at h
  rw [Bool.or_eq_true, decide_eq_true_eq, decide_eq_true_eq] at h
  rcases h with rfl | rfl <;> decide
theorem isb_f {v : Int32} (h : isb v = true) : fits .boolean (.int v) = true := by
  unfold isb at h
  rw [Bool.or_eq_true, decide_eq_true_eq, decide_eq_true_eq] at h
  rcases h with rfl | rfl <;> decide
/-- a row of characters -/
def chk (f : Nat → Int32) (n : Nat) : Bool := (List.range n).all (fun j => fits .char (.int (f j)))
theorem chk_fit {f : Nat → Int32} {n : Nat} (h : chk f n = true) : ∀ i, i < n → fits .char (.int (f (0 + i))) = true := fun i hi => by
  rw [Nat.zero_add]
  exact List.all_eq_true.mp h i (List.mem_range.mpr hi)
def ch32 (x : Int32) : Int32 := (x.toUInt32 % 65536).toInt32
def mn32 (x y : Int32) : Int32 := if y < x then y else x
def mn64 (x y : Int64) : Int64 := if y < x then y else x
def mx64 (x y : Int64) : Int64 := if y < x then x else y
def rm32 (x y : Int32) : Int32 := x - x / y * y
def rm64 (x y : Int64) : Int64 := x - x / y * y
theorem lt0_32 {a : Int32} (h : 0 < a) : 0 ≤ a := by
  rw [Int32.lt_iff_toInt_lt] at h; rw [Int32.le_iff_toInt_le]; omega
theorem vpb {i K : Int32} {n : Nat} (h0 : 0 ≤ i) (h1 : i < K) (hK : K.toInt = (n : Int)) : vp_in i n := by
  rw [Int32.lt_iff_toInt_lt] at h1
  rw [Int32.le_iff_toInt_le] at h0
  have : (0 : Int32).toInt = 0 := rfl
  exact vp_in_iff.mpr ⟨by omega, by omega⟩
theorem vpl {i : Int32} {n : Nat} (h : vin i n = true) : vp_in i n := vin_in h
-- loops over a counter
theorem mu_up {i N : Int32} (h : i < N) : (N.toInt - (i + 1).toInt).toNat < (N.toInt - i.toInt).toNat := by
  rw [Int32.lt_iff_toInt_lt] at h
  have h1 := Int32.toInt_lt N
  have h2 := Int32.le_toInt i
  have h3 : (i + 1).toInt = i.toInt + 1 := by
    rw [Int32.toInt_add, show (1 : Int32).toInt = 1 from rfl]
    exact Int.bmod_eq_of_le (by omega) (by omega)
  omega
theorem mu_dn {i : Int32} (h : 0 ≤ i) : ((i + -1).toInt + 1).toNat < (i.toInt + 1).toNat := by
  rw [Int32.le_iff_toInt_le, show (0 : Int32).toInt = 0 from rfl] at h
  have h1 := Int32.toInt_lt i
  have h3 : (i + -1).toInt = i.toInt + -1 := by
    rw [Int32.toInt_add, show (-1 : Int32).toInt = -1 from rfl]
    exact Int.bmod_eq_of_le (by omega) (by omega)
  omega
theorem mu_upL {i N : Int64} (h : i < N) : (N.toInt - (i + 1).toInt).toNat < (N.toInt - i.toInt).toNat := by
  rw [Int64.lt_iff_toInt_lt] at h
  have h1 := Int64.toInt_lt N
  have h2 := Int64.le_toInt i
  have h3 : (i + 1).toInt = i.toInt + 1 := by
    rw [Int64.toInt_add, show (1 : Int64).toInt = 1 from rfl]
    exact Int.bmod_eq_of_le (by omega) (by omega)
  omega
-- membership
theorem good_of_tb {ws : List Cond} (h : ∀ w ∈ ws, w ∈ TB) : GoodIn TB ws := fun w hw => ⟨h w hw, good_of_word (TB_good w (h w hw))⟩
theorem gV {own : String} {idx : Nat} {C : String} {y : MethodName} {cw : Cond} (h1 : Cond.methodLink own idx y ∈ TB) (h2 : Cond.instanceMethod y ∈ TB) (h3 : Cond.selects C y y ∈ TB) (h4 : Cond.initialized C ∈ TB) (h5 : cw ∈ TB) : GoodIn TB (wsV own idx C y (cw :: TB)) := good_of_tb fun w hw => by
  unfold wsV at hw
  simp only [List.mem_append, List.mem_cons, List.not_mem_nil, or_false] at hw
  rcases hw with (rfl | rfl | rfl | rfl) | rfl | h
  · exact h1
  · exact h2
  · exact h3
  · exact h4
  · exact h5
  · exact h
theorem gS {own : String} {idx : Nat} {y : MethodName} {cw : Cond} (h1 : Cond.methodLink own idx y ∈ TB) (h2 : Cond.static y ∈ TB) (h3 : Cond.initialized own ∈ TB) (h5 : cw ∈ TB) : GoodIn TB (wsS own idx y (cw :: TB)) := good_of_tb fun w hw => by
  unfold wsS at hw
  simp only [List.mem_append, List.mem_cons, List.not_mem_nil, or_false] at hw
  rcases hw with (rfl | rfl | rfl) | rfl | h
  · exact h1
  · exact h2
  · exact h3
  · exact h5
  · exact h
theorem gSx {own : String} {idx : Nat} {y : MethodName} {cw : Cond} (h1 : Cond.methodLink own idx y ∈ TB) (h2 : Cond.static y ∈ TB) (h3 : Cond.initialized y.cls ∈ TB) (h5 : cw ∈ TB) : GoodIn TB (va_wsS own idx y (cw :: TB)) := good_of_tb fun w hw => by
  unfold va_wsS at hw
  simp only [List.mem_append, List.mem_cons, List.not_mem_nil, or_false] at hw
  rcases hw with (rfl | rfl | rfl) | rfl | h
  · exact h1
  · exact h2
  · exact h3
  · exact h5
  · exact h
theorem gC {cw : Cond} (h5 : cw ∈ TB) : GoodIn TB (cw :: TB) := good_of_tb fun w hw => (List.mem_cons.mp hw).elim (fun e => e ▸ h5) id
-- contracts
abbrev ty3 (cI cJ cC : ClassId) : List (ClassId × FieldType) := [(cI, .int), (cJ, .long), (cC, .char)]
abbrev PreR (D : va_G) (cI cJ cC : ClassId) (W : va_W) (av : List Value) : Array Value → State → Prop := va_Pc av (fun U => va_P D vwCl W U.heap ∧ va_K D vwCl (ty3 cI cJ cC) U)
abbrev PreW (D : va_G) (cI cJ cC : ClassId) (W : va_W) (sz : Nat) (av : List Value) : Array Value → State → Prop := va_Pc av (fun U => U.heap.size = sz ∧ va_P D vwCl W U.heap ∧ va_K D vwCl (ty3 cI cJ cC) U ∧ va_D (fun _ => True) W)
def QR (v : Option Value) : Array Value → State → Outcome → State → Prop := fun _ st o t => o = .returned v ∧ t.heap = st.heap
def QW (v : Option Value) (D : va_G) (W1 : va_W) (A : Nat → Prop) : Array Value → State → Outcome → State → Prop := fun _ st o t => o = .returned v ∧ (va_P D vwCl W1 t.heap ∧ va_D A W1) ∧ va_F A st t
abbrev free0 : Addr → Prop := fun _ => False
theorem fbR {D : va_G} {cI cJ cC : ClassId} {W : va_W} {av : List Value} : FrameBlind (PreR D cI cJ cC W av) := fun a U g mk q => by
  obtain ⟨q0, qP, qK⟩ := q
  exact ⟨q0, qP, va_K.moved (u := U) (U := U.calling g mk a) (Vm.Alike.refl U.vm) qK⟩
theorem fbW {D : va_G} {cI cJ cC : ClassId} {W : va_W} {sz : Nat} {av : List Value} : FrameBlind (PreW D cI cJ cC W sz av) := fun a U g mk q => by
  obtain ⟨q0, q1, qP, qK, qD⟩ := q
  exact ⟨q0, q1, qP, va_K.moved (u := U) (U := U.calling g mk a) (Vm.Alike.refl U.vm) qK, qD⟩
section LAY
variable {p : Program} {l : Launch} {e : Env} {R : Room} {s : State} {m : MethodId} {args : Array Value} {below : List Frame} {meth : Method} {c : Code} {H : Heap} {locs : List Loc} {cells slots : Nat} {Q : State → Prop} {cc : ByteArray} {pc nL : Nat} {ls : Array Slot} {rest : List Value} {D : va_G} {ws wc wr W1 : va_W} {cI cJ cC : ClassId} {own : String} {A : Nat → Prop} {H0 : Heap}
variable {y : MethodName} {bytes : ByteArray} {maxL n index : Nat} {ret : Option FieldType} {rm : Room} {C : String} {b : Nat} {As st : List Value} {v : Option Value} {Ts cs : List Cond}
/-- entry of a method that reads -/
theorem metR {av : List Value} (hy : plainName y.cls = true) (ho : y.cls = own) (hlen : (lg_sl av).length ≤ maxL)
    (body : ∀ p e s m below meth c, CallFix p m c cc maxL s av.toArray TB own → meth.sig.returnType = ret → meth.locks = false → va_P D vwCl wc s.heap → va_K D vwCl (ty3 cI cJ cC) s → ∀ ls, lv_has ls maxL (lv_args 0 av) →
      W p l e rm s m av.toArray below meth c s.heap [] 0 0 (MQ below (QR v) av.toArray s 0 0 free0) (F0 m 0 ls [])) :
    Met l y (Cond.code y cc maxL ret :: TB) rm (PreR D cI cJ cC wc av) (QR v) 0 0 free0 := by
  refine Met.ofW (cc := cc) (maxL := maxL) (ret := ret) hy rfl ?_
  intro p e s m args below meth c s₁ B hml hv
  obtain ⟨rfl, hP, hK⟩ := hv
  have hts := atoms_spec (ws := Cond.code y cc maxL ret :: TB) B.pre
  have hl := lv_entry av (n := maxL) hlen
  rw [lg_entry_eq]
  exact body p e s m below meth c ⟨B.exec, B.bytes, hml, by rw [← ho]; exact findClass_of_methodNamed B.named, fun w h => hts w (List.mem_cons_of_mem _ h)⟩ B.returns B.notSynchronized hP hK _ hl
/-- entry of a method that writes -/
theorem metW {av : List Value} {sz : Nat} (hy : plainName y.cls = true) (ho : y.cls = own) (hlen : (lg_sl av).length ≤ maxL)
    (body : ∀ p e s m below meth c, CallFix p m c cc maxL s av.toArray TB own → meth.sig.returnType = ret → meth.locks = false → va_P D vwCl wc s.heap → va_K D vwCl (ty3 cI cJ cC) s → ∀ A : Nat → Prop, va_A wc sz = A → va_D A wc → (∀ q : Nat, s.heap.size ≤ q → A q) → va_S A s.heap s.heap [] → ∀ ls, lv_has ls maxL (lv_args 0 av) →
      W p l e rm s m av.toArray below meth c s.heap [] 0 0 (MQ below (QW v D W1 A) av.toArray s 0 0 A) (F0 m 0 ls [])) :
    Met l y (Cond.code y cc maxL ret :: TB) rm (PreW D cI cJ cC wc sz av) (QW v D W1 (va_A wc sz)) 0 0 (va_A wc sz) := by
  refine Met.ofW (cc := cc) (maxL := maxL) (ret := ret) hy rfl ?_
  intro p e s m args below meth c s₁ B hml hv
  obtain ⟨rfl, hsz, hP, hK, hD0⟩ := hv
  have hts := atoms_spec (ws := Cond.code y cc maxL ret :: TB) B.pre
  have hl := lv_entry av (n := maxL) hlen
  rw [lg_entry_eq]
  exact body p e s m below meth c ⟨B.exec, B.bytes, hml, by rw [← ho]; exact findClass_of_methodNamed B.named, fun w h => hts w (List.mem_cons_of_mem _ h)⟩ B.returns B.notSynchronized hP hK _ rfl (hD0.self (sz := sz)) (fun q h => Or.inr (by rw [← hsz]; exact h)) va_S.rf _ hl
/-- a call of a method that reads: its answer, the same heap -/
theorem rd_of {a9 : Array Value} (hr : CallRun p l e R s m args below meth c H locs cells slots 0 0 (F0 m pc ls st) rest (QR v a9) free0)
    (kk : W p l e R s m args below meth c H locs cells slots Q (F0 m (pc + 3) ls (v.toList ++ rest))) : W p l e R s m args below meth c H locs cells slots Q (F0 m pc ls st) := by
  intro T hT X
  obtain ⟨v', st₀, t, T', L, h0, X', hL, e1, ⟨hv, hh⟩, stp⟩ := hr T hT X
  cases hv
  obtain ⟨t2, a1, b1⟩ := kk T' (by rw [e1, hh, h0]) (Stand.forget X' (fun q h => (hL q h).elim))
  exact ⟨t2, stp t2 a1, b1⟩
theorem rdV {ci : Nat} {q : vw_C} {fs : List Value} (S : CallFix p m c cc nL s args TB own) (hM : Met l y cs rm (PreR D cI cJ cC wc (.ref b :: As)) (QR v) 0 0 free0) (cw : CallW R s args own C index y bytes maxL ret cs rm 0 0 n) (hK : va_K D vwCl (ty3 cI cJ cC) s) (hP : va_P D vwCl wc H) (hc : vwCl[ci]? = some q) (hq : q.1 = C) (he : wc[0]? = some (b, .inr (ci, fs))) (hn : As.length = n) (hl : ls.size = nL) (hst : st = As.reverse ++ .ref b :: rest) (hW : (rest.map fun v => v.category).sum ≤ 8) (hf : cells ≤ R.cells ∧ slots ≤ R.slots) {pc1 : Nat} {st1 : List Value} (hpc : pc + 3 = pc1) (hst1 : v.toList ++ rest = st1) (hdg : decode cc pc = .ok (.invokevirtual index, 3))
    (kk : W p l e R s m args below meth c H locs cells slots Q (F0 m pc1 ls st1)) : W p l e R s m args below meth c H locs cells slots Q (F0 m pc ls st) := by
  subst hpc
  subst hst1
  exact rd_of (W.runV S hM cw ⟨fbR, by rw [← hq]; exact va_recv hK hP hc he, fun U hU hW => ⟨rfl, by rw [hU]; exact hP, va_K.moved hW.alike hK⟩⟩ rfl hn hl hst (lv_room hW) hdg hf) kk
theorem rdS (S : CallFix p m c cc nL s args TB own) (hM : Met l y cs rm (PreR D cI cJ cC wc As) (QR v) 0 0 free0) (cw : CallB R s args own index y bytes maxL ret cs rm 0 0 n ∧ (Cond.static y).before args s = true) (hK : va_K D vwCl (ty3 cI cJ cC) s) (hP : va_P D vwCl wc H) (hn : As.length = n) (hl : ls.size = nL) (hst : st = As.reverse ++ rest) (hW : (rest.map fun v => v.category).sum ≤ 8) (hf : cells ≤ R.cells ∧ slots ≤ R.slots) {pc1 : Nat} {st1 : List Value} (hpc : pc + 3 = pc1) (hst1 : v.toList ++ rest = st1) (hdg : decode cc pc = .ok (.invokestatic index, 3))
    (kk : W p l e R s m args below meth c H locs cells slots Q (F0 m pc1 ls st1)) : W p l e R s m args below meth c H locs cells slots Q (F0 m pc ls st) := by
  subst hpc
  subst hst1
  exact rd_of (W.runS S hM cw ⟨fbR, fun U hU hW => ⟨rfl, by rw [hU]; exact hP, va_K.moved hW.alike hK⟩⟩ rfl hn hl hst (lv_room hW) hdg hf) kk
/-- a call of a method that writes -/
theorem wr_of {a9 : Array Value} {A1 : Nat → Prop} {free : Addr → Prop} (hr : va_Run p l e R s m args below meth c H locs cells slots 0 0 (F0 m pc ls st) rest (QW v D W1 A1 a9) free) (hS : va_S A H0 H locs) (hA : ∀ q, q < H.size → A1 q → A q) (hf : ∀ q, free q → A q)
    (kk : ∀ (H1 : Heap) (locs1 : List Loc), va_P D vwCl W1 H1 → va_D A1 W1 → (∀ q : Nat, q < H.size → ¬ A1 q → H1[q]? = H[q]?) → va_S A H0 H1 locs1 → W p l e R s m args below meth c H1 locs1 cells slots Q (F0 m (pc + 3) ls (v.toList ++ rest))) : W p l e R s m args below meth c H locs cells slots Q (F0 m pc ls st) := by
  intro T hT X
  obtain ⟨v', st₀, t, T', L, h0, X', hL, e1, e2, ⟨hv, hb, hz, hk⟩, stp⟩ := hr T hT X
  cases hv
  rw [h0] at hz hk
  obtain ⟨t2, a1, b1⟩ := kk T'.heap (locs ++ L) (by rw [e1]; exact hb.1) hb.2 (fun q h1 h2 => by rw [e1]; exact hk q h1 h2)
    ⟨Nat.le_trans hS.1 (by rw [e1]; exact hz), fun q h1 h2 => by rw [e1, hk q (Nat.lt_of_lt_of_le h1 hS.1) (fun z => h2 (hA q (Nat.lt_of_lt_of_le h1 hS.1) z))]; exact hS.2.1 q h1 h2, fun q hq => by
      rcases List.mem_append.mp hq with h | h
      · exact hS.2.2 q h
      · exact hf _ (hL q h)⟩ T' rfl X'
  exact ⟨t2, stp t2 a1, b1⟩
theorem wrJ {a9 : Array Value} (hr : va_Run p l e R s m args below meth c H locs cells slots 0 0 (F0 m pc ls st) rest (QW v D W1 (va_A wc H.size) a9) (va_A wc H.size)) (hP : va_P D vwCl ws H) (hD : va_D A ws) (hS : va_S A H0 H locs) (hA : ∀ q : Nat, H0.size ≤ q → A q) (isC isR : List Nat) (hC : isC.map (fun i => ws[i]?) = wc.map some) (hR : isR.map (fun i => ws[i]?) = wr.map some) (hnR : va_nd isR = true) (hdis : ∀ i ∈ isR, i ∉ isC)
    (kk : ∀ (H1 : Heap) (locs1 : List Loc), va_P D vwCl (wr ++ W1) H1 → va_D A (wr ++ W1) → va_S A H0 H1 locs1 → W p l e R s m args below meth c H1 locs1 cells slots Q (F0 m (pc + 3) ls (v.toList ++ rest))) : W p l e R s m args below meth c H locs cells slots Q (F0 m pc ls st) := by
  have hF := va_free (wc := wc) hD hS hA isC hC
  refine wr_of hr hS (fun q _ h => hF q h) hF (fun H1 locs1 hP1 hD1 hk hS1 => ?_)
  obtain ⟨h1, h2⟩ := va_join (wr := wr) (w1 := W1) hP hD isC isR hC hR hnR hdis hk hF hP1 hD1
  exact kk H1 locs1 h1 h2 hS1
theorem wrV {ci : Nat} {q : vw_C} {fs : List Value} (S : CallFix p m c cc nL s args TB own) (hM : Met l y cs rm (PreW D cI cJ cC wc H.size (.ref b :: As)) (QW v D W1 (va_A wc H.size)) 0 0 (va_A wc H.size)) (cw : CallW R s args own C index y bytes maxL ret cs rm 0 0 n) (hK : va_K D vwCl (ty3 cI cJ cC) s) (hP : va_P D vwCl ws H) (hD : va_D A ws) (hS : va_S A H0 H locs) (hA : ∀ q : Nat, H0.size ≤ q → A q) (isC isR : List Nat) (hs : isC.filterMap (fun i => ws[i]?) = wc) (hC : isC.map (fun i => ws[i]?) = wc.map some) (hR : isR.map (fun i => ws[i]?) = wr.map some) (hnC : va_nd isC = true) (hnR : va_nd isR = true) (hdis : ∀ i ∈ isR, i ∉ isC)
    (hc : vwCl[ci]? = some q) (hq : q.1 = C) (he : wc[0]? = some (b, .inr (ci, fs))) (hn : As.length = n) (hl : ls.size = nL) (hst : st = As.reverse ++ .ref b :: rest) (hW : (rest.map fun v => v.category).sum ≤ 8) (hf : cells ≤ R.cells ∧ slots ≤ R.slots) {pc1 : Nat} {st1 : List Value} (hpc : pc + 3 = pc1) (hst1 : v.toList ++ rest = st1) (hdg : decode cc pc = .ok (.invokevirtual index, 3))
    (kk : ∀ (H1 : Heap) (locs1 : List Loc), va_P D vwCl (wr ++ W1) H1 → va_D A (wr ++ W1) → va_S A H0 H1 locs1 → W p l e R s m args below meth c H1 locs1 cells slots Q (F0 m pc1 ls st1)) : W p l e R s m args below meth c H locs cells slots Q (F0 m pc ls st) := by
  subst hpc
  subst hst1
  have hPc := hP.sub isC hs
  have hDc := hD.sub isC hnC hC
  exact wrJ (va_runV S hM cw ⟨fbW, by rw [← hq]; exact va_recv hK hPc hc he, fun U hU hW => ⟨rfl, by rw [hU], by rw [hU]; exact hPc, va_K.moved hW.alike hK, hDc.weaken (fun _ _ _ _ => trivial)⟩⟩ rfl hn hl hst (lv_room hW) hdg hf) hP hD hS hA isC isR hC hR hnR hdis kk
theorem wrS (S : CallFix p m c cc nL s args TB own) (hM : Met l y cs rm (PreW D cI cJ cC wc H.size As) (QW v D W1 (va_A wc H.size)) 0 0 (va_A wc H.size)) (cw : CallB R s args own index y bytes maxL ret cs rm 0 0 n ∧ (Cond.static y).before args s = true) (hK : va_K D vwCl (ty3 cI cJ cC) s) (hP : va_P D vwCl ws H) (hD : va_D A ws) (hS : va_S A H0 H locs) (hA : ∀ q : Nat, H0.size ≤ q → A q) (isC isR : List Nat) (hs : isC.filterMap (fun i => ws[i]?) = wc) (hC : isC.map (fun i => ws[i]?) = wc.map some) (hR : isR.map (fun i => ws[i]?) = wr.map some) (hnC : va_nd isC = true) (hnR : va_nd isR = true) (hdis : ∀ i ∈ isR, i ∉ isC)
    (hn : As.length = n) (hl : ls.size = nL) (hst : st = As.reverse ++ rest) (hW : (rest.map fun v => v.category).sum ≤ 8) (hf : cells ≤ R.cells ∧ slots ≤ R.slots) {pc1 : Nat} {st1 : List Value} (hpc : pc + 3 = pc1) (hst1 : v.toList ++ rest = st1) (hdg : decode cc pc = .ok (.invokestatic index, 3))
    (kk : ∀ (H1 : Heap) (locs1 : List Loc), va_P D vwCl (wr ++ W1) H1 → va_D A (wr ++ W1) → va_S A H0 H1 locs1 → W p l e R s m args below meth c H1 locs1 cells slots Q (F0 m pc1 ls st1)) : W p l e R s m args below meth c H locs cells slots Q (F0 m pc ls st) := by
  subst hpc
  subst hst1
  have hPc := hP.sub isC hs
  have hDc := hD.sub isC hnC hC
  exact wrJ (va_runS S hM cw ⟨fbW, fun U hU hW => ⟨rfl, by rw [hU], by rw [hU]; exact hPc, va_K.moved hW.alike hK, hDc.weaken (fun _ _ _ _ => trivial)⟩⟩ rfl hn hl hst (lv_room hW) hdg hf) hP hD hS hA isC isR hC hR hnR hdis kk
-- ends
theorem rRi {x : Int32} (S : CallFix p m c cc nL s args TB own) (hr : meth.sig.returnType = some .int) (hlk : meth.locks = false) (hdg : decode cc pc = .ok (.ireturn, 1)) : W p l e R s m args below meth c s.heap [] 0 0 (MQ below (QR (some (.int x))) args s 0 0 free0) (F0 m pc ls [.int x]) :=
  W.iret S.1 S.2.1 hr (fun t ht _ => ⟨rfl, ht⟩) (fun _ h => by cases h) hdg hlk
theorem rRz {x : Int32} {ty : FieldType} (S : CallFix p m c cc nL s args TB own) (hr : meth.sig.returnType = some ty) (hlk : meth.locks = false) (hn : narrow ty (.int x) = .int x) (hdg : decode cc pc = .ok (.ireturn, 1)) : W p l e R s m args below meth c s.heap [] 0 0 (MQ below (QR (some (.int x))) args s 0 0 free0) (F0 m pc ls [.int x]) :=
  W.zret S.1 S.2.1 hr hn (fun t ht _ => ⟨rfl, ht⟩) (fun _ h => by cases h) hdg hlk
theorem rRl {x : Int64} (S : CallFix p m c cc nL s args TB own) (hr : meth.sig.returnType = some .long) (hlk : meth.locks = false) (hdg : decode cc pc = .ok (.lreturn, 1)) : W p l e R s m args below meth c s.heap [] 0 0 (MQ below (QR (some (.long x))) args s 0 0 free0) (F0 m pc ls [.long x]) :=
  W.lret S.1 S.2.1 hr (fun t ht _ => ⟨rfl, ht⟩) (fun _ h => by cases h) hdg hlk
theorem rRa {x : Nat} {nm : String} (S : CallFix p m c cc nL s args TB own) (hr : meth.sig.returnType = some (.object nm)) (hlk : meth.locks = false) (hdg : decode cc pc = .ok (.areturn, 1)) : W p l e R s m args below meth c s.heap [] 0 0 (MQ below (QR (some (.ref x))) args s 0 0 free0) (F0 m pc ls [.ref x]) :=
  W.aret S.1 S.2.1 hr (Or.inl ⟨nm, rfl⟩) (Or.inr ⟨x, rfl⟩) (fun t ht _ => ⟨rfl, ht⟩) (fun _ h => by cases h) hdg hlk
theorem wRi {x : Int32} (S : CallFix p m c cc nL s args TB own) (hr : meth.sig.returnType = some .int) (hlk : meth.locks = false) (hP : va_P D vwCl W1 H) (hD : va_D A W1) (hS : va_S A s.heap H locs) (hdg : decode cc pc = .ok (.ireturn, 1)) : W p l e R s m args below meth c H locs 0 0 (MQ below (QW (some (.int x)) D W1 A) args s 0 0 A) (F0 m pc ls [.int x]) :=
  W.iret S.1 S.2.1 hr (fun t ht _ => ⟨rfl, ⟨by rw [ht]; exact hP, hD⟩, hS.F ht⟩) hS.2.2 hdg hlk
theorem wRz {x : Int32} {ty : FieldType} (S : CallFix p m c cc nL s args TB own) (hr : meth.sig.returnType = some ty) (hlk : meth.locks = false) (hn : narrow ty (.int x) = .int x) (hP : va_P D vwCl W1 H) (hD : va_D A W1) (hS : va_S A s.heap H locs) (hdg : decode cc pc = .ok (.ireturn, 1)) : W p l e R s m args below meth c H locs 0 0 (MQ below (QW (some (.int x)) D W1 A) args s 0 0 A) (F0 m pc ls [.int x]) :=
  W.zret S.1 S.2.1 hr hn (fun t ht _ => ⟨rfl, ⟨by rw [ht]; exact hP, hD⟩, hS.F ht⟩) hS.2.2 hdg hlk
theorem wRl {x : Int64} (S : CallFix p m c cc nL s args TB own) (hr : meth.sig.returnType = some .long) (hlk : meth.locks = false) (hP : va_P D vwCl W1 H) (hD : va_D A W1) (hS : va_S A s.heap H locs) (hdg : decode cc pc = .ok (.lreturn, 1)) : W p l e R s m args below meth c H locs 0 0 (MQ below (QW (some (.long x)) D W1 A) args s 0 0 A) (F0 m pc ls [.long x]) :=
  W.lret S.1 S.2.1 hr (fun t ht _ => ⟨rfl, ⟨by rw [ht]; exact hP, hD⟩, hS.F ht⟩) hS.2.2 hdg hlk
theorem wRv (S : CallFix p m c cc nL s args TB own) (hr : meth.sig.returnType = none) (hlk : meth.locks = false) (hP : va_P D vwCl W1 H) (hD : va_D A W1) (hS : va_S A s.heap H locs) (hdg : decode cc pc = .ok (.return_, 1)) : W p l e R s m args below meth c H locs 0 0 (MQ below (QW none D W1 A) args s 0 0 A) (F0 m pc ls []) :=
  W.vret S.1 S.2.1 hr (fun t ht _ => ⟨rfl, ⟨by rw [ht]; exact hP, hD⟩, hS.F ht⟩) hS.2.2 hdg hlk
-- two longs compared
theorem lc_eq {x z : Int64} {off : Int} {tgt : Nat} (hx : p.tables.exec = Jvm.exec) (hb : c.code = cc) (d1 : decode cc pc = .ok (.lcmp, 1)) (d2 : decode cc (pc + 1) = .ok (.ifCond .eq off, 3)) (ht : ((pc + 1 : Nat) : Int) + off = (tgt : Int))
    (kt : x = z → W p l e R s m args below meth c H locs cells slots Q (F0 m tgt ls rest)) (kf : ¬ x = z → W p l e R s m args below meth c H locs cells slots Q (F0 m (pc + 1 + 3) ls rest)) : W p l e R s m args below meth c H locs cells slots Q (F0 m pc ls (.long z :: .long x :: rest)) :=
  W.lcmp hx hb d1 (lv_if_eq hx hb d2 ht (fun q => kt ((lg_cmp_eq x z).mp q)) (fun q => kf (fun h => q ((lg_cmp_eq x z).mpr h))))
theorem lc_ne {x z : Int64} {off : Int} {tgt : Nat} (hx : p.tables.exec = Jvm.exec) (hb : c.code = cc) (d1 : decode cc pc = .ok (.lcmp, 1)) (d2 : decode cc (pc + 1) = .ok (.ifCond .ne off, 3)) (ht : ((pc + 1 : Nat) : Int) + off = (tgt : Int))
    (kt : ¬ x = z → W p l e R s m args below meth c H locs cells slots Q (F0 m tgt ls rest)) (kf : x = z → W p l e R s m args below meth c H locs cells slots Q (F0 m (pc + 1 + 3) ls rest)) : W p l e R s m args below meth c H locs cells slots Q (F0 m pc ls (.long z :: .long x :: rest)) :=
  W.lcmp hx hb d1 (lv_if_ne hx hb d2 ht (fun q => kt (fun h => q ((lg_cmp_eq x z).mpr h))) (fun q => kf ((lg_cmp_eq x z).mp q)))
theorem lc_lt {x z : Int64} {off : Int} {tgt : Nat} (hx : p.tables.exec = Jvm.exec) (hb : c.code = cc) (d1 : decode cc pc = .ok (.lcmp, 1)) (d2 : decode cc (pc + 1) = .ok (.ifCond .lt off, 3)) (ht : ((pc + 1 : Nat) : Int) + off = (tgt : Int))
    (kt : x < z → W p l e R s m args below meth c H locs cells slots Q (F0 m tgt ls rest)) (kf : ¬ x < z → W p l e R s m args below meth c H locs cells slots Q (F0 m (pc + 1 + 3) ls rest)) : W p l e R s m args below meth c H locs cells slots Q (F0 m pc ls (.long z :: .long x :: rest)) :=
  W.lcmp hx hb d1 (lv_if_lt hx hb d2 ht (fun q => kt ((lg_cmp_lt x z).mp q)) (fun q => kf (fun h => q ((lg_cmp_lt x z).mpr h))))
theorem lc_ge {x z : Int64} {off : Int} {tgt : Nat} (hx : p.tables.exec = Jvm.exec) (hb : c.code = cc) (d1 : decode cc pc = .ok (.lcmp, 1)) (d2 : decode cc (pc + 1) = .ok (.ifCond .ge off, 3)) (ht : ((pc + 1 : Nat) : Int) + off = (tgt : Int))
    (kt : z ≤ x → W p l e R s m args below meth c H locs cells slots Q (F0 m tgt ls rest)) (kf : ¬ z ≤ x → W p l e R s m args below meth c H locs cells slots Q (F0 m (pc + 1 + 3) ls rest)) : W p l e R s m args below meth c H locs cells slots Q (F0 m pc ls (.long z :: .long x :: rest)) :=
  W.lcmp hx hb d1 (lv_if_ge hx hb d2 ht (fun q => kt ((lg_cmp_ge x z).mp q)) (fun q => kf (fun h => q ((lg_cmp_ge x z).mpr h))))
theorem lc_gt {x z : Int64} {off : Int} {tgt : Nat} (hx : p.tables.exec = Jvm.exec) (hb : c.code = cc) (d1 : decode cc pc = .ok (.lcmp, 1)) (d2 : decode cc (pc + 1) = .ok (.ifCond .gt off, 3)) (ht : ((pc + 1 : Nat) : Int) + off = (tgt : Int))
    (kt : z < x → W p l e R s m args below meth c H locs cells slots Q (F0 m tgt ls rest)) (kf : ¬ z < x → W p l e R s m args below meth c H locs cells slots Q (F0 m (pc + 1 + 3) ls rest)) : W p l e R s m args below meth c H locs cells slots Q (F0 m pc ls (.long z :: .long x :: rest)) :=
  W.lcmp hx hb d1 (lv_if_gt hx hb d2 ht (fun q => kt ((lg_cmp_gt x z).mp q)) (fun q => kf (fun h => q ((lg_cmp_gt x z).mpr h))))
theorem lc_le {x z : Int64} {off : Int} {tgt : Nat} (hx : p.tables.exec = Jvm.exec) (hb : c.code = cc) (d1 : decode cc pc = .ok (.lcmp, 1)) (d2 : decode cc (pc + 1) = .ok (.ifCond .le off, 3)) (ht : ((pc + 1 : Nat) : Int) + off = (tgt : Int))
    (kt : x ≤ z → W p l e R s m args below meth c H locs cells slots Q (F0 m tgt ls rest)) (kf : ¬ x ≤ z → W p l e R s m args below meth c H locs cells slots Q (F0 m (pc + 1 + 3) ls rest)) : W p l e R s m args below meth c H locs cells slots Q (F0 m pc ls (.long z :: .long x :: rest)) :=
  W.lcmp hx hb d1 (lv_if_le hx hb d2 ht (fun q => kt ((lg_cmp_le x z).mp q)) (fun q => kf (fun h => q ((lg_cmp_le x z).mpr h))))
-- arrays, an index known as k
theorem aldI {i : Int32} {nA k q0 : Nat} {f : Nat → Int32} {a : Nat} (S : CallFix p m c cc nL s args TB own) (hK : va_K D vwCl (ty3 cI cJ cC) s) (hP : va_P D vwCl ws H) (ha : ws[q0]? = some (a, .inl (cI, nA, .inl f))) (hin : vp_in i nA) (hk : i.toNatClampNeg = k) (hdg : decode cc pc = .ok (.iaload, 1))
    (kk : W p l e R s m args below meth c H locs cells slots Q (F0 m (pc + 1) ls (.int (f k) :: rest))) : W p l e R s m args below meth c H locs cells slots Q (F0 m pc ls (.int i :: .ref a :: rest)) :=
  va_iald S.1 S.2.1 hK hP q0 0 ha rfl hin hdg (by rw [hk]; exact kk)
theorem aldC {i : Int32} {nA k q0 : Nat} {f : Nat → Int32} {a : Nat} (S : CallFix p m c cc nL s args TB own) (hK : va_K D vwCl (ty3 cI cJ cC) s) (hP : va_P D vwCl ws H) (ha : ws[q0]? = some (a, .inl (cC, nA, .inl f))) (hin : vp_in i nA) (hk : i.toNatClampNeg = k) (hdg : decode cc pc = .ok (.caload, 1))
    (kk : W p l e R s m args below meth c H locs cells slots Q (F0 m (pc + 1) ls (.int (f k) :: rest))) : W p l e R s m args below meth c H locs cells slots Q (F0 m pc ls (.int i :: .ref a :: rest)) :=
  va_cald S.1 S.2.1 hK hP q0 2 ha rfl hin hdg (by rw [hk]; exact kk)
theorem aldJ {i : Int32} {nA k q0 : Nat} {f : Nat → Int64} {a : Nat} (S : CallFix p m c cc nL s args TB own) (hK : va_K D vwCl (ty3 cI cJ cC) s) (hP : va_P D vwCl ws H) (ha : ws[q0]? = some (a, .inl (cJ, nA, .inr (.inl f)))) (hin : vp_in i nA) (hk : i.toNatClampNeg = k) (hdg : decode cc pc = .ok (.laload, 1))
    (kk : W p l e R s m args below meth c H locs cells slots Q (F0 m (pc + 1) ls (.long (f k) :: rest))) : W p l e R s m args below meth c H locs cells slots Q (F0 m pc ls (.int i :: .ref a :: rest)) :=
  va_lald S.1 S.2.1 hK hP q0 1 ha rfl hin hdg (by rw [hk]; exact kk)
theorem astI {i x : Int32} {nA k q0 : Nat} {f : Nat → Int32} {a : Nat} (S : CallFix p m c cc nL s args TB own) (hK : va_K D vwCl (ty3 cI cJ cC) s) (hP : va_P D vwCl ws H) (hD : va_D A ws) (hS : va_S A H0 H locs) (ha : ws[q0]? = some (a, .inl (cI, nA, .inl f))) (hin : vp_in i nA) (hk : i.toNatClampNeg = k) (hdg : decode cc pc = .ok (.iastore, 1))
    (kk : ∀ (H1 : Heap) (locs1 : List Loc), va_P D vwCl (ws.set q0 (a, .inl (cI, nA, .inl (upd f k x)))) H1 → va_D A (ws.set q0 (a, .inl (cI, nA, .inl (upd f k x)))) → va_S A H0 H1 locs1 → W p l e R s m args below meth c H1 locs1 cells slots Q (F0 m (pc + 1) ls rest)) : W p l e R s m args below meth c H locs cells slots Q (F0 m pc ls (.int x :: .int i :: .ref a :: rest)) :=
  va_iast S.1 S.2.1 hK hP hD hS q0 0 ha rfl hin hdg (by rw [hk]; exact kk)
theorem astC {i x : Int32} {nA k q0 : Nat} {f : Nat → Int32} {a : Nat} (S : CallFix p m c cc nL s args TB own) (hK : va_K D vwCl (ty3 cI cJ cC) s) (hP : va_P D vwCl ws H) (hD : va_D A ws) (hS : va_S A H0 H locs) (ha : ws[q0]? = some (a, .inl (cC, nA, .inl f))) (hin : vp_in i nA) (hk : i.toNatClampNeg = k) (hdg : decode cc pc = .ok (.castore, 1))
    (kk : ∀ (H1 : Heap) (locs1 : List Loc), va_P D vwCl (ws.set q0 (a, .inl (cC, nA, .inl (upd f k (vp_nar .char x))))) H1 → va_D A (ws.set q0 (a, .inl (cC, nA, .inl (upd f k (vp_nar .char x))))) → va_S A H0 H1 locs1 → W p l e R s m args below meth c H1 locs1 cells slots Q (F0 m (pc + 1) ls rest)) : W p l e R s m args below meth c H locs cells slots Q (F0 m pc ls (.int x :: .int i :: .ref a :: rest)) :=
  va_cast S.1 S.2.1 hK hP hD hS q0 2 ha rfl hin hdg (by rw [hk]; exact kk)
theorem astJ {i : Int32} {x : Int64} {nA k q0 : Nat} {f : Nat → Int64} {a : Nat} (S : CallFix p m c cc nL s args TB own) (hK : va_K D vwCl (ty3 cI cJ cC) s) (hP : va_P D vwCl ws H) (hD : va_D A ws) (hS : va_S A H0 H locs) (ha : ws[q0]? = some (a, .inl (cJ, nA, .inr (.inl f)))) (hin : vp_in i nA) (hk : i.toNatClampNeg = k) (hdg : decode cc pc = .ok (.lastore, 1))
    (kk : ∀ (H1 : Heap) (locs1 : List Loc), va_P D vwCl (ws.set q0 (a, .inl (cJ, nA, .inr (.inl (vp_updL f k x))))) H1 → va_D A (ws.set q0 (a, .inl (cJ, nA, .inr (.inl (vp_updL f k x))))) → va_S A H0 H1 locs1 → W p l e R s m args below meth c H1 locs1 cells slots Q (F0 m (pc + 1) ls rest)) : W p l e R s m args below meth c H locs cells slots Q (F0 m pc ls (.long x :: .int i :: .ref a :: rest)) :=
  va_last S.1 S.2.1 hK hP hD hS q0 1 ha rfl hin hdg (by rw [hk]; exact kk)
end LAY
