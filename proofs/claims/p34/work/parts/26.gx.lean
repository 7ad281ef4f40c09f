/-! what a throw, a catch and a static array need beside the tables: GX; methods that return or throw -/
def NBL : List Cond := [Cond.methodLinkNest RX9 9 yX8_init "StreamPlayer", Cond.fieldLinkNest RX8 9 "StreamPlayer" "FIRST_VALUES" "[I" "StreamPlayer", Cond.castable "[I" "java/lang/Cloneable", Cond.methodLinkNest RX8 37 yX4_init "StreamPlayer", Cond.methodLinkNest RX6 11 yX7_init "StreamPlayer", Cond.methodLinkNest RX6 23 yX5_init "StreamPlayer", Cond.methodLinkNest RX6 30 yX1_init "StreamPlayer", Cond.methodLinkNest RX6 37 yX0_init "StreamPlayer", Cond.methodLinkNest RX6 44 yX3_init "StreamPlayer", Cond.castable "java/lang/IllegalStateException" "java/lang/IllegalStateException", Cond.declares ⟨"java/lang/RuntimeException", "<init>", "(Ljava/lang/String;)V"⟩, Cond.declares ⟨"java/lang/Exception", "<init>", "(Ljava/lang/String;)V"⟩, Cond.declares ⟨"java/lang/Throwable", "<init>", "(Ljava/lang/String;)V"⟩, Cond.castable "java/lang/IndexOutOfBoundsException" "java/lang/IndexOutOfBoundsException", Cond.castable "java/lang/IllegalArgumentException" "java/lang/IllegalArgumentException", Cond.fieldLinkNest RX8 42 "StreamPlayer" "LEAST_VALUES" "[I" "StreamPlayer", Cond.fieldLinkNest RX8 45 "StreamPlayer" "GREATEST_VALUES" "[I" "StreamPlayer"]
theorem NBL_on : ∀ w ∈ NBL, w.onTables = true := by decide
theorem NBL_in : ∀ w ∈ NBL, w ∈ tables_1 := by
  intro w hw
  simp only [NBL, List.mem_cons, List.not_mem_nil, or_false] at hw
  rcases hw with rfl | rfl | rfl | rfl | rfl | rfl | rfl | rfl | rfl | rfl | rfl | rfl | rfl | rfl | rfl | rfl | rfl
  · exact List.mem_of_getElem? (i := 29) (by decide +kernel)
  · exact List.mem_of_getElem? (i := 33) (by decide +kernel)
  · exact List.mem_of_getElem? (i := 40) (by decide +kernel)
  · exact List.mem_of_getElem? (i := 64) (by decide +kernel)
  · exact List.mem_of_getElem? (i := 108) (by decide +kernel)
  · exact List.mem_of_getElem? (i := 123) (by decide +kernel)
  · exact List.mem_of_getElem? (i := 140) (by decide +kernel)
  · exact List.mem_of_getElem? (i := 179) (by decide +kernel)
  · exact List.mem_of_getElem? (i := 222) (by decide +kernel)
  · exact List.mem_of_getElem? (i := 303) (by decide +kernel)
  · exact List.mem_of_getElem? (i := 305) (by decide +kernel)
  · exact List.mem_of_getElem? (i := 307) (by decide +kernel)
  · exact List.mem_of_getElem? (i := 309) (by decide +kernel)
  · exact List.mem_of_getElem? (i := 403) (by decide +kernel)
  · exact List.mem_of_getElem? (i := 471) (by decide +kernel)
  · exact List.mem_of_getElem? (i := 792) (by decide +kernel)
  · exact List.mem_of_getElem? (i := 794) (by decide +kernel)
theorem NB_warm {s U : State} (hW : s.WarmedH U.vm) (h : ∀ w ∈ NBL, va_Nw w s) : ∀ w ∈ NBL, va_Nw w U := by
  intro w hw
  have h9 := h w hw
  simp only [NBL, List.mem_cons, List.not_mem_nil, or_false] at hw
  rcases hw with rfl | rfl | rfl | rfl | rfl | rfl | rfl | rfl | rfl | rfl | rfl | rfl | rfl | rfl | rfl | rfl | rfl
  · exact va_Nw.warmM hW h9
  · exact va_Nw.warmF hW h9
  · exact va_Nw.warmC hW h9
  · exact va_Nw.warmM hW h9
  · exact va_Nw.warmM hW h9
  · exact va_Nw.warmM hW h9
  · exact va_Nw.warmM hW h9
  · exact va_Nw.warmM hW h9
  · exact va_Nw.warmM hW h9
  · exact va_Nw.warmC hW h9
  · exact va_Nw.warmD hW h9
  · exact va_Nw.warmD hW h9
  · exact va_Nw.warmD hW h9
  · exact va_Nw.warmC hW h9
  · exact va_Nw.warmC hW h9
  · exact va_Nw.warmF hW h9
  · exact va_Nw.warmF hW h9
theorem NB_same {u U : State} (hv : u.vm = U.vm) (h : ∀ w ∈ NBL, va_Nw w u) : ∀ w ∈ NBL, va_Nw w U := fun w hw => va_Nw.same (NBL_on w hw) hv (h w hw)
theorem nb_0 : Cond.methodLinkNest RX9 9 yX8_init "StreamPlayer" ∈ NBL := List.mem_of_getElem? (i := 0) rfl
theorem nb_1 : Cond.fieldLinkNest RX8 9 "StreamPlayer" "FIRST_VALUES" "[I" "StreamPlayer" ∈ NBL := List.mem_of_getElem? (i := 1) rfl
theorem nb_2 : Cond.castable "[I" "java/lang/Cloneable" ∈ NBL := List.mem_of_getElem? (i := 2) rfl
theorem nb_3 : Cond.methodLinkNest RX8 37 yX4_init "StreamPlayer" ∈ NBL := List.mem_of_getElem? (i := 3) rfl
theorem nb_4 : Cond.methodLinkNest RX6 11 yX7_init "StreamPlayer" ∈ NBL := List.mem_of_getElem? (i := 4) rfl
theorem nb_5 : Cond.methodLinkNest RX6 23 yX5_init "StreamPlayer" ∈ NBL := List.mem_of_getElem? (i := 5) rfl
theorem nb_6 : Cond.methodLinkNest RX6 30 yX1_init "StreamPlayer" ∈ NBL := List.mem_of_getElem? (i := 6) rfl
theorem nb_7 : Cond.methodLinkNest RX6 37 yX0_init "StreamPlayer" ∈ NBL := List.mem_of_getElem? (i := 7) rfl
theorem nb_8 : Cond.methodLinkNest RX6 44 yX3_init "StreamPlayer" ∈ NBL := List.mem_of_getElem? (i := 8) rfl
theorem nb_9 : Cond.castable "java/lang/IllegalStateException" "java/lang/IllegalStateException" ∈ NBL := List.mem_of_getElem? (i := 9) rfl
theorem nb_10 : Cond.declares ⟨"java/lang/RuntimeException", "<init>", "(Ljava/lang/String;)V"⟩ ∈ NBL := List.mem_of_getElem? (i := 10) rfl
theorem nb_11 : Cond.declares ⟨"java/lang/Exception", "<init>", "(Ljava/lang/String;)V"⟩ ∈ NBL := List.mem_of_getElem? (i := 11) rfl
theorem nb_12 : Cond.declares ⟨"java/lang/Throwable", "<init>", "(Ljava/lang/String;)V"⟩ ∈ NBL := List.mem_of_getElem? (i := 12) rfl
theorem nb_13 : Cond.castable "java/lang/IndexOutOfBoundsException" "java/lang/IndexOutOfBoundsException" ∈ NBL := List.mem_of_getElem? (i := 13) rfl
theorem nb_14 : Cond.castable "java/lang/IllegalArgumentException" "java/lang/IllegalArgumentException" ∈ NBL := List.mem_of_getElem? (i := 14) rfl
theorem nb_15 : Cond.fieldLinkNest RX8 42 "StreamPlayer" "LEAST_VALUES" "[I" "StreamPlayer" ∈ NBL := List.mem_of_getElem? (i := 15) rfl
theorem nb_16 : Cond.fieldLinkNest RX8 45 "StreamPlayer" "GREATEST_VALUES" "[I" "StreamPlayer" ∈ NBL := List.mem_of_getElem? (i := 16) rfl
def strs : List (Nat × String) := [(253, "there is a session"), (251, "there is no session"), (234, "there is no such number"), (243, "an argument is out of its range"), (248, "the call is not possible now"), (239, "the number is negative")]
def FVl : List Int32 := [2000, 30, 50, 2000, 2000, 4000, 10000, 20000, 3, 80, 0, 500, 2, 0, 60000]
def FV (j : Nat) : Int32 := FVl.getD j 0
def LVl : List Int32 := [100, 1, 0, 0, 0, 0, 0, 1000, 1, 10, 0, 0, 0, 0, 0]
def LV (j : Nat) : Int32 := LVl.getD j 0
def GVl : List Int32 := [10000, 200, 2000, 60000, 60000, 60000, 60000, 60000, 10, 100, 20000, 5000, 2, 60000, 60000]
def GV (j : Nat) : Int32 := GVl.getD j 0
def sarr : List (Nat × String × (Nat → Int32)) := [(0, "FIRST_VALUES", FV), (1, "LEAST_VALUES", LV), (2, "GREATEST_VALUES", GV)]
def ncs : List (String × String) := [("java/lang/IndexOutOfBoundsException", "java/lang/IllegalArgumentException"), ("java/lang/IndexOutOfBoundsException", "java/lang/IllegalStateException"), ("java/lang/IllegalArgumentException", "java/lang/IndexOutOfBoundsException"), ("java/lang/IllegalArgumentException", "java/lang/IllegalStateException"), ("java/lang/IllegalStateException", "java/lang/IndexOutOfBoundsException"), ("java/lang/IllegalStateException", "java/lang/IllegalArgumentException")]
def xE (k : Nat) : String := if k = 1 then "java/lang/IndexOutOfBoundsException" else if k = 2 then "java/lang/IllegalArgumentException" else "java/lang/IllegalStateException"
theorem va_Nc.warm {C T : String} {s U : State} (hW : s.WarmedH U.vm) (h : va_Nc C T s) : va_Nc C T U := by
  obtain ⟨c, t, h1, h2, h3⟩ := h
  exact ⟨c, t, by rw [hW.alike.findClass]; exact h1, by rw [hW.alike.findClass]; exact h2, by rw [hW.alike.assignable]; exact h3⟩
/-- the static row that is cloned -/
def FXc (t : Nat) (A : Nat → Prop) (U : State) (H : Heap) : Prop := ∃ cell : Cell, H[t]? = some cell ∧ U.vm.findClass "[I" = some cell.cls ∧ U.isArrayOf cell .int ∧ cell.vm ≠ .unknown ∧ cell.slots.size = 15 ∧ (∀ j : Nat, j < 15 → cell.slots[j]? = some (.int (FV j))) ∧ ¬ A t
theorem FXc.moved {t : Nat} {A : Nat → Prop} {u U : State} {H : Heap} (hvm : u.vm.Alike U.vm) (h : FXc t A u H) : FXc t A U H := by
  obtain ⟨c, h1, h2, h3, h4, h5, h6, h7⟩ := h
  exact ⟨c, h1, by rw [hvm.findClass]; exact h2, State.isArrayOf_alike hvm h3, h4, h5, h6, h7⟩
theorem FXc.kept {t : Nat} {A : Nat → Prop} {U : State} {H H1 : Heap} (h : FXc t A U H) (hq : ∀ a : Nat, a < H.size → ¬ A a → H1[a]? = H[a]?) : FXc t A U H1 := by
  obtain ⟨c, h1, h2, h3, h4, h5, h6, h7⟩ := h
  exact ⟨c, by rw [hq t (Array.getElem?_eq_some_iff.mp h1).1 h7]; exact h1, h2, h3, h4, h5, h6, h7⟩
theorem FXc.narrow {t : Nat} {A B : Nat → Prop} {U : State} {H : Heap} (h : FXc t A U H) (hAB : ∀ q, B q → A q) : FXc t B U H := by
  obtain ⟨c, h1, h2, h3, h4, h5, h6, h7⟩ := h
  exact ⟨c, h1, h2, h3, h4, h5, h6, fun z => h7 (hAB _ z)⟩
def GX (ga : Nat → Nat) (A : Nat → Prop) (U : State) : Prop :=
  (∀ w ∈ NBL, va_Nw w U) ∧ (∀ q ∈ strs, vk_R RX9 q.1 q.2 (ga q.1) U) ∧ vx_Zq Bundle.tN "UNASSIGNED_STACK" Bundle.steD A U U.heap ∧ vx_Zq Bundle.tN "SUPPRESSED_SENTINEL" Bundle.listD A U U.heap ∧ (∀ q ∈ sarr, va_Z RX9 q.2.1 "[I" (.ref (ga q.1)) A U U.heap ∧ va_T .int (ga q.1) 15 (fun j => .int (q.2.2 j)) A U U.heap) ∧ (∀ q ∈ ncs, va_Nc q.1 q.2 U) ∧ FXc (ga 0) A U U.heap
theorem GX.call {ga : Nat → Nat} {A B : Nat → Prop} {s U : State} {H : Heap} {locs : List Loc} (h : GX ga A s) (hS : va_S A s.heap H locs) (hB : ∀ q, B q → A q) (hW : s.WarmedH U.vm) (hU : U.heap = H) : GX ga B U := by
  obtain ⟨h1, h2, h3, h4, h5, h6, h7⟩ := h
  subst hU
  have hq : ∀ a : Nat, a < s.heap.size → ¬ A a → U.heap[a]? = s.heap[a]? := hS.2.1
  exact ⟨NB_warm hW h1, fun q hq => vk_R.warm hW (h2 q hq), ((h3.kept hq).narrow hB).moved hW.alike, ((h4.kept hq).narrow hB).moved hW.alike, fun q hq9 => ⟨va_Z.moved hW.alike (((h5 q hq9).1.kept hq).narrow hB), va_T.moved hW.alike (((h5 q hq9).2.kept hq).narrow hB)⟩, fun q hq => va_Nc.warm hW (h6 q hq), ((h7.kept hq).narrow hB).moved hW.alike⟩
theorem GX.blind {ga : Nat → Nat} {A : Nat → Prop} {U : State} {g : JFrame} {mk : MethodId} {a : Array Value} (h : GX ga A U) : GX ga A (U.calling g mk a) := by
  obtain ⟨h1, h2, h3, h4, h5, h6, h7⟩ := h
  exact ⟨NB_same (u := U) rfl h1, fun q hq => vk_R.same (u := U) rfl (h2 q hq), h3.moved (U := U.calling g mk a) (Vm.Alike.refl U.vm), h4.moved (U := U.calling g mk a) (Vm.Alike.refl U.vm), fun q hq9 => ⟨va_Z.moved (U := U.calling g mk a) (Vm.Alike.refl U.vm) (h5 q hq9).1, va_T.moved (U := U.calling g mk a) (Vm.Alike.refl U.vm) (h5 q hq9).2⟩, h6, h7.moved (U := U.calling g mk a) (Vm.Alike.refl U.vm)⟩
theorem GX.narrow {ga : Nat → Nat} {A B : Nat → Prop} {U : State} (h : GX ga A U) (hB : ∀ q, B q → A q) : GX ga B U := by
  obtain ⟨h1, h2, h3, h4, h5, h6, h7⟩ := h
  exact ⟨h1, h2, h3.narrow hB, h4.narrow hB, fun q hq9 => ⟨(h5 q hq9).1.narrow hB, (h5 q hq9).2.narrow hB⟩, h6, h7.narrow hB⟩
abbrev PreG (ga : Nat → Nat) (D : va_G) (cI cJ cC : ClassId) (W : va_W) (av : List Value) : Array Value → State → Prop := va_Pc av (fun U => va_P D vwCl W U.heap ∧ va_K D vwCl (ty3 cI cJ cC) U ∧ GX ga free0 U)
abbrev PreX (ga : Nat → Nat) (D : va_G) (cI cJ cC : ClassId) (W : va_W) (sz : Nat) (av : List Value) : Array Value → State → Prop := va_Pc av (fun U => U.heap.size = sz ∧ va_P D vwCl W U.heap ∧ va_K D vwCl (ty3 cI cJ cC) U ∧ va_D (fun _ => True) W ∧ GX ga (va_A W sz) U)
def QX (k : Nat) (v : Option Value) (D : va_G) (W1 : va_W) (A : Nat → Prop) : Array Value → State → Outcome → State → Prop := fun a st o t => k = 0 ∧ QW v D W1 A a st o t
def XX (k : Nat) (D : va_G) (W1 : va_W) (A : Nat → Prop) : String → State → State → Prop := fun E st t => (¬ k = 0 ∧ E = xE k) ∧ (va_P D vwCl W1 t.heap ∧ va_D A W1) ∧ va_F A st t
theorem fbG {ga : Nat → Nat} {D : va_G} {cI cJ cC : ClassId} {W : va_W} {av : List Value} : FrameBlind (PreG ga D cI cJ cC W av) := fun a U g mk q => by
  obtain ⟨q0, qP, qK, qG⟩ := q
  exact ⟨q0, qP, va_K.moved (u := U) (U := U.calling g mk a) (Vm.Alike.refl U.vm) qK, qG.blind⟩
theorem fbX {ga : Nat → Nat} {D : va_G} {cI cJ cC : ClassId} {W : va_W} {sz : Nat} {av : List Value} : FrameBlind (PreX ga D cI cJ cC W sz av) := fun a U g mk q => by
  obtain ⟨q0, q1, qP, qK, qD, qG⟩ := q
  exact ⟨q0, q1, qP, va_K.moved (u := U) (U := U.calling g mk a) (Vm.Alike.refl U.vm) qK, qD, qG.blind⟩
section XLAY
variable {p : Program} {l : Launch} {e : Env} {R : Room} {s : State} {m : MethodId} {args : Array Value} {below : List Frame} {meth : Method} {c : Code} {H : Heap} {locs : List Loc} {cells slots cells1 slots1 mc ms : Nat} {Q : State → Prop} {cc : ByteArray} {pc nL : Nat} {ls : Array Slot} {rest : List Value} {D : va_G} {ws wc wr W1 : va_W} {cI cJ cC : ClassId} {own : String} {A : Nat → Prop} {ga : Nat → Nat} {k : Nat}
variable {y : MethodName} {bytes : ByteArray} {maxL n index : Nat} {ret : Option FieldType} {rm : Room} {C : String} {b : Nat} {As st : List Value} {v : Option Value} {Ts cs : List Cond}
theorem metG {av : List Value} (hy : plainName y.cls = true) (ho : y.cls = own) (hlen : (lg_sl av).length ≤ maxL)
    (body : ∀ p e s m below meth c, CallFix p m c cc maxL s av.toArray TB own → meth.sig.returnType = ret → meth.locks = false → va_P D vwCl wc s.heap → va_K D vwCl (ty3 cI cJ cC) s → GX ga free0 s → ∀ ls, lv_has ls maxL (lv_args 0 av) →
      W p l e rm s m av.toArray below meth c s.heap [] 0 0 (MQ below (QR v) av.toArray s 0 0 free0) (F0 m 0 ls [])) :
    Met l y (Cond.code y cc maxL ret :: TB) rm (PreG ga D cI cJ cC wc av) (QR v) 0 0 free0 := by
  refine Met.ofW (cc := cc) (maxL := maxL) (ret := ret) hy rfl ?_
  intro p e s m args below meth c s₁ B hml hv
  obtain ⟨rfl, hP, hK, hG⟩ := hv
  have hts := atoms_spec (ws := Cond.code y cc maxL ret :: TB) B.pre
  have hl := lv_entry av (n := maxL) hlen
  rw [lg_entry_eq]
  exact body p e s m below meth c ⟨B.exec, B.bytes, hml, by rw [← ho]; exact findClass_of_methodNamed B.named, fun w h => hts w (List.mem_cons_of_mem _ h)⟩ B.returns B.notSynchronized hP hK hG _ hl
theorem metX {av : List Value} {sz : Nat} (hy : plainName y.cls = true) (ho : y.cls = own) (hlen : (lg_sl av).length ≤ maxL)
    (body : ∀ p e s m below meth c, CallFix p m c cc maxL s av.toArray TB own → meth.sig.returnType = ret → meth.locks = false → (∀ x ∈ c.exceptionTable.toList, False) → va_P D vwCl wc s.heap → va_K D vwCl (ty3 cI cJ cC) s → ∀ A : Nat → Prop, va_A wc sz = A → va_D A wc → (∀ q : Nat, s.heap.size ≤ q → A q) → va_S A s.heap s.heap [] → GX ga A s → ∀ ls, lv_has ls maxL (lv_args 0 av) →
      W p l e rm s m av.toArray below meth c s.heap [] 0 0 (vx_MQ below (QX k v D W1 A) (XX k D W1 A) av.toArray s mc ms A) (F0 m 0 ls [])) :
    vx_Met l y (Cond.code y cc maxL ret :: TB) rm (PreX ga D cI cJ cC wc sz av) (QX k v D W1 (va_A wc sz)) (XX k D W1 (va_A wc sz)) mc ms (va_A wc sz) := by
  refine vx_ofW (cc := cc) (maxL := maxL) (ret := ret) hy rfl ?_
  intro p e s m args below meth c s₁ B hml hnt hv
  obtain ⟨rfl, hsz, hP, hK, hD0, hG⟩ := hv
  have hts := atoms_spec (ws := Cond.code y cc maxL ret :: TB) B.pre
  have hl := lv_entry av (n := maxL) hlen
  rw [lg_entry_eq]
  exact body p e s m below meth c ⟨B.exec, B.bytes, hml, by rw [← ho]; exact findClass_of_methodNamed B.named, fun w h => hts w (List.mem_cons_of_mem _ h)⟩ B.returns B.notSynchronized hnt hP hK _ rfl (hD0.self (sz := sz)) (fun q h => Or.inr (by rw [← hsz]; exact h)) va_S.rf hG _ hl
theorem rdGS (S : CallFix p m c cc nL s args TB own) (hM : Met l y cs rm (PreG ga D cI cJ cC wc As) (QR v) 0 0 free0) (cw : CallB R s args own index y bytes maxL ret cs rm 0 0 n ∧ (Cond.static y).before args s = true) (hK : va_K D vwCl (ty3 cI cJ cC) s) (hS : va_S A s.heap H locs) (hG : GX ga A s) (hP : va_P D vwCl wc H) (hn : As.length = n) (hl : ls.size = nL) (hst : st = As.reverse ++ rest) (hW : (rest.map fun v => v.category).sum ≤ 8) (hf : cells ≤ R.cells ∧ slots ≤ R.slots) {pc1 : Nat} {st1 : List Value} (hpc : pc + 3 = pc1) (hst1 : v.toList ++ rest = st1) (hdg : decode cc pc = .ok (.invokestatic index, 3))
    (kk : W p l e R s m args below meth c H locs cells slots Q (F0 m pc1 ls st1)) : W p l e R s m args below meth c H locs cells slots Q (F0 m pc ls st) := by
  subst hpc
  subst hst1
  exact rd_of (W.runS S hM cw ⟨fbG, fun U hU hW => ⟨rfl, by rw [hU]; exact hP, va_K.moved hW.alike hK, hG.call hS (fun _ h => h.elim) hW hU⟩⟩ rfl hn hl hst (lv_room hW) hdg hf) kk
theorem xc_of {a9 : Array Value} (hr : vx_Run p l e R s m args below meth c H locs cells slots mc ms (F0 m pc ls st) rest (QX k v D W1 (va_A wc H.size) a9) (XX k D W1 (va_A wc H.size)) (va_A wc H.size)) (hP : va_P D vwCl ws H) (hD : va_D A ws) (hS : va_S A s.heap H locs) (hA : ∀ q : Nat, s.heap.size ≤ q → A q) (isC isR : List Nat) (hC : isC.map (fun i => ws[i]?) = wc.map some) (hR : isR.map (fun i => ws[i]?) = wr.map some) (hnR : va_nd isR = true) (hdis : ∀ i ∈ isR, i ∉ isC) (hc1 : cells + mc = cells1) (hs1 : slots + ms = slots1)
    (kx : ¬ k = 0 → ∀ (H1 : Heap) (locs1 : List Loc) (ce : Cell) (q9 : Nat), va_P D vwCl (wr ++ W1) H1 → va_D A (wr ++ W1) → va_S A s.heap H1 locs1 → H1[q9]? = some ce → ce.vm = .none → s.vm.findClass (xE k) = some ce.cls → vx_W p l e R s m args below meth c H1 locs1 cells1 slots1 Q (F0 m pc ls rest) q9)
    (kk : k = 0 → ∀ (H1 : Heap) (locs1 : List Loc), va_P D vwCl (wr ++ W1) H1 → va_D A (wr ++ W1) → va_S A s.heap H1 locs1 → W p l e R s m args below meth c H1 locs1 cells1 slots1 Q (F0 m (pc + 3) ls (v.toList ++ rest))) : W p l e R s m args below meth c H locs cells slots Q (F0 m pc ls st) := by
  subst hc1
  subst hs1
  have hF := va_free (wc := wc) hD hS hA isC hC
  intro T hT X
  rcases hr T hT X with ⟨v', st₀, t, T', L, h0, X', hL, e1, e2, ⟨hk0, hv, hb, hFr⟩, stp⟩ | ⟨q, st₀, t, T', L, E, ce, h0, X', hL, e1, e2, ⟨⟨hk0, hE⟩, hb, hFr⟩, hce, hcv, hcl, stp⟩
  · cases hv
    obtain ⟨k1, k2, k3⟩ := vx_keep h0 e1 hS (fun q _ h => hF q h) hF hL hFr
    obtain ⟨hP1, hD1⟩ := va_join (wr := wr) (w1 := W1) hP hD isC isR hC hR hnR hdis k2 hF (by rw [e1]; exact hb.1) hb.2
    obtain ⟨t2, a1, b1⟩ := kk hk0 T'.heap (locs ++ L) hP1 hD1 k3 T' rfl X'
    exact ⟨t2, stp t2 a1, b1⟩
  · subst hE
    obtain ⟨k1, k2, k3⟩ := vx_keep h0 e1 hS (fun q _ h => hF q h) hF hL hFr
    obtain ⟨hP1, hD1⟩ := va_join (wr := wr) (w1 := W1) hP hD isC isR hC hR hnR hdis k2 hF (by rw [e1]; exact hb.1) hb.2
    obtain ⟨t2, a1, b1⟩ := kx hk0 T'.heap (locs ++ L) ce q hP1 hD1 k3 (by rw [e1]; exact hce) hcv hcl T' rfl X'
    exact ⟨t2, stp.trans a1, b1⟩
theorem xcV {ci : Nat} {q : vw_C} {fs : List Value} (S : CallFix p m c cc nL s args TB own) (hM : vx_Met l y cs rm (PreX ga D cI cJ cC wc H.size (.ref b :: As)) (QX k v D W1 (va_A wc H.size)) (XX k D W1 (va_A wc H.size)) mc ms (va_A wc H.size)) (cw : CallW R s args own C index y bytes maxL ret cs rm mc ms n) (hK : va_K D vwCl (ty3 cI cJ cC) s) (hP : va_P D vwCl ws H) (hD : va_D A ws) (hS : va_S A s.heap H locs) (hA : ∀ q : Nat, s.heap.size ≤ q → A q) (hG : GX ga A s) (isC isR : List Nat) (hs : isC.filterMap (fun i => ws[i]?) = wc) (hC : isC.map (fun i => ws[i]?) = wc.map some) (hR : isR.map (fun i => ws[i]?) = wr.map some) (hnC : va_nd isC = true) (hnR : va_nd isR = true) (hdis : ∀ i ∈ isR, i ∉ isC)
    (hc : vwCl[ci]? = some q) (hq : q.1 = C) (he : wc[0]? = some (b, .inr (ci, fs))) (hn : As.length = n) (hl : ls.size = nL) (hst : st = As.reverse ++ .ref b :: rest) (hW : (rest.map fun v => v.category).sum ≤ 8) (hf : cells + mc ≤ R.cells ∧ slots + ms ≤ R.slots) {pc1 : Nat} {st1 : List Value} (hpc : pc + 3 = pc1) (hst1 : v.toList ++ rest = st1) (hc1 : cells + mc = cells1) (hs1 : slots + ms = slots1) (hdg : decode cc pc = .ok (.invokevirtual index, 3))
    (kx : ¬ k = 0 → ∀ (H1 : Heap) (locs1 : List Loc) (ce : Cell) (q9 : Nat), va_P D vwCl (wr ++ W1) H1 → va_D A (wr ++ W1) → va_S A s.heap H1 locs1 → H1[q9]? = some ce → ce.vm = .none → s.vm.findClass (xE k) = some ce.cls → vx_W p l e R s m args below meth c H1 locs1 cells1 slots1 Q (F0 m pc ls rest) q9)
    (kk : k = 0 → ∀ (H1 : Heap) (locs1 : List Loc), va_P D vwCl (wr ++ W1) H1 → va_D A (wr ++ W1) → va_S A s.heap H1 locs1 → W p l e R s m args below meth c H1 locs1 cells1 slots1 Q (F0 m pc1 ls st1)) : W p l e R s m args below meth c H locs cells slots Q (F0 m pc ls st) := by
  subst hpc
  subst hst1
  have hPc := hP.sub isC hs
  have hDc := hD.sub isC hnC hC
  have hF := va_free (wc := wc) hD hS hA isC hC
  exact xc_of (vx_runV S hM cw ⟨fbX, by rw [← hq]; exact va_recv hK hPc hc he, fun U hU hW => ⟨rfl, by rw [hU], by rw [hU]; exact hPc, va_K.moved hW.alike hK, hDc.weaken (fun _ _ _ _ => trivial), hG.call hS hF hW hU⟩⟩ rfl hn hl hst (lv_room hW) hdg hf) hP hD hS hA isC isR hC hR hnR hdis hc1 hs1 kx kk
theorem xcS (S : CallFix p m c cc nL s args TB own) (hM : vx_Met l y cs rm (PreX ga D cI cJ cC wc H.size As) (QX k v D W1 (va_A wc H.size)) (XX k D W1 (va_A wc H.size)) mc ms (va_A wc H.size)) (cw : CallB R s args own index y bytes maxL ret cs rm mc ms n ∧ (Cond.static y).before args s = true) (hK : va_K D vwCl (ty3 cI cJ cC) s) (hP : va_P D vwCl ws H) (hD : va_D A ws) (hS : va_S A s.heap H locs) (hA : ∀ q : Nat, s.heap.size ≤ q → A q) (hG : GX ga A s) (isC isR : List Nat) (hs : isC.filterMap (fun i => ws[i]?) = wc) (hC : isC.map (fun i => ws[i]?) = wc.map some) (hR : isR.map (fun i => ws[i]?) = wr.map some) (hnC : va_nd isC = true) (hnR : va_nd isR = true) (hdis : ∀ i ∈ isR, i ∉ isC)
    (hn : As.length = n) (hl : ls.size = nL) (hst : st = As.reverse ++ rest) (hW : (rest.map fun v => v.category).sum ≤ 8) (hf : cells + mc ≤ R.cells ∧ slots + ms ≤ R.slots) {pc1 : Nat} {st1 : List Value} (hpc : pc + 3 = pc1) (hst1 : v.toList ++ rest = st1) (hc1 : cells + mc = cells1) (hs1 : slots + ms = slots1) (hdg : decode cc pc = .ok (.invokestatic index, 3))
    (kx : ¬ k = 0 → ∀ (H1 : Heap) (locs1 : List Loc) (ce : Cell) (q9 : Nat), va_P D vwCl (wr ++ W1) H1 → va_D A (wr ++ W1) → va_S A s.heap H1 locs1 → H1[q9]? = some ce → ce.vm = .none → s.vm.findClass (xE k) = some ce.cls → vx_W p l e R s m args below meth c H1 locs1 cells1 slots1 Q (F0 m pc ls rest) q9)
    (kk : k = 0 → ∀ (H1 : Heap) (locs1 : List Loc), va_P D vwCl (wr ++ W1) H1 → va_D A (wr ++ W1) → va_S A s.heap H1 locs1 → W p l e R s m args below meth c H1 locs1 cells1 slots1 Q (F0 m pc1 ls st1)) : W p l e R s m args below meth c H locs cells slots Q (F0 m pc ls st) := by
  subst hpc
  subst hst1
  have hPc := hP.sub isC hs
  have hDc := hD.sub isC hnC hC
  have hF := va_free (wc := wc) hD hS hA isC hC
  exact xc_of (vx_runS S hM cw ⟨fbX, fun U hU hW => ⟨rfl, by rw [hU], by rw [hU]; exact hPc, va_K.moved hW.alike hK, hDc.weaken (fun _ _ _ _ => trivial), hG.call hS hF hW hU⟩⟩ rfl hn hl hst (lv_room hW) hdg hf) hP hD hS hA isC isR hC hR hnR hdis hc1 hs1 kx kk
theorem xout {q : Nat} {ce : Cell} (hnt : ∀ x ∈ c.exceptionTable.toList, False) (hlk : meth.locks = false) (hk : ¬ k = 0) (hP : va_P D vwCl W1 H) (hD : va_D A W1) (hS : va_S A s.heap H locs) (hce : H[q]? = some ce) (hv : ce.vm = .none) (hcl : s.vm.findClass (xE k) = some ce.cls) (hc : cells ≤ mc) (hs : slots ≤ ms) :
    vx_W p l e R s m args below meth c H locs cells slots (vx_MQ below (QX k v D W1 A) (XX k D W1 A) args s mc ms A) (F0 m pc ls rest) q :=
  vx_out (fun x hx => (hnt x hx).elim) hlk hce hv hcl (fun t ht _ => ⟨⟨hk, rfl⟩, ⟨by rw [ht]; exact hP, hD⟩, hS.F ht⟩) hS.2.2 hc hs
theorem xRi {x : Int32} (S : CallFix p m c cc nL s args TB own) (hr : meth.sig.returnType = some .int) (hlk : meth.locks = false) (hc : cells ≤ mc) (hs : slots ≤ ms) (hP : va_P D vwCl W1 H) (hD : va_D A W1) (hS : va_S A s.heap H locs) (hdg : decode cc pc = .ok (.ireturn, 1)) : W p l e R s m args below meth c H locs cells slots (vx_MQ below (QX 0 (some (.int x)) D W1 A) (XX 0 D W1 A) args s mc ms A) (F0 m pc ls [.int x]) :=
  W.widen hc hs (vx_ret (W.iret S.1 S.2.1 hr (fun t ht _ => ⟨rfl, rfl, ⟨by rw [ht]; exact hP, hD⟩, hS.F ht⟩) hS.2.2 hdg hlk))
theorem xRl {x : Int64} (S : CallFix p m c cc nL s args TB own) (hr : meth.sig.returnType = some .long) (hlk : meth.locks = false) (hc : cells ≤ mc) (hs : slots ≤ ms) (hP : va_P D vwCl W1 H) (hD : va_D A W1) (hS : va_S A s.heap H locs) (hdg : decode cc pc = .ok (.lreturn, 1)) : W p l e R s m args below meth c H locs cells slots (vx_MQ below (QX 0 (some (.long x)) D W1 A) (XX 0 D W1 A) args s mc ms A) (F0 m pc ls [.long x]) :=
  W.widen hc hs (vx_ret (W.lret S.1 S.2.1 hr (fun t ht _ => ⟨rfl, rfl, ⟨by rw [ht]; exact hP, hD⟩, hS.F ht⟩) hS.2.2 hdg hlk))
theorem xRv (S : CallFix p m c cc nL s args TB own) (hr : meth.sig.returnType = none) (hlk : meth.locks = false) (hc : cells ≤ mc) (hs : slots ≤ ms) (hP : va_P D vwCl W1 H) (hD : va_D A W1) (hS : va_S A s.heap H locs) (hdg : decode cc pc = .ok (.return_, 1)) : W p l e R s m args below meth c H locs cells slots (vx_MQ below (QX 0 none D W1 A) (XX 0 D W1 A) args s mc ms A) (F0 m pc ls []) :=
  W.widen hc hs (vx_ret (W.vret S.1 S.2.1 hr (fun t ht _ => ⟨rfl, rfl, ⟨by rw [ht]; exact hP, hD⟩, hS.F ht⟩) hS.2.2 hdg hlk))
theorem va_P.all {D : va_G} {cl : List vw_C} {ws : va_W} {H H1 : Heap} (h : va_P D cl ws H) (hq : ∀ q : Nat, q < H.size → H1[q]? = H[q]?) : va_P D cl ws H1 := fun k q hk => (h k q hk).kept (hq q.1 (h k q hk).lt)
abbrev xnames : List String := ["java/lang/RuntimeException", "java/lang/Exception"]
theorem xthr {ik is ic : Nat} {tx : String} (S : CallFix p m c cc nL s args TB RX9) (hlk : meth.locks = false) (hnt : ∀ x ∈ c.exceptionTable.toList, False) (hfl : l.stackTraces = false) (hcls : Bundle.fit (xE k) = true) (hk : ¬ k = 0)
    (hlink : Cond.classLink RX9 ik (xE k) ∈ TB) (hini : Cond.initialized (xE k) ∈ TB) (hgd : ∀ w ∈ (vx_atS RX9 ic (xE k) xnames).filter goodWord, w ∈ TB) (hbd : ∀ w ∈ (vx_atS RX9 ic (xE k) xnames).filter (fun w => !goodWord w), w ∈ NBL)
    (hot : ∀ w ∈ Cond.classLink RX9 ik (xE k) :: Cond.initialized (xE k) :: vx_atS RX9 ic (xE k) xnames, vx_ot w = true)
    (hG : GX ga A s) (htx : (is, tx) ∈ strs) (hP : va_P D vwCl W1 H) (hD : va_D A W1) (hS : va_S A s.heap H locs) (hsize : ls.size = nL)
    (d0 : decode cc pc = .ok (.new ik, 3)) (d3 : decode cc (pc + 3) = .ok (.dup, 1)) (d4 : decode cc (pc + 4) = .ok (.ldc is, 2)) (d6 : decode cc (pc + 6) = .ok (.invokespecial ic, 3)) (d9 : decode cc (pc + 9) = .ok (.athrow, 1))
    (hRf : 5 < R.frames) (hRl : (rest.map fun v => v.category).sum + 82 ≤ R.locals) (hRc : cells + 1 ≤ R.cells) (hRs : slots + 6 ≤ R.slots) (hc : cells + 1 ≤ mc) (hs : slots + 6 ≤ ms) :
    W p l e R s m args below meth c H locs cells slots (vx_MQ below (QX k v D W1 A) (XX k D W1 A) args s mc ms A) (F0 m pc ls rest) := by
  refine vx_throwS (own := RX9) (cls := xE k) (text := tx) (names := xnames) (ik := ik) (is := is) (ic := ic) (sa := ga is) (A := A) S.1 S.2.1 hfl S.2.2.2.1 hcls (by decide) (S.2.2.2.2 _ hlink) (S.2.2.2.2 _ hini) (hG.2.1 (is, tx) htx) ?_ hot hG.2.2.1 hG.2.2.2.1 hS (hsize.trans S.2.2.1.symm) d0 d3 d4 d6 d9 (fun x hx => (hnt x hx).elim) hRf hRl hRc hRs hlk ?_ hS.2.2 hc hs
  · exact vx_hat (fun w hw => S.2.2.2.2 w (hgd w hw)) hbd (fun w hw => va_Nw.use (NBL_on w hw) (hG.1 w hw))
  · intro t _ hz hq
    exact ⟨⟨hk, rfl⟩, ⟨hP.all hq, hD⟩, ⟨Nat.le_trans hS.1 hz, fun q h1 h2 => by rw [hq q (Nat.lt_of_lt_of_le h1 hS.1)]; exact hS.2.1 q h1 h2⟩⟩
theorem metL {av : List Value} {sz : Nat} {hh : List (Nat × Nat × Nat × Nat)} (hy : plainName y.cls = true) (ho : y.cls = own) (hlen : (lg_sl av).length ≤ maxL)
    (body : ∀ p e s m below meth c, CallFix p m c cc maxL s av.toArray TB own → meth.sig.returnType = ret → meth.locks = false → c.exceptionTable.toList = tableOf hh → va_P D vwCl wc s.heap → va_K D vwCl (ty3 cI cJ cC) s → ∀ A : Nat → Prop, va_A wc sz = A → va_D A wc → (∀ q : Nat, s.heap.size ≤ q → A q) → va_S A s.heap s.heap [] → GX ga A s → ∀ ls, lv_has ls maxL (lv_args 0 av) →
      W p l e rm s m av.toArray below meth c s.heap [] 0 0 (MQ below (QW v D W1 A) av.toArray s mc ms A) (F0 m 0 ls [])) :
    Met l y (Cond.codeWith y cc maxL ret hh :: TB) rm (PreX ga D cI cJ cC wc sz av) (QW v D W1 (va_A wc sz)) mc ms (va_A wc sz) := by
  refine MetFree.of_bodyS (code := cc) (maxLocals := maxL) (ret := ret) hy ?_ ?_
  · intro args s m h hn
    obtain ⟨m9, meth, c, hn9, h1, h2, h3, h4, -, h5, h6, -⟩ := Cond.codeWith_spec (atoms_spec (ws := Cond.codeWith y cc maxL ret hh :: TB) h _ List.mem_cons_self)
    cases hn.symm.trans hn9
    exact ⟨meth, c, h1, h2, h3, h4, h5, h6⟩
  · intro p e s m args below meth c s₁ B hml hv _
    have hh0 : s₁.heap = s.heap := by rw [B.state]; rfl
    obtain ⟨rfl, hsz, hP, hK, hD0, hG⟩ := hv
    have hts := atoms_spec (ws := Cond.codeWith y cc maxL ret hh :: TB) B.pre
    have htab := vx_table (x := y) B (hts _ List.mem_cons_self)
    have hl := lv_entry av (n := maxL) hlen
    have hbody := body p e s m below meth c ⟨B.exec, B.bytes, hml, by rw [← ho]; exact findClass_of_methodNamed B.named, fun w h => hts w (List.mem_cons_of_mem _ h)⟩ B.returns B.notSynchronized htab hP hK _ rfl (hD0.self (sz := sz)) (fun q h => Or.inr (by rw [← hsz]; exact h)) va_S.rf hG _ hl
    rw [← lg_entry_eq] at hbody
    obtain ⟨t, a1, o, b1, b2, b3⟩ := hbody s₁ hh0 (Stand.of_body B)
    exact ⟨t, o, a1, b1, b2, ⟨b3.1, b3.2⟩⟩
theorem lRi {x : Int32} (S : CallFix p m c cc nL s args TB own) (hr : meth.sig.returnType = some .int) (hlk : meth.locks = false) (hc : cells ≤ mc) (hs : slots ≤ ms) (hP : va_P D vwCl W1 H) (hD : va_D A W1) (hS : va_S A s.heap H locs) (hdg : decode cc pc = .ok (.ireturn, 1)) : W p l e R s m args below meth c H locs cells slots (MQ below (QW (some (.int x)) D W1 A) args s mc ms A) (F0 m pc ls [.int x]) :=
  W.widen hc hs (W.iret S.1 S.2.1 hr (fun t ht _ => ⟨rfl, ⟨by rw [ht]; exact hP, hD⟩, hS.F ht⟩) hS.2.2 hdg hlk)
end XLAY
