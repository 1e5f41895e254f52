section
variable {l : Launch} {y : MethodName} {ws ws' : List Cond} {rm : Room} {g : GG} {W0 W1 : va_W} {av : List Value} {mc ms maxL : Nat} {cc : ByteArray} {own : String} {hh : List (Nat × Nat × Nat × Nat)}
/-- the head of a method that catches what it throws -/
theorem mh_of {ret : Option FieldType} {Qc : (Nat → Prop) → Array Value → State → Outcome → State → Prop} (hy : plainName y.cls = true) (hcl : y.cls = own) (hw : ws = Cond.codeWith y cc maxL ret hh :: ws') (hloc : (lg_sl av).length ≤ maxL)
    (body : ∀ (p : Program) (e : Env) (s : State) (m : MethodId) (below : List Frame) (meth : Method) (c : Code) (A : Nat → Prop) (ls : Array Slot), Bod p s m av.toArray meth c cc maxL own ws g A → c.exceptionTable.toList = tableOf hh → meth.sig.returnType = ret → meth.locks = false → va_P (gD g) vwCl W0 s.heap → va_D A W0 → lv_has ls maxL (lv_args 0 av) →
      W p l e rm s m av.toArray below meth c s.heap [] 0 0 (MQ below (Qc A) av.toArray s mc ms A) (F0 m 0 ls [])) (sz : Nat) : Met l y ws rm (PreM g W0 av sz) (Qc (va_A W0 sz)) mc ms (va_A W0 sz) := by
  refine MetFree.of_bodyS (code := cc) (maxLocals := maxL) (ret := ret) hy ?_ ?_
  · intro args s m h hn
    obtain ⟨m9, meth, c, hn9, h1, h2, h3, h4, -, h5, h6, -⟩ := Cond.codeWith_spec (atoms_spec (ws := ws) h _ (by rw [hw]; exact List.mem_cons_self))
    cases hn.symm.trans hn9
    exact ⟨meth, c, h1, h2, h3, h4, h5, h6⟩
  · intro p e s m args below meth c s₁ B hml hv _
    have hh0 : s₁.heap = s.heap := by rw [B.state]; rfl
    have hts := atoms_spec (ws := ws) B.pre
    have htb := vx_table (x := y) B (hts _ (by rw [hw]; exact List.mem_cons_self))
    obtain ⟨rfl, hsz, hP, hK, hD0, hZ, hR⟩ := hv
    have hown : s.vm.findClass own = some m.cls := hcl ▸ findClass_of_methodNamed B.named
    subst hsz
    have hD := hD0.self (sz := s.heap.size)
    have hA : ∀ q : Nat, s.heap.size ≤ q → va_A W0 s.heap.size q := fun q h => Or.inr h
    have hl := lv_entry av (n := maxL) hloc
    have hbody := body p e s m below meth c (va_A W0 s.heap.size) _ ⟨B.exec, B.bytes, hml, hown, hts, hK, hZ, hR, hA, rfl⟩ htb B.returns B.notSynchronized hP hD hl
    rw [← lg_entry_eq] at hbody
    obtain ⟨t, a1, o, b1, b2, b3⟩ := hbody s₁ hh0 (Stand.of_body B)
    exact ⟨t, o, a1, b1, b2, ⟨b3.1, b3.2⟩⟩
end
section
variable {p : Program} {l : Launch} {e : Env} {R : Room} {s : State} {m : MethodId} {args : Array Value} {below : List Frame} {meth : Method} {c : Code} {H : Heap} {locs : List Loc} {cells slots : Nat} {Q : State → Prop}
/-- a row of the table that names another of the six classes -/
def lxP (own : String) (args : Array Value) (s : State) (E : String) (z : ExceptionTableEntry) : Prop := z.catchType ≠ 0 ∧ ∃ nm ∈ exN, E ≠ nm ∧ (Cond.classLink own z.catchType nm).before args s = true
theorem lx_n {own E : String} : ∀ z ∈ tableOf [], lxP own args s E z := fun _ h => nomatch h
theorem lx_c {own E nm : String} {q : Nat × Nat × Nat × Nat} {hh : List (Nat × Nat × Nat × Nat)} (h0 : q.2.2.2 ≠ 0) (hm : nm ∈ exN) (hne : E ≠ nm) (hk : (Cond.classLink own q.2.2.2 nm).before args s = true) (t : ∀ z ∈ tableOf hh, lxP own args s E z) : ∀ z ∈ tableOf (q :: hh), lxP own args s E z := fun z hz => by
  rcases List.mem_cons.mp hz with rfl | hz
  · exact ⟨h0, nm, hm, hne, hk⟩
  · exact t z hz
theorem lx_catch {g : GG} {own E : String} {ce : Cell} {q : Addr} {pc : Nat} {ls : Array Slot} {rest : List Value} (hown : s.vm.findClass own = some m.cls) (hT : STR g s) (pre : List (Nat × Nat × Nat × Nat)) (h : Nat × Nat × Nat × Nat) (suf : List (Nat × Nat × Nat × Nat)) (htb : c.exceptionTable.toList = tableOf (pre ++ h :: suf))
    (hE : E ∈ exN) (hpass : ∀ z ∈ tableOf pre, lxP own args s E z) (hc : covers ⟨h.1, h.2.1, h.2.2.1, h.2.2.2⟩ pc = true) (h0 : h.2.2.2 ≠ 0) (hlink : (Cond.classLink own h.2.2.2 E).before args s = true) (hcell : H[q]? = some ce) (hv : ce.vm = .none) (hcl : s.vm.findClass E = some ce.cls)
    (kk : W p l e R s m args below meth c H locs cells slots Q (F0 m h.2.2.1 ls [.ref q])) : vx_W p l e R s m args below meth c H locs cells slots Q (F0 m pc ls rest) q := by
  refine vx_catch hown (tableOf pre) ⟨h.1, h.2.1, h.2.2.1, h.2.2.2⟩ (tableOf suf) (htb.trans (by simp [tableOf])) (fun z hz => ?_) hc h0 hlink (va_Nw.use rfl (hT.2.2.1 E hE)) hcell hv hcl kk
  obtain ⟨h1, nm, h2, h3, h4⟩ := hpass z hz
  exact Or.inr ⟨h1, nm, h4, hT.2.2.2.1 E hE nm h2 h3⟩
end
theorem vp_in01 : vp_in 0 1 := by unfold vp_in; decide
theorem exN_0 : "java/lang/IndexOutOfBoundsException" ∈ exN := by decide
theorem exN_1 : "java/lang/IllegalArgumentException" ∈ exN := by decide
theorem exN_2 : "java/util/NoSuchElementException" ∈ exN := by decide
theorem exN_3 : "java/lang/IllegalStateException" ∈ exN := by decide
theorem exN_4 : "java/lang/UnsupportedOperationException" ∈ exN := by decide
theorem exN_5 : "java/lang/ArithmeticException" ∈ exN := by decide
def f_L_setStone (tv : TV) (qv : QV) (hv : HV) (a0 : Int32) (a1 : Int32) (a2 : Int32) (ol : Nat → Int64) : Option (Int32 × (Nat → Int64) × QV × HV) :=
  (f_X10_setStone tv qv hv a0 a1 a2).bind fun o => jbM o (fun x => if (x.1) = 0 then some (1, ol, (x.2.1), (x.2.2)) else if (x.1) = 1 then some (2, ol, (x.2.1), (x.2.2)) else none) (fun y => some (0, (vp_updL ol (0 : Int32).toNatClampNeg (y.1).toInt64), (y.2.1), (y.2.2)))
def rm_L_setStone : Room := { frames := 10, cells := 11, slots := 244, locals := 163 }
theorem hd_L_setStone : yL_setStone.cls = RL ∧ yL_setStone.cls ≠ "java/lang/invoke/MethodHandle" ∧ yL_setStone.cls ≠ "java/lang/invoke/VarHandle" ∧ (parseMethodDescriptor yL_setStone.desc).map (fun d => d.parameters.length) = some 5 := by decide +kernel
set_option maxHeartbeats 4000000 in
set_option maxRecDepth 100000 in
theorem c_L_setStone (l : Launch) (hlt : l.stackTraces = false) (g : GG) (ha : Nat → Nat → Nat) (hd : Nat → Nat → Nat) (tv : TV) (qv : QV) (hv : HV) (a0 : Int32) (a1 : Int32) (a2 : Int32) (oa : Nat) (ol : Nat → Int64) (out : Int32 × (Nat → Int64) × QV × HV) (hf : f_L_setStone tv qv hv a0 a1 a2 ol = some out) : MzI (RT := Nat → Nat → Nat) l yL_setStone wsL_setStone rm_L_setStone g (wT g ha tv ++ wQ g (ha 1) qv ++ wH g (ha 4) hd hv ++ [(oa, .inl (gC g 3, 1, .inr (.inl ol)))]) [.ref (ha 0 0), .int a0, .int a1, .int a2, .ref oa] (fun _ => True) (fun _ => (out.1)) (fun hd1 => (wT g ha tv ++ wQ g (ha 1) (out.2.2.1) ++ wH g (ha 4) hd1 (out.2.2.2) ++ [(oa, .inl (gC g 3, 1, .inr (.inl (out.2.1))))])) 11 244 := by
  refine fun sz => mh_of (hh := [(0, 12, 15, 13), (0, 12, 19, 15)]) (cc := cL_setStone) (maxL := 6) (ret := (some .int)) (own := RL) (Qc := fun A => va_Qi (fun r (hd1 : Nat → Nat → Nat) => True ∧ r = (out.1)) (fun hd1 t => PosM g A (wT g ha tv ++ wQ g (ha 1) (out.2.2.1) ++ wH g (ha 4) hd1 (out.2.2.2) ++ [(oa, .inl (gC g 3, 1, .inr (.inl (out.2.1))))]) t) A) (by decide +kernel) rfl rfl (Nat.le_of_ble_eq_true rfl) ?_ sz
  intro p e s mi below meth c A ls hB htb hrt hlk hP hD hl
  obtain ⟨hx, hb, hml, hown, hts, hK, hZ, hT, hA, -⟩ := hB
  have hS : va_S A s.heap s.heap [] := va_S.rf
  have hl : lv_has ls 6 [(0, .ref (ha 0 0)), (1, .int a0), (2, .int a1), (3, .int a2), (4, .ref oa)] := hl
  have kk0 := hts (.classLink RL 13 "java/lang/IndexOutOfBoundsException") (by decide +kernel)
  have kk1 := hts (.classLink RL 15 "java/lang/IllegalArgumentException") (by decide +kernel)
  unfold f_L_setStone at hf
  obtain ⟨o, hg, hf⟩ := jbB_e hf
  refine lv_aload hx hb dL_setStone_0 (lv_at hl 4 rfl) ?_
  refine lv_iconst (v := 0) hx hb dL_setStone_2 (by decide) ?_
  refine lv_aload_n hx hb dL_setStone_3 rfl (lv_at hl 0 rfl) ?_
  refine lv_iload_n hx hb dL_setStone_4 rfl (lv_at hl 1 rfl) ?_
  refine lv_iload_n hx hb dL_setStone_5 rfl (lv_at hl 2 rfl) ?_
  refine lv_iload_n hx hb dL_setStone_6 rfl (lv_at hl 3 rfl) ?_
  refine cypv_i (As := [.int a0, .int a1, .int a2]) (rest := [.int 0, .ref oa]) (Wr := [(oa, .inl (gC g 3, 1, .inr (.inl ol)))]) (Wn := fun u => (wT g ha tv ++ wQ g (ha 1) (u.1.2.1) ++ wH g (ha 4) u.2 (u.1.2.2) ++ [(oa, .inl (gC g 3, 1, .inr (.inl ol)))])) (WnX := fun u => (wT g ha tv ++ wQ g (ha 1) (u.1.2.1) ++ wH g (ha 4) u.2 (u.1.2.2) ++ [(oa, .inl (gC g 3, 1, .inr (.inl ol)))])) ⟨hx, hb, hml, hown, hts⟩ (c_X10_setStone l hlt g ha hd tv qv hv a0 a1 a2 _ hg) (cwV 3 hts gL_setStone_X10_setStone rfl rfl rfl hd_X10_setStone ⟨(Nat.le_of_ble_eq_true rfl), (Nat.le_of_ble_eq_true rfl)⟩) hK hZ hT hA hP hD hS hl.1 (va_recv hK hP (ci := 9) (q0 := 0) rfl rfl) (wp_of fun f => by simp only [List.countP_append, List.countP_cons, List.countP_nil] <;> omega) (fun _ => (wp_of fun f => by simp only [List.countP_append, List.countP_cons, List.countP_nil] <;> omega)) (fun _ => (wp_of fun f => by simp only [List.countP_append, List.countP_cons, List.countP_nil] <;> omega)) rfl rfl (Nat.le_of_ble_eq_true rfl) ⟨(Nat.le_of_ble_eq_true rfl), (Nat.le_of_ble_eq_true rfl)⟩ dL_setStone_7 (fun u ce q9 H locs ho hP hD hS hce hcv hcl => ?_) (fun u H locs ho hP hD hS => ?_)
  · have ho9 := ho
    subst ho9
    have hf := jbM_l hf
    by_cases h0 : (u.1.1) = 0
    · have hf := jbT hf h0
      cases hf
      have hcl : s.vm.findClass "java/lang/IndexOutOfBoundsException" = some ce.cls := by rw [h0] at hcl; exact hcl
      refine lx_catch hown hT [] (0, 12, 15, 13) [(0, 12, 19, 15)] htb exN_0 lx_n rfl (by decide) kk0 hce hcv hcl ?_
      refine lv_astore (lv' := [(5, .ref q9), (0, .ref (ha 0 0)), (1, .int a0), (2, .int a1), (3, .int a2), (4, .ref oa)]) hx hb dL_setStone_15 hl (by decide) rfl (fun ls hl => ?_)
      refine lv_iconst (v := 1) hx hb dL_setStone_17 (by decide) ?_
      refine rz_i (RT := Nat → Nat → Nat) (PR := fun _ => True) (rv := fun _ => 1) (W1 := fun hd1 => (wT g ha tv ++ wQ g (ha 1) (u.1.2.1) ++ wH g (ha 4) hd1 (u.1.2.2) ++ [(oa, .inl (gC g 3, 1, .inr (.inl ol)))])) u.2 trivial rfl hx hb hrt hlk rfl hK hP hD hS ?_ ?_ dL_setStone_18 <;> exact Nat.le_of_ble_eq_true rfl
    · have hf := jbF hf h0
      by_cases h1 : (u.1.1) = 1
      · have hf := jbT hf h1
        cases hf
        have hcl : s.vm.findClass "java/lang/IllegalArgumentException" = some ce.cls := by rw [h1] at hcl; exact hcl
        refine lx_catch hown hT [(0, 12, 15, 13)] (0, 12, 19, 15) [] htb exN_1 (lx_c (nm := "java/lang/IndexOutOfBoundsException") (by decide) exN_0 (by decide) kk0 lx_n) rfl (by decide) kk1 hce hcv hcl ?_
        refine lv_astore (lv' := [(5, .ref q9), (0, .ref (ha 0 0)), (1, .int a0), (2, .int a1), (3, .int a2), (4, .ref oa)]) hx hb dL_setStone_19 hl (by decide) rfl (fun ls hl => ?_)
        refine lv_iconst (v := 2) hx hb dL_setStone_21 (by decide) ?_
        refine rz_i (RT := Nat → Nat → Nat) (PR := fun _ => True) (rv := fun _ => 2) (W1 := fun hd1 => (wT g ha tv ++ wQ g (ha 1) (u.1.2.1) ++ wH g (ha 4) hd1 (u.1.2.2) ++ [(oa, .inl (gC g 3, 1, .inr (.inl ol)))])) u.2 trivial rfl hx hb hrt hlk rfl hK hP hD hS ?_ ?_ dL_setStone_22 <;> exact Nat.le_of_ble_eq_true rfl
      · have hf := jbF hf h1
        cases hf
  have ho9 := ho
  subst ho9
  have hf := jbM_r hf
  cases hf
  refine lv_i2l (v := (u.1.1).toInt64) hx hb dL_setStone_10 rfl ?_
  have hP9 : va_P (gD g) vwCl ([(oa, .inl (gC g 3, 1, .inr (.inl ol)))] ++ (wT g ha tv ++ wQ g (ha 1) (u.1.2.1) ++ wH g (ha 4) u.2 (u.1.2.2))) _ := wp_P (wp_of fun f => by simp only [List.countP_append, List.countP_cons, List.countP_nil] <;> omega) hP
  have hD9 : va_D A ([(oa, .inl (gC g 3, 1, .inr (.inl ol)))] ++ (wT g ha tv ++ wQ g (ha 1) (u.1.2.1) ++ wH g (ha 4) u.2 (u.1.2.2))) := wp_D (wp_of fun f => by simp only [List.countP_append, List.countP_cons, List.countP_nil] <;> omega) hD
  refine va_last hx hb hK hP9 hD9 hS 0 3 rfl rfl (i := 0) (x := (u.1.1).toInt64) vp_in01 dL_setStone_11 (fun H locs hP hD hS => ?_)
  have hP : va_P (gD g) vwCl (wT g ha tv ++ wQ g (ha 1) (u.1.2.1) ++ wH g (ha 4) u.2 (u.1.2.2) ++ [(oa, .inl (gC g 3, 1, .inr (.inl (vp_updL ol (0 : Int32).toNatClampNeg (u.1.1).toInt64))))]) H := wp_P (a := [(oa, .inl (gC g 3, 1, .inr (.inl (vp_updL ol (0 : Int32).toNatClampNeg (u.1.1).toInt64))))] ++ (wT g ha tv ++ wQ g (ha 1) (u.1.2.1) ++ wH g (ha 4) u.2 (u.1.2.2))) (wp_of fun f => by simp only [List.countP_append, List.countP_cons, List.countP_nil] <;> omega) hP
  have hD : va_D A (wT g ha tv ++ wQ g (ha 1) (u.1.2.1) ++ wH g (ha 4) u.2 (u.1.2.2) ++ [(oa, .inl (gC g 3, 1, .inr (.inl (vp_updL ol (0 : Int32).toNatClampNeg (u.1.1).toInt64))))]) := wp_D (a := [(oa, .inl (gC g 3, 1, .inr (.inl (vp_updL ol (0 : Int32).toNatClampNeg (u.1.1).toInt64))))] ++ (wT g ha tv ++ wQ g (ha 1) (u.1.2.1) ++ wH g (ha 4) u.2 (u.1.2.2))) (wp_of fun f => by simp only [List.countP_append, List.countP_cons, List.countP_nil] <;> omega) hD
  refine lv_goto (tgt := 23) hx hb dL_setStone_12 (by decide) ?_
  refine lv_iconst (v := 0) hx hb dL_setStone_23 (by decide) ?_
  refine rz_i (RT := Nat → Nat → Nat) (PR := fun _ => True) (rv := fun _ => 0) (W1 := fun hd1 => (wT g ha tv ++ wQ g (ha 1) (u.1.2.1) ++ wH g (ha 4) hd1 (u.1.2.2) ++ [(oa, .inl (gC g 3, 1, .inr (.inl (vp_updL ol (0 : Int32).toNatClampNeg (u.1.1).toInt64))))])) u.2 trivial rfl hx hb hrt hlk rfl hK hP hD hS ?_ ?_ dL_setStone_24 <;> exact Nat.le_of_ble_eq_true rfl
def f_L_cut (tv : TV) (qv : QV) (hv : HV) (a0 : Int32) (a1 : Int32) (ol : Nat → Int64) : Option (Int32 × (Nat → Int64) × QV × HV) :=
  (f_X10_cut tv qv hv a0 a1).bind fun o => jbM o (fun x => if (x.1) = 0 then some (1, ol, (x.2.1), (x.2.2)) else if (x.1) = 3 then some (2, ol, (x.2.1), (x.2.2)) else if (x.1) = 4 then some (3, ol, (x.2.1), (x.2.2)) else none) (fun y => some (0, (vp_updL ol (0 : Int32).toNatClampNeg (y.1).toInt64), (y.2.1), (y.2.2)))
def rm_L_cut : Room := { frames := 10, cells := 11, slots := 244, locals := 162 }
theorem hd_L_cut : yL_cut.cls = RL ∧ yL_cut.cls ≠ "java/lang/invoke/MethodHandle" ∧ yL_cut.cls ≠ "java/lang/invoke/VarHandle" ∧ (parseMethodDescriptor yL_cut.desc).map (fun d => d.parameters.length) = some 4 := by decide +kernel
set_option maxHeartbeats 4000000 in
set_option maxRecDepth 100000 in
theorem c_L_cut (l : Launch) (hlt : l.stackTraces = false) (g : GG) (ha : Nat → Nat → Nat) (hd : Nat → Nat → Nat) (tv : TV) (qv : QV) (hv : HV) (a0 : Int32) (a1 : Int32) (oa : Nat) (ol : Nat → Int64) (out : Int32 × (Nat → Int64) × QV × HV) (hf : f_L_cut tv qv hv a0 a1 ol = some out) : MzI (RT := Nat → Nat → Nat) l yL_cut wsL_cut rm_L_cut g (wT g ha tv ++ wQ g (ha 1) qv ++ wH g (ha 4) hd hv ++ [(oa, .inl (gC g 3, 1, .inr (.inl ol)))]) [.ref (ha 0 0), .int a0, .int a1, .ref oa] (fun _ => True) (fun _ => (out.1)) (fun hd1 => (wT g ha tv ++ wQ g (ha 1) (out.2.2.1) ++ wH g (ha 4) hd1 (out.2.2.2) ++ [(oa, .inl (gC g 3, 1, .inr (.inl (out.2.1))))])) 11 244 := by
  refine fun sz => mh_of (hh := [(0, 10, 13, 13), (0, 10, 17, 21), (0, 10, 21, 23)]) (cc := cL_cut) (maxL := 5) (ret := (some .int)) (own := RL) (Qc := fun A => va_Qi (fun r (hd1 : Nat → Nat → Nat) => True ∧ r = (out.1)) (fun hd1 t => PosM g A (wT g ha tv ++ wQ g (ha 1) (out.2.2.1) ++ wH g (ha 4) hd1 (out.2.2.2) ++ [(oa, .inl (gC g 3, 1, .inr (.inl (out.2.1))))]) t) A) (by decide +kernel) rfl rfl (Nat.le_of_ble_eq_true rfl) ?_ sz
  intro p e s mi below meth c A ls hB htb hrt hlk hP hD hl
  obtain ⟨hx, hb, hml, hown, hts, hK, hZ, hT, hA, -⟩ := hB
  have hS : va_S A s.heap s.heap [] := va_S.rf
  have hl : lv_has ls 5 [(0, .ref (ha 0 0)), (1, .int a0), (2, .int a1), (3, .ref oa)] := hl
  have kk0 := hts (.classLink RL 13 "java/lang/IndexOutOfBoundsException") (by decide +kernel)
  have kk1 := hts (.classLink RL 21 "java/lang/IllegalStateException") (by decide +kernel)
  have kk2 := hts (.classLink RL 23 "java/lang/UnsupportedOperationException") (by decide +kernel)
  unfold f_L_cut at hf
  obtain ⟨o, hg, hf⟩ := jbB_e hf
  refine lv_aload_n hx hb dL_cut_0 rfl (lv_at hl 3 rfl) ?_
  refine lv_iconst (v := 0) hx hb dL_cut_1 (by decide) ?_
  refine lv_aload_n hx hb dL_cut_2 rfl (lv_at hl 0 rfl) ?_
  refine lv_iload_n hx hb dL_cut_3 rfl (lv_at hl 1 rfl) ?_
  refine lv_iload_n hx hb dL_cut_4 rfl (lv_at hl 2 rfl) ?_
  refine cypv_i (As := [.int a0, .int a1]) (rest := [.int 0, .ref oa]) (Wr := [(oa, .inl (gC g 3, 1, .inr (.inl ol)))]) (Wn := fun u => (wT g ha tv ++ wQ g (ha 1) (u.1.2.1) ++ wH g (ha 4) u.2 (u.1.2.2) ++ [(oa, .inl (gC g 3, 1, .inr (.inl ol)))])) (WnX := fun u => (wT g ha tv ++ wQ g (ha 1) (u.1.2.1) ++ wH g (ha 4) u.2 (u.1.2.2) ++ [(oa, .inl (gC g 3, 1, .inr (.inl ol)))])) ⟨hx, hb, hml, hown, hts⟩ (c_X10_cut l hlt g ha hd tv qv hv a0 a1 _ hg) (cwV 2 hts gL_cut_X10_cut rfl rfl rfl hd_X10_cut ⟨(Nat.le_of_ble_eq_true rfl), (Nat.le_of_ble_eq_true rfl)⟩) hK hZ hT hA hP hD hS hl.1 (va_recv hK hP (ci := 9) (q0 := 0) rfl rfl) (wp_of fun f => by simp only [List.countP_append, List.countP_cons, List.countP_nil] <;> omega) (fun _ => (wp_of fun f => by simp only [List.countP_append, List.countP_cons, List.countP_nil] <;> omega)) (fun _ => (wp_of fun f => by simp only [List.countP_append, List.countP_cons, List.countP_nil] <;> omega)) rfl rfl (Nat.le_of_ble_eq_true rfl) ⟨(Nat.le_of_ble_eq_true rfl), (Nat.le_of_ble_eq_true rfl)⟩ dL_cut_5 (fun u ce q9 H locs ho hP hD hS hce hcv hcl => ?_) (fun u H locs ho hP hD hS => ?_)
  · have ho9 := ho
    subst ho9
    have hf := jbM_l hf
    by_cases h0 : (u.1.1) = 0
    · have hf := jbT hf h0
      cases hf
      have hcl : s.vm.findClass "java/lang/IndexOutOfBoundsException" = some ce.cls := by rw [h0] at hcl; exact hcl
      refine lx_catch hown hT [] (0, 10, 13, 13) [(0, 10, 17, 21), (0, 10, 21, 23)] htb exN_0 lx_n rfl (by decide) kk0 hce hcv hcl ?_
      refine lv_astore (lv' := [(4, .ref q9), (0, .ref (ha 0 0)), (1, .int a0), (2, .int a1), (3, .ref oa)]) hx hb dL_cut_13 hl (by decide) rfl (fun ls hl => ?_)
      refine lv_iconst (v := 1) hx hb dL_cut_15 (by decide) ?_
      refine rz_i (RT := Nat → Nat → Nat) (PR := fun _ => True) (rv := fun _ => 1) (W1 := fun hd1 => (wT g ha tv ++ wQ g (ha 1) (u.1.2.1) ++ wH g (ha 4) hd1 (u.1.2.2) ++ [(oa, .inl (gC g 3, 1, .inr (.inl ol)))])) u.2 trivial rfl hx hb hrt hlk rfl hK hP hD hS ?_ ?_ dL_cut_16 <;> exact Nat.le_of_ble_eq_true rfl
    · have hf := jbF hf h0
      by_cases h1 : (u.1.1) = 3
      · have hf := jbT hf h1
        cases hf
        have hcl : s.vm.findClass "java/lang/IllegalStateException" = some ce.cls := by rw [h1] at hcl; exact hcl
        refine lx_catch hown hT [(0, 10, 13, 13)] (0, 10, 17, 21) [(0, 10, 21, 23)] htb exN_3 (lx_c (nm := "java/lang/IndexOutOfBoundsException") (by decide) exN_0 (by decide) kk0 lx_n) rfl (by decide) kk1 hce hcv hcl ?_
        refine lv_astore (lv' := [(4, .ref q9), (0, .ref (ha 0 0)), (1, .int a0), (2, .int a1), (3, .ref oa)]) hx hb dL_cut_17 hl (by decide) rfl (fun ls hl => ?_)
        refine lv_iconst (v := 2) hx hb dL_cut_19 (by decide) ?_
        refine rz_i (RT := Nat → Nat → Nat) (PR := fun _ => True) (rv := fun _ => 2) (W1 := fun hd1 => (wT g ha tv ++ wQ g (ha 1) (u.1.2.1) ++ wH g (ha 4) hd1 (u.1.2.2) ++ [(oa, .inl (gC g 3, 1, .inr (.inl ol)))])) u.2 trivial rfl hx hb hrt hlk rfl hK hP hD hS ?_ ?_ dL_cut_20 <;> exact Nat.le_of_ble_eq_true rfl
      · have hf := jbF hf h1
        by_cases h2 : (u.1.1) = 4
        · have hf := jbT hf h2
          cases hf
          have hcl : s.vm.findClass "java/lang/UnsupportedOperationException" = some ce.cls := by rw [h2] at hcl; exact hcl
          refine lx_catch hown hT [(0, 10, 13, 13), (0, 10, 17, 21)] (0, 10, 21, 23) [] htb exN_4 (lx_c (nm := "java/lang/IndexOutOfBoundsException") (by decide) exN_0 (by decide) kk0 (lx_c (nm := "java/lang/IllegalStateException") (by decide) exN_3 (by decide) kk1 lx_n)) rfl (by decide) kk2 hce hcv hcl ?_
          refine lv_astore (lv' := [(4, .ref q9), (0, .ref (ha 0 0)), (1, .int a0), (2, .int a1), (3, .ref oa)]) hx hb dL_cut_21 hl (by decide) rfl (fun ls hl => ?_)
          refine lv_iconst (v := 3) hx hb dL_cut_23 (by decide) ?_
          refine rz_i (RT := Nat → Nat → Nat) (PR := fun _ => True) (rv := fun _ => 3) (W1 := fun hd1 => (wT g ha tv ++ wQ g (ha 1) (u.1.2.1) ++ wH g (ha 4) hd1 (u.1.2.2) ++ [(oa, .inl (gC g 3, 1, .inr (.inl ol)))])) u.2 trivial rfl hx hb hrt hlk rfl hK hP hD hS ?_ ?_ dL_cut_24 <;> exact Nat.le_of_ble_eq_true rfl
        · have hf := jbF hf h2
          cases hf
  have ho9 := ho
  subst ho9
  have hf := jbM_r hf
  cases hf
  refine lv_i2l (v := (u.1.1).toInt64) hx hb dL_cut_8 rfl ?_
  have hP9 : va_P (gD g) vwCl ([(oa, .inl (gC g 3, 1, .inr (.inl ol)))] ++ (wT g ha tv ++ wQ g (ha 1) (u.1.2.1) ++ wH g (ha 4) u.2 (u.1.2.2))) _ := wp_P (wp_of fun f => by simp only [List.countP_append, List.countP_cons, List.countP_nil] <;> omega) hP
  have hD9 : va_D A ([(oa, .inl (gC g 3, 1, .inr (.inl ol)))] ++ (wT g ha tv ++ wQ g (ha 1) (u.1.2.1) ++ wH g (ha 4) u.2 (u.1.2.2))) := wp_D (wp_of fun f => by simp only [List.countP_append, List.countP_cons, List.countP_nil] <;> omega) hD
  refine va_last hx hb hK hP9 hD9 hS 0 3 rfl rfl (i := 0) (x := (u.1.1).toInt64) vp_in01 dL_cut_9 (fun H locs hP hD hS => ?_)
  have hP : va_P (gD g) vwCl (wT g ha tv ++ wQ g (ha 1) (u.1.2.1) ++ wH g (ha 4) u.2 (u.1.2.2) ++ [(oa, .inl (gC g 3, 1, .inr (.inl (vp_updL ol (0 : Int32).toNatClampNeg (u.1.1).toInt64))))]) H := wp_P (a := [(oa, .inl (gC g 3, 1, .inr (.inl (vp_updL ol (0 : Int32).toNatClampNeg (u.1.1).toInt64))))] ++ (wT g ha tv ++ wQ g (ha 1) (u.1.2.1) ++ wH g (ha 4) u.2 (u.1.2.2))) (wp_of fun f => by simp only [List.countP_append, List.countP_cons, List.countP_nil] <;> omega) hP
  have hD : va_D A (wT g ha tv ++ wQ g (ha 1) (u.1.2.1) ++ wH g (ha 4) u.2 (u.1.2.2) ++ [(oa, .inl (gC g 3, 1, .inr (.inl (vp_updL ol (0 : Int32).toNatClampNeg (u.1.1).toInt64))))]) := wp_D (a := [(oa, .inl (gC g 3, 1, .inr (.inl (vp_updL ol (0 : Int32).toNatClampNeg (u.1.1).toInt64))))] ++ (wT g ha tv ++ wQ g (ha 1) (u.1.2.1) ++ wH g (ha 4) u.2 (u.1.2.2))) (wp_of fun f => by simp only [List.countP_append, List.countP_cons, List.countP_nil] <;> omega) hD
  refine lv_goto (tgt := 25) hx hb dL_cut_10 (by decide) ?_
  refine lv_iconst (v := 0) hx hb dL_cut_25 (by decide) ?_
  refine rz_i (RT := Nat → Nat → Nat) (PR := fun _ => True) (rv := fun _ => 0) (W1 := fun hd1 => (wT g ha tv ++ wQ g (ha 1) (u.1.2.1) ++ wH g (ha 4) hd1 (u.1.2.2) ++ [(oa, .inl (gC g 3, 1, .inr (.inl (vp_updL ol (0 : Int32).toNatClampNeg (u.1.1).toInt64))))])) u.2 trivial rfl hx hb hrt hlk rfl hK hP hD hS ?_ ?_ dL_cut_26 <;> exact Nat.le_of_ble_eq_true rfl
def f_L_fill (tv : TV) (qv : QV) (hv : HV) (a0 : Int32) (a1 : Int32) (ol : Nat → Int64) : Option (Int32 × (Nat → Int64) × QV × HV) :=
  (f_X10_fill tv qv hv a0 a1).bind fun o => jbM o (fun x => if (x.1) = 0 then some (1, ol, (x.2.1), (x.2.2)) else if (x.1) = 3 then some (2, ol, (x.2.1), (x.2.2)) else if (x.1) = 4 then some (3, ol, (x.2.1), (x.2.2)) else none) (fun y => some (0, (vp_updL ol (0 : Int32).toNatClampNeg (y.1).toInt64), (y.2.1), (y.2.2)))
def rm_L_fill : Room := { frames := 10, cells := 11, slots := 244, locals := 162 }
theorem hd_L_fill : yL_fill.cls = RL ∧ yL_fill.cls ≠ "java/lang/invoke/MethodHandle" ∧ yL_fill.cls ≠ "java/lang/invoke/VarHandle" ∧ (parseMethodDescriptor yL_fill.desc).map (fun d => d.parameters.length) = some 4 := by decide +kernel
set_option maxHeartbeats 4000000 in
set_option maxRecDepth 100000 in
theorem c_L_fill (l : Launch) (hlt : l.stackTraces = false) (g : GG) (ha : Nat → Nat → Nat) (hd : Nat → Nat → Nat) (tv : TV) (qv : QV) (hv : HV) (a0 : Int32) (a1 : Int32) (oa : Nat) (ol : Nat → Int64) (out : Int32 × (Nat → Int64) × QV × HV) (hf : f_L_fill tv qv hv a0 a1 ol = some out) : MzI (RT := Nat → Nat → Nat) l yL_fill wsL_fill rm_L_fill g (wT g ha tv ++ wQ g (ha 1) qv ++ wH g (ha 4) hd hv ++ [(oa, .inl (gC g 3, 1, .inr (.inl ol)))]) [.ref (ha 0 0), .int a0, .int a1, .ref oa] (fun _ => True) (fun _ => (out.1)) (fun hd1 => (wT g ha tv ++ wQ g (ha 1) (out.2.2.1) ++ wH g (ha 4) hd1 (out.2.2.2) ++ [(oa, .inl (gC g 3, 1, .inr (.inl (out.2.1))))])) 11 244 := by
  refine fun sz => mh_of (hh := [(0, 10, 13, 13), (0, 10, 17, 21), (0, 10, 21, 23)]) (cc := cL_fill) (maxL := 5) (ret := (some .int)) (own := RL) (Qc := fun A => va_Qi (fun r (hd1 : Nat → Nat → Nat) => True ∧ r = (out.1)) (fun hd1 t => PosM g A (wT g ha tv ++ wQ g (ha 1) (out.2.2.1) ++ wH g (ha 4) hd1 (out.2.2.2) ++ [(oa, .inl (gC g 3, 1, .inr (.inl (out.2.1))))]) t) A) (by decide +kernel) rfl rfl (Nat.le_of_ble_eq_true rfl) ?_ sz
  intro p e s mi below meth c A ls hB htb hrt hlk hP hD hl
  obtain ⟨hx, hb, hml, hown, hts, hK, hZ, hT, hA, -⟩ := hB
  have hS : va_S A s.heap s.heap [] := va_S.rf
  have hl : lv_has ls 5 [(0, .ref (ha 0 0)), (1, .int a0), (2, .int a1), (3, .ref oa)] := hl
  have kk0 := hts (.classLink RL 13 "java/lang/IndexOutOfBoundsException") (by decide +kernel)
  have kk1 := hts (.classLink RL 21 "java/lang/IllegalStateException") (by decide +kernel)
  have kk2 := hts (.classLink RL 23 "java/lang/UnsupportedOperationException") (by decide +kernel)
  unfold f_L_fill at hf
  obtain ⟨o, hg, hf⟩ := jbB_e hf
  refine lv_aload_n hx hb dL_fill_0 rfl (lv_at hl 3 rfl) ?_
  refine lv_iconst (v := 0) hx hb dL_fill_1 (by decide) ?_
  refine lv_aload_n hx hb dL_fill_2 rfl (lv_at hl 0 rfl) ?_
  refine lv_iload_n hx hb dL_fill_3 rfl (lv_at hl 1 rfl) ?_
  refine lv_iload_n hx hb dL_fill_4 rfl (lv_at hl 2 rfl) ?_
  refine cypv_i (As := [.int a0, .int a1]) (rest := [.int 0, .ref oa]) (Wr := [(oa, .inl (gC g 3, 1, .inr (.inl ol)))]) (Wn := fun u => (wT g ha tv ++ wQ g (ha 1) (u.1.2.1) ++ wH g (ha 4) u.2 (u.1.2.2) ++ [(oa, .inl (gC g 3, 1, .inr (.inl ol)))])) (WnX := fun u => (wT g ha tv ++ wQ g (ha 1) (u.1.2.1) ++ wH g (ha 4) u.2 (u.1.2.2) ++ [(oa, .inl (gC g 3, 1, .inr (.inl ol)))])) ⟨hx, hb, hml, hown, hts⟩ (c_X10_fill l hlt g ha hd tv qv hv a0 a1 _ hg) (cwV 2 hts gL_fill_X10_fill rfl rfl rfl hd_X10_fill ⟨(Nat.le_of_ble_eq_true rfl), (Nat.le_of_ble_eq_true rfl)⟩) hK hZ hT hA hP hD hS hl.1 (va_recv hK hP (ci := 9) (q0 := 0) rfl rfl) (wp_of fun f => by simp only [List.countP_append, List.countP_cons, List.countP_nil] <;> omega) (fun _ => (wp_of fun f => by simp only [List.countP_append, List.countP_cons, List.countP_nil] <;> omega)) (fun _ => (wp_of fun f => by simp only [List.countP_append, List.countP_cons, List.countP_nil] <;> omega)) rfl rfl (Nat.le_of_ble_eq_true rfl) ⟨(Nat.le_of_ble_eq_true rfl), (Nat.le_of_ble_eq_true rfl)⟩ dL_fill_5 (fun u ce q9 H locs ho hP hD hS hce hcv hcl => ?_) (fun u H locs ho hP hD hS => ?_)
  · have ho9 := ho
    subst ho9
    have hf := jbM_l hf
    by_cases h0 : (u.1.1) = 0
    · have hf := jbT hf h0
      cases hf
      have hcl : s.vm.findClass "java/lang/IndexOutOfBoundsException" = some ce.cls := by rw [h0] at hcl; exact hcl
      refine lx_catch hown hT [] (0, 10, 13, 13) [(0, 10, 17, 21), (0, 10, 21, 23)] htb exN_0 lx_n rfl (by decide) kk0 hce hcv hcl ?_
      refine lv_astore (lv' := [(4, .ref q9), (0, .ref (ha 0 0)), (1, .int a0), (2, .int a1), (3, .ref oa)]) hx hb dL_fill_13 hl (by decide) rfl (fun ls hl => ?_)
      refine lv_iconst (v := 1) hx hb dL_fill_15 (by decide) ?_
      refine rz_i (RT := Nat → Nat → Nat) (PR := fun _ => True) (rv := fun _ => 1) (W1 := fun hd1 => (wT g ha tv ++ wQ g (ha 1) (u.1.2.1) ++ wH g (ha 4) hd1 (u.1.2.2) ++ [(oa, .inl (gC g 3, 1, .inr (.inl ol)))])) u.2 trivial rfl hx hb hrt hlk rfl hK hP hD hS ?_ ?_ dL_fill_16 <;> exact Nat.le_of_ble_eq_true rfl
    · have hf := jbF hf h0
      by_cases h1 : (u.1.1) = 3
      · have hf := jbT hf h1
        cases hf
        have hcl : s.vm.findClass "java/lang/IllegalStateException" = some ce.cls := by rw [h1] at hcl; exact hcl
        refine lx_catch hown hT [(0, 10, 13, 13)] (0, 10, 17, 21) [(0, 10, 21, 23)] htb exN_3 (lx_c (nm := "java/lang/IndexOutOfBoundsException") (by decide) exN_0 (by decide) kk0 lx_n) rfl (by decide) kk1 hce hcv hcl ?_
        refine lv_astore (lv' := [(4, .ref q9), (0, .ref (ha 0 0)), (1, .int a0), (2, .int a1), (3, .ref oa)]) hx hb dL_fill_17 hl (by decide) rfl (fun ls hl => ?_)
        refine lv_iconst (v := 2) hx hb dL_fill_19 (by decide) ?_
        refine rz_i (RT := Nat → Nat → Nat) (PR := fun _ => True) (rv := fun _ => 2) (W1 := fun hd1 => (wT g ha tv ++ wQ g (ha 1) (u.1.2.1) ++ wH g (ha 4) hd1 (u.1.2.2) ++ [(oa, .inl (gC g 3, 1, .inr (.inl ol)))])) u.2 trivial rfl hx hb hrt hlk rfl hK hP hD hS ?_ ?_ dL_fill_20 <;> exact Nat.le_of_ble_eq_true rfl
      · have hf := jbF hf h1
        by_cases h2 : (u.1.1) = 4
        · have hf := jbT hf h2
          cases hf
          have hcl : s.vm.findClass "java/lang/UnsupportedOperationException" = some ce.cls := by rw [h2] at hcl; exact hcl
          refine lx_catch hown hT [(0, 10, 13, 13), (0, 10, 17, 21)] (0, 10, 21, 23) [] htb exN_4 (lx_c (nm := "java/lang/IndexOutOfBoundsException") (by decide) exN_0 (by decide) kk0 (lx_c (nm := "java/lang/IllegalStateException") (by decide) exN_3 (by decide) kk1 lx_n)) rfl (by decide) kk2 hce hcv hcl ?_
          refine lv_astore (lv' := [(4, .ref q9), (0, .ref (ha 0 0)), (1, .int a0), (2, .int a1), (3, .ref oa)]) hx hb dL_fill_21 hl (by decide) rfl (fun ls hl => ?_)
          refine lv_iconst (v := 3) hx hb dL_fill_23 (by decide) ?_
          refine rz_i (RT := Nat → Nat → Nat) (PR := fun _ => True) (rv := fun _ => 3) (W1 := fun hd1 => (wT g ha tv ++ wQ g (ha 1) (u.1.2.1) ++ wH g (ha 4) hd1 (u.1.2.2) ++ [(oa, .inl (gC g 3, 1, .inr (.inl ol)))])) u.2 trivial rfl hx hb hrt hlk rfl hK hP hD hS ?_ ?_ dL_fill_24 <;> exact Nat.le_of_ble_eq_true rfl
        · have hf := jbF hf h2
          cases hf
  have ho9 := ho
  subst ho9
  have hf := jbM_r hf
  cases hf
  refine lv_i2l (v := (u.1.1).toInt64) hx hb dL_fill_8 rfl ?_
  have hP9 : va_P (gD g) vwCl ([(oa, .inl (gC g 3, 1, .inr (.inl ol)))] ++ (wT g ha tv ++ wQ g (ha 1) (u.1.2.1) ++ wH g (ha 4) u.2 (u.1.2.2))) _ := wp_P (wp_of fun f => by simp only [List.countP_append, List.countP_cons, List.countP_nil] <;> omega) hP
  have hD9 : va_D A ([(oa, .inl (gC g 3, 1, .inr (.inl ol)))] ++ (wT g ha tv ++ wQ g (ha 1) (u.1.2.1) ++ wH g (ha 4) u.2 (u.1.2.2))) := wp_D (wp_of fun f => by simp only [List.countP_append, List.countP_cons, List.countP_nil] <;> omega) hD
  refine va_last hx hb hK hP9 hD9 hS 0 3 rfl rfl (i := 0) (x := (u.1.1).toInt64) vp_in01 dL_fill_9 (fun H locs hP hD hS => ?_)
  have hP : va_P (gD g) vwCl (wT g ha tv ++ wQ g (ha 1) (u.1.2.1) ++ wH g (ha 4) u.2 (u.1.2.2) ++ [(oa, .inl (gC g 3, 1, .inr (.inl (vp_updL ol (0 : Int32).toNatClampNeg (u.1.1).toInt64))))]) H := wp_P (a := [(oa, .inl (gC g 3, 1, .inr (.inl (vp_updL ol (0 : Int32).toNatClampNeg (u.1.1).toInt64))))] ++ (wT g ha tv ++ wQ g (ha 1) (u.1.2.1) ++ wH g (ha 4) u.2 (u.1.2.2))) (wp_of fun f => by simp only [List.countP_append, List.countP_cons, List.countP_nil] <;> omega) hP
  have hD : va_D A (wT g ha tv ++ wQ g (ha 1) (u.1.2.1) ++ wH g (ha 4) u.2 (u.1.2.2) ++ [(oa, .inl (gC g 3, 1, .inr (.inl (vp_updL ol (0 : Int32).toNatClampNeg (u.1.1).toInt64))))]) := wp_D (a := [(oa, .inl (gC g 3, 1, .inr (.inl (vp_updL ol (0 : Int32).toNatClampNeg (u.1.1).toInt64))))] ++ (wT g ha tv ++ wQ g (ha 1) (u.1.2.1) ++ wH g (ha 4) u.2 (u.1.2.2))) (wp_of fun f => by simp only [List.countP_append, List.countP_cons, List.countP_nil] <;> omega) hD
  refine lv_goto (tgt := 25) hx hb dL_fill_10 (by decide) ?_
  refine lv_iconst (v := 0) hx hb dL_fill_25 (by decide) ?_
  refine rz_i (RT := Nat → Nat → Nat) (PR := fun _ => True) (rv := fun _ => 0) (W1 := fun hd1 => (wT g ha tv ++ wQ g (ha 1) (u.1.2.1) ++ wH g (ha 4) hd1 (u.1.2.2) ++ [(oa, .inl (gC g 3, 1, .inr (.inl (vp_updL ol (0 : Int32).toNatClampNeg (u.1.1).toInt64))))])) u.2 trivial rfl hx hb hrt hlk rfl hK hP hD hS ?_ ?_ dL_fill_26 <;> exact Nat.le_of_ble_eq_true rfl
def f_L_toggleLedge (tv : TV) (qv : QV) (hv : HV) (a0 : Int32) (a1 : Int32) (ol : Nat → Int64) : Option (Int32 × (Nat → Int64) × QV × HV) :=
  (f_X10_toggleLedge tv qv hv a0 a1).bind fun o => jbM o (fun x => if (x.1) = 0 then some (1, ol, (x.2.1), (x.2.2)) else none) (fun y => if (y.1) = 0 then some (0, (vp_updL ol (0 : Int32).toNatClampNeg 0), (y.2.1), (y.2.2)) else some (0, (vp_updL ol (0 : Int32).toNatClampNeg 1), (y.2.1), (y.2.2)))
def rm_L_toggleLedge : Room := { frames := 10, cells := 11, slots := 244, locals := 162 }
theorem hd_L_toggleLedge : yL_toggleLedge.cls = RL ∧ yL_toggleLedge.cls ≠ "java/lang/invoke/MethodHandle" ∧ yL_toggleLedge.cls ≠ "java/lang/invoke/VarHandle" ∧ (parseMethodDescriptor yL_toggleLedge.desc).map (fun d => d.parameters.length) = some 4 := by decide +kernel
set_option maxHeartbeats 4000000 in
set_option maxRecDepth 100000 in
theorem c_L_toggleLedge (l : Launch) (hlt : l.stackTraces = false) (g : GG) (ha : Nat → Nat → Nat) (hd : Nat → Nat → Nat) (tv : TV) (qv : QV) (hv : HV) (a0 : Int32) (a1 : Int32) (oa : Nat) (ol : Nat → Int64) (out : Int32 × (Nat → Int64) × QV × HV) (hf : f_L_toggleLedge tv qv hv a0 a1 ol = some out) : MzI (RT := Nat → Nat → Nat) l yL_toggleLedge wsL_toggleLedge rm_L_toggleLedge g (wT g ha tv ++ wQ g (ha 1) qv ++ wH g (ha 4) hd hv ++ [(oa, .inl (gC g 3, 1, .inr (.inl ol)))]) [.ref (ha 0 0), .int a0, .int a1, .ref oa] (fun _ => True) (fun _ => (out.1)) (fun hd1 => (wT g ha tv ++ wQ g (ha 1) (out.2.2.1) ++ wH g (ha 4) hd1 (out.2.2.2) ++ [(oa, .inl (gC g 3, 1, .inr (.inl (out.2.1))))])) 11 244 := by
  refine fun sz => mh_of (hh := [(0, 17, 20, 13)]) (cc := cL_toggleLedge) (maxL := 5) (ret := (some .int)) (own := RL) (Qc := fun A => va_Qi (fun r (hd1 : Nat → Nat → Nat) => True ∧ r = (out.1)) (fun hd1 t => PosM g A (wT g ha tv ++ wQ g (ha 1) (out.2.2.1) ++ wH g (ha 4) hd1 (out.2.2.2) ++ [(oa, .inl (gC g 3, 1, .inr (.inl (out.2.1))))]) t) A) (by decide +kernel) rfl rfl (Nat.le_of_ble_eq_true rfl) ?_ sz
  intro p e s mi below meth c A ls hB htb hrt hlk hP hD hl
  obtain ⟨hx, hb, hml, hown, hts, hK, hZ, hT, hA, -⟩ := hB
  have hS : va_S A s.heap s.heap [] := va_S.rf
  have hl : lv_has ls 5 [(0, .ref (ha 0 0)), (1, .int a0), (2, .int a1), (3, .ref oa)] := hl
  have kk0 := hts (.classLink RL 13 "java/lang/IndexOutOfBoundsException") (by decide +kernel)
  unfold f_L_toggleLedge at hf
  obtain ⟨o, hg, hf⟩ := jbB_e hf
  refine lv_aload_n hx hb dL_toggleLedge_0 rfl (lv_at hl 3 rfl) ?_
  refine lv_iconst (v := 0) hx hb dL_toggleLedge_1 (by decide) ?_
  refine lv_aload_n hx hb dL_toggleLedge_2 rfl (lv_at hl 0 rfl) ?_
  refine lv_iload_n hx hb dL_toggleLedge_3 rfl (lv_at hl 1 rfl) ?_
  refine lv_iload_n hx hb dL_toggleLedge_4 rfl (lv_at hl 2 rfl) ?_
  refine cypv_i (As := [.int a0, .int a1]) (rest := [.int 0, .ref oa]) (Wr := [(oa, .inl (gC g 3, 1, .inr (.inl ol)))]) (Wn := fun u => (wT g ha tv ++ wQ g (ha 1) (u.1.2.1) ++ wH g (ha 4) u.2 (u.1.2.2) ++ [(oa, .inl (gC g 3, 1, .inr (.inl ol)))])) (WnX := fun u => (wT g ha tv ++ wQ g (ha 1) (u.1.2.1) ++ wH g (ha 4) u.2 (u.1.2.2) ++ [(oa, .inl (gC g 3, 1, .inr (.inl ol)))])) ⟨hx, hb, hml, hown, hts⟩ (c_X10_toggleLedge l hlt g ha hd tv qv hv a0 a1 _ hg) (cwV 2 hts gL_toggleLedge_X10_toggleLedge rfl rfl rfl hd_X10_toggleLedge ⟨(Nat.le_of_ble_eq_true rfl), (Nat.le_of_ble_eq_true rfl)⟩) hK hZ hT hA hP hD hS hl.1 (va_recv hK hP (ci := 9) (q0 := 0) rfl rfl) (wp_of fun f => by simp only [List.countP_append, List.countP_cons, List.countP_nil] <;> omega) (fun _ => (wp_of fun f => by simp only [List.countP_append, List.countP_cons, List.countP_nil] <;> omega)) (fun _ => (wp_of fun f => by simp only [List.countP_append, List.countP_cons, List.countP_nil] <;> omega)) rfl rfl (Nat.le_of_ble_eq_true rfl) ⟨(Nat.le_of_ble_eq_true rfl), (Nat.le_of_ble_eq_true rfl)⟩ dL_toggleLedge_5 (fun u ce q9 H locs ho hP hD hS hce hcv hcl => ?_) (fun u H locs ho hP hD hS => ?_)
  · have ho9 := ho
    subst ho9
    have hf := jbM_l hf
    by_cases h0 : (u.1.1) = 0
    · have hf := jbT hf h0
      cases hf
      have hcl : s.vm.findClass "java/lang/IndexOutOfBoundsException" = some ce.cls := by rw [h0] at hcl; exact hcl
      refine lx_catch hown hT [] (0, 17, 20, 13) [] htb exN_0 lx_n rfl (by decide) kk0 hce hcv hcl ?_
      refine lv_astore (lv' := [(4, .ref q9), (0, .ref (ha 0 0)), (1, .int a0), (2, .int a1), (3, .ref oa)]) hx hb dL_toggleLedge_20 hl (by decide) rfl (fun ls hl => ?_)
      refine lv_iconst (v := 1) hx hb dL_toggleLedge_22 (by decide) ?_
      refine rz_i (RT := Nat → Nat → Nat) (PR := fun _ => True) (rv := fun _ => 1) (W1 := fun hd1 => (wT g ha tv ++ wQ g (ha 1) (u.1.2.1) ++ wH g (ha 4) hd1 (u.1.2.2) ++ [(oa, .inl (gC g 3, 1, .inr (.inl ol)))])) u.2 trivial rfl hx hb hrt hlk rfl hK hP hD hS ?_ ?_ dL_toggleLedge_23 <;> exact Nat.le_of_ble_eq_true rfl
    · have hf := jbF hf h0
      cases hf
  have ho9 := ho
  subst ho9
  have hf := jbM_r hf
  refine lv_if_eq (tgt := 15) hx hb dL_toggleLedge_8 (by decide) (fun hc => ?_) (fun hc => ?_)
  · have hf := jbT hf hc
    cases hf
    refine lv_lconst (v := 0) hx hb dL_toggleLedge_15 (by decide) ?_
    have hP9 : va_P (gD g) vwCl ([(oa, .inl (gC g 3, 1, .inr (.inl ol)))] ++ (wT g ha tv ++ wQ g (ha 1) (u.1.2.1) ++ wH g (ha 4) u.2 (u.1.2.2))) _ := wp_P (wp_of fun f => by simp only [List.countP_append, List.countP_cons, List.countP_nil] <;> omega) hP
    have hD9 : va_D A ([(oa, .inl (gC g 3, 1, .inr (.inl ol)))] ++ (wT g ha tv ++ wQ g (ha 1) (u.1.2.1) ++ wH g (ha 4) u.2 (u.1.2.2))) := wp_D (wp_of fun f => by simp only [List.countP_append, List.countP_cons, List.countP_nil] <;> omega) hD
    refine va_last hx hb hK hP9 hD9 hS 0 3 rfl rfl (i := 0) (x := 0) vp_in01 dL_toggleLedge_16 (fun H locs hP hD hS => ?_)
    have hP : va_P (gD g) vwCl (wT g ha tv ++ wQ g (ha 1) (u.1.2.1) ++ wH g (ha 4) u.2 (u.1.2.2) ++ [(oa, .inl (gC g 3, 1, .inr (.inl (vp_updL ol (0 : Int32).toNatClampNeg 0))))]) H := wp_P (a := [(oa, .inl (gC g 3, 1, .inr (.inl (vp_updL ol (0 : Int32).toNatClampNeg 0))))] ++ (wT g ha tv ++ wQ g (ha 1) (u.1.2.1) ++ wH g (ha 4) u.2 (u.1.2.2))) (wp_of fun f => by simp only [List.countP_append, List.countP_cons, List.countP_nil] <;> omega) hP
    have hD : va_D A (wT g ha tv ++ wQ g (ha 1) (u.1.2.1) ++ wH g (ha 4) u.2 (u.1.2.2) ++ [(oa, .inl (gC g 3, 1, .inr (.inl (vp_updL ol (0 : Int32).toNatClampNeg 0))))]) := wp_D (a := [(oa, .inl (gC g 3, 1, .inr (.inl (vp_updL ol (0 : Int32).toNatClampNeg 0))))] ++ (wT g ha tv ++ wQ g (ha 1) (u.1.2.1) ++ wH g (ha 4) u.2 (u.1.2.2))) (wp_of fun f => by simp only [List.countP_append, List.countP_cons, List.countP_nil] <;> omega) hD
    refine lv_goto (tgt := 24) hx hb dL_toggleLedge_17 (by decide) ?_
    refine lv_iconst (v := 0) hx hb dL_toggleLedge_24 (by decide) ?_
    refine rz_i (RT := Nat → Nat → Nat) (PR := fun _ => True) (rv := fun _ => 0) (W1 := fun hd1 => (wT g ha tv ++ wQ g (ha 1) (u.1.2.1) ++ wH g (ha 4) hd1 (u.1.2.2) ++ [(oa, .inl (gC g 3, 1, .inr (.inl (vp_updL ol (0 : Int32).toNatClampNeg 0))))])) u.2 trivial rfl hx hb hrt hlk rfl hK hP hD hS ?_ ?_ dL_toggleLedge_25 <;> exact Nat.le_of_ble_eq_true rfl
  · have hf := jbF hf hc
    cases hf
    refine lv_lconst (v := 1) hx hb dL_toggleLedge_11 (by decide) ?_
    refine lv_goto (tgt := 16) hx hb dL_toggleLedge_12 (by decide) ?_
    have hP9 : va_P (gD g) vwCl ([(oa, .inl (gC g 3, 1, .inr (.inl ol)))] ++ (wT g ha tv ++ wQ g (ha 1) (u.1.2.1) ++ wH g (ha 4) u.2 (u.1.2.2))) _ := wp_P (wp_of fun f => by simp only [List.countP_append, List.countP_cons, List.countP_nil] <;> omega) hP
    have hD9 : va_D A ([(oa, .inl (gC g 3, 1, .inr (.inl ol)))] ++ (wT g ha tv ++ wQ g (ha 1) (u.1.2.1) ++ wH g (ha 4) u.2 (u.1.2.2))) := wp_D (wp_of fun f => by simp only [List.countP_append, List.countP_cons, List.countP_nil] <;> omega) hD
    refine va_last hx hb hK hP9 hD9 hS 0 3 rfl rfl (i := 0) (x := 1) vp_in01 dL_toggleLedge_16 (fun H locs hP hD hS => ?_)
    have hP : va_P (gD g) vwCl (wT g ha tv ++ wQ g (ha 1) (u.1.2.1) ++ wH g (ha 4) u.2 (u.1.2.2) ++ [(oa, .inl (gC g 3, 1, .inr (.inl (vp_updL ol (0 : Int32).toNatClampNeg 1))))]) H := wp_P (a := [(oa, .inl (gC g 3, 1, .inr (.inl (vp_updL ol (0 : Int32).toNatClampNeg 1))))] ++ (wT g ha tv ++ wQ g (ha 1) (u.1.2.1) ++ wH g (ha 4) u.2 (u.1.2.2))) (wp_of fun f => by simp only [List.countP_append, List.countP_cons, List.countP_nil] <;> omega) hP
    have hD : va_D A (wT g ha tv ++ wQ g (ha 1) (u.1.2.1) ++ wH g (ha 4) u.2 (u.1.2.2) ++ [(oa, .inl (gC g 3, 1, .inr (.inl (vp_updL ol (0 : Int32).toNatClampNeg 1))))]) := wp_D (a := [(oa, .inl (gC g 3, 1, .inr (.inl (vp_updL ol (0 : Int32).toNatClampNeg 1))))] ++ (wT g ha tv ++ wQ g (ha 1) (u.1.2.1) ++ wH g (ha 4) u.2 (u.1.2.2))) (wp_of fun f => by simp only [List.countP_append, List.countP_cons, List.countP_nil] <;> omega) hD
    refine lv_goto (tgt := 24) hx hb dL_toggleLedge_17 (by decide) ?_
    refine lv_iconst (v := 0) hx hb dL_toggleLedge_24 (by decide) ?_
    refine rz_i (RT := Nat → Nat → Nat) (PR := fun _ => True) (rv := fun _ => 0) (W1 := fun hd1 => (wT g ha tv ++ wQ g (ha 1) (u.1.2.1) ++ wH g (ha 4) hd1 (u.1.2.2) ++ [(oa, .inl (gC g 3, 1, .inr (.inl (vp_updL ol (0 : Int32).toNatClampNeg 1))))])) u.2 trivial rfl hx hb hrt hlk rfl hK hP hD hS ?_ ?_ dL_toggleLedge_25 <;> exact Nat.le_of_ble_eq_true rfl
def f_L_setStepLimit (tv : TV) (qv : QV) (hv : HV) (a0 : Int32) (ol : Nat → Int64) : Option (Int32 × (Nat → Int64) × QV × HV) :=
  (f_X10_setStepLimit tv qv hv a0).bind fun o => jbM o (fun x => if (x.1) = 1 then some (1, ol, (x.2.1), (x.2.2)) else if (x.1) = 4 then some (2, ol, (x.2.1), (x.2.2)) else none) (fun y => some (0, (vp_updL ol (0 : Int32).toNatClampNeg (y.1).toInt64), (y.2.1), (y.2.2)))
def rm_L_setStepLimit : Room := { frames := 10, cells := 11, slots := 244, locals := 161 }
theorem hd_L_setStepLimit : yL_setStepLimit.cls = RL ∧ yL_setStepLimit.cls ≠ "java/lang/invoke/MethodHandle" ∧ yL_setStepLimit.cls ≠ "java/lang/invoke/VarHandle" ∧ (parseMethodDescriptor yL_setStepLimit.desc).map (fun d => d.parameters.length) = some 3 := by decide +kernel
set_option maxHeartbeats 4000000 in
set_option maxRecDepth 100000 in
theorem c_L_setStepLimit (l : Launch) (hlt : l.stackTraces = false) (g : GG) (ha : Nat → Nat → Nat) (hd : Nat → Nat → Nat) (tv : TV) (qv : QV) (hv : HV) (a0 : Int32) (oa : Nat) (ol : Nat → Int64) (out : Int32 × (Nat → Int64) × QV × HV) (hf : f_L_setStepLimit tv qv hv a0 ol = some out) : MzI (RT := Nat → Nat → Nat) l yL_setStepLimit wsL_setStepLimit rm_L_setStepLimit g (wT g ha tv ++ wQ g (ha 1) qv ++ wH g (ha 4) hd hv ++ [(oa, .inl (gC g 3, 1, .inr (.inl ol)))]) [.ref (ha 0 0), .int a0, .ref oa] (fun _ => True) (fun _ => (out.1)) (fun hd1 => (wT g ha tv ++ wQ g (ha 1) (out.2.2.1) ++ wH g (ha 4) hd1 (out.2.2.2) ++ [(oa, .inl (gC g 3, 1, .inr (.inl (out.2.1))))])) 11 244 := by
  refine fun sz => mh_of (hh := [(0, 9, 12, 15), (0, 9, 15, 23)]) (cc := cL_setStepLimit) (maxL := 4) (ret := (some .int)) (own := RL) (Qc := fun A => va_Qi (fun r (hd1 : Nat → Nat → Nat) => True ∧ r = (out.1)) (fun hd1 t => PosM g A (wT g ha tv ++ wQ g (ha 1) (out.2.2.1) ++ wH g (ha 4) hd1 (out.2.2.2) ++ [(oa, .inl (gC g 3, 1, .inr (.inl (out.2.1))))]) t) A) (by decide +kernel) rfl rfl (Nat.le_of_ble_eq_true rfl) ?_ sz
  intro p e s mi below meth c A ls hB htb hrt hlk hP hD hl
  obtain ⟨hx, hb, hml, hown, hts, hK, hZ, hT, hA, -⟩ := hB
  have hS : va_S A s.heap s.heap [] := va_S.rf
  have hl : lv_has ls 4 [(0, .ref (ha 0 0)), (1, .int a0), (2, .ref oa)] := hl
  have kk0 := hts (.classLink RL 15 "java/lang/IllegalArgumentException") (by decide +kernel)
  have kk1 := hts (.classLink RL 23 "java/lang/UnsupportedOperationException") (by decide +kernel)
  unfold f_L_setStepLimit at hf
  obtain ⟨o, hg, hf⟩ := jbB_e hf
  refine lv_aload_n hx hb dL_setStepLimit_0 rfl (lv_at hl 2 rfl) ?_
  refine lv_iconst (v := 0) hx hb dL_setStepLimit_1 (by decide) ?_
  refine lv_aload_n hx hb dL_setStepLimit_2 rfl (lv_at hl 0 rfl) ?_
  refine lv_iload_n hx hb dL_setStepLimit_3 rfl (lv_at hl 1 rfl) ?_
  refine cypv_i (As := [.int a0]) (rest := [.int 0, .ref oa]) (Wr := [(oa, .inl (gC g 3, 1, .inr (.inl ol)))]) (Wn := fun u => (wT g ha tv ++ wQ g (ha 1) (u.1.2.1) ++ wH g (ha 4) u.2 (u.1.2.2) ++ [(oa, .inl (gC g 3, 1, .inr (.inl ol)))])) (WnX := fun u => (wT g ha tv ++ wQ g (ha 1) (u.1.2.1) ++ wH g (ha 4) u.2 (u.1.2.2) ++ [(oa, .inl (gC g 3, 1, .inr (.inl ol)))])) ⟨hx, hb, hml, hown, hts⟩ (c_X10_setStepLimit l hlt g ha hd tv qv hv a0 _ hg) (cwV 1 hts gL_setStepLimit_X10_setStepLimit rfl rfl rfl hd_X10_setStepLimit ⟨(Nat.le_of_ble_eq_true rfl), (Nat.le_of_ble_eq_true rfl)⟩) hK hZ hT hA hP hD hS hl.1 (va_recv hK hP (ci := 9) (q0 := 0) rfl rfl) (wp_of fun f => by simp only [List.countP_append, List.countP_cons, List.countP_nil] <;> omega) (fun _ => (wp_of fun f => by simp only [List.countP_append, List.countP_cons, List.countP_nil] <;> omega)) (fun _ => (wp_of fun f => by simp only [List.countP_append, List.countP_cons, List.countP_nil] <;> omega)) rfl rfl (Nat.le_of_ble_eq_true rfl) ⟨(Nat.le_of_ble_eq_true rfl), (Nat.le_of_ble_eq_true rfl)⟩ dL_setStepLimit_4 (fun u ce q9 H locs ho hP hD hS hce hcv hcl => ?_) (fun u H locs ho hP hD hS => ?_)
  · have ho9 := ho
    subst ho9
    have hf := jbM_l hf
    by_cases h0 : (u.1.1) = 1
    · have hf := jbT hf h0
      cases hf
      have hcl : s.vm.findClass "java/lang/IllegalArgumentException" = some ce.cls := by rw [h0] at hcl; exact hcl
      refine lx_catch hown hT [] (0, 9, 12, 15) [(0, 9, 15, 23)] htb exN_1 lx_n rfl (by decide) kk0 hce hcv hcl ?_
      refine lv_astore_n (lv' := [(3, .ref q9), (0, .ref (ha 0 0)), (1, .int a0), (2, .ref oa)]) hx hb dL_setStepLimit_12 rfl hl (by decide) rfl (fun ls hl => ?_)
      refine lv_iconst (v := 1) hx hb dL_setStepLimit_13 (by decide) ?_
      refine rz_i (RT := Nat → Nat → Nat) (PR := fun _ => True) (rv := fun _ => 1) (W1 := fun hd1 => (wT g ha tv ++ wQ g (ha 1) (u.1.2.1) ++ wH g (ha 4) hd1 (u.1.2.2) ++ [(oa, .inl (gC g 3, 1, .inr (.inl ol)))])) u.2 trivial rfl hx hb hrt hlk rfl hK hP hD hS ?_ ?_ dL_setStepLimit_14 <;> exact Nat.le_of_ble_eq_true rfl
    · have hf := jbF hf h0
      by_cases h1 : (u.1.1) = 4
      · have hf := jbT hf h1
        cases hf
        have hcl : s.vm.findClass "java/lang/UnsupportedOperationException" = some ce.cls := by rw [h1] at hcl; exact hcl
        refine lx_catch hown hT [(0, 9, 12, 15)] (0, 9, 15, 23) [] htb exN_4 (lx_c (nm := "java/lang/IllegalArgumentException") (by decide) exN_1 (by decide) kk0 lx_n) rfl (by decide) kk1 hce hcv hcl ?_
        refine lv_astore_n (lv' := [(3, .ref q9), (0, .ref (ha 0 0)), (1, .int a0), (2, .ref oa)]) hx hb dL_setStepLimit_15 rfl hl (by decide) rfl (fun ls hl => ?_)
        refine lv_iconst (v := 2) hx hb dL_setStepLimit_16 (by decide) ?_
        refine rz_i (RT := Nat → Nat → Nat) (PR := fun _ => True) (rv := fun _ => 2) (W1 := fun hd1 => (wT g ha tv ++ wQ g (ha 1) (u.1.2.1) ++ wH g (ha 4) hd1 (u.1.2.2) ++ [(oa, .inl (gC g 3, 1, .inr (.inl ol)))])) u.2 trivial rfl hx hb hrt hlk rfl hK hP hD hS ?_ ?_ dL_setStepLimit_17 <;> exact Nat.le_of_ble_eq_true rfl
      · have hf := jbF hf h1
        cases hf
  have ho9 := ho
  subst ho9
  have hf := jbM_r hf
  cases hf
  refine lv_i2l (v := (u.1.1).toInt64) hx hb dL_setStepLimit_7 rfl ?_
  have hP9 : va_P (gD g) vwCl ([(oa, .inl (gC g 3, 1, .inr (.inl ol)))] ++ (wT g ha tv ++ wQ g (ha 1) (u.1.2.1) ++ wH g (ha 4) u.2 (u.1.2.2))) _ := wp_P (wp_of fun f => by simp only [List.countP_append, List.countP_cons, List.countP_nil] <;> omega) hP
  have hD9 : va_D A ([(oa, .inl (gC g 3, 1, .inr (.inl ol)))] ++ (wT g ha tv ++ wQ g (ha 1) (u.1.2.1) ++ wH g (ha 4) u.2 (u.1.2.2))) := wp_D (wp_of fun f => by simp only [List.countP_append, List.countP_cons, List.countP_nil] <;> omega) hD
  refine va_last hx hb hK hP9 hD9 hS 0 3 rfl rfl (i := 0) (x := (u.1.1).toInt64) vp_in01 dL_setStepLimit_8 (fun H locs hP hD hS => ?_)
  have hP : va_P (gD g) vwCl (wT g ha tv ++ wQ g (ha 1) (u.1.2.1) ++ wH g (ha 4) u.2 (u.1.2.2) ++ [(oa, .inl (gC g 3, 1, .inr (.inl (vp_updL ol (0 : Int32).toNatClampNeg (u.1.1).toInt64))))]) H := wp_P (a := [(oa, .inl (gC g 3, 1, .inr (.inl (vp_updL ol (0 : Int32).toNatClampNeg (u.1.1).toInt64))))] ++ (wT g ha tv ++ wQ g (ha 1) (u.1.2.1) ++ wH g (ha 4) u.2 (u.1.2.2))) (wp_of fun f => by simp only [List.countP_append, List.countP_cons, List.countP_nil] <;> omega) hP
  have hD : va_D A (wT g ha tv ++ wQ g (ha 1) (u.1.2.1) ++ wH g (ha 4) u.2 (u.1.2.2) ++ [(oa, .inl (gC g 3, 1, .inr (.inl (vp_updL ol (0 : Int32).toNatClampNeg (u.1.1).toInt64))))]) := wp_D (a := [(oa, .inl (gC g 3, 1, .inr (.inl (vp_updL ol (0 : Int32).toNatClampNeg (u.1.1).toInt64))))] ++ (wT g ha tv ++ wQ g (ha 1) (u.1.2.1) ++ wH g (ha 4) u.2 (u.1.2.2))) (wp_of fun f => by simp only [List.countP_append, List.countP_cons, List.countP_nil] <;> omega) hD
  refine lv_goto (tgt := 18) hx hb dL_setStepLimit_9 (by decide) ?_
  refine lv_iconst (v := 0) hx hb dL_setStepLimit_18 (by decide) ?_
  refine rz_i (RT := Nat → Nat → Nat) (PR := fun _ => True) (rv := fun _ => 0) (W1 := fun hd1 => (wT g ha tv ++ wQ g (ha 1) (u.1.2.1) ++ wH g (ha 4) hd1 (u.1.2.2) ++ [(oa, .inl (gC g 3, 1, .inr (.inl (vp_updL ol (0 : Int32).toNatClampNeg (u.1.1).toInt64))))])) u.2 trivial rfl hx hb hrt hlk rfl hK hP hD hS ?_ ?_ dL_setStepLimit_19 <;> exact Nat.le_of_ble_eq_true rfl
def f_L_addWinch (tv : TV) (qv : QV) (hv : HV) (a0 : Int32) (a1 : Int32) (a2 : Int32) (a3 : Int32) (ol : Nat → Int64) : Option (Int32 × (Nat → Int64) × QV × HV) :=
  (f_X10_addWinch tv qv hv a0 a1 a2 a3).bind fun o => jbM o (fun x => if (x.1) = 0 then some (1, ol, (x.2.1), (x.2.2)) else if (x.1) = 1 then some (2, ol, (x.2.1), (x.2.2)) else if (x.1) = 3 then some (3, ol, (x.2.1), (x.2.2)) else none) (fun y => some (0, (vp_updL ol (0 : Int32).toNatClampNeg (y.1).toInt64), (y.2.1), (y.2.2)))
def rm_L_addWinch : Room := { frames := 10, cells := 11, slots := 244, locals := 164 }
theorem hd_L_addWinch : yL_addWinch.cls = RL ∧ yL_addWinch.cls ≠ "java/lang/invoke/MethodHandle" ∧ yL_addWinch.cls ≠ "java/lang/invoke/VarHandle" ∧ (parseMethodDescriptor yL_addWinch.desc).map (fun d => d.parameters.length) = some 6 := by decide +kernel
set_option maxHeartbeats 4000000 in
set_option maxRecDepth 100000 in
theorem c_L_addWinch (l : Launch) (hlt : l.stackTraces = false) (g : GG) (ha : Nat → Nat → Nat) (hd : Nat → Nat → Nat) (tv : TV) (qv : QV) (hv : HV) (a0 : Int32) (a1 : Int32) (a2 : Int32) (a3 : Int32) (oa : Nat) (ol : Nat → Int64) (out : Int32 × (Nat → Int64) × QV × HV) (hf : f_L_addWinch tv qv hv a0 a1 a2 a3 ol = some out) : MzI (RT := Nat → Nat → Nat) l yL_addWinch wsL_addWinch rm_L_addWinch g (wT g ha tv ++ wQ g (ha 1) qv ++ wH g (ha 4) hd hv ++ [(oa, .inl (gC g 3, 1, .inr (.inl ol)))]) [.ref (ha 0 0), .int a0, .int a1, .int a2, .int a3, .ref oa] (fun _ => True) (fun _ => (out.1)) (fun hd1 => (wT g ha tv ++ wQ g (ha 1) (out.2.2.1) ++ wH g (ha 4) hd1 (out.2.2.2) ++ [(oa, .inl (gC g 3, 1, .inr (.inl (out.2.1))))])) 11 244 := by
  refine fun sz => mh_of (hh := [(0, 14, 17, 13), (0, 14, 21, 15), (0, 14, 25, 21)]) (cc := cL_addWinch) (maxL := 7) (ret := (some .int)) (own := RL) (Qc := fun A => va_Qi (fun r (hd1 : Nat → Nat → Nat) => True ∧ r = (out.1)) (fun hd1 t => PosM g A (wT g ha tv ++ wQ g (ha 1) (out.2.2.1) ++ wH g (ha 4) hd1 (out.2.2.2) ++ [(oa, .inl (gC g 3, 1, .inr (.inl (out.2.1))))]) t) A) (by decide +kernel) rfl rfl (Nat.le_of_ble_eq_true rfl) ?_ sz
  intro p e s mi below meth c A ls hB htb hrt hlk hP hD hl
  obtain ⟨hx, hb, hml, hown, hts, hK, hZ, hT, hA, -⟩ := hB
  have hS : va_S A s.heap s.heap [] := va_S.rf
  have hl : lv_has ls 7 [(0, .ref (ha 0 0)), (1, .int a0), (2, .int a1), (3, .int a2), (4, .int a3), (5, .ref oa)] := hl
  have kk0 := hts (.classLink RL 13 "java/lang/IndexOutOfBoundsException") (by decide +kernel)
  have kk1 := hts (.classLink RL 15 "java/lang/IllegalArgumentException") (by decide +kernel)
  have kk2 := hts (.classLink RL 21 "java/lang/IllegalStateException") (by decide +kernel)
  unfold f_L_addWinch at hf
  obtain ⟨o, hg, hf⟩ := jbB_e hf
  refine lv_aload hx hb dL_addWinch_0 (lv_at hl 5 rfl) ?_
  refine lv_iconst (v := 0) hx hb dL_addWinch_2 (by decide) ?_
  refine lv_aload_n hx hb dL_addWinch_3 rfl (lv_at hl 0 rfl) ?_
  refine lv_iload_n hx hb dL_addWinch_4 rfl (lv_at hl 1 rfl) ?_
  refine lv_iload_n hx hb dL_addWinch_5 rfl (lv_at hl 2 rfl) ?_
  refine lv_iload_n hx hb dL_addWinch_6 rfl (lv_at hl 3 rfl) ?_
  refine lv_iload hx hb dL_addWinch_7 (lv_at hl 4 rfl) ?_
  refine cypv_i (As := [.int a0, .int a1, .int a2, .int a3]) (rest := [.int 0, .ref oa]) (Wr := [(oa, .inl (gC g 3, 1, .inr (.inl ol)))]) (Wn := fun u => (wT g ha tv ++ wQ g (ha 1) (u.1.2.1) ++ wH g (ha 4) u.2 (u.1.2.2) ++ [(oa, .inl (gC g 3, 1, .inr (.inl ol)))])) (WnX := fun u => (wT g ha tv ++ wQ g (ha 1) (u.1.2.1) ++ wH g (ha 4) u.2 (u.1.2.2) ++ [(oa, .inl (gC g 3, 1, .inr (.inl ol)))])) ⟨hx, hb, hml, hown, hts⟩ (c_X10_addWinch l hlt g ha hd tv qv hv a0 a1 a2 a3 _ hg) (cwV 4 hts gL_addWinch_X10_addWinch rfl rfl rfl hd_X10_addWinch ⟨(Nat.le_of_ble_eq_true rfl), (Nat.le_of_ble_eq_true rfl)⟩) hK hZ hT hA hP hD hS hl.1 (va_recv hK hP (ci := 9) (q0 := 0) rfl rfl) (wp_of fun f => by simp only [List.countP_append, List.countP_cons, List.countP_nil] <;> omega) (fun _ => (wp_of fun f => by simp only [List.countP_append, List.countP_cons, List.countP_nil] <;> omega)) (fun _ => (wp_of fun f => by simp only [List.countP_append, List.countP_cons, List.countP_nil] <;> omega)) rfl rfl (Nat.le_of_ble_eq_true rfl) ⟨(Nat.le_of_ble_eq_true rfl), (Nat.le_of_ble_eq_true rfl)⟩ dL_addWinch_9 (fun u ce q9 H locs ho hP hD hS hce hcv hcl => ?_) (fun u H locs ho hP hD hS => ?_)
  · have ho9 := ho
    subst ho9
    have hf := jbM_l hf
    by_cases h0 : (u.1.1) = 0
    · have hf := jbT hf h0
      cases hf
      have hcl : s.vm.findClass "java/lang/IndexOutOfBoundsException" = some ce.cls := by rw [h0] at hcl; exact hcl
      refine lx_catch hown hT [] (0, 14, 17, 13) [(0, 14, 21, 15), (0, 14, 25, 21)] htb exN_0 lx_n rfl (by decide) kk0 hce hcv hcl ?_
      refine lv_astore (lv' := [(6, .ref q9), (0, .ref (ha 0 0)), (1, .int a0), (2, .int a1), (3, .int a2), (4, .int a3), (5, .ref oa)]) hx hb dL_addWinch_17 hl (by decide) rfl (fun ls hl => ?_)
      refine lv_iconst (v := 1) hx hb dL_addWinch_19 (by decide) ?_
      refine rz_i (RT := Nat → Nat → Nat) (PR := fun _ => True) (rv := fun _ => 1) (W1 := fun hd1 => (wT g ha tv ++ wQ g (ha 1) (u.1.2.1) ++ wH g (ha 4) hd1 (u.1.2.2) ++ [(oa, .inl (gC g 3, 1, .inr (.inl ol)))])) u.2 trivial rfl hx hb hrt hlk rfl hK hP hD hS ?_ ?_ dL_addWinch_20 <;> exact Nat.le_of_ble_eq_true rfl
    · have hf := jbF hf h0
      by_cases h1 : (u.1.1) = 1
      · have hf := jbT hf h1
        cases hf
        have hcl : s.vm.findClass "java/lang/IllegalArgumentException" = some ce.cls := by rw [h1] at hcl; exact hcl
        refine lx_catch hown hT [(0, 14, 17, 13)] (0, 14, 21, 15) [(0, 14, 25, 21)] htb exN_1 (lx_c (nm := "java/lang/IndexOutOfBoundsException") (by decide) exN_0 (by decide) kk0 lx_n) rfl (by decide) kk1 hce hcv hcl ?_
        refine lv_astore (lv' := [(6, .ref q9), (0, .ref (ha 0 0)), (1, .int a0), (2, .int a1), (3, .int a2), (4, .int a3), (5, .ref oa)]) hx hb dL_addWinch_21 hl (by decide) rfl (fun ls hl => ?_)
        refine lv_iconst (v := 2) hx hb dL_addWinch_23 (by decide) ?_
        refine rz_i (RT := Nat → Nat → Nat) (PR := fun _ => True) (rv := fun _ => 2) (W1 := fun hd1 => (wT g ha tv ++ wQ g (ha 1) (u.1.2.1) ++ wH g (ha 4) hd1 (u.1.2.2) ++ [(oa, .inl (gC g 3, 1, .inr (.inl ol)))])) u.2 trivial rfl hx hb hrt hlk rfl hK hP hD hS ?_ ?_ dL_addWinch_24 <;> exact Nat.le_of_ble_eq_true rfl
      · have hf := jbF hf h1
        by_cases h2 : (u.1.1) = 3
        · have hf := jbT hf h2
          cases hf
          have hcl : s.vm.findClass "java/lang/IllegalStateException" = some ce.cls := by rw [h2] at hcl; exact hcl
          refine lx_catch hown hT [(0, 14, 17, 13), (0, 14, 21, 15)] (0, 14, 25, 21) [] htb exN_3 (lx_c (nm := "java/lang/IndexOutOfBoundsException") (by decide) exN_0 (by decide) kk0 (lx_c (nm := "java/lang/IllegalArgumentException") (by decide) exN_1 (by decide) kk1 lx_n)) rfl (by decide) kk2 hce hcv hcl ?_
          refine lv_astore (lv' := [(6, .ref q9), (0, .ref (ha 0 0)), (1, .int a0), (2, .int a1), (3, .int a2), (4, .int a3), (5, .ref oa)]) hx hb dL_addWinch_25 hl (by decide) rfl (fun ls hl => ?_)
          refine lv_iconst (v := 3) hx hb dL_addWinch_27 (by decide) ?_
          refine rz_i (RT := Nat → Nat → Nat) (PR := fun _ => True) (rv := fun _ => 3) (W1 := fun hd1 => (wT g ha tv ++ wQ g (ha 1) (u.1.2.1) ++ wH g (ha 4) hd1 (u.1.2.2) ++ [(oa, .inl (gC g 3, 1, .inr (.inl ol)))])) u.2 trivial rfl hx hb hrt hlk rfl hK hP hD hS ?_ ?_ dL_addWinch_28 <;> exact Nat.le_of_ble_eq_true rfl
        · have hf := jbF hf h2
          cases hf
  have ho9 := ho
  subst ho9
  have hf := jbM_r hf
  cases hf
  refine lv_i2l (v := (u.1.1).toInt64) hx hb dL_addWinch_12 rfl ?_
  have hP9 : va_P (gD g) vwCl ([(oa, .inl (gC g 3, 1, .inr (.inl ol)))] ++ (wT g ha tv ++ wQ g (ha 1) (u.1.2.1) ++ wH g (ha 4) u.2 (u.1.2.2))) _ := wp_P (wp_of fun f => by simp only [List.countP_append, List.countP_cons, List.countP_nil] <;> omega) hP
  have hD9 : va_D A ([(oa, .inl (gC g 3, 1, .inr (.inl ol)))] ++ (wT g ha tv ++ wQ g (ha 1) (u.1.2.1) ++ wH g (ha 4) u.2 (u.1.2.2))) := wp_D (wp_of fun f => by simp only [List.countP_append, List.countP_cons, List.countP_nil] <;> omega) hD
  refine va_last hx hb hK hP9 hD9 hS 0 3 rfl rfl (i := 0) (x := (u.1.1).toInt64) vp_in01 dL_addWinch_13 (fun H locs hP hD hS => ?_)
  have hP : va_P (gD g) vwCl (wT g ha tv ++ wQ g (ha 1) (u.1.2.1) ++ wH g (ha 4) u.2 (u.1.2.2) ++ [(oa, .inl (gC g 3, 1, .inr (.inl (vp_updL ol (0 : Int32).toNatClampNeg (u.1.1).toInt64))))]) H := wp_P (a := [(oa, .inl (gC g 3, 1, .inr (.inl (vp_updL ol (0 : Int32).toNatClampNeg (u.1.1).toInt64))))] ++ (wT g ha tv ++ wQ g (ha 1) (u.1.2.1) ++ wH g (ha 4) u.2 (u.1.2.2))) (wp_of fun f => by simp only [List.countP_append, List.countP_cons, List.countP_nil] <;> omega) hP
  have hD : va_D A (wT g ha tv ++ wQ g (ha 1) (u.1.2.1) ++ wH g (ha 4) u.2 (u.1.2.2) ++ [(oa, .inl (gC g 3, 1, .inr (.inl (vp_updL ol (0 : Int32).toNatClampNeg (u.1.1).toInt64))))]) := wp_D (a := [(oa, .inl (gC g 3, 1, .inr (.inl (vp_updL ol (0 : Int32).toNatClampNeg (u.1.1).toInt64))))] ++ (wT g ha tv ++ wQ g (ha 1) (u.1.2.1) ++ wH g (ha 4) u.2 (u.1.2.2))) (wp_of fun f => by simp only [List.countP_append, List.countP_cons, List.countP_nil] <;> omega) hD
  refine lv_goto (tgt := 29) hx hb dL_addWinch_14 (by decide) ?_
  refine lv_iconst (v := 0) hx hb dL_addWinch_29 (by decide) ?_
  refine rz_i (RT := Nat → Nat → Nat) (PR := fun _ => True) (rv := fun _ => 0) (W1 := fun hd1 => (wT g ha tv ++ wQ g (ha 1) (u.1.2.1) ++ wH g (ha 4) hd1 (u.1.2.2) ++ [(oa, .inl (gC g 3, 1, .inr (.inl (vp_updL ol (0 : Int32).toNatClampNeg (u.1.1).toInt64))))])) u.2 trivial rfl hx hb hrt hlk rfl hK hP hD hS ?_ ?_ dL_addWinch_30 <;> exact Nat.le_of_ble_eq_true rfl
def f_L_lift (tv : TV) (qv : QV) (hv : HV) (a0 : Int32) (a1 : Int32) (a2 : Int32) (ol : Nat → Int64) : Option (Int32 × (Nat → Int64) × QV × HV) :=
  (f_X10_lift tv qv hv a0 a1 a2).bind fun o => jbM o (fun x => if (x.1) = 0 then some (1, ol, (x.2.1), (x.2.2)) else if (x.1) = 2 then some (2, ol, (x.2.1), (x.2.2)) else if (x.1) = 3 then some (3, ol, (x.2.1), (x.2.2)) else if (x.1) = 4 then some (4, ol, (x.2.1), (x.2.2)) else none) (fun y => some (0, (vp_updL ol (0 : Int32).toNatClampNeg (y.1).toInt64), (y.2.1), (y.2.2)))
def rm_L_lift : Room := { frames := 10, cells := 11, slots := 244, locals := 163 }
theorem hd_L_lift : yL_lift.cls = RL ∧ yL_lift.cls ≠ "java/lang/invoke/MethodHandle" ∧ yL_lift.cls ≠ "java/lang/invoke/VarHandle" ∧ (parseMethodDescriptor yL_lift.desc).map (fun d => d.parameters.length) = some 5 := by decide +kernel
set_option maxHeartbeats 4000000 in
set_option maxRecDepth 100000 in
theorem c_L_lift (l : Launch) (hlt : l.stackTraces = false) (g : GG) (ha : Nat → Nat → Nat) (hd : Nat → Nat → Nat) (tv : TV) (qv : QV) (hv : HV) (a0 : Int32) (a1 : Int32) (a2 : Int32) (oa : Nat) (ol : Nat → Int64) (out : Int32 × (Nat → Int64) × QV × HV) (hf : f_L_lift tv qv hv a0 a1 a2 ol = some out) : MzI (RT := Nat → Nat → Nat) l yL_lift wsL_lift rm_L_lift g (wT g ha tv ++ wQ g (ha 1) qv ++ wH g (ha 4) hd hv ++ [(oa, .inl (gC g 3, 1, .inr (.inl ol)))]) [.ref (ha 0 0), .int a0, .int a1, .int a2, .ref oa] (fun _ => True) (fun _ => (out.1)) (fun hd1 => (wT g ha tv ++ wQ g (ha 1) (out.2.2.1) ++ wH g (ha 4) hd1 (out.2.2.2) ++ [(oa, .inl (gC g 3, 1, .inr (.inl (out.2.1))))])) 11 244 := by
  refine fun sz => mh_of (hh := [(0, 12, 15, 13), (0, 12, 19, 43), (0, 12, 23, 21), (0, 12, 27, 23)]) (cc := cL_lift) (maxL := 6) (ret := (some .int)) (own := RL) (Qc := fun A => va_Qi (fun r (hd1 : Nat → Nat → Nat) => True ∧ r = (out.1)) (fun hd1 t => PosM g A (wT g ha tv ++ wQ g (ha 1) (out.2.2.1) ++ wH g (ha 4) hd1 (out.2.2.2) ++ [(oa, .inl (gC g 3, 1, .inr (.inl (out.2.1))))]) t) A) (by decide +kernel) rfl rfl (Nat.le_of_ble_eq_true rfl) ?_ sz
  intro p e s mi below meth c A ls hB htb hrt hlk hP hD hl
  obtain ⟨hx, hb, hml, hown, hts, hK, hZ, hT, hA, -⟩ := hB
  have hS : va_S A s.heap s.heap [] := va_S.rf
  have hl : lv_has ls 6 [(0, .ref (ha 0 0)), (1, .int a0), (2, .int a1), (3, .int a2), (4, .ref oa)] := hl
  have kk0 := hts (.classLink RL 13 "java/lang/IndexOutOfBoundsException") (by decide +kernel)
  have kk1 := hts (.classLink RL 43 "java/util/NoSuchElementException") (by decide +kernel)
  have kk2 := hts (.classLink RL 21 "java/lang/IllegalStateException") (by decide +kernel)
  have kk3 := hts (.classLink RL 23 "java/lang/UnsupportedOperationException") (by decide +kernel)
  unfold f_L_lift at hf
  obtain ⟨o, hg, hf⟩ := jbB_e hf
  refine lv_aload hx hb dL_lift_0 (lv_at hl 4 rfl) ?_
  refine lv_iconst (v := 0) hx hb dL_lift_2 (by decide) ?_
  refine lv_aload_n hx hb dL_lift_3 rfl (lv_at hl 0 rfl) ?_
  refine lv_iload_n hx hb dL_lift_4 rfl (lv_at hl 1 rfl) ?_
  refine lv_iload_n hx hb dL_lift_5 rfl (lv_at hl 2 rfl) ?_
  refine lv_iload_n hx hb dL_lift_6 rfl (lv_at hl 3 rfl) ?_
  refine cypv_i (As := [.int a0, .int a1, .int a2]) (rest := [.int 0, .ref oa]) (Wr := [(oa, .inl (gC g 3, 1, .inr (.inl ol)))]) (Wn := fun u => (wT g ha tv ++ wQ g (ha 1) (u.1.2.1) ++ wH g (ha 4) u.2 (u.1.2.2) ++ [(oa, .inl (gC g 3, 1, .inr (.inl ol)))])) (WnX := fun u => (wT g ha tv ++ wQ g (ha 1) (u.1.2.1) ++ wH g (ha 4) u.2 (u.1.2.2) ++ [(oa, .inl (gC g 3, 1, .inr (.inl ol)))])) ⟨hx, hb, hml, hown, hts⟩ (c_X10_lift l hlt g ha hd tv qv hv a0 a1 a2 _ hg) (cwV 3 hts gL_lift_X10_lift rfl rfl rfl hd_X10_lift ⟨(Nat.le_of_ble_eq_true rfl), (Nat.le_of_ble_eq_true rfl)⟩) hK hZ hT hA hP hD hS hl.1 (va_recv hK hP (ci := 9) (q0 := 0) rfl rfl) (wp_of fun f => by simp only [List.countP_append, List.countP_cons, List.countP_nil] <;> omega) (fun _ => (wp_of fun f => by simp only [List.countP_append, List.countP_cons, List.countP_nil] <;> omega)) (fun _ => (wp_of fun f => by simp only [List.countP_append, List.countP_cons, List.countP_nil] <;> omega)) rfl rfl (Nat.le_of_ble_eq_true rfl) ⟨(Nat.le_of_ble_eq_true rfl), (Nat.le_of_ble_eq_true rfl)⟩ dL_lift_7 (fun u ce q9 H locs ho hP hD hS hce hcv hcl => ?_) (fun u H locs ho hP hD hS => ?_)
  · have ho9 := ho
    subst ho9
    have hf := jbM_l hf
    by_cases h0 : (u.1.1) = 0
    · have hf := jbT hf h0
      cases hf
      have hcl : s.vm.findClass "java/lang/IndexOutOfBoundsException" = some ce.cls := by rw [h0] at hcl; exact hcl
      refine lx_catch hown hT [] (0, 12, 15, 13) [(0, 12, 19, 43), (0, 12, 23, 21), (0, 12, 27, 23)] htb exN_0 lx_n rfl (by decide) kk0 hce hcv hcl ?_
      refine lv_astore (lv' := [(5, .ref q9), (0, .ref (ha 0 0)), (1, .int a0), (2, .int a1), (3, .int a2), (4, .ref oa)]) hx hb dL_lift_15 hl (by decide) rfl (fun ls hl => ?_)
      refine lv_iconst (v := 1) hx hb dL_lift_17 (by decide) ?_
      refine rz_i (RT := Nat → Nat → Nat) (PR := fun _ => True) (rv := fun _ => 1) (W1 := fun hd1 => (wT g ha tv ++ wQ g (ha 1) (u.1.2.1) ++ wH g (ha 4) hd1 (u.1.2.2) ++ [(oa, .inl (gC g 3, 1, .inr (.inl ol)))])) u.2 trivial rfl hx hb hrt hlk rfl hK hP hD hS ?_ ?_ dL_lift_18 <;> exact Nat.le_of_ble_eq_true rfl
    · have hf := jbF hf h0
      by_cases h1 : (u.1.1) = 2
      · have hf := jbT hf h1
        cases hf
        have hcl : s.vm.findClass "java/util/NoSuchElementException" = some ce.cls := by rw [h1] at hcl; exact hcl
        refine lx_catch hown hT [(0, 12, 15, 13)] (0, 12, 19, 43) [(0, 12, 23, 21), (0, 12, 27, 23)] htb exN_2 (lx_c (nm := "java/lang/IndexOutOfBoundsException") (by decide) exN_0 (by decide) kk0 lx_n) rfl (by decide) kk1 hce hcv hcl ?_
        refine lv_astore (lv' := [(5, .ref q9), (0, .ref (ha 0 0)), (1, .int a0), (2, .int a1), (3, .int a2), (4, .ref oa)]) hx hb dL_lift_19 hl (by decide) rfl (fun ls hl => ?_)
        refine lv_iconst (v := 2) hx hb dL_lift_21 (by decide) ?_
        refine rz_i (RT := Nat → Nat → Nat) (PR := fun _ => True) (rv := fun _ => 2) (W1 := fun hd1 => (wT g ha tv ++ wQ g (ha 1) (u.1.2.1) ++ wH g (ha 4) hd1 (u.1.2.2) ++ [(oa, .inl (gC g 3, 1, .inr (.inl ol)))])) u.2 trivial rfl hx hb hrt hlk rfl hK hP hD hS ?_ ?_ dL_lift_22 <;> exact Nat.le_of_ble_eq_true rfl
      · have hf := jbF hf h1
        by_cases h2 : (u.1.1) = 3
        · have hf := jbT hf h2
          cases hf
          have hcl : s.vm.findClass "java/lang/IllegalStateException" = some ce.cls := by rw [h2] at hcl; exact hcl
          refine lx_catch hown hT [(0, 12, 15, 13), (0, 12, 19, 43)] (0, 12, 23, 21) [(0, 12, 27, 23)] htb exN_3 (lx_c (nm := "java/lang/IndexOutOfBoundsException") (by decide) exN_0 (by decide) kk0 (lx_c (nm := "java/util/NoSuchElementException") (by decide) exN_2 (by decide) kk1 lx_n)) rfl (by decide) kk2 hce hcv hcl ?_
          refine lv_astore (lv' := [(5, .ref q9), (0, .ref (ha 0 0)), (1, .int a0), (2, .int a1), (3, .int a2), (4, .ref oa)]) hx hb dL_lift_23 hl (by decide) rfl (fun ls hl => ?_)
          refine lv_iconst (v := 3) hx hb dL_lift_25 (by decide) ?_
          refine rz_i (RT := Nat → Nat → Nat) (PR := fun _ => True) (rv := fun _ => 3) (W1 := fun hd1 => (wT g ha tv ++ wQ g (ha 1) (u.1.2.1) ++ wH g (ha 4) hd1 (u.1.2.2) ++ [(oa, .inl (gC g 3, 1, .inr (.inl ol)))])) u.2 trivial rfl hx hb hrt hlk rfl hK hP hD hS ?_ ?_ dL_lift_26 <;> exact Nat.le_of_ble_eq_true rfl
        · have hf := jbF hf h2
          by_cases h3 : (u.1.1) = 4
          · have hf := jbT hf h3
            cases hf
            have hcl : s.vm.findClass "java/lang/UnsupportedOperationException" = some ce.cls := by rw [h3] at hcl; exact hcl
            refine lx_catch hown hT [(0, 12, 15, 13), (0, 12, 19, 43), (0, 12, 23, 21)] (0, 12, 27, 23) [] htb exN_4 (lx_c (nm := "java/lang/IndexOutOfBoundsException") (by decide) exN_0 (by decide) kk0 (lx_c (nm := "java/util/NoSuchElementException") (by decide) exN_2 (by decide) kk1 (lx_c (nm := "java/lang/IllegalStateException") (by decide) exN_3 (by decide) kk2 lx_n))) rfl (by decide) kk3 hce hcv hcl ?_
            refine lv_astore (lv' := [(5, .ref q9), (0, .ref (ha 0 0)), (1, .int a0), (2, .int a1), (3, .int a2), (4, .ref oa)]) hx hb dL_lift_27 hl (by decide) rfl (fun ls hl => ?_)
            refine lv_iconst (v := 4) hx hb dL_lift_29 (by decide) ?_
            refine rz_i (RT := Nat → Nat → Nat) (PR := fun _ => True) (rv := fun _ => 4) (W1 := fun hd1 => (wT g ha tv ++ wQ g (ha 1) (u.1.2.1) ++ wH g (ha 4) hd1 (u.1.2.2) ++ [(oa, .inl (gC g 3, 1, .inr (.inl ol)))])) u.2 trivial rfl hx hb hrt hlk rfl hK hP hD hS ?_ ?_ dL_lift_30 <;> exact Nat.le_of_ble_eq_true rfl
          · have hf := jbF hf h3
            cases hf
  have ho9 := ho
  subst ho9
  have hf := jbM_r hf
  cases hf
  refine lv_i2l (v := (u.1.1).toInt64) hx hb dL_lift_10 rfl ?_
  have hP9 : va_P (gD g) vwCl ([(oa, .inl (gC g 3, 1, .inr (.inl ol)))] ++ (wT g ha tv ++ wQ g (ha 1) (u.1.2.1) ++ wH g (ha 4) u.2 (u.1.2.2))) _ := wp_P (wp_of fun f => by simp only [List.countP_append, List.countP_cons, List.countP_nil] <;> omega) hP
  have hD9 : va_D A ([(oa, .inl (gC g 3, 1, .inr (.inl ol)))] ++ (wT g ha tv ++ wQ g (ha 1) (u.1.2.1) ++ wH g (ha 4) u.2 (u.1.2.2))) := wp_D (wp_of fun f => by simp only [List.countP_append, List.countP_cons, List.countP_nil] <;> omega) hD
  refine va_last hx hb hK hP9 hD9 hS 0 3 rfl rfl (i := 0) (x := (u.1.1).toInt64) vp_in01 dL_lift_11 (fun H locs hP hD hS => ?_)
  have hP : va_P (gD g) vwCl (wT g ha tv ++ wQ g (ha 1) (u.1.2.1) ++ wH g (ha 4) u.2 (u.1.2.2) ++ [(oa, .inl (gC g 3, 1, .inr (.inl (vp_updL ol (0 : Int32).toNatClampNeg (u.1.1).toInt64))))]) H := wp_P (a := [(oa, .inl (gC g 3, 1, .inr (.inl (vp_updL ol (0 : Int32).toNatClampNeg (u.1.1).toInt64))))] ++ (wT g ha tv ++ wQ g (ha 1) (u.1.2.1) ++ wH g (ha 4) u.2 (u.1.2.2))) (wp_of fun f => by simp only [List.countP_append, List.countP_cons, List.countP_nil] <;> omega) hP
  have hD : va_D A (wT g ha tv ++ wQ g (ha 1) (u.1.2.1) ++ wH g (ha 4) u.2 (u.1.2.2) ++ [(oa, .inl (gC g 3, 1, .inr (.inl (vp_updL ol (0 : Int32).toNatClampNeg (u.1.1).toInt64))))]) := wp_D (a := [(oa, .inl (gC g 3, 1, .inr (.inl (vp_updL ol (0 : Int32).toNatClampNeg (u.1.1).toInt64))))] ++ (wT g ha tv ++ wQ g (ha 1) (u.1.2.1) ++ wH g (ha 4) u.2 (u.1.2.2))) (wp_of fun f => by simp only [List.countP_append, List.countP_cons, List.countP_nil] <;> omega) hD
  refine lv_goto (tgt := 31) hx hb dL_lift_12 (by decide) ?_
  refine lv_iconst (v := 0) hx hb dL_lift_31 (by decide) ?_
  refine rz_i (RT := Nat → Nat → Nat) (PR := fun _ => True) (rv := fun _ => 0) (W1 := fun hd1 => (wT g ha tv ++ wQ g (ha 1) (u.1.2.1) ++ wH g (ha 4) hd1 (u.1.2.2) ++ [(oa, .inl (gC g 3, 1, .inr (.inl (vp_updL ol (0 : Int32).toNatClampNeg (u.1.1).toInt64))))])) u.2 trivial rfl hx hb hrt hlk rfl hK hP hD hS ?_ ?_ dL_lift_32 <;> exact Nat.le_of_ble_eq_true rfl
def f_L_crush (tv : TV) (qv : QV) (hv : HV) (a0 : Int32) (a1 : Int32) (ol : Nat → Int64) : Option (Int32 × (Nat → Int64) × QV × HV) :=
  (f_X10_crush tv qv hv a0 a1).bind fun o => jbM o (fun x => if (x.1) = 1 then some (1, ol, (x.2.1), (x.2.2)) else if (x.1) = 3 then some (2, ol, (x.2.1), (x.2.2)) else none) (fun y => some (0, (vp_updL ol (0 : Int32).toNatClampNeg (y.1).toInt64), (y.2.1), (y.2.2)))
def rm_L_crush : Room := { frames := 10, cells := 11, slots := 244, locals := 162 }
theorem hd_L_crush : yL_crush.cls = RL ∧ yL_crush.cls ≠ "java/lang/invoke/MethodHandle" ∧ yL_crush.cls ≠ "java/lang/invoke/VarHandle" ∧ (parseMethodDescriptor yL_crush.desc).map (fun d => d.parameters.length) = some 4 := by decide +kernel
set_option maxHeartbeats 4000000 in
set_option maxRecDepth 100000 in
theorem c_L_crush (l : Launch) (hlt : l.stackTraces = false) (g : GG) (ha : Nat → Nat → Nat) (hd : Nat → Nat → Nat) (tv : TV) (qv : QV) (hv : HV) (a0 : Int32) (a1 : Int32) (oa : Nat) (ol : Nat → Int64) (out : Int32 × (Nat → Int64) × QV × HV) (hf : f_L_crush tv qv hv a0 a1 ol = some out) : MzI (RT := Nat → Nat → Nat) l yL_crush wsL_crush rm_L_crush g (wT g ha tv ++ wQ g (ha 1) qv ++ wH g (ha 4) hd hv ++ [(oa, .inl (gC g 3, 1, .inr (.inl ol)))]) [.ref (ha 0 0), .int a0, .int a1, .ref oa] (fun _ => True) (fun _ => (out.1)) (fun hd1 => (wT g ha tv ++ wQ g (ha 1) (out.2.2.1) ++ wH g (ha 4) hd1 (out.2.2.2) ++ [(oa, .inl (gC g 3, 1, .inr (.inl (out.2.1))))])) 11 244 := by
  refine fun sz => mh_of (hh := [(0, 10, 13, 15), (0, 10, 17, 21)]) (cc := cL_crush) (maxL := 5) (ret := (some .int)) (own := RL) (Qc := fun A => va_Qi (fun r (hd1 : Nat → Nat → Nat) => True ∧ r = (out.1)) (fun hd1 t => PosM g A (wT g ha tv ++ wQ g (ha 1) (out.2.2.1) ++ wH g (ha 4) hd1 (out.2.2.2) ++ [(oa, .inl (gC g 3, 1, .inr (.inl (out.2.1))))]) t) A) (by decide +kernel) rfl rfl (Nat.le_of_ble_eq_true rfl) ?_ sz
  intro p e s mi below meth c A ls hB htb hrt hlk hP hD hl
  obtain ⟨hx, hb, hml, hown, hts, hK, hZ, hT, hA, -⟩ := hB
  have hS : va_S A s.heap s.heap [] := va_S.rf
  have hl : lv_has ls 5 [(0, .ref (ha 0 0)), (1, .int a0), (2, .int a1), (3, .ref oa)] := hl
  have kk0 := hts (.classLink RL 15 "java/lang/IllegalArgumentException") (by decide +kernel)
  have kk1 := hts (.classLink RL 21 "java/lang/IllegalStateException") (by decide +kernel)
  unfold f_L_crush at hf
  obtain ⟨o, hg, hf⟩ := jbB_e hf
  refine lv_aload_n hx hb dL_crush_0 rfl (lv_at hl 3 rfl) ?_
  refine lv_iconst (v := 0) hx hb dL_crush_1 (by decide) ?_
  refine lv_aload_n hx hb dL_crush_2 rfl (lv_at hl 0 rfl) ?_
  refine lv_iload_n hx hb dL_crush_3 rfl (lv_at hl 1 rfl) ?_
  refine lv_iload_n hx hb dL_crush_4 rfl (lv_at hl 2 rfl) ?_
  refine cypv_i (As := [.int a0, .int a1]) (rest := [.int 0, .ref oa]) (Wr := [(oa, .inl (gC g 3, 1, .inr (.inl ol)))]) (Wn := fun u => (wT g ha tv ++ wQ g (ha 1) (u.1.2.1) ++ wH g (ha 4) u.2 (u.1.2.2) ++ [(oa, .inl (gC g 3, 1, .inr (.inl ol)))])) (WnX := fun u => (wT g ha tv ++ wQ g (ha 1) (u.1.2.1) ++ wH g (ha 4) u.2 (u.1.2.2) ++ [(oa, .inl (gC g 3, 1, .inr (.inl ol)))])) ⟨hx, hb, hml, hown, hts⟩ (c_X10_crush l hlt g ha hd tv qv hv a0 a1 _ hg) (cwV 2 hts gL_crush_X10_crush rfl rfl rfl hd_X10_crush ⟨(Nat.le_of_ble_eq_true rfl), (Nat.le_of_ble_eq_true rfl)⟩) hK hZ hT hA hP hD hS hl.1 (va_recv hK hP (ci := 9) (q0 := 0) rfl rfl) (wp_of fun f => by simp only [List.countP_append, List.countP_cons, List.countP_nil] <;> omega) (fun _ => (wp_of fun f => by simp only [List.countP_append, List.countP_cons, List.countP_nil] <;> omega)) (fun _ => (wp_of fun f => by simp only [List.countP_append, List.countP_cons, List.countP_nil] <;> omega)) rfl rfl (Nat.le_of_ble_eq_true rfl) ⟨(Nat.le_of_ble_eq_true rfl), (Nat.le_of_ble_eq_true rfl)⟩ dL_crush_5 (fun u ce q9 H locs ho hP hD hS hce hcv hcl => ?_) (fun u H locs ho hP hD hS => ?_)
  · have ho9 := ho
    subst ho9
    have hf := jbM_l hf
    by_cases h0 : (u.1.1) = 1
    · have hf := jbT hf h0
      cases hf
      have hcl : s.vm.findClass "java/lang/IllegalArgumentException" = some ce.cls := by rw [h0] at hcl; exact hcl
      refine lx_catch hown hT [] (0, 10, 13, 15) [(0, 10, 17, 21)] htb exN_1 lx_n rfl (by decide) kk0 hce hcv hcl ?_
      refine lv_astore (lv' := [(4, .ref q9), (0, .ref (ha 0 0)), (1, .int a0), (2, .int a1), (3, .ref oa)]) hx hb dL_crush_13 hl (by decide) rfl (fun ls hl => ?_)
      refine lv_iconst (v := 1) hx hb dL_crush_15 (by decide) ?_
      refine rz_i (RT := Nat → Nat → Nat) (PR := fun _ => True) (rv := fun _ => 1) (W1 := fun hd1 => (wT g ha tv ++ wQ g (ha 1) (u.1.2.1) ++ wH g (ha 4) hd1 (u.1.2.2) ++ [(oa, .inl (gC g 3, 1, .inr (.inl ol)))])) u.2 trivial rfl hx hb hrt hlk rfl hK hP hD hS ?_ ?_ dL_crush_16 <;> exact Nat.le_of_ble_eq_true rfl
    · have hf := jbF hf h0
      by_cases h1 : (u.1.1) = 3
      · have hf := jbT hf h1
        cases hf
        have hcl : s.vm.findClass "java/lang/IllegalStateException" = some ce.cls := by rw [h1] at hcl; exact hcl
        refine lx_catch hown hT [(0, 10, 13, 15)] (0, 10, 17, 21) [] htb exN_3 (lx_c (nm := "java/lang/IllegalArgumentException") (by decide) exN_1 (by decide) kk0 lx_n) rfl (by decide) kk1 hce hcv hcl ?_
        refine lv_astore (lv' := [(4, .ref q9), (0, .ref (ha 0 0)), (1, .int a0), (2, .int a1), (3, .ref oa)]) hx hb dL_crush_17 hl (by decide) rfl (fun ls hl => ?_)
        refine lv_iconst (v := 2) hx hb dL_crush_19 (by decide) ?_
        refine rz_i (RT := Nat → Nat → Nat) (PR := fun _ => True) (rv := fun _ => 2) (W1 := fun hd1 => (wT g ha tv ++ wQ g (ha 1) (u.1.2.1) ++ wH g (ha 4) hd1 (u.1.2.2) ++ [(oa, .inl (gC g 3, 1, .inr (.inl ol)))])) u.2 trivial rfl hx hb hrt hlk rfl hK hP hD hS ?_ ?_ dL_crush_20 <;> exact Nat.le_of_ble_eq_true rfl
      · have hf := jbF hf h1
        cases hf
  have ho9 := ho
  subst ho9
  have hf := jbM_r hf
  cases hf
  refine lv_i2l (v := (u.1.1).toInt64) hx hb dL_crush_8 rfl ?_
  have hP9 : va_P (gD g) vwCl ([(oa, .inl (gC g 3, 1, .inr (.inl ol)))] ++ (wT g ha tv ++ wQ g (ha 1) (u.1.2.1) ++ wH g (ha 4) u.2 (u.1.2.2))) _ := wp_P (wp_of fun f => by simp only [List.countP_append, List.countP_cons, List.countP_nil] <;> omega) hP
  have hD9 : va_D A ([(oa, .inl (gC g 3, 1, .inr (.inl ol)))] ++ (wT g ha tv ++ wQ g (ha 1) (u.1.2.1) ++ wH g (ha 4) u.2 (u.1.2.2))) := wp_D (wp_of fun f => by simp only [List.countP_append, List.countP_cons, List.countP_nil] <;> omega) hD
  refine va_last hx hb hK hP9 hD9 hS 0 3 rfl rfl (i := 0) (x := (u.1.1).toInt64) vp_in01 dL_crush_9 (fun H locs hP hD hS => ?_)
  have hP : va_P (gD g) vwCl (wT g ha tv ++ wQ g (ha 1) (u.1.2.1) ++ wH g (ha 4) u.2 (u.1.2.2) ++ [(oa, .inl (gC g 3, 1, .inr (.inl (vp_updL ol (0 : Int32).toNatClampNeg (u.1.1).toInt64))))]) H := wp_P (a := [(oa, .inl (gC g 3, 1, .inr (.inl (vp_updL ol (0 : Int32).toNatClampNeg (u.1.1).toInt64))))] ++ (wT g ha tv ++ wQ g (ha 1) (u.1.2.1) ++ wH g (ha 4) u.2 (u.1.2.2))) (wp_of fun f => by simp only [List.countP_append, List.countP_cons, List.countP_nil] <;> omega) hP
  have hD : va_D A (wT g ha tv ++ wQ g (ha 1) (u.1.2.1) ++ wH g (ha 4) u.2 (u.1.2.2) ++ [(oa, .inl (gC g 3, 1, .inr (.inl (vp_updL ol (0 : Int32).toNatClampNeg (u.1.1).toInt64))))]) := wp_D (a := [(oa, .inl (gC g 3, 1, .inr (.inl (vp_updL ol (0 : Int32).toNatClampNeg (u.1.1).toInt64))))] ++ (wT g ha tv ++ wQ g (ha 1) (u.1.2.1) ++ wH g (ha 4) u.2 (u.1.2.2))) (wp_of fun f => by simp only [List.countP_append, List.countP_cons, List.countP_nil] <;> omega) hD
  refine lv_goto (tgt := 21) hx hb dL_crush_10 (by decide) ?_
  refine lv_iconst (v := 0) hx hb dL_crush_21 (by decide) ?_
  refine rz_i (RT := Nat → Nat → Nat) (PR := fun _ => True) (rv := fun _ => 0) (W1 := fun hd1 => (wT g ha tv ++ wQ g (ha 1) (u.1.2.1) ++ wH g (ha 4) hd1 (u.1.2.2) ++ [(oa, .inl (gC g 3, 1, .inr (.inl (vp_updL ol (0 : Int32).toNatClampNeg (u.1.1).toInt64))))])) u.2 trivial rfl hx hb hrt hlk rfl hK hP hD hS ?_ ?_ dL_crush_22 <;> exact Nat.le_of_ble_eq_true rfl
def f_L_height (tv : TV) (qv : QV) (a0 : Int32) (a1 : Int32) (ol : Nat → Int64) : Option (Int32 × (Nat → Int64)) :=
  (f_X10_height tv qv a0 a1).bind fun o => jbM o (fun x => if x = 0 then some (1, ol) else none) (fun y => some (0, (vp_updL ol (0 : Int32).toNatClampNeg y.toInt64)))
def rm_L_height : Room := { frames := 10, cells := 1, slots := 6, locals := 162 }
theorem hd_L_height : yL_height.cls = RL ∧ yL_height.cls ≠ "java/lang/invoke/MethodHandle" ∧ yL_height.cls ≠ "java/lang/invoke/VarHandle" ∧ (parseMethodDescriptor yL_height.desc).map (fun d => d.parameters.length) = some 4 := by decide +kernel
set_option maxHeartbeats 4000000 in
set_option maxRecDepth 100000 in
theorem c_L_height (l : Launch) (hlt : l.stackTraces = false) (g : GG) (ha : Nat → Nat → Nat) (tv : TV) (qv : QV) (a0 : Int32) (a1 : Int32) (oa : Nat) (ol : Nat → Int64) (out : Int32 × (Nat → Int64)) (hf : f_L_height tv qv a0 a1 ol = some out) : MtI l yL_height wsL_height rm_L_height g (wT g ha tv ++ wQ g (ha 1) qv ++ [(oa, .inl (gC g 3, 1, .inr (.inl ol)))]) [.ref (ha 0 0), .int a0, .int a1, .ref oa] (out.1) (wT g ha tv ++ wQ g (ha 1) qv ++ [(oa, .inl (gC g 3, 1, .inr (.inl (out.2))))]) 1 6 := by
  refine fun sz => mh_of (hh := [(0, 10, 13, 13)]) (cc := cL_height) (maxL := 5) (ret := (some .int)) (own := RL) (Qc := fun A => va_Qi (fun r (_ : Unit) => r = (out.1)) (fun _ t => PosM g A (wT g ha tv ++ wQ g (ha 1) qv ++ [(oa, .inl (gC g 3, 1, .inr (.inl (out.2))))]) t) A) (by decide +kernel) rfl rfl (Nat.le_of_ble_eq_true rfl) ?_ sz
  intro p e s mi below meth c A ls hB htb hrt hlk hP hD hl
  obtain ⟨hx, hb, hml, hown, hts, hK, hZ, hT, hA, -⟩ := hB
  have hS : va_S A s.heap s.heap [] := va_S.rf
  have hl : lv_has ls 5 [(0, .ref (ha 0 0)), (1, .int a0), (2, .int a1), (3, .ref oa)] := hl
  have kk0 := hts (.classLink RL 13 "java/lang/IndexOutOfBoundsException") (by decide +kernel)
  unfold f_L_height at hf
  obtain ⟨o, hg, hf⟩ := jbB_e hf
  refine lv_aload_n hx hb dL_height_0 rfl (lv_at hl 3 rfl) ?_
  refine lv_iconst (v := 0) hx hb dL_height_1 (by decide) ?_
  refine lv_aload_n hx hb dL_height_2 rfl (lv_at hl 0 rfl) ?_
  refine lv_iload_n hx hb dL_height_3 rfl (lv_at hl 1 rfl) ?_
  refine lv_iload_n hx hb dL_height_4 rfl (lv_at hl 2 rfl) ?_
  refine cxpv_i (As := [.int a0, .int a1]) (rest := [.int 0, .ref oa]) (Wr := [(oa, .inl (gC g 3, 1, .inr (.inl ol)))]) (Wn := fun u => (wT g ha tv ++ wQ g (ha 1) qv ++ [(oa, .inl (gC g 3, 1, .inr (.inl ol)))])) (WnX := fun u => (wT g ha tv ++ wQ g (ha 1) qv ++ [(oa, .inl (gC g 3, 1, .inr (.inl ol)))])) ⟨hx, hb, hml, hown, hts⟩ (c_X10_height l hlt g ha tv qv a0 a1 _ hg) (cwV 2 hts gL_height_X10_height rfl rfl rfl hd_X10_height ⟨(Nat.le_of_ble_eq_true rfl), (Nat.le_of_ble_eq_true rfl)⟩) hK hZ hT hA hP hD hS hl.1 (va_recv hK hP (ci := 9) (q0 := 0) rfl rfl) (wp_of fun f => by simp only [List.countP_append, List.countP_cons, List.countP_nil] <;> omega) (fun _ => (wp_of fun f => by simp only [List.countP_append, List.countP_cons, List.countP_nil] <;> omega)) (fun _ => (wp_of fun f => by simp only [List.countP_append, List.countP_cons, List.countP_nil] <;> omega)) rfl rfl (Nat.le_of_ble_eq_true rfl) ⟨(Nat.le_of_ble_eq_true rfl), (Nat.le_of_ble_eq_true rfl)⟩ dL_height_5 (fun u ce q9 H locs ho hP hD hS hce hcv hcl => ?_) (fun u H locs ho hP hD hS => ?_)
  · have ho9 := ho
    subst ho9
    have hf := jbM_l hf
    by_cases h0 : u = 0
    · have hf := jbT hf h0
      cases hf
      have hcl : s.vm.findClass "java/lang/IndexOutOfBoundsException" = some ce.cls := by rw [h0] at hcl; exact hcl
      refine lx_catch hown hT [] (0, 10, 13, 13) [] htb exN_0 lx_n rfl (by decide) kk0 hce hcv hcl ?_
      refine lv_astore (lv' := [(4, .ref q9), (0, .ref (ha 0 0)), (1, .int a0), (2, .int a1), (3, .ref oa)]) hx hb dL_height_13 hl (by decide) rfl (fun ls hl => ?_)
      refine lv_iconst (v := 1) hx hb dL_height_15 (by decide) ?_
      exact rt_i hx hb hrt hlk rfl hK hP hD hS (Nat.le_of_ble_eq_true rfl) (Nat.le_of_ble_eq_true rfl) dL_height_16
    · have hf := jbF hf h0
      cases hf
  have ho9 := ho
  subst ho9
  have hf := jbM_r hf
  cases hf
  refine lv_i2l (v := u.toInt64) hx hb dL_height_8 rfl ?_
  have hP9 : va_P (gD g) vwCl ([(oa, .inl (gC g 3, 1, .inr (.inl ol)))] ++ (wT g ha tv ++ wQ g (ha 1) qv)) _ := wp_P (wp_of fun f => by simp only [List.countP_append, List.countP_cons, List.countP_nil] <;> omega) hP
  have hD9 : va_D A ([(oa, .inl (gC g 3, 1, .inr (.inl ol)))] ++ (wT g ha tv ++ wQ g (ha 1) qv)) := wp_D (wp_of fun f => by simp only [List.countP_append, List.countP_cons, List.countP_nil] <;> omega) hD
  refine va_last hx hb hK hP9 hD9 hS 0 3 rfl rfl (i := 0) (x := u.toInt64) vp_in01 dL_height_9 (fun H locs hP hD hS => ?_)
  have hP : va_P (gD g) vwCl (wT g ha tv ++ wQ g (ha 1) qv ++ [(oa, .inl (gC g 3, 1, .inr (.inl (vp_updL ol (0 : Int32).toNatClampNeg u.toInt64))))]) H := wp_P (a := [(oa, .inl (gC g 3, 1, .inr (.inl (vp_updL ol (0 : Int32).toNatClampNeg u.toInt64))))] ++ (wT g ha tv ++ wQ g (ha 1) qv)) (wp_of fun f => by simp only [List.countP_append, List.countP_cons, List.countP_nil] <;> omega) hP
  have hD : va_D A (wT g ha tv ++ wQ g (ha 1) qv ++ [(oa, .inl (gC g 3, 1, .inr (.inl (vp_updL ol (0 : Int32).toNatClampNeg u.toInt64))))]) := wp_D (a := [(oa, .inl (gC g 3, 1, .inr (.inl (vp_updL ol (0 : Int32).toNatClampNeg u.toInt64))))] ++ (wT g ha tv ++ wQ g (ha 1) qv)) (wp_of fun f => by simp only [List.countP_append, List.countP_cons, List.countP_nil] <;> omega) hD
  refine lv_goto (tgt := 17) hx hb dL_height_10 (by decide) ?_
  refine lv_iconst (v := 0) hx hb dL_height_17 (by decide) ?_
  exact rt_i hx hb hrt hlk rfl hK hP hD hS (Nat.le_of_ble_eq_true rfl) (Nat.le_of_ble_eq_true rfl) dL_height_18
def f_L_stone (tv : TV) (qv : QV) (a0 : Int32) (a1 : Int32) (ol : Nat → Int64) : Option (Int32 × (Nat → Int64)) :=
  (f_X10_stone tv qv a0 a1).bind fun o => jbM o (fun x => if x = 0 then some (1, ol) else none) (fun y => some (0, (vp_updL ol (0 : Int32).toNatClampNeg y.toInt64)))
def rm_L_stone : Room := { frames := 10, cells := 1, slots := 6, locals := 162 }
theorem hd_L_stone : yL_stone.cls = RL ∧ yL_stone.cls ≠ "java/lang/invoke/MethodHandle" ∧ yL_stone.cls ≠ "java/lang/invoke/VarHandle" ∧ (parseMethodDescriptor yL_stone.desc).map (fun d => d.parameters.length) = some 4 := by decide +kernel
set_option maxHeartbeats 4000000 in
set_option maxRecDepth 100000 in
theorem c_L_stone (l : Launch) (hlt : l.stackTraces = false) (g : GG) (ha : Nat → Nat → Nat) (tv : TV) (qv : QV) (a0 : Int32) (a1 : Int32) (oa : Nat) (ol : Nat → Int64) (out : Int32 × (Nat → Int64)) (hf : f_L_stone tv qv a0 a1 ol = some out) : MtI l yL_stone wsL_stone rm_L_stone g (wT g ha tv ++ wQ g (ha 1) qv ++ [(oa, .inl (gC g 3, 1, .inr (.inl ol)))]) [.ref (ha 0 0), .int a0, .int a1, .ref oa] (out.1) (wT g ha tv ++ wQ g (ha 1) qv ++ [(oa, .inl (gC g 3, 1, .inr (.inl (out.2))))]) 1 6 := by
  refine fun sz => mh_of (hh := [(0, 10, 13, 13)]) (cc := cL_stone) (maxL := 5) (ret := (some .int)) (own := RL) (Qc := fun A => va_Qi (fun r (_ : Unit) => r = (out.1)) (fun _ t => PosM g A (wT g ha tv ++ wQ g (ha 1) qv ++ [(oa, .inl (gC g 3, 1, .inr (.inl (out.2))))]) t) A) (by decide +kernel) rfl rfl (Nat.le_of_ble_eq_true rfl) ?_ sz
  intro p e s mi below meth c A ls hB htb hrt hlk hP hD hl
  obtain ⟨hx, hb, hml, hown, hts, hK, hZ, hT, hA, -⟩ := hB
  have hS : va_S A s.heap s.heap [] := va_S.rf
  have hl : lv_has ls 5 [(0, .ref (ha 0 0)), (1, .int a0), (2, .int a1), (3, .ref oa)] := hl
  have kk0 := hts (.classLink RL 13 "java/lang/IndexOutOfBoundsException") (by decide +kernel)
  unfold f_L_stone at hf
  obtain ⟨o, hg, hf⟩ := jbB_e hf
  refine lv_aload_n hx hb dL_stone_0 rfl (lv_at hl 3 rfl) ?_
  refine lv_iconst (v := 0) hx hb dL_stone_1 (by decide) ?_
  refine lv_aload_n hx hb dL_stone_2 rfl (lv_at hl 0 rfl) ?_
  refine lv_iload_n hx hb dL_stone_3 rfl (lv_at hl 1 rfl) ?_
  refine lv_iload_n hx hb dL_stone_4 rfl (lv_at hl 2 rfl) ?_
  refine cxpv_i (As := [.int a0, .int a1]) (rest := [.int 0, .ref oa]) (Wr := [(oa, .inl (gC g 3, 1, .inr (.inl ol)))]) (Wn := fun u => (wT g ha tv ++ wQ g (ha 1) qv ++ [(oa, .inl (gC g 3, 1, .inr (.inl ol)))])) (WnX := fun u => (wT g ha tv ++ wQ g (ha 1) qv ++ [(oa, .inl (gC g 3, 1, .inr (.inl ol)))])) ⟨hx, hb, hml, hown, hts⟩ (c_X10_stone l hlt g ha tv qv a0 a1 _ hg) (cwV 2 hts gL_stone_X10_stone rfl rfl rfl hd_X10_stone ⟨(Nat.le_of_ble_eq_true rfl), (Nat.le_of_ble_eq_true rfl)⟩) hK hZ hT hA hP hD hS hl.1 (va_recv hK hP (ci := 9) (q0 := 0) rfl rfl) (wp_of fun f => by simp only [List.countP_append, List.countP_cons, List.countP_nil] <;> omega) (fun _ => (wp_of fun f => by simp only [List.countP_append, List.countP_cons, List.countP_nil] <;> omega)) (fun _ => (wp_of fun f => by simp only [List.countP_append, List.countP_cons, List.countP_nil] <;> omega)) rfl rfl (Nat.le_of_ble_eq_true rfl) ⟨(Nat.le_of_ble_eq_true rfl), (Nat.le_of_ble_eq_true rfl)⟩ dL_stone_5 (fun u ce q9 H locs ho hP hD hS hce hcv hcl => ?_) (fun u H locs ho hP hD hS => ?_)
  · have ho9 := ho
    subst ho9
    have hf := jbM_l hf
    by_cases h0 : u = 0
    · have hf := jbT hf h0
      cases hf
      have hcl : s.vm.findClass "java/lang/IndexOutOfBoundsException" = some ce.cls := by rw [h0] at hcl; exact hcl
      refine lx_catch hown hT [] (0, 10, 13, 13) [] htb exN_0 lx_n rfl (by decide) kk0 hce hcv hcl ?_
      refine lv_astore (lv' := [(4, .ref q9), (0, .ref (ha 0 0)), (1, .int a0), (2, .int a1), (3, .ref oa)]) hx hb dL_stone_13 hl (by decide) rfl (fun ls hl => ?_)
      refine lv_iconst (v := 1) hx hb dL_stone_15 (by decide) ?_
      exact rt_i hx hb hrt hlk rfl hK hP hD hS (Nat.le_of_ble_eq_true rfl) (Nat.le_of_ble_eq_true rfl) dL_stone_16
    · have hf := jbF hf h0
      cases hf
  have ho9 := ho
  subst ho9
  have hf := jbM_r hf
  cases hf
  refine lv_i2l (v := u.toInt64) hx hb dL_stone_8 rfl ?_
  have hP9 : va_P (gD g) vwCl ([(oa, .inl (gC g 3, 1, .inr (.inl ol)))] ++ (wT g ha tv ++ wQ g (ha 1) qv)) _ := wp_P (wp_of fun f => by simp only [List.countP_append, List.countP_cons, List.countP_nil] <;> omega) hP
  have hD9 : va_D A ([(oa, .inl (gC g 3, 1, .inr (.inl ol)))] ++ (wT g ha tv ++ wQ g (ha 1) qv)) := wp_D (wp_of fun f => by simp only [List.countP_append, List.countP_cons, List.countP_nil] <;> omega) hD
  refine va_last hx hb hK hP9 hD9 hS 0 3 rfl rfl (i := 0) (x := u.toInt64) vp_in01 dL_stone_9 (fun H locs hP hD hS => ?_)
  have hP : va_P (gD g) vwCl (wT g ha tv ++ wQ g (ha 1) qv ++ [(oa, .inl (gC g 3, 1, .inr (.inl (vp_updL ol (0 : Int32).toNatClampNeg u.toInt64))))]) H := wp_P (a := [(oa, .inl (gC g 3, 1, .inr (.inl (vp_updL ol (0 : Int32).toNatClampNeg u.toInt64))))] ++ (wT g ha tv ++ wQ g (ha 1) qv)) (wp_of fun f => by simp only [List.countP_append, List.countP_cons, List.countP_nil] <;> omega) hP
  have hD : va_D A (wT g ha tv ++ wQ g (ha 1) qv ++ [(oa, .inl (gC g 3, 1, .inr (.inl (vp_updL ol (0 : Int32).toNatClampNeg u.toInt64))))]) := wp_D (a := [(oa, .inl (gC g 3, 1, .inr (.inl (vp_updL ol (0 : Int32).toNatClampNeg u.toInt64))))] ++ (wT g ha tv ++ wQ g (ha 1) qv)) (wp_of fun f => by simp only [List.countP_append, List.countP_cons, List.countP_nil] <;> omega) hD
  refine lv_goto (tgt := 17) hx hb dL_stone_10 (by decide) ?_
  refine lv_iconst (v := 0) hx hb dL_stone_17 (by decide) ?_
  exact rt_i hx hb hrt hlk rfl hK hP hD hS (Nat.le_of_ble_eq_true rfl) (Nat.le_of_ble_eq_true rfl) dL_stone_18
def f_L_isLedge (tv : TV) (qv : QV) (a0 : Int32) (a1 : Int32) (ol : Nat → Int64) : Option (Int32 × (Nat → Int64)) :=
  (f_X10_isLedge tv qv a0 a1).bind fun o => jbM o (fun x => if x = 0 then some (1, ol) else none) (fun y => if y = 0 then some (0, (vp_updL ol (0 : Int32).toNatClampNeg 0)) else some (0, (vp_updL ol (0 : Int32).toNatClampNeg 1)))
def rm_L_isLedge : Room := { frames := 10, cells := 1, slots := 6, locals := 162 }
theorem hd_L_isLedge : yL_isLedge.cls = RL ∧ yL_isLedge.cls ≠ "java/lang/invoke/MethodHandle" ∧ yL_isLedge.cls ≠ "java/lang/invoke/VarHandle" ∧ (parseMethodDescriptor yL_isLedge.desc).map (fun d => d.parameters.length) = some 4 := by decide +kernel
set_option maxHeartbeats 4000000 in
set_option maxRecDepth 100000 in
theorem c_L_isLedge (l : Launch) (hlt : l.stackTraces = false) (g : GG) (ha : Nat → Nat → Nat) (tv : TV) (qv : QV) (a0 : Int32) (a1 : Int32) (oa : Nat) (ol : Nat → Int64) (out : Int32 × (Nat → Int64)) (hf : f_L_isLedge tv qv a0 a1 ol = some out) : MtI l yL_isLedge wsL_isLedge rm_L_isLedge g (wT g ha tv ++ wQ g (ha 1) qv ++ [(oa, .inl (gC g 3, 1, .inr (.inl ol)))]) [.ref (ha 0 0), .int a0, .int a1, .ref oa] (out.1) (wT g ha tv ++ wQ g (ha 1) qv ++ [(oa, .inl (gC g 3, 1, .inr (.inl (out.2))))]) 1 6 := by
  refine fun sz => mh_of (hh := [(0, 17, 20, 13)]) (cc := cL_isLedge) (maxL := 5) (ret := (some .int)) (own := RL) (Qc := fun A => va_Qi (fun r (_ : Unit) => r = (out.1)) (fun _ t => PosM g A (wT g ha tv ++ wQ g (ha 1) qv ++ [(oa, .inl (gC g 3, 1, .inr (.inl (out.2))))]) t) A) (by decide +kernel) rfl rfl (Nat.le_of_ble_eq_true rfl) ?_ sz
  intro p e s mi below meth c A ls hB htb hrt hlk hP hD hl
  obtain ⟨hx, hb, hml, hown, hts, hK, hZ, hT, hA, -⟩ := hB
  have hS : va_S A s.heap s.heap [] := va_S.rf
  have hl : lv_has ls 5 [(0, .ref (ha 0 0)), (1, .int a0), (2, .int a1), (3, .ref oa)] := hl
  have kk0 := hts (.classLink RL 13 "java/lang/IndexOutOfBoundsException") (by decide +kernel)
  unfold f_L_isLedge at hf
  obtain ⟨o, hg, hf⟩ := jbB_e hf
  refine lv_aload_n hx hb dL_isLedge_0 rfl (lv_at hl 3 rfl) ?_
  refine lv_iconst (v := 0) hx hb dL_isLedge_1 (by decide) ?_
  refine lv_aload_n hx hb dL_isLedge_2 rfl (lv_at hl 0 rfl) ?_
  refine lv_iload_n hx hb dL_isLedge_3 rfl (lv_at hl 1 rfl) ?_
  refine lv_iload_n hx hb dL_isLedge_4 rfl (lv_at hl 2 rfl) ?_
  refine cxpv_i (As := [.int a0, .int a1]) (rest := [.int 0, .ref oa]) (Wr := [(oa, .inl (gC g 3, 1, .inr (.inl ol)))]) (Wn := fun u => (wT g ha tv ++ wQ g (ha 1) qv ++ [(oa, .inl (gC g 3, 1, .inr (.inl ol)))])) (WnX := fun u => (wT g ha tv ++ wQ g (ha 1) qv ++ [(oa, .inl (gC g 3, 1, .inr (.inl ol)))])) ⟨hx, hb, hml, hown, hts⟩ (c_X10_isLedge l hlt g ha tv qv a0 a1 _ hg) (cwV 2 hts gL_isLedge_X10_isLedge rfl rfl rfl hd_X10_isLedge ⟨(Nat.le_of_ble_eq_true rfl), (Nat.le_of_ble_eq_true rfl)⟩) hK hZ hT hA hP hD hS hl.1 (va_recv hK hP (ci := 9) (q0 := 0) rfl rfl) (wp_of fun f => by simp only [List.countP_append, List.countP_cons, List.countP_nil] <;> omega) (fun _ => (wp_of fun f => by simp only [List.countP_append, List.countP_cons, List.countP_nil] <;> omega)) (fun _ => (wp_of fun f => by simp only [List.countP_append, List.countP_cons, List.countP_nil] <;> omega)) rfl rfl (Nat.le_of_ble_eq_true rfl) ⟨(Nat.le_of_ble_eq_true rfl), (Nat.le_of_ble_eq_true rfl)⟩ dL_isLedge_5 (fun u ce q9 H locs ho hP hD hS hce hcv hcl => ?_) (fun u H locs ho hP hD hS => ?_)
  · have ho9 := ho
    subst ho9
    have hf := jbM_l hf
    by_cases h0 : u = 0
    · have hf := jbT hf h0
      cases hf
      have hcl : s.vm.findClass "java/lang/IndexOutOfBoundsException" = some ce.cls := by rw [h0] at hcl; exact hcl
      refine lx_catch hown hT [] (0, 17, 20, 13) [] htb exN_0 lx_n rfl (by decide) kk0 hce hcv hcl ?_
      refine lv_astore (lv' := [(4, .ref q9), (0, .ref (ha 0 0)), (1, .int a0), (2, .int a1), (3, .ref oa)]) hx hb dL_isLedge_20 hl (by decide) rfl (fun ls hl => ?_)
      refine lv_iconst (v := 1) hx hb dL_isLedge_22 (by decide) ?_
      exact rt_i hx hb hrt hlk rfl hK hP hD hS (Nat.le_of_ble_eq_true rfl) (Nat.le_of_ble_eq_true rfl) dL_isLedge_23
    · have hf := jbF hf h0
      cases hf
  have ho9 := ho
  subst ho9
  have hf := jbM_r hf
  refine lv_if_eq (tgt := 15) hx hb dL_isLedge_8 (by decide) (fun hc => ?_) (fun hc => ?_)
  · have hf := jbT hf hc
    cases hf
    refine lv_lconst (v := 0) hx hb dL_isLedge_15 (by decide) ?_
    have hP9 : va_P (gD g) vwCl ([(oa, .inl (gC g 3, 1, .inr (.inl ol)))] ++ (wT g ha tv ++ wQ g (ha 1) qv)) _ := wp_P (wp_of fun f => by simp only [List.countP_append, List.countP_cons, List.countP_nil] <;> omega) hP
    have hD9 : va_D A ([(oa, .inl (gC g 3, 1, .inr (.inl ol)))] ++ (wT g ha tv ++ wQ g (ha 1) qv)) := wp_D (wp_of fun f => by simp only [List.countP_append, List.countP_cons, List.countP_nil] <;> omega) hD
    refine va_last hx hb hK hP9 hD9 hS 0 3 rfl rfl (i := 0) (x := 0) vp_in01 dL_isLedge_16 (fun H locs hP hD hS => ?_)
    have hP : va_P (gD g) vwCl (wT g ha tv ++ wQ g (ha 1) qv ++ [(oa, .inl (gC g 3, 1, .inr (.inl (vp_updL ol (0 : Int32).toNatClampNeg 0))))]) H := wp_P (a := [(oa, .inl (gC g 3, 1, .inr (.inl (vp_updL ol (0 : Int32).toNatClampNeg 0))))] ++ (wT g ha tv ++ wQ g (ha 1) qv)) (wp_of fun f => by simp only [List.countP_append, List.countP_cons, List.countP_nil] <;> omega) hP
    have hD : va_D A (wT g ha tv ++ wQ g (ha 1) qv ++ [(oa, .inl (gC g 3, 1, .inr (.inl (vp_updL ol (0 : Int32).toNatClampNeg 0))))]) := wp_D (a := [(oa, .inl (gC g 3, 1, .inr (.inl (vp_updL ol (0 : Int32).toNatClampNeg 0))))] ++ (wT g ha tv ++ wQ g (ha 1) qv)) (wp_of fun f => by simp only [List.countP_append, List.countP_cons, List.countP_nil] <;> omega) hD
    refine lv_goto (tgt := 24) hx hb dL_isLedge_17 (by decide) ?_
    refine lv_iconst (v := 0) hx hb dL_isLedge_24 (by decide) ?_
    exact rt_i hx hb hrt hlk rfl hK hP hD hS (Nat.le_of_ble_eq_true rfl) (Nat.le_of_ble_eq_true rfl) dL_isLedge_25
  · have hf := jbF hf hc
    cases hf
    refine lv_lconst (v := 1) hx hb dL_isLedge_11 (by decide) ?_
    refine lv_goto (tgt := 16) hx hb dL_isLedge_12 (by decide) ?_
    have hP9 : va_P (gD g) vwCl ([(oa, .inl (gC g 3, 1, .inr (.inl ol)))] ++ (wT g ha tv ++ wQ g (ha 1) qv)) _ := wp_P (wp_of fun f => by simp only [List.countP_append, List.countP_cons, List.countP_nil] <;> omega) hP
    have hD9 : va_D A ([(oa, .inl (gC g 3, 1, .inr (.inl ol)))] ++ (wT g ha tv ++ wQ g (ha 1) qv)) := wp_D (wp_of fun f => by simp only [List.countP_append, List.countP_cons, List.countP_nil] <;> omega) hD
    refine va_last hx hb hK hP9 hD9 hS 0 3 rfl rfl (i := 0) (x := 1) vp_in01 dL_isLedge_16 (fun H locs hP hD hS => ?_)
    have hP : va_P (gD g) vwCl (wT g ha tv ++ wQ g (ha 1) qv ++ [(oa, .inl (gC g 3, 1, .inr (.inl (vp_updL ol (0 : Int32).toNatClampNeg 1))))]) H := wp_P (a := [(oa, .inl (gC g 3, 1, .inr (.inl (vp_updL ol (0 : Int32).toNatClampNeg 1))))] ++ (wT g ha tv ++ wQ g (ha 1) qv)) (wp_of fun f => by simp only [List.countP_append, List.countP_cons, List.countP_nil] <;> omega) hP
    have hD : va_D A (wT g ha tv ++ wQ g (ha 1) qv ++ [(oa, .inl (gC g 3, 1, .inr (.inl (vp_updL ol (0 : Int32).toNatClampNeg 1))))]) := wp_D (a := [(oa, .inl (gC g 3, 1, .inr (.inl (vp_updL ol (0 : Int32).toNatClampNeg 1))))] ++ (wT g ha tv ++ wQ g (ha 1) qv)) (wp_of fun f => by simp only [List.countP_append, List.countP_cons, List.countP_nil] <;> omega) hD
    refine lv_goto (tgt := 24) hx hb dL_isLedge_17 (by decide) ?_
    refine lv_iconst (v := 0) hx hb dL_isLedge_24 (by decide) ?_
    exact rt_i hx hb hrt hlk rfl hK hP hD hS (Nat.le_of_ble_eq_true rfl) (Nat.le_of_ble_eq_true rfl) dL_isLedge_25
def f_L_looseBlocks (tv : TV) (qv : QV) (a0 : Int32) (a1 : Int32) (ol : Nat → Int64) : Option (Int32 × (Nat → Int64)) :=
  (f_X10_looseBlocks tv qv a0 a1).bind fun o => jbM o (fun x => if x = 0 then some (1, ol) else none) (fun y => some (0, (vp_updL ol (0 : Int32).toNatClampNeg y.toInt64)))
def rm_L_looseBlocks : Room := { frames := 10, cells := 1, slots := 6, locals := 162 }
theorem hd_L_looseBlocks : yL_looseBlocks.cls = RL ∧ yL_looseBlocks.cls ≠ "java/lang/invoke/MethodHandle" ∧ yL_looseBlocks.cls ≠ "java/lang/invoke/VarHandle" ∧ (parseMethodDescriptor yL_looseBlocks.desc).map (fun d => d.parameters.length) = some 4 := by decide +kernel
set_option maxHeartbeats 4000000 in
set_option maxRecDepth 100000 in
theorem c_L_looseBlocks (l : Launch) (hlt : l.stackTraces = false) (g : GG) (ha : Nat → Nat → Nat) (tv : TV) (qv : QV) (a0 : Int32) (a1 : Int32) (oa : Nat) (ol : Nat → Int64) (out : Int32 × (Nat → Int64)) (hf : f_L_looseBlocks tv qv a0 a1 ol = some out) : MtI l yL_looseBlocks wsL_looseBlocks rm_L_looseBlocks g (wT g ha tv ++ wQ g (ha 1) qv ++ [(oa, .inl (gC g 3, 1, .inr (.inl ol)))]) [.ref (ha 0 0), .int a0, .int a1, .ref oa] (out.1) (wT g ha tv ++ wQ g (ha 1) qv ++ [(oa, .inl (gC g 3, 1, .inr (.inl (out.2))))]) 1 6 := by
  refine fun sz => mh_of (hh := [(0, 10, 13, 13)]) (cc := cL_looseBlocks) (maxL := 5) (ret := (some .int)) (own := RL) (Qc := fun A => va_Qi (fun r (_ : Unit) => r = (out.1)) (fun _ t => PosM g A (wT g ha tv ++ wQ g (ha 1) qv ++ [(oa, .inl (gC g 3, 1, .inr (.inl (out.2))))]) t) A) (by decide +kernel) rfl rfl (Nat.le_of_ble_eq_true rfl) ?_ sz
  intro p e s mi below meth c A ls hB htb hrt hlk hP hD hl
  obtain ⟨hx, hb, hml, hown, hts, hK, hZ, hT, hA, -⟩ := hB
  have hS : va_S A s.heap s.heap [] := va_S.rf
  have hl : lv_has ls 5 [(0, .ref (ha 0 0)), (1, .int a0), (2, .int a1), (3, .ref oa)] := hl
  have kk0 := hts (.classLink RL 13 "java/lang/IndexOutOfBoundsException") (by decide +kernel)
  unfold f_L_looseBlocks at hf
  obtain ⟨o, hg, hf⟩ := jbB_e hf
  refine lv_aload_n hx hb dL_looseBlocks_0 rfl (lv_at hl 3 rfl) ?_
  refine lv_iconst (v := 0) hx hb dL_looseBlocks_1 (by decide) ?_
  refine lv_aload_n hx hb dL_looseBlocks_2 rfl (lv_at hl 0 rfl) ?_
  refine lv_iload_n hx hb dL_looseBlocks_3 rfl (lv_at hl 1 rfl) ?_
  refine lv_iload_n hx hb dL_looseBlocks_4 rfl (lv_at hl 2 rfl) ?_
  refine cxpv_i (As := [.int a0, .int a1]) (rest := [.int 0, .ref oa]) (Wr := [(oa, .inl (gC g 3, 1, .inr (.inl ol)))]) (Wn := fun u => (wT g ha tv ++ wQ g (ha 1) qv ++ [(oa, .inl (gC g 3, 1, .inr (.inl ol)))])) (WnX := fun u => (wT g ha tv ++ wQ g (ha 1) qv ++ [(oa, .inl (gC g 3, 1, .inr (.inl ol)))])) ⟨hx, hb, hml, hown, hts⟩ (c_X10_looseBlocks l hlt g ha tv qv a0 a1 _ hg) (cwV 2 hts gL_looseBlocks_X10_looseBlocks rfl rfl rfl hd_X10_looseBlocks ⟨(Nat.le_of_ble_eq_true rfl), (Nat.le_of_ble_eq_true rfl)⟩) hK hZ hT hA hP hD hS hl.1 (va_recv hK hP (ci := 9) (q0 := 0) rfl rfl) (wp_of fun f => by simp only [List.countP_append, List.countP_cons, List.countP_nil] <;> omega) (fun _ => (wp_of fun f => by simp only [List.countP_append, List.countP_cons, List.countP_nil] <;> omega)) (fun _ => (wp_of fun f => by simp only [List.countP_append, List.countP_cons, List.countP_nil] <;> omega)) rfl rfl (Nat.le_of_ble_eq_true rfl) ⟨(Nat.le_of_ble_eq_true rfl), (Nat.le_of_ble_eq_true rfl)⟩ dL_looseBlocks_5 (fun u ce q9 H locs ho hP hD hS hce hcv hcl => ?_) (fun u H locs ho hP hD hS => ?_)
  · have ho9 := ho
    subst ho9
    have hf := jbM_l hf
    by_cases h0 : u = 0
    · have hf := jbT hf h0
      cases hf
      have hcl : s.vm.findClass "java/lang/IndexOutOfBoundsException" = some ce.cls := by rw [h0] at hcl; exact hcl
      refine lx_catch hown hT [] (0, 10, 13, 13) [] htb exN_0 lx_n rfl (by decide) kk0 hce hcv hcl ?_
      refine lv_astore (lv' := [(4, .ref q9), (0, .ref (ha 0 0)), (1, .int a0), (2, .int a1), (3, .ref oa)]) hx hb dL_looseBlocks_13 hl (by decide) rfl (fun ls hl => ?_)
      refine lv_iconst (v := 1) hx hb dL_looseBlocks_15 (by decide) ?_
      exact rt_i hx hb hrt hlk rfl hK hP hD hS (Nat.le_of_ble_eq_true rfl) (Nat.le_of_ble_eq_true rfl) dL_looseBlocks_16
    · have hf := jbF hf h0
      cases hf
  have ho9 := ho
  subst ho9
  have hf := jbM_r hf
  cases hf
  refine lv_i2l (v := u.toInt64) hx hb dL_looseBlocks_8 rfl ?_
  have hP9 : va_P (gD g) vwCl ([(oa, .inl (gC g 3, 1, .inr (.inl ol)))] ++ (wT g ha tv ++ wQ g (ha 1) qv)) _ := wp_P (wp_of fun f => by simp only [List.countP_append, List.countP_cons, List.countP_nil] <;> omega) hP
  have hD9 : va_D A ([(oa, .inl (gC g 3, 1, .inr (.inl ol)))] ++ (wT g ha tv ++ wQ g (ha 1) qv)) := wp_D (wp_of fun f => by simp only [List.countP_append, List.countP_cons, List.countP_nil] <;> omega) hD
  refine va_last hx hb hK hP9 hD9 hS 0 3 rfl rfl (i := 0) (x := u.toInt64) vp_in01 dL_looseBlocks_9 (fun H locs hP hD hS => ?_)
  have hP : va_P (gD g) vwCl (wT g ha tv ++ wQ g (ha 1) qv ++ [(oa, .inl (gC g 3, 1, .inr (.inl (vp_updL ol (0 : Int32).toNatClampNeg u.toInt64))))]) H := wp_P (a := [(oa, .inl (gC g 3, 1, .inr (.inl (vp_updL ol (0 : Int32).toNatClampNeg u.toInt64))))] ++ (wT g ha tv ++ wQ g (ha 1) qv)) (wp_of fun f => by simp only [List.countP_append, List.countP_cons, List.countP_nil] <;> omega) hP
  have hD : va_D A (wT g ha tv ++ wQ g (ha 1) qv ++ [(oa, .inl (gC g 3, 1, .inr (.inl (vp_updL ol (0 : Int32).toNatClampNeg u.toInt64))))]) := wp_D (a := [(oa, .inl (gC g 3, 1, .inr (.inl (vp_updL ol (0 : Int32).toNatClampNeg u.toInt64))))] ++ (wT g ha tv ++ wQ g (ha 1) qv)) (wp_of fun f => by simp only [List.countP_append, List.countP_cons, List.countP_nil] <;> omega) hD
  refine lv_goto (tgt := 17) hx hb dL_looseBlocks_10 (by decide) ?_
  refine lv_iconst (v := 0) hx hb dL_looseBlocks_17 (by decide) ?_
  exact rt_i hx hb hrt hlk rfl hK hP hD hS (Nat.le_of_ble_eq_true rfl) (Nat.le_of_ble_eq_true rfl) dL_looseBlocks_18
def f_L_topBlock (tv : TV) (qv : QV) (a0 : Int32) (a1 : Int32) (ol : Nat → Int64) : Option (Int32 × (Nat → Int64)) :=
  (f_X10_topBlock tv qv a0 a1).bind fun o => jbM o (fun x => if x = 0 then some (1, ol) else if x = 2 then some (2, ol) else none) (fun y => some (0, (vp_updL ol (0 : Int32).toNatClampNeg y.toInt64)))
def rm_L_topBlock : Room := { frames := 10, cells := 1, slots := 6, locals := 162 }
theorem hd_L_topBlock : yL_topBlock.cls = RL ∧ yL_topBlock.cls ≠ "java/lang/invoke/MethodHandle" ∧ yL_topBlock.cls ≠ "java/lang/invoke/VarHandle" ∧ (parseMethodDescriptor yL_topBlock.desc).map (fun d => d.parameters.length) = some 4 := by decide +kernel
set_option maxHeartbeats 4000000 in
set_option maxRecDepth 100000 in
theorem c_L_topBlock (l : Launch) (hlt : l.stackTraces = false) (g : GG) (ha : Nat → Nat → Nat) (tv : TV) (qv : QV) (a0 : Int32) (a1 : Int32) (oa : Nat) (ol : Nat → Int64) (out : Int32 × (Nat → Int64)) (hf : f_L_topBlock tv qv a0 a1 ol = some out) : MtI l yL_topBlock wsL_topBlock rm_L_topBlock g (wT g ha tv ++ wQ g (ha 1) qv ++ [(oa, .inl (gC g 3, 1, .inr (.inl ol)))]) [.ref (ha 0 0), .int a0, .int a1, .ref oa] (out.1) (wT g ha tv ++ wQ g (ha 1) qv ++ [(oa, .inl (gC g 3, 1, .inr (.inl (out.2))))]) 1 6 := by
  refine fun sz => mh_of (hh := [(0, 10, 13, 13), (0, 10, 17, 43)]) (cc := cL_topBlock) (maxL := 5) (ret := (some .int)) (own := RL) (Qc := fun A => va_Qi (fun r (_ : Unit) => r = (out.1)) (fun _ t => PosM g A (wT g ha tv ++ wQ g (ha 1) qv ++ [(oa, .inl (gC g 3, 1, .inr (.inl (out.2))))]) t) A) (by decide +kernel) rfl rfl (Nat.le_of_ble_eq_true rfl) ?_ sz
  intro p e s mi below meth c A ls hB htb hrt hlk hP hD hl
  obtain ⟨hx, hb, hml, hown, hts, hK, hZ, hT, hA, -⟩ := hB
  have hS : va_S A s.heap s.heap [] := va_S.rf
  have hl : lv_has ls 5 [(0, .ref (ha 0 0)), (1, .int a0), (2, .int a1), (3, .ref oa)] := hl
  have kk0 := hts (.classLink RL 13 "java/lang/IndexOutOfBoundsException") (by decide +kernel)
  have kk1 := hts (.classLink RL 43 "java/util/NoSuchElementException") (by decide +kernel)
  unfold f_L_topBlock at hf
  obtain ⟨o, hg, hf⟩ := jbB_e hf
  refine lv_aload_n hx hb dL_topBlock_0 rfl (lv_at hl 3 rfl) ?_
  refine lv_iconst (v := 0) hx hb dL_topBlock_1 (by decide) ?_
  refine lv_aload_n hx hb dL_topBlock_2 rfl (lv_at hl 0 rfl) ?_
  refine lv_iload_n hx hb dL_topBlock_3 rfl (lv_at hl 1 rfl) ?_
  refine lv_iload_n hx hb dL_topBlock_4 rfl (lv_at hl 2 rfl) ?_
  refine cxpv_i (As := [.int a0, .int a1]) (rest := [.int 0, .ref oa]) (Wr := [(oa, .inl (gC g 3, 1, .inr (.inl ol)))]) (Wn := fun u => (wT g ha tv ++ wQ g (ha 1) qv ++ [(oa, .inl (gC g 3, 1, .inr (.inl ol)))])) (WnX := fun u => (wT g ha tv ++ wQ g (ha 1) qv ++ [(oa, .inl (gC g 3, 1, .inr (.inl ol)))])) ⟨hx, hb, hml, hown, hts⟩ (c_X10_topBlock l hlt g ha tv qv a0 a1 _ hg) (cwV 2 hts gL_topBlock_X10_topBlock rfl rfl rfl hd_X10_topBlock ⟨(Nat.le_of_ble_eq_true rfl), (Nat.le_of_ble_eq_true rfl)⟩) hK hZ hT hA hP hD hS hl.1 (va_recv hK hP (ci := 9) (q0 := 0) rfl rfl) (wp_of fun f => by simp only [List.countP_append, List.countP_cons, List.countP_nil] <;> omega) (fun _ => (wp_of fun f => by simp only [List.countP_append, List.countP_cons, List.countP_nil] <;> omega)) (fun _ => (wp_of fun f => by simp only [List.countP_append, List.countP_cons, List.countP_nil] <;> omega)) rfl rfl (Nat.le_of_ble_eq_true rfl) ⟨(Nat.le_of_ble_eq_true rfl), (Nat.le_of_ble_eq_true rfl)⟩ dL_topBlock_5 (fun u ce q9 H locs ho hP hD hS hce hcv hcl => ?_) (fun u H locs ho hP hD hS => ?_)
  · have ho9 := ho
    subst ho9
    have hf := jbM_l hf
    by_cases h0 : u = 0
    · have hf := jbT hf h0
      cases hf
      have hcl : s.vm.findClass "java/lang/IndexOutOfBoundsException" = some ce.cls := by rw [h0] at hcl; exact hcl
      refine lx_catch hown hT [] (0, 10, 13, 13) [(0, 10, 17, 43)] htb exN_0 lx_n rfl (by decide) kk0 hce hcv hcl ?_
      refine lv_astore (lv' := [(4, .ref q9), (0, .ref (ha 0 0)), (1, .int a0), (2, .int a1), (3, .ref oa)]) hx hb dL_topBlock_13 hl (by decide) rfl (fun ls hl => ?_)
      refine lv_iconst (v := 1) hx hb dL_topBlock_15 (by decide) ?_
      exact rt_i hx hb hrt hlk rfl hK hP hD hS (Nat.le_of_ble_eq_true rfl) (Nat.le_of_ble_eq_true rfl) dL_topBlock_16
    · have hf := jbF hf h0
      by_cases h1 : u = 2
      · have hf := jbT hf h1
        cases hf
        have hcl : s.vm.findClass "java/util/NoSuchElementException" = some ce.cls := by rw [h1] at hcl; exact hcl
        refine lx_catch hown hT [(0, 10, 13, 13)] (0, 10, 17, 43) [] htb exN_2 (lx_c (nm := "java/lang/IndexOutOfBoundsException") (by decide) exN_0 (by decide) kk0 lx_n) rfl (by decide) kk1 hce hcv hcl ?_
        refine lv_astore (lv' := [(4, .ref q9), (0, .ref (ha 0 0)), (1, .int a0), (2, .int a1), (3, .ref oa)]) hx hb dL_topBlock_17 hl (by decide) rfl (fun ls hl => ?_)
        refine lv_iconst (v := 2) hx hb dL_topBlock_19 (by decide) ?_
        exact rt_i hx hb hrt hlk rfl hK hP hD hS (Nat.le_of_ble_eq_true rfl) (Nat.le_of_ble_eq_true rfl) dL_topBlock_20
      · have hf := jbF hf h1
        cases hf
  have ho9 := ho
  subst ho9
  have hf := jbM_r hf
  cases hf
  refine lv_i2l (v := u.toInt64) hx hb dL_topBlock_8 rfl ?_
  have hP9 : va_P (gD g) vwCl ([(oa, .inl (gC g 3, 1, .inr (.inl ol)))] ++ (wT g ha tv ++ wQ g (ha 1) qv)) _ := wp_P (wp_of fun f => by simp only [List.countP_append, List.countP_cons, List.countP_nil] <;> omega) hP
  have hD9 : va_D A ([(oa, .inl (gC g 3, 1, .inr (.inl ol)))] ++ (wT g ha tv ++ wQ g (ha 1) qv)) := wp_D (wp_of fun f => by simp only [List.countP_append, List.countP_cons, List.countP_nil] <;> omega) hD
  refine va_last hx hb hK hP9 hD9 hS 0 3 rfl rfl (i := 0) (x := u.toInt64) vp_in01 dL_topBlock_9 (fun H locs hP hD hS => ?_)
  have hP : va_P (gD g) vwCl (wT g ha tv ++ wQ g (ha 1) qv ++ [(oa, .inl (gC g 3, 1, .inr (.inl (vp_updL ol (0 : Int32).toNatClampNeg u.toInt64))))]) H := wp_P (a := [(oa, .inl (gC g 3, 1, .inr (.inl (vp_updL ol (0 : Int32).toNatClampNeg u.toInt64))))] ++ (wT g ha tv ++ wQ g (ha 1) qv)) (wp_of fun f => by simp only [List.countP_append, List.countP_cons, List.countP_nil] <;> omega) hP
  have hD : va_D A (wT g ha tv ++ wQ g (ha 1) qv ++ [(oa, .inl (gC g 3, 1, .inr (.inl (vp_updL ol (0 : Int32).toNatClampNeg u.toInt64))))]) := wp_D (a := [(oa, .inl (gC g 3, 1, .inr (.inl (vp_updL ol (0 : Int32).toNatClampNeg u.toInt64))))] ++ (wT g ha tv ++ wQ g (ha 1) qv)) (wp_of fun f => by simp only [List.countP_append, List.countP_cons, List.countP_nil] <;> omega) hD
  refine lv_goto (tgt := 21) hx hb dL_topBlock_10 (by decide) ?_
  refine lv_iconst (v := 0) hx hb dL_topBlock_21 (by decide) ?_
  exact rt_i hx hb hrt hlk rfl hK hP hD hS (Nat.le_of_ble_eq_true rfl) (Nat.le_of_ble_eq_true rfl) dL_topBlock_22
def f_L_steepestStep (tv : TV) (qv : QV) (a0 : Int32) (a1 : Int32) (ol : Nat → Int64) : Option (Int32 × (Nat → Int64)) :=
  (f_X10_steepestStep tv qv a0 a1).bind fun o => jbM o (fun x => if x = 0 then some (1, ol) else none) (fun y => some (0, (vp_updL ol (0 : Int32).toNatClampNeg y.toInt64)))
def rm_L_steepestStep : Room := { frames := 10, cells := 1, slots := 6, locals := 162 }
theorem hd_L_steepestStep : yL_steepestStep.cls = RL ∧ yL_steepestStep.cls ≠ "java/lang/invoke/MethodHandle" ∧ yL_steepestStep.cls ≠ "java/lang/invoke/VarHandle" ∧ (parseMethodDescriptor yL_steepestStep.desc).map (fun d => d.parameters.length) = some 4 := by decide +kernel
set_option maxHeartbeats 4000000 in
set_option maxRecDepth 100000 in
theorem c_L_steepestStep (l : Launch) (hlt : l.stackTraces = false) (g : GG) (ha : Nat → Nat → Nat) (tv : TV) (qv : QV) (a0 : Int32) (a1 : Int32) (oa : Nat) (ol : Nat → Int64) (out : Int32 × (Nat → Int64)) (hf : f_L_steepestStep tv qv a0 a1 ol = some out) : MtI l yL_steepestStep wsL_steepestStep rm_L_steepestStep g (wT g ha tv ++ wQ g (ha 1) qv ++ [(oa, .inl (gC g 3, 1, .inr (.inl ol)))]) [.ref (ha 0 0), .int a0, .int a1, .ref oa] (out.1) (wT g ha tv ++ wQ g (ha 1) qv ++ [(oa, .inl (gC g 3, 1, .inr (.inl (out.2))))]) 1 6 := by
  refine fun sz => mh_of (hh := [(0, 10, 13, 13)]) (cc := cL_steepestStep) (maxL := 5) (ret := (some .int)) (own := RL) (Qc := fun A => va_Qi (fun r (_ : Unit) => r = (out.1)) (fun _ t => PosM g A (wT g ha tv ++ wQ g (ha 1) qv ++ [(oa, .inl (gC g 3, 1, .inr (.inl (out.2))))]) t) A) (by decide +kernel) rfl rfl (Nat.le_of_ble_eq_true rfl) ?_ sz
  intro p e s mi below meth c A ls hB htb hrt hlk hP hD hl
  obtain ⟨hx, hb, hml, hown, hts, hK, hZ, hT, hA, -⟩ := hB
  have hS : va_S A s.heap s.heap [] := va_S.rf
  have hl : lv_has ls 5 [(0, .ref (ha 0 0)), (1, .int a0), (2, .int a1), (3, .ref oa)] := hl
  have kk0 := hts (.classLink RL 13 "java/lang/IndexOutOfBoundsException") (by decide +kernel)
  unfold f_L_steepestStep at hf
  obtain ⟨o, hg, hf⟩ := jbB_e hf
  refine lv_aload_n hx hb dL_steepestStep_0 rfl (lv_at hl 3 rfl) ?_
  refine lv_iconst (v := 0) hx hb dL_steepestStep_1 (by decide) ?_
  refine lv_aload_n hx hb dL_steepestStep_2 rfl (lv_at hl 0 rfl) ?_
  refine lv_iload_n hx hb dL_steepestStep_3 rfl (lv_at hl 1 rfl) ?_
  refine lv_iload_n hx hb dL_steepestStep_4 rfl (lv_at hl 2 rfl) ?_
  refine cxpv_i (As := [.int a0, .int a1]) (rest := [.int 0, .ref oa]) (Wr := [(oa, .inl (gC g 3, 1, .inr (.inl ol)))]) (Wn := fun u => (wT g ha tv ++ wQ g (ha 1) qv ++ [(oa, .inl (gC g 3, 1, .inr (.inl ol)))])) (WnX := fun u => (wT g ha tv ++ wQ g (ha 1) qv ++ [(oa, .inl (gC g 3, 1, .inr (.inl ol)))])) ⟨hx, hb, hml, hown, hts⟩ (c_X10_steepestStep l hlt g ha tv qv a0 a1 _ hg) (cwV 2 hts gL_steepestStep_X10_steepestStep rfl rfl rfl hd_X10_steepestStep ⟨(Nat.le_of_ble_eq_true rfl), (Nat.le_of_ble_eq_true rfl)⟩) hK hZ hT hA hP hD hS hl.1 (va_recv hK hP (ci := 9) (q0 := 0) rfl rfl) (wp_of fun f => by simp only [List.countP_append, List.countP_cons, List.countP_nil] <;> omega) (fun _ => (wp_of fun f => by simp only [List.countP_append, List.countP_cons, List.countP_nil] <;> omega)) (fun _ => (wp_of fun f => by simp only [List.countP_append, List.countP_cons, List.countP_nil] <;> omega)) rfl rfl (Nat.le_of_ble_eq_true rfl) ⟨(Nat.le_of_ble_eq_true rfl), (Nat.le_of_ble_eq_true rfl)⟩ dL_steepestStep_5 (fun u ce q9 H locs ho hP hD hS hce hcv hcl => ?_) (fun u H locs ho hP hD hS => ?_)
  · have ho9 := ho
    subst ho9
    have hf := jbM_l hf
    by_cases h0 : u = 0
    · have hf := jbT hf h0
      cases hf
      have hcl : s.vm.findClass "java/lang/IndexOutOfBoundsException" = some ce.cls := by rw [h0] at hcl; exact hcl
      refine lx_catch hown hT [] (0, 10, 13, 13) [] htb exN_0 lx_n rfl (by decide) kk0 hce hcv hcl ?_
      refine lv_astore (lv' := [(4, .ref q9), (0, .ref (ha 0 0)), (1, .int a0), (2, .int a1), (3, .ref oa)]) hx hb dL_steepestStep_13 hl (by decide) rfl (fun ls hl => ?_)
      refine lv_iconst (v := 1) hx hb dL_steepestStep_15 (by decide) ?_
      exact rt_i hx hb hrt hlk rfl hK hP hD hS (Nat.le_of_ble_eq_true rfl) (Nat.le_of_ble_eq_true rfl) dL_steepestStep_16
    · have hf := jbF hf h0
      cases hf
  have ho9 := ho
  subst ho9
  have hf := jbM_r hf
  cases hf
  refine lv_i2l (v := u.toInt64) hx hb dL_steepestStep_8 rfl ?_
  have hP9 : va_P (gD g) vwCl ([(oa, .inl (gC g 3, 1, .inr (.inl ol)))] ++ (wT g ha tv ++ wQ g (ha 1) qv)) _ := wp_P (wp_of fun f => by simp only [List.countP_append, List.countP_cons, List.countP_nil] <;> omega) hP
  have hD9 : va_D A ([(oa, .inl (gC g 3, 1, .inr (.inl ol)))] ++ (wT g ha tv ++ wQ g (ha 1) qv)) := wp_D (wp_of fun f => by simp only [List.countP_append, List.countP_cons, List.countP_nil] <;> omega) hD
  refine va_last hx hb hK hP9 hD9 hS 0 3 rfl rfl (i := 0) (x := u.toInt64) vp_in01 dL_steepestStep_9 (fun H locs hP hD hS => ?_)
  have hP : va_P (gD g) vwCl (wT g ha tv ++ wQ g (ha 1) qv ++ [(oa, .inl (gC g 3, 1, .inr (.inl (vp_updL ol (0 : Int32).toNatClampNeg u.toInt64))))]) H := wp_P (a := [(oa, .inl (gC g 3, 1, .inr (.inl (vp_updL ol (0 : Int32).toNatClampNeg u.toInt64))))] ++ (wT g ha tv ++ wQ g (ha 1) qv)) (wp_of fun f => by simp only [List.countP_append, List.countP_cons, List.countP_nil] <;> omega) hP
  have hD : va_D A (wT g ha tv ++ wQ g (ha 1) qv ++ [(oa, .inl (gC g 3, 1, .inr (.inl (vp_updL ol (0 : Int32).toNatClampNeg u.toInt64))))]) := wp_D (a := [(oa, .inl (gC g 3, 1, .inr (.inl (vp_updL ol (0 : Int32).toNatClampNeg u.toInt64))))] ++ (wT g ha tv ++ wQ g (ha 1) qv)) (wp_of fun f => by simp only [List.countP_append, List.countP_cons, List.countP_nil] <;> omega) hD
  refine lv_goto (tgt := 17) hx hb dL_steepestStep_10 (by decide) ?_
  refine lv_iconst (v := 0) hx hb dL_steepestStep_17 (by decide) ?_
  exact rt_i hx hb hrt hlk rfl hK hP hD hS (Nat.le_of_ble_eq_true rfl) (Nat.le_of_ble_eq_true rfl) dL_steepestStep_18
def f_L_canCut (tv : TV) (qv : QV) (a0 : Int32) (a1 : Int32) (ol : Nat → Int64) : Option (Int32 × (Nat → Int64)) :=
  (f_X10_canCut tv qv a0 a1).bind fun o => jbM o (fun x => if x = 0 then some (1, ol) else none) (fun y => if y = 0 then some (0, (vp_updL ol (0 : Int32).toNatClampNeg 0)) else some (0, (vp_updL ol (0 : Int32).toNatClampNeg 1)))
def rm_L_canCut : Room := { frames := 10, cells := 1, slots := 6, locals := 162 }
theorem hd_L_canCut : yL_canCut.cls = RL ∧ yL_canCut.cls ≠ "java/lang/invoke/MethodHandle" ∧ yL_canCut.cls ≠ "java/lang/invoke/VarHandle" ∧ (parseMethodDescriptor yL_canCut.desc).map (fun d => d.parameters.length) = some 4 := by decide +kernel
set_option maxHeartbeats 4000000 in
set_option maxRecDepth 100000 in
theorem c_L_canCut (l : Launch) (hlt : l.stackTraces = false) (g : GG) (ha : Nat → Nat → Nat) (tv : TV) (qv : QV) (a0 : Int32) (a1 : Int32) (oa : Nat) (ol : Nat → Int64) (out : Int32 × (Nat → Int64)) (hf : f_L_canCut tv qv a0 a1 ol = some out) : MtI l yL_canCut wsL_canCut rm_L_canCut g (wT g ha tv ++ wQ g (ha 1) qv ++ [(oa, .inl (gC g 3, 1, .inr (.inl ol)))]) [.ref (ha 0 0), .int a0, .int a1, .ref oa] (out.1) (wT g ha tv ++ wQ g (ha 1) qv ++ [(oa, .inl (gC g 3, 1, .inr (.inl (out.2))))]) 1 6 := by
  refine fun sz => mh_of (hh := [(0, 17, 20, 13)]) (cc := cL_canCut) (maxL := 5) (ret := (some .int)) (own := RL) (Qc := fun A => va_Qi (fun r (_ : Unit) => r = (out.1)) (fun _ t => PosM g A (wT g ha tv ++ wQ g (ha 1) qv ++ [(oa, .inl (gC g 3, 1, .inr (.inl (out.2))))]) t) A) (by decide +kernel) rfl rfl (Nat.le_of_ble_eq_true rfl) ?_ sz
  intro p e s mi below meth c A ls hB htb hrt hlk hP hD hl
  obtain ⟨hx, hb, hml, hown, hts, hK, hZ, hT, hA, -⟩ := hB
  have hS : va_S A s.heap s.heap [] := va_S.rf
  have hl : lv_has ls 5 [(0, .ref (ha 0 0)), (1, .int a0), (2, .int a1), (3, .ref oa)] := hl
  have kk0 := hts (.classLink RL 13 "java/lang/IndexOutOfBoundsException") (by decide +kernel)
  unfold f_L_canCut at hf
  obtain ⟨o, hg, hf⟩ := jbB_e hf
  refine lv_aload_n hx hb dL_canCut_0 rfl (lv_at hl 3 rfl) ?_
  refine lv_iconst (v := 0) hx hb dL_canCut_1 (by decide) ?_
  refine lv_aload_n hx hb dL_canCut_2 rfl (lv_at hl 0 rfl) ?_
  refine lv_iload_n hx hb dL_canCut_3 rfl (lv_at hl 1 rfl) ?_
  refine lv_iload_n hx hb dL_canCut_4 rfl (lv_at hl 2 rfl) ?_
  refine cxpv_i (As := [.int a0, .int a1]) (rest := [.int 0, .ref oa]) (Wr := [(oa, .inl (gC g 3, 1, .inr (.inl ol)))]) (Wn := fun u => (wT g ha tv ++ wQ g (ha 1) qv ++ [(oa, .inl (gC g 3, 1, .inr (.inl ol)))])) (WnX := fun u => (wT g ha tv ++ wQ g (ha 1) qv ++ [(oa, .inl (gC g 3, 1, .inr (.inl ol)))])) ⟨hx, hb, hml, hown, hts⟩ (c_X10_canCut l hlt g ha tv qv a0 a1 _ hg) (cwV 2 hts gL_canCut_X10_canCut rfl rfl rfl hd_X10_canCut ⟨(Nat.le_of_ble_eq_true rfl), (Nat.le_of_ble_eq_true rfl)⟩) hK hZ hT hA hP hD hS hl.1 (va_recv hK hP (ci := 9) (q0 := 0) rfl rfl) (wp_of fun f => by simp only [List.countP_append, List.countP_cons, List.countP_nil] <;> omega) (fun _ => (wp_of fun f => by simp only [List.countP_append, List.countP_cons, List.countP_nil] <;> omega)) (fun _ => (wp_of fun f => by simp only [List.countP_append, List.countP_cons, List.countP_nil] <;> omega)) rfl rfl (Nat.le_of_ble_eq_true rfl) ⟨(Nat.le_of_ble_eq_true rfl), (Nat.le_of_ble_eq_true rfl)⟩ dL_canCut_5 (fun u ce q9 H locs ho hP hD hS hce hcv hcl => ?_) (fun u H locs ho hP hD hS => ?_)
  · have ho9 := ho
    subst ho9
    have hf := jbM_l hf
    by_cases h0 : u = 0
    · have hf := jbT hf h0
      cases hf
      have hcl : s.vm.findClass "java/lang/IndexOutOfBoundsException" = some ce.cls := by rw [h0] at hcl; exact hcl
      refine lx_catch hown hT [] (0, 17, 20, 13) [] htb exN_0 lx_n rfl (by decide) kk0 hce hcv hcl ?_
      refine lv_astore (lv' := [(4, .ref q9), (0, .ref (ha 0 0)), (1, .int a0), (2, .int a1), (3, .ref oa)]) hx hb dL_canCut_20 hl (by decide) rfl (fun ls hl => ?_)
      refine lv_iconst (v := 1) hx hb dL_canCut_22 (by decide) ?_
      exact rt_i hx hb hrt hlk rfl hK hP hD hS (Nat.le_of_ble_eq_true rfl) (Nat.le_of_ble_eq_true rfl) dL_canCut_23
    · have hf := jbF hf h0
      cases hf
  have ho9 := ho
  subst ho9
  have hf := jbM_r hf
  refine lv_if_eq (tgt := 15) hx hb dL_canCut_8 (by decide) (fun hc => ?_) (fun hc => ?_)
  · have hf := jbT hf hc
    cases hf
    refine lv_lconst (v := 0) hx hb dL_canCut_15 (by decide) ?_
    have hP9 : va_P (gD g) vwCl ([(oa, .inl (gC g 3, 1, .inr (.inl ol)))] ++ (wT g ha tv ++ wQ g (ha 1) qv)) _ := wp_P (wp_of fun f => by simp only [List.countP_append, List.countP_cons, List.countP_nil] <;> omega) hP
    have hD9 : va_D A ([(oa, .inl (gC g 3, 1, .inr (.inl ol)))] ++ (wT g ha tv ++ wQ g (ha 1) qv)) := wp_D (wp_of fun f => by simp only [List.countP_append, List.countP_cons, List.countP_nil] <;> omega) hD
    refine va_last hx hb hK hP9 hD9 hS 0 3 rfl rfl (i := 0) (x := 0) vp_in01 dL_canCut_16 (fun H locs hP hD hS => ?_)
    have hP : va_P (gD g) vwCl (wT g ha tv ++ wQ g (ha 1) qv ++ [(oa, .inl (gC g 3, 1, .inr (.inl (vp_updL ol (0 : Int32).toNatClampNeg 0))))]) H := wp_P (a := [(oa, .inl (gC g 3, 1, .inr (.inl (vp_updL ol (0 : Int32).toNatClampNeg 0))))] ++ (wT g ha tv ++ wQ g (ha 1) qv)) (wp_of fun f => by simp only [List.countP_append, List.countP_cons, List.countP_nil] <;> omega) hP
    have hD : va_D A (wT g ha tv ++ wQ g (ha 1) qv ++ [(oa, .inl (gC g 3, 1, .inr (.inl (vp_updL ol (0 : Int32).toNatClampNeg 0))))]) := wp_D (a := [(oa, .inl (gC g 3, 1, .inr (.inl (vp_updL ol (0 : Int32).toNatClampNeg 0))))] ++ (wT g ha tv ++ wQ g (ha 1) qv)) (wp_of fun f => by simp only [List.countP_append, List.countP_cons, List.countP_nil] <;> omega) hD
    refine lv_goto (tgt := 24) hx hb dL_canCut_17 (by decide) ?_
    refine lv_iconst (v := 0) hx hb dL_canCut_24 (by decide) ?_
    exact rt_i hx hb hrt hlk rfl hK hP hD hS (Nat.le_of_ble_eq_true rfl) (Nat.le_of_ble_eq_true rfl) dL_canCut_25
  · have hf := jbF hf hc
    cases hf
    refine lv_lconst (v := 1) hx hb dL_canCut_11 (by decide) ?_
    refine lv_goto (tgt := 16) hx hb dL_canCut_12 (by decide) ?_
    have hP9 : va_P (gD g) vwCl ([(oa, .inl (gC g 3, 1, .inr (.inl ol)))] ++ (wT g ha tv ++ wQ g (ha 1) qv)) _ := wp_P (wp_of fun f => by simp only [List.countP_append, List.countP_cons, List.countP_nil] <;> omega) hP
    have hD9 : va_D A ([(oa, .inl (gC g 3, 1, .inr (.inl ol)))] ++ (wT g ha tv ++ wQ g (ha 1) qv)) := wp_D (wp_of fun f => by simp only [List.countP_append, List.countP_cons, List.countP_nil] <;> omega) hD
    refine va_last hx hb hK hP9 hD9 hS 0 3 rfl rfl (i := 0) (x := 1) vp_in01 dL_canCut_16 (fun H locs hP hD hS => ?_)
    have hP : va_P (gD g) vwCl (wT g ha tv ++ wQ g (ha 1) qv ++ [(oa, .inl (gC g 3, 1, .inr (.inl (vp_updL ol (0 : Int32).toNatClampNeg 1))))]) H := wp_P (a := [(oa, .inl (gC g 3, 1, .inr (.inl (vp_updL ol (0 : Int32).toNatClampNeg 1))))] ++ (wT g ha tv ++ wQ g (ha 1) qv)) (wp_of fun f => by simp only [List.countP_append, List.countP_cons, List.countP_nil] <;> omega) hP
    have hD : va_D A (wT g ha tv ++ wQ g (ha 1) qv ++ [(oa, .inl (gC g 3, 1, .inr (.inl (vp_updL ol (0 : Int32).toNatClampNeg 1))))]) := wp_D (a := [(oa, .inl (gC g 3, 1, .inr (.inl (vp_updL ol (0 : Int32).toNatClampNeg 1))))] ++ (wT g ha tv ++ wQ g (ha 1) qv)) (wp_of fun f => by simp only [List.countP_append, List.countP_cons, List.countP_nil] <;> omega) hD
    refine lv_goto (tgt := 24) hx hb dL_canCut_17 (by decide) ?_
    refine lv_iconst (v := 0) hx hb dL_canCut_24 (by decide) ?_
    exact rt_i hx hb hrt hlk rfl hK hP hD hS (Nat.le_of_ble_eq_true rfl) (Nat.le_of_ble_eq_true rfl) dL_canCut_25
def f_L_cellsAt (tv : TV) (qv : QV) (a0 : Int32) (ol : Nat → Int64) : Option (Int32 × (Nat → Int64)) :=
  (f_X10_cellsAt tv qv a0).bind fun o => jbM o (fun x => if x = 1 then some (1, ol) else none) (fun y => some (0, (vp_updL ol (0 : Int32).toNatClampNeg y.toInt64)))
def rm_L_cellsAt : Room := { frames := 10, cells := 1, slots := 6, locals := 161 }
theorem hd_L_cellsAt : yL_cellsAt.cls = RL ∧ yL_cellsAt.cls ≠ "java/lang/invoke/MethodHandle" ∧ yL_cellsAt.cls ≠ "java/lang/invoke/VarHandle" ∧ (parseMethodDescriptor yL_cellsAt.desc).map (fun d => d.parameters.length) = some 3 := by decide +kernel
set_option maxHeartbeats 4000000 in
set_option maxRecDepth 100000 in
theorem c_L_cellsAt (l : Launch) (hlt : l.stackTraces = false) (g : GG) (ha : Nat → Nat → Nat) (tv : TV) (qv : QV) (a0 : Int32) (oa : Nat) (ol : Nat → Int64) (out : Int32 × (Nat → Int64)) (hf : f_L_cellsAt tv qv a0 ol = some out) : MtI l yL_cellsAt wsL_cellsAt rm_L_cellsAt g (wT g ha tv ++ wQ g (ha 1) qv ++ [(oa, .inl (gC g 3, 1, .inr (.inl ol)))]) [.ref (ha 0 0), .int a0, .ref oa] (out.1) (wT g ha tv ++ wQ g (ha 1) qv ++ [(oa, .inl (gC g 3, 1, .inr (.inl (out.2))))]) 1 6 := by
  refine fun sz => mh_of (hh := [(0, 9, 12, 15)]) (cc := cL_cellsAt) (maxL := 4) (ret := (some .int)) (own := RL) (Qc := fun A => va_Qi (fun r (_ : Unit) => r = (out.1)) (fun _ t => PosM g A (wT g ha tv ++ wQ g (ha 1) qv ++ [(oa, .inl (gC g 3, 1, .inr (.inl (out.2))))]) t) A) (by decide +kernel) rfl rfl (Nat.le_of_ble_eq_true rfl) ?_ sz
  intro p e s mi below meth c A ls hB htb hrt hlk hP hD hl
  obtain ⟨hx, hb, hml, hown, hts, hK, hZ, hT, hA, -⟩ := hB
  have hS : va_S A s.heap s.heap [] := va_S.rf
  have hl : lv_has ls 4 [(0, .ref (ha 0 0)), (1, .int a0), (2, .ref oa)] := hl
  have kk0 := hts (.classLink RL 15 "java/lang/IllegalArgumentException") (by decide +kernel)
  unfold f_L_cellsAt at hf
  obtain ⟨o, hg, hf⟩ := jbB_e hf
  refine lv_aload_n hx hb dL_cellsAt_0 rfl (lv_at hl 2 rfl) ?_
  refine lv_iconst (v := 0) hx hb dL_cellsAt_1 (by decide) ?_
  refine lv_aload_n hx hb dL_cellsAt_2 rfl (lv_at hl 0 rfl) ?_
  refine lv_iload_n hx hb dL_cellsAt_3 rfl (lv_at hl 1 rfl) ?_
  refine cxpv_i (As := [.int a0]) (rest := [.int 0, .ref oa]) (Wr := [(oa, .inl (gC g 3, 1, .inr (.inl ol)))]) (Wn := fun u => (wT g ha tv ++ wQ g (ha 1) qv ++ [(oa, .inl (gC g 3, 1, .inr (.inl ol)))])) (WnX := fun u => (wT g ha tv ++ wQ g (ha 1) qv ++ [(oa, .inl (gC g 3, 1, .inr (.inl ol)))])) ⟨hx, hb, hml, hown, hts⟩ (c_X10_cellsAt l hlt g ha tv qv a0 _ hg) (cwV 1 hts gL_cellsAt_X10_cellsAt rfl rfl rfl hd_X10_cellsAt ⟨(Nat.le_of_ble_eq_true rfl), (Nat.le_of_ble_eq_true rfl)⟩) hK hZ hT hA hP hD hS hl.1 (va_recv hK hP (ci := 9) (q0 := 0) rfl rfl) (wp_of fun f => by simp only [List.countP_append, List.countP_cons, List.countP_nil] <;> omega) (fun _ => (wp_of fun f => by simp only [List.countP_append, List.countP_cons, List.countP_nil] <;> omega)) (fun _ => (wp_of fun f => by simp only [List.countP_append, List.countP_cons, List.countP_nil] <;> omega)) rfl rfl (Nat.le_of_ble_eq_true rfl) ⟨(Nat.le_of_ble_eq_true rfl), (Nat.le_of_ble_eq_true rfl)⟩ dL_cellsAt_4 (fun u ce q9 H locs ho hP hD hS hce hcv hcl => ?_) (fun u H locs ho hP hD hS => ?_)
  · have ho9 := ho
    subst ho9
    have hf := jbM_l hf
    by_cases h0 : u = 1
    · have hf := jbT hf h0
      cases hf
      have hcl : s.vm.findClass "java/lang/IllegalArgumentException" = some ce.cls := by rw [h0] at hcl; exact hcl
      refine lx_catch hown hT [] (0, 9, 12, 15) [] htb exN_1 lx_n rfl (by decide) kk0 hce hcv hcl ?_
      refine lv_astore_n (lv' := [(3, .ref q9), (0, .ref (ha 0 0)), (1, .int a0), (2, .ref oa)]) hx hb dL_cellsAt_12 rfl hl (by decide) rfl (fun ls hl => ?_)
      refine lv_iconst (v := 1) hx hb dL_cellsAt_13 (by decide) ?_
      exact rt_i hx hb hrt hlk rfl hK hP hD hS (Nat.le_of_ble_eq_true rfl) (Nat.le_of_ble_eq_true rfl) dL_cellsAt_14
    · have hf := jbF hf h0
      cases hf
  have ho9 := ho
  subst ho9
  have hf := jbM_r hf
  cases hf
  refine lv_i2l (v := u.toInt64) hx hb dL_cellsAt_7 rfl ?_
  have hP9 : va_P (gD g) vwCl ([(oa, .inl (gC g 3, 1, .inr (.inl ol)))] ++ (wT g ha tv ++ wQ g (ha 1) qv)) _ := wp_P (wp_of fun f => by simp only [List.countP_append, List.countP_cons, List.countP_nil] <;> omega) hP
  have hD9 : va_D A ([(oa, .inl (gC g 3, 1, .inr (.inl ol)))] ++ (wT g ha tv ++ wQ g (ha 1) qv)) := wp_D (wp_of fun f => by simp only [List.countP_append, List.countP_cons, List.countP_nil] <;> omega) hD
  refine va_last hx hb hK hP9 hD9 hS 0 3 rfl rfl (i := 0) (x := u.toInt64) vp_in01 dL_cellsAt_8 (fun H locs hP hD hS => ?_)
  have hP : va_P (gD g) vwCl (wT g ha tv ++ wQ g (ha 1) qv ++ [(oa, .inl (gC g 3, 1, .inr (.inl (vp_updL ol (0 : Int32).toNatClampNeg u.toInt64))))]) H := wp_P (a := [(oa, .inl (gC g 3, 1, .inr (.inl (vp_updL ol (0 : Int32).toNatClampNeg u.toInt64))))] ++ (wT g ha tv ++ wQ g (ha 1) qv)) (wp_of fun f => by simp only [List.countP_append, List.countP_cons, List.countP_nil] <;> omega) hP
  have hD : va_D A (wT g ha tv ++ wQ g (ha 1) qv ++ [(oa, .inl (gC g 3, 1, .inr (.inl (vp_updL ol (0 : Int32).toNatClampNeg u.toInt64))))]) := wp_D (a := [(oa, .inl (gC g 3, 1, .inr (.inl (vp_updL ol (0 : Int32).toNatClampNeg u.toInt64))))] ++ (wT g ha tv ++ wQ g (ha 1) qv)) (wp_of fun f => by simp only [List.countP_append, List.countP_cons, List.countP_nil] <;> omega) hD
  refine lv_goto (tgt := 15) hx hb dL_cellsAt_9 (by decide) ?_
  refine lv_iconst (v := 0) hx hb dL_cellsAt_15 (by decide) ?_
  exact rt_i hx hb hrt hlk rfl hK hP hD hS (Nat.le_of_ble_eq_true rfl) (Nat.le_of_ble_eq_true rfl) dL_cellsAt_16
def f_L_cutsToLower (tv : TV) (qv : QV) (a0 : Int32) (a1 : Int32) (a2 : Int32) (ol : Nat → Int64) : Option (Int32 × (Nat → Int64)) :=
  (f_X10_cutsToLower tv qv a0 a1 a2).bind fun o => jbM o (fun x => if x = 0 then some (1, ol) else if x = 1 then some (2, ol) else none) (fun y => some (0, (vp_updL ol (0 : Int32).toNatClampNeg y.toInt64)))
def rm_L_cutsToLower : Room := { frames := 10, cells := 1, slots := 6, locals := 163 }
theorem hd_L_cutsToLower : yL_cutsToLower.cls = RL ∧ yL_cutsToLower.cls ≠ "java/lang/invoke/MethodHandle" ∧ yL_cutsToLower.cls ≠ "java/lang/invoke/VarHandle" ∧ (parseMethodDescriptor yL_cutsToLower.desc).map (fun d => d.parameters.length) = some 5 := by decide +kernel
set_option maxHeartbeats 4000000 in
set_option maxRecDepth 100000 in
theorem c_L_cutsToLower (l : Launch) (hlt : l.stackTraces = false) (g : GG) (ha : Nat → Nat → Nat) (tv : TV) (qv : QV) (a0 : Int32) (a1 : Int32) (a2 : Int32) (oa : Nat) (ol : Nat → Int64) (out : Int32 × (Nat → Int64)) (hf : f_L_cutsToLower tv qv a0 a1 a2 ol = some out) : MtI l yL_cutsToLower wsL_cutsToLower rm_L_cutsToLower g (wT g ha tv ++ wQ g (ha 1) qv ++ [(oa, .inl (gC g 3, 1, .inr (.inl ol)))]) [.ref (ha 0 0), .int a0, .int a1, .int a2, .ref oa] (out.1) (wT g ha tv ++ wQ g (ha 1) qv ++ [(oa, .inl (gC g 3, 1, .inr (.inl (out.2))))]) 1 6 := by
  refine fun sz => mh_of (hh := [(0, 12, 15, 13), (0, 12, 19, 15)]) (cc := cL_cutsToLower) (maxL := 6) (ret := (some .int)) (own := RL) (Qc := fun A => va_Qi (fun r (_ : Unit) => r = (out.1)) (fun _ t => PosM g A (wT g ha tv ++ wQ g (ha 1) qv ++ [(oa, .inl (gC g 3, 1, .inr (.inl (out.2))))]) t) A) (by decide +kernel) rfl rfl (Nat.le_of_ble_eq_true rfl) ?_ sz
  intro p e s mi below meth c A ls hB htb hrt hlk hP hD hl
  obtain ⟨hx, hb, hml, hown, hts, hK, hZ, hT, hA, -⟩ := hB
  have hS : va_S A s.heap s.heap [] := va_S.rf
  have hl : lv_has ls 6 [(0, .ref (ha 0 0)), (1, .int a0), (2, .int a1), (3, .int a2), (4, .ref oa)] := hl
  have kk0 := hts (.classLink RL 13 "java/lang/IndexOutOfBoundsException") (by decide +kernel)
  have kk1 := hts (.classLink RL 15 "java/lang/IllegalArgumentException") (by decide +kernel)
  unfold f_L_cutsToLower at hf
  obtain ⟨o, hg, hf⟩ := jbB_e hf
  refine lv_aload hx hb dL_cutsToLower_0 (lv_at hl 4 rfl) ?_
  refine lv_iconst (v := 0) hx hb dL_cutsToLower_2 (by decide) ?_
  refine lv_aload_n hx hb dL_cutsToLower_3 rfl (lv_at hl 0 rfl) ?_
  refine lv_iload_n hx hb dL_cutsToLower_4 rfl (lv_at hl 1 rfl) ?_
  refine lv_iload_n hx hb dL_cutsToLower_5 rfl (lv_at hl 2 rfl) ?_
  refine lv_iload_n hx hb dL_cutsToLower_6 rfl (lv_at hl 3 rfl) ?_
  refine cxpv_i (As := [.int a0, .int a1, .int a2]) (rest := [.int 0, .ref oa]) (Wr := [(oa, .inl (gC g 3, 1, .inr (.inl ol)))]) (Wn := fun u => (wT g ha tv ++ wQ g (ha 1) qv ++ [(oa, .inl (gC g 3, 1, .inr (.inl ol)))])) (WnX := fun u => (wT g ha tv ++ wQ g (ha 1) qv ++ [(oa, .inl (gC g 3, 1, .inr (.inl ol)))])) ⟨hx, hb, hml, hown, hts⟩ (c_X10_cutsToLower l hlt g ha tv qv a0 a1 a2 _ hg) (cwV 3 hts gL_cutsToLower_X10_cutsToLower rfl rfl rfl hd_X10_cutsToLower ⟨(Nat.le_of_ble_eq_true rfl), (Nat.le_of_ble_eq_true rfl)⟩) hK hZ hT hA hP hD hS hl.1 (va_recv hK hP (ci := 9) (q0 := 0) rfl rfl) (wp_of fun f => by simp only [List.countP_append, List.countP_cons, List.countP_nil] <;> omega) (fun _ => (wp_of fun f => by simp only [List.countP_append, List.countP_cons, List.countP_nil] <;> omega)) (fun _ => (wp_of fun f => by simp only [List.countP_append, List.countP_cons, List.countP_nil] <;> omega)) rfl rfl (Nat.le_of_ble_eq_true rfl) ⟨(Nat.le_of_ble_eq_true rfl), (Nat.le_of_ble_eq_true rfl)⟩ dL_cutsToLower_7 (fun u ce q9 H locs ho hP hD hS hce hcv hcl => ?_) (fun u H locs ho hP hD hS => ?_)
  · have ho9 := ho
    subst ho9
    have hf := jbM_l hf
    by_cases h0 : u = 0
    · have hf := jbT hf h0
      cases hf
      have hcl : s.vm.findClass "java/lang/IndexOutOfBoundsException" = some ce.cls := by rw [h0] at hcl; exact hcl
      refine lx_catch hown hT [] (0, 12, 15, 13) [(0, 12, 19, 15)] htb exN_0 lx_n rfl (by decide) kk0 hce hcv hcl ?_
      refine lv_astore (lv' := [(5, .ref q9), (0, .ref (ha 0 0)), (1, .int a0), (2, .int a1), (3, .int a2), (4, .ref oa)]) hx hb dL_cutsToLower_15 hl (by decide) rfl (fun ls hl => ?_)
      refine lv_iconst (v := 1) hx hb dL_cutsToLower_17 (by decide) ?_
      exact rt_i hx hb hrt hlk rfl hK hP hD hS (Nat.le_of_ble_eq_true rfl) (Nat.le_of_ble_eq_true rfl) dL_cutsToLower_18
    · have hf := jbF hf h0
      by_cases h1 : u = 1
      · have hf := jbT hf h1
        cases hf
        have hcl : s.vm.findClass "java/lang/IllegalArgumentException" = some ce.cls := by rw [h1] at hcl; exact hcl
        refine lx_catch hown hT [(0, 12, 15, 13)] (0, 12, 19, 15) [] htb exN_1 (lx_c (nm := "java/lang/IndexOutOfBoundsException") (by decide) exN_0 (by decide) kk0 lx_n) rfl (by decide) kk1 hce hcv hcl ?_
        refine lv_astore (lv' := [(5, .ref q9), (0, .ref (ha 0 0)), (1, .int a0), (2, .int a1), (3, .int a2), (4, .ref oa)]) hx hb dL_cutsToLower_19 hl (by decide) rfl (fun ls hl => ?_)
        refine lv_iconst (v := 2) hx hb dL_cutsToLower_21 (by decide) ?_
        exact rt_i hx hb hrt hlk rfl hK hP hD hS (Nat.le_of_ble_eq_true rfl) (Nat.le_of_ble_eq_true rfl) dL_cutsToLower_22
      · have hf := jbF hf h1
        cases hf
  have ho9 := ho
  subst ho9
  have hf := jbM_r hf
  cases hf
  refine lv_i2l (v := u.toInt64) hx hb dL_cutsToLower_10 rfl ?_
  have hP9 : va_P (gD g) vwCl ([(oa, .inl (gC g 3, 1, .inr (.inl ol)))] ++ (wT g ha tv ++ wQ g (ha 1) qv)) _ := wp_P (wp_of fun f => by simp only [List.countP_append, List.countP_cons, List.countP_nil] <;> omega) hP
  have hD9 : va_D A ([(oa, .inl (gC g 3, 1, .inr (.inl ol)))] ++ (wT g ha tv ++ wQ g (ha 1) qv)) := wp_D (wp_of fun f => by simp only [List.countP_append, List.countP_cons, List.countP_nil] <;> omega) hD
  refine va_last hx hb hK hP9 hD9 hS 0 3 rfl rfl (i := 0) (x := u.toInt64) vp_in01 dL_cutsToLower_11 (fun H locs hP hD hS => ?_)
  have hP : va_P (gD g) vwCl (wT g ha tv ++ wQ g (ha 1) qv ++ [(oa, .inl (gC g 3, 1, .inr (.inl (vp_updL ol (0 : Int32).toNatClampNeg u.toInt64))))]) H := wp_P (a := [(oa, .inl (gC g 3, 1, .inr (.inl (vp_updL ol (0 : Int32).toNatClampNeg u.toInt64))))] ++ (wT g ha tv ++ wQ g (ha 1) qv)) (wp_of fun f => by simp only [List.countP_append, List.countP_cons, List.countP_nil] <;> omega) hP
  have hD : va_D A (wT g ha tv ++ wQ g (ha 1) qv ++ [(oa, .inl (gC g 3, 1, .inr (.inl (vp_updL ol (0 : Int32).toNatClampNeg u.toInt64))))]) := wp_D (a := [(oa, .inl (gC g 3, 1, .inr (.inl (vp_updL ol (0 : Int32).toNatClampNeg u.toInt64))))] ++ (wT g ha tv ++ wQ g (ha 1) qv)) (wp_of fun f => by simp only [List.countP_append, List.countP_cons, List.countP_nil] <;> omega) hD
  refine lv_goto (tgt := 23) hx hb dL_cutsToLower_12 (by decide) ?_
  refine lv_iconst (v := 0) hx hb dL_cutsToLower_23 (by decide) ?_
  exact rt_i hx hb hrt hlk rfl hK hP hD hS (Nat.le_of_ble_eq_true rfl) (Nat.le_of_ble_eq_true rfl) dL_cutsToLower_24
def f_L_cutsToLowerBySpreading (tv : TV) (qv : QV) (sv : SV) (a0 : Int32) (a1 : Int32) (a2 : Int32) (ol : Nat → Int64) : Option (Int32 × (Nat → Int64) × SV) :=
  (f_X10_cutsToLowerBySpreading tv qv sv a0 a1 a2).bind fun o => jbM o (fun x => if (x.1) = 0 then some (1, ol, (x.2)) else if (x.1) = 1 then some (2, ol, (x.2)) else none) (fun y => some (0, (vp_updL ol (0 : Int32).toNatClampNeg (y.1).toInt64), (y.2)))
def rm_L_cutsToLowerBySpreading : Room := { frames := 10, cells := 1, slots := 6, locals := 163 }
theorem hd_L_cutsToLowerBySpreading : yL_cutsToLowerBySpreading.cls = RL ∧ yL_cutsToLowerBySpreading.cls ≠ "java/lang/invoke/MethodHandle" ∧ yL_cutsToLowerBySpreading.cls ≠ "java/lang/invoke/VarHandle" ∧ (parseMethodDescriptor yL_cutsToLowerBySpreading.desc).map (fun d => d.parameters.length) = some 5 := by decide +kernel
set_option maxHeartbeats 4000000 in
set_option maxRecDepth 100000 in
theorem c_L_cutsToLowerBySpreading (l : Launch) (hlt : l.stackTraces = false) (g : GG) (ha : Nat → Nat → Nat) (tv : TV) (qv : QV) (sv : SV) (a0 : Int32) (a1 : Int32) (a2 : Int32) (oa : Nat) (ol : Nat → Int64) (out : Int32 × (Nat → Int64) × SV) (hf : f_L_cutsToLowerBySpreading tv qv sv a0 a1 a2 ol = some out) : MtI l yL_cutsToLowerBySpreading wsL_cutsToLowerBySpreading rm_L_cutsToLowerBySpreading g (wT g ha tv ++ wQ g (ha 1) qv ++ wS g (ha 3) sv ++ [(oa, .inl (gC g 3, 1, .inr (.inl ol)))]) [.ref (ha 0 0), .int a0, .int a1, .int a2, .ref oa] (out.1) (wT g ha tv ++ wQ g (ha 1) qv ++ wS g (ha 3) (out.2.2) ++ [(oa, .inl (gC g 3, 1, .inr (.inl (out.2.1))))]) 1 6 := by
  refine fun sz => mh_of (hh := [(0, 12, 15, 13), (0, 12, 19, 15)]) (cc := cL_cutsToLowerBySpreading) (maxL := 6) (ret := (some .int)) (own := RL) (Qc := fun A => va_Qi (fun r (_ : Unit) => r = (out.1)) (fun _ t => PosM g A (wT g ha tv ++ wQ g (ha 1) qv ++ wS g (ha 3) (out.2.2) ++ [(oa, .inl (gC g 3, 1, .inr (.inl (out.2.1))))]) t) A) (by decide +kernel) rfl rfl (Nat.le_of_ble_eq_true rfl) ?_ sz
  intro p e s mi below meth c A ls hB htb hrt hlk hP hD hl
  obtain ⟨hx, hb, hml, hown, hts, hK, hZ, hT, hA, -⟩ := hB
  have hS : va_S A s.heap s.heap [] := va_S.rf
  have hl : lv_has ls 6 [(0, .ref (ha 0 0)), (1, .int a0), (2, .int a1), (3, .int a2), (4, .ref oa)] := hl
  have kk0 := hts (.classLink RL 13 "java/lang/IndexOutOfBoundsException") (by decide +kernel)
  have kk1 := hts (.classLink RL 15 "java/lang/IllegalArgumentException") (by decide +kernel)
  unfold f_L_cutsToLowerBySpreading at hf
  obtain ⟨o, hg, hf⟩ := jbB_e hf
  refine lv_aload hx hb dL_cutsToLowerBySpreading_0 (lv_at hl 4 rfl) ?_
  refine lv_iconst (v := 0) hx hb dL_cutsToLowerBySpreading_2 (by decide) ?_
  refine lv_aload_n hx hb dL_cutsToLowerBySpreading_3 rfl (lv_at hl 0 rfl) ?_
  refine lv_iload_n hx hb dL_cutsToLowerBySpreading_4 rfl (lv_at hl 1 rfl) ?_
  refine lv_iload_n hx hb dL_cutsToLowerBySpreading_5 rfl (lv_at hl 2 rfl) ?_
  refine lv_iload_n hx hb dL_cutsToLowerBySpreading_6 rfl (lv_at hl 3 rfl) ?_
  refine cxpv_i (As := [.int a0, .int a1, .int a2]) (rest := [.int 0, .ref oa]) (Wr := [(oa, .inl (gC g 3, 1, .inr (.inl ol)))]) (Wn := fun u => (wT g ha tv ++ wQ g (ha 1) qv ++ wS g (ha 3) (u.2) ++ [(oa, .inl (gC g 3, 1, .inr (.inl ol)))])) (WnX := fun u => (wT g ha tv ++ wQ g (ha 1) qv ++ wS g (ha 3) (u.2) ++ [(oa, .inl (gC g 3, 1, .inr (.inl ol)))])) ⟨hx, hb, hml, hown, hts⟩ (c_X10_cutsToLowerBySpreading l hlt g ha tv qv sv a0 a1 a2 _ hg) (cwV 3 hts gL_cutsToLowerBySpreading_X10_cutsToLowerBySpreading rfl rfl rfl hd_X10_cutsToLowerBySpreading ⟨(Nat.le_of_ble_eq_true rfl), (Nat.le_of_ble_eq_true rfl)⟩) hK hZ hT hA hP hD hS hl.1 (va_recv hK hP (ci := 9) (q0 := 0) rfl rfl) (wp_of fun f => by simp only [List.countP_append, List.countP_cons, List.countP_nil] <;> omega) (fun _ => (wp_of fun f => by simp only [List.countP_append, List.countP_cons, List.countP_nil] <;> omega)) (fun _ => (wp_of fun f => by simp only [List.countP_append, List.countP_cons, List.countP_nil] <;> omega)) rfl rfl (Nat.le_of_ble_eq_true rfl) ⟨(Nat.le_of_ble_eq_true rfl), (Nat.le_of_ble_eq_true rfl)⟩ dL_cutsToLowerBySpreading_7 (fun u ce q9 H locs ho hP hD hS hce hcv hcl => ?_) (fun u H locs ho hP hD hS => ?_)
  · have ho9 := ho
    subst ho9
    have hf := jbM_l hf
    by_cases h0 : (u.1) = 0
    · have hf := jbT hf h0
      cases hf
      have hcl : s.vm.findClass "java/lang/IndexOutOfBoundsException" = some ce.cls := by rw [h0] at hcl; exact hcl
      refine lx_catch hown hT [] (0, 12, 15, 13) [(0, 12, 19, 15)] htb exN_0 lx_n rfl (by decide) kk0 hce hcv hcl ?_
      refine lv_astore (lv' := [(5, .ref q9), (0, .ref (ha 0 0)), (1, .int a0), (2, .int a1), (3, .int a2), (4, .ref oa)]) hx hb dL_cutsToLowerBySpreading_15 hl (by decide) rfl (fun ls hl => ?_)
      refine lv_iconst (v := 1) hx hb dL_cutsToLowerBySpreading_17 (by decide) ?_
      exact rt_i hx hb hrt hlk rfl hK hP hD hS (Nat.le_of_ble_eq_true rfl) (Nat.le_of_ble_eq_true rfl) dL_cutsToLowerBySpreading_18
    · have hf := jbF hf h0
      by_cases h1 : (u.1) = 1
      · have hf := jbT hf h1
        cases hf
        have hcl : s.vm.findClass "java/lang/IllegalArgumentException" = some ce.cls := by rw [h1] at hcl; exact hcl
        refine lx_catch hown hT [(0, 12, 15, 13)] (0, 12, 19, 15) [] htb exN_1 (lx_c (nm := "java/lang/IndexOutOfBoundsException") (by decide) exN_0 (by decide) kk0 lx_n) rfl (by decide) kk1 hce hcv hcl ?_
        refine lv_astore (lv' := [(5, .ref q9), (0, .ref (ha 0 0)), (1, .int a0), (2, .int a1), (3, .int a2), (4, .ref oa)]) hx hb dL_cutsToLowerBySpreading_19 hl (by decide) rfl (fun ls hl => ?_)
        refine lv_iconst (v := 2) hx hb dL_cutsToLowerBySpreading_21 (by decide) ?_
        exact rt_i hx hb hrt hlk rfl hK hP hD hS (Nat.le_of_ble_eq_true rfl) (Nat.le_of_ble_eq_true rfl) dL_cutsToLowerBySpreading_22
      · have hf := jbF hf h1
        cases hf
  have ho9 := ho
  subst ho9
  have hf := jbM_r hf
  cases hf
  refine lv_i2l (v := (u.1).toInt64) hx hb dL_cutsToLowerBySpreading_10 rfl ?_
  have hP9 : va_P (gD g) vwCl ([(oa, .inl (gC g 3, 1, .inr (.inl ol)))] ++ (wT g ha tv ++ wQ g (ha 1) qv ++ wS g (ha 3) (u.2))) _ := wp_P (wp_of fun f => by simp only [List.countP_append, List.countP_cons, List.countP_nil] <;> omega) hP
  have hD9 : va_D A ([(oa, .inl (gC g 3, 1, .inr (.inl ol)))] ++ (wT g ha tv ++ wQ g (ha 1) qv ++ wS g (ha 3) (u.2))) := wp_D (wp_of fun f => by simp only [List.countP_append, List.countP_cons, List.countP_nil] <;> omega) hD
  refine va_last hx hb hK hP9 hD9 hS 0 3 rfl rfl (i := 0) (x := (u.1).toInt64) vp_in01 dL_cutsToLowerBySpreading_11 (fun H locs hP hD hS => ?_)
  have hP : va_P (gD g) vwCl (wT g ha tv ++ wQ g (ha 1) qv ++ wS g (ha 3) (u.2) ++ [(oa, .inl (gC g 3, 1, .inr (.inl (vp_updL ol (0 : Int32).toNatClampNeg (u.1).toInt64))))]) H := wp_P (a := [(oa, .inl (gC g 3, 1, .inr (.inl (vp_updL ol (0 : Int32).toNatClampNeg (u.1).toInt64))))] ++ (wT g ha tv ++ wQ g (ha 1) qv ++ wS g (ha 3) (u.2))) (wp_of fun f => by simp only [List.countP_append, List.countP_cons, List.countP_nil] <;> omega) hP
  have hD : va_D A (wT g ha tv ++ wQ g (ha 1) qv ++ wS g (ha 3) (u.2) ++ [(oa, .inl (gC g 3, 1, .inr (.inl (vp_updL ol (0 : Int32).toNatClampNeg (u.1).toInt64))))]) := wp_D (a := [(oa, .inl (gC g 3, 1, .inr (.inl (vp_updL ol (0 : Int32).toNatClampNeg (u.1).toInt64))))] ++ (wT g ha tv ++ wQ g (ha 1) qv ++ wS g (ha 3) (u.2))) (wp_of fun f => by simp only [List.countP_append, List.countP_cons, List.countP_nil] <;> omega) hD
  refine lv_goto (tgt := 23) hx hb dL_cutsToLowerBySpreading_12 (by decide) ?_
  refine lv_iconst (v := 0) hx hb dL_cutsToLowerBySpreading_23 (by decide) ?_
  exact rt_i hx hb hrt hlk rfl hK hP hD hS (Nat.le_of_ble_eq_true rfl) (Nat.le_of_ble_eq_true rfl) dL_cutsToLowerBySpreading_24
def f_L_seamSize (tv : TV) (qv : QV) (sv : SV) (a0 : Int32) (a1 : Int32) (ol : Nat → Int64) : Option (Int32 × (Nat → Int64) × SV) :=
  (f_X10_seamSize tv qv sv a0 a1).bind fun o => jbM o (fun x => if (x.1) = 0 then some (1, ol, (x.2)) else none) (fun y => some (0, (vp_updL ol (0 : Int32).toNatClampNeg (y.1).toInt64), (y.2)))
def rm_L_seamSize : Room := { frames := 10, cells := 1, slots := 6, locals := 162 }
theorem hd_L_seamSize : yL_seamSize.cls = RL ∧ yL_seamSize.cls ≠ "java/lang/invoke/MethodHandle" ∧ yL_seamSize.cls ≠ "java/lang/invoke/VarHandle" ∧ (parseMethodDescriptor yL_seamSize.desc).map (fun d => d.parameters.length) = some 4 := by decide +kernel
set_option maxHeartbeats 4000000 in
set_option maxRecDepth 100000 in
theorem c_L_seamSize (l : Launch) (hlt : l.stackTraces = false) (g : GG) (ha : Nat → Nat → Nat) (tv : TV) (qv : QV) (sv : SV) (a0 : Int32) (a1 : Int32) (oa : Nat) (ol : Nat → Int64) (out : Int32 × (Nat → Int64) × SV) (hf : f_L_seamSize tv qv sv a0 a1 ol = some out) : MtI l yL_seamSize wsL_seamSize rm_L_seamSize g (wT g ha tv ++ wQ g (ha 1) qv ++ wS g (ha 3) sv ++ [(oa, .inl (gC g 3, 1, .inr (.inl ol)))]) [.ref (ha 0 0), .int a0, .int a1, .ref oa] (out.1) (wT g ha tv ++ wQ g (ha 1) qv ++ wS g (ha 3) (out.2.2) ++ [(oa, .inl (gC g 3, 1, .inr (.inl (out.2.1))))]) 1 6 := by
  refine fun sz => mh_of (hh := [(0, 10, 13, 13)]) (cc := cL_seamSize) (maxL := 5) (ret := (some .int)) (own := RL) (Qc := fun A => va_Qi (fun r (_ : Unit) => r = (out.1)) (fun _ t => PosM g A (wT g ha tv ++ wQ g (ha 1) qv ++ wS g (ha 3) (out.2.2) ++ [(oa, .inl (gC g 3, 1, .inr (.inl (out.2.1))))]) t) A) (by decide +kernel) rfl rfl (Nat.le_of_ble_eq_true rfl) ?_ sz
  intro p e s mi below meth c A ls hB htb hrt hlk hP hD hl
  obtain ⟨hx, hb, hml, hown, hts, hK, hZ, hT, hA, -⟩ := hB
  have hS : va_S A s.heap s.heap [] := va_S.rf
  have hl : lv_has ls 5 [(0, .ref (ha 0 0)), (1, .int a0), (2, .int a1), (3, .ref oa)] := hl
  have kk0 := hts (.classLink RL 13 "java/lang/IndexOutOfBoundsException") (by decide +kernel)
  unfold f_L_seamSize at hf
  obtain ⟨o, hg, hf⟩ := jbB_e hf
  refine lv_aload_n hx hb dL_seamSize_0 rfl (lv_at hl 3 rfl) ?_
  refine lv_iconst (v := 0) hx hb dL_seamSize_1 (by decide) ?_
  refine lv_aload_n hx hb dL_seamSize_2 rfl (lv_at hl 0 rfl) ?_
  refine lv_iload_n hx hb dL_seamSize_3 rfl (lv_at hl 1 rfl) ?_
  refine lv_iload_n hx hb dL_seamSize_4 rfl (lv_at hl 2 rfl) ?_
  refine cxpv_i (As := [.int a0, .int a1]) (rest := [.int 0, .ref oa]) (Wr := [(oa, .inl (gC g 3, 1, .inr (.inl ol)))]) (Wn := fun u => (wT g ha tv ++ wQ g (ha 1) qv ++ wS g (ha 3) (u.2) ++ [(oa, .inl (gC g 3, 1, .inr (.inl ol)))])) (WnX := fun u => (wT g ha tv ++ wQ g (ha 1) qv ++ wS g (ha 3) (u.2) ++ [(oa, .inl (gC g 3, 1, .inr (.inl ol)))])) ⟨hx, hb, hml, hown, hts⟩ (c_X10_seamSize l hlt g ha tv qv sv a0 a1 _ hg) (cwV 2 hts gL_seamSize_X10_seamSize rfl rfl rfl hd_X10_seamSize ⟨(Nat.le_of_ble_eq_true rfl), (Nat.le_of_ble_eq_true rfl)⟩) hK hZ hT hA hP hD hS hl.1 (va_recv hK hP (ci := 9) (q0 := 0) rfl rfl) (wp_of fun f => by simp only [List.countP_append, List.countP_cons, List.countP_nil] <;> omega) (fun _ => (wp_of fun f => by simp only [List.countP_append, List.countP_cons, List.countP_nil] <;> omega)) (fun _ => (wp_of fun f => by simp only [List.countP_append, List.countP_cons, List.countP_nil] <;> omega)) rfl rfl (Nat.le_of_ble_eq_true rfl) ⟨(Nat.le_of_ble_eq_true rfl), (Nat.le_of_ble_eq_true rfl)⟩ dL_seamSize_5 (fun u ce q9 H locs ho hP hD hS hce hcv hcl => ?_) (fun u H locs ho hP hD hS => ?_)
  · have ho9 := ho
    subst ho9
    have hf := jbM_l hf
    by_cases h0 : (u.1) = 0
    · have hf := jbT hf h0
      cases hf
      have hcl : s.vm.findClass "java/lang/IndexOutOfBoundsException" = some ce.cls := by rw [h0] at hcl; exact hcl
      refine lx_catch hown hT [] (0, 10, 13, 13) [] htb exN_0 lx_n rfl (by decide) kk0 hce hcv hcl ?_
      refine lv_astore (lv' := [(4, .ref q9), (0, .ref (ha 0 0)), (1, .int a0), (2, .int a1), (3, .ref oa)]) hx hb dL_seamSize_13 hl (by decide) rfl (fun ls hl => ?_)
      refine lv_iconst (v := 1) hx hb dL_seamSize_15 (by decide) ?_
      exact rt_i hx hb hrt hlk rfl hK hP hD hS (Nat.le_of_ble_eq_true rfl) (Nat.le_of_ble_eq_true rfl) dL_seamSize_16
    · have hf := jbF hf h0
      cases hf
  have ho9 := ho
  subst ho9
  have hf := jbM_r hf
  cases hf
  refine lv_i2l (v := (u.1).toInt64) hx hb dL_seamSize_8 rfl ?_
  have hP9 : va_P (gD g) vwCl ([(oa, .inl (gC g 3, 1, .inr (.inl ol)))] ++ (wT g ha tv ++ wQ g (ha 1) qv ++ wS g (ha 3) (u.2))) _ := wp_P (wp_of fun f => by simp only [List.countP_append, List.countP_cons, List.countP_nil] <;> omega) hP
  have hD9 : va_D A ([(oa, .inl (gC g 3, 1, .inr (.inl ol)))] ++ (wT g ha tv ++ wQ g (ha 1) qv ++ wS g (ha 3) (u.2))) := wp_D (wp_of fun f => by simp only [List.countP_append, List.countP_cons, List.countP_nil] <;> omega) hD
  refine va_last hx hb hK hP9 hD9 hS 0 3 rfl rfl (i := 0) (x := (u.1).toInt64) vp_in01 dL_seamSize_9 (fun H locs hP hD hS => ?_)
  have hP : va_P (gD g) vwCl (wT g ha tv ++ wQ g (ha 1) qv ++ wS g (ha 3) (u.2) ++ [(oa, .inl (gC g 3, 1, .inr (.inl (vp_updL ol (0 : Int32).toNatClampNeg (u.1).toInt64))))]) H := wp_P (a := [(oa, .inl (gC g 3, 1, .inr (.inl (vp_updL ol (0 : Int32).toNatClampNeg (u.1).toInt64))))] ++ (wT g ha tv ++ wQ g (ha 1) qv ++ wS g (ha 3) (u.2))) (wp_of fun f => by simp only [List.countP_append, List.countP_cons, List.countP_nil] <;> omega) hP
  have hD : va_D A (wT g ha tv ++ wQ g (ha 1) qv ++ wS g (ha 3) (u.2) ++ [(oa, .inl (gC g 3, 1, .inr (.inl (vp_updL ol (0 : Int32).toNatClampNeg (u.1).toInt64))))]) := wp_D (a := [(oa, .inl (gC g 3, 1, .inr (.inl (vp_updL ol (0 : Int32).toNatClampNeg (u.1).toInt64))))] ++ (wT g ha tv ++ wQ g (ha 1) qv ++ wS g (ha 3) (u.2))) (wp_of fun f => by simp only [List.countP_append, List.countP_cons, List.countP_nil] <;> omega) hD
  refine lv_goto (tgt := 17) hx hb dL_seamSize_10 (by decide) ?_
  refine lv_iconst (v := 0) hx hb dL_seamSize_17 (by decide) ?_
  exact rt_i hx hb hrt hlk rfl hK hP hD hS (Nat.le_of_ble_eq_true rfl) (Nat.le_of_ble_eq_true rfl) dL_seamSize_18
def f_L_seamVolume (tv : TV) (qv : QV) (sv : SV) (a0 : Int32) (a1 : Int32) (ol : Nat → Int64) : Option (Int32 × (Nat → Int64) × SV) :=
  (f_X10_seamVolume tv qv sv a0 a1).bind fun o => jbM o (fun x => if (x.1) = 0 then some (1, ol, (x.2)) else none) (fun y => some (0, (vp_updL ol (0 : Int32).toNatClampNeg (y.1).toInt64), (y.2)))
def rm_L_seamVolume : Room := { frames := 10, cells := 1, slots := 6, locals := 162 }
theorem hd_L_seamVolume : yL_seamVolume.cls = RL ∧ yL_seamVolume.cls ≠ "java/lang/invoke/MethodHandle" ∧ yL_seamVolume.cls ≠ "java/lang/invoke/VarHandle" ∧ (parseMethodDescriptor yL_seamVolume.desc).map (fun d => d.parameters.length) = some 4 := by decide +kernel
set_option maxHeartbeats 4000000 in
set_option maxRecDepth 100000 in
theorem c_L_seamVolume (l : Launch) (hlt : l.stackTraces = false) (g : GG) (ha : Nat → Nat → Nat) (tv : TV) (qv : QV) (sv : SV) (a0 : Int32) (a1 : Int32) (oa : Nat) (ol : Nat → Int64) (out : Int32 × (Nat → Int64) × SV) (hf : f_L_seamVolume tv qv sv a0 a1 ol = some out) : MtI l yL_seamVolume wsL_seamVolume rm_L_seamVolume g (wT g ha tv ++ wQ g (ha 1) qv ++ wS g (ha 3) sv ++ [(oa, .inl (gC g 3, 1, .inr (.inl ol)))]) [.ref (ha 0 0), .int a0, .int a1, .ref oa] (out.1) (wT g ha tv ++ wQ g (ha 1) qv ++ wS g (ha 3) (out.2.2) ++ [(oa, .inl (gC g 3, 1, .inr (.inl (out.2.1))))]) 1 6 := by
  refine fun sz => mh_of (hh := [(0, 10, 13, 13)]) (cc := cL_seamVolume) (maxL := 5) (ret := (some .int)) (own := RL) (Qc := fun A => va_Qi (fun r (_ : Unit) => r = (out.1)) (fun _ t => PosM g A (wT g ha tv ++ wQ g (ha 1) qv ++ wS g (ha 3) (out.2.2) ++ [(oa, .inl (gC g 3, 1, .inr (.inl (out.2.1))))]) t) A) (by decide +kernel) rfl rfl (Nat.le_of_ble_eq_true rfl) ?_ sz
  intro p e s mi below meth c A ls hB htb hrt hlk hP hD hl
  obtain ⟨hx, hb, hml, hown, hts, hK, hZ, hT, hA, -⟩ := hB
  have hS : va_S A s.heap s.heap [] := va_S.rf
  have hl : lv_has ls 5 [(0, .ref (ha 0 0)), (1, .int a0), (2, .int a1), (3, .ref oa)] := hl
  have kk0 := hts (.classLink RL 13 "java/lang/IndexOutOfBoundsException") (by decide +kernel)
  unfold f_L_seamVolume at hf
  obtain ⟨o, hg, hf⟩ := jbB_e hf
  refine lv_aload_n hx hb dL_seamVolume_0 rfl (lv_at hl 3 rfl) ?_
  refine lv_iconst (v := 0) hx hb dL_seamVolume_1 (by decide) ?_
  refine lv_aload_n hx hb dL_seamVolume_2 rfl (lv_at hl 0 rfl) ?_
  refine lv_iload_n hx hb dL_seamVolume_3 rfl (lv_at hl 1 rfl) ?_
  refine lv_iload_n hx hb dL_seamVolume_4 rfl (lv_at hl 2 rfl) ?_
  refine cxpv_i (As := [.int a0, .int a1]) (rest := [.int 0, .ref oa]) (Wr := [(oa, .inl (gC g 3, 1, .inr (.inl ol)))]) (Wn := fun u => (wT g ha tv ++ wQ g (ha 1) qv ++ wS g (ha 3) (u.2) ++ [(oa, .inl (gC g 3, 1, .inr (.inl ol)))])) (WnX := fun u => (wT g ha tv ++ wQ g (ha 1) qv ++ wS g (ha 3) (u.2) ++ [(oa, .inl (gC g 3, 1, .inr (.inl ol)))])) ⟨hx, hb, hml, hown, hts⟩ (c_X10_seamVolume l hlt g ha tv qv sv a0 a1 _ hg) (cwV 2 hts gL_seamVolume_X10_seamVolume rfl rfl rfl hd_X10_seamVolume ⟨(Nat.le_of_ble_eq_true rfl), (Nat.le_of_ble_eq_true rfl)⟩) hK hZ hT hA hP hD hS hl.1 (va_recv hK hP (ci := 9) (q0 := 0) rfl rfl) (wp_of fun f => by simp only [List.countP_append, List.countP_cons, List.countP_nil] <;> omega) (fun _ => (wp_of fun f => by simp only [List.countP_append, List.countP_cons, List.countP_nil] <;> omega)) (fun _ => (wp_of fun f => by simp only [List.countP_append, List.countP_cons, List.countP_nil] <;> omega)) rfl rfl (Nat.le_of_ble_eq_true rfl) ⟨(Nat.le_of_ble_eq_true rfl), (Nat.le_of_ble_eq_true rfl)⟩ dL_seamVolume_5 (fun u ce q9 H locs ho hP hD hS hce hcv hcl => ?_) (fun u H locs ho hP hD hS => ?_)
  · have ho9 := ho
    subst ho9
    have hf := jbM_l hf
    by_cases h0 : (u.1) = 0
    · have hf := jbT hf h0
      cases hf
      have hcl : s.vm.findClass "java/lang/IndexOutOfBoundsException" = some ce.cls := by rw [h0] at hcl; exact hcl
      refine lx_catch hown hT [] (0, 10, 13, 13) [] htb exN_0 lx_n rfl (by decide) kk0 hce hcv hcl ?_
      refine lv_astore (lv' := [(4, .ref q9), (0, .ref (ha 0 0)), (1, .int a0), (2, .int a1), (3, .ref oa)]) hx hb dL_seamVolume_13 hl (by decide) rfl (fun ls hl => ?_)
      refine lv_iconst (v := 1) hx hb dL_seamVolume_15 (by decide) ?_
      exact rt_i hx hb hrt hlk rfl hK hP hD hS (Nat.le_of_ble_eq_true rfl) (Nat.le_of_ble_eq_true rfl) dL_seamVolume_16
    · have hf := jbF hf h0
      cases hf
  have ho9 := ho
  subst ho9
  have hf := jbM_r hf
  cases hf
  refine lv_i2l (v := (u.1).toInt64) hx hb dL_seamVolume_8 rfl ?_
  have hP9 : va_P (gD g) vwCl ([(oa, .inl (gC g 3, 1, .inr (.inl ol)))] ++ (wT g ha tv ++ wQ g (ha 1) qv ++ wS g (ha 3) (u.2))) _ := wp_P (wp_of fun f => by simp only [List.countP_append, List.countP_cons, List.countP_nil] <;> omega) hP
  have hD9 : va_D A ([(oa, .inl (gC g 3, 1, .inr (.inl ol)))] ++ (wT g ha tv ++ wQ g (ha 1) qv ++ wS g (ha 3) (u.2))) := wp_D (wp_of fun f => by simp only [List.countP_append, List.countP_cons, List.countP_nil] <;> omega) hD
  refine va_last hx hb hK hP9 hD9 hS 0 3 rfl rfl (i := 0) (x := (u.1).toInt64) vp_in01 dL_seamVolume_9 (fun H locs hP hD hS => ?_)
  have hP : va_P (gD g) vwCl (wT g ha tv ++ wQ g (ha 1) qv ++ wS g (ha 3) (u.2) ++ [(oa, .inl (gC g 3, 1, .inr (.inl (vp_updL ol (0 : Int32).toNatClampNeg (u.1).toInt64))))]) H := wp_P (a := [(oa, .inl (gC g 3, 1, .inr (.inl (vp_updL ol (0 : Int32).toNatClampNeg (u.1).toInt64))))] ++ (wT g ha tv ++ wQ g (ha 1) qv ++ wS g (ha 3) (u.2))) (wp_of fun f => by simp only [List.countP_append, List.countP_cons, List.countP_nil] <;> omega) hP
  have hD : va_D A (wT g ha tv ++ wQ g (ha 1) qv ++ wS g (ha 3) (u.2) ++ [(oa, .inl (gC g 3, 1, .inr (.inl (vp_updL ol (0 : Int32).toNatClampNeg (u.1).toInt64))))]) := wp_D (a := [(oa, .inl (gC g 3, 1, .inr (.inl (vp_updL ol (0 : Int32).toNatClampNeg (u.1).toInt64))))] ++ (wT g ha tv ++ wQ g (ha 1) qv ++ wS g (ha 3) (u.2))) (wp_of fun f => by simp only [List.countP_append, List.countP_cons, List.countP_nil] <;> omega) hD
  refine lv_goto (tgt := 17) hx hb dL_seamVolume_10 (by decide) ?_
  refine lv_iconst (v := 0) hx hb dL_seamVolume_17 (by decide) ?_
  exact rt_i hx hb hrt hlk rfl hK hP hD hS (Nat.le_of_ble_eq_true rfl) (Nat.le_of_ble_eq_true rfl) dL_seamVolume_18
def f_L_footpath (tv : TV) (qv : QV) (sv : SV) (a0 : Int32) (a1 : Int32) (a2 : Int32) (a3 : Int32) (ol : Nat → Int64) : Option (Int32 × (Nat → Int64) × SV) :=
  (f_X10_footpath tv qv sv a0 a1 a2 a3).bind fun o => jbM o (fun x => if (x.1) = 0 then some (1, ol, (x.2)) else if (x.1) = 2 then some (2, ol, (x.2)) else none) (fun y => some (0, (vp_updL ol (0 : Int32).toNatClampNeg (y.1).toInt64), (y.2)))
def rm_L_footpath : Room := { frames := 10, cells := 3, slots := 18, locals := 165 }
theorem hd_L_footpath : yL_footpath.cls = RL ∧ yL_footpath.cls ≠ "java/lang/invoke/MethodHandle" ∧ yL_footpath.cls ≠ "java/lang/invoke/VarHandle" ∧ (parseMethodDescriptor yL_footpath.desc).map (fun d => d.parameters.length) = some 6 := by decide +kernel
set_option maxHeartbeats 4000000 in
set_option maxRecDepth 100000 in
theorem c_L_footpath (l : Launch) (hlt : l.stackTraces = false) (g : GG) (ha : Nat → Nat → Nat) (tv : TV) (qv : QV) (sv : SV) (a0 : Int32) (a1 : Int32) (a2 : Int32) (a3 : Int32) (oa : Nat) (ol : Nat → Int64) (out : Int32 × (Nat → Int64) × SV) (hf : f_L_footpath tv qv sv a0 a1 a2 a3 ol = some out) : MtI l yL_footpath wsL_footpath rm_L_footpath g (wT g ha tv ++ wQ g (ha 1) qv ++ wS g (ha 3) sv ++ [(oa, .inl (gC g 3, 1, .inr (.inl ol)))]) [.ref (ha 0 0), .int a0, .int a1, .int a2, .int a3, .ref oa] (out.1) (wT g ha tv ++ wQ g (ha 1) qv ++ wS g (ha 3) (out.2.2) ++ [(oa, .inl (gC g 3, 1, .inr (.inl (out.2.1))))]) 3 18 := by
  refine fun sz => mh_of (hh := [(0, 14, 17, 13), (0, 14, 21, 43)]) (cc := cL_footpath) (maxL := 7) (ret := (some .int)) (own := RL) (Qc := fun A => va_Qi (fun r (_ : Unit) => r = (out.1)) (fun _ t => PosM g A (wT g ha tv ++ wQ g (ha 1) qv ++ wS g (ha 3) (out.2.2) ++ [(oa, .inl (gC g 3, 1, .inr (.inl (out.2.1))))]) t) A) (by decide +kernel) rfl rfl (Nat.le_of_ble_eq_true rfl) ?_ sz
  intro p e s mi below meth c A ls hB htb hrt hlk hP hD hl
  obtain ⟨hx, hb, hml, hown, hts, hK, hZ, hT, hA, -⟩ := hB
  have hS : va_S A s.heap s.heap [] := va_S.rf
  have hl : lv_has ls 7 [(0, .ref (ha 0 0)), (1, .int a0), (2, .int a1), (3, .int a2), (4, .int a3), (5, .ref oa)] := hl
  have kk0 := hts (.classLink RL 13 "java/lang/IndexOutOfBoundsException") (by decide +kernel)
  have kk1 := hts (.classLink RL 43 "java/util/NoSuchElementException") (by decide +kernel)
  unfold f_L_footpath at hf
  obtain ⟨o, hg, hf⟩ := jbB_e hf
  refine lv_aload hx hb dL_footpath_0 (lv_at hl 5 rfl) ?_
  refine lv_iconst (v := 0) hx hb dL_footpath_2 (by decide) ?_
  refine lv_aload_n hx hb dL_footpath_3 rfl (lv_at hl 0 rfl) ?_
  refine lv_iload_n hx hb dL_footpath_4 rfl (lv_at hl 1 rfl) ?_
  refine lv_iload_n hx hb dL_footpath_5 rfl (lv_at hl 2 rfl) ?_
  refine lv_iload_n hx hb dL_footpath_6 rfl (lv_at hl 3 rfl) ?_
  refine lv_iload hx hb dL_footpath_7 (lv_at hl 4 rfl) ?_
  refine cxpv_i (As := [.int a0, .int a1, .int a2, .int a3]) (rest := [.int 0, .ref oa]) (Wr := [(oa, .inl (gC g 3, 1, .inr (.inl ol)))]) (Wn := fun u => (wT g ha tv ++ wQ g (ha 1) qv ++ wS g (ha 3) (u.2) ++ [(oa, .inl (gC g 3, 1, .inr (.inl ol)))])) (WnX := fun u => (wT g ha tv ++ wQ g (ha 1) qv ++ wS g (ha 3) (u.2) ++ [(oa, .inl (gC g 3, 1, .inr (.inl ol)))])) ⟨hx, hb, hml, hown, hts⟩ (c_X10_footpath l hlt g ha tv qv sv a0 a1 a2 a3 _ hg) (cwV 4 hts gL_footpath_X10_footpath rfl rfl rfl hd_X10_footpath ⟨(Nat.le_of_ble_eq_true rfl), (Nat.le_of_ble_eq_true rfl)⟩) hK hZ hT hA hP hD hS hl.1 (va_recv hK hP (ci := 9) (q0 := 0) rfl rfl) (wp_of fun f => by simp only [List.countP_append, List.countP_cons, List.countP_nil] <;> omega) (fun _ => (wp_of fun f => by simp only [List.countP_append, List.countP_cons, List.countP_nil] <;> omega)) (fun _ => (wp_of fun f => by simp only [List.countP_append, List.countP_cons, List.countP_nil] <;> omega)) rfl rfl (Nat.le_of_ble_eq_true rfl) ⟨(Nat.le_of_ble_eq_true rfl), (Nat.le_of_ble_eq_true rfl)⟩ dL_footpath_9 (fun u ce q9 H locs ho hP hD hS hce hcv hcl => ?_) (fun u H locs ho hP hD hS => ?_)
  · have ho9 := ho
    subst ho9
    have hf := jbM_l hf
    by_cases h0 : (u.1) = 0
    · have hf := jbT hf h0
      cases hf
      have hcl : s.vm.findClass "java/lang/IndexOutOfBoundsException" = some ce.cls := by rw [h0] at hcl; exact hcl
      refine lx_catch hown hT [] (0, 14, 17, 13) [(0, 14, 21, 43)] htb exN_0 lx_n rfl (by decide) kk0 hce hcv hcl ?_
      refine lv_astore (lv' := [(6, .ref q9), (0, .ref (ha 0 0)), (1, .int a0), (2, .int a1), (3, .int a2), (4, .int a3), (5, .ref oa)]) hx hb dL_footpath_17 hl (by decide) rfl (fun ls hl => ?_)
      refine lv_iconst (v := 1) hx hb dL_footpath_19 (by decide) ?_
      exact rt_i hx hb hrt hlk rfl hK hP hD hS (Nat.le_of_ble_eq_true rfl) (Nat.le_of_ble_eq_true rfl) dL_footpath_20
    · have hf := jbF hf h0
      by_cases h1 : (u.1) = 2
      · have hf := jbT hf h1
        cases hf
        have hcl : s.vm.findClass "java/util/NoSuchElementException" = some ce.cls := by rw [h1] at hcl; exact hcl
        refine lx_catch hown hT [(0, 14, 17, 13)] (0, 14, 21, 43) [] htb exN_2 (lx_c (nm := "java/lang/IndexOutOfBoundsException") (by decide) exN_0 (by decide) kk0 lx_n) rfl (by decide) kk1 hce hcv hcl ?_
        refine lv_astore (lv' := [(6, .ref q9), (0, .ref (ha 0 0)), (1, .int a0), (2, .int a1), (3, .int a2), (4, .int a3), (5, .ref oa)]) hx hb dL_footpath_21 hl (by decide) rfl (fun ls hl => ?_)
        refine lv_iconst (v := 2) hx hb dL_footpath_23 (by decide) ?_
        exact rt_i hx hb hrt hlk rfl hK hP hD hS (Nat.le_of_ble_eq_true rfl) (Nat.le_of_ble_eq_true rfl) dL_footpath_24
      · have hf := jbF hf h1
        cases hf
  have ho9 := ho
  subst ho9
  have hf := jbM_r hf
  cases hf
  refine lv_i2l (v := (u.1).toInt64) hx hb dL_footpath_12 rfl ?_
  have hP9 : va_P (gD g) vwCl ([(oa, .inl (gC g 3, 1, .inr (.inl ol)))] ++ (wT g ha tv ++ wQ g (ha 1) qv ++ wS g (ha 3) (u.2))) _ := wp_P (wp_of fun f => by simp only [List.countP_append, List.countP_cons, List.countP_nil] <;> omega) hP
  have hD9 : va_D A ([(oa, .inl (gC g 3, 1, .inr (.inl ol)))] ++ (wT g ha tv ++ wQ g (ha 1) qv ++ wS g (ha 3) (u.2))) := wp_D (wp_of fun f => by simp only [List.countP_append, List.countP_cons, List.countP_nil] <;> omega) hD
  refine va_last hx hb hK hP9 hD9 hS 0 3 rfl rfl (i := 0) (x := (u.1).toInt64) vp_in01 dL_footpath_13 (fun H locs hP hD hS => ?_)
  have hP : va_P (gD g) vwCl (wT g ha tv ++ wQ g (ha 1) qv ++ wS g (ha 3) (u.2) ++ [(oa, .inl (gC g 3, 1, .inr (.inl (vp_updL ol (0 : Int32).toNatClampNeg (u.1).toInt64))))]) H := wp_P (a := [(oa, .inl (gC g 3, 1, .inr (.inl (vp_updL ol (0 : Int32).toNatClampNeg (u.1).toInt64))))] ++ (wT g ha tv ++ wQ g (ha 1) qv ++ wS g (ha 3) (u.2))) (wp_of fun f => by simp only [List.countP_append, List.countP_cons, List.countP_nil] <;> omega) hP
  have hD : va_D A (wT g ha tv ++ wQ g (ha 1) qv ++ wS g (ha 3) (u.2) ++ [(oa, .inl (gC g 3, 1, .inr (.inl (vp_updL ol (0 : Int32).toNatClampNeg (u.1).toInt64))))]) := wp_D (a := [(oa, .inl (gC g 3, 1, .inr (.inl (vp_updL ol (0 : Int32).toNatClampNeg (u.1).toInt64))))] ++ (wT g ha tv ++ wQ g (ha 1) qv ++ wS g (ha 3) (u.2))) (wp_of fun f => by simp only [List.countP_append, List.countP_cons, List.countP_nil] <;> omega) hD
  refine lv_goto (tgt := 25) hx hb dL_footpath_14 (by decide) ?_
  refine lv_iconst (v := 0) hx hb dL_footpath_25 (by decide) ?_
  exact rt_i hx hb hrt hlk rfl hK hP hD hS (Nat.le_of_ble_eq_true rfl) (Nat.le_of_ble_eq_true rfl) dL_footpath_26
def f_L_liftableCells (tv : TV) (qv : QV) (a0 : Int32) (ol : Nat → Int64) : Option (Int32 × (Nat → Int64)) :=
  (f_X10_liftableCells tv qv a0).bind fun o => jbM o (fun x => if x = 0 then some (1, ol) else none) (fun y => some (0, (vp_updL ol (0 : Int32).toNatClampNeg y.toInt64)))
def rm_L_liftableCells : Room := { frames := 8, cells := 1, slots := 6, locals := 141 }
theorem hd_L_liftableCells : yL_liftableCells.cls = RL ∧ yL_liftableCells.cls ≠ "java/lang/invoke/MethodHandle" ∧ yL_liftableCells.cls ≠ "java/lang/invoke/VarHandle" ∧ (parseMethodDescriptor yL_liftableCells.desc).map (fun d => d.parameters.length) = some 3 := by decide +kernel
set_option maxHeartbeats 4000000 in
set_option maxRecDepth 100000 in
theorem c_L_liftableCells (l : Launch) (hlt : l.stackTraces = false) (g : GG) (ha : Nat → Nat → Nat) (tv : TV) (qv : QV) (a0 : Int32) (oa : Nat) (ol : Nat → Int64) (out : Int32 × (Nat → Int64)) (hf : f_L_liftableCells tv qv a0 ol = some out) : MtI l yL_liftableCells wsL_liftableCells rm_L_liftableCells g (wT g ha tv ++ wQ g (ha 1) qv ++ [(oa, .inl (gC g 3, 1, .inr (.inl ol)))]) [.ref (ha 0 0), .int a0, .ref oa] (out.1) (wT g ha tv ++ wQ g (ha 1) qv ++ [(oa, .inl (gC g 3, 1, .inr (.inl (out.2))))]) 1 6 := by
  refine fun sz => mh_of (hh := [(0, 9, 12, 13)]) (cc := cL_liftableCells) (maxL := 4) (ret := (some .int)) (own := RL) (Qc := fun A => va_Qi (fun r (_ : Unit) => r = (out.1)) (fun _ t => PosM g A (wT g ha tv ++ wQ g (ha 1) qv ++ [(oa, .inl (gC g 3, 1, .inr (.inl (out.2))))]) t) A) (by decide +kernel) rfl rfl (Nat.le_of_ble_eq_true rfl) ?_ sz
  intro p e s mi below meth c A ls hB htb hrt hlk hP hD hl
  obtain ⟨hx, hb, hml, hown, hts, hK, hZ, hT, hA, -⟩ := hB
  have hS : va_S A s.heap s.heap [] := va_S.rf
  have hl : lv_has ls 4 [(0, .ref (ha 0 0)), (1, .int a0), (2, .ref oa)] := hl
  have kk0 := hts (.classLink RL 13 "java/lang/IndexOutOfBoundsException") (by decide +kernel)
  unfold f_L_liftableCells at hf
  obtain ⟨o, hg, hf⟩ := jbB_e hf
  refine lv_aload_n hx hb dL_liftableCells_0 rfl (lv_at hl 2 rfl) ?_
  refine lv_iconst (v := 0) hx hb dL_liftableCells_1 (by decide) ?_
  refine lv_aload_n hx hb dL_liftableCells_2 rfl (lv_at hl 0 rfl) ?_
  refine lv_iload_n hx hb dL_liftableCells_3 rfl (lv_at hl 1 rfl) ?_
  refine cxpv_i (As := [.int a0]) (rest := [.int 0, .ref oa]) (Wr := [(oa, .inl (gC g 3, 1, .inr (.inl ol)))]) (Wn := fun u => (wT g ha tv ++ wQ g (ha 1) qv ++ [(oa, .inl (gC g 3, 1, .inr (.inl ol)))])) (WnX := fun u => (wT g ha tv ++ wQ g (ha 1) qv ++ [(oa, .inl (gC g 3, 1, .inr (.inl ol)))])) ⟨hx, hb, hml, hown, hts⟩ (c_X10_liftableCells l hlt g ha tv qv a0 _ hg) (cwV 1 hts gL_liftableCells_X10_liftableCells rfl rfl rfl hd_X10_liftableCells ⟨(Nat.le_of_ble_eq_true rfl), (Nat.le_of_ble_eq_true rfl)⟩) hK hZ hT hA hP hD hS hl.1 (va_recv hK hP (ci := 9) (q0 := 0) rfl rfl) (wp_of fun f => by simp only [List.countP_append, List.countP_cons, List.countP_nil] <;> omega) (fun _ => (wp_of fun f => by simp only [List.countP_append, List.countP_cons, List.countP_nil] <;> omega)) (fun _ => (wp_of fun f => by simp only [List.countP_append, List.countP_cons, List.countP_nil] <;> omega)) rfl rfl (Nat.le_of_ble_eq_true rfl) ⟨(Nat.le_of_ble_eq_true rfl), (Nat.le_of_ble_eq_true rfl)⟩ dL_liftableCells_4 (fun u ce q9 H locs ho hP hD hS hce hcv hcl => ?_) (fun u H locs ho hP hD hS => ?_)
  · have ho9 := ho
    subst ho9
    have hf := jbM_l hf
    by_cases h0 : u = 0
    · have hf := jbT hf h0
      cases hf
      have hcl : s.vm.findClass "java/lang/IndexOutOfBoundsException" = some ce.cls := by rw [h0] at hcl; exact hcl
      refine lx_catch hown hT [] (0, 9, 12, 13) [] htb exN_0 lx_n rfl (by decide) kk0 hce hcv hcl ?_
      refine lv_astore_n (lv' := [(3, .ref q9), (0, .ref (ha 0 0)), (1, .int a0), (2, .ref oa)]) hx hb dL_liftableCells_12 rfl hl (by decide) rfl (fun ls hl => ?_)
      refine lv_iconst (v := 1) hx hb dL_liftableCells_13 (by decide) ?_
      exact rt_i hx hb hrt hlk rfl hK hP hD hS (Nat.le_of_ble_eq_true rfl) (Nat.le_of_ble_eq_true rfl) dL_liftableCells_14
    · have hf := jbF hf h0
      cases hf
  have ho9 := ho
  subst ho9
  have hf := jbM_r hf
  cases hf
  refine lv_i2l (v := u.toInt64) hx hb dL_liftableCells_7 rfl ?_
  have hP9 : va_P (gD g) vwCl ([(oa, .inl (gC g 3, 1, .inr (.inl ol)))] ++ (wT g ha tv ++ wQ g (ha 1) qv)) _ := wp_P (wp_of fun f => by simp only [List.countP_append, List.countP_cons, List.countP_nil] <;> omega) hP
  have hD9 : va_D A ([(oa, .inl (gC g 3, 1, .inr (.inl ol)))] ++ (wT g ha tv ++ wQ g (ha 1) qv)) := wp_D (wp_of fun f => by simp only [List.countP_append, List.countP_cons, List.countP_nil] <;> omega) hD
  refine va_last hx hb hK hP9 hD9 hS 0 3 rfl rfl (i := 0) (x := u.toInt64) vp_in01 dL_liftableCells_8 (fun H locs hP hD hS => ?_)
  have hP : va_P (gD g) vwCl (wT g ha tv ++ wQ g (ha 1) qv ++ [(oa, .inl (gC g 3, 1, .inr (.inl (vp_updL ol (0 : Int32).toNatClampNeg u.toInt64))))]) H := wp_P (a := [(oa, .inl (gC g 3, 1, .inr (.inl (vp_updL ol (0 : Int32).toNatClampNeg u.toInt64))))] ++ (wT g ha tv ++ wQ g (ha 1) qv)) (wp_of fun f => by simp only [List.countP_append, List.countP_cons, List.countP_nil] <;> omega) hP
  have hD : va_D A (wT g ha tv ++ wQ g (ha 1) qv ++ [(oa, .inl (gC g 3, 1, .inr (.inl (vp_updL ol (0 : Int32).toNatClampNeg u.toInt64))))]) := wp_D (a := [(oa, .inl (gC g 3, 1, .inr (.inl (vp_updL ol (0 : Int32).toNatClampNeg u.toInt64))))] ++ (wT g ha tv ++ wQ g (ha 1) qv)) (wp_of fun f => by simp only [List.countP_append, List.countP_cons, List.countP_nil] <;> omega) hD
  refine lv_goto (tgt := 15) hx hb dL_liftableCells_9 (by decide) ?_
  refine lv_iconst (v := 0) hx hb dL_liftableCells_15 (by decide) ?_
  exact rt_i hx hb hrt hlk rfl hK hP hD hS (Nat.le_of_ble_eq_true rfl) (Nat.le_of_ble_eq_true rfl) dL_liftableCells_16
def f_L_bestWinch (tv : TV) (qv : QV) (a0 : Int32) (a1 : Int32) (ol : Nat → Int64) : Option (Int32 × (Nat → Int64)) :=
  (f_X10_bestWinch tv qv a0 a1).bind fun o => jbM o (fun x => if x = 0 then some (1, ol) else if x = 2 then some (2, ol) else none) (fun y => some (0, (vp_updL ol (0 : Int32).toNatClampNeg y.toInt64)))
def rm_L_bestWinch : Room := { frames := 10, cells := 2, slots := 12, locals := 163 }
theorem hd_L_bestWinch : yL_bestWinch.cls = RL ∧ yL_bestWinch.cls ≠ "java/lang/invoke/MethodHandle" ∧ yL_bestWinch.cls ≠ "java/lang/invoke/VarHandle" ∧ (parseMethodDescriptor yL_bestWinch.desc).map (fun d => d.parameters.length) = some 4 := by decide +kernel
set_option maxHeartbeats 4000000 in
set_option maxRecDepth 100000 in
theorem c_L_bestWinch (l : Launch) (hlt : l.stackTraces = false) (g : GG) (ha : Nat → Nat → Nat) (tv : TV) (qv : QV) (a0 : Int32) (a1 : Int32) (oa : Nat) (ol : Nat → Int64) (out : Int32 × (Nat → Int64)) (hf : f_L_bestWinch tv qv a0 a1 ol = some out) : MtI l yL_bestWinch wsL_bestWinch rm_L_bestWinch g (wT g ha tv ++ wQ g (ha 1) qv ++ [(oa, .inl (gC g 3, 1, .inr (.inl ol)))]) [.ref (ha 0 0), .int a0, .int a1, .ref oa] (out.1) (wT g ha tv ++ wQ g (ha 1) qv ++ [(oa, .inl (gC g 3, 1, .inr (.inl (out.2))))]) 2 12 := by
  refine fun sz => mh_of (hh := [(0, 10, 13, 13), (0, 10, 17, 43)]) (cc := cL_bestWinch) (maxL := 5) (ret := (some .int)) (own := RL) (Qc := fun A => va_Qi (fun r (_ : Unit) => r = (out.1)) (fun _ t => PosM g A (wT g ha tv ++ wQ g (ha 1) qv ++ [(oa, .inl (gC g 3, 1, .inr (.inl (out.2))))]) t) A) (by decide +kernel) rfl rfl (Nat.le_of_ble_eq_true rfl) ?_ sz
  intro p e s mi below meth c A ls hB htb hrt hlk hP hD hl
  obtain ⟨hx, hb, hml, hown, hts, hK, hZ, hT, hA, -⟩ := hB
  have hS : va_S A s.heap s.heap [] := va_S.rf
  have hl : lv_has ls 5 [(0, .ref (ha 0 0)), (1, .int a0), (2, .int a1), (3, .ref oa)] := hl
  have kk0 := hts (.classLink RL 13 "java/lang/IndexOutOfBoundsException") (by decide +kernel)
  have kk1 := hts (.classLink RL 43 "java/util/NoSuchElementException") (by decide +kernel)
  unfold f_L_bestWinch at hf
  obtain ⟨o, hg, hf⟩ := jbB_e hf
  refine lv_aload_n hx hb dL_bestWinch_0 rfl (lv_at hl 3 rfl) ?_
  refine lv_iconst (v := 0) hx hb dL_bestWinch_1 (by decide) ?_
  refine lv_aload_n hx hb dL_bestWinch_2 rfl (lv_at hl 0 rfl) ?_
  refine lv_iload_n hx hb dL_bestWinch_3 rfl (lv_at hl 1 rfl) ?_
  refine lv_iload_n hx hb dL_bestWinch_4 rfl (lv_at hl 2 rfl) ?_
  refine cxpv_i (As := [.int a0, .int a1]) (rest := [.int 0, .ref oa]) (Wr := [(oa, .inl (gC g 3, 1, .inr (.inl ol)))]) (Wn := fun u => (wT g ha tv ++ wQ g (ha 1) qv ++ [(oa, .inl (gC g 3, 1, .inr (.inl ol)))])) (WnX := fun u => (wT g ha tv ++ wQ g (ha 1) qv ++ [(oa, .inl (gC g 3, 1, .inr (.inl ol)))])) ⟨hx, hb, hml, hown, hts⟩ (c_X10_bestWinch l hlt g ha tv qv a0 a1 _ hg) (cwV 2 hts gL_bestWinch_X10_bestWinch rfl rfl rfl hd_X10_bestWinch ⟨(Nat.le_of_ble_eq_true rfl), (Nat.le_of_ble_eq_true rfl)⟩) hK hZ hT hA hP hD hS hl.1 (va_recv hK hP (ci := 9) (q0 := 0) rfl rfl) (wp_of fun f => by simp only [List.countP_append, List.countP_cons, List.countP_nil] <;> omega) (fun _ => (wp_of fun f => by simp only [List.countP_append, List.countP_cons, List.countP_nil] <;> omega)) (fun _ => (wp_of fun f => by simp only [List.countP_append, List.countP_cons, List.countP_nil] <;> omega)) rfl rfl (Nat.le_of_ble_eq_true rfl) ⟨(Nat.le_of_ble_eq_true rfl), (Nat.le_of_ble_eq_true rfl)⟩ dL_bestWinch_5 (fun u ce q9 H locs ho hP hD hS hce hcv hcl => ?_) (fun u H locs ho hP hD hS => ?_)
  · have ho9 := ho
    subst ho9
    have hf := jbM_l hf
    by_cases h0 : u = 0
    · have hf := jbT hf h0
      cases hf
      have hcl : s.vm.findClass "java/lang/IndexOutOfBoundsException" = some ce.cls := by rw [h0] at hcl; exact hcl
      refine lx_catch hown hT [] (0, 10, 13, 13) [(0, 10, 17, 43)] htb exN_0 lx_n rfl (by decide) kk0 hce hcv hcl ?_
      refine lv_astore (lv' := [(4, .ref q9), (0, .ref (ha 0 0)), (1, .int a0), (2, .int a1), (3, .ref oa)]) hx hb dL_bestWinch_13 hl (by decide) rfl (fun ls hl => ?_)
      refine lv_iconst (v := 1) hx hb dL_bestWinch_15 (by decide) ?_
      exact rt_i hx hb hrt hlk rfl hK hP hD hS (Nat.le_of_ble_eq_true rfl) (Nat.le_of_ble_eq_true rfl) dL_bestWinch_16
    · have hf := jbF hf h0
      by_cases h1 : u = 2
      · have hf := jbT hf h1
        cases hf
        have hcl : s.vm.findClass "java/util/NoSuchElementException" = some ce.cls := by rw [h1] at hcl; exact hcl
        refine lx_catch hown hT [(0, 10, 13, 13)] (0, 10, 17, 43) [] htb exN_2 (lx_c (nm := "java/lang/IndexOutOfBoundsException") (by decide) exN_0 (by decide) kk0 lx_n) rfl (by decide) kk1 hce hcv hcl ?_
        refine lv_astore (lv' := [(4, .ref q9), (0, .ref (ha 0 0)), (1, .int a0), (2, .int a1), (3, .ref oa)]) hx hb dL_bestWinch_17 hl (by decide) rfl (fun ls hl => ?_)
        refine lv_iconst (v := 2) hx hb dL_bestWinch_19 (by decide) ?_
        exact rt_i hx hb hrt hlk rfl hK hP hD hS (Nat.le_of_ble_eq_true rfl) (Nat.le_of_ble_eq_true rfl) dL_bestWinch_20
      · have hf := jbF hf h1
        cases hf
  have ho9 := ho
  subst ho9
  have hf := jbM_r hf
  cases hf
  refine lv_i2l (v := u.toInt64) hx hb dL_bestWinch_8 rfl ?_
  have hP9 : va_P (gD g) vwCl ([(oa, .inl (gC g 3, 1, .inr (.inl ol)))] ++ (wT g ha tv ++ wQ g (ha 1) qv)) _ := wp_P (wp_of fun f => by simp only [List.countP_append, List.countP_cons, List.countP_nil] <;> omega) hP
  have hD9 : va_D A ([(oa, .inl (gC g 3, 1, .inr (.inl ol)))] ++ (wT g ha tv ++ wQ g (ha 1) qv)) := wp_D (wp_of fun f => by simp only [List.countP_append, List.countP_cons, List.countP_nil] <;> omega) hD
  refine va_last hx hb hK hP9 hD9 hS 0 3 rfl rfl (i := 0) (x := u.toInt64) vp_in01 dL_bestWinch_9 (fun H locs hP hD hS => ?_)
  have hP : va_P (gD g) vwCl (wT g ha tv ++ wQ g (ha 1) qv ++ [(oa, .inl (gC g 3, 1, .inr (.inl (vp_updL ol (0 : Int32).toNatClampNeg u.toInt64))))]) H := wp_P (a := [(oa, .inl (gC g 3, 1, .inr (.inl (vp_updL ol (0 : Int32).toNatClampNeg u.toInt64))))] ++ (wT g ha tv ++ wQ g (ha 1) qv)) (wp_of fun f => by simp only [List.countP_append, List.countP_cons, List.countP_nil] <;> omega) hP
  have hD : va_D A (wT g ha tv ++ wQ g (ha 1) qv ++ [(oa, .inl (gC g 3, 1, .inr (.inl (vp_updL ol (0 : Int32).toNatClampNeg u.toInt64))))]) := wp_D (a := [(oa, .inl (gC g 3, 1, .inr (.inl (vp_updL ol (0 : Int32).toNatClampNeg u.toInt64))))] ++ (wT g ha tv ++ wQ g (ha 1) qv)) (wp_of fun f => by simp only [List.countP_append, List.countP_cons, List.countP_nil] <;> omega) hD
  refine lv_goto (tgt := 21) hx hb dL_bestWinch_10 (by decide) ?_
  refine lv_iconst (v := 0) hx hb dL_bestWinch_21 (by decide) ?_
  exact rt_i hx hb hrt hlk rfl hK hP hD hS (Nat.le_of_ble_eq_true rfl) (Nat.le_of_ble_eq_true rfl) dL_bestWinch_22
def f_L_inYard (tv : TV) (qv : QV) (a0 : Int32) (ol : Nat → Int64) : Option (Int32 × (Nat → Int64)) :=
  (f_X10_inYard tv qv a0).bind fun o => jbM o (fun x => if x = 1 then some (1, ol) else none) (fun y => some (0, (vp_updL ol (0 : Int32).toNatClampNeg y.toInt64)))
def rm_L_inYard : Room := { frames := 8, cells := 1, slots := 6, locals := 141 }
theorem hd_L_inYard : yL_inYard.cls = RL ∧ yL_inYard.cls ≠ "java/lang/invoke/MethodHandle" ∧ yL_inYard.cls ≠ "java/lang/invoke/VarHandle" ∧ (parseMethodDescriptor yL_inYard.desc).map (fun d => d.parameters.length) = some 3 := by decide +kernel
set_option maxHeartbeats 4000000 in
set_option maxRecDepth 100000 in
theorem c_L_inYard (l : Launch) (hlt : l.stackTraces = false) (g : GG) (ha : Nat → Nat → Nat) (tv : TV) (qv : QV) (a0 : Int32) (oa : Nat) (ol : Nat → Int64) (out : Int32 × (Nat → Int64)) (hf : f_L_inYard tv qv a0 ol = some out) : MtI l yL_inYard wsL_inYard rm_L_inYard g (wT g ha tv ++ wQ g (ha 1) qv ++ [(oa, .inl (gC g 3, 1, .inr (.inl ol)))]) [.ref (ha 0 0), .int a0, .ref oa] (out.1) (wT g ha tv ++ wQ g (ha 1) qv ++ [(oa, .inl (gC g 3, 1, .inr (.inl (out.2))))]) 1 6 := by
  refine fun sz => mh_of (hh := [(0, 9, 12, 15)]) (cc := cL_inYard) (maxL := 4) (ret := (some .int)) (own := RL) (Qc := fun A => va_Qi (fun r (_ : Unit) => r = (out.1)) (fun _ t => PosM g A (wT g ha tv ++ wQ g (ha 1) qv ++ [(oa, .inl (gC g 3, 1, .inr (.inl (out.2))))]) t) A) (by decide +kernel) rfl rfl (Nat.le_of_ble_eq_true rfl) ?_ sz
  intro p e s mi below meth c A ls hB htb hrt hlk hP hD hl
  obtain ⟨hx, hb, hml, hown, hts, hK, hZ, hT, hA, -⟩ := hB
  have hS : va_S A s.heap s.heap [] := va_S.rf
  have hl : lv_has ls 4 [(0, .ref (ha 0 0)), (1, .int a0), (2, .ref oa)] := hl
  have kk0 := hts (.classLink RL 15 "java/lang/IllegalArgumentException") (by decide +kernel)
  unfold f_L_inYard at hf
  obtain ⟨o, hg, hf⟩ := jbB_e hf
  refine lv_aload_n hx hb dL_inYard_0 rfl (lv_at hl 2 rfl) ?_
  refine lv_iconst (v := 0) hx hb dL_inYard_1 (by decide) ?_
  refine lv_aload_n hx hb dL_inYard_2 rfl (lv_at hl 0 rfl) ?_
  refine lv_iload_n hx hb dL_inYard_3 rfl (lv_at hl 1 rfl) ?_
  refine cxpv_i (As := [.int a0]) (rest := [.int 0, .ref oa]) (Wr := [(oa, .inl (gC g 3, 1, .inr (.inl ol)))]) (Wn := fun u => (wT g ha tv ++ wQ g (ha 1) qv ++ [(oa, .inl (gC g 3, 1, .inr (.inl ol)))])) (WnX := fun u => (wT g ha tv ++ wQ g (ha 1) qv ++ [(oa, .inl (gC g 3, 1, .inr (.inl ol)))])) ⟨hx, hb, hml, hown, hts⟩ (c_X10_inYard l hlt g ha tv qv a0 _ hg) (cwV 1 hts gL_inYard_X10_inYard rfl rfl rfl hd_X10_inYard ⟨(Nat.le_of_ble_eq_true rfl), (Nat.le_of_ble_eq_true rfl)⟩) hK hZ hT hA hP hD hS hl.1 (va_recv hK hP (ci := 9) (q0 := 0) rfl rfl) (wp_of fun f => by simp only [List.countP_append, List.countP_cons, List.countP_nil] <;> omega) (fun _ => (wp_of fun f => by simp only [List.countP_append, List.countP_cons, List.countP_nil] <;> omega)) (fun _ => (wp_of fun f => by simp only [List.countP_append, List.countP_cons, List.countP_nil] <;> omega)) rfl rfl (Nat.le_of_ble_eq_true rfl) ⟨(Nat.le_of_ble_eq_true rfl), (Nat.le_of_ble_eq_true rfl)⟩ dL_inYard_4 (fun u ce q9 H locs ho hP hD hS hce hcv hcl => ?_) (fun u H locs ho hP hD hS => ?_)
  · have ho9 := ho
    subst ho9
    have hf := jbM_l hf
    by_cases h0 : u = 1
    · have hf := jbT hf h0
      cases hf
      have hcl : s.vm.findClass "java/lang/IllegalArgumentException" = some ce.cls := by rw [h0] at hcl; exact hcl
      refine lx_catch hown hT [] (0, 9, 12, 15) [] htb exN_1 lx_n rfl (by decide) kk0 hce hcv hcl ?_
      refine lv_astore_n (lv' := [(3, .ref q9), (0, .ref (ha 0 0)), (1, .int a0), (2, .ref oa)]) hx hb dL_inYard_12 rfl hl (by decide) rfl (fun ls hl => ?_)
      refine lv_iconst (v := 1) hx hb dL_inYard_13 (by decide) ?_
      exact rt_i hx hb hrt hlk rfl hK hP hD hS (Nat.le_of_ble_eq_true rfl) (Nat.le_of_ble_eq_true rfl) dL_inYard_14
    · have hf := jbF hf h0
      cases hf
  have ho9 := ho
  subst ho9
  have hf := jbM_r hf
  cases hf
  refine lv_i2l (v := u.toInt64) hx hb dL_inYard_7 rfl ?_
  have hP9 : va_P (gD g) vwCl ([(oa, .inl (gC g 3, 1, .inr (.inl ol)))] ++ (wT g ha tv ++ wQ g (ha 1) qv)) _ := wp_P (wp_of fun f => by simp only [List.countP_append, List.countP_cons, List.countP_nil] <;> omega) hP
  have hD9 : va_D A ([(oa, .inl (gC g 3, 1, .inr (.inl ol)))] ++ (wT g ha tv ++ wQ g (ha 1) qv)) := wp_D (wp_of fun f => by simp only [List.countP_append, List.countP_cons, List.countP_nil] <;> omega) hD
  refine va_last hx hb hK hP9 hD9 hS 0 3 rfl rfl (i := 0) (x := u.toInt64) vp_in01 dL_inYard_8 (fun H locs hP hD hS => ?_)
  have hP : va_P (gD g) vwCl (wT g ha tv ++ wQ g (ha 1) qv ++ [(oa, .inl (gC g 3, 1, .inr (.inl (vp_updL ol (0 : Int32).toNatClampNeg u.toInt64))))]) H := wp_P (a := [(oa, .inl (gC g 3, 1, .inr (.inl (vp_updL ol (0 : Int32).toNatClampNeg u.toInt64))))] ++ (wT g ha tv ++ wQ g (ha 1) qv)) (wp_of fun f => by simp only [List.countP_append, List.countP_cons, List.countP_nil] <;> omega) hP
  have hD : va_D A (wT g ha tv ++ wQ g (ha 1) qv ++ [(oa, .inl (gC g 3, 1, .inr (.inl (vp_updL ol (0 : Int32).toNatClampNeg u.toInt64))))]) := wp_D (a := [(oa, .inl (gC g 3, 1, .inr (.inl (vp_updL ol (0 : Int32).toNatClampNeg u.toInt64))))] ++ (wT g ha tv ++ wQ g (ha 1) qv)) (wp_of fun f => by simp only [List.countP_append, List.countP_cons, List.countP_nil] <;> omega) hD
  refine lv_goto (tgt := 15) hx hb dL_inYard_9 (by decide) ?_
  refine lv_iconst (v := 0) hx hb dL_inYard_15 (by decide) ?_
  exact rt_i hx hb hrt hlk rfl hK hP hD hS (Nat.le_of_ble_eq_true rfl) (Nat.le_of_ble_eq_true rfl) dL_inYard_16
def f_L_liftedShare (tv : TV) (qv : QV)  (od : Nat → UInt64) : Option (Int32 × (Nat → UInt64)) :=
  (f_X10_liftedShare tv qv ).bind fun o => jbM o (fun x => if x = 5 then some (1, od) else none) (fun y => if FP.f2d y &&& 0x7fffffffffffffff ≤ 0x7ff0000000000000 then some (0, (vf_upd od (0 : Int32).toNatClampNeg (FP.f2d y))) else none)
def rm_L_liftedShare : Room := { frames := 8, cells := 1, slots := 6, locals := 141 }
theorem hd_L_liftedShare : yL_liftedShare.cls = RL ∧ yL_liftedShare.cls ≠ "java/lang/invoke/MethodHandle" ∧ yL_liftedShare.cls ≠ "java/lang/invoke/VarHandle" ∧ (parseMethodDescriptor yL_liftedShare.desc).map (fun d => d.parameters.length) = some 2 := by decide +kernel
set_option maxHeartbeats 4000000 in
set_option maxRecDepth 100000 in
theorem c_L_liftedShare (l : Launch) (hlt : l.stackTraces = false) (g : GG) (ha : Nat → Nat → Nat) (tv : TV) (qv : QV)  (oa : Nat) (od : Nat → UInt64) (out : Int32 × (Nat → UInt64)) (hf : f_L_liftedShare tv qv  od = some out) : MtI l yL_liftedShare wsL_liftedShare rm_L_liftedShare g (wT g ha tv ++ wQ g (ha 1) qv ++ [(oa, .inl (gC g 4, 1, .inr (.inr (.inr (.inl od)))))]) [.ref (ha 0 0), .ref oa] (out.1) (wT g ha tv ++ wQ g (ha 1) qv ++ [(oa, .inl (gC g 4, 1, .inr (.inr (.inr (.inl (out.2))))))]) 1 6 := by
  refine fun sz => mh_of (hh := [(0, 8, 11, 100)]) (cc := cL_liftedShare) (maxL := 3) (ret := (some .int)) (own := RL) (Qc := fun A => va_Qi (fun r (_ : Unit) => r = (out.1)) (fun _ t => PosM g A (wT g ha tv ++ wQ g (ha 1) qv ++ [(oa, .inl (gC g 4, 1, .inr (.inr (.inr (.inl (out.2))))))]) t) A) (by decide +kernel) rfl rfl (Nat.le_of_ble_eq_true rfl) ?_ sz
  intro p e s mi below meth c A ls hB htb hrt hlk hP hD hl
  obtain ⟨hx, hb, hml, hown, hts, hK, hZ, hT, hA, -⟩ := hB
  have hS : va_S A s.heap s.heap [] := va_S.rf
  have hl : lv_has ls 3 [(0, .ref (ha 0 0)), (1, .ref oa)] := hl
  have kk0 := hts (.classLink RL 100 "java/lang/ArithmeticException") (by decide +kernel)
  unfold f_L_liftedShare at hf
  obtain ⟨o, hg, hf⟩ := jbB_e hf
  refine lv_aload_n hx hb dL_liftedShare_0 rfl (lv_at hl 1 rfl) ?_
  refine lv_iconst (v := 0) hx hb dL_liftedShare_1 (by decide) ?_
  refine lv_aload_n hx hb dL_liftedShare_2 rfl (lv_at hl 0 rfl) ?_
  refine cxpv_f (As := []) (rest := [.int 0, .ref oa]) (Wr := [(oa, .inl (gC g 4, 1, .inr (.inr (.inr (.inl od)))))]) (Wn := fun u => (wT g ha tv ++ wQ g (ha 1) qv ++ [(oa, .inl (gC g 4, 1, .inr (.inr (.inr (.inl od)))))])) (WnX := fun u => (wT g ha tv ++ wQ g (ha 1) qv ++ [(oa, .inl (gC g 4, 1, .inr (.inr (.inr (.inl od)))))])) ⟨hx, hb, hml, hown, hts⟩ (c_X10_liftedShare l hlt g ha tv qv  _ hg) (cwV 0 hts gL_liftedShare_X10_liftedShare rfl rfl rfl hd_X10_liftedShare ⟨(Nat.le_of_ble_eq_true rfl), (Nat.le_of_ble_eq_true rfl)⟩) hK hZ hT hA hP hD hS hl.1 (va_recv hK hP (ci := 9) (q0 := 0) rfl rfl) (wp_of fun f => by simp only [List.countP_append, List.countP_cons, List.countP_nil] <;> omega) (fun _ => (wp_of fun f => by simp only [List.countP_append, List.countP_cons, List.countP_nil] <;> omega)) (fun _ => (wp_of fun f => by simp only [List.countP_append, List.countP_cons, List.countP_nil] <;> omega)) rfl rfl (Nat.le_of_ble_eq_true rfl) ⟨(Nat.le_of_ble_eq_true rfl), (Nat.le_of_ble_eq_true rfl)⟩ dL_liftedShare_3 (fun u ce q9 H locs ho hP hD hS hce hcv hcl => ?_) (fun u H locs ho hP hD hS => ?_)
  · have ho9 := ho
    subst ho9
    have hf := jbM_l hf
    by_cases h0 : u = 5
    · have hf := jbT hf h0
      cases hf
      have hcl : s.vm.findClass "java/lang/ArithmeticException" = some ce.cls := by rw [h0] at hcl; exact hcl
      refine lx_catch hown hT [] (0, 8, 11, 100) [] htb exN_5 lx_n rfl (by decide) kk0 hce hcv hcl ?_
      refine lv_astore_n (lv' := [(2, .ref q9), (0, .ref (ha 0 0)), (1, .ref oa)]) hx hb dL_liftedShare_11 rfl hl (by decide) rfl (fun ls hl => ?_)
      refine lv_iconst (v := 1) hx hb dL_liftedShare_12 (by decide) ?_
      exact rt_i hx hb hrt hlk rfl hK hP hD hS (Nat.le_of_ble_eq_true rfl) (Nat.le_of_ble_eq_true rfl) dL_liftedShare_13
    · have hf := jbF hf h0
      cases hf
  have ho9 := ho
  subst ho9
  have hf := jbM_r hf
  obtain ⟨hnn, hf⟩ := jbA_e hf
  cases hf
  refine lv_f2d hx hb dL_liftedShare_6 hnn ?_
  have hP9 : va_P (gD g) vwCl ([(oa, .inl (gC g 4, 1, .inr (.inr (.inr (.inl od)))))] ++ (wT g ha tv ++ wQ g (ha 1) qv)) _ := wp_P (wp_of fun f => by simp only [List.countP_append, List.countP_cons, List.countP_nil] <;> omega) hP
  have hD9 : va_D A ([(oa, .inl (gC g 4, 1, .inr (.inr (.inr (.inl od)))))] ++ (wT g ha tv ++ wQ g (ha 1) qv)) := wp_D (wp_of fun f => by simp only [List.countP_append, List.countP_cons, List.countP_nil] <;> omega) hD
  refine va_dast hx hb hK hP9 hD9 hS 0 4 rfl rfl (i := 0) (x := (FP.f2d u)) vp_in01 dL_liftedShare_7 (fun H locs hP hD hS => ?_)
  have hP : va_P (gD g) vwCl (wT g ha tv ++ wQ g (ha 1) qv ++ [(oa, .inl (gC g 4, 1, .inr (.inr (.inr (.inl (vf_upd od (0 : Int32).toNatClampNeg (FP.f2d u)))))))]) H := wp_P (a := [(oa, .inl (gC g 4, 1, .inr (.inr (.inr (.inl (vf_upd od (0 : Int32).toNatClampNeg (FP.f2d u)))))))] ++ (wT g ha tv ++ wQ g (ha 1) qv)) (wp_of fun f => by simp only [List.countP_append, List.countP_cons, List.countP_nil] <;> omega) hP
  have hD : va_D A (wT g ha tv ++ wQ g (ha 1) qv ++ [(oa, .inl (gC g 4, 1, .inr (.inr (.inr (.inl (vf_upd od (0 : Int32).toNatClampNeg (FP.f2d u)))))))]) := wp_D (a := [(oa, .inl (gC g 4, 1, .inr (.inr (.inr (.inl (vf_upd od (0 : Int32).toNatClampNeg (FP.f2d u)))))))] ++ (wT g ha tv ++ wQ g (ha 1) qv)) (wp_of fun f => by simp only [List.countP_append, List.countP_cons, List.countP_nil] <;> omega) hD
  refine lv_goto (tgt := 14) hx hb dL_liftedShare_8 (by decide) ?_
  refine lv_iconst (v := 0) hx hb dL_liftedShare_14 (by decide) ?_
  exact rt_i hx hb hrt hlk rfl hK hP hD hS (Nat.le_of_ble_eq_true rfl) (Nat.le_of_ble_eq_true rfl) dL_liftedShare_15
def f_L_append (tv : TV) (pv : PV) (a0 : Int32) (ol : Nat → Int64) : Option (Int32 × (Nat → Int64) × PV) :=
  (f_X10_append tv pv a0).bind fun o => jbM o (fun x => if (x.1) = 3 then some (1, ol, (x.2)) else none) (fun y => some (0, (vp_updL ol (0 : Int32).toNatClampNeg (y.1).toInt64), (y.2)))
def rm_L_append : Room := { frames := 8, cells := 1, slots := 6, locals := 141 }
theorem hd_L_append : yL_append.cls = RL ∧ yL_append.cls ≠ "java/lang/invoke/MethodHandle" ∧ yL_append.cls ≠ "java/lang/invoke/VarHandle" ∧ (parseMethodDescriptor yL_append.desc).map (fun d => d.parameters.length) = some 3 := by decide +kernel
set_option maxHeartbeats 4000000 in
set_option maxRecDepth 100000 in
theorem c_L_append (l : Launch) (hlt : l.stackTraces = false) (g : GG) (ha : Nat → Nat → Nat) (tv : TV) (pv : PV) (a0 : Int32) (oa : Nat) (ol : Nat → Int64) (out : Int32 × (Nat → Int64) × PV) (hf : f_L_append tv pv a0 ol = some out) : MtI l yL_append wsL_append rm_L_append g (wT g ha tv ++ wP g (ha 5) pv ++ [(oa, .inl (gC g 3, 1, .inr (.inl ol)))]) [.ref (ha 0 0), .int a0, .ref oa] (out.1) (wT g ha tv ++ wP g (ha 5) (out.2.2) ++ [(oa, .inl (gC g 3, 1, .inr (.inl (out.2.1))))]) 1 6 := by
  refine fun sz => mh_of (hh := [(0, 9, 12, 21)]) (cc := cL_append) (maxL := 4) (ret := (some .int)) (own := RL) (Qc := fun A => va_Qi (fun r (_ : Unit) => r = (out.1)) (fun _ t => PosM g A (wT g ha tv ++ wP g (ha 5) (out.2.2) ++ [(oa, .inl (gC g 3, 1, .inr (.inl (out.2.1))))]) t) A) (by decide +kernel) rfl rfl (Nat.le_of_ble_eq_true rfl) ?_ sz
  intro p e s mi below meth c A ls hB htb hrt hlk hP hD hl
  obtain ⟨hx, hb, hml, hown, hts, hK, hZ, hT, hA, -⟩ := hB
  have hS : va_S A s.heap s.heap [] := va_S.rf
  have hl : lv_has ls 4 [(0, .ref (ha 0 0)), (1, .int a0), (2, .ref oa)] := hl
  have kk0 := hts (.classLink RL 21 "java/lang/IllegalStateException") (by decide +kernel)
  unfold f_L_append at hf
  obtain ⟨o, hg, hf⟩ := jbB_e hf
  refine lv_aload_n hx hb dL_append_0 rfl (lv_at hl 2 rfl) ?_
  refine lv_iconst (v := 0) hx hb dL_append_1 (by decide) ?_
  refine lv_aload_n hx hb dL_append_2 rfl (lv_at hl 0 rfl) ?_
  refine lv_iload_n hx hb dL_append_3 rfl (lv_at hl 1 rfl) ?_
  refine cxpv_i (As := [.int a0]) (rest := [.int 0, .ref oa]) (Wr := [(oa, .inl (gC g 3, 1, .inr (.inl ol)))]) (Wn := fun u => (wT g ha tv ++ wP g (ha 5) (u.2) ++ [(oa, .inl (gC g 3, 1, .inr (.inl ol)))])) (WnX := fun u => (wT g ha tv ++ wP g (ha 5) (u.2) ++ [(oa, .inl (gC g 3, 1, .inr (.inl ol)))])) ⟨hx, hb, hml, hown, hts⟩ (c_X10_append l hlt g ha tv pv a0 _ hg) (cwV 1 hts gL_append_X10_append rfl rfl rfl hd_X10_append ⟨(Nat.le_of_ble_eq_true rfl), (Nat.le_of_ble_eq_true rfl)⟩) hK hZ hT hA hP hD hS hl.1 (va_recv hK hP (ci := 9) (q0 := 0) rfl rfl) (wp_of fun f => by simp only [List.countP_append, List.countP_cons, List.countP_nil] <;> omega) (fun _ => (wp_of fun f => by simp only [List.countP_append, List.countP_cons, List.countP_nil] <;> omega)) (fun _ => (wp_of fun f => by simp only [List.countP_append, List.countP_cons, List.countP_nil] <;> omega)) rfl rfl (Nat.le_of_ble_eq_true rfl) ⟨(Nat.le_of_ble_eq_true rfl), (Nat.le_of_ble_eq_true rfl)⟩ dL_append_4 (fun u ce q9 H locs ho hP hD hS hce hcv hcl => ?_) (fun u H locs ho hP hD hS => ?_)
  · have ho9 := ho
    subst ho9
    have hf := jbM_l hf
    by_cases h0 : (u.1) = 3
    · have hf := jbT hf h0
      cases hf
      have hcl : s.vm.findClass "java/lang/IllegalStateException" = some ce.cls := by rw [h0] at hcl; exact hcl
      refine lx_catch hown hT [] (0, 9, 12, 21) [] htb exN_3 lx_n rfl (by decide) kk0 hce hcv hcl ?_
      refine lv_astore_n (lv' := [(3, .ref q9), (0, .ref (ha 0 0)), (1, .int a0), (2, .ref oa)]) hx hb dL_append_12 rfl hl (by decide) rfl (fun ls hl => ?_)
      refine lv_iconst (v := 1) hx hb dL_append_13 (by decide) ?_
      exact rt_i hx hb hrt hlk rfl hK hP hD hS (Nat.le_of_ble_eq_true rfl) (Nat.le_of_ble_eq_true rfl) dL_append_14
    · have hf := jbF hf h0
      cases hf
  have ho9 := ho
  subst ho9
  have hf := jbM_r hf
  cases hf
  refine lv_i2l (v := (u.1).toInt64) hx hb dL_append_7 rfl ?_
  have hP9 : va_P (gD g) vwCl ([(oa, .inl (gC g 3, 1, .inr (.inl ol)))] ++ (wT g ha tv ++ wP g (ha 5) (u.2))) _ := wp_P (wp_of fun f => by simp only [List.countP_append, List.countP_cons, List.countP_nil] <;> omega) hP
  have hD9 : va_D A ([(oa, .inl (gC g 3, 1, .inr (.inl ol)))] ++ (wT g ha tv ++ wP g (ha 5) (u.2))) := wp_D (wp_of fun f => by simp only [List.countP_append, List.countP_cons, List.countP_nil] <;> omega) hD
  refine va_last hx hb hK hP9 hD9 hS 0 3 rfl rfl (i := 0) (x := (u.1).toInt64) vp_in01 dL_append_8 (fun H locs hP hD hS => ?_)
  have hP : va_P (gD g) vwCl (wT g ha tv ++ wP g (ha 5) (u.2) ++ [(oa, .inl (gC g 3, 1, .inr (.inl (vp_updL ol (0 : Int32).toNatClampNeg (u.1).toInt64))))]) H := wp_P (a := [(oa, .inl (gC g 3, 1, .inr (.inl (vp_updL ol (0 : Int32).toNatClampNeg (u.1).toInt64))))] ++ (wT g ha tv ++ wP g (ha 5) (u.2))) (wp_of fun f => by simp only [List.countP_append, List.countP_cons, List.countP_nil] <;> omega) hP
  have hD : va_D A (wT g ha tv ++ wP g (ha 5) (u.2) ++ [(oa, .inl (gC g 3, 1, .inr (.inl (vp_updL ol (0 : Int32).toNatClampNeg (u.1).toInt64))))]) := wp_D (a := [(oa, .inl (gC g 3, 1, .inr (.inl (vp_updL ol (0 : Int32).toNatClampNeg (u.1).toInt64))))] ++ (wT g ha tv ++ wP g (ha 5) (u.2))) (wp_of fun f => by simp only [List.countP_append, List.countP_cons, List.countP_nil] <;> omega) hD
  refine lv_goto (tgt := 15) hx hb dL_append_9 (by decide) ?_
  refine lv_iconst (v := 0) hx hb dL_append_15 (by decide) ?_
  exact rt_i hx hb hrt hlk rfl hK hP hD hS (Nat.le_of_ble_eq_true rfl) (Nat.le_of_ble_eq_true rfl) dL_append_16
def f_L_run (ep fc : Int32) (qv bv : QV) (pv : PV) (hv : HV)  (ol : Nat → Int64) : Option (Int32 × (Nat → Int64) × Int32 × Int32 × QV × QV × PV × HV) :=
  (f_X10_run ep fc qv bv pv hv).bind fun o => jbM o (fun x => if x.1 = 1 then some (1, ol, x.2.1, x.2.2.1, x.2.2.2.1, x.2.2.2.2.1, x.2.2.2.2.2, hv) else if x.1 = 4 then some (2, ol, x.2.1, x.2.2.1, x.2.2.2.1, x.2.2.2.2.1, x.2.2.2.2.2, hv) else none) (fun y => some (0, (vp_updL ol (0 : Int32).toNatClampNeg y.1.toInt64), ep, fc, y.2.1, y.2.2.1, y.2.2.2.1, y.2.2.2.2))
def rm_L_run : Room := { frames := 10, cells := 40, slots := 408, locals := 220 }
theorem hd_L_run : yL_run.cls = RL ∧ yL_run.cls ≠ "java/lang/invoke/MethodHandle" ∧ yL_run.cls ≠ "java/lang/invoke/VarHandle" ∧ (parseMethodDescriptor yL_run.desc).map (fun d => d.parameters.length) = some 2 := by decide +kernel
set_option maxHeartbeats 4000000 in
set_option maxRecDepth 100000 in
theorem c_L_run (l : Launch) (hlt : l.stackTraces = false) (g : GG) (ha : Nat → Nat → Nat) (hd : Nat → Nat → Nat) (sa : Option Nat) (ep fc : Int32) (qv bv : QV) (pv : PV) (lq : ListS) (hok : lsOK lq) (hv : HV)  (oa : Nat) (ol : Nat → Int64) (out : Int32 × (Nat → Int64) × Int32 × Int32 × QV × QV × PV × HV) (hf : f_L_run ep fc qv bv pv hv  ol = some out) : MzI (RT := ListS × (Nat → Nat → Nat)) l yL_run wsL_run rm_L_run g (wT g ha (sa, ep, fc) ++ wQ g (ha 1) qv ++ wQ g (ha 2) bv ++ wP g (ha 5) pv ++ wL g (ha 5 2) lq ++ wH g (ha 4) hd hv ++ [(oa, .inl (gC g 3, 1, .inr (.inl ol)))]) [.ref (ha 0 0), .ref oa] (fun u => lsOK u.1) (fun _ => (out.1)) (fun u => (wT g ha (sa, (out.2.2.1), (out.2.2.2.1)) ++ wQ g (ha 1) (out.2.2.2.2.1) ++ wQ g (ha 2) (out.2.2.2.2.2.1) ++ wP g (ha 5) (out.2.2.2.2.2.2.1) ++ wL g (ha 5 2) u.1 ++ wH g (ha 4) u.2 (out.2.2.2.2.2.2.2) ++ [(oa, .inl (gC g 3, 1, .inr (.inl (out.2.1))))])) 40 408 := by
  refine fun sz => mh_of (hh := [(0, 8, 11, 15), (0, 8, 14, 23)]) (cc := cL_run) (maxL := 3) (ret := (some .int)) (own := RL) (Qc := fun A => va_Qi (fun r (u : ListS × (Nat → Nat → Nat)) => lsOK u.1 ∧ r = (out.1)) (fun u t => PosM g A (wT g ha (sa, (out.2.2.1), (out.2.2.2.1)) ++ wQ g (ha 1) (out.2.2.2.2.1) ++ wQ g (ha 2) (out.2.2.2.2.2.1) ++ wP g (ha 5) (out.2.2.2.2.2.2.1) ++ wL g (ha 5 2) u.1 ++ wH g (ha 4) u.2 (out.2.2.2.2.2.2.2) ++ [(oa, .inl (gC g 3, 1, .inr (.inl (out.2.1))))]) t) A) (by decide +kernel) rfl rfl (Nat.le_of_ble_eq_true rfl) ?_ sz
  intro p e s mi below meth c A ls hB htb hrt hlk hP hD hl
  obtain ⟨hx, hb, hml, hown, hts, hK, hZ, hT, hA, -⟩ := hB
  have hS : va_S A s.heap s.heap [] := va_S.rf
  have hl : lv_has ls 3 [(0, .ref (ha 0 0)), (1, .ref oa)] := hl
  have kk0 := hts (.classLink RL 15 "java/lang/IllegalArgumentException") (by decide +kernel)
  have kk1 := hts (.classLink RL 23 "java/lang/UnsupportedOperationException") (by decide +kernel)
  unfold f_L_run at hf
  obtain ⟨o, hg, hf⟩ := jbB_e hf
  refine lv_aload_n hx hb dL_run_0 rfl (lv_at hl 1 rfl) ?_
  refine lv_iconst (v := 0) hx hb dL_run_1 (by decide) ?_
  refine lv_aload_n hx hb dL_run_2 rfl (lv_at hl 0 rfl) ?_
  refine cypv_i (As := []) (rest := [.int 0, .ref oa]) (Wr := [(oa, .inl (gC g 3, 1, .inr (.inl ol)))]) (Wn := fun u => (wT g ha (sa, ep, fc) ++ wQ g (ha 1) u.1.2.1 ++ wQ g (ha 2) u.1.2.2.1 ++ wP g (ha 5) u.1.2.2.2.1 ++ wL g (ha 5 2) u.2.1 ++ wH g (ha 4) u.2.2 u.1.2.2.2.2 ++ [(oa, .inl (gC g 3, 1, .inr (.inl ol)))])) (WnX := fun u => (wT g ha (sa, u.1.2.1, u.1.2.2.1) ++ wQ g (ha 1) u.1.2.2.2.1 ++ wQ g (ha 2) u.1.2.2.2.2.1 ++ wP g (ha 5) u.1.2.2.2.2.2 ++ wL g (ha 5 2) u.2 ++ wH g (ha 4) hd hv ++ [(oa, .inl (gC g 3, 1, .inr (.inl ol)))])) ⟨hx, hb, hml, hown, hts⟩ (c_X10_run l hlt g ha hd sa ep fc qv bv pv lq hok hv _ hg) (cwV 0 hts gL_run_X10_run rfl rfl rfl hd_X10_run ⟨(Nat.le_of_ble_eq_true rfl), (Nat.le_of_ble_eq_true rfl)⟩) hK hZ hT hA hP hD hS hl.1 (va_recv hK hP (ci := 9) (q0 := 0) rfl rfl) (wp_of fun f => by simp only [List.countP_append, List.countP_cons, List.countP_nil] <;> omega) (fun _ => (wp_of fun f => by simp only [List.countP_append, List.countP_cons, List.countP_nil] <;> omega)) (fun _ => (wp_of fun f => by simp only [List.countP_append, List.countP_cons, List.countP_nil] <;> omega)) rfl rfl (Nat.le_of_ble_eq_true rfl) ⟨(Nat.le_of_ble_eq_true rfl), (Nat.le_of_ble_eq_true rfl)⟩ dL_run_3 (fun u ce q9 H locs ho hP hD hS hce hcv hcl => ?_) (fun u H locs ho hP hD hS => ?_)
  · have ho9 := ho.1
    subst ho9
    have hf := jbM_l hf
    by_cases h0 : u.1.1 = 1
    · have hf := jbT hf h0
      cases hf
      have hcl : s.vm.findClass "java/lang/IllegalArgumentException" = some ce.cls := by rw [h0] at hcl; exact hcl
      refine lx_catch hown hT [] (0, 8, 11, 15) [(0, 8, 14, 23)] htb exN_1 lx_n rfl (by decide) kk0 hce hcv hcl ?_
      refine lv_astore_n (lv' := [(2, .ref q9), (0, .ref (ha 0 0)), (1, .ref oa)]) hx hb dL_run_11 rfl hl (by decide) rfl (fun ls hl => ?_)
      refine lv_iconst (v := 1) hx hb dL_run_12 (by decide) ?_
      refine rz_i (RT := ListS × (Nat → Nat → Nat)) (PR := fun z => lsOK z.1) (rv := fun _ => 1) (W1 := fun z => (wT g ha (sa, u.1.2.1, u.1.2.2.1) ++ wQ g (ha 1) u.1.2.2.2.1 ++ wQ g (ha 2) u.1.2.2.2.2.1 ++ wP g (ha 5) u.1.2.2.2.2.2 ++ wL g (ha 5 2) z.1 ++ wH g (ha 4) z.2 hv ++ [(oa, .inl (gC g 3, 1, .inr (.inl ol)))])) (u.2, hd) ho.2 rfl hx hb hrt hlk rfl hK hP hD hS ?_ ?_ dL_run_13 <;> exact Nat.le_of_ble_eq_true rfl
    · have hf := jbF hf h0
      by_cases h1 : u.1.1 = 4
      · have hf := jbT hf h1
        cases hf
        have hcl : s.vm.findClass "java/lang/UnsupportedOperationException" = some ce.cls := by rw [h1] at hcl; exact hcl
        refine lx_catch hown hT [(0, 8, 11, 15)] (0, 8, 14, 23) [] htb exN_4 (lx_c (nm := "java/lang/IllegalArgumentException") (by decide) exN_1 (by decide) kk0 lx_n) rfl (by decide) kk1 hce hcv hcl ?_
        refine lv_astore_n (lv' := [(2, .ref q9), (0, .ref (ha 0 0)), (1, .ref oa)]) hx hb dL_run_14 rfl hl (by decide) rfl (fun ls hl => ?_)
        refine lv_iconst (v := 2) hx hb dL_run_15 (by decide) ?_
        refine rz_i (RT := ListS × (Nat → Nat → Nat)) (PR := fun z => lsOK z.1) (rv := fun _ => 2) (W1 := fun z => (wT g ha (sa, u.1.2.1, u.1.2.2.1) ++ wQ g (ha 1) u.1.2.2.2.1 ++ wQ g (ha 2) u.1.2.2.2.2.1 ++ wP g (ha 5) u.1.2.2.2.2.2 ++ wL g (ha 5 2) z.1 ++ wH g (ha 4) z.2 hv ++ [(oa, .inl (gC g 3, 1, .inr (.inl ol)))])) (u.2, hd) ho.2 rfl hx hb hrt hlk rfl hK hP hD hS ?_ ?_ dL_run_16 <;> exact Nat.le_of_ble_eq_true rfl
      · have hf := jbF hf h1
        cases hf
  have ho9 := ho.1
  subst ho9
  have hf := jbM_r hf
  cases hf
  refine lv_i2l (v := u.1.1.toInt64) hx hb dL_run_6 rfl ?_
  have hP9 : va_P (gD g) vwCl ([(oa, .inl (gC g 3, 1, .inr (.inl ol)))] ++ (wT g ha (sa, ep, fc) ++ wQ g (ha 1) u.1.2.1 ++ wQ g (ha 2) u.1.2.2.1 ++ wP g (ha 5) u.1.2.2.2.1 ++ wL g (ha 5 2) u.2.1 ++ wH g (ha 4) u.2.2 u.1.2.2.2.2)) _ := wp_P (wp_of fun f => by simp only [List.countP_append, List.countP_cons, List.countP_nil] <;> omega) hP
  have hD9 : va_D A ([(oa, .inl (gC g 3, 1, .inr (.inl ol)))] ++ (wT g ha (sa, ep, fc) ++ wQ g (ha 1) u.1.2.1 ++ wQ g (ha 2) u.1.2.2.1 ++ wP g (ha 5) u.1.2.2.2.1 ++ wL g (ha 5 2) u.2.1 ++ wH g (ha 4) u.2.2 u.1.2.2.2.2)) := wp_D (wp_of fun f => by simp only [List.countP_append, List.countP_cons, List.countP_nil] <;> omega) hD
  refine va_last hx hb hK hP9 hD9 hS 0 3 rfl rfl (i := 0) (x := u.1.1.toInt64) vp_in01 dL_run_7 (fun H locs hP hD hS => ?_)
  have hP : va_P (gD g) vwCl (wT g ha (sa, ep, fc) ++ wQ g (ha 1) u.1.2.1 ++ wQ g (ha 2) u.1.2.2.1 ++ wP g (ha 5) u.1.2.2.2.1 ++ wL g (ha 5 2) u.2.1 ++ wH g (ha 4) u.2.2 u.1.2.2.2.2 ++ [(oa, .inl (gC g 3, 1, .inr (.inl (vp_updL ol (0 : Int32).toNatClampNeg u.1.1.toInt64))))]) H := wp_P (a := [(oa, .inl (gC g 3, 1, .inr (.inl (vp_updL ol (0 : Int32).toNatClampNeg u.1.1.toInt64))))] ++ (wT g ha (sa, ep, fc) ++ wQ g (ha 1) u.1.2.1 ++ wQ g (ha 2) u.1.2.2.1 ++ wP g (ha 5) u.1.2.2.2.1 ++ wL g (ha 5 2) u.2.1 ++ wH g (ha 4) u.2.2 u.1.2.2.2.2)) (wp_of fun f => by simp only [List.countP_append, List.countP_cons, List.countP_nil] <;> omega) hP
  have hD : va_D A (wT g ha (sa, ep, fc) ++ wQ g (ha 1) u.1.2.1 ++ wQ g (ha 2) u.1.2.2.1 ++ wP g (ha 5) u.1.2.2.2.1 ++ wL g (ha 5 2) u.2.1 ++ wH g (ha 4) u.2.2 u.1.2.2.2.2 ++ [(oa, .inl (gC g 3, 1, .inr (.inl (vp_updL ol (0 : Int32).toNatClampNeg u.1.1.toInt64))))]) := wp_D (a := [(oa, .inl (gC g 3, 1, .inr (.inl (vp_updL ol (0 : Int32).toNatClampNeg u.1.1.toInt64))))] ++ (wT g ha (sa, ep, fc) ++ wQ g (ha 1) u.1.2.1 ++ wQ g (ha 2) u.1.2.2.1 ++ wP g (ha 5) u.1.2.2.2.1 ++ wL g (ha 5 2) u.2.1 ++ wH g (ha 4) u.2.2 u.1.2.2.2.2)) (wp_of fun f => by simp only [List.countP_append, List.countP_cons, List.countP_nil] <;> omega) hD
  refine lv_goto (tgt := 17) hx hb dL_run_8 (by decide) ?_
  refine lv_iconst (v := 0) hx hb dL_run_17 (by decide) ?_
  refine rz_i (RT := ListS × (Nat → Nat → Nat)) (PR := fun z => lsOK z.1) (rv := fun _ => 0) (W1 := fun z => (wT g ha (sa, ep, fc) ++ wQ g (ha 1) u.1.2.1 ++ wQ g (ha 2) u.1.2.2.1 ++ wP g (ha 5) u.1.2.2.2.1 ++ wL g (ha 5 2) z.1 ++ wH g (ha 4) z.2 u.1.2.2.2.2 ++ [(oa, .inl (gC g 3, 1, .inr (.inl (vp_updL ol (0 : Int32).toNatClampNeg u.1.1.toInt64))))])) (u.2.1, u.2.2) ho.2 rfl hx hb hrt hlk rfl hK hP hD hS ?_ ?_ dL_run_18 <;> exact Nat.le_of_ble_eq_true rfl
def f_L_errorPosition (tv : TV)  (ol : Nat → Int64) : Option (Int32 × (Nat → Int64)) :=
  (f_X10_errorPosition tv ).bind fun o => jbM o (fun x => if x = 2 then some (1, ol) else none) (fun y => some (0, (vp_updL ol (0 : Int32).toNatClampNeg y.toInt64)))
def rm_L_errorPosition : Room := { frames := 8, cells := 1, slots := 6, locals := 140 }
theorem hd_L_errorPosition : yL_errorPosition.cls = RL ∧ yL_errorPosition.cls ≠ "java/lang/invoke/MethodHandle" ∧ yL_errorPosition.cls ≠ "java/lang/invoke/VarHandle" ∧ (parseMethodDescriptor yL_errorPosition.desc).map (fun d => d.parameters.length) = some 2 := by decide +kernel
set_option maxHeartbeats 4000000 in
set_option maxRecDepth 100000 in
theorem c_L_errorPosition (l : Launch) (hlt : l.stackTraces = false) (g : GG) (ha : Nat → Nat → Nat) (tv : TV)  (oa : Nat) (ol : Nat → Int64) (out : Int32 × (Nat → Int64)) (hf : f_L_errorPosition tv  ol = some out) : MtI l yL_errorPosition wsL_errorPosition rm_L_errorPosition g (wT g ha tv ++ [(oa, .inl (gC g 3, 1, .inr (.inl ol)))]) [.ref (ha 0 0), .ref oa] (out.1) (wT g ha tv ++ [(oa, .inl (gC g 3, 1, .inr (.inl (out.2))))]) 1 6 := by
  refine fun sz => mh_of (hh := [(0, 8, 11, 43)]) (cc := cL_errorPosition) (maxL := 3) (ret := (some .int)) (own := RL) (Qc := fun A => va_Qi (fun r (_ : Unit) => r = (out.1)) (fun _ t => PosM g A (wT g ha tv ++ [(oa, .inl (gC g 3, 1, .inr (.inl (out.2))))]) t) A) (by decide +kernel) rfl rfl (Nat.le_of_ble_eq_true rfl) ?_ sz
  intro p e s mi below meth c A ls hB htb hrt hlk hP hD hl
  obtain ⟨hx, hb, hml, hown, hts, hK, hZ, hT, hA, -⟩ := hB
  have hS : va_S A s.heap s.heap [] := va_S.rf
  have hl : lv_has ls 3 [(0, .ref (ha 0 0)), (1, .ref oa)] := hl
  have kk0 := hts (.classLink RL 43 "java/util/NoSuchElementException") (by decide +kernel)
  unfold f_L_errorPosition at hf
  obtain ⟨o, hg, hf⟩ := jbB_e hf
  refine lv_aload_n hx hb dL_errorPosition_0 rfl (lv_at hl 1 rfl) ?_
  refine lv_iconst (v := 0) hx hb dL_errorPosition_1 (by decide) ?_
  refine lv_aload_n hx hb dL_errorPosition_2 rfl (lv_at hl 0 rfl) ?_
  refine cxpv_i (As := []) (rest := [.int 0, .ref oa]) (Wr := [(oa, .inl (gC g 3, 1, .inr (.inl ol)))]) (Wn := fun u => (wT g ha tv ++ [(oa, .inl (gC g 3, 1, .inr (.inl ol)))])) (WnX := fun u => (wT g ha tv ++ [(oa, .inl (gC g 3, 1, .inr (.inl ol)))])) ⟨hx, hb, hml, hown, hts⟩ (c_X10_errorPosition l hlt g ha tv  _ hg) (cwV 0 hts gL_errorPosition_X10_errorPosition rfl rfl rfl hd_X10_errorPosition ⟨(Nat.le_of_ble_eq_true rfl), (Nat.le_of_ble_eq_true rfl)⟩) hK hZ hT hA hP hD hS hl.1 (va_recv hK hP (ci := 9) (q0 := 0) rfl rfl) (wp_of fun f => by simp only [List.countP_append, List.countP_cons, List.countP_nil] <;> omega) (fun _ => (wp_of fun f => by simp only [List.countP_append, List.countP_cons, List.countP_nil] <;> omega)) (fun _ => (wp_of fun f => by simp only [List.countP_append, List.countP_cons, List.countP_nil] <;> omega)) rfl rfl (Nat.le_of_ble_eq_true rfl) ⟨(Nat.le_of_ble_eq_true rfl), (Nat.le_of_ble_eq_true rfl)⟩ dL_errorPosition_3 (fun u ce q9 H locs ho hP hD hS hce hcv hcl => ?_) (fun u H locs ho hP hD hS => ?_)
  · have ho9 := ho
    subst ho9
    have hf := jbM_l hf
    by_cases h0 : u = 2
    · have hf := jbT hf h0
      cases hf
      have hcl : s.vm.findClass "java/util/NoSuchElementException" = some ce.cls := by rw [h0] at hcl; exact hcl
      refine lx_catch hown hT [] (0, 8, 11, 43) [] htb exN_2 lx_n rfl (by decide) kk0 hce hcv hcl ?_
      refine lv_astore_n (lv' := [(2, .ref q9), (0, .ref (ha 0 0)), (1, .ref oa)]) hx hb dL_errorPosition_11 rfl hl (by decide) rfl (fun ls hl => ?_)
      refine lv_iconst (v := 1) hx hb dL_errorPosition_12 (by decide) ?_
      exact rt_i hx hb hrt hlk rfl hK hP hD hS (Nat.le_of_ble_eq_true rfl) (Nat.le_of_ble_eq_true rfl) dL_errorPosition_13
    · have hf := jbF hf h0
      cases hf
  have ho9 := ho
  subst ho9
  have hf := jbM_r hf
  cases hf
  refine lv_i2l (v := u.toInt64) hx hb dL_errorPosition_6 rfl ?_
  have hP9 : va_P (gD g) vwCl ([(oa, .inl (gC g 3, 1, .inr (.inl ol)))] ++ (wT g ha tv)) _ := wp_P (wp_of fun f => by simp only [List.countP_append, List.countP_cons, List.countP_nil] <;> omega) hP
  have hD9 : va_D A ([(oa, .inl (gC g 3, 1, .inr (.inl ol)))] ++ (wT g ha tv)) := wp_D (wp_of fun f => by simp only [List.countP_append, List.countP_cons, List.countP_nil] <;> omega) hD
  refine va_last hx hb hK hP9 hD9 hS 0 3 rfl rfl (i := 0) (x := u.toInt64) vp_in01 dL_errorPosition_7 (fun H locs hP hD hS => ?_)
  have hP : va_P (gD g) vwCl (wT g ha tv ++ [(oa, .inl (gC g 3, 1, .inr (.inl (vp_updL ol (0 : Int32).toNatClampNeg u.toInt64))))]) H := wp_P (a := [(oa, .inl (gC g 3, 1, .inr (.inl (vp_updL ol (0 : Int32).toNatClampNeg u.toInt64))))] ++ (wT g ha tv)) (wp_of fun f => by simp only [List.countP_append, List.countP_cons, List.countP_nil] <;> omega) hP
  have hD : va_D A (wT g ha tv ++ [(oa, .inl (gC g 3, 1, .inr (.inl (vp_updL ol (0 : Int32).toNatClampNeg u.toInt64))))]) := wp_D (a := [(oa, .inl (gC g 3, 1, .inr (.inl (vp_updL ol (0 : Int32).toNatClampNeg u.toInt64))))] ++ (wT g ha tv)) (wp_of fun f => by simp only [List.countP_append, List.countP_cons, List.countP_nil] <;> omega) hD
  refine lv_goto (tgt := 14) hx hb dL_errorPosition_8 (by decide) ?_
  refine lv_iconst (v := 0) hx hb dL_errorPosition_14 (by decide) ?_
  exact rt_i hx hb hrt hlk rfl hK hP hD hS (Nat.le_of_ble_eq_true rfl) (Nat.le_of_ble_eq_true rfl) dL_errorPosition_15
def f_L_failedCommand (tv : TV)  (ol : Nat → Int64) : Option (Int32 × (Nat → Int64)) :=
  (f_X10_failedCommand tv ).bind fun o => jbM o (fun x => if x = 2 then some (1, ol) else none) (fun y => some (0, (vp_updL ol (0 : Int32).toNatClampNeg y.toInt64)))
def rm_L_failedCommand : Room := { frames := 8, cells := 1, slots := 6, locals := 140 }
theorem hd_L_failedCommand : yL_failedCommand.cls = RL ∧ yL_failedCommand.cls ≠ "java/lang/invoke/MethodHandle" ∧ yL_failedCommand.cls ≠ "java/lang/invoke/VarHandle" ∧ (parseMethodDescriptor yL_failedCommand.desc).map (fun d => d.parameters.length) = some 2 := by decide +kernel
set_option maxHeartbeats 4000000 in
set_option maxRecDepth 100000 in
theorem c_L_failedCommand (l : Launch) (hlt : l.stackTraces = false) (g : GG) (ha : Nat → Nat → Nat) (tv : TV)  (oa : Nat) (ol : Nat → Int64) (out : Int32 × (Nat → Int64)) (hf : f_L_failedCommand tv  ol = some out) : MtI l yL_failedCommand wsL_failedCommand rm_L_failedCommand g (wT g ha tv ++ [(oa, .inl (gC g 3, 1, .inr (.inl ol)))]) [.ref (ha 0 0), .ref oa] (out.1) (wT g ha tv ++ [(oa, .inl (gC g 3, 1, .inr (.inl (out.2))))]) 1 6 := by
  refine fun sz => mh_of (hh := [(0, 8, 11, 43)]) (cc := cL_failedCommand) (maxL := 3) (ret := (some .int)) (own := RL) (Qc := fun A => va_Qi (fun r (_ : Unit) => r = (out.1)) (fun _ t => PosM g A (wT g ha tv ++ [(oa, .inl (gC g 3, 1, .inr (.inl (out.2))))]) t) A) (by decide +kernel) rfl rfl (Nat.le_of_ble_eq_true rfl) ?_ sz
  intro p e s mi below meth c A ls hB htb hrt hlk hP hD hl
  obtain ⟨hx, hb, hml, hown, hts, hK, hZ, hT, hA, -⟩ := hB
  have hS : va_S A s.heap s.heap [] := va_S.rf
  have hl : lv_has ls 3 [(0, .ref (ha 0 0)), (1, .ref oa)] := hl
  have kk0 := hts (.classLink RL 43 "java/util/NoSuchElementException") (by decide +kernel)
  unfold f_L_failedCommand at hf
  obtain ⟨o, hg, hf⟩ := jbB_e hf
  refine lv_aload_n hx hb dL_failedCommand_0 rfl (lv_at hl 1 rfl) ?_
  refine lv_iconst (v := 0) hx hb dL_failedCommand_1 (by decide) ?_
  refine lv_aload_n hx hb dL_failedCommand_2 rfl (lv_at hl 0 rfl) ?_
  refine cxpv_i (As := []) (rest := [.int 0, .ref oa]) (Wr := [(oa, .inl (gC g 3, 1, .inr (.inl ol)))]) (Wn := fun u => (wT g ha tv ++ [(oa, .inl (gC g 3, 1, .inr (.inl ol)))])) (WnX := fun u => (wT g ha tv ++ [(oa, .inl (gC g 3, 1, .inr (.inl ol)))])) ⟨hx, hb, hml, hown, hts⟩ (c_X10_failedCommand l hlt g ha tv  _ hg) (cwV 0 hts gL_failedCommand_X10_failedCommand rfl rfl rfl hd_X10_failedCommand ⟨(Nat.le_of_ble_eq_true rfl), (Nat.le_of_ble_eq_true rfl)⟩) hK hZ hT hA hP hD hS hl.1 (va_recv hK hP (ci := 9) (q0 := 0) rfl rfl) (wp_of fun f => by simp only [List.countP_append, List.countP_cons, List.countP_nil] <;> omega) (fun _ => (wp_of fun f => by simp only [List.countP_append, List.countP_cons, List.countP_nil] <;> omega)) (fun _ => (wp_of fun f => by simp only [List.countP_append, List.countP_cons, List.countP_nil] <;> omega)) rfl rfl (Nat.le_of_ble_eq_true rfl) ⟨(Nat.le_of_ble_eq_true rfl), (Nat.le_of_ble_eq_true rfl)⟩ dL_failedCommand_3 (fun u ce q9 H locs ho hP hD hS hce hcv hcl => ?_) (fun u H locs ho hP hD hS => ?_)
  · have ho9 := ho
    subst ho9
    have hf := jbM_l hf
    by_cases h0 : u = 2
    · have hf := jbT hf h0
      cases hf
      have hcl : s.vm.findClass "java/util/NoSuchElementException" = some ce.cls := by rw [h0] at hcl; exact hcl
      refine lx_catch hown hT [] (0, 8, 11, 43) [] htb exN_2 lx_n rfl (by decide) kk0 hce hcv hcl ?_
      refine lv_astore_n (lv' := [(2, .ref q9), (0, .ref (ha 0 0)), (1, .ref oa)]) hx hb dL_failedCommand_11 rfl hl (by decide) rfl (fun ls hl => ?_)
      refine lv_iconst (v := 1) hx hb dL_failedCommand_12 (by decide) ?_
      exact rt_i hx hb hrt hlk rfl hK hP hD hS (Nat.le_of_ble_eq_true rfl) (Nat.le_of_ble_eq_true rfl) dL_failedCommand_13
    · have hf := jbF hf h0
      cases hf
  have ho9 := ho
  subst ho9
  have hf := jbM_r hf
  cases hf
  refine lv_i2l (v := u.toInt64) hx hb dL_failedCommand_6 rfl ?_
  have hP9 : va_P (gD g) vwCl ([(oa, .inl (gC g 3, 1, .inr (.inl ol)))] ++ (wT g ha tv)) _ := wp_P (wp_of fun f => by simp only [List.countP_append, List.countP_cons, List.countP_nil] <;> omega) hP
  have hD9 : va_D A ([(oa, .inl (gC g 3, 1, .inr (.inl ol)))] ++ (wT g ha tv)) := wp_D (wp_of fun f => by simp only [List.countP_append, List.countP_cons, List.countP_nil] <;> omega) hD
  refine va_last hx hb hK hP9 hD9 hS 0 3 rfl rfl (i := 0) (x := u.toInt64) vp_in01 dL_failedCommand_7 (fun H locs hP hD hS => ?_)
  have hP : va_P (gD g) vwCl (wT g ha tv ++ [(oa, .inl (gC g 3, 1, .inr (.inl (vp_updL ol (0 : Int32).toNatClampNeg u.toInt64))))]) H := wp_P (a := [(oa, .inl (gC g 3, 1, .inr (.inl (vp_updL ol (0 : Int32).toNatClampNeg u.toInt64))))] ++ (wT g ha tv)) (wp_of fun f => by simp only [List.countP_append, List.countP_cons, List.countP_nil] <;> omega) hP
  have hD : va_D A (wT g ha tv ++ [(oa, .inl (gC g 3, 1, .inr (.inl (vp_updL ol (0 : Int32).toNatClampNeg u.toInt64))))]) := wp_D (a := [(oa, .inl (gC g 3, 1, .inr (.inl (vp_updL ol (0 : Int32).toNatClampNeg u.toInt64))))] ++ (wT g ha tv)) (wp_of fun f => by simp only [List.countP_append, List.countP_cons, List.countP_nil] <;> omega) hD
  refine lv_goto (tgt := 14) hx hb dL_failedCommand_8 (by decide) ?_
  refine lv_iconst (v := 0) hx hb dL_failedCommand_14 (by decide) ?_
  exact rt_i hx hb hrt hlk rfl hK hP hD hS (Nat.le_of_ble_eq_true rfl) (Nat.le_of_ble_eq_true rfl) dL_failedCommand_15
def f_L_writeRow (tv : TV) (qv : QV) (ov : OV) (a0 : Int32) (ol : Nat → Int64) : Option (Int32 × (Nat → Int64) × OV) :=
  (f_X10_writeRow tv qv ov a0).bind fun o => jbM o (fun x => if (x.1) = 0 then some (1, ol, (x.2)) else none) (fun y => some (0, (vp_updL ol (0 : Int32).toNatClampNeg (y.1).toInt64), (y.2)))
def rm_L_writeRow : Room := { frames := 8, cells := 1, slots := 6, locals := 141 }
theorem hd_L_writeRow : yL_writeRow.cls = RL ∧ yL_writeRow.cls ≠ "java/lang/invoke/MethodHandle" ∧ yL_writeRow.cls ≠ "java/lang/invoke/VarHandle" ∧ (parseMethodDescriptor yL_writeRow.desc).map (fun d => d.parameters.length) = some 3 := by decide +kernel
set_option maxHeartbeats 4000000 in
set_option maxRecDepth 100000 in
theorem c_L_writeRow (l : Launch) (hlt : l.stackTraces = false) (g : GG) (ha : Nat → Nat → Nat) (tv : TV) (qv : QV) (ov : OV) (a0 : Int32) (oa : Nat) (ol : Nat → Int64) (out : Int32 × (Nat → Int64) × OV) (hf : f_L_writeRow tv qv ov a0 ol = some out) : MtI l yL_writeRow wsL_writeRow rm_L_writeRow g (wT g ha tv ++ wQ g (ha 1) qv ++ wO g (ha 6) ov ++ [(oa, .inl (gC g 3, 1, .inr (.inl ol)))]) [.ref (ha 0 0), .int a0, .ref oa] (out.1) (wT g ha tv ++ wQ g (ha 1) qv ++ wO g (ha 6) (out.2.2) ++ [(oa, .inl (gC g 3, 1, .inr (.inl (out.2.1))))]) 1 6 := by
  refine fun sz => mh_of (hh := [(0, 9, 12, 13)]) (cc := cL_writeRow) (maxL := 4) (ret := (some .int)) (own := RL) (Qc := fun A => va_Qi (fun r (_ : Unit) => r = (out.1)) (fun _ t => PosM g A (wT g ha tv ++ wQ g (ha 1) qv ++ wO g (ha 6) (out.2.2) ++ [(oa, .inl (gC g 3, 1, .inr (.inl (out.2.1))))]) t) A) (by decide +kernel) rfl rfl (Nat.le_of_ble_eq_true rfl) ?_ sz
  intro p e s mi below meth c A ls hB htb hrt hlk hP hD hl
  obtain ⟨hx, hb, hml, hown, hts, hK, hZ, hT, hA, -⟩ := hB
  have hS : va_S A s.heap s.heap [] := va_S.rf
  have hl : lv_has ls 4 [(0, .ref (ha 0 0)), (1, .int a0), (2, .ref oa)] := hl
  have kk0 := hts (.classLink RL 13 "java/lang/IndexOutOfBoundsException") (by decide +kernel)
  unfold f_L_writeRow at hf
  obtain ⟨o, hg, hf⟩ := jbB_e hf
  refine lv_aload_n hx hb dL_writeRow_0 rfl (lv_at hl 2 rfl) ?_
  refine lv_iconst (v := 0) hx hb dL_writeRow_1 (by decide) ?_
  refine lv_aload_n hx hb dL_writeRow_2 rfl (lv_at hl 0 rfl) ?_
  refine lv_iload_n hx hb dL_writeRow_3 rfl (lv_at hl 1 rfl) ?_
  refine cxpv_i (As := [.int a0]) (rest := [.int 0, .ref oa]) (Wr := [(oa, .inl (gC g 3, 1, .inr (.inl ol)))]) (Wn := fun u => (wT g ha tv ++ wQ g (ha 1) qv ++ wO g (ha 6) (u.2) ++ [(oa, .inl (gC g 3, 1, .inr (.inl ol)))])) (WnX := fun u => (wT g ha tv ++ wQ g (ha 1) qv ++ wO g (ha 6) (u.2) ++ [(oa, .inl (gC g 3, 1, .inr (.inl ol)))])) ⟨hx, hb, hml, hown, hts⟩ (c_X10_writeRow l hlt g ha tv qv ov a0 _ hg) (cwV 1 hts gL_writeRow_X10_writeRow rfl rfl rfl hd_X10_writeRow ⟨(Nat.le_of_ble_eq_true rfl), (Nat.le_of_ble_eq_true rfl)⟩) hK hZ hT hA hP hD hS hl.1 (va_recv hK hP (ci := 9) (q0 := 0) rfl rfl) (wp_of fun f => by simp only [List.countP_append, List.countP_cons, List.countP_nil] <;> omega) (fun _ => (wp_of fun f => by simp only [List.countP_append, List.countP_cons, List.countP_nil] <;> omega)) (fun _ => (wp_of fun f => by simp only [List.countP_append, List.countP_cons, List.countP_nil] <;> omega)) rfl rfl (Nat.le_of_ble_eq_true rfl) ⟨(Nat.le_of_ble_eq_true rfl), (Nat.le_of_ble_eq_true rfl)⟩ dL_writeRow_4 (fun u ce q9 H locs ho hP hD hS hce hcv hcl => ?_) (fun u H locs ho hP hD hS => ?_)
  · have ho9 := ho
    subst ho9
    have hf := jbM_l hf
    by_cases h0 : (u.1) = 0
    · have hf := jbT hf h0
      cases hf
      have hcl : s.vm.findClass "java/lang/IndexOutOfBoundsException" = some ce.cls := by rw [h0] at hcl; exact hcl
      refine lx_catch hown hT [] (0, 9, 12, 13) [] htb exN_0 lx_n rfl (by decide) kk0 hce hcv hcl ?_
      refine lv_astore_n (lv' := [(3, .ref q9), (0, .ref (ha 0 0)), (1, .int a0), (2, .ref oa)]) hx hb dL_writeRow_12 rfl hl (by decide) rfl (fun ls hl => ?_)
      refine lv_iconst (v := 1) hx hb dL_writeRow_13 (by decide) ?_
      exact rt_i hx hb hrt hlk rfl hK hP hD hS (Nat.le_of_ble_eq_true rfl) (Nat.le_of_ble_eq_true rfl) dL_writeRow_14
    · have hf := jbF hf h0
      cases hf
  have ho9 := ho
  subst ho9
  have hf := jbM_r hf
  cases hf
  refine lv_i2l (v := (u.1).toInt64) hx hb dL_writeRow_7 rfl ?_
  have hP9 : va_P (gD g) vwCl ([(oa, .inl (gC g 3, 1, .inr (.inl ol)))] ++ (wT g ha tv ++ wQ g (ha 1) qv ++ wO g (ha 6) (u.2))) _ := wp_P (wp_of fun f => by simp only [List.countP_append, List.countP_cons, List.countP_nil] <;> omega) hP
  have hD9 : va_D A ([(oa, .inl (gC g 3, 1, .inr (.inl ol)))] ++ (wT g ha tv ++ wQ g (ha 1) qv ++ wO g (ha 6) (u.2))) := wp_D (wp_of fun f => by simp only [List.countP_append, List.countP_cons, List.countP_nil] <;> omega) hD
  refine va_last hx hb hK hP9 hD9 hS 0 3 rfl rfl (i := 0) (x := (u.1).toInt64) vp_in01 dL_writeRow_8 (fun H locs hP hD hS => ?_)
  have hP : va_P (gD g) vwCl (wT g ha tv ++ wQ g (ha 1) qv ++ wO g (ha 6) (u.2) ++ [(oa, .inl (gC g 3, 1, .inr (.inl (vp_updL ol (0 : Int32).toNatClampNeg (u.1).toInt64))))]) H := wp_P (a := [(oa, .inl (gC g 3, 1, .inr (.inl (vp_updL ol (0 : Int32).toNatClampNeg (u.1).toInt64))))] ++ (wT g ha tv ++ wQ g (ha 1) qv ++ wO g (ha 6) (u.2))) (wp_of fun f => by simp only [List.countP_append, List.countP_cons, List.countP_nil] <;> omega) hP
  have hD : va_D A (wT g ha tv ++ wQ g (ha 1) qv ++ wO g (ha 6) (u.2) ++ [(oa, .inl (gC g 3, 1, .inr (.inl (vp_updL ol (0 : Int32).toNatClampNeg (u.1).toInt64))))]) := wp_D (a := [(oa, .inl (gC g 3, 1, .inr (.inl (vp_updL ol (0 : Int32).toNatClampNeg (u.1).toInt64))))] ++ (wT g ha tv ++ wQ g (ha 1) qv ++ wO g (ha 6) (u.2))) (wp_of fun f => by simp only [List.countP_append, List.countP_cons, List.countP_nil] <;> omega) hD
  refine lv_goto (tgt := 15) hx hb dL_writeRow_9 (by decide) ?_
  refine lv_iconst (v := 0) hx hb dL_writeRow_15 (by decide) ?_
  exact rt_i hx hb hrt hlk rfl hK hP hD hS (Nat.le_of_ble_eq_true rfl) (Nat.le_of_ble_eq_true rfl) dL_writeRow_16
def f_L_outputAt (tv : TV) (ov : OV) (a0 : Int32) (ol : Nat → Int64) : Option (Int32 × (Nat → Int64)) :=
  (f_X10_outputAt tv ov a0).bind fun o => jbM o (fun x => if x = 0 then some (1, ol) else none) (fun y => some (0, (vp_updL ol (0 : Int32).toNatClampNeg y.toInt64)))
def rm_L_outputAt : Room := { frames := 8, cells := 1, slots := 6, locals := 141 }
theorem hd_L_outputAt : yL_outputAt.cls = RL ∧ yL_outputAt.cls ≠ "java/lang/invoke/MethodHandle" ∧ yL_outputAt.cls ≠ "java/lang/invoke/VarHandle" ∧ (parseMethodDescriptor yL_outputAt.desc).map (fun d => d.parameters.length) = some 3 := by decide +kernel
set_option maxHeartbeats 4000000 in
set_option maxRecDepth 100000 in
theorem c_L_outputAt (l : Launch) (hlt : l.stackTraces = false) (g : GG) (ha : Nat → Nat → Nat) (tv : TV) (ov : OV) (a0 : Int32) (oa : Nat) (ol : Nat → Int64) (out : Int32 × (Nat → Int64)) (hf : f_L_outputAt tv ov a0 ol = some out) : MtI l yL_outputAt wsL_outputAt rm_L_outputAt g (wT g ha tv ++ wO g (ha 6) ov ++ [(oa, .inl (gC g 3, 1, .inr (.inl ol)))]) [.ref (ha 0 0), .int a0, .ref oa] (out.1) (wT g ha tv ++ wO g (ha 6) ov ++ [(oa, .inl (gC g 3, 1, .inr (.inl (out.2))))]) 1 6 := by
  refine fun sz => mh_of (hh := [(0, 9, 12, 13)]) (cc := cL_outputAt) (maxL := 4) (ret := (some .int)) (own := RL) (Qc := fun A => va_Qi (fun r (_ : Unit) => r = (out.1)) (fun _ t => PosM g A (wT g ha tv ++ wO g (ha 6) ov ++ [(oa, .inl (gC g 3, 1, .inr (.inl (out.2))))]) t) A) (by decide +kernel) rfl rfl (Nat.le_of_ble_eq_true rfl) ?_ sz
  intro p e s mi below meth c A ls hB htb hrt hlk hP hD hl
  obtain ⟨hx, hb, hml, hown, hts, hK, hZ, hT, hA, -⟩ := hB
  have hS : va_S A s.heap s.heap [] := va_S.rf
  have hl : lv_has ls 4 [(0, .ref (ha 0 0)), (1, .int a0), (2, .ref oa)] := hl
  have kk0 := hts (.classLink RL 13 "java/lang/IndexOutOfBoundsException") (by decide +kernel)
  unfold f_L_outputAt at hf
  obtain ⟨o, hg, hf⟩ := jbB_e hf
  refine lv_aload_n hx hb dL_outputAt_0 rfl (lv_at hl 2 rfl) ?_
  refine lv_iconst (v := 0) hx hb dL_outputAt_1 (by decide) ?_
  refine lv_aload_n hx hb dL_outputAt_2 rfl (lv_at hl 0 rfl) ?_
  refine lv_iload_n hx hb dL_outputAt_3 rfl (lv_at hl 1 rfl) ?_
  refine cxpv_i (As := [.int a0]) (rest := [.int 0, .ref oa]) (Wr := [(oa, .inl (gC g 3, 1, .inr (.inl ol)))]) (Wn := fun u => (wT g ha tv ++ wO g (ha 6) ov ++ [(oa, .inl (gC g 3, 1, .inr (.inl ol)))])) (WnX := fun u => (wT g ha tv ++ wO g (ha 6) ov ++ [(oa, .inl (gC g 3, 1, .inr (.inl ol)))])) ⟨hx, hb, hml, hown, hts⟩ (c_X10_outputAt l hlt g ha tv ov a0 _ hg) (cwV 1 hts gL_outputAt_X10_outputAt rfl rfl rfl hd_X10_outputAt ⟨(Nat.le_of_ble_eq_true rfl), (Nat.le_of_ble_eq_true rfl)⟩) hK hZ hT hA hP hD hS hl.1 (va_recv hK hP (ci := 9) (q0 := 0) rfl rfl) (wp_of fun f => by simp only [List.countP_append, List.countP_cons, List.countP_nil] <;> omega) (fun _ => (wp_of fun f => by simp only [List.countP_append, List.countP_cons, List.countP_nil] <;> omega)) (fun _ => (wp_of fun f => by simp only [List.countP_append, List.countP_cons, List.countP_nil] <;> omega)) rfl rfl (Nat.le_of_ble_eq_true rfl) ⟨(Nat.le_of_ble_eq_true rfl), (Nat.le_of_ble_eq_true rfl)⟩ dL_outputAt_4 (fun u ce q9 H locs ho hP hD hS hce hcv hcl => ?_) (fun u H locs ho hP hD hS => ?_)
  · have ho9 := ho
    subst ho9
    have hf := jbM_l hf
    by_cases h0 : u = 0
    · have hf := jbT hf h0
      cases hf
      have hcl : s.vm.findClass "java/lang/IndexOutOfBoundsException" = some ce.cls := by rw [h0] at hcl; exact hcl
      refine lx_catch hown hT [] (0, 9, 12, 13) [] htb exN_0 lx_n rfl (by decide) kk0 hce hcv hcl ?_
      refine lv_astore_n (lv' := [(3, .ref q9), (0, .ref (ha 0 0)), (1, .int a0), (2, .ref oa)]) hx hb dL_outputAt_12 rfl hl (by decide) rfl (fun ls hl => ?_)
      refine lv_iconst (v := 1) hx hb dL_outputAt_13 (by decide) ?_
      exact rt_i hx hb hrt hlk rfl hK hP hD hS (Nat.le_of_ble_eq_true rfl) (Nat.le_of_ble_eq_true rfl) dL_outputAt_14
    · have hf := jbF hf h0
      cases hf
  have ho9 := ho
  subst ho9
  have hf := jbM_r hf
  cases hf
  refine lv_i2l (v := u.toInt64) hx hb dL_outputAt_7 rfl ?_
  have hP9 : va_P (gD g) vwCl ([(oa, .inl (gC g 3, 1, .inr (.inl ol)))] ++ (wT g ha tv ++ wO g (ha 6) ov)) _ := wp_P (wp_of fun f => by simp only [List.countP_append, List.countP_cons, List.countP_nil] <;> omega) hP
  have hD9 : va_D A ([(oa, .inl (gC g 3, 1, .inr (.inl ol)))] ++ (wT g ha tv ++ wO g (ha 6) ov)) := wp_D (wp_of fun f => by simp only [List.countP_append, List.countP_cons, List.countP_nil] <;> omega) hD
  refine va_last hx hb hK hP9 hD9 hS 0 3 rfl rfl (i := 0) (x := u.toInt64) vp_in01 dL_outputAt_8 (fun H locs hP hD hS => ?_)
  have hP : va_P (gD g) vwCl (wT g ha tv ++ wO g (ha 6) ov ++ [(oa, .inl (gC g 3, 1, .inr (.inl (vp_updL ol (0 : Int32).toNatClampNeg u.toInt64))))]) H := wp_P (a := [(oa, .inl (gC g 3, 1, .inr (.inl (vp_updL ol (0 : Int32).toNatClampNeg u.toInt64))))] ++ (wT g ha tv ++ wO g (ha 6) ov)) (wp_of fun f => by simp only [List.countP_append, List.countP_cons, List.countP_nil] <;> omega) hP
  have hD : va_D A (wT g ha tv ++ wO g (ha 6) ov ++ [(oa, .inl (gC g 3, 1, .inr (.inl (vp_updL ol (0 : Int32).toNatClampNeg u.toInt64))))]) := wp_D (a := [(oa, .inl (gC g 3, 1, .inr (.inl (vp_updL ol (0 : Int32).toNatClampNeg u.toInt64))))] ++ (wT g ha tv ++ wO g (ha 6) ov)) (wp_of fun f => by simp only [List.countP_append, List.countP_cons, List.countP_nil] <;> omega) hD
  refine lv_goto (tgt := 15) hx hb dL_outputAt_9 (by decide) ?_
  refine lv_iconst (v := 0) hx hb dL_outputAt_15 (by decide) ?_
  exact rt_i hx hb hrt hlk rfl hK hP hD hS (Nat.le_of_ble_eq_true rfl) (Nat.le_of_ble_eq_true rfl) dL_outputAt_16
def f_L_undo (tv : TV) (qv : QV) (hv : HV)  (ol : Nat → Int64) : Option (Int32 × (Nat → Int64) × QV × HV) :=
  (f_X10_undo tv qv hv ).bind fun o => jbM o (fun x => if (x.1) = 3 then some (1, ol, (x.2.1), (x.2.2)) else none) (fun y => some (0, (vp_updL ol (0 : Int32).toNatClampNeg (y.1).toInt64), (y.2.1), (y.2.2)))
def rm_L_undo : Room := { frames := 8, cells := 1, slots := 6, locals := 140 }
theorem hd_L_undo : yL_undo.cls = RL ∧ yL_undo.cls ≠ "java/lang/invoke/MethodHandle" ∧ yL_undo.cls ≠ "java/lang/invoke/VarHandle" ∧ (parseMethodDescriptor yL_undo.desc).map (fun d => d.parameters.length) = some 2 := by decide +kernel
set_option maxHeartbeats 4000000 in
set_option maxRecDepth 100000 in
theorem c_L_undo (l : Launch) (hlt : l.stackTraces = false) (g : GG) (ha : Nat → Nat → Nat) (hd : Nat → Nat → Nat) (tv : TV) (qv : QV) (hv : HV)  (oa : Nat) (ol : Nat → Int64) (out : Int32 × (Nat → Int64) × QV × HV) (hf : f_L_undo tv qv hv  ol = some out) : MzI (RT := Nat → Nat → Nat) l yL_undo wsL_undo rm_L_undo g (wT g ha tv ++ wQ g (ha 1) qv ++ wH g (ha 4) hd hv ++ [(oa, .inl (gC g 3, 1, .inr (.inl ol)))]) [.ref (ha 0 0), .ref oa] (fun _ => True) (fun _ => (out.1)) (fun hd1 => (wT g ha tv ++ wQ g (ha 1) (out.2.2.1) ++ wH g (ha 4) hd1 (out.2.2.2) ++ [(oa, .inl (gC g 3, 1, .inr (.inl (out.2.1))))])) 1 6 := by
  refine fun sz => mh_of (hh := [(0, 8, 11, 21)]) (cc := cL_undo) (maxL := 3) (ret := (some .int)) (own := RL) (Qc := fun A => va_Qi (fun r (hd1 : Nat → Nat → Nat) => True ∧ r = (out.1)) (fun hd1 t => PosM g A (wT g ha tv ++ wQ g (ha 1) (out.2.2.1) ++ wH g (ha 4) hd1 (out.2.2.2) ++ [(oa, .inl (gC g 3, 1, .inr (.inl (out.2.1))))]) t) A) (by decide +kernel) rfl rfl (Nat.le_of_ble_eq_true rfl) ?_ sz
  intro p e s mi below meth c A ls hB htb hrt hlk hP hD hl
  obtain ⟨hx, hb, hml, hown, hts, hK, hZ, hT, hA, -⟩ := hB
  have hS : va_S A s.heap s.heap [] := va_S.rf
  have hl : lv_has ls 3 [(0, .ref (ha 0 0)), (1, .ref oa)] := hl
  have kk0 := hts (.classLink RL 21 "java/lang/IllegalStateException") (by decide +kernel)
  unfold f_L_undo at hf
  obtain ⟨o, hg, hf⟩ := jbB_e hf
  refine lv_aload_n hx hb dL_undo_0 rfl (lv_at hl 1 rfl) ?_
  refine lv_iconst (v := 0) hx hb dL_undo_1 (by decide) ?_
  refine lv_aload_n hx hb dL_undo_2 rfl (lv_at hl 0 rfl) ?_
  refine cypv_i (As := []) (rest := [.int 0, .ref oa]) (Wr := [(oa, .inl (gC g 3, 1, .inr (.inl ol)))]) (Wn := fun u => (wT g ha tv ++ wQ g (ha 1) (u.1.2.1) ++ wH g (ha 4) u.2 (u.1.2.2) ++ [(oa, .inl (gC g 3, 1, .inr (.inl ol)))])) (WnX := fun u => (wT g ha tv ++ wQ g (ha 1) (u.1.2.1) ++ wH g (ha 4) u.2 (u.1.2.2) ++ [(oa, .inl (gC g 3, 1, .inr (.inl ol)))])) ⟨hx, hb, hml, hown, hts⟩ (c_X10_undo l hlt g ha hd tv qv hv  _ hg) (cwV 0 hts gL_undo_X10_undo rfl rfl rfl hd_X10_undo ⟨(Nat.le_of_ble_eq_true rfl), (Nat.le_of_ble_eq_true rfl)⟩) hK hZ hT hA hP hD hS hl.1 (va_recv hK hP (ci := 9) (q0 := 0) rfl rfl) (wp_of fun f => by simp only [List.countP_append, List.countP_cons, List.countP_nil] <;> omega) (fun _ => (wp_of fun f => by simp only [List.countP_append, List.countP_cons, List.countP_nil] <;> omega)) (fun _ => (wp_of fun f => by simp only [List.countP_append, List.countP_cons, List.countP_nil] <;> omega)) rfl rfl (Nat.le_of_ble_eq_true rfl) ⟨(Nat.le_of_ble_eq_true rfl), (Nat.le_of_ble_eq_true rfl)⟩ dL_undo_3 (fun u ce q9 H locs ho hP hD hS hce hcv hcl => ?_) (fun u H locs ho hP hD hS => ?_)
  · have ho9 := ho
    subst ho9
    have hf := jbM_l hf
    by_cases h0 : (u.1.1) = 3
    · have hf := jbT hf h0
      cases hf
      have hcl : s.vm.findClass "java/lang/IllegalStateException" = some ce.cls := by rw [h0] at hcl; exact hcl
      refine lx_catch hown hT [] (0, 8, 11, 21) [] htb exN_3 lx_n rfl (by decide) kk0 hce hcv hcl ?_
      refine lv_astore_n (lv' := [(2, .ref q9), (0, .ref (ha 0 0)), (1, .ref oa)]) hx hb dL_undo_11 rfl hl (by decide) rfl (fun ls hl => ?_)
      refine lv_iconst (v := 1) hx hb dL_undo_12 (by decide) ?_
      refine rz_i (RT := Nat → Nat → Nat) (PR := fun _ => True) (rv := fun _ => 1) (W1 := fun hd1 => (wT g ha tv ++ wQ g (ha 1) (u.1.2.1) ++ wH g (ha 4) hd1 (u.1.2.2) ++ [(oa, .inl (gC g 3, 1, .inr (.inl ol)))])) u.2 trivial rfl hx hb hrt hlk rfl hK hP hD hS ?_ ?_ dL_undo_13 <;> exact Nat.le_of_ble_eq_true rfl
    · have hf := jbF hf h0
      cases hf
  have ho9 := ho
  subst ho9
  have hf := jbM_r hf
  cases hf
  refine lv_i2l (v := (u.1.1).toInt64) hx hb dL_undo_6 rfl ?_
  have hP9 : va_P (gD g) vwCl ([(oa, .inl (gC g 3, 1, .inr (.inl ol)))] ++ (wT g ha tv ++ wQ g (ha 1) (u.1.2.1) ++ wH g (ha 4) u.2 (u.1.2.2))) _ := wp_P (wp_of fun f => by simp only [List.countP_append, List.countP_cons, List.countP_nil] <;> omega) hP
  have hD9 : va_D A ([(oa, .inl (gC g 3, 1, .inr (.inl ol)))] ++ (wT g ha tv ++ wQ g (ha 1) (u.1.2.1) ++ wH g (ha 4) u.2 (u.1.2.2))) := wp_D (wp_of fun f => by simp only [List.countP_append, List.countP_cons, List.countP_nil] <;> omega) hD
  refine va_last hx hb hK hP9 hD9 hS 0 3 rfl rfl (i := 0) (x := (u.1.1).toInt64) vp_in01 dL_undo_7 (fun H locs hP hD hS => ?_)
  have hP : va_P (gD g) vwCl (wT g ha tv ++ wQ g (ha 1) (u.1.2.1) ++ wH g (ha 4) u.2 (u.1.2.2) ++ [(oa, .inl (gC g 3, 1, .inr (.inl (vp_updL ol (0 : Int32).toNatClampNeg (u.1.1).toInt64))))]) H := wp_P (a := [(oa, .inl (gC g 3, 1, .inr (.inl (vp_updL ol (0 : Int32).toNatClampNeg (u.1.1).toInt64))))] ++ (wT g ha tv ++ wQ g (ha 1) (u.1.2.1) ++ wH g (ha 4) u.2 (u.1.2.2))) (wp_of fun f => by simp only [List.countP_append, List.countP_cons, List.countP_nil] <;> omega) hP
  have hD : va_D A (wT g ha tv ++ wQ g (ha 1) (u.1.2.1) ++ wH g (ha 4) u.2 (u.1.2.2) ++ [(oa, .inl (gC g 3, 1, .inr (.inl (vp_updL ol (0 : Int32).toNatClampNeg (u.1.1).toInt64))))]) := wp_D (a := [(oa, .inl (gC g 3, 1, .inr (.inl (vp_updL ol (0 : Int32).toNatClampNeg (u.1.1).toInt64))))] ++ (wT g ha tv ++ wQ g (ha 1) (u.1.2.1) ++ wH g (ha 4) u.2 (u.1.2.2))) (wp_of fun f => by simp only [List.countP_append, List.countP_cons, List.countP_nil] <;> omega) hD
  refine lv_goto (tgt := 14) hx hb dL_undo_8 (by decide) ?_
  refine lv_iconst (v := 0) hx hb dL_undo_14 (by decide) ?_
  refine rz_i (RT := Nat → Nat → Nat) (PR := fun _ => True) (rv := fun _ => 0) (W1 := fun hd1 => (wT g ha tv ++ wQ g (ha 1) (u.1.2.1) ++ wH g (ha 4) hd1 (u.1.2.2) ++ [(oa, .inl (gC g 3, 1, .inr (.inl (vp_updL ol (0 : Int32).toNatClampNeg (u.1.1).toInt64))))])) u.2 trivial rfl hx hb hrt hlk rfl hK hP hD hS ?_ ?_ dL_undo_15 <;> exact Nat.le_of_ble_eq_true rfl
def f_L_restore (qv : QV) (hv : HV) (sv : Option QV)   : Option (Int32 × QV × HV) :=
  (f_X10_restore qv sv).bind fun o => jbM o (fun x => if x = 3 then some (1, qv, hv) else none) (fun y => some (0, y, (hv.1, hv.2.1, 0)))
def rm_L_restore : Room := { frames := 8, cells := 1, slots := 6, locals := 140 }
theorem hd_L_restore : yL_restore.cls = RL ∧ yL_restore.cls ≠ "java/lang/invoke/MethodHandle" ∧ yL_restore.cls ≠ "java/lang/invoke/VarHandle" ∧ (parseMethodDescriptor yL_restore.desc).map (fun d => d.parameters.length) = some 1 := by decide +kernel
set_option maxHeartbeats 4000000 in
set_option maxRecDepth 100000 in
theorem c_L_restore (l : Launch) (hlt : l.stackTraces = false) (g : GG) (ha : Nat → Nat → Nat) (hd : Nat → Nat → Nat) (ep fc : Int32) (qv : QV) (hv : HV) (hs : Nat → Nat) (sv : Option QV)  (out : Int32 × QV × HV) (hf : f_L_restore qv hv sv  = some out) : MtI l yL_restore wsL_restore rm_L_restore g (wT g ha (sv.map (fun _ => hs 0), ep, fc) ++ wQ g (ha 1) qv ++ wH g (ha 4) hd hv ++ wSv g hs sv) [.ref (ha 0 0)] (out.1) (wT g ha (sv.map (fun _ => hs 0), ep, fc) ++ wQ g (ha 1) (out.2.1) ++ wH g (ha 4) hd (out.2.2) ++ wSv g hs sv) 1 6 := by
  refine fun sz => mh_of (hh := [(0, 4, 7, 21)]) (cc := cL_restore) (maxL := 2) (ret := (some .int)) (own := RL) (Qc := fun A => va_Qi (fun r (_ : Unit) => r = (out.1)) (fun _ t => PosM g A (wT g ha (sv.map (fun _ => hs 0), ep, fc) ++ wQ g (ha 1) (out.2.1) ++ wH g (ha 4) hd (out.2.2) ++ wSv g hs sv) t) A) (by decide +kernel) rfl rfl (Nat.le_of_ble_eq_true rfl) ?_ sz
  intro p e s mi below meth c A ls hB htb hrt hlk hP hD hl
  obtain ⟨hx, hb, hml, hown, hts, hK, hZ, hT, hA, -⟩ := hB
  have hS : va_S A s.heap s.heap [] := va_S.rf
  have hl : lv_has ls 2 [(0, .ref (ha 0 0))] := hl
  have kk0 := hts (.classLink RL 21 "java/lang/IllegalStateException") (by decide +kernel)
  unfold f_L_restore at hf
  obtain ⟨o, hg, hf⟩ := jbB_e hf
  refine lv_aload_n hx hb dL_restore_0 rfl (lv_at hl 0 rfl) ?_
  refine cxpv_v (As := []) (rest := []) (Wr := []) (Wn := fun u => (wT g ha (sv.map (fun _ => hs 0), ep, fc) ++ wQ g (ha 1) u ++ wH g (ha 4) hd (hv.1, hv.2.1, 0) ++ wSv g hs sv)) (WnX := fun u => (wT g ha (sv.map (fun _ => hs 0), ep, fc) ++ wQ g (ha 1) qv ++ wH g (ha 4) hd hv ++ wSv g hs sv)) ⟨hx, hb, hml, hown, hts⟩ (c_X10_restore l hlt g ha hd ep fc qv hv hs sv _ hg) (cwV 0 hts gL_restore_X10_restore rfl rfl rfl hd_X10_restore ⟨(Nat.le_of_ble_eq_true rfl), (Nat.le_of_ble_eq_true rfl)⟩) hK hZ hT hA hP hD hS hl.1 (va_recv hK hP (ci := 9) (q0 := 0) rfl rfl) (wp_of fun f => by simp only [List.countP_append, List.countP_cons, List.countP_nil] <;> omega) (fun _ => (wp_of fun f => by simp only [List.countP_append, List.countP_cons, List.countP_nil] <;> omega)) (fun _ => (wp_of fun f => by simp only [List.countP_append, List.countP_cons, List.countP_nil] <;> omega)) rfl rfl (Nat.le_of_ble_eq_true rfl) ⟨(Nat.le_of_ble_eq_true rfl), (Nat.le_of_ble_eq_true rfl)⟩ dL_restore_1 (fun u ce q9 H locs ho hP hD hS hce hcv hcl => ?_) (fun u H locs ho hP hD hS => ?_)
  · have ho9 := ho
    subst ho9
    have hf := jbM_l hf
    by_cases h0 : u = 3
    · have hf := jbT hf h0
      cases hf
      have hcl : s.vm.findClass "java/lang/IllegalStateException" = some ce.cls := by rw [h0] at hcl; exact hcl
      refine lx_catch hown hT [] (0, 4, 7, 21) [] htb exN_3 lx_n rfl (by decide) kk0 hce hcv hcl ?_
      refine lv_astore_n (lv' := [(1, .ref q9), (0, .ref (ha 0 0))]) hx hb dL_restore_7 rfl hl (by decide) rfl (fun ls hl => ?_)
      refine lv_iconst (v := 1) hx hb dL_restore_8 (by decide) ?_
      exact rt_i hx hb hrt hlk rfl hK hP hD hS (Nat.le_of_ble_eq_true rfl) (Nat.le_of_ble_eq_true rfl) dL_restore_9
    · have hf := jbF hf h0
      cases hf
  have ho9 := ho
  subst ho9
  have hf := jbM_r hf
  cases hf
  refine lv_goto (tgt := 10) hx hb dL_restore_4 (by decide) ?_
  refine lv_iconst (v := 0) hx hb dL_restore_10 (by decide) ?_
  exact rt_i hx hb hrt hlk rfl hK hP hD hS (Nat.le_of_ble_eq_true rfl) (Nat.le_of_ble_eq_true rfl) dL_restore_11
