section
variable {l : Launch} {y : MethodName} {ws ws' : List Cond} {rm : Room} {g : GG} {W0 W1 : va_W} {av : List Value} {mc ms maxL : Nat} {cc : ByteArray} {own : String} {hh : List (Nat × Nat × Nat × Nat)}
/-- the head of a method that catches what it throws -/
theorem mh_of {ret : Option FieldType} {Qc : (Nat → Prop) → Array Value → State → Outcome → State → Prop} (hy : plainName y.cls = true) (hcl : y.cls = own) (hw : ws = Cond.codeWith y cc maxL ret hh :: ws') (hloc : (lg_sl av).length ≤ maxL)
    (body : ∀ (p : Program) (e : Env) (s : State) (m : MethodId) (below : List Frame) (meth : Method) (c : Code) (A : Nat → Prop) (ls : Array Slot), Bod p s m av.toArray meth c cc maxL own ws g A → c.exceptionTable.toList = tableOf hh → meth.sig.returnType = ret → meth.locks = false → va_P (gD g) vwCl W0 s.heap → va_D A W0 → lv_has ls maxL (lv_args 0 av) →
      W p l e rm s m av.toArray below meth c s.heap [] 0 0 (MQ below (Qc A) av.toArray s mc ms A) (F0 m 0 ls [])) (sz : Nat) : Met l y ws rm (PreM g W0 av sz) (Qc (va_A W0 sz)) mc ms (va_A W0 sz) := by
  refine MetFree.of_bodyS (code := cc) (maxLocals := maxL) (ret := ret) hy ?_ ?_
  · intro args s m h hn
    obtain ⟨m9, meth, c, hn9, h1, h2, h3, h4, -, h5, h6, -⟩ := Cond.codeWith_spec (atoms_spec (ws := ws) h _ (by rw [hw]; exact List.mem_cons_self))
    cases hn.symm.trans hn9
    exact ⟨meth, c, h1, h2, h3, h4, h5, h6⟩
  · intro p e s m args below meth c s₁ B hml hv _
    have hh0 : s₁.heap = s.heap := by rw [B.state]; rfl
    have hts := atoms_spec (ws := ws) B.pre
    have htb := vx_table (x := y) B (hts _ (by rw [hw]; exact List.mem_cons_self))
    obtain ⟨rfl, hsz, hP, hK, hD0, hZ, hR⟩ := hv
    have hown : s.vm.findClass own = some m.cls := hcl ▸ findClass_of_methodNamed B.named
    subst hsz
    have hD := hD0.self (sz := s.heap.size)
    have hA : ∀ q : Nat, s.heap.size ≤ q → va_A W0 s.heap.size q := fun q h => Or.inr h
    have hl := lv_entry av (n := maxL) hloc
    have hbody := body p e s m below meth c (va_A W0 s.heap.size) _ ⟨B.exec, B.bytes, hml, hown, hts, hK, hZ, hR, hA, rfl⟩ htb B.returns B.notSynchronized hP hD hl
    rw [← lg_entry_eq] at hbody
    obtain ⟨t, a1, o, b1, b2, b3⟩ := hbody s₁ hh0 (Stand.of_body B)
    exact ⟨t, o, a1, b1, b2, ⟨b3.1, b3.2⟩⟩
end
section
variable {p : Program} {l : Launch} {e : Env} {R : Room} {s : State} {m : MethodId} {args : Array Value} {below : List Frame} {meth : Method} {c : Code} {H : Heap} {locs : List Loc} {cells slots : Nat} {Q : State → Prop}
/-- a row of the table that names another of the six classes -/
def lxP (own : String) (args : Array Value) (s : State) (E : String) (z : ExceptionTableEntry) : Prop := z.catchType ≠ 0 ∧ ∃ nm ∈ exN, (E ≠ nm ∧ nm ≠ "java/lang/ArithmeticException") ∧ (Cond.classLink own z.catchType nm).before args s = true
theorem lx_n {own E : String} : ∀ z ∈ tableOf [], lxP own args s E z := fun _ h => nomatch h
theorem lx_c {own E nm : String} {q : Nat × Nat × Nat × Nat} {hh : List (Nat × Nat × Nat × Nat)} (h0 : q.2.2.2 ≠ 0) (hm : nm ∈ exN) (hne : E ≠ nm) (hk : (Cond.classLink own q.2.2.2 nm).before args s = true) (t : ∀ z ∈ tableOf hh, lxP own args s E z) (ha : nm ≠ "java/lang/ArithmeticException" := by decide) : ∀ z ∈ tableOf (q :: hh), lxP own args s E z := fun z hz => by
  rcases List.mem_cons.mp hz with rfl | hz
  · exact ⟨h0, nm, hm, ⟨hne, ha⟩, hk⟩
  · exact t z hz
theorem lx_catch {g : GG} {own E : String} {ce : Cell} {q : Addr} {pc : Nat} {ls : Array Slot} {rest : List Value} (hown : s.vm.findClass own = some m.cls) (hT : STR g s) (pre : List (Nat × Nat × Nat × Nat)) (h : Nat × Nat × Nat × Nat) (suf : List (Nat × Nat × Nat × Nat)) (htb : c.exceptionTable.toList = tableOf (pre ++ h :: suf))
    (hE : E ∈ exN) (hpass : ∀ z ∈ tableOf pre, lxP own args s E z) (hc : covers ⟨h.1, h.2.1, h.2.2.1, h.2.2.2⟩ pc = true) (h0 : h.2.2.2 ≠ 0) (hlink : (Cond.classLink own h.2.2.2 E).before args s = true) (hcell : H[q]? = some ce) (hv : ce.vm = .none) (hcl : s.vm.findClass E = some ce.cls)
    (kk : W p l e R s m args below meth c H locs cells slots Q (F0 m h.2.2.1 ls [.ref q])) : vx_W p l e R s m args below meth c H locs cells slots Q (F0 m pc ls rest) q := by
  refine vx_catch hown (tableOf pre) ⟨h.1, h.2.1, h.2.2.1, h.2.2.2⟩ (tableOf suf) (htb.trans (by simp [tableOf])) (fun z hz => ?_) hc h0 hlink (va_Nw.use rfl (hT.2.2.1 E hE)) hcell hv hcl kk
  obtain ⟨h1, nm, h2, h3, h4⟩ := hpass z hz
  exact Or.inr ⟨h1, nm, h4, hT.2.2.2.1 E hE nm h2 h3⟩
end
theorem vp_in01 : vp_in 0 1 := by unfold vp_in; decide
theorem exN_0 : "java/lang/IndexOutOfBoundsException" ∈ exN := by decide
theorem exN_1 : "java/lang/IllegalArgumentException" ∈ exN := by decide
theorem exN_2 : "java/util/NoSuchElementException" ∈ exN := by decide
theorem exN_3 : "java/lang/IllegalStateException" ∈ exN := by decide
theorem exN_4 : "java/lang/UnsupportedOperationException" ∈ exN := by decide
theorem exN_5 : "java/lang/ArithmeticException" ∈ exN := by decide
def wA (g : GG) (b : Nat) (u : Nat → Int32) (n : Nat) : va_W := [(b, .inl (gC g 0, n, .inl u))]
section
variable {p : Program} {l : Launch} {e : Env} {R : Room} {s : State} {m : MethodId} {args : Array Value} {below : List Frame} {meth : Method} {c : Code} {H : Heap} {locs : List Loc} {cells slots : Nat} {Q : State → Prop}
variable {g : GG} {Ws Wc Wr : va_W} {A : Nat → Prop} {cc bytes : ByteArray} {pc : Nat} {ls : Array Slot} {mc ms maxL nL n index : Nat} {own own' C : String} {y : MethodName} {ret : Option FieldType} {wsY Ts : List Cond} {rmY : Room} {As rest : List Value} {RT : Type} {PR : RT → Prop} {hh : List (Nat × Nat × Nat × Nat)}
theorem cws_i {rv : Int32} {W2 Wn : va_W} (S : CallFix p m c cc nL s args Ts own) (hM : MtI l y wsY rmY g Wc As rv W2 mc ms) (cw : vx_CSW R s args own index y bytes maxL ret hh wsY rmY mc ms n) (hK : va_K (gD g) vwCl (tyL g) s) (hZ : ST g A s s.heap) (hT : STR g s) (hA : ∀ q, s.heap.size ≤ q → A q) (hP : va_P (gD g) vwCl Ws H) (hD : va_D A Ws) (hS : va_S A s.heap H locs) (hsz : ls.size = nL) (hp : Ws.Perm (Wc ++ Wr)) (hq : (Wr ++ W2).Perm Wn) (hn : As.length = n) {st0 : List Value} (hst : st0 = As.reverse ++ rest) (hrm : (rest.map fun v => v.category).sum ≤ 8) (hroom : cells + mc ≤ R.cells ∧ slots + ms ≤ R.slots) (hdg : decode cc pc = .ok (.invokestatic index, 3))
    (kk : ∀ (H1 : Heap) (locs1 : List Loc), va_P (gD g) vwCl Wn H1 → va_D A Wn → va_S A s.heap H1 locs1 → W p l e R s m args below meth c H1 locs1 (cells + mc) (slots + ms) Q (F0 m (pc + 3) ls (.int rv :: rest))) : W p l e R s m args below meth c H locs cells slots Q (F0 m pc ls st0) := by
  refine va_calli (vx_runSW S (hM H.size) cw ⟨PreM.blind g Wc _ _, fun U hU hW => PreM.of (wp_P hp hP) (wp_D hp hD) hK hZ hT hS hA (List.range Wc.length) (cl_L Wc Wr) (cl_nd _) hU hW⟩ rfl hn hsz hst (lv_room hrm) hdg hroom) hS (fun q _ h => va_free (wp_D hp hD) hS hA (List.range Wc.length) (cl_L Wc Wr) q h) (va_free (wp_D hp hD) hS hA (List.range Wc.length) (cl_L Wc Wr)) (fun r u t H1 locs1 ht hvm hw hB hz1 hk1 hS1 => ?_)
  obtain ⟨hP1, hD1⟩ := cl_join (wp_P hp hP) (wp_D hp hD) hS hA (List.range Wc.length) ((List.range Wr.length).map (fun i => Wc.length + i)) (cl_L Wc Wr) (cl_R Wc Wr) (cl_ndR _ _) (cl_dis _ _) hk1 ht hB
  subst hw
  exact kk H1 locs1 (wp_P hq hP1) (wp_D hq hD1) hS1
theorem czws_i {rv : RT → Int32} {W2 Wn : RT → va_W} (S : CallFix p m c cc nL s args Ts own) (hM : MzI l y wsY rmY g Wc As PR rv W2 mc ms) (cw : vx_CSW R s args own index y bytes maxL ret hh wsY rmY mc ms n) (hK : va_K (gD g) vwCl (tyL g) s) (hZ : ST g A s s.heap) (hT : STR g s) (hA : ∀ q, s.heap.size ≤ q → A q) (hP : va_P (gD g) vwCl Ws H) (hD : va_D A Ws) (hS : va_S A s.heap H locs) (hsz : ls.size = nL) (hp : Ws.Perm (Wc ++ Wr)) (hq : ∀ x, (Wr ++ W2 x).Perm (Wn x)) (hn : As.length = n) {st0 : List Value} (hst : st0 = As.reverse ++ rest) (hrm : (rest.map fun v => v.category).sum ≤ 8) (hroom : cells + mc ≤ R.cells ∧ slots + ms ≤ R.slots) (hdg : decode cc pc = .ok (.invokestatic index, 3))
    (kk : ∀ (x : RT) (H1 : Heap) (locs1 : List Loc), PR x → va_P (gD g) vwCl (Wn x) H1 → va_D A (Wn x) → va_S A s.heap H1 locs1 → W p l e R s m args below meth c H1 locs1 (cells + mc) (slots + ms) Q (F0 m (pc + 3) ls (.int (rv x) :: rest))) : W p l e R s m args below meth c H locs cells slots Q (F0 m pc ls st0) := by
  refine va_calli (vx_runSW S (hM H.size) cw ⟨PreM.blind g Wc _ _, fun U hU hW => PreM.of (wp_P hp hP) (wp_D hp hD) hK hZ hT hS hA (List.range Wc.length) (cl_L Wc Wr) (cl_nd _) hU hW⟩ rfl hn hsz hst (lv_room hrm) hdg hroom) hS (fun q _ h => va_free (wp_D hp hD) hS hA (List.range Wc.length) (cl_L Wc Wr) q h) (va_free (wp_D hp hD) hS hA (List.range Wc.length) (cl_L Wc Wr)) (fun r u t H1 locs1 ht hvm hw hB hz1 hk1 hS1 => ?_)
  obtain ⟨hP1, hD1⟩ := cl_join (wp_P hp hP) (wp_D hp hD) hS hA (List.range Wc.length) ((List.range Wr.length).map (fun i => Wc.length + i)) (cl_L Wc Wr) (cl_R Wc Wr) (cl_ndR _ _) (cl_dis _ _) hk1 ht hB
  obtain ⟨ho, rfl⟩ := hw
  exact kk u H1 locs1 ho (wp_P (hq u) hP1) (wp_D (hq u) hD1) hS1
end
section
variable {p : Program} {l : Launch} {e : Env} {R : Room} {s : State} {m : MethodId} {args : Array Value} {below : List Frame} {meth : Method} {c : Code} {H : Heap} {locs : List Loc} {cells slots : Nat} {Q : State → Prop}
variable {g : GG} {Ws Wc Wr : va_W} {A : Nat → Prop} {cc bytes : ByteArray} {pc : Nat} {ls : Array Slot} {mc ms maxL nL n index : Nat} {own own' C : String} {y : MethodName} {ret : Option FieldType} {wsY Ts : List Cond} {rmY : Room} {b : Nat} {As rest : List Value} {ET RT : Type} {PR : RT → Prop} {PX : ET → Prop} {W2 Wn : RT → va_W} {WX WnX : ET → va_W} {ek : ET → Nat}
theorem cyps_i {rv : RT → Int32} (S : CallFix p m c cc nL s args Ts own) (hM : MyI l y wsY rmY g Wc As PR rv W2 PX ek WX mc ms) (cw : CallB R s args own index y bytes maxL ret wsY rmY mc ms n ∧ (Cond.static y).before args s = true) (hK : va_K (gD g) vwCl (tyL g) s) (hZ : ST g A s s.heap) (hT : STR g s) (hA : ∀ q, s.heap.size ≤ q → A q) (hP : va_P (gD g) vwCl Ws H) (hD : va_D A Ws) (hS : va_S A s.heap H locs) (hsz : ls.size = nL) (hp : Ws.Perm (Wc ++ Wr)) (hq : ∀ x, (Wr ++ W2 x).Perm (Wn x)) (hqX : ∀ x, (Wr ++ WX x).Perm (WnX x)) (hn : As.length = n) {st0 : List Value} (hst : st0 = As.reverse ++ rest) (hrm : (rest.map fun v => v.category).sum ≤ 8) (hroom : cells + mc ≤ R.cells ∧ slots + ms ≤ R.slots) (hdg : decode cc pc = .ok (.invokestatic index, 3))
    (kx : ∀ (x : ET) (ce : Cell) (q9 : Addr) (H1 : Heap) (locs1 : List Loc), PX x → va_P (gD g) vwCl (WnX x) H1 → va_D A (WnX x) → va_S A s.heap H1 locs1 → H1[q9]? = some ce → ce.vm = .none → s.vm.findClass (exn (ek x)) = some ce.cls → vx_W p l e R s m args below meth c H1 locs1 (cells + mc) (slots + ms) Q (F0 m pc ls rest) q9)
    (kk : ∀ (x : RT) (H1 : Heap) (locs1 : List Loc), PR x → va_P (gD g) vwCl (Wn x) H1 → va_D A (Wn x) → va_S A s.heap H1 locs1 → W p l e R s m args below meth c H1 locs1 (cells + mc) (slots + ms) Q (F0 m (pc + 3) ls (.int (rv x) :: rest))) : W p l e R s m args below meth c H locs cells slots Q (F0 m pc ls st0) := by
  refine vx_calli (vx_runS S (hM H.size) cw ⟨PreM.blind g Wc _ _, fun U hU hW => PreM.of (wp_P hp hP) (wp_D hp hD) hK hZ hT hS hA (List.range Wc.length) (cl_L Wc Wr) (cl_nd _) hU hW⟩ rfl hn hsz hst (lv_room hrm) hdg hroom) hS (fun q _ h => va_free (wp_D hp hD) hS hA (List.range Wc.length) (cl_L Wc Wr) q h) (va_free (wp_D hp hD) hS hA (List.range Wc.length) (cl_L Wc Wr)) (fun q _ h => va_free (wp_D hp hD) hS hA (List.range Wc.length) (cl_L Wc Wr) q h) (fun E ce q9 u t H1 locs1 ht hvm hp1 hB hz1 hk1 hS1 hce hcv hcl => ?_) (fun r u t H1 locs1 ht hvm hw hB hz1 hk1 hS1 => ?_)
  · obtain ⟨hE, hB⟩ := hB
    obtain ⟨hP1, hD1⟩ := cl_join (wp_P hp hP) (wp_D hp hD) hS hA (List.range Wc.length) ((List.range Wr.length).map (fun i => Wc.length + i)) (cl_L Wc Wr) (cl_R Wc Wr) (cl_ndR _ _) (cl_dis _ _) hk1 ht hB
    exact kx u ce q9 H1 locs1 hp1 (wp_P (hqX u) hP1) (wp_D (hqX u) hD1) hS1 hce hcv (hE ▸ hcl)
  · obtain ⟨hP1, hD1⟩ := cl_join (wp_P hp hP) (wp_D hp hD) hS hA (List.range Wc.length) ((List.range Wr.length).map (fun i => Wc.length + i)) (cl_L Wc Wr) (cl_R Wc Wr) (cl_ndR _ _) (cl_dis _ _) hk1 ht hB
    obtain ⟨ho, rfl⟩ := hw
    exact kk u H1 locs1 ho (wp_P (hq u) hP1) (wp_D (hq u) hD1) hS1
theorem cxps_i {rv : RT → Int32} {out : Sum ET RT} (S : CallFix p m c cc nL s args Ts own) (hM : MxI l y wsY rmY g Wc As out rv W2 ek WX mc ms) (cw : CallB R s args own index y bytes maxL ret wsY rmY mc ms n ∧ (Cond.static y).before args s = true) (hK : va_K (gD g) vwCl (tyL g) s) (hZ : ST g A s s.heap) (hT : STR g s) (hA : ∀ q, s.heap.size ≤ q → A q) (hP : va_P (gD g) vwCl Ws H) (hD : va_D A Ws) (hS : va_S A s.heap H locs) (hsz : ls.size = nL) (hp : Ws.Perm (Wc ++ Wr)) (hq : ∀ x, (Wr ++ W2 x).Perm (Wn x)) (hqX : ∀ x, (Wr ++ WX x).Perm (WnX x)) (hn : As.length = n) {st0 : List Value} (hst : st0 = As.reverse ++ rest) (hrm : (rest.map fun v => v.category).sum ≤ 8) (hroom : cells + mc ≤ R.cells ∧ slots + ms ≤ R.slots) (hdg : decode cc pc = .ok (.invokestatic index, 3))
    (kx : ∀ (x : ET) (ce : Cell) (q9 : Addr) (H1 : Heap) (locs1 : List Loc), out = .inl x → va_P (gD g) vwCl (WnX x) H1 → va_D A (WnX x) → va_S A s.heap H1 locs1 → H1[q9]? = some ce → ce.vm = .none → s.vm.findClass (exn (ek x)) = some ce.cls → vx_W p l e R s m args below meth c H1 locs1 (cells + mc) (slots + ms) Q (F0 m pc ls rest) q9)
    (kk : ∀ (x : RT) (H1 : Heap) (locs1 : List Loc), out = .inr x → va_P (gD g) vwCl (Wn x) H1 → va_D A (Wn x) → va_S A s.heap H1 locs1 → W p l e R s m args below meth c H1 locs1 (cells + mc) (slots + ms) Q (F0 m (pc + 3) ls (.int (rv x) :: rest))) : W p l e R s m args below meth c H locs cells slots Q (F0 m pc ls st0) := by
  refine vx_calli (vx_runS S (hM H.size) cw ⟨PreM.blind g Wc _ _, fun U hU hW => PreM.of (wp_P hp hP) (wp_D hp hD) hK hZ hT hS hA (List.range Wc.length) (cl_L Wc Wr) (cl_nd _) hU hW⟩ rfl hn hsz hst (lv_room hrm) hdg hroom) hS (fun q _ h => va_free (wp_D hp hD) hS hA (List.range Wc.length) (cl_L Wc Wr) q h) (va_free (wp_D hp hD) hS hA (List.range Wc.length) (cl_L Wc Wr)) (fun q _ h => va_free (wp_D hp hD) hS hA (List.range Wc.length) (cl_L Wc Wr) q h) (fun E ce q9 u t H1 locs1 ht hvm hp1 hB hz1 hk1 hS1 hce hcv hcl => ?_) (fun r u t H1 locs1 ht hvm hw hB hz1 hk1 hS1 => ?_)
  · obtain ⟨hE, hB⟩ := hB
    obtain ⟨hP1, hD1⟩ := cl_join (wp_P hp hP) (wp_D hp hD) hS hA (List.range Wc.length) ((List.range Wr.length).map (fun i => Wc.length + i)) (cl_L Wc Wr) (cl_R Wc Wr) (cl_ndR _ _) (cl_dis _ _) hk1 ht hB
    exact kx u ce q9 H1 locs1 hp1 (wp_P (hqX u) hP1) (wp_D (hqX u) hD1) hS1 hce hcv (hE ▸ hcl)
  · obtain ⟨hP1, hD1⟩ := cl_join (wp_P hp hP) (wp_D hp hD) hS hA (List.range Wc.length) ((List.range Wr.length).map (fun i => Wc.length + i)) (cl_L Wc Wr) (cl_R Wc Wr) (cl_ndR _ _) (cl_dis _ _) hk1 ht hB
    obtain ⟨ho, rfl⟩ := hw
    exact kk u H1 locs1 ho (wp_P (hq u) hP1) (wp_D (hq u) hD1) hS1
end
