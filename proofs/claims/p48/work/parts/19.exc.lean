/-! methods that throw: the outcome is known: inl the exception, inr the answer -/
def exn (k : Nat) : String := exN.getD k ""
section
variable {ET RT : Type}
def MxI (l : Launch) (y : MethodName) (ws : List Cond) (rm : Room) (g : GG) (W : va_W) (av : List Value) (out : Sum ET RT) (rv : RT → Int32) (W' : RT → va_W) (ek : ET → Nat) (WX : ET → va_W) (mc ms : Nat) : Prop := ∀ sz : Nat, vx_Met l y ws rm (PreM g W av sz) (va_Qi (fun r (x : RT) => out = .inr x ∧ r = rv x) (fun x t => PosM g (va_A W sz) (W' x) t) (va_A W sz)) (vx_X (fun (x : ET) => out = .inl x) (fun E x t => E = exn (ek x) ∧ PosM g (va_A W sz) (WX x) t) (va_A W sz)) mc ms (va_A W sz)
def MxF (l : Launch) (y : MethodName) (ws : List Cond) (rm : Room) (g : GG) (W : va_W) (av : List Value) (out : Sum ET RT) (rv : RT → UInt32) (W' : RT → va_W) (ek : ET → Nat) (WX : ET → va_W) (mc ms : Nat) : Prop := ∀ sz : Nat, vx_Met l y ws rm (PreM g W av sz) (va_Qf (fun r (x : RT) => out = .inr x ∧ r = rv x) (fun x t => PosM g (va_A W sz) (W' x) t) (va_A W sz)) (vx_X (fun (x : ET) => out = .inl x) (fun E x t => E = exn (ek x) ∧ PosM g (va_A W sz) (WX x) t) (va_A W sz)) mc ms (va_A W sz)
def MxV (l : Launch) (y : MethodName) (ws : List Cond) (rm : Room) (g : GG) (W : va_W) (av : List Value) (out : Sum ET RT) (W' : RT → va_W) (ek : ET → Nat) (WX : ET → va_W) (mc ms : Nat) : Prop := ∀ sz : Nat, vx_Met l y ws rm (PreM g W av sz) (va_Qv (fun (x : RT) => out = .inr x) (fun x t => PosM g (va_A W sz) (W' x) t) (va_A W sz)) (vx_X (fun (x : ET) => out = .inl x) (fun E x t => E = exn (ek x) ∧ PosM g (va_A W sz) (WX x) t) (va_A W sz)) mc ms (va_A W sz)
variable {l : Launch} {y : MethodName} {ws ws' : List Cond} {rm : Room} {g : GG} {W0 : va_W} {av : List Value} {mc ms maxL : Nat} {cc : ByteArray} {own : String}
theorem mx_of {ret : Option FieldType} {Qc : (Nat → Prop) → Array Value → State → Outcome → State → Prop} {XC : (Nat → Prop) → String → State → State → Prop} (hy : plainName y.cls = true) (hcl : y.cls = own) (hw : ws = Cond.code y cc maxL ret :: ws') (hloc : (lg_sl av).length ≤ maxL)
    (body : ∀ (p : Program) (e : Env) (s : State) (m : MethodId) (below : List Frame) (meth : Method) (c : Code) (A : Nat → Prop) (ls : Array Slot), Bod p s m av.toArray meth c cc maxL own ws g A → (∀ x ∈ c.exceptionTable.toList, False) → meth.sig.returnType = ret → meth.locks = false → va_P (gD g) vwCl W0 s.heap → va_D A W0 → lv_has ls maxL (lv_args 0 av) →
      W p l e rm s m av.toArray below meth c s.heap [] 0 0 (vx_MQ below (Qc A) (XC A) av.toArray s mc ms A) (F0 m 0 ls [])) (sz : Nat) : vx_Met l y ws rm (PreM g W0 av sz) (Qc (va_A W0 sz)) (XC (va_A W0 sz)) mc ms (va_A W0 sz) := by
  refine vx_ofW (cc := cc) (maxL := maxL) (ret := ret) hy hw ?_
  intro p e s m args below meth c s₁ B hml htb hv
  obtain ⟨rfl, hsz, hP, hK, hD0, hZ, hR⟩ := hv
  have hts := atoms_spec (ws := ws) B.pre
  have hown : s.vm.findClass own = some m.cls := hcl ▸ findClass_of_methodNamed B.named
  subst hsz
  have hD := hD0.self (sz := s.heap.size)
  have hA : ∀ q : Nat, s.heap.size ≤ q → va_A W0 s.heap.size q := fun q h => Or.inr h
  have hl := lv_entry av (n := maxL) hloc
  rw [lg_entry_eq]
  exact body p e s m below meth c (va_A W0 s.heap.size) _ ⟨B.exec, B.bytes, hml, hown, hts, hK, hZ, hR, hA, rfl⟩ htb B.returns B.notSynchronized hP hD hl
end
section
variable {p : Program} {l : Launch} {e : Env} {R : Room} {s : State} {m : MethodId} {args : Array Value} {below : List Frame} {meth : Method} {c : Code} {H : Heap} {locs : List Loc} {cells slots : Nat} {Q : State → Prop}
variable {g : GG} {A : Nat → Prop} {cc : ByteArray} {pc : Nat} {ls : Array Slot} {rest : List Value} {mc ms : Nat} {ET RT : Type} {out : Sum ET RT} {W1 : RT → va_W} {WX : ET → va_W} {ek : ET → Nat} {XC : String → State → State → Prop}
theorem rx_i {rv : RT → Int32} {v : Int32} {ty : FieldType} (x : RT) (hv : v = rv x) (ho : out = .inr x) (hx : p.tables.exec = Jvm.exec) (hb : c.code = cc) (hr : meth.sig.returnType = some ty) (hlk : meth.locks = false) (hn : narrow ty (.int v) = .int v) (hK : va_K (gD g) vwCl (tyL g) s) (hP : va_P (gD g) vwCl (W1 x) H) (hD : va_D A (W1 x)) (hS : va_S A s.heap H locs) (hc : cells ≤ mc) (hs : slots ≤ ms) (hdg : decode cc pc = .ok (.ireturn, 1)) :
    W p l e R s m args below meth c H locs cells slots (vx_MQ below (va_Qi (fun r (x : RT) => out = .inr x ∧ r = rv x) (fun x t => PosM g A (W1 x) t) A) XC args s mc ms A) (F0 m pc ls [.int v]) :=
  W.widen hc hs (vx_ret (W.zret (ty := ty) hx hb hr hn (fun t ht hW => ⟨⟨v, x, rfl, ⟨ho, hv⟩, PosM.of hP hD hK ht hW⟩, hS.F ht⟩) hS.2.2 hdg hlk))
theorem rx_f {rv : RT → UInt32} {v : UInt32} (x : RT) (hv : v = rv x) (ho : out = .inr x) (hx : p.tables.exec = Jvm.exec) (hb : c.code = cc) (hr : meth.sig.returnType = some .float) (hlk : meth.locks = false) (hK : va_K (gD g) vwCl (tyL g) s) (hP : va_P (gD g) vwCl (W1 x) H) (hD : va_D A (W1 x)) (hS : va_S A s.heap H locs) (hc : cells ≤ mc) (hs : slots ≤ ms) (hdg : decode cc pc = .ok (.freturn, 1)) :
    W p l e R s m args below meth c H locs cells slots (vx_MQ below (va_Qf (fun r (x : RT) => out = .inr x ∧ r = rv x) (fun x t => PosM g A (W1 x) t) A) XC args s mc ms A) (F0 m pc ls [.float v]) :=
  W.widen hc hs (vx_ret (W.fret hx hb hr (fun t ht hW => ⟨⟨v, x, rfl, ⟨ho, hv⟩, PosM.of hP hD hK ht hW⟩, hS.F ht⟩) hS.2.2 hdg hlk))
theorem rx_v (x : RT) (ho : out = .inr x) (hx : p.tables.exec = Jvm.exec) (hb : c.code = cc) (hr : meth.sig.returnType = none) (hlk : meth.locks = false) (hK : va_K (gD g) vwCl (tyL g) s) (hP : va_P (gD g) vwCl (W1 x) H) (hD : va_D A (W1 x)) (hS : va_S A s.heap H locs) (hc : cells ≤ mc) (hs : slots ≤ ms) (hdg : decode cc pc = .ok (.return_, 1)) :
    W p l e R s m args below meth c H locs cells slots (vx_MQ below (va_Qv (fun (x : RT) => out = .inr x) (fun x t => PosM g A (W1 x) t) A) XC args s mc ms A) (F0 m pc ls []) :=
  W.widen hc hs (vx_ret (W.vret hx hb hr (fun t ht hW => ⟨⟨x, rfl, ho, PosM.of hP hD hK ht hW⟩, hS.F ht⟩) hS.2.2 hdg hlk))
theorem vaP_kept {D : va_G} {cl : List vw_C} {ws : va_W} {H H1 : Heap} (h : va_P D cl ws H) (hq : ∀ q : Nat, q < H.size → H1[q]? = H[q]?) : va_P D cl ws H1 := fun k q hk => (h k q hk).kept (hq _ (h k q hk).lt)
/-- a throw that goes on out -/
theorem rx_x {Qc : Array Value → State → Outcome → State → Prop} {E : String} {ce : Cell} {q : Addr} (x : ET) (hE : E = exn (ek x)) (ho : out = .inl x) (htb : ∀ x ∈ c.exceptionTable.toList, False) (hlk : meth.locks = false) (hK : va_K (gD g) vwCl (tyL g) s) (hP : va_P (gD g) vwCl (WX x) H) (hD : va_D A (WX x)) (hS : va_S A s.heap H locs) (hce : H[q]? = some ce) (hcv : ce.vm = .none) (hcl : s.vm.findClass E = some ce.cls) (hc : cells ≤ mc) (hs : slots ≤ ms) :
    vx_W p l e R s m args below meth c H locs cells slots (vx_MQ below Qc (vx_X (fun (x : ET) => out = .inl x) (fun E x t => E = exn (ek x) ∧ PosM g A (WX x) t) A) args s mc ms A) (F0 m pc ls rest) q :=
  vx_out (fun x h => (htb x h).elim) hlk hce hcv hcl (fun t ht hW => ⟨x, ho, ⟨hE, by rw [ht]; exact hP, va_K.moved hW hK, hD⟩, hS.F ht⟩) hS.2.2 hc hs
theorem rx_tt {A : Nat → Prop} {H : Heap} (hZ : ST g A s H) : vx_Zq Bundle.tN "UNASSIGNED_STACK" Bundle.steD A s H ∧ vx_Zq Bundle.tN "SUPPRESSED_SENTINEL" Bundle.listD A s H :=
  ⟨hZ.2.2.2.2.2.2.2.2.2 _ (List.mem_cons_self), hZ.2.2.2.2.2.2.2.2.2 _ (List.mem_cons_of_mem _ List.mem_cons_self)⟩
theorem rx_xc (x : ET) {E : String} (hE : E = exn (ek x)) (ho : out = .inl x) (hK : va_K (gD g) vwCl (tyL g) s) (hP : va_P (gD g) vwCl (WX x) H) (hD : va_D A (WX x)) (hS : va_S A s.heap H locs) (t : State) (hal : s.vm.Alike t.vm) (hsz : H.size ≤ t.heap.size) (hq : ∀ q : Nat, q < H.size → t.heap[q]? = H[q]?) : vx_X (fun (x : ET) => out = .inl x) (fun E x t => E = exn (ek x) ∧ PosM g A (WX x) t) A E s t :=
  ⟨x, ho, ⟨hE, vaP_kept hP hq, va_K.moved hal hK, hD⟩, ⟨Nat.le_trans hS.1 hsz, fun q h1 h2 => (hq q (Nat.lt_of_lt_of_le h1 hS.1)).trans (hS.2.1 q h1 h2)⟩⟩
end
section
variable {p : Program} {l : Launch} {e : Env} {R : Room} {s : State} {m : MethodId} {args : Array Value} {below : List Frame} {meth : Method} {c : Code} {H : Heap} {locs : List Loc} {cells slots : Nat} {Q : State → Prop}
variable {g : GG} {Ws Wc Wr : va_W} {A : Nat → Prop} {cc bytes : ByteArray} {pc : Nat} {ls : Array Slot} {mc ms maxL nL n index : Nat} {own own' C : String} {y : MethodName} {ret : Option FieldType} {wsY Ts : List Cond} {rmY : Room} {b : Nat} {As rest : List Value} {ET RT : Type} {out : Sum ET RT} {W2 : RT → va_W} {WX : ET → va_W} {ek : ET → Nat}
theorem cxv_i {rv : RT → Int32} (S : CallFix p m c cc nL s args Ts own) (hM : MxI l y wsY rmY g Wc (.ref b :: As) out rv W2 ek WX mc ms) (cw : CallW R s args own C index y bytes maxL ret wsY rmY mc ms n) (hK : va_K (gD g) vwCl (tyL g) s) (hZ : ST g A s s.heap) (hT : STR g s) (hA : ∀ q, s.heap.size ≤ q → A q) (hP : va_P (gD g) vwCl Ws H) (hD : va_D A Ws) (hS : va_S A s.heap H locs) (hsz : ls.size = nL) (hrec : ∃ cellB : Cell, H[b]? = some cellB ∧ cellB.vm.isStatics = false ∧ s.vm.findClass C = some cellB.cls) (isC isR : List Nat) (hC : isC.map (fun i => Ws[i]?) = Wc.map some) (hRr : isR.map (fun i => Ws[i]?) = Wr.map some) (hnC : va_nd isC = true) (hnR : va_nd isR = true) (hdis : (isR.all fun i => !isC.contains i) = true) (hn : As.length = n) {st0 : List Value} (hst : st0 = As.reverse ++ .ref b :: rest) (hrm : (rest.map fun v => v.category).sum ≤ 8) (hroom : cells + mc ≤ R.cells ∧ slots + ms ≤ R.slots) (hdg : decode cc pc = .ok (.invokevirtual index, 3))
    (kx : ∀ (x : ET) (ce : Cell) (q9 : Addr) (H1 : Heap) (locs1 : List Loc), out = .inl x → va_P (gD g) vwCl (Wr ++ WX x) H1 → va_D A (Wr ++ WX x) → va_S A s.heap H1 locs1 → H1[q9]? = some ce → ce.vm = .none → s.vm.findClass (exn (ek x)) = some ce.cls → vx_W p l e R s m args below meth c H1 locs1 (cells + mc) (slots + ms) Q (F0 m pc ls rest) q9)
    (kk : ∀ (x : RT) (H1 : Heap) (locs1 : List Loc), out = .inr x → va_P (gD g) vwCl (Wr ++ W2 x) H1 → va_D A (Wr ++ W2 x) → va_S A s.heap H1 locs1 → W p l e R s m args below meth c H1 locs1 (cells + mc) (slots + ms) Q (F0 m (pc + 3) ls (.int (rv x) :: rest))) : W p l e R s m args below meth c H locs cells slots Q (F0 m pc ls st0) := by
  refine vx_calli (vx_runV S (hM H.size) cw ⟨PreM.blind g Wc _ _, hrec, fun U hU hW => PreM.of hP hD hK hZ hT hS hA isC hC hnC hU hW⟩ rfl hn hsz hst (lv_room hrm) hdg hroom) hS (fun q _ h => va_free hD hS hA isC hC q h) (va_free hD hS hA isC hC) (fun q _ h => va_free hD hS hA isC hC q h) (fun E ce q9 u t H1 locs1 ht hvm hp hB hz1 hk1 hS1 hce hcv hcl => ?_) (fun r u t H1 locs1 ht hvm hw hB hz1 hk1 hS1 => ?_)
  · obtain ⟨hE, hB⟩ := hB
    obtain ⟨hP1, hD1⟩ := cl_join hP hD hS hA isC isR hC hRr hnR hdis hk1 ht hB
    exact kx u ce q9 H1 locs1 hp hP1 hD1 hS1 hce hcv (hE ▸ hcl)
  · obtain ⟨hP1, hD1⟩ := cl_join hP hD hS hA isC isR hC hRr hnR hdis hk1 ht hB
    obtain ⟨ho, rfl⟩ := hw
    exact kk u H1 locs1 ho hP1 hD1 hS1

theorem cxv_f {rv : RT → UInt32} (S : CallFix p m c cc nL s args Ts own) (hM : MxF l y wsY rmY g Wc (.ref b :: As) out rv W2 ek WX mc ms) (cw : CallW R s args own C index y bytes maxL ret wsY rmY mc ms n) (hK : va_K (gD g) vwCl (tyL g) s) (hZ : ST g A s s.heap) (hT : STR g s) (hA : ∀ q, s.heap.size ≤ q → A q) (hP : va_P (gD g) vwCl Ws H) (hD : va_D A Ws) (hS : va_S A s.heap H locs) (hsz : ls.size = nL) (hrec : ∃ cellB : Cell, H[b]? = some cellB ∧ cellB.vm.isStatics = false ∧ s.vm.findClass C = some cellB.cls) (isC isR : List Nat) (hC : isC.map (fun i => Ws[i]?) = Wc.map some) (hRr : isR.map (fun i => Ws[i]?) = Wr.map some) (hnC : va_nd isC = true) (hnR : va_nd isR = true) (hdis : (isR.all fun i => !isC.contains i) = true) (hn : As.length = n) {st0 : List Value} (hst : st0 = As.reverse ++ .ref b :: rest) (hrm : (rest.map fun v => v.category).sum ≤ 8) (hroom : cells + mc ≤ R.cells ∧ slots + ms ≤ R.slots) (hdg : decode cc pc = .ok (.invokevirtual index, 3))
    (kx : ∀ (x : ET) (ce : Cell) (q9 : Addr) (H1 : Heap) (locs1 : List Loc), out = .inl x → va_P (gD g) vwCl (Wr ++ WX x) H1 → va_D A (Wr ++ WX x) → va_S A s.heap H1 locs1 → H1[q9]? = some ce → ce.vm = .none → s.vm.findClass (exn (ek x)) = some ce.cls → vx_W p l e R s m args below meth c H1 locs1 (cells + mc) (slots + ms) Q (F0 m pc ls rest) q9)
    (kk : ∀ (x : RT) (H1 : Heap) (locs1 : List Loc), out = .inr x → va_P (gD g) vwCl (Wr ++ W2 x) H1 → va_D A (Wr ++ W2 x) → va_S A s.heap H1 locs1 → W p l e R s m args below meth c H1 locs1 (cells + mc) (slots + ms) Q (F0 m (pc + 3) ls (.float (rv x) :: rest))) : W p l e R s m args below meth c H locs cells slots Q (F0 m pc ls st0) := by
  refine vx_callf (vx_runV S (hM H.size) cw ⟨PreM.blind g Wc _ _, hrec, fun U hU hW => PreM.of hP hD hK hZ hT hS hA isC hC hnC hU hW⟩ rfl hn hsz hst (lv_room hrm) hdg hroom) hS (fun q _ h => va_free hD hS hA isC hC q h) (va_free hD hS hA isC hC) (fun q _ h => va_free hD hS hA isC hC q h) (fun E ce q9 u t H1 locs1 ht hvm hp hB hz1 hk1 hS1 hce hcv hcl => ?_) (fun r u t H1 locs1 ht hvm hw hB hz1 hk1 hS1 => ?_)
  · obtain ⟨hE, hB⟩ := hB
    obtain ⟨hP1, hD1⟩ := cl_join hP hD hS hA isC isR hC hRr hnR hdis hk1 ht hB
    exact kx u ce q9 H1 locs1 hp hP1 hD1 hS1 hce hcv (hE ▸ hcl)
  · obtain ⟨hP1, hD1⟩ := cl_join hP hD hS hA isC isR hC hRr hnR hdis hk1 ht hB
    obtain ⟨ho, rfl⟩ := hw
    exact kk u H1 locs1 ho hP1 hD1 hS1

theorem cxv_v  (S : CallFix p m c cc nL s args Ts own) (hM : MxV l y wsY rmY g Wc (.ref b :: As) out W2 ek WX mc ms) (cw : CallW R s args own C index y bytes maxL ret wsY rmY mc ms n) (hK : va_K (gD g) vwCl (tyL g) s) (hZ : ST g A s s.heap) (hT : STR g s) (hA : ∀ q, s.heap.size ≤ q → A q) (hP : va_P (gD g) vwCl Ws H) (hD : va_D A Ws) (hS : va_S A s.heap H locs) (hsz : ls.size = nL) (hrec : ∃ cellB : Cell, H[b]? = some cellB ∧ cellB.vm.isStatics = false ∧ s.vm.findClass C = some cellB.cls) (isC isR : List Nat) (hC : isC.map (fun i => Ws[i]?) = Wc.map some) (hRr : isR.map (fun i => Ws[i]?) = Wr.map some) (hnC : va_nd isC = true) (hnR : va_nd isR = true) (hdis : (isR.all fun i => !isC.contains i) = true) (hn : As.length = n) {st0 : List Value} (hst : st0 = As.reverse ++ .ref b :: rest) (hrm : (rest.map fun v => v.category).sum ≤ 8) (hroom : cells + mc ≤ R.cells ∧ slots + ms ≤ R.slots) (hdg : decode cc pc = .ok (.invokevirtual index, 3))
    (kx : ∀ (x : ET) (ce : Cell) (q9 : Addr) (H1 : Heap) (locs1 : List Loc), out = .inl x → va_P (gD g) vwCl (Wr ++ WX x) H1 → va_D A (Wr ++ WX x) → va_S A s.heap H1 locs1 → H1[q9]? = some ce → ce.vm = .none → s.vm.findClass (exn (ek x)) = some ce.cls → vx_W p l e R s m args below meth c H1 locs1 (cells + mc) (slots + ms) Q (F0 m pc ls rest) q9)
    (kk : ∀ (x : RT) (H1 : Heap) (locs1 : List Loc), out = .inr x → va_P (gD g) vwCl (Wr ++ W2 x) H1 → va_D A (Wr ++ W2 x) → va_S A s.heap H1 locs1 → W p l e R s m args below meth c H1 locs1 (cells + mc) (slots + ms) Q (F0 m (pc + 3) ls (rest))) : W p l e R s m args below meth c H locs cells slots Q (F0 m pc ls st0) := by
  refine vx_callv (vx_runV S (hM H.size) cw ⟨PreM.blind g Wc _ _, hrec, fun U hU hW => PreM.of hP hD hK hZ hT hS hA isC hC hnC hU hW⟩ rfl hn hsz hst (lv_room hrm) hdg hroom) hS (fun q _ h => va_free hD hS hA isC hC q h) (va_free hD hS hA isC hC) (fun q _ h => va_free hD hS hA isC hC q h) (fun E ce q9 u t H1 locs1 ht hvm hp hB hz1 hk1 hS1 hce hcv hcl => ?_) (fun u t H1 locs1 ht hvm hw hB hz1 hk1 hS1 => ?_)
  · obtain ⟨hE, hB⟩ := hB
    obtain ⟨hP1, hD1⟩ := cl_join hP hD hS hA isC isR hC hRr hnR hdis hk1 ht hB
    exact kx u ce q9 H1 locs1 hp hP1 hD1 hS1 hce hcv (hE ▸ hcl)
  · obtain ⟨hP1, hD1⟩ := cl_join hP hD hS hA isC isR hC hRr hnR hdis hk1 ht hB
    exact kk u H1 locs1 hw hP1 hD1 hS1

theorem cxs_v  (S : CallFix p m c cc nL s args Ts own) (hM : MxV l y wsY rmY g Wc (As) out W2 ek WX mc ms) (cw : CallB R s args own index y bytes maxL ret wsY rmY mc ms n ∧ (Cond.static y).before args s = true) (hK : va_K (gD g) vwCl (tyL g) s) (hZ : ST g A s s.heap) (hT : STR g s) (hA : ∀ q, s.heap.size ≤ q → A q) (hP : va_P (gD g) vwCl Ws H) (hD : va_D A Ws) (hS : va_S A s.heap H locs) (hsz : ls.size = nL) (isC isR : List Nat) (hC : isC.map (fun i => Ws[i]?) = Wc.map some) (hRr : isR.map (fun i => Ws[i]?) = Wr.map some) (hnC : va_nd isC = true) (hnR : va_nd isR = true) (hdis : (isR.all fun i => !isC.contains i) = true) (hn : As.length = n) {st0 : List Value} (hst : st0 = As.reverse ++ rest) (hrm : (rest.map fun v => v.category).sum ≤ 8) (hroom : cells + mc ≤ R.cells ∧ slots + ms ≤ R.slots) (hdg : decode cc pc = .ok (.invokestatic index, 3))
    (kx : ∀ (x : ET) (ce : Cell) (q9 : Addr) (H1 : Heap) (locs1 : List Loc), out = .inl x → va_P (gD g) vwCl (Wr ++ WX x) H1 → va_D A (Wr ++ WX x) → va_S A s.heap H1 locs1 → H1[q9]? = some ce → ce.vm = .none → s.vm.findClass (exn (ek x)) = some ce.cls → vx_W p l e R s m args below meth c H1 locs1 (cells + mc) (slots + ms) Q (F0 m pc ls rest) q9)
    (kk : ∀ (x : RT) (H1 : Heap) (locs1 : List Loc), out = .inr x → va_P (gD g) vwCl (Wr ++ W2 x) H1 → va_D A (Wr ++ W2 x) → va_S A s.heap H1 locs1 → W p l e R s m args below meth c H1 locs1 (cells + mc) (slots + ms) Q (F0 m (pc + 3) ls (rest))) : W p l e R s m args below meth c H locs cells slots Q (F0 m pc ls st0) := by
  refine vx_callv (vx_runS S (hM H.size) cw ⟨PreM.blind g Wc _ _, fun U hU hW => PreM.of hP hD hK hZ hT hS hA isC hC hnC hU hW⟩ rfl hn hsz hst (lv_room hrm) hdg hroom) hS (fun q _ h => va_free hD hS hA isC hC q h) (va_free hD hS hA isC hC) (fun q _ h => va_free hD hS hA isC hC q h) (fun E ce q9 u t H1 locs1 ht hvm hp hB hz1 hk1 hS1 hce hcv hcl => ?_) (fun u t H1 locs1 ht hvm hw hB hz1 hk1 hS1 => ?_)
  · obtain ⟨hE, hB⟩ := hB
    obtain ⟨hP1, hD1⟩ := cl_join hP hD hS hA isC isR hC hRr hnR hdis hk1 ht hB
    exact kx u ce q9 H1 locs1 hp hP1 hD1 hS1 hce hcv (hE ▸ hcl)
  · obtain ⟨hP1, hD1⟩ := cl_join hP hD hS hA isC isR hC hRr hnR hdis hk1 ht hB
    exact kk u H1 locs1 hw hP1 hD1 hS1

end
/-! the place of a constant -/
def rm_ord : Room := { frames := 0, cells := 0, slots := 0, locals := 0 }
set_option maxHeartbeats 4000000 in
set_option maxRecDepth 100000 in
theorem c_ordF (l : Launch) (g : GG) (k : Nat) (hk : k < 6) : MtI l yJx29ce0_ordinal_8abf5 wsJx29ce0_ordinal_8abf5 rm_ord g [] [.ref (gS g 0 k)] ([(0 : Int32), 1, 2, 3, 4, 5].getD k 0) [] 0 0 := by
  refine fun sz => mt_of (cc := cJx29ce0_ordinal_8abf5) (maxL := 1) (ret := (some .int)) (own := RJx29ce0) (Qc := fun A => va_Qi (fun r (_ : Unit) => r = [(0 : Int32), 1, 2, 3, 4, 5].getD k 0) (fun _ t => PosM g A [] t) A) (by decide +kernel) rfl rfl (Nat.le_of_ble_eq_true rfl) ?_ sz
  intro p e s mi below meth c A ls hB hnm hrt hlk hP hD hl
  obtain ⟨hx, hb, hml, hown, hts, hK, hZ, hT, hA, -⟩ := hB
  have hS : va_S A s.heap s.heap [] := va_S.rf
  have hl : lv_has ls 1 [(0, .ref (gS g 0 k))] := hl
  have k0 := hts (.fieldLink RJx29ce0 7 "java/lang/Enum" "ordinal" "I") (by decide +kernel)
  refine lv_aload_n hx hb dJx29ce0_ordinal_8abf5_0 rfl (lv_at hl 0 rfl) ?_
  refine va_getE (q := ("java/lang/Enum", "ordinal", "I", [0, 1, 2, 3, 4, 5])) hx hb hZ.1 (show k < stF.length from hk) hS hown List.mem_cons_self k0 (fun _ h9 => h9) dJx29ce0_ordinal_8abf5_1 ?_
  exact rt_i hx hb hrt hlk rfl hK hP hD hS (Nat.le_of_ble_eq_true rfl) (Nat.le_of_ble_eq_true rfl) dJx29ce0_ordinal_8abf5_4
set_option maxHeartbeats 4000000 in
set_option maxRecDepth 100000 in
theorem c_ordV (l : Launch) (g : GG) (k : Nat) (hk : k < 8) : MtI l yJx29ce0_ordinal_8abf5 wsJx29ce0_ordinal_8abf5 rm_ord g [] [.ref (gS g 1 k)] ([(0 : Int32), 1, 2, 3, 4, 5, 6, 7].getD k 0) [] 0 0 := by
  refine fun sz => mt_of (cc := cJx29ce0_ordinal_8abf5) (maxL := 1) (ret := (some .int)) (own := RJx29ce0) (Qc := fun A => va_Qi (fun r (_ : Unit) => r = [(0 : Int32), 1, 2, 3, 4, 5, 6, 7].getD k 0) (fun _ t => PosM g A [] t) A) (by decide +kernel) rfl rfl (Nat.le_of_ble_eq_true rfl) ?_ sz
  intro p e s mi below meth c A ls hB hnm hrt hlk hP hD hl
  obtain ⟨hx, hb, hml, hown, hts, hK, hZ, hT, hA, -⟩ := hB
  have hS : va_S A s.heap s.heap [] := va_S.rf
  have hl : lv_has ls 1 [(0, .ref (gS g 1 k))] := hl
  have k0 := hts (.fieldLink RJx29ce0 7 "java/lang/Enum" "ordinal" "I") (by decide +kernel)
  refine lv_aload_n hx hb dJx29ce0_ordinal_8abf5_0 rfl (lv_at hl 0 rfl) ?_
  refine va_getE (q := ("java/lang/Enum", "ordinal", "I", [0, 1, 2, 3, 4, 5, 6, 7])) hx hb hZ.2.1 (show k < stV.length from hk) hS hown List.mem_cons_self k0 (fun _ h9 => h9) dJx29ce0_ordinal_8abf5_1 ?_
  exact rt_i hx hb hrt hlk rfl hK hP hD hS (Nat.le_of_ble_eq_true rfl) (Nat.le_of_ble_eq_true rfl) dJx29ce0_ordinal_8abf5_4
section
variable {p : Program} {l : Launch} {e : Env} {R : Room} {s : State} {m : MethodId} {args : Array Value} {below : List Frame} {meth : Method} {c : Code} {H : Heap} {locs : List Loc} {cells slots : Nat} {Q : State → Prop}
variable {g : GG} {Ws : va_W} {A : Nat → Prop} {cc bytes : ByteArray} {pc : Nat} {ls : Array Slot} {mc ms maxL nL n index : Nat} {own owner C : String} {x y : MethodName} {ret : Option FieldType} {wsY Ts : List Cond} {rmY : Room} {b : Nat} {As rest : List Value} {rv : Int32}
theorem cun_i (S : CallFix p m c cc nL s args Ts own) (hM : MtI l y wsY rmY g [] (.ref b :: As) rv [] mc ms) (cw : va_CU R s args own C owner index x y bytes maxL ret wsY rmY mc ms n) (hK : va_K (gD g) vwCl (tyL g) s) (hZ : ST g A s s.heap) (hT : STR g s) (hA : ∀ q, s.heap.size ≤ q → A q) (hP : va_P (gD g) vwCl Ws H) (hD : va_D A Ws) (hS : va_S A s.heap H locs) (hsz : ls.size = nL) (hrec : ∃ cellB : Cell, H[b]? = some cellB ∧ cellB.vm.isStatics = false ∧ s.vm.findClass C = some cellB.cls)
    (hn : As.length = n) {st0 : List Value} (hst : st0 = As.reverse ++ .ref b :: rest) (hrm : (rest.map fun v => v.category).sum ≤ 8) (hroom : cells + mc ≤ R.cells ∧ slots + ms ≤ R.slots) (hdg : decode cc pc = .ok (.invokevirtual index, 3))
    (kk : ∀ (H1 : Heap) (locs1 : List Loc), va_P (gD g) vwCl Ws H1 → va_D A Ws → va_S A s.heap H1 locs1 → W p l e R s m args below meth c H1 locs1 (cells + mc) (slots + ms) Q (F0 m (pc + 3) ls (.int rv :: rest))) : W p l e R s m args below meth c H locs cells slots Q (F0 m pc ls st0) := by
  refine va_calli (va_runU S (hM H.size) cw ⟨PreM.blind g [] _ _, hrec, fun U hU hW => PreM.of hP hD hK hZ hT hS hA [] rfl rfl hU hW⟩ rfl hn hsz hst (lv_room hrm) hdg hroom) hS (fun q _ h => va_free hD hS hA [] rfl q h) (va_free hD hS hA [] rfl) (fun r u t H1 locs1 ht hvm hw hB hz1 hk1 hS1 => ?_)
  obtain ⟨hP1, hD1⟩ := cl_join (Wc := []) (Wr := Ws) hP hD hS hA [] (List.range Ws.length) rfl (cl_all Ws) (cl_nd _) (List.all_eq_true.mpr (fun _ _ => rfl)) hk1 ht hB
  subst hw
  rw [List.append_nil] at hP1 hD1
  exact kk H1 locs1 hP1 hD1 hS1
end
/-! refuse: each fault but the first stands for an exception -/
def f_X10_refuse (a0 : Nat) : Option (Sum Nat Unit) := if a0 < 6 then (if a0 = 0 then some (.inr ()) else some (.inl (a0 - 1))) else none
def rm_X10_refuse : Room := { frames := 8, cells := 1, slots := 6, locals := 120 }
theorem hd_X10_refuse : yX10_refuse.cls ≠ "java/lang/invoke/MethodHandle" ∧ yX10_refuse.cls ≠ "java/lang/invoke/VarHandle" ∧ (parseMethodDescriptor yX10_refuse.desc).map (fun d => d.parameters.length) = some 1 := by decide +kernel
/-- the words of a throw that are no good ones -/
def oxB (X : String) : List Cond := [.declares (Bundle.initS "java/lang/RuntimeException"), .declares (Bundle.initS "java/lang/Exception"), .declares (Bundle.initS Bundle.tN), .castable X X]
theorem ox_B {g : GG} {args : Array Value} {s : State} (hT : STR g s) (X : String) (hX : X ∈ exN) : ∀ w ∈ oxB X, w.before args s = true :=
  vx_c (va_Nw.use rfl (hT.2.1 _ (by simp [stDc]))) (vx_c (va_Nw.use rfl (hT.2.1 _ (by simp [stDc]))) (vx_c (va_Nw.use rfl (hT.2.1 _ (by simp [stDc]))) (vx_c (va_Nw.use rfl (hT.2.2.1 X hX)) vx_n)))
