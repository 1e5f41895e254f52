/-! the bundle of what stands still: the classes' numbers, the array classes, the addresses of constants -/
abbrev GG : Type := va_G × (Nat → ClassId) × (Nat → Nat → Nat)
def gD (g : GG) : va_G := g.1
def gC (g : GG) (k : Nat) : ClassId := g.2.1 k
def gS (g : GG) (k : Nat) : Nat → Nat := g.2.2 k
def tyL (g : GG) : List (ClassId × FieldType) := [(gC g 0, .int), (gC g 1, .boolean), (gC g 2, .char), (gC g 3, .int), (gC g 4, .boolean), (gC g 5, .object "TerraceQuarry$Quarry"), (gC g 6, .object "java/lang/Object")]
def stF : List String := ["NONE", "INDEX", "ARGUMENT", "MISSING", "STATE", "UNSUPPORTED"]
def stV : List String := ["STONE", "CUT", "FILL", "LEDGE", "LIMIT", "WINCH", "LIFT", "CRUSH"]
def stO6 : List (String × String × String × List Int32) := [("java/lang/Enum", "ordinal", "I", [0, 1, 2, 3, 4, 5])]
def stO8 : List (String × String × String × List Int32) := [("java/lang/Enum", "ordinal", "I", [0, 1, 2, 3, 4, 5, 6, 7])]
/-- the String constants: whose, where, what -/
def stT : List (String × Nat × String) := [("TerraceQuarry$Verb", 73, "stone ###"), ("TerraceQuarry$Verb", 79, "cut ##"), ("TerraceQuarry$Verb", 82, "fill ##"), ("TerraceQuarry$Verb", 85, "ledge ##"), ("TerraceQuarry$Verb", 88, "limit #"), ("TerraceQuarry$Verb", 91, "winch ## # #"), ("TerraceQuarry$Verb", 94, "lift # ##"), ("TerraceQuarry$Verb", 97, "crush # #"), ("TerraceQuarry", 194, "there is no footpath"), ("TerraceQuarry", 207, "there is no such winch"), ("TerraceQuarry", 216, "no winch could lift a block from the cell"), ("TerraceQuarry", 223, "the stone is out of range"), ("TerraceQuarry", 252, "there were no cuts"), ("TerraceQuarry", 286, "the text is not a program"), ("TerraceQuarry", 296, "a command fails"), ("TerraceQuarry", 302, "no error position was stored"), ("TerraceQuarry", 304, "no failed command was stored"), ("TerraceQuarry", 309, "there is no such row"), ("TerraceQuarry", 317, "the output line has no such index"), ("TerraceQuarry", 331, "no state was saved"), ("TerraceQuarry", 345, "there is no such cell or winch"), ("TerraceQuarry", 347, "a value is out of range"), ("TerraceQuarry", 349, "the cell has no loose block"), ("TerraceQuarry", 351, "the quarry does not allow it now"), ("TerraceQuarry", 353, "the steps or the winch do not allow it")]
def stLen : List Nat := stT.map fun q => q.2.2.length
def stByt : List (List Int32) := stT.map fun q => q.2.2.toList.map fun c => Int32.ofNat c.toNat
def stQ : List (String × String × String) := [(Bundle.tN, "UNASSIGNED_STACK", Bundle.steD), (Bundle.tN, "SUPPRESSED_SENTINEL", Bundle.listD)]
/-- what stands still in the heap: constants, tables, texts -/
def ST (g : GG) (A : Nat → Prop) (U : State) (H : Heap) : Prop :=
  va_En "TerraceQuarry$Fault" "LTerraceQuarry$Fault;" stF stO6 (gS g 0) A U H ∧
  va_En "TerraceQuarry$Verb" "LTerraceQuarry$Verb;" stV stO8 (gS g 1) A U H ∧
  va_Ef 8 "TerraceQuarry$Verb" "form" "Ljava/lang/String;" (fun k => .ref (gS g 2 k)) (gS g 1) A U H ∧
  vk_S 25 stLen stByt (gS g 2) (gS g 3) A U H ∧
  (va_Z "TerraceQuarry$Verb" "ALL" "[LTerraceQuarry$Verb;" (.ref (gS g 4 0)) A U H ∧ va_T (.object "TerraceQuarry$Verb") (gS g 4 0) 8 (fun k => .ref (gS g 1 k)) A U H) ∧
  (va_Z "TerraceQuarry$1" "$SwitchMap$TerraceQuarry$Fault" "[I" (.ref (gS g 4 1)) A U H ∧ va_T .int (gS g 4 1) 6 (fun k => .int (nI k)) A U H) ∧
  (va_Z "TerraceQuarry$1" "$SwitchMap$TerraceQuarry$Verb" "[I" (.ref (gS g 4 2)) A U H ∧ va_T .int (gS g 4 2) 8 (fun k => .int (if k < 7 then nI (k + 1) else 0)) A U H) ∧
  (va_Z "java/util/ArrayList" "DEFAULTCAPACITY_EMPTY_ELEMENTDATA" "[Ljava/lang/Object;" (.ref (gS g 4 3)) A U H ∧ va_T (.object "java/lang/Object") (gS g 4 3) 0 (fun _ => .null) A U H ∧ va_T .int (gS g 5 0) (gS g 5 1) (fun k => .int (nI (gS g 6 k))) A U H) ∧
  (va_Z "java/lang/String" "COMPACT_STRINGS" "Z" (.int 1) A U H ∧ va_Zq "jdk/internal/util/Preconditions" "SIOOBE_FORMATTER" "Ljava/util/function/BiFunction;" A U H) ∧
  (∀ q ∈ stQ, vx_Zq q.1 q.2.1 q.2.2 A U H)
/-- the texts' own rows of the tables: of the machine alone -/
def exN : List String := ["java/lang/IndexOutOfBoundsException", "java/lang/IllegalArgumentException", "java/util/NoSuchElementException", "java/lang/IllegalStateException", "java/lang/UnsupportedOperationException", "java/lang/ArithmeticException"]
def stDc : List MethodName := [Bundle.initS "java/lang/RuntimeException", Bundle.initS "java/lang/Exception", Bundle.initS Bundle.tN]
def STR (g : GG) (U : State) : Prop := (∀ (i : Nat) (q : String × Nat × String), stT[i]? = some q → vk_R q.1 q.2.1 q.2.2 (gS g 2 i) U) ∧
  (∀ y ∈ stDc, va_Nw (.declares y) U) ∧ (∀ X ∈ exN, va_Nw (.castable X X) U) ∧ (∀ X ∈ exN, ∀ Y ∈ exN, X ≠ Y ∧ Y ≠ "java/lang/ArithmeticException" → va_Nc X Y U) ∧
  (va_Nw (.castable "TerraceQuarry$Command" "java/lang/Object") U ∧ va_AO "TerraceQuarry$Quarry" U ∧ va_AO "java/lang/Object" U)
theorem STR.same {g : GG} {u U : State} (hv : U.vm = u.vm) (h : STR g u) : STR g U := by
  obtain ⟨h1, h2, h3, h4, h5, h6, h7⟩ := h
  exact ⟨fun i q hq => vk_R.same hv (h1 i q hq), fun y hy => va_Nw.same rfl hv.symm (h2 y hy), fun X hX => va_Nw.same rfl hv.symm (h3 X hX), fun X hX Y hY hne => va_Nc.moved (by rw [hv]; exact Vm.Alike.refl u.vm) (h4 X hX Y hY hne), va_Nw.same rfl hv.symm h5, va_AO.moved (by rw [hv]; exact Vm.Alike.refl u.vm) h6, va_AO.moved (by rw [hv]; exact Vm.Alike.refl u.vm) h7⟩
theorem STR.warm {g : GG} {s U : State} (hW : s.WarmedH U.vm) (h : STR g s) : STR g U := by
  obtain ⟨h1, h2, h3, h4, h5, h6, h7⟩ := h
  exact ⟨fun i q hq => vk_R.warm hW (h1 i q hq), fun y hy => va_Nw.warmD hW (h2 y hy), fun X hX => va_Nw.warmC hW (h3 X hX), fun X hX Y hY hne => va_Nc.moved hW.alike (h4 X hX Y hY hne), va_Nw.warmC hW h5, va_AO.moved hW.alike h6, va_AO.moved hW.alike h7⟩
theorem ST.moved {g : GG} {A : Nat → Prop} {u U : State} {H : Heap} (hvm : u.vm.Alike U.vm) (h : ST g A u H) : ST g A U H := by
  obtain ⟨h1, h2, h3, h4, h5, h6, h7, h8, h9, h10⟩ := h
  exact ⟨h1.moved hvm, h2.moved hvm, h3.moved hvm, h4.moved hvm, ⟨h5.1.moved hvm, h5.2.moved hvm⟩, ⟨h6.1.moved hvm, h6.2.moved hvm⟩, ⟨h7.1.moved hvm, h7.2.moved hvm⟩, ⟨h8.1.moved hvm, h8.2.1.moved hvm, h8.2.2.moved hvm⟩, ⟨h9.1.moved hvm, h9.2.moved hvm⟩, fun q hq => (h10 q hq).moved hvm⟩
theorem ST.kept {g : GG} {A : Nat → Prop} {U : State} {H H1 : Heap} (h : ST g A U H) (hq : ∀ a : Nat, a < H.size → ¬ A a → H1[a]? = H[a]?) : ST g A U H1 := by
  obtain ⟨h1, h2, h3, h4, h5, h6, h7, h8, h9, h10⟩ := h
  exact ⟨h1.kept hq, h2.kept hq, h3.kept hq, h4.kept hq, ⟨h5.1.kept hq, h5.2.kept hq⟩, ⟨h6.1.kept hq, h6.2.kept hq⟩, ⟨h7.1.kept hq, h7.2.kept hq⟩, ⟨h8.1.kept hq, h8.2.1.kept hq, h8.2.2.kept hq⟩, ⟨h9.1.kept hq, h9.2.kept hq⟩, fun q h => (h10 q h).kept hq⟩
theorem ST.narrow {g : GG} {A B : Nat → Prop} {U : State} {H : Heap} (h : ST g A U H) (hAB : ∀ q, B q → A q) : ST g B U H := by
  obtain ⟨h1, h2, h3, h4, h5, h6, h7, h8, h9, h10⟩ := h
  exact ⟨h1.narrow hAB, h2.narrow hAB, h3.narrow hAB, h4.narrow hAB, ⟨h5.1.narrow hAB, h5.2.narrow hAB⟩, ⟨h6.1.narrow hAB, h6.2.narrow hAB⟩, ⟨h7.1.narrow hAB, h7.2.narrow hAB⟩, ⟨h8.1.narrow hAB, h8.2.1.narrow hAB, h8.2.2.narrow hAB⟩, ⟨h9.1.narrow hAB, h9.2.narrow hAB⟩, fun q h => (h10 q h).narrow hAB⟩
/-- a method's start: its world, and what stands still -/
def PreM (g : GG) (W : va_W) (av : List Value) (sz : Nat) : Array Value → State → Prop := va_Pc av (fun U => U.heap.size = sz ∧ va_P (gD g) vwCl W U.heap ∧ va_K (gD g) vwCl (tyL g) U ∧ va_D (fun _ => True) W ∧ ST g (va_A W sz) U U.heap ∧ STR g U)
/-- its end -/
def PosM (g : GG) (A : Nat → Prop) (W : va_W) (t : State) : Prop := va_P (gD g) vwCl W t.heap ∧ va_K (gD g) vwCl (tyL g) t ∧ va_D A W
theorem PreM.blind (g : GG) (W : va_W) (av : List Value) (sz : Nat) : FrameBlind (PreM g W av sz) := by
  intro a U f mk h
  obtain ⟨h0, h1, h2, h3, h4, h5, h6⟩ := h
  exact ⟨h0, h1, h2, va_K.moved (u := U) (U := U.calling f mk a) (Vm.Alike.refl U.vm) h3, h4, ST.moved (u := U) (U := U.calling f mk a) (Vm.Alike.refl U.vm) h5, STR.same (u := U) (U := U.calling f mk a) rfl h6⟩
theorem PreM.of {g : GG} {Ws Wc : va_W} {av : List Value} {A : Nat → Prop} {s U : State} {H : Heap} {locs : List Loc} (hP : va_P (gD g) vwCl Ws H) (hD : va_D A Ws) (hK : va_K (gD g) vwCl (tyL g) s) (hZ : ST g A s s.heap) (hR : STR g s) (hS : va_S A s.heap H locs) (hA : ∀ q, s.heap.size ≤ q → A q)
    (isC : List Nat) (hC : isC.map (fun i => Ws[i]?) = Wc.map some) (hn : va_nd isC = true) (hU : U.heap = H) (hW : s.WarmedH U.vm) : PreM g Wc av H.size av.toArray U := by
  refine ⟨rfl, by rw [hU], ?_, va_K.moved hW.alike hK, ?_, ?_, STR.warm hW hR⟩
  · rw [hU]
    intro k q hk
    have h1 : (isC.map (fun i => Ws[i]?))[k]? = some (some q) := by rw [hC, List.getElem?_map, hk]; rfl
    rw [List.getElem?_map] at h1
    cases hi : isC[k]? with
    | none => rw [hi] at h1; cases h1
    | some i => rw [hi] at h1; exact hP i q (Option.some.inj h1)
  · exact (hD.sub isC hn hC).weaken (fun _ _ _ _ => trivial)
  · rw [hU]
    exact ((hZ.kept hS.2.1).moved hW.alike).narrow (va_free hD hS hA isC hC)
def MtI (l : Launch) (y : MethodName) (ws : List Cond) (rm : Room) (g : GG) (W : va_W) (av : List Value) (rv : Int32) (W' : va_W) (mc ms : Nat) : Prop := ∀ sz : Nat, Met l y ws rm (PreM g W av sz) (va_Qi (fun r (_ : Unit) => r = rv) (fun _ t => PosM g (va_A W sz) W' t) (va_A W sz)) mc ms (va_A W sz)
def MtL (l : Launch) (y : MethodName) (ws : List Cond) (rm : Room) (g : GG) (W : va_W) (av : List Value) (rv : Int64) (W' : va_W) (mc ms : Nat) : Prop := ∀ sz : Nat, Met l y ws rm (PreM g W av sz) (va_Ql (fun r (_ : Unit) => r = rv) (fun _ t => PosM g (va_A W sz) W' t) (va_A W sz)) mc ms (va_A W sz)
def MtD (l : Launch) (y : MethodName) (ws : List Cond) (rm : Room) (g : GG) (W : va_W) (av : List Value) (rv : UInt64) (W' : va_W) (mc ms : Nat) : Prop := ∀ sz : Nat, Met l y ws rm (PreM g W av sz) (va_Qd (fun r (_ : Unit) => r = rv) (fun _ t => PosM g (va_A W sz) W' t) (va_A W sz)) mc ms (va_A W sz)
def MtF (l : Launch) (y : MethodName) (ws : List Cond) (rm : Room) (g : GG) (W : va_W) (av : List Value) (rv : UInt32) (W' : va_W) (mc ms : Nat) : Prop := ∀ sz : Nat, Met l y ws rm (PreM g W av sz) (va_Qf (fun r (_ : Unit) => r = rv) (fun _ t => PosM g (va_A W sz) W' t) (va_A W sz)) mc ms (va_A W sz)
def MtV (l : Launch) (y : MethodName) (ws : List Cond) (rm : Room) (g : GG) (W : va_W) (av : List Value) (W' : va_W) (mc ms : Nat) : Prop := ∀ sz : Nat, Met l y ws rm (PreM g W av sz) (va_Qv (fun (_ : Unit) => True) (fun _ t => PosM g (va_A W sz) W' t) (va_A W sz)) mc ms (va_A W sz)
def MtR (l : Launch) (y : MethodName) (ws : List Cond) (rm : Room) (g : GG) (W : va_W) (av : List Value) (rv : Option Nat) (W' : va_W) (mc ms : Nat) : Prop := ∀ sz : Nat, Met l y ws rm (PreM g W av sz) (va_Qq (fun r (_ : Unit) => r = rv) (fun _ t => PosM g (va_A W sz) W' t) (va_A W sz)) mc ms (va_A W sz)
/-- what a method's body has at hand -/
def Bod (p : Program) (s : State) (m : MethodId) (args : Array Value) (meth : Method) (c : Code) (cc : ByteArray) (maxL : Nat) (own : String) (ws : List Cond) (g : GG) (A : Nat → Prop) : Prop :=
  p.tables.exec = Jvm.exec ∧ c.code = cc ∧ c.maxLocals = maxL ∧ s.vm.findClass own = some m.cls ∧ (∀ w ∈ ws, w.before args s = true) ∧ va_K (gD g) vwCl (tyL g) s ∧ ST g A s s.heap ∧ STR g s ∧ (∀ q, s.heap.size ≤ q → A q) ∧ meth.name = meth.name
section
variable {l : Launch} {y : MethodName} {ws ws' : List Cond} {rm : Room} {g : GG} {W0 W1 : va_W} {av : List Value} {mc ms maxL : Nat} {cc : ByteArray} {own : String}
/-- the head of a method, whatever it answers -/
theorem mt_of {ret : Option FieldType} {Qc : (Nat → Prop) → Array Value → State → Outcome → State → Prop} (hy : plainName y.cls = true) (hcl : y.cls = own) (hw : ws = Cond.code y cc maxL ret :: ws') (hloc : (lg_sl av).length ≤ maxL)
    (body : ∀ (p : Program) (e : Env) (s : State) (m : MethodId) (below : List Frame) (meth : Method) (c : Code) (A : Nat → Prop) (ls : Array Slot), Bod p s m av.toArray meth c cc maxL own ws g A → meth.name = y.name → meth.sig.returnType = ret → meth.locks = false → va_P (gD g) vwCl W0 s.heap → va_D A W0 → lv_has ls maxL (lv_args 0 av) →
      W p l e rm s m av.toArray below meth c s.heap [] 0 0 (MQ below (Qc A) av.toArray s mc ms A) (F0 m 0 ls [])) (sz : Nat) : Met l y ws rm (PreM g W0 av sz) (Qc (va_A W0 sz)) mc ms (va_A W0 sz) := by
  refine Met.ofW (cc := cc) (maxL := maxL) (ret := ret) hy hw ?_
  intro p e s m args below meth c s₁ B hml hv
  obtain ⟨rfl, hsz, hP, hK, hD0, hZ, hR⟩ := hv
  have hts := atoms_spec (ws := ws) B.pre
  have hown : s.vm.findClass own = some m.cls := hcl ▸ findClass_of_methodNamed B.named
  have hin : meth.name = y.name := (name_of_methodNamed B.named B.method).1
  subst hsz
  have hD := hD0.self (sz := s.heap.size)
  have hA : ∀ q : Nat, s.heap.size ≤ q → va_A W0 s.heap.size q := fun q h => Or.inr h
  have hl := lv_entry av (n := maxL) hloc
  rw [lg_entry_eq]
  exact body p e s m below meth c (va_A W0 s.heap.size) _ ⟨B.exec, B.bytes, hml, hown, hts, hK, hZ, hR, hA, rfl⟩ hin B.returns B.notSynchronized hP hD hl
end
section
variable {p : Program} {l : Launch} {e : Env} {R : Room} {s : State} {m : MethodId} {args : Array Value} {below : List Frame} {meth : Method} {c : Code} {H : Heap} {locs : List Loc} {cells slots : Nat} {Q : State → Prop}
variable {g : GG} {W1 : va_W} {A : Nat → Prop} {cc : ByteArray} {pc : Nat} {ls : Array Slot} {mc ms : Nat}
theorem PosM.of {t : State} (hP : va_P (gD g) vwCl W1 H) (hD : va_D A W1) (hK : va_K (gD g) vwCl (tyL g) s) (ht : t.heap = H) (hW : s.WarmedH t.vm) : PosM g A W1 t := ⟨by rw [ht]; exact hP, va_K.moved hW.alike hK, hD⟩
theorem rt_i {rv : Int32} {ty : FieldType} (hx : p.tables.exec = Jvm.exec) (hb : c.code = cc) (hr : meth.sig.returnType = some ty) (hlk : meth.locks = false) (hn : narrow ty (.int rv) = .int rv) (hK : va_K (gD g) vwCl (tyL g) s) (hP : va_P (gD g) vwCl W1 H) (hD : va_D A W1) (hS : va_S A s.heap H locs) (hc : cells ≤ mc) (hs : slots ≤ ms) (hdg : decode cc pc = .ok (.ireturn, 1)) :
    W p l e R s m args below meth c H locs cells slots (MQ below (va_Qi (fun r (_ : Unit) => r = rv) (fun _ t => PosM g A W1 t) A) args s mc ms A) (F0 m pc ls [.int rv]) :=
  W.widen hc hs (W.zret (ty := ty) hx hb hr hn (fun t ht hW => ⟨⟨rv, (), rfl, rfl, PosM.of hP hD hK ht hW⟩, hS.F ht⟩) hS.2.2 hdg hlk)
theorem rt_l {rv : Int64} (hx : p.tables.exec = Jvm.exec) (hb : c.code = cc) (hr : meth.sig.returnType = some .long) (hlk : meth.locks = false) (hK : va_K (gD g) vwCl (tyL g) s) (hP : va_P (gD g) vwCl W1 H) (hD : va_D A W1) (hS : va_S A s.heap H locs) (hc : cells ≤ mc) (hs : slots ≤ ms) (hdg : decode cc pc = .ok (.lreturn, 1)) :
    W p l e R s m args below meth c H locs cells slots (MQ below (va_Ql (fun r (_ : Unit) => r = rv) (fun _ t => PosM g A W1 t) A) args s mc ms A) (F0 m pc ls [.long rv]) :=
  W.widen hc hs (W.lret hx hb hr (fun t ht hW => ⟨⟨rv, (), rfl, rfl, PosM.of hP hD hK ht hW⟩, hS.F ht⟩) hS.2.2 hdg hlk)
theorem rt_d {rv : UInt64} (hx : p.tables.exec = Jvm.exec) (hb : c.code = cc) (hr : meth.sig.returnType = some .double) (hlk : meth.locks = false) (hK : va_K (gD g) vwCl (tyL g) s) (hP : va_P (gD g) vwCl W1 H) (hD : va_D A W1) (hS : va_S A s.heap H locs) (hc : cells ≤ mc) (hs : slots ≤ ms) (hdg : decode cc pc = .ok (.dreturn, 1)) :
    W p l e R s m args below meth c H locs cells slots (MQ below (va_Qd (fun r (_ : Unit) => r = rv) (fun _ t => PosM g A W1 t) A) args s mc ms A) (F0 m pc ls [.double rv]) :=
  W.widen hc hs (W.dret hx hb hr (fun t ht hW => ⟨⟨rv, (), rfl, rfl, PosM.of hP hD hK ht hW⟩, hS.F ht⟩) hS.2.2 hdg hlk)
theorem rt_f {rv : UInt32} (hx : p.tables.exec = Jvm.exec) (hb : c.code = cc) (hr : meth.sig.returnType = some .float) (hlk : meth.locks = false) (hK : va_K (gD g) vwCl (tyL g) s) (hP : va_P (gD g) vwCl W1 H) (hD : va_D A W1) (hS : va_S A s.heap H locs) (hc : cells ≤ mc) (hs : slots ≤ ms) (hdg : decode cc pc = .ok (.freturn, 1)) :
    W p l e R s m args below meth c H locs cells slots (MQ below (va_Qf (fun r (_ : Unit) => r = rv) (fun _ t => PosM g A W1 t) A) args s mc ms A) (F0 m pc ls [.float rv]) :=
  W.widen hc hs (W.fret hx hb hr (fun t ht hW => ⟨⟨rv, (), rfl, rfl, PosM.of hP hD hK ht hW⟩, hS.F ht⟩) hS.2.2 hdg hlk)
theorem rt_v (hx : p.tables.exec = Jvm.exec) (hb : c.code = cc) (hr : meth.sig.returnType = none) (hlk : meth.locks = false) (hK : va_K (gD g) vwCl (tyL g) s) (hP : va_P (gD g) vwCl W1 H) (hD : va_D A W1) (hS : va_S A s.heap H locs) (hc : cells ≤ mc) (hs : slots ≤ ms) (hdg : decode cc pc = .ok (.return_, 1)) :
    W p l e R s m args below meth c H locs cells slots (MQ below (va_Qv (fun (_ : Unit) => True) (fun _ t => PosM g A W1 t) A) args s mc ms A) (F0 m pc ls []) :=
  W.widen hc hs (W.vret hx hb hr (fun t ht hW => ⟨⟨(), rfl, trivial, PosM.of hP hD hK ht hW⟩, hS.F ht⟩) hS.2.2 hdg hlk)
theorem rt_r {rv : Option Nat} {rt : FieldType} (hx : p.tables.exec = Jvm.exec) (hb : c.code = cc) (hr : meth.sig.returnType = some rt) (hrt : (∃ n, rt = .object n) ∨ ∃ t, rt = .array t) (hlk : meth.locks = false) (hK : va_K (gD g) vwCl (tyL g) s) (hP : va_P (gD g) vwCl W1 H) (hD : va_D A W1) (hS : va_S A s.heap H locs) (hc : cells ≤ mc) (hs : slots ≤ ms) (hdg : decode cc pc = .ok (.areturn, 1)) :
    W p l e R s m args below meth c H locs cells slots (MQ below (va_Qq (fun r (_ : Unit) => r = rv) (fun _ t => PosM g A W1 t) A) args s mc ms A) (F0 m pc ls [va_rf rv]) :=
  W.widen hc hs (W.aret hx hb hr hrt (va_rf_or rv) (fun t ht hW => ⟨⟨rv, (), rfl, rfl, PosM.of hP hD hK ht hW⟩, hS.F ht⟩) hS.2.2 hdg hlk)
end
