theorem fi_all {n : Nat} {P : Nat → Prop} (h : ∀ i : Fin n, P i.val) : ∀ i, i < n → P i := fun i hi => h ⟨i, hi⟩
theorem nI_bits (x : Int32) : nI x.toBitVec.toNat = x := by
  apply Int32.toBitVec_inj.mp
  show (Int32.ofNat _).toBitVec = _
  rw [Int32.toBitVec_ofNat']
  apply BitVec.eq_of_toNat_eq
  rw [BitVec.toNat_ofNat]
  exact Nat.mod_eq_of_lt x.toBitVec.isLt
/-- texts at one address are one text -/
theorem st_one {s : State} {A : Nat → Prop} {H : Heap} {a v1 v2 n1 n2 : Nat} {f1 f2 : Nat → Value} (h1 : va_OF "java/lang/String" "value" "[B" (.ref v1) a A s H) (h2 : va_OF "java/lang/String" "value" "[B" (.ref v2) a A s H) (t1 : va_T .byte v1 n1 f1 A s H) (t2 : va_T .byte v2 n2 f2 A s H) (l1 : n1 < 2 ^ 31) (l2 : n2 < 2 ^ 31) : n1 = n2 ∧ ∀ j, j < n1 → f1 j = f2 j := by
  obtain ⟨cf, k, i, f, cell, a1, -, a3, -, a5, -⟩ := h1
  obtain ⟨cf', k', i', f', cell', b1, -, b3, -, b5, -⟩ := h2
  cases a1.symm.trans b1
  cases a3.symm.trans b3
  cases a5.symm.trans b5
  obtain ⟨c1, c2, -, -, -, c6, c7, -⟩ := t1
  obtain ⟨d1, d2, -, -, -, d6, d7, -⟩ := t2
  cases c2.symm.trans d2
  have e : nI n1 = nI n2 := c6.symm.trans d6
  have e9 : n1 = n2 := by
    have := congrArg Int32.toNatClampNeg e
    rw [nI_clamp l1, nI_clamp l2] at this
    exact this
  refine ⟨e9, fun j hj => ?_⟩
  exact Option.some.inj ((c7 j hj).symm.trans (d7 j (e9 ▸ hj)))
theorem st_apart : ∀ i j : Fin 25, (stLen.getD i.val 0 = stLen.getD j.val 0 ∧ ∀ q, q < stLen.getD i.val 0 → (stByt.getD i.val []).getD q 0 = (stByt.getD j.val []).getD q 0) → i = j := by decide +kernel
theorem st_small : ∀ i : Nat, i < 25 → stLen.getD i 0 < 2 ^ 31 := fi_all (by decide +kernel)
theorem nw_map {N : Nat} {f : Nat → Cond} (h : ∀ w ∈ (List.range N).map f, w ∈ nwC) {args : Array Value} {s : State} (hn : ∀ w ∈ nwC, w.before args s = true) {i : Nat} (hi : i < N) : (f i).before args s = true := hn _ (h _ (List.mem_map.mpr ⟨i, List.mem_range.mpr hi, rfl⟩))
theorem lw_map {N : Nat} {f : Nat → Cond} (h : ∀ w ∈ (List.range N).map f, w ∈ lw_tbl) {args : Array Value} {s : State} (hn : ∀ w ∈ lw_tbl, w.before args s = true) {i : Nat} (hi : i < N) : (f i).before args s = true := hn _ (h _ (List.mem_map.mpr ⟨i, List.mem_range.mpr hi, rfl⟩))
theorem nw_pr {ps : List (Nat × Nat)} {f : Nat × Nat → Cond} (h : ∀ w ∈ ps.map f, w ∈ nwC) {args : Array Value} {s : State} (hn : ∀ w ∈ nwC, w.before args s = true) {i j : Nat} (hi : (i, j) ∈ ps) : (f (i, j)).before args s = true := hn _ (h _ (List.mem_map.mpr ⟨(i, j), hi, rfl⟩))
/-- two constants of one kind with two numbers are two -/
theorem en_ne {args : Array Value} {s : State} {t u : Term} {E o n d : String} {a b : Int32} (ht : (Cond.exactly t E).before args s = true) (hu : (Cond.exactly u E).before args s = true) (ha : (Cond.eq (.field t o n d) (.int a)).before args s = true) (hb : (Cond.eq (.field u o n d) (.int b)).before args s = true) (hab : a ≠ b) : (Cond.not (.eq t u)).before args s = true := by
  obtain ⟨x, -, -, -, q1, -⟩ := Cond.exactly_spec (args := args) (first := s) (o := none) (s := s) (idx := []) ht
  obtain ⟨y, -, -, -, r1, -⟩ := Cond.exactly_spec (args := args) (first := s) (o := none) (s := s) (idx := []) hu
  have va := va_eqt ha
  have vb := va_eqt hb
  rw [va_fe q1] at va
  rw [va_fe r1] at vb
  have hne : x ≠ y := by
    intro e
    rw [e, vb] at va
    exact hab (Value.int.inj (Option.some.inj va)).symm
  simp [Cond.before, Cond.holds, Cond.value, q1, r1, hne]
theorem o6_ne : ∀ i j : Fin 6, i ≠ j → ([0, 1, 2, 3, 4, 5] : List Int32).getD i.val 0 ≠ ([0, 1, 2, 3, 4, 5] : List Int32).getD j.val 0 := by decide +kernel
theorem o8_ne : ∀ i j : Fin 8, i ≠ j → ([0, 1, 2, 3, 4, 5, 6, 7] : List Int32).getD i.val 0 ≠ ([0, 1, 2, 3, 4, 5, 6, 7] : List Int32).getD j.val 0 := by decide +kernel
def elC (i j : Nat) : Cond := Cond.eq (.elem (tSv i) (.int (Int32.ofNat j))) (.int ((stByt.getD i []).getD j 0))
theorem st_els : ∀ i : Nat, i < 25 → ∀ w ∈ (List.range (stLen.getD i 0)).map (elC i), w ∈ nwC
  | 0, _ => nwS_el0
  | 1, _ => nwS_el1
  | 2, _ => nwS_el2
  | 3, _ => nwS_el3
  | 4, _ => nwS_el4
  | 5, _ => nwS_el5
  | 6, _ => nwS_el6
  | 7, _ => nwS_el7
  | 8, _ => nwS_el8
  | 9, _ => nwS_el9
  | 10, _ => nwS_el10
  | 11, _ => nwS_el11
  | 12, _ => nwS_el12
  | 13, _ => nwS_el13
  | 14, _ => nwS_el14
  | 15, _ => nwS_el15
  | 16, _ => nwS_el16
  | 17, _ => nwS_el17
  | 18, _ => nwS_el18
  | 19, _ => nwS_el19
  | 20, _ => nwS_el20
  | 21, _ => nwS_el21
  | 22, _ => nwS_el22
  | 23, _ => nwS_el23
  | 24, _ => nwS_el24
  | n + 25, h => absurd h (by omega)
theorem st_el {args : Array Value} {s : State} (hn : ∀ w ∈ nwC, w.before args s = true) (i : Nat) (hi : i < 25) (j : Nat) (hj : j < stLen.getD i 0) : (Cond.eq (.elem (tSv i) (.int (Int32.ofNat j))) (.int ((stByt.getD i []).getD j 0))).before args s = true :=
  nw_map (f := elC i) (st_els i hi) hn hj
theorem st_texts {args : Array Value} {s : State} {A : Nat → Prop} (hn : ∀ w ∈ nwC, w.before args s = true) (hA : ∀ a : Nat, a < s.heap.size → ¬ A a) : ∃ adK adV : Nat → Nat, vk_S 25 stLen stByt adK adV A s s.heap ∧ ∀ i : Nat, i < 25 → (tSt i).eval args s none [] s = some (.ref (adK i)) := by
  have h0 : ∀ i : Nat, ∃ q : Nat × Nat, i < 25 → (tSt i).eval args s none [] s = some (.ref q.1) ∧ va_O "java/lang/String" q.1 A s s.heap ∧ va_OF "java/lang/String" "coder" "B" (.int 0) q.1 A s s.heap ∧ va_OF "java/lang/String" "value" "[B" (.ref q.2) q.1 A s s.heap ∧ va_T .byte q.2 (stLen.getD i 0) (fun j => .int ((stByt.getD i []).getD j 0)) A s s.heap := by
    intro i
    by_cases hi : i < 25
    · obtain ⟨a, c, cA, kA, q1, q2, q3, q4, q5, q6, -⟩ := Cond.exactly_spec (args := args) (first := s) (o := none) (s := s) (idx := []) (t := tSt i) (cls := "java/lang/String") (nw_map nwS_ex hn hi)
      obtain ⟨t, ht, hT⟩ := va_Tof (tm := tSv i) (f := fun j => .int ((stByt.getD i []).getD j 0)) (A := A) (st_small i hi) (nw_map nwS_ar hn hi) (va_eqt (nw_map nwS_le hn hi)) (fun j hj => va_eqt (st_el hn i hi j hj)) hA
      exact ⟨(a, t), fun _ => ⟨q1, ⟨cA, q3, q5, by rw [q6]; exact q2, hA a (Array.getElem?_eq_some_iff.mp q3).1⟩, vk_OFof q1 (va_eqt (nw_map nwS_co hn hi)) hA, vk_OFof q1 ht hA, hT⟩⟩
    · exact ⟨(0, 0), fun h => absurd h hi⟩
  obtain ⟨ad, had⟩ := Classical.axiomOfChoice h0
  refine ⟨fun i => (ad i).1, fun i => (ad i).2, ⟨fun i hi => (had i hi).2, fun i j hi hj e => ?_⟩, fun i hi => (had i hi).1⟩
  obtain ⟨-, -, -, ai, ti⟩ := had i hi
  obtain ⟨-, -, -, aj, tj⟩ := had j hj
  have e : (ad i).1 = (ad j).1 := e
  rw [e] at ai
  obtain ⟨e1, e2⟩ := st_one ai aj ti tj (st_small i hi) (st_small j hj)
  have := st_apart ⟨i, hi⟩ ⟨j, hj⟩ ⟨e1, fun q hq => Value.int.inj (e2 q hq)⟩
  exact congrArg Fin.val this
theorem st_enF {args : Array Value} {s : State} {A : Nat → Prop} (ht : ∀ w ∈ lw_tbl, w.before args s = true) (hn : ∀ w ∈ nwC, w.before args s = true) (hA : ∀ a : Nat, a < s.heap.size → ¬ A a) : ∃ ad : Nat → Nat, va_En "TerraceQuarry$Fault" "LTerraceQuarry$Fault;" stF stO6 ad A s s.heap := by
  have h := va_Enof2 (E := "TerraceQuarry$Fault") (d := "LTerraceQuarry$Fault;") (nm := stF) (F := stO6) (A := A) (fun i hi => lw_map twF ht hi) (ht _ (twM _ (List.mem_of_getElem? (i := 0) rfl))) (fun i hi => nw_map nwF_ex hn hi)
    (fun q hq i hi => by
      rcases List.mem_singleton.mp hq with rfl
      exact nw_map nwF_or hn hi)
    (fun i j hi hj hij => by
      exact Or.inl (en_ne (nw_map nwF_ex hn hi) (nw_map nwF_ex hn hj) (nw_map nwF_or hn hi) (nw_map nwF_or hn hj) (o6_ne ⟨i, hi⟩ ⟨j, hj⟩ (fun h => hij (congrArg Fin.val h))))) hA
  obtain ⟨ad, h1, -⟩ := h
  exact ⟨ad, h1⟩
theorem st_enV {args : Array Value} {s : State} {A : Nat → Prop} (ht : ∀ w ∈ lw_tbl, w.before args s = true) (hn : ∀ w ∈ nwC, w.before args s = true) (hA : ∀ a : Nat, a < s.heap.size → ¬ A a) : ∃ ad : Nat → Nat, va_En "TerraceQuarry$Verb" "LTerraceQuarry$Verb;" stV stO8 ad A s s.heap ∧ ∀ i, i < 8 → (tVe i).eval args s none [] s = some (.ref (ad i)) :=
  va_Enof2 (E := "TerraceQuarry$Verb") (d := "LTerraceQuarry$Verb;") (nm := stV) (F := stO8) (A := A) (fun i hi => lw_map twV ht hi) (ht _ (twM _ (List.mem_of_getElem? (i := 1) rfl))) (fun i hi => nw_map nwV_ex hn hi)
    (fun q hq i hi => by
      rcases List.mem_singleton.mp hq with rfl
      exact nw_map nwV_or hn hi)
    (fun i j hi hj hij => by
      exact Or.inl (en_ne (nw_map nwV_ex hn hi) (nw_map nwV_ex hn hj) (nw_map nwV_or hn hi) (nw_map nwV_or hn hj) (o8_ne ⟨i, hi⟩ ⟨j, hj⟩ (fun h => hij (congrArg Fin.val h))))) hA
/-- all that stands still, at the start -/
theorem st_of {args : Array Value} {s : State} {A : Nat → Prop} {b L : Nat} {xs : Nat → Int32} (hX : va_X b L xs s s.heap) (hb : b < s.heap.size) (ht : ∀ w ∈ lw_tbl, w.before args s = true) (hn : ∀ w ∈ nwC, w.before args s = true) (hA : ∀ a : Nat, a < s.heap.size → ¬ A a) : ∃ gs : Nat → Nat → Nat, gs 5 0 = b ∧ gs 5 1 = L ∧ ∀ g : GG, gS g = gs → ST g A s s.heap ∧ STR g s := by
  obtain ⟨fF, hF⟩ := st_enF ht hn hA
  obtain ⟨fV, hV, eV⟩ := st_enV ht hn hA
  obtain ⟨adK, adV, hS, eS⟩ := st_texts hn hA
  have m : ∀ {i : Nat} {w : Cond}, ([Cond.arrayOf tAll (.object "TerraceQuarry$Verb"), Cond.eq (.length tAll) (.int (Int32.ofNat 8)), Cond.arrayOf tSwF .int, Cond.eq (.length tSwF) (.int (Int32.ofNat 6)), Cond.arrayOf tSwV .int, Cond.eq (.length tSwV) (.int (Int32.ofNat 8)), Cond.arrayOf tEmp (.object "java/lang/Object"), Cond.eq (.length tEmp) (.int (Int32.ofNat 0)), Cond.eq (.static "java/lang/String" "COMPACT_STRINGS" "Z") (.int 1), Cond.isRef (.static "jdk/internal/util/Preconditions" "SIOOBE_FORMATTER" "Ljava/util/function/BiFunction;"), Cond.isRef (.static Bundle.tN "UNASSIGNED_STACK" Bundle.steD), Cond.isRef (.static Bundle.tN "SUPPRESSED_SENTINEL" Bundle.listD)] : List Cond)[i]? = some w → w.before args s = true := fun h => hn _ (nwA _ (List.mem_of_getElem? h))
  obtain ⟨tA, eA, hTA⟩ := va_Tof (tm := tAll) (ty := .object "TerraceQuarry$Verb") (N := 8) (f := fun k => .ref (fV k)) (A := A) (by decide) (m (i := 0) rfl) (va_eqt (m (i := 1) rfl)) (fun j hj => va_eqv (nw_map nwA_el hn hj) (eV j hj)) hA
  obtain ⟨tF, eF, hTF⟩ := va_Tof (tm := tSwF) (ty := .int) (N := 6) (f := fun k => .int (nI k)) (A := A) (by decide) (m (i := 2) rfl) (va_eqt (m (i := 3) rfl)) (fun j hj => va_eqt (nw_map nwSF_el hn hj)) hA
  obtain ⟨tV, eTV, hTV⟩ := va_Tof (tm := tSwV) (ty := .int) (N := 8) (f := fun k => .int (if k < 7 then nI (k + 1) else 0)) (A := A) (by decide) (m (i := 4) rfl) (va_eqt (m (i := 5) rfl)) (fun j hj => va_eqt (nw_map nwSV_el hn hj)) hA
  obtain ⟨tE, eE, hTE⟩ := va_Tof (tm := tEmp) (ty := .object "java/lang/Object") (N := 0) (f := fun _ => .null) (A := A) (by decide) (m (i := 6) rfl) (va_eqt (m (i := 7) rfl)) (fun j hj => absurd hj (Nat.not_lt_zero j)) hA
  have k : ∀ (i : Nat) {w : Cond}, ([Cond.initialized "TerraceQuarry$Fault", Cond.initialized "TerraceQuarry$Verb", Cond.initialized "TerraceQuarry$1", Cond.initialized "java/util/ArrayList", Cond.initialized "java/lang/String", Cond.initialized "jdk/internal/util/Preconditions", Cond.initialized Bundle.tN, Cond.laysStatic "TerraceQuarry$Verb" "ALL" "[LTerraceQuarry$Verb;", Cond.laysStatic "TerraceQuarry$1" "$SwitchMap$TerraceQuarry$Fault" "[I", Cond.laysStatic "TerraceQuarry$1" "$SwitchMap$TerraceQuarry$Verb" "[I", Cond.laysStatic "java/util/ArrayList" "DEFAULTCAPACITY_EMPTY_ELEMENTDATA" "[Ljava/lang/Object;", Cond.laysStatic "java/lang/String" "COMPACT_STRINGS" "Z", Cond.laysStatic "jdk/internal/util/Preconditions" "SIOOBE_FORMATTER" "Ljava/util/function/BiFunction;", Cond.laysStatic Bundle.tN "UNASSIGNED_STACK" Bundle.steD, Cond.laysStatic Bundle.tN "SUPPRESSED_SENTINEL" Bundle.listD, Cond.castable "TerraceQuarry$Command" "java/lang/Object", Cond.arrayOver (.object "TerraceQuarry$Quarry"), Cond.arrayOver (.object "java/lang/Object"), Cond.arrayClass .int, Cond.arrayClass .boolean, Cond.arrayClass .char] : List Cond)[i]? = some w → w.before args s = true := fun i w h => ht _ (twM _ (List.mem_of_getElem? h))
  have hTX : va_T .int b L (fun k => .int (nI (xs k).toBitVec.toNat)) A s s.heap := by
    obtain ⟨scr, x1, x2, x3, x4, x5⟩ := hX
    refine ⟨scr, x1, x2, x3, by omega, by rw [x4], fun j hj => ?_, hA b hb⟩
    rw [x5 j hj]
    exact congrArg (fun z => some (Value.int z)) (nI_bits (xs j)).symm
  refine ⟨fun q i => match q with | 0 => fF i | 1 => fV i | 2 => adK i | 3 => adV i | 4 => (match i with | 0 => tA | 1 => tF | 2 => tV | _ => tE) | 5 => (match i with | 0 => b | _ => L) | _ => (xs i).toBitVec.toNat, rfl, rfl, fun g hg => ⟨?_, ?_⟩⟩
  · unfold ST
    rw [hg]
    refine ⟨hF, hV, ?_, hS, ⟨va_Zof (k 7 rfl) (k 1 rfl) eA hA, hTA⟩, ⟨va_Zof (k 8 rfl) (k 2 rfl) eF hA, hTF⟩, ⟨va_Zof (k 9 rfl) (k 2 rfl) eTV hA, hTV⟩, ⟨va_Zof (k 10 rfl) (k 3 rfl) eE hA, hTE, hTX⟩, ⟨va_Zof (k 11 rfl) (k 4 rfl) (va_eqt (m (i := 8) rfl)) hA, va_Zqof (k 12 rfl) (k 5 rfl) (m (i := 9) rfl) hA⟩, ?_⟩
    · exact va_Efof (N := 8) (E := "TerraceQuarry$Verb") (d0 := "LTerraceQuarry$Verb;") (nm := stV) (tm := tSt) eV (fun i hi => nw_map nwV_fo hn hi) (fun i hi => eS i (by omega)) hA
    · intro q hq
      rcases List.mem_cons.mp hq with rfl | hq
      · exact vx_Zqof (k 13 rfl) (k 6 rfl) (m (i := 10) rfl) hA
      · rcases List.mem_singleton.mp hq with rfl
        exact vx_Zqof (k 14 rfl) (k 6 rfl) (m (i := 11) rfl) hA
  · unfold STR
    rw [hg]
    refine ⟨fun i q hq => ?_, fun y hy => va_Nw.of rfl (ht _ (twD _ (List.mem_map.mpr ⟨y, hy, rfl⟩))), fun X hX => va_Nw.of rfl (ht _ (twX _ (List.mem_map.mpr ⟨X, hX, rfl⟩))), ?_, va_Nw.of rfl (k 15 rfl), ?_, ?_⟩
    · have hi : i < 25 := (List.getElem?_eq_some_iff.mp hq).1
      have e := eS i hi
      unfold tSt at e
      rw [List.getD_eq_getElem?_getD, hq] at e
      refine vk_R.of (A := args) (ht _ (twS _ (List.mem_map.mpr ⟨q, List.mem_of_getElem? hq, rfl⟩))) e
    · intro X hX Y hY hne
      have hp : (X, Y) ∈ prE := (by decide +kernel : ∀ X ∈ exN, ∀ Y ∈ exN, X ≠ Y ∧ Y ≠ "java/lang/ArithmeticException" → (X, Y) ∈ prE) X hX Y hY hne
      exact va_Nc.of (args := args) (hn _ (nwE _ (List.mem_map.mpr ⟨(X, Y), hp, rfl⟩)))
    · exact va_AO.of (A := args) (k 16 rfl)
    · exact va_AO.of (A := args) (k 17 rfl)
