theorem st_cl {args : Array Value} {s : State} (ht : ∀ w ∈ lw_tbl, w.before args s = true) : ∃ D : va_G, ∀ (c : Nat) (q : vw_C), vwCl[c]? = some q → u_Kn s q.1 q.2.1 q.2.2 (D.1 c) (D.2 c) := by
  have m : ∀ (i : Nat) {w : Cond}, ([Cond.instantiable RJ0 4, Cond.instantiable RJx00060 6, Cond.instantiable RJx4a65c 3, Cond.instantiable RX1 3, Cond.instantiable RX4 3, Cond.instantiable RX5 2, Cond.instantiable RX6 3, Cond.instantiable RX7 15, Cond.instantiable RX8 5, Cond.instantiable RX10 9] : List Cond)[i]? = some w → w.before args s = true := fun i w h => ht _ (twI _ (List.mem_of_getElem? h))
  have h : ∀ c : Nat, ∃ d : ClassId × (Nat → Nat), ∀ q : vw_C, vwCl[c]? = some q → u_Kn s q.1 q.2.1 q.2.2 d.1 d.2 := by
    intro c
    match c with
    | 0 => obtain ⟨a, b, hk⟩ := u_known (C := RJ0) (T := TJ0) (N := 2) ht twC_J0 (m 0 rfl); exact ⟨(a, b), fun q hq => by cases hq; exact hk⟩
    | 1 => obtain ⟨a, b, hk⟩ := u_known (C := RJx00060) (T := TJx00060) (N := 6) ht twC_Jx00060 (m 1 rfl); exact ⟨(a, b), fun q hq => by cases hq; exact hk⟩
    | 2 => obtain ⟨a, b, hk⟩ := u_known (C := RJx4a65c) (T := TJx4a65c) (N := 3) ht twC_Jx4a65c (m 2 rfl); exact ⟨(a, b), fun q hq => by cases hq; exact hk⟩
    | 3 => obtain ⟨a, b, hk⟩ := u_known (C := RX1) (T := TX1) (N := 3) ht twC_X1 (m 3 rfl); exact ⟨(a, b), fun q hq => by cases hq; exact hk⟩
    | 4 => obtain ⟨a, b, hk⟩ := u_known (C := RX4) (T := TX4) (N := 3) ht twC_X4 (m 4 rfl); exact ⟨(a, b), fun q hq => by cases hq; exact hk⟩
    | 5 => obtain ⟨a, b, hk⟩ := u_known (C := RX5) (T := TX5) (N := 2) ht twC_X5 (m 5 rfl); exact ⟨(a, b), fun q hq => by cases hq; exact hk⟩
    | 6 => obtain ⟨a, b, hk⟩ := u_known (C := RX6) (T := TX6) (N := 3) ht twC_X6 (m 6 rfl); exact ⟨(a, b), fun q hq => by cases hq; exact hk⟩
    | 7 => obtain ⟨a, b, hk⟩ := u_known (C := RX7) (T := TX7) (N := 15) ht twC_X7 (m 7 rfl); exact ⟨(a, b), fun q hq => by cases hq; exact hk⟩
    | 8 => obtain ⟨a, b, hk⟩ := u_known (C := RX8) (T := TX8) (N := 5) ht twC_X8 (m 8 rfl); exact ⟨(a, b), fun q hq => by cases hq; exact hk⟩
    | 9 => obtain ⟨a, b, hk⟩ := u_known (C := RX10) (T := TX10) (N := 9) ht twC_X10 (m 9 rfl); exact ⟨(a, b), fun q hq => by cases hq; exact hk⟩
    | c + 10 => exact ⟨(0, fun _ => 0), fun q hq => by cases hq⟩
  obtain ⟨d, hd⟩ := Classical.axiomOfChoice h
  exact ⟨(fun c => (d c).1, fun c => (d c).2), fun c q hq => hd c q hq⟩
theorem st_ar {args : Array Value} {s : State} {ty : FieldType} (h : (Cond.arrayClass ty).before args s = true) (hp : ∀ C, ty ≠ .object C) : ∃ c : ClassId, ArrOfT s c ty ∧ va_RA s c ty := by
  obtain ⟨c, k, comp, h1, h2, h3⟩ := Cond.arrayClass_spec (args := args) (first := s) (o := none) (s := s) (idx := []) h
  refine ⟨c, fun n z => ⟨fun k h => (by cases h), k, h2, comp, h3⟩, ?_⟩
  cases ty with
  | object C => exact absurd rfl (hp C)
  | _ => exact h1
theorem st_ao {args : Array Value} {s : State} {C : String} (h : (Cond.arrayOver (.object C)).before args s = true) : ∃ c : ClassId, ArrOfT s c (.object C) ∧ va_RA s c (.object C) := by
  obtain ⟨comp, c, k, h1, h2, h3, h4, h5⟩ := Cond.arrayOver_spec (args := args) (first := s) (o := none) (s := s) (idx := []) h
  exact ⟨c, fun n z => ⟨fun k h => (by cases h), k, h3, comp, h4⟩, k, comp, h3, h4, h1, h5⟩
/-- the bundle, at the start -/
theorem st_all {args : Array Value} {s : State} {A : Nat → Prop} {b L : Nat} {xs : Nat → Int32} (hX : va_X b L xs s s.heap) (hb : b < s.heap.size) (ht : ∀ w ∈ lw_tbl, w.before args s = true) (hn : ∀ w ∈ nwC, w.before args s = true) (hA : ∀ a : Nat, a < s.heap.size → ¬ A a) : ∃ g : GG, gS g 5 0 = b ∧ gS g 5 1 = L ∧ va_K (gD g) vwCl (tyL g) s ∧ ST g A s s.heap ∧ STR g s := by
  obtain ⟨gs, hb5, hL5, hgs⟩ := st_of hX hb ht hn hA
  obtain ⟨D, hDk⟩ := st_cl ht
  have k : ∀ (i : Nat) {w : Cond}, ([Cond.initialized "TerraceQuarry$Fault", Cond.initialized "TerraceQuarry$Verb", Cond.initialized "TerraceQuarry$1", Cond.initialized "java/util/ArrayList", Cond.initialized "java/lang/String", Cond.initialized "jdk/internal/util/Preconditions", Cond.initialized Bundle.tN, Cond.laysStatic "TerraceQuarry$Verb" "ALL" "[LTerraceQuarry$Verb;", Cond.laysStatic "TerraceQuarry$1" "$SwitchMap$TerraceQuarry$Fault" "[I", Cond.laysStatic "TerraceQuarry$1" "$SwitchMap$TerraceQuarry$Verb" "[I", Cond.laysStatic "java/util/ArrayList" "DEFAULTCAPACITY_EMPTY_ELEMENTDATA" "[Ljava/lang/Object;", Cond.laysStatic "java/lang/String" "COMPACT_STRINGS" "Z", Cond.laysStatic "jdk/internal/util/Preconditions" "SIOOBE_FORMATTER" "Ljava/util/function/BiFunction;", Cond.laysStatic Bundle.tN "UNASSIGNED_STACK" Bundle.steD, Cond.laysStatic Bundle.tN "SUPPRESSED_SENTINEL" Bundle.listD, Cond.castable "TerraceQuarry$Command" "java/lang/Object", Cond.arrayOver (.object "TerraceQuarry$Quarry"), Cond.arrayOver (.object "java/lang/Object"), Cond.arrayClass .int, Cond.arrayClass .boolean, Cond.arrayClass .char] : List Cond)[i]? = some w → w.before args s = true := fun i w h => ht _ (twM _ (List.mem_of_getElem? h))
  obtain ⟨c0, h0⟩ := st_ar (k 18 rfl) (fun C h => by cases h)
  obtain ⟨c1, h1⟩ := st_ar (k 19 rfl) (fun C h => by cases h)
  obtain ⟨c2, h2⟩ := st_ar (k 20 rfl) (fun C h => by cases h)
  obtain ⟨c5, h5⟩ := st_ao (k 16 rfl)
  obtain ⟨c6, h6⟩ := st_ao (k 17 rfl)
  let g : GG := (D, fun i => match i with | 0 => c0 | 1 => c1 | 2 => c2 | 3 => c0 | 4 => c1 | 5 => c5 | _ => c6, gs)
  refine ⟨g, hb5, hL5, ⟨hDk, ?_⟩, hgs g rfl⟩
  intro i q hq
  match i with
  | 0 => cases hq; exact h0
  | 1 => cases hq; exact h1
  | 2 => cases hq; exact h2
  | 3 => cases hq; exact h0
  | 4 => cases hq; exact h1
  | 5 => cases hq; exact h5
  | 6 => cases hq; exact h6
  | i + 7 => cases hq
theorem st_flags (l : Launch) (h : l.flags = flags0) : l.stackTraces = false := by
  unfold Launch.stackTraces
  rw [h]
  decide +kernel
