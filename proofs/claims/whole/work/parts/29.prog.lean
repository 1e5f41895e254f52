def wCs (g : GG) : (Nat → Nat → Nat) → List CV → va_W
  | _, [] => []
  | h, q :: L => wC g (h 0) q ++ wCs g (fun i => h (i + 1)) L
theorem wCs_get {g : GG} : ∀ (L : List CV) (h : Nat → Nat → Nat) (n : Nat) (q : CV), L[n]? = some q → ∃ X : va_W, (wCs g h L).Perm (wC g (h n) q ++ X)
  | [], _, _, _, e => by simp at e
  | x :: L, h, 0, q, e => by
    have e1 : x = q := by simpa using e
    subst e1
    exact ⟨wCs g (fun i => h (i + 1)) L, List.Perm.refl _⟩
  | x :: L, h, n + 1, q, e => by
    obtain ⟨X, h1⟩ := wCs_get (g := g) L (fun i => h (i + 1)) n q (by simpa using e)
    refine ⟨wC g (h 0) x ++ X, ?_⟩
    show (wC g (h 0) x ++ wCs g (fun i => h (i + 1)) L).Perm _
    exact wp_of fun f => by
      have h3 := h1.countP_eq f
      simp only [List.countP_append] at h3 ⊢
      omega
theorem wCs_push {g : GG} (u : Nat → Nat) (o : CV) : ∀ (L : List CV) (h : Nat → Nat → Nat), wCs g (fun k => if k = L.length then u else h k) (L ++ [o]) = wCs g h L ++ wC g u o
  | [], h => by
    show wC g (if (0 : Nat) = 0 then u else h 0) o ++ [] = [] ++ wC g u o
    rw [if_pos rfl, List.append_nil, List.nil_append]
  | x :: L, h => by
    show wC g (if (0 : Nat) = L.length + 1 then u else h 0) x ++ wCs g (fun i => if i + 1 = L.length + 1 then u else h (i + 1)) (L ++ [o]) = (wC g (h 0) x ++ wCs g (fun i => h (i + 1)) L) ++ wC g u o
    rw [if_neg (by omega), List.append_assoc, ← wCs_push (g := g) u o L (fun i => h (i + 1))]
    congr 2
    funext i
    by_cases hi : i = L.length
    · rw [if_pos hi, if_pos (by omega)]
    · rw [if_neg hi, if_neg (by omega)]
/-- the list holds those commands -/
def lsRel (lq : ListS) (h : Nat → Nat → Nat) (L : List CV) : Prop := lq.2.1 = nI L.length ∧ L.length ≤ 10 ∧ (lq.2.2 = none → L = []) ∧ ∀ e, lq.2.2 = some e → ∀ k, k < L.length → e.2 k = some (h k 0)
theorem lsRel_push {lq u : ListS} {h : Nat → Nat → Nat} {L : List CV} {c : Nat → Nat} {w : CV} (hr : lsRel lq h L) (hn : L.length < 10) (hu : u.2.1 = nI (L.length + 1) ∧ ∃ (ea : Nat) (f : Nat → Option Nat), u.2.2 = some (ea, f) ∧ f L.length = some (c 0) ∧ ∀ e, lq.2.2 = some e → ∀ k, k < L.length → f k = e.2 k) : lsRel u (fun k => if k = L.length then c else h k) (L ++ [w]) := by
  obtain ⟨h1, ea, f, h2, h3, h4⟩ := hu
  obtain ⟨g1, g2, g3, g4⟩ := hr
  refine ⟨(by rw [h1]; simp), (by simp; omega), (fun h => by rw [h2] at h; cases h), fun e he k hk => ?_⟩
  rw [h2] at he
  cases he
  show f k = _
  by_cases hkn : k = L.length
  · subst hkn
    simp [h3]
  · have hk2 : k < L.length := by simp at hk; omega
    cases ho : lq.2.2 with
    | none => rw [g3 ho] at hk2; simp at hk2
    | some e => rw [h4 e ho k hk2, g4 e ho k hk2]; simp [hkn]
theorem rc_perm {g : GG} {hp : Nat → Nat} {pv : PV} {hcm : Nat → Nat} {w : CV} {lq : ListS} {hd : Nat → Nat → Nat} {L : List CV} : (wP g hp pv ++ wC g hcm w ++ (wL g (hp 2) lq ++ wCs g hd L)).Perm (wP g hp pv ++ wL g (hp 2) lq ++ wCs g (fun k => if k = L.length then hcm else hd k) (L ++ [w])) := by
  rw [wCs_push hcm w L hd]
  exact wp_of fun f => by simp only [List.countP_append]; omega
def rm_X6_commandCount : Room := { frames := 1, cells := 0, slots := 0, locals := 20 }
theorem hd_X6_commandCount : yX6_commandCount.cls = RX6 ∧ yX6_commandCount.cls ≠ "java/lang/invoke/MethodHandle" ∧ yX6_commandCount.cls ≠ "java/lang/invoke/VarHandle" ∧ (parseMethodDescriptor yX6_commandCount.desc).map (fun d => d.parameters.length) = some 0 := by decide +kernel
set_option maxHeartbeats 4000000 in
set_option maxRecDepth 100000 in
theorem c_X6_commandCount (l : Launch) (g : GG) (hp : Nat → Nat) (pv : PV) (lq : ListS) : MtI l yX6_commandCount wsX6_commandCount rm_X6_commandCount g (wP g hp pv ++ wL g (hp 2) lq) [.ref (hp 0)] lq.2.1 (wP g hp pv ++ wL g (hp 2) lq) 0 0 := by
  refine fun sz => mt_of (cc := cX6_commandCount) (maxL := 1) (ret := (some .int)) (own := RX6) (Qc := fun A => va_Qi (fun r (_ : Unit) => r = lq.2.1) (fun _ t => PosM g A (wP g hp pv ++ wL g (hp 2) lq) t) A) (by decide +kernel) rfl rfl (Nat.le_of_ble_eq_true rfl) ?_ sz
  intro p e s mi below meth c A ls hB hnm hrt hlk hP hD hl
  obtain ⟨hx, hb, hml, hown, hts, hK, hZ, hT, hA, -⟩ := hB
  have hS : va_S A s.heap s.heap [] := va_S.rf
  have hl : lv_has ls 1 [(0, .ref (hp 0))] := hl
  have hinX6 : ∀ w ∈ wsX60, w ∈ wsX6_commandCount := by decide +kernel
  have kk0 := hts (.fieldLink RX6 16 "TerraceQuarry$Program" "commands" "Ljava/util/ArrayList;") (by decide +kernel)
  have hP : va_P (gD g) vwCl ([((hp 0), .inr (6, [.ref (hp 1), .ref (hp 2), .int (pLength pv)])), ((hp 1), .inl (gC g 2, 60, .inl (pText pv)))] ++ wL g (hp 2) lq) s.heap := hP
  have hD : va_D A ([((hp 0), .inr (6, [.ref (hp 1), .ref (hp 2), .int (pLength pv)])), ((hp 1), .inl (gC g 2, 60, .inl (pText pv)))] ++ wL g (hp 2) lq) := hD
  refine lv_aload_n hx hb dX6_commandCount_0 rfl (lv_at hl 0 rfl) ?_
  refine va_get (D := gD g) (ci := 6) (v := .ref (hp 2)) (C := RX6) (T := TX6) (N := 3) hx hb hts hinX6 hown hK hP 0 rfl rfl 1 (by decide) kk0 (fun _ h9 => h9) rfl dX6_commandCount_1 ?_
  have hPr : va_P (gD g) vwCl (wL g (hp 2) lq ++ [((hp 0), .inr (6, [.ref (hp 1), .ref (hp 2), .int (pLength pv)])), ((hp 1), .inl (gC g 2, 60, .inl (pText pv)))]) _ := wp_P (wp_of fun f => by simp only [List.countP_append, List.countP_cons, List.countP_nil] <;> omega) hP
  refine cpv_i (As := []) (rest := []) (Wr := [((hp 0), .inr (6, [.ref (hp 1), .ref (hp 2), .int (pLength pv)])), ((hp 1), .inl (gC g 2, 60, .inl (pText pv)))]) (Wn := wP g hp pv ++ wL g (hp 2) lq) ⟨hx, hb, hml, hown, hts⟩ (c_Jx4a65c_size_8abf5 l g (hp 2) lq) (cwV 0 hts gX6_commandCount_Jx4a65c_size_8abf5 rfl rfl rfl hd_Jx4a65c_size_8abf5 ⟨(Nat.le_of_ble_eq_true rfl), (Nat.le_of_ble_eq_true rfl)⟩) hK hZ hT hA hP hD hS hl.1 (va_recv hK hPr (ci := 2) (q0 := 0) rfl rfl) (wp_of fun f => by simp only [List.countP_append, List.countP_cons, List.countP_nil] <;> omega) (wp_of fun f => by unfold wP; simp only [List.countP_append, List.countP_cons, List.countP_nil] <;> omega) rfl rfl (Nat.le_of_ble_eq_true rfl) ⟨(Nat.le_of_ble_eq_true rfl), (Nat.le_of_ble_eq_true rfl)⟩ dX6_commandCount_4 (fun H locs hP hD hS => ?_)
  exact rt_i hx hb hrt hlk rfl hK hP hD hS (Nat.le_of_ble_eq_true rfl) (Nat.le_of_ble_eq_true rfl) dX6_commandCount_7
def f_X6_readCommand_J63 (pv : PV) (cv : CV) (x1 : Nat) (x2 : Int32) (x4 : Int32) (x5 : Int32) : Option (Sum (Int32 × CV) (Int32 × CV)) :=
  some (.inl ((x5 + 1), cv))
def f_X6_readCommand_L29 (pv : PV) (x1 : Nat) (x2 : Int32) (x4 : Int32) (x5 : Int32) (cv : CV) : Option (Sum (Int32 × CV) (Int32 × CV)) :=
  if x1 < 8 then
  (f_X9_length x1).bind fun o12 =>
  if o12 ≤ x5 then
  (some (.inr (x5, cv)))
  else
  (if x1 < 8 then
  (f_X9_takesDigitAt x1 x5).bind fun o15 =>
  if o15 = 0 then
  (f_X6_readCommand_J63 pv cv x1 x2 x4 x5)
  else
  (if jIn (x2 + x5) 60 then
  (f_X1_addNumber cv (((pText pv) (x2 + x5).toNatClampNeg) - 48)).bind fun o19 =>
  f_X6_readCommand_J63 pv o19 x1 x2 x4 x5
  else none)
  else none)
  else none
def f_X6_readCommand (pv : PV) (a0 : Nat) (a1 : Int32) : Option (Int32 × CV) :=
  jbN ((a0, fun _ => 0, 0) : CV) fun w0 =>
  if a0 < 8 then
  (f_X9_length a0).bind fun o1 =>
  jbN (a1 + o1) fun z4 =>
  (jbL (fun s => f_X6_readCommand_L29 pv a0 a1 z4 (s.1) (s.2)) 5000 (0, w0)).bind fun o29 =>
  if a0 < 8 then
  if a0 = 7 then
  (if (pLength pv) ≤ z4 then
  (some (z4, (o29.2)))
  else
  (if jIn z4 60 then
  (f_X9_isDigit ((pText pv) z4.toNatClampNeg)).bind fun o7 =>
  if o7 = 0 then
  (some (z4, (o29.2)))
  else
  (if jIn z4 60 then
  (f_X1_addDigitToLast (o29.2) (((pText pv) z4.toNatClampNeg) - 48)).bind fun o10 =>
  some ((z4 + 1), o10)
  else none)
  else none))
  else
  (some (z4, (o29.2)))
  else none
  else none
def rm_X6_readCommand : Room := { frames := 5, cells := 3, slots := 17, locals := 112 }
theorem hd_X6_readCommand : yX6_readCommand.cls = RX6 ∧ yX6_readCommand.cls ≠ "java/lang/invoke/MethodHandle" ∧ yX6_readCommand.cls ≠ "java/lang/invoke/VarHandle" ∧ (parseMethodDescriptor yX6_readCommand.desc).map (fun d => d.parameters.length) = some 2 := by decide +kernel
set_option maxHeartbeats 4000000 in
set_option maxRecDepth 100000 in
theorem c_X6_readCommand (l : Launch) (g : GG) (hp : Nat → Nat) (pv : PV) (lq : ListS) (hd : Nat → Nat → Nat) (L : List CV) (hrel : lsRel lq hd L) (hlt9 : L.length < 10) (a0 : Nat) (a1 : Int32) (out : Int32 × CV) (hf : f_X6_readCommand pv a0 a1 = some out) : MzI (RT := ListS × (Nat → Nat → Nat)) l yX6_readCommand wsX6_readCommand rm_X6_readCommand g (wP g hp pv ++ wL g (hp 2) lq ++ wCs g hd L) [.ref (hp 0), .ref (gS g 1 a0), .int a1] (fun u => lsRel u.1 u.2 (L ++ [out.2])) (fun _ => out.1) (fun u => wP g hp pv ++ wL g (hp 2) u.1 ++ wCs g u.2 (L ++ [out.2])) 3 17 := by
  refine fun sz => mt_of (cc := cX6_readCommand) (maxL := 6) (ret := (some .int)) (own := RX6) (Qc := fun A => va_Qi (fun r (u : ListS × (Nat → Nat → Nat)) => lsRel u.1 u.2 (L ++ [out.2]) ∧ r = out.1) (fun u t => PosM g A (wP g hp pv ++ wL g (hp 2) u.1 ++ wCs g u.2 (L ++ [out.2])) t) A) (by decide +kernel) rfl rfl (Nat.le_of_ble_eq_true rfl) ?_ sz
  intro p e s mi below meth c A ls hB hnm hrt hlk hP hD hl
  obtain ⟨hx, hb, hml, hown, hts, hK, hZ, hT, hA, -⟩ := hB
  have hS : va_S A s.heap s.heap [] := va_S.rf
  have hl : lv_has ls 6 [(0, .ref (hp 0)), (1, .ref (gS g 1 a0)), (2, .int a1)] := hl
  have hinX1 : ∀ w ∈ wsX10, w ∈ wsX6_readCommand := by decide +kernel
  have hinX6 : ∀ w ∈ wsX60, w ∈ wsX6_readCommand := by decide +kernel
  have kk0 := hts (.classLink RX6 66 RX1) (by decide +kernel)
  have kk1 := hts (.instantiable RX1 3) (by decide +kernel)
  have kk2 := hts (.initialized RX1) (by decide +kernel)
  have kk3 := hts (.methodLink RX6 68 yX1_init) (by decide +kernel)
  have kk4 := hts (.instanceMethod yX1_init) (by decide +kernel)
  have kk5 := hts (.fieldLink RX6 16 "TerraceQuarry$Program" "commands" "Ljava/util/ArrayList;") (by decide +kernel)
  have hP : va_P (gD g) vwCl ([((hp 0), .inr (6, [.ref (hp 1), .ref (hp 2), .int (pLength pv)])), ((hp 1), .inl (gC g 2, 60, .inl (pText pv)))] ++ wL g (hp 2) lq ++ wCs g hd L) s.heap := hP
  have hD : va_D A ([((hp 0), .inr (6, [.ref (hp 1), .ref (hp 2), .int (pLength pv)])), ((hp 1), .inl (gC g 2, 60, .inl (pText pv)))] ++ wL g (hp 2) lq ++ wCs g hd L) := hD
  have k2 := hts (.fieldLink RX6 9 "TerraceQuarry$Program" "text" "[C") (by decide +kernel)
  have k1 := hts (.fieldLink RX6 20 "TerraceQuarry$Program" "length" "I") (by decide +kernel)
  have k0 := hts (.fieldLink RX6 83 "TerraceQuarry$Verb" "CRUSH" "LTerraceQuarry$Verb;") (by decide +kernel)
  refine va_new (ci := 3) (fs := [.null, .null, .int 0]) (C := RX1) (T := TX1) (N := 3) hx hb hts hinX1 tyX1 tyX1_ok hown kk0 kk1 kk2 hK hP hD hS hA rfl (fun j hj => by rcases (show j = 0 ∨ j = 1 ∨ j = 2 by omega) with rfl | rfl | rfl <;> rfl) (Nat.le_of_ble_eq_true rfl) (Nat.le_of_ble_eq_true rfl) dX6_readCommand_0 (fun q1 H hP hD hS => ?_)
  have hP : va_P (gD g) vwCl ([((hp 0), .inr (6, [.ref (hp 1), .ref (hp 2), .int (pLength pv)])), ((hp 1), .inl (gC g 2, 60, .inl (pText pv)))] ++ wL g (hp 2) lq ++ wCs g hd L ++ [(q1, .inr (3, [.null, .null, .int 0]))]) H := hP
  have hD : va_D A ([((hp 0), .inr (6, [.ref (hp 1), .ref (hp 2), .int (pLength pv)])), ((hp 1), .inl (gC g 2, 60, .inl (pText pv)))] ++ wL g (hp 2) lq ++ wCs g hd L ++ [(q1, .inr (3, [.null, .null, .int 0]))]) := hD
  refine lv_dup hx hb dX6_readCommand_3 rfl ?_
  refine lv_aload_n hx hb dX6_readCommand_4 rfl (lv_at hl 1 rfl) ?_
  refine czI_v (As := [.ref (gS g 1 a0)]) (rest := [.ref q1]) (Wr := ([((hp 0), .inr (6, [.ref (hp 1), .ref (hp 2), .int (pLength pv)])), ((hp 1), .inl (gC g 2, 60, .inl (pText pv)))] ++ wL g (hp 2) lq ++ wCs g hd L)) (Wn := fun hcm => ([((hp 0), .inr (6, [.ref (hp 1), .ref (hp 2), .int (pLength pv)])), ((hp 1), .inl (gC g 2, 60, .inl (pText pv)))] ++ wL g (hp 2) lq ++ wCs g hd L ++ wC g hcm (a0, fun _ => 0, 0))) ⟨hx, hb, hml, hown, hts⟩ (c_X1_init l g q1 a0) (cwI 1 hts gX6_readCommand_X1_init rfl rfl rfl kk2 kk3 kk4 rfl (by decide +kernel) ⟨(Nat.le_of_ble_eq_true rfl), (Nat.le_of_ble_eq_true rfl)⟩) hK hZ hT hA hP hD hS hl.1 (wp_of fun f => by simp only [List.countP_append, List.countP_cons, List.countP_nil] <;> omega) (fun _ => (wp_of fun f => by simp only [List.countP_append, List.countP_cons, List.countP_nil] <;> omega)) rfl rfl (Nat.le_of_ble_eq_true rfl) ⟨(Nat.le_of_ble_eq_true rfl), (Nat.le_of_ble_eq_true rfl)⟩ dX6_readCommand_5 (fun hcm H locs ho hP hD hS => ?_)
  rw [← ho]
  refine lv_astore_n (lv' := [(3, .ref (hcm 0)), (0, .ref (hp 0)), (1, .ref (gS g 1 a0)), (2, .int a1)]) hx hb dX6_readCommand_8 rfl hl (by decide) rfl (fun ls hl => ?_)
  refine lv_aload_n hx hb dX6_readCommand_9 rfl (lv_at hl 1 rfl) ?_
  refine va_get (D := gD g) (ci := 6) (v := .ref (hp 2)) (C := RX6) (T := TX6) (N := 3) hx hb hts hinX6 hown hK hP 0 rfl rfl 1 (by decide) kk5 (fun _ h9 => h9) rfl dX6_readCommand_10 ?_
  refine lv_aload_n hx hb dX6_readCommand_13 rfl (lv_at hl 0 rfl) ?_
  have hPr : va_P (gD g) vwCl (wL g (hp 2) lq ++ ([((hp 0), .inr (6, [.ref (hp 1), .ref (hp 2), .int (pLength pv)])), ((hp 1), .inl (gC g 2, 60, .inl (pText pv)))] ++ wCs g hd L ++ wC g hcm (a0, fun _ => 0, 0))) _ := wp_P (wp_of fun f => by simp only [List.countP_append, List.countP_cons, List.countP_nil] <;> omega) hP
  refine czv_i (As := [.ref (hcm 0)]) (rest := []) (Wr := ([((hp 0), .inr (6, [.ref (hp 1), .ref (hp 2), .int (pLength pv)])), ((hp 1), .inl (gC g 2, 60, .inl (pText pv)))] ++ wCs g hd L)) (Wn := fun lq1 => wP g hp pv ++ wC g hcm (a0, fun _ => 0, 0) ++ (wL g (hp 2) lq1 ++ wCs g hd L)) ⟨hx, hb, hml, hown, hts⟩ (c_Jx4a65c_add_9ea2d l g (hp 2) hcm (a0, fun _ => 0, 0) lq L.length hlt9 hrel.1 (fun h => by rw [hrel.2.2.1 h]; rfl)) (cwV 1 hts gX6_readCommand_Jx4a65c_add_9ea2d rfl rfl rfl hd_Jx4a65c_add_9ea2d ⟨(Nat.le_of_ble_eq_true rfl), (Nat.le_of_ble_eq_true rfl)⟩) hK hZ hT hA hP hD hS hl.1 (va_recv hK hPr (ci := 2) (q0 := 0) rfl rfl) (wp_of fun f => by simp only [List.countP_append, List.countP_cons, List.countP_nil] <;> omega) (fun _ => wp_of fun f => by unfold wP; simp only [List.countP_append, List.countP_cons, List.countP_nil] <;> omega) rfl rfl (Nat.le_of_ble_eq_true rfl) ⟨(Nat.le_of_ble_eq_true rfl), (Nat.le_of_ble_eq_true rfl)⟩ dX6_readCommand_14 (fun lq1 H locs hu hP hD hS => ?_)
  refine lv_pop hx hb dX6_readCommand_17 rfl ?_
  generalize hQ : MQ below _ _ _ _ _ _ = Q
  unfold f_X6_readCommand at hf
  obtain ⟨w0, ew0⟩ : ∃ y : CV, y = (a0, fun _ => 0, 0) := ⟨_, rfl⟩
  have hf := jbN_e hf ew0
  rw [← ew0] at hP hD
  have hL29 : ∀ (x1 : Nat) (x2 : Int32) (x4 : Int32) (n : Nat) (x5 : Int32) (cv : CV) (H : Heap) (locs : List Loc) (ls : Array Slot) (o29 : Int32 × CV), jbL (fun s => f_X6_readCommand_L29 pv x1 x2 x4 (s.1) (s.2)) n (x5, cv) = some o29 → va_P (gD g) vwCl (wP g hp pv ++ wC g hcm cv ++ (wL g (hp 2) lq1 ++ wCs g hd L)) H → va_D A (wP g hp pv ++ wC g hcm cv ++ (wL g (hp 2) lq1 ++ wCs g hd L)) → va_S A s.heap H locs → lv_has ls 6 [(0, .ref (hp 0)), (1, .ref (gS g 1 x1)), (2, .int x2), (3, .ref (hcm 0)), (4, .int x4), (5, .int x5)] → (∀ (H : Heap) (locs : List Loc) (ls : Array Slot), va_P (gD g) vwCl (wP g hp pv ++ wC g hcm (o29.2) ++ (wL g (hp 2) lq1 ++ wCs g hd L)) H → va_D A (wP g hp pv ++ wC g hcm (o29.2) ++ (wL g (hp 2) lq1 ++ wCs g hd L)) → va_S A s.heap H locs → lv_has ls 6 [(0, .ref (hp 0)), (1, .ref (gS g 1 x1)), (3, .ref (hcm 0)), (4, .int x4)] → W p l e rm_X6_readCommand s mi [.ref (hp 0), .ref (gS g 1 a0), .int a1].toArray below meth c H locs 3 17 Q (F0 mi 69 ls [])) → W p l e rm_X6_readCommand s mi [.ref (hp 0), .ref (gS g 1 a0), .int a1].toArray below meth c H locs 3 17 Q (F0 mi 29 ls []) := by
    intro x1 x2 x4 n
    induction n with
    | zero => intro x5 cv H locs ls o29 hf; exact absurd hf (jbL_0 _ _ _)
    | succ n ih =>
      intro x5 cv H locs ls o29 hf hP hD hS hl hk
      obtain ⟨r, hf, hr⟩ := jbL_e hf
      have hf : f_X6_readCommand_L29 pv x1 x2 x4 x5 cv = some r := hf
      unfold f_X6_readCommand_L29 at hf
      have hJ63 : ∀ (cv : CV) (x5 : Int32) (H : Heap) (locs : List Loc) (ls : Array Slot) (r : Sum (Int32 × CV) (Int32 × CV)), f_X6_readCommand_J63 pv cv x1 x2 x4 x5 = some r → jbR (fun s => f_X6_readCommand_L29 pv x1 x2 x4 (s.1) (s.2)) n o29 r → va_P (gD g) vwCl (wP g hp pv ++ wC g hcm cv ++ (wL g (hp 2) lq1 ++ wCs g hd L)) H → va_D A (wP g hp pv ++ wC g hcm cv ++ (wL g (hp 2) lq1 ++ wCs g hd L)) → va_S A s.heap H locs → lv_has ls 6 [(0, .ref (hp 0)), (1, .ref (gS g 1 x1)), (2, .int x2), (3, .ref (hcm 0)), (4, .int x4), (5, .int x5)] → W p l e rm_X6_readCommand s mi [.ref (hp 0), .ref (gS g 1 a0), .int a1].toArray below meth c H locs 3 17 Q (F0 mi 63 ls []) := by
        intro cv x5 H locs ls r hf hr hP hD hS hl
        unfold f_X6_readCommand_J63 at hf
        refine lv_iinc (v := (x5 + 1)) (lv' := [(5, .int (x5 + 1)), (0, .ref (hp 0)), (1, .ref (gS g 1 x1)), (2, .int x2), (3, .ref (hcm 0)), (4, .int x4)]) hx hb dX6_readCommand_63 hl (k := 5) rfl rfl (by decide) rfl (fun ls hl => ?_)
        refine lv_goto (tgt := 29) hx hb dX6_readCommand_66 (by decide) ?_
        cases hf
        exact ih (x5 + 1) cv _ _ _ _ hr hP hD hS (lv_sub hl [1, 2, 3, 4, 5, 0] rfl) hk
      refine lv_iload hx hb dX6_readCommand_29 (lv_at hl 5 rfl) ?_
      refine lv_aload_n hx hb dX6_readCommand_31 rfl (lv_at hl 1 rfl) ?_
      obtain ⟨h14, hf⟩ := jbA_e hf
      obtain ⟨o12, g13, hf⟩ := jbB_e hf
      refine cvn_i (As := []) (rest := [.int x5]) ⟨hx, hb, hml, hown, hts⟩ (c_X9_length l g x1 _ g13) (cwV 0 hts gX6_readCommand_X9_length rfl rfl rfl hd_X9_length ⟨Nat.le_of_ble_eq_true rfl, Nat.le_of_ble_eq_true rfl⟩) hK hZ hT hA hP hD hS hl.1 (va_recvE hZ.2.1 h14 hS) rfl rfl (Nat.le_of_ble_eq_true rfl) ⟨Nat.le_of_ble_eq_true rfl, Nat.le_of_ble_eq_true rfl⟩ dX6_readCommand_32 (fun H locs hP hD hS => ?_)
      refine lv_icmp_ge (tgt := 69) hx hb dX6_readCommand_35 (by decide) (fun hc => ?_) (fun hc => ?_)
      · have hf := jbT hf hc
        cases hf
        obtain rfl := jbR_r hr
        exact hk _ _ _ hP hD hS (lv_sub hl [0, 1, 3, 4] rfl)
      · have hf := jbF hf hc
        refine lv_aload_n hx hb dX6_readCommand_38 rfl (lv_at hl 1 rfl) ?_
        refine lv_iload hx hb dX6_readCommand_39 (lv_at hl 5 rfl) ?_
        obtain ⟨h17, hf⟩ := jbA_e hf
        obtain ⟨o15, g16, hf⟩ := jbB_e hf
        refine cvn_i (As := [.int x5]) (rest := []) ⟨hx, hb, hml, hown, hts⟩ (c_X9_takesDigitAt l g x1 x5 _ g16) (cwV 1 hts gX6_readCommand_X9_takesDigitAt rfl rfl rfl hd_X9_takesDigitAt ⟨Nat.le_of_ble_eq_true rfl, Nat.le_of_ble_eq_true rfl⟩) hK hZ hT hA hP hD hS hl.1 (va_recvE hZ.2.1 h17 hS) rfl rfl (Nat.le_of_ble_eq_true rfl) ⟨Nat.le_of_ble_eq_true rfl, Nat.le_of_ble_eq_true rfl⟩ dX6_readCommand_41 (fun H locs hP hD hS => ?_)
        refine lv_if_eq (tgt := 63) hx hb dX6_readCommand_44 (by decide) (fun hc => ?_) (fun hc => ?_)
        · have hf := jbT hf hc
          exact hJ63 cv x5 _ _ _ _ hf hr hP hD hS (lv_sub hl [0, 1, 2, 3, 4, 5] rfl)
        · have hf := jbF hf hc
          refine lv_aload_n hx hb dX6_readCommand_47 rfl (lv_at hl 3 rfl) ?_
          refine lv_aload_n hx hb dX6_readCommand_48 rfl (lv_at hl 0 rfl) ?_
          refine va_get (D := gD g) (ci := 6) (v := .ref (hp 1)) (C := RX6) (T := TX6) (N := 3) hx hb hts hinX6 hown hK hP 0 rfl rfl 0 (by decide) k2 (fun _ h9 => h9) rfl dX6_readCommand_49 ?_
          refine lv_iload_n hx hb dX6_readCommand_52 rfl (lv_at hl 2 rfl) ?_
          refine lv_iload hx hb dX6_readCommand_53 (lv_at hl 5 rfl) ?_
          refine lv_iadd hx hb dX6_readCommand_55 ?_
          obtain ⟨h18, hf⟩ := jbA_e hf
          refine va_cald hx hb hK hP 1 2 rfl rfl h18 dX6_readCommand_56 ?_
          refine lv_bipush (v := 48) hx hb dX6_readCommand_57 (by decide) ?_
          refine lv_isub hx hb dX6_readCommand_59 ?_
          obtain ⟨o19, g20, hf⟩ := jbB_e hf
          refine cpv_v (As := [.int (((pText pv) (x2 + x5).toNatClampNeg) - 48)]) (rest := []) (Wr := (wP g hp pv ++ (wL g (hp 2) lq1 ++ wCs g hd L))) (Wn := (wP g hp pv ++ wC g hcm o19 ++ (wL g (hp 2) lq1 ++ wCs g hd L))) ⟨hx, hb, hml, hown, hts⟩ (c_X1_addNumber l g hcm cv (((pText pv) (x2 + x5).toNatClampNeg) - 48) _ g20) (cwV 1 hts gX6_readCommand_X1_addNumber rfl rfl rfl hd_X1_addNumber ⟨Nat.le_of_ble_eq_true rfl, Nat.le_of_ble_eq_true rfl⟩) hK hZ hT hA hP hD hS hl.1 (va_recv hK hP (ci := 3) (q0 := 2) rfl rfl) (wp_of fun f => by simp only [List.countP_append, List.countP_cons, List.countP_nil] <;> omega) (wp_of fun f => by simp only [List.countP_append, List.countP_cons, List.countP_nil] <;> omega) rfl rfl (Nat.le_of_ble_eq_true rfl) ⟨Nat.le_of_ble_eq_true rfl, Nat.le_of_ble_eq_true rfl⟩ dX6_readCommand_60 (fun H locs hP hD hS => ?_)
          exact hJ63 o19 x5 _ _ _ _ hf hr hP hD hS (lv_sub hl [0, 1, 2, 3, 4, 5] rfl)
  refine lv_iload_n hx hb dX6_readCommand_18 rfl (lv_at hl 3 rfl) ?_
  refine lv_aload_n hx hb dX6_readCommand_19 rfl (lv_at hl 2 rfl) ?_
  obtain ⟨h3, hf⟩ := jbA_e hf
  obtain ⟨o1, g2, hf⟩ := jbB_e hf
  refine cvn_i (As := []) (rest := [.int a1]) ⟨hx, hb, hml, hown, hts⟩ (c_X9_length l g a0 _ g2) (cwV 0 hts gX6_readCommand_X9_length rfl rfl rfl hd_X9_length ⟨Nat.le_of_ble_eq_true rfl, Nat.le_of_ble_eq_true rfl⟩) hK hZ hT hA hP hD hS hl.1 (va_recvE hZ.2.1 h3 hS) rfl rfl (Nat.le_of_ble_eq_true rfl) ⟨Nat.le_of_ble_eq_true rfl, Nat.le_of_ble_eq_true rfl⟩ dX6_readCommand_20 (fun H locs hP hD hS => ?_)
  refine lv_iadd hx hb dX6_readCommand_23 ?_
  refine lv_topi (fun z4 ez4 => ?_)
  have hf := jbN_e hf ez4
  refine lv_istore (lv' := [(4, .int z4), (3, .ref (hcm 0)), (0, .ref (hp 0)), (1, .ref (gS g 1 a0)), (2, .int a1)]) hx hb dX6_readCommand_24 hl (by decide) rfl (fun ls hl => ?_)
  refine lv_iconst (v := 0) hx hb dX6_readCommand_26 (by decide) ?_
  refine lv_istore (lv' := [(5, .int 0), (4, .int z4), (3, .ref (hcm 0)), (0, .ref (hp 0)), (1, .ref (gS g 1 a0)), (2, .int a1)]) hx hb dX6_readCommand_27 hl (by decide) rfl (fun ls hl => ?_)
  obtain ⟨o29, hg, hf⟩ := jbB_e hf
  refine hL29 a0 a1 z4 _ 0 w0 _ _ _ _ hg hP hD hS (lv_sub hl [3, 4, 5, 2, 1, 0] rfl) (fun H locs ls hP hD hS hl => ?_)
  refine lv_aload_n hx hb dX6_readCommand_69 rfl (lv_at hl 1 rfl) ?_
  refine va_gets (C := "TerraceQuarry$Verb") (n := "CRUSH") (d := "LTerraceQuarry$Verb;") (v := .ref (gS g 1 7)) hx hb (hZ.2.1.1 7 (by decide)).1 hS hown k0 (fun _ h9 => h9) dX6_readCommand_70 ?_
  obtain ⟨h5, hf⟩ := jbA_e hf
  refine lv_acmp_ne (rx := some (gS g 1 a0)) (ry := some (gS g 1 7)) (tgt := 115) hx hb dX6_readCommand_73 (by decide) (fun hc => ?_) (fun hc => ?_)
  · have hf := jbF hf (enN hc)
    refine lv_iload hx hb dX6_readCommand_115 (lv_at hl 3 rfl) ?_
    cases hf
    subst hQ
    exact rz_i (RT := ListS × (Nat → Nat → Nat)) (rv := fun _ => z4) (PR := fun u => lsRel u.1 u.2 (L ++ [(o29.2)])) (W1 := fun u => wP g hp pv ++ wL g (hp 2) u.1 ++ wCs g u.2 (L ++ [(o29.2)])) (lq1, fun k => if k = L.length then hcm else hd k) (lsRel_push hrel hlt9 hu) rfl hx hb hrt hlk rfl hK (wp_P rc_perm hP) (wp_D rc_perm hD) hS (Nat.le_of_ble_eq_true rfl) (Nat.le_of_ble_eq_true rfl) dX6_readCommand_117
  · have hf := jbT hf (enV hZ h5 (by decide) hc)
    refine lv_iload hx hb dX6_readCommand_76 (lv_at hl 3 rfl) ?_
    refine lv_aload_n hx hb dX6_readCommand_78 rfl (lv_at hl 0 rfl) ?_
    refine va_get (D := gD g) (ci := 6) (v := .int (pLength pv)) (C := RX6) (T := TX6) (N := 3) hx hb hts hinX6 hown hK hP 0 rfl rfl 2 (by decide) k1 (fun _ h9 => h9) rfl dX6_readCommand_79 ?_
    refine lv_icmp_ge (tgt := 115) hx hb dX6_readCommand_82 (by decide) (fun hc => ?_) (fun hc => ?_)
    · have hf := jbT hf hc
      refine lv_iload hx hb dX6_readCommand_115 (lv_at hl 3 rfl) ?_
      cases hf
      subst hQ
      exact rz_i (RT := ListS × (Nat → Nat → Nat)) (rv := fun _ => z4) (PR := fun u => lsRel u.1 u.2 (L ++ [(o29.2)])) (W1 := fun u => wP g hp pv ++ wL g (hp 2) u.1 ++ wCs g u.2 (L ++ [(o29.2)])) (lq1, fun k => if k = L.length then hcm else hd k) (lsRel_push hrel hlt9 hu) rfl hx hb hrt hlk rfl hK (wp_P rc_perm hP) (wp_D rc_perm hD) hS (Nat.le_of_ble_eq_true rfl) (Nat.le_of_ble_eq_true rfl) dX6_readCommand_117
    · have hf := jbF hf hc
      refine lv_aload_n hx hb dX6_readCommand_85 rfl (lv_at hl 0 rfl) ?_
      refine va_get (D := gD g) (ci := 6) (v := .ref (hp 1)) (C := RX6) (T := TX6) (N := 3) hx hb hts hinX6 hown hK hP 0 rfl rfl 0 (by decide) k2 (fun _ h9 => h9) rfl dX6_readCommand_86 ?_
      refine lv_iload hx hb dX6_readCommand_89 (lv_at hl 3 rfl) ?_
      obtain ⟨h6, hf⟩ := jbA_e hf
      refine va_cald hx hb hK hP 1 2 rfl rfl h6 dX6_readCommand_91 ?_
      obtain ⟨o7, g8, hf⟩ := jbB_e hf
      refine csn_i (As := [.int ((pText pv) z4.toNatClampNeg)]) (rest := []) ⟨hx, hb, hml, hown, hts⟩ (c_X9_isDigit l g ((pText pv) z4.toNatClampNeg) _ g8) (va_cwS 1 hts gX6_readCommand_X9_isDigit rfl rfl rfl hd_X9_isDigit ⟨Nat.le_of_ble_eq_true rfl, Nat.le_of_ble_eq_true rfl⟩) hK hZ hT hA hP hD hS hl.1 rfl rfl (Nat.le_of_ble_eq_true rfl) ⟨Nat.le_of_ble_eq_true rfl, Nat.le_of_ble_eq_true rfl⟩ dX6_readCommand_92 (fun H locs hP hD hS => ?_)
      refine lv_if_eq (tgt := 115) hx hb dX6_readCommand_95 (by decide) (fun hc => ?_) (fun hc => ?_)
      · have hf := jbT hf hc
        refine lv_iload hx hb dX6_readCommand_115 (lv_at hl 3 rfl) ?_
        cases hf
        subst hQ
        exact rz_i (RT := ListS × (Nat → Nat → Nat)) (rv := fun _ => z4) (PR := fun u => lsRel u.1 u.2 (L ++ [(o29.2)])) (W1 := fun u => wP g hp pv ++ wL g (hp 2) u.1 ++ wCs g u.2 (L ++ [(o29.2)])) (lq1, fun k => if k = L.length then hcm else hd k) (lsRel_push hrel hlt9 hu) rfl hx hb hrt hlk rfl hK (wp_P rc_perm hP) (wp_D rc_perm hD) hS (Nat.le_of_ble_eq_true rfl) (Nat.le_of_ble_eq_true rfl) dX6_readCommand_117
      · have hf := jbF hf hc
        refine lv_aload_n hx hb dX6_readCommand_98 rfl (lv_at hl 2 rfl) ?_
        refine lv_aload_n hx hb dX6_readCommand_99 rfl (lv_at hl 0 rfl) ?_
        refine va_get (D := gD g) (ci := 6) (v := .ref (hp 1)) (C := RX6) (T := TX6) (N := 3) hx hb hts hinX6 hown hK hP 0 rfl rfl 0 (by decide) k2 (fun _ h9 => h9) rfl dX6_readCommand_100 ?_
        refine lv_iload hx hb dX6_readCommand_103 (lv_at hl 3 rfl) ?_
        obtain ⟨h9, hf⟩ := jbA_e hf
        refine va_cald hx hb hK hP 1 2 rfl rfl h9 dX6_readCommand_105 ?_
        refine lv_bipush (v := 48) hx hb dX6_readCommand_106 (by decide) ?_
        refine lv_isub hx hb dX6_readCommand_108 ?_
        obtain ⟨o10, g11, hf⟩ := jbB_e hf
        refine cpv_v (As := [.int (((pText pv) z4.toNatClampNeg) - 48)]) (rest := []) (Wr := (wP g hp pv ++ (wL g (hp 2) lq1 ++ wCs g hd L))) (Wn := (wP g hp pv ++ wC g hcm o10 ++ (wL g (hp 2) lq1 ++ wCs g hd L))) ⟨hx, hb, hml, hown, hts⟩ (c_X1_addDigitToLast l g hcm (o29.2) (((pText pv) z4.toNatClampNeg) - 48) _ g11) (cwV 1 hts gX6_readCommand_X1_addDigitToLast rfl rfl rfl hd_X1_addDigitToLast ⟨Nat.le_of_ble_eq_true rfl, Nat.le_of_ble_eq_true rfl⟩) hK hZ hT hA hP hD hS hl.1 (va_recv hK hP (ci := 3) (q0 := 2) rfl rfl) (wp_of fun f => by simp only [List.countP_append, List.countP_cons, List.countP_nil] <;> omega) (wp_of fun f => by simp only [List.countP_append, List.countP_cons, List.countP_nil] <;> omega) rfl rfl (Nat.le_of_ble_eq_true rfl) ⟨Nat.le_of_ble_eq_true rfl, Nat.le_of_ble_eq_true rfl⟩ dX6_readCommand_109 (fun H locs hP hD hS => ?_)
        refine lv_iinc (v := (z4 + 1)) (lv' := [(4, .int (z4 + 1)), (0, .ref (hp 0)), (1, .ref (gS g 1 a0)), (3, .ref (hcm 0))]) hx hb dX6_readCommand_112 hl (k := 3) rfl rfl (by decide) rfl (fun ls hl => ?_)
        refine lv_iload hx hb dX6_readCommand_115 (lv_at hl 0 rfl) ?_
        cases hf
        subst hQ
        exact rz_i (RT := ListS × (Nat → Nat → Nat)) (rv := fun _ => (z4 + 1)) (PR := fun u => lsRel u.1 u.2 (L ++ [o10])) (W1 := fun u => wP g hp pv ++ wL g (hp 2) u.1 ++ wCs g u.2 (L ++ [o10])) (lq1, fun k => if k = L.length then hcm else hd k) (lsRel_push hrel hlt9 hu) rfl hx hb hrt hlk rfl hK (wp_P rc_perm hP) (wp_D rc_perm hD) hS (Nat.le_of_ble_eq_true rfl) (Nat.le_of_ble_eq_true rfl) dX6_readCommand_117
def f_X6_read_L (pv : PV) (x1 x2 : Int32) (L : List CV) : Option (Sum (Int32 × Int32 × List CV) (Int32 × List CV)) :=
  if 60 < x2 then some (.inr (pLength pv, L)) else
  (f_X6_verbAt pv x1).bind fun o =>
  match o with
  | none => (f_X6_longestMatch pv x1).bind fun m => some (.inr (x1 + m, L))
  | some v => if L.length < 10 then (f_X6_readCommand pv v x1).bind fun r =>
      if pLength pv ≤ r.1 then some (.inr (-1, L ++ [r.2])) else
      if jIn r.1 60 then if pText pv r.1.toNatClampNeg = 59 then some (.inl (r.1 + 1, x2 + 1, L ++ [r.2])) else some (.inr (r.1, L ++ [r.2])) else none
    else none
def f_X6_read (pv : PV) : Option (Int32 × List CV) := jbL (fun s => f_X6_read_L pv s.1 s.2.1 s.2.2) 5000 (0, 0, [])
def rm_X6_read : Room := { frames := 8, cells := 30, slots := 170, locals := 174 }
theorem hd_X6_read : yX6_read.cls = RX6 ∧ yX6_read.cls ≠ "java/lang/invoke/MethodHandle" ∧ yX6_read.cls ≠ "java/lang/invoke/VarHandle" ∧ (parseMethodDescriptor yX6_read.desc).map (fun d => d.parameters.length) = some 0 := by decide +kernel
set_option maxHeartbeats 4000000 in
set_option maxRecDepth 100000 in
theorem c_X6_read (l : Launch) (g : GG) (hp : Nat → Nat) (pv : PV) (lq : ListS) (n9 : Nat) (hn9 : n9 ≤ 10) (hsz9 : lq.2.1 = nI n9) (hnn : lq.2.2 = none → n9 = 0) (out : Int32 × List CV) (hf : f_X6_read pv = some out) : MzI (RT := ListS × (Nat → Nat → Nat)) l yX6_read wsX6_read rm_X6_read g (wP g hp pv ++ wL g (hp 2) lq) [.ref (hp 0)] (fun u => lsRel u.1 u.2 out.2) (fun _ => out.1) (fun u => wP g hp pv ++ wL g (hp 2) u.1 ++ wCs g u.2 out.2) 30 170 := by
  refine fun sz => mt_of (cc := cX6_read) (maxL := 5) (ret := (some .int)) (own := RX6) (Qc := fun A => va_Qi (fun r (u : ListS × (Nat → Nat → Nat)) => lsRel u.1 u.2 out.2 ∧ r = out.1) (fun u t => PosM g A (wP g hp pv ++ wL g (hp 2) u.1 ++ wCs g u.2 out.2) t) A) (by decide +kernel) rfl rfl (Nat.le_of_ble_eq_true rfl) ?_ sz
  intro p e s mi below meth c A ls hB hnm hrt hlk hP hD hl
  obtain ⟨hx, hb, hml, hown, hts, hK, hZ, hT, hA, -⟩ := hB
  have hS : va_S A s.heap s.heap [] := va_S.rf
  have hl : lv_has ls 5 [(0, .ref (hp 0))] := hl
  have hinX6 : ∀ w ∈ wsX60, w ∈ wsX6_read := by decide +kernel
  have kk0 := hts (.fieldLink RX6 16 "TerraceQuarry$Program" "commands" "Ljava/util/ArrayList;") (by decide +kernel)
  have kk1 := hts (.fieldLink RX6 20 "TerraceQuarry$Program" "length" "I") (by decide +kernel)
  have kk2 := hts (.fieldLink RX6 9 "TerraceQuarry$Program" "text" "[C") (by decide +kernel)
  have hP : va_P (gD g) vwCl ([((hp 0), .inr (6, [.ref (hp 1), .ref (hp 2), .int (pLength pv)])), ((hp 1), .inl (gC g 2, 60, .inl (pText pv)))] ++ wL g (hp 2) lq) s.heap := hP
  have hD : va_D A ([((hp 0), .inr (6, [.ref (hp 1), .ref (hp 2), .int (pLength pv)])), ((hp 1), .inl (gC g 2, 60, .inl (pText pv)))] ++ wL g (hp 2) lq) := hD
  refine lv_aload_n hx hb dX6_read_0 rfl (lv_at hl 0 rfl) ?_
  refine va_get (D := gD g) (ci := 6) (v := .ref (hp 2)) (C := RX6) (T := TX6) (N := 3) hx hb hts hinX6 hown hK hP 0 rfl rfl 1 (by decide) kk0 (fun _ h9 => h9) rfl dX6_read_1 ?_
  have hPr : va_P (gD g) vwCl (wL g (hp 2) lq ++ [((hp 0), .inr (6, [.ref (hp 1), .ref (hp 2), .int (pLength pv)])), ((hp 1), .inl (gC g 2, 60, .inl (pText pv)))]) _ := wp_P (wp_of fun f => by simp only [List.countP_append, List.countP_cons, List.countP_nil] <;> omega) hP
  refine czv_v (As := []) (rest := []) (Wr := [((hp 0), .inr (6, [.ref (hp 1), .ref (hp 2), .int (pLength pv)])), ((hp 1), .inl (gC g 2, 60, .inl (pText pv)))]) (Wn := fun lq1 => wP g hp pv ++ wL g (hp 2) lq1 ++ wCs g (fun _ _ => 0) []) ⟨hx, hb, hml, hown, hts⟩ (c_Jx4a65c_clear_da8c8 l g (hp 2) lq n9 hn9 hsz9 hnn) (cwV 0 hts gX6_read_Jx4a65c_clear_da8c8 rfl rfl rfl hd_Jx4a65c_clear_da8c8 ⟨(Nat.le_of_ble_eq_true rfl), (Nat.le_of_ble_eq_true rfl)⟩) hK hZ hT hA hP hD hS hl.1 (va_recv hK hPr (ci := 2) (q0 := 0) rfl rfl) (wp_of fun f => by simp only [List.countP_append, List.countP_cons, List.countP_nil] <;> omega) (fun _ => wp_of fun f => by unfold wP wCs; simp only [List.countP_append, List.countP_cons, List.countP_nil] <;> omega) rfl rfl (Nat.le_of_ble_eq_true rfl) ⟨(Nat.le_of_ble_eq_true rfl), (Nat.le_of_ble_eq_true rfl)⟩ dX6_read_4 (fun lq1 H locs hu hP hD hS => ?_)
  refine lv_iconst (v := 0) hx hb dX6_read_7 (by decide) ?_
  refine lv_istore_n (lv' := [(1, .int 0), (0, .ref (hp 0))]) hx hb dX6_read_8 rfl hl (by decide) rfl (fun ls hl => ?_)
  refine lv_iconst (v := 0) hx hb dX6_read_9 (by decide) ?_
  refine lv_istore_n (lv' := [(2, .int 0), (1, .int 0), (0, .ref (hp 0))]) hx hb dX6_read_10 rfl hl (by decide) rfl (fun ls hl => ?_)
  have hloop : ∀ (n : Nat) (x1 x2 : Int32) (L : List CV) (lq1 : ListS) (hd : Nat → Nat → Nat) (H : Heap) (locs : List Loc) (ls : Array Slot), jbL (fun s => f_X6_read_L pv s.1 s.2.1 s.2.2) n (x1, x2, L) = some out → lsRel lq1 hd L → va_P (gD g) vwCl (wP g hp pv ++ wL g (hp 2) lq1 ++ wCs g hd L) H → va_D A (wP g hp pv ++ wL g (hp 2) lq1 ++ wCs g hd L) → va_S A s.heap H locs → lv_has ls 5 [(2, .int x2), (1, .int x1), (0, .ref (hp 0))] → W p l e rm_X6_read s mi [.ref (hp 0)].toArray below meth c H locs (3 * L.length) (17 * L.length) (MQ below (va_Qi (fun r (u : ListS × (Nat → Nat → Nat)) => lsRel u.1 u.2 out.2 ∧ r = out.1) (fun u t => PosM g A (wP g hp pv ++ wL g (hp 2) u.1 ++ wCs g u.2 out.2) t) A) [.ref (hp 0)].toArray s 30 170 A) (F0 mi 11 ls []) := by
    intro n
    induction n with
    | zero => intro x1 x2 L lq1 hd H locs ls hf; exact absurd hf (jbL_0 _ _ _)
    | succ n ih =>
    intro x1 x2 L lq1 hd H locs ls hf hrel hP hD hS hl
    obtain ⟨r, hf, hr⟩ := jbL_e hf
    have hf : f_X6_read_L pv x1 x2 L = some r := hf
    unfold f_X6_read_L at hf
    have hL10 := hrel.2.1
    refine lv_iload_n hx hb dX6_read_11 rfl (lv_at hl 0 rfl) ?_
    refine lv_bipush (v := 60) hx hb dX6_read_12 (by decide) ?_
    refine lv_icmp_gt (tgt := 80) hx hb dX6_read_14 (by decide) (fun hc => ?_) (fun hc => ?_)
    · have hf := jbT hf hc
      cases hf
      obtain rfl := jbR_r hr
      refine lv_aload_n hx hb dX6_read_80 rfl (lv_at hl 2 rfl) ?_
      refine va_get (D := gD g) (ci := 6) (v := .int (pLength pv)) (C := RX6) (T := TX6) (N := 3) hx hb hts hinX6 hown hK hP 0 rfl rfl 2 (by decide) kk1 (fun _ h9 => h9) rfl dX6_read_81 ?_
      exact rz_i (RT := ListS × (Nat → Nat → Nat)) (rv := fun _ => pLength pv) (PR := fun u => lsRel u.1 u.2 (L)) (W1 := fun u => wP g hp pv ++ wL g (hp 2) u.1 ++ wCs g u.2 (L)) (lq1, hd) hrel rfl hx hb hrt hlk rfl hK hP hD hS (show 3 * L.length ≤ 30 by omega) (show 17 * L.length ≤ 170 by omega) dX6_read_84
    have hf := jbF hf hc
    obtain ⟨o, hg, hf⟩ := jbB_e hf
    refine lv_aload_n hx hb dX6_read_17 rfl (lv_at hl 2 rfl) ?_
    refine lv_iload_n hx hb dX6_read_18 rfl (lv_at hl 1 rfl) ?_
    have hP : va_P (gD g) vwCl (wP g hp pv ++ wL g (hp 2) lq1 ++ wCs g hd L) H := hP
    have hD : va_D A (wP g hp pv ++ wL g (hp 2) lq1 ++ wCs g hd L) := hD
    cases o with
    | none =>
      obtain ⟨m9, hg2, hf⟩ := jbB_e hf
      cases hf
      obtain rfl := jbR_r hr
      refine cpv_r (rv := none) (As := [.int x1]) (rest := []) (Wr := (wL g (hp 2) lq1 ++ wCs g hd L)) (Wn := wP g hp pv ++ wL g (hp 2) lq1 ++ wCs g hd L) ⟨hx, hb, hml, hown, hts⟩ (c_X6_verbAt l g hp pv _ _ hg) (cwV 1 hts gX6_read_X6_verbAt rfl rfl rfl hd_X6_verbAt ⟨(Nat.le_of_ble_eq_true rfl), (Nat.le_of_ble_eq_true rfl)⟩) hK hZ hT hA hP hD hS hl.1 (va_recv hK hP (ci := 6) (q0 := 0) rfl rfl) (wp_of fun f => by simp only [List.countP_append, List.countP_cons, List.countP_nil] <;> omega) (wp_of fun f => by simp only [List.countP_append, List.countP_cons, List.countP_nil] <;> omega) rfl rfl (Nat.le_of_ble_eq_true rfl) ⟨show 3 * L.length + 0 ≤ 30 by omega, show 17 * L.length + 0 ≤ 170 by omega⟩ dX6_read_19 (fun H locs hP hD hS => ?_)
      refine lv_astore_nN (lv' := [(3, .null), (2, .int x2), (1, .int x1), (0, .ref (hp 0))]) hx hb dX6_read_22 rfl hl (by decide) rfl (fun ls hl => ?_)
      refine lv_aload_nN hx hb dX6_read_23 rfl (lv_at hl 0 rfl) ?_
      refine lv_ifnonnullN hx hb dX6_read_24 ?_
      refine lv_iload_n hx hb dX6_read_27 rfl (lv_at hl 2 rfl) ?_
      refine lv_aload_n hx hb dX6_read_28 rfl (lv_at hl 3 rfl) ?_
      refine lv_iload_n hx hb dX6_read_29 rfl (lv_at hl 2 rfl) ?_
      refine cpv_i (As := [.int x1]) (rest := [.int x1]) (Wr := (wL g (hp 2) lq1 ++ wCs g hd L)) (Wn := wP g hp pv ++ wL g (hp 2) lq1 ++ wCs g hd L) ⟨hx, hb, hml, hown, hts⟩ (c_X6_longestMatch l g hp pv _ _ hg2) (cwV 1 hts gX6_read_X6_longestMatch rfl rfl rfl hd_X6_longestMatch ⟨(Nat.le_of_ble_eq_true rfl), (Nat.le_of_ble_eq_true rfl)⟩) hK hZ hT hA hP hD hS hl.1 (va_recv hK hP (ci := 6) (q0 := 0) rfl rfl) (wp_of fun f => by simp only [List.countP_append, List.countP_cons, List.countP_nil] <;> omega) (wp_of fun f => by simp only [List.countP_append, List.countP_cons, List.countP_nil] <;> omega) rfl rfl (Nat.le_of_ble_eq_true rfl) ⟨show 3 * L.length + 0 + 0 ≤ 30 by omega, show 17 * L.length + 0 + 0 ≤ 170 by omega⟩ dX6_read_30 (fun H locs hP hD hS => ?_)
      refine lv_iadd hx hb dX6_read_33 ?_
      exact rz_i (RT := ListS × (Nat → Nat → Nat)) (rv := fun _ => (x1 + m9)) (PR := fun u => lsRel u.1 u.2 (L)) (W1 := fun u => wP g hp pv ++ wL g (hp 2) u.1 ++ wCs g u.2 (L)) (lq1, hd) hrel rfl hx hb hrt hlk rfl hK hP hD hS (show 3 * L.length ≤ 30 by omega) (show 17 * L.length ≤ 170 by omega) dX6_read_34
    | some v =>
      obtain ⟨hlt9, hf⟩ := jbA_e hf
      obtain ⟨r9, hg2, hf⟩ := jbB_e hf
      refine cpv_r (rv := some (gS g 1 v)) (As := [.int x1]) (rest := []) (Wr := (wL g (hp 2) lq1 ++ wCs g hd L)) (Wn := wP g hp pv ++ wL g (hp 2) lq1 ++ wCs g hd L) ⟨hx, hb, hml, hown, hts⟩ (c_X6_verbAt l g hp pv _ _ hg) (cwV 1 hts gX6_read_X6_verbAt rfl rfl rfl hd_X6_verbAt ⟨(Nat.le_of_ble_eq_true rfl), (Nat.le_of_ble_eq_true rfl)⟩) hK hZ hT hA hP hD hS hl.1 (va_recv hK hP (ci := 6) (q0 := 0) rfl rfl) (wp_of fun f => by simp only [List.countP_append, List.countP_cons, List.countP_nil] <;> omega) (wp_of fun f => by simp only [List.countP_append, List.countP_cons, List.countP_nil] <;> omega) rfl rfl (Nat.le_of_ble_eq_true rfl) ⟨show 3 * L.length + 0 ≤ 30 by omega, show 17 * L.length + 0 ≤ 170 by omega⟩ dX6_read_19 (fun H locs hP hD hS => ?_)
      refine lv_astore_n (lv' := [(3, .ref (gS g 1 v)), (2, .int x2), (1, .int x1), (0, .ref (hp 0))]) hx hb dX6_read_22 rfl hl (by decide) rfl (fun ls hl => ?_)
      refine lv_aload_n hx hb dX6_read_23 rfl (lv_at hl 0 rfl) ?_
      refine lv_ifnonnull (tgt := 35) hx hb dX6_read_24 (by decide) ?_
      refine lv_aload_n hx hb dX6_read_35 rfl (lv_at hl 3 rfl) ?_
      refine lv_aload_n hx hb dX6_read_36 rfl (lv_at hl 0 rfl) ?_
      refine lv_iload_n hx hb dX6_read_37 rfl (lv_at hl 2 rfl) ?_
      refine czv_i (As := [.ref (gS g 1 v), .int x1]) (rest := []) (Wr := []) (Wn := fun u => wP g hp pv ++ wL g (hp 2) u.1 ++ wCs g u.2 (L ++ [r9.2])) ⟨hx, hb, hml, hown, hts⟩ (c_X6_readCommand l g hp pv lq1 hd L hrel hlt9 v x1 r9 hg2) (cwV 2 hts gX6_read_X6_readCommand rfl rfl rfl hd_X6_readCommand ⟨(Nat.le_of_ble_eq_true rfl), (Nat.le_of_ble_eq_true rfl)⟩) hK hZ hT hA hP hD hS hl.1 (va_recv hK hP (ci := 6) (q0 := 0) rfl rfl) (wp_of fun f => by simp only [List.countP_append, List.countP_cons, List.countP_nil] <;> omega) (fun _ => (wp_of fun f => by simp only [List.countP_append, List.countP_cons, List.countP_nil] <;> omega)) rfl rfl (Nat.le_of_ble_eq_true rfl) ⟨show 3 * L.length + 0 + 3 ≤ 30 by omega, show 17 * L.length + 0 + 17 ≤ 170 by omega⟩ dX6_read_38 (fun u H locs hu hP hD hS => ?_)
      have hlen : (L ++ [r9.2]).length = L.length + 1 := by simp
      obtain ⟨lq2, hd2⟩ := u
      refine lv_istore (lv' := [(4, .int r9.1), (3, .ref (gS g 1 v)), (2, .int x2), (1, .int x1), (0, .ref (hp 0))]) hx hb dX6_read_41 hl (by decide) rfl (fun ls hl => ?_)
      refine lv_iload hx hb dX6_read_43 (lv_at hl 0 rfl) ?_
      refine lv_aload_n hx hb dX6_read_45 rfl (lv_at hl 4 rfl) ?_
      refine va_get (D := gD g) (ci := 6) (v := .int (pLength pv)) (C := RX6) (T := TX6) (N := 3) hx hb hts hinX6 hown hK hP 0 rfl rfl 2 (by decide) kk1 (fun _ h9 => h9) rfl dX6_read_46 ?_
      refine lv_icmp_lt (tgt := 54) hx hb dX6_read_49 (by decide) (fun hc2 => ?_) (fun hc2 => ?_)
      · have hf := jbF hf (fun h => absurd hc2 (Int32.not_lt.mpr h))
        obtain ⟨hj, hf⟩ := jbA_e hf
        refine lv_aload_n hx hb dX6_read_54 rfl (lv_at hl 4 rfl) ?_
        refine va_get (D := gD g) (ci := 6) (v := .ref (hp 1)) (C := RX6) (T := TX6) (N := 3) hx hb hts hinX6 hown hK hP 0 rfl rfl 0 (by decide) kk2 (fun _ h9 => h9) rfl dX6_read_55 ?_
        refine lv_iload hx hb dX6_read_58 (lv_at hl 0 rfl) ?_
        refine va_cald hx hb hK hP 1 2 rfl rfl hj dX6_read_60 ?_
        refine lv_bipush (v := 59) hx hb dX6_read_61 (by decide) ?_
        refine lv_icmp_eq (tgt := 69) hx hb dX6_read_63 (by decide) (fun hc3 => ?_) (fun hc3 => ?_)
        · have hf := jbT hf hc3
          cases hf
          refine lv_iload hx hb dX6_read_69 (lv_at hl 0 rfl) ?_
          refine lv_iconst (v := 1) hx hb dX6_read_71 (by decide) ?_
          refine lv_iadd hx hb dX6_read_72 ?_
          refine lv_istore_n (lv' := [(1, .int (r9.1 + 1)), (4, .int r9.1), (3, .ref (gS g 1 v)), (2, .int x2), (0, .ref (hp 0))]) hx hb dX6_read_73 rfl hl (by decide) rfl (fun ls hl => ?_)
          refine lv_iinc (v := x2 + 1) (lv' := [(2, .int (x2 + 1)), (1, .int (r9.1 + 1)), (4, .int r9.1), (3, .ref (gS g 1 v)), (0, .ref (hp 0))]) hx hb dX6_read_74 hl (k := 3) rfl rfl (by decide) rfl (fun ls hl => ?_)
          refine lv_goto (tgt := 11) hx hb dX6_read_77 (by decide) ?_
          refine W.widen (k := 3 * (L ++ [r9.2]).length) (n := 17 * (L ++ [r9.2]).length) (by rw [hlen]; omega) (by rw [hlen]; omega) ?_
          exact ih (r9.1 + 1) (x2 + 1) (L ++ [r9.2]) lq2 hd2 H _ ls hr hu hP hD hS (lv_sub hl [0, 1, 4] rfl)
        · have hf := jbF hf hc3
          cases hf
          obtain rfl := jbR_r hr
          refine lv_iload hx hb dX6_read_66 (lv_at hl 0 rfl) ?_
          exact rz_i (RT := ListS × (Nat → Nat → Nat)) (rv := fun _ => r9.1) (PR := fun u => lsRel u.1 u.2 (L ++ [r9.2])) (W1 := fun u => wP g hp pv ++ wL g (hp 2) u.1 ++ wCs g u.2 (L ++ [r9.2])) (lq2, hd2) hu rfl hx hb hrt hlk rfl hK hP hD hS (show 3 * L.length + 3 ≤ 30 by omega) (show 17 * L.length + 17 ≤ 170 by omega) dX6_read_68
      · have hf := jbT hf (Int32.not_lt.mp hc2)
        cases hf
        obtain rfl := jbR_r hr
        refine lv_iconst (v := (-1)) hx hb dX6_read_52 (by decide) ?_
        exact rz_i (RT := ListS × (Nat → Nat → Nat)) (rv := fun _ => (-1)) (PR := fun u => lsRel u.1 u.2 (L ++ [r9.2])) (W1 := fun u => wP g hp pv ++ wL g (hp 2) u.1 ++ wCs g u.2 (L ++ [r9.2])) (lq2, hd2) hu rfl hx hb hrt hlk rfl hK hP hD hS (show 3 * L.length + 3 ≤ 30 by omega) (show 17 * L.length + 17 ≤ 170 by omega) dX6_read_53
  unfold f_X6_read at hf
  exact hloop 5000 0 0 [] lq1 (fun _ _ => 0) _ _ _ hf ⟨hu, by simp, fun _ => rfl, fun e _ k hk => absurd hk (Nat.not_lt_zero k)⟩ hP hD hS hl
def f_X6_carryOut_L (L : List CV) (x2 : Int32) (qv : QV) : Option (Sum (Int32 × QV) (Int32 × QV)) :=
  if nI L.length ≤ x2 then some (.inr (-1, qv)) else
  match L[x2.toNatClampNeg]? with
  | none => none
  | some c => (f_J15_checkIndex_7cf53 x2 (nI L.length)).bind fun _ => if jIn x2 10 then (f_X1_faultIn c qv).bind fun fa => if fa < 6 then if fa = 0 then (f_X1_change c qv).bind fun q => some (.inl (x2 + 1, q)) else some (.inr (x2, qv)) else none else none
def f_X6_carryOut (L : List CV) (qv : QV) : Option (Int32 × QV) := jbL (fun s => f_X6_carryOut_L L s.1 s.2) 5000 (0, qv)
def rm_X6_carryOut : Room := { frames := 5, cells := 0, slots := 0, locals := 114 }
theorem hd_X6_carryOut : yX6_carryOut.cls = RX6 ∧ yX6_carryOut.cls ≠ "java/lang/invoke/MethodHandle" ∧ yX6_carryOut.cls ≠ "java/lang/invoke/VarHandle" ∧ (parseMethodDescriptor yX6_carryOut.desc).map (fun d => d.parameters.length) = some 1 := by decide +kernel
set_option maxHeartbeats 4000000 in
set_option maxRecDepth 100000 in
theorem c_X6_carryOut (l : Launch) (g : GG) (hp : Nat → Nat) (pv : PV) (lq : ListS) (hd : Nat → Nat → Nat) (L : List CV) (hrel : lsRel lq hd L) (hq : Nat → Nat) (qv : QV) (out : Int32 × QV) (hf : f_X6_carryOut L qv = some out) : MtI l yX6_carryOut wsX6_carryOut rm_X6_carryOut g (wP g hp pv ++ wL g (hp 2) lq ++ wCs g hd L ++ wQ g hq qv) [.ref (hp 0), .ref (hq 0)] out.1 (wP g hp pv ++ wL g (hp 2) lq ++ wCs g hd L ++ wQ g hq out.2) 0 0 := by
  refine fun sz => mt_of (cc := cX6_carryOut) (maxL := 4) (ret := (some .int)) (own := RX6) (Qc := fun A => va_Qi (fun r (_ : Unit) => r = out.1) (fun _ t => PosM g A (wP g hp pv ++ wL g (hp 2) lq ++ wCs g hd L ++ wQ g hq out.2) t) A) (by decide +kernel) rfl rfl (Nat.le_of_ble_eq_true rfl) ?_ sz
  intro p e s mi below meth c A ls hB hnm hrt hlk hP hD hl
  obtain ⟨hx, hb, hml, hown, hts, hK, hZ, hT, hA, -⟩ := hB
  have hS : va_S A s.heap s.heap [] := va_S.rf
  have hl : lv_has ls 4 [(0, .ref (hp 0)), (1, .ref (hq 0))] := hl
  have hinJx4a65c : ∀ w ∈ wsJx4a65c0, w ∈ wsX6_carryOut := by decide +kernel
  have hinX1 : ∀ w ∈ wsX10, w ∈ wsX6_carryOut := by decide +kernel
  have hinX6 : ∀ w ∈ wsX60, w ∈ wsX6_carryOut := by decide +kernel
  have kk0 := hts (.fieldLink RX6 16 "TerraceQuarry$Program" "commands" "Ljava/util/ArrayList;") (by decide +kernel)
  have kk1 := hts (.classLink RX6 66 RX1) (by decide +kernel)
  have kk2 := hts (.fieldLink RX6 102 "TerraceQuarry$Fault" "NONE" "LTerraceQuarry$Fault;") (by decide +kernel)
  have hP : va_P (gD g) vwCl ([((hp 0), .inr (6, [.ref (hp 1), .ref (hp 2), .int (pLength pv)])), ((hp 1), .inl (gC g 2, 60, .inl (pText pv)))] ++ wL g (hp 2) lq ++ wCs g hd L ++ wQ g hq qv) s.heap := hP
  have hD : va_D A ([((hp 0), .inr (6, [.ref (hp 1), .ref (hp 2), .int (pLength pv)])), ((hp 1), .inl (gC g 2, 60, .inl (pText pv)))] ++ wL g (hp 2) lq ++ wCs g hd L ++ wQ g hq qv) := hD
  refine lv_iconst (v := 0) hx hb dX6_carryOut_0 (by decide) ?_
  refine lv_istore_n (lv' := [(2, .int 0), (0, .ref (hp 0)), (1, .ref (hq 0))]) hx hb dX6_carryOut_1 rfl hl (by decide) rfl (fun ls hl => ?_)
  have hloop : ∀ (n : Nat) (x2 : Int32) (qv : QV) (H : Heap) (locs : List Loc) (ls : Array Slot), jbL (fun s => f_X6_carryOut_L L s.1 s.2) n (x2, qv) = some out → va_P (gD g) vwCl (wP g hp pv ++ wL g (hp 2) lq ++ wCs g hd L ++ wQ g hq qv) H → va_D A (wP g hp pv ++ wL g (hp 2) lq ++ wCs g hd L ++ wQ g hq qv) → va_S A s.heap H locs → lv_has ls 4 [(2, .int x2), (0, .ref (hp 0)), (1, .ref (hq 0))] → W p l e rm_X6_carryOut s mi [.ref (hp 0), .ref (hq 0)].toArray below meth c H locs 0 0 (MQ below (va_Qi (fun r (_ : Unit) => r = out.1) (fun _ t => PosM g A (wP g hp pv ++ wL g (hp 2) lq ++ wCs g hd L ++ wQ g hq out.2) t) A) [.ref (hp 0), .ref (hq 0)].toArray s 0 0 A) (F0 mi 2 ls []) := by
    intro n
    induction n with
    | zero => intro x2 qv H locs ls hf; exact absurd hf (jbL_0 _ _ _)
    | succ n ih =>
    intro x2 qv H locs ls hf hP hD hS hl
    obtain ⟨r, hf, hr⟩ := jbL_e hf
    have hf : f_X6_carryOut_L L x2 qv = some r := hf
    unfold f_X6_carryOut_L at hf
    refine lv_iload_n hx hb dX6_carryOut_2 rfl (lv_at hl 0 rfl) ?_
    refine lv_aload_n hx hb dX6_carryOut_3 rfl (lv_at hl 1 rfl) ?_
    refine va_get (D := gD g) (ci := 6) (v := .ref (hp 2)) (C := RX6) (T := TX6) (N := 3) hx hb hts hinX6 hown hK hP 0 rfl rfl 1 (by decide) kk0 (fun _ h9 => h9) rfl dX6_carryOut_4 ?_
    have hPr : va_P (gD g) vwCl (wL g (hp 2) lq ++ (wP g hp pv ++ wCs g hd L ++ wQ g hq qv)) _ := wp_P (wp_of fun f => by unfold wP; simp only [List.countP_append, List.countP_cons, List.countP_nil] <;> omega) hP
    refine cpv_i (As := []) (rest := [.int x2]) (Wr := (wP g hp pv ++ wCs g hd L ++ wQ g hq qv)) (Wn := wP g hp pv ++ wL g (hp 2) lq ++ wCs g hd L ++ wQ g hq qv) ⟨hx, hb, hml, hown, hts⟩ (c_Jx4a65c_size_8abf5 l g (hp 2) lq) (cwV 0 hts gX6_carryOut_Jx4a65c_size_8abf5 rfl rfl rfl hd_Jx4a65c_size_8abf5 ⟨(Nat.le_of_ble_eq_true rfl), (Nat.le_of_ble_eq_true rfl)⟩) hK hZ hT hA hP hD hS hl.1 (va_recv hK hPr (ci := 2) (q0 := 0) rfl rfl) (wp_of fun f => by unfold wP; simp only [List.countP_append, List.countP_cons, List.countP_nil] <;> omega) (wp_of fun f => by simp only [List.countP_append, List.countP_cons, List.countP_nil] <;> omega) rfl rfl (Nat.le_of_ble_eq_true rfl) ⟨(Nat.le_of_ble_eq_true rfl), (Nat.le_of_ble_eq_true rfl)⟩ dX6_carryOut_7 (fun H locs hP hD hS => ?_)
    rw [hrel.1]
    refine lv_icmp_ge (tgt := 49) hx hb dX6_carryOut_10 (by decide) (fun hc => ?_) (fun hc => ?_)
    · have hf := jbT hf hc
      cases hf
      obtain rfl := jbR_r hr
      refine lv_iconst (v := (-1)) hx hb dX6_carryOut_49 (by decide) ?_
      exact rt_i hx hb hrt hlk rfl hK hP hD hS (Nat.le_of_ble_eq_true rfl) (Nat.le_of_ble_eq_true rfl) dX6_carryOut_50
    have hf := jbF hf hc
    cases hLx : L[x2.toNatClampNeg]? with
    | none => rw [hLx] at hf; cases hf
    | some cv =>
      rw [hLx] at hf
      obtain ⟨z9, hg1, hf⟩ := jbB_e hf
      obtain ⟨hj, hf⟩ := jbA_e hf
      obtain ⟨fa, hg2, hf⟩ := jbB_e hf
      obtain ⟨hfa, hf⟩ := jbA_e hf
      obtain ⟨X, hxp⟩ := wCs_get (g := g) L hd x2.toNatClampNeg cv hLx
      have hlt9 : x2.toNatClampNeg < L.length := (List.getElem?_eq_some_iff.mp hLx).1
      obtain ⟨o9, ho⟩ : ∃ o, lq.2.2 = o := ⟨_, rfl⟩
      cases o9 with
      | none => have h0 := hrel.2.2.1 ho; rw [h0] at hlt9; exact absurd hlt9 (Nat.not_lt_zero _)
      | some e9 =>
        obtain ⟨ea, fe⟩ := e9
        have hfe : fe x2.toNatClampNeg = some (hd x2.toNatClampNeg 0) := hrel.2.2.2 _ ho _ hlt9
        refine lv_aload_n hx hb dX6_carryOut_13 rfl (lv_at hl 1 rfl) ?_
        refine va_get (D := gD g) (ci := 6) (v := .ref (hp 2)) (C := RX6) (T := TX6) (N := 3) hx hb hts hinX6 hown hK hP 0 rfl rfl 1 (by decide) kk0 (fun _ h9 => h9) rfl dX6_carryOut_14 ?_
        refine lv_iload_n hx hb dX6_carryOut_17 rfl (lv_at hl 0 rfl) ?_
        have hPr : va_P (gD g) vwCl (wL g (hp 2) lq ++ (wP g hp pv ++ wCs g hd L ++ wQ g hq qv)) _ := wp_P (wp_of fun f => by unfold wP; simp only [List.countP_append, List.countP_cons, List.countP_nil] <;> omega) hP
        have hxl : wL g (hp 2) lq = [((hp 2), .inr (2, [.int lq.1, .ref ea, .int lq.2.1])), (ea, .inl (gC g 6, 10, .inr (.inr (.inr (.inr fe)))))] := ls_in g (hp 2) ho
        have hcg : MtR l yJx4a65c_get_915e3 wsJx4a65c_get_915e3 rm_Jx4a65c_get_915e3 g [((hp 2), .inr (2, [.int lq.1, .ref ea, .int lq.2.1])), (ea, .inl (gC g 6, 10, .inr (.inr (.inr (.inr fe)))))] [.ref (hp 2), .int x2] (some (hd x2.toNatClampNeg 0)) [((hp 2), .inr (2, [.int lq.1, .ref ea, .int lq.2.1])), (ea, .inl (gC g 6, 10, .inr (.inr (.inr (.inr fe)))))] 0 0 := by
          rw [← hfe]
          exact c_Jx4a65c_get_915e3 l g (hp 2) ea lq.1 lq.2.1 fe x2 z9 hj (by rw [hrel.1]; exact hg1)
        refine cpv_r (rv := some (hd x2.toNatClampNeg 0)) (As := [.int x2]) (rest := []) (Wr := (wP g hp pv ++ wCs g hd L ++ wQ g hq qv)) (Wn := wP g hp pv ++ wL g (hp 2) lq ++ wCs g hd L ++ wQ g hq qv) ⟨hx, hb, hml, hown, hts⟩ hcg (cwV 1 hts gX6_carryOut_Jx4a65c_get_915e3 rfl rfl rfl hd_Jx4a65c_get_915e3 ⟨(Nat.le_of_ble_eq_true rfl), (Nat.le_of_ble_eq_true rfl)⟩) hK hZ hT hA hP hD hS hl.1 (va_recv hK hPr (ci := 2) (q0 := 0) rfl rfl) (by rw [← hxl]; exact (wp_of fun f => by simp only [List.countP_append, List.countP_cons, List.countP_nil] <;> omega)) (by rw [← hxl]; exact (wp_of fun f => by simp only [List.countP_append, List.countP_cons, List.countP_nil] <;> omega)) rfl rfl (Nat.le_of_ble_eq_true rfl) ⟨(Nat.le_of_ble_eq_true rfl), (Nat.le_of_ble_eq_true rfl)⟩ dX6_carryOut_18 (fun H locs hP hD hS => ?_)
        have hPr : va_P (gD g) vwCl (wC g (hd x2.toNatClampNeg) cv ++ (wP g hp pv ++ wL g (hp 2) lq ++ X ++ wQ g hq qv)) _ := wp_P (wp_of fun f => by have h3 := hxp.countP_eq f; simp only [List.countP_append, List.countP_cons, List.countP_nil] at h3 ⊢; omega) hP
        refine va_castS (nm := RX1) (cC := (gD g).1 3) hx hb hown kk1 (hK.1 3 _ rfl).2 (va_recv hK hPr (ci := 3) (q0 := 0) rfl rfl) dX6_carryOut_21 ?_
        refine lv_astore_n (lv' := [(3, .ref (hd x2.toNatClampNeg 0)), (2, .int x2), (0, .ref (hp 0)), (1, .ref (hq 0))]) hx hb dX6_carryOut_24 rfl hl (by decide) rfl (fun ls hl => ?_)
        refine lv_aload_n hx hb dX6_carryOut_25 rfl (lv_at hl 0 rfl) ?_
        refine lv_aload_n hx hb dX6_carryOut_26 rfl (lv_at hl 3 rfl) ?_
        refine cpv_r (rv := some (gS g 0 fa)) (As := [.ref (hq 0)]) (rest := []) (Wr := (wP g hp pv ++ wL g (hp 2) lq ++ X)) (Wn := wP g hp pv ++ wL g (hp 2) lq ++ wCs g hd L ++ wQ g hq qv) ⟨hx, hb, hml, hown, hts⟩ (c_X1_faultIn l g (hd x2.toNatClampNeg) cv hq qv _ hg2) (cwV 1 hts gX6_carryOut_X1_faultIn rfl rfl rfl hd_X1_faultIn ⟨(Nat.le_of_ble_eq_true rfl), (Nat.le_of_ble_eq_true rfl)⟩) hK hZ hT hA hP hD hS hl.1 (va_recv hK hPr (ci := 3) (q0 := 0) rfl rfl) (wp_of fun f => by have h3 := hxp.countP_eq f; simp only [List.countP_append, List.countP_cons, List.countP_nil] at h3 ⊢; omega) (wp_of fun f => by have h3 := hxp.countP_eq f; simp only [List.countP_append, List.countP_cons, List.countP_nil] at h3 ⊢; omega) rfl rfl (Nat.le_of_ble_eq_true rfl) ⟨(Nat.le_of_ble_eq_true rfl), (Nat.le_of_ble_eq_true rfl)⟩ dX6_carryOut_27 (fun H locs hP hD hS => ?_)
        refine va_gets (C := "TerraceQuarry$Fault") (n := "NONE") (d := "LTerraceQuarry$Fault;") (v := .ref (gS g 0 0)) hx hb (hZ.1.1 0 (by decide)).1 hS hown kk2 (fun _ h9 => h9) dX6_carryOut_30 ?_
        refine lv_acmp_eq (rx := some (gS g 0 fa)) (ry := some (gS g 0 0)) (tgt := 38) hx hb dX6_carryOut_33 (by decide) (fun hc => ?_) (fun hc => ?_)
        · have hf := jbT hf (enF hZ hfa (by decide) hc)
          obtain ⟨q9, hg3, hf⟩ := jbB_e hf
          cases hf
          refine lv_aload_n hx hb dX6_carryOut_38 rfl (lv_at hl 0 rfl) ?_
          refine lv_aload_n hx hb dX6_carryOut_39 rfl (lv_at hl 3 rfl) ?_
          have hPr : va_P (gD g) vwCl (wC g (hd x2.toNatClampNeg) cv ++ (wP g hp pv ++ wL g (hp 2) lq ++ X ++ wQ g hq qv)) _ := wp_P (wp_of fun f => by have h3 := hxp.countP_eq f; simp only [List.countP_append, List.countP_cons, List.countP_nil] at h3 ⊢; omega) hP
          refine cpv_v (As := [.ref (hq 0)]) (rest := []) (Wr := (wP g hp pv ++ wL g (hp 2) lq ++ X)) (Wn := wP g hp pv ++ wL g (hp 2) lq ++ wCs g hd L ++ wQ g hq q9) ⟨hx, hb, hml, hown, hts⟩ (c_X1_change l g (hd x2.toNatClampNeg) cv hq qv _ hg3) (cwV 1 hts gX6_carryOut_X1_change rfl rfl rfl hd_X1_change ⟨(Nat.le_of_ble_eq_true rfl), (Nat.le_of_ble_eq_true rfl)⟩) hK hZ hT hA hP hD hS hl.1 (va_recv hK hPr (ci := 3) (q0 := 0) rfl rfl) (wp_of fun f => by have h3 := hxp.countP_eq f; simp only [List.countP_append, List.countP_cons, List.countP_nil] at h3 ⊢; omega) (wp_of fun f => by have h3 := hxp.countP_eq f; simp only [List.countP_append, List.countP_cons, List.countP_nil] at h3 ⊢; omega) rfl rfl (Nat.le_of_ble_eq_true rfl) ⟨(Nat.le_of_ble_eq_true rfl), (Nat.le_of_ble_eq_true rfl)⟩ dX6_carryOut_40 (fun H locs hP hD hS => ?_)
          refine lv_iinc (v := x2 + 1) (lv' := [(2, .int (x2 + 1)), (3, .ref (hd x2.toNatClampNeg 0)), (0, .ref (hp 0)), (1, .ref (hq 0))]) hx hb dX6_carryOut_43 hl (k := 1) rfl rfl (by decide) rfl (fun ls hl => ?_)
          refine lv_goto (tgt := 2) hx hb dX6_carryOut_46 (by decide) ?_
          exact ih (x2 + 1) q9 H _ ls hr hP hD hS (lv_sub hl [0, 2, 3] rfl)
        · have hf := jbF hf (enN hc)
          cases hf
          obtain rfl := jbR_r hr
          refine lv_iload_n hx hb dX6_carryOut_36 rfl (lv_at hl 1 rfl) ?_
          exact rt_i hx hb hrt hlk rfl hK hP hD hS (Nat.le_of_ble_eq_true rfl) (Nat.le_of_ble_eq_true rfl) dX6_carryOut_37
  unfold f_X6_carryOut at hf
  exact hloop 5000 0 qv _ _ _ hf hP hD hS hl
