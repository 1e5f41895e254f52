def rm_L_plain : Room := { frames := 10, cells := 11, slots := 244, locals := 164 }
theorem hd_L_plain : yL_plain.cls ≠ "java/lang/invoke/MethodHandle" ∧ yL_plain.cls ≠ "java/lang/invoke/VarHandle" ∧ (parseMethodDescriptor yL_plain.desc).map (fun d => d.parameters.length) = some 6 := by decide +kernel
set_option maxHeartbeats 4000000 in
set_option maxRecDepth 100000 in
theorem c_L_plain (l : Launch) (hlt : l.stackTraces = false) (g : GG) (ha : Nat → Nat → Nat) (hd : Nat → Nat → Nat) (tv : TV) (qv : QV) (hv : HV) (a1 : Int32) (a2 : Int32) (a3 : Int32) (a4 : Int32) (a5 : Int32) (out : Sum (Nat × QV × HV) (Int32 × QV × HV)) (hf : f_L_plain qv hv a1 a2 a3 a4 a5 = some out) : MyI l yL_plain wsL_plain rm_L_plain g (wT g ha tv ++ wQ g (ha 1) qv ++ wH g (ha 4) hd hv) [.ref (ha 0 0), .int a1, .int a2, .int a3, .int a4, .int a5] (fun u : (Int32 × QV × HV) × (Nat → Nat → Nat) => out = .inr u.1) (fun u : (Int32 × QV × HV) × (Nat → Nat → Nat) => u.1.1) (fun u : (Int32 × QV × HV) × (Nat → Nat → Nat) => wT g ha tv ++ wQ g (ha 1) u.1.2.1 ++ wH g (ha 4) u.2 u.1.2.2) (fun u : (Nat × QV × HV) × (Nat → Nat → Nat) => out = .inl u.1) (fun u : (Nat × QV × HV) × (Nat → Nat → Nat) => u.1.1) (fun u : (Nat × QV × HV) × (Nat → Nat → Nat) => wT g ha tv ++ wQ g (ha 1) u.1.2.1 ++ wH g (ha 4) u.2 u.1.2.2) 11 244 := by
  refine fun sz => mx_of (cc := cL_plain) (maxL := 6) (ret := (some .int)) (own := RL) (Qc := fun A => va_Qi (fun r (u : (Int32 × QV × HV) × (Nat → Nat → Nat)) => out = .inr u.1 ∧ r = u.1.1) (fun u t => PosM g A (wT g ha tv ++ wQ g (ha 1) u.1.2.1 ++ wH g (ha 4) u.2 u.1.2.2) t) A) (XC := fun A => vx_X (fun (u : (Nat × QV × HV) × (Nat → Nat → Nat)) => out = .inl u.1) (fun E u t => E = exn u.1.1 ∧ PosM g A (wT g ha tv ++ wQ g (ha 1) u.1.2.1 ++ wH g (ha 4) u.2 u.1.2.2) t) A) (by decide +kernel) rfl rfl (Nat.le_of_ble_eq_true rfl) ?_ sz
  intro p e s mi below meth c A ls hB htb hrt hlk hP hD hl
  obtain ⟨hx, hb, hml, hown, hts, hK, hZ, hT, hA, -⟩ := hB
  have hS : va_S A s.heap s.heap [] := va_S.rf
  have hl : lv_has ls 6 [(0, .ref (ha 0 0)), (1, .int a1), (2, .int a2), (3, .int a3), (4, .int a4), (5, .int a5)] := hl
  generalize hQ : vx_MQ below _ _ _ _ _ _ _ = Q
  unfold f_L_plain at hf
  refine lv_iload_n hx hb dL_plain_0 rfl (lv_at hl 1 rfl) ?_
  by_cases h0 : a1 = 0
  · have hf := jbT hf h0
    refine lv_tableIn (tgt := 48) hx hb dL_plain_1 (by rw [h0]; decide) (by rw [h0]; decide) (by rw [h0]; rfl) (by decide) ?_
    refine lv_aload_n hx hb dL_plain_48 rfl (lv_at hl 0 rfl) ?_
    refine lv_iload_n hx hb dL_plain_49 rfl (lv_at hl 2 rfl) ?_
    refine lv_iload_n hx hb dL_plain_50 rfl (lv_at hl 3 rfl) ?_
    refine lv_iload hx hb dL_plain_51 (lv_at hl 4 rfl) ?_
    obtain ⟨o, hg, hf⟩ := jbB_e hf
    refine cypv_i (As := [.int a2, .int a3, .int a4]) (rest := []) (Wr := []) (Wn := fun u => wT g ha tv ++ wQ g (ha 1) u.1.2.1 ++ wH g (ha 4) u.2 u.1.2.2) (WnX := fun u => wT g ha tv ++ wQ g (ha 1) u.1.2.1 ++ wH g (ha 4) u.2 u.1.2.2) ⟨hx, hb, hml, hown, hts⟩ (c_X10_setStone l hlt g ha hd tv qv hv a2 a3 a4 _ (show f_X10_setStone tv qv hv a2 a3 a4 = some o from hg)) (cwV 3 hts gL_plain_X10_setStone rfl rfl rfl hd_X10_setStone ⟨(Nat.le_of_ble_eq_true rfl), (Nat.le_of_ble_eq_true rfl)⟩) hK hZ hT hA hP hD hS hl.1 (va_recv hK hP (ci := 9) (q0 := 0) rfl rfl) (wp_of fun f => by simp only [List.countP_append, List.countP_cons, List.countP_nil] <;> omega) (fun _ => (wp_of fun f => by simp only [List.countP_append, List.countP_cons, List.countP_nil] <;> omega)) (fun _ => (wp_of fun f => by simp only [List.countP_append, List.countP_cons, List.countP_nil] <;> omega)) rfl rfl (Nat.le_of_ble_eq_true rfl) ⟨(Nat.le_of_ble_eq_true rfl), (Nat.le_of_ble_eq_true rfl)⟩ dL_plain_53 (fun u ce q9 H locs ho hP hD hS hce hcv hcl => ?_) (fun u H locs ho hP hD hS => ?_)
    · subst ho
      have hf := jbM_l hf
      cases hf
      subst hQ
      exact ry_x u rfl rfl htb hlk hK hP hD hS hce hcv hcl (Nat.le_of_ble_eq_true rfl) (Nat.le_of_ble_eq_true rfl)
    subst ho
    have hf := jbM_r hf
    cases hf
    subst hQ
    exact ry_i ((u.1.1, u.1.2), u.2) rfl rfl hx hb hrt hlk rfl hK hP hD hS (Nat.le_of_ble_eq_true rfl) (Nat.le_of_ble_eq_true rfl) dL_plain_56
  have hf := jbF hf h0
  by_cases h1 : a1 = 1
  · have hf := jbT hf h1
    refine lv_tableIn (tgt := 57) hx hb dL_plain_1 (by rw [h1]; decide) (by rw [h1]; decide) (by rw [h1]; rfl) (by decide) ?_
    refine lv_aload_n hx hb dL_plain_57 rfl (lv_at hl 0 rfl) ?_
    refine lv_iload_n hx hb dL_plain_58 rfl (lv_at hl 2 rfl) ?_
    refine lv_iload_n hx hb dL_plain_59 rfl (lv_at hl 3 rfl) ?_
    obtain ⟨o, hg, hf⟩ := jbB_e hf
    refine cypv_i (As := [.int a2, .int a3]) (rest := []) (Wr := []) (Wn := fun u => wT g ha tv ++ wQ g (ha 1) u.1.2.1 ++ wH g (ha 4) u.2 u.1.2.2) (WnX := fun u => wT g ha tv ++ wQ g (ha 1) u.1.2.1 ++ wH g (ha 4) u.2 u.1.2.2) ⟨hx, hb, hml, hown, hts⟩ (c_X10_cut l hlt g ha hd tv qv hv a2 a3 _ (show f_X10_cut tv qv hv a2 a3 = some o from hg)) (cwV 2 hts gL_plain_X10_cut rfl rfl rfl hd_X10_cut ⟨(Nat.le_of_ble_eq_true rfl), (Nat.le_of_ble_eq_true rfl)⟩) hK hZ hT hA hP hD hS hl.1 (va_recv hK hP (ci := 9) (q0 := 0) rfl rfl) (wp_of fun f => by simp only [List.countP_append, List.countP_cons, List.countP_nil] <;> omega) (fun _ => (wp_of fun f => by simp only [List.countP_append, List.countP_cons, List.countP_nil] <;> omega)) (fun _ => (wp_of fun f => by simp only [List.countP_append, List.countP_cons, List.countP_nil] <;> omega)) rfl rfl (Nat.le_of_ble_eq_true rfl) ⟨(Nat.le_of_ble_eq_true rfl), (Nat.le_of_ble_eq_true rfl)⟩ dL_plain_60 (fun u ce q9 H locs ho hP hD hS hce hcv hcl => ?_) (fun u H locs ho hP hD hS => ?_)
    · subst ho
      have hf := jbM_l hf
      cases hf
      subst hQ
      exact ry_x u rfl rfl htb hlk hK hP hD hS hce hcv hcl (Nat.le_of_ble_eq_true rfl) (Nat.le_of_ble_eq_true rfl)
    subst ho
    have hf := jbM_r hf
    cases hf
    subst hQ
    exact ry_i ((u.1.1, u.1.2), u.2) rfl rfl hx hb hrt hlk rfl hK hP hD hS (Nat.le_of_ble_eq_true rfl) (Nat.le_of_ble_eq_true rfl) dL_plain_63
  have hf := jbF hf h1
  by_cases h2 : a1 = 2
  · have hf := jbT hf h2
    refine lv_tableIn (tgt := 64) hx hb dL_plain_1 (by rw [h2]; decide) (by rw [h2]; decide) (by rw [h2]; rfl) (by decide) ?_
    refine lv_aload_n hx hb dL_plain_64 rfl (lv_at hl 0 rfl) ?_
    refine lv_iload_n hx hb dL_plain_65 rfl (lv_at hl 2 rfl) ?_
    refine lv_iload_n hx hb dL_plain_66 rfl (lv_at hl 3 rfl) ?_
    obtain ⟨o, hg, hf⟩ := jbB_e hf
    refine cypv_i (As := [.int a2, .int a3]) (rest := []) (Wr := []) (Wn := fun u => wT g ha tv ++ wQ g (ha 1) u.1.2.1 ++ wH g (ha 4) u.2 u.1.2.2) (WnX := fun u => wT g ha tv ++ wQ g (ha 1) u.1.2.1 ++ wH g (ha 4) u.2 u.1.2.2) ⟨hx, hb, hml, hown, hts⟩ (c_X10_fill l hlt g ha hd tv qv hv a2 a3 _ (show f_X10_fill tv qv hv a2 a3 = some o from hg)) (cwV 2 hts gL_plain_X10_fill rfl rfl rfl hd_X10_fill ⟨(Nat.le_of_ble_eq_true rfl), (Nat.le_of_ble_eq_true rfl)⟩) hK hZ hT hA hP hD hS hl.1 (va_recv hK hP (ci := 9) (q0 := 0) rfl rfl) (wp_of fun f => by simp only [List.countP_append, List.countP_cons, List.countP_nil] <;> omega) (fun _ => (wp_of fun f => by simp only [List.countP_append, List.countP_cons, List.countP_nil] <;> omega)) (fun _ => (wp_of fun f => by simp only [List.countP_append, List.countP_cons, List.countP_nil] <;> omega)) rfl rfl (Nat.le_of_ble_eq_true rfl) ⟨(Nat.le_of_ble_eq_true rfl), (Nat.le_of_ble_eq_true rfl)⟩ dL_plain_67 (fun u ce q9 H locs ho hP hD hS hce hcv hcl => ?_) (fun u H locs ho hP hD hS => ?_)
    · subst ho
      have hf := jbM_l hf
      cases hf
      subst hQ
      exact ry_x u rfl rfl htb hlk hK hP hD hS hce hcv hcl (Nat.le_of_ble_eq_true rfl) (Nat.le_of_ble_eq_true rfl)
    subst ho
    have hf := jbM_r hf
    cases hf
    subst hQ
    exact ry_i ((u.1.1, u.1.2), u.2) rfl rfl hx hb hrt hlk rfl hK hP hD hS (Nat.le_of_ble_eq_true rfl) (Nat.le_of_ble_eq_true rfl) dL_plain_70
  have hf := jbF hf h2
  by_cases h3 : a1 = 3
  · have hf := jbT hf h3
    refine lv_tableIn (tgt := 71) hx hb dL_plain_1 (by rw [h3]; decide) (by rw [h3]; decide) (by rw [h3]; rfl) (by decide) ?_
    refine lv_aload_n hx hb dL_plain_71 rfl (lv_at hl 0 rfl) ?_
    refine lv_iload_n hx hb dL_plain_72 rfl (lv_at hl 2 rfl) ?_
    refine lv_iload_n hx hb dL_plain_73 rfl (lv_at hl 3 rfl) ?_
    obtain ⟨o, hg, hf⟩ := jbB_e hf
    refine cypv_i (As := [.int a2, .int a3]) (rest := []) (Wr := []) (Wn := fun u => wT g ha tv ++ wQ g (ha 1) u.1.2.1 ++ wH g (ha 4) u.2 u.1.2.2) (WnX := fun u => wT g ha tv ++ wQ g (ha 1) u.1.2.1 ++ wH g (ha 4) u.2 u.1.2.2) ⟨hx, hb, hml, hown, hts⟩ (c_X10_toggleLedge l hlt g ha hd tv qv hv a2 a3 _ (show f_X10_toggleLedge tv qv hv a2 a3 = some o from hg)) (cwV 2 hts gL_plain_X10_toggleLedge rfl rfl rfl hd_X10_toggleLedge ⟨(Nat.le_of_ble_eq_true rfl), (Nat.le_of_ble_eq_true rfl)⟩) hK hZ hT hA hP hD hS hl.1 (va_recv hK hP (ci := 9) (q0 := 0) rfl rfl) (wp_of fun f => by simp only [List.countP_append, List.countP_cons, List.countP_nil] <;> omega) (fun _ => (wp_of fun f => by simp only [List.countP_append, List.countP_cons, List.countP_nil] <;> omega)) (fun _ => (wp_of fun f => by simp only [List.countP_append, List.countP_cons, List.countP_nil] <;> omega)) rfl rfl (Nat.le_of_ble_eq_true rfl) ⟨(Nat.le_of_ble_eq_true rfl), (Nat.le_of_ble_eq_true rfl)⟩ dL_plain_74 (fun u ce q9 H locs ho hP hD hS hce hcv hcl => ?_) (fun u H locs ho hP hD hS => ?_)
    · subst ho
      have hf := jbM_l hf
      cases hf
      subst hQ
      exact ry_x u rfl rfl htb hlk hK hP hD hS hce hcv hcl (Nat.le_of_ble_eq_true rfl) (Nat.le_of_ble_eq_true rfl)
    subst ho
    have hf := jbM_r hf
    obtain ⟨k9, hg9, hf⟩ := jbB_e hf
    refine csn_i (As := [.int u.1.1]) (rest := []) ⟨hx, hb, hml, hown, hts⟩ (c_L_told l g u.1.1 _ hg9) (va_cwS 1 hts gL_plain_L_told rfl rfl rfl hd_L_told ⟨(Nat.le_of_ble_eq_true rfl), (Nat.le_of_ble_eq_true rfl)⟩) hK hZ hT hA hP hD hS hl.1 rfl rfl (Nat.le_of_ble_eq_true rfl) ⟨(Nat.le_of_ble_eq_true rfl), (Nat.le_of_ble_eq_true rfl)⟩ dL_plain_77 (fun H locs hP hD hS => ?_)
    cases hf
    subst hQ
    exact ry_i ((k9, u.1.2), u.2) rfl rfl hx hb hrt hlk rfl hK hP hD hS (Nat.le_of_ble_eq_true rfl) (Nat.le_of_ble_eq_true rfl) dL_plain_80
  have hf := jbF hf h3
  by_cases h4 : a1 = 4
  · have hf := jbT hf h4
    refine lv_tableIn (tgt := 81) hx hb dL_plain_1 (by rw [h4]; decide) (by rw [h4]; decide) (by rw [h4]; rfl) (by decide) ?_
    refine lv_aload_n hx hb dL_plain_81 rfl (lv_at hl 0 rfl) ?_
    refine lv_iload_n hx hb dL_plain_82 rfl (lv_at hl 2 rfl) ?_
    obtain ⟨o, hg, hf⟩ := jbB_e hf
    refine cypv_i (As := [.int a2]) (rest := []) (Wr := []) (Wn := fun u => wT g ha tv ++ wQ g (ha 1) u.1.2.1 ++ wH g (ha 4) u.2 u.1.2.2) (WnX := fun u => wT g ha tv ++ wQ g (ha 1) u.1.2.1 ++ wH g (ha 4) u.2 u.1.2.2) ⟨hx, hb, hml, hown, hts⟩ (c_X10_setStepLimit l hlt g ha hd tv qv hv a2 _ (show f_X10_setStepLimit tv qv hv a2 = some o from hg)) (cwV 1 hts gL_plain_X10_setStepLimit rfl rfl rfl hd_X10_setStepLimit ⟨(Nat.le_of_ble_eq_true rfl), (Nat.le_of_ble_eq_true rfl)⟩) hK hZ hT hA hP hD hS hl.1 (va_recv hK hP (ci := 9) (q0 := 0) rfl rfl) (wp_of fun f => by simp only [List.countP_append, List.countP_cons, List.countP_nil] <;> omega) (fun _ => (wp_of fun f => by simp only [List.countP_append, List.countP_cons, List.countP_nil] <;> omega)) (fun _ => (wp_of fun f => by simp only [List.countP_append, List.countP_cons, List.countP_nil] <;> omega)) rfl rfl (Nat.le_of_ble_eq_true rfl) ⟨(Nat.le_of_ble_eq_true rfl), (Nat.le_of_ble_eq_true rfl)⟩ dL_plain_83 (fun u ce q9 H locs ho hP hD hS hce hcv hcl => ?_) (fun u H locs ho hP hD hS => ?_)
    · subst ho
      have hf := jbM_l hf
      cases hf
      subst hQ
      exact ry_x u rfl rfl htb hlk hK hP hD hS hce hcv hcl (Nat.le_of_ble_eq_true rfl) (Nat.le_of_ble_eq_true rfl)
    subst ho
    have hf := jbM_r hf
    cases hf
    subst hQ
    exact ry_i ((u.1.1, u.1.2), u.2) rfl rfl hx hb hrt hlk rfl hK hP hD hS (Nat.le_of_ble_eq_true rfl) (Nat.le_of_ble_eq_true rfl) dL_plain_86
  have hf := jbF hf h4
  by_cases h5 : a1 = 5
  · have hf := jbT hf h5
    refine lv_tableIn (tgt := 87) hx hb dL_plain_1 (by rw [h5]; decide) (by rw [h5]; decide) (by rw [h5]; rfl) (by decide) ?_
    refine lv_aload_n hx hb dL_plain_87 rfl (lv_at hl 0 rfl) ?_
    refine lv_iload_n hx hb dL_plain_88 rfl (lv_at hl 2 rfl) ?_
    refine lv_iload_n hx hb dL_plain_89 rfl (lv_at hl 3 rfl) ?_
    refine lv_iload hx hb dL_plain_90 (lv_at hl 4 rfl) ?_
    refine lv_iload hx hb dL_plain_92 (lv_at hl 5 rfl) ?_
    obtain ⟨o, hg, hf⟩ := jbB_e hf
    refine cypv_i (As := [.int a2, .int a3, .int a4, .int a5]) (rest := []) (Wr := []) (Wn := fun u => wT g ha tv ++ wQ g (ha 1) u.1.2.1 ++ wH g (ha 4) u.2 u.1.2.2) (WnX := fun u => wT g ha tv ++ wQ g (ha 1) u.1.2.1 ++ wH g (ha 4) u.2 u.1.2.2) ⟨hx, hb, hml, hown, hts⟩ (c_X10_addWinch l hlt g ha hd tv qv hv a2 a3 a4 a5 _ (show f_X10_addWinch tv qv hv a2 a3 a4 a5 = some o from hg)) (cwV 4 hts gL_plain_X10_addWinch rfl rfl rfl hd_X10_addWinch ⟨(Nat.le_of_ble_eq_true rfl), (Nat.le_of_ble_eq_true rfl)⟩) hK hZ hT hA hP hD hS hl.1 (va_recv hK hP (ci := 9) (q0 := 0) rfl rfl) (wp_of fun f => by simp only [List.countP_append, List.countP_cons, List.countP_nil] <;> omega) (fun _ => (wp_of fun f => by simp only [List.countP_append, List.countP_cons, List.countP_nil] <;> omega)) (fun _ => (wp_of fun f => by simp only [List.countP_append, List.countP_cons, List.countP_nil] <;> omega)) rfl rfl (Nat.le_of_ble_eq_true rfl) ⟨(Nat.le_of_ble_eq_true rfl), (Nat.le_of_ble_eq_true rfl)⟩ dL_plain_94 (fun u ce q9 H locs ho hP hD hS hce hcv hcl => ?_) (fun u H locs ho hP hD hS => ?_)
    · subst ho
      have hf := jbM_l hf
      cases hf
      subst hQ
      exact ry_x u rfl rfl htb hlk hK hP hD hS hce hcv hcl (Nat.le_of_ble_eq_true rfl) (Nat.le_of_ble_eq_true rfl)
    subst ho
    have hf := jbM_r hf
    cases hf
    subst hQ
    exact ry_i ((u.1.1, u.1.2), u.2) rfl rfl hx hb hrt hlk rfl hK hP hD hS (Nat.le_of_ble_eq_true rfl) (Nat.le_of_ble_eq_true rfl) dL_plain_97
  have hf := jbF hf h5
  by_cases h6 : a1 = 6
  · have hf := jbT hf h6
    refine lv_tableIn (tgt := 98) hx hb dL_plain_1 (by rw [h6]; decide) (by rw [h6]; decide) (by rw [h6]; rfl) (by decide) ?_
    refine lv_aload_n hx hb dL_plain_98 rfl (lv_at hl 0 rfl) ?_
    refine lv_iload hx hb dL_plain_99 (lv_at hl 4 rfl) ?_
    refine lv_iload_n hx hb dL_plain_101 rfl (lv_at hl 2 rfl) ?_
    refine lv_iload_n hx hb dL_plain_102 rfl (lv_at hl 3 rfl) ?_
    obtain ⟨o, hg, hf⟩ := jbB_e hf
    refine cypv_i (As := [.int a4, .int a2, .int a3]) (rest := []) (Wr := []) (Wn := fun u => wT g ha tv ++ wQ g (ha 1) u.1.2.1 ++ wH g (ha 4) u.2 u.1.2.2) (WnX := fun u => wT g ha tv ++ wQ g (ha 1) u.1.2.1 ++ wH g (ha 4) u.2 u.1.2.2) ⟨hx, hb, hml, hown, hts⟩ (c_X10_lift l hlt g ha hd tv qv hv a4 a2 a3 _ (show f_X10_lift tv qv hv a4 a2 a3 = some o from hg)) (cwV 3 hts gL_plain_X10_lift rfl rfl rfl hd_X10_lift ⟨(Nat.le_of_ble_eq_true rfl), (Nat.le_of_ble_eq_true rfl)⟩) hK hZ hT hA hP hD hS hl.1 (va_recv hK hP (ci := 9) (q0 := 0) rfl rfl) (wp_of fun f => by simp only [List.countP_append, List.countP_cons, List.countP_nil] <;> omega) (fun _ => (wp_of fun f => by simp only [List.countP_append, List.countP_cons, List.countP_nil] <;> omega)) (fun _ => (wp_of fun f => by simp only [List.countP_append, List.countP_cons, List.countP_nil] <;> omega)) rfl rfl (Nat.le_of_ble_eq_true rfl) ⟨(Nat.le_of_ble_eq_true rfl), (Nat.le_of_ble_eq_true rfl)⟩ dL_plain_103 (fun u ce q9 H locs ho hP hD hS hce hcv hcl => ?_) (fun u H locs ho hP hD hS => ?_)
    · subst ho
      have hf := jbM_l hf
      cases hf
      subst hQ
      exact ry_x u rfl rfl htb hlk hK hP hD hS hce hcv hcl (Nat.le_of_ble_eq_true rfl) (Nat.le_of_ble_eq_true rfl)
    subst ho
    have hf := jbM_r hf
    cases hf
    subst hQ
    exact ry_i ((u.1.1, u.1.2), u.2) rfl rfl hx hb hrt hlk rfl hK hP hD hS (Nat.le_of_ble_eq_true rfl) (Nat.le_of_ble_eq_true rfl) dL_plain_106
  have hf := jbF hf h6
  by_cases h7 : a1 = 7
  · have hf := jbT hf h7
    refine lv_tableIn (tgt := 107) hx hb dL_plain_1 (by rw [h7]; decide) (by rw [h7]; decide) (by rw [h7]; rfl) (by decide) ?_
    refine lv_aload_n hx hb dL_plain_107 rfl (lv_at hl 0 rfl) ?_
    refine lv_iload_n hx hb dL_plain_108 rfl (lv_at hl 2 rfl) ?_
    refine lv_iload_n hx hb dL_plain_109 rfl (lv_at hl 3 rfl) ?_
    obtain ⟨o, hg, hf⟩ := jbB_e hf
    refine cypv_i (As := [.int a2, .int a3]) (rest := []) (Wr := []) (Wn := fun u => wT g ha tv ++ wQ g (ha 1) u.1.2.1 ++ wH g (ha 4) u.2 u.1.2.2) (WnX := fun u => wT g ha tv ++ wQ g (ha 1) u.1.2.1 ++ wH g (ha 4) u.2 u.1.2.2) ⟨hx, hb, hml, hown, hts⟩ (c_X10_crush l hlt g ha hd tv qv hv a2 a3 _ (show f_X10_crush tv qv hv a2 a3 = some o from hg)) (cwV 2 hts gL_plain_X10_crush rfl rfl rfl hd_X10_crush ⟨(Nat.le_of_ble_eq_true rfl), (Nat.le_of_ble_eq_true rfl)⟩) hK hZ hT hA hP hD hS hl.1 (va_recv hK hP (ci := 9) (q0 := 0) rfl rfl) (wp_of fun f => by simp only [List.countP_append, List.countP_cons, List.countP_nil] <;> omega) (fun _ => (wp_of fun f => by simp only [List.countP_append, List.countP_cons, List.countP_nil] <;> omega)) (fun _ => (wp_of fun f => by simp only [List.countP_append, List.countP_cons, List.countP_nil] <;> omega)) rfl rfl (Nat.le_of_ble_eq_true rfl) ⟨(Nat.le_of_ble_eq_true rfl), (Nat.le_of_ble_eq_true rfl)⟩ dL_plain_110 (fun u ce q9 H locs ho hP hD hS hce hcv hcl => ?_) (fun u H locs ho hP hD hS => ?_)
    · subst ho
      have hf := jbM_l hf
      cases hf
      subst hQ
      exact ry_x u rfl rfl htb hlk hK hP hD hS hce hcv hcl (Nat.le_of_ble_eq_true rfl) (Nat.le_of_ble_eq_true rfl)
    subst ho
    have hf := jbM_r hf
    cases hf
    subst hQ
    exact ry_i ((u.1.1, u.1.2), u.2) rfl rfl hx hb hrt hlk rfl hK hP hD hS (Nat.le_of_ble_eq_true rfl) (Nat.le_of_ble_eq_true rfl) dL_plain_113
  have hf := jbF hf h7
  cases hf
def rm_L_deed : Room := { frames := 11, cells := 11, slots := 244, locals := 189 }
theorem hd_L_deed : yL_deed.cls ≠ "java/lang/invoke/MethodHandle" ∧ yL_deed.cls ≠ "java/lang/invoke/VarHandle" ∧ (parseMethodDescriptor yL_deed.desc).map (fun d => d.parameters.length) = some 6 := by decide +kernel
set_option maxHeartbeats 4000000 in
set_option maxRecDepth 100000 in
theorem c_L_deed (l : Launch) (hlt : l.stackTraces = false) (g : GG) (ha : Nat → Nat → Nat) (hd : Nat → Nat → Nat) (tv : TV) (qv : QV) (hv : HV) (a1 : Int32) (a2 : Int32) (a3 : Int32) (a4 : Int32) (a5 : Int32) (out : Int32 × QV × HV) (hf : f_L_deed qv hv a1 a2 a3 a4 a5 = some out) : MzI (RT := Nat → Nat → Nat) l yL_deed wsL_deed rm_L_deed g (wT g ha tv ++ wQ g (ha 1) qv ++ wH g (ha 4) hd hv) [.ref (ha 0 0), .int a1, .int a2, .int a3, .int a4, .int a5] (fun _ => True) (fun _ => out.1) (fun z => wT g ha tv ++ wQ g (ha 1) out.2.1 ++ wH g (ha 4) z out.2.2) 11 244 := by
  refine fun sz => mh_of (hh := [(0, 11, 12, 58), (0, 11, 18, 60), (0, 11, 24, 62), (0, 11, 30, 64), (0, 11, 36, 66)]) (cc := cL_deed) (maxL := 7) (ret := (some .int)) (own := RL) (Qc := fun A => va_Qi (fun r (z : Nat → Nat → Nat) => True ∧ r = out.1) (fun z t => PosM g A (wT g ha tv ++ wQ g (ha 1) out.2.1 ++ wH g (ha 4) z out.2.2) t) A) (by decide +kernel) rfl rfl (Nat.le_of_ble_eq_true rfl) ?_ sz
  intro p e s mi below meth c A ls hB htb hrt hlk hP hD hl
  obtain ⟨hx, hb, hml, hown, hts, hK, hZ, hT, hA, -⟩ := hB
  have hS : va_S A s.heap s.heap [] := va_S.rf
  have hl : lv_has ls 7 [(0, .ref (ha 0 0)), (1, .int a1), (2, .int a2), (3, .int a3), (4, .int a4), (5, .int a5)] := hl
  have kk0 := hts (.classLink RL 58 "java/lang/IndexOutOfBoundsException") (by decide +kernel)
  have kk1 := hts (.classLink RL 60 "java/lang/IllegalArgumentException") (by decide +kernel)
  have kk2 := hts (.classLink RL 62 "java/lang/IllegalStateException") (by decide +kernel)
  have kk3 := hts (.classLink RL 64 "java/lang/UnsupportedOperationException") (by decide +kernel)
  have kk4 := hts (.classLink RL 66 "java/util/NoSuchElementException") (by decide +kernel)
  generalize hQ : MQ below _ _ _ _ _ _ = Q
  unfold f_L_deed at hf
  obtain ⟨o, hg, hf⟩ := jbB_e hf
  refine lv_aload_n hx hb dL_deed_0 rfl (lv_at hl 0 rfl) ?_
  refine lv_iload_n hx hb dL_deed_1 rfl (lv_at hl 1 rfl) ?_
  refine lv_iload_n hx hb dL_deed_2 rfl (lv_at hl 2 rfl) ?_
  refine lv_iload_n hx hb dL_deed_3 rfl (lv_at hl 3 rfl) ?_
  refine lv_iload hx hb dL_deed_4 (lv_at hl 4 rfl) ?_
  refine lv_iload hx hb dL_deed_6 (lv_at hl 5 rfl) ?_
  refine cyps_i (As := [.ref (ha 0 0), .int a1, .int a2, .int a3, .int a4, .int a5]) (rest := []) (Wr := []) (Wn := fun u => wT g ha tv ++ wQ g (ha 1) u.1.2.1 ++ wH g (ha 4) u.2 u.1.2.2) (WnX := fun u => wT g ha tv ++ wQ g (ha 1) u.1.2.1 ++ wH g (ha 4) u.2 u.1.2.2) ⟨hx, hb, hml, hown, hts⟩ (c_L_plain l hlt g ha hd tv qv hv a1 a2 a3 a4 a5 _ hg) (va_cwS 6 hts gL_deed_L_plain rfl rfl rfl hd_L_plain ⟨(Nat.le_of_ble_eq_true rfl), (Nat.le_of_ble_eq_true rfl)⟩) hK hZ hT hA hP hD hS hl.1 (wp_of fun f => by simp only [List.countP_append, List.countP_cons, List.countP_nil] <;> omega) (fun _ => (wp_of fun f => by simp only [List.countP_append, List.countP_cons, List.countP_nil] <;> omega)) (fun _ => (wp_of fun f => by simp only [List.countP_append, List.countP_cons, List.countP_nil] <;> omega)) rfl rfl (Nat.le_of_ble_eq_true rfl) ⟨(Nat.le_of_ble_eq_true rfl), (Nat.le_of_ble_eq_true rfl)⟩ dL_deed_8 (fun u ce q9 H locs ho hP hD hS hce hcv hcl => ?_) (fun u H locs ho hP hD hS => ?_)
  · subst ho
    have hf := jbM_l hf
    by_cases h0 : u.1.1 = 0
    · have hf := jbT hf h0
      cases hf
      subst hQ
      have hcl : s.vm.findClass "java/lang/IndexOutOfBoundsException" = some ce.cls := by rw [h0] at hcl; exact hcl
      refine lx_catch hown hT [] (0, 11, 12, 58) [(0, 11, 18, 60), (0, 11, 24, 62), (0, 11, 30, 64), (0, 11, 36, 66)] htb exN_0 lx_n rfl (by decide) kk0 hce hcv hcl ?_
      refine lv_astore (lv' := [(6, .ref q9), (0, .ref (ha 0 0)), (1, .int a1), (2, .int a2), (3, .int a3), (4, .int a4), (5, .int a5)]) hx hb dL_deed_12 hl (by decide) rfl (fun ls hl => ?_)
      refine lv_sipush (v := (-2002)) hx hb dL_deed_14 (by decide) ?_
      exact rz_i (RT := Nat → Nat → Nat) (PR := fun _ => True) (rv := fun _ => (-2002)) (W1 := fun z => wT g ha tv ++ wQ g (ha 1) u.1.2.1 ++ wH g (ha 4) z u.1.2.2) u.2 trivial rfl hx hb hrt hlk rfl hK hP hD hS (Nat.le_of_ble_eq_true rfl) (Nat.le_of_ble_eq_true rfl) dL_deed_17
    · have hf := jbF hf h0
      by_cases h1 : u.1.1 = 1
      · have hf := jbT hf h1
        cases hf
        subst hQ
        have hcl : s.vm.findClass "java/lang/IllegalArgumentException" = some ce.cls := by rw [h1] at hcl; exact hcl
        refine lx_catch hown hT [(0, 11, 12, 58)] (0, 11, 18, 60) [(0, 11, 24, 62), (0, 11, 30, 64), (0, 11, 36, 66)] htb exN_1 (lx_c (nm := "java/lang/IndexOutOfBoundsException") (by decide) exN_0 (by decide) kk0 lx_n) rfl (by decide) kk1 hce hcv hcl ?_
        refine lv_astore (lv' := [(6, .ref q9), (0, .ref (ha 0 0)), (1, .int a1), (2, .int a2), (3, .int a3), (4, .int a4), (5, .int a5)]) hx hb dL_deed_18 hl (by decide) rfl (fun ls hl => ?_)
        refine lv_sipush (v := (-2003)) hx hb dL_deed_20 (by decide) ?_
        exact rz_i (RT := Nat → Nat → Nat) (PR := fun _ => True) (rv := fun _ => (-2003)) (W1 := fun z => wT g ha tv ++ wQ g (ha 1) u.1.2.1 ++ wH g (ha 4) z u.1.2.2) u.2 trivial rfl hx hb hrt hlk rfl hK hP hD hS (Nat.le_of_ble_eq_true rfl) (Nat.le_of_ble_eq_true rfl) dL_deed_23
      · have hf := jbF hf h1
        by_cases h2 : u.1.1 = 3
        · have hf := jbT hf h2
          cases hf
          subst hQ
          have hcl : s.vm.findClass "java/lang/IllegalStateException" = some ce.cls := by rw [h2] at hcl; exact hcl
          refine lx_catch hown hT [(0, 11, 12, 58), (0, 11, 18, 60)] (0, 11, 24, 62) [(0, 11, 30, 64), (0, 11, 36, 66)] htb exN_3 (lx_c (nm := "java/lang/IndexOutOfBoundsException") (by decide) exN_0 (by decide) kk0 (lx_c (nm := "java/lang/IllegalArgumentException") (by decide) exN_1 (by decide) kk1 lx_n)) rfl (by decide) kk2 hce hcv hcl ?_
          refine lv_astore (lv' := [(6, .ref q9), (0, .ref (ha 0 0)), (1, .int a1), (2, .int a2), (3, .int a3), (4, .int a4), (5, .int a5)]) hx hb dL_deed_24 hl (by decide) rfl (fun ls hl => ?_)
          refine lv_sipush (v := (-2005)) hx hb dL_deed_26 (by decide) ?_
          exact rz_i (RT := Nat → Nat → Nat) (PR := fun _ => True) (rv := fun _ => (-2005)) (W1 := fun z => wT g ha tv ++ wQ g (ha 1) u.1.2.1 ++ wH g (ha 4) z u.1.2.2) u.2 trivial rfl hx hb hrt hlk rfl hK hP hD hS (Nat.le_of_ble_eq_true rfl) (Nat.le_of_ble_eq_true rfl) dL_deed_29
        · have hf := jbF hf h2
          by_cases h3 : u.1.1 = 4
          · have hf := jbT hf h3
            cases hf
            subst hQ
            have hcl : s.vm.findClass "java/lang/UnsupportedOperationException" = some ce.cls := by rw [h3] at hcl; exact hcl
            refine lx_catch hown hT [(0, 11, 12, 58), (0, 11, 18, 60), (0, 11, 24, 62)] (0, 11, 30, 64) [(0, 11, 36, 66)] htb exN_4 (lx_c (nm := "java/lang/IndexOutOfBoundsException") (by decide) exN_0 (by decide) kk0 (lx_c (nm := "java/lang/IllegalArgumentException") (by decide) exN_1 (by decide) kk1 (lx_c (nm := "java/lang/IllegalStateException") (by decide) exN_3 (by decide) kk2 lx_n))) rfl (by decide) kk3 hce hcv hcl ?_
            refine lv_astore (lv' := [(6, .ref q9), (0, .ref (ha 0 0)), (1, .int a1), (2, .int a2), (3, .int a3), (4, .int a4), (5, .int a5)]) hx hb dL_deed_30 hl (by decide) rfl (fun ls hl => ?_)
            refine lv_sipush (v := (-2001)) hx hb dL_deed_32 (by decide) ?_
            exact rz_i (RT := Nat → Nat → Nat) (PR := fun _ => True) (rv := fun _ => (-2001)) (W1 := fun z => wT g ha tv ++ wQ g (ha 1) u.1.2.1 ++ wH g (ha 4) z u.1.2.2) u.2 trivial rfl hx hb hrt hlk rfl hK hP hD hS (Nat.le_of_ble_eq_true rfl) (Nat.le_of_ble_eq_true rfl) dL_deed_35
          · have hf := jbF hf h3
            by_cases h4 : u.1.1 = 2
            · have hf := jbT hf h4
              cases hf
              subst hQ
              have hcl : s.vm.findClass "java/util/NoSuchElementException" = some ce.cls := by rw [h4] at hcl; exact hcl
              refine lx_catch hown hT [(0, 11, 12, 58), (0, 11, 18, 60), (0, 11, 24, 62), (0, 11, 30, 64)] (0, 11, 36, 66) [] htb exN_2 (lx_c (nm := "java/lang/IndexOutOfBoundsException") (by decide) exN_0 (by decide) kk0 (lx_c (nm := "java/lang/IllegalArgumentException") (by decide) exN_1 (by decide) kk1 (lx_c (nm := "java/lang/IllegalStateException") (by decide) exN_3 (by decide) kk2 (lx_c (nm := "java/lang/UnsupportedOperationException") (by decide) exN_4 (by decide) kk3 lx_n)))) rfl (by decide) kk4 hce hcv hcl ?_
              refine lv_astore (lv' := [(6, .ref q9), (0, .ref (ha 0 0)), (1, .int a1), (2, .int a2), (3, .int a3), (4, .int a4), (5, .int a5)]) hx hb dL_deed_36 hl (by decide) rfl (fun ls hl => ?_)
              refine lv_sipush (v := (-2004)) hx hb dL_deed_38 (by decide) ?_
              exact rz_i (RT := Nat → Nat → Nat) (PR := fun _ => True) (rv := fun _ => (-2004)) (W1 := fun z => wT g ha tv ++ wQ g (ha 1) u.1.2.1 ++ wH g (ha 4) z u.1.2.2) u.2 trivial rfl hx hb hrt hlk rfl hK hP hD hS (Nat.le_of_ble_eq_true rfl) (Nat.le_of_ble_eq_true rfl) dL_deed_41
            · have hf := jbF hf h4
              cases hf
  subst ho
  have hf := jbM_r hf
  cases hf
  subst hQ
  exact rz_i (RT := Nat → Nat → Nat) (PR := fun _ => True) (rv := fun _ => u.1.1) (W1 := fun z => wT g ha tv ++ wQ g (ha 1) u.1.2.1 ++ wH g (ha 4) z u.1.2.2) u.2 trivial rfl hx hb hrt hlk rfl hK hP hD hS (Nat.le_of_ble_eq_true rfl) (Nat.le_of_ble_eq_true rfl) dL_deed_11
