def rm_L_asked : Room := { frames := 10, cells := 3, slots := 18, locals := 165 }
theorem hd_L_asked : yL_asked.cls ≠ "java/lang/invoke/MethodHandle" ∧ yL_asked.cls ≠ "java/lang/invoke/VarHandle" ∧ (parseMethodDescriptor yL_asked.desc).map (fun d => d.parameters.length) = some 6 := by decide +kernel
set_option maxHeartbeats 4000000 in
set_option maxRecDepth 100000 in
theorem c_L_asked (l : Launch) (hlt : l.stackTraces = false) (g : GG) (ha : Nat → Nat → Nat) (tv : TV) (qv : QV) (sv : SV) (a1 : Int32) (a2 : Int32) (a3 : Int32) (a4 : Int32) (a5 : Int32) (out : Sum (Nat × SV) (Int32 × SV)) (hf : f_L_asked qv sv a1 a2 a3 a4 a5 = some out) : MxI l yL_asked wsL_asked rm_L_asked g (wT g ha tv ++ wQ g (ha 1) qv ++ wS g (ha 3) sv) [.ref (ha 0 0), .int a1, .int a2, .int a3, .int a4, .int a5] out (fun x : Int32 × SV => x.1) (fun x : Int32 × SV => wT g ha tv ++ wQ g (ha 1) qv ++ wS g (ha 3) x.2) (fun x : Nat × SV => x.1) (fun x : Nat × SV => wT g ha tv ++ wQ g (ha 1) qv ++ wS g (ha 3) x.2) 3 18 := by
  refine fun sz => mx_of (cc := cL_asked) (maxL := 6) (ret := (some .int)) (own := RL) (Qc := fun A => va_Qi (fun r (x : Int32 × SV) => out = .inr x ∧ r = x.1) (fun x t => PosM g A (wT g ha tv ++ wQ g (ha 1) qv ++ wS g (ha 3) x.2) t) A) (XC := fun A => vx_X (fun (x : Nat × SV) => out = .inl x) (fun E x t => E = exn x.1 ∧ PosM g A (wT g ha tv ++ wQ g (ha 1) qv ++ wS g (ha 3) x.2) t) A) (by decide +kernel) rfl rfl (Nat.le_of_ble_eq_true rfl) ?_ sz
  intro p e s mi below meth c A ls hB htb hrt hlk hP hD hl
  obtain ⟨hx, hb, hml, hown, hts, hK, hZ, hT, hA, -⟩ := hB
  have hS : va_S A s.heap s.heap [] := va_S.rf
  have hl : lv_has ls 6 [(0, .ref (ha 0 0)), (1, .int a1), (2, .int a2), (3, .int a3), (4, .int a4), (5, .int a5)] := hl
  generalize hQ : vx_MQ below _ _ _ _ _ _ _ = Q
  unfold f_L_asked at hf
  refine lv_iload_n hx hb dL_asked_0 rfl (lv_at hl 1 rfl) ?_
  by_cases h0 : a1 = 0
  · have hf := jbT hf h0
    refine lv_tableIn (tgt := 56) hx hb dL_asked_1 (by rw [h0]; decide) (by rw [h0]; decide) (by rw [h0]; rfl) (by decide) ?_
    refine lv_aload_n hx hb dL_asked_56 rfl (lv_at hl 0 rfl) ?_
    refine lv_iload_n hx hb dL_asked_57 rfl (lv_at hl 2 rfl) ?_
    refine lv_iload_n hx hb dL_asked_58 rfl (lv_at hl 3 rfl) ?_
    obtain ⟨o, hg, hf⟩ := jbB_e hf
    refine cxpv_i (As := [.int a2, .int a3]) (rest := []) (Wr := (wS g (ha 3) sv)) (Wn := fun u => wT g ha tv ++ wQ g (ha 1) qv ++ wS g (ha 3) sv) (WnX := fun u => wT g ha tv ++ wQ g (ha 1) qv ++ wS g (ha 3) sv) ⟨hx, hb, hml, hown, hts⟩ (c_X10_height l hlt g ha tv qv a2 a3 _ (show f_X10_height tv qv a2 a3 = some o from hg)) (cwV 2 hts gL_asked_X10_height rfl rfl rfl hd_X10_height ⟨(Nat.le_of_ble_eq_true rfl), (Nat.le_of_ble_eq_true rfl)⟩) hK hZ hT hA hP hD hS hl.1 (va_recv hK hP (ci := 9) (q0 := 0) rfl rfl) (wp_of fun f => by simp only [List.countP_append, List.countP_cons, List.countP_nil] <;> omega) (fun _ => (wp_of fun f => by simp only [List.countP_append, List.countP_cons, List.countP_nil] <;> omega)) (fun _ => (wp_of fun f => by simp only [List.countP_append, List.countP_cons, List.countP_nil] <;> omega)) rfl rfl (Nat.le_of_ble_eq_true rfl) ⟨(Nat.le_of_ble_eq_true rfl), (Nat.le_of_ble_eq_true rfl)⟩ dL_asked_59 (fun u ce q9 H locs ho hP hD hS hce hcv hcl => ?_) (fun u H locs ho hP hD hS => ?_)
    · subst ho
      have hf := jbM_l hf
      cases hf
      subst hQ
      exact rx_x ((u, sv)) rfl rfl htb hlk hK hP hD hS hce hcv hcl (Nat.le_of_ble_eq_true rfl) (Nat.le_of_ble_eq_true rfl)
    subst ho
    have hf := jbM_r hf
    cases hf
    subst hQ
    exact rx_i ((u, sv)) rfl rfl hx hb hrt hlk rfl hK hP hD hS (Nat.le_of_ble_eq_true rfl) (Nat.le_of_ble_eq_true rfl) dL_asked_62
  have hf := jbF hf h0
  by_cases h1 : a1 = 1
  · have hf := jbT hf h1
    refine lv_tableIn (tgt := 63) hx hb dL_asked_1 (by rw [h1]; decide) (by rw [h1]; decide) (by rw [h1]; rfl) (by decide) ?_
    refine lv_aload_n hx hb dL_asked_63 rfl (lv_at hl 0 rfl) ?_
    refine lv_iload_n hx hb dL_asked_64 rfl (lv_at hl 2 rfl) ?_
    refine lv_iload_n hx hb dL_asked_65 rfl (lv_at hl 3 rfl) ?_
    obtain ⟨o, hg, hf⟩ := jbB_e hf
    refine cxpv_i (As := [.int a2, .int a3]) (rest := []) (Wr := (wS g (ha 3) sv)) (Wn := fun u => wT g ha tv ++ wQ g (ha 1) qv ++ wS g (ha 3) sv) (WnX := fun u => wT g ha tv ++ wQ g (ha 1) qv ++ wS g (ha 3) sv) ⟨hx, hb, hml, hown, hts⟩ (c_X10_topBlock l hlt g ha tv qv a2 a3 _ (show f_X10_topBlock tv qv a2 a3 = some o from hg)) (cwV 2 hts gL_asked_X10_topBlock rfl rfl rfl hd_X10_topBlock ⟨(Nat.le_of_ble_eq_true rfl), (Nat.le_of_ble_eq_true rfl)⟩) hK hZ hT hA hP hD hS hl.1 (va_recv hK hP (ci := 9) (q0 := 0) rfl rfl) (wp_of fun f => by simp only [List.countP_append, List.countP_cons, List.countP_nil] <;> omega) (fun _ => (wp_of fun f => by simp only [List.countP_append, List.countP_cons, List.countP_nil] <;> omega)) (fun _ => (wp_of fun f => by simp only [List.countP_append, List.countP_cons, List.countP_nil] <;> omega)) rfl rfl (Nat.le_of_ble_eq_true rfl) ⟨(Nat.le_of_ble_eq_true rfl), (Nat.le_of_ble_eq_true rfl)⟩ dL_asked_66 (fun u ce q9 H locs ho hP hD hS hce hcv hcl => ?_) (fun u H locs ho hP hD hS => ?_)
    · subst ho
      have hf := jbM_l hf
      cases hf
      subst hQ
      exact rx_x ((u, sv)) rfl rfl htb hlk hK hP hD hS hce hcv hcl (Nat.le_of_ble_eq_true rfl) (Nat.le_of_ble_eq_true rfl)
    subst ho
    have hf := jbM_r hf
    cases hf
    subst hQ
    exact rx_i ((u, sv)) rfl rfl hx hb hrt hlk rfl hK hP hD hS (Nat.le_of_ble_eq_true rfl) (Nat.le_of_ble_eq_true rfl) dL_asked_69
  have hf := jbF hf h1
  by_cases h2 : a1 = 2
  · have hf := jbT hf h2
    refine lv_tableIn (tgt := 70) hx hb dL_asked_1 (by rw [h2]; decide) (by rw [h2]; decide) (by rw [h2]; rfl) (by decide) ?_
    refine lv_aload_n hx hb dL_asked_70 rfl (lv_at hl 0 rfl) ?_
    refine lv_iload_n hx hb dL_asked_71 rfl (lv_at hl 2 rfl) ?_
    obtain ⟨o, hg, hf⟩ := jbB_e hf
    refine cxpv_i (As := [.int a2]) (rest := []) (Wr := (wS g (ha 3) sv)) (Wn := fun u => wT g ha tv ++ wQ g (ha 1) qv ++ wS g (ha 3) sv) (WnX := fun u => wT g ha tv ++ wQ g (ha 1) qv ++ wS g (ha 3) sv) ⟨hx, hb, hml, hown, hts⟩ (c_X10_cellsAt l hlt g ha tv qv a2 _ (show f_X10_cellsAt tv qv a2 = some o from hg)) (cwV 1 hts gL_asked_X10_cellsAt rfl rfl rfl hd_X10_cellsAt ⟨(Nat.le_of_ble_eq_true rfl), (Nat.le_of_ble_eq_true rfl)⟩) hK hZ hT hA hP hD hS hl.1 (va_recv hK hP (ci := 9) (q0 := 0) rfl rfl) (wp_of fun f => by simp only [List.countP_append, List.countP_cons, List.countP_nil] <;> omega) (fun _ => (wp_of fun f => by simp only [List.countP_append, List.countP_cons, List.countP_nil] <;> omega)) (fun _ => (wp_of fun f => by simp only [List.countP_append, List.countP_cons, List.countP_nil] <;> omega)) rfl rfl (Nat.le_of_ble_eq_true rfl) ⟨(Nat.le_of_ble_eq_true rfl), (Nat.le_of_ble_eq_true rfl)⟩ dL_asked_72 (fun u ce q9 H locs ho hP hD hS hce hcv hcl => ?_) (fun u H locs ho hP hD hS => ?_)
    · subst ho
      have hf := jbM_l hf
      cases hf
      subst hQ
      exact rx_x ((u, sv)) rfl rfl htb hlk hK hP hD hS hce hcv hcl (Nat.le_of_ble_eq_true rfl) (Nat.le_of_ble_eq_true rfl)
    subst ho
    have hf := jbM_r hf
    cases hf
    subst hQ
    exact rx_i ((u, sv)) rfl rfl hx hb hrt hlk rfl hK hP hD hS (Nat.le_of_ble_eq_true rfl) (Nat.le_of_ble_eq_true rfl) dL_asked_75
  have hf := jbF hf h2
  by_cases h3 : a1 = 3
  · have hf := jbT hf h3
    refine lv_tableIn (tgt := 76) hx hb dL_asked_1 (by rw [h3]; decide) (by rw [h3]; decide) (by rw [h3]; rfl) (by decide) ?_
    refine lv_aload_n hx hb dL_asked_76 rfl (lv_at hl 0 rfl) ?_
    refine lv_iload_n hx hb dL_asked_77 rfl (lv_at hl 2 rfl) ?_
    refine lv_iload_n hx hb dL_asked_78 rfl (lv_at hl 3 rfl) ?_
    refine lv_iload hx hb dL_asked_79 (lv_at hl 4 rfl) ?_
    obtain ⟨o, hg, hf⟩ := jbB_e hf
    refine cxpv_i (As := [.int a2, .int a3, .int a4]) (rest := []) (Wr := (wS g (ha 3) sv)) (Wn := fun u => wT g ha tv ++ wQ g (ha 1) qv ++ wS g (ha 3) sv) (WnX := fun u => wT g ha tv ++ wQ g (ha 1) qv ++ wS g (ha 3) sv) ⟨hx, hb, hml, hown, hts⟩ (c_X10_cutsToLower l hlt g ha tv qv a2 a3 a4 _ (show f_X10_cutsToLower tv qv a2 a3 a4 = some o from hg)) (cwV 3 hts gL_asked_X10_cutsToLower rfl rfl rfl hd_X10_cutsToLower ⟨(Nat.le_of_ble_eq_true rfl), (Nat.le_of_ble_eq_true rfl)⟩) hK hZ hT hA hP hD hS hl.1 (va_recv hK hP (ci := 9) (q0 := 0) rfl rfl) (wp_of fun f => by simp only [List.countP_append, List.countP_cons, List.countP_nil] <;> omega) (fun _ => (wp_of fun f => by simp only [List.countP_append, List.countP_cons, List.countP_nil] <;> omega)) (fun _ => (wp_of fun f => by simp only [List.countP_append, List.countP_cons, List.countP_nil] <;> omega)) rfl rfl (Nat.le_of_ble_eq_true rfl) ⟨(Nat.le_of_ble_eq_true rfl), (Nat.le_of_ble_eq_true rfl)⟩ dL_asked_81 (fun u ce q9 H locs ho hP hD hS hce hcv hcl => ?_) (fun u H locs ho hP hD hS => ?_)
    · subst ho
      have hf := jbM_l hf
      cases hf
      subst hQ
      exact rx_x ((u, sv)) rfl rfl htb hlk hK hP hD hS hce hcv hcl (Nat.le_of_ble_eq_true rfl) (Nat.le_of_ble_eq_true rfl)
    subst ho
    have hf := jbM_r hf
    cases hf
    subst hQ
    exact rx_i ((u, sv)) rfl rfl hx hb hrt hlk rfl hK hP hD hS (Nat.le_of_ble_eq_true rfl) (Nat.le_of_ble_eq_true rfl) dL_asked_84
  have hf := jbF hf h3
  by_cases h4 : a1 = 4
  · have hf := jbT hf h4
    refine lv_tableIn (tgt := 85) hx hb dL_asked_1 (by rw [h4]; decide) (by rw [h4]; decide) (by rw [h4]; rfl) (by decide) ?_
    refine lv_aload_n hx hb dL_asked_85 rfl (lv_at hl 0 rfl) ?_
    refine lv_iload_n hx hb dL_asked_86 rfl (lv_at hl 2 rfl) ?_
    refine lv_iload_n hx hb dL_asked_87 rfl (lv_at hl 3 rfl) ?_
    refine lv_iload hx hb dL_asked_88 (lv_at hl 4 rfl) ?_
    obtain ⟨o, hg, hf⟩ := jbB_e hf
    refine cxpv_i (As := [.int a2, .int a3, .int a4]) (rest := []) (Wr := []) (Wn := fun u => wT g ha tv ++ wQ g (ha 1) qv ++ wS g (ha 3) u.2) (WnX := fun u => wT g ha tv ++ wQ g (ha 1) qv ++ wS g (ha 3) u.2) ⟨hx, hb, hml, hown, hts⟩ (c_X10_cutsToLowerBySpreading l hlt g ha tv qv sv a2 a3 a4 _ (show f_X10_cutsToLowerBySpreading tv qv sv a2 a3 a4 = some o from hg)) (cwV 3 hts gL_asked_X10_cutsToLowerBySpreading rfl rfl rfl hd_X10_cutsToLowerBySpreading ⟨(Nat.le_of_ble_eq_true rfl), (Nat.le_of_ble_eq_true rfl)⟩) hK hZ hT hA hP hD hS hl.1 (va_recv hK hP (ci := 9) (q0 := 0) rfl rfl) (wp_of fun f => by simp only [List.countP_append, List.countP_cons, List.countP_nil] <;> omega) (fun _ => (wp_of fun f => by simp only [List.countP_append, List.countP_cons, List.countP_nil] <;> omega)) (fun _ => (wp_of fun f => by simp only [List.countP_append, List.countP_cons, List.countP_nil] <;> omega)) rfl rfl (Nat.le_of_ble_eq_true rfl) ⟨(Nat.le_of_ble_eq_true rfl), (Nat.le_of_ble_eq_true rfl)⟩ dL_asked_90 (fun u ce q9 H locs ho hP hD hS hce hcv hcl => ?_) (fun u H locs ho hP hD hS => ?_)
    · subst ho
      have hf := jbM_l hf
      cases hf
      subst hQ
      exact rx_x (u) rfl rfl htb hlk hK hP hD hS hce hcv hcl (Nat.le_of_ble_eq_true rfl) (Nat.le_of_ble_eq_true rfl)
    subst ho
    have hf := jbM_r hf
    cases hf
    subst hQ
    exact rx_i (u) rfl rfl hx hb hrt hlk rfl hK hP hD hS (Nat.le_of_ble_eq_true rfl) (Nat.le_of_ble_eq_true rfl) dL_asked_93
  have hf := jbF hf h4
  by_cases h5 : a1 = 5
  · have hf := jbT hf h5
    refine lv_tableIn (tgt := 94) hx hb dL_asked_1 (by rw [h5]; decide) (by rw [h5]; decide) (by rw [h5]; rfl) (by decide) ?_
    refine lv_aload_n hx hb dL_asked_94 rfl (lv_at hl 0 rfl) ?_
    refine lv_iload_n hx hb dL_asked_95 rfl (lv_at hl 2 rfl) ?_
    refine lv_iload_n hx hb dL_asked_96 rfl (lv_at hl 3 rfl) ?_
    refine lv_iload hx hb dL_asked_97 (lv_at hl 4 rfl) ?_
    refine lv_iload hx hb dL_asked_99 (lv_at hl 5 rfl) ?_
    obtain ⟨o, hg, hf⟩ := jbB_e hf
    refine cxpv_i (As := [.int a2, .int a3, .int a4, .int a5]) (rest := []) (Wr := []) (Wn := fun u => wT g ha tv ++ wQ g (ha 1) qv ++ wS g (ha 3) u.2) (WnX := fun u => wT g ha tv ++ wQ g (ha 1) qv ++ wS g (ha 3) u.2) ⟨hx, hb, hml, hown, hts⟩ (c_X10_footpath l hlt g ha tv qv sv a2 a3 a4 a5 _ (show f_X10_footpath tv qv sv a2 a3 a4 a5 = some o from hg)) (cwV 4 hts gL_asked_X10_footpath rfl rfl rfl hd_X10_footpath ⟨(Nat.le_of_ble_eq_true rfl), (Nat.le_of_ble_eq_true rfl)⟩) hK hZ hT hA hP hD hS hl.1 (va_recv hK hP (ci := 9) (q0 := 0) rfl rfl) (wp_of fun f => by simp only [List.countP_append, List.countP_cons, List.countP_nil] <;> omega) (fun _ => (wp_of fun f => by simp only [List.countP_append, List.countP_cons, List.countP_nil] <;> omega)) (fun _ => (wp_of fun f => by simp only [List.countP_append, List.countP_cons, List.countP_nil] <;> omega)) rfl rfl (Nat.le_of_ble_eq_true rfl) ⟨(Nat.le_of_ble_eq_true rfl), (Nat.le_of_ble_eq_true rfl)⟩ dL_asked_101 (fun u ce q9 H locs ho hP hD hS hce hcv hcl => ?_) (fun u H locs ho hP hD hS => ?_)
    · subst ho
      have hf := jbM_l hf
      cases hf
      subst hQ
      exact rx_x (u) rfl rfl htb hlk hK hP hD hS hce hcv hcl (Nat.le_of_ble_eq_true rfl) (Nat.le_of_ble_eq_true rfl)
    subst ho
    have hf := jbM_r hf
    cases hf
    subst hQ
    exact rx_i (u) rfl rfl hx hb hrt hlk rfl hK hP hD hS (Nat.le_of_ble_eq_true rfl) (Nat.le_of_ble_eq_true rfl) dL_asked_104
  have hf := jbF hf h5
  by_cases h6 : a1 = 6
  · have hf := jbT hf h6
    refine lv_tableIn (tgt := 105) hx hb dL_asked_1 (by rw [h6]; decide) (by rw [h6]; decide) (by rw [h6]; rfl) (by decide) ?_
    refine lv_aload_n hx hb dL_asked_105 rfl (lv_at hl 0 rfl) ?_
    refine lv_iload_n hx hb dL_asked_106 rfl (lv_at hl 2 rfl) ?_
    obtain ⟨o, hg, hf⟩ := jbB_e hf
    refine cxpv_i (As := [.int a2]) (rest := []) (Wr := (wS g (ha 3) sv)) (Wn := fun u => wT g ha tv ++ wQ g (ha 1) qv ++ wS g (ha 3) sv) (WnX := fun u => wT g ha tv ++ wQ g (ha 1) qv ++ wS g (ha 3) sv) ⟨hx, hb, hml, hown, hts⟩ (c_X10_liftableCells l hlt g ha tv qv a2 _ (show f_X10_liftableCells tv qv a2 = some o from hg)) (cwV 1 hts gL_asked_X10_liftableCells rfl rfl rfl hd_X10_liftableCells ⟨(Nat.le_of_ble_eq_true rfl), (Nat.le_of_ble_eq_true rfl)⟩) hK hZ hT hA hP hD hS hl.1 (va_recv hK hP (ci := 9) (q0 := 0) rfl rfl) (wp_of fun f => by simp only [List.countP_append, List.countP_cons, List.countP_nil] <;> omega) (fun _ => (wp_of fun f => by simp only [List.countP_append, List.countP_cons, List.countP_nil] <;> omega)) (fun _ => (wp_of fun f => by simp only [List.countP_append, List.countP_cons, List.countP_nil] <;> omega)) rfl rfl (Nat.le_of_ble_eq_true rfl) ⟨(Nat.le_of_ble_eq_true rfl), (Nat.le_of_ble_eq_true rfl)⟩ dL_asked_107 (fun u ce q9 H locs ho hP hD hS hce hcv hcl => ?_) (fun u H locs ho hP hD hS => ?_)
    · subst ho
      have hf := jbM_l hf
      cases hf
      subst hQ
      exact rx_x ((u, sv)) rfl rfl htb hlk hK hP hD hS hce hcv hcl (Nat.le_of_ble_eq_true rfl) (Nat.le_of_ble_eq_true rfl)
    subst ho
    have hf := jbM_r hf
    cases hf
    subst hQ
    exact rx_i ((u, sv)) rfl rfl hx hb hrt hlk rfl hK hP hD hS (Nat.le_of_ble_eq_true rfl) (Nat.le_of_ble_eq_true rfl) dL_asked_110
  have hf := jbF hf h6
  by_cases h7 : a1 = 7
  · have hf := jbT hf h7
    refine lv_tableIn (tgt := 111) hx hb dL_asked_1 (by rw [h7]; decide) (by rw [h7]; decide) (by rw [h7]; rfl) (by decide) ?_
    refine lv_aload_n hx hb dL_asked_111 rfl (lv_at hl 0 rfl) ?_
    refine lv_iload_n hx hb dL_asked_112 rfl (lv_at hl 2 rfl) ?_
    refine lv_iload_n hx hb dL_asked_113 rfl (lv_at hl 3 rfl) ?_
    obtain ⟨o, hg, hf⟩ := jbB_e hf
    refine cxpv_i (As := [.int a2, .int a3]) (rest := []) (Wr := (wS g (ha 3) sv)) (Wn := fun u => wT g ha tv ++ wQ g (ha 1) qv ++ wS g (ha 3) sv) (WnX := fun u => wT g ha tv ++ wQ g (ha 1) qv ++ wS g (ha 3) sv) ⟨hx, hb, hml, hown, hts⟩ (c_X10_bestWinch l hlt g ha tv qv a2 a3 _ (show f_X10_bestWinch tv qv a2 a3 = some o from hg)) (cwV 2 hts gL_asked_X10_bestWinch rfl rfl rfl hd_X10_bestWinch ⟨(Nat.le_of_ble_eq_true rfl), (Nat.le_of_ble_eq_true rfl)⟩) hK hZ hT hA hP hD hS hl.1 (va_recv hK hP (ci := 9) (q0 := 0) rfl rfl) (wp_of fun f => by simp only [List.countP_append, List.countP_cons, List.countP_nil] <;> omega) (fun _ => (wp_of fun f => by simp only [List.countP_append, List.countP_cons, List.countP_nil] <;> omega)) (fun _ => (wp_of fun f => by simp only [List.countP_append, List.countP_cons, List.countP_nil] <;> omega)) rfl rfl (Nat.le_of_ble_eq_true rfl) ⟨(Nat.le_of_ble_eq_true rfl), (Nat.le_of_ble_eq_true rfl)⟩ dL_asked_114 (fun u ce q9 H locs ho hP hD hS hce hcv hcl => ?_) (fun u H locs ho hP hD hS => ?_)
    · subst ho
      have hf := jbM_l hf
      cases hf
      subst hQ
      exact rx_x ((u, sv)) rfl rfl htb hlk hK hP hD hS hce hcv hcl (Nat.le_of_ble_eq_true rfl) (Nat.le_of_ble_eq_true rfl)
    subst ho
    have hf := jbM_r hf
    cases hf
    subst hQ
    exact rx_i ((u, sv)) rfl rfl hx hb hrt hlk rfl hK hP hD hS (Nat.le_of_ble_eq_true rfl) (Nat.le_of_ble_eq_true rfl) dL_asked_117
  have hf := jbF hf h7
  by_cases h8 : a1 = 8
  · have hf := jbT hf h8
    refine lv_tableIn (tgt := 118) hx hb dL_asked_1 (by rw [h8]; decide) (by rw [h8]; decide) (by rw [h8]; rfl) (by decide) ?_
    refine lv_aload_n hx hb dL_asked_118 rfl (lv_at hl 0 rfl) ?_
    refine lv_iload_n hx hb dL_asked_119 rfl (lv_at hl 2 rfl) ?_
    obtain ⟨o, hg, hf⟩ := jbB_e hf
    refine cxpv_i (As := [.int a2]) (rest := []) (Wr := (wS g (ha 3) sv)) (Wn := fun u => wT g ha tv ++ wQ g (ha 1) qv ++ wS g (ha 3) sv) (WnX := fun u => wT g ha tv ++ wQ g (ha 1) qv ++ wS g (ha 3) sv) ⟨hx, hb, hml, hown, hts⟩ (c_X10_inYard l hlt g ha tv qv a2 _ (show f_X10_inYard tv qv a2 = some o from hg)) (cwV 1 hts gL_asked_X10_inYard rfl rfl rfl hd_X10_inYard ⟨(Nat.le_of_ble_eq_true rfl), (Nat.le_of_ble_eq_true rfl)⟩) hK hZ hT hA hP hD hS hl.1 (va_recv hK hP (ci := 9) (q0 := 0) rfl rfl) (wp_of fun f => by simp only [List.countP_append, List.countP_cons, List.countP_nil] <;> omega) (fun _ => (wp_of fun f => by simp only [List.countP_append, List.countP_cons, List.countP_nil] <;> omega)) (fun _ => (wp_of fun f => by simp only [List.countP_append, List.countP_cons, List.countP_nil] <;> omega)) rfl rfl (Nat.le_of_ble_eq_true rfl) ⟨(Nat.le_of_ble_eq_true rfl), (Nat.le_of_ble_eq_true rfl)⟩ dL_asked_120 (fun u ce q9 H locs ho hP hD hS hce hcv hcl => ?_) (fun u H locs ho hP hD hS => ?_)
    · subst ho
      have hf := jbM_l hf
      cases hf
      subst hQ
      exact rx_x ((u, sv)) rfl rfl htb hlk hK hP hD hS hce hcv hcl (Nat.le_of_ble_eq_true rfl) (Nat.le_of_ble_eq_true rfl)
    subst ho
    have hf := jbM_r hf
    cases hf
    subst hQ
    exact rx_i ((u, sv)) rfl rfl hx hb hrt hlk rfl hK hP hD hS (Nat.le_of_ble_eq_true rfl) (Nat.le_of_ble_eq_true rfl) dL_asked_123
  have hf := jbF hf h8
  by_cases h9 : a1 = 9
  · have hf := jbT hf h9
    refine lv_tableIn (tgt := 124) hx hb dL_asked_1 (by rw [h9]; decide) (by rw [h9]; decide) (by rw [h9]; rfl) (by decide) ?_
    refine lv_aload_n hx hb dL_asked_124 rfl (lv_at hl 0 rfl) ?_
    cases hf
  have hf := jbF hf h9
  cases hf
def rm_L_ask : Room := { frames := 11, cells := 3, slots := 18, locals := 190 }
theorem hd_L_ask : yL_ask.cls ≠ "java/lang/invoke/MethodHandle" ∧ yL_ask.cls ≠ "java/lang/invoke/VarHandle" ∧ (parseMethodDescriptor yL_ask.desc).map (fun d => d.parameters.length) = some 6 := by decide +kernel
set_option maxHeartbeats 4000000 in
set_option maxRecDepth 100000 in
theorem c_L_ask (l : Launch) (hlt : l.stackTraces = false) (g : GG) (ha : Nat → Nat → Nat) (tv : TV) (qv : QV) (sv : SV) (a1 : Int32) (a2 : Int32) (a3 : Int32) (a4 : Int32) (a5 : Int32) (out : Int32 × SV) (hf : f_L_ask qv sv a1 a2 a3 a4 a5 = some out) : MtI l yL_ask wsL_ask rm_L_ask g (wT g ha tv ++ wQ g (ha 1) qv ++ wS g (ha 3) sv) [.ref (ha 0 0), .int a1, .int a2, .int a3, .int a4, .int a5] out.1 (wT g ha tv ++ wQ g (ha 1) qv ++ wS g (ha 3) out.2) 3 18 := by
  refine fun sz => mh_of (hh := [(0, 11, 12, 58), (0, 11, 18, 60), (0, 11, 24, 66)]) (cc := cL_ask) (maxL := 7) (ret := (some .int)) (own := RL) (Qc := fun A => va_Qi (fun r (_ : Unit) => r = out.1) (fun _ t => PosM g A (wT g ha tv ++ wQ g (ha 1) qv ++ wS g (ha 3) out.2) t) A) (by decide +kernel) rfl rfl (Nat.le_of_ble_eq_true rfl) ?_ sz
  intro p e s mi below meth c A ls hB htb hrt hlk hP hD hl
  obtain ⟨hx, hb, hml, hown, hts, hK, hZ, hT, hA, -⟩ := hB
  have hS : va_S A s.heap s.heap [] := va_S.rf
  have hl : lv_has ls 7 [(0, .ref (ha 0 0)), (1, .int a1), (2, .int a2), (3, .int a3), (4, .int a4), (5, .int a5)] := hl
  have kk0 := hts (.classLink RL 58 "java/lang/IndexOutOfBoundsException") (by decide +kernel)
  have kk1 := hts (.classLink RL 60 "java/lang/IllegalArgumentException") (by decide +kernel)
  have kk2 := hts (.classLink RL 66 "java/util/NoSuchElementException") (by decide +kernel)
  generalize hQ : MQ below _ _ _ _ _ _ = Q
  unfold f_L_ask at hf
  obtain ⟨o, hg, hf⟩ := jbB_e hf
  refine lv_aload_n hx hb dL_ask_0 rfl (lv_at hl 0 rfl) ?_
  refine lv_iload_n hx hb dL_ask_1 rfl (lv_at hl 1 rfl) ?_
  refine lv_iload_n hx hb dL_ask_2 rfl (lv_at hl 2 rfl) ?_
  refine lv_iload_n hx hb dL_ask_3 rfl (lv_at hl 3 rfl) ?_
  refine lv_iload hx hb dL_ask_4 (lv_at hl 4 rfl) ?_
  refine lv_iload hx hb dL_ask_6 (lv_at hl 5 rfl) ?_
  refine cxps_i (As := [.ref (ha 0 0), .int a1, .int a2, .int a3, .int a4, .int a5]) (rest := []) (Wr := []) (Wn := fun u => wT g ha tv ++ wQ g (ha 1) qv ++ wS g (ha 3) u.2) (WnX := fun u => wT g ha tv ++ wQ g (ha 1) qv ++ wS g (ha 3) u.2) ⟨hx, hb, hml, hown, hts⟩ (c_L_asked l hlt g ha tv qv sv a1 a2 a3 a4 a5 _ hg) (va_cwS 6 hts gL_ask_L_asked rfl rfl rfl hd_L_asked ⟨(Nat.le_of_ble_eq_true rfl), (Nat.le_of_ble_eq_true rfl)⟩) hK hZ hT hA hP hD hS hl.1 (wp_of fun f => by simp only [List.countP_append, List.countP_cons, List.countP_nil] <;> omega) (fun _ => (wp_of fun f => by simp only [List.countP_append, List.countP_cons, List.countP_nil] <;> omega)) (fun _ => (wp_of fun f => by simp only [List.countP_append, List.countP_cons, List.countP_nil] <;> omega)) rfl rfl (Nat.le_of_ble_eq_true rfl) ⟨(Nat.le_of_ble_eq_true rfl), (Nat.le_of_ble_eq_true rfl)⟩ dL_ask_8 (fun u ce q9 H locs ho hP hD hS hce hcv hcl => ?_) (fun u H locs ho hP hD hS => ?_)
  · subst ho
    have hf := jbM_l hf
    by_cases h0 : u.1 = 0
    · have hf := jbT hf h0
      cases hf
      subst hQ
      have hcl : s.vm.findClass "java/lang/IndexOutOfBoundsException" = some ce.cls := by rw [h0] at hcl; exact hcl
      refine lx_catch hown hT [] (0, 11, 12, 58) [(0, 11, 18, 60), (0, 11, 24, 66)] htb exN_0 lx_n rfl (by decide) kk0 hce hcv hcl ?_
      refine lv_astore (lv' := [(6, .ref q9), (0, .ref (ha 0 0)), (1, .int a1), (2, .int a2), (3, .int a3), (4, .int a4), (5, .int a5)]) hx hb dL_ask_12 hl (by decide) rfl (fun ls hl => ?_)
      refine lv_sipush (v := (-2002)) hx hb dL_ask_14 (by decide) ?_
      exact rt_i hx hb hrt hlk rfl hK hP hD hS (Nat.le_of_ble_eq_true rfl) (Nat.le_of_ble_eq_true rfl) dL_ask_17
    · have hf := jbF hf h0
      by_cases h1 : u.1 = 1
      · have hf := jbT hf h1
        cases hf
        subst hQ
        have hcl : s.vm.findClass "java/lang/IllegalArgumentException" = some ce.cls := by rw [h1] at hcl; exact hcl
        refine lx_catch hown hT [(0, 11, 12, 58)] (0, 11, 18, 60) [(0, 11, 24, 66)] htb exN_1 (lx_c (nm := "java/lang/IndexOutOfBoundsException") (by decide) exN_0 (by decide) kk0 lx_n) rfl (by decide) kk1 hce hcv hcl ?_
        refine lv_astore (lv' := [(6, .ref q9), (0, .ref (ha 0 0)), (1, .int a1), (2, .int a2), (3, .int a3), (4, .int a4), (5, .int a5)]) hx hb dL_ask_18 hl (by decide) rfl (fun ls hl => ?_)
        refine lv_sipush (v := (-2003)) hx hb dL_ask_20 (by decide) ?_
        exact rt_i hx hb hrt hlk rfl hK hP hD hS (Nat.le_of_ble_eq_true rfl) (Nat.le_of_ble_eq_true rfl) dL_ask_23
      · have hf := jbF hf h1
        by_cases h2 : u.1 = 2
        · have hf := jbT hf h2
          cases hf
          subst hQ
          have hcl : s.vm.findClass "java/util/NoSuchElementException" = some ce.cls := by rw [h2] at hcl; exact hcl
          refine lx_catch hown hT [(0, 11, 12, 58), (0, 11, 18, 60)] (0, 11, 24, 66) [] htb exN_2 (lx_c (nm := "java/lang/IndexOutOfBoundsException") (by decide) exN_0 (by decide) kk0 (lx_c (nm := "java/lang/IllegalArgumentException") (by decide) exN_1 (by decide) kk1 lx_n)) rfl (by decide) kk2 hce hcv hcl ?_
          refine lv_astore (lv' := [(6, .ref q9), (0, .ref (ha 0 0)), (1, .int a1), (2, .int a2), (3, .int a3), (4, .int a4), (5, .int a5)]) hx hb dL_ask_24 hl (by decide) rfl (fun ls hl => ?_)
          refine lv_sipush (v := (-2004)) hx hb dL_ask_26 (by decide) ?_
          exact rt_i hx hb hrt hlk rfl hK hP hD hS (Nat.le_of_ble_eq_true rfl) (Nat.le_of_ble_eq_true rfl) dL_ask_29
        · have hf := jbF hf h2
          cases hf
  subst ho
  have hf := jbM_r hf
  cases hf
  subst hQ
  exact rt_i hx hb hrt hlk rfl hK hP hD hS (Nat.le_of_ble_eq_true rfl) (Nat.le_of_ble_eq_true rfl) dL_ask_11
