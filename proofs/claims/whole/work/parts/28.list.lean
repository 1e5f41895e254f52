theorem nT_le (n j : Nat) (hn : n < 11) (hj : j < 11) : nI n ≤ nI j ↔ n ≤ j := (by decide +kernel : ∀ n : Fin 11, ∀ j : Fin 11, (nI n.val ≤ nI j.val ↔ n.val ≤ j.val)) ⟨n, hn⟩ ⟨j, hj⟩
theorem nT_eq (n j : Nat) (hn : n < 11) (hj : j < 11) : nI n = nI j ↔ n = j := (by decide +kernel : ∀ n : Fin 11, ∀ j : Fin 11, (nI n.val = nI j.val ↔ n.val = j.val)) ⟨n, hn⟩ ⟨j, hj⟩
theorem nT_s (j : Nat) (hj : j < 11) : nI j + 1 = nI (j + 1) := (by decide +kernel : ∀ j : Fin 11, nI j.val + 1 = nI (j.val + 1)) ⟨j, hj⟩
theorem nT_t (j : Nat) (hj : j < 11) : (nI j).toNatClampNeg = j := (by decide +kernel : ∀ j : Fin 11, (nI j.val).toNatClampNeg = j.val) ⟨j, hj⟩
theorem nT_in (j : Nat) (hj : j < 10) : jIn (nI j) 10 := (by decide +kernel : ∀ j : Fin 10, jIn (nI j.val) 10) ⟨j, hj⟩
theorem ls_in {lq : ListS} {ea : Nat} {f : Nat → Option Nat} (g : GG) (hr : Nat) (h : lq.2.2 = some (ea, f)) : wL g hr lq = [(hr, .inr (2, [.int lq.1, .ref ea, .int lq.2.1])), (ea, .inl (gC g 6, 10, .inr (.inr (.inr (.inr f)))))] := by
  unfold wL lsE lsW
  rw [h]
  rfl
theorem ls_no {lq : ListS} (g : GG) (hr : Nat) (h : lq.2.2 = none) : wL g hr lq = [(hr, .inr (2, [.int lq.1, .ref (gS g 4 3), .int lq.2.1]))] := by
  unfold wL lsE lsW
  rw [h]
  rfl
def rm_Jx4a65c_size_8abf5 : Room := { frames := 0, cells := 0, slots := 0, locals := 0 }
theorem hd_Jx4a65c_size_8abf5 : yJx4a65c_size_8abf5.cls = RJx4a65c ∧ yJx4a65c_size_8abf5.cls ≠ "java/lang/invoke/MethodHandle" ∧ yJx4a65c_size_8abf5.cls ≠ "java/lang/invoke/VarHandle" ∧ (parseMethodDescriptor yJx4a65c_size_8abf5.desc).map (fun d => d.parameters.length) = some 0 := by decide +kernel
set_option maxHeartbeats 4000000 in
set_option maxRecDepth 100000 in
theorem c_Jx4a65c_size_8abf5 (l : Launch) (g : GG) (hr : Nat) (lq : ListS) : MtI l yJx4a65c_size_8abf5 wsJx4a65c_size_8abf5 rm_Jx4a65c_size_8abf5 g (wL g hr lq) [.ref hr] lq.2.1 (wL g hr lq) 0 0 := by
  refine fun sz => mt_of (cc := cJx4a65c_size_8abf5) (maxL := 1) (ret := (some .int)) (own := RJx4a65c) (Qc := fun A => va_Qi (fun r (_ : Unit) => r = lq.2.1) (fun _ t => PosM g A (wL g hr lq) t) A) (by decide +kernel) rfl rfl (Nat.le_of_ble_eq_true rfl) ?_ sz
  intro p e s mi below meth c A ls hB hnm hrt hlk hP hD hl
  obtain ⟨hx, hb, hml, hown, hts, hK, hZ, hT, hA, -⟩ := hB
  have hS : va_S A s.heap s.heap [] := va_S.rf
  have hl : lv_has ls 1 [(0, .ref hr)] := hl
  have hinJx4a65c : ∀ w ∈ wsJx4a65c0, w ∈ wsJx4a65c_size_8abf5 := by decide +kernel
  have kk0 := hts (.fieldLink RJx4a65c 48 "java/util/ArrayList" "size" "I") (by decide +kernel)
  have hP : va_P (gD g) vwCl ([(hr, .inr (2, [.int lq.1, .ref (lsE g lq), .int lq.2.1]))] ++ lsW g lq) s.heap := hP
  have hD : va_D A ([(hr, .inr (2, [.int lq.1, .ref (lsE g lq), .int lq.2.1]))] ++ lsW g lq) := hD
  refine lv_aload_n hx hb dJx4a65c_size_8abf5_0 rfl (lv_at hl 0 rfl) ?_
  refine va_get (D := gD g) (ci := 2) (v := .int lq.2.1) (C := RJx4a65c) (T := TJx4a65c) (N := 3) hx hb hts hinJx4a65c hown hK hP 0 rfl rfl 2 (by decide) kk0 (fun _ h9 => h9) rfl dJx4a65c_size_8abf5_1 ?_
  exact rt_i hx hb hrt hlk rfl hK hP hD hS (Nat.le_of_ble_eq_true rfl) (Nat.le_of_ble_eq_true rfl) dJx4a65c_size_8abf5_4
def rm_Jx4a65c_elementData_915e3 : Room := { frames := 0, cells := 0, slots := 0, locals := 0 }
theorem hd_Jx4a65c_elementData_915e3 : yJx4a65c_elementData_915e3.cls = RJx4a65c ∧ yJx4a65c_elementData_915e3.cls ≠ "java/lang/invoke/MethodHandle" ∧ yJx4a65c_elementData_915e3.cls ≠ "java/lang/invoke/VarHandle" ∧ (parseMethodDescriptor yJx4a65c_elementData_915e3.desc).map (fun d => d.parameters.length) = some 1 := by decide +kernel
set_option maxHeartbeats 4000000 in
set_option maxRecDepth 100000 in
theorem c_Jx4a65c_elementData_915e3 (l : Launch) (g : GG) (hr ea : Nat) (m n : Int32) (f : Nat → Option Nat) (i : Int32) (hi : jIn i 10) : MtR l yJx4a65c_elementData_915e3 wsJx4a65c_elementData_915e3 rm_Jx4a65c_elementData_915e3 g [(hr, .inr (2, [.int m, .ref ea, .int n])), (ea, .inl (gC g 6, 10, .inr (.inr (.inr (.inr f)))))] [.ref hr, .int i] (f i.toNatClampNeg) [(hr, .inr (2, [.int m, .ref ea, .int n])), (ea, .inl (gC g 6, 10, .inr (.inr (.inr (.inr f)))))] 0 0 := by
  refine fun sz => mt_of (cc := cJx4a65c_elementData_915e3) (maxL := 2) (ret := (some (.object "java/lang/Object"))) (own := RJx4a65c) (Qc := fun A => va_Qq (fun r (_ : Unit) => r = f i.toNatClampNeg) (fun _ t => PosM g A [(hr, .inr (2, [.int m, .ref ea, .int n])), (ea, .inl (gC g 6, 10, .inr (.inr (.inr (.inr f)))))] t) A) (by decide +kernel) rfl rfl (Nat.le_of_ble_eq_true rfl) ?_ sz
  intro p e s mi below meth c A ls hB hnm hrt hlk hP hD hl
  obtain ⟨hx, hb, hml, hown, hts, hK, hZ, hT, hA, -⟩ := hB
  have hS : va_S A s.heap s.heap [] := va_S.rf
  have hl : lv_has ls 2 [(0, .ref hr), (1, .int i)] := hl
  have hinJx4a65c : ∀ w ∈ wsJx4a65c0, w ∈ wsJx4a65c_elementData_915e3 := by decide +kernel
  have kk0 := hts (.fieldLink RJx4a65c 9 "java/util/ArrayList" "elementData" "[Ljava/lang/Object;") (by decide +kernel)
  refine lv_aload_n hx hb dJx4a65c_elementData_915e3_0 rfl (lv_at hl 0 rfl) ?_
  refine va_get (D := gD g) (ci := 2) (v := .ref ea) (C := RJx4a65c) (T := TJx4a65c) (N := 3) hx hb hts hinJx4a65c hown hK hP 0 rfl rfl 1 (by decide) kk0 (fun _ h9 => h9) rfl dJx4a65c_elementData_915e3_1 ?_
  refine lv_iload_n hx hb dJx4a65c_elementData_915e3_4 rfl (lv_at hl 1 rfl) ?_
  refine va_aldq hx hb hK hP 1 6 rfl rfl hi dJx4a65c_elementData_915e3_5 ?_
  exact rt_r (rv := f i.toNatClampNeg) hx hb hrt (Or.inl ⟨_, rfl⟩) hlk hK hP hD hS (Nat.le_of_ble_eq_true rfl) (Nat.le_of_ble_eq_true rfl) dJx4a65c_elementData_915e3_6
def rm_Jx4a65c_get_915e3 : Room := { frames := 2, cells := 0, slots := 0, locals := 43 }
theorem hd_Jx4a65c_get_915e3 : yJx4a65c_get_915e3.cls = RJx4a65c ∧ yJx4a65c_get_915e3.cls ≠ "java/lang/invoke/MethodHandle" ∧ yJx4a65c_get_915e3.cls ≠ "java/lang/invoke/VarHandle" ∧ (parseMethodDescriptor yJx4a65c_get_915e3.desc).map (fun d => d.parameters.length) = some 1 := by decide +kernel
set_option maxHeartbeats 4000000 in
set_option maxRecDepth 100000 in
theorem c_Jx4a65c_get_915e3 (l : Launch) (g : GG) (hr ea : Nat) (m n : Int32) (f : Nat → Option Nat) (i r : Int32) (hi : jIn i 10) (hg : f_J15_checkIndex_7cf53 i n = some r) : MtR l yJx4a65c_get_915e3 wsJx4a65c_get_915e3 rm_Jx4a65c_get_915e3 g [(hr, .inr (2, [.int m, .ref ea, .int n])), (ea, .inl (gC g 6, 10, .inr (.inr (.inr (.inr f)))))] [.ref hr, .int i] (f i.toNatClampNeg) [(hr, .inr (2, [.int m, .ref ea, .int n])), (ea, .inl (gC g 6, 10, .inr (.inr (.inr (.inr f)))))] 0 0 := by
  refine fun sz => mt_of (cc := cJx4a65c_get_915e3) (maxL := 2) (ret := (some (.object "java/lang/Object"))) (own := RJx4a65c) (Qc := fun A => va_Qq (fun r (_ : Unit) => r = f i.toNatClampNeg) (fun _ t => PosM g A [(hr, .inr (2, [.int m, .ref ea, .int n])), (ea, .inl (gC g 6, 10, .inr (.inr (.inr (.inr f)))))] t) A) (by decide +kernel) rfl rfl (Nat.le_of_ble_eq_true rfl) ?_ sz
  intro p e s mi below meth c A ls hB hnm hrt hlk hP hD hl
  obtain ⟨hx, hb, hml, hown, hts, hK, hZ, hT, hA, -⟩ := hB
  have hS : va_S A s.heap s.heap [] := va_S.rf
  have hl : lv_has ls 2 [(0, .ref hr), (1, .int i)] := hl
  have hinJx4a65c : ∀ w ∈ wsJx4a65c0, w ∈ wsJx4a65c_get_915e3 := by decide +kernel
  have kk0 := hts (.fieldLink RJx4a65c 48 "java/util/ArrayList" "size" "I") (by decide +kernel)
  refine lv_iload_n hx hb dJx4a65c_get_915e3_0 rfl (lv_at hl 1 rfl) ?_
  refine lv_aload_n hx hb dJx4a65c_get_915e3_1 rfl (lv_at hl 0 rfl) ?_
  refine va_get (D := gD g) (ci := 2) (v := .int n) (C := RJx4a65c) (T := TJx4a65c) (N := 3) hx hb hts hinJx4a65c hown hK hP 0 rfl rfl 2 (by decide) kk0 (fun _ h9 => h9) rfl dJx4a65c_get_915e3_2 ?_
  refine csn_i (As := [.int i, .int n]) (rest := []) ⟨hx, hb, hml, hown, hts⟩ (c_J15_checkIndex_7cf53 l g _ _ _ hg) (va_cwS 2 hts gJx4a65c_get_915e3_J15_checkIndex_7cf53 rfl rfl rfl hd_J15_checkIndex_7cf53 ⟨(Nat.le_of_ble_eq_true rfl), (Nat.le_of_ble_eq_true rfl)⟩) hK hZ hT hA hP hD hS hl.1 rfl rfl (Nat.le_of_ble_eq_true rfl) ⟨(Nat.le_of_ble_eq_true rfl), (Nat.le_of_ble_eq_true rfl)⟩ dJx4a65c_get_915e3_5 (fun H locs hP hD hS => ?_)
  refine lv_pop hx hb dJx4a65c_get_915e3_8 rfl ?_
  refine lv_aload_n hx hb dJx4a65c_get_915e3_9 rfl (lv_at hl 0 rfl) ?_
  refine lv_iload_n hx hb dJx4a65c_get_915e3_10 rfl (lv_at hl 1 rfl) ?_
  
  refine cpv_r (As := [.int i]) (rest := []) (Wr := []) (Wn := [(hr, .inr (2, [.int m, .ref ea, .int n])), (ea, .inl (gC g 6, 10, .inr (.inr (.inr (.inr f)))))]) ⟨hx, hb, hml, hown, hts⟩ (c_Jx4a65c_elementData_915e3 l g hr ea m n f i hi) (cwV 1 hts gJx4a65c_get_915e3_Jx4a65c_elementData_915e3 rfl rfl rfl hd_Jx4a65c_elementData_915e3 ⟨(Nat.le_of_ble_eq_true rfl), (Nat.le_of_ble_eq_true rfl)⟩) hK hZ hT hA hP hD hS hl.1 (va_recv hK hP (ci := 2) (q0 := 0) rfl rfl) (wp_of fun f => by simp only [List.countP_append, List.countP_cons, List.countP_nil] <;> omega) (wp_of fun f => by simp only [List.countP_append, List.countP_cons, List.countP_nil] <;> omega) rfl rfl (Nat.le_of_ble_eq_true rfl) ⟨(Nat.le_of_ble_eq_true rfl), (Nat.le_of_ble_eq_true rfl)⟩ dJx4a65c_get_915e3_11 (fun H locs hP hD hS => ?_)
  exact rt_r (rv := f i.toNatClampNeg) hx hb hrt (Or.inl ⟨_, rfl⟩) hlk hK hP hD hS (Nat.le_of_ble_eq_true rfl) (Nat.le_of_ble_eq_true rfl) dJx4a65c_get_915e3_14
def rm_Jx4a65c_grow_92f84 : Room := { frames := 1, cells := 1, slots := 10, locals := 25 }
theorem hd_Jx4a65c_grow_92f84 : yJx4a65c_grow_92f84.cls = RJx4a65c ∧ yJx4a65c_grow_92f84.cls ≠ "java/lang/invoke/MethodHandle" ∧ yJx4a65c_grow_92f84.cls ≠ "java/lang/invoke/VarHandle" ∧ (parseMethodDescriptor yJx4a65c_grow_92f84.desc).map (fun d => d.parameters.length) = some 1 := by decide +kernel
set_option maxHeartbeats 4000000 in
set_option maxRecDepth 100000 in
theorem c_Jx4a65c_grow_92f84 (l : Launch) (g : GG) (hr : Nat) (m z : Int32) : MzR (RT := Nat) l yJx4a65c_grow_92f84 wsJx4a65c_grow_92f84 rm_Jx4a65c_grow_92f84 g [(hr, .inr (2, [.int m, .ref (gS g 4 3), .int z]))] [.ref hr, .int 1] (fun _ => True) (fun u => some u) (fun u => [(hr, .inr (2, [.int m, .ref u, .int z])), (u, .inl (gC g 6, 10, .inr (.inr (.inr (.inr (fun _ => none))))))]) 1 10 := by
  refine fun sz => mt_of (cc := cJx4a65c_grow_92f84) (maxL := 4) (ret := (some (.array (.object "java/lang/Object")))) (own := RJx4a65c) (Qc := fun A => va_Qq (fun r (u : Nat) => True ∧ r = some u) (fun u t => PosM g A [(hr, .inr (2, [.int m, .ref u, .int z])), (u, .inl (gC g 6, 10, .inr (.inr (.inr (.inr (fun _ => none))))))] t) A) (by decide +kernel) rfl rfl (Nat.le_of_ble_eq_true rfl) ?_ sz
  intro p e s mi below meth c A ls hB hnm hrt hlk hP hD hl
  obtain ⟨hx, hb, hml, hown, hts, hK, hZ, hT, hA, -⟩ := hB
  have hS : va_S A s.heap s.heap [] := va_S.rf
  have hl : lv_has ls 4 [(0, .ref hr), (1, .int 1)] := hl
  have hinJx4a65c : ∀ w ∈ wsJx4a65c0, w ∈ wsJx4a65c_grow_92f84 := by decide +kernel
  have kk0 := hts (.fieldLink RJx4a65c 9 "java/util/ArrayList" "elementData" "[Ljava/lang/Object;") (by decide +kernel)
  have kk1 := hts (.fieldLink RJx4a65c 39 "java/util/ArrayList" "DEFAULTCAPACITY_EMPTY_ELEMENTDATA" "[Ljava/lang/Object;") (by decide +kernel)
  have kk2 := hts (.methodLink RJx4a65c 79 Lib.Math.max.name) (by decide +kernel)
  have kk3 := hts (.static Lib.Math.max.name) (by decide +kernel)
  have kk4 := hts (.initialized "java/lang/Math") (by decide +kernel)
  have kk5 := hts (.code Lib.Math.max.name Lib.Math.max.code 2 (some .int)) (by decide +kernel)
  have kk6 := hts (.classLink RJx4a65c 7 "java/lang/Object") (by decide +kernel)
  refine lv_aload_n hx hb dJx4a65c_grow_92f84_0 rfl (lv_at hl 0 rfl) ?_
  refine va_get (D := gD g) (ci := 2) (v := .ref (gS g 4 3)) (C := RJx4a65c) (T := TJx4a65c) (N := 3) hx hb hts hinJx4a65c hown hK hP 0 rfl rfl 1 (by decide) kk0 (fun _ h9 => h9) rfl dJx4a65c_grow_92f84_1 ?_
  refine va_tlen (v := 0) hx hb hZ.2.2.2.2.2.2.2.1.2 hS rfl dJx4a65c_grow_92f84_4 ?_
  refine lv_istore_n (lv' := [(2, .int 0), (0, .ref hr), (1, .int 1)]) hx hb dJx4a65c_grow_92f84_5 rfl hl (by decide) rfl (fun ls hl => ?_)
  refine lv_iload_n hx hb dJx4a65c_grow_92f84_6 rfl (lv_at hl 0 rfl) ?_
  refine lv_if_gt (tgt := 20) hx hb dJx4a65c_grow_92f84_7 (by decide) (fun hcc => absurd hcc (by decide)) (fun hcc => ?_)
  refine lv_aload_n hx hb dJx4a65c_grow_92f84_10 rfl (lv_at hl 1 rfl) ?_
  refine va_get (D := gD g) (ci := 2) (v := .ref (gS g 4 3)) (C := RJx4a65c) (T := TJx4a65c) (N := 3) hx hb hts hinJx4a65c hown hK hP 0 rfl rfl 1 (by decide) kk0 (fun _ h9 => h9) rfl dJx4a65c_grow_92f84_11 ?_
  refine va_gets (C := "java/util/ArrayList") (n := "DEFAULTCAPACITY_EMPTY_ELEMENTDATA") (d := "[Ljava/lang/Object;") (v := .ref (gS g 4 3)) hx hb hZ.2.2.2.2.2.2.2.1.1 hS hown kk1 (fun _ h9 => h9) dJx4a65c_grow_92f84_14 ?_
  refine lv_acmp_eq (rx := some (gS g 4 3)) (ry := some (gS g 4 3)) (tgt := 45) hx hb dJx4a65c_grow_92f84_17 (by decide) (fun hcc => ?_) (fun hcc => absurd rfl hcc)
  refine lv_aload_n hx hb dJx4a65c_grow_92f84_45 rfl (lv_at hl 1 rfl) ?_
  refine lv_bipush (v := 10) hx hb dJx4a65c_grow_92f84_46 (by decide) ?_
  refine lv_iload_n hx hb dJx4a65c_grow_92f84_48 rfl (lv_at hl 2 rfl) ?_
  refine va_mmax hx hb (hml.trans hl.1.symm) hown kk2 kk3 kk4 kk5 (Nat.le_of_ble_eq_true rfl) (Nat.le_of_ble_eq_true rfl) (Nat.le_of_ble_eq_true rfl) (Nat.le_of_ble_eq_true rfl) dJx4a65c_grow_92f84_49 ?_
  refine va_newq (C := "java/lang/Object") hx hb hown kk6 hT.2.2.2.2.2.2 hK hP hD hS hA (by decide) (show (jMax 10 1 : Int32).toNatClampNeg = 10 from by decide) (by decide) (Nat.le_of_ble_eq_true rfl) (Nat.le_of_ble_eq_true rfl) dJx4a65c_grow_92f84_52 (fun q1 cAq1 H hK9 hP hD hS => ?_)
  have ecAq1 := ar_id hK9 6 rfl
  rw [ecAq1] at hP hD
  have hP : va_P (gD g) vwCl [(hr, .inr (2, [.int m, .ref (gS g 4 3), .int z])), (q1, .inl (gC g 6, 10, .inr (.inr (.inr (.inr (fun _ => none))))))] H := hP
  have hD : va_D A [(hr, .inr (2, [.int m, .ref (gS g 4 3), .int z])), (q1, .inl (gC g 6, 10, .inr (.inr (.inr (.inr (fun _ => none))))))] := hD
  refine lv_dup_x1 hx hb dJx4a65c_grow_92f84_55 rfl rfl ?_
  refine va_put (D := gD g) (ci := 2) (v := .ref q1) (ty := .array (.object "java/lang/Object")) (C := RJx4a65c) (T := TJx4a65c) (N := 3) hx hb hts hinJx4a65c tyJx4a65c tyJx4a65c_ok nmJx4a65c hown hK hP hD hS 0 rfl rfl 1 (by decide) kk0 (fun _ h9 => h9) rfl (tyJx4a65c_ok 1 (by decide)) rfl rfl (Nat.le_of_ble_eq_true rfl) dJx4a65c_grow_92f84_56 (fun H locs hP hD hS => ?_)
  have hP : va_P (gD g) vwCl [(hr, .inr (2, [.int m, .ref q1, .int z])), (q1, .inl (gC g 6, 10, .inr (.inr (.inr (.inr (fun _ => none))))))] H := hP
  have hD : va_D A [(hr, .inr (2, [.int m, .ref q1, .int z])), (q1, .inl (gC g 6, 10, .inr (.inr (.inr (.inr (fun _ => none))))))] := hD
  exact rz_r (RT := Nat) (rv := fun u => some u) (PR := fun _ => True) (v := some q1) (W1 := fun u => [(hr, .inr (2, [.int m, .ref u, .int z])), (u, .inl (gC g 6, 10, .inr (.inr (.inr (.inr (fun _ => none))))))]) q1 trivial rfl hx hb hrt hlk (Or.inr ⟨_, rfl⟩) hK hP hD hS (Nat.le_of_ble_eq_true rfl) (Nat.le_of_ble_eq_true rfl) dJx4a65c_grow_92f84_59
def rm_Jx4a65c_grow_d5877 : Room := { frames := 2, cells := 1, slots := 10, locals := 48 }
theorem hd_Jx4a65c_grow_d5877 : yJx4a65c_grow_d5877.cls = RJx4a65c ∧ yJx4a65c_grow_d5877.cls ≠ "java/lang/invoke/MethodHandle" ∧ yJx4a65c_grow_d5877.cls ≠ "java/lang/invoke/VarHandle" ∧ (parseMethodDescriptor yJx4a65c_grow_d5877.desc).map (fun d => d.parameters.length) = some 0 := by decide +kernel
set_option maxHeartbeats 4000000 in
set_option maxRecDepth 100000 in
theorem c_Jx4a65c_grow_d5877 (l : Launch) (g : GG) (hr : Nat) (m : Int32) : MzR (RT := Nat) l yJx4a65c_grow_d5877 wsJx4a65c_grow_d5877 rm_Jx4a65c_grow_d5877 g [(hr, .inr (2, [.int m, .ref (gS g 4 3), .int 0]))] [.ref hr] (fun _ => True) (fun u => some u) (fun u => [(hr, .inr (2, [.int m, .ref u, .int 0])), (u, .inl (gC g 6, 10, .inr (.inr (.inr (.inr (fun _ => none))))))]) 1 10 := by
  refine fun sz => mt_of (cc := cJx4a65c_grow_d5877) (maxL := 1) (ret := (some (.array (.object "java/lang/Object")))) (own := RJx4a65c) (Qc := fun A => va_Qq (fun r (u : Nat) => True ∧ r = some u) (fun u t => PosM g A [(hr, .inr (2, [.int m, .ref u, .int 0])), (u, .inl (gC g 6, 10, .inr (.inr (.inr (.inr (fun _ => none))))))] t) A) (by decide +kernel) rfl rfl (Nat.le_of_ble_eq_true rfl) ?_ sz
  intro p e s mi below meth c A ls hB hnm hrt hlk hP hD hl
  obtain ⟨hx, hb, hml, hown, hts, hK, hZ, hT, hA, -⟩ := hB
  have hS : va_S A s.heap s.heap [] := va_S.rf
  have hl : lv_has ls 1 [(0, .ref hr)] := hl
  have hinJx4a65c : ∀ w ∈ wsJx4a65c0, w ∈ wsJx4a65c_grow_d5877 := by decide +kernel
  have kk0 := hts (.fieldLink RJx4a65c 48 "java/util/ArrayList" "size" "I") (by decide +kernel)
  refine lv_aload_n hx hb dJx4a65c_grow_d5877_0 rfl (lv_at hl 0 rfl) ?_
  refine lv_aload_n hx hb dJx4a65c_grow_d5877_1 rfl (lv_at hl 0 rfl) ?_
  refine va_get (D := gD g) (ci := 2) (v := .int 0) (C := RJx4a65c) (T := TJx4a65c) (N := 3) hx hb hts hinJx4a65c hown hK hP 0 rfl rfl 2 (by decide) kk0 (fun _ h9 => h9) rfl dJx4a65c_grow_d5877_2 ?_
  refine lv_iconst (v := 1) hx hb dJx4a65c_grow_d5877_5 (by decide) ?_
  refine lv_iadd hx hb dJx4a65c_grow_d5877_6 ?_
  rw [show (0 : Int32) + 1 = 1 from rfl]
  refine czv_r (As := [.int 1]) (rest := []) (Wr := []) (Wn := fun u => [(hr, .inr (2, [.int m, .ref u, .int 0])), (u, .inl (gC g 6, 10, .inr (.inr (.inr (.inr (fun _ => none))))))]) ⟨hx, hb, hml, hown, hts⟩ (c_Jx4a65c_grow_92f84 l g hr m 0) (cwV 1 hts gJx4a65c_grow_d5877_Jx4a65c_grow_92f84 rfl rfl rfl hd_Jx4a65c_grow_92f84 ⟨(Nat.le_of_ble_eq_true rfl), (Nat.le_of_ble_eq_true rfl)⟩) hK hZ hT hA hP hD hS hl.1 (va_recv hK hP (ci := 2) (q0 := 0) rfl rfl) (wp_of fun f => by simp only [List.countP_append, List.countP_cons, List.countP_nil] <;> omega) (fun u => (wp_of fun f => by simp only [List.countP_append, List.countP_cons, List.countP_nil] <;> omega)) rfl rfl (Nat.le_of_ble_eq_true rfl) ⟨(Nat.le_of_ble_eq_true rfl), (Nat.le_of_ble_eq_true rfl)⟩ dJx4a65c_grow_d5877_7 (fun u H locs ho hP hD hS => ?_)
  exact rz_r (RT := Nat) (rv := fun u => some u) (PR := fun _ => True) (v := some u) (W1 := fun u => [(hr, .inr (2, [.int m, .ref u, .int 0])), (u, .inl (gC g 6, 10, .inr (.inr (.inr (.inr (fun _ => none))))))]) u trivial rfl hx hb hrt hlk (Or.inr ⟨_, rfl⟩) hK hP hD hS (Nat.le_of_ble_eq_true rfl) (Nat.le_of_ble_eq_true rfl) dJx4a65c_grow_d5877_10
theorem va_upE {f : Nat → Option Nat} {n : Nat} {v : Option Nat} : va_up f n v n = v := by simp [va_up]
theorem va_upN {f : Nat → Option Nat} {n k : Nat} {v : Option Nat} (h : k ≠ n) : va_up f n v k = f k := by simp [va_up, h]
def rm_Jx4a65c_add_72be8 : Room := { frames := 3, cells := 1, slots := 10, locals := 68 }
theorem hd_Jx4a65c_add_72be8 : yJx4a65c_add_72be8.cls = RJx4a65c ∧ yJx4a65c_add_72be8.cls ≠ "java/lang/invoke/MethodHandle" ∧ yJx4a65c_add_72be8.cls ≠ "java/lang/invoke/VarHandle" ∧ (parseMethodDescriptor yJx4a65c_add_72be8.desc).map (fun d => d.parameters.length) = some 3 := by decide +kernel
set_option maxHeartbeats 4000000 in
set_option maxRecDepth 100000 in
theorem c_Jx4a65c_add_72be8 (l : Launch) (g : GG) (hr : Nat) (hc : Nat → Nat) (cv : CV) (lq : ListS) (n : Nat) (hn : n < 10) (hsz9 : lq.2.1 = nI n) (hnn : lq.2.2 = none → n = 0) : MzV (RT := ListS) l yJx4a65c_add_72be8 wsJx4a65c_add_72be8 rm_Jx4a65c_add_72be8 g (wL g hr lq ++ wC g hc cv) [.ref hr, .ref (hc 0), .ref (lsE g lq), .int (nI n)] (fun u => u.1 = lq.1 ∧ u.2.1 = nI (n + 1) ∧ ∃ (ea : Nat) (f : Nat → Option Nat), u.2.2 = some (ea, f) ∧ f n = some (hc 0) ∧ ∀ e, lq.2.2 = some e → ∀ k, k < n → f k = e.2 k) (fun u => wL g hr u ++ wC g hc cv) 1 10 := by
  refine fun sz => mt_of (cc := cJx4a65c_add_72be8) (maxL := 4) (ret := none) (own := RJx4a65c) (Qc := fun A => va_Qv (fun u : ListS => u.1 = lq.1 ∧ u.2.1 = nI (n + 1) ∧ ∃ (ea : Nat) (f : Nat → Option Nat), u.2.2 = some (ea, f) ∧ f n = some (hc 0) ∧ ∀ e, lq.2.2 = some e → ∀ k, k < n → f k = e.2 k) (fun u t => PosM g A (wL g hr u ++ wC g hc cv) t) A) (by decide +kernel) rfl rfl (Nat.le_of_ble_eq_true rfl) ?_ sz
  intro p e s mi below meth c A ls hB hnm hrt hlk hP hD hl
  obtain ⟨hx, hb, hml, hown, hts, hK, hZ, hT, hA, -⟩ := hB
  have hS : va_S A s.heap s.heap [] := va_S.rf
  have hl : lv_has ls 4 [(0, .ref hr), (1, .ref (hc 0)), (2, .ref (lsE g lq)), (3, .int (nI n))] := hl
  have hinJx4a65c : ∀ w ∈ wsJx4a65c0, w ∈ wsJx4a65c_add_72be8 := by decide +kernel
  have kk0 := hts (.fieldLink RJx4a65c 48 "java/util/ArrayList" "size" "I") (by decide +kernel)
  obtain ⟨o9, ho⟩ : ∃ o, lq.2.2 = o := ⟨_, rfl⟩
  cases o9 with
  | some e9 =>
    obtain ⟨ea, f⟩ := e9
    rw [ls_in g hr ho] at hP hD
    have e8 : lsE g lq = ea := by unfold lsE; rw [ho]
    rw [e8] at hl
    refine lv_iload_n hx hb dJx4a65c_add_72be8_0 rfl (lv_at hl 3 rfl) ?_
    refine lv_aload_n hx hb dJx4a65c_add_72be8_1 rfl (lv_at hl 2 rfl) ?_
    refine va_alen (v := 10) hx hb hK hP 1 6 rfl rfl rfl dJx4a65c_add_72be8_2 ?_
    refine lv_icmp_ne (tgt := 11) hx hb dJx4a65c_add_72be8_3 (by decide) (fun hcc => ?_) (fun hcc => absurd ((nT_eq n 10 (by omega) (by omega)).mp hcc) (by omega))
    refine lv_aload_n hx hb dJx4a65c_add_72be8_11 rfl (lv_at hl 2 rfl) ?_
    refine lv_iload_n hx hb dJx4a65c_add_72be8_12 rfl (lv_at hl 3 rfl) ?_
    refine lv_aload_n hx hb dJx4a65c_add_72be8_13 rfl (lv_at hl 1 rfl) ?_
    have hPr : va_P (gD g) vwCl (wC g hc cv ++ [(hr, .inr (2, [.int lq.1, .ref ea, .int lq.2.1])), (ea, .inl (gC g 6, 10, .inr (.inr (.inr (.inr f)))))]) _ := wp_P (wp_of fun f => by simp only [List.countP_append, List.countP_cons, List.countP_nil] <;> omega) hP
    have hasg : ∀ comp c0 : ClassId, s.vm.findClass "java/lang/Object" = some comp → s.vm.findClass "TerraceQuarry$Command" = some c0 → s.vm.assignable c0 comp = true := fun comp c0 h1 h2 => vb_asgC hT.2.2.2.2.1 comp c0 h1 h2
    refine vb_astq (E := "java/lang/Object") (C := "TerraceQuarry$Command") hx hb hK hP hD hS 1 6 rfl rfl (va_recv hK hPr (ci := 3) (q0 := 0) rfl rfl) hasg (nT_in n hn) dJx4a65c_add_72be8_14 (fun H locs hP hD hS => ?_)
    have hP : va_P (gD g) vwCl ([(hr, .inr (2, [.int lq.1, .ref ea, .int lq.2.1])), (ea, .inl (gC g 6, 10, .inr (.inr (.inr (.inr (va_up f (nI n).toNatClampNeg (some (hc 0))))))))] ++ wC g hc cv) H := hP
    have hD : va_D A ([(hr, .inr (2, [.int lq.1, .ref ea, .int lq.2.1])), (ea, .inl (gC g 6, 10, .inr (.inr (.inr (.inr (va_up f (nI n).toNatClampNeg (some (hc 0))))))))] ++ wC g hc cv) := hD
    refine lv_aload_n hx hb dJx4a65c_add_72be8_15 rfl (lv_at hl 0 rfl) ?_
    refine lv_iload_n hx hb dJx4a65c_add_72be8_16 rfl (lv_at hl 3 rfl) ?_
    refine lv_iconst (v := 1) hx hb dJx4a65c_add_72be8_17 (by decide) ?_
    refine lv_iadd hx hb dJx4a65c_add_72be8_18 ?_
    refine va_put (D := gD g) (ci := 2) (v := .int ((nI n) + 1)) (ty := .int) (C := RJx4a65c) (T := TJx4a65c) (N := 3) hx hb hts hinJx4a65c tyJx4a65c tyJx4a65c_ok nmJx4a65c hown hK hP hD hS 0 rfl rfl 2 (by decide) kk0 (fun _ h9 => h9) rfl (tyJx4a65c_ok 2 (by decide)) rfl rfl (Nat.le_of_ble_eq_true rfl) dJx4a65c_add_72be8_19 (fun H locs hP hD hS => ?_)
    have hP : va_P (gD g) vwCl ([(hr, .inr (2, [.int lq.1, .ref ea, .int ((nI n) + 1)])), (ea, .inl (gC g 6, 10, .inr (.inr (.inr (.inr (va_up f (nI n).toNatClampNeg (some (hc 0))))))))] ++ wC g hc cv) H := hP
    have hD : va_D A ([(hr, .inr (2, [.int lq.1, .ref ea, .int ((nI n) + 1)])), (ea, .inl (gC g 6, 10, .inr (.inr (.inr (.inr (va_up f (nI n).toNatClampNeg (some (hc 0))))))))] ++ wC g hc cv) := hD
    have hPf := wp_P (b := wL g hr (lq.1, nI (n + 1), some (ea, va_up f n (some (hc 0)))) ++ wC g hc cv) (by rw [nT_t n (by omega), nT_s n (by omega)]; exact List.Perm.refl _) hP
    have hDf := wp_D (b := wL g hr (lq.1, nI (n + 1), some (ea, va_up f n (some (hc 0)))) ++ wC g hc cv) (by rw [nT_t n (by omega), nT_s n (by omega)]; exact List.Perm.refl _) hD
    exact rz_v (RT := ListS) (PR := fun u => u.1 = lq.1 ∧ u.2.1 = nI (n + 1) ∧ ∃ (ea : Nat) (f : Nat → Option Nat), u.2.2 = some (ea, f) ∧ f n = some (hc 0) ∧ ∀ e, lq.2.2 = some e → ∀ k, k < n → f k = e.2 k) (W1 := fun u => wL g hr u ++ wC g hc cv) (lq.1, nI (n + 1), some (ea, va_up f n (some (hc 0)))) ⟨rfl, rfl, ea, _, rfl, va_upE, fun e he k hk => by have h7 := Option.some.inj (ho.symm.trans he); subst h7; exact va_upN (by omega)⟩ hx hb hrt hlk hK hPf hDf hS (Nat.le_of_ble_eq_true rfl) (Nat.le_of_ble_eq_true rfl) dJx4a65c_add_72be8_22
  | none =>
    have hn0 := hnn ho
    subst hn0
    rw [ls_no g hr ho, show lq.2.1 = 0 from hsz9] at hP hD
    have e8 : lsE g lq = gS g 4 3 := by unfold lsE; rw [ho]
    rw [e8] at hl
    refine lv_iload_n hx hb dJx4a65c_add_72be8_0 rfl (lv_at hl 3 rfl) ?_
    refine lv_aload_n hx hb dJx4a65c_add_72be8_1 rfl (lv_at hl 2 rfl) ?_
    refine va_tlen (v := 0) hx hb hZ.2.2.2.2.2.2.2.1.2 hS rfl dJx4a65c_add_72be8_2 ?_
    refine lv_icmp_ne (tgt := 11) hx hb dJx4a65c_add_72be8_3 (by decide) (fun hcc => absurd rfl hcc) (fun hcc => ?_)
    refine lv_aload_n hx hb dJx4a65c_add_72be8_6 rfl (lv_at hl 0 rfl) ?_
    refine czv_r (As := []) (rest := []) (Wr := (wC g hc cv)) (Wn := fun u => [(hr, .inr (2, [.int lq.1, .ref u, .int 0])), (u, .inl (gC g 6, 10, .inr (.inr (.inr (.inr (fun _ => none))))))] ++ wC g hc cv) ⟨hx, hb, hml, hown, hts⟩ (c_Jx4a65c_grow_d5877 l g hr lq.1) (cwV 0 hts gJx4a65c_add_72be8_Jx4a65c_grow_d5877 rfl rfl rfl hd_Jx4a65c_grow_d5877 ⟨(Nat.le_of_ble_eq_true rfl), (Nat.le_of_ble_eq_true rfl)⟩) hK hZ hT hA hP hD hS hl.1 (va_recv hK hP (ci := 2) (q0 := 0) rfl rfl) (wp_of fun f => by simp only [List.countP_append, List.countP_cons, List.countP_nil] <;> omega) (fun u => (wp_of fun f => by simp only [List.countP_append, List.countP_cons, List.countP_nil] <;> omega)) rfl rfl (Nat.le_of_ble_eq_true rfl) ⟨(Nat.le_of_ble_eq_true rfl), (Nat.le_of_ble_eq_true rfl)⟩ dJx4a65c_add_72be8_7 (fun u H locs hu hP hD hS => ?_)
    refine lv_astore_n (lv' := [(2, .ref u), (0, .ref hr), (1, .ref (hc 0)), (3, .int (nI 0))]) hx hb dJx4a65c_add_72be8_10 rfl hl (by decide) rfl (fun ls hl => ?_)
    refine lv_aload_n hx hb dJx4a65c_add_72be8_11 rfl (lv_at hl 0 rfl) ?_
    refine lv_iload_n hx hb dJx4a65c_add_72be8_12 rfl (lv_at hl 3 rfl) ?_
    refine lv_aload_n hx hb dJx4a65c_add_72be8_13 rfl (lv_at hl 2 rfl) ?_
    have hPr : va_P (gD g) vwCl (wC g hc cv ++ [(hr, .inr (2, [.int lq.1, .ref u, .int 0])), (u, .inl (gC g 6, 10, .inr (.inr (.inr (.inr (fun _ => none))))))]) _ := wp_P (wp_of fun f => by simp only [List.countP_append, List.countP_cons, List.countP_nil] <;> omega) hP
    have hasg : ∀ comp c0 : ClassId, s.vm.findClass "java/lang/Object" = some comp → s.vm.findClass "TerraceQuarry$Command" = some c0 → s.vm.assignable c0 comp = true := fun comp c0 h1 h2 => vb_asgC hT.2.2.2.2.1 comp c0 h1 h2
    refine vb_astq (E := "java/lang/Object") (C := "TerraceQuarry$Command") hx hb hK hP hD hS 1 6 rfl rfl (va_recv hK hPr (ci := 3) (q0 := 0) rfl rfl) hasg (nT_in 0 hn) dJx4a65c_add_72be8_14 (fun H locs hP hD hS => ?_)
    have hP : va_P (gD g) vwCl ([(hr, .inr (2, [.int lq.1, .ref u, .int 0])), (u, .inl (gC g 6, 10, .inr (.inr (.inr (.inr (va_up (fun _ => none) (nI 0).toNatClampNeg (some (hc 0))))))))] ++ wC g hc cv) H := hP
    have hD : va_D A ([(hr, .inr (2, [.int lq.1, .ref u, .int 0])), (u, .inl (gC g 6, 10, .inr (.inr (.inr (.inr (va_up (fun _ => none) (nI 0).toNatClampNeg (some (hc 0))))))))] ++ wC g hc cv) := hD
    refine lv_aload_n hx hb dJx4a65c_add_72be8_15 rfl (lv_at hl 1 rfl) ?_
    refine lv_iload_n hx hb dJx4a65c_add_72be8_16 rfl (lv_at hl 3 rfl) ?_
    refine lv_iconst (v := 1) hx hb dJx4a65c_add_72be8_17 (by decide) ?_
    refine lv_iadd hx hb dJx4a65c_add_72be8_18 ?_
    refine va_put (D := gD g) (ci := 2) (v := .int ((nI 0) + 1)) (ty := .int) (C := RJx4a65c) (T := TJx4a65c) (N := 3) hx hb hts hinJx4a65c tyJx4a65c tyJx4a65c_ok nmJx4a65c hown hK hP hD hS 0 rfl rfl 2 (by decide) kk0 (fun _ h9 => h9) rfl (tyJx4a65c_ok 2 (by decide)) rfl rfl (Nat.le_of_ble_eq_true rfl) dJx4a65c_add_72be8_19 (fun H locs hP hD hS => ?_)
    have hP : va_P (gD g) vwCl ([(hr, .inr (2, [.int lq.1, .ref u, .int ((nI 0) + 1)])), (u, .inl (gC g 6, 10, .inr (.inr (.inr (.inr (va_up (fun _ => none) (nI 0).toNatClampNeg (some (hc 0))))))))] ++ wC g hc cv) H := hP
    have hD : va_D A ([(hr, .inr (2, [.int lq.1, .ref u, .int ((nI 0) + 1)])), (u, .inl (gC g 6, 10, .inr (.inr (.inr (.inr (va_up (fun _ => none) (nI 0).toNatClampNeg (some (hc 0))))))))] ++ wC g hc cv) := hD
    have hPf := wp_P (b := wL g hr (lq.1, nI (0 + 1), some (u, va_up (fun _ => none) 0 (some (hc 0)))) ++ wC g hc cv) (List.Perm.refl _) hP
    have hDf := wp_D (b := wL g hr (lq.1, nI (0 + 1), some (u, va_up (fun _ => none) 0 (some (hc 0)))) ++ wC g hc cv) (List.Perm.refl _) hD
    exact rz_v (RT := ListS) (PR := fun u => u.1 = lq.1 ∧ u.2.1 = nI (0 + 1) ∧ ∃ (ea : Nat) (f : Nat → Option Nat), u.2.2 = some (ea, f) ∧ f 0 = some (hc 0) ∧ ∀ e, lq.2.2 = some e → ∀ k, k < 0 → f k = e.2 k) (W1 := fun u => wL g hr u ++ wC g hc cv) (lq.1, nI (0 + 1), some (u, va_up (fun _ => none) 0 (some (hc 0)))) ⟨rfl, rfl, u, _, rfl, va_upE, fun e he => by rw [ho] at he; cases he⟩ hx hb hrt hlk hK hPf hDf hS (Nat.le_of_ble_eq_true rfl) (Nat.le_of_ble_eq_true rfl) dJx4a65c_add_72be8_22
def rm_Jx4a65c_add_9ea2d : Room := { frames := 4, cells := 1, slots := 10, locals := 91 }
theorem hd_Jx4a65c_add_9ea2d : yJx4a65c_add_9ea2d.cls = RJx4a65c ∧ yJx4a65c_add_9ea2d.cls ≠ "java/lang/invoke/MethodHandle" ∧ yJx4a65c_add_9ea2d.cls ≠ "java/lang/invoke/VarHandle" ∧ (parseMethodDescriptor yJx4a65c_add_9ea2d.desc).map (fun d => d.parameters.length) = some 1 := by decide +kernel
set_option maxHeartbeats 4000000 in
set_option maxRecDepth 100000 in
theorem c_Jx4a65c_add_9ea2d (l : Launch) (g : GG) (hr : Nat) (hc : Nat → Nat) (cv : CV) (lq : ListS) (n : Nat) (hn : n < 10) (hsz9 : lq.2.1 = nI n) (hnn : lq.2.2 = none → n = 0) : MzI (RT := ListS) l yJx4a65c_add_9ea2d wsJx4a65c_add_9ea2d rm_Jx4a65c_add_9ea2d g (wL g hr lq ++ wC g hc cv) [.ref hr, .ref (hc 0)] (fun u => u.2.1 = nI (n + 1) ∧ ∃ (ea : Nat) (f : Nat → Option Nat), u.2.2 = some (ea, f) ∧ f n = some (hc 0) ∧ ∀ e, lq.2.2 = some e → ∀ k, k < n → f k = e.2 k) (fun _ => 1) (fun u => wL g hr u ++ wC g hc cv) 1 10 := by
  refine fun sz => mt_of (cc := cJx4a65c_add_9ea2d) (maxL := 2) (ret := (some .boolean)) (own := RJx4a65c) (Qc := fun A => va_Qi (fun r (u : ListS) => (u.2.1 = nI (n + 1) ∧ ∃ (ea : Nat) (f : Nat → Option Nat), u.2.2 = some (ea, f) ∧ f n = some (hc 0) ∧ ∀ e, lq.2.2 = some e → ∀ k, k < n → f k = e.2 k) ∧ r = 1) (fun u t => PosM g A (wL g hr u ++ wC g hc cv) t) A) (by decide +kernel) rfl rfl (Nat.le_of_ble_eq_true rfl) ?_ sz
  intro p e s mi below meth c A ls hB hnm hrt hlk hP hD hl
  obtain ⟨hx, hb, hml, hown, hts, hK, hZ, hT, hA, -⟩ := hB
  have hS : va_S A s.heap s.heap [] := va_S.rf
  have hl : lv_has ls 2 [(0, .ref hr), (1, .ref (hc 0))] := hl
  have hinJx4a65c : ∀ w ∈ wsJx4a65c0, w ∈ wsJx4a65c_add_9ea2d := by decide +kernel
  have kk0 := hts (.fieldLink RJx4a65c 63 "java/util/ArrayList" "modCount" "I") (by decide +kernel)
  have kk1 := hts (.sameField "java/util/ArrayList" "java/util/AbstractList" "modCount" "I") (by decide +kernel)
  have kk2 := hts (.fieldLink RJx4a65c 9 "java/util/ArrayList" "elementData" "[Ljava/lang/Object;") (by decide +kernel)
  have kk3 := hts (.fieldLink RJx4a65c 48 "java/util/ArrayList" "size" "I") (by decide +kernel)
  have hP : va_P (gD g) vwCl ([(hr, .inr (2, [.int lq.1, .ref (lsE g lq), .int lq.2.1]))] ++ lsW g lq ++ wC g hc cv) s.heap := hP
  have hD : va_D A ([(hr, .inr (2, [.int lq.1, .ref (lsE g lq), .int lq.2.1]))] ++ lsW g lq ++ wC g hc cv) := hD
  refine lv_aload_n hx hb dJx4a65c_add_9ea2d_0 rfl (lv_at hl 0 rfl) ?_
  refine lv_dup hx hb dJx4a65c_add_9ea2d_1 rfl ?_
  refine va_get (D := gD g) (ci := 2) (v := .int lq.1) (C := RJx4a65c) (T := TJx4a65c) (N := 3) hx hb hts hinJx4a65c hown hK hP 0 rfl rfl 0 (by decide) kk0 (fun x9 h9 => u_same kk1 x9 h9) rfl dJx4a65c_add_9ea2d_2 ?_
  refine lv_iconst (v := 1) hx hb dJx4a65c_add_9ea2d_5 (by decide) ?_
  refine lv_iadd hx hb dJx4a65c_add_9ea2d_6 ?_
  refine va_put (D := gD g) (ci := 2) (v := .int (lq.1 + 1)) (ty := .int) (C := RJx4a65c) (T := TJx4a65c) (N := 3) hx hb hts hinJx4a65c tyJx4a65c tyJx4a65c_ok nmJx4a65c hown hK hP hD hS 0 rfl rfl 0 (by decide) kk0 (fun x9 h9 => u_same kk1 x9 h9) rfl (tyJx4a65c_ok 0 (by decide)) rfl rfl (Nat.le_of_ble_eq_true rfl) dJx4a65c_add_9ea2d_7 (fun H locs hP hD hS => ?_)
  have hP : va_P (gD g) vwCl ([(hr, .inr (2, [.int (lq.1 + 1), .ref (lsE g lq), .int lq.2.1]))] ++ lsW g lq ++ wC g hc cv) H := hP
  have hD : va_D A ([(hr, .inr (2, [.int (lq.1 + 1), .ref (lsE g lq), .int lq.2.1]))] ++ lsW g lq ++ wC g hc cv) := hD
  refine lv_aload_n hx hb dJx4a65c_add_9ea2d_10 rfl (lv_at hl 0 rfl) ?_
  refine lv_aload_n hx hb dJx4a65c_add_9ea2d_11 rfl (lv_at hl 1 rfl) ?_
  refine lv_aload_n hx hb dJx4a65c_add_9ea2d_12 rfl (lv_at hl 0 rfl) ?_
  refine va_get (D := gD g) (ci := 2) (v := .ref (lsE g lq)) (C := RJx4a65c) (T := TJx4a65c) (N := 3) hx hb hts hinJx4a65c hown hK hP 0 rfl rfl 1 (by decide) kk2 (fun _ h9 => h9) rfl dJx4a65c_add_9ea2d_13 ?_
  refine lv_aload_n hx hb dJx4a65c_add_9ea2d_16 rfl (lv_at hl 0 rfl) ?_
  refine va_get (D := gD g) (ci := 2) (v := .int lq.2.1) (C := RJx4a65c) (T := TJx4a65c) (N := 3) hx hb hts hinJx4a65c hown hK hP 0 rfl rfl 2 (by decide) kk3 (fun _ h9 => h9) rfl dJx4a65c_add_9ea2d_17 ?_
  have hP : va_P (gD g) vwCl (wL g hr (lq.1 + 1, lq.2) ++ wC g hc cv) H := hP
  have hD : va_D A (wL g hr (lq.1 + 1, lq.2) ++ wC g hc cv) := hD
  rw [show lq.2.1 = nI n from hsz9]
  refine czv_v (As := [.ref (hc 0), .ref (lsE g lq), .int (nI n)]) (rest := []) (Wr := []) (Wn := fun u => wL g hr u ++ wC g hc cv) ⟨hx, hb, hml, hown, hts⟩ (c_Jx4a65c_add_72be8 l g hr hc cv (lq.1 + 1, lq.2) n hn hsz9 hnn) (cwV 3 hts gJx4a65c_add_9ea2d_Jx4a65c_add_72be8 rfl rfl rfl hd_Jx4a65c_add_72be8 ⟨(Nat.le_of_ble_eq_true rfl), (Nat.le_of_ble_eq_true rfl)⟩) hK hZ hT hA hP hD hS hl.1 (va_recv hK hP (ci := 2) (q0 := 0) rfl rfl) (wp_of fun f => by simp only [List.countP_append, List.countP_cons, List.countP_nil] <;> omega) (fun u => (wp_of fun f => by simp only [List.countP_append, List.countP_cons, List.countP_nil] <;> omega)) rfl rfl (Nat.le_of_ble_eq_true rfl) ⟨(Nat.le_of_ble_eq_true rfl), (Nat.le_of_ble_eq_true rfl)⟩ dJx4a65c_add_9ea2d_20 (fun u H locs hu hP hD hS => ?_)
  refine lv_iconst (v := 1) hx hb dJx4a65c_add_9ea2d_23 (by decide) ?_
  exact rz_i (RT := ListS) (rv := fun _ => 1) (PR := fun u => u.2.1 = nI (n + 1) ∧ ∃ (ea : Nat) (f : Nat → Option Nat), u.2.2 = some (ea, f) ∧ f n = some (hc 0) ∧ ∀ e, lq.2.2 = some e → ∀ k, k < n → f k = e.2 k) (W1 := fun u => wL g hr u ++ wC g hc cv) u hu.2 rfl hx hb hrt hlk rfl hK hP hD hS (Nat.le_of_ble_eq_true rfl) (Nat.le_of_ble_eq_true rfl) dJx4a65c_add_9ea2d_24
def rm_Jx4a65c_clear_da8c8 : Room := { frames := 0, cells := 0, slots := 0, locals := 0 }
theorem hd_Jx4a65c_clear_da8c8 : yJx4a65c_clear_da8c8.cls = RJx4a65c ∧ yJx4a65c_clear_da8c8.cls ≠ "java/lang/invoke/MethodHandle" ∧ yJx4a65c_clear_da8c8.cls ≠ "java/lang/invoke/VarHandle" ∧ (parseMethodDescriptor yJx4a65c_clear_da8c8.desc).map (fun d => d.parameters.length) = some 0 := by decide +kernel
set_option maxHeartbeats 4000000 in
set_option maxRecDepth 100000 in
theorem c_Jx4a65c_clear_da8c8 (l : Launch) (g : GG) (hr : Nat) (lq : ListS) (n : Nat) (hn : n ≤ 10) (hsz9 : lq.2.1 = nI n) (hnn : lq.2.2 = none → n = 0) : MzV (RT := ListS) l yJx4a65c_clear_da8c8 wsJx4a65c_clear_da8c8 rm_Jx4a65c_clear_da8c8 g (wL g hr lq) [.ref hr] (fun u => u.2.1 = 0) (fun u => wL g hr u) 0 0 := by
  refine fun sz => mt_of (cc := cJx4a65c_clear_da8c8) (maxL := 4) (ret := none) (own := RJx4a65c) (Qc := fun A => va_Qv (fun u : ListS => u.2.1 = 0) (fun u t => PosM g A (wL g hr u) t) A) (by decide +kernel) rfl rfl (Nat.le_of_ble_eq_true rfl) ?_ sz
  intro p e s mi below meth c A ls hB hnm hrt hlk hP hD hl
  obtain ⟨hx, hb, hml, hown, hts, hK, hZ, hT, hA, -⟩ := hB
  have hS : va_S A s.heap s.heap [] := va_S.rf
  have hl : lv_has ls 4 [(0, .ref hr)] := hl
  have hinJx4a65c : ∀ w ∈ wsJx4a65c0, w ∈ wsJx4a65c_clear_da8c8 := by decide +kernel
  have kk0 := hts (.fieldLink RJx4a65c 63 "java/util/ArrayList" "modCount" "I") (by decide +kernel)
  have kk1 := hts (.sameField "java/util/ArrayList" "java/util/AbstractList" "modCount" "I") (by decide +kernel)
  have kk2 := hts (.fieldLink RJx4a65c 9 "java/util/ArrayList" "elementData" "[Ljava/lang/Object;") (by decide +kernel)
  have kk3 := hts (.fieldLink RJx4a65c 48 "java/util/ArrayList" "size" "I") (by decide +kernel)
  obtain ⟨o9, ho⟩ : ∃ o, lq.2.2 = o := ⟨_, rfl⟩
  cases o9 with
  | some e9 =>
    obtain ⟨ea, f⟩ := e9
    rw [ls_in g hr ho, hsz9] at hP hD
    refine lv_aload_n hx hb dJx4a65c_clear_da8c8_0 rfl (lv_at hl 0 rfl) ?_
    refine lv_dup hx hb dJx4a65c_clear_da8c8_1 rfl ?_
    refine va_get (D := gD g) (ci := 2) (v := .int lq.1) (C := RJx4a65c) (T := TJx4a65c) (N := 3) hx hb hts hinJx4a65c hown hK hP 0 rfl rfl 0 (by decide) kk0 (fun x9 h9 => u_same kk1 x9 h9) rfl dJx4a65c_clear_da8c8_2 ?_
    refine lv_iconst (v := 1) hx hb dJx4a65c_clear_da8c8_5 (by decide) ?_
    refine lv_iadd hx hb dJx4a65c_clear_da8c8_6 ?_
    refine va_put (D := gD g) (ci := 2) (v := .int (lq.1 + 1)) (ty := .int) (C := RJx4a65c) (T := TJx4a65c) (N := 3) hx hb hts hinJx4a65c tyJx4a65c tyJx4a65c_ok nmJx4a65c hown hK hP hD hS 0 rfl rfl 0 (by decide) kk0 (fun x9 h9 => u_same kk1 x9 h9) rfl (tyJx4a65c_ok 0 (by decide)) rfl rfl (Nat.le_of_ble_eq_true rfl) dJx4a65c_clear_da8c8_7 (fun H locs hP hD hS => ?_)
    have hP : va_P (gD g) vwCl [(hr, .inr (2, [.int (lq.1 + 1), .ref ea, .int (nI n)])), (ea, .inl (gC g 6, 10, .inr (.inr (.inr (.inr f)))))] H := hP
    have hD : va_D A [(hr, .inr (2, [.int (lq.1 + 1), .ref ea, .int (nI n)])), (ea, .inl (gC g 6, 10, .inr (.inr (.inr (.inr f)))))] := hD
    refine lv_aload_n hx hb dJx4a65c_clear_da8c8_10 rfl (lv_at hl 0 rfl) ?_
    refine va_get (D := gD g) (ci := 2) (v := .ref ea) (C := RJx4a65c) (T := TJx4a65c) (N := 3) hx hb hts hinJx4a65c hown hK hP 0 rfl rfl 1 (by decide) kk2 (fun _ h9 => h9) rfl dJx4a65c_clear_da8c8_11 ?_
    refine lv_astore_n (lv' := [(1, .ref ea), (0, .ref hr)]) hx hb dJx4a65c_clear_da8c8_14 rfl hl (by decide) rfl (fun ls hl => ?_)
    refine lv_aload_n hx hb dJx4a65c_clear_da8c8_15 rfl (lv_at hl 1 rfl) ?_
    refine va_get (D := gD g) (ci := 2) (v := .int (nI n)) (C := RJx4a65c) (T := TJx4a65c) (N := 3) hx hb hts hinJx4a65c hown hK hP 0 rfl rfl 2 (by decide) kk3 (fun _ h9 => h9) rfl dJx4a65c_clear_da8c8_16 ?_
    refine lv_istore_n (lv' := [(2, .int (nI n)), (1, .ref ea), (0, .ref hr)]) hx hb dJx4a65c_clear_da8c8_19 rfl hl (by decide) rfl (fun ls hl => ?_)
    refine lv_aload_n hx hb dJx4a65c_clear_da8c8_20 rfl (lv_at hl 2 rfl) ?_
    refine lv_iconst (v := 0) hx hb dJx4a65c_clear_da8c8_21 (by decide) ?_
    refine lv_dup_x1 hx hb dJx4a65c_clear_da8c8_22 rfl rfl ?_
    refine va_put (D := gD g) (ci := 2) (v := .int 0) (ty := .int) (C := RJx4a65c) (T := TJx4a65c) (N := 3) hx hb hts hinJx4a65c tyJx4a65c tyJx4a65c_ok nmJx4a65c hown hK hP hD hS 0 rfl rfl 2 (by decide) kk3 (fun _ h9 => h9) rfl (tyJx4a65c_ok 2 (by decide)) rfl rfl (Nat.le_of_ble_eq_true rfl) dJx4a65c_clear_da8c8_23 (fun H locs hP hD hS => ?_)
    have hP : va_P (gD g) vwCl [(hr, .inr (2, [.int (lq.1 + 1), .ref ea, .int 0])), (ea, .inl (gC g 6, 10, .inr (.inr (.inr (.inr f)))))] H := hP
    have hD : va_D A [(hr, .inr (2, [.int (lq.1 + 1), .ref ea, .int 0])), (ea, .inl (gC g 6, 10, .inr (.inr (.inr (.inr f)))))] := hD
    refine lv_istore_n (lv' := [(3, .int 0), (2, .int (nI n)), (1, .ref ea), (0, .ref hr)]) hx hb dJx4a65c_clear_da8c8_26 rfl hl (by decide) rfl (fun ls hl => ?_)
    have hloop : ∀ (k j : Nat), j + k = n → ∀ (f : Nat → Option Nat) (H : Heap) (locs : List Loc) (ls : Array Slot), va_P (gD g) vwCl [(hr, .inr (2, [.int (lq.1 + 1), .ref ea, .int 0])), (ea, .inl (gC g 6, 10, .inr (.inr (.inr (.inr f)))))] H → va_D A [(hr, .inr (2, [.int (lq.1 + 1), .ref ea, .int 0])), (ea, .inl (gC g 6, 10, .inr (.inr (.inr (.inr f)))))] → va_S A s.heap H locs → lv_has ls 4 [(3, .int (nI j)), (2, .int (nI n)), (1, .ref ea), (0, .ref hr)] → W p l e rm_Jx4a65c_clear_da8c8 s mi [.ref hr].toArray below meth c H locs 0 0 (MQ below (va_Qv (fun u : ListS => u.2.1 = 0) (fun u t => PosM g A (wL g hr u) t) A) [.ref hr].toArray s 0 0 A) (F0 mi 27 ls []) := by
      intro k
      induction k with
      | zero =>
        intro j hj f H locs ls hP hD hS hl
        refine lv_iload_n hx hb dJx4a65c_clear_da8c8_27 rfl (lv_at hl 0 rfl) ?_
        refine lv_iload_n hx hb dJx4a65c_clear_da8c8_28 rfl (lv_at hl 1 rfl) ?_
        refine lv_icmp_ge (tgt := 42) hx hb dJx4a65c_clear_da8c8_29 (by decide) (fun hcc => ?_) (fun hcc => absurd ((nT_le n j (by omega) (by omega)).mpr (by omega)) hcc)
        exact rz_v (RT := ListS) (PR := fun u => u.2.1 = 0) (W1 := fun u => wL g hr u) (lq.1 + 1, 0, some (ea, f)) rfl hx hb hrt hlk hK hP hD hS (Nat.le_of_ble_eq_true rfl) (Nat.le_of_ble_eq_true rfl) dJx4a65c_clear_da8c8_42
      | succ k ih =>
        intro j hj f H locs ls hP hD hS hl
        refine lv_iload_n hx hb dJx4a65c_clear_da8c8_27 rfl (lv_at hl 0 rfl) ?_
        refine lv_iload_n hx hb dJx4a65c_clear_da8c8_28 rfl (lv_at hl 1 rfl) ?_
        refine lv_icmp_ge (tgt := 42) hx hb dJx4a65c_clear_da8c8_29 (by decide) (fun hcc => absurd ((nT_le n j (by omega) (by omega)).mp hcc) (by omega)) (fun hcc => ?_)
        refine lv_aload_n hx hb dJx4a65c_clear_da8c8_32 rfl (lv_at hl 2 rfl) ?_
        refine lv_iload_n hx hb dJx4a65c_clear_da8c8_33 rfl (lv_at hl 0 rfl) ?_
        refine lv_null hx hb dJx4a65c_clear_da8c8_34 ?_
        refine va_astqN hx hb hK hP hD hS 1 6 rfl rfl (nT_in j (by omega)) dJx4a65c_clear_da8c8_35 (fun H locs hP hD hS => ?_)
        refine lv_iinc (v := nI j + 1) (lv' := [(3, .int (nI j + 1)), (2, .int (nI n)), (1, .ref ea), (0, .ref hr)]) hx hb dJx4a65c_clear_da8c8_36 hl (k := 0) rfl rfl (by decide) rfl (fun ls hl => ?_)
        refine lv_goto (tgt := 27) hx hb dJx4a65c_clear_da8c8_39 (by decide) ?_
        rw [nT_s j (by omega)] at hl
        exact ih (j + 1) (by omega) _ H locs ls hP hD hS (lv_sub hl [0, 1, 2, 3] rfl)
    exact hloop n 0 (by omega) f _ _ _ hP hD hS hl
  | none =>
    have hn0 := hnn ho
    subst hn0
    rw [ls_no g hr ho, show lq.2.1 = 0 from hsz9] at hP hD
    refine lv_aload_n hx hb dJx4a65c_clear_da8c8_0 rfl (lv_at hl 0 rfl) ?_
    refine lv_dup hx hb dJx4a65c_clear_da8c8_1 rfl ?_
    refine va_get (D := gD g) (ci := 2) (v := .int lq.1) (C := RJx4a65c) (T := TJx4a65c) (N := 3) hx hb hts hinJx4a65c hown hK hP 0 rfl rfl 0 (by decide) kk0 (fun x9 h9 => u_same kk1 x9 h9) rfl dJx4a65c_clear_da8c8_2 ?_
    refine lv_iconst (v := 1) hx hb dJx4a65c_clear_da8c8_5 (by decide) ?_
    refine lv_iadd hx hb dJx4a65c_clear_da8c8_6 ?_
    refine va_put (D := gD g) (ci := 2) (v := .int (lq.1 + 1)) (ty := .int) (C := RJx4a65c) (T := TJx4a65c) (N := 3) hx hb hts hinJx4a65c tyJx4a65c tyJx4a65c_ok nmJx4a65c hown hK hP hD hS 0 rfl rfl 0 (by decide) kk0 (fun x9 h9 => u_same kk1 x9 h9) rfl (tyJx4a65c_ok 0 (by decide)) rfl rfl (Nat.le_of_ble_eq_true rfl) dJx4a65c_clear_da8c8_7 (fun H locs hP hD hS => ?_)
    have hP : va_P (gD g) vwCl [(hr, .inr (2, [.int (lq.1 + 1), .ref (gS g 4 3), .int 0]))] H := hP
    have hD : va_D A [(hr, .inr (2, [.int (lq.1 + 1), .ref (gS g 4 3), .int 0]))] := hD
    refine lv_aload_n hx hb dJx4a65c_clear_da8c8_10 rfl (lv_at hl 0 rfl) ?_
    refine va_get (D := gD g) (ci := 2) (v := .ref (gS g 4 3)) (C := RJx4a65c) (T := TJx4a65c) (N := 3) hx hb hts hinJx4a65c hown hK hP 0 rfl rfl 1 (by decide) kk2 (fun _ h9 => h9) rfl dJx4a65c_clear_da8c8_11 ?_
    refine lv_astore_n (lv' := [(1, .ref (gS g 4 3)), (0, .ref hr)]) hx hb dJx4a65c_clear_da8c8_14 rfl hl (by decide) rfl (fun ls hl => ?_)
    refine lv_aload_n hx hb dJx4a65c_clear_da8c8_15 rfl (lv_at hl 1 rfl) ?_
    refine va_get (D := gD g) (ci := 2) (v := .int 0) (C := RJx4a65c) (T := TJx4a65c) (N := 3) hx hb hts hinJx4a65c hown hK hP 0 rfl rfl 2 (by decide) kk3 (fun _ h9 => h9) rfl dJx4a65c_clear_da8c8_16 ?_
    refine lv_istore_n (lv' := [(2, .int 0), (1, .ref (gS g 4 3)), (0, .ref hr)]) hx hb dJx4a65c_clear_da8c8_19 rfl hl (by decide) rfl (fun ls hl => ?_)
    refine lv_aload_n hx hb dJx4a65c_clear_da8c8_20 rfl (lv_at hl 2 rfl) ?_
    refine lv_iconst (v := 0) hx hb dJx4a65c_clear_da8c8_21 (by decide) ?_
    refine lv_dup_x1 hx hb dJx4a65c_clear_da8c8_22 rfl rfl ?_
    refine va_put (D := gD g) (ci := 2) (v := .int 0) (ty := .int) (C := RJx4a65c) (T := TJx4a65c) (N := 3) hx hb hts hinJx4a65c tyJx4a65c tyJx4a65c_ok nmJx4a65c hown hK hP hD hS 0 rfl rfl 2 (by decide) kk3 (fun _ h9 => h9) rfl (tyJx4a65c_ok 2 (by decide)) rfl rfl (Nat.le_of_ble_eq_true rfl) dJx4a65c_clear_da8c8_23 (fun H locs hP hD hS => ?_)
    have hP : va_P (gD g) vwCl [(hr, .inr (2, [.int (lq.1 + 1), .ref (gS g 4 3), .int 0]))] H := hP
    have hD : va_D A [(hr, .inr (2, [.int (lq.1 + 1), .ref (gS g 4 3), .int 0]))] := hD
    refine lv_istore_n (lv' := [(3, .int 0), (2, .int 0), (1, .ref (gS g 4 3)), (0, .ref hr)]) hx hb dJx4a65c_clear_da8c8_26 rfl hl (by decide) rfl (fun ls hl => ?_)
    refine lv_iload_n hx hb dJx4a65c_clear_da8c8_27 rfl (lv_at hl 0 rfl) ?_
    refine lv_iload_n hx hb dJx4a65c_clear_da8c8_28 rfl (lv_at hl 1 rfl) ?_
    refine lv_icmp_ge (tgt := 42) hx hb dJx4a65c_clear_da8c8_29 (by decide) (fun hcc => ?_) (fun hcc => absurd (by decide) hcc)
    exact rz_v (RT := ListS) (PR := fun u => u.2.1 = 0) (W1 := fun u => wL g hr u) (lq.1 + 1, 0, none) rfl hx hb hrt hlk hK hP hD hS (Nat.le_of_ble_eq_true rfl) (Nat.le_of_ble_eq_true rfl) dJx4a65c_clear_da8c8_42
