section
variable {p : Program} {l : Launch} {e : Env} {R : Room} {s : State} {m : MethodId} {args : Array Value} {below : List Frame} {meth : Method} {c : Code} {H : Heap} {locs : List Loc} {cells slots : Nat} {Q : State → Prop}
variable {cc : ByteArray} {pc : Nat} {ls : Array Slot} {rest : List Value} {D : va_G} {cl : List vw_C} {a : Nat} {tys : List (ClassId × FieldType)} {ws : va_W}
theorem aldqS (hexec : p.tables.exec = Jvm.exec) (hb : c.code = cc) (hK : va_K D cl tys s) (hP : va_P D cl ws H) (q0 t0 : Nat) {cA : ClassId} {C : String} {n : Nat} {f : Nat → Option Nat} (ha : ws[q0]? = some (a, .inl (cA, n, .inr (.inr (.inr (.inr f)))))) (ht : tys[t0]? = some (cA, .object C)) {i : Int32} (hin : vp_in i n) {v : Nat} (hv : f i.toNatClampNeg = some v) (hdg : decode cc pc = .ok (.aaload, 1))
    (kk : W p l e R s m args below meth c H locs cells slots Q (F0 m (pc + 1) ls (.ref v :: rest))) : W p l e R s m args below meth c H locs cells slots Q (F0 m pc ls (.int i :: .ref a :: rest)) :=
  va_aldq hexec hb hK hP q0 t0 ha ht hin hdg (by rw [hv]; exact kk)
theorem aldqN (hexec : p.tables.exec = Jvm.exec) (hb : c.code = cc) (hK : va_K D cl tys s) (hP : va_P D cl ws H) (q0 t0 : Nat) {cA : ClassId} {C : String} {n : Nat} {f : Nat → Option Nat} (ha : ws[q0]? = some (a, .inl (cA, n, .inr (.inr (.inr (.inr f)))))) (ht : tys[t0]? = some (cA, .object C)) {i : Int32} (hin : vp_in i n) (hv : f i.toNatClampNeg = none) (hdg : decode cc pc = .ok (.aaload, 1))
    (kk : W p l e R s m args below meth c H locs cells slots Q (F0 m (pc + 1) ls (.null :: rest))) : W p l e R s m args below meth c H locs cells slots Q (F0 m pc ls (.int i :: .ref a :: rest)) :=
  va_aldq hexec hb hK hP q0 t0 ha ht hin hdg (by rw [hv]; exact kk)
end
theorem wPool_get {g : GG} : ∀ (L : List QV) (h : Nat → Nat → Nat) (n : Nat) (q : QV), L[n]? = some q → ∃ X : va_W, (wPool g h L).Perm (wQ g (h n) q ++ X) ∧ ∀ o : QV, (wPool g h (L.set n o)).Perm (wQ g (h n) o ++ X)
  | [], _, _, _, e => by simp at e
  | x :: L, h, 0, q, e => by
    have e1 : x = q := by simpa using e
    subst e1
    exact ⟨wPool g (fun i => h (i + 1)) L, List.Perm.refl _, fun o => List.Perm.refl _⟩
  | x :: L, h, n + 1, q, e => by
    obtain ⟨X, h1, h2⟩ := wPool_get (g := g) L (fun i => h (i + 1)) n q (by simpa using e)
    refine ⟨wQ g (h 0) x ++ X, ?_, fun o => ?_⟩
    · show (wQ g (h 0) x ++ wPool g (fun i => h (i + 1)) L).Perm _
      exact wp_of fun f => by
        have h3 := h1.countP_eq f
        simp only [List.countP_append] at h3 ⊢
        omega
    · show (wQ g (h 0) x ++ wPool g (fun i => h (i + 1)) (L.set n o)).Perm _
      exact wp_of fun f => by
        have h3 := (h2 o).countP_eq f
        simp only [List.countP_append] at h3 ⊢
        omega
theorem wPool_push {g : GG} (u : Nat → Nat) (o : QV) : ∀ (L : List QV) (h : Nat → Nat → Nat), wPool g (fun k => if k = L.length then u else h k) (L ++ [o]) = wPool g h L ++ wQ g u o
  | [], h => by
    show wQ g (if (0 : Nat) = 0 then u else h 0) o ++ [] = [] ++ wQ g u o
    rw [if_pos rfl, List.append_nil, List.nil_append]
  | x :: L, h => by
    show wQ g (if (0 : Nat) = L.length + 1 then u else h 0) x ++ wPool g (fun i => if i + 1 = L.length + 1 then u else h (i + 1)) (L ++ [o]) = (wQ g (h 0) x ++ wPool g (fun i => h (i + 1)) L) ++ wQ g u o
    rw [if_neg (by omega), List.append_assoc, ← wPool_push (g := g) u o L (fun i => h (i + 1))]
    congr 2
    funext i
    by_cases hi : i = L.length
    · rw [if_pos hi, if_pos (by omega)]
    · rw [if_neg hi, if_neg (by omega)]
theorem hist_set {L : List QV} {n : Nat} {o : QV} {hd : Nat → Nat → Nat} : (fun k => (L[k]?).map fun _ => hd k 0) = (fun k => ((L.set n o)[k]?).map fun _ => hd k 0) := by
  funext k
  rw [List.getElem?_set]
  by_cases h : n = k
  · subst h
    by_cases h2 : n < L.length
    · simp [h2]
    · simp [h2, List.getElem?_eq_none (Nat.le_of_not_lt h2)]
  · simp [h]
theorem hist_push {L : List QV} {n : Nat} (hn : n = L.length) {o : QV} {u : Nat → Nat} {hd : Nat → Nat → Nat} : va_up (fun k => (L[k]?).map fun _ => hd k 0) n (some (u 0)) = (fun k => ((L ++ [o])[k]?).map fun _ => (if k = L.length then u else hd k) 0) := by
  subst hn
  funext k
  by_cases h : k = L.length
  · subst h
    simp [va_up]
  · rw [List.getElem?_append]
    by_cases h2 : k < L.length
    · simp [va_up, h, h2]
    · rw [if_neg h2, List.getElem?_eq_none (by show [o].length ≤ k - L.length; simp; omega)]
      simp [va_up, h, List.getElem?_eq_none (Nat.le_of_not_lt h2)]
def f_X4_record (hv : HV) (qv : QV) : Option HV :=
  if jIn hv.2.1 8 then
    match hv.1[hv.2.1.toNatClampNeg]? with
    | some q => (f_X7_copyFrom q qv).bind fun o => some (hv.1.set hv.2.1.toNatClampNeg o, hv.2.1 + 1 - (hv.2.1 + 1) / 8 * 8, jMin (hv.2.2 + 1) 8)
    | none => if hv.2.1.toNatClampNeg = hv.1.length then f_X7_init.bind fun q => (f_X7_copyFrom q qv).bind fun o => some (hv.1 ++ [o], hv.2.1 + 1 - (hv.2.1 + 1) / 8 * 8, jMin (hv.2.2 + 1) 8) else none
  else none
def rm_X4_record : Room := { frames := 2, cells := 10, slots := 238, locals := 62 }
theorem hd_X4_record : yX4_record.cls = RX4 ∧ yX4_record.cls ≠ "java/lang/invoke/MethodHandle" ∧ yX4_record.cls ≠ "java/lang/invoke/VarHandle" ∧ (parseMethodDescriptor yX4_record.desc).map (fun d => d.parameters.length) = some 1 := by decide +kernel
set_option maxHeartbeats 4000000 in
set_option maxRecDepth 100000 in
theorem c_X4_record (l : Launch) (g : GG) (hh : Nat → Nat) (hd : Nat → Nat → Nat) (L : List QV) (nx ct : Int32) (hq : Nat → Nat) (qv : QV) (out : HV) (hf : f_X4_record (L, nx, ct) qv = some out) : MzV (RT := Nat → Nat → Nat) l yX4_record wsX4_record rm_X4_record g (wH g hh hd (L, nx, ct) ++ wQ g hq qv) [.ref (hh 0), .ref (hq 0)] (fun _ => True) (fun hd' => wH g hh hd' out ++ wQ g hq qv) 10 238 := by
  refine fun sz => mt_of (cc := cX4_record) (maxL := 3) (ret := none) (own := RX4) (Qc := fun A => va_Qv (fun _ : Nat → Nat → Nat => True) (fun hd' t => PosM g A (wH g hh hd' out ++ wQ g hq qv) t) A) (by decide +kernel) rfl rfl (Nat.le_of_ble_eq_true rfl) ?_ sz
  intro p e s mi below meth c A ls hB hnm hrt hlk hP hD hl
  obtain ⟨hx, hb, hml, hown, hts, hK, hZ, hT, hA, -⟩ := hB
  have hS : va_S A s.heap s.heap [] := va_S.rf
  have hl : lv_has ls 3 [(0, .ref (hh 0)), (1, .ref (hq 0))] := hl
  have hinX4 : ∀ w ∈ wsX40, w ∈ wsX4_record := by decide +kernel
  have hinX7 : ∀ w ∈ wsX70, w ∈ wsX4_record := by decide +kernel
  have kk0 := hts (.fieldLink RX4 11 "TerraceQuarry$History" "states" "[LTerraceQuarry$Quarry;") (by decide +kernel)
  have kk1 := hts (.fieldLink RX4 15 "TerraceQuarry$History" "next" "I") (by decide +kernel)
  have kk2 := hts (.fieldLink RX4 19 "TerraceQuarry$History" "count" "I") (by decide +kernel)
  have kk3 := hts (.methodLink RX4 27 Lib.Math.min.name) (by decide +kernel)
  have kk4 := hts (.static Lib.Math.min.name) (by decide +kernel)
  have kk5 := hts (.initialized "java/lang/Math") (by decide +kernel)
  have kk6 := hts (.code Lib.Math.min.name Lib.Math.min.code 2 (some .int)) (by decide +kernel)
  have kk7 := hts (.classLink RX4 9 RX7) (by decide +kernel)
  have kk8 := hts (.instantiable RX7 15) (by decide +kernel)
  have kk9 := hts (.initialized RX7) (by decide +kernel)
  have kk10 := hts (.methodLink RX4 22 yX7_init) (by decide +kernel)
  have kk11 := hts (.instanceMethod yX7_init) (by decide +kernel)
  have hP : va_P (gD g) vwCl ([((hh 0), .inr (4, [.ref (hh 1), .int nx, .int ct])), ((hh 1), .inl (gC g 5, 8, .inr (.inr (.inr (.inr (fun k => (L[k]?).map fun _ => hd k 0))))))] ++ wPool g hd L ++ wQ g hq qv) s.heap := hP
  have hD : va_D A ([((hh 0), .inr (4, [.ref (hh 1), .int nx, .int ct])), ((hh 1), .inl (gC g 5, 8, .inr (.inr (.inr (.inr (fun k => (L[k]?).map fun _ => hd k 0))))))] ++ wPool g hd L ++ wQ g hq qv) := hD
  refine lv_aload_n hx hb dX4_record_0 rfl (lv_at hl 0 rfl) ?_
  refine va_get (D := gD g) (ci := 4) (v := .ref (hh 1)) (C := RX4) (T := TX4) (N := 3) hx hb hts hinX4 hown hK hP 0 rfl rfl 0 (by decide) kk0 (fun _ h9 => h9) rfl dX4_record_1 ?_
  refine lv_aload_n hx hb dX4_record_4 rfl (lv_at hl 0 rfl) ?_
  refine va_get (D := gD g) (ci := 4) (v := .int nx) (C := RX4) (T := TX4) (N := 3) hx hb hts hinX4 hown hK hP 0 rfl rfl 1 (by decide) kk1 (fun _ h9 => h9) rfl dX4_record_5 ?_
  unfold f_X4_record at hf
  obtain ⟨hj, hf⟩ := jbA_e hf
  have hj : jIn nx 8 := hj
  have hf : (match L[nx.toNatClampNeg]? with | some q => (f_X7_copyFrom q qv).bind fun o => some (L.set nx.toNatClampNeg o, nx + 1 - (nx + 1) / 8 * 8, jMin (ct + 1) 8) | none => if nx.toNatClampNeg = L.length then f_X7_init.bind fun q => (f_X7_copyFrom q qv).bind fun o => some (L ++ [o], nx + 1 - (nx + 1) / 8 * 8, jMin (ct + 1) 8) else none) = some out := hf
  cases hL : L[nx.toNatClampNeg]? with
  | some q =>
    rw [hL] at hf
    obtain ⟨o, hg, hf⟩ := jbB_e hf
    cases hf
    obtain ⟨X, hx1, hx2⟩ := wPool_get (g := g) L hd nx.toNatClampNeg q hL
    refine aldqS hx hb hK hP 1 5 rfl rfl hj (v := hd nx.toNatClampNeg 0) (by simp [hL]) dX4_record_8 ?_
    refine lv_astore_n (lv' := [(2, .ref (hd nx.toNatClampNeg 0)), (0, .ref (hh 0)), (1, .ref (hq 0))]) hx hb dX4_record_9 rfl hl (by decide) rfl (fun ls hl => ?_)
    refine lv_aload_n hx hb dX4_record_10 rfl (lv_at hl 0 rfl) ?_
    refine lv_ifnonnull (tgt := 32) hx hb dX4_record_11 (by decide) ?_
    refine lv_aload_n hx hb dX4_record_32 rfl (lv_at hl 0 rfl) ?_
    refine lv_aload_n hx hb dX4_record_33 rfl (lv_at hl 2 rfl) ?_
    have hPr : va_P (gD g) vwCl (wQ g (hd nx.toNatClampNeg) q ++ ([((hh 0), .inr (4, [.ref (hh 1), .int nx, .int ct])), ((hh 1), .inl (gC g 5, 8, .inr (.inr (.inr (.inr (fun k => (L[k]?).map fun _ => hd k 0))))))] ++ X ++ wQ g hq qv)) _ := wp_P (wp_of fun f => by have h3 := hx1.countP_eq f; simp only [List.countP_append, List.countP_cons, List.countP_nil] at h3 ⊢; omega) hP
    refine cpv_v (As := [.ref (hq 0)]) (rest := []) (Wr := ([((hh 0), .inr (4, [.ref (hh 1), .int nx, .int ct])), ((hh 1), .inl (gC g 5, 8, .inr (.inr (.inr (.inr (fun k => (L[k]?).map fun _ => hd k 0))))))] ++ X)) (Wn := ([((hh 0), .inr (4, [.ref (hh 1), .int nx, .int ct])), ((hh 1), .inl (gC g 5, 8, .inr (.inr (.inr (.inr (fun k => (L[k]?).map fun _ => hd k 0))))))] ++ wPool g hd (L.set nx.toNatClampNeg o) ++ wQ g hq qv)) ⟨hx, hb, hml, hown, hts⟩ (c_X7_copyFrom l g (hd nx.toNatClampNeg) q hq qv o hg) (cwV 1 hts gX4_record_X7_copyFrom rfl rfl rfl hd_X7_copyFrom ⟨(Nat.le_of_ble_eq_true rfl), (Nat.le_of_ble_eq_true rfl)⟩) hK hZ hT hA hP hD hS hl.1 (va_recv hK hPr (ci := 7) (q0 := 0) rfl rfl) (wp_of fun f => by have h3 := hx1.countP_eq f; simp only [List.countP_append, List.countP_cons, List.countP_nil] at h3 ⊢; omega) (wp_of fun f => by have h3 := (hx2 o).countP_eq f; simp only [List.countP_append, List.countP_cons, List.countP_nil] at h3 ⊢; omega) rfl rfl (Nat.le_of_ble_eq_true rfl) ⟨(Nat.le_of_ble_eq_true rfl), (Nat.le_of_ble_eq_true rfl)⟩ dX4_record_34 (fun H locs hP hD hS => ?_)
    refine lv_aload_n hx hb dX4_record_37 rfl (lv_at hl 1 rfl) ?_
    refine lv_aload_n hx hb dX4_record_38 rfl (lv_at hl 1 rfl) ?_
    refine va_get (D := gD g) (ci := 4) (v := .int nx) (C := RX4) (T := TX4) (N := 3) hx hb hts hinX4 hown hK hP 0 rfl rfl 1 (by decide) kk1 (fun _ h9 => h9) rfl dX4_record_39 ?_
    refine lv_iconst (v := 1) hx hb dX4_record_42 (by decide) ?_
    refine lv_iadd hx hb dX4_record_43 ?_
    refine lv_bipush (v := 8) hx hb dX4_record_44 (by decide) ?_
    refine lv_irem hx hb dX4_record_46 (by decide) ?_
    refine va_put (D := gD g) (ci := 4) (v := .int ((nx + 1) - (nx + 1) / 8 * 8)) (ty := .int) (C := RX4) (T := TX4) (N := 3) hx hb hts hinX4 tyX4 tyX4_ok nmX4 hown hK hP hD hS 0 rfl rfl 1 (by decide) kk1 (fun _ h9 => h9) rfl (tyX4_ok 1 (by decide)) rfl rfl (Nat.le_of_ble_eq_true rfl) dX4_record_47 (fun H locs hP hD hS => ?_)
    have hP : va_P (gD g) vwCl ([((hh 0), .inr (4, [.ref (hh 1), .int ((nx + 1) - (nx + 1) / 8 * 8), .int ct])), ((hh 1), .inl (gC g 5, 8, .inr (.inr (.inr (.inr (fun k => (L[k]?).map fun _ => hd k 0))))))] ++ wPool g hd (L.set nx.toNatClampNeg o) ++ wQ g hq qv) H := hP
    have hD : va_D A ([((hh 0), .inr (4, [.ref (hh 1), .int ((nx + 1) - (nx + 1) / 8 * 8), .int ct])), ((hh 1), .inl (gC g 5, 8, .inr (.inr (.inr (.inr (fun k => (L[k]?).map fun _ => hd k 0))))))] ++ wPool g hd (L.set nx.toNatClampNeg o) ++ wQ g hq qv) := hD
    refine lv_aload_n hx hb dX4_record_50 rfl (lv_at hl 1 rfl) ?_
    refine lv_aload_n hx hb dX4_record_51 rfl (lv_at hl 1 rfl) ?_
    refine va_get (D := gD g) (ci := 4) (v := .int ct) (C := RX4) (T := TX4) (N := 3) hx hb hts hinX4 hown hK hP 0 rfl rfl 2 (by decide) kk2 (fun _ h9 => h9) rfl dX4_record_52 ?_
    refine lv_iconst (v := 1) hx hb dX4_record_55 (by decide) ?_
    refine lv_iadd hx hb dX4_record_56 ?_
    refine lv_bipush (v := 8) hx hb dX4_record_57 (by decide) ?_
    refine va_mmin hx hb (hml.trans hl.1.symm) hown kk3 kk4 kk5 kk6 (Nat.le_of_ble_eq_true rfl) (Nat.le_of_ble_eq_true rfl) (Nat.le_of_ble_eq_true rfl) (Nat.le_of_ble_eq_true rfl) dX4_record_59 ?_
    refine va_put (D := gD g) (ci := 4) (v := .int (jMin (ct + 1) 8)) (ty := .int) (C := RX4) (T := TX4) (N := 3) hx hb hts hinX4 tyX4 tyX4_ok nmX4 hown hK hP hD hS 0 rfl rfl 2 (by decide) kk2 (fun _ h9 => h9) rfl (tyX4_ok 2 (by decide)) rfl rfl (Nat.le_of_ble_eq_true rfl) dX4_record_62 (fun H locs hP hD hS => ?_)
    have hP : va_P (gD g) vwCl ([((hh 0), .inr (4, [.ref (hh 1), .int ((nx + 1) - (nx + 1) / 8 * 8), .int (jMin (ct + 1) 8)])), ((hh 1), .inl (gC g 5, 8, .inr (.inr (.inr (.inr (fun k => (L[k]?).map fun _ => hd k 0))))))] ++ wPool g hd (L.set nx.toNatClampNeg o) ++ wQ g hq qv) H := hP
    have hD : va_D A ([((hh 0), .inr (4, [.ref (hh 1), .int ((nx + 1) - (nx + 1) / 8 * 8), .int (jMin (ct + 1) 8)])), ((hh 1), .inl (gC g 5, 8, .inr (.inr (.inr (.inr (fun k => (L[k]?).map fun _ => hd k 0))))))] ++ wPool g hd (L.set nx.toNatClampNeg o) ++ wQ g hq qv) := hD
    rw [hist_set (L := L) (hd := hd) (n := nx.toNatClampNeg) (o := o)] at hP hD
    exact rz_v (RT := Nat → Nat → Nat) (PR := fun _ => True) (W1 := fun hd' => wH g hh hd' (L.set nx.toNatClampNeg o, nx + 1 - (nx + 1) / 8 * 8, jMin (ct + 1) 8) ++ wQ g hq qv) hd trivial hx hb hrt hlk hK hP hD hS (Nat.le_of_ble_eq_true rfl) (Nat.le_of_ble_eq_true rfl) dX4_record_65
  | none =>
    rw [hL] at hf
    obtain ⟨hn, hf⟩ := jbA_e hf
    obtain ⟨qi, hg1, hf⟩ := jbB_e hf
    obtain ⟨o, hg, hf⟩ := jbB_e hf
    cases hf
    refine aldqN hx hb hK hP 1 5 rfl rfl hj (by simp [hL]) dX4_record_8 ?_
    refine lv_astore_nN (lv' := [(2, .null), (0, .ref (hh 0)), (1, .ref (hq 0))]) hx hb dX4_record_9 rfl hl (by decide) rfl (fun ls hl => ?_)
    refine lv_aload_nN hx hb dX4_record_10 rfl (lv_at hl 0 rfl) ?_
    refine lv_ifnonnullN hx hb dX4_record_11 ?_
    refine va_new (ci := 7) (fs := [.null, .null, .null, .null, .null, .null, .null, .null, .null, .int 0, .int 0, .int 0, .int 0, .int 0, .long 0]) (C := RX7) (T := TX7) (N := 15) hx hb hts hinX7 tyX7 tyX7_ok hown kk7 kk8 kk9 hK hP hD hS hA rfl (fun j hj => by rcases (show j = 0 ∨ j = 1 ∨ j = 2 ∨ j = 3 ∨ j = 4 ∨ j = 5 ∨ j = 6 ∨ j = 7 ∨ j = 8 ∨ j = 9 ∨ j = 10 ∨ j = 11 ∨ j = 12 ∨ j = 13 ∨ j = 14 by omega) with rfl | rfl | rfl | rfl | rfl | rfl | rfl | rfl | rfl | rfl | rfl | rfl | rfl | rfl | rfl <;> rfl) (Nat.le_of_ble_eq_true rfl) (Nat.le_of_ble_eq_true rfl) dX4_record_14 (fun q1 H hP hD hS => ?_)
    have hP : va_P (gD g) vwCl ([((hh 0), .inr (4, [.ref (hh 1), .int nx, .int ct])), ((hh 1), .inl (gC g 5, 8, .inr (.inr (.inr (.inr (fun k => (L[k]?).map fun _ => hd k 0))))))] ++ wPool g hd L ++ wQ g hq qv ++ [(q1, .inr (7, [.null, .null, .null, .null, .null, .null, .null, .null, .null, .int 0, .int 0, .int 0, .int 0, .int 0, .long 0]))]) H := hP
    have hD : va_D A ([((hh 0), .inr (4, [.ref (hh 1), .int nx, .int ct])), ((hh 1), .inl (gC g 5, 8, .inr (.inr (.inr (.inr (fun k => (L[k]?).map fun _ => hd k 0))))))] ++ wPool g hd L ++ wQ g hq qv ++ [(q1, .inr (7, [.null, .null, .null, .null, .null, .null, .null, .null, .null, .int 0, .int 0, .int 0, .int 0, .int 0, .long 0]))]) := hD
    refine lv_dup hx hb dX4_record_17 rfl ?_
    refine czI_v (As := []) (rest := [.ref q1]) (Wr := ([((hh 0), .inr (4, [.ref (hh 1), .int nx, .int ct])), ((hh 1), .inl (gC g 5, 8, .inr (.inr (.inr (.inr (fun k => (L[k]?).map fun _ => hd k 0))))))] ++ wPool g hd L ++ wQ g hq qv)) (Wn := fun u => ([((hh 0), .inr (4, [.ref (hh 1), .int nx, .int ct])), ((hh 1), .inl (gC g 5, 8, .inr (.inr (.inr (.inr (fun k => (L[k]?).map fun _ => hd k 0))))))] ++ wPool g hd L ++ wQ g hq qv ++ wQ g u qi)) ⟨hx, hb, hml, hown, hts⟩ (c_X7_init l g q1 _ hg1) (cwI 0 hts gX4_record_X7_init rfl rfl rfl kk9 kk10 kk11 rfl (by decide +kernel) ⟨(Nat.le_of_ble_eq_true rfl), (Nat.le_of_ble_eq_true rfl)⟩) hK hZ hT hA hP hD hS hl.1 (wp_of fun f => by simp only [List.countP_append, List.countP_cons, List.countP_nil] <;> omega) (fun _ => (wp_of fun f => by simp only [List.countP_append, List.countP_cons, List.countP_nil] <;> omega)) rfl rfl (Nat.le_of_ble_eq_true rfl) ⟨(Nat.le_of_ble_eq_true rfl), (Nat.le_of_ble_eq_true rfl)⟩ dX4_record_18 (fun u H locs ho hP hD hS => ?_)
    rw [← ho]
    refine lv_astore_n (lv' := [(2, .ref (u 0)), (0, .ref (hh 0)), (1, .ref (hq 0))]) hx hb dX4_record_21 rfl hl (by decide) rfl (fun ls hl => ?_)
    refine lv_aload_n hx hb dX4_record_22 rfl (lv_at hl 1 rfl) ?_
    refine va_get (D := gD g) (ci := 4) (v := .ref (hh 1)) (C := RX4) (T := TX4) (N := 3) hx hb hts hinX4 hown hK hP 0 rfl rfl 0 (by decide) kk0 (fun _ h9 => h9) rfl dX4_record_23 ?_
    refine lv_aload_n hx hb dX4_record_26 rfl (lv_at hl 1 rfl) ?_
    refine va_get (D := gD g) (ci := 4) (v := .int nx) (C := RX4) (T := TX4) (N := 3) hx hb hts hinX4 hown hK hP 0 rfl rfl 1 (by decide) kk1 (fun _ h9 => h9) rfl dX4_record_27 ?_
    refine lv_aload_n hx hb dX4_record_30 rfl (lv_at hl 0 rfl) ?_
    have hPr : va_P (gD g) vwCl (wQ g u qi ++ ([((hh 0), .inr (4, [.ref (hh 1), .int nx, .int ct])), ((hh 1), .inl (gC g 5, 8, .inr (.inr (.inr (.inr (fun k => (L[k]?).map fun _ => hd k 0))))))] ++ wPool g hd L ++ wQ g hq qv)) _ := wp_P (wp_of fun f => by simp only [List.countP_append, List.countP_cons, List.countP_nil] <;> omega) hP
    refine vb_astq (E := "TerraceQuarry$Quarry") (C := "TerraceQuarry$Quarry") hx hb hK hP hD hS 1 5 rfl rfl (va_recv hK hPr (ci := 7) (q0 := 0) rfl rfl) (fun comp c0 h1 h2 => vb_asgS comp c0 h1 h2) hj dX4_record_31 (fun H locs hP hD hS => ?_)
    have hP : va_P (gD g) vwCl ([((hh 0), .inr (4, [.ref (hh 1), .int nx, .int ct])), ((hh 1), .inl (gC g 5, 8, .inr (.inr (.inr (.inr (va_up (fun k => (L[k]?).map fun _ => hd k 0) nx.toNatClampNeg (some (u 0))))))))] ++ wPool g hd L ++ wQ g hq qv ++ wQ g u qi) H := hP
    have hD : va_D A ([((hh 0), .inr (4, [.ref (hh 1), .int nx, .int ct])), ((hh 1), .inl (gC g 5, 8, .inr (.inr (.inr (.inr (va_up (fun k => (L[k]?).map fun _ => hd k 0) nx.toNatClampNeg (some (u 0))))))))] ++ wPool g hd L ++ wQ g hq qv ++ wQ g u qi) := hD
    refine lv_aload_n hx hb dX4_record_32 rfl (lv_at hl 0 rfl) ?_
    refine lv_aload_n hx hb dX4_record_33 rfl (lv_at hl 2 rfl) ?_
    have hPr : va_P (gD g) vwCl (wQ g u qi ++ ([((hh 0), .inr (4, [.ref (hh 1), .int nx, .int ct])), ((hh 1), .inl (gC g 5, 8, .inr (.inr (.inr (.inr (va_up (fun k => (L[k]?).map fun _ => hd k 0) nx.toNatClampNeg (some (u 0))))))))] ++ wPool g hd L ++ wQ g hq qv)) _ := wp_P (wp_of fun f => by simp only [List.countP_append, List.countP_cons, List.countP_nil] <;> omega) hP
    refine cpv_v (As := [.ref (hq 0)]) (rest := []) (Wr := ([((hh 0), .inr (4, [.ref (hh 1), .int nx, .int ct])), ((hh 1), .inl (gC g 5, 8, .inr (.inr (.inr (.inr (va_up (fun k => (L[k]?).map fun _ => hd k 0) nx.toNatClampNeg (some (u 0))))))))] ++ wPool g hd L)) (Wn := ([((hh 0), .inr (4, [.ref (hh 1), .int nx, .int ct])), ((hh 1), .inl (gC g 5, 8, .inr (.inr (.inr (.inr (va_up (fun k => (L[k]?).map fun _ => hd k 0) nx.toNatClampNeg (some (u 0))))))))] ++ wPool g hd L ++ wQ g hq qv ++ wQ g u o)) ⟨hx, hb, hml, hown, hts⟩ (c_X7_copyFrom l g u qi hq qv o hg) (cwV 1 hts gX4_record_X7_copyFrom rfl rfl rfl hd_X7_copyFrom ⟨(Nat.le_of_ble_eq_true rfl), (Nat.le_of_ble_eq_true rfl)⟩) hK hZ hT hA hP hD hS hl.1 (va_recv hK hPr (ci := 7) (q0 := 0) rfl rfl) (wp_of fun f => by simp only [List.countP_append, List.countP_cons, List.countP_nil] <;> omega) (wp_of fun f => by simp only [List.countP_append, List.countP_cons, List.countP_nil] <;> omega) rfl rfl (Nat.le_of_ble_eq_true rfl) ⟨(Nat.le_of_ble_eq_true rfl), (Nat.le_of_ble_eq_true rfl)⟩ dX4_record_34 (fun H locs hP hD hS => ?_)
    refine lv_aload_n hx hb dX4_record_37 rfl (lv_at hl 1 rfl) ?_
    refine lv_aload_n hx hb dX4_record_38 rfl (lv_at hl 1 rfl) ?_
    refine va_get (D := gD g) (ci := 4) (v := .int nx) (C := RX4) (T := TX4) (N := 3) hx hb hts hinX4 hown hK hP 0 rfl rfl 1 (by decide) kk1 (fun _ h9 => h9) rfl dX4_record_39 ?_
    refine lv_iconst (v := 1) hx hb dX4_record_42 (by decide) ?_
    refine lv_iadd hx hb dX4_record_43 ?_
    refine lv_bipush (v := 8) hx hb dX4_record_44 (by decide) ?_
    refine lv_irem hx hb dX4_record_46 (by decide) ?_
    refine va_put (D := gD g) (ci := 4) (v := .int ((nx + 1) - (nx + 1) / 8 * 8)) (ty := .int) (C := RX4) (T := TX4) (N := 3) hx hb hts hinX4 tyX4 tyX4_ok nmX4 hown hK hP hD hS 0 rfl rfl 1 (by decide) kk1 (fun _ h9 => h9) rfl (tyX4_ok 1 (by decide)) rfl rfl (Nat.le_of_ble_eq_true rfl) dX4_record_47 (fun H locs hP hD hS => ?_)
    have hP : va_P (gD g) vwCl ([((hh 0), .inr (4, [.ref (hh 1), .int ((nx + 1) - (nx + 1) / 8 * 8), .int ct])), ((hh 1), .inl (gC g 5, 8, .inr (.inr (.inr (.inr (va_up (fun k => (L[k]?).map fun _ => hd k 0) nx.toNatClampNeg (some (u 0))))))))] ++ wPool g hd L ++ wQ g hq qv ++ wQ g u o) H := hP
    have hD : va_D A ([((hh 0), .inr (4, [.ref (hh 1), .int ((nx + 1) - (nx + 1) / 8 * 8), .int ct])), ((hh 1), .inl (gC g 5, 8, .inr (.inr (.inr (.inr (va_up (fun k => (L[k]?).map fun _ => hd k 0) nx.toNatClampNeg (some (u 0))))))))] ++ wPool g hd L ++ wQ g hq qv ++ wQ g u o) := hD
    refine lv_aload_n hx hb dX4_record_50 rfl (lv_at hl 1 rfl) ?_
    refine lv_aload_n hx hb dX4_record_51 rfl (lv_at hl 1 rfl) ?_
    refine va_get (D := gD g) (ci := 4) (v := .int ct) (C := RX4) (T := TX4) (N := 3) hx hb hts hinX4 hown hK hP 0 rfl rfl 2 (by decide) kk2 (fun _ h9 => h9) rfl dX4_record_52 ?_
    refine lv_iconst (v := 1) hx hb dX4_record_55 (by decide) ?_
    refine lv_iadd hx hb dX4_record_56 ?_
    refine lv_bipush (v := 8) hx hb dX4_record_57 (by decide) ?_
    refine va_mmin hx hb (hml.trans hl.1.symm) hown kk3 kk4 kk5 kk6 (Nat.le_of_ble_eq_true rfl) (Nat.le_of_ble_eq_true rfl) (Nat.le_of_ble_eq_true rfl) (Nat.le_of_ble_eq_true rfl) dX4_record_59 ?_
    refine va_put (D := gD g) (ci := 4) (v := .int (jMin (ct + 1) 8)) (ty := .int) (C := RX4) (T := TX4) (N := 3) hx hb hts hinX4 tyX4 tyX4_ok nmX4 hown hK hP hD hS 0 rfl rfl 2 (by decide) kk2 (fun _ h9 => h9) rfl (tyX4_ok 2 (by decide)) rfl rfl (Nat.le_of_ble_eq_true rfl) dX4_record_62 (fun H locs hP hD hS => ?_)
    have hP : va_P (gD g) vwCl ([((hh 0), .inr (4, [.ref (hh 1), .int ((nx + 1) - (nx + 1) / 8 * 8), .int (jMin (ct + 1) 8)])), ((hh 1), .inl (gC g 5, 8, .inr (.inr (.inr (.inr (va_up (fun k => (L[k]?).map fun _ => hd k 0) nx.toNatClampNeg (some (u 0))))))))] ++ wPool g hd L ++ wQ g hq qv ++ wQ g u o) H := hP
    have hD : va_D A ([((hh 0), .inr (4, [.ref (hh 1), .int ((nx + 1) - (nx + 1) / 8 * 8), .int (jMin (ct + 1) 8)])), ((hh 1), .inl (gC g 5, 8, .inr (.inr (.inr (.inr (va_up (fun k => (L[k]?).map fun _ => hd k 0) nx.toNatClampNeg (some (u 0))))))))] ++ wPool g hd L ++ wQ g hq qv ++ wQ g u o) := hD
    rw [hist_push (L := L) (u := u) (hd := hd) hn (o := o)] at hP hD
    have hpm : (([((hh 0), .inr (4, [.ref (hh 1), .int ((nx + 1) - (nx + 1) / 8 * 8), .int (jMin (ct + 1) 8)])), ((hh 1), .inl (gC g 5, 8, .inr (.inr (.inr (.inr (fun k => ((L ++ [o])[k]?).map fun _ => (if k = L.length then u else hd k) 0))))))] ++ wPool g hd L ++ wQ g hq qv ++ wQ g u o) : va_W).Perm ([(hh 0, .inr (4, [.ref (hh 1), .int (nx + 1 - (nx + 1) / 8 * 8), .int (jMin (ct + 1) 8)])), (hh 1, .inl (gC g 5, 8, .inr (.inr (.inr (.inr (fun k => ((L ++ [o])[k]?).map fun _ => (if k = L.length then u else hd k) 0))))))] ++ wPool g (fun k => if k = L.length then u else hd k) (L ++ [o]) ++ wQ g hq qv : va_W) := by
      rw [wPool_push u o L hd]
      exact wp_of fun f => by simp only [List.countP_append, List.countP_cons, List.countP_nil] <;> omega
    exact rz_v (RT := Nat → Nat → Nat) (PR := fun _ => True) (W1 := fun hd' => wH g hh hd' (L ++ [o], nx + 1 - (nx + 1) / 8 * 8, jMin (ct + 1) 8) ++ wQ g hq qv) (fun k => if k = L.length then u else hd k) trivial hx hb hrt hlk hK (wp_P hpm hP) (wp_D hpm hD) hS (Nat.le_of_ble_eq_true rfl) (Nat.le_of_ble_eq_true rfl) dX4_record_65
def rm_X4_forget : Room := { frames := 0, cells := 0, slots := 0, locals := 0 }
theorem hd_X4_forget : yX4_forget.cls = RX4 ∧ yX4_forget.cls ≠ "java/lang/invoke/MethodHandle" ∧ yX4_forget.cls ≠ "java/lang/invoke/VarHandle" ∧ (parseMethodDescriptor yX4_forget.desc).map (fun d => d.parameters.length) = some 0 := by decide +kernel
set_option maxHeartbeats 4000000 in
set_option maxRecDepth 100000 in
theorem c_X4_forget (l : Launch) (g : GG) (hh : Nat → Nat) (hd : Nat → Nat → Nat) (L : List QV) (nx ct : Int32) : MtV l yX4_forget wsX4_forget rm_X4_forget g (wH g hh hd (L, nx, ct)) [.ref (hh 0)] (wH g hh hd (L, nx, 0)) 0 0 := by
  refine fun sz => mt_of (cc := cX4_forget) (maxL := 1) (ret := none) (own := RX4) (Qc := fun A => va_Qv (fun (_ : Unit) => True) (fun _ t => PosM g A (wH g hh hd (L, nx, 0)) t) A) (by decide +kernel) rfl rfl (Nat.le_of_ble_eq_true rfl) ?_ sz
  intro p e s mi below meth c A ls hB hnm hrt hlk hP hD hl
  obtain ⟨hx, hb, hml, hown, hts, hK, hZ, hT, hA, -⟩ := hB
  have hS : va_S A s.heap s.heap [] := va_S.rf
  have hl : lv_has ls 1 [(0, .ref (hh 0))] := hl
  have hinX4 : ∀ w ∈ wsX40, w ∈ wsX4_forget := by decide +kernel
  have kk0 := hts (.fieldLink RX4 19 "TerraceQuarry$History" "count" "I") (by decide +kernel)
  have hP : va_P (gD g) vwCl ([((hh 0), .inr (4, [.ref (hh 1), .int nx, .int ct])), ((hh 1), .inl (gC g 5, 8, .inr (.inr (.inr (.inr (fun k => (L[k]?).map fun _ => hd k 0))))))] ++ wPool g hd L) s.heap := hP
  have hD : va_D A ([((hh 0), .inr (4, [.ref (hh 1), .int nx, .int ct])), ((hh 1), .inl (gC g 5, 8, .inr (.inr (.inr (.inr (fun k => (L[k]?).map fun _ => hd k 0))))))] ++ wPool g hd L) := hD
  refine lv_aload_n hx hb dX4_forget_0 rfl (lv_at hl 0 rfl) ?_
  refine lv_iconst (v := 0) hx hb dX4_forget_1 (by decide) ?_
  refine va_put (D := gD g) (ci := 4) (v := .int 0) (ty := .int) (C := RX4) (T := TX4) (N := 3) hx hb hts hinX4 tyX4 tyX4_ok nmX4 hown hK hP hD hS 0 rfl rfl 2 (by decide) kk0 (fun _ h9 => h9) rfl (tyX4_ok 2 (by decide)) rfl rfl (Nat.le_of_ble_eq_true rfl) dX4_forget_2 (fun H locs hP hD hS => ?_)
  have hP : va_P (gD g) vwCl ([((hh 0), .inr (4, [.ref (hh 1), .int nx, .int 0])), ((hh 1), .inl (gC g 5, 8, .inr (.inr (.inr (.inr (fun k => (L[k]?).map fun _ => hd k 0))))))] ++ wPool g hd L) H := hP
  have hD : va_D A ([((hh 0), .inr (4, [.ref (hh 1), .int nx, .int 0])), ((hh 1), .inl (gC g 5, 8, .inr (.inr (.inr (.inr (fun k => (L[k]?).map fun _ => hd k 0))))))] ++ wPool g hd L) := hD
  exact rt_v hx hb hrt hlk hK hP hD hS (Nat.le_of_ble_eq_true rfl) (Nat.le_of_ble_eq_true rfl) dX4_forget_5
