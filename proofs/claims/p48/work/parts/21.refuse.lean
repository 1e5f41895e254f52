set_option maxHeartbeats 4000000 in
set_option maxRecDepth 100000 in
theorem c_X10_refuse (l : Launch) (hlt : l.stackTraces = false) (g : GG) (a0 : Nat) (out : Sum Nat Unit) (hf : f_X10_refuse a0 = some out) : MxV l yX10_refuse wsX10_refuse rm_X10_refuse g [] [.ref (gS g 0 a0)] out (fun _ => []) (fun x => x) (fun _ => []) 1 6 := by
  refine fun sz => mx_of (cc := cX10_refuse) (maxL := 1) (ret := none) (own := RX10) (Qc := fun A => va_Qv (fun (x : Unit) => out = .inr x) (fun _ t => PosM g A [] t) A) (XC := fun A => vx_X (fun (x : Nat) => out = .inl x) (fun E x t => E = exn x ∧ PosM g A [] t) A) (by decide +kernel) rfl rfl (Nat.le_of_ble_eq_true rfl) ?_ sz
  intro p e s mi below meth c A ls hB htb hrt hlk hP hD hl
  obtain ⟨hx, hb, hml, hown, hts, hK, hZ, hT, hA, -⟩ := hB
  have hS : va_S A s.heap s.heap [] := va_S.rf
  have hl : lv_has ls 1 [(0, .ref (gS g 0 a0))] := hl
  have k0 := hts (.fieldLink RX10 336 "TerraceQuarry$1" "$SwitchMap$TerraceQuarry$Fault" "[I") (by decide +kernel)
  obtain ⟨h6, hf⟩ := jbA_e hf
  obtain ⟨hU, hN⟩ := rx_tt hZ
  refine va_gets (C := "TerraceQuarry$1") (n := "$SwitchMap$TerraceQuarry$Fault") (d := "[I") (v := .ref (gS g 4 1)) hx hb hZ.2.2.2.2.2.1.1 hS hown k0 (fun _ h9 => h9) dX10_refuse_0 ?_
  refine lv_aload_n hx hb dX10_refuse_3 rfl (lv_at hl 0 rfl) ?_
  refine cun_i (C := "TerraceQuarry$Fault") (As := []) (rest := [.ref (gS g 4 1)]) ⟨hx, hb, hml, hown, hts⟩ (c_ordF l g a0 h6) (va_cwU 0 hts gX10_refuse_Jx29ce0_ordinal_8abf5_u342X2 rfl rfl rfl rfl (by decide +kernel) ⟨Nat.le_of_ble_eq_true rfl, Nat.le_of_ble_eq_true rfl⟩) hK hZ hT hA hP hD hS hl.1 (va_recvE hZ.1 (show a0 < stF.length from h6) hS) rfl rfl (Nat.le_of_ble_eq_true rfl) ⟨Nat.le_of_ble_eq_true rfl, Nat.le_of_ble_eq_true rfl⟩ dX10_refuse_4 (fun H locs hP hD hS => ?_)
  rcases (show a0 = 0 ∨ a0 = 1 ∨ a0 = 2 ∨ a0 = 3 ∨ a0 = 4 ∨ a0 = 5 by omega) with rfl | rfl | rfl | rfl | rfl | rfl
  · refine va_ti (v := .int 0) hx hb hZ.2.2.2.2.2.1.2 hS (show jIn _ 6 from by decide) (by decide +kernel) dX10_refuse_7 ?_
    refine lv_tableOut (tgt := 99) hx hb dX10_refuse_8 (by decide) (by decide) ?_
    have hf := jbT hf rfl
    cases hf
    exact rx_v () rfl hx hb hrt hlk hK hP hD hS (Nat.le_of_ble_eq_true rfl) (Nat.le_of_ble_eq_true rfl) dX10_refuse_99
  · refine va_ti (v := .int 1) hx hb hZ.2.2.2.2.2.1.2 hS (show jIn _ 6 from by decide) (by decide +kernel) dX10_refuse_7 ?_
    refine lv_tableIn (tgt := 44) hx hb dX10_refuse_8 (by decide) (by decide) rfl (by decide) ?_
    have hf := jbF hf (by decide)
    cases hf
    exact vx_throwSW (cls := "java/lang/IndexOutOfBoundsException") (names := ["java/lang/RuntimeException", "java/lang/Exception"]) hx hb hlt hown (by decide +kernel) (by decide +kernel) (hts (.classLink RX10 205 "java/lang/IndexOutOfBoundsException") (by decide +kernel)) (hts (.initialized "java/lang/IndexOutOfBoundsException") (by decide +kernel)) (hT.1 20 ("TerraceQuarry", 345, "there is no such cell or winch") rfl) (ox_0 (fun _ h => List.mem_cons_of_mem _ (List.mem_append_left _ (List.mem_append_left _ (List.mem_append_left _ (List.mem_append_left _ (List.mem_append_right _ h)))))) hts hT) og_0 hU hN hS (hl.1.trans hml.symm) dX10_refuse_44 dX10_refuse_47 dX10_refuse_48 dX10_refuse_51 dX10_refuse_54 (fun x h => (htb x h).elim) (by decide) (Nat.le_of_ble_eq_true rfl) (Nat.le_of_ble_eq_true rfl) (Nat.le_of_ble_eq_true rfl) hlk (fun t h1 h2 h3 => rx_xc 0 rfl rfl hK hP hD hS t h1 h2 h3) hS.2.2 (Nat.le_of_ble_eq_true rfl) (Nat.le_of_ble_eq_true rfl)
  · refine va_ti (v := .int 2) hx hb hZ.2.2.2.2.2.1.2 hS (show jIn _ 6 from by decide) (by decide +kernel) dX10_refuse_7 ?_
    refine lv_tableIn (tgt := 55) hx hb dX10_refuse_8 (by decide) (by decide) rfl (by decide) ?_
    have hf := jbF hf (by decide)
    cases hf
    exact vx_throwSW (cls := "java/lang/IllegalArgumentException") (names := ["java/lang/RuntimeException", "java/lang/Exception"]) hx hb hlt hown (by decide +kernel) (by decide +kernel) (hts (.classLink RX10 221 "java/lang/IllegalArgumentException") (by decide +kernel)) (hts (.initialized "java/lang/IllegalArgumentException") (by decide +kernel)) (hT.1 21 ("TerraceQuarry", 347, "a value is out of range") rfl) (ox_1 (fun _ h => List.mem_cons_of_mem _ (List.mem_append_left _ (List.mem_append_left _ (List.mem_append_left _ (List.mem_append_right _ h))))) hts hT) og_1 hU hN hS (hl.1.trans hml.symm) dX10_refuse_55 dX10_refuse_58 dX10_refuse_59 dX10_refuse_62 dX10_refuse_65 (fun x h => (htb x h).elim) (by decide) (Nat.le_of_ble_eq_true rfl) (Nat.le_of_ble_eq_true rfl) (Nat.le_of_ble_eq_true rfl) hlk (fun t h1 h2 h3 => rx_xc 1 rfl rfl hK hP hD hS t h1 h2 h3) hS.2.2 (Nat.le_of_ble_eq_true rfl) (Nat.le_of_ble_eq_true rfl)
  · refine va_ti (v := .int 3) hx hb hZ.2.2.2.2.2.1.2 hS (show jIn _ 6 from by decide) (by decide +kernel) dX10_refuse_7 ?_
    refine lv_tableIn (tgt := 66) hx hb dX10_refuse_8 (by decide) (by decide) rfl (by decide) ?_
    have hf := jbF hf (by decide)
    cases hf
    exact nx_throwSW (cls := "java/util/NoSuchElementException") (Y9 := "java/lang/RuntimeException") (names := ["java/lang/Exception"]) (ix := 13) (rx := prog_42_method_4_code) hx hb hlt nse_0 nse_1 nse_2 nse_5 (by decide +kernel) hown (by decide +kernel) (by decide +kernel) (hts (.classLink RX10 192 "java/util/NoSuchElementException") (by decide +kernel)) (hts (.initialized "java/util/NoSuchElementException") (by decide +kernel)) (hT.1 22 ("TerraceQuarry", 349, "the cell has no loose block") rfl) (ox_2 (fun _ h => List.mem_cons_of_mem _ (List.mem_append_left _ (List.mem_append_left _ (List.mem_append_right _ h)))) hts hT) og_2 hU hN hS (hl.1.trans hml.symm) dX10_refuse_66 dX10_refuse_69 dX10_refuse_70 dX10_refuse_73 dX10_refuse_76 (fun x h => (htb x h).elim) (by decide) (Nat.le_of_ble_eq_true rfl) (Nat.le_of_ble_eq_true rfl) (Nat.le_of_ble_eq_true rfl) hlk (fun t h1 h2 h3 => rx_xc 2 rfl rfl hK hP hD hS t h1 h2 h3) hS.2.2 (Nat.le_of_ble_eq_true rfl) (Nat.le_of_ble_eq_true rfl)
  · refine va_ti (v := .int 4) hx hb hZ.2.2.2.2.2.1.2 hS (show jIn _ 6 from by decide) (by decide +kernel) dX10_refuse_7 ?_
    refine lv_tableIn (tgt := 77) hx hb dX10_refuse_8 (by decide) (by decide) rfl (by decide) ?_
    have hf := jbF hf (by decide)
    cases hf
    exact vx_throwSW (cls := "java/lang/IllegalStateException") (names := ["java/lang/RuntimeException", "java/lang/Exception"]) hx hb hlt hown (by decide +kernel) (by decide +kernel) (hts (.classLink RX10 271 "java/lang/IllegalStateException") (by decide +kernel)) (hts (.initialized "java/lang/IllegalStateException") (by decide +kernel)) (hT.1 23 ("TerraceQuarry", 351, "the quarry does not allow it now") rfl) (ox_3 (fun _ h => List.mem_cons_of_mem _ (List.mem_append_left _ (List.mem_append_right _ h))) hts hT) og_3 hU hN hS (hl.1.trans hml.symm) dX10_refuse_77 dX10_refuse_80 dX10_refuse_81 dX10_refuse_84 dX10_refuse_87 (fun x h => (htb x h).elim) (by decide) (Nat.le_of_ble_eq_true rfl) (Nat.le_of_ble_eq_true rfl) (Nat.le_of_ble_eq_true rfl) hlk (fun t h1 h2 h3 => rx_xc 3 rfl rfl hK hP hD hS t h1 h2 h3) hS.2.2 (Nat.le_of_ble_eq_true rfl) (Nat.le_of_ble_eq_true rfl)
  · refine va_ti (v := .int 5) hx hb hZ.2.2.2.2.2.1.2 hS (show jIn _ 6 from by decide) (by decide +kernel) dX10_refuse_7 ?_
    refine lv_tableIn (tgt := 88) hx hb dX10_refuse_8 (by decide) (by decide) rfl (by decide) ?_
    have hf := jbF hf (by decide)
    cases hf
    exact vx_throwSW (cls := "java/lang/UnsupportedOperationException") (names := ["java/lang/RuntimeException", "java/lang/Exception"]) hx hb hlt hown (by decide +kernel) (by decide +kernel) (hts (.classLink RX10 294 "java/lang/UnsupportedOperationException") (by decide +kernel)) (hts (.initialized "java/lang/UnsupportedOperationException") (by decide +kernel)) (hT.1 24 ("TerraceQuarry", 353, "the steps or the winch do not allow it") rfl) (ox_4 (fun _ h => List.mem_cons_of_mem _ (List.mem_append_right _ h)) hts hT) og_4 hU hN hS (hl.1.trans hml.symm) dX10_refuse_88 dX10_refuse_91 dX10_refuse_92 dX10_refuse_95 dX10_refuse_98 (fun x h => (htb x h).elim) (by decide) (Nat.le_of_ble_eq_true rfl) (Nat.le_of_ble_eq_true rfl) (Nat.le_of_ble_eq_true rfl) hlk (fun t h1 h2 h3 => rx_xc 4 rfl rfl hK hP hD hS t h1 h2 h3) hS.2.2 (Nat.le_of_ble_eq_true rfl) (Nat.le_of_ble_eq_true rfl)
theorem jbM_r {σ ρ τ : Type} {y : ρ} {k : σ → Option τ} {r : ρ → Option τ} {x : Option τ} (h : jbM (.inr y) k r = x) : r y = x := h
section
variable {p : Program} {l : Launch} {e : Env} {R : Room} {s : State} {m : MethodId} {args : Array Value} {below : List Frame} {meth : Method} {c : Code} {H : Heap} {locs : List Loc} {cells slots : Nat} {Q : State → Prop}
variable {g : GG} {Ws : va_W} {A : Nat → Prop} {cc bytes : ByteArray} {pc : Nat} {ls : Array Slot} {mc ms maxL nL n index : Nat} {own : String} {y : MethodName} {ret : Option FieldType} {wsY Ts : List Cond} {rmY : Room} {As rest : List Value} {ET RT : Type} {out : Sum ET RT} {ek : ET → Nat}
theorem cxn_v (S : CallFix p m c cc nL s args Ts own) (hM : MxV l y wsY rmY g [] As out (fun _ => []) ek (fun _ => []) mc ms) (cw : CallB R s args own index y bytes maxL ret wsY rmY mc ms n ∧ (Cond.static y).before args s = true) (hK : va_K (gD g) vwCl (tyL g) s) (hZ : ST g A s s.heap) (hT : STR g s) (hA : ∀ q, s.heap.size ≤ q → A q) (hP : va_P (gD g) vwCl Ws H) (hD : va_D A Ws) (hS : va_S A s.heap H locs) (hsz : ls.size = nL) (hn : As.length = n) {st0 : List Value} (hst : st0 = As.reverse ++ rest) (hrm : (rest.map fun v => v.category).sum ≤ 8) (hroom : cells + mc ≤ R.cells ∧ slots + ms ≤ R.slots) (hdg : decode cc pc = .ok (.invokestatic index, 3))
    (kx : ∀ (x : ET) (ce : Cell) (q9 : Addr) (H1 : Heap) (locs1 : List Loc), out = .inl x → va_P (gD g) vwCl Ws H1 → va_D A Ws → va_S A s.heap H1 locs1 → H1[q9]? = some ce → ce.vm = .none → s.vm.findClass (exn (ek x)) = some ce.cls → vx_W p l e R s m args below meth c H1 locs1 (cells + mc) (slots + ms) Q (F0 m pc ls rest) q9)
    (kk : ∀ (x : RT) (H1 : Heap) (locs1 : List Loc), out = .inr x → va_P (gD g) vwCl Ws H1 → va_D A Ws → va_S A s.heap H1 locs1 → W p l e R s m args below meth c H1 locs1 (cells + mc) (slots + ms) Q (F0 m (pc + 3) ls rest)) : W p l e R s m args below meth c H locs cells slots Q (F0 m pc ls st0) :=
  cxs_v (Wr := Ws) S hM cw hK hZ hT hA hP hD hS hsz [] (List.range Ws.length) rfl (cl_all Ws) rfl (cl_nd _) (List.all_eq_true.mpr (fun _ _ => rfl)) hn hst hrm hroom hdg
    (fun x ce q9 H1 locs1 ho h1 h2 h3 => kx x ce q9 H1 locs1 ho (by rw [List.append_nil] at h1; exact h1) (by rw [List.append_nil] at h2; exact h2) h3)
    (fun x H1 locs1 ho h1 h2 h3 => kk x H1 locs1 ho (by rw [List.append_nil] at h1; exact h1) (by rw [List.append_nil] at h2; exact h2) h3)
end
