/-! ===== the output line ===== -/
theorem jl_s {σ ρ : Type} {body : σ → Option (Sum σ ρ)} {f : Nat} {s s' : σ} (h : body s = some (.inl s')) : jbL body (f + 1) s = jbL body f s' := by
  (try simp only [ob_s, jb_u, ↓reduceIte, i10, n06, n16, n26, n36, n46, n56, n10])
  show (body s).bind _ = _
  rw [h]
  exact Eq.trans rfl rfl
theorem jl_e {σ ρ : Type} {body : σ → Option (Sum σ ρ)} {f : Nat} {s : σ} {r : ρ} (h : body s = some (.inr r)) : jbL body (f + 1) s = some r := by
  (try simp only [ob_s, jb_u, ↓reduceIte, i10, n06, n16, n26, n36, n46, n56, n10])
  show (body s).bind _ = _
  rw [h]
  exact Eq.trans rfl rfl
/-- what writing leaves as it was -/
abbrev KeptL (m : MV) (m' : MV) : Prop :=
  (mNow m' = mNow m) ∧
  (mHistory m' = mHistory m) ∧
  (mRemembered m' = mRemembered m) ∧
  (mErrorAt m' = mErrorAt m) ∧
  (mFailedAt m' = mFailedAt m) ∧
  (mText m' = mText m) ∧
  (mTyped m' = mTyped m) ∧
  (mIsSaved m' = mIsSaved m) ∧
  (mSaved m' = mSaved m) ∧
  (mThrown m' = mThrown m)
theorem KeptL.now {m : MV} {m' : MV} (x : KeptL m m') : mNow m' = mNow m := x.1
theorem KeptL.hist {m : MV} {m' : MV} (x : KeptL m m') : mHistory m' = mHistory m := x.2.1
theorem KeptL.rem {m : MV} {m' : MV} (x : KeptL m m') : mRemembered m' = mRemembered m := x.2.2.1
theorem KeptL.err {m : MV} {m' : MV} (x : KeptL m m') : mErrorAt m' = mErrorAt m := x.2.2.2.1
theorem KeptL.fail {m : MV} {m' : MV} (x : KeptL m m') : mFailedAt m' = mFailedAt m := x.2.2.2.2.1
theorem KeptL.text {m : MV} {m' : MV} (x : KeptL m m') : mText m' = mText m := x.2.2.2.2.2.1
theorem KeptL.typed {m : MV} {m' : MV} (x : KeptL m m') : mTyped m' = mTyped m := x.2.2.2.2.2.2.1
theorem KeptL.isSaved {m : MV} {m' : MV} (x : KeptL m m') : mIsSaved m' = mIsSaved m := x.2.2.2.2.2.2.2.1
theorem KeptL.saved {m : MV} {m' : MV} (x : KeptL m m') : mSaved m' = mSaved m := x.2.2.2.2.2.2.2.2.1
theorem KeptL.thr {m : MV} {m' : MV} (x : KeptL m m') : mThrown m' = mThrown m := x.2.2.2.2.2.2.2.2.2
theorem KeptL.mk {m : MV} {m' : MV} (f_now : mNow m' = mNow m) (f_hist : mHistory m' = mHistory m) (f_rem : mRemembered m' = mRemembered m) (f_err : mErrorAt m' = mErrorAt m) (f_fail : mFailedAt m' = mFailedAt m) (f_text : mText m' = mText m) (f_typed : mTyped m' = mTyped m) (f_isSaved : mIsSaved m' = mIsSaved m) (f_saved : mSaved m' = mSaved m) (f_thr : mThrown m' = mThrown m) : KeptL m m' := ⟨f_now, f_hist, f_rem, f_err, f_fail, f_text, f_typed, f_isSaved, f_saved, f_thr⟩
theorem KeptL.rf (m : MV) : KeptL m m := KeptL.mk rfl rfl rfl rfl rfl rfl rfl rfl rfl rfl
theorem KeptL.tr {a b c : MV} (h : KeptL a b) (k : KeptL b c) : KeptL a c := KeptL.mk (k.now.trans h.now) (k.hist.trans h.hist) (k.rem.trans h.rem) (k.err.trans h.err) (k.fail.trans h.fail) (k.text.trans h.text) (k.typed.trans h.typed) (k.isSaved.trans h.isSaved) (k.saved.trans h.saved) (k.thr.trans h.thr)
theorem KeptL.line (x : Nat → Int32) (m : MV) : KeptL m (mSLine x m) := KeptL.mk rfl rfl rfl rfl rfl rfl rfl rfl rfl rfl
def LnR (p : Nat) (ov : OV) (m : MV) : Prop := oLength ov = nI p ∧ ∀ k, k < p → oSigns ov k = mLine m k ∧ ∃ x, x < 128 ∧ mLine m k = nI x
theorem nar_ch (x : Nat) (h : x < 128) : vp_nar .char (nI x) = nI x := (by decide +kernel : ∀ x : Fin 128, vp_nar .char (nI x.val) = nI x.val) ⟨x, h⟩
theorem ch_id (x : Nat) (h : x < 128) : ((nI x).toUInt32 % 65536).toInt32 = nI x := (by decide +kernel : ∀ x : Fin 128, ((nI x.val).toUInt32 % 65536).toInt32 = nI x.val) ⟨x, h⟩
theorem put_both {p : Nat} {ov : OV} {m : MV} (h : LnR p ov m) (hp : p < 48) (x : Nat) (hx : x < 128) : ∃ ov' m', f_X5_put ov (nI x) = some ov' ∧ f_X11_put m (nI p) (nI x) = some (nI (p + 1), m') ∧ LnR (p + 1) ov' m' ∧ KeptL m m' := by
  obtain ⟨h1, h2⟩ := h
  have hl : (nI p).toNatClampNeg = p := nI_clamp (by omega)
  have hj : jIn (nI p) 48 := nIin hp (by decide)
  have hj6 : jIn (nI p) 60 := nIin (by omega) (by decide)
  have h48 : ¬ (48 : Int32) ≤ nI p := nI_ge (a := p) (b := 48) hp (by decide)
  refine ⟨(upd (oSigns ov) p (nI x), nI (p + 1)), mSLine (upd (mLine m) p (nI x)) m, ?_, ?_, ⟨rfl, fun k hk => ?_⟩, KeptL.line _ _⟩
  · unfold f_X5_put
    simp only [h1, if_neg h48, if_pos hj, hl, nar_ch x hx, jb_u]
    show some (upd (oSigns ov) p (nI x), oLength ov + 1) = _
    rw [h1, nI_1]
  · unfold f_X11_put
    simp only [if_pos hj6, hl, jb_u, nI_1]
  · show upd (oSigns ov) p (nI x) k = upd (mLine m) p (nI x) k ∧ ∃ y, y < 128 ∧ upd (mLine m) p (nI x) k = nI y
    by_cases e : k = p
    · subst e
      rw [upd_at, upd_at]
      exact ⟨rfl, x, hx, rfl⟩
    · rw [upd_ne _ _ e, upd_ne _ _ e]
      exact h2 k (by omega)
theorem dots {q : QV} {w : Nat → Int32} (hr : RelQ q w) (c b : Nat) (hc : c < 30) (hb : b ≤ 3) (en : w (22 + 7 * c) = nI b) : ∀ (r i p f : Nat) (ov : OV) (m : MV), i + r = b → r < f → p + r ≤ 48 → LnR p ov m → mNow m = w →
    ∃ ov' m', jbL (fun s : Int32 × OV => f_X5_putCell_L56 q (nI c) s.1 s.2) f (nI i, ov) = some (nI b, ov') ∧ jbL (fun s : Int32 × Int32 × MV => f_X11_writesCell_L73 (nI c) s.1 s.2.1 s.2.2) f (nI p, nI i, m) = some (nI (p + r), nI b, m') ∧ LnR (p + r) ov' m' ∧ KeptL m m' := by
  intro r
  have hjc : jIn (nI c) 30 := nIin hc (by decide)
  have hlc : (nI c).toNatClampNeg = c := nI_clamp (by omega)
  have hba : f_X7_blocksAt q (nI c) = some (nI b) := by
    unfold f_X7_blocksAt
    rw [if_pos hjc, hlc, hr.n c hc, en]
  have hof : ∀ m : MV, mNow m = w → f_X11_of m (nI c) 3 = some (nI b) := fun m hm => by
    rw [show (3 : Int32) = nI 3 from rfl, m_of c 3 (by omega), hm, show 19 + 7 * c + 3 = 22 + 7 * c by omega, en]
  induction r with
  | zero =>
    intro i p f ov m hi hf hp h hm
    obtain ⟨f, rfl⟩ : ∃ g, f = g + 1 := ⟨f - 1, by omega⟩
    have e : i = b := by omega
    subst e
    refine ⟨ov, m, jl_e ?_, jl_e ?_, h, KeptL.rf m⟩
    · show f_X5_putCell_L56 q (nI c) (nI i) ov = _
      unfold f_X5_putCell_L56
      simp only [hba, ob_s, if_pos (Int32.le_refl (nI i))]
    · show f_X11_writesCell_L73 (nI c) (nI p) (nI i) m = _
      unfold f_X11_writesCell_L73
      simp only [hof m hm, ob_s, if_pos (Int32.le_refl (nI i)), Nat.add_zero]
  | succ r ih =>
    intro i p f ov m hi hf hp h hm
    obtain ⟨f, rfl⟩ : ∃ g, f = g + 1 := ⟨f - 1, by omega⟩
    obtain ⟨ov1, m1, a1, a2, a3, a4⟩ := put_both h (by omega) 46 (by omega)
    obtain ⟨ov2, m2, b1, b2, b3, b4⟩ := ih (i + 1) (p + 1) f ov1 m1 (by omega) (by omega) (by omega) a3 (a4.now.trans hm)
    have a1' : f_X5_put ov 46 = some ov1 := a1
    have a2' : f_X11_put m (nI p) 46 = some (nI (p + 1), m1) := a2
    have hlt : ¬ nI b ≤ nI i := nI_ge (by omega) (by omega)
    refine ⟨ov2, m2, ?_, ?_, by rw [show p + (r + 1) = p + 1 + r by omega]; exact b3, a4.tr b4⟩
    · rw [jl_s (s' := (nI (i + 1), ov1))]
      · exact b1
      · show f_X5_putCell_L56 q (nI c) (nI i) ov = _
        unfold f_X5_putCell_L56
        simp only [hba, ob_s, if_neg hlt, a1', nI_1]
    · rw [jl_s (s' := (nI (p + 1), nI (i + 1), m1)), show p + (r + 1) = p + 1 + r by omega]
      · exact b2
      · show f_X11_writesCell_L73 (nI c) (nI p) (nI i) m = _
        unfold f_X11_writesCell_L73
        simp only [hof m hm, ob_s, if_neg hlt, a2', jb_u, nI_1]
theorem hh_ch (n : Nat) (h : n ≤ 9) : (((48 : Int32) + nI n).toUInt32 % 65536).toInt32 = nI (48 + n) := (by decide +kernel : ∀ n : Fin 10, (((48 : Int32) + nI n.val).toUInt32 % 65536).toInt32 = nI (48 + n.val)) ⟨n, by omega⟩
theorem ss_ch (n : Nat) (h : n ≤ 3) : (((97 : Int32) + nI n).toUInt32 % 65536).toInt32 = nI (97 + n) := (by decide +kernel : ∀ n : Fin 4, (((97 : Int32) + nI n.val).toUInt32 % 65536).toInt32 = nI (97 + n.val)) ⟨n, by omega⟩
theorem cell_both {q : QV} {w : Nat → Int32} {t : Nat} (hr : RelQ q w) (hi : InvW t w) (c p : Nat) (hc : c < 30) (hp : p ≤ 41) (ov : OV) (m : MV) (h : LnR p ov m) (hm : mNow m = w) :
    ∃ p' ov' m', p' ≤ p + 7 ∧ f_X5_putCell ov q (nI c) = some ov' ∧ f_X11_writesCell m (nI p) (nI c) = some (nI p', m') ∧ LnR p' ov' m' ∧ KeptL m m' := by
  obtain ⟨hn, hn9, eh⟩ := hi.h c hc
  obtain ⟨sn, sn3, es⟩ := hi.s c hc
  obtain ⟨b, hb3, eb⟩ := hi.n c hc
  obtain ⟨wn, hw3, ew⟩ := hi.nw
  have o0 : ∀ m1 : MV, mNow m1 = w → f_X11_of m1 (nI c) 0 = some (nI hn) := fun m1 e => by rw [show (0 : Int32) = nI 0 from rfl, m_of c 0 (by omega), e, Nat.add_zero, eh]
  have o1 : ∀ m1 : MV, mNow m1 = w → f_X11_of m1 (nI c) 1 = some (nI sn) := fun m1 e => by rw [show (1 : Int32) = nI 1 from rfl, m_of c 1 (by omega), e, show 19 + 7 * c + 1 = 20 + 7 * c by omega, es]
  have o2 : ∀ m1 : MV, mNow m1 = w → f_X11_of m1 (nI c) 2 = some (w (21 + 7 * c)) := fun m1 e => by rw [show (2 : Int32) = nI 2 from rfl, m_of c 2 (by omega), e, show 19 + 7 * c + 2 = 21 + 7 * c by omega]
  obtain ⟨ov1, m1, a1, a2, a3, a4⟩ := put_both h (by omega) (48 + hn) (by omega)
  obtain ⟨ov2, m2, b1, b2, b3, b4⟩ := put_both a3 (by omega) (97 + sn) (by omega)
  have k2 : KeptL m m2 := a4.tr b4
  have h48 : (48 : Int32) + nI hn = nI (48 + hn) := nI_add 48 hn
  have h97 : (97 : Int32) + nI sn = nI (97 + sn) := nI_add 97 sn
  obtain ⟨p3, ov3, m3, l1, l2, l3, l4, l5⟩ : ∃ p3 ov3 m3, p3 ≤ p + 3 ∧ f_X5_putCell ov q (nI c) = f_X5_putCell_J40 ov3 q (nI c) ∧ f_X11_writesCell m (nI p) (nI c) = f_X11_writesCell_J49 m3 (nI c) (nI p3) ∧ LnR p3 ov3 m3 ∧ KeptL m m3 := by
    obtain ⟨ln, hl1, el⟩ := hi.l c hc
    rcases (show ln = 0 ∨ ln = 1 by omega) with rfl | rfl
    · have e0 : w (21 + 7 * c) = 0 := el
      have n01 : ¬ (0 : Int32) = 1 := by decide
      refine ⟨p + 2, ov2, m2, by omega, ?_, ?_, b3, k2⟩
      · unfold f_X5_putCell
        simp only [q_heightAt hr c hc, eh, ob_s, hh_ch hn hn9, a1, q_stoneAt hr c hc, es, ss_ch sn sn3, b1, q_ledgeAt hr hi c hc, e0, ↓reduceIte]
      · unfold f_X11_writesCell
        simp only [o0 m hm, ob_s, h48, a2, o1 m1 (a4.now.trans hm), h97, b2, jb_u, o2 m2 (k2.now.trans hm), e0, if_neg n01]
    · have e1 : w (21 + 7 * c) = 1 := el
      obtain ⟨ov3, m3, c1, c2, c3, c4⟩ := put_both b3 (by omega) 61 (by omega)
      have c1' : f_X5_put ov2 61 = some ov3 := c1
      have c2' : f_X11_put m2 (nI (p + 1 + 1)) 61 = some (nI (p + 1 + 1 + 1), m3) := c2
      refine ⟨p + 1 + 1 + 1, ov3, m3, by omega, ?_, ?_, c3, k2.tr c4⟩
      · unfold f_X5_putCell
        simp only [q_heightAt hr c hc, eh, ob_s, hh_ch hn hn9, a1, q_stoneAt hr c hc, es, ss_ch sn sn3, b1, q_ledgeAt hr hi c hc, e1, i10, ↓reduceIte, c1']
      · unfold f_X11_writesCell
        simp only [o0 m hm, ob_s, h48, a2, o1 m1 (a4.now.trans hm), h97, b2, jb_u, o2 m2 (k2.now.trans hm), e1, ↓reduceIte, c2']
  obtain ⟨p4, ov4, m4, d1, d2, d3, d4, d5⟩ : ∃ p4 ov4 m4, p4 ≤ p3 + 1 ∧ f_X5_putCell_J40 ov3 q (nI c) = f_X5_putCell_J54 ov4 q (nI c) ∧ f_X11_writesCell_J49 m3 (nI c) (nI p3) = f_X11_writesCell_J69 m4 (nI c) (nI p4) ∧ LnR p4 ov4 m4 ∧ KeptL m m4 := by
    obtain ⟨q1, q0⟩ := q_hasW hr wn c hw3 ew
    have en3 : mNow m3 5 = nI wn := by rw [l5.now, hm]; exact ew
    obtain ⟨r1, r0⟩ := m_hasW m3 wn c hw3 en3
    rw [l5.now, hm] at r1 r0
    by_cases hw : hasW w wn c
    · obtain ⟨ov4, m4, c1, c2, c3, c4⟩ := put_both l4 (by omega) 94 (by omega)
      have c1' : f_X5_put ov3 94 = some ov4 := c1
      have c2' : f_X11_put m3 (nI p3) 94 = some (nI (p3 + 1), m4) := c2
      refine ⟨p3 + 1, ov4, m4, by omega, ?_, ?_, c3, l5.tr c4⟩
      · unfold f_X5_putCell_J40
        simp only [q1 hw, ob_s, i10, ↓reduceIte, c1']
      · unfold f_X11_writesCell_J49
        simp only [r1 hw, ob_s, i10, ↓reduceIte, c2']
    · refine ⟨p3, ov3, m3, by omega, ?_, ?_, l4, l5⟩
      · unfold f_X5_putCell_J40
        simp only [q0 hw, ob_s, ↓reduceIte]
      · unfold f_X11_writesCell_J49
        simp only [r0 hw, ob_s, ↓reduceIte]
  obtain ⟨ov5, m5, e1, e2, e3, e4⟩ := dots hr c b hc hb3 eb b 0 p4 5000 ov4 m4 (by omega) (by omega) (by omega) d4 (d5.now.trans hm)
  have e1' : jbL (fun s : Int32 × OV => f_X5_putCell_L56 q (nI c) s.1 s.2) 5000 ((0 : Int32), ov4) = some (nI b, ov5) := e1
  have e2' : jbL (fun s : Int32 × Int32 × MV => f_X11_writesCell_L73 (nI c) s.1 s.2.1 s.2.2) 5000 (nI p4, (0 : Int32), m4) = some (nI (p4 + b), nI b, m5) := e2
  refine ⟨p4 + b, ov5, m5, by omega, ?_, ?_, e3, d5.tr e4⟩
  · rw [l2, d2]
    unfold f_X5_putCell_J54
    simp only [e1', ob_s]
  · rw [l3, d3]
    unfold f_X11_writesCell_J69
    simp only [e2', ob_s]
theorem cols {q : QV} {w : Nat → Int32} {t : Nat} (hr : RelQ q w) (hi : InvW t w) (y : Nat) (hy : y < 5) : ∀ (r k p f : Nat) (ov : OV) (m : MV), k + r = 6 → r < f → p ≤ 8 * k → LnR p ov m → mNow m = w →
    ∃ p' ov' m', p' ≤ 48 ∧ jbL (fun s : Int32 × OV => f_X5_write_L7 q (nI y) s.1 s.2) f (nI k, ov) = some (nI 6, ov') ∧ jbL (fun s : Int32 × Int32 × MV => f_X11_writeRow_L19 (nI y) s.1 s.2.1 s.2.2) f (nI p, nI k, m) = some (nI p', nI 6, m') ∧ LnR p' ov' m' ∧ KeptL m m' := by
  intro r
  induction r with
  | zero =>
    intro k p f ov m hk hf hp h hm
    obtain ⟨f, rfl⟩ : ∃ g, f = g + 1 := ⟨f - 1, by omega⟩
    have e : k = 6 := by omega
    subst e
    have h6 : (6 : Int32) ≤ nI 6 := Int32.le_refl _
    refine ⟨p, ov, m, by omega, jl_e ?_, jl_e ?_, h, KeptL.rf m⟩
    · show f_X5_write_L7 q (nI y) (nI 6) ov = _
      unfold f_X5_write_L7
      rw [if_pos h6]
    · show f_X11_writeRow_L19 (nI y) (nI p) (nI 6) m = _
      unfold f_X11_writeRow_L19
      rw [if_pos h6]
  | succ r ih =>
    intro k p f ov m hk hf hp h hm
    obtain ⟨f, rfl⟩ : ∃ g, f = g + 1 := ⟨f - 1, by omega⟩
    obtain ⟨g1, g2, g3, g4⟩ := g_cell y k hy (by omega)
    have h6 : ¬ (6 : Int32) ≤ nI k := nI_ge (a := k) (b := 6) (by omega) (by decide)
    have hm6 : (6 : Int32) * nI y + nI k = nI (6 * y + k) := by rw [show (6 : Int32) = nI 6 from rfl, nImul, nI_add]
    obtain ⟨p1, ov1, m1, b1, b2, b3, b4, b5⟩ : ∃ p1 ov1 m1, p1 ≤ 8 * k + 1 ∧ f_X5_write_L7 q (nI y) (nI k) ov = f_X5_write_J23 ov1 q (nI y) (nI k) ∧ f_X11_writeRow_L19 (nI y) (nI p) (nI k) m = f_X11_writeRow_J41 m1 (nI y) (nI k) (nI p1) ∧ LnR p1 ov1 m1 ∧ KeptL m m1 := by
      by_cases e0 : k = 0
      · subst e0
        have h0 : nI 0 ≤ (0 : Int32) := Int32.le_refl _
        have h00 : nI 0 = (0 : Int32) := rfl
        refine ⟨p, ov, m, by omega, ?_, ?_, h, KeptL.rf m⟩
        · unfold f_X5_write_L7
          rw [if_neg h6, if_pos h0]
        · unfold f_X11_writeRow_L19
          rw [if_neg h6, if_pos h00]
      · have h0 : ¬ nI k ≤ 0 := nI_nle (by omega) (by omega)
        have h00 : ¬ nI k = 0 := nI_ne0 (by omega) (by omega)
        obtain ⟨ov1, m1, c1, c2, c3, c4⟩ := put_both h (by omega) 32 (by omega)
        have c1' : f_X5_put ov 32 = some ov1 := c1
        have c2' : f_X11_put m (nI p) 32 = some (nI (p + 1), m1) := c2
        refine ⟨p + 1, ov1, m1, by omega, ?_, ?_, c3, c4⟩
        · unfold f_X5_write_L7
          rw [if_neg h6, if_neg h0, c1', Option.bind_some]
        · unfold f_X11_writeRow_L19
          rw [if_neg h6, if_neg h00, c2', Option.bind_some]
    obtain ⟨p2, ov2, m2, d1, d2, d3, d4, d5⟩ := cell_both hr hi (6 * y + k) p1 (by omega) (by omega) ov1 m1 b4 (b5.now.trans hm)
    obtain ⟨p3, ov3, m3, e0, e1, e2, e3, e4⟩ := ih (k + 1) p2 f ov2 m2 (by omega) (by omega) (by omega) d4 (d5.now.trans (b5.now.trans hm))
    refine ⟨p3, ov3, m3, e0, ?_, ?_, e3, (b5.tr d5).tr e4⟩
    · rw [jl_s (s' := (nI (k + 1), ov2))]
      · exact e1
      · show f_X5_write_L7 q (nI y) (nI k) ov = _
        rw [b2]
        unfold f_X5_write_J23
        simp only [g2, ob_s, d2, nI_1]
    · rw [jl_s (s' := (nI p2, nI (k + 1), m2))]
      · exact e2
      · show f_X11_writeRow_L19 (nI y) (nI p) (nI k) m = _
        rw [b3]
        unfold f_X11_writeRow_J41
        simp only [hm6, d3, ob_s, jb_u, nI_1]
theorem row_or (a : Int32) : (∃ y, y < 5 ∧ a = nI y ∧ f_X3_hasRow a = some 1 ∧ f_X11_isIn a 0 4 = some 1) ∨ (f_X3_hasRow a = some 0 ∧ f_X11_isIn a 0 4 = some 0) := by
  by_cases h1 : a < 0
  · right
    exact ⟨by unfold f_X3_hasRow; rw [if_pos h1], by unfold f_X11_isIn; rw [if_pos h1]⟩
  · by_cases h2 : (5 : Int32) ≤ a
    · right
      have h2' : (4 : Int32) < a := by rw [Int32.lt_iff_toInt_lt]; rw [Int32.le_iff_toInt_le] at h2; exact h2
      exact ⟨by unfold f_X3_hasRow; rw [if_neg h1, if_pos h2], by unfold f_X11_isIn; rw [if_neg h1, if_pos h2']⟩
    · obtain ⟨y, hy, rfl⟩ := nI_lt_of (n := 5) (by decide) h1 h2
      left
      have e1 := (by decide +kernel : ∀ r : Fin 5, f_X3_hasRow (nI r.val) = some 1) ⟨y, hy⟩
      have e2 := (by decide +kernel : ∀ r : Fin 5, f_X11_isIn (nI r.val) 0 4 = some 1) ⟨y, hy⟩
      exact ⟨y, hy, rfl, e1, e2⟩
theorem lb_40 {T : Nat} {S : Sys} (h : RelS T S) (a1 a2 a3 a4 : Int32) (ol : Nat → Int64) (od : Nat → UInt64) : ∃ r, lawOp_40 S a1 a2 a3 a4 ol od = some r ∧ RelS (T + 1) r.1 := by
  rcases row_or a1 with ⟨y, hy, rfl, h1, h2⟩ | ⟨h1, h2⟩
  · have hk0 : KeptL S.mv (mSThrown 0 S.mv) ∨ True := Or.inr trivial
    have e0 : mNow (mSThrown 0 S.mv) = mNow S.mv := mN2 _ _
    obtain ⟨p, ov', m', b0, b1, b2, b3, b4⟩ := cols h.q h.w y hy 6 0 0 5000 (oSLength 0 S.ov) (mSThrown 0 S.mv) (by omega) (by omega) (by omega) ⟨rfl, fun k hk => absurd hk (Nat.not_lt_zero _)⟩ e0
    have b1' : jbL (fun s : Int32 × OV => f_X5_write_L7 S.qv (nI y) s.1 s.2) 5000 ((0 : Int32), oSLength 0 S.ov) = some (nI 6, ov') := b1
    have b2' : jbL (fun s : Int32 × Int32 × MV => f_X11_writeRow_L19 (nI y) s.1 s.2.1 s.2.2) 5000 ((0 : Int32), (0 : Int32), mSThrown 0 S.mv) = some (nI p, nI 6, m') := b2
    have hL : f_L_writeRow (none, S.ep, S.fc) S.qv S.ov (nI y) ol = some (0, vp_updL ol (0 : Int32).toNatClampNeg (nI p).toInt64, ov') := by
      unfold f_L_writeRow f_X10_writeRow f_X5_write
      simp only [h1, ob_s, i10, ↓reduceIte, jb_u, b1', b3.1, jm_r]
    have hM : f_X11_writeRow S.mv (nI y) = some (nI p, mSLined (nI p) m') := by
      unfold f_X11_writeRow
      simp only [h2, ob_s, m_goes0, i10, ↓reduceIte, b2', jb_u]
    have t0 : mThrown (mSLined (nI p) m') = 0 := by
      have : mThrown (mSLined (nI p) m') = mThrown m' := by simp only [mg13_0, mg13_1, mg13_2, mg13_3, mg13_4, mg13_5, mg13_6, mg13_7, mg13_8, mg13_9, mg13_10, mg13_11, mg13_12, mg13_13, mg13_14, mg13_15, mg13_16, mg13_17, mg13_18]
      rw [this, b4.thr]
      simp only [mg13_0, mg13_1, mg13_2, mg13_3, mg13_4, mg13_5, mg13_6, mg13_7, mg13_8, mg13_9, mg13_10, mg13_11, mg13_12, mg13_13, mg13_14, mg13_15, mg13_16, mg13_17, mg13_18]
    refine ⟨(mkS S.ep S.fc S.qv S.bv S.sv S.hv S.pv ov' S.svd (mSLined (nI p) m'), vp_updL ol (0 : Int32).toNatClampNeg (nI p).toInt64, od), ?_, ?_⟩
    · unfold lawOp_40
      simp only [hL, hM, ob_s, th_u, t0, ↓reduceIte, uL0]
    · have f0 : mNow (mSLined (nI p) m') = mNow S.mv := by simp only [mg0_0, mg0_1, mg0_2, mg0_3, mg0_4, mg0_5, mg0_6, mg0_7, mg0_8, mg0_9, mg0_10, mg0_11, mg0_12, mg0_13, mg0_14, mg0_15, mg0_16, mg0_17, mg0_18]; rw [b4.now]; exact e0
      have f1 : mHistory (mSLined (nI p) m') = mHistory S.mv := by simp only [mg3_0, mg3_1, mg3_2, mg3_3, mg3_4, mg3_5, mg3_6, mg3_7, mg3_8, mg3_9, mg3_10, mg3_11, mg3_12, mg3_13, mg3_14, mg3_15, mg3_16, mg3_17, mg3_18]; rw [b4.hist]; simp only [mg3_0, mg3_1, mg3_2, mg3_3, mg3_4, mg3_5, mg3_6, mg3_7, mg3_8, mg3_9, mg3_10, mg3_11, mg3_12, mg3_13, mg3_14, mg3_15, mg3_16, mg3_17, mg3_18]
      have f2 : mRemembered (mSLined (nI p) m') = mRemembered S.mv := by simp only [mg5_0, mg5_1, mg5_2, mg5_3, mg5_4, mg5_5, mg5_6, mg5_7, mg5_8, mg5_9, mg5_10, mg5_11, mg5_12, mg5_13, mg5_14, mg5_15, mg5_16, mg5_17, mg5_18]; rw [b4.rem]; simp only [mg5_0, mg5_1, mg5_2, mg5_3, mg5_4, mg5_5, mg5_6, mg5_7, mg5_8, mg5_9, mg5_10, mg5_11, mg5_12, mg5_13, mg5_14, mg5_15, mg5_16, mg5_17, mg5_18]
      have f3 : mErrorAt (mSLined (nI p) m') = mErrorAt S.mv := by simp only [mg6_0, mg6_1, mg6_2, mg6_3, mg6_4, mg6_5, mg6_6, mg6_7, mg6_8, mg6_9, mg6_10, mg6_11, mg6_12, mg6_13, mg6_14, mg6_15, mg6_16, mg6_17, mg6_18]; rw [b4.err]; simp only [mg6_0, mg6_1, mg6_2, mg6_3, mg6_4, mg6_5, mg6_6, mg6_7, mg6_8, mg6_9, mg6_10, mg6_11, mg6_12, mg6_13, mg6_14, mg6_15, mg6_16, mg6_17, mg6_18]
      have f4 : mFailedAt (mSLined (nI p) m') = mFailedAt S.mv := by simp only [mg7_0, mg7_1, mg7_2, mg7_3, mg7_4, mg7_5, mg7_6, mg7_7, mg7_8, mg7_9, mg7_10, mg7_11, mg7_12, mg7_13, mg7_14, mg7_15, mg7_16, mg7_17, mg7_18]; rw [b4.fail]; simp only [mg7_0, mg7_1, mg7_2, mg7_3, mg7_4, mg7_5, mg7_6, mg7_7, mg7_8, mg7_9, mg7_10, mg7_11, mg7_12, mg7_13, mg7_14, mg7_15, mg7_16, mg7_17, mg7_18]
      have f5 : mText (mSLined (nI p) m') = mText S.mv := by simp only [mg9_0, mg9_1, mg9_2, mg9_3, mg9_4, mg9_5, mg9_6, mg9_7, mg9_8, mg9_9, mg9_10, mg9_11, mg9_12, mg9_13, mg9_14, mg9_15, mg9_16, mg9_17, mg9_18]; rw [b4.text]; simp only [mg9_0, mg9_1, mg9_2, mg9_3, mg9_4, mg9_5, mg9_6, mg9_7, mg9_8, mg9_9, mg9_10, mg9_11, mg9_12, mg9_13, mg9_14, mg9_15, mg9_16, mg9_17, mg9_18]
      have f6 : mTyped (mSLined (nI p) m') = mTyped S.mv := by simp only [mg10_0, mg10_1, mg10_2, mg10_3, mg10_4, mg10_5, mg10_6, mg10_7, mg10_8, mg10_9, mg10_10, mg10_11, mg10_12, mg10_13, mg10_14, mg10_15, mg10_16, mg10_17, mg10_18]; rw [b4.typed]; simp only [mg10_0, mg10_1, mg10_2, mg10_3, mg10_4, mg10_5, mg10_6, mg10_7, mg10_8, mg10_9, mg10_10, mg10_11, mg10_12, mg10_13, mg10_14, mg10_15, mg10_16, mg10_17, mg10_18]
      have f7 : mIsSaved (mSLined (nI p) m') = mIsSaved S.mv := by simp only [mg4_0, mg4_1, mg4_2, mg4_3, mg4_4, mg4_5, mg4_6, mg4_7, mg4_8, mg4_9, mg4_10, mg4_11, mg4_12, mg4_13, mg4_14, mg4_15, mg4_16, mg4_17, mg4_18]; rw [b4.isSaved]; simp only [mg4_0, mg4_1, mg4_2, mg4_3, mg4_4, mg4_5, mg4_6, mg4_7, mg4_8, mg4_9, mg4_10, mg4_11, mg4_12, mg4_13, mg4_14, mg4_15, mg4_16, mg4_17, mg4_18]
      have f8 : mSaved (mSLined (nI p) m') = mSaved S.mv := by simp only [mg2_0, mg2_1, mg2_2, mg2_3, mg2_4, mg2_5, mg2_6, mg2_7, mg2_8, mg2_9, mg2_10, mg2_11, mg2_12, mg2_13, mg2_14, mg2_15, mg2_16, mg2_17, mg2_18]; rw [b4.saved]; simp only [mg2_0, mg2_1, mg2_2, mg2_3, mg2_4, mg2_5, mg2_6, mg2_7, mg2_8, mg2_9, mg2_10, mg2_11, mg2_12, mg2_13, mg2_14, mg2_15, mg2_16, mg2_17, mg2_18]
      have f9 : mLined (mSLined (nI p) m') = nI p := by simp only [mg12_0, mg12_1, mg12_2, mg12_3, mg12_4, mg12_5, mg12_6, mg12_7, mg12_8, mg12_9, mg12_10, mg12_11, mg12_12, mg12_13, mg12_14, mg12_15, mg12_16, mg12_17, mg12_18]
      have f10 : mLine (mSLined (nI p) m') = mLine m' := by simp only [mg11_0, mg11_1, mg11_2, mg11_3, mg11_4, mg11_5, mg11_6, mg11_7, mg11_8, mg11_9, mg11_10, mg11_11, mg11_12, mg11_13, mg11_14, mg11_15, mg11_16, mg11_17, mg11_18]
      have ho : ORel ov' (mSLined (nI p) m') := ⟨p, b0, b3.1, f9, fun k hk => by rw [f10]; exact b3.2 k hk⟩
      generalize mSLined (nI p) m' = m9 at *
      exact RelS.mk (f_q := by show RelQ S.qv (mNow m9); rw [f0]; exact h.q)
        (f_w := by show InvW _ (mNow m9); rw [f0]; exact h.w.up (by omega))
        (f_h := (h.h.up (show 20 * T ≤ 20 * (T + 1) by omega)).kept f1 f2)
        (f_e := f3.trans h.e) (f_f := f4.trans h.f) (f_t := h.t.kept f5 f6) (f_o := ho)
        (f_v := (h.v.up (show 20 * T ≤ 20 * (T + 1) by omega)).kept f7 f8)
  · have hL : f_L_writeRow (none, S.ep, S.fc) S.qv S.ov a1 ol = some (1, ol, S.ov) := by
      unfold f_L_writeRow f_X10_writeRow
      simp only [h1, ob_s, ↓reduceIte, jm_l]
    have hM : f_X11_writeRow S.mv a1 = some (0, mSThrown 1 S.mv) := by
      unfold f_X11_writeRow
      simp only [h2, ob_s, m_goes1, ↓reduceIte]
    have t1 : mThrown (mSThrown 1 S.mv) = 1 := by simp only [mg13_0, mg13_1, mg13_2, mg13_3, mg13_4, mg13_5, mg13_6, mg13_7, mg13_8, mg13_9, mg13_10, mg13_11, mg13_12, mg13_13, mg13_14, mg13_15, mg13_16, mg13_17, mg13_18]
    refine ⟨(mkS S.ep S.fc S.qv S.bv S.sv S.hv S.pv S.ov S.svd (mSThrown 1 S.mv), ol, od), ?_, h.kept (sv' := S.sv) (Kept.thrown _ _)⟩
    unfold lawOp_40
    simp only [hL, hM, ob_s, th_u, t1, i10, ↓reduceIte]
theorem ask_out {S : Sys} {T : Nat} (h : RelS T S) (tv : TV) (a : Int32) : Ask [0] (f_X10_outputAt tv S.ov a) (f_X11_outputAt S.mv a) S.mv := by
  obtain ⟨n, hn, e1, e2, hk⟩ := h.o
  by_cases h1 : a < 0
  · right
    refine ⟨0, 0, 0, mSThrown 1 S.mv, ?_, by omega, rfl, ?_, Kept.thrown _ _, rfl⟩
    · unfold f_X10_outputAt f_X5_hasSign
      simp only [if_pos h1, ob_s, ↓reduceIte]
    · unfold f_X11_outputAt f_X11_isIn
      have hz : vp_nar .char (0 : Int32) = 0 := by decide +kernel
      simp only [if_pos h1, ob_s, m_goes1, ↓reduceIte, hz]
  · by_cases h2 : nI n ≤ a
    · right
      refine ⟨0, 0, 0, mSThrown 1 S.mv, ?_, by omega, rfl, ?_, Kept.thrown _ _, rfl⟩
      · unfold f_X10_outputAt f_X5_hasSign
        simp only [if_neg h1, e1, if_pos h2, ob_s, ↓reduceIte]
      · have h3 : nI n - 1 < a := by
          have h4 : (nI n - 1).toInt = (n : Int) - 1 := by
            rw [Int32.toInt_sub, nI_toInt (by omega), show (1 : Int32).toInt = 1 from rfl, Int.bmod_eq_of_le (by omega) (by omega)]
          rw [Int32.lt_iff_toInt_lt, h4]
          rw [Int32.le_iff_toInt_le, nI_toInt (by omega)] at h2
          omega
        unfold f_X11_outputAt f_X11_isIn
        have hz : vp_nar .char (0 : Int32) = 0 := by decide +kernel
        simp only [if_neg h1, e2, if_pos h3, ob_s, m_goes1, ↓reduceIte, hz]
    · obtain ⟨j, hj, rfl⟩ := nI_lt_of (by omega) h1 h2
      obtain ⟨p1, x, hx, p2⟩ := hk j hj
      have hl : (nI j).toNatClampNeg = j := nI_clamp (by omega)
      have hj48 : jIn (nI j) 48 := nIin (by omega) (by decide)
      have hj60 : jIn (nI j) 60 := nIin (by omega) (by decide)
      have h3 : ¬ nI n - 1 < nI j := by
        rw [show (1 : Int32) = nI 1 from rfl, nIsub (by omega)]
        exact nI_nlt (by omega) (by omega)
      have e3 : mLine (mSThrown 0 S.mv) j = nI x := by
        have : mLine (mSThrown 0 S.mv) = mLine S.mv := by simp only [mg11_0, mg11_1, mg11_2, mg11_3, mg11_4, mg11_5, mg11_6, mg11_7, mg11_8, mg11_9, mg11_10, mg11_11, mg11_12, mg11_13, mg11_14, mg11_15, mg11_16, mg11_17, mg11_18]
        rw [this, p2]
      left
      refine ⟨nI x, mSThrown 0 S.mv, ?_, ?_, Kept.thrown _ _, rfl⟩
      · unfold f_X10_outputAt f_X5_hasSign f_X5_signAt
        simp only [if_neg h1, e1, if_neg h2, ob_s, i10, ↓reduceIte, if_pos hj48, hl, p1, p2, nar_ch x hx]
      · unfold f_X11_outputAt f_X11_isIn
        simp only [if_neg h1, e2, if_neg h3, ob_s, m_goes0, i10, ↓reduceIte, if_pos hj60, hl, e3, ch_id x hx, nar_ch x hx]
theorem lb_41 {T : Nat} {S : Sys} (h : RelS T S) (a1 a2 a3 a4 : Int32) (ol : Nat → Int64) (od : Nat → UInt64) : ∃ r, lawOp_41 S a1 a2 a3 a4 ol od = some r ∧ RelS (T + 1) r.1 := by
  refine lb_ask h [0] (f_X10_outputAt (none, S.ep, S.fc) S.ov a1) (f_X11_outputAt S.mv a1) (ask_out h _ a1) (f_L_outputAt (none, S.ep, S.fc) S.ov a1 ol) ol od (fun r h1 => ?_) (fun k c h1 hc hex => ?_)
  · unfold f_L_outputAt
    simp only [h1, ob_s, jm_r]
  · unfold f_L_outputAt
    simp only [h1, ob_s, jm_l]
    rcases (show c = 0 ∨ c = 1 ∨ c = 2 ∨ c = 3 by omega) with rfl | rfl | rfl | rfl <;> (simp at hex) <;> (subst hex; rfl)
/-! ===== append ===== -/
theorem chr_or (a : Int32) : ∃ y, y < 65536 ∧ (a.toUInt32 % 65536).toInt32 = nI y := by
  refine ⟨(a.toUInt32 % 65536).toNat, ?_, ?_⟩
  · rw [UInt32.toNat_mod]
    exact Nat.mod_lt _ (by decide)
  · show (a.toUInt32 % 65536).toInt32 = Int32.ofNat (a.toUInt32 % 65536).toNat
    generalize a.toUInt32 % 65536 = u
    show Int32.ofUInt32 u = Int32.ofUInt32 (UInt32.ofNat u.toNat)
    rw [UInt32.ofNat_toNat]
theorem TRel.app {pv : PV} {m m' : MV} {n x : Nat} (hn : n < 60) (e1 : pLength pv = nI n) (ht : ∀ k, k < n → pText pv k = mText m k ∧ ∃ x, x < 65536 ∧ mText m k = nI x) (hx : x < 65536) (f1 : mText m' = upd (mText m) n (nI x)) (f2 : mTyped m' = nI (n + 1)) : TRel (upd (pText pv) n (nI x), nI (n + 1)) m' := by
  refine ⟨n + 1, by omega, rfl, f2, fun k hk => ?_⟩
  rw [f1]
  show upd (pText pv) n (nI x) k = upd (mText m) n (nI x) k ∧ ∃ y, y < 65536 ∧ upd (mText m) n (nI x) k = nI y
  by_cases e : k = n
  · subst e
    rw [upd_at, upd_at]
    exact ⟨rfl, x, hx, rfl⟩
  · rw [upd_ne _ _ e, upd_ne _ _ e]
    exact ht k (by omega)
theorem lb_36 {T : Nat} {S : Sys} (h : RelS T S) (a1 a2 a3 a4 : Int32) (ol : Nat → Int64) (od : Nat → UInt64) : ∃ r, lawOp_36 S a1 a2 a3 a4 ol od = some r ∧ RelS (T + 1) r.1 := by
  obtain ⟨y, hy, ey⟩ := chr_or a1
  have hnar : vp_nar .char (nI y) = nI y := by rw [← ey]; exact pk_vc a1
  obtain ⟨n, hn, e1, e2, ht⟩ := h.t
  unfold lawOp_36
  rw [ey]
  by_cases hf : n < 60
  · have hlt : pLength S.pv < 60 := by rw [e1]; exact nI_lt (a := n) (b := 60) hf (by decide)
    have hle : ¬ (60 : Int32) ≤ mTyped S.mv := by rw [e2]; exact nI_ge (a := n) (b := 60) hf (by decide)
    have hj : jIn (nI n) 60 := nIin hf (by decide)
    have hl : (nI n).toNatClampNeg = n := nI_clamp (by omega)
    have hL : f_L_append (none, S.ep, S.fc) S.pv (nI y) ol = some (0, vp_updL ol (0 : Int32).toNatClampNeg (nI (n + 1)).toInt64, (upd (pText S.pv) n (nI y), nI (n + 1))) := by
      have ha : f_X6_add S.pv (nI y) = some (nI (n + 1), (upd (pText S.pv) n (nI y), nI (n + 1))) := by
        unfold f_X6_add
        simp only [e1, if_pos hj, hl, hnar, jb_u]
        show some (pLength S.pv + 1, (upd (pText S.pv) n (nI y), pLength S.pv + 1)) = _
        rw [e1, nI_1]
      unfold f_L_append f_X10_append f_X6_isFull
      simp only [if_pos hlt, ob_s, ↓reduceIte, ha, jm_r]
    have t0 : mTyped (mSThrown 0 S.mv) = nI n := by
      have : mTyped (mSThrown 0 S.mv) = mTyped S.mv := by simp only [mg10_0, mg10_1, mg10_2, mg10_3, mg10_4, mg10_5, mg10_6, mg10_7, mg10_8, mg10_9, mg10_10, mg10_11, mg10_12, mg10_13, mg10_14, mg10_15, mg10_16, mg10_17, mg10_18]
      rw [this, e2]
    have t1 : mText (mSThrown 0 S.mv) = mText S.mv := by simp only [mg9_0, mg9_1, mg9_2, mg9_3, mg9_4, mg9_5, mg9_6, mg9_7, mg9_8, mg9_9, mg9_10, mg9_11, mg9_12, mg9_13, mg9_14, mg9_15, mg9_16, mg9_17, mg9_18]
    have t2 : mTyped (mSText (upd (mText S.mv) n (nI y)) (mSThrown 0 S.mv)) = nI n := by
      have : mTyped (mSText (upd (mText S.mv) n (nI y)) (mSThrown 0 S.mv)) = mTyped (mSThrown 0 S.mv) := by simp only [mg10_0, mg10_1, mg10_2, mg10_3, mg10_4, mg10_5, mg10_6, mg10_7, mg10_8, mg10_9, mg10_10, mg10_11, mg10_12, mg10_13, mg10_14, mg10_15, mg10_16, mg10_17, mg10_18]
      rw [this, t0]
    have f6 : mTyped (mSTyped (nI (n + 1)) (mSText (upd (mText S.mv) n (nI y)) (mSThrown 0 S.mv))) = nI (n + 1) := by simp only [mg10_0, mg10_1, mg10_2, mg10_3, mg10_4, mg10_5, mg10_6, mg10_7, mg10_8, mg10_9, mg10_10, mg10_11, mg10_12, mg10_13, mg10_14, mg10_15, mg10_16, mg10_17, mg10_18]
    have hM : f_X11_append S.mv (nI y) = some (nI (n + 1), mSTyped (nI (n + 1)) (mSText (upd (mText S.mv) n (nI y)) (mSThrown 0 S.mv))) := by
      unfold f_X11_append f_X11_append_J15
      rw [if_neg hle, m_goes0, Option.bind_some]
      simp only [i10, ↓reduceIte, t0, if_pos hj, hl, t1, jb_u, t2, nI_1, f6]
    have f0 : mNow (mSTyped (nI (n + 1)) (mSText (upd (mText S.mv) n (nI y)) (mSThrown 0 S.mv))) = mNow S.mv := by simp only [mg0_0, mg0_1, mg0_2, mg0_3, mg0_4, mg0_5, mg0_6, mg0_7, mg0_8, mg0_9, mg0_10, mg0_11, mg0_12, mg0_13, mg0_14, mg0_15, mg0_16, mg0_17, mg0_18]
    have f1 : mHistory (mSTyped (nI (n + 1)) (mSText (upd (mText S.mv) n (nI y)) (mSThrown 0 S.mv))) = mHistory S.mv := by simp only [mg3_0, mg3_1, mg3_2, mg3_3, mg3_4, mg3_5, mg3_6, mg3_7, mg3_8, mg3_9, mg3_10, mg3_11, mg3_12, mg3_13, mg3_14, mg3_15, mg3_16, mg3_17, mg3_18]
    have f2 : mRemembered (mSTyped (nI (n + 1)) (mSText (upd (mText S.mv) n (nI y)) (mSThrown 0 S.mv))) = mRemembered S.mv := by simp only [mg5_0, mg5_1, mg5_2, mg5_3, mg5_4, mg5_5, mg5_6, mg5_7, mg5_8, mg5_9, mg5_10, mg5_11, mg5_12, mg5_13, mg5_14, mg5_15, mg5_16, mg5_17, mg5_18]
    have f3 : mErrorAt (mSTyped (nI (n + 1)) (mSText (upd (mText S.mv) n (nI y)) (mSThrown 0 S.mv))) = mErrorAt S.mv := by simp only [mg6_0, mg6_1, mg6_2, mg6_3, mg6_4, mg6_5, mg6_6, mg6_7, mg6_8, mg6_9, mg6_10, mg6_11, mg6_12, mg6_13, mg6_14, mg6_15, mg6_16, mg6_17, mg6_18]
    have f4 : mFailedAt (mSTyped (nI (n + 1)) (mSText (upd (mText S.mv) n (nI y)) (mSThrown 0 S.mv))) = mFailedAt S.mv := by simp only [mg7_0, mg7_1, mg7_2, mg7_3, mg7_4, mg7_5, mg7_6, mg7_7, mg7_8, mg7_9, mg7_10, mg7_11, mg7_12, mg7_13, mg7_14, mg7_15, mg7_16, mg7_17, mg7_18]
    have f5 : mText (mSTyped (nI (n + 1)) (mSText (upd (mText S.mv) n (nI y)) (mSThrown 0 S.mv))) = upd (mText S.mv) n (nI y) := by simp only [mg9_0, mg9_1, mg9_2, mg9_3, mg9_4, mg9_5, mg9_6, mg9_7, mg9_8, mg9_9, mg9_10, mg9_11, mg9_12, mg9_13, mg9_14, mg9_15, mg9_16, mg9_17, mg9_18]
    have f7 : mLine (mSTyped (nI (n + 1)) (mSText (upd (mText S.mv) n (nI y)) (mSThrown 0 S.mv))) = mLine S.mv := by simp only [mg11_0, mg11_1, mg11_2, mg11_3, mg11_4, mg11_5, mg11_6, mg11_7, mg11_8, mg11_9, mg11_10, mg11_11, mg11_12, mg11_13, mg11_14, mg11_15, mg11_16, mg11_17, mg11_18]
    have f8 : mLined (mSTyped (nI (n + 1)) (mSText (upd (mText S.mv) n (nI y)) (mSThrown 0 S.mv))) = mLined S.mv := by simp only [mg12_0, mg12_1, mg12_2, mg12_3, mg12_4, mg12_5, mg12_6, mg12_7, mg12_8, mg12_9, mg12_10, mg12_11, mg12_12, mg12_13, mg12_14, mg12_15, mg12_16, mg12_17, mg12_18]
    have f9 : mIsSaved (mSTyped (nI (n + 1)) (mSText (upd (mText S.mv) n (nI y)) (mSThrown 0 S.mv))) = mIsSaved S.mv := by simp only [mg4_0, mg4_1, mg4_2, mg4_3, mg4_4, mg4_5, mg4_6, mg4_7, mg4_8, mg4_9, mg4_10, mg4_11, mg4_12, mg4_13, mg4_14, mg4_15, mg4_16, mg4_17, mg4_18]
    have f10 : mSaved (mSTyped (nI (n + 1)) (mSText (upd (mText S.mv) n (nI y)) (mSThrown 0 S.mv))) = mSaved S.mv := by simp only [mg2_0, mg2_1, mg2_2, mg2_3, mg2_4, mg2_5, mg2_6, mg2_7, mg2_8, mg2_9, mg2_10, mg2_11, mg2_12, mg2_13, mg2_14, mg2_15, mg2_16, mg2_17, mg2_18]
    have f11 : mThrown (mSTyped (nI (n + 1)) (mSText (upd (mText S.mv) n (nI y)) (mSThrown 0 S.mv))) = 0 := by simp only [mg13_0, mg13_1, mg13_2, mg13_3, mg13_4, mg13_5, mg13_6, mg13_7, mg13_8, mg13_9, mg13_10, mg13_11, mg13_12, mg13_13, mg13_14, mg13_15, mg13_16, mg13_17, mg13_18]
    generalize mSTyped (nI (n + 1)) (mSText (upd (mText S.mv) n (nI y)) (mSThrown 0 S.mv)) = m9 at *
    refine ⟨(mkS S.ep S.fc S.qv S.bv S.sv S.hv (upd (pText S.pv) n (nI y), nI (n + 1)) S.ov S.svd m9, vp_updL ol (0 : Int32).toNatClampNeg (nI (n + 1)).toInt64, od), ?_, ?_⟩
    · simp only [hL, hM, ob_s, th_u, f11, ↓reduceIte, uL0]
    · exact RelS.mk (f_q := by show RelQ S.qv (mNow m9); rw [f0]; exact h.q)
        (f_w := by show InvW _ (mNow m9); rw [f0]; exact h.w.up (by omega))
        (f_h := (h.h.up (show 20 * T ≤ 20 * (T + 1) by omega)).kept f1 f2)
        (f_e := f3.trans h.e) (f_f := f4.trans h.f) (f_t := TRel.app hf e1 ht hy f5 f6) (f_o := h.o.kept f7 f8)
        (f_v := (h.v.up (show 20 * T ≤ 20 * (T + 1) by omega)).kept f9 f10)
  · have en : n = 60 := by omega
    subst en
    have hlt : ¬ pLength S.pv < 60 := by rw [e1]; exact nI_nlt (a := 60) (b := 60) (Nat.le_refl _) (by decide)
    have hle : (60 : Int32) ≤ mTyped S.mv := by rw [e2]; exact Int32.le_refl _
    have hL : f_L_append (none, S.ep, S.fc) S.pv (nI y) ol = some (1, ol, S.pv) := by
      unfold f_L_append f_X10_append f_X6_isFull
      simp only [if_neg hlt, ob_s, i10, ↓reduceIte, jm_l]
    have hM : f_X11_append S.mv (nI y) = some (0, mSThrown 1 S.mv) := by
      unfold f_X11_append f_X11_append_J15
      rw [if_pos hle, m_goes1, Option.bind_some]
      simp only [↓reduceIte]
    have t1 : mThrown (mSThrown 1 S.mv) = 1 := by simp only [mg13_0, mg13_1, mg13_2, mg13_3, mg13_4, mg13_5, mg13_6, mg13_7, mg13_8, mg13_9, mg13_10, mg13_11, mg13_12, mg13_13, mg13_14, mg13_15, mg13_16, mg13_17, mg13_18]
    refine ⟨(mkS S.ep S.fc S.qv S.bv S.sv S.hv S.pv S.ov S.svd (mSThrown 1 S.mv), ol, od), ?_, h.kept (sv' := S.sv) (Kept.thrown _ _)⟩
    simp only [hL, hM, ob_s, th_u, t1, i10, ↓reduceIte]
