/-! ===== run: reading ===== -/
theorem bd_id {α : Type} (o : Option α) : (o.bind fun x => some x) = o := by cases o <;> rfl
theorem jl_b {σ ρ : Type} {body : σ → Option (Sum σ ρ)} {f : Nat} {s : σ} {A : Option σ} (h : body s = A.bind fun o => some (.inl o)) : jbL body (f + 1) s = A.bind fun o => jbL body f o := by
  (try simp only [ob_s, jb_u, ↓reduceIte, i10, n06, n16, n26, n36, n46, n56, n10])
  show (body s).bind _ = _
  rw [h]
  cases A <;> rfl
theorem semi (x : Int32) : (x = 59 → f_X11_isIn x 59 59 = some 1) ∧ (¬ x = 59 → f_X11_isIn x 59 59 = some 0) := by
  constructor
  · intro h
    subst h
    decide +kernel
  · intro h
    unfold f_X11_isIn
    by_cases h1 : x < 59
    · rw [if_pos h1]
    · by_cases h2 : 59 < x
      · rw [if_neg h1, if_pos h2]
      · refine absurd ?_ h
        rw [Int32.lt_iff_toInt_lt] at h1 h2
        apply Int32.toInt_inj.mp
        omega
theorem m_semi {m : MV} {n q : Nat} (hn : n ≤ 60) (hsz : mSize m = nI n) (hsp : mSpot m = nI q) (hw : mWrong m = -1) (hq : q < n) : (mText m q = 59 → ∃ v, f_X11_reads m 59 59 = some (v, mSSpot (nI (q + 1)) m)) ∧ (¬ mText m q = 59 → f_X11_reads m 59 59 = some (0, mSWrong (nI q) m)) := by
  have hle : ¬ nI n ≤ nI q := nI_ge hq (by omega)
  have hj : jIn (nI q) 60 := nIin (by omega) (by decide)
  have hcl : (nI q).toNatClampNeg = q := nI_clamp (by omega)
  have hlet : f_X11_letterHere m = some (mText m q) := by
    unfold f_X11_letterHere
    simp only [hsz, hsp, if_neg hle, if_pos hj, hcl]
  obtain ⟨s1, s0⟩ := semi (mText m q)
  constructor
  · intro h
    have hsp2 : mSpot (mSSpot (nI (q + 1)) m) = nI (q + 1) := mg15_15 m _
    have e2 : nI (q + 1) - 1 = nI q := nI_pred q
    refine ⟨mText (mSSpot (nI (q + 1)) m) q - 59, ?_⟩
    unfold f_X11_reads
    simp only [hw, ↓reduceIte, hlet, ob_s, s1 h, i10, hsp, nI_1, jb_u, hsp2, e2, if_pos hj, hcl]
  · intro h
    unfold f_X11_reads f_X11_reads_J44 f_X11_reads_J64
    simp only [hw, ↓reduceIte, hlet, ob_s, s0 h, hsp, jb_u]
theorem nI_n60 (t : Nat) (h : t ≤ 9) : ¬ (60 : Int32) < nI t := nI_nlt (a := 60) (b := t) (by omega) (by decide)
theorem read_both {pv : PV} {n : Nat} (e1 : pLength pv = nI n) (hn : n ≤ 60) : ∀ (f p t : Nat) (m : MV) (L : List CV), mSize m = nI n → mSpot m = nI p → mWrong m = -1 → mTold m = nI t → L.length = t → 7 * t ≤ p → p ≤ n → n < p + f → (∀ k, k < n → pText pv k = mText m k) → (∀ i c, L[i]? = some c → ∃ w, CmdR w c (mNumbers m) (5 * i)) →
    ∃ res L' m', jbL (fun s : Int32 × Int32 × List CV => f_X6_read_L pv s.1 s.2.1 s.2.2) f (nI p, nI t, L) = some (res, L') ∧ ((f_X11_readsCommand m).bind fun m1 => jbL (fun s => f_X11_readsAll_L32 s) f m1) = some m' ∧ KeptR m m' ∧ ((∃ e, e ≤ 60 ∧ res = nI e ∧ mWrong m' = nI e) ∨ (res = -1 ∧ mWrong m' = -1 ∧ mTold m' = nI L'.length ∧ L'.length ≤ 9 ∧ ∀ i c, L'[i]? = some c → ∃ w, CmdR w c (mNumbers m') (5 * i))) := by
  intro f
  induction f with
  | zero => intro p t m L _ _ _ _ _ _ h1 h2; omega
  | succ f ih =>
    intro p t m L hsz hsp hwr htd hLt h7 hpn hf hXY hcm
    have ht8 : t ≤ 8 := by omega
    have h60 := nI_n60 t (by omega)
    rcases parse1 e1 hn hsz hsp hwr htd (by omega) hpn hXY with ⟨e, m1, he, hen, v1, v2, c1, kp, hw⟩ | ⟨w, cv, q, m1, hw8, v1, v2, hq6, hqn, c1, kp, hw, hs1, ht1, hcr, hfr⟩
    · have hne : ¬ mWrong m1 = -1 := by rw [hw]; exact nI_nm1 _ (by omega)
      refine ⟨nI e, L, m1, jl_e ?_, ?_, kp, Or.inl ⟨e, by omega, rfl, hw⟩⟩
      · show f_X6_read_L pv (nI p) (nI t) L = _
        have hpe : nI p + nI (e - p) = nI e := by rw [nI_add, show p + (e - p) = e by omega]
        unfold f_X6_read_L
        simp only [if_neg h60, v1, ob_s, v2, hpe]
      · rw [c1, Option.bind_some]
        refine jl_e ?_
        unfold f_X11_readsAll_L32
        rw [if_neg hne]
    · have h10 : L.length < 10 := by omega
      have hsz1 : mSize m1 = nI n := kp.size.trans hsz
      have hcm1 : ∀ i c, (L ++ [cv])[i]? = some c → ∃ w, CmdR w c (mNumbers m1) (5 * i) := fun i c hic => by
        have hil := (List.getElem?_eq_some_iff.mp hic).1
        rw [List.length_append, List.length_singleton] at hil
        by_cases e : i = L.length
        · subst e
          rw [List.getElem?_append_right (Nat.le_refl _), Nat.sub_self] at hic
          cases hic
          rw [hLt]
          exact ⟨w, hcr⟩
        · rw [List.getElem?_append_left (by omega)] at hic
          obtain ⟨w2, hw2⟩ := hcm i c hic
          exact ⟨w2, hw2.cong (fun j hj => hfr j (by omega))⟩
      have hlen1 : (L ++ [cv]).length = t + 1 := by rw [List.length_append, List.length_singleton, hLt]
      by_cases hend : n ≤ q
      · have hle : nI n ≤ nI q := nI_le hend (by omega)
        refine ⟨-1, L ++ [cv], m1, jl_e ?_, ?_, kp, Or.inr ⟨rfl, hw, by rw [ht1, hlen1], by omega, hcm1⟩⟩
        · show f_X6_read_L pv (nI p) (nI t) L = _
          unfold f_X6_read_L
          simp only [if_neg h60, v1, ob_s, if_pos h10, v2, e1, if_pos hle]
        · rw [c1, Option.bind_some]
          refine jl_e ?_
          unfold f_X11_readsAll_L32
          rw [if_pos hw, hsz1, hs1, if_pos hle]
      · have hqn2 : q < n := by omega
        have hle : ¬ nI n ≤ nI q := nI_ge hqn2 (by omega)
        have hj : jIn (nI q) 60 := nIin (by omega) (by decide)
        have hcl : (nI q).toNatClampNeg = q := nI_clamp (by omega)
        have htx : pText pv q = mText m1 q := by rw [hXY q hqn2, kp.text]
        obtain ⟨s1, s0⟩ := m_semi hn hsz1 hs1 hw hqn2
        by_cases h59 : mText m1 q = 59
        · obtain ⟨v, hv⟩ := s1 h59
          have g1 : mWrong (mSSpot (nI (q + 1)) m1) = -1 := (mg16_15 m1 _).trans hw
          have g2 : mNumbers (mSSpot (nI (q + 1)) m1) = mNumbers m1 := mg18_15 m1 _
          obtain ⟨res, L', m', i1, i2, i3, i4⟩ := ih (q + 1) (t + 1) (mSSpot (nI (q + 1)) m1) (L ++ [cv]) ((mg14_15 m1 _).trans hsz1) (mg15_15 m1 _) g1 ((mg17_15 m1 _).trans ht1) hlen1 (by omega) (by omega) (by omega) (fun k hk => by rw [hXY k hk, mg9_15 m1, kp.text]) (fun i c hic => by rw [g2]; exact hcm1 i c hic)
          refine ⟨res, L', m', ?_, ?_, (kp.tr (KeptR.spot _ _)).tr i3, i4⟩
          · rw [jl_s (s' := (nI (q + 1), nI (t + 1), L ++ [cv]))]
            · exact i1
            · show f_X6_read_L pv (nI p) (nI t) L = _
              have ht59 : pText pv q = 59 := htx.trans h59
              unfold f_X6_read_L
              simp only [if_neg h60, v1, ob_s, if_pos h10, v2, e1, if_neg hle, if_pos hj, hcl, if_pos ht59, nI_1]
          · rw [c1, Option.bind_some, jl_b (A := f_X11_readsCommand (mSSpot (nI (q + 1)) m1))]
            · exact i2
            · unfold f_X11_readsAll_L32 f_X11_readsAll_J72
              rw [if_pos hw, hsz1, hs1, if_neg hle, hv, Option.bind_some, jb_u, if_pos g1]
        · have hr0 := s0 h59
          obtain ⟨g, rfl⟩ : ∃ g, f = g + 1 := ⟨f - 1, by omega⟩
          have g1 : mWrong (mSWrong (nI q) m1) = nI q := mg16_16 m1 _
          have hne : ¬ mWrong (mSWrong (nI q) m1) = -1 := by rw [g1]; exact nI_nm1 _ (by omega)
          refine ⟨nI q, L ++ [cv], mSWrong (nI q) m1, jl_e ?_, ?_, kp.tr (KeptR.wrong _ _), Or.inl ⟨q, by omega, rfl, g1⟩⟩
          · show f_X6_read_L pv (nI p) (nI t) L = _
            have ht59 : ¬ pText pv q = 59 := by rw [htx]; exact h59
            unfold f_X6_read_L
            simp only [if_neg h60, v1, ob_s, if_pos h10, v2, e1, if_neg hle, if_pos hj, hcl, if_neg ht59]
          · rw [c1, Option.bind_some, jl_s (s' := mSWrong (nI q) m1)]
            · refine jl_e ?_
              unfold f_X11_readsAll_L32
              rw [if_neg hne]
            · unfold f_X11_readsAll_L32 f_X11_readsAll_J72
              rw [if_pos hw, hsz1, hs1, if_neg hle, hr0, Option.bind_some, jb_u, if_neg hne]
/-- both read the whole text -/
theorem read_all {pv : PV} {m : MV} (h : TRel pv m) : ∃ res L m', f_X6_read pv = some (res, L) ∧ f_X11_readsAll m = some m' ∧ KeptR (mSTyped 0 (mSSize (mTyped m) m)) m' ∧ ((∃ e, e ≤ 60 ∧ res = nI e ∧ mWrong m' = nI e) ∨ (res = -1 ∧ mWrong m' = -1 ∧ mTold m' = nI L.length ∧ L.length ≤ 9 ∧ ∀ i c, L[i]? = some c → ∃ w, CmdR w c (mNumbers m') (5 * i))) := by
  obtain ⟨n, hn, e1, e2, ht⟩ := h
  have k1 : mSize (mSTold 0 (mSWrong (-1) (mSSpot 0 (mSTyped 0 (mSSize (mTyped m) m))))) = nI n := by rw [← e2]; simp only [mg14_0, mg14_1, mg14_2, mg14_3, mg14_4, mg14_5, mg14_6, mg14_7, mg14_8, mg14_9, mg14_10, mg14_11, mg14_12, mg14_13, mg14_14, mg14_15, mg14_16, mg14_17, mg14_18]
  have k2 : mSpot (mSTold 0 (mSWrong (-1) (mSSpot 0 (mSTyped 0 (mSSize (mTyped m) m))))) = 0 := by simp only [mg15_0, mg15_1, mg15_2, mg15_3, mg15_4, mg15_5, mg15_6, mg15_7, mg15_8, mg15_9, mg15_10, mg15_11, mg15_12, mg15_13, mg15_14, mg15_15, mg15_16, mg15_17, mg15_18]
  have k3 : mWrong (mSTold 0 (mSWrong (-1) (mSSpot 0 (mSTyped 0 (mSSize (mTyped m) m))))) = -1 := by simp only [mg16_0, mg16_1, mg16_2, mg16_3, mg16_4, mg16_5, mg16_6, mg16_7, mg16_8, mg16_9, mg16_10, mg16_11, mg16_12, mg16_13, mg16_14, mg16_15, mg16_16, mg16_17, mg16_18]
  have k4 : mTold (mSTold 0 (mSWrong (-1) (mSSpot 0 (mSTyped 0 (mSSize (mTyped m) m))))) = 0 := by simp only [mg17_0, mg17_1, mg17_2, mg17_3, mg17_4, mg17_5, mg17_6, mg17_7, mg17_8, mg17_9, mg17_10, mg17_11, mg17_12, mg17_13, mg17_14, mg17_15, mg17_16, mg17_17, mg17_18]
  have k5 : mText (mSTold 0 (mSWrong (-1) (mSSpot 0 (mSTyped 0 (mSSize (mTyped m) m))))) = mText m := by simp only [mg9_0, mg9_1, mg9_2, mg9_3, mg9_4, mg9_5, mg9_6, mg9_7, mg9_8, mg9_9, mg9_10, mg9_11, mg9_12, mg9_13, mg9_14, mg9_15, mg9_16, mg9_17, mg9_18]
  have kk : KeptR (mSTyped 0 (mSSize (mTyped m) m)) (mSTold 0 (mSWrong (-1) (mSSpot 0 (mSTyped 0 (mSSize (mTyped m) m))))) := ((KeptR.spot _ _).tr (KeptR.wrong _ _)).tr (KeptR.told _ _)
  have hrd : f_X11_readsAll m = ((f_X11_readsCommand (mSTold 0 (mSWrong (-1) (mSSpot 0 (mSTyped 0 (mSSize (mTyped m) m)))))).bind fun m1 => jbL (fun s => f_X11_readsAll_L32 s) 5000 m1) := by
    unfold f_X11_readsAll
    simp only [jb_u, bd_id]
  generalize mSTold 0 (mSWrong (-1) (mSSpot 0 (mSTyped 0 (mSSize (mTyped m) m)))) = m5 at *
  obtain ⟨res, L, m', i1, i2, i3, i4⟩ := read_both e1 hn 5000 0 0 m5 [] k1 k2 k3 k4 rfl (by omega) (by omega) (by omega) (fun k hk => by rw [k5]; exact (ht k hk).1) (fun i c hic => by simp at hic)
  exact ⟨res, L, m', i1, hrd.trans i2, kk.tr i3, i4⟩
/-! ===== run: the commands ===== -/
def Ex1 (t b : Nat) (cv : CV) (q : QV) (m : MV) : Prop :=
  (∃ r q' w', f_X1_faultIn cv q = some 0 ∧ f_X1_change cv q = some q' ∧ f_X11_does m (nI b) = some (r, mSThrown 0 (mSNow w' m)) ∧ RelQ q' w' ∧ InvW (t + 1) w') ∨
  (∃ k r c, f_X1_faultIn cv q = some (k + 1) ∧ k < 5 ∧ f_X11_does m (nI b) = some (r, mSThrown (nI (c + 1)) m) ∧ c < 4)
theorem exec_cmd {t b : Nat} {ex : List Nat} {F : Option Nat} {Ch : Option (Int32 × QV)} {B : Option (Int32 × MV)} {m : MV} {cv : CV} {q : QV} (h : Cmd t ex F Ch B m) (hF : f_X1_faultIn cv q = F) (hC : f_X1_change cv q = Ch.bind fun o => some o.2) (hD : f_X11_does m (nI b) = B.bind fun o => some (o.1, o.2)) : Ex1 t b cv q m := by
  rcases h with ⟨h1, r, q', w', h2, h3, h4, h5⟩ | ⟨k, r, c, h1, hk, h3, hc, _⟩
  · exact Or.inl ⟨r, q', w', hF.trans h1, by rw [hC, h2]; rfl, by rw [hD, h3]; rfl, h4, h5⟩
  · exact Or.inr ⟨k, r, c, hF.trans h1, hk, by rw [hD, h3]; rfl, hc⟩
theorem exec_one {t w b : Nat} {cv : CV} {q : QV} {m : MV} (hr : RelQ q (mNow m)) (hi : InvW t (mNow m)) (ht : t < 2 ^ 20) (hb : b < 140) (hc : CmdR w cv (mNumbers m) b) : Ex1 t b cv q m := by
  obtain ⟨hw8, hv, hN, hA, h0, h4, h5, h6, h7⟩ := hc
  have p1 : nI b + 1 = nI (b + 1) := nI_1 b
  have p2 : nI b + 2 = nI (b + 2) := nI_add b 2
  have p3 : nI b + 3 = nI (b + 3) := nI_add b 3
  have p4 : nI b + 4 = nI (b + 4) := nI_add b 4
  have j0 : jIn (nI b) 150 := nIin (by omega) (by decide)
  have j1 : jIn (nI (b + 1)) 150 := nIin (by omega) (by decide)
  have j2 : jIn (nI (b + 2)) 150 := nIin (by omega) (by decide)
  have j3 : jIn (nI (b + 3)) 150 := nIin (by omega) (by decide)
  have j4 : jIn (nI (b + 4)) 150 := nIin (by omega) (by decide)
  have l0 : (nI b).toNatClampNeg = b := nI_clamp (by omega)
  have l1 : (nI (b + 1)).toNatClampNeg = b + 1 := nI_clamp (by omega)
  have l2 : (nI (b + 2)).toNatClampNeg = b + 2 := nI_clamp (by omega)
  have l3 : (nI (b + 3)).toNatClampNeg = b + 3 := nI_clamp (by omega)
  have l4 : (nI (b + 4)).toNatClampNeg = b + 4 := nI_clamp (by omega)
  have q0 : jIn (0 : Int32) 4 := nIin (c := 0) (by omega) (by decide)
  have q1 : jIn (1 : Int32) 4 := nIin (c := 1) (by omega) (by decide)
  have q2 : jIn (2 : Int32) 4 := nIin (c := 2) (by omega) (by decide)
  have q3 : jIn (3 : Int32) 4 := nIin (c := 3) (by omega) (by decide)
  rcases (show w = 0 ∨ w = 1 ∨ w = 2 ∨ w = 3 ∨ w = 4 ∨ w = 5 ∨ w = 6 ∨ w = 7 by omega) with e | e | e | e | e | e | e | e
  · subst e
    obtain ⟨a0, a1⟩ := hA (by omega)
    have a2 := h0 rfl
    have lt : (0 : Nat) < 8 := by decide
    have n0 : (0 : Nat) = 0 := rfl
    have c0 : nI 0 = (0 : Int32) := rfl
    refine exec_cmd (cmd_stone hr hi (mNumbers m (b + 1)) (mNumbers m (b + 2)) (mNumbers m (b + 3))) ?_ ?_ ?_
    · unfold f_X1_faultIn
      simp only [jb_u, hv, if_pos lt, if_pos n0, ↓reduceIte, if_pos q0, if_pos q1, if_pos q2, cl0, cl1, cl2, a0, a1, a2, bd_id]
    · unfold f_X1_change
      simp only [jb_u, hv, if_pos lt, if_pos n0, ↓reduceIte, if_pos q0, if_pos q1, if_pos q2, cl0, cl1, cl2, a0, a1, a2]
    · unfold f_X11_does
      simp only [p1, p2, p3, p4, if_pos j0, if_pos j1, if_pos j2, if_pos j3, if_pos j4, l0, l1, l2, l3, l4, jb_u, hN, if_pos c0]
  · subst e
    obtain ⟨a0, a1⟩ := hA (by omega)
    have lt : (1 : Nat) < 8 := by decide
    have n0 : ¬ (1 : Nat) = 0 := by decide
    have c0 : ¬ nI 1 = (0 : Int32) := by decide +kernel
    have n1 : (1 : Nat) = 1 := rfl
    have c1 : nI 1 = (1 : Int32) := rfl
    refine exec_cmd (cmd_cut hr hi ht (mNumbers m (b + 1)) (mNumbers m (b + 2))) ?_ ?_ ?_
    · unfold f_X1_faultIn
      simp only [jb_u, hv, if_pos lt, if_neg n0, if_pos n1, ↓reduceIte, if_pos q0, if_pos q1, cl0, cl1, a0, a1, bd_id]
    · unfold f_X1_change
      simp only [jb_u, hv, if_pos lt, if_neg n0, if_pos n1, ↓reduceIte, if_pos q0, if_pos q1, cl0, cl1, a0, a1]
    · unfold f_X11_does
      simp only [p1, p2, p3, p4, if_pos j0, if_pos j1, if_pos j2, if_pos j3, if_pos j4, l0, l1, l2, l3, l4, jb_u, hN, if_neg c0, if_pos c1]
  · subst e
    obtain ⟨a0, a1⟩ := hA (by omega)
    have lt : (2 : Nat) < 8 := by decide
    have n0 : ¬ (2 : Nat) = 0 := by decide
    have c0 : ¬ nI 2 = (0 : Int32) := by decide +kernel
    have n1 : ¬ (2 : Nat) = 1 := by decide
    have c1 : ¬ nI 2 = (1 : Int32) := by decide +kernel
    have n2 : (2 : Nat) = 2 := rfl
    have c2 : nI 2 = (2 : Int32) := rfl
    refine exec_cmd (cmd_fill hr hi (mNumbers m (b + 1)) (mNumbers m (b + 2))) ?_ ?_ ?_
    · unfold f_X1_faultIn
      simp only [jb_u, hv, if_pos lt, if_neg n0, if_neg n1, if_pos n2, ↓reduceIte, if_pos q0, if_pos q1, cl0, cl1, a0, a1, bd_id]
    · unfold f_X1_change
      simp only [jb_u, hv, if_pos lt, if_neg n0, if_neg n1, if_pos n2, ↓reduceIte, if_pos q0, if_pos q1, cl0, cl1, a0, a1]
    · unfold f_X11_does
      simp only [p1, p2, p3, p4, if_pos j0, if_pos j1, if_pos j2, if_pos j3, if_pos j4, l0, l1, l2, l3, l4, jb_u, hN, if_neg c0, if_neg c1, if_pos c2]
  · subst e
    obtain ⟨a0, a1⟩ := hA (by omega)
    have lt : (3 : Nat) < 8 := by decide
    have n0 : ¬ (3 : Nat) = 0 := by decide
    have c0 : ¬ nI 3 = (0 : Int32) := by decide +kernel
    have n1 : ¬ (3 : Nat) = 1 := by decide
    have c1 : ¬ nI 3 = (1 : Int32) := by decide +kernel
    have n2 : ¬ (3 : Nat) = 2 := by decide
    have c2 : ¬ nI 3 = (2 : Int32) := by decide +kernel
    have n3 : (3 : Nat) = 3 := rfl
    have c3 : nI 3 = (3 : Int32) := rfl
    refine exec_cmd (cmd_ledge hr hi (mNumbers m (b + 1)) (mNumbers m (b + 2))) ?_ ?_ ?_
    · unfold f_X1_faultIn
      simp only [jb_u, hv, if_pos lt, if_neg n0, if_neg n1, if_neg n2, if_pos n3, ↓reduceIte, if_pos q0, if_pos q1, cl0, cl1, a0, a1, bd_id]
    · unfold f_X1_change
      simp only [jb_u, hv, if_pos lt, if_neg n0, if_neg n1, if_neg n2, if_pos n3, ↓reduceIte, if_pos q0, if_pos q1, cl0, cl1, a0, a1]
    · unfold f_X11_does
      simp only [p1, p2, p3, p4, if_pos j0, if_pos j1, if_pos j2, if_pos j3, if_pos j4, l0, l1, l2, l3, l4, jb_u, hN, if_neg c0, if_neg c1, if_neg c2, if_pos c3]
  · subst e
    have a0 := h4 rfl
    have lt : (4 : Nat) < 8 := by decide
    have n0 : ¬ (4 : Nat) = 0 := by decide
    have c0 : ¬ nI 4 = (0 : Int32) := by decide +kernel
    have n1 : ¬ (4 : Nat) = 1 := by decide
    have c1 : ¬ nI 4 = (1 : Int32) := by decide +kernel
    have n2 : ¬ (4 : Nat) = 2 := by decide
    have c2 : ¬ nI 4 = (2 : Int32) := by decide +kernel
    have n3 : ¬ (4 : Nat) = 3 := by decide
    have c3 : ¬ nI 4 = (3 : Int32) := by decide +kernel
    have n4 : (4 : Nat) = 4 := rfl
    have c4 : nI 4 = (4 : Int32) := rfl
    refine exec_cmd (cmd_limit hr hi (mNumbers m (b + 3))) ?_ ?_ ?_
    · unfold f_X1_faultIn
      simp only [jb_u, hv, if_pos lt, if_neg n0, if_neg n1, if_neg n2, if_neg n3, if_pos n4, ↓reduceIte, if_pos q0, cl0, a0, bd_id]
    · unfold f_X1_change
      simp only [jb_u, hv, if_pos lt, if_neg n0, if_neg n1, if_neg n2, if_neg n3, if_pos n4, ↓reduceIte, if_pos q0, cl0, a0]
    · unfold f_X11_does
      simp only [p1, p2, p3, p4, if_pos j0, if_pos j1, if_pos j2, if_pos j3, if_pos j4, l0, l1, l2, l3, l4, jb_u, hN, if_neg c0, if_neg c1, if_neg c2, if_neg c3, if_pos c4]
  · subst e
    obtain ⟨a0, a1, a2, a3⟩ := h5 rfl
    have lt : (5 : Nat) < 8 := by decide
    have n0 : ¬ (5 : Nat) = 0 := by decide
    have c0 : ¬ nI 5 = (0 : Int32) := by decide +kernel
    have n1 : ¬ (5 : Nat) = 1 := by decide
    have c1 : ¬ nI 5 = (1 : Int32) := by decide +kernel
    have n2 : ¬ (5 : Nat) = 2 := by decide
    have c2 : ¬ nI 5 = (2 : Int32) := by decide +kernel
    have n3 : ¬ (5 : Nat) = 3 := by decide
    have c3 : ¬ nI 5 = (3 : Int32) := by decide +kernel
    have n4 : ¬ (5 : Nat) = 4 := by decide
    have c4 : ¬ nI 5 = (4 : Int32) := by decide +kernel
    have n5 : (5 : Nat) = 5 := rfl
    have c5 : nI 5 = (5 : Int32) := rfl
    refine exec_cmd (cmd_winch hr hi (mNumbers m (b + 1)) (mNumbers m (b + 2)) (mNumbers m (b + 3)) (mNumbers m (b + 4))) ?_ ?_ ?_
    · unfold f_X1_faultIn
      simp only [jb_u, hv, if_pos lt, if_neg n0, if_neg n1, if_neg n2, if_neg n3, if_neg n4, if_pos n5, ↓reduceIte, if_pos q0, if_pos q1, if_pos q2, if_pos q3, cl0, cl1, cl2, cl3, a0, a1, a2, a3, bd_id]
    · unfold f_X1_change
      simp only [jb_u, hv, if_pos lt, if_neg n0, if_neg n1, if_neg n2, if_neg n3, if_neg n4, if_pos n5, ↓reduceIte, if_pos q0, if_pos q1, if_pos q2, if_pos q3, cl0, cl1, cl2, cl3, a0, a1, a2, a3]
    · unfold f_X11_does
      simp only [p1, p2, p3, p4, if_pos j0, if_pos j1, if_pos j2, if_pos j3, if_pos j4, l0, l1, l2, l3, l4, jb_u, hN, if_neg c0, if_neg c1, if_neg c2, if_neg c3, if_neg c4, if_pos c5]
  · subst e
    obtain ⟨a0, a1, a2⟩ := h6 rfl
    have lt : (6 : Nat) < 8 := by decide
    have n0 : ¬ (6 : Nat) = 0 := by decide
    have c0 : ¬ nI 6 = (0 : Int32) := by decide +kernel
    have n1 : ¬ (6 : Nat) = 1 := by decide
    have c1 : ¬ nI 6 = (1 : Int32) := by decide +kernel
    have n2 : ¬ (6 : Nat) = 2 := by decide
    have c2 : ¬ nI 6 = (2 : Int32) := by decide +kernel
    have n3 : ¬ (6 : Nat) = 3 := by decide
    have c3 : ¬ nI 6 = (3 : Int32) := by decide +kernel
    have n4 : ¬ (6 : Nat) = 4 := by decide
    have c4 : ¬ nI 6 = (4 : Int32) := by decide +kernel
    have n5 : ¬ (6 : Nat) = 5 := by decide
    have c5 : ¬ nI 6 = (5 : Int32) := by decide +kernel
    have n6 : (6 : Nat) = 6 := rfl
    have c6 : nI 6 = (6 : Int32) := rfl
    refine exec_cmd (cmd_lift hr hi ht (mNumbers m (b + 3)) (mNumbers m (b + 1)) (mNumbers m (b + 2))) ?_ ?_ ?_
    · unfold f_X1_faultIn
      simp only [jb_u, hv, if_pos lt, if_neg n0, if_neg n1, if_neg n2, if_neg n3, if_neg n4, if_neg n5, if_pos n6, ↓reduceIte, if_pos q0, if_pos q1, if_pos q2, cl0, cl1, cl2, a0, a1, a2, bd_id]
    · unfold f_X1_change
      simp only [jb_u, hv, if_pos lt, if_neg n0, if_neg n1, if_neg n2, if_neg n3, if_neg n4, if_neg n5, if_pos n6, ↓reduceIte, if_pos q0, if_pos q1, if_pos q2, cl0, cl1, cl2, a0, a1, a2]
    · unfold f_X11_does
      simp only [p1, p2, p3, p4, if_pos j0, if_pos j1, if_pos j2, if_pos j3, if_pos j4, l0, l1, l2, l3, l4, jb_u, hN, if_neg c0, if_neg c1, if_neg c2, if_neg c3, if_neg c4, if_neg c5, if_pos c6]
  · subst e
    obtain ⟨a0, a1⟩ := h7 rfl
    have lt : (7 : Nat) < 8 := by decide
    have n0 : ¬ (7 : Nat) = 0 := by decide
    have c0 : ¬ nI 7 = (0 : Int32) := by decide +kernel
    have n1 : ¬ (7 : Nat) = 1 := by decide
    have c1 : ¬ nI 7 = (1 : Int32) := by decide +kernel
    have n2 : ¬ (7 : Nat) = 2 := by decide
    have c2 : ¬ nI 7 = (2 : Int32) := by decide +kernel
    have n3 : ¬ (7 : Nat) = 3 := by decide
    have c3 : ¬ nI 7 = (3 : Int32) := by decide +kernel
    have n4 : ¬ (7 : Nat) = 4 := by decide
    have c4 : ¬ nI 7 = (4 : Int32) := by decide +kernel
    have n5 : ¬ (7 : Nat) = 5 := by decide
    have c5 : ¬ nI 7 = (5 : Int32) := by decide +kernel
    have n6 : ¬ (7 : Nat) = 6 := by decide
    have c6 : ¬ nI 7 = (6 : Int32) := by decide +kernel
    refine exec_cmd (cmd_crush hr hi (mNumbers m (b + 3)) (mNumbers m (b + 4))) ?_ ?_ ?_
    · unfold f_X1_faultIn
      simp only [jb_u, hv, if_pos lt, if_neg n0, if_neg n1, if_neg n2, if_neg n3, if_neg n4, if_neg n5, if_neg n6, ↓reduceIte, if_pos q0, if_pos q1, cl0, cl1, a0, a1, bd_id]
    · unfold f_X1_change
      simp only [jb_u, hv, if_pos lt, if_neg n0, if_neg n1, if_neg n2, if_neg n3, if_neg n4, if_neg n5, if_neg n6, ↓reduceIte, if_pos q0, if_pos q1, cl0, cl1, a0, a1]
    · unfold f_X11_does
      simp only [p1, p2, p3, p4, if_pos j0, if_pos j1, if_pos j2, if_pos j3, if_pos j4, l0, l1, l2, l3, l4, jb_u, hN, if_neg c0, if_neg c1, if_neg c2, if_neg c3, if_neg c4, if_neg c5, if_neg c6]
def Fl (m0 m9 : MV) (j : Nat) : Prop := EqW (mBefore m0) (mNow m9) ∧ mFailedAt m9 = nI j ∧ mThrown m9 = 2 ∧ mHistory m9 = mHistory m0 ∧ mRemembered m9 = mRemembered m0 ∧ mErrorAt m9 = mErrorAt m0 ∧ mText m9 = mText m0 ∧ mTyped m9 = mTyped m0 ∧ mLine m9 = mLine m0 ∧ mLined m9 = mLined m0 ∧ mIsSaved m9 = mIsSaved m0 ∧ mSaved m9 = mSaved m0
theorem exec_all {L : List CV} {m0 : MV} {t : Nat} (hL : L.length ≤ 9) (htd : mTold m0 = nI L.length) (hcm : ∀ i c, L[i]? = some c → ∃ w, CmdR w c (mNumbers m0) (5 * i)) (ht : t + 9 < 2 ^ 20) : ∀ (r k f : Nat) (q : QV) (w : Nat → Int32), k + r = L.length → r < f → RelQ q w → InvW (t + k) w →
    (∃ q' w', jbL (fun s : Int32 × QV => f_X6_carryOut_L L s.1 s.2) f (nI k, q) = some (-1, q') ∧ jbL (fun s : Int32 × MV => f_X11_run_L38 s.1 s.2) f (nI k, mSThrown 0 (mSNow w m0)) = some (.inl (nI L.length, mSThrown 0 (mSNow w' m0))) ∧ RelQ q' w' ∧ InvW (t + L.length) w') ∨
    (∃ j q' m9, j < 9 ∧ jbL (fun s : Int32 × QV => f_X6_carryOut_L L s.1 s.2) f (nI k, q) = some (nI j, q') ∧ jbL (fun s : Int32 × MV => f_X11_run_L38 s.1 s.2) f (nI k, mSThrown 0 (mSNow w m0)) = some (.inr (0, m9)) ∧ Fl m0 m9 j) := by
  intro r
  induction r with
  | zero =>
    intro k f q w hk hf hr hi
    obtain ⟨f, rfl⟩ : ∃ g, f = g + 1 := ⟨f - 1, by omega⟩
    have e : k = L.length := by omega
    subst e
    have t1 : mTold (mSThrown 0 (mSNow w m0)) = nI L.length := by rw [← htd]; simp only [mg17_0, mg17_1, mg17_2, mg17_3, mg17_4, mg17_5, mg17_6, mg17_7, mg17_8, mg17_9, mg17_10, mg17_11, mg17_12, mg17_13, mg17_14, mg17_15, mg17_16, mg17_17, mg17_18]
    left
    refine ⟨q, w, jl_e ?_, jl_e ?_, hr, hi⟩
    · show f_X6_carryOut_L L (nI L.length) q = _
      unfold f_X6_carryOut_L
      rw [if_pos (Int32.le_refl _)]
    · show f_X11_run_L38 (nI L.length) (mSThrown 0 (mSNow w m0)) = _
      unfold f_X11_run_L38
      rw [t1, if_pos (Int32.le_refl _)]
  | succ r ih =>
    intro k f q w hk hf hr hi
    obtain ⟨f, rfl⟩ : ∃ g, f = g + 1 := ⟨f - 1, by omega⟩
    have hkL : k < L.length := by omega
    obtain ⟨cv, hcv⟩ : ∃ c, L[k]? = some c := ⟨L[k], List.getElem?_eq_getElem hkL⟩
    obtain ⟨wv, hcr⟩ := hcm k cv hcv
    have t1 : mTold (mSThrown 0 (mSNow w m0)) = nI L.length := by rw [← htd]; simp only [mg17_0, mg17_1, mg17_2, mg17_3, mg17_4, mg17_5, mg17_6, mg17_7, mg17_8, mg17_9, mg17_10, mg17_11, mg17_12, mg17_13, mg17_14, mg17_15, mg17_16, mg17_17, mg17_18]
    have t2 : mNow (mSThrown 0 (mSNow w m0)) = w := by simp only [mg0_0, mg0_1, mg0_2, mg0_3, mg0_4, mg0_5, mg0_6, mg0_7, mg0_8, mg0_9, mg0_10, mg0_11, mg0_12, mg0_13, mg0_14, mg0_15, mg0_16, mg0_17, mg0_18]
    have t3 : mNumbers (mSThrown 0 (mSNow w m0)) = mNumbers m0 := by simp only [mg18_0, mg18_1, mg18_2, mg18_3, mg18_4, mg18_5, mg18_6, mg18_7, mg18_8, mg18_9, mg18_10, mg18_11, mg18_12, mg18_13, mg18_14, mg18_15, mg18_16, mg18_17, mg18_18]
    have h5 : (5 : Int32) * nI k = nI (5 * k) := by rw [show (5 : Int32) = nI 5 from rfl, nImul]
    have hle : ¬ nI L.length ≤ nI k := nI_ge hkL (by omega)
    have hcl : (nI k).toNatClampNeg = k := nI_clamp (by omega)
    have hlt : nI k < nI L.length := nI_lt hkL (by omega)
    have hpos : ¬ nI k < 0 := nI_pos (by omega)
    have hj10 : jIn (nI k) 10 := nIin (by omega) (by decide)
    have hci : f_J15_checkIndex_7cf53 (nI k) (nI L.length) = some (nI k) := by
      unfold f_J15_checkIndex_7cf53 f_J3_checkIndex_8e157
      rw [if_neg hpos, if_pos hlt, Option.bind_some]
    have n06' : (0 : Nat) < 6 := by decide
    have n00 : (0 : Nat) = 0 := rfl
    rcases exec_one (t := t + k) (q := q) (cv := cv) (m := mSThrown 0 (mSNow w m0)) (b := 5 * k) (w := wv) (by rw [t2]; exact hr) (by rw [t2]; exact hi) (by omega) (by omega) (by rw [t3]; exact hcr) with ⟨r1, q', w', x1, x2, x3, x4, x5⟩ | ⟨kk, r1, c, x1, hkk, x3, hc⟩
    · have hm : mSThrown 0 (mSNow w' (mSThrown 0 (mSNow w m0))) = mSThrown 0 (mSNow w' m0) := by simp only [mN3, mN4, mN5]
      rw [hm] at x3
      have hc1 : f_X6_carryOut_L L (nI k) q = some (.inl (nI (k + 1), q')) := by
        unfold f_X6_carryOut_L
        simp only [if_neg hle, hcl, hcv, hci, ob_s, if_pos hj10, x1, if_pos n06', ↓reduceIte, x2, nI_1]
      have t4 : mThrown (mSThrown 0 (mSNow w' m0)) = 0 := by simp only [mg13_0, mg13_1, mg13_2, mg13_3, mg13_4, mg13_5, mg13_6, mg13_7, mg13_8, mg13_9, mg13_10, mg13_11, mg13_12, mg13_13, mg13_14, mg13_15, mg13_16, mg13_17, mg13_18]
      have hm1 : f_X11_run_L38 (nI k) (mSThrown 0 (mSNow w m0)) = some (.inl (nI (k + 1), mSThrown 0 (mSNow w' m0))) := by
        unfold f_X11_run_L38
        rw [t1, if_neg hle, h5, x3, Option.bind_some, jb_u, if_pos t4, nI_1]
      rcases ih (k + 1) f q' w' (by omega) (by omega) x4 (by rw [show t + (k + 1) = t + k + 1 by omega]; exact x5) with ⟨q2, w2, y1, y2, y3, y4⟩ | ⟨j, q2, m9, y0, y1, y2, y3⟩
      · left
        refine ⟨q2, w2, ?_, ?_, y3, y4⟩
        · rw [jl_s (s' := (nI (k + 1), q')) hc1]
          exact y1
        · rw [jl_s (s' := (nI (k + 1), mSThrown 0 (mSNow w' m0))) hm1]
          exact y2
      · right
        refine ⟨j, q2, m9, y0, ?_, ?_, y3⟩
        · rw [jl_s (s' := (nI (k + 1), q')) hc1]
          exact y1
        · rw [jl_s (s' := (nI (k + 1), mSThrown 0 (mSNow w' m0))) hm1]
          exact y2
    · right
      have hk6 : kk + 1 < 6 := by omega
      have hk0 : ¬ kk + 1 = 0 := by omega
      have t4 : mThrown (mSThrown (nI (c + 1)) (mSThrown 0 (mSNow w m0))) = nI (c + 1) := by simp only [mg13_0, mg13_1, mg13_2, mg13_3, mg13_4, mg13_5, mg13_6, mg13_7, mg13_8, mg13_9, mg13_10, mg13_11, mg13_12, mg13_13, mg13_14, mg13_15, mg13_16, mg13_17, mg13_18]
      have hne : ¬ nI (c + 1) = 0 := nI_s0 hc
      have b1 : mBefore (mSThrown 2 (mSFailedAt (nI k) (mSThrown (nI (c + 1)) (mSThrown 0 (mSNow w m0))))) = mBefore m0 := by simp only [mg1_0, mg1_1, mg1_2, mg1_3, mg1_4, mg1_5, mg1_6, mg1_7, mg1_8, mg1_9, mg1_10, mg1_11, mg1_12, mg1_13, mg1_14, mg1_15, mg1_16, mg1_17, mg1_18]
      refine ⟨k, q, mSNow (va_cpy (mBefore m0) (mNow (mSThrown 2 (mSFailedAt (nI k) (mSThrown (nI (c + 1)) (mSThrown 0 (mSNow w m0)))))) 0 0 229) (mSThrown 2 (mSFailedAt (nI k) (mSThrown (nI (c + 1)) (mSThrown 0 (mSNow w m0))))), by omega, jl_e ?_, jl_e ?_, ?_⟩
      · show f_X6_carryOut_L L (nI k) q = _
        unfold f_X6_carryOut_L
        simp only [if_neg hle, hcl, hcv, hci, ob_s, if_pos hj10, x1, if_pos hk6, if_neg hk0]
      · show f_X11_run_L38 (nI k) (mSThrown 0 (mSNow w m0)) = _
        unfold f_X11_run_L38
        rw [t1, if_neg hle, h5, x3, Option.bind_some, jb_u, t4, if_neg hne, jb_u, jb_u, b1, m_copies0, Option.bind_some, jb_u]
      · refine ⟨?_, ?_, ?_, ?_, ?_, ?_, ?_, ?_, ?_, ?_, ?_, ?_⟩
        · rw [mg0_0]
          exact cpy_eqw _ _
        · simp only [mg7_0, mg7_1, mg7_2, mg7_3, mg7_4, mg7_5, mg7_6, mg7_7, mg7_8, mg7_9, mg7_10, mg7_11, mg7_12, mg7_13, mg7_14, mg7_15, mg7_16, mg7_17, mg7_18]
        · simp only [mg13_0, mg13_1, mg13_2, mg13_3, mg13_4, mg13_5, mg13_6, mg13_7, mg13_8, mg13_9, mg13_10, mg13_11, mg13_12, mg13_13, mg13_14, mg13_15, mg13_16, mg13_17, mg13_18]
        · simp only [mg3_0, mg3_1, mg3_2, mg3_3, mg3_4, mg3_5, mg3_6, mg3_7, mg3_8, mg3_9, mg3_10, mg3_11, mg3_12, mg3_13, mg3_14, mg3_15, mg3_16, mg3_17, mg3_18]
        · simp only [mg5_0, mg5_1, mg5_2, mg5_3, mg5_4, mg5_5, mg5_6, mg5_7, mg5_8, mg5_9, mg5_10, mg5_11, mg5_12, mg5_13, mg5_14, mg5_15, mg5_16, mg5_17, mg5_18]
        · simp only [mg6_0, mg6_1, mg6_2, mg6_3, mg6_4, mg6_5, mg6_6, mg6_7, mg6_8, mg6_9, mg6_10, mg6_11, mg6_12, mg6_13, mg6_14, mg6_15, mg6_16, mg6_17, mg6_18]
        · simp only [mg9_0, mg9_1, mg9_2, mg9_3, mg9_4, mg9_5, mg9_6, mg9_7, mg9_8, mg9_9, mg9_10, mg9_11, mg9_12, mg9_13, mg9_14, mg9_15, mg9_16, mg9_17, mg9_18]
        · simp only [mg10_0, mg10_1, mg10_2, mg10_3, mg10_4, mg10_5, mg10_6, mg10_7, mg10_8, mg10_9, mg10_10, mg10_11, mg10_12, mg10_13, mg10_14, mg10_15, mg10_16, mg10_17, mg10_18]
        · simp only [mg11_0, mg11_1, mg11_2, mg11_3, mg11_4, mg11_5, mg11_6, mg11_7, mg11_8, mg11_9, mg11_10, mg11_11, mg11_12, mg11_13, mg11_14, mg11_15, mg11_16, mg11_17, mg11_18]
        · simp only [mg12_0, mg12_1, mg12_2, mg12_3, mg12_4, mg12_5, mg12_6, mg12_7, mg12_8, mg12_9, mg12_10, mg12_11, mg12_12, mg12_13, mg12_14, mg12_15, mg12_16, mg12_17, mg12_18]
        · simp only [mg4_0, mg4_1, mg4_2, mg4_3, mg4_4, mg4_5, mg4_6, mg4_7, mg4_8, mg4_9, mg4_10, mg4_11, mg4_12, mg4_13, mg4_14, mg4_15, mg4_16, mg4_17, mg4_18]
        · simp only [mg2_0, mg2_1, mg2_2, mg2_3, mg2_4, mg2_5, mg2_6, mg2_7, mg2_8, mg2_9, mg2_10, mg2_11, mg2_12, mg2_13, mg2_14, mg2_15, mg2_16, mg2_17, mg2_18]
/-! ===== run, in the law ===== -/
theorem mN6 (m : MV) : mSNow (mNow m) m = m := Eq.trans rfl rfl
theorem TRel.nil {pv : PV} {m : MV} (h : mTyped m = 0) : TRel (pSLength 0 pv) m := ⟨0, by omega, rfl, h, fun k hk => absurd hk (Nat.not_lt_zero _)⟩
theorem lb_37 {T : Nat} {S : Sys} (h : RelS T S) (ht : 20 * T + 9 < 2 ^ 20) (a1 a2 a3 a4 : Int32) (ol : Nat → Int64) (od : Nat → UInt64) : ∃ r, lawOp_37 S a1 a2 a3 a4 ol od = some r ∧ RelS (T + 1) r.1 := by
  obtain ⟨res, L, m1, r1, r2, kp, hres⟩ := read_all h.t
  have hemp : f_X6_empty S.pv = some (pSLength 0 S.pv) := by
    unfold f_X6_empty
    rw [jb_u]
  have f0 : mNow m1 = mNow S.mv := kp.now.trans (by simp only [mg0_0, mg0_1, mg0_2, mg0_3, mg0_4, mg0_5, mg0_6, mg0_7, mg0_8, mg0_9, mg0_10, mg0_11, mg0_12, mg0_13, mg0_14, mg0_15, mg0_16, mg0_17, mg0_18])
  have f1 : mHistory m1 = mHistory S.mv := kp.hist.trans (by simp only [mg3_0, mg3_1, mg3_2, mg3_3, mg3_4, mg3_5, mg3_6, mg3_7, mg3_8, mg3_9, mg3_10, mg3_11, mg3_12, mg3_13, mg3_14, mg3_15, mg3_16, mg3_17, mg3_18])
  have f2 : mRemembered m1 = mRemembered S.mv := kp.rem.trans (by simp only [mg5_0, mg5_1, mg5_2, mg5_3, mg5_4, mg5_5, mg5_6, mg5_7, mg5_8, mg5_9, mg5_10, mg5_11, mg5_12, mg5_13, mg5_14, mg5_15, mg5_16, mg5_17, mg5_18])
  have f3 : mErrorAt m1 = mErrorAt S.mv := kp.err.trans (by simp only [mg6_0, mg6_1, mg6_2, mg6_3, mg6_4, mg6_5, mg6_6, mg6_7, mg6_8, mg6_9, mg6_10, mg6_11, mg6_12, mg6_13, mg6_14, mg6_15, mg6_16, mg6_17, mg6_18])
  have f4 : mFailedAt m1 = mFailedAt S.mv := kp.fail.trans (by simp only [mg7_0, mg7_1, mg7_2, mg7_3, mg7_4, mg7_5, mg7_6, mg7_7, mg7_8, mg7_9, mg7_10, mg7_11, mg7_12, mg7_13, mg7_14, mg7_15, mg7_16, mg7_17, mg7_18])
  have f6 : mTyped m1 = 0 := kp.typed.trans (by simp only [mg10_0, mg10_1, mg10_2, mg10_3, mg10_4, mg10_5, mg10_6, mg10_7, mg10_8, mg10_9, mg10_10, mg10_11, mg10_12, mg10_13, mg10_14, mg10_15, mg10_16, mg10_17, mg10_18])
  have f7 : mLine m1 = mLine S.mv := kp.line.trans (by simp only [mg11_0, mg11_1, mg11_2, mg11_3, mg11_4, mg11_5, mg11_6, mg11_7, mg11_8, mg11_9, mg11_10, mg11_11, mg11_12, mg11_13, mg11_14, mg11_15, mg11_16, mg11_17, mg11_18])
  have f8 : mLined m1 = mLined S.mv := kp.lined.trans (by simp only [mg12_0, mg12_1, mg12_2, mg12_3, mg12_4, mg12_5, mg12_6, mg12_7, mg12_8, mg12_9, mg12_10, mg12_11, mg12_12, mg12_13, mg12_14, mg12_15, mg12_16, mg12_17, mg12_18])
  have f9 : mIsSaved m1 = mIsSaved S.mv := kp.isSaved.trans (by simp only [mg4_0, mg4_1, mg4_2, mg4_3, mg4_4, mg4_5, mg4_6, mg4_7, mg4_8, mg4_9, mg4_10, mg4_11, mg4_12, mg4_13, mg4_14, mg4_15, mg4_16, mg4_17, mg4_18])
  have f10 : mSaved m1 = mSaved S.mv := kp.saved.trans (by simp only [mg2_0, mg2_1, mg2_2, mg2_3, mg2_4, mg2_5, mg2_6, mg2_7, mg2_8, mg2_9, mg2_10, mg2_11, mg2_12, mg2_13, mg2_14, mg2_15, mg2_16, mg2_17, mg2_18])
  have hup : (20 * T ≤ 20 * (T + 1)) := by omega
  rcases hres with ⟨e, he, hre, hwe⟩ | ⟨hre, hwe, htold, hL9, hcm⟩
  · have hne : ¬ nI e = -1 := nI_nm1 e (by omega)
    have hL : f_L_run S.ep S.fc S.qv S.bv S.pv S.hv ol = some (1, ol, nI e, S.fc, S.qv, S.bv, pSLength 0 S.pv, S.hv) := by
      unfold f_L_run f_X10_run
      rw [r1, Option.bind_some, hemp, Option.bind_some, hre, if_neg hne, Option.bind_some, jm_l, if_pos rfl]
    have hM : f_X11_run S.mv = some (0, mSThrown 1 (mSErrorAt (nI e) m1)) := by
      unfold f_X11_run
      rw [r2, Option.bind_some, hwe, if_neg hne, jb_u, jb_u]
    have g0 : mNow (mSThrown 1 (mSErrorAt (nI e) m1)) = mNow m1 := by simp only [mg0_0, mg0_1, mg0_2, mg0_3, mg0_4, mg0_5, mg0_6, mg0_7, mg0_8, mg0_9, mg0_10, mg0_11, mg0_12, mg0_13, mg0_14, mg0_15, mg0_16, mg0_17, mg0_18]
    have g1 : mHistory (mSThrown 1 (mSErrorAt (nI e) m1)) = mHistory m1 := by simp only [mg3_0, mg3_1, mg3_2, mg3_3, mg3_4, mg3_5, mg3_6, mg3_7, mg3_8, mg3_9, mg3_10, mg3_11, mg3_12, mg3_13, mg3_14, mg3_15, mg3_16, mg3_17, mg3_18]
    have g2 : mRemembered (mSThrown 1 (mSErrorAt (nI e) m1)) = mRemembered m1 := by simp only [mg5_0, mg5_1, mg5_2, mg5_3, mg5_4, mg5_5, mg5_6, mg5_7, mg5_8, mg5_9, mg5_10, mg5_11, mg5_12, mg5_13, mg5_14, mg5_15, mg5_16, mg5_17, mg5_18]
    have g3 : mErrorAt (mSThrown 1 (mSErrorAt (nI e) m1)) = nI e := by simp only [mg6_0, mg6_1, mg6_2, mg6_3, mg6_4, mg6_5, mg6_6, mg6_7, mg6_8, mg6_9, mg6_10, mg6_11, mg6_12, mg6_13, mg6_14, mg6_15, mg6_16, mg6_17, mg6_18]
    have g4 : mFailedAt (mSThrown 1 (mSErrorAt (nI e) m1)) = mFailedAt m1 := by simp only [mg7_0, mg7_1, mg7_2, mg7_3, mg7_4, mg7_5, mg7_6, mg7_7, mg7_8, mg7_9, mg7_10, mg7_11, mg7_12, mg7_13, mg7_14, mg7_15, mg7_16, mg7_17, mg7_18]
    have g6 : mTyped (mSThrown 1 (mSErrorAt (nI e) m1)) = mTyped m1 := by simp only [mg10_0, mg10_1, mg10_2, mg10_3, mg10_4, mg10_5, mg10_6, mg10_7, mg10_8, mg10_9, mg10_10, mg10_11, mg10_12, mg10_13, mg10_14, mg10_15, mg10_16, mg10_17, mg10_18]
    have g7 : mLine (mSThrown 1 (mSErrorAt (nI e) m1)) = mLine m1 := by simp only [mg11_0, mg11_1, mg11_2, mg11_3, mg11_4, mg11_5, mg11_6, mg11_7, mg11_8, mg11_9, mg11_10, mg11_11, mg11_12, mg11_13, mg11_14, mg11_15, mg11_16, mg11_17, mg11_18]
    have g8 : mLined (mSThrown 1 (mSErrorAt (nI e) m1)) = mLined m1 := by simp only [mg12_0, mg12_1, mg12_2, mg12_3, mg12_4, mg12_5, mg12_6, mg12_7, mg12_8, mg12_9, mg12_10, mg12_11, mg12_12, mg12_13, mg12_14, mg12_15, mg12_16, mg12_17, mg12_18]
    have g9 : mIsSaved (mSThrown 1 (mSErrorAt (nI e) m1)) = mIsSaved m1 := by simp only [mg4_0, mg4_1, mg4_2, mg4_3, mg4_4, mg4_5, mg4_6, mg4_7, mg4_8, mg4_9, mg4_10, mg4_11, mg4_12, mg4_13, mg4_14, mg4_15, mg4_16, mg4_17, mg4_18]
    have g10 : mSaved (mSThrown 1 (mSErrorAt (nI e) m1)) = mSaved m1 := by simp only [mg2_0, mg2_1, mg2_2, mg2_3, mg2_4, mg2_5, mg2_6, mg2_7, mg2_8, mg2_9, mg2_10, mg2_11, mg2_12, mg2_13, mg2_14, mg2_15, mg2_16, mg2_17, mg2_18]
    have g11 : mThrown (mSThrown 1 (mSErrorAt (nI e) m1)) = 1 := by simp only [mg13_0, mg13_1, mg13_2, mg13_3, mg13_4, mg13_5, mg13_6, mg13_7, mg13_8, mg13_9, mg13_10, mg13_11, mg13_12, mg13_13, mg13_14, mg13_15, mg13_16, mg13_17, mg13_18]
    generalize mSThrown 1 (mSErrorAt (nI e) m1) = m9 at *
    refine ⟨(mkS (nI e) S.fc S.qv S.bv S.sv S.hv (pSLength 0 S.pv) S.ov S.svd m9, ol, od), ?_, ?_⟩
    · unfold lawOp_37
      simp only [hL, hM, ob_s, th_u, g11, i10, ↓reduceIte]
    · exact RelS.mk (f_q := by show RelQ S.qv (mNow m9); rw [g0, f0]; exact h.q)
        (f_w := by show InvW _ (mNow m9); rw [g0, f0]; exact h.w.up (by omega))
        (f_h := (h.h.up hup).kept (g1.trans f1) (g2.trans f2))
        (f_e := g3) (f_f := (g4.trans f4).trans h.f) (f_t := TRel.nil (g6.trans f6)) (f_o := h.o.kept (g7.trans f7) (g8.trans f8))
        (f_v := (h.v.up hup).kept (g9.trans f9) (g10.trans f10))
  · obtain ⟨b, hb1, hb2⟩ := q_copy S.bv S.qv _ _ h.q h.w
    have k0 : mNow (mBeg m1) = mNow S.mv := by rw [← f0]; simp only [mBeg, mg0_0, mg0_1, mg0_2, mg0_3, mg0_4, mg0_5, mg0_6, mg0_7, mg0_8, mg0_9, mg0_10, mg0_11, mg0_12, mg0_13, mg0_14, mg0_15, mg0_16, mg0_17, mg0_18]
    have k1 : mHistory (mBeg m1) = mHistory S.mv := by rw [← f1]; simp only [mBeg, mg3_0, mg3_1, mg3_2, mg3_3, mg3_4, mg3_5, mg3_6, mg3_7, mg3_8, mg3_9, mg3_10, mg3_11, mg3_12, mg3_13, mg3_14, mg3_15, mg3_16, mg3_17, mg3_18]
    have k2 : mRemembered (mBeg m1) = mRemembered S.mv := by rw [← f2]; simp only [mBeg, mg5_0, mg5_1, mg5_2, mg5_3, mg5_4, mg5_5, mg5_6, mg5_7, mg5_8, mg5_9, mg5_10, mg5_11, mg5_12, mg5_13, mg5_14, mg5_15, mg5_16, mg5_17, mg5_18]
    have k3 : mErrorAt (mBeg m1) = mErrorAt S.mv := by rw [← f3]; simp only [mBeg, mg6_0, mg6_1, mg6_2, mg6_3, mg6_4, mg6_5, mg6_6, mg6_7, mg6_8, mg6_9, mg6_10, mg6_11, mg6_12, mg6_13, mg6_14, mg6_15, mg6_16, mg6_17, mg6_18]
    have k4 : mFailedAt (mBeg m1) = mFailedAt S.mv := by rw [← f4]; simp only [mBeg, mg7_0, mg7_1, mg7_2, mg7_3, mg7_4, mg7_5, mg7_6, mg7_7, mg7_8, mg7_9, mg7_10, mg7_11, mg7_12, mg7_13, mg7_14, mg7_15, mg7_16, mg7_17, mg7_18]
    have k6 : mTyped (mBeg m1) = 0 := by rw [← f6]; simp only [mBeg, mg10_0, mg10_1, mg10_2, mg10_3, mg10_4, mg10_5, mg10_6, mg10_7, mg10_8, mg10_9, mg10_10, mg10_11, mg10_12, mg10_13, mg10_14, mg10_15, mg10_16, mg10_17, mg10_18]
    have k7 : mLine (mBeg m1) = mLine S.mv := by rw [← f7]; simp only [mBeg, mg11_0, mg11_1, mg11_2, mg11_3, mg11_4, mg11_5, mg11_6, mg11_7, mg11_8, mg11_9, mg11_10, mg11_11, mg11_12, mg11_13, mg11_14, mg11_15, mg11_16, mg11_17, mg11_18]
    have k8 : mLined (mBeg m1) = mLined S.mv := by rw [← f8]; simp only [mBeg, mg12_0, mg12_1, mg12_2, mg12_3, mg12_4, mg12_5, mg12_6, mg12_7, mg12_8, mg12_9, mg12_10, mg12_11, mg12_12, mg12_13, mg12_14, mg12_15, mg12_16, mg12_17, mg12_18]
    have k9 : mIsSaved (mBeg m1) = mIsSaved S.mv := by rw [← f9]; simp only [mBeg, mg4_0, mg4_1, mg4_2, mg4_3, mg4_4, mg4_5, mg4_6, mg4_7, mg4_8, mg4_9, mg4_10, mg4_11, mg4_12, mg4_13, mg4_14, mg4_15, mg4_16, mg4_17, mg4_18]
    have k10 : mSaved (mBeg m1) = mSaved S.mv := by rw [← f10]; simp only [mBeg, mg2_0, mg2_1, mg2_2, mg2_3, mg2_4, mg2_5, mg2_6, mg2_7, mg2_8, mg2_9, mg2_10, mg2_11, mg2_12, mg2_13, mg2_14, mg2_15, mg2_16, mg2_17, mg2_18]
    have k12 : mTold (mBeg m1) = nI L.length := by rw [← htold]; simp only [mBeg, mg17_0, mg17_1, mg17_2, mg17_3, mg17_4, mg17_5, mg17_6, mg17_7, mg17_8, mg17_9, mg17_10, mg17_11, mg17_12, mg17_13, mg17_14, mg17_15, mg17_16, mg17_17, mg17_18]
    have k13 : mNumbers (mBeg m1) = mNumbers m1 := by simp only [mBeg, mg18_0, mg18_1, mg18_2, mg18_3, mg18_4, mg18_5, mg18_6, mg18_7, mg18_8, mg18_9, mg18_10, mg18_11, mg18_12, mg18_13, mg18_14, mg18_15, mg18_16, mg18_17, mg18_18]
    have kb : EqW (mNow S.mv) (mBefore (mBeg m1)) := by
      have e : mBefore (mBeg m1) = va_cpy (mNow m1) (mBefore m1) 0 0 229 := by simp only [mBeg, mg1_0, mg1_1, mg1_2, mg1_3, mg1_4, mg1_5, mg1_6, mg1_7, mg1_8, mg1_9, mg1_10, mg1_11, mg1_12, mg1_13, mg1_14, mg1_15, mg1_16, mg1_17, mg1_18]
      rw [e, ← f0]
      exact cpy_eqw _ _
    have hbeg := m_begins m1
    generalize mBeg m1 = m0 at *
    have hrun : f_X11_run S.mv = ((jbL (fun s : Int32 × MV => f_X11_run_L38 s.1 s.2) 5000 ((0 : Int32), mSThrown 0 (mSNow (mNow S.mv) m0))).bind fun o38 => jbM o38 (fun oo38 => (f_X11_ends oo38.2 (mTold oo38.2)).bind fun o6 => some (o6.1, o6.2)) (fun v => some v)) := by
      unfold f_X11_run
      rw [r2, Option.bind_some, if_pos hwe, hbeg, Option.bind_some, jb_u, ← k0, mN6]
    have hcar : ∀ x, jbL (fun s : Int32 × QV => f_X6_carryOut_L L s.1 s.2) 5000 (nI 0, S.qv) = some x → f_X6_carryOut L S.qv = some x := fun x hx => hx
    have hx10 : ∀ c : Int32 × QV, f_X6_carryOut L S.qv = some c → f_X10_run S.ep S.fc S.qv S.bv S.pv S.hv = if c.1 = -1 then (f_X4_record S.hv b).bind fun h => some (.inr (nI L.length, c.2, b, pSLength 0 S.pv, h)) else (f_X7_copyFrom c.2 b).bind fun q => some (.inl (4, S.ep, c.1, q, b, pSLength 0 S.pv)) := fun c hc => by
      unfold f_X10_run
      rw [r1, Option.bind_some, hemp, Option.bind_some, if_pos hre, hb1, Option.bind_some]
      (try simp only [ob_s, jb_u, ↓reduceIte, i10, n06, n16, n26, n36, n46, n56, n10])
      show (f_X6_carryOut L S.qv).bind _ = _
      rw [hc, Option.bind_some]
    rcases exec_all (t := 20 * T) hL9 k12 (fun i c hic => by rw [k13]; exact hcm i c hic) ht L.length 0 5000 S.qv (mNow S.mv) (by omega) (by omega) h.q h.w with ⟨q', w', y1, y2, y3, y4⟩ | ⟨j, q', m9, y0, y1, y2, y3⟩
    · have hc := hx10 _ (hcar _ y1)
      rw [if_pos rfl] at hc
      have y2' : jbL (fun s : Int32 × MV => f_X11_run_L38 s.1 s.2) 5000 ((0 : Int32), mSThrown 0 (mSNow (mNow S.mv) m0)) = some (.inl (nI L.length, mSThrown 0 (mSNow w' m0))) := y2
      have hh : HRel (20 * T) S.hv (mSThrown 0 (mSNow w' m0)) := h.h.kept (by rw [← k1]; simp only [mg3_0, mg3_1, mg3_2, mg3_3, mg3_4, mg3_5, mg3_6, mg3_7, mg3_8, mg3_9, mg3_10, mg3_11, mg3_12, mg3_13, mg3_14, mg3_15, mg3_16, mg3_17, mg3_18]) (by rw [← k2]; simp only [mg5_0, mg5_1, mg5_2, mg5_3, mg5_4, mg5_5, mg5_6, mg5_7, mg5_8, mg5_9, mg5_10, mg5_11, mg5_12, mg5_13, mg5_14, mg5_15, mg5_16, mg5_17, mg5_18])
      have hbef : mBefore (mSThrown 0 (mSNow w' m0)) = mBefore m0 := by simp only [mg1_0, mg1_1, mg1_2, mg1_3, mg1_4, mg1_5, mg1_6, mg1_7, mg1_8, mg1_9, mg1_10, mg1_11, mg1_12, mg1_13, mg1_14, mg1_15, mg1_16, mg1_17, mg1_18]
      obtain ⟨hv', H', c', z1, z2, z3⟩ := remember hh (q := b) (by rw [hbef]; exact hb2.eqw kb) (by rw [hbef]; exact h.w.eqw kb)
      have t0 : mThrown (mSThrown 0 (mSNow w' m0)) = 0 := by simp only [mg13_0, mg13_1, mg13_2, mg13_3, mg13_4, mg13_5, mg13_6, mg13_7, mg13_8, mg13_9, mg13_10, mg13_11, mg13_12, mg13_13, mg13_14, mg13_15, mg13_16, mg13_17, mg13_18]
      have t1 : mTold (mSThrown 0 (mSNow w' m0)) = nI L.length := by rw [← k12]; simp only [mg17_0, mg17_1, mg17_2, mg17_3, mg17_4, mg17_5, mg17_6, mg17_7, mg17_8, mg17_9, mg17_10, mg17_11, mg17_12, mg17_13, mg17_14, mg17_15, mg17_16, mg17_17, mg17_18]
      have hend : f_X11_ends (mSThrown 0 (mSNow w' m0)) (nI L.length) = some (nI L.length, mSRemembered c' (mSHistory H' (mSThrown 0 (mSNow w' m0)))) := by
        unfold f_X11_ends
        rw [if_pos t0, z2, Option.bind_some]
      have hM : f_X11_run S.mv = some (nI L.length, mSRemembered c' (mSHistory H' (mSThrown 0 (mSNow w' m0)))) := by
        rw [hrun, y2', Option.bind_some, jm_l]
        (try simp only [ob_s, jb_u, ↓reduceIte, i10, n06, n16, n26, n36, n46, n56, n10])
        show (f_X11_ends (mSThrown 0 (mSNow w' m0)) (mTold (mSThrown 0 (mSNow w' m0)))).bind _ = _
        rw [t1, hend, Option.bind_some]
      have hL : f_L_run S.ep S.fc S.qv S.bv S.pv S.hv ol = some (0, vp_updL ol (0 : Int32).toNatClampNeg (nI L.length).toInt64, S.ep, S.fc, q', b, pSLength 0 S.pv, hv') := by
        unfold f_L_run
        rw [hc, z1, Option.bind_some, Option.bind_some, jm_r]
      have e1 : mNow (mSRemembered c' (mSHistory H' (mSThrown 0 (mSNow w' m0)))) = w' := by simp only [mg0_0, mg0_1, mg0_2, mg0_3, mg0_4, mg0_5, mg0_6, mg0_7, mg0_8, mg0_9, mg0_10, mg0_11, mg0_12, mg0_13, mg0_14, mg0_15, mg0_16, mg0_17, mg0_18]
      have e2 : mErrorAt (mSRemembered c' (mSHistory H' (mSThrown 0 (mSNow w' m0)))) = mErrorAt m0 := by simp only [mg6_0, mg6_1, mg6_2, mg6_3, mg6_4, mg6_5, mg6_6, mg6_7, mg6_8, mg6_9, mg6_10, mg6_11, mg6_12, mg6_13, mg6_14, mg6_15, mg6_16, mg6_17, mg6_18]
      have e3 : mFailedAt (mSRemembered c' (mSHistory H' (mSThrown 0 (mSNow w' m0)))) = mFailedAt m0 := by simp only [mg7_0, mg7_1, mg7_2, mg7_3, mg7_4, mg7_5, mg7_6, mg7_7, mg7_8, mg7_9, mg7_10, mg7_11, mg7_12, mg7_13, mg7_14, mg7_15, mg7_16, mg7_17, mg7_18]
      have e5 : mTyped (mSRemembered c' (mSHistory H' (mSThrown 0 (mSNow w' m0)))) = mTyped m0 := by simp only [mg10_0, mg10_1, mg10_2, mg10_3, mg10_4, mg10_5, mg10_6, mg10_7, mg10_8, mg10_9, mg10_10, mg10_11, mg10_12, mg10_13, mg10_14, mg10_15, mg10_16, mg10_17, mg10_18]
      have e6 : mLine (mSRemembered c' (mSHistory H' (mSThrown 0 (mSNow w' m0)))) = mLine m0 := by simp only [mg11_0, mg11_1, mg11_2, mg11_3, mg11_4, mg11_5, mg11_6, mg11_7, mg11_8, mg11_9, mg11_10, mg11_11, mg11_12, mg11_13, mg11_14, mg11_15, mg11_16, mg11_17, mg11_18]
      have e7 : mLined (mSRemembered c' (mSHistory H' (mSThrown 0 (mSNow w' m0)))) = mLined m0 := by simp only [mg12_0, mg12_1, mg12_2, mg12_3, mg12_4, mg12_5, mg12_6, mg12_7, mg12_8, mg12_9, mg12_10, mg12_11, mg12_12, mg12_13, mg12_14, mg12_15, mg12_16, mg12_17, mg12_18]
      have e8 : mIsSaved (mSRemembered c' (mSHistory H' (mSThrown 0 (mSNow w' m0)))) = mIsSaved m0 := by simp only [mg4_0, mg4_1, mg4_2, mg4_3, mg4_4, mg4_5, mg4_6, mg4_7, mg4_8, mg4_9, mg4_10, mg4_11, mg4_12, mg4_13, mg4_14, mg4_15, mg4_16, mg4_17, mg4_18]
      have e9 : mSaved (mSRemembered c' (mSHistory H' (mSThrown 0 (mSNow w' m0)))) = mSaved m0 := by simp only [mg2_0, mg2_1, mg2_2, mg2_3, mg2_4, mg2_5, mg2_6, mg2_7, mg2_8, mg2_9, mg2_10, mg2_11, mg2_12, mg2_13, mg2_14, mg2_15, mg2_16, mg2_17, mg2_18]
      have e10 : mThrown (mSRemembered c' (mSHistory H' (mSThrown 0 (mSNow w' m0)))) = 0 := by simp only [mg13_0, mg13_1, mg13_2, mg13_3, mg13_4, mg13_5, mg13_6, mg13_7, mg13_8, mg13_9, mg13_10, mg13_11, mg13_12, mg13_13, mg13_14, mg13_15, mg13_16, mg13_17, mg13_18]
      generalize mSRemembered c' (mSHistory H' (mSThrown 0 (mSNow w' m0))) = m9 at *
      refine ⟨(mkS S.ep S.fc q' b S.sv hv' (pSLength 0 S.pv) S.ov S.svd m9, vp_updL ol (0 : Int32).toNatClampNeg (nI L.length).toInt64, od), ?_, ?_⟩
      · unfold lawOp_37
        simp only [hL, hM, ob_s, th_u, e10, ↓reduceIte, uL0]
      · exact RelS.mk (f_q := by show RelQ q' (mNow m9); rw [e1]; exact y3)
          (f_w := by show InvW _ (mNow m9); rw [e1]; exact y4.up (by omega))
          (f_h := z3.up hup)
          (f_e := (e2.trans k3).trans h.e) (f_f := (e3.trans k4).trans h.f) (f_t := TRel.nil (e5.trans k6)) (f_o := h.o.kept (e6.trans k7) (e7.trans k8))
          (f_v := (h.v.up hup).kept (e8.trans k9) (e9.trans k10))
    · have hc := hx10 _ (hcar _ y1)
      have hne : ¬ nI j = -1 := nI_nm1 j (by omega)
      rw [if_neg hne] at hc
      obtain ⟨q9, d1, d2⟩ := q_copy q' b _ _ hb2 h.w
      have y2' : jbL (fun s : Int32 × MV => f_X11_run_L38 s.1 s.2) 5000 ((0 : Int32), mSThrown 0 (mSNow (mNow S.mv) m0)) = some (.inr (0, m9)) := y2
      have hM : f_X11_run S.mv = some (0, m9) := by
        rw [hrun, y2', Option.bind_some, jm_r]
      have hL : f_L_run S.ep S.fc S.qv S.bv S.pv S.hv ol = some (2, ol, S.ep, nI j, q9, b, pSLength 0 S.pv, S.hv) := by
        have n41 : ¬ (4 : Nat) = 1 := by decide
        unfold f_L_run
        rw [hc, d1, Option.bind_some, Option.bind_some, jm_l, if_neg n41, if_pos rfl]
      obtain ⟨x1, x2, x3, x4, x5, x6, x7, x8, x9, x10, x11, x12⟩ := y3
      have n20 : ¬ (2 : Int32) = 0 := by decide
      refine ⟨(mkS S.ep (nI j) q9 b S.sv S.hv (pSLength 0 S.pv) S.ov S.svd m9, ol, od), ?_, ?_⟩
      · unfold lawOp_37
        simp only [hL, hM, ob_s, th_u, x3, ↓reduceIte, if_neg n20]
      · have heq : EqW (mNow S.mv) (mNow m9) := fun k hk => (kb k hk).trans (x1 k hk)
        exact RelS.mk (f_q := d2.eqw heq)
          (f_w := (h.w.eqw heq).up (by omega))
          (f_h := (h.h.up hup).kept (x4.trans k1) (x5.trans k2))
          (f_e := (x6.trans k3).trans h.e) (f_f := x2) (f_t := TRel.nil (x8.trans k6)) (f_o := h.o.kept (x9.trans k7) (x10.trans k8))
          (f_v := (h.v.up hup).kept (x11.trans k9) (x12.trans k10))
