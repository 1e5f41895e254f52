theorem nar_ch (x : Nat) (h : x < 128) : vp_nar .char (nI x) = nI x := (by decide +kernel : ∀ x : Fin 128, vp_nar .char (nI x.val) = nI x.val) ⟨x, h⟩
theorem ch_id (x : Nat) (h : x < 128) : ((nI x).toUInt32 % 65536).toInt32 = nI x := (by decide +kernel : ∀ x : Fin 128, ((nI x.val).toUInt32 % 65536).toInt32 = nI x.val) ⟨x, h⟩
theorem hh_ch (n : Nat) (h : n ≤ 9) : (((48 : Int32) + nI n).toUInt32 % 65536).toInt32 = nI (48 + n) := (by decide +kernel : ∀ n : Fin 10, (((48 : Int32) + nI n.val).toUInt32 % 65536).toInt32 = nI (48 + n.val)) ⟨n, by omega⟩
theorem ss_ch (n : Nat) (h : n ≤ 3) : (((97 : Int32) + nI n).toUInt32 % 65536).toInt32 = nI (97 + n) := (by decide +kernel : ∀ n : Fin 4, (((97 : Int32) + nI n.val).toUInt32 % 65536).toInt32 = nI (97 + n.val)) ⟨n, by omega⟩
theorem row_or (a : Int32) : (∃ y, y < 5 ∧ a = nI y ∧ f_X3_hasRow a = some 1 ∧ f_X11_isIn a 0 4 = some 1) ∨ (f_X3_hasRow a = some 0 ∧ f_X11_isIn a 0 4 = some 0) := by
  by_cases h1 : a < 0
  · right
    exact ⟨by unfold f_X3_hasRow; rw [if_pos h1], by unfold f_X11_isIn; rw [if_pos h1]⟩
  · by_cases h2 : (5 : Int32) ≤ a
    · right
      have h2' : (4 : Int32) < a := by rw [Int32.lt_iff_toInt_lt]; rw [Int32.le_iff_toInt_le] at h2; exact h2
      exact ⟨by unfold f_X3_hasRow; rw [if_neg h1, if_pos h2], by unfold f_X11_isIn; rw [if_neg h1, if_pos h2']⟩
    · obtain ⟨y, hy, rfl⟩ := nI_lt_of (n := 5) (by decide) h1 h2
      left
      have e1 := (by decide +kernel : ∀ r : Fin 5, f_X3_hasRow (nI r.val) = some 1) ⟨y, hy⟩
      have e2 := (by decide +kernel : ∀ r : Fin 5, f_X11_isIn (nI r.val) 0 4 = some 1) ⟨y, hy⟩
      exact ⟨y, hy, rfl, e1, e2⟩
