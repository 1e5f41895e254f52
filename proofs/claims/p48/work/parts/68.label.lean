def pos (w : Nat → Int32) (c : Nat) : Prop := ¬ w (19 + 7 * c) ≤ 0
/-- labels: of the same seam, none greater than the cell -/
def LOk (w : Nat → Int32) (f : Nat → Nat) : Prop := ∀ c, c < 30 → pos w c → f c < 30 ∧ Cn (SE w) c (f c) ∧ f c ≤ c
