variable {nT : Nat}
/-! the reference's constructor -/
def r0F : Nat → Nat → Int32
  | 0 => upd (upd (upd (fun _ => 0) 5 2) 6 20) 7 2
  | p + 1 => upd (r0F p) (8 + 6 * p + 1) 10
theorem r0F_4 (j : Nat) : r0F 4 j = r0 j := by
  unfold r0F r0F r0F r0F r0F r0
  simp only [upd_at]
  by_cases h5 : j = 5
  · subst h5; rfl
  · by_cases h6 : j = 6
    · subst h6; rfl
    · by_cases h7 : j = 7
      · subst h7; rfl
      · by_cases h9 : j = 9
        · subst h9; rfl
        · by_cases h15 : j = 15
          · subst h15; rfl
          · by_cases h21 : j = 21
            · subst h21; rfl
            · by_cases h27 : j = 27
              · subst h27; rfl
              · simp [h5, h6, h7, h9, h15, h21, h27]
