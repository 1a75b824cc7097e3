variable {nT : Nat}
theorem nI_le9 {x : Int32} (h : 0 ≤ x ∧ x ≤ 9) : ∃ p, p < 10 ∧ x = nI p := by
  obtain ⟨j, h1, h2⟩ := nI_of2 (M := 9) (n := 9) rfl (by rw [i32_lt]; have := i32_le.mp h.1; simp at this ⊢; omega) h.2
  exact ⟨j, by omega, h2⟩
theorem aSnAt_nat {s : Nat → Int32} {q : Int32} (h : ¬ aSnAt s q = -5) : ∃ k, k < 10 ∧ aSnAt s q = nI k ∧ sn s k 0 = q ∧ 0 < q := by
  rcases aSnF_cases s q 10 with h1 | h1
  · exact absurd h1 h
  · exact h1
