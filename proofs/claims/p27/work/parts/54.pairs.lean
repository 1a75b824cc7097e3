variable {nT : Nat}
/-! a lemma a method: one call of both -/
section
variable {l : Launch} {g : fw_G} {I : fw_I} {P : fw_P} {B : Nat}
theorem Inv_Py {B : Nat} : ∀ (n : Nat) (x : Int32) (s : Nat → Int32), Inv B s → (0 ≤ x ∧ x ≤ 65535) → Inv B (aPyF n x s).2
  | 0, _, _, h, _ => h
  | n + 1, x, s, h, hx => by
    show Inv B (if s 4 = 4 then (0, s) else _).2
    by_cases h4 : s 4 = 4
    · rw [if_pos h4]; exact h
    · rw [if_neg h4]
      have hx1 := aDraw_in hx
      obtain ⟨d, d1, d6, e⟩ := (aDice_in hx1).nat
      exact Inv_Py n (aDraw x) _ (by rw [e]; exact Inv_T h h4 d1 d6) hx1
end
