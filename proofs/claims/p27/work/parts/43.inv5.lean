variable {nT : Nat}
/-- the first row -/
def r0 : Nat → Int32 := fun j => if j = 5 then 2 else if j = 6 then 20 else if j = 7 then 2 else if j = 9 ∨ j = 15 ∨ j = 21 ∨ j = 27 then 10 else 0
theorem r0_0 {j : Nat} (h : ¬ j = 5 ∧ ¬ j = 6 ∧ ¬ j = 7 ∧ ¬ j = 9 ∧ ¬ j = 15 ∧ ¬ j = 21 ∧ ¬ j = 27) : r0 j = 0 := by
  unfold r0
  rw [if_neg h.1, if_neg h.2.1, if_neg h.2.2.1, if_neg (by omega)]
theorem Inv_r0 : Inv 10 r0 := by
  have ero : ∀ p f, p < 4 → f < 6 → ¬ f = 1 → ro r0 p f = 0 := fun p f hp hf h1 => r0_0 (by omega)
  have eM : ∀ p, p < 4 → aMany r0 p = 0 := fun p hp => by unfold aMany; rw [ero p 5 hp (by decide) (by decide)]; rfl
  have esn : ∀ i f, sn r0 i f = 0 := fun i f => r0_0 (by omega)
  have eh : home r0 = 0 := by unfold home; rw [ero 0 2 (by decide) (by decide) (by decide), ero 1 2 (by decide) (by decide) (by decide), ero 2 2 (by decide) (by decide) (by decide), ero 3 2 (by decide) (by decide) (by decide)]; rfl
  have ecB : ∀ m j p, p < 4 → cB r0 m j p = 0 := fun m j p hp => by unfold cB; rw [eM p hp]; rfl
  refine ⟨by decide, by decide, fun p hp => ⟨0, 0, by decide, ero p 0 hp (by decide) (by decide), by decide, ero p 5 hp (by decide) (by decide), ⟨fun _ => by decide, fun _ => ero p 2 hp (by decide) (by decide)⟩, fun z => absurd z (by decide)⟩, fun p hp k hk => ?_, fun i hi => ⟨Or.inl ⟨esn i 0, esn i 2⟩, 0, by decide, esn i 2⟩, fun i j hi hj hij _ => esn i 0, ⟨2, by decide, rfl⟩, ?_, 0, by decide, r0_0 (by decide), fun _ => ero 0 2 (by decide) (by decide) (by decide), fun j hj => ?_⟩
  · rw [eM p hp] at hk; omega
  · rw [eh]; exact r0_0 (by decide)
  · rw [ecB 0 j 0 (by decide), ecB 0 j 1 (by decide), ecB 0 j 2 (by decide), ecB 0 j 3 (by decide)]; omega
