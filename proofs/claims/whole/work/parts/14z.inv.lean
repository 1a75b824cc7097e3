/-! how long a bite may be held -/
theorem phi_turn {m i st h : Nat} (hm : m < 4) (hi : i < 4) (hs : st ≤ (i + 4 - m) % 4) : phi ((m + st) % 4) i h + st = phi m i h := by
  unfold phi
  omega
theorem pop_new : ∀ p, p < 4 → pop4 (2 ^ p) = 1 := by decide +kernel
theorem phi_new {m p : Nat} (hp : p < 4) : phi m p (2 ^ p) ≤ 12 := by
  unfold phi
  rw [pop_new p hp]
  omega
theorem pop_add : ∀ h, h < 16 → ∀ b, b < 4 → Nat.testBit h b = false → pop4 (h ||| 2 ^ b) = pop4 h + 1 ∧ pop4 (h ||| 2 ^ b) ≤ 4 ∧ h ||| 2 ^ b < 16 := by decide +kernel
theorem phi_sale {m p b h : Nat} (hh : h < 16) (hb : b < 4) (hn : Nat.testBit h b = false) : phi m b (h ||| 2 ^ b) ≤ phi m p h := by
  obtain ⟨h1, h2, -⟩ := pop_add h hh b hb hn
  unfold phi
  omega
theorem filt_le {p q : Nat → Bool} : ∀ l : List Nat, (∀ x, x ∈ l → p x = true → q x = true) → (l.filter p).length ≤ (l.filter q).length
  | [], _ => Nat.le_refl _
  | a :: l, h => by
    have ih := filt_le l (fun x hx => h x (List.mem_cons_of_mem _ hx))
    by_cases hp : p a = true
    · rw [List.filter_cons_of_pos hp, List.filter_cons_of_pos (h a List.mem_cons_self hp)]
      simp only [List.length_cons]
      omega
    · rw [List.filter_cons_of_neg hp]
      by_cases hq : q a = true
      · rw [List.filter_cons_of_pos hq]
        simp only [List.length_cons]
        omega
      · rw [List.filter_cons_of_neg hq]
        exact ih
theorem Inv_T {B : Nat} {s : Nat → Int32} (h : Inv B s) (h4 : ¬ s 4 = 4) {d : Nat} (h1 : 1 ≤ d) (h6 : d ≤ 6) : Inv B (aT s (nI d)) := by
  sorry
theorem Inv_S {B : Nat} {s : Nat → Int32} (h : Inv B s) {p k b : Nat} {c : Int32} (hp : p < 4) (hk : k < aMany s p) (hb : b < 4) (hpb : ¬ p = b) (hr : aRea s p k b c = 0) : Inv B (aS s p k b c) := by
  sorry
