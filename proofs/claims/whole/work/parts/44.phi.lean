/-! how long a bite may be held -/
theorem phi_turn {m i st h : Nat} (hm : m < 4) (hi : i < 4) (hs : st ≤ (i + 4 - m) % 4) : phi ((m + st) % 4) i h + st = phi m i h := by
  unfold phi
  omega
theorem pop_new : ∀ p, p < 4 → pop4 (2 ^ p) = 1 := by decide +kernel
theorem phi_new {m p : Nat} (hp : p < 4) : phi m p (2 ^ p) ≤ 12 := by
  unfold phi
  rw [pop_new p hp]
  omega
theorem pop_add : ∀ h, h < 16 → ∀ b, b < 4 → Nat.testBit h b = false → pop4 (h ||| 2 ^ b) = pop4 h + 1 ∧ pop4 (h ||| 2 ^ b) ≤ 4 ∧ h ||| 2 ^ b < 16 := by decide +kernel
theorem phi_sale {m p b h : Nat} (hh : h < 16) (hb : b < 4) (hn : Nat.testBit h b = false) : phi m b (h ||| 2 ^ b) ≤ phi m p h := by
  obtain ⟨h1, h2, -⟩ := pop_add h hh b hb hn
  unfold phi
  omega
