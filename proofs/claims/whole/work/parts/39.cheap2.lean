/-! the cheapest buyer: upwards and downwards alike -/
theorem Inv.ask {B : Nat} {s : Nat → Int32} (h : Inv B s) {p k : Nat} (hp : p < 4) (hk : k < aMany s p) {b : Nat} (hb : b < 4) : ∃ a, a ≤ 40 ∧ aAsk s (s (wi p k + 0)) b = nI a := by
  obtain ⟨z, y, z1, z40, ez, -⟩ := h.2.2.2.1 p hp k hk
  obtain ⟨eb, hb14⟩ := h.many hb
  refine ⟨(z + 2) / 3 + 2 * aMany s b, by omega, ?_⟩
  unfold aAsk
  rw [ez, eb, show (2 : Int32) = nI 2 from rfl, show (3 : Int32) = nI 3 from rfl, nI_add, nI_div (by omega) (by decide) (by decide), nI_mul, nI_add]
theorem why_O {B : Nat} {s : Nat → Int32} (h : Inv B s) {p k : Nat} (hp : p < 4) (hk : k < aMany s p) {b a : Nat} (hb : b < 4) (ha : a ≤ 40) : aWhy s (nI p) (nI k) (nI b) (nI a) = 0 ↔ (¬ nI b = nI p ∧ nI a ≤ 99 ∧ aRea s p k b (nI a) = 0) := by
  have hk20 : k < 20 := by have := (h.many hp).2; omega
  have hc : 0 ≤ nI a ∧ nI a ≤ 99 := ⟨nI_pos' (by omega), (nI_leI (b := 99) (by omega) (by decide)).mpr (by omega)⟩
  have hok : aBt s (nI p) (nI k) ∧ aPl (nI b) := ⟨aBt_nI h.mOf hp hk, le3 hb⟩
  by_cases e : nI p = nI b
  · rw [obs_bad hok (fun z => z.2 e)]
    exact ⟨fun z => absurd z (by decide), fun z => absurd e.symm z.1⟩
  · rw [obs_ok hp hk20 hb hok ⟨hc, e⟩]
    exact ⟨fun z => ⟨fun q => e q.symm, hc.2, z⟩, fun z => z.2.2⟩
theorem ch_mod : ∀ b, b < 4 → ∀ a, a < 41 → (100 * nI b + nI a) - (100 * nI b + nI a) / 100 * 100 = nI a ∧ ¬ 100 * nI b + nI a = -5 := by decide +kernel
/-- the least of four, from the first up by less, from the last down by not more -/
theorem pud (x0 x1 x2 x3 v0 v1 v2 v3 b0 b1 b2 b3 w0 w1 w2 w3 c0 c1 c2 c3 : Nat) (h0 : x0 ≠ 100) (h1 : x1 ≠ 100) (h2 : x2 ≠ 100) (h3 : x3 ≠ 100)
    (e0 : (x0 < 100 ∧ v0 = x0 ∧ b0 = 0) ∨ (¬ x0 < 100 ∧ v0 = 100 ∧ b0 = 9)) (e1 : (x1 < v0 ∧ v1 = x1 ∧ b1 = 1) ∨ (¬ x1 < v0 ∧ v1 = v0 ∧ b1 = b0)) (e2 : (x2 < v1 ∧ v2 = x2 ∧ b2 = 2) ∨ (¬ x2 < v1 ∧ v2 = v1 ∧ b2 = b1)) (e3 : (x3 < v2 ∧ v3 = x3 ∧ b3 = 3) ∨ (¬ x3 < v2 ∧ v3 = v2 ∧ b3 = b2))
    (f3 : (x3 ≤ 100 ∧ w3 = x3 ∧ c3 = 3) ∨ (¬ x3 ≤ 100 ∧ w3 = 100 ∧ c3 = 9)) (f2 : (x2 ≤ w3 ∧ w2 = x2 ∧ c2 = 2) ∨ (¬ x2 ≤ w3 ∧ w2 = w3 ∧ c2 = c3)) (f1 : (x1 ≤ w2 ∧ w1 = x1 ∧ c1 = 1) ∨ (¬ x1 ≤ w2 ∧ w1 = w2 ∧ c1 = c2)) (f0 : (x0 ≤ w1 ∧ w0 = x0 ∧ c0 = 0) ∨ (¬ x0 ≤ w1 ∧ w0 = w1 ∧ c0 = c1)) : v3 = w0 ∧ b3 = c0 := by
  rcases e0 with e0 | e0 <;> rcases e1 with e1 | e1 <;> rcases e2 with e2 | e2 <;> rcases e3 with e3 | e3 <;> omega
