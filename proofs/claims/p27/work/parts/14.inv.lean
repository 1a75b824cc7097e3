variable {nT : Nat}
/-! the invariant of a row -/
def iSn (B : Nat) (s : Nat → Int32) (i : Nat) : Prop := ((sn s i 0 = 0 ∧ sn s i 2 = 0) ∨ ∃ h t, 7 ≤ h ∧ h ≤ 59 ∧ 1 ≤ t ∧ t ≤ 53 ∧ t + 6 ≤ h ∧ h ≤ t + 40 ∧ sn s i 0 = nI h ∧ sn s i 1 = nI t) ∧ ∃ sl, sl ≤ B ∧ sn s i 2 = nI sl
def iPl (s : Nat → Int32) (p : Nat) : Prop := ∃ q n, q ≤ 60 ∧ ro s p 0 = nI q ∧ n < 14 ∧ ro s p 5 = nI n ∧ (ro s p 2 = 0 ↔ q ≠ 60) ∧ (q = 60 → n = 0)
def iBt (s : Nat → Int32) (p k : Nat) : Prop := ∃ z h, 1 ≤ z ∧ z ≤ 40 ∧ s (wi p k + 0) = nI z ∧ h < 16 ∧ s (wi p k + 3) = nI h ∧ Nat.testBit h p = true
def pop4 (h : Nat) : Nat := (if Nat.testBit h 0 then 1 else 0) + (if Nat.testBit h 1 then 1 else 0) + (if Nat.testBit h 2 then 1 else 0) + (if Nat.testBit h 3 then 1 else 0)
/-- how many turns a bite may still be held, at most: whose turn it is m, its holder p, its holders so far h -/
def phi (m p h : Nat) : Nat := (p + 4 - m) % 4 + 3 * (4 - pop4 h)
def cB (s : Nat → Int32) (m t p : Nat) : Nat := ((List.range (aMany s p)).filter (fun k => decide (t ≤ phi m p (s (wi p k + 3)).toNatClampNeg))).length
def home (s : Nat → Int32) : Nat := (if ro s 0 2 = 0 then 0 else 1) + (if ro s 1 2 = 0 then 0 else 1) + (if ro s 2 2 = 0 then 0 else 1) + (if ro s 3 2 = 0 then 0 else 1)
def Inv (B : Nat) (s : Nat → Int32) : Prop :=
  10 ≤ B ∧ B < 1000000 ∧ (∀ p, p < 4 → iPl s p) ∧ (∀ p, p < 4 → ∀ k, k < aMany s p → iBt s p k) ∧ (∀ i, i < 10 → iSn B s i) ∧ (∀ i j, i < 10 → j < 10 → i ≠ j → sn s i 0 = sn s j 0 → sn s i 0 = 0)
  ∧ (∃ a, a ≤ 9 ∧ s 5 = nI a) ∧ s 4 = nI (home s) ∧ ∃ m, m < 4 ∧ s 1 = nI m ∧ (¬ s 4 = 4 → ro s m 2 = 0) ∧ ∀ t, t ≤ 13 → cB s m t 0 + cB s m t 1 + cB s m t 2 + cB s m t 3 ≤ 13 - t
theorem Inv.many {B : Nat} {s : Nat → Int32} (h : Inv B s) {p : Nat} (hp : p < 4) : ro s p 5 = nI (aMany s p) ∧ aMany s p < 14 := by
  obtain ⟨q, n, -, -, h3, h4, -⟩ := h.2.2.1 p hp
  unfold aMany
  rw [h4, nI_clamp (by omega)]
  exact ⟨rfl, h3⟩
theorem Inv.mOk {B : Nat} {s : Nat → Int32} (h : Inv B s) : mOk s := fun p hp => ⟨aMany s p, by have := (h.many hp).2; omega, (h.many hp).1⟩
theorem Inv.now {B : Nat} {s : Nat → Int32} (h : Inv B s) : ∃ m, m < 4 ∧ s 1 = nI m := by
  obtain ⟨m, h1, h2, -⟩ := h.2.2.2.2.2.2.2.2
  exact ⟨m, h1, h2⟩
