/-! the abstract race: a row s of 392 numbers, as the reference lays it; what is read off it -/
def ro (s : Nat → Int32) (p f : Nat) : Int32 := s (8 + 6 * p + f)
def wi (p k : Nat) : Nat := 32 + 4 * (20 * p + k)
def sn (s : Nat → Int32) (k f : Nat) : Int32 := s (352 + 4 * k + f)
abbrev aPl (x : Int32) : Prop := 0 ≤ x ∧ x ≤ 3
abbrev aBt (s : Nat → Int32) (x y : Int32) : Prop := aPl x ∧ (0 ≤ y ∧ y ≤ ro s x.toNatClampNeg 5 - 1)
abbrev aSk (s : Nat → Int32) (x : Int32) : Prop := (0 ≤ x ∧ x ≤ 9) ∧ 0 < sn s x.toNatClampNeg 0
def aGo (q d : Int32) : Int32 := if q + d ≤ 60 then q + d else 120 - q - d
def aDraw (x : Int32) : Int32 := (25173 * x + 13849) - (25173 * x + 13849) / 65536 * 65536
def aDice (x : Int32) : Int32 := 1 + x / 10923
/-- the last snake below k with its head on q; -5 if there is none -/
def aSnF (s : Nat → Int32) (q : Int32) : Nat → Int32
  | 0 => -5
  | k + 1 => if sn s k 0 = q ∧ 0 < q then nI k else aSnF s q k
def aSnAt (s : Nat → Int32) (q : Int32) : Int32 := aSnF s q 10
def aCntF (s : Nat → Int32) : Nat → Int32
  | 0 => 0
  | k + 1 => aCntF s k + bI (0 < sn s k 0)
def aHuF (s : Nat → Int32) (p : Nat) : Nat → Int32
  | 0 => 0
  | k + 1 => aHuF s p k + s (wi p k)
/-- how many bites a player holds -/
def aMany (s : Nat → Int32) (p : Nat) : Nat := (ro s p 5).toNatClampNeg
def aHu (s : Nat → Int32) (p : Nat) : Int32 := aHuF s p (aMany s p)
def aBeg (s : Nat → Int32) (p : Nat) : Int32 := if 0 ≤ ro s p 0 - aHu s p then ro s p 0 - aHu s p else 0
def aPiF (s : Nat → Int32) (q : Int32) : Nat → Int32
  | 0 => 0
  | p + 1 => aPiF s q p ||| (if ro s p 0 = q then 1 <<< (nI p &&& 31) else 0)
def aPi (s : Nat → Int32) (q : Int32) : Int32 := aPiF s q 4
def aBites (s : Nat → Int32) (p : Nat) (q : Int32) : Prop := ¬ aSnAt s q = -5 ∧ sn s (aSnAt s q).toNatClampNeg 2 = 0 ∧ aPi s q &&& (1 <<< (nI p &&& 31) ^^^ (-1)) = 0
theorem aSnF_cases (s : Nat → Int32) (q : Int32) : ∀ n, aSnF s q n = -5 ∨ ∃ k, k < n ∧ aSnF s q n = nI k ∧ sn s k 0 = q ∧ 0 < q
  | 0 => Or.inl rfl
  | n + 1 => by
    unfold aSnF
    by_cases h : sn s n 0 = q ∧ 0 < q
    · rw [if_pos h]; exact Or.inr ⟨n, by omega, rfl, h⟩
    · rw [if_neg h]
      rcases aSnF_cases s q n with h1 | ⟨k, h1, h2⟩
      · exact Or.inl h1
      · exact Or.inr ⟨k, by omega, h2⟩
/-- what is so for a row's bites to be read: no more than twenty a player -/
def mOk (s : Nat → Int32) : Prop := ∀ p, p < 4 → ∃ n, n < 20 ∧ ro s p 5 = nI n
theorem mOk.many {s : Nat → Int32} (h : mOk s) {p : Nat} (hp : p < 4) : aMany s p < 20 ∧ ro s p 5 = nI (aMany s p) := by
  obtain ⟨n, hn, e⟩ := h p hp
  unfold aMany
  rw [e, nI_clamp (by omega)]
  exact ⟨hn, rfl⟩
theorem aPl.nat {x : Int32} (h : aPl x) : ∃ p, p < 4 ∧ x = nI p := by
  obtain ⟨j, h1, h2⟩ := nI_of2 (M := 3) (n := 3) rfl (by rw [i32_lt]; have := i32_le.mp h.1; simp at this ⊢; omega) h.2
  exact ⟨j, by omega, h2⟩
theorem ix_of {p w : Nat} (hp : p < 4) (hw : w < 6) : fw_ix (8 + 6 * nI p + nI w) (8 + 6 * p + w) 392 := by
  rw [show (8 : Int32) = nI 8 from rfl, show (6 : Int32) = nI 6 from rfl, nI_mul, nI_add, nI_add]
  exact fw_ix_nI (by omega) (by omega)
theorem ix_sn {k w : Nat} (hk : k < 10) (hw : w < 4) : fw_ix (352 + 4 * nI k + nI w) (352 + 4 * k + w) 392 := by
  rw [show (352 : Int32) = nI 352 from rfl, show (4 : Int32) = nI 4 from rfl, nI_mul, nI_add, nI_add]
  exact fw_ix_nI (by omega) (by omega)
theorem wi_nI (p k : Nat) : (32 : Int32) + 4 * (20 * nI p + nI k) = nI (wi p k) := by
  rw [show (32 : Int32) = nI 32 from rfl, show (4 : Int32) = nI 4 from rfl, show (20 : Int32) = nI 20 from rfl, nI_mul, nI_add, nI_mul, nI_add]
  rfl
theorem wi_lt {p k : Nat} (hp : p < 4) (hk : k < 20) : wi p k + 3 < 352 := by unfold wi; omega
theorem ix_wi {p k f : Nat} (hp : p < 4) (hk : k < 20) (hf : f < 4) : fw_ix (nI (wi p k) + nI f) (wi p k + f) 392 := by
  rw [nI_add]
  have := wi_lt hp hk
  exact fw_ix_nI (by omega) (by omega)
