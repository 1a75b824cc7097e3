variable {nT : Nat}
theorem sw_cases (n : Nat) (hn : n < 2 ^ 31) (x : Int32) : (x.toInt < 0 ∨ (n : Int) < x.toInt) ∨ ∃ i, i ≤ n ∧ x = nI i := by
  by_cases h : x < 0
  · exact Or.inl (Or.inl (by rw [i32_lt, Int32.toInt_zero] at h; exact h))
  · obtain ⟨j, hj, e⟩ := nI_of h
    by_cases h2 : j ≤ n
    · exact Or.inr ⟨j, h2, e⟩
    · refine Or.inl (Or.inr ?_)
      rw [e, nI_toInt hj]
      omega
theorem sw_ne {n k : Nat} {x : Int32} (h : x.toInt < 0 ∨ (n : Int) < x.toInt) (hk : k ≤ n) (hn : n < 2 ^ 31) : ¬ x = nI k := by
  intro e
  rw [e, nI_toInt (by omega)] at h
  omega
def aPlr (s : Nat → Int32) (p : Nat) (w : Int32) : Int32 :=
  if w = nI 0 then ro s p 0 else if w = nI 1 then ro s p 1 + 1000 else if w = nI 2 then ro s p 5 else if w = nI 3 then aHu s p else if w = nI 4 then aBeg s p
  else if w = nI 5 then (if ro s p 2 = 0 then -5 else ro s p 2) else if w = nI 6 then ro s p 3 else if w = nI 7 then ro s p 4 else -2
def aPlrX (s : Nat → Int32) (x w : Int32) : Int32 := if aPl x then aPlr s x.toNatClampNeg w else -1
def aBitX (s : Nat → Int32) (x y w : Int32) : Int32 := if aBt s x y then (if 0 ≤ w ∧ w ≤ 3 then s (wi x.toNatClampNeg y.toNatClampNeg + w.toNatClampNeg) else -2) else -1
def aSnkX (s : Nat → Int32) (x w : Int32) : Int32 := if aSk s x then (if 0 ≤ w ∧ w ≤ 3 then sn s x.toNatClampNeg w.toNatClampNeg else -2) else -1
def aTaF (s : Nat → Int32) (q : Int32) : Nat → Int32
  | 0 => 0
  | k + 1 => aTaF s q k + bI (0 < sn s k 0 ∧ sn s k 1 = q)
def aSqX (s : Nat → Int32) (q w : Int32) : Int32 := if (0 ≤ q ∧ q ≤ 60) ∧ (0 ≤ w ∧ w ≤ 2) then (if w = 0 then aPi s q else if w = 1 then aSnAt s q else aTaF s q 10) else -2
def aSuF (s : Nat → Int32) (f : Nat) : Nat → Int32
  | 0 => 0
  | p + 1 => aSuF s f p + ro s p f
def aCntX (s : Nat → Int32) (kept len : Int32) (w : Int32) : Int32 :=
  if w = nI 0 then s 0 else if w = nI 1 then (if s 4 = 4 then -5 else s 1) else if w = nI 2 then 4 - s 4 else if w = nI 3 then aCntF s 10 else if w = nI 4 then aSuF s 5 4
  else if w = nI 5 then s 2 else if w = nI 6 then s 3 else if w = nI 7 then aSuF s 1 4 else if w = nI 8 then s 5 else if w = nI 9 then s 6 else if w = nI 10 then s 7 else if w = nI 11 then kept else if w = nI 12 then len else -2
theorem aSeE_cases (s : Nat → Int32) (x y z c : Int32) : (aSeE s x y z c < 0 ∧ (aSeE s x y z c = -1 ∨ aSeE s x y z c = -2)) ∨ (aSeE s x y z c = 0 ∧ (aBt s x y ∧ aPl z) ∧ (0 ≤ c ∧ c ≤ 99) ∧ ¬ x = z) := by
  unfold aSeE
  by_cases h1 : aBt s x y ∧ aPl z
  · rw [if_neg (fun h => h h1)]
    by_cases h2 : (0 ≤ c ∧ c ≤ 99) ∧ ¬ x = z
    · rw [if_pos h2]; exact Or.inr ⟨rfl, h1, h2⟩
    · rw [if_neg h2]; exact Or.inl ⟨by decide, Or.inr rfl⟩
  · rw [if_pos h1]; exact Or.inl ⟨by decide, Or.inl rfl⟩
def aWhy (s : Nat → Int32) (x y z c : Int32) : Int32 := if aSeE s x y z c < 0 then aSeE s x y z c else aRea s x.toNatClampNeg y.toNatClampNeg z.toNatClampNeg c
theorem aBt.nat {s : Nat → Int32} {x y : Int32} (hm : mOk s) (h : aBt s x y) : ∃ p k, p < 4 ∧ x = nI p ∧ k < aMany s p ∧ y = nI k ∧ k < 20 := by
  obtain ⟨p, hp, rfl⟩ := h.1.nat
  have hc : (nI p).toNatClampNeg = p := nI_clamp (by omega)
  obtain ⟨-, h1, h2⟩ := h
  rw [hc, (hm.many hp).2] at h2
  have hl := (hm.many hp).1
  obtain ⟨k, hk, rfl⟩ := nI_of (x := y) (by rw [i32_lt, Int32.toInt_zero]; have := i32_le.mp h1; rw [Int32.toInt_zero] at this; omega)
  have h3 : k < aMany s p := by
    rcases Nat.eq_zero_or_pos (aMany s p) with h0 | h0
    · rw [h0] at h2
      have := i32_le.mp h2
      rw [nI_toInt hk, show (nI 0 - 1).toInt = -1 from by decide] at this
      omega
    · obtain ⟨j, hj⟩ : ∃ j, aMany s p = j + 1 := ⟨aMany s p - 1, by omega⟩
      rw [hj, nI_pred] at h2
      have := (nI_leI hk (by omega)).mp h2
      omega
  exact ⟨p, k, hp, rfl, h3, rfl, by omega⟩
def aChS (s : Nat → Int32) (p k b : Nat) (f : Int32) : Int32 :=
  if (¬ nI b = nI p ∧ aAsk s (s (wi p k + 0)) b ≤ 99 ∧ aRea s p k b (aAsk s (s (wi p k + 0)) b) = 0) ∧ (f = -5 ∨ aAsk s (s (wi p k + 0)) b ≤ f - f / 100 * 100) then 100 * nI b + aAsk s (s (wi p k + 0)) b else f
def aChe (s : Nat → Int32) (p k : Nat) : Int32 := aChS s p k 0 (aChS s p k 1 (aChS s p k 2 (aChS s p k 3 (-5))))
def aCheX (s : Nat → Int32) (x y : Int32) : Int32 := if aBt s x y then aChe s x.toNatClampNeg y.toNatClampNeg else -1
def aDaF (s : Nat → Int32) (p : Nat) : Nat → Int32
  | 0 => 0
  | d + 1 => aDaF s p d ||| (if aBites s p (aGo (aBeg s p) (nI (d + 1))) then 1 <<< (nI (d + 1) &&& 31) else 0)
def aDanX (s : Nat → Int32) (x : Int32) : Int32 := if aPl x then (if ro s x.toNatClampNeg 2 = 0 then aDaF s x.toNatClampNeg 6 else -4) else -1
