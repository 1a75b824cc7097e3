variable {nT : Nat}
/-! sales: what the reasons and the cheapest buyer tell -/
section
variable {B : Nat} {s : Nat → Int32} {p j b : Nat}
theorem see_in (hI : Inv B s) (hp : p < 4) (hj : j < aMany s p) (hb : b < 4) {c : Nat} (hc : c ≤ 99) : aSeE s (nI p) (nI j) (nI b) (nI c) = if b = p then -2 else 0 := by
  unfold aSeE
  rw [if_neg (fun z => z ⟨aBt_p hI hp hj, le3 hb⟩)]
  by_cases q : b = p
  · rw [if_pos q, if_neg (fun z => z.2 (by rw [q]))]
  · rw [if_neg q, if_pos ⟨⟨nI_pos' (by omega), nI_le (b := 99) hc (by decide)⟩, fun z => q (nI_inj (by omega) (by omega) z).symm⟩]
theorem why_in (hI : Inv B s) (hp : p < 4) (hj : j < aMany s p) (hb : b < 4) {c : Nat} (hc : c ≤ 99) : aWhy s (nI p) (nI j) (nI b) (nI c) = if b = p then -2 else aRea s p j b (nI c) := by
  have hm := hI.many hp
  unfold aWhy
  rw [see_in hI hp hj hb hc]
  by_cases q : b = p
  · rw [if_pos q, if_pos q, if_pos (by decide)]
  · rw [if_neg q, if_neg q, if_neg (by decide), nI_clamp (by omega), nI_clamp (by omega), nI_clamp (by omega)]
theorem rea_pos (c : Int32) (h : ¬ aRea s p j b c = 0) : 0 < aRea s p j b c := by
  unfold aRea at h ⊢
  split
  · decide
  · rename_i h1
    rw [if_neg h1] at h
    split
    · decide
    · rename_i h2
      rw [if_neg h2] at h
      split
      · decide
      · rename_i h3
        rw [if_neg h3] at h
        split
        · decide
        · rename_i h4
          rw [if_neg h4] at h
          split
          · decide
          · rename_i h5
            rw [if_neg h5] at h
            exact absurd rfl h
theorem rea_of {c : Int32} (h1 : ro s b 2 = 0) (h2 : ¬ s 7 ≤ s (wi p j + 1)) (h3 : ¬ s (wi p j + 3) >>> (nI b &&& 31) &&& 1 = 1) (h4 : ¬ ro s p 1 - c < - s 6) (h5 : ¬ c < aAsk s (s (wi p j + 0)) b) : aRea s p j b c = 0 := by
  unfold aRea
  rw [if_neg (fun z => z h1), if_neg h2, if_neg h3, if_neg h4, if_neg h5]
/-- if a sale is possible at all, it is with the coins that are asked, and no fewer are enough -/
theorem ask_least (hI : Inv B s) (hJ : J B s) (hp : p < 4) (hj : j < aMany s p) (hb : b < 4) (hne : ¬ b = p) {c a : Nat} (hc : c ≤ 99) (ea : aAsk s (s (wi p j + 0)) b = nI a) (ha : a ≤ 40) (h : aWhy s (nI p) (nI j) (nI b) (nI c) = 0) : a ≤ c ∧ aWhy s (nI p) (nI j) (nI b) (nI a) = 0 := by
  rw [why_in hI hp hj hb hc, if_neg hne] at h
  rw [why_in hI hp hj hb (by omega), if_neg hne]
  obtain ⟨d1, d2, d3, d4, d5⟩ := rea_debt h
  have hac : a ≤ c := by
    rw [ea] at d5
    exact Nat.le_of_not_lt (fun z => d5 (nI_lt z (by omega)))
  refine ⟨hac, rea_of d1 d2 d3 (fun z => d4 ?_) (by rw [ea]; exact Int32.lt_irrefl)⟩
  have hbd := hJ.2.1.bd p hp
  have x1 := (toInt_small (x := ro s p 1) (y := a) (by omega) (by omega)).1
  have x2 := (toInt_small (x := ro s p 1) (y := c) (by omega) (by omega)).1
  rw [i32_lt] at z ⊢
  rw [x1] at z
  rw [x2]
  omega
def chN (s : Nat → Int32) (p j i : Nat) (r : Int32 × Int32) : Prop := (r = (100, -5) ∧ ∀ b, b < i → ∀ a, a ≤ 40 → aAsk s (s (wi p j + 0)) b = nI a → ¬ aWhy s (nI p) (nI j) (nI b) (nI a) = 0) ∨ ∃ b a, b < i ∧ a ≤ 40 ∧ r = (nI a, nI (100 * b + a)) ∧ aAsk s (s (wi p j + 0)) b = nI a ∧ aWhy s (nI p) (nI j) (nI b) (nI a) = 0 ∧ ∀ b', b' < i → ∀ a', a' ≤ 40 → aAsk s (s (wi p j + 0)) b' = nI a' → aWhy s (nI p) (nI j) (nI b') (nI a') = 0 → a ≤ a' ∧ (b' < b → a < a')
theorem ch_all (hI : Inv B s) (hp : p < 4) (hj : j < aMany s p) : ∀ i, i ≤ 4 → chN s p j i (ccF s p j i)
  | 0, _ => Or.inl ⟨rfl, fun b h => absurd h (Nat.not_lt_zero b)⟩
  | i + 1, hi => by
    have ih := ch_all hI hp hj i (by omega)
    obtain ⟨a, ha, ea⟩ := hI.ask hp hj (b := i) (by omega)
    show chN s p j (i + 1) (if aAsk s (s (wi p j + 0)) i < (ccF s p j i).1 ∧ aWhy s (nI p) (nI j) (nI i) (aAsk s (s (wi p j + 0)) i) = 0 then (aAsk s (s (wi p j + 0)) i, 100 * nI i + aAsk s (s (wi p j + 0)) i) else ccF s p j i)
    have e100 : (100 : Int32) * nI i + nI a = nI (100 * i + a) := by rw [show (100 : Int32) = nI 100 from rfl, nI_mul, nI_add]
    rw [ea, e100]
    rcases ih with ⟨r1, r2⟩ | ⟨b, a0, b1, b2, b3, b4, b5, b6⟩
    · rw [r1]
      by_cases q : aWhy s (nI p) (nI j) (nI i) (nI a) = 0
      · rw [if_pos ⟨nI_lt (b := 100) (by omega) (by decide), q⟩]
        refine Or.inr ⟨i, a, by omega, ha, rfl, ea, q, fun b' hb' a' ha' ea' hw => ?_⟩
        by_cases q2 : b' = i
        · subst q2
          have : a' = a := nI_inj (by omega) (by omega) (ea'.symm.trans ea)
          omega
        · exact absurd hw (r2 b' (by omega) a' ha' ea')
      · rw [if_neg (fun z => q z.2)]
        refine Or.inl ⟨rfl, fun b' hb' a' ha' ea' hw => ?_⟩
        by_cases q2 : b' = i
        · subst q2
          rw [nI_inj (by omega) (by omega) (ea'.symm.trans ea)] at hw
          exact q hw
        · exact r2 b' (by omega) a' ha' ea' hw
    · rw [b3]
      by_cases q : aWhy s (nI p) (nI j) (nI i) (nI a) = 0
      · by_cases q3 : a < a0
        · rw [if_pos ⟨nI_lt q3 (by omega), q⟩]
          refine Or.inr ⟨i, a, by omega, ha, rfl, ea, q, fun b' hb' a' ha' ea' hw => ?_⟩
          by_cases q2 : b' = i
          · subst q2
            have : a' = a := nI_inj (by omega) (by omega) (ea'.symm.trans ea)
            omega
          · have := b6 b' (by omega) a' ha' ea' hw
            exact ⟨by omega, fun _ => by omega⟩
        · rw [if_neg (fun z => q3 ((nI_ltI (by omega) (by omega)).mp z.1))]
          refine Or.inr ⟨b, a0, by omega, b2, rfl, b4, b5, fun b' hb' a' ha' ea' hw => ?_⟩
          by_cases q2 : b' = i
          · subst q2
            have : a' = a := nI_inj (by omega) (by omega) (ea'.symm.trans ea)
            exact ⟨by omega, fun z => by omega⟩
          · exact b6 b' (by omega) a' ha' ea' hw
      · rw [if_neg (fun z => q z.2)]
        refine Or.inr ⟨b, a0, by omega, b2, rfl, b4, b5, fun b' hb' a' ha' ea' hw => ?_⟩
        by_cases q2 : b' = i
        · subst q2
          rw [nI_inj (by omega) (by omega) (ea'.symm.trans ea)] at hw
          exact absurd hw q
        · exact b6 b' (by omega) a' ha' ea' hw
/-- the cheapest buyer, in the law's words -/
theorem che_ok (hI : Inv B s) (hJ : J B s) (hp : p < 4) (hj : j < aMany s p) : (cheR s (nI p) (nI j) = -5 ∧ ∀ b c, b < 4 → c < 60 → ¬ b = p → ¬ aWhy s (nI p) (nI j) (nI b) (nI c) = 0) ∨ ∃ b a, b < 4 ∧ a ≤ 40 ∧ cheR s (nI p) (nI j) = nI (100 * b + a) ∧ aWhy s (nI p) (nI j) (nI b) (nI a) = 0 ∧ (∀ b' c, b' < 4 → c < a → ¬ b' = p → ¬ aWhy s (nI p) (nI j) (nI b') (nI c) = 0) ∧ ∀ b', b' < b → ¬ b' = p → ¬ aWhy s (nI p) (nI j) (nI b') (nI a) = 0 := by
  have hm := hI.many hp
  have e : cheR s (nI p) (nI j) = (ccF s p j 4).2 := by
    unfold cheR
    rw [if_pos (aBt_p hI hp hj), nI_clamp (by omega), nI_clamp (by omega)]
  rw [e]
  rcases ch_all hI hp hj 4 (Nat.le_refl _) with ⟨r1, r2⟩ | ⟨b, a0, b1, b2, b3, b4, b5, b6⟩
  · refine Or.inl ⟨by rw [r1], fun b c hb hc hne hw => ?_⟩
    obtain ⟨a, ha, ea⟩ := hI.ask hp hj hb
    exact r2 b hb a ha ea (ask_least hI hJ hp hj hb hne (by omega) ea ha hw).2
  · refine Or.inr ⟨b, a0, b1, b2, by rw [b3], b5, fun b' c hb hc hne hw => ?_, fun b' hb hne hw => ?_⟩
    · obtain ⟨a, ha, ea⟩ := hI.ask hp hj hb
      obtain ⟨l1, l2⟩ := ask_least hI hJ hp hj hb hne (by omega) ea ha hw
      have := (b6 b' hb a ha ea l2).1
      omega
    · obtain ⟨a, ha, ea⟩ := hI.ask hp hj (b := b') (by omega)
      obtain ⟨l1, l2⟩ := ask_least hI hJ hp hj (by omega) hne (by omega) ea ha hw
      have := (b6 b' (by omega) a ha ea l2).2 hb
      omega
end
theorem d100 {b a : Nat} (hb : b < 4) (ha : a ≤ 40) : nI (100 * b + a) / 100 = nI b ∧ nI (100 * b + a) - nI (100 * b + a) / 100 * 100 = nI a := by
  have e : nI (100 * b + a) / 100 = nI b := by
    rw [show (100 : Int32) = nI 100 from rfl, nI_div (by omega) (by decide) (by decide)]
    congr 1
    omega
  refine ⟨e, ?_⟩
  rw [e, show (100 : Int32) = nI 100 from rfl, nI_mul, nI_sub (by omega)]
  congr 1
  omega
theorem rem4n : ∀ x, x < 4 → (nI x + 1) - (nI x + 1) / 4 * 4 = nI ((x + 1) % 4) := by decide
