/-! what a turn leaves of a row -/
theorem aBit_ne {s : Nat → Int32} {p k : Nat} {q : Int32} (hp : p < 4) (hk : k < 10) (hm : aMany s p = 0) (h5 : ro s p 5 = nI 0) (hq : aSnAt s q = nI k) {j : Nat} (h2 : ¬ j = 2) (h3 : ¬ j = 8 + 6 * p + 3) (h5' : ¬ j = 8 + 6 * p + 5) (hw : j < wi p 0 ∨ wi p 0 + 4 ≤ j) (hs2 : ¬ j = 352 + 4 * k + 2) (hs3 : ¬ j = 352 + 4 * k + 3) : aBit s p q j = s j := by
  rw [bitR_eq hp (n := 0) (by decide) hk hm h5 hq]
  unfold bitR bitR4 bitR3 bitR2 bitR1
  simp (disch := omega) only [upd_ne, bt4_ne]
theorem aBit_5 {s : Nat → Int32} {p k : Nat} {q : Int32} (hp : p < 4) (hk : k < 10) (hm : aMany s p = 0) (h5 : ro s p 5 = nI 0) (hq : aSnAt s q = nI k) : ro (aBit s p q) p 5 = nI 1 := by
  have hw : wi p 0 = 32 + 4 * (20 * p + 0) := rfl
  unfold ro
  rw [bitR_eq hp (n := 0) (by decide) hk hm h5 hq]
  unfold bitR bitR4 bitR3 bitR2 bitR1
  simp (disch := omega) only [upd_ne, upd_eq]
theorem aBit_w {s : Nat → Int32} {p k : Nat} {q : Int32} (hp : p < 4) (hk : k < 10) (hm : aMany s p = 0) (h5 : ro s p 5 = nI 0) (hq : aSnAt s q = nI k) : aBit s p q (wi p 0 + 0) = sn s k 0 - sn s k 1 ∧ aBit s p q (wi p 0 + 3) = 1 <<< (nI p &&& 31) := by
  have hw : wi p 0 = 32 + 4 * (20 * p + 0) := rfl
  rw [bitR_eq hp (n := 0) (by decide) hk hm h5 hq, bitR_eq hp (n := 0) (by decide) hk hm h5 hq]
  unfold bitR bitR4 bitR3 bitR2 bitR1 bt4
  refine ⟨?_, ?_⟩
  all_goals simp (disch := omega) only [upd_ne, upd_eq]
theorem aT_at {s : Nat → Int32} {d : Int32} {p : Nat} (hs1 : s 1 = nI p) (hp : p < 4) {j : Nat} (h1 : ¬ j = 1) (h0 : ¬ j = 0) (hj : j < 352) : aT s d j = aT5 s p (aTq s d) j := by
  unfold aT
  rw [aNoF_ne h1, hs1, nI_clamp (by omega)]
  unfold aT7 aT6
  rw [upd_ne _ h0, aSlF_lo _ hj]
theorem aT5_at {s : Nat → Int32} {p : Nat} {q : Int32} {j : Nat} (hp : p < 4) (h4 : ¬ j = 4) (h2 : ¬ j = 8 + 6 * p + 2) : aT5 s p q j = aT4 s p q j := by
  unfold aT5
  by_cases h : q = 60
  · rw [if_pos h]
    unfold aHome aAdd
    rw [upd_ne _ h2, upd_ne _ h4]
  · rw [if_neg h]
