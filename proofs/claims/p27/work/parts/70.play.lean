variable {nT : Nat}
/-! many turns: what they leave, and who comes home first -/
theorem py_base : ∀ (n : Nat) (x : Int32) (s : Nat → Int32) (B : Nat), B + n < 1000000 → Inv B s → J B s → (0 ≤ x ∧ x ≤ 65535) → (aPyF n x s).1 ≤ n ∧ Inv (B + n) (aPyF n x s).2 ∧ J (B + n) (aPyF n x s).2 ∧ (aPyF n x s).2 0 = s 0 + nI (aPyF n x s).1 ∧ ((aPyF n x s).1 = n ∨ (aPyF n x s).2 4 = 4) ∧ (0 < n → ¬ s 4 = 4 → 1 ≤ (aPyF n x s).1)
  | 0, _, s, B, _, hI, hJ, _ => ⟨Nat.le_refl _, hI, hJ, (Int32.add_zero _).symm, Or.inl rfl, fun h => absurd h (Nat.lt_irrefl 0)⟩
  | n + 1, x, s, B, hB, hI, hJ, hx => by
    by_cases h4 : s 4 = 4
    · have e : aPyF (n + 1) x s = (0, s) := by unfold aPyF; rw [if_pos h4]
      rw [e]
      exact ⟨Nat.zero_le _, hI.mono (by omega) hB, hJ.mono (by omega), (Int32.add_zero _).symm, Or.inr h4, fun _ z => absurd h4 z⟩
    · have hx1 := aDraw_in hx
      obtain ⟨d, d1, d6, ed⟩ := (aDice_in hx1).nat
      obtain ⟨p, hp, em, hm2, -⟩ := hI.2.2.2.2.2.2.2.2
      obtain ⟨Q, hQ, eQ, hE⟩ := T_eff hI d6 hp em (hm2 h4)
      have e : aPyF (n + 1) x s = ((aPyF n (aDraw x) (aT s (nI d))).1 + 1, (aPyF n (aDraw x) (aT s (nI d))).2) := by rw [← ed]; show (if s 4 = 4 then _ else _) = _; rw [if_neg h4]
      rw [e]
      obtain ⟨i1, i2, i3, i4, i5, i6⟩ := py_base n (aDraw x) (aT s (nI d)) (B + 1) (by omega) ((Inv_T hI h4 d1 d6).mono (by omega) (by omega)) (J_T hI hJ hp (hm2 h4) hE) hx1
      refine ⟨Nat.add_le_add_right i1 1, by rw [show B + (n + 1) = B + 1 + n from by omega]; exact i2, by rw [show B + (n + 1) = B + 1 + n from by omega]; exact i3, ?_, ?_, fun _ _ => by omega⟩
      · show (aPyF n (aDraw x) (aT s (nI d))).2 0 = s 0 + nI ((aPyF n (aDraw x) (aT s (nI d))).1 + 1)
        obtain ⟨-, -, -, -, -, -, -, -, ⟨t0, -⟩, -⟩ := hE
        rw [i4, t0, ← nI_1]
        ac_rfl
      · rcases i5 with z | z
        · exact Or.inl (by show _ + 1 = n + 1; rw [z])
        · exact Or.inr z
theorem py_mono : ∀ (n n' : Nat), n ≤ n' → ∀ (x : Int32) (s : Nat → Int32), (aPyF n x s).1 ≤ (aPyF n' x s).1
  | 0, _, _, _, _ => Nat.zero_le _
  | n + 1, 0, h, _, _ => absurd h (Nat.not_succ_le_zero n)
  | n + 1, n' + 1, h, x, s => by
    show (if s 4 = 4 then (0, s) else ((aPyF n (aDraw x) (aT s (aDice (aDraw x)))).1 + 1, (aPyF n (aDraw x) (aT s (aDice (aDraw x)))).2)).1 ≤ (if s 4 = 4 then (0, s) else ((aPyF n' (aDraw x) (aT s (aDice (aDraw x)))).1 + 1, (aPyF n' (aDraw x) (aT s (aDice (aDraw x)))).2)).1
    by_cases h4 : s 4 = 4
    · rw [if_pos h4, if_pos h4]; exact Nat.le_refl _
    · rw [if_neg h4, if_neg h4]
      exact Nat.add_le_add_right (py_mono n n' (by omega) _ _) 1
/-- places stay; who comes home has a place behind those at home -/
theorem py_places : ∀ (n : Nat) (x : Int32) (s : Nat → Int32) (B : Nat), Inv B s → (0 ≤ x ∧ x ≤ 65535) → ∀ i, i < 4 → (¬ ro s i 2 = 0 → ro (aPyF n x s).2 i 2 = ro s i 2) ∧ (ro s i 2 = 0 → ro (aPyF n x s).2 i 2 = 0 ∨ ∃ v, ro (aPyF n x s).2 i 2 = nI v ∧ home s < v ∧ v ≤ 4)
  | 0, _, s, B, _, _ => fun i hi => ⟨fun _ => rfl, fun h => Or.inl h⟩
  | n + 1, x, s, B, hI, hx => fun i hi => by
    by_cases h4 : s 4 = 4
    · have e : aPyF (n + 1) x s = (0, s) := by unfold aPyF; rw [if_pos h4]
      rw [e]
      exact ⟨fun _ => rfl, fun h => Or.inl h⟩
    · have hx1 := aDraw_in hx
      obtain ⟨d, d1, d6, ed⟩ := (aDice_in hx1).nat
      obtain ⟨p, hp, em, hm2, -⟩ := hI.2.2.2.2.2.2.2.2
      obtain ⟨Q, hQ, eQ, hE⟩ := T_eff hI d6 hp em (hm2 h4)
      have e : (aPyF (n + 1) x s).2 = (aPyF n (aDraw x) (aT s (nI d))).2 := by rw [← ed]; show (if s 4 = 4 then ((0, s) : Nat × (Nat → Int32)) else _).2 = _; rw [if_neg h4]
      have hI' := Inv_T hI h4 d1 d6
      obtain ⟨j1, j2⟩ := py_places n (aDraw x) (aT s (nI d)) B hI' hx1 i hi
      rw [e]
      obtain ⟨-, -, r2, r2p, -⟩ := hE
      have h4e : s 4 = nI (home s) := hI.2.2.2.2.2.2.2.1
      have hl := home_le s
      have hl' := home_le (aT s (nI d))
      by_cases q : i = p
      · subst q
        refine ⟨fun h => absurd (hm2 h4) h, fun _ => ?_⟩
        by_cases q60 : Q = 60
        · rw [if_pos q60, h4e, nI_1] at r2p
          have hz : ¬ ro (aT s (nI d)) i 2 = 0 := fun z => by rw [r2p] at z; have := nI_eq0 z (by omega); omega
          have hh := home_one hp (hm2 h4) hz r2
          exact Or.inr ⟨home s + 1, by rw [j1 hz, r2p], by omega, by omega⟩
        · rw [if_neg q60] at r2p
          have hh : home (aT s (nI d)) = home s := home_same (fun i' hi' => by
            by_cases q : i' = i
            · rw [q, r2p, hm2 h4]
            · exact r2 i' hi' q)
          rw [← hh]
          exact j2 r2p
      · rw [r2 i hi q] at j1 j2
        refine ⟨j1, fun h => (j2 h).imp id ?_⟩
        rintro ⟨v, v1, v2, v3⟩
        refine ⟨v, v1, ?_, v3⟩
        by_cases q60 : Q = 60
        · rw [if_pos q60, h4e, nI_1] at r2p
          have hz : ¬ ro (aT s (nI d)) p 2 = 0 := fun z => by rw [r2p] at z; have := nI_eq0 z (by omega); omega
          have hh := home_one hp (hm2 h4) hz r2
          omega
        · rw [if_neg q60] at r2p
          have hh : home (aT s (nI d)) = home s := home_same (fun i' hi' => by
            by_cases q : i' = p
            · rw [q, r2p, hm2 h4]
            · exact r2 i' hi' q)
          omega
/-- who comes home first in n turns is told by aNxF -/
theorem py_first : ∀ (n : Nat) (x : Int32) (s : Nat → Int32) (B : Nat), Inv B s → (0 ≤ x ∧ x ≤ 65535) → (∀ i, i < 4 → ro (aPyF n x s).2 i 2 = ro s i 2) ∨ ∃ q, q < 4 ∧ ro s q 2 = 0 ∧ ro (aPyF n x s).2 q 2 = nI (home s + 1) ∧ home s + 1 ≤ 4 ∧ (∀ i, i < 4 → ¬ i = q → ro s i 2 = 0 → ro (aPyF n x s).2 i 2 = 0 ∨ ∃ v, ro (aPyF n x s).2 i 2 = nI v ∧ home s + 1 < v ∧ v ≤ 4) ∧ ∀ f, n ≤ f → aNxF f x s = nI q
  | 0, _, s, B, _, _ => Or.inl (fun _ _ => rfl)
  | n + 1, x, s, B, hI, hx => by
    by_cases h4 : s 4 = 4
    · have e : aPyF (n + 1) x s = (0, s) := by unfold aPyF; rw [if_pos h4]
      rw [e]
      exact Or.inl (fun _ _ => rfl)
    · have hx1 := aDraw_in hx
      obtain ⟨d, d1, d6, ed⟩ := (aDice_in hx1).nat
      obtain ⟨p, hp, em, hm2, -⟩ := hI.2.2.2.2.2.2.2.2
      obtain ⟨Q, hQ, eQ, hE⟩ := T_eff hI d6 hp em (hm2 h4)
      have e : (aPyF (n + 1) x s).2 = (aPyF n (aDraw x) (aT s (nI d))).2 := by rw [← ed]; show (if s 4 = 4 then ((0, s) : Nat × (Nat → Int32)) else _).2 = _; rw [if_neg h4]
      have hI' := Inv_T hI h4 d1 d6
      have hpl := py_places n (aDraw x) (aT s (nI d)) B hI' hx1
      have ih := py_first n (aDraw x) (aT s (nI d)) B hI' hx1
      rw [e]
      obtain ⟨-, -, r2, r2p, -⟩ := hE
      have h4e : s 4 = nI (home s) := hI.2.2.2.2.2.2.2.1
      have hl := home_le s
      have hl' := home_le (aT s (nI d))
      by_cases q60 : Q = 60
      · rw [if_pos q60, h4e, nI_1] at r2p
        have hz : ¬ ro (aT s (nI d)) p 2 = 0 := fun z => by rw [r2p] at z; have := nI_eq0 z (by omega); omega
        have hh := home_one hp (hm2 h4) hz r2
        refine Or.inr ⟨p, hp, hm2 h4, by rw [(hpl p hp).1 hz, r2p], by omega, fun i hi q h0 => ?_, fun f hf => ?_⟩
        · rw [← r2 i hi q] at h0
          refine ((hpl i hi).2 h0).imp id ?_
          rintro ⟨v, v1, v2, v3⟩
          exact ⟨v, v1, by omega, v3⟩
        · obtain ⟨f', rfl⟩ : ∃ f', f = f' + 1 := ⟨f - 1, by omega⟩
          show (if aTq s (aDice (aDraw x)) = 60 then s 1 else _) = _
          rw [ed, eQ, q60, if_pos (show nI 60 = 60 from rfl), em]
      · rw [if_neg q60] at r2p
        have e2 : ∀ i, i < 4 → ro (aT s (nI d)) i 2 = ro s i 2 := fun i hi => by
          by_cases q : i = p
          · rw [q, r2p, hm2 h4]
          · exact r2 i hi q
        have hh : home (aT s (nI d)) = home s := home_same e2
        have hn : ¬ aTq s (aDice (aDraw x)) = 60 := by rw [ed, eQ]; exact fun z => q60 (nI_inj (b := 60) (by omega) (by decide) z)
        rcases ih with ih | ⟨q, q1, q2, q3, q4, q5, q6⟩
        · exact Or.inl (fun i hi => (ih i hi).trans (e2 i hi))
        · refine Or.inr ⟨q, q1, by rw [← e2 q q1]; exact q2, by rw [← hh]; exact q3, by omega, fun i hi h1 h0 => ?_, fun f hf => ?_⟩
          · rw [← hh]
            exact q5 i hi h1 (by rw [e2 i hi]; exact h0)
          · obtain ⟨f', rfl⟩ : ∃ f', f = f' + 1 := ⟨f - 1, by omega⟩
            show (if aTq s (aDice (aDraw x)) = 60 then s 1 else aNxF f' (aDraw x) (aT s (aDice (aDraw x)))) = _
            rw [if_neg hn, ed]
            exact q6 f' (by omega)
/-- the law's own search for the first who came home -/
def bsF (s t : Nat → Int32) : Nat → Int32
  | 0 => -5
  | j + 1 => if ro s j 2 = 0 ∧ ¬ ro t j 2 = 0 ∧ (bsF s t j < 0 ∨ ro t j 2 < ro t (bsF s t j).toNatClampNeg 2) then nI j else bsF s t j
theorem bs_min {s t : Nat → Int32} (hv : ∀ i, i < 4 → ro s i 2 = 0 → ¬ ro t i 2 = 0 → ∃ v, ro t i 2 = nI v ∧ 1 ≤ v ∧ v ≤ 4) : ∀ j, j ≤ 4 → (bsF s t j = -5 ∧ ∀ i, i < j → ¬ (ro s i 2 = 0 ∧ ¬ ro t i 2 = 0)) ∨ ∃ i, i < j ∧ bsF s t j = nI i ∧ (ro s i 2 = 0 ∧ ¬ ro t i 2 = 0) ∧ ∀ i', i' < j → (ro s i' 2 = 0 ∧ ¬ ro t i' 2 = 0) → (ro t i 2).toNatClampNeg ≤ (ro t i' 2).toNatClampNeg
  | 0, _ => Or.inl ⟨rfl, fun i h => absurd h (Nat.not_lt_zero i)⟩
  | j + 1, hj => by
    have ih := bs_min hv j (by omega)
    show ((if ro s j 2 = 0 ∧ ¬ ro t j 2 = 0 ∧ (bsF s t j < 0 ∨ ro t j 2 < ro t (bsF s t j).toNatClampNeg 2) then nI j else bsF s t j) = -5 ∧ _) ∨ ∃ i, i < j + 1 ∧ (if ro s j 2 = 0 ∧ ¬ ro t j 2 = 0 ∧ (bsF s t j < 0 ∨ ro t j 2 < ro t (bsF s t j).toNatClampNeg 2) then nI j else bsF s t j) = nI i ∧ _
    by_cases hN : ro s j 2 = 0 ∧ ¬ ro t j 2 = 0
    · obtain ⟨v, v1, v2, v3⟩ := hv j (by omega) hN.1 hN.2
      rcases ih with ⟨i1, i2⟩ | ⟨i, i1, i2, i3, i4⟩
      · rw [if_pos ⟨hN.1, hN.2, Or.inl (by rw [i1]; decide)⟩]
        refine Or.inr ⟨j, by omega, rfl, hN, fun i' hi' hn' => ?_⟩
        by_cases q : i' = j
        · rw [q]; exact Nat.le_refl _
        · exact absurd hn' (i2 i' (by omega))
      · obtain ⟨w, w1, w2, w3⟩ := hv i (by omega) i3.1 i3.2
        rw [i2, nI_clamp (by omega), v1, w1]
        rw [w1, nI_clamp (by omega)] at i4
        by_cases q : v < w
        · rw [if_pos ⟨hN.1, by rw [← v1]; exact hN.2, Or.inr (nI_lt q (by omega))⟩]
          refine Or.inr ⟨j, by omega, rfl, hN, fun i' hi' hn' => ?_⟩
          rw [v1, nI_clamp (by omega)]
          by_cases q' : i' = j
          · rw [q', v1, nI_clamp (by omega)]; exact Nat.le_refl _
          · have := i4 i' (by omega) hn'
            omega
        · rw [if_neg (fun z => z.2.2.elim (fun z1 => absurd z1 (nI_pos (by omega))) (fun z1 => q ((nI_ltI (by omega) (by omega)).mp z1)))]
          refine Or.inr ⟨i, by omega, rfl, i3, fun i' hi' hn' => ?_⟩
          rw [w1, nI_clamp (by omega)]
          by_cases q' : i' = j
          · rw [q', v1, nI_clamp (by omega)]; omega
          · exact i4 i' (by omega) hn'
    · rw [if_neg (fun z => hN ⟨z.1, z.2.1⟩)]
      rcases ih with ⟨i1, i2⟩ | ⟨i, i1, i2, i3, i4⟩
      · refine Or.inl ⟨i1, fun i' hi' => ?_⟩
        by_cases q : i' = j
        · rw [q]; exact hN
        · exact i2 i' (by omega)
      · refine Or.inr ⟨i, by omega, i2, i3, fun i' hi' hn' => ?_⟩
        by_cases q : i' = j
        · rw [q] at hn'; exact absurd hn' hN
        · exact i4 i' (by omega) hn'
theorem bs_first {B n : Nat} {s : Nat → Int32} {x : Int32} (hI : Inv B s) (h4 : ¬ s 4 = 4) (hx : 0 ≤ x ∧ x ≤ 65535) (hn : n ≤ 200) : bsF s (aPyF n x s).2 4 = -5 ∨ ∃ q, q < 4 ∧ bsF s (aPyF n x s).2 4 = nI q ∧ aNxR s x = nI q := by
  have hv : ∀ i, i < 4 → ro s i 2 = 0 → ¬ ro (aPyF n x s).2 i 2 = 0 → ∃ v, ro (aPyF n x s).2 i 2 = nI v ∧ 1 ≤ v ∧ v ≤ 4 := fun i hi a b => by
    rcases (py_places n x s B hI hx i hi).2 a with z | ⟨v, v1, v2, v3⟩
    · exact absurd z b
    · exact ⟨v, v1, by omega, v3⟩
  rcases bs_min hv 4 (Nat.le_refl _) with ⟨i1, -⟩ | ⟨i, i1, i2, i3, i4⟩
  · exact Or.inl i1
  · refine Or.inr ⟨i, i1, i2, ?_⟩
    have e : aNxR s x = aNxF 200 x s := by
      unfold aNxR
      rw [if_neg (fun z => z hx), if_neg h4]
    rw [e]
    rcases py_first n x s B hI hx with z | ⟨q, q1, q2, q3, q4, q5, q6⟩
    · exact absurd ((z i i1).trans i3.1) i3.2
    · rw [q6 200 hn]
      by_cases h : i = q
      · rw [h]
      · exfalso
        have hq := i4 q q1 ⟨q2, fun z => by rw [q3] at z; have := nI_eq0 z (by omega); omega⟩
        rcases q5 i i1 h i3.1 with z | ⟨v, v1, v2, v3⟩
        · exact i3.2 z
        · rw [v1, q3, nI_clamp (by omega), nI_clamp (by omega)] at hq
          omega
