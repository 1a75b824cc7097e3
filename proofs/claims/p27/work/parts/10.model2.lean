variable {nT : Nat}
theorem kW {l : Launch} {g : fw_G} {k : fw_M} {T T' : fw_T} {mc ms : Nat} {Q : Option Value → fw_I → fw_P → Prop} {F : fw_I} {P : fw_P} {u w q : Nat} {L : List (Option Value)} {st : List Value} (h : V l g k T' mc ms Q T F P u w q L st) : ∀ (v : Option Value) (I1 : fw_I) (P1 : fw_P), qV (fun I1 P1 => I1 = F ∧ P1 = P) v I1 P1 → V l g k T' mc ms Q T I1 P1 u w q L (v.toList ++ st) := by
  rintro _ _ _ ⟨rfl, rfl, rfl⟩
  exact h
theorem kX {l : Launch} {g : fw_G} {k : fw_M} {T T' : fw_T} {mc ms : Nat} {Q : Option Value → fw_I → fw_P → Prop} {F : fw_I} {P : fw_P} {u w q : Nat} {L : List (Option Value)} {st : List Value} {f : Int32} (h : V l g k T' mc ms Q T F P u w q L (.int f :: st)) : ∀ (v : Option Value) (I1 : fw_I) (P1 : fw_P), qJ (fun r I1 P1 => r = f ∧ I1 = F ∧ P1 = P) v I1 P1 → V l g k T' mc ms Q T I1 P1 u w q L (v.toList ++ st) := by
  rintro _ _ _ ⟨_, rfl, rfl, rfl, rfl⟩
  exact h
theorem kB {l : Launch} {g : fw_G} {k : fw_M} {T T' : fw_T} {mc ms : Nat} {Q : Option Value → fw_I → fw_P → Prop} {F : fw_I} {P : fw_P} {u w q : Nat} {L : List (Option Value)} {st : List Value} {C : Int32 → Prop} (h : ∀ r : Int32, C r → V l g k T' mc ms Q T F P u w q L (.int r :: st)) : ∀ (v : Option Value) (I1 : fw_I) (P1 : fw_P), qJ (fun r I1 P1 => C r ∧ I1 = F ∧ P1 = P) v I1 P1 → V l g k T' mc ms Q T I1 P1 u w q L (v.toList ++ st) := by
  rintro _ _ _ ⟨r, rfl, hc, rfl, rfl⟩
  exact h r hc
theorem ix_snk {s : Nat → Int32} {x : Int32} {f : Nat} (hx : ¬ aSnAt s x = -5) (hf : f < 4) : fw_ix (352 + 4 * aSnAt s x + nI f) (352 + 4 * (aSnAt s x).toNatClampNeg + f) 392 := by
  obtain ⟨k, hk, e, -, -⟩ := aSnAt_nat hx
  rw [e, nI_clamp (by omega)]
  exact ix_sn hk hf
theorem aRem4_nI {p : Nat} (hp : p < 4) : aRem4 (nI p + 1) = nI ((p + 1) % 4) := by
  have : p = 0 ∨ p = 1 ∨ p = 2 ∨ p = 3 := by omega
  rcases this with rfl | rfl | rfl | rfl <;> decide
theorem nI_eq0 {j : Nat} (h : nI j = 0) (hj : j < 2 ^ 31) : j = 0 := by
  have h1 := nI_toInt hj
  rw [h, Int32.toInt_zero] at h1
  omega
