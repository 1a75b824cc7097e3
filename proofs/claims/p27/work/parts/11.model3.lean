variable {nT : Nat}
theorem V_Q {l : Launch} {g : fw_G} {k : fw_M} {T T' : fw_T} {mc ms : Nat} {Q Q0 : Option Value → fw_I → fw_P → Prop} {I : fw_I} {P : fw_P} {u w pc : Nat} {L : List (Option Value)} {st : List Value} (h : ∀ (v : Option Value) (I1 : fw_I) (P1 : fw_P), Q0 v I1 P1 → Q v I1 P1) (kk : V l g k T' mc ms Q0 T I P u w pc L st) : V l g k T' mc ms Q T I P u w pc L st := by
  intro p e s m args below meth c H locs ls hC hK hR hS hL T1 hT X
  obtain ⟨t, a, o, b1, b2, b3, b4⟩ := kk p e s m args below meth c H locs ls hC hK hR hS hL T1 hT X
  obtain ⟨⟨v, I1, P1, e1, e2, e3⟩, e4⟩ := b3
  exact ⟨t, a, o, b1, b2, ⟨⟨v, I1, P1, e1, h v I1 P1 e2, e3⟩, e4⟩, b4⟩
theorem upd_at (s : Nat → Int32) (i : Nat) (x : Int32) (j : Nat) : upd s i x j = if j = i then x else s j := rfl
theorem ro_aAdd (s : Nat → Int32) {p f p2 f2 : Nat} (x : Int32) (hf : f < 6) (hf2 : f2 < 6) : ro (aAdd s p f x) p2 f2 = if p2 = p ∧ f2 = f then ro s p f + x else ro s p2 f2 := by
  unfold aAdd ro
  rw [upd_at]
  by_cases h : p2 = p ∧ f2 = f
  · obtain ⟨rfl, rfl⟩ := h
    simp
  · rw [if_neg h, if_neg]
    omega
theorem aAdd_lo (s : Nat → Int32) (p f : Nat) (x : Int32) {j : Nat} (h : j < 8) : aAdd s p f x j = s j := by
  unfold aAdd
  rw [upd_at, if_neg (by omega)]
theorem aAdd_hi (s : Nat → Int32) {p f : Nat} (x : Int32) {j : Nat} (hp : p < 4) (hf : f < 6) (h : 32 ≤ j) : aAdd s p f x j = s j := by
  unfold aAdd
  rw [upd_at, if_neg (by omega)]
theorem aSlF_lo (s : Nat → Int32) {j : Nat} (h : j < 352) : ∀ n, aSlF s n j = s j
  | 0 => rfl
  | n + 1 => by
    show upd (aSlF s n) _ _ j = _
    rw [upd_at, if_neg (by omega)]
    exact aSlF_lo s h n
theorem aT3_ro (s : Nat → Int32) {p : Nat} (q : Int32) {p2 f : Nat} (hf : f < 6) : ro (aT3 s p q) p2 f = if p2 = p then (if f = 0 then q else if f = 4 then ro s p 4 + (ro s p 0 - aBeg s p) else if f = 5 then 0 else ro s p2 f) else ro s p2 f := by
  have r1 : ∀ f2, f2 < 6 → ro (aT1 s p) p2 f2 = if p2 = p ∧ f2 = 4 then ro s p 4 + (ro s p 0 - aBeg s p) else ro s p2 f2 := fun f2 h => ro_aAdd s _ (by decide) h
  have r1p : ∀ f2, f2 < 6 → ro (aT1 s p) p f2 = if p = p ∧ f2 = 4 then ro s p 4 + (ro s p 0 - aBeg s p) else ro s p f2 := fun f2 h => ro_aAdd s _ (by decide) h
  have r2 : ∀ f2, f2 < 6 → ro (aT2 s p) p2 f2 = if p2 = p ∧ f2 = 5 then 0 else ro (aT1 s p) p2 f2 := fun f2 h => by
    rw [aT2, ro_aAdd _ _ (by decide) h, Int32.add_right_neg]
  have r3 : ro (aT3 s p q) p2 f = if p2 = p ∧ f = 0 then q else ro (aT2 s p) p2 f := by
    rw [aT3, ro_aAdd _ _ (by decide) hf, Int32.add_comm, Int32.sub_add_cancel]
  rw [r3, r2 f hf, r1 f hf]
  by_cases hp : p2 = p
  · subst hp
    by_cases h0 : f = 0
    · simp [h0]
    · by_cases h4 : f = 4
      · simp [h4]
      · by_cases h5 : f = 5
        · simp [h5]
        · simp [h0, h4, h5]
  · simp [hp]
theorem aT3_mOk {s : Nat → Int32} (h : mOk s) (p : Nat) (q : Int32) : mOk (aT3 s p q) := by
  intro p2 hp2
  rw [aT3_ro s q (by decide : 5 < 6)]
  by_cases hp : p2 = p
  · exact ⟨0, by decide, by simp [hp, nI_0]⟩
  · rw [if_neg hp]; exact h p2 hp2
theorem aT3_lo (s : Nat → Int32) (p : Nat) (q : Int32) {j : Nat} (h : j < 8) : aT3 s p q j = s j := by
  unfold aT3 aT2 aT1
  rw [aAdd_lo _ _ _ _ h, aAdd_lo _ _ _ _ h, aAdd_lo _ _ _ _ h]
theorem aGet_1 (s : Nat → Int32) (p : Nat) (x : Int32) : aGet s p x 1 = s 1 := by
  have hw : 32 ≤ wi p (aMany s p) := by unfold wi; omega
  unfold aGet
  rw [upd_at, if_neg (by decide), aAdd_lo _ _ _ _ (by decide), aAdd_lo _ _ _ _ (by decide), upd_at, if_neg (by omega), upd_at, if_neg (by omega), upd_at, if_neg (by omega), upd_at, if_neg (by omega)]
theorem aBit_1 (s : Nat → Int32) (p : Nat) (q : Int32) : aBit s p q 1 = s 1 := by
  unfold aBit
  rw [upd_at, if_neg (by omega), upd_at, if_neg (by omega)]
  exact aGet_1 s p _
theorem aT4_1 (s : Nat → Int32) (p : Nat) (q : Int32) : aT4 s p q 1 = s 1 := by
  unfold aT4
  split
  · rw [aBit_1, aT3_lo _ _ _ (by decide)]
  · rw [aT3_lo _ _ _ (by decide)]
theorem aHome_1 (s : Nat → Int32) (p : Nat) : aHome s p 1 = s 1 := by
  unfold aHome
  rw [aAdd_lo _ _ _ _ (by decide), upd_at, if_neg (by decide)]
theorem nI_m1 {m : Nat} (h : 0 < m) : nI m + -1 = nI (m - 1) := by
  obtain ⟨j, rfl⟩ : ∃ j, m = j + 1 := ⟨m - 1, by omega⟩
  rw [Int32.add_neg_eq_sub, nI_pred]
  rfl
theorem aCp_lo (s : Nat → Int32) {to fr j : Nat} (h : j < to) : ∀ n, aCp s to fr n j = s j
  | 0 => rfl
  | n + 1 => by
    show upd (aCp s to fr n) _ _ j = _
    rw [upd_at, if_neg (by omega)]
    exact aCp_lo s h n
theorem aS3_lo (s : Nat → Int32) (p k b : Nat) {j : Nat} (h : j < 32) : aS3 s p k b j = s j := by
  have hw : 32 ≤ wi b (aMany s b) := by unfold wi; omega
  unfold aS3
  rw [upd_at, if_neg (by omega), upd_at, if_neg (by omega)]
  exact aCp_lo s (by omega) 4
theorem aS5_5 {s : Nat → Int32} (hm : mOk s) {p k b : Nat} (hp : p < 4) (hb : b < 4) (hk : k < aMany s p) (hpb : ¬ p = b) : aS5 s p k b (8 + 6 * p + 5) = nI (aMany s p - 1) := by
  show ro (aS5 s p k b) p 5 = _
  unfold aS5
  rw [ro_aAdd _ _ (by decide) (by decide), if_pos ⟨rfl, rfl⟩, ro_aAdd _ _ (by decide) (by decide), if_neg (fun h => hpb h.1)]
  have e : ro (aS3 s p k b) p 5 = ro s p 5 := by unfold ro; exact aS3_lo s p k b (by omega)
  rw [e, (hm.many hp).2, nI_m1 (by omega)]
