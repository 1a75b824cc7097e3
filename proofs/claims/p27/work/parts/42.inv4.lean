variable {nT : Nat}
theorem sub_btw {h t : Nat} (hh : h ≤ 59) (ht : t ≤ 53) (q : 6 ≤ nI h - nI t ∧ nI h - nI t ≤ 40) : t + 6 ≤ h ∧ h ≤ t + 40 := by
  have h1 := i32_le.mp q.1
  have h2 := i32_le.mp q.2
  rw [show (6 : Int32).toInt = 6 from by decide, Int32.toInt_sub, nI_toInt (by omega), nI_toInt (by omega), Int.bmod_eq_of_le (by omega) (by omega)] at h1
  rw [show (40 : Int32).toInt = 40 from by decide, Int32.toInt_sub, nI_toInt (by omega), nI_toInt (by omega), Int.bmod_eq_of_le (by omega) (by omega)] at h2
  omega
theorem Inv_snake {B : Nat} {s : Nat → Int32} (h : Inv B s) {a b : Int32} (hok : aSnkOk s a b) : Inv B (aSnkF s a b) := by
  obtain ⟨⟨ha, hb, hd⟩, hat, hcn⟩ := hok
  obtain ⟨x, x1, x2, rfl⟩ := i32_btw 7 59 (by decide) ha (by decide)
  obtain ⟨y, y1, y2, rfl⟩ := i32_btw 1 53 (by decide) hb (by decide)
  have hxy := sub_btw x2 y2 hd
  have hfr : aFrF s 10 0 < 10 := by
    cases hz : plR 1 (frX s) with
    | none => exact absurd (frX_none hz) hcn
    | some r => exact (frX_some hz).2.1
  have e0 : sn (aSnkF s (nI x) (nI y)) (aFrF s 10 0) 0 = nI x := by unfold sn aSnkF; simp (disch := omega) only [upd_ne, upd_eq]
  have e1 : sn (aSnkF s (nI x) (nI y)) (aFrF s 10 0) 1 = nI y := by unfold sn aSnkF; simp (disch := omega) only [upd_ne, upd_eq]
  have e2 : sn (aSnkF s (nI x) (nI y)) (aFrF s 10 0) 2 = 0 := by unfold sn aSnkF; simp (disch := omega) only [upd_ne, upd_eq]
  have hne : ∀ i', ¬ i' = aFrF s 10 0 → ∀ f, f < 4 → sn (aSnkF s (nI x) (nI y)) i' f = sn s i' f := fun i' q f hf => by
    unfold sn aSnkF
    simp (disch := omega) only [upd_ne]
  have hno : ∀ i, i < 10 → ¬ sn s i 0 = nI x := fun i hi q => aSn_ex ⟨q, nI_lt (a := 0) (by omega) (by omega)⟩ 10 (by decide) hi hat
  refine Inv_snk h (Nat.le_refl _) h.2.1 (fun j hj => by unfold aSnkF; simp (disch := omega) only [upd_ne]) (fun i' hi' => ?_) (fun i j hi hj hij q => ?_)
  · by_cases q : i' = aFrF s 10 0
    · rw [q]; exact ⟨Or.inr ⟨x, y, x1, x2, y1, y2, hxy.1, hxy.2, e0, e1⟩, 0, by omega, e2⟩
    · exact (h.2.2.2.2.1 i' hi').cg (hne i' q)
  · by_cases qa : i = aFrF s 10 0
    · have qb : ¬ j = aFrF s 10 0 := fun z => hij (qa.trans z.symm)
      rw [qa, e0, hne j qb 0 (by decide)] at q
      exact absurd q.symm (hno j hj)
    · by_cases qb : j = aFrF s 10 0
      · rw [qb, e0, hne i qa 0 (by decide)] at q
        exact absurd q (hno i hi)
      · rw [hne i qa 0 (by decide), hne j qb 0 (by decide)] at q
        rw [hne i qa 0 (by decide)]
        exact h.2.2.2.2.2.1 i j hi hj hij q
