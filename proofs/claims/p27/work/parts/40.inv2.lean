variable {nT : Nat}
/-- only what a setting, a count changes -/
theorem Inv_set5 {B : Nat} {s t : Nat → Int32} (h : Inv B s) (e : ∀ j, j < 392 → (8 ≤ j ∨ j = 4 ∨ j = 1) → t j = s j) (h50 : ∃ a, a ≤ 9 ∧ t 5 = nI a) : Inv B t := by
  have ero : ∀ p f, p < 4 → f < 6 → ro t p f = ro s p f := fun p f hp hf => e _ (by omega) (by omega)
  have eM : ∀ p, p < 4 → aMany t p = aMany s p := fun p hp => by unfold aMany; rw [ero p 5 hp (by decide)]
  have esn : ∀ i f, i < 10 → f < 4 → sn t i f = sn s i f := fun i f hi hf => e _ (by omega) (by omega)
  have ewi : ∀ p k f, p < 4 → k < 20 → f < 4 → t (wi p k + f) = s (wi p k + f) := fun p k f hp hk hf => e _ (by have := wi_lt hp hk; omega) (by unfold wi; omega)
  have eh : home t = home s := by unfold home; rw [ero 0 2 (by decide) (by decide), ero 1 2 (by decide) (by decide), ero 2 2 (by decide) (by decide), ero 3 2 (by decide) (by decide)]
  have ecB : ∀ m j p, p < 4 → cB t m j p = cB s m j p := fun m j p hp => by
    unfold cB
    rw [eM p hp]
    congr 1
    apply List.filter_congr
    intro k hk
    have hk2 := List.mem_range.mp hk
    rw [ewi p k 3 hp (by have := (h.many hp).2; omega) (by decide)]
  have hmany := fun p hp => (h.many (p := p) hp).2
  obtain ⟨h1, h2, h3, h4, h5, h6, ⟨a, ha, ea⟩, h8, m, hm, em, hm0, hcb⟩ := h
  refine ⟨h1, h2, fun p hp => ?_, fun p hp k hk => ?_, fun i hi => ?_, fun i j hi hj hij q => ?_, h50, by rw [e 4 (by decide) (by decide), eh]; exact h8, m, hm, by rw [e 1 (by decide) (by decide)]; exact em, fun q => ?_, fun j hj => ?_⟩
  · obtain ⟨q, n, b1, b2, b3, b4, b5, b6⟩ := h3 p hp
    exact ⟨q, n, b1, by rw [ero p 0 hp (by decide)]; exact b2, b3, by rw [ero p 5 hp (by decide)]; exact b4, by rw [ero p 2 hp (by decide)]; exact b5, b6⟩
  · rw [eM p hp] at hk
    have hk20 : k < 20 := by have := hmany p hp; omega
    obtain ⟨z, y, b1, b2, b3, b4, b5, b6⟩ := h4 p hp k hk
    exact ⟨z, y, b1, b2, by rw [ewi p k 0 hp hk20 (by decide)]; exact b3, b4, by rw [ewi p k 3 hp hk20 (by decide)]; exact b5, b6⟩
  · have := h5 i hi
    unfold iSn at this ⊢
    rw [esn i 0 hi (by decide), esn i 1 hi (by decide), esn i 2 hi (by decide)]
    exact this
  · rw [esn i 0 hi (by decide), esn j 0 hj (by decide)] at q
    rw [esn i 0 hi (by decide)]
    exact h6 i j hi hj hij q
  · rw [e 4 (by decide) (by decide)] at q
    rw [ero m 2 hm (by decide)]
    exact hm0 q
  · rw [ecB m j 0 (by decide), ecB m j 1 (by decide), ecB m j 2 (by decide), ecB m j 3 (by decide)]
    exact hcb j hj
theorem Inv_set {B : Nat} {s : Nat → Int32} (h : Inv B s) {x v : Int32} (hok : aSetOk x v) : Inv B (aSetF s x v) := by
  obtain ⟨i, hi, rfl⟩ := hok.1.nat
  unfold aSetF
  rw [nI_clamp (by omega)]
  refine Inv_set5 h (fun j _ hj => upd_ne v (by omega)) ?_
  rcases (show i = 0 ∨ 0 < i by omega) with rfl | h0
  · have h1 : (0 : Int32) ≤ v := hok.2.1
    have h2 : v ≤ 9 := hok.2.2
    obtain ⟨j, hj, rfl⟩ := nI_of (Int32.not_lt.mpr h1)
    exact ⟨j, (nI_leI (b := 9) hj (by decide)).mp h2, upd_eq _ rfl⟩
  · obtain ⟨a, ha, ea⟩ := h.2.2.2.2.2.2.1
    exact ⟨a, ha, by rw [upd_ne v (by omega)]; exact ea⟩
