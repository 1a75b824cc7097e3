variable {nT : Nat}
/-- only snakes have changed -/
theorem Inv_snk {B B' : Nat} {s t : Nat → Int32} (h : Inv B s) (hB : B ≤ B') (hB' : B' < 1000000) (e : ∀ j, j < 352 → t j = s j) (hsn : ∀ i, i < 10 → iSn B' t i) (hhd : ∀ i j, i < 10 → j < 10 → i ≠ j → sn t i 0 = sn t j 0 → sn t i 0 = 0) : Inv B' t := by
  have ero : ∀ p f, p < 4 → f < 6 → ro t p f = ro s p f := fun p f hp hf => e _ (by omega)
  have eM : ∀ p, p < 4 → aMany t p = aMany s p := fun p hp => by unfold aMany; rw [ero p 5 hp (by decide)]
  have ewi : ∀ p k f, p < 4 → k < 20 → f < 4 → t (wi p k + f) = s (wi p k + f) := fun p k f hp hk hf => e _ (by have := wi_lt hp hk; omega)
  have eh : home t = home s := by unfold home; rw [ero 0 2 (by decide) (by decide), ero 1 2 (by decide) (by decide), ero 2 2 (by decide) (by decide), ero 3 2 (by decide) (by decide)]
  have ecB : ∀ m j p, p < 4 → cB t m j p = cB s m j p := fun m j p hp => by
    unfold cB
    rw [eM p hp]
    congr 1
    apply List.filter_congr
    intro k hk
    have hk2 := List.mem_range.mp hk
    rw [ewi p k 3 hp (by have := (h.many hp).2; omega) (by decide)]
  have hmany := fun p hp => (h.many (p := p) hp).2
  obtain ⟨h1, h2, h3, h4, h5, h6, ⟨a, ha, ea⟩, h8, m, hm, em, hm0, hcb⟩ := h
  refine ⟨by omega, hB', fun p hp => ?_, fun p hp k hk => ?_, hsn, hhd, ⟨a, ha, by rw [e 5 (by decide)]; exact ea⟩, by rw [e 4 (by decide), eh]; exact h8, m, hm, by rw [e 1 (by decide)]; exact em, fun q => ?_, fun j hj => ?_⟩
  · obtain ⟨q, n, b1, b2, b3, b4, b5, b6⟩ := h3 p hp
    exact ⟨q, n, b1, by rw [ero p 0 hp (by decide)]; exact b2, b3, by rw [ero p 5 hp (by decide)]; exact b4, by rw [ero p 2 hp (by decide)]; exact b5, b6⟩
  · rw [eM p hp] at hk
    have hk20 : k < 20 := by have := hmany p hp; omega
    obtain ⟨z, y, b1, b2, b3, b4, b5, b6⟩ := h4 p hp k hk
    exact ⟨z, y, b1, b2, by rw [ewi p k 0 hp hk20 (by decide)]; exact b3, b4, by rw [ewi p k 3 hp hk20 (by decide)]; exact b5, b6⟩
  · rw [e 4 (by decide)] at q
    rw [ero m 2 hm (by decide)]
    exact hm0 q
  · rw [ecB m j 0 (by decide), ecB m j 1 (by decide), ecB m j 2 (by decide), ecB m j 3 (by decide)]
    exact hcb j hj
theorem iSn.mono {B B' : Nat} {s : Nat → Int32} {i : Nat} (hB : B ≤ B') (h : iSn B s i) : iSn B' s i := ⟨h.1, h.2.elim fun sl z => ⟨sl, by omega, z.2⟩⟩
theorem iSn.cg {B : Nat} {s t : Nat → Int32} {i : Nat} (h : iSn B s i) (e : ∀ f, f < 4 → sn t i f = sn s i f) : iSn B t i := by
  unfold iSn at h ⊢
  rw [e 0 (by decide), e 1 (by decide), e 2 (by decide)]
  exact h
theorem Inv_cha {B : Nat} {s : Nat → Int32} (h : Inv B s) (hB : B + 9 < 1000000) {i : Nat} (hi : i < 10) {t : Int32} (ht : 1 ≤ t ∧ t ≤ 10) (hs : 0 < sn s i 0) : Inv (B + 9) (aChaF s i t) := by
  have hne : ∀ i', ¬ i' = i → ∀ f, f < 4 → sn (aChaF s i t) i' f = sn s i' f := fun i' q f hf => by
    unfold sn aChaF
    simp (disch := omega) only [upd_ne]
  by_cases h10 : t = 10
  · rw [← aChaF_y h10] at hne ⊢
    have e0 : sn (upd (upd s (352 + 4 * i + 2) 0) (352 + 4 * i + 0) 0) i 0 = 0 := upd_eq _ rfl
    have e2 : sn (upd (upd s (352 + 4 * i + 2) 0) (352 + 4 * i + 0) 0) i 2 = 0 := by unfold sn; simp (disch := omega) only [upd_ne, upd_eq]
    refine Inv_snk h (by omega) hB (fun j hj => by simp (disch := omega) only [upd_ne]) (fun i' hi' => ?_) (fun a b ha hb hab q => ?_)
    · by_cases q : i' = i
      · rw [q]; exact ⟨Or.inl ⟨e0, e2⟩, 0, by omega, e2⟩
      · exact ((h.2.2.2.2.1 i' hi').cg (hne i' q)).mono (by omega)
    · by_cases qa : a = i
      · rw [qa]; exact e0
      · by_cases qb : b = i
        · rw [qb, e0] at q; exact q
        · rw [hne a qa 0 (by decide), hne b qb 0 (by decide)] at q
          rw [hne a qa 0 (by decide)]
          exact h.2.2.2.2.2.1 a b ha hb hab q
  · have hc := fun j => aChaF_n (s := s) (i := i) h10 j
    have e0 : sn (aChaF s i t) i 0 = sn s i 0 := (hc _ (by omega)).trans (upd_ne _ (by omega))
    have e1 : sn (aChaF s i t) i 1 = sn s i 1 := (hc _ (by omega)).trans (upd_ne _ (by omega))
    have e2 : sn (aChaF s i t) i 2 = sn s i 2 + t := (hc _ (by omega)).trans (upd_eq _ rfl)
    have eh : ∀ a, a < 10 → sn (aChaF s i t) a 0 = sn s a 0 := fun a ha => by
      by_cases q : a = i
      · rw [q]; exact e0
      · exact hne a q 0 (by decide)
    obtain ⟨c1, sl, hsl, esl⟩ := h.2.2.2.2.1 i hi
    obtain ⟨n, hn, rfl⟩ : ∃ n, n ≤ 9 ∧ t = nI n := by
      obtain ⟨j, hj, rfl⟩ := nI_of (x := t) (by rw [i32_lt, Int32.toInt_zero]; have := i32_le.mp ht.1; rw [show (1 : Int32).toInt = 1 from by decide] at this; omega)
      have := (nI_leI (b := 10) hj (by decide)).mp ht.2
      exact ⟨j, by have : ¬ j = 10 := fun z => h10 (by rw [z]; rfl); omega, rfl⟩
    refine Inv_snk h (by omega) hB (fun j hj => by rw [hc j (by omega)]; exact upd_ne _ (by omega)) (fun i' hi' => ?_) (fun a b ha hb hab q => ?_)
    · by_cases q : i' = i
      · rw [q]
        refine ⟨?_, sl + n, by omega, by rw [e2, esl, nI_add]⟩
        rcases c1 with ⟨z, -⟩ | ⟨a, b, d⟩
        · rw [z] at hs; exact absurd hs (by decide)
        · rw [e0, e1]; exact Or.inr ⟨a, b, d⟩
      · exact ((h.2.2.2.2.1 i' hi').cg (hne i' q)).mono (by omega)
    · rw [eh a ha, eh b hb] at q
      rw [eh a ha]
      exact h.2.2.2.2.2.1 a b ha hb hab q
