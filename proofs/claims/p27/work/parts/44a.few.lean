variable {nT : Nat}
/-! the fewest throws: walks; the class' two searches; the reference's sets -/
def Eg (s : Nat → Int32) (y x : Nat) : Prop := y < 60 ∧ ∃ d, d < 6 ∧ x = aLd s (nI (aGoN y (d + 1)))
def Wk (s : Nat → Int32) : Nat → Nat → Nat → Prop
  | 0, a, b => a = b
  | k + 1, a, b => ∃ z, Wk s k a z ∧ Eg s z b
theorem Wk_head {s : Nat → Int32} : ∀ k a b, Wk s (k + 1) a b ↔ ∃ z, Eg s a z ∧ Wk s k z b
  | 0, a, b => ⟨fun ⟨z, h1, h2⟩ => ⟨b, by rw [show a = z from h1]; exact h2, rfl⟩, fun ⟨z, h1, h2⟩ => ⟨a, rfl, by rw [← show z = b from h2]; exact h1⟩⟩
  | k + 1, a, b => ⟨fun ⟨z, h1, h2⟩ => by
      obtain ⟨w, w1, w2⟩ := (Wk_head k a z).mp h1
      exact ⟨w, w1, z, w2, h2⟩, fun ⟨w, w1, z, w2, h2⟩ => ⟨z, (Wk_head k a z).mpr ⟨w, w1, w2⟩, h2⟩⟩
theorem Eg_le {B : Nat} {s : Nat → Int32} (hI : Inv B s) {y x : Nat} (h : Eg s y x) : x ≤ 60 := by
  obtain ⟨hy, d, hd, rfl⟩ := h
  have := (aLd_ix hI (aGoN_le y (d + 1) (by omega))).1
  omega
theorem thA_i {σ : sT} {x : Nat} (h : x ≤ 60) : thA σ (nI x) = σ.1 x := by
  unfold thA
  rw [if_pos (in61 h), nI_clamp (by omega)]
theorem Gs.at {R : Nat → Nat → Prop} {σ τ : sT} {A : Nat → Prop} {i D : Nat} (hi : i < σ.2.2) (h : Gs R D σ τ A) : τ.1 (sv σ i) = nI (sd σ (sv σ i)) := by
  obtain ⟨e1, e2⟩ := h.2.1.2 i hi
  obtain ⟨-, -, c, -⟩ := h.1.2.1 i (Nat.lt_of_lt_of_le hi h.2.1.1)
  rw [e1, e2] at c
  exact c
theorem inF_ok {B : Nat} {s : Nat → Int32} (hI : Inv B s) {R : Nat → Nat → Prop} {σ : sT} {i : Nat} (hi : i < σ.2.2) (hq : Sq R (sd σ (sv σ i)) σ) (h60 : ¬ sv σ i = 60) (hRS : ∀ k y x, R k y → Eg s y x → R (k + 1) x) : ∀ d, d ≤ 6 → Gs R (sd σ (sv σ i)) σ (inF s (nI (sv σ i)) σ d) (fun x => ∃ d', d' < d ∧ x = aLd s (nI (aGoN (sv σ i) (d' + 1))))
  | 0, _ => (Gs.rf hq).imp (fun x ⟨d', h, _⟩ => absurd h (Nat.not_lt_zero d'))
  | d + 1, hd => by
    have ih := inF_ok hI hi hq h60 hRS d (by omega)
    obtain ⟨v1, -, -, v4, v5, v6⟩ := hq.2.1 i hi
    have e1 : thA (inF s (nI (sv σ i)) σ d) (nI (sv σ i)) + 1 = nI (sd σ (sv σ i) + 1) := by rw [thA_i v1, ih.at hi, nI_1]
    have e2 : laX s (aGo (nI (sv σ i)) (nI (d + 1))) = nI (aLd s (nI (aGoN (sv σ i) (d + 1)))) := by
      rw [aGo_nI v1 (by omega)]
      exact (aLd_ix hI (aGoN_le _ (d + 1) v1)).2
    have hl := (aLd_ix hI (aGoN_le (sv σ i) (d + 1) v1)).1
    have := ih.see (by omega) (laX s (aGo (nI (sv σ i)) (nI (d + 1)))) (fun x hx hxe _ => by
      rw [e2] at hxe
      exact hRS _ _ _ v6 ⟨by omega, d, by omega, (nI_inj (by omega) (by omega) hxe).symm⟩)
    show Gs _ _ _ (seF (inF s (nI (sv σ i)) σ d) (laX s (aGo (nI (sv σ i)) (nI (d + 1)))) (thA (inF s (nI (sv σ i)) σ d) (nI (sv σ i)) + 1)) _
    rw [e1]
    refine this.imp (fun x ⟨d', hd', hx⟩ => ?_)
    by_cases q : d' = d
    · right; rw [e2, hx, q]
    · left; exact ⟨d', by omega, hx⟩
theorem onL_ok {B : Nat} {s : Nat → Int32} (hI : Inv B s) {b0 : Nat} : ∀ (f i : Nat) (σ : sT), i + f = 61 → Lp (fun k x => Wk s k b0 x) (Eg s) b0 60 σ i → Res (fun k x => Wk s k b0 x) 60 (onL s f i σ).1
  | 0, i, σ, hf, h => by
    obtain ⟨D, hq, -⟩ := h.2.2.2.2.1
    have := hq.le
    exact h.out (fun x hx => (show b0 = x from hx).symm) (fun k x ⟨z, a, b⟩ => ⟨z, a, b⟩) (by omega)
  | f + 1, i, σ, hf, h => by
    have hR0 : ∀ x, Wk s 0 b0 x → x = b0 := fun x hx => (show b0 = x from hx).symm
    have hRS : ∀ k x, Wk s (k + 1) b0 x → ∃ y, Wk s k b0 y ∧ Eg s y x := fun k x ⟨z, a, b⟩ => ⟨z, a, b⟩
    unfold onL
    by_cases hi : i < σ.2.2
    · rw [if_pos hi]
      obtain ⟨D, hq, hD⟩ := h.2.2.2.2.1
      have hq := hq.mono (hD hi)
      obtain ⟨v1, v2, -⟩ := hq.2.1 i hi
      by_cases ht : σ.2.1 i = 60
      · rw [if_pos ht]
        have e60 : sv σ i = 60 := by rw [v2] at ht; exact nI_inj (b := 60) (by omega) (by decide) ht
        have := h.hit hR0 hRS hi e60
        show Res _ 60 (thA σ 60)
        rw [show (60 : Int32) = nI 60 from rfl, thA_i (Nat.le_refl _)]
        exact this
      · rw [if_neg ht]
        have h60 : ¬ sv σ i = 60 := fun e => ht (by rw [v2, e]; rfl)
        refine onL_ok hI f (i + 1) _ (by omega) (h.step hi h60 (fun y x _ q => Eg_le hI q) ?_)
        have := inF_ok hI hi hq h60 (fun k y x a b => ⟨y, a, b⟩) 6 (Nat.le_refl _)
        rw [v2]
        refine this.imp (fun x hx => hx.2)
    · rw [if_neg hi]
      exact h.out hR0 hRS hi
/-! backwards -/
theorem Eg_of {s : Nat → Int32} {x L d y : Nat} (hx : x < 60) (hL : L ≤ 60) (hd : d < 6) (h : x + (d + 1) = L ∨ x + (d + 1) + L = 120) (hy : y = aLd s (nI L)) : Eg s x y := by
  refine ⟨hx, d, hd, ?_⟩
  rw [hy, show aGoN x (d + 1) = L from by unfold aGoN; split <;> omega]
theorem sub_nI {L d x : Nat} (hL : L ≤ 60) (hd : d < 6) (hx : x ≤ 60) : nI L - nI (d + 1) = nI x ↔ x + (d + 1) = L := by
  refine ⟨fun e => ?_, fun e => by rw [← e, nI_sub (by omega), Nat.add_sub_cancel]⟩
  have := congrArg (fun z => z + nI (d + 1)) e
  simp only [Int32.sub_add_cancel] at this
  rw [nI_add] at this
  exact (nI_inj (by omega) (by omega) this).symm
theorem sub_nI2 {L d x : Nat} (hL : L ≤ 60) (hd : d < 6) (hx : x ≤ 60) : 120 - nI L - nI (d + 1) = nI x ↔ x + (d + 1) + L = 120 := by
  rw [show (120 : Int32) = nI 120 from rfl, nI_sub (by omega)]
  refine ⟨fun e => ?_, fun e => by rw [nI_sub (by omega)]; congr 1; omega⟩
  have := congrArg (fun z => z + nI (d + 1)) e
  simp only [Int32.sub_add_cancel] at this
  rw [nI_add] at this
  have := nI_inj (by omega) (by omega) this
  omega
theorem sbF_ok {R : Nat → Nat → Prop} {D L : Nat} {σ0 σ : sT} {A : Nat → Prop} (h : Gs R D σ0 σ A) (hD : D + 1 ≤ σ0.2.2) (h60 : Sn σ0 60) (hL : L ≤ 60) (hR : ∀ x d, x < 60 → d < 6 → (x + (d + 1) = L ∨ x + (d + 1) + L = 120) → R (D + 1) x) : ∀ d, d ≤ 6 → Gs R D σ0 (sbF σ (nI L) (nI (D + 1)) d) (fun x => A x ∨ ∃ d', d' < d ∧ (x + (d' + 1) = L ∨ x + (d' + 1) + L = 120))
  | 0, _ => h.imp (fun x q => q.elim id (fun ⟨d', h, _⟩ => absurd h (Nat.not_lt_zero d')))
  | d + 1, hd => by
    have ih := sbF_ok h hD h60 hL hR d (by omega)
    have n60 : ∀ {τ : sT} {A' : Nat → Prop}, Gs R D σ0 τ A' → ∀ x, x ≤ 60 → τ.1 x = -1 → x < 60 := fun {τ A'} hg x hx e => by
      rcases Nat.lt_or_ge x 60 with q | q
      · exact q
      · exfalso
        obtain ⟨j, hj, ej⟩ := h60.ext hg.2.1
        obtain ⟨-, -, c, -, e2, -⟩ := hg.1.2.1 j hj
        have := hg.1.le
        rw [ej, show 60 = x from by omega] at c e2
        exact nI_m1' (by omega) (c.symm.trans e)
    have s1 := ih.see hD (nI L - nI (d + 1)) (fun x hx hxe hn => hR x d (n60 ih x hx hn) (by omega) (Or.inl ((sub_nI hL (by omega) hx).mp hxe)))
    have s2 := s1.see hD (120 - nI L - nI (d + 1)) (fun x hx hxe hn => hR x d (n60 s1 x hx hn) (by omega) (Or.inr ((sub_nI2 hL (by omega) hx).mp hxe)))
    refine s2.imp (fun x q => ?_)
    rcases q with q | ⟨d', hd', hx⟩
    · exact Or.inl (Or.inl (Or.inl q))
    · by_cases e : d' = d
      · subst e
        by_cases h60x : x ≤ 60
        · rcases hx with hx | hx
          · exact Or.inl (Or.inr ((sub_nI hL (by omega) h60x).mpr hx))
          · exact Or.inr ((sub_nI2 hL (by omega) h60x).mpr hx)
        · rcases hx with hx | hx
          · omega
          · right
            rw [show (120 : Int32) = nI 120 from rfl, nI_sub (by omega), nI_sub (by omega)]
            congr 1
            omega
      · exact Or.inl (Or.inl (Or.inr ⟨d', by omega, hx⟩))
theorem nI_ne5 {m : Nat} (h : m < 2 ^ 31) : ¬ nI m = -5 := fun e => by
  have h2 := congrArg Int32.toInt e
  rw [nI_toInt h, show (-5 : Int32).toInt = -5 from by decide] at h2
  omega
/-- the landings from which a turn begins at y -/
def LdA (s : Nat → Int32) (y i L : Nat) : Prop := L ≤ 60 ∧ ((aSnAt s (nI y) = -5 ∧ L = y) ∨ ∃ k, k < i ∧ 0 < sn s k 0 ∧ sn s k 0 = nI L ∧ sn s k 1 = nI y)
theorem LdA_ld {B : Nat} {s : Nat → Int32} (hI : Inv B s) {y L : Nat} (hy : y ≤ 60) (h : LdA s y 10 L) : y = aLd s (nI L) := by
  obtain ⟨hL, h⟩ := h
  unfold aLd
  rcases h with ⟨e, rfl⟩ | ⟨k, hk, h0, e0, e1⟩
  · rw [if_pos e, nI_clamp (by omega)]
  · have := aSn_at hI.iHd hk e0 h0
    rw [this, if_neg (nI_ne5 (by omega)), nI_clamp (by omega), e1, nI_clamp (by omega)]
theorem ld_LdA {B : Nat} {s : Nat → Int32} (hI : Inv B s) {y L : Nat} (hL : L ≤ 60) (h : y = aLd s (nI L)) : LdA s y 10 L := by
  refine ⟨hL, ?_⟩
  unfold aLd at h
  by_cases hc : aSnAt s (nI L) = -5
  · rw [if_pos hc, nI_clamp (by omega)] at h
    subst h
    exact Or.inl ⟨hc, rfl⟩
  · rw [if_neg hc] at h
    obtain ⟨k, hk, e, e0, e1⟩ := aSnAt_nat hc
    obtain ⟨k', t, hk', e', t1, t2, e2⟩ := hI.tail hc
    have : k' = k := nI_inj (by omega) (by omega) (e'.symm.trans e)
    subst this
    rw [e, nI_clamp (by omega), e2, nI_clamp (by omega)] at h
    exact Or.inr ⟨k', hk, by rw [e0]; exact e1, e0, by rw [h]; exact e2⟩
theorem slF_ok {B : Nat} {s : Nat → Int32} (hI : Inv B s) {R : Nat → Nat → Prop} {D y : Nat} {σ : sT} (hq : Sq R D σ) (hD : D + 1 ≤ σ.2.2) (h60 : Sn σ 60) (hy : y ≤ 60) (hR : ∀ x, Eg s x y → R (D + 1) x) : ∀ i, i ≤ 10 → Gs R D σ (slF s (nI y) (nI (D + 1)) σ i) (fun x => ∃ L, LdA s y i L ∧ ∃ d, d < 6 ∧ (x + (d + 1) = L ∨ x + (d + 1) + L = 120))
  | 0, _ => by
    unfold slF
    by_cases e : aSnAt s (nI y) = -5
    · rw [if_pos e]
      refine (sbF_ok (Gs.rf hq) hD h60 hy (fun x d hx hd h => hR x (Eg_of hx hy hd h (LdA_ld hI hy ⟨hy, Or.inl ⟨e, rfl⟩⟩))) 6 (Nat.le_refl _)).imp (fun x ⟨L, hL, d, hd, h⟩ => ?_)
      rcases hL.2 with ⟨-, rfl⟩ | ⟨k, hk, -⟩
      · exact Or.inr ⟨d, hd, h⟩
      · exact absurd hk (Nat.not_lt_zero k)
    · rw [if_neg e]
      refine (Gs.rf hq).imp (fun x ⟨L, hL, d, hd, h⟩ => ?_)
      rcases hL.2 with ⟨e', -⟩ | ⟨k, hk, -⟩
      · exact e e'
      · exact absurd hk (Nat.not_lt_zero k)
  | i + 1, hi => by
    have ih := slF_ok hI hq hD h60 hy hR i (by omega)
    unfold slF
    by_cases e : 0 < sn s i 0 ∧ sn s i 1 = nI y
    · rw [if_pos e]
      rcases (hI.2.2.2.2.1 i (by omega)).1 with ⟨z, -⟩ | ⟨L, t, l1, l2, -, -, -, -, e0, -⟩
      · rw [z] at e; exact absurd e.1 (by decide)
      · rw [e0]
        refine (sbF_ok ih hD h60 (L := L) (by omega) (fun x d hx hd h => hR x (Eg_of hx (by omega) hd h (LdA_ld hI hy ⟨by omega, Or.inr ⟨i, by omega, e.1, e0, e.2⟩⟩))) 6 (Nat.le_refl _)).imp (fun x ⟨L', hL, d, hd, h⟩ => ?_)
        rcases hL.2 with q | ⟨k, hk, k0, k1, k2⟩
        · exact Or.inl ⟨L', ⟨hL.1, Or.inl q⟩, d, hd, h⟩
        · by_cases ki : k = i
          · rw [ki, e0] at k1
            have := nI_inj (by omega) (by have := hL.1; omega) k1
            rw [← this] at h
            exact Or.inr ⟨d, hd, h⟩
          · exact Or.inl ⟨L', ⟨hL.1, Or.inr ⟨k, by omega, k0, k1, k2⟩⟩, d, hd, h⟩
    · rw [if_neg e]
      refine ih.imp (fun x ⟨L', hL, d, hd, h⟩ => ?_)
      rcases hL.2 with q | ⟨k, hk, k0, k1, k2⟩
      · exact ⟨L', ⟨hL.1, Or.inl q⟩, d, hd, h⟩
      · by_cases ki : k = i
        · rw [ki] at k0 k2; exact absurd ⟨k0, k2⟩ e
        · exact ⟨L', ⟨hL.1, Or.inr ⟨k, by omega, k0, k1, k2⟩⟩, d, hd, h⟩
theorem baL_ok {B : Nat} {s : Nat → Int32} (hI : Inv B s) {b0 : Nat} (hb : b0 ≤ 60) : ∀ (f i : Nat) (σ : sT), i + f = 61 → Lp (fun k x => Wk s k x 60) (fun y x => Eg s x y) 60 b0 σ i → Res (fun k x => Wk s k x 60) b0 (baL s (nI b0) f i σ).1
  | 0, i, σ, hf, h => by
    obtain ⟨D, hq, -⟩ := h.2.2.2.2.1
    have := hq.le
    exact h.out (fun x hx => show x = 60 from hx) (fun k x hx => by obtain ⟨z, a, b⟩ := (Wk_head k x 60).mp hx; exact ⟨z, b, a⟩) (by omega)
  | f + 1, i, σ, hf, h => by
    have hR0 : ∀ x, Wk s 0 x 60 → x = 60 := fun x hx => show x = 60 from hx
    have hRS : ∀ k x, Wk s (k + 1) x 60 → ∃ y, Wk s k y 60 ∧ Eg s x y := fun k x hx => by obtain ⟨z, a, b⟩ := (Wk_head k x 60).mp hx; exact ⟨z, b, a⟩
    unfold baL
    by_cases hi : i < σ.2.2
    · rw [if_pos hi]
      obtain ⟨D, hq, hD⟩ := h.2.2.2.2.1
      have hq := hq.mono (hD hi)
      obtain ⟨v1, v2, v3, -, v5, v6⟩ := hq.2.1 i hi
      by_cases ht : σ.2.1 i = nI b0
      · rw [if_pos ht]
        have e0 : sv σ i = b0 := by rw [v2] at ht; exact nI_inj (by omega) (by omega) ht
        have := h.hit hR0 hRS hi e0
        show Res _ b0 (thA σ (nI b0))
        rw [thA_i hb]
        exact this
      · rw [if_neg ht]
        have hb0 : ¬ sv σ i = b0 := fun e => ht (by rw [v2, e])
        refine baL_ok hI hb f (i + 1) _ (by omega) (h.step hi hb0 (fun y x _ q => by have := q.1; omega) ?_)
        unfold landF
        rw [v2, thA_i v1, v3, nI_1]
        refine (slF_ok hI hq (by omega) ⟨0, h.2.1, h.2.2.1⟩ v1 (fun x hx => (Wk_head _ x 60).mpr ⟨sv σ i, hx, v6⟩) 10 (Nat.le_refl _)).imp (fun x hx => ?_)
        obtain ⟨x60, d, hd, e⟩ := hx
        have hle := aGoN_le x (d + 1) (by omega)
        refine ⟨aGoN x (d + 1), ld_LdA hI hle e, d, hd, ?_⟩
        unfold aGoN
        split <;> omega
    · rw [if_neg hi]
      exact h.out hR0 hRS hi
