variable {nT : Nat}
/-! the reference's sets -/
theorem aInF_nz {s : Nat → Int32} {q x : Nat} {c : Nat → Int32} : ∀ d, ¬ aInF s q c d x = 0 ↔ (¬ c x = 0 ∨ ∃ d', d' < d ∧ x = aLd s (aGo (nI q) (nI (d' + 1))))
  | 0 => ⟨Or.inl, fun h => h.elim id (fun ⟨d', h, _⟩ => absurd h (Nat.not_lt_zero d'))⟩
  | d + 1 => by
    show ¬ upd (aInF s q c d) (aLd s (aGo (nI q) (nI (d + 1)))) 1 x = 0 ↔ _
    rw [upd_at]
    by_cases e : x = aLd s (aGo (nI q) (nI (d + 1)))
    · rw [if_pos e]
      exact ⟨fun _ => Or.inr ⟨d, by omega, e⟩, fun _ => by decide⟩
    · rw [if_neg e, aInF_nz d]
      refine ⟨fun h => h.elim Or.inl (fun ⟨d', h1, h2⟩ => Or.inr ⟨d', by omega, h2⟩), fun h => h.elim Or.inl (fun ⟨d', h1, h2⟩ => ?_)⟩
      by_cases z : d' = d
      · rw [z] at h2; exact absurd h2 e
      · exact Or.inr ⟨d', by omega, h2⟩
theorem aOuF_nz {s b c : Nat → Int32} {x : Nat} : ∀ n, ¬ aOuF s b c n x = 0 ↔ (¬ c x = 0 ∨ ∃ q, q < n ∧ ¬ b q = 0 ∧ ∃ d', d' < 6 ∧ x = aLd s (aGo (nI q) (nI (d' + 1))))
  | 0 => ⟨Or.inl, fun h => h.elim id (fun ⟨d', h, _⟩ => absurd h (Nat.not_lt_zero d'))⟩
  | n + 1 => by
    unfold aOuF
    by_cases e : b n = 0
    · rw [if_pos e, aOuF_nz n]
      refine ⟨fun h => h.elim Or.inl (fun ⟨q, h1, h2⟩ => Or.inr ⟨q, by omega, h2⟩), fun h => h.elim Or.inl (fun ⟨q, h1, h2⟩ => ?_)⟩
      by_cases z : q = n
      · rw [z] at h2; exact absurd e h2.1
      · exact Or.inr ⟨q, by omega, h2⟩
    · rw [if_neg e, aInF_nz, aOuF_nz n]
      refine ⟨fun h => ?_, fun h => ?_⟩
      · rcases h with (h | ⟨q, h1, h2⟩) | ⟨d', h1, h2⟩
        · exact Or.inl h
        · exact Or.inr ⟨q, by omega, h2⟩
        · exact Or.inr ⟨n, by omega, e, d', h1, h2⟩
      · rcases h with h | ⟨q, h1, h2, h3⟩
        · exact Or.inl (Or.inl h)
        · by_cases z : q = n
          · rw [z] at h3; exact Or.inr h3
          · exact Or.inl (Or.inr ⟨q, by omega, h2, h3⟩)
theorem aIsF_nz {q : Nat} {x : Int32} : ∀ d, ¬ aIsF q x d = 0 ↔ (¬ x = 0 ∨ ∃ d', d' < d ∧ aGo (nI q) (nI (d' + 1)) = 60)
  | 0 => ⟨Or.inl, fun h => h.elim id (fun ⟨d', h, _⟩ => absurd h (Nat.not_lt_zero d'))⟩
  | d + 1 => by
    unfold aIsF
    by_cases e : ¬ aIsF q x d = 0 ∨ aGo (nI q) (nI (d + 1)) = 60
    · rw [if_pos e]
      refine ⟨fun _ => ?_, fun _ => by decide⟩
      rcases e with e | e
      · exact ((aIsF_nz d).mp e).elim Or.inl (fun ⟨d', h1, h2⟩ => Or.inr ⟨d', by omega, h2⟩)
      · exact Or.inr ⟨d, by omega, e⟩
    · rw [if_neg e]
      refine ⟨fun h => absurd rfl h, fun h => ?_⟩
      exfalso
      apply e
      rcases h with h | ⟨d', h1, h2⟩
      · exact Or.inl ((aIsF_nz d).mpr (Or.inl h))
      · by_cases z : d' = d
        · rw [z] at h2; exact Or.inr h2
        · exact Or.inl ((aIsF_nz d).mpr (Or.inr ⟨d', by omega, h2⟩))
theorem aOiF_nz {b : Nat → Int32} : ∀ n, ¬ aOiF b n = 0 ↔ ∃ q, q < n ∧ ¬ b q = 0 ∧ ∃ d', d' < 6 ∧ aGo (nI q) (nI (d' + 1)) = 60
  | 0 => ⟨fun h => absurd rfl h, fun ⟨d', h, _⟩ => absurd h (Nat.not_lt_zero d')⟩
  | n + 1 => by
    unfold aOiF
    by_cases e : b n = 0
    · rw [if_pos e, aOiF_nz n]
      refine ⟨fun ⟨q, h1, h2⟩ => ⟨q, by omega, h2⟩, fun ⟨q, h1, h2⟩ => ?_⟩
      by_cases z : q = n
      · rw [z] at h2; exact absurd e h2.1
      · exact ⟨q, by omega, h2⟩
    · rw [if_neg e, aIsF_nz, aOiF_nz n]
      refine ⟨fun h => ?_, fun ⟨q, h1, h2, h3⟩ => ?_⟩
      · rcases h with ⟨q, h1, h2⟩ | ⟨d', h1, h2⟩
        · exact ⟨q, by omega, h2⟩
        · exact ⟨n, by omega, e, d', h1, h2⟩
      · by_cases z : q = n
        · rw [z] at h3; exact Or.inr h3
        · exact Or.inl ⟨q, by omega, h2, h3⟩
theorem ld60 {B : Nat} {s : Nat → Int32} (hI : Inv B s) {L : Nat} (hL : L ≤ 60) : aLd s (nI L) = 60 ↔ L = 60 := by
  refine ⟨fun h => ?_, fun h => ?_⟩
  · unfold aLd at h
    by_cases hc : aSnAt s (nI L) = -5
    · rw [if_pos hc, nI_clamp (by omega)] at h; exact h
    · rw [if_neg hc] at h
      obtain ⟨k, t, hk, e, t1, t2, e2⟩ := hI.tail hc
      rw [e, nI_clamp (by omega), e2, nI_clamp (by omega)] at h
      omega
  · subst h
    unfold aLd
    by_cases hc : aSnAt s (nI 60) = -5
    · rw [if_pos hc, nI_clamp (by omega)]
    · exfalso
      obtain ⟨k, hk, e, e0, e1⟩ := aSnAt_nat hc
      rcases (hI.2.2.2.2.1 k hk).1 with ⟨z, -⟩ | ⟨x, y, x1, x2, -, -, -, -, ex, -⟩
      · rw [z] at e0; exact absurd e0 (by decide)
      · rw [ex] at e0; have := nI_inj (by omega) (by omega) e0; omega
theorem fw_ok {B : Nat} {s : Nat → Int32} (hI : Inv B s) {b0 : Nat} : ∀ (f n : Nat) (b c : Nat → Int32), 1 ≤ n → n + f = 61 → (∀ x, x < 60 → (¬ b x = 0 ↔ ∃ k, k < n ∧ Wk s k b0 x)) → (∀ k, k < n → ¬ Wk s k b0 60) → (aFwF s f n b c ≤ 60 → Wk s (aFwF s f n b c) b0 60) ∧ ∀ k, k < aFwF s f n b c → ¬ Wk s k b0 60
  | 0, n, b, c, h1, hf, hb, hn => ⟨fun h => by have h' : n ≤ 60 := h; omega, hn⟩
  | f + 1, n, b, c, h1, hf, hb, hn => by
    have hg : ∀ q d', q < 60 → d' < 6 → aGo (nI q) (nI (d' + 1)) = nI (aGoN q (d' + 1)) := fun q d' h h2 => aGo_nI (by omega) (by omega)
    unfold aFwF
    by_cases e : ¬ aOiF b 60 = 0
    · rw [if_pos e]
      refine ⟨fun _ => ?_, hn⟩
      obtain ⟨q, q1, q2, d, d1, d2⟩ := (aOiF_nz 60).mp e
      obtain ⟨k, k1, k2⟩ := (hb q q1).mp q2
      rw [hg q d q1 d1] at d2
      have hle := aGoN_le q (d + 1) (by omega)
      have e60 := nI_inj (b := 60) (by omega) (by decide) d2
      have hw : Wk s (k + 1) b0 60 := ⟨q, k2, q1, d, d1, by rw [e60]; exact ((ld60 hI (Nat.le_refl _)).mpr rfl).symm⟩
      by_cases z : k + 1 = n
      · rw [← z]; exact hw
      · exact absurd hw (hn (k + 1) (by omega))
    · rw [if_neg e]
      refine fw_ok hI f (n + 1) _ _ (by omega) (by omega) (fun x hx => ?_) (fun k hk => ?_)
      · rw [show cpB (aOuF s b (cpB b c 60) 60) b 60 x = aOuF s b (cpB b c 60) 60 x from if_pos hx, aOuF_nz, show cpB b c 60 x = b x from if_pos hx, hb x hx]
        refine ⟨fun h => ?_, fun ⟨k, k1, k2⟩ => ?_⟩
        · rcases h with ⟨k, k1, k2⟩ | ⟨q, q1, q2, d, d1, d2⟩
          · exact ⟨k, by omega, k2⟩
          · obtain ⟨k, k1, k2⟩ := (hb q q1).mp q2
            rw [hg q d q1 d1] at d2
            exact ⟨k + 1, by omega, q, k2, q1, d, d1, d2⟩
        · by_cases z : k < n
          · exact Or.inl ⟨k, z, k2⟩
          · obtain ⟨m, rfl⟩ : ∃ m, k = m + 1 := ⟨k - 1, by omega⟩
            obtain ⟨q, w, q1, d, d1, d2⟩ := k2
            exact Or.inr ⟨q, q1, (hb q q1).mpr ⟨m, by omega, w⟩, d, d1, by rw [hg q d q1 d1]; exact d2⟩
      · by_cases z : k < n
        · exact hn k z
        · obtain ⟨m, rfl⟩ : ∃ m, k = m + 1 := ⟨k - 1, by omega⟩
          rintro ⟨q, w, q1, d, d1, d2⟩
          apply e
          refine (aOiF_nz 60).mpr ⟨q, q1, (hb q q1).mpr ⟨m, by omega, w⟩, d, d1, ?_⟩
          rw [hg q d q1 d1, (ld60 hI (aGoN_le q (d + 1) (by omega))).mp d2.symm]
          rfl
theorem few_one {P : Nat → Prop} {N : Nat} {r : Int32} (h : (∃ k, r = nI k ∧ k ≤ 60 ∧ P k ∧ ∀ k', k' < k → ¬ P k') ∨ (r = -5 ∧ ∀ k, ¬ P k)) (h1 : N ≤ 60 → P N) (h2 : ∀ k, k < N → ¬ P k) : r = if N ≤ 60 then nI N else -5 := by
  rcases h with ⟨k, rfl, k1, k2, k3⟩ | ⟨rfl, k1⟩
  · have h3 : ¬ k < N := fun z => h2 k z k2
    have h4 : N ≤ 60 := by omega
    have h5 : ¬ N < k := fun z => k3 N z (h1 h4)
    rw [if_pos h4, show k = N from by omega]
  · by_cases z : N ≤ 60
    · exact absurd (h1 z) (k1 N)
    · rw [if_neg z]
theorem Inv.beg' {B : Nat} {s : Nat → Int32} (h : Inv B s) {p : Nat} (hp : p < 4) (h2 : ro s p 2 = 0) : ∃ b, b < 60 ∧ aBeg s p = nI b := by
  obtain ⟨q, n, hq, eq, -, -, e2, -⟩ := h.2.2.1 p hp
  have hq6 := e2.mp h2
  obtain ⟨z, hz, ez⟩ := h.hu hp (aMany s p) (Nat.le_refl _)
  have hm := (h.many hp).2
  unfold aBeg
  rw [eq, show aHu s p = nI z from ez]
  by_cases hzq : z ≤ q
  · rw [nI_sub hzq, if_pos (nI_pos' (by omega))]
    exact ⟨q - z, by omega, rfl⟩
  · rw [if_neg (fun w => ?_)]
    · exact ⟨0, by omega, rfl⟩
    · have h1 := i32_le.mp w
      rw [Int32.toInt_zero, Int32.toInt_sub, nI_toInt (by omega), nI_toInt (by omega)] at h1
      rw [Int.bmod_eq_of_le (by omega) (by omega)] at h1
      omega
theorem few_eq {B : Nat} {s : Nat → Int32} (hI : Inv B s) (x w : Int32) (σ : sT) (b c : Nat → Int32) : fewR s x w σ = aFewX s x w b c := by
  unfold fewR aFewX
  by_cases hx : aPl x
  · have n1 : ¬ ¬ aPl x := fun z => z hx
    rw [if_neg n1, if_neg n1]
    by_cases hw : 0 ≤ w ∧ w ≤ 1
    · have n2 : ¬ ¬ (0 ≤ w ∧ w ≤ 1) := fun z => z hw
      rw [if_neg n2, if_neg n2]
      obtain ⟨p, hp, rfl⟩ := hx.nat
      rw [nI_clamp (by omega)]
      by_cases h2 : ro s p 2 = 0
      · rw [if_pos h2, if_pos h2]
        obtain ⟨b0, hb, eb⟩ := hI.beg' hp h2
        have hfw := fw_ok hI (b0 := b0) 60 1 (bgF s p b 60) c (by decide) (by decide) (fun y hy => by
          rw [show bgF s p b 60 y = bI (nI y = aBeg s p) from if_pos hy, eb]
          refine ⟨fun h => ⟨0, by decide, (nI_inj (by omega) (by omega) (bI_nz h)).symm⟩, fun ⟨k, k1, k2⟩ => ?_⟩
          obtain rfl : k = 0 := by omega
          rw [bI_t (congrArg nI (show b0 = y from k2).symm)]
          decide) (fun k hk h => by
          obtain rfl : k = 0 := by omega
          have : b0 = 60 := h
          omega)
        unfold fewC aFwN
        by_cases h0 : w = 0
        · rw [if_pos h0, eb]
          exact few_one (P := fun k => Wk s k b0 60) (onL_ok hI 61 0 _ rfl (Lp.start σ (by omega) rfl)) hfw.1 hfw.2
        · rw [if_neg h0, eb]
          exact few_one (P := fun k => Wk s k b0 60) (baL_ok hI (b0 := b0) (by omega) 61 0 _ rfl (Lp.start (st := 60) σ (by omega) rfl)) hfw.1 hfw.2
      · rw [if_neg h2, if_neg h2]
    · rw [if_pos hw, if_pos hw]
  · rw [if_pos hx, if_pos hx]
