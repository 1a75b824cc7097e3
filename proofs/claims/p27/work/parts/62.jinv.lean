/-! the property's own invariant: coins, how bites were sold, places, counts of bites -/
def sumN (f : Nat → Nat) : Nat → Nat
  | 0 => 0
  | n + 1 => sumN f n + f n
theorem sumN_le {f g : Nat → Nat} : ∀ n, (∀ i, i < n → f i ≤ g i) → sumN f n ≤ sumN g n
  | 0, _ => Nat.le_refl _
  | n + 1, h => Nat.add_le_add (sumN_le n (fun i hi => h i (by omega))) (h n (by omega))
theorem sumN_one {f g : Nat → Nat} {k : Nat} : ∀ n, (∀ i, i < n → ¬ i = k → f i ≤ g i) → f k ≤ g k + 1 → sumN f n ≤ sumN g n + 1
  | 0, _, _ => Nat.zero_le _
  | n + 1, h, hk => by
    show sumN f n + f n ≤ sumN g n + g n + 1
    by_cases q : n = k
    · have := sumN_le (f := f) (g := g) n (fun i hi => h i (by omega) (by omega))
      rw [q] at this ⊢
      omega
    · have := sumN_one n (fun i hi q => h i (by omega) q) hk
      have := h n (by omega) q
      omega
def gB (s : Nat → Int32) (i : Nat) : Nat := if 0 < sn s i 0 then (sn s i 3).toNatClampNeg else 0
def jB (B : Nat) (s : Nat → Int32) : Prop := ∃ b, b ≤ B ∧ s 2 = nI b ∧ aMany s 0 + aMany s 1 + aMany s 2 + aMany s 3 ≤ b ∧ (∀ i, i < 10 → ∃ f, f ≤ B ∧ sn s i 3 = nI f) ∧ sumN (gB s) 10 ≤ b
def jC (s : Nat → Int32) : Prop := (∀ p, p < 4 → -50 ≤ (ro s p 1).toInt) ∧ (ro s 0 1).toInt + (ro s 1 1).toInt + (ro s 2 1).toInt + (ro s 3 1).toInt = 40
def jS (s : Nat → Int32) : Prop := (∃ a, a ≤ 50 ∧ s 6 = nI a) ∧ aSuF s 3 4 = s 2
def jT (s : Nat → Int32) (p k : Nat) : Prop := ∃ z h w, 6 ≤ z ∧ z ≤ 40 ∧ s (wi p k + 0) = nI z ∧ s (wi p k + 1) = nI (pop4 h - 1) ∧ w < 4 ∧ s (wi p k + 2) = nI w ∧ Nat.testBit h w = true ∧ h < 16 ∧ s (wi p k + 3) = nI h ∧ Nat.testBit h p = true
def jP (s : Nat → Int32) : Prop := ∃ pl : Nat → Nat, (∀ p, p < 4 → ro s p 2 = nI (pl p) ∧ pl p ≤ home s) ∧ ∀ v, 1 ≤ v → v ≤ home s → ∃ p, p < 4 ∧ pl p = v
def J (B : Nat) (s : Nat → Int32) : Prop := jB B s ∧ jC s ∧ jS s ∧ (∀ p, p < 4 → ∀ k, k < aMany s p → jT s p k) ∧ jP s
theorem J.mono {B B' : Nat} {s : Nat → Int32} (h : J B s) (hB : B ≤ B') : J B' s := by
  obtain ⟨⟨b, b1, b2, b3, b4, b5⟩, h2⟩ := h
  exact ⟨⟨b, by omega, b2, b3, fun i hi => (b4 i hi).elim fun f z => ⟨f, by omega, z.2⟩, b5⟩, h2⟩
theorem sum4_cg {α : Type} (f g : Nat → α) (h : ∀ i, i < 4 → f i = g i) : f 0 = g 0 ∧ f 1 = g 1 ∧ f 2 = g 2 ∧ f 3 = g 3 := ⟨h 0 (by decide), h 1 (by decide), h 2 (by decide), h 3 (by decide)⟩
theorem aSuF_4 (s : Nat → Int32) (f : Nat) : aSuF s f 4 = (((0 + ro s 0 f) + ro s 1 f) + ro s 2 f) + ro s 3 f := rfl
theorem aSuF_up {s t : Nat → Int32} {f p : Nat} (hp : p < 4) (x : Int32) (e : ∀ i, i < 4 → ¬ i = p → ro t i f = ro s i f) (ep : ro t p f = ro s p f + x) : aSuF t f 4 = aSuF s f 4 + x := by
  rw [aSuF_4, aSuF_4]
  rcases (show p = 0 ∨ p = 1 ∨ p = 2 ∨ p = 3 by omega) with rfl | rfl | rfl | rfl
  · rw [e 1 (by decide) (by decide), e 2 (by decide) (by decide), e 3 (by decide) (by decide), ep]; ac_rfl
  · rw [e 0 (by decide) (by decide), e 2 (by decide) (by decide), e 3 (by decide) (by decide), ep]; ac_rfl
  · rw [e 0 (by decide) (by decide), e 1 (by decide) (by decide), e 3 (by decide) (by decide), ep]; ac_rfl
  · rw [e 0 (by decide) (by decide), e 1 (by decide) (by decide), e 2 (by decide) (by decide), ep]; ac_rfl
theorem aSuF_cg {s t : Nat → Int32} {f : Nat} (e : ∀ i, i < 4 → ro t i f = ro s i f) : aSuF t f 4 = aSuF s f 4 := by
  rw [aSuF_4, aSuF_4, e 0 (by decide), e 1 (by decide), e 2 (by decide), e 3 (by decide)]
theorem jT.cg {s t : Nat → Int32} {p k p' k' : Nat} (h : jT s p k) (hp : p' = p) (e : ∀ f, f < 4 → t (wi p' k' + f) = s (wi p k + f)) : jT t p' k' := by
  obtain ⟨z, hh, w, h1, h2, h3, h4, h5, h6, h7, h8, h9, h10⟩ := h
  subst hp
  exact ⟨z, hh, w, h1, h2, by rw [e 0 (by decide)]; exact h3, by rw [e 1 (by decide)]; exact h4, h5, by rw [e 2 (by decide)]; exact h6, h7, h8, by rw [e 3 (by decide)]; exact h9, h10⟩
/-- a turn keeps it -/
theorem J_T {B : Nat} {s : Nat → Int32} (hI : Inv B s) (h : J B s) {t : Nat → Int32} {p Q : Nat} (hp : p < 4) (hp2 : ro s p 2 = 0) (hE : TE s t p Q) : J (B + 1) t := by
  obtain ⟨r0', r1, r2, r2p, r3, r4, r5, wI, ⟨t0, t4, t5, t6, t7⟩, sHT, hb⟩ := hE
  obtain ⟨⟨b, b1, b2, b3, b4, b5⟩, ⟨c1, c2⟩, ⟨⟨a, a1, a2⟩, e3⟩, hT, ⟨pl, pl1, pl2⟩⟩ := h
  have h4 : s 4 = nI (home s) := hI.2.2.2.2.2.2.2.1
  have hl := home_le s
  have mi : ∀ i, i < 4 → ¬ i = p → aMany t i = aMany s i := fun i hi q => by unfold aMany; rw [r5 i hi q]
  have hB6 := hI.2.1
  have hplp : pl p = 0 := nI_eq0 ((pl1 p hp).1.symm.trans hp2) (by have := (pl1 p hp).2; omega)
  refine ⟨?_, ⟨fun i hi => by rw [r1 i hi]; exact c1 i hi, by rw [r1 0 (by decide), r1 1 (by decide), r1 2 (by decide), r1 3 (by decide)]; exact c2⟩, ⟨⟨a, a1, t6.trans a2⟩, ?_⟩, fun i hi k hk => ?_, ?_⟩
  · rcases hb with ⟨-, -, e5, e2, kk, x, y, hk, -, -, h0, -, -, -, -, -, -, -, -, -, -, -, g3, g4⟩ | ⟨-, -, e5, e2, g4⟩
    · have mp : aMany t p = 1 := by unfold aMany; rw [e5]; rfl
      refine ⟨b + 1, by omega, by rw [e2, b2, nI_1], ?_, fun i hi => ?_, ?_⟩
      · have := sum4_one (fun i => aMany t i) (fun i => aMany s i) (e := 1) hp (fun i hi q => Nat.le_of_eq (mi i hi q)) (Nat.le_of_eq mp)
        show aMany t 0 + aMany t 1 + aMany t 2 + aMany t 3 ≤ _
        exact Nat.le_trans this (by omega)
      · obtain ⟨f, f1, f2⟩ := b4 i hi
        by_cases q : i = kk
        · rw [q, g3, ← q, f2, nI_1]; exact ⟨f + 1, by omega, rfl⟩
        · rw [g4 i hi q]; exact ⟨f, by omega, f2⟩
      · refine Nat.le_trans (sumN_one (g := gB s) (k := kk) 10 (fun i hi q => ?_) ?_) (by omega)
        · unfold gB
          rw [sHT i 0 hi (by decide), g4 i hi q]
          exact Nat.le_refl _
        · obtain ⟨f, f1, f2⟩ := b4 kk hk
          unfold gB
          rw [sHT kk 0 hk (by decide), if_pos h0, if_pos h0, g3, f2, nI_1, nI_clamp (by omega), nI_clamp (by omega)]
          exact Nat.le_refl _
    · have mp : aMany t p = 0 := by unfold aMany; rw [e5]; rfl
      refine ⟨b, by omega, by rw [e2, b2], ?_, fun i hi => ?_, ?_⟩
      · have := sum4_one (fun i => aMany t i) (fun i => aMany s i) (e := 0) hp (fun i hi q => Nat.le_of_eq (mi i hi q)) (Nat.le_of_eq mp)
        show aMany t 0 + aMany t 1 + aMany t 2 + aMany t 3 ≤ _
        exact Nat.le_trans this (by omega)
      · obtain ⟨f, f1, f2⟩ := b4 i hi
        rw [g4 i hi]; exact ⟨f, by omega, f2⟩
      · refine Nat.le_trans (sumN_le (g := gB s) 10 (fun i hi => ?_)) b5
        unfold gB
        rw [sHT i 0 hi (by decide), g4 i hi]
        exact Nat.le_refl _
  · rcases hb with ⟨-, e6, -, e2, -⟩ | ⟨-, e6, -, e2, -⟩
    · rw [aSuF_up hp 1 r3 e6, e3, e2]
    · rw [aSuF_cg (s := s) (fun i hi => by
        by_cases q : i = p
        · rw [q, e6]
        · exact r3 i hi q), e3, e2]
  · by_cases q : i = p
    · subst q
      rcases hb with ⟨-, -, e5, -, kk, x, y, hk', -, -, -, -, -, l1, l2, l3, -, w0, w1, w2, w3, -⟩ | ⟨-, -, e5, -⟩
      · have mp : aMany t i = 1 := by unfold aMany; rw [e5]; rfl
        rw [mp] at hk
        rw [show k = 0 from by omega]
        exact ⟨x - y, 2 ^ i, i, by omega, by omega, w0, by rw [w1, pop_new i hi]; rfl, hi, w2, (new_h i hi).2.2, (new_h i hi).2.1, w3, (new_h i hi).2.2⟩
      · have mp : aMany t i = 0 := by unfold aMany; rw [e5]; rfl
        rw [mp] at hk
        exact absurd hk (Nat.not_lt_zero _)
    · rw [mi i hi q] at hk
      exact (hT i hi k hk).cg rfl (fun f hf => wI i hi q k f (by have := (hI.many hi).2; omega) hf)
  · by_cases hQ : Q = 60
    · rw [if_pos hQ, h4, nI_1] at r2p
      have hz : ¬ ro t p 2 = 0 := fun z => by rw [r2p] at z; have := nI_eq0 z (by omega); omega
      have hh : home t = home s + 1 := home_one hp hp2 hz r2
      refine ⟨fun i => if i = p then home s + 1 else pl i, fun i hi => ?_, fun v v1 v2 => ?_⟩
      · by_cases q : i = p
        · show _ = nI (if i = p then _ else _) ∧ (if i = p then _ else _) ≤ _
          rw [if_pos q, q, r2p, hh]; exact ⟨rfl, Nat.le_refl _⟩
        · show _ = nI (if i = p then _ else _) ∧ (if i = p then _ else _) ≤ _
          rw [if_neg q, r2 i hi q, hh]; exact ⟨(pl1 i hi).1, by have := (pl1 i hi).2; omega⟩
      · rw [hh] at v2
        by_cases q : v = home s + 1
        · exact ⟨p, hp, by show (if p = p then _ else _) = _; rw [if_pos rfl, q]⟩
        · obtain ⟨i, hi, e⟩ := pl2 v v1 (by omega)
          exact ⟨i, hi, by show (if i = p then _ else _) = _; rw [if_neg (fun z => by rw [z, hplp] at e; omega), e]⟩
    · rw [if_neg hQ] at r2p
      have hh : home t = home s := home_same (fun i hi => by
        by_cases q : i = p
        · rw [q, r2p, hp2]
        · exact r2 i hi q)
      refine ⟨pl, fun i hi => ?_, fun v v1 v2 => pl2 v v1 (by omega)⟩
      rw [hh]
      by_cases q : i = p
      · rw [q, r2p]; exact ⟨by rw [hplp]; rfl, (pl1 p hp).2⟩
      · rw [r2 i hi q]; exact pl1 i hi
