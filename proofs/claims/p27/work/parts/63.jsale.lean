/-! what a sale, a setting, a charm, a snake do to the property's own invariant -/
section
variable {s : Nat → Int32} {p k b m n : Nat} {c : Int32}
theorem trR_w12 (hp : p < 4) (hb : b < 4) (hpb : ¬ p = b) (hk : k ≤ n) (hn : n < 16) (hm : m < 16) : trR s p k b m n c (wi b m + 1) = s (wi p k + 1) + 1 ∧ trR s p k b m n c (wi b m + 2) = s (wi p k + 2) := by
  have e1 : wi p k = 32 + 4 * (20 * p + k) := rfl
  have e2 : wi p n = 32 + 4 * (20 * p + n) := rfl
  have e3 : wi b m = 32 + 4 * (20 * b + m) := rfl
  unfold trR trR4 trR3 trR2 trR1 bt4
  refine ⟨?_, ?_⟩
  all_goals simp (disch := omega) only [upd_ne, upd_eq, aSh_out]
theorem trR_c (hp : p < 4) (hb : b < 4) (hpb : ¬ p = b) (hk : k ≤ n) (hn : n < 16) (hm : m < 16) : trR s p k b m n c (8 + 6 * p + 1) = ro s p 1 - c ∧ trR s p k b m n c (8 + 6 * b + 1) = ro s b 1 + c ∧ trR s p k b m n c 3 = s 3 + 1 := by
  have e1 : wi p k = 32 + 4 * (20 * p + k) := rfl
  have e2 : wi p n = 32 + 4 * (20 * p + n) := rfl
  have e3 : wi b m = 32 + 4 * (20 * b + m) := rfl
  unfold trR trR4 trR3 trR2 trR1 ro
  refine ⟨?_, ?_, ?_⟩
  all_goals simp (disch := omega) only [upd_ne, upd_eq, aSh_out, bt4_ne]
end
/-- what a sale leaves -/
def SE (s t : Nat → Int32) (p k b : Nat) (c : Int32) : Prop :=
  (∀ i f, i < 4 → f < 6 → ¬ f = 1 → ¬ f = 5 → ro t i f = ro s i f) ∧ (ro t p 1 = ro s p 1 - c ∧ ro t b 1 = ro s b 1 + c ∧ ∀ i, i < 4 → ¬ i = p → ¬ i = b → ro t i 1 = ro s i 1)
  ∧ (aMany t p + 1 = aMany s p ∧ aMany t b = aMany s b + 1 ∧ ∀ i, i < 4 → ¬ i = p → ¬ i = b → aMany t i = aMany s i)
  ∧ (∀ i, i < 4 → ¬ i = p → ¬ i = b → ∀ x f, x < 20 → f < 4 → t (wi i x + f) = s (wi i x + f)) ∧ (∀ x f, x < aMany s b → f < 4 → t (wi b x + f) = s (wi b x + f))
  ∧ (∀ x f, x < aMany t p → f < 4 → t (wi p x + f) = if x < k then s (wi p x + f) else s (wi p (x + 1) + f))
  ∧ (t (wi b (aMany s b) + 0) = s (wi p k + 0) ∧ t (wi b (aMany s b) + 1) = s (wi p k + 1) + 1 ∧ t (wi b (aMany s b) + 2) = s (wi p k + 2) ∧ t (wi b (aMany s b) + 3) = s (wi p k + 3) ||| 1 <<< (nI b &&& 31))
  ∧ (∀ i f, i < 10 → f < 4 → sn t i f = sn s i f) ∧ (∀ j, j < 8 → ¬ j = 3 → t j = s j) ∧ t 3 = s 3 + 1
theorem S_eff {B : Nat} {s : Nat → Int32} (h : Inv B s) {p k b : Nat} {c : Int32} (hp : p < 4) (hk : k < aMany s p) (hb : b < 4) (hpb : ¬ p = b) : SE s (aS s p k b c) p k b c := by
  have hmp := h.many hp
  have hmb := h.many hb
  obtain ⟨n, hn⟩ : ∃ n, aMany s p = n + 1 := ⟨aMany s p - 1, by omega⟩
  obtain ⟨m, hm⟩ : ∃ m, aMany s b = m := ⟨_, rfl⟩
  rw [hn] at hmp hk
  rw [hm] at hmb
  have hkn : k ≤ n := by omega
  have hn16 : n < 16 := by omega
  have hm16 : m < 16 := by omega
  have ht : ∀ j, aS s p k b c j = trR s p k b m n c j := fun j => trR_eq hp hkn hn16 hb hpb hm hm16 hn hmp.1 hmb.1 j
  have hne : ∀ {j : Nat}, ¬ j = 3 → ¬ j = 8 + 6 * p + 1 → ¬ j = 8 + 6 * b + 1 → ¬ j = 8 + 6 * p + 5 → ¬ j = 8 + 6 * b + 5 → (j < wi p k ∨ wi p n ≤ j) → (j < wi b m ∨ wi b m + 4 ≤ j) → aS s p k b c j = s j := fun {j} a1 a2 a3 a4 a5 a6 a7 => by rw [ht, trR_ne hp hb hpb hkn hn16 hm16 a1 a2 a3 a4 a5 a6 a7]
  have wE : ∀ i x, wi i x = 32 + 4 * (20 * i + x) := fun _ _ => rfl
  have e1 := wE p k
  have e2 := wE p n
  have e3 := wE b m
  have ep5 : ro (aS s p k b c) p 5 = nI n := (ht _).trans (trR_p5 hp hb hpb hkn hn16 hm16)
  have eb5 : ro (aS s p k b c) b 5 = nI (m + 1) := (ht _).trans (trR_b5 hp hb hpb hkn hn16 hm16)
  have ei5 : ∀ i, i < 4 → ¬ i = p → ¬ i = b → ro (aS s p k b c) i 5 = ro s i 5 := fun i hi q1 q2 => hne (by omega) (by omega) (by omega) (by omega) (by omega) (by omega) (by omega)
  have mp : aMany (aS s p k b c) p = n := by unfold aMany; rw [ep5, nI_clamp (by omega)]
  have mb : aMany (aS s p k b c) b = m + 1 := by unfold aMany; rw [eb5, nI_clamp (by omega)]
  obtain ⟨c1, c2, c3⟩ := trR_c (s := s) (c := c) hp hb hpb hkn hn16 hm16
  obtain ⟨w0, w3⟩ := trR_w (s := s) (c := c) hp hb hpb hkn hn16 hm16
  obtain ⟨w1, w2⟩ := trR_w12 (s := s) (c := c) hp hb hpb hkn hn16 hm16
  refine ⟨fun i f hi hf f1 f5 => hne (by omega) (by omega) (by omega) (by omega) (by omega) (by omega) (by omega), ⟨(ht _).trans c1, (ht _).trans c2, fun i hi q1 q2 => hne (by omega) (by omega) (by omega) (by omega) (by omega) (by omega) (by omega)⟩, ⟨by rw [mp, hn], by rw [mb, hm], fun i hi q1 q2 => by unfold aMany; rw [ei5 i hi q1 q2]⟩, fun i hi q1 q2 x f hx hf => ?_, fun x f hx hf => ?_, fun x f hx hf => ?_, ⟨?_, ?_, ?_, ?_⟩, fun i f hi hf => hne (by omega) (by omega) (by omega) (by omega) (by omega) (by omega) (by omega), fun j hj q => hne (by omega) (by omega) (by omega) (by omega) (by omega) (by omega) (by omega), (ht _).trans c3⟩
  · have := wE i x
    exact hne (by omega) (by omega) (by omega) (by omega) (by omega) (by omega) (by omega)
  · have := wE b x
    exact hne (by omega) (by omega) (by omega) (by omega) (by omega) (by omega) (by omega)
  · rw [mp] at hx
    have := wE p x
    have h2 := wE p (x + 1)
    by_cases q : x < k
    · rw [if_pos q]
      exact hne (by omega) (by omega) (by omega) (by omega) (by omega) (by omega) (by omega)
    · rw [if_neg q, ht, trR_sh hp hb hpb hkn hn16 hm16 (by omega)]
      congr 1
      omega
  · rw [hm]; exact (ht _).trans w0
  · rw [hm]; exact (ht _).trans w1
  · rw [hm]; exact (ht _).trans w2
  · rw [hm]; exact (ht _).trans w3
theorem toInt_small {x : Int32} {y : Nat} (hx : -1000 ≤ x.toInt ∧ x.toInt ≤ 1000) (hy : y ≤ 2000) : (x - nI y).toInt = x.toInt - y ∧ (x + nI y).toInt = x.toInt + y := by
  rw [Int32.toInt_sub, Int32.toInt_add, nI_toInt (by omega)]
  exact ⟨Int.bmod_eq_of_le (by omega) (by omega), Int.bmod_eq_of_le (by omega) (by omega)⟩
theorem jC.bd {s : Nat → Int32} (h : jC s) : ∀ p, p < 4 → -50 ≤ (ro s p 1).toInt ∧ (ro s p 1).toInt ≤ 190 := fun p hp => by
  obtain ⟨h1, h2⟩ := h
  have a0 := h1 0 (by decide)
  have a1 := h1 1 (by decide)
  have a2 := h1 2 (by decide)
  have a3 := h1 3 (by decide)
  rcases (show p = 0 ∨ p = 1 ∨ p = 2 ∨ p = 3 by omega) with rfl | rfl | rfl | rfl <;> omega
theorem rea_debt {s : Nat → Int32} {p k b : Nat} {c : Int32} (hr : aRea s p k b c = 0) : ro s b 2 = 0 ∧ ¬ s 7 ≤ s (wi p k + 1) ∧ ¬ s (wi p k + 3) >>> (nI b &&& 31) &&& 1 = 1 ∧ ¬ ro s p 1 - c < - s 6 ∧ ¬ c < aAsk s (s (wi p k + 0)) b := by
  unfold aRea at hr
  by_cases h1 : ¬ ro s b 2 = 0
  · rw [if_pos h1] at hr; exact absurd hr (by decide)
  · rw [if_neg h1] at hr
    by_cases h2 : s 7 ≤ s (wi p k + 1)
    · rw [if_pos h2] at hr; exact absurd hr (by decide)
    · rw [if_neg h2] at hr
      by_cases h3 : s (wi p k + 3) >>> (nI b &&& 31) &&& 1 = 1
      · rw [if_pos h3] at hr; exact absurd hr (by decide)
      · rw [if_neg h3] at hr
        by_cases h4 : ro s p 1 - c < - s 6
        · rw [if_pos h4] at hr; exact absurd hr (by decide)
        · rw [if_neg h4] at hr
          by_cases h5 : c < aAsk s (s (wi p k + 0)) b
          · rw [if_pos h5] at hr; exact absurd hr (by decide)
          · exact ⟨Decidable.not_not.mp h1, h2, h3, h4, h5⟩
theorem bit_or : ∀ h, h < 16 → ∀ b, b < 4 → ∀ w, w < 4 → Nat.testBit h w = true → Nat.testBit (h ||| 2 ^ b) w = true := by decide +kernel
theorem J_S {B : Nat} {s : Nat → Int32} (hI : Inv B s) (h : J B s) {t : Nat → Int32} {p k b cc : Nat} (hp : p < 4) (hk : k < aMany s p) (hb : b < 4) (hpb : ¬ p = b) (hcc : cc ≤ 99) (hr : aRea s p k b (nI cc) = 0) (hE : SE s t p k b (nI cc)) : J B t := by
  obtain ⟨er, ⟨ep1, eb1, ei1⟩, ⟨mp, mb, mi⟩, wI, wB, wP, ⟨w0, w1, w2, w3⟩, esn, elo, -⟩ := hE
  obtain ⟨⟨b', b1, b2, b3, b4, b5⟩, hc, ⟨⟨a, a1, a2⟩, e3⟩, hT, ⟨pl, pl1, pl2⟩⟩ := h
  have hbd := hc.bd
  obtain ⟨c1, c2⟩ := hc
  obtain ⟨d1, d2, d3, d4, d5⟩ := rea_debt hr
  have xp := toInt_small (x := ro s p 1) (y := cc) (by have := hbd p hp; omega) (by omega)
  have xb := toInt_small (x := ro s b 1) (y := cc) (by have := hbd b hb; omega) (by omega)
  have hdebt : -(a : Int) ≤ (ro s p 1).toInt - cc := by
    rw [i32_lt, xp.1, a2, Int32.toInt_neg, nI_toInt (by omega), Int.bmod_eq_of_le (by omega) (by omega)] at d4
    omega
  have cp : (ro t p 1).toInt = (ro s p 1).toInt - cc := by rw [ep1, xp.1]
  have cb : (ro t b 1).toInt = (ro s b 1).toInt + cc := by rw [eb1, xb.2]
  have ci : ∀ i, i < 4 → ¬ i = p → ¬ i = b → (ro t i 1).toInt = (ro s i 1).toInt := fun i hi q1 q2 => by rw [ei1 i hi q1 q2]
  have hh : home t = home s := home_same (fun i hi => er i 2 hi (by decide) (by decide) (by decide))
  have e2 : t 2 = s 2 := elo 2 (by decide) (by decide)
  refine ⟨⟨b', b1, by rw [e2]; exact b2, ?_, fun i hi => by rw [esn i 3 hi (by decide)]; exact b4 i hi, ?_⟩, ⟨fun i hi => ?_, ?_⟩, ⟨⟨a, a1, by rw [elo 6 (by decide) (by decide)]; exact a2⟩, ?_⟩, fun i hi x hx => ?_, ⟨pl, fun i hi => by rw [er i 2 hi (by decide) (by decide) (by decide), hh]; exact pl1 i hi, fun v v1 v2 => pl2 v v1 (by omega)⟩⟩
  · refine Nat.le_trans (sum4_le (fun i => aMany t i) (fun i => aMany s i) hp hb hpb mi ?_) b3
    show aMany t p + aMany t b ≤ aMany s p + aMany s b
    omega
  · refine Nat.le_trans (sumN_le (g := gB s) 10 (fun i hi => ?_)) b5
    unfold gB
    rw [esn i 0 hi (by decide), esn i 3 hi (by decide)]
    exact Nat.le_refl _
  · by_cases q : i = p
    · rw [q, cp]; omega
    · by_cases q2 : i = b
      · rw [q2, cb]; have := c1 b hb; omega
      · rw [ci i hi q q2]; exact c1 i hi
  · have k0 := ci 0 (by decide)
    have k1 := ci 1 (by decide)
    have k2 := ci 2 (by decide)
    have k3 := ci 3 (by decide)
    rcases (show p = 0 ∨ p = 1 ∨ p = 2 ∨ p = 3 by omega) with rfl | rfl | rfl | rfl <;> rcases (show b = 0 ∨ b = 1 ∨ b = 2 ∨ b = 3 by omega) with rfl | rfl | rfl | rfl <;> first | exact absurd rfl hpb | (simp at k0 k1 k2 k3; omega)
  · rw [aSuF_cg (s := s) (fun i hi => er i 3 hi (by decide) (by decide) (by decide)), e3, e2]
  · by_cases q : i = p
    · subst q
      have hx' := wP x
      by_cases q2 : x < k
      · exact (hT i hi x (by omega)).cg rfl (fun f hf => by rw [hx' f hx hf, if_pos q2])
      · exact (hT i hi (x + 1) (by omega)).cg rfl (fun f hf => by rw [hx' f hx hf, if_neg q2])
    · by_cases q2 : i = b
      · subst q2
        by_cases q3 : x < aMany s i
        · exact (hT i hi x q3).cg rfl (fun f hf => wB x f q3 hf)
        · rw [show x = aMany s i from by omega]
          obtain ⟨z, hh', w, h1, h2, h3, h4, h5, h6, h7, h8, h9, h10⟩ := hT p hp k hk
          have hbit : Nat.testBit hh' i = false := no_bit hh' h8 i hi (by rw [← h9]; exact d3)
          obtain ⟨o1, o2, o3⟩ := pop_add hh' h8 i hi hbit
          have hpos : 0 < pop4 hh' := by
            unfold pop4
            rcases (show p = 0 ∨ p = 1 ∨ p = 2 ∨ p = 3 by omega) with rfl | rfl | rfl | rfl <;> rw [if_pos h10] <;> omega
          refine ⟨z, hh' ||| 2 ^ i, w, h1, h2, w0.trans h3, ?_, h5, w2.trans h6, bit_or hh' h8 i hi w h5 h7, o3, ?_, new_bit hh' h8 i hi⟩
          · rw [w1, h4, nI_1, o1]; congr 1; omega
          · rw [w3, h9, or_nI hh' h8 i hi]
      · rw [mi i hi q q2] at hx
        exact (hT i hi x hx).cg rfl (fun f hf => wI i hi q q2 x f (by have := (hI.many hi).2; omega) hf)
theorem J_lo {B : Nat} {s t : Nat → Int32} (h : J B s) (e : ∀ j, j < 392 → ¬ j = 5 → ¬ j = 6 → ¬ j = 7 → t j = s j) (h6 : ∃ a, a ≤ 50 ∧ t 6 = nI a) (hm : ∀ p, p < 4 → aMany s p < 20) : J B t := by
  obtain ⟨⟨b', b1, b2, b3, b4, b5⟩, ⟨c1, c2⟩, ⟨-, e3⟩, hT, ⟨pl, pl1, pl2⟩⟩ := h
  have er : ∀ p f, p < 4 → f < 6 → ro t p f = ro s p f := fun p f hp hf => e _ (by omega) (by omega) (by omega) (by omega)
  have es : ∀ i f, i < 10 → f < 4 → sn t i f = sn s i f := fun i f hi hf => e _ (by omega) (by omega) (by omega) (by omega)
  have em : ∀ p, p < 4 → aMany t p = aMany s p := fun p hp => by unfold aMany; rw [er p 5 hp (by decide)]
  have hh : home t = home s := home_same (fun i hi => er i 2 hi (by decide))
  refine ⟨⟨b', b1, by rw [e 2 (by decide) (by decide) (by decide) (by decide)]; exact b2, by rw [em 0 (by decide), em 1 (by decide), em 2 (by decide), em 3 (by decide)]; exact b3, fun i hi => by rw [es i 3 hi (by decide)]; exact b4 i hi, Nat.le_trans (sumN_le (g := gB s) 10 (fun i hi => ?_)) b5⟩, ⟨fun p hp => by rw [er p 1 hp (by decide)]; exact c1 p hp, by rw [er 0 1 (by decide) (by decide), er 1 1 (by decide) (by decide), er 2 1 (by decide) (by decide), er 3 1 (by decide) (by decide)]; exact c2⟩, ⟨h6, ?_⟩, fun p hp k hk => ?_, ⟨pl, fun p hp => by rw [er p 2 hp (by decide), hh]; exact pl1 p hp, fun v v1 v2 => pl2 v v1 (by omega)⟩⟩
  · unfold gB
    rw [es i 0 hi (by decide), es i 3 hi (by decide)]
    exact Nat.le_refl _
  · rw [aSuF_cg (s := s) (fun i hi => er i 3 hi (by decide)), e3, e 2 (by decide) (by decide) (by decide) (by decide)]
  · rw [em p hp] at hk
    exact (hT p hp k hk).cg rfl (fun f hf => e _ (by have := wi_lt hp (hm p hp); have := hm p hp; have : wi p k = 32 + 4 * (20 * p + k) := rfl; omega) (by unfold wi; omega) (by unfold wi; omega) (by unfold wi; omega))
theorem J_hi {B : Nat} {s t : Nat → Int32} (h : J B s) (e : ∀ j, j < 352 → t j = s j) (h3 : ∀ i, i < 10 → ∃ f, f ≤ B ∧ sn t i 3 = nI f) (hg : ∀ i, i < 10 → gB t i ≤ gB s i) (hm : ∀ p, p < 4 → aMany s p < 20) : J B t := by
  obtain ⟨⟨b', b1, b2, b3, b4, b5⟩, ⟨c1, c2⟩, ⟨h6, e3⟩, hT, ⟨pl, pl1, pl2⟩⟩ := h
  have er : ∀ p f, p < 4 → f < 6 → ro t p f = ro s p f := fun p f hp hf => e _ (by omega)
  have em : ∀ p, p < 4 → aMany t p = aMany s p := fun p hp => by unfold aMany; rw [er p 5 hp (by decide)]
  have hh : home t = home s := home_same (fun i hi => er i 2 hi (by decide))
  refine ⟨⟨b', b1, by rw [e 2 (by decide)]; exact b2, by rw [em 0 (by decide), em 1 (by decide), em 2 (by decide), em 3 (by decide)]; exact b3, h3, Nat.le_trans (sumN_le (g := gB s) 10 hg) b5⟩, ⟨fun p hp => by rw [er p 1 hp (by decide)]; exact c1 p hp, by rw [er 0 1 (by decide) (by decide), er 1 1 (by decide) (by decide), er 2 1 (by decide) (by decide), er 3 1 (by decide) (by decide)]; exact c2⟩, ⟨by rw [e 6 (by decide)]; exact h6, ?_⟩, fun p hp k hk => ?_, ⟨pl, fun p hp => by rw [er p 2 hp (by decide), hh]; exact pl1 p hp, fun v v1 v2 => pl2 v v1 (by omega)⟩⟩
  · rw [aSuF_cg (s := s) (fun i hi => er i 3 hi (by decide)), e3, e 2 (by decide)]
  · rw [em p hp] at hk
    exact (hT p hp k hk).cg rfl (fun f hf => e _ (by have := wi_lt hp (hm p hp); have := hm p hp; have : wi p k = 32 + 4 * (20 * p + k) := rfl; omega))
theorem J_set {B : Nat} {s : Nat → Int32} (hI : Inv B s) (h : J B s) {x v : Int32} (hok : aSetOk x v) : J B (aSetF s x v) := by
  obtain ⟨hx, hv⟩ := hok
  obtain ⟨i, hi, rfl⟩ := hx.nat
  unfold aSetF
  rw [nI_clamp (by omega)]
  refine J_lo h (fun j hj q5 q6 q7 => upd_ne _ (by omega)) ?_ (fun p hp => by have := (hI.many hp).2; omega)
  by_cases q : i = 1
  · subst q
    rw [upd_eq _ rfl]
    obtain ⟨v0, v1⟩ := hv
    obtain ⟨j, j1, rfl⟩ := nI_of2 (M := 50) (n := 50) rfl (Int32.not_lt.mpr v0) v1
    exact ⟨j, j1, rfl⟩
  · rw [upd_ne _ (by omega)]
    exact h.2.2.1.1
theorem J_cha {B : Nat} {s : Nat → Int32} (hI : Inv B s) (h : J B s) {i : Nat} (hi : i < 10) {t : Int32} : J B (aChaF s i t) := by
  have e3 : ∀ x, x < 10 → sn (aChaF s i t) x 3 = sn s x 3 := fun x hx => by
    unfold aChaF sn
    simp (disch := omega) only [upd_ne]
  refine J_hi h (fun j hj => by unfold aChaF; simp (disch := omega) only [upd_ne]) (fun x hx => by rw [e3 x hx]; exact h.1.elim fun b z => z.2.2.2.1 x hx) (fun x hx => ?_) (fun p hp => by have := (hI.many hp).2; omega)
  have e0 : sn (aChaF s i t) x 0 = 0 ∨ sn (aChaF s i t) x 0 = sn s x 0 := by
    by_cases q : x = i
    · subst q
      by_cases q2 : t = 10
      · refine Or.inl ?_
        unfold aChaF sn
        simp (disch := omega) only [upd_ne, upd_eq, if_pos q2]
      · refine Or.inr ?_
        unfold aChaF sn
        simp (disch := omega) only [upd_ne, upd_eq, if_neg q2]
    · refine Or.inr ?_
      unfold aChaF sn
      simp (disch := omega) only [upd_ne]
  unfold gB
  rw [e3 x hx]
  rcases e0 with e | e
  · rw [e, if_neg (by decide)]; exact Nat.zero_le _
  · rw [e]; exact Nat.le_refl _
theorem J_snk {B : Nat} {s : Nat → Int32} (hI : Inv B s) (h : J B s) {a b : Int32} : J B (aSnkF s a b) := by
  have hne : ∀ {j}, (j < 352 + 4 * aFrF s 10 0 ∨ 352 + 4 * aFrF s 10 0 + 4 ≤ j) → aSnkF s a b j = s j := fun {j} q => by
    unfold aSnkF
    simp (disch := omega) only [upd_ne]
  have h3 : aSnkF s a b (352 + 4 * aFrF s 10 0 + 3) = 0 := by unfold aSnkF; exact upd_eq _ rfl
  refine J_hi h (fun j hj => hne (by omega)) (fun x hx => ?_) (fun x hx => ?_) (fun p hp => by have := (hI.many hp).2; omega)
  · by_cases q : x = aFrF s 10 0
    · exact ⟨0, Nat.zero_le _, by unfold sn; rw [q, h3]; rfl⟩
    · have : sn (aSnkF s a b) x 3 = sn s x 3 := hne (by omega)
      rw [this]
      exact h.1.elim fun b z => z.2.2.2.1 x hx
  · unfold gB
    by_cases q : x = aFrF s 10 0
    · have : sn (aSnkF s a b) x 3 = 0 := by unfold sn; rw [q, h3]
      rw [this]
      by_cases q2 : 0 < sn (aSnkF s a b) x 0
      · rw [if_pos q2]; exact Nat.zero_le _
      · rw [if_neg q2]; exact Nat.zero_le _
    · have e3 : sn (aSnkF s a b) x 3 = sn s x 3 := hne (by omega)
      have e0 : sn (aSnkF s a b) x 0 = sn s x 0 := hne (by omega)
      rw [e3, e0]
      exact Nat.le_refl _
theorem J_r0 : J 0 r0 := by
  refine ⟨⟨0, Nat.le_refl _, rfl, by decide +kernel, fun i hi => ⟨0, Nat.le_refl _, ?_⟩, by decide +kernel⟩, ⟨fun p hp => ?_, by decide +kernel⟩, ⟨⟨20, by decide, rfl⟩, by decide +kernel⟩, fun p hp k hk => ?_, ⟨fun _ => 0, fun p hp => ⟨?_, Nat.zero_le _⟩, fun v v1 v2 => ?_⟩⟩
  · exact r0_0 (by omega)
  · rcases (show p = 0 ∨ p = 1 ∨ p = 2 ∨ p = 3 by omega) with rfl | rfl | rfl | rfl <;> decide +kernel
  · rcases (show p = 0 ∨ p = 1 ∨ p = 2 ∨ p = 3 by omega) with rfl | rfl | rfl | rfl <;> exact absurd hk (Nat.not_lt_zero _)
  · rcases (show p = 0 ∨ p = 1 ∨ p = 2 ∨ p = 3 by omega) with rfl | rfl | rfl | rfl <;> rfl
  · have : home r0 = 0 := by decide +kernel
    omega
