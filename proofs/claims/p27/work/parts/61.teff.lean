/-! what a turn does to the row, in one place -/
theorem aSnF_cg {s t : Nat → Int32} (q : Int32) : ∀ n, (∀ i, i < n → sn t i 0 = sn s i 0) → aSnF t q n = aSnF s q n
  | 0, _ => rfl
  | n + 1, e => by
    unfold aSnF
    rw [e n (by omega), aSnF_cg q n (fun i hi => e i (by omega))]
theorem aSnAt_cg {s t : Nat → Int32} (q : Int32) (e : ∀ i, i < 10 → sn t i 0 = sn s i 0) : aSnAt t q = aSnAt s q := aSnF_cg q 10 e
def bb4 (a b c d : Bool) : Int32 := ((((0 : Int32) ||| (if a then 1 <<< (nI 0 &&& 31) else 0)) ||| (if b then 1 <<< (nI 1 &&& 31) else 0)) ||| (if c then 1 <<< (nI 2 &&& 31) else 0)) ||| (if d then 1 <<< (nI 3 &&& 31) else 0)
theorem aPi_bb4 (s : Nat → Int32) (q : Int32) : aPi s q = bb4 (decide (ro s 0 0 = q)) (decide (ro s 1 0 = q)) (decide (ro s 2 0 = q)) (decide (ro s 3 0 = q)) := by
  unfold bb4
  simp only [decide_eq_true_eq]
  rfl
theorem bb4_m0 : ∀ a a' b c d : Bool, bb4 a b c d &&& ((1 : Int32) <<< (nI 0 &&& 31) ^^^ (-1)) = bb4 a' b c d &&& ((1 : Int32) <<< (nI 0 &&& 31) ^^^ (-1)) := by decide +kernel
theorem bb4_m1 : ∀ a a' b c d : Bool, bb4 b a c d &&& ((1 : Int32) <<< (nI 1 &&& 31) ^^^ (-1)) = bb4 b a' c d &&& ((1 : Int32) <<< (nI 1 &&& 31) ^^^ (-1)) := by decide +kernel
theorem bb4_m2 : ∀ a a' b c d : Bool, bb4 b c a d &&& ((1 : Int32) <<< (nI 2 &&& 31) ^^^ (-1)) = bb4 b c a' d &&& ((1 : Int32) <<< (nI 2 &&& 31) ^^^ (-1)) := by decide +kernel
theorem bb4_m3 : ∀ a a' b c d : Bool, bb4 b c d a &&& ((1 : Int32) <<< (nI 3 &&& 31) ^^^ (-1)) = bb4 b c d a' &&& ((1 : Int32) <<< (nI 3 &&& 31) ^^^ (-1)) := by decide +kernel
/-- the others on a square -/
theorem aPi_mask {s t : Nat → Int32} {p : Nat} (q : Int32) (hp : p < 4) (e : ∀ i, i < 4 → ¬ i = p → ro t i 0 = ro s i 0) : aPi t q &&& ((1 : Int32) <<< (nI p &&& 31) ^^^ (-1)) = aPi s q &&& ((1 : Int32) <<< (nI p &&& 31) ^^^ (-1)) := by
  rw [aPi_bb4, aPi_bb4]
  rcases (show p = 0 ∨ p = 1 ∨ p = 2 ∨ p = 3 by omega) with rfl | rfl | rfl | rfl
  · rw [e 1 (by decide) (by decide), e 2 (by decide) (by decide), e 3 (by decide) (by decide)]; exact bb4_m0 _ _ _ _ _
  · rw [e 0 (by decide) (by decide), e 2 (by decide) (by decide), e 3 (by decide) (by decide)]; exact bb4_m1 _ _ _ _ _
  · rw [e 0 (by decide) (by decide), e 1 (by decide) (by decide), e 3 (by decide) (by decide)]; exact bb4_m2 _ _ _ _ _
  · rw [e 0 (by decide) (by decide), e 1 (by decide) (by decide), e 2 (by decide) (by decide)]; exact bb4_m3 _ _ _ _ _
theorem aBites_T3 {s : Nat → Int32} {p : Nat} (hp : p < 4) (q : Int32) : aBites (aT3 s p q) p q ↔ aBites s p q := by
  unfold aBites
  rw [aSnAt_cg q (fun i _ => sn_T3 hp q i 0), sn_T3 hp, aPi_mask (s := s) (t := aT3 s p q) q hp (fun i _ h => by rw [aT3_ro s q (by decide), if_neg h])]
theorem aBit_w12 {s : Nat → Int32} {p k : Nat} {q : Int32} (hp : p < 4) (hk : k < 10) (hm : aMany s p = 0) (h5 : ro s p 5 = nI 0) (hq : aSnAt s q = nI k) : aBit s p q (wi p 0 + 1) = 0 ∧ aBit s p q (wi p 0 + 2) = nI p := by
  have hw : wi p 0 = 32 + 4 * (20 * p + 0) := rfl
  rw [bitR_eq hp (n := 0) (by decide) hk hm h5 hq, bitR_eq hp (n := 0) (by decide) hk hm h5 hq]
  unfold bitR bitR4 bitR3 bitR2 bitR1 bt4
  refine ⟨?_, ?_⟩
  all_goals simp (disch := omega) only [upd_ne, upd_eq]
theorem aBit_3 {s : Nat → Int32} {p k : Nat} {q : Int32} (hp : p < 4) (hk : k < 10) (hm : aMany s p = 0) (h5 : ro s p 5 = nI 0) (hq : aSnAt s q = nI k) : ro (aBit s p q) p 3 = ro s p 3 + 1 ∧ aBit s p q 2 = s 2 + 1 := by
  have hw : wi p 0 = 32 + 4 * (20 * p + 0) := rfl
  unfold ro
  rw [bitR_eq hp (n := 0) (by decide) hk hm h5 hq, bitR_eq hp (n := 0) (by decide) hk hm h5 hq]
  unfold bitR bitR4 bitR3 bitR2 bitR1 ro bt4
  refine ⟨?_, ?_⟩
  all_goals simp (disch := omega) only [upd_ne, upd_eq]
theorem aBit_sn3 {s : Nat → Int32} {p k : Nat} {q : Int32} (hp : p < 4) (hk : k < 10) (hm : aMany s p = 0) (h5 : ro s p 5 = nI 0) (hq : aSnAt s q = nI k) (i : Nat) : (i = k → sn (aBit s p q) i 3 = sn s k 3 + 1) ∧ (¬ i = k → sn (aBit s p q) i 3 = sn s i 3) := by
  have hw : wi p 0 = 32 + 4 * (20 * p + 0) := rfl
  unfold sn
  rw [bitR_eq hp (n := 0) (by decide) hk hm h5 hq]
  unfold bitR bitR4 bitR3 bitR2 bitR1 sn bt4
  refine ⟨fun e => ?_, fun e => ?_⟩
  · subst e
    simp (disch := omega) only [upd_ne, upd_eq]
  · simp (disch := omega) only [upd_ne, upd_eq]
/-- who is bitten: the bite's row, the snake behind it -/
def TB (s t : Nat → Int32) (p Q : Nat) : Prop := ∃ k x y, k < 10 ∧ ¬ Q = 60 ∧ aSnAt s (nI Q) = nI k ∧ 0 < sn s k 0 ∧ sn s k 0 = nI x ∧ sn s k 1 = nI y ∧ y + 6 ≤ x ∧ x ≤ y + 40 ∧ x ≤ 59 ∧ sn s k 2 = 0 ∧ t (wi p 0 + 0) = nI (x - y) ∧ t (wi p 0 + 1) = 0 ∧ t (wi p 0 + 2) = nI p ∧ t (wi p 0 + 3) = nI (2 ^ p) ∧ sn t k 2 = s 5 ∧ sn t k 3 = sn s k 3 + 1 ∧ ∀ i, i < 10 → ¬ i = k → sn t i 3 = sn s i 3
def TE (s t : Nat → Int32) (p Q : Nat) : Prop :=
  (∀ i, i < 4 → ro t i 0 = if i = p then nI Q else ro s i 0) ∧ (∀ i, i < 4 → ro t i 1 = ro s i 1) ∧ (∀ i, i < 4 → ¬ i = p → ro t i 2 = ro s i 2) ∧ ro t p 2 = (if Q = 60 then s 4 + 1 else 0)
  ∧ (∀ i, i < 4 → ¬ i = p → ro t i 3 = ro s i 3) ∧ ro t p 4 = ro s p 4 + (ro s p 0 - aBeg s p) ∧ (∀ i, i < 4 → ¬ i = p → ro t i 5 = ro s i 5)
  ∧ (∀ i, i < 4 → ¬ i = p → ∀ x f, x < 20 → f < 4 → t (wi i x + f) = s (wi i x + f)) ∧ (t 0 = s 0 + 1 ∧ t 4 = (if Q = 60 then s 4 + 1 else s 4) ∧ t 5 = s 5 ∧ t 6 = s 6 ∧ t 7 = s 7)
  ∧ (∀ i f, i < 10 → f < 2 → sn t i f = sn s i f)
  ∧ ((aBites s p (nI Q) ∧ ro t p 3 = ro s p 3 + 1 ∧ ro t p 5 = 1 ∧ t 2 = s 2 + 1 ∧ TB s t p Q) ∨ (¬ aBites s p (nI Q) ∧ ro t p 3 = ro s p 3 ∧ ro t p 5 = 0 ∧ t 2 = s 2 ∧ ∀ i, i < 10 → sn t i 3 = sn s i 3))
set_option maxHeartbeats 1000000 in
theorem T_eff {B : Nat} {s : Nat → Int32} (h : Inv B s) {d : Nat} (h6 : d ≤ 6) {p : Nat} (hp : p < 4) (hs1 : s 1 = nI p) (hp2 : ro s p 2 = 0) : ∃ Q, Q ≤ 60 ∧ aTq s (nI d) = nI Q ∧ TE s (aT s (nI d)) p Q := by
  obtain ⟨Q, hQ, eQ⟩ := aTq_nn h hp hs1 h6
  refine ⟨Q, hQ, eQ, ?_⟩
  obtain ⟨hB1, hB2, g3, g4, g5, g6, ⟨a, ha, ea⟩, g8, -⟩ := h
  have aA : ∀ {j : Nat}, ¬ j = 1 → ¬ j = 0 → j < 352 → aT s (nI d) j = aT5 s p (nI Q) j := fun {j} q1 q0 q2 => by rw [aT_at hs1 hp q1 q0 q2, eQ]
  have aB : ∀ {j : Nat}, ¬ j = 1 → ¬ j = 0 → ¬ j = 4 → ¬ j = 8 + 6 * p + 2 → j < 352 → aT s (nI d) j = aT4 s p (nI Q) j := fun {j} q1 q0 q4 q5 q2 => by rw [aA q1 q0 q2, aT5_at hp q4 q5]
  have nb : ∀ {k : Nat}, k < 10 → ¬ sn s k 0 = nI 60 := fun {k} hk q => by
    obtain ⟨c1, -⟩ := g5 k hk
    rcases c1 with ⟨z, -⟩ | ⟨x, y, x1, x2, -, -, -, -, ex, -⟩
    · rw [z] at q; exact absurd q (by decide)
    · rw [ex] at q; have := nI_inj (by omega) (by omega) q; omega
  have bt : (¬ aBites s p (nI Q) ∧ aT4 s p (nI Q) = aT3 s p (nI Q)) ∨ (aBites s p (nI Q) ∧ ∃ k x y, k < 10 ∧ ¬ Q = 60 ∧ 0 < sn s k 0 ∧ sn s k 0 = nI x ∧ sn s k 1 = nI y ∧ y + 6 ≤ x ∧ x ≤ y + 40 ∧ x ≤ 59 ∧ aSnAt s (nI Q) = nI k ∧ sn s k 2 = 0 ∧ aSnAt (aT3 s p (nI Q)) (nI Q) = nI k ∧ aT4 s p (nI Q) = aBit (aT3 s p (nI Q)) p (nI Q)) := by
    by_cases q0 : aBites s p (nI Q)
    · have q := (aBites_T3 hp (nI Q)).mpr q0
      obtain ⟨k, hk, e, ek, -⟩ := aSnAt_nat q0.1
      have hQ0 : ¬ Q = 60 := fun z => nb hk (by rw [ek, z])
      obtain ⟨c1, -⟩ := g5 k hk
      obtain ⟨k', hk', e', h0'⟩ := aSk_at q0.1
      obtain rfl : k' = k := nI_inj (by omega) (by omega) (e'.symm.trans e)
      have hsl : sn s k' 2 = 0 := by have := q0.2.1; rwa [e, nI_clamp (by omega)] at this
      rcases c1 with ⟨z, -⟩ | ⟨x, y, x1, x2, y1, y2, xy1, xy2, ex, ey⟩
      · rw [z] at h0'; exact absurd h0' (by decide)
      · refine Or.inr ⟨q0, k', x, y, hk, hQ0, h0', ex, ey, xy1, xy2, x2, e, hsl, ?_, ?_⟩
        · rw [aSnAt_cg (nI Q) (fun i _ => sn_T3 hp (nI Q) i 0)]; exact e
        · unfold aT4
          rw [if_pos q]
    · refine Or.inl ⟨q0, ?_⟩
      unfold aT4
      rw [if_neg (fun z => q0 ((aBites_T3 hp (nI Q)).mp z))]
  have m3 : aMany (aT3 s p (nI Q)) p = 0 := aT3_many _
  have r5 : ro (aT3 s p (nI Q)) p 5 = nI 0 := aT3_5 s p _
  have wE : ∀ i x, wi i x = 32 + 4 * (20 * i + x) := fun _ _ => rfl
  have hw0 := wE p 0
  have e4ne : ∀ {j}, ¬ j = 2 → ¬ j = 8 + 6 * p + 3 → ¬ j = 8 + 6 * p + 5 → (j < wi p 0 ∨ wi p 0 + 4 ≤ j) → j < 352 → aT4 s p (nI Q) j = aT3 s p (nI Q) j := fun {j} q1 q2 q3 q4 q5 => by
    rcases bt with ⟨-, e⟩ | ⟨-, k, x, y, hk, -, -, -, -, -, -, -, -, -, ek, e⟩
    · rw [e]
    · rw [e]; exact aBit_ne hp hk m3 r5 ek q1 q2 q3 q4 (by omega) (by omega)
  have rB : ∀ i f, i < 4 → f < 6 → ¬ (i = p ∧ f = 2) → ro (aT s (nI d)) i f = ro (aT4 s p (nI Q)) i f := fun i f hi hf q => aB (by omega) (by omega) (by omega) (by omega) (by omega)
  have rO : ∀ i f, i < 4 → f < 6 → ¬ i = p → ro (aT s (nI d)) i f = ro s i f := fun i f hi hf q => by
    rw [rB i f hi hf (fun z => q z.1)]
    have : ro (aT4 s p (nI Q)) i f = ro (aT3 s p (nI Q)) i f := e4ne (by omega) (by omega) (by omega) (by omega) (by omega)
    rw [this, aT3_ro s (nI Q) hf, if_neg q]
  have rP : ∀ f, f < 5 → ¬ f = 2 → ¬ f = 3 → ro (aT s (nI d)) p f = ro (aT3 s p (nI Q)) p f := fun f hf q2 q3 => by
    rw [rB p f hp (by omega) (fun z => q2 z.2)]
    exact e4ne (by omega) (by omega) (by omega) (by omega) (by omega)
  have t4 : aT s (nI d) 4 = if Q = 60 then s 4 + 1 else s 4 := by
    rw [aA (by decide) (by decide) (by decide)]
    unfold aT5
    by_cases q : Q = 60
    · rw [if_pos (by rw [q]; rfl), if_pos q]
      unfold aHome
      rw [aAdd_lo _ _ _ _ (by decide), upd_eq _ rfl, aT4_lo hp (by decide) (by decide)]
    · rw [if_neg (show ¬ nI Q = 60 from fun z => q (nI_inj (b := 60) (by omega) (by decide) z)), if_neg q, aT4_lo hp (by decide) (by decide)]
  have rp2 : ro (aT s (nI d)) p 2 = if Q = 60 then s 4 + 1 else 0 := by
    have e : ro (aT s (nI d)) p 2 = ro (aT5 s p (nI Q)) p 2 := aA (by omega) (by omega) (by omega)
    have e4 : ro (aT4 s p (nI Q)) p 2 = 0 := by rw [aT4_ro hp hp (by decide), aT3_ro s (nI Q) (by decide), if_pos rfl, if_neg (by decide), if_neg (by decide), if_neg (by decide)]; exact hp2
    rw [e]
    unfold aT5
    by_cases q : Q = 60
    · rw [if_pos (by rw [q]; rfl), if_pos q]
      unfold aHome
      rw [ro_aAdd _ _ (by decide) (by decide), if_pos ⟨rfl, rfl⟩, upd_eq _ rfl, aT4_lo hp (by decide) (by decide)]
      have : ro (upd (aT4 s p (nI Q)) 4 (s 4 + 1)) p 2 = ro (aT4 s p (nI Q)) p 2 := upd_ne _ (by omega)
      rw [this, e4, Int32.zero_add]
    · rw [if_neg (show ¬ nI Q = 60 from fun z => q (nI_inj (b := 60) (by omega) (by decide) z)), if_neg q, e4]
  have elo : ∀ j, j < 8 → ¬ j = 0 → ¬ j = 1 → ¬ j = 2 → ¬ j = 4 → aT s (nI d) j = s j := fun j hj q0 q1 q2 q4 => by
    rw [aB q1 q0 q4 (by omega) (by omega), aT4_lo hp hj q2]
  have t0 : aT s (nI d) 0 = s 0 + 1 := by
    unfold aT
    rw [aNoF_ne (by decide), hs1, nI_clamp (by omega), eQ]
    unfold aT7 aT6
    rw [upd_eq _ rfl, aSlF_lo _ (by decide)]
    have : aT5 s p (nI Q) 0 = s 0 := by rw [aT5_at hp (by decide) (by omega), aT4_lo hp (by decide) (by decide)]
    rw [this]
  have sT : ∀ i f, i < 10 → f < 4 → sn (aT s (nI d)) i f = sn (aSlF (aT5 s p (nI Q)) 10) i f := fun i f hi hf => by
    unfold sn aT
    rw [aNoF_ne (by omega), hs1, nI_clamp (by omega), eQ]
    unfold aT7 aT6
    rw [upd_ne _ (by omega)]
  have s5 : ∀ i f, i < 10 → f < 4 → sn (aT5 s p (nI Q)) i f = sn (aT4 s p (nI Q)) i f := fun i f hi hf => aT5_at hp (by omega) (by omega)
  have s4 : ∀ i f, i < 10 → f < 4 → ¬ f = 2 → sn (aT s (nI d)) i f = sn (aT4 s p (nI Q)) i f := fun i f hi hf q => by
    rw [sT i f hi hf, aSlF_s _ hf 10 (Or.inr q), s5 i f hi hf]
  have sHT : ∀ i f, i < 10 → f < 2 → sn (aT s (nI d)) i f = sn s i f := fun i f hi hf => by
    rw [s4 i f hi (by omega) (by omega)]
    rcases bt with ⟨-, e⟩ | ⟨-, k, x', y, hk, -, -, -, -, -, -, -, -, -, ek, e⟩
    · rw [e, sn_T3 hp]
    · rw [e]
      exact (aBit_ne hp hk m3 r5 ek (by omega) (by omega) (by omega) (by omega) (by omega) (by omega)).trans (aT3_hi s _ hp (by omega))
  have wI : ∀ i, i < 4 → ¬ i = p → ∀ x f, x < 20 → f < 4 → aT s (nI d) (wi i x + f) = s (wi i x + f) := fun i hi q x f hx hf => by
    have hw := wE i x
    rw [aB (by omega) (by omega) (by omega) (by omega) (by omega), e4ne (by omega) (by omega) (by omega) (by omega) (by omega)]
    exact aT3_hi s _ hp (by omega)
  have ew : ∀ f, f < 4 → aT s (nI d) (wi p 0 + f) = aT4 s p (nI Q) (wi p 0 + f) := fun f hf => aB (by omega) (by omega) (by omega) (by omega) (by omega)
  refine ⟨fun i hi => ?_, fun i hi => ?_, fun i hi q => rO i 2 hi (by decide) q, rp2, fun i hi q => rO i 3 hi (by decide) q, ?_, fun i hi q => rO i 5 hi (by decide) q, wI, ⟨t0, t4, elo 5 (by decide) (by decide) (by decide) (by decide) (by decide), elo 6 (by decide) (by decide) (by decide) (by decide) (by decide), elo 7 (by decide) (by decide) (by decide) (by decide) (by decide)⟩, sHT, ?_⟩
  · by_cases q : i = p
    · rw [if_pos q, q, rP 0 (by decide) (by decide) (by decide), aT3_ro s (nI Q) (by decide), if_pos rfl, if_pos rfl]
    · rw [if_neg q]; exact rO i 0 hi (by decide) q
  · by_cases q : i = p
    · rw [q, rP 1 (by decide) (by decide) (by decide), aT3_ro s (nI Q) (by decide), if_pos rfl, if_neg (by decide), if_neg (by decide), if_neg (by decide)]
    · exact rO i 1 hi (by decide) q
  · rw [rP 4 (by decide) (by decide) (by decide), aT3_ro s (nI Q) (by decide), if_pos rfl, if_neg (by decide), if_pos rfl]
  · have e3 := rB p 3 hp (by decide) (fun z => absurd z.2 (by decide))
    have e5 := rB p 5 hp (by decide) (fun z => absurd z.2 (by decide))
    have e2 : aT s (nI d) 2 = aT4 s p (nI Q) 2 := aB (by decide) (by decide) (by decide) (by omega) (by decide)
    have f3 : ro (aT3 s p (nI Q)) p 3 = ro s p 3 := by rw [aT3_ro s (nI Q) (by decide), if_pos rfl, if_neg (by decide), if_neg (by decide), if_neg (by decide)]
    rcases bt with ⟨nbt, e⟩ | ⟨hbt, k, x, y, hk, hQ0, h0, ex, ey, xy1, xy2, x2, ea0, hsl, ek, e⟩
    · refine Or.inr ⟨nbt, ?_, ?_, ?_, fun i hi => ?_⟩
      · rw [e3, e, f3]
      · rw [e5, e]; exact r5
      · rw [e2, e, aT3_lo s p _ (by decide)]
      · rw [s4 i 3 hi (by decide) (by decide), e, sn_T3 hp]
    · obtain ⟨w0, w3⟩ := aBit_w hp hk m3 r5 ek
      obtain ⟨w1, w2⟩ := aBit_w12 hp hk m3 r5 ek
      obtain ⟨v3, v2⟩ := aBit_3 hp hk m3 r5 ek
      refine Or.inl ⟨hbt, ?_, ?_, ?_, k, x, y, hk, hQ0, ea0, h0, ex, ey, xy1, xy2, x2, hsl, ?_, ?_, ?_, ?_, ?_, ?_, fun i hi q => ?_⟩
      · rw [e3, e, v3, f3]
      · rw [e5, e]; exact aBit_5 hp hk m3 r5 ek
      · rw [e2, e, v2, aT3_lo s p _ (by decide)]
      · rw [ew 0 (by decide), e, w0, sn_T3 hp, sn_T3 hp, ex, ey, nI_sub (by omega)]
      · rw [ew 1 (by decide), e, w1]
      · rw [ew 2 (by decide), e, w2]
      · rw [ew 3 (by decide), e, w3]; exact (new_h p hp).1
      · rw [sT k 2 hk (by decide), aSl2, if_pos hk, s5 k 2 hk (by decide), e, (aBit_sn hp (by decide) hk m3 r5 ek k).2.1 rfl, aT3_lo s p _ (by decide), ea, nI_1, sleep1 (by omega)]
        rfl
      · rw [s4 k 3 hk (by decide) (by decide), e, (aBit_sn3 hp hk m3 r5 ek k).1 rfl, sn_T3 hp]
      · rw [s4 i 3 hi (by decide) (by decide), e, (aBit_sn3 hp hk m3 r5 ek i).2 q, sn_T3 hp]
