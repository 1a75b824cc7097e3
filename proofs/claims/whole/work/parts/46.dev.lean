/-! counts -/
def cnt (f : Nat → Bool) : Nat → Nat
  | 0 => 0
  | n + 1 => cnt f n + if f n = true then 1 else 0
theorem cnt_eq (f : Nat → Bool) : ∀ n, ((List.range n).filter f).length = cnt f n
  | 0 => rfl
  | n + 1 => by
    rw [List.range_succ, List.filter_append, List.length_append, cnt_eq f n]
    show _ = cnt f n + if f n = true then 1 else 0
    by_cases h : f n = true
    · rw [if_pos h, List.filter_cons_of_pos h]; rfl
    · rw [if_neg h, List.filter_cons_of_neg h]; rfl
theorem cnt_cg {f g : Nat → Bool} : ∀ n, (∀ x, x < n → f x = g x) → cnt f n = cnt g n
  | 0, _ => rfl
  | n + 1, h => by
    show cnt f n + (if f n = true then 1 else 0) = cnt g n + if g n = true then 1 else 0
    rw [cnt_cg n (fun x hx => h x (by omega)), h n (by omega)]
theorem cnt_le {f g : Nat → Bool} : ∀ n, (∀ x, x < n → f x = true → g x = true) → cnt f n ≤ cnt g n
  | 0, _ => Nat.le_refl _
  | n + 1, h => by
    show cnt f n + (if f n = true then 1 else 0) ≤ cnt g n + if g n = true then 1 else 0
    have h1 := cnt_le n (fun x hx => h x (by omega))
    by_cases q : f n = true
    · rw [if_pos q, if_pos (h n (by omega) q)]; omega
    · rw [if_neg q]; omega
theorem cnt_del {f : Nat → Bool} {k : Nat} : ∀ n, k ≤ n → cnt (fun x => if x < k then f x else f (x + 1)) n + (if f k = true then 1 else 0) = cnt f (n + 1)
  | 0, h => by
    rw [show k = 0 from by omega]
    rfl
  | n + 1, h => by
    show cnt _ n + (if (if n < k then f n else f (n + 1)) = true then 1 else 0) + (if f k = true then 1 else 0) = cnt f (n + 1) + if f (n + 1) = true then 1 else 0
    by_cases q : n < k
    · rw [if_pos q, show k = n + 1 from by omega, cnt_cg (g := f) n (fun x hx => if_pos (by omega))]
      rfl
    · rw [if_neg q, ← cnt_del (f := f) (k := k) n (by omega)]
      omega
theorem cB_cnt (s : Nat → Int32) (m t p : Nat) : cB s m t p = cnt (fun k => decide (t ≤ phi m p (s (wi p k + 3)).toNatClampNeg)) (aMany s p) := cnt_eq _ _
/-! what a sale leaves of a row -/
section
variable {s : Nat → Int32} {p k b m n : Nat} {c : Int32}
theorem trR_ne (hp : p < 4) (hb : b < 4) (hpb : ¬ p = b) (hk : k ≤ n) (hn : n < 16) (hm : m < 16) {j : Nat} (h3 : ¬ j = 3) (h1 : ¬ j = 8 + 6 * p + 1) (h2 : ¬ j = 8 + 6 * b + 1) (h5 : ¬ j = 8 + 6 * p + 5) (h6 : ¬ j = 8 + 6 * b + 5) (ha : j < wi p k ∨ wi p n ≤ j) (hw : j < wi b m ∨ wi b m + 4 ≤ j) : trR s p k b m n c j = s j := by
  have e1 : wi p k = 32 + 4 * (20 * p + k) := rfl
  have e2 : wi p n = 32 + 4 * (20 * p + n) := rfl
  have e3 : wi b m = 32 + 4 * (20 * b + m) := rfl
  unfold trR trR4 trR3 trR2 trR1
  simp (disch := omega) only [upd_ne, aSh_out, bt4_ne]
theorem trR_sh (hp : p < 4) (hb : b < 4) (hpb : ¬ p = b) (hk : k ≤ n) (hn : n < 16) (hm : m < 16) {j : Nat} (ha : wi p k ≤ j ∧ j < wi p n) : trR s p k b m n c j = s (j + 4) := by
  have e1 : wi p k = 32 + 4 * (20 * p + k) := rfl
  have e2 : wi p n = 32 + 4 * (20 * p + n) := rfl
  have e3 : wi b m = 32 + 4 * (20 * b + m) := rfl
  unfold trR trR4 trR3 trR2 trR1
  simp (disch := omega) only [upd_ne, aSh_in, bt4_ne]
theorem trR_p5 (hp : p < 4) (hb : b < 4) (hpb : ¬ p = b) (hk : k ≤ n) (hn : n < 16) (hm : m < 16) : trR s p k b m n c (8 + 6 * p + 5) = nI n := by
  unfold trR trR4 trR3 trR2
  simp (disch := omega) only [upd_ne, upd_eq]
theorem trR_b5 (hp : p < 4) (hb : b < 4) (hpb : ¬ p = b) (hk : k ≤ n) (hn : n < 16) (hm : m < 16) : trR s p k b m n c (8 + 6 * b + 5) = nI (m + 1) := by
  have e1 : wi p k = 32 + 4 * (20 * p + k) := rfl
  unfold trR trR4 trR3 trR2 trR1
  simp (disch := omega) only [upd_ne, upd_eq, aSh_out]
theorem trR_w (hp : p < 4) (hb : b < 4) (hpb : ¬ p = b) (hk : k ≤ n) (hn : n < 16) (hm : m < 16) : trR s p k b m n c (wi b m + 0) = s (wi p k + 0) ∧ trR s p k b m n c (wi b m + 3) = s (wi p k + 3) ||| 1 <<< (nI b &&& 31) := by
  have e1 : wi p k = 32 + 4 * (20 * p + k) := rfl
  have e2 : wi p n = 32 + 4 * (20 * p + n) := rfl
  have e3 : wi b m = 32 + 4 * (20 * b + m) := rfl
  unfold trR trR4 trR3 trR2 trR1 bt4
  refine ⟨?_, ?_⟩
  all_goals simp (disch := omega) only [upd_ne, upd_eq, aSh_out]
end
theorem or_nI : ∀ h, h < 16 → ∀ b, b < 4 → nI h ||| 1 <<< (nI b &&& 31) = nI (h ||| 2 ^ b) := by decide +kernel
theorem no_bit : ∀ h, h < 16 → ∀ b, b < 4 → ¬ nI h >>> (nI b &&& 31) &&& 1 = 1 → Nat.testBit h b = false := by decide +kernel
theorem new_bit : ∀ h, h < 16 → ∀ b, b < 4 → Nat.testBit (h ||| 2 ^ b) b = true := by decide +kernel
theorem sum4_le (f g : Nat → Nat) {p b : Nat} (hp : p < 4) (hb : b < 4) (hpb : ¬ p = b) (h : ∀ i, i < 4 → ¬ i = p → ¬ i = b → f i = g i) (h2 : f p + f b ≤ g p + g b) : f 0 + f 1 + f 2 + f 3 ≤ g 0 + g 1 + g 2 + g 3 := by
  have h0 := h 0 (by decide)
  have h1 := h 1 (by decide)
  have h2' := h 2 (by decide)
  have h3 := h 3 (by decide)
  rcases (show p = 0 ∨ p = 1 ∨ p = 2 ∨ p = 3 by omega) with rfl | rfl | rfl | rfl <;> rcases (show b = 0 ∨ b = 1 ∨ b = 2 ∨ b = 3 by omega) with rfl | rfl | rfl | rfl <;> first | exact absurd rfl hpb | (simp at h0 h1 h2' h3; omega)
theorem Inv_S' {B : Nat} {s : Nat → Int32} (h : Inv B s) {p k b : Nat} {c : Int32} (hp : p < 4) (hk : k < aMany s p) (hb : b < 4) (hpb : ¬ p = b) (hr : aRea s p k b c = 0) : Inv B (aS s p k b c) := by
  have hmp := h.many hp
  have hmb := h.many hb
  obtain ⟨n, hn⟩ : ∃ n, aMany s p = n + 1 := ⟨aMany s p - 1, by omega⟩
  obtain ⟨m, hm⟩ : ∃ m, aMany s b = m := ⟨_, rfl⟩
  rw [hn] at hmp hk
  rw [hm] at hmb
  have hkn : k ≤ n := by omega
  have hn16 : n < 16 := by omega
  have hm16 : m < 16 := by omega
  have ht : ∀ j, aS s p k b c j = trR s p k b m n c j := fun j => trR_eq hp hkn hn16 hb hpb hm hm16 hn hmp.1 hmb.1 j
  have hne : ∀ {j : Nat}, ¬ j = 3 → ¬ j = 8 + 6 * p + 1 → ¬ j = 8 + 6 * b + 1 → ¬ j = 8 + 6 * p + 5 → ¬ j = 8 + 6 * b + 5 → (j < wi p k ∨ wi p n ≤ j) → (j < wi b m ∨ wi b m + 4 ≤ j) → aS s p k b c j = s j := fun {j} a1 a2 a3 a4 a5 a6 a7 => by rw [ht, trR_ne hp hb hpb hkn hn16 hm16 a1 a2 a3 a4 a5 a6 a7]
  have wE : ∀ i x, wi i x = 32 + 4 * (20 * i + x) := fun _ _ => rfl
  have e1 := wE p k
  have e2 := wE p n
  have e3 := wE b m
  have ero : ∀ i f, i < 4 → f < 6 → ¬ f = 1 → ¬ f = 5 → ro (aS s p k b c) i f = ro s i f := fun i f hi hf f1 f5 => hne (by omega) (by omega) (by omega) (by omega) (by omega) (by omega) (by omega)
  have ep5 : ro (aS s p k b c) p 5 = nI n := (ht _).trans (trR_p5 hp hb hpb hkn hn16 hm16)
  have eb5 : ro (aS s p k b c) b 5 = nI (m + 1) := (ht _).trans (trR_b5 hp hb hpb hkn hn16 hm16)
  have ei5 : ∀ i, i < 4 → ¬ i = p → ¬ i = b → ro (aS s p k b c) i 5 = ro s i 5 := fun i hi q1 q2 => hne (by omega) (by omega) (by omega) (by omega) (by omega) (by omega) (by omega)
  have mp : aMany (aS s p k b c) p = n := by unfold aMany; rw [ep5, nI_clamp (by omega)]
  have mb : aMany (aS s p k b c) b = m + 1 := by unfold aMany; rw [eb5, nI_clamp (by omega)]
  have mi : ∀ i, i < 4 → ¬ i = p → ¬ i = b → aMany (aS s p k b c) i = aMany s i := fun i hi q1 q2 => by unfold aMany; rw [ei5 i hi q1 q2]
  have wI : ∀ i, i < 4 → ¬ i = p → ¬ i = b → ∀ x f, x < 20 → f < 4 → aS s p k b c (wi i x + f) = s (wi i x + f) := fun i hi q1 q2 x f hx hf => by
    have := wE i x
    exact hne (by omega) (by omega) (by omega) (by omega) (by omega) (by omega) (by omega)
  have wB : ∀ x f, x < m → f < 4 → aS s p k b c (wi b x + f) = s (wi b x + f) := fun x f hx hf => by
    have := wE b x
    exact hne (by omega) (by omega) (by omega) (by omega) (by omega) (by omega) (by omega)
  have wP : ∀ x f, x < n → f < 4 → aS s p k b c (wi p x + f) = if x < k then s (wi p x + f) else s (wi p (x + 1) + f) := fun x f hx hf => by
    have := wE p x
    have h2 := wE p (x + 1)
    by_cases q : x < k
    · rw [if_pos q]
      exact hne (by omega) (by omega) (by omega) (by omega) (by omega) (by omega) (by omega)
    · rw [if_neg q, ht, trR_sh hp hb hpb hkn hn16 hm16 (by omega)]
      congr 1
      omega
  obtain ⟨w0, w3⟩ := trR_w (s := s) (c := c) hp hb hpb hkn hn16 hm16
  rw [← ht] at w0 w3
  have esn : ∀ i f, i < 10 → f < 4 → sn (aS s p k b c) i f = sn s i f := fun i f hi hf => hne (by omega) (by omega) (by omega) (by omega) (by omega) (by omega) (by omega)
  have eh : home (aS s p k b c) = home s := by unfold home; rw [ero 0 2 (by decide) (by decide) (by decide) (by decide), ero 1 2 (by decide) (by decide) (by decide) (by decide), ero 2 2 (by decide) (by decide) (by decide) (by decide), ero 3 2 (by decide) (by decide) (by decide) (by decide)]
  have elo : ∀ j, j < 8 → ¬ j = 3 → aS s p k b c j = s j := fun j hj q => hne (by omega) (by omega) (by omega) (by omega) (by omega) (by omega) (by omega)
  have hb2 : ro s b 2 = 0 := by
    refine Decidable.not_not.mp fun q => ?_
    unfold aRea at hr
    rw [if_pos q] at hr
    exact absurd hr (by decide)
  obtain ⟨y, hh, y1, y2, yz, hh16, hhe, hht⟩ := h.2.2.2.1 p hp k (by omega)
  have hbit : Nat.testBit hh b = false := by
    refine no_bit hh hh16 b hb fun q => ?_
    unfold aRea at hr
    rw [if_neg (fun z => z hb2), hhe, if_pos q] at hr
    revert hr
    split <;> intro hr <;> exact absurd hr (by decide)
  rw [hhe, or_nI hh hh16 b hb] at w3
  rw [yz] at w0
  have hph : ∀ mm, phi mm b (hh ||| 2 ^ b) ≤ phi mm p hh := fun mm => phi_sale hh16 hb hbit
  have hcB : ∀ mm t, cB (aS s p k b c) mm t 0 + cB (aS s p k b c) mm t 1 + cB (aS s p k b c) mm t 2 + cB (aS s p k b c) mm t 3 ≤ cB s mm t 0 + cB s mm t 1 + cB s mm t 2 + cB s mm t 3 := fun mm t => by
    refine sum4_le (fun i => cB (aS s p k b c) mm t i) (fun i => cB s mm t i) hp hb hpb (fun i hi q1 q2 => ?_) ?_
    · show cB _ _ _ _ = cB _ _ _ _
      rw [cB_cnt, cB_cnt, mi i hi q1 q2]
      refine cnt_cg _ (fun x hx => ?_)
      rw [wI i hi q1 q2 x 3 (by have := (h.many hi).2; omega) (by decide)]
    · show cB _ _ _ _ + cB _ _ _ _ ≤ cB _ _ _ _ + cB _ _ _ _
      rw [cB_cnt, cB_cnt, cB_cnt, cB_cnt, mp, mb, hm, hn]
      have d1 := cnt_del (f := fun x => decide (t ≤ phi mm p (s (wi p x + 3)).toNatClampNeg)) (k := k) n hkn
      rw [cnt_cg (f := fun x => decide (t ≤ phi mm p (aS s p k b c (wi p x + 3)).toNatClampNeg)) (g := fun x => if x < k then decide (t ≤ phi mm p (s (wi p x + 3)).toNatClampNeg) else decide (t ≤ phi mm p (s (wi p (x + 1) + 3)).toNatClampNeg)) n (fun x hx => by
        show decide _ = _
        rw [wP x 3 hx (by decide)]
        by_cases q : x < k
        · rw [if_pos q, if_pos q]
        · rw [if_neg q, if_neg q])]
      rw [← d1]
      show cnt _ n + (cnt _ m + if decide (t ≤ phi mm b (aS s p k b c (wi b m + 3)).toNatClampNeg) = true then 1 else 0) ≤ cnt _ n + (if decide (t ≤ phi mm p (s (wi p k + 3)).toNatClampNeg) = true then 1 else 0) + _
      rw [w3, hhe, nI_clamp (by have := (pop_add hh hh16 b hb hbit).2.2; omega), nI_clamp (by omega)]
      rw [cnt_cg (f := fun x => decide (t ≤ phi mm b (aS s p k b c (wi b x + 3)).toNatClampNeg)) (g := fun x => decide (t ≤ phi mm b (s (wi b x + 3)).toNatClampNeg)) m (fun x hx => by
        show decide _ = decide _
        rw [wB x 3 hx (by decide)])]
      have := hph mm
      by_cases q : t ≤ phi mm b (hh ||| 2 ^ b)
      · rw [if_pos (decide_eq_true q), if_pos (decide_eq_true (by omega : t ≤ phi mm p hh))]; omega
      · rw [if_neg (fun z => q (of_decide_eq_true z))]; omega
  have hmany := fun p hp => (h.many (p := p) hp).2
  obtain ⟨h1, h2, h3, h4, h5, h6, ⟨a, ha, ea⟩, h8, m0, hm0, em, hm1, hcb⟩ := h
  have hmt : m + 1 ≤ 13 := by
    have z1 := hcB m0 0
    have z2 := hcb 0 (by decide)
    have z3 : cB (aS s p k b c) m0 0 b = m + 1 := by
      rw [cB_cnt, mb]
      have : ∀ N, cnt (fun k_1 => decide (0 ≤ phi m0 b (aS s p k b c (wi b k_1 + 3)).toNatClampNeg)) N = N := fun N => by
        induction N with
        | zero => rfl
        | succ N ih => show cnt _ N + (if decide (0 ≤ _) = true then 1 else 0) = _; rw [ih, if_pos (decide_eq_true (Nat.zero_le _))]
      exact this _
    rcases (show b = 0 ∨ b = 1 ∨ b = 2 ∨ b = 3 by omega) with rfl | rfl | rfl | rfl <;> omega
  refine ⟨h1, h2, fun i hi => ?_, fun i hi x hx => ?_, fun i hi => (h5 i hi).elim fun u v => ?_, fun i j hi hj hij q => ?_, ⟨a, ha, by rw [elo 5 (by decide) (by decide)]; exact ea⟩, by rw [elo 4 (by decide) (by decide), eh]; exact h8, m0, hm0, by rw [elo 1 (by decide) (by decide)]; exact em, fun q => ?_, fun j hj => Nat.le_trans (hcB m0 j) (hcb j hj)⟩
  · obtain ⟨q, nn, b1, b2, b3, b4, b5, b6⟩ := h3 i hi
    by_cases ip : i = p
    · subst ip
      exact ⟨q, n, b1, by rw [ero i 0 hi (by decide) (by decide) (by decide)]; exact b2, by omega, ep5, by rw [ero i 2 hi (by decide) (by decide) (by decide)]; exact b5, fun z => by
        have := b6 z
        rw [this] at b4
        unfold aMany at hn
        rw [b4] at hn
        exact absurd hn (by simp [nI])⟩
    · by_cases ib : i = b
      · subst ib
        exact ⟨q, m + 1, b1, by rw [ero i 0 hi (by decide) (by decide) (by decide)]; exact b2, by omega, eb5, by rw [ero i 2 hi (by decide) (by decide) (by decide)]; exact b5, fun z => absurd z (b5.mp hb2)⟩
      · exact ⟨q, nn, b1, by rw [ero i 0 hi (by decide) (by decide) (by decide)]; exact b2, b3, by rw [ei5 i hi ip ib]; exact b4, by rw [ero i 2 hi (by decide) (by decide) (by decide)]; exact b5, b6⟩
  · by_cases ip : i = p
    · subst ip
      rw [mp] at hx
      have g1 := wP x 0 hx (by decide)
      have g2 := wP x 3 hx (by decide)
      unfold iBt
      rw [g1, g2]
      by_cases q : x < k
      · rw [if_pos q, if_pos q]; exact h4 i hi x (by omega)
      · rw [if_neg q, if_neg q]; exact h4 i hi (x + 1) (by omega)
    · by_cases ib : i = b
      · subst ib
        rw [mb] at hx
        by_cases q : x < m
        · unfold iBt
          rw [wB x 0 q (by decide), wB x 3 q (by decide)]
          exact h4 i hi x (by omega)
        · rw [show x = m from by omega]
          exact ⟨y, hh ||| 2 ^ i, y1, y2, w0, (pop_add hh hh16 i hi hbit).2.2, w3, new_bit hh hh16 i hi⟩
      · rw [mi i hi ip ib] at hx
        have hx20 : x < 20 := by have := hmany i hi; omega
        unfold iBt
        rw [wI i hi ip ib x 0 hx20 (by decide), wI i hi ip ib x 3 hx20 (by decide)]
        exact h4 i hi x hx
  · unfold iSn
    rw [esn i 0 hi (by decide), esn i 1 hi (by decide), esn i 2 hi (by decide)]
    exact h5 i hi
  · rw [esn i 0 hi (by decide), esn j 0 hj (by decide)] at q
    rw [esn i 0 hi (by decide)]
    exact h6 i j hi hj hij q
  · rw [elo 4 (by decide) (by decide)] at q
    rw [ero m0 2 hm0 (by decide) (by decide) (by decide)]
    exact hm1 q
