variable {nT : Nat}
/-! how long a bite may be held -/
theorem phi_turn {m i st h : Nat} (hm : m < 4) (hi : i < 4) (hs : st ≤ (i + 4 - m) % 4) : phi ((m + st) % 4) i h + st = phi m i h := by
  unfold phi
  omega
theorem pop_new : ∀ p, p < 4 → pop4 (2 ^ p) = 1 := by decide +kernel
theorem phi_new {m p : Nat} (hp : p < 4) : phi m p (2 ^ p) ≤ 12 := by
  unfold phi
  rw [pop_new p hp]
  omega
theorem pop_add : ∀ h, h < 16 → ∀ b, b < 4 → Nat.testBit h b = false → pop4 (h ||| 2 ^ b) = pop4 h + 1 ∧ pop4 (h ||| 2 ^ b) ≤ 4 ∧ h ||| 2 ^ b < 16 := by decide +kernel
theorem phi_sale {m p b h : Nat} (hh : h < 16) (hb : b < 4) (hn : Nat.testBit h b = false) : phi m b (h ||| 2 ^ b) ≤ phi m p h := by
  obtain ⟨h1, h2, -⟩ := pop_add h hh b hb hn
  unfold phi
  omega
theorem filt_le {p q : Nat → Bool} : ∀ l : List Nat, (∀ x, x ∈ l → p x = true → q x = true) → (l.filter p).length ≤ (l.filter q).length
  | [], _ => Nat.le_refl _
  | a :: l, h => by
    have ih := filt_le l (fun x hx => h x (List.mem_cons_of_mem _ hx))
    by_cases hp : p a = true
    · rw [List.filter_cons_of_pos hp, List.filter_cons_of_pos (h a List.mem_cons_self hp)]
      simp only [List.length_cons]
      omega
    · rw [List.filter_cons_of_neg hp]
      by_cases hq : q a = true
      · rw [List.filter_cons_of_pos hq]
        simp only [List.length_cons]
        omega
      · rw [List.filter_cons_of_neg hq]
        exact ih
/-! what a turn leaves of a row -/
theorem aBit_ne {s : Nat → Int32} {p k : Nat} {q : Int32} (hp : p < 4) (hk : k < 10) (hm : aMany s p = 0) (h5 : ro s p 5 = nI 0) (hq : aSnAt s q = nI k) {j : Nat} (h2 : ¬ j = 2) (h3 : ¬ j = 8 + 6 * p + 3) (h5' : ¬ j = 8 + 6 * p + 5) (hw : j < wi p 0 ∨ wi p 0 + 4 ≤ j) (hs2 : ¬ j = 352 + 4 * k + 2) (hs3 : ¬ j = 352 + 4 * k + 3) : aBit s p q j = s j := by
  rw [bitR_eq hp (n := 0) (by decide) hk hm h5 hq]
  unfold bitR bitR4 bitR3 bitR2 bitR1
  simp (disch := omega) only [upd_ne, bt4_ne]
theorem aBit_5 {s : Nat → Int32} {p k : Nat} {q : Int32} (hp : p < 4) (hk : k < 10) (hm : aMany s p = 0) (h5 : ro s p 5 = nI 0) (hq : aSnAt s q = nI k) : ro (aBit s p q) p 5 = nI 1 := by
  have hw : wi p 0 = 32 + 4 * (20 * p + 0) := rfl
  unfold ro
  rw [bitR_eq hp (n := 0) (by decide) hk hm h5 hq]
  unfold bitR bitR4 bitR3 bitR2 bitR1
  simp (disch := omega) only [upd_ne, upd_eq]
theorem aBit_w {s : Nat → Int32} {p k : Nat} {q : Int32} (hp : p < 4) (hk : k < 10) (hm : aMany s p = 0) (h5 : ro s p 5 = nI 0) (hq : aSnAt s q = nI k) : aBit s p q (wi p 0 + 0) = sn s k 0 - sn s k 1 ∧ aBit s p q (wi p 0 + 3) = 1 <<< (nI p &&& 31) := by
  have hw : wi p 0 = 32 + 4 * (20 * p + 0) := rfl
  rw [bitR_eq hp (n := 0) (by decide) hk hm h5 hq, bitR_eq hp (n := 0) (by decide) hk hm h5 hq]
  unfold bitR bitR4 bitR3 bitR2 bitR1 bt4
  refine ⟨?_, ?_⟩
  all_goals simp (disch := omega) only [upd_ne, upd_eq]
theorem aT_at {s : Nat → Int32} {d : Int32} {p : Nat} (hs1 : s 1 = nI p) (hp : p < 4) {j : Nat} (h1 : ¬ j = 1) (h0 : ¬ j = 0) (hj : j < 352) : aT s d j = aT5 s p (aTq s d) j := by
  unfold aT
  rw [aNoF_ne h1, hs1, nI_clamp (by omega)]
  unfold aT7 aT6
  rw [upd_ne _ h0, aSlF_lo _ hj]
theorem aT5_at {s : Nat → Int32} {p : Nat} {q : Int32} {j : Nat} (hp : p < 4) (h4 : ¬ j = 4) (h2 : ¬ j = 8 + 6 * p + 2) : aT5 s p q j = aT4 s p q j := by
  unfold aT5
  by_cases h : q = 60
  · rw [if_pos h]
    unfold aHome aAdd
    rw [upd_ne _ h2, upd_ne _ h4]
  · rw [if_neg h]
/-! counts -/
def cnt (f : Nat → Bool) : Nat → Nat
  | 0 => 0
  | n + 1 => cnt f n + if f n = true then 1 else 0
theorem cnt_eq (f : Nat → Bool) : ∀ n, ((List.range n).filter f).length = cnt f n
  | 0 => rfl
  | n + 1 => by
    rw [List.range_succ, List.filter_append, List.length_append, cnt_eq f n]
    show _ = cnt f n + if f n = true then 1 else 0
    by_cases h : f n = true
    · rw [if_pos h, List.filter_cons_of_pos h]; rfl
    · rw [if_neg h, List.filter_cons_of_neg h]; rfl
theorem cnt_cg {f g : Nat → Bool} : ∀ n, (∀ x, x < n → f x = g x) → cnt f n = cnt g n
  | 0, _ => rfl
  | n + 1, h => by
    show cnt f n + (if f n = true then 1 else 0) = cnt g n + if g n = true then 1 else 0
    rw [cnt_cg n (fun x hx => h x (by omega)), h n (by omega)]
theorem cnt_le {f g : Nat → Bool} : ∀ n, (∀ x, x < n → f x = true → g x = true) → cnt f n ≤ cnt g n
  | 0, _ => Nat.le_refl _
  | n + 1, h => by
    show cnt f n + (if f n = true then 1 else 0) ≤ cnt g n + if g n = true then 1 else 0
    have h1 := cnt_le n (fun x hx => h x (by omega))
    by_cases q : f n = true
    · rw [if_pos q, if_pos (h n (by omega) q)]; omega
    · rw [if_neg q]; omega
theorem cnt_del {f : Nat → Bool} {k : Nat} : ∀ n, k ≤ n → cnt (fun x => if x < k then f x else f (x + 1)) n + (if f k = true then 1 else 0) = cnt f (n + 1)
  | 0, h => by
    rw [show k = 0 from by omega]
    rfl
  | n + 1, h => by
    show cnt _ n + (if (if n < k then f n else f (n + 1)) = true then 1 else 0) + (if f k = true then 1 else 0) = cnt f (n + 1) + if f (n + 1) = true then 1 else 0
    by_cases q : n < k
    · rw [if_pos q, show k = n + 1 from by omega, cnt_cg (g := f) n (fun x hx => if_pos (by omega))]
      rfl
    · rw [if_neg q, ← cnt_del (f := f) (k := k) n (by omega)]
      omega
theorem cB_cnt (s : Nat → Int32) (m t p : Nat) : cB s m t p = cnt (fun k => decide (t ≤ phi m p (s (wi p k + 3)).toNatClampNeg)) (aMany s p) := cnt_eq _ _
/-! what a sale leaves of a row -/
section
variable {s : Nat → Int32} {p k b m n : Nat} {c : Int32}
theorem trR_ne (hp : p < 4) (hb : b < 4) (hpb : ¬ p = b) (hk : k ≤ n) (hn : n < 16) (hm : m < 16) {j : Nat} (h3 : ¬ j = 3) (h1 : ¬ j = 8 + 6 * p + 1) (h2 : ¬ j = 8 + 6 * b + 1) (h5 : ¬ j = 8 + 6 * p + 5) (h6 : ¬ j = 8 + 6 * b + 5) (ha : j < wi p k ∨ wi p n ≤ j) (hw : j < wi b m ∨ wi b m + 4 ≤ j) : trR s p k b m n c j = s j := by
  have e1 : wi p k = 32 + 4 * (20 * p + k) := rfl
  have e2 : wi p n = 32 + 4 * (20 * p + n) := rfl
  have e3 : wi b m = 32 + 4 * (20 * b + m) := rfl
  unfold trR trR4 trR3 trR2 trR1
  simp (disch := omega) only [upd_ne, aSh_out, bt4_ne]
theorem trR_sh (hp : p < 4) (hb : b < 4) (hpb : ¬ p = b) (hk : k ≤ n) (hn : n < 16) (hm : m < 16) {j : Nat} (ha : wi p k ≤ j ∧ j < wi p n) : trR s p k b m n c j = s (j + 4) := by
  have e1 : wi p k = 32 + 4 * (20 * p + k) := rfl
  have e2 : wi p n = 32 + 4 * (20 * p + n) := rfl
  have e3 : wi b m = 32 + 4 * (20 * b + m) := rfl
  unfold trR trR4 trR3 trR2 trR1
  simp (disch := omega) only [upd_ne, aSh_in, bt4_ne]
theorem trR_p5 (hp : p < 4) (hb : b < 4) (hpb : ¬ p = b) (hk : k ≤ n) (hn : n < 16) (hm : m < 16) : trR s p k b m n c (8 + 6 * p + 5) = nI n := by
  unfold trR trR4 trR3 trR2
  simp (disch := omega) only [upd_ne, upd_eq]
theorem trR_b5 (hp : p < 4) (hb : b < 4) (hpb : ¬ p = b) (hk : k ≤ n) (hn : n < 16) (hm : m < 16) : trR s p k b m n c (8 + 6 * b + 5) = nI (m + 1) := by
  have e1 : wi p k = 32 + 4 * (20 * p + k) := rfl
  unfold trR trR4 trR3 trR2 trR1
  simp (disch := omega) only [upd_ne, upd_eq, aSh_out]
theorem trR_w (hp : p < 4) (hb : b < 4) (hpb : ¬ p = b) (hk : k ≤ n) (hn : n < 16) (hm : m < 16) : trR s p k b m n c (wi b m + 0) = s (wi p k + 0) ∧ trR s p k b m n c (wi b m + 3) = s (wi p k + 3) ||| 1 <<< (nI b &&& 31) := by
  have e1 : wi p k = 32 + 4 * (20 * p + k) := rfl
  have e2 : wi p n = 32 + 4 * (20 * p + n) := rfl
  have e3 : wi b m = 32 + 4 * (20 * b + m) := rfl
  unfold trR trR4 trR3 trR2 trR1 bt4
  refine ⟨?_, ?_⟩
  all_goals simp (disch := omega) only [upd_ne, upd_eq, aSh_out]
end
theorem or_nI : ∀ h, h < 16 → ∀ b, b < 4 → nI h ||| 1 <<< (nI b &&& 31) = nI (h ||| 2 ^ b) := by decide +kernel
theorem no_bit : ∀ h, h < 16 → ∀ b, b < 4 → ¬ nI h >>> (nI b &&& 31) &&& 1 = 1 → Nat.testBit h b = false := by decide +kernel
theorem new_bit : ∀ h, h < 16 → ∀ b, b < 4 → Nat.testBit (h ||| 2 ^ b) b = true := by decide +kernel
theorem sum4_le (f g : Nat → Nat) {p b : Nat} (hp : p < 4) (hb : b < 4) (hpb : ¬ p = b) (h : ∀ i, i < 4 → ¬ i = p → ¬ i = b → f i = g i) (h2 : f p + f b ≤ g p + g b) : f 0 + f 1 + f 2 + f 3 ≤ g 0 + g 1 + g 2 + g 3 := by
  have h0 := h 0 (by decide)
  have h1 := h 1 (by decide)
  have h2' := h 2 (by decide)
  have h3 := h 3 (by decide)
  rcases (show p = 0 ∨ p = 1 ∨ p = 2 ∨ p = 3 by omega) with rfl | rfl | rfl | rfl <;> rcases (show b = 0 ∨ b = 1 ∨ b = 2 ∨ b = 3 by omega) with rfl | rfl | rfl | rfl <;> first | exact absurd rfl hpb | (simp at h0 h1 h2' h3; omega)
theorem Inv_S {B : Nat} {s : Nat → Int32} (h : Inv B s) {p k b : Nat} {c : Int32} (hp : p < 4) (hk : k < aMany s p) (hb : b < 4) (hpb : ¬ p = b) (hr : aRea s p k b c = 0) : Inv B (aS s p k b c) := by
  have hmp := h.many hp
  have hmb := h.many hb
  obtain ⟨n, hn⟩ : ∃ n, aMany s p = n + 1 := ⟨aMany s p - 1, by omega⟩
  obtain ⟨m, hm⟩ : ∃ m, aMany s b = m := ⟨_, rfl⟩
  rw [hn] at hmp hk
  rw [hm] at hmb
  have hkn : k ≤ n := by omega
  have hn16 : n < 16 := by omega
  have hm16 : m < 16 := by omega
  have ht : ∀ j, aS s p k b c j = trR s p k b m n c j := fun j => trR_eq hp hkn hn16 hb hpb hm hm16 hn hmp.1 hmb.1 j
  have hne : ∀ {j : Nat}, ¬ j = 3 → ¬ j = 8 + 6 * p + 1 → ¬ j = 8 + 6 * b + 1 → ¬ j = 8 + 6 * p + 5 → ¬ j = 8 + 6 * b + 5 → (j < wi p k ∨ wi p n ≤ j) → (j < wi b m ∨ wi b m + 4 ≤ j) → aS s p k b c j = s j := fun {j} a1 a2 a3 a4 a5 a6 a7 => by rw [ht, trR_ne hp hb hpb hkn hn16 hm16 a1 a2 a3 a4 a5 a6 a7]
  have wE : ∀ i x, wi i x = 32 + 4 * (20 * i + x) := fun _ _ => rfl
  have e1 := wE p k
  have e2 := wE p n
  have e3 := wE b m
  have ero : ∀ i f, i < 4 → f < 6 → ¬ f = 1 → ¬ f = 5 → ro (aS s p k b c) i f = ro s i f := fun i f hi hf f1 f5 => hne (by omega) (by omega) (by omega) (by omega) (by omega) (by omega) (by omega)
  have ep5 : ro (aS s p k b c) p 5 = nI n := (ht _).trans (trR_p5 hp hb hpb hkn hn16 hm16)
  have eb5 : ro (aS s p k b c) b 5 = nI (m + 1) := (ht _).trans (trR_b5 hp hb hpb hkn hn16 hm16)
  have ei5 : ∀ i, i < 4 → ¬ i = p → ¬ i = b → ro (aS s p k b c) i 5 = ro s i 5 := fun i hi q1 q2 => hne (by omega) (by omega) (by omega) (by omega) (by omega) (by omega) (by omega)
  have mp : aMany (aS s p k b c) p = n := by unfold aMany; rw [ep5, nI_clamp (by omega)]
  have mb : aMany (aS s p k b c) b = m + 1 := by unfold aMany; rw [eb5, nI_clamp (by omega)]
  have mi : ∀ i, i < 4 → ¬ i = p → ¬ i = b → aMany (aS s p k b c) i = aMany s i := fun i hi q1 q2 => by unfold aMany; rw [ei5 i hi q1 q2]
  have wI : ∀ i, i < 4 → ¬ i = p → ¬ i = b → ∀ x f, x < 20 → f < 4 → aS s p k b c (wi i x + f) = s (wi i x + f) := fun i hi q1 q2 x f hx hf => by
    have := wE i x
    exact hne (by omega) (by omega) (by omega) (by omega) (by omega) (by omega) (by omega)
  have wB : ∀ x f, x < m → f < 4 → aS s p k b c (wi b x + f) = s (wi b x + f) := fun x f hx hf => by
    have := wE b x
    exact hne (by omega) (by omega) (by omega) (by omega) (by omega) (by omega) (by omega)
  have wP : ∀ x f, x < n → f < 4 → aS s p k b c (wi p x + f) = if x < k then s (wi p x + f) else s (wi p (x + 1) + f) := fun x f hx hf => by
    have := wE p x
    have h2 := wE p (x + 1)
    by_cases q : x < k
    · rw [if_pos q]
      exact hne (by omega) (by omega) (by omega) (by omega) (by omega) (by omega) (by omega)
    · rw [if_neg q, ht, trR_sh hp hb hpb hkn hn16 hm16 (by omega)]
      congr 1
      omega
  obtain ⟨w0, w3⟩ := trR_w (s := s) (c := c) hp hb hpb hkn hn16 hm16
  rw [← ht] at w0 w3
  have esn : ∀ i f, i < 10 → f < 4 → sn (aS s p k b c) i f = sn s i f := fun i f hi hf => hne (by omega) (by omega) (by omega) (by omega) (by omega) (by omega) (by omega)
  have eh : home (aS s p k b c) = home s := by unfold home; rw [ero 0 2 (by decide) (by decide) (by decide) (by decide), ero 1 2 (by decide) (by decide) (by decide) (by decide), ero 2 2 (by decide) (by decide) (by decide) (by decide), ero 3 2 (by decide) (by decide) (by decide) (by decide)]
  have elo : ∀ j, j < 8 → ¬ j = 3 → aS s p k b c j = s j := fun j hj q => hne (by omega) (by omega) (by omega) (by omega) (by omega) (by omega) (by omega)
  have hb2 : ro s b 2 = 0 := by
    refine Decidable.not_not.mp fun q => ?_
    unfold aRea at hr
    rw [if_pos q] at hr
    exact absurd hr (by decide)
  obtain ⟨y, hh, y1, y2, yz, hh16, hhe, hht⟩ := h.2.2.2.1 p hp k (by omega)
  have hbit : Nat.testBit hh b = false := by
    refine no_bit hh hh16 b hb fun q => ?_
    unfold aRea at hr
    rw [if_neg (fun z => z hb2), hhe, if_pos q] at hr
    revert hr
    split <;> intro hr <;> exact absurd hr (by decide)
  rw [hhe, or_nI hh hh16 b hb] at w3
  rw [yz] at w0
  have hph : ∀ mm, phi mm b (hh ||| 2 ^ b) ≤ phi mm p hh := fun mm => phi_sale hh16 hb hbit
  have hcB : ∀ mm t, cB (aS s p k b c) mm t 0 + cB (aS s p k b c) mm t 1 + cB (aS s p k b c) mm t 2 + cB (aS s p k b c) mm t 3 ≤ cB s mm t 0 + cB s mm t 1 + cB s mm t 2 + cB s mm t 3 := fun mm t => by
    refine sum4_le (fun i => cB (aS s p k b c) mm t i) (fun i => cB s mm t i) hp hb hpb (fun i hi q1 q2 => ?_) ?_
    · show cB _ _ _ _ = cB _ _ _ _
      rw [cB_cnt, cB_cnt, mi i hi q1 q2]
      refine cnt_cg _ (fun x hx => ?_)
      rw [wI i hi q1 q2 x 3 (by have := (h.many hi).2; omega) (by decide)]
    · show cB _ _ _ _ + cB _ _ _ _ ≤ cB _ _ _ _ + cB _ _ _ _
      rw [cB_cnt, cB_cnt, cB_cnt, cB_cnt, mp, mb, hm, hn]
      have d1 := cnt_del (f := fun x => decide (t ≤ phi mm p (s (wi p x + 3)).toNatClampNeg)) (k := k) n hkn
      rw [cnt_cg (f := fun x => decide (t ≤ phi mm p (aS s p k b c (wi p x + 3)).toNatClampNeg)) (g := fun x => if x < k then decide (t ≤ phi mm p (s (wi p x + 3)).toNatClampNeg) else decide (t ≤ phi mm p (s (wi p (x + 1) + 3)).toNatClampNeg)) n (fun x hx => by
        show decide _ = _
        rw [wP x 3 hx (by decide)]
        by_cases q : x < k
        · rw [if_pos q, if_pos q]
        · rw [if_neg q, if_neg q])]
      rw [← d1]
      show cnt _ n + (cnt _ m + if decide (t ≤ phi mm b (aS s p k b c (wi b m + 3)).toNatClampNeg) = true then 1 else 0) ≤ cnt _ n + (if decide (t ≤ phi mm p (s (wi p k + 3)).toNatClampNeg) = true then 1 else 0) + _
      rw [w3, hhe, nI_clamp (by have := (pop_add hh hh16 b hb hbit).2.2; omega), nI_clamp (by omega)]
      rw [cnt_cg (f := fun x => decide (t ≤ phi mm b (aS s p k b c (wi b x + 3)).toNatClampNeg)) (g := fun x => decide (t ≤ phi mm b (s (wi b x + 3)).toNatClampNeg)) m (fun x hx => by
        show decide _ = decide _
        rw [wB x 3 hx (by decide)])]
      have := hph mm
      by_cases q : t ≤ phi mm b (hh ||| 2 ^ b)
      · rw [if_pos (decide_eq_true q), if_pos (decide_eq_true (by omega : t ≤ phi mm p hh))]; omega
      · rw [if_neg (fun z => q (of_decide_eq_true z))]; omega
  have hmany := fun p hp => (h.many (p := p) hp).2
  obtain ⟨h1, h2, h3, h4, h5, h6, ⟨a, ha, ea⟩, h8, m0, hm0, em, hm1, hcb⟩ := h
  have hmt : m + 1 ≤ 13 := by
    have z1 := hcB m0 0
    have z2 := hcb 0 (by decide)
    have z3 : cB (aS s p k b c) m0 0 b = m + 1 := by
      rw [cB_cnt, mb]
      have : ∀ N, cnt (fun k_1 => decide (0 ≤ phi m0 b (aS s p k b c (wi b k_1 + 3)).toNatClampNeg)) N = N := fun N => by
        induction N with
        | zero => rfl
        | succ N ih => show cnt _ N + (if decide (0 ≤ _) = true then 1 else 0) = _; rw [ih, if_pos (decide_eq_true (Nat.zero_le _))]
      exact this _
    rcases (show b = 0 ∨ b = 1 ∨ b = 2 ∨ b = 3 by omega) with rfl | rfl | rfl | rfl <;> omega
  refine ⟨h1, h2, fun i hi => ?_, fun i hi x hx => ?_, fun i hi => (h5 i hi).elim fun u v => ?_, fun i j hi hj hij q => ?_, ⟨a, ha, by rw [elo 5 (by decide) (by decide)]; exact ea⟩, by rw [elo 4 (by decide) (by decide), eh]; exact h8, m0, hm0, by rw [elo 1 (by decide) (by decide)]; exact em, fun q => ?_, fun j hj => Nat.le_trans (hcB m0 j) (hcb j hj)⟩
  · obtain ⟨q, nn, b1, b2, b3, b4, b5, b6⟩ := h3 i hi
    by_cases ip : i = p
    · subst ip
      exact ⟨q, n, b1, by rw [ero i 0 hi (by decide) (by decide) (by decide)]; exact b2, by omega, ep5, by rw [ero i 2 hi (by decide) (by decide) (by decide)]; exact b5, fun z => by
        have := b6 z
        rw [this] at b4
        unfold aMany at hn
        rw [b4] at hn
        exact absurd hn (by simp [nI])⟩
    · by_cases ib : i = b
      · subst ib
        exact ⟨q, m + 1, b1, by rw [ero i 0 hi (by decide) (by decide) (by decide)]; exact b2, by omega, eb5, by rw [ero i 2 hi (by decide) (by decide) (by decide)]; exact b5, fun z => absurd z (b5.mp hb2)⟩
      · exact ⟨q, nn, b1, by rw [ero i 0 hi (by decide) (by decide) (by decide)]; exact b2, b3, by rw [ei5 i hi ip ib]; exact b4, by rw [ero i 2 hi (by decide) (by decide) (by decide)]; exact b5, b6⟩
  · by_cases ip : i = p
    · subst ip
      rw [mp] at hx
      have g1 := wP x 0 hx (by decide)
      have g2 := wP x 3 hx (by decide)
      unfold iBt
      rw [g1, g2]
      by_cases q : x < k
      · rw [if_pos q, if_pos q]; exact h4 i hi x (by omega)
      · rw [if_neg q, if_neg q]; exact h4 i hi (x + 1) (by omega)
    · by_cases ib : i = b
      · subst ib
        rw [mb] at hx
        by_cases q : x < m
        · unfold iBt
          rw [wB x 0 q (by decide), wB x 3 q (by decide)]
          exact h4 i hi x (by omega)
        · rw [show x = m from by omega]
          exact ⟨y, hh ||| 2 ^ i, y1, y2, w0, (pop_add hh hh16 i hi hbit).2.2, w3, new_bit hh hh16 i hi⟩
      · rw [mi i hi ip ib] at hx
        have hx20 : x < 20 := by have := hmany i hi; omega
        unfold iBt
        rw [wI i hi ip ib x 0 hx20 (by decide), wI i hi ip ib x 3 hx20 (by decide)]
        exact h4 i hi x hx
  · unfold iSn
    rw [esn i 0 hi (by decide), esn i 1 hi (by decide), esn i 2 hi (by decide)]
    exact h5 i hi
  · rw [esn i 0 hi (by decide), esn j 0 hj (by decide)] at q
    rw [esn i 0 hi (by decide)]
    exact h6 i j hi hj hij q
  · rw [elo 4 (by decide) (by decide)] at q
    rw [ero m0 2 hm0 (by decide) (by decide) (by decide)]
    exact hm1 q
theorem aSl2 (s : Nat → Int32) (i : Nat) : ∀ n, sn (aSlF s n) i 2 = if i < n then sn s i 2 - bI (0 < sn s i 2) else sn s i 2
  | 0 => rfl
  | n + 1 => by
    show upd (aSlF s n) (352 + 4 * n + 2) (aSlF s n (352 + 4 * n + 2) - bI (0 < sn (aSlF s n) n 2)) (352 + 4 * i + 2) = _
    by_cases e : i = n
    · subst e
      rw [upd_eq _ rfl, if_pos (by omega)]
      have := aSl2 s i i
      rw [if_neg (by omega)] at this
      rw [this, show aSlF s i (352 + 4 * i + 2) = sn s i 2 from this]
    · rw [upd_ne _ (by omega)]
      have := aSl2 s i n
      show sn (aSlF s n) i 2 = _
      rw [this]
      by_cases q : i < n
      · rw [if_pos q, if_pos (by omega)]
      · rw [if_neg q, if_neg (by omega)]
theorem sleep1 {sl : Nat} (h : sl < 1000000) : nI sl - bI (0 < nI sl) = nI (sl - 1) := by
  by_cases q : sl = 0
  · subst q; rfl
  · rw [bI_t (show (0 : Int32) < nI sl from nI_lt (a := 0) (b := sl) (by omega) (by omega)), show (1 : Int32) = nI 1 from rfl, nI_sub (by omega)]
theorem home_4 {s : Nat → Int32} (h : home s = 4) {i : Nat} (hi : i < 4) : ¬ ro s i 2 = 0 := fun h0 => by
  unfold home at h
  rcases (show i = 0 ∨ i = 1 ∨ i = 2 ∨ i = 3 by omega) with rfl | rfl | rfl | rfl <;> rw [if_pos h0] at h <;> revert h <;> split <;> split <;> split <;> omega
theorem home_le (s : Nat → Int32) : home s ≤ 4 := by unfold home; split <;> split <;> split <;> split <;> omega
theorem home_all {s : Nat → Int32} (h : ∀ i, i < 4 → ¬ ro s i 2 = 0) : home s = 4 := by
  unfold home
  rw [if_neg (h 0 (by decide)), if_neg (h 1 (by decide)), if_neg (h 2 (by decide)), if_neg (h 3 (by decide))]
theorem home_one {s t : Nat → Int32} {p : Nat} (hp : p < 4) (h0 : ro s p 2 = 0) (h1 : ¬ ro t p 2 = 0) (h : ∀ i, i < 4 → ¬ i = p → ro t i 2 = ro s i 2) : home t = home s + 1 := by
  have a0 := h 0 (by decide)
  have a1 := h 1 (by decide)
  have a2 := h 2 (by decide)
  have a3 := h 3 (by decide)
  unfold home
  rcases (show p = 0 ∨ p = 1 ∨ p = 2 ∨ p = 3 by omega) with rfl | rfl | rfl | rfl <;> simp at a0 a1 a2 a3 <;> (try rw [a0]) <;> (try rw [a1]) <;> (try rw [a2]) <;> (try rw [a3]) <;> rw [if_pos h0, if_neg h1] <;> omega
theorem home_same {s t : Nat → Int32} (h : ∀ i, i < 4 → ro t i 2 = ro s i 2) : home t = home s := by
  unfold home
  rw [h 0 (by decide), h 1 (by decide), h 2 (by decide), h 3 (by decide)]
theorem new_h : ∀ p, p < 4 → (1 : Int32) <<< (nI p &&& 31) = nI (2 ^ p) ∧ 2 ^ p < 16 ∧ Nat.testBit (2 ^ p) p = true := by decide +kernel
theorem sum4_one (f g : Nat → Nat) {p e : Nat} (hp : p < 4) (h : ∀ i, i < 4 → ¬ i = p → f i ≤ g i) (h2 : f p ≤ e) : f 0 + f 1 + f 2 + f 3 ≤ g 0 + g 1 + g 2 + g 3 + e := by
  have h0 := h 0 (by decide)
  have h1 := h 1 (by decide)
  have h2' := h 2 (by decide)
  have h3 := h 3 (by decide)
  rcases (show p = 0 ∨ p = 1 ∨ p = 2 ∨ p = 3 by omega) with rfl | rfl | rfl | rfl <;> simp at h0 h1 h2' h3 <;> omega
theorem cB_anti (s : Nat → Int32) {m t t' p : Nat} (h : t ≤ t') : cB s m t' p ≤ cB s m t p := by
  rw [cB_cnt, cB_cnt]
  exact cnt_le _ (fun x _ q => decide_eq_true (Nat.le_trans h (of_decide_eq_true q)))
theorem Inv_T {B : Nat} {s : Nat → Int32} (h : Inv B s) (h4 : ¬ s 4 = 4) {d : Nat} (h1 : 1 ≤ d) (h6 : d ≤ 6) : Inv B (aT s (nI d)) := by
  have hmany := fun p hp => h.many (p := p) hp
  obtain ⟨p, hp, hs1⟩ := h.now
  obtain ⟨Q, hQ, eQ⟩ := aTq_nn h hp hs1 h6
  obtain ⟨hB1, hB2, g3, g4, g5, g6, ⟨a, ha, ea⟩, g8, m0, hm0, em, hm1, hcb⟩ := h
  have hmp : m0 = p := nI_inj (by omega) (by omega) (em.symm.trans hs1)
  subst hmp
  have hp2 : ro s m0 2 = 0 := hm1 h4
  -- what is left as it was
  have aA : ∀ {j : Nat}, ¬ j = 1 → ¬ j = 0 → j < 352 → aT s (nI d) j = aT5 s m0 (nI Q) j := fun {j} q1 q0 q2 => by rw [aT_at hs1 hp q1 q0 q2, eQ]
  have aB : ∀ {j : Nat}, ¬ j = 1 → ¬ j = 0 → ¬ j = 4 → ¬ j = 8 + 6 * m0 + 2 → j < 352 → aT s (nI d) j = aT4 s m0 (nI Q) j := fun {j} q1 q0 q4 q5 q2 => by rw [aA q1 q0 q2, aT5_at hp q4 q5]
  have nb : ∀ {k : Nat}, k < 10 → ¬ sn s k 0 = nI 60 := fun {k} hk q => by
    obtain ⟨c1, -⟩ := g5 k hk
    rcases c1 with ⟨z, -⟩ | ⟨x, y, x1, x2, -, -, -, -, ex, -⟩
    · rw [z] at q; exact absurd q (by decide)
    · rw [ex] at q; have := nI_inj (by omega) (by omega) q; omega
  -- the bite, if there is one
  have bt : (¬ aBites (aT3 s m0 (nI Q)) m0 (nI Q) ∧ aT4 s m0 (nI Q) = aT3 s m0 (nI Q)) ∨ ∃ k x y, k < 10 ∧ ¬ Q = 60 ∧ sn s k 0 = nI x ∧ sn s k 1 = nI y ∧ y + 6 ≤ x ∧ x ≤ y + 40 ∧ x ≤ 59 ∧ aSnAt (aT3 s m0 (nI Q)) (nI Q) = nI k ∧ aT4 s m0 (nI Q) = aBit (aT3 s m0 (nI Q)) m0 (nI Q) := by
    by_cases q : aBites (aT3 s m0 (nI Q)) m0 (nI Q)
    · obtain ⟨k, hk, e, ek, -⟩ := aSnAt_nat q.1
      rw [sn_T3 hp] at ek
      have hQ0 : ¬ Q = 60 := fun z => nb hk (by rw [ek, z])
      obtain ⟨c1, -⟩ := g5 k hk
      have h0 : 0 < sn s k 0 := by
        obtain ⟨k', hk', e', h0'⟩ := aSk_at q.1
        have : k' = k := nI_inj (by omega) (by omega) (e'.symm.trans e)
        rw [this, sn_T3 hp] at h0'
        exact h0'
      rcases c1 with ⟨z, -⟩ | ⟨x, y, x1, x2, y1, y2, xy1, xy2, ex, ey⟩
      · rw [z] at h0; exact absurd h0 (by decide)
      · refine Or.inr ⟨k, x, y, hk, hQ0, ex, ey, xy1, xy2, x2, e, ?_⟩
        unfold aT4
        rw [if_pos q]
    · refine Or.inl ⟨q, ?_⟩
      unfold aT4
      rw [if_neg q]
  have m3 : aMany (aT3 s m0 (nI Q)) m0 = 0 := aT3_many _
  have r5 : ro (aT3 s m0 (nI Q)) m0 5 = nI 0 := aT3_5 s m0 _
  have wE : ∀ i x, wi i x = 32 + 4 * (20 * i + x) := fun _ _ => rfl
  have ro0 : ∀ i, i < 4 → ro (aT s (nI d)) i 0 = if i = m0 then nI Q else ro s i 0 := fun i hi => by
    have : ro (aT s (nI d)) i 0 = ro (aT4 s m0 (nI Q)) i 0 := aB (by omega) (by omega) (by omega) (by omega) (by omega)
    rw [this, aT4_ro hp hi (by decide), aT3_ro s (nI Q) (by decide)]
    by_cases q : i = m0
    · rw [if_pos q, if_pos q, if_pos rfl]
    · rw [if_neg q, if_neg q]
  have ro2 : ∀ i, i < 4 → ¬ i = m0 → ro (aT s (nI d)) i 2 = ro s i 2 := fun i hi q => by
    have : ro (aT s (nI d)) i 2 = ro (aT4 s m0 (nI Q)) i 2 := aB (by omega) (by omega) (by omega) (by omega) (by omega)
    rw [this, aT4_ro hp hi (by decide), aT3_ro s (nI Q) (by decide), if_neg q]
  have t4 : aT s (nI d) 4 = if Q = 60 then s 4 + 1 else s 4 := by
    rw [aA (by decide) (by decide) (by decide)]
    unfold aT5
    by_cases q : Q = 60
    · rw [if_pos (by rw [q]; rfl), if_pos q]
      unfold aHome
      rw [aAdd_lo _ _ _ _ (by decide), upd_eq _ rfl, aT4_lo hp (by decide) (by decide)]
    · rw [if_neg (show ¬ nI Q = 60 from fun z => q (nI_inj (b := 60) (by omega) (by decide) z)), if_neg q, aT4_lo hp (by decide) (by decide)]
  have rp2 : ro (aT s (nI d)) m0 2 = if Q = 60 then s 4 + 1 else 0 := by
    have e : ro (aT s (nI d)) m0 2 = ro (aT5 s m0 (nI Q)) m0 2 := aA (by omega) (by omega) (by omega)
    have e4 : ro (aT4 s m0 (nI Q)) m0 2 = 0 := by rw [aT4_ro hp hp (by decide), aT3_ro s (nI Q) (by decide), if_pos rfl, if_neg (by decide), if_neg (by decide), if_neg (by decide)]; exact hp2
    rw [e]
    unfold aT5
    by_cases q : Q = 60
    · rw [if_pos (by rw [q]; rfl), if_pos q]
      unfold aHome
      rw [ro_aAdd _ _ (by decide) (by decide), if_pos ⟨rfl, rfl⟩, upd_eq _ rfl, aT4_lo hp (by decide) (by decide)]
      have : ro (upd (aT4 s m0 (nI Q)) 4 (s 4 + 1)) m0 2 = ro (aT4 s m0 (nI Q)) m0 2 := upd_ne _ (by omega)
      rw [this, e4, Int32.zero_add]
    · rw [if_neg (show ¬ nI Q = 60 from fun z => q (nI_inj (b := 60) (by omega) (by decide) z)), if_neg q, e4]
  have ro5 : ∀ i, i < 4 → ¬ i = m0 → ro (aT s (nI d)) i 5 = ro s i 5 := fun i hi q => by
    have : ro (aT s (nI d)) i 5 = ro (aT4 s m0 (nI Q)) i 5 := aB (by omega) (by omega) (by omega) (by omega) (by omega)
    have e3 : ro (aT3 s m0 (nI Q)) i 5 = ro s i 5 := by rw [aT3_ro s (nI Q) (by decide), if_neg q]
    rw [this]
    rcases bt with ⟨-, e⟩ | ⟨k, x, y, hk, -, -, -, -, -, -, ek, e⟩
    · rw [e, e3]
    · rw [e]
      have hw := wE m0 0
      exact (aBit_ne hp hk m3 r5 ek (by omega) (by omega) (by omega) (by omega) (by omega) (by omega)).trans e3
  have wI : ∀ i, i < 4 → ¬ i = m0 → ∀ x f, x < 20 → f < 4 → aT s (nI d) (wi i x + f) = s (wi i x + f) := fun i hi q x f hx hf => by
    have hw := wE i x
    have hw0 := wE m0 0
    rw [aB (by omega) (by omega) (by omega) (by omega) (by omega)]
    rcases bt with ⟨-, e⟩ | ⟨k, x', y, hk, -, -, -, -, -, -, ek, e⟩
    · rw [e, aT3_hi s _ hp (by omega)]
    · rw [e, aBit_ne hp hk m3 r5 ek (by omega) (by omega) (by omega) (by omega) (by omega) (by omega), aT3_hi s _ hp (by omega)]
  have mi : ∀ i, i < 4 → ¬ i = m0 → aMany (aT s (nI d)) i = aMany s i := fun i hi q => by unfold aMany; rw [ro5 i hi q]
  -- the mover's bites
  have mv : (ro (aT s (nI d)) m0 5 = nI 0) ∨ (ro (aT s (nI d)) m0 5 = nI 1 ∧ ¬ Q = 60 ∧ (∃ z, 1 ≤ z ∧ z ≤ 40 ∧ aT s (nI d) (wi m0 0 + 0) = nI z) ∧ aT s (nI d) (wi m0 0 + 3) = nI (2 ^ m0)) := by
    have hw0 := wE m0 0
    have e5 : ro (aT s (nI d)) m0 5 = ro (aT4 s m0 (nI Q)) m0 5 := aB (by omega) (by omega) (by omega) (by omega) (by omega)
    have ew : ∀ f, f < 4 → aT s (nI d) (wi m0 0 + f) = aT4 s m0 (nI Q) (wi m0 0 + f) := fun f hf => aB (by omega) (by omega) (by omega) (by omega) (by omega)
    rw [e5, ew 0 (by decide), ew 3 (by decide)]
    rcases bt with ⟨-, e⟩ | ⟨k, x, y, hk, hQ0, ex, ey, xy1, xy2, x2, ek, e⟩
    · rw [e]; exact Or.inl r5
    · rw [e]
      obtain ⟨w0, w3⟩ := aBit_w hp hk m3 r5 ek
      refine Or.inr ⟨aBit_5 hp hk m3 r5 ek, hQ0, ⟨x - y, by omega, by omega, ?_⟩, ?_⟩
      · rw [w0, sn_T3 hp, sn_T3 hp, ex, ey, nI_sub (by omega)]
      · rw [w3]; exact (new_h m0 hp).1
  -- snakes
  have sT : ∀ i f, i < 10 → f < 4 → sn (aT s (nI d)) i f = sn (aSlF (aT5 s m0 (nI Q)) 10) i f := fun i f hi hf => by
    unfold sn aT
    rw [aNoF_ne (by omega), hs1, nI_clamp (by omega), eQ]
    unfold aT7 aT6
    rw [upd_ne _ (by omega)]
  have s5 : ∀ i f, i < 10 → f < 4 → sn (aT5 s m0 (nI Q)) i f = sn (aT4 s m0 (nI Q)) i f := fun i f hi hf => aT5_at hp (by omega) (by omega)
  have sHT : ∀ i f, i < 10 → f < 2 → sn (aT s (nI d)) i f = sn s i f := fun i f hi hf => by
    have hw0 := wE m0 0
    rw [sT i f hi (by omega), aSlF_s _ (by omega) 10 (Or.inr (by omega)), s5 i f hi (by omega)]
    rcases bt with ⟨-, e⟩ | ⟨k, x', y, hk, -, -, -, -, -, -, ek, e⟩
    · rw [e, sn_T3 hp]
    · rw [e]
      exact (aBit_ne hp hk m3 r5 ek (by omega) (by omega) (by omega) (by omega) (by omega) (by omega)).trans (aT3_hi s _ hp (by omega))
  have sSl : ∀ i, i < 10 → ∃ sl, sl ≤ B ∧ sn (aT4 s m0 (nI Q)) i 2 = nI sl ∧ (sn s i 0 = 0 → sl = 0) := fun i hi => by
    obtain ⟨c1, sl, hsl, esl⟩ := g5 i hi
    have hz : sn s i 0 = 0 → sl = 0 := fun z => by
      rcases c1 with ⟨-, z2⟩ | ⟨x, y, x1, x2, -, -, -, -, ex, -⟩
      · rw [z2] at esl; exact (nI_inj (a := 0) (by omega) (by omega) esl).symm
      · rw [z] at ex; have := nI_inj (a := 0) (b := x) (by omega) (by omega) ex; omega
    rcases bt with ⟨-, e⟩ | ⟨k, x, y, hk, -, ex, -, xy1, -, x2, ek, e⟩
    · exact ⟨sl, hsl, by rw [e, sn_T3 hp]; exact esl, hz⟩
    · obtain ⟨-, b2, b3⟩ := aBit_sn hp (by decide) hk m3 r5 ek i
      rw [e]
      by_cases q : i = k
      · refine ⟨a + 1, by omega, ?_, fun z => ?_⟩
        · rw [b2 q, aT3_lo s m0 _ (by decide), ea, nI_1]
        · rw [q, ex] at z; have := nI_inj (a := x) (b := 0) (by omega) (by omega) z; omega
      · exact ⟨sl, hsl, by rw [b3 q, sn_T3 hp]; exact esl, hz⟩
  -- who is home
  have hp4 : ∀ i, i < 4 → (ro (aT s (nI d)) i 2 = 0 ↔ ¬ ro (aT s (nI d)) i 0 = 60) := fun i hi => by
    rw [ro0 i hi]
    by_cases q : i = m0
    · rw [q, rp2, if_pos rfl]
      by_cases z : Q = 60
      · rw [if_pos z, z]
        refine ⟨fun w => ?_, fun w => absurd rfl w⟩
        rw [g8] at w
        have := home_le s
        rw [nI_1] at w
        have := nI_eq0 w (by omega)
        omega
      · rw [if_neg z]
        exact ⟨fun _ w => z (nI_inj (b := 60) (by omega) (by decide) w), fun _ => rfl⟩
    · rw [if_neg q, ro2 i hi q]
      obtain ⟨q1, n1, a1, a2, a3, a4, a5, a6⟩ := g3 i hi
      rw [a2]
      refine a5.trans ⟨fun w z => w (nI_inj (b := 60) (by omega) (by decide) z), fun w z => w (by rw [z]; rfl)⟩
  have s41 : ¬ s 4 + 1 = 0 := fun w => by
    rw [g8, nI_1] at w
    have := home_le s
    have := nI_eq0 w (by omega)
    omega
  have hT4 : aT s (nI d) 4 = nI (home (aT s (nI d))) := by
    rw [t4]
    by_cases z : Q = 60
    · have hz : ¬ ro (aT s (nI d)) m0 2 = 0 := by rw [rp2, if_pos z]; exact s41
      rw [if_pos z, home_one (s := s) hp hp2 hz ro2, g8, nI_1]
    · have hz : home (aT s (nI d)) = home s := home_same (fun i hi => by
        by_cases q : i = m0
        · rw [q, rp2, if_neg z, hp2]
        · exact ro2 i hi q)
      rw [if_neg z, hz, g8]
  -- whose turn it is
  have hU : ∃ u, aT s (nI d) = aNoF 4 0 u ∧ u 1 = nI m0 := ⟨aT7 s m0 (nI Q), by unfold aT; rw [hs1, nI_clamp (by omega), eQ], by rw [aT7_1 hp, hs1]⟩
  obtain ⟨u, hu, u1⟩ := hU
  have uT : ∀ {j}, ¬ j = 1 → u j = aT s (nI d) j := fun {j} q => by rw [hu, aNoF_ne q]
  have uro : ∀ i f, ro u i f = ro (aT s (nI d)) i f := fun i f => uT (by omega)
  have hnx : ∃ m', m' < 4 ∧ aT s (nI d) 1 = nI m' ∧ (¬ aT s (nI d) 4 = 4 → ro (aT s (nI d)) m' 2 = 0) ∧ ∀ i, i < 4 → ¬ i = m0 → 0 < aMany s i → ∃ st, 1 ≤ st ∧ m' = (m0 + st) % 4 ∧ st ≤ (i + 4 - m0) % 4 := by
    have fin : ∀ i, i < 4 → ¬ i = m0 → 0 < aMany s i → ¬ ro u i 0 = 60 := fun i hi q q2 z => by
      rw [uro, ro0 i hi, if_neg q] at z
      obtain ⟨q1, n1, a1, a2, a3, a4, a5, a6⟩ := g3 i hi
      rw [a2] at z
      have e60 := nI_inj (b := 60) (by omega) (by decide) z
      have := a6 e60
      unfold aMany at q2
      rw [a4, this] at q2
      exact absurd q2 (by decide)
    by_cases c : aT s (nI d) 4 = 4
    · refine ⟨m0, hp, ?_, fun z => absurd c z, fun i hi q q2 => ?_⟩
      · rw [hu]
        have c' : u 4 = 4 := by rw [uT (by decide)]; exact c
        unfold aNoF
        rw [if_pos c', u1]
      · have e4 : home (aT s (nI d)) = 4 := nI_inj (b := 4) (by have := home_le (aT s (nI d)); omega) (by decide) (hT4.symm.trans c)
        have := home_4 e4 hi
        rw [hp4 i hi] at this
        exact absurd (fun z => fin i hi q q2 (by rw [uro]; exact z)) this
    · have hmv := mv_eq (t := u) hp (fun i hi => by rw [uro, uro]; exact hp4 i hi) (by rw [uT (by decide), hT4, home_same (s := aT s (nI d)) (fun i _ => uro i 2)]) u1
      rw [← hu, if_neg c] at hmv
      have hex : ∃ st, 1 ≤ st ∧ st ≤ 4 ∧ (∀ i, 1 ≤ i → i < st → ro u ((m0 + i) % 4) 0 = 60) ∧ ¬ ro u ((m0 + st) % 4) 0 = 60 := by
        by_cases a1 : ro u ((m0 + 1) % 4) 0 = 60
        · by_cases a2 : ro u ((m0 + 2) % 4) 0 = 60
          · by_cases a3 : ro u ((m0 + 3) % 4) 0 = 60
            · by_cases a4 : ro u ((m0 + 4) % 4) 0 = 60
              · exfalso
                apply c
                rw [hT4, home_all (fun i hi => by
                  rw [hp4 i hi, ← uro]
                  intro z
                  have : i = (m0 + 1) % 4 ∨ i = (m0 + 2) % 4 ∨ i = (m0 + 3) % 4 ∨ i = (m0 + 4) % 4 := by omega
                  rcases this with e | e | e | e <;> rw [e] at z
                  · exact z a1
                  · exact z a2
                  · exact z a3
                  · exact z a4)]
                rfl
              · exact ⟨4, by decide, by decide, fun i i1 i2 => by rcases (show i = 1 ∨ i = 2 ∨ i = 3 by omega) with rfl | rfl | rfl <;> assumption, a4⟩
            · exact ⟨3, by decide, by decide, fun i i1 i2 => by rcases (show i = 1 ∨ i = 2 by omega) with rfl | rfl <;> assumption, a3⟩
          · exact ⟨2, by decide, by decide, fun i i1 i2 => by rcases (show i = 1 by omega) with rfl; assumption, a2⟩
        · exact ⟨1, by decide, by decide, fun i i1 i2 => by omega, a1⟩
      obtain ⟨st, s1, s4, sb, sa⟩ := hex
      rw [mvX_at s1 s4 sb sa] at hmv
      refine ⟨(m0 + st) % 4, by omega, hmv.symm, fun _ => ?_, fun i hi q q2 => ⟨st, s1, rfl, ?_⟩⟩
      · rw [hp4 _ (by omega), ← uro]; exact sa
      · rcases Nat.lt_or_ge ((i + 4 - m0) % 4) st with z | z
        · exfalso
          refine fin i hi q q2 ?_
          have := sb ((i + 4 - m0) % 4) (by omega) z
          rwa [show (m0 + (i + 4 - m0) % 4) % 4 = i from by omega] at this
        · exact z
  obtain ⟨m', hm', em', hm2, hst⟩ := hnx
  refine ⟨hB1, hB2, fun i hi => ?_, fun i hi x hx => ?_, fun i hi => ?_, fun i j hi hj hij q => ?_, ⟨a, ha, ?_⟩, hT4, m', hm', em', hm2, fun τ hτ => ?_⟩
  · by_cases q : i = m0
    · subst q
      rcases mv with e | ⟨e, hq, -⟩
      · exact ⟨Q, 0, hQ, by rw [ro0 i hi, if_pos rfl], by decide, e, by rw [hp4 i hi, ro0 i hi, if_pos rfl]; exact ⟨fun w z => w (by rw [z]; rfl), fun w z => w (nI_inj (b := 60) (by omega) (by decide) z)⟩, fun _ => rfl⟩
      · exact ⟨Q, 1, hQ, by rw [ro0 i hi, if_pos rfl], by decide, e, by rw [hp4 i hi, ro0 i hi, if_pos rfl]; exact ⟨fun w z => w (by rw [z]; rfl), fun w z => w (nI_inj (b := 60) (by omega) (by decide) z)⟩, fun z => absurd z hq⟩
    · obtain ⟨q1, n1, a1, a2, a3, a4, a5, a6⟩ := g3 i hi
      exact ⟨q1, n1, a1, by rw [ro0 i hi, if_neg q]; exact a2, a3, by rw [ro5 i hi q]; exact a4, by rw [ro2 i hi q]; exact a5, a6⟩
  · by_cases q : i = m0
    · subst q
      unfold aMany at hx
      rcases mv with e | ⟨e, hq, ⟨z, z1, z2, ez⟩, e3⟩
      · rw [e] at hx; exact absurd hx (by simp [nI])
      · rw [e, nI_clamp (by decide)] at hx
        rw [show x = 0 from by omega]
        exact ⟨z, 2 ^ i, z1, z2, ez, (new_h i hi).2.1, e3, (new_h i hi).2.2⟩
    · rw [mi i hi q] at hx
      have hx20 : x < 20 := by have := (hmany i hi).2; omega
      unfold iBt
      rw [wI i hi q x 0 hx20 (by decide), wI i hi q x 3 hx20 (by decide)]
      exact g4 i hi x hx
  · obtain ⟨sl, l1, l2, l3⟩ := sSl i hi
    have e2 : sn (aT s (nI d)) i 2 = nI (sl - 1) := by rw [sT i 2 hi (by decide), aSl2, if_pos hi, s5 i 2 hi (by decide), l2, sleep1 (by omega)]
    unfold iSn
    rw [sHT i 0 hi (by decide), sHT i 1 hi (by decide), e2]
    refine ⟨?_, sl - 1, by omega, rfl⟩
    rcases (g5 i hi).1 with ⟨z1, -⟩ | z
    · exact Or.inl ⟨z1, by rw [l3 z1]; rfl⟩
    · exact Or.inr z
  · rw [sHT i 0 hi (by decide), sHT j 0 hj (by decide)] at q
    rw [sHT i 0 hi (by decide)]
    exact g6 i j hi hj hij q
  · rw [aB (by decide) (by decide) (by decide) (by omega) (by decide), aT4_lo hp (by decide) (by decide)]
    exact ea
  · have hi2 : ∀ i, i < 4 → ¬ i = m0 → cB (aT s (nI d)) m' τ i ≤ cB s m0 (τ + 1) i := fun i hi q => by
      rw [cB_cnt, cB_cnt, mi i hi q]
      refine cnt_le _ (fun x hx z => ?_)
      rw [wI i hi q x 3 (by have := (hmany i hi).2; omega) (by decide)] at z
      obtain ⟨st, t1, t2, t3⟩ := hst i hi q (by omega)
      have := of_decide_eq_true z
      rw [t2] at this
      have e := phi_turn (h := (s (wi i x + 3)).toNatClampNeg) hp hi t3
      exact decide_eq_true (by omega)
    have hpp : cB (aT s (nI d)) m' τ m0 ≤ if τ ≤ 12 then 1 else 0 := by
      rw [cB_cnt]
      unfold aMany
      rcases mv with e | ⟨e, hq, -, e3⟩
      · rw [e]; exact Nat.zero_le _
      · rw [e, nI_clamp (by decide)]
        show 0 + (if decide (τ ≤ phi m' m0 (aT s (nI d) (wi m0 0 + 3)).toNatClampNeg) = true then 1 else 0) ≤ _
        rw [e3, nI_clamp (by have := (new_h m0 hp).2.1; omega)]
        have := phi_new (m := m') hp
        by_cases z : τ ≤ phi m' m0 (2 ^ m0)
        · rw [if_pos (decide_eq_true z), if_pos (by omega)]; omega
        · rw [if_neg (fun w => z (of_decide_eq_true w))]; omega
    have hsum := sum4_one (fun i => cB (aT s (nI d)) m' τ i) (fun i => cB s m0 (τ + 1) i) hp hi2 hpp
    refine Nat.le_trans hsum ?_
    by_cases z : τ ≤ 12
    · rw [if_pos z]
      have := hcb (τ + 1) (by omega)
      show cB s m0 (τ + 1) 0 + cB s m0 (τ + 1) 1 + cB s m0 (τ + 1) 2 + cB s m0 (τ + 1) 3 + 1 ≤ _
      omega
    · rw [if_neg z]
      have := hcb 13 (by decide)
      have a0 := cB_anti s (m := m0) (p := 0) (show 13 ≤ τ + 1 by omega)
      have a1 := cB_anti s (m := m0) (p := 1) (show 13 ≤ τ + 1 by omega)
      have a2 := cB_anti s (m := m0) (p := 2) (show 13 ≤ τ + 1 by omega)
      have a3 := cB_anti s (m := m0) (p := 3) (show 13 ≤ τ + 1 by omega)
      show cB s m0 (τ + 1) 0 + cB s m0 (τ + 1) 1 + cB s m0 (τ + 1) 2 + cB s m0 (τ + 1) 3 + 0 ≤ _
      omega
