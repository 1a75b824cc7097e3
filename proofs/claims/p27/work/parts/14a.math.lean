variable {nT : Nat}
/-! numbers, beginnings, landings; what a turn leaves -/
theorem nI_div {a b : Nat} (ha : a < 2 ^ 31) (hb : b < 2 ^ 31) (h0 : 0 < b) : nI a / nI b = nI (a / b) := by
  apply Int32.toInt_inj.mp
  have hb1 : nI b ≠ -1 := fun e => by
    have h2 := congrArg Int32.toInt e
    rw [nI_toInt hb, show (-1 : Int32).toInt = -1 from by decide] at h2
    omega
  rw [Int32.toInt_div_of_ne_right _ _ hb1, nI_toInt ha, nI_toInt hb, nI_toInt (Nat.lt_of_le_of_lt (Nat.div_le_self a b) ha)]
  exact (Int.ofNat_tdiv a b).symm
theorem draw_n {x : Int32} (h : 0 ≤ x ∧ x ≤ 65535) : ∃ n, n ≤ 65535 ∧ x = nI n := by
  obtain ⟨j, hj, rfl⟩ := nI_of (Int32.not_lt.mpr h.1)
  exact ⟨j, (nI_leI (b := 65535) hj (by decide)).mp h.2, rfl⟩
theorem aDraw_in {x : Int32} (h : 0 ≤ x ∧ x ≤ 65535) : 0 ≤ aDraw x ∧ aDraw x ≤ 65535 := by
  obtain ⟨n, hn, rfl⟩ := draw_n h
  have e : aDraw (nI n) = nI ((25173 * n + 13849) % 65536) := by
    unfold aDraw
    rw [show (25173 : Int32) = nI 25173 from rfl, show (13849 : Int32) = nI 13849 from rfl, show (65536 : Int32) = nI 65536 from rfl, nI_mul, nI_add, nI_div (by omega) (by decide) (by decide), nI_mul, nI_sub (by omega)]
    exact congrArg nI (by omega)
  rw [e]
  exact ⟨nI_pos' (by omega), by rw [show (65535 : Int32) = nI 65535 from rfl]; exact (nI_leI (by omega) (by decide)).mpr (by omega)⟩
theorem aGoN_eq (q d : Nat) (hq : q ≤ 60) (hd : d ≤ 60) : ∃ r, r ≤ 60 ∧ aGo (nI q) (nI d) = nI r := by
  unfold aGo
  rw [nI_add]
  by_cases h : q + d ≤ 60
  · rw [if_pos (by rw [show (60 : Int32) = nI 60 from rfl]; exact (nI_leI (by omega) (by decide)).mpr h)]
    exact ⟨q + d, h, rfl⟩
  · have h' : ¬ nI (q + d) ≤ 60 := fun z => h ((nI_leI (b := 60) (by omega) (by decide)).mp z)
    rw [if_neg h', show (120 : Int32) = nI 120 from rfl, nI_sub (by omega), nI_sub (by omega)]
    exact ⟨120 - q - d, by omega, rfl⟩
theorem Inv.hu {B : Nat} {s : Nat → Int32} (h : Inv B s) {p : Nat} (hp : p < 4) : ∀ n, n ≤ aMany s p → ∃ z, z ≤ 40 * n ∧ aHuF s p n = nI z
  | 0, _ => ⟨0, Nat.le_refl _, rfl⟩
  | n + 1, hn => by
    obtain ⟨z, hz, e⟩ := h.hu hp n (by omega)
    obtain ⟨y, -, -, hy, ey, -⟩ := h.2.2.2.1 p hp n (by omega)
    refine ⟨z + y, by omega, ?_⟩
    show aHuF s p n + s (wi p n) = _
    rw [e, show s (wi p n) = nI y from ey, nI_add]
theorem Inv.beg {B : Nat} {s : Nat → Int32} (h : Inv B s) {p : Nat} (hp : p < 4) : ∃ b, b ≤ 60 ∧ aBeg s p = nI b := by
  obtain ⟨q, n, hq, eq, -⟩ := h.2.2.1 p hp
  obtain ⟨z, hz, ez⟩ := h.hu hp (aMany s p) (Nat.le_refl _)
  have hm := (h.many hp).2
  unfold aBeg
  rw [eq, show aHu s p = nI z from ez]
  by_cases hzq : z ≤ q
  · rw [nI_sub hzq, if_pos (nI_pos' (by omega))]
    exact ⟨q - z, by omega, rfl⟩
  · rw [if_neg (fun w => ?_)]
    · exact ⟨0, by omega, rfl⟩
    · have h1 := i32_le.mp w
      rw [Int32.toInt_zero, Int32.toInt_sub, nI_toInt (by omega), nI_toInt (by omega)] at h1
      rw [Int.bmod_eq_of_le (by omega) (by omega)] at h1
      omega
theorem aTq_nn {B : Nat} {s : Nat → Int32} (h : Inv B s) {p d : Nat} (hp : p < 4) (hs : s 1 = nI p) (h6 : d ≤ 6) : ∃ q, q ≤ 60 ∧ aTq s (nI d) = nI q := by
  obtain ⟨b, hb, e⟩ := h.beg hp
  unfold aTq
  rw [hs, nI_clamp (by omega), e]
  exact aGoN_eq b d hb (by omega)
theorem aNoF_4 : ∀ (n k : Nat) (s : Nat → Int32), aNoF n k s 4 = s 4
  | 0, _, _ => rfl
  | n + 1, k, s => by
    unfold aNoF
    by_cases h : s 4 = 4
    · rw [if_pos h]
    · rw [if_neg h]
      by_cases h2 : k = 0 ∨ ¬ ro s (s 1).toNatClampNeg 2 = 0
      · rw [if_pos h2, aNoF_4 n (k + 1), upd_at, if_neg (by decide)]
      · rw [if_neg h2]
theorem aBit_4 (s : Nat → Int32) (p : Nat) (q : Int32) : aBit s p q 4 = s 4 := by
  unfold aBit aGet aAdd
  simp only [upd_at]
  rw [if_neg (by omega), if_neg (by omega), if_neg (by decide), if_neg (by omega), if_neg (by omega), if_neg (by unfold wi; omega), if_neg (by unfold wi; omega), if_neg (by unfold wi; omega), if_neg (by unfold wi; omega)]
theorem aT_4 (s : Nat → Int32) (d : Int32) (h : ¬ aTq s d = 60) : aT s d 4 = s 4 := by
  unfold aT
  rw [aNoF_4]
  unfold aT7 aT6
  rw [upd_at, if_neg (by decide), aSlF_lo _ (by decide)]
  unfold aT5
  rw [if_neg h]
  unfold aT4
  split
  · rw [aBit_4, aT3_lo _ _ _ (by decide)]
  · rw [aT3_lo _ _ _ (by decide)]
theorem Inv_congr {B : Nat} {s t : Nat → Int32} (h : Inv B s) (e : ∀ j, j < 392 → t j = s j) : Inv B t := by
  have ero : ∀ p f, p < 4 → f < 6 → ro t p f = ro s p f := fun p f hp hf => e _ (by omega)
  have eM : ∀ p, p < 4 → aMany t p = aMany s p := fun p hp => by unfold aMany; rw [ero p 5 hp (by decide)]
  have esn : ∀ i f, i < 10 → f < 4 → sn t i f = sn s i f := fun i f hi hf => e _ (by omega)
  have ewi : ∀ p k f, p < 4 → k < 20 → f < 4 → t (wi p k + f) = s (wi p k + f) := fun p k f hp hk hf => e _ (by have := wi_lt hp hk; omega)
  have eh : home t = home s := by unfold home; rw [ero 0 2 (by decide) (by decide), ero 1 2 (by decide) (by decide), ero 2 2 (by decide) (by decide), ero 3 2 (by decide) (by decide)]
  have ecB : ∀ m j p, p < 4 → cB t m j p = cB s m j p := fun m j p hp => by
    unfold cB
    rw [eM p hp]
    congr 1
    apply List.filter_congr
    intro k hk
    have hk2 := List.mem_range.mp hk
    rw [ewi p k 3 hp (by have := (h.many hp).2; omega) (by decide)]
  have hmany := fun p hp => (h.many (p := p) hp).2
  obtain ⟨h1, h2, h3, h4, h5, h6, ⟨a, ha, ea⟩, h8, m, hm, em, hm0, hcb⟩ := h
  refine ⟨h1, h2, fun p hp => ?_, fun p hp k hk => ?_, fun i hi => ?_, fun i j hi hj hij q => ?_, ⟨a, ha, by rw [e 5 (by decide)]; exact ea⟩, by rw [e 4 (by decide), eh]; exact h8, m, hm, by rw [e 1 (by decide)]; exact em, fun q => ?_, fun j hj => ?_⟩
  · obtain ⟨q, n, b1, b2, b3, b4, b5, b6⟩ := h3 p hp
    exact ⟨q, n, b1, by rw [ero p 0 hp (by decide)]; exact b2, b3, by rw [ero p 5 hp (by decide)]; exact b4, by rw [ero p 2 hp (by decide)]; exact b5, b6⟩
  · rw [eM p hp] at hk
    have hk20 : k < 20 := by have := hmany p hp; omega
    obtain ⟨z, y, b1, b2, b3, b4, b5, b6⟩ := h4 p hp k hk
    exact ⟨z, y, b1, b2, by rw [ewi p k 0 hp hk20 (by decide)]; exact b3, b4, by rw [ewi p k 3 hp hk20 (by decide)]; exact b5, b6⟩
  · have := h5 i hi
    unfold iSn at this ⊢
    rw [esn i 0 hi (by decide), esn i 1 hi (by decide), esn i 2 hi (by decide)]
    exact this
  · rw [esn i 0 hi (by decide), esn j 0 hj (by decide)] at q
    rw [esn i 0 hi (by decide)]
    exact h6 i j hi hj hij q
  · rw [e 4 (by decide)] at q
    rw [ero m 2 hm (by decide)]
    exact hm0 q
  · rw [ecB m j 0 (by decide), ecB m j 1 (by decide), ecB m j 2 (by decide), ecB m j 3 (by decide)]
    exact hcb j hj
def aFrF (s : Nat → Int32) : Nat → Nat → Nat
  | 0, j => j
  | n + 1, j => if 0 < sn s j 0 then aFrF s n (j + 1) else j
theorem aCnt_all {s : Nat → Int32} : ∀ n, (∀ i, i < n → 0 < sn s i 0) → aCntF s n = nI n
  | 0, _ => rfl
  | n + 1, h => by
    show aCntF s n + bI (0 < sn s n 0) = _
    rw [bI_t (h n (by omega)), aCnt_all n (fun i hi => h i (by omega)), nI_1]
theorem upd_upd (s : Nat → Int32) (i : Nat) (x y : Int32) : upd (upd s i x) i y = upd s i y := by
  funext j
  rw [upd_at, upd_at, upd_at]
  by_cases h : j = i
  · rw [if_pos h, if_pos h]
  · rw [if_neg h, if_neg h, if_neg h]
