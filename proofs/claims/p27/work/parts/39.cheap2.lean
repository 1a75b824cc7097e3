variable {nT : Nat}
/-! the cheapest buyer: upwards and downwards alike -/
theorem Inv.ask {B : Nat} {s : Nat → Int32} (h : Inv B s) {p k : Nat} (hp : p < 4) (hk : k < aMany s p) {b : Nat} (hb : b < 4) : ∃ a, a ≤ 40 ∧ aAsk s (s (wi p k + 0)) b = nI a := by
  obtain ⟨z, y, z1, z40, ez, -⟩ := h.2.2.2.1 p hp k hk
  obtain ⟨eb, hb14⟩ := h.many hb
  refine ⟨(z + 2) / 3 + 2 * aMany s b, by omega, ?_⟩
  unfold aAsk
  rw [ez, eb, show (2 : Int32) = nI 2 from rfl, show (3 : Int32) = nI 3 from rfl, nI_add, nI_div (by omega) (by decide) (by decide), nI_mul, nI_add]
theorem why_O {B : Nat} {s : Nat → Int32} (h : Inv B s) {p k : Nat} (hp : p < 4) (hk : k < aMany s p) {b a : Nat} (hb : b < 4) (ha : a ≤ 40) : aWhy s (nI p) (nI k) (nI b) (nI a) = 0 ↔ (¬ nI b = nI p ∧ nI a ≤ 99 ∧ aRea s p k b (nI a) = 0) := by
  have hk20 : k < 20 := by have := (h.many hp).2; omega
  have hc : 0 ≤ nI a ∧ nI a ≤ 99 := ⟨nI_pos' (by omega), (nI_leI (b := 99) (by omega) (by decide)).mpr (by omega)⟩
  have hok : aBt s (nI p) (nI k) ∧ aPl (nI b) := ⟨aBt_nI h.mOf hp hk, le3 hb⟩
  by_cases e : nI p = nI b
  · rw [obs_bad hok (fun z => z.2 e)]
    exact ⟨fun z => absurd z (by decide), fun z => absurd e.symm z.1⟩
  · rw [obs_ok hp hk20 hb hok ⟨hc, e⟩]
    exact ⟨fun z => ⟨fun q => e q.symm, hc.2, z⟩, fun z => z.2.2⟩
theorem ch_mod : ∀ b, b < 4 → ∀ a, a < 41 → (100 * nI b + nI a) - (100 * nI b + nI a) / 100 * 100 = nI a ∧ ¬ 100 * nI b + nI a = -5 := by decide +kernel
/-- the least of four, from the first up by less, from the last down by not more -/
theorem pud (x0 x1 x2 x3 v0 v1 v2 v3 b0 b1 b2 b3 w0 w1 w2 w3 c0 c1 c2 c3 : Nat) (h0 : x0 ≠ 100) (h1 : x1 ≠ 100) (h2 : x2 ≠ 100) (h3 : x3 ≠ 100)
    (e0 : (x0 < 100 ∧ v0 = x0 ∧ b0 = 0) ∨ (¬ x0 < 100 ∧ v0 = 100 ∧ b0 = 9)) (e1 : (x1 < v0 ∧ v1 = x1 ∧ b1 = 1) ∨ (¬ x1 < v0 ∧ v1 = v0 ∧ b1 = b0)) (e2 : (x2 < v1 ∧ v2 = x2 ∧ b2 = 2) ∨ (¬ x2 < v1 ∧ v2 = v1 ∧ b2 = b1)) (e3 : (x3 < v2 ∧ v3 = x3 ∧ b3 = 3) ∨ (¬ x3 < v2 ∧ v3 = v2 ∧ b3 = b2))
    (f3 : (x3 ≤ 100 ∧ w3 = x3 ∧ c3 = 3) ∨ (¬ x3 ≤ 100 ∧ w3 = 100 ∧ c3 = 9)) (f2 : (x2 ≤ w3 ∧ w2 = x2 ∧ c2 = 2) ∨ (¬ x2 ≤ w3 ∧ w2 = w3 ∧ c2 = c3)) (f1 : (x1 ≤ w2 ∧ w1 = x1 ∧ c1 = 1) ∨ (¬ x1 ≤ w2 ∧ w1 = w2 ∧ c1 = c2)) (f0 : (x0 ≤ w1 ∧ w0 = x0 ∧ c0 = 0) ∨ (¬ x0 ≤ w1 ∧ w0 = w1 ∧ c0 = c1)) : v3 = w0 ∧ b3 = c0 := by
  rcases e0 with e0 | e0 <;> rcases e1 with e1 | e1 <;> rcases e2 with e2 | e2 <;> rcases e3 with e3 | e3 <;> omega
def xA (s : Nat → Int32) (p k j : Nat) : Nat := if aWhy s (nI p) (nI k) (nI j) (aAsk s (s (wi p k + 0)) j) = 0 then (aAsk s (s (wi p k + 0)) j).toNatClampNeg else 101
def rC (f : Int32 × Int32) (v b : Nat) : Prop := (b = 9 ∧ v = 100 ∧ f = (100, -5)) ∨ (b < 4 ∧ v ≤ 40 ∧ f = (nI v, 100 * nI b + nI v))
def rM (f : Int32) (w c : Nat) : Prop := (c = 9 ∧ w = 100 ∧ f = -5) ∨ (c < 4 ∧ w ≤ 40 ∧ f = 100 * nI c + nI w)
section CHEAP
variable {B : Nat} {s : Nat → Int32} {p k : Nat}
theorem cc_step (h : Inv B s) (hp : p < 4) (hk : k < aMany s p) {j v b : Nat} (hj : j < 4) (hr : rC (ccF s p k j) v b) : xA s p k j ≠ 100 ∧ ∃ v' b', rC (ccF s p k (j + 1)) v' b' ∧ ((xA s p k j < v ∧ v' = xA s p k j ∧ b' = j) ∨ (¬ xA s p k j < v ∧ v' = v ∧ b' = b)) := by
  obtain ⟨a, ha, ea⟩ := h.ask hp hk hj
  have hv : v ≤ 100 := by rcases hr with ⟨-, e, -⟩ | ⟨-, e, -⟩ <;> omega
  have hf1 : (ccF s p k j).1 = nI v := by rcases hr with ⟨-, e, q⟩ | ⟨-, e, q⟩ <;> rw [q] <;> (try rw [e]) <;> rfl
  have he : ccF s p k (j + 1) = if aAsk s (s (wi p k + 0)) j < (ccF s p k j).1 ∧ aWhy s (nI p) (nI k) (nI j) (aAsk s (s (wi p k + 0)) j) = 0 then (aAsk s (s (wi p k + 0)) j, 100 * nI j + aAsk s (s (wi p k + 0)) j) else ccF s p k j := rfl
  unfold xA
  rw [he, hf1, ea, nI_clamp (by omega)]
  by_cases O : aWhy s (nI p) (nI k) (nI j) (nI a) = 0
  · rw [if_pos O]
    refine ⟨by omega, ?_⟩
    by_cases q : a < v
    · rw [if_pos ⟨nI_lt q (by omega), O⟩]
      exact ⟨a, j, Or.inr ⟨hj, ha, rfl⟩, Or.inl ⟨q, rfl, rfl⟩⟩
    · rw [if_neg (fun z => q ((nI_ltI (by omega) (by omega)).mp z.1))]
      exact ⟨v, b, hr, Or.inr ⟨q, rfl, rfl⟩⟩
  · rw [if_neg O, if_neg (fun z => O z.2)]
    exact ⟨by decide, v, b, hr, Or.inr ⟨by omega, rfl, rfl⟩⟩
theorem cm_step (h : Inv B s) (hp : p < 4) (hk : k < aMany s p) {j w c : Nat} {f : Int32} (hj : j < 4) (hr : rM f w c) : ∃ w' c', rM (aChS s p k j f) w' c' ∧ ((xA s p k j ≤ w ∧ w' = xA s p k j ∧ c' = j) ∨ (¬ xA s p k j ≤ w ∧ w' = w ∧ c' = c)) := by
  obtain ⟨a, ha, ea⟩ := h.ask hp hk hj
  have hw : w ≤ 100 := by rcases hr with ⟨-, e, -⟩ | ⟨-, e, -⟩ <;> omega
  unfold xA aChS
  rw [ea, nI_clamp (by omega)]
  by_cases O : aWhy s (nI p) (nI k) (nI j) (nI a) = 0
  · have O2 := (why_O h hp hk hj ha).mp O
    rw [if_pos O]
    rcases hr with ⟨e1, e2, e3⟩ | ⟨e1, e2, e3⟩
    · rw [if_pos ⟨O2, Or.inl e3⟩]
      exact ⟨a, j, Or.inr ⟨hj, ha, rfl⟩, Or.inl ⟨by omega, rfl, rfl⟩⟩
    · obtain ⟨m1, m2⟩ := ch_mod c e1 w (by omega)
      by_cases q : a ≤ w
      · rw [if_pos ⟨O2, Or.inr (by rw [e3, m1]; exact (nI_leI (by omega) (by omega)).mpr q)⟩]
        exact ⟨a, j, Or.inr ⟨hj, ha, rfl⟩, Or.inl ⟨q, rfl, rfl⟩⟩
      · rw [if_neg (fun z => z.2.elim (fun y => m2 (by rw [← e3]; exact y)) (fun y => q (by rw [e3, m1] at y; exact (nI_leI (by omega) (by omega)).mp y)))]
        exact ⟨w, c, Or.inr ⟨e1, e2, e3⟩, Or.inr ⟨q, rfl, rfl⟩⟩
  · rw [if_neg O, if_neg (fun z => O ((why_O h hp hk hj ha).mpr z.1))]
    exact ⟨w, c, hr, Or.inr ⟨by omega, rfl, rfl⟩⟩
theorem che_eq (h : Inv B s) (x y : Int32) : cheR s x y = aCheX s x y := by
  unfold cheR aCheX
  by_cases hb : aBt s x y
  · rw [if_pos hb, if_pos hb]
    obtain ⟨p, k, hp, rfl, hk, rfl, hk20⟩ := aBt.nat h.mOk hb
    rw [nI_clamp (by omega), nI_clamp (by omega)]
    obtain ⟨n0, v0, b0, r0, e0⟩ := cc_step h hp hk (j := 0) (v := 100) (b := 9) (by decide) (Or.inl ⟨rfl, rfl, rfl⟩)
    obtain ⟨n1, v1, b1, r1, e1⟩ := cc_step h hp hk (j := 1) (by decide) r0
    obtain ⟨n2, v2, b2, r2, e2⟩ := cc_step h hp hk (j := 2) (by decide) r1
    obtain ⟨n3, v3, b3, r3, e3⟩ := cc_step h hp hk (j := 3) (by decide) r2
    obtain ⟨w3, c3, q3, f3⟩ := cm_step h hp hk (j := 3) (f := -5) (w := 100) (c := 9) (by decide) (Or.inl ⟨rfl, rfl, rfl⟩)
    obtain ⟨w2, c2, q2, f2⟩ := cm_step h hp hk (j := 2) (by decide) q3
    obtain ⟨w1, c1, q1, f1⟩ := cm_step h hp hk (j := 1) (by decide) q2
    obtain ⟨w0, c0, q0, f0⟩ := cm_step h hp hk (j := 0) (by decide) q1
    obtain ⟨hv, hc⟩ := pud _ _ _ _ _ _ _ _ _ _ _ _ _ _ _ _ _ _ _ _ n0 n1 n2 n3 e0 e1 e2 e3 f3 f2 f1 f0
    subst hv hc
    show (ccF s p k 4).2 = aChS s p k 0 (aChS s p k 1 (aChS s p k 2 (aChS s p k 3 (-5))))
    rcases r3 with ⟨g1, g2, g3⟩ | ⟨g1, g2, g3⟩ <;> rcases q0 with ⟨h1, h2, h3⟩ | ⟨h1, h2, h3⟩
    · rw [g3, h3]
    · omega
    · omega
    · rw [g3, h3]
  · rw [if_neg hb, if_neg hb]
end CHEAP
