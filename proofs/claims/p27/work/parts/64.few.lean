/-! the fewest throws: both ways agree; without snakes -/
theorem res_uq {P : Nat → Prop} {r r' : Int32} (h : (∃ k, r = nI k ∧ k ≤ 60 ∧ P k ∧ ∀ k', k' < k → ¬ P k') ∨ (r = -5 ∧ ∀ k, ¬ P k)) (h' : (∃ k, r' = nI k ∧ k ≤ 60 ∧ P k ∧ ∀ k', k' < k → ¬ P k') ∨ (r' = -5 ∧ ∀ k, ¬ P k)) : r = r' := by
  rcases h with ⟨k, rfl, -, k2, k3⟩ | ⟨rfl, k1⟩
  · rcases h' with ⟨j, rfl, -, j2, j3⟩ | ⟨rfl, j1⟩
    · have a : ¬ j < k := fun z => k3 j z j2
      have b : ¬ k < j := fun z => j3 k z k2
      rw [show j = k from by omega]
    · exact absurd k2 (j1 k)
  · rcases h' with ⟨j, rfl, -, j2, j3⟩ | ⟨rfl, j1⟩
    · exact absurd j2 (k1 j)
    · rfl
theorem aSnF_none {s : Nat → Int32} {q : Int32} (hq : 0 < q) : ∀ n, (∀ i, i < n → ¬ 0 < sn s i 0) → aSnF s q n = -5
  | 0, _ => rfl
  | n + 1, h => by
    unfold aSnF
    rw [if_neg (fun z => h n (by omega) (by rw [z.1]; exact hq))]
    exact aSnF_none hq n (fun i hi => h i (by omega))
theorem aSnF_z {s : Nat → Int32} {q : Int32} (hq : ¬ 0 < q) : ∀ n, aSnF s q n = -5
  | 0 => rfl
  | n + 1 => by
    unfold aSnF
    rw [if_neg (fun z => hq z.2)]
    exact aSnF_z hq n
theorem aLd_none {s : Nat → Int32} (h : ∀ i, i < 10 → ¬ 0 < sn s i 0) {x : Nat} (hx : x ≤ 60) : aLd s (nI x) = x := by
  have : aSnAt s (nI x) = -5 := by
    by_cases q : 0 < nI x
    · exact aSnF_none q 10 h
    · exact aSnF_z q 10
  unfold aLd
  rw [if_pos this, nI_clamp (by omega)]
theorem Wk_up {s : Nat → Int32} (h : ∀ i, i < 10 → ¬ 0 < sn s i 0) {b : Nat} (hb : b ≤ 60) : ∀ k x, Wk s k b x → x ≤ b + 6 * k ∧ x ≤ 60
  | 0, x, e => by rw [← show b = x from e]; exact ⟨by omega, hb⟩
  | k + 1, x, ⟨z, h1, hz, d, hd, e⟩ => by
    obtain ⟨i1, i2⟩ := Wk_up h hb k z h1
    rw [aLd_none h (aGoN_le z (d + 1) i2)] at e
    have := aGoN_le z (d + 1) i2
    refine ⟨?_, by omega⟩
    rw [e]
    unfold aGoN
    split <;> omega
theorem Wk_six {s : Nat → Int32} (h : ∀ i, i < 10 → ¬ 0 < sn s i 0) {b : Nat} : ∀ k, b + 6 * k ≤ 60 → Wk s k b (b + 6 * k)
  | 0, _ => rfl
  | k + 1, hk => ⟨b + 6 * k, Wk_six h k (by omega), by omega, 5, by decide, by
    have e : aGoN (b + 6 * k) (5 + 1) = b + 6 * (k + 1) := by unfold aGoN; rw [if_pos (by omega)]; omega
    rw [e, aLd_none h hk]⟩
theorem Wk_home {s : Nat → Int32} (h : ∀ i, i < 10 → ¬ 0 < sn s i 0) {b : Nat} (hb : b < 60) : Wk s ((65 - b) / 6) b 60 := by
  obtain ⟨m, hm⟩ : ∃ m, (65 - b) / 6 = m + 1 := ⟨(65 - b) / 6 - 1, by omega⟩
  rw [hm]
  refine ⟨b + 6 * m, Wk_six h m (by omega), by omega, 60 - (b + 6 * m) - 1, by omega, ?_⟩
  have e : aGoN (b + 6 * m) (60 - (b + 6 * m) - 1 + 1) = 60 := by unfold aGoN; rw [if_pos (by omega)]; omega
  rw [e, aLd_none h (by decide)]
theorem no_sn {s : Nat → Int32} (h : ¬ 0 < aCntF s 10) : ∀ i, i < 10 → ¬ 0 < sn s i 0 := fun i hi h0 => by
  obtain ⟨c, h1, h2, h3⟩ := aCnt_le s 10
  by_cases q : c = 0
  · rw [q] at h2
    have : ∀ n, n ≤ 10 → aCntF s n = nI 0 → ∀ j, j < n → ¬ 0 < sn s j 0 := fun n => by
      induction n with
      | zero => exact fun _ _ j hj => absurd hj (Nat.not_lt_zero j)
      | succ n ih =>
        intro hn e j hj
        obtain ⟨c', g1, g2, -⟩ := aCnt_le s n
        have e' : aCntF s n + bI (0 < sn s n 0) = nI 0 := e
        by_cases w : 0 < sn s n 0
        · rw [bI_t w, g2, nI_1] at e'
          have := nI_inj (by omega) (by decide) e'
          omega
        · rw [bI_f w, Int32.add_zero] at e'
          by_cases jn : j = n
          · rw [jn]; exact w
          · exact ih (by omega) e' j (by omega)
    exact this 10 (Nat.le_refl _) h2 i hi h0
  · rw [h2] at h
    exact h (nI_lt (a := 0) (by omega) (by omega))
theorem few_fix {B : Nat} {s : Nat → Int32} (hI : Inv B s) {p : Nat} (hp : p < 4) (h2 : ro s p 2 = 0) : ∃ r : Int32, ¬ r = 0 ∧ (¬ 0 < aCntF s 10 → r = (65 - aBeg s p) / 6) ∧ ∀ σ, fewR s (nI p) 0 σ = r ∧ fewR s (nI p) 1 σ = r := by
  obtain ⟨b0, hb, eb⟩ := hI.beg' hp h2
  have hon : ∀ σ, Res (fun k x => Wk s k b0 x) 60 (fewR s (nI p) 0 σ) := fun σ => by
    unfold fewR
    rw [if_neg (fun z => z (le3 hp)), if_neg (fun z => z (by decide)), nI_clamp (by omega), if_pos h2]
    unfold fewC
    rw [if_pos rfl, eb]
    exact onL_ok hI 61 0 _ rfl (Lp.start σ (by omega) rfl)
  have hba : ∀ σ, Res (fun k x => Wk s k x 60) b0 (fewR s (nI p) 1 σ) := fun σ => by
    unfold fewR
    rw [if_neg (fun z => z (le3 hp)), if_neg (fun z => z (by decide)), nI_clamp (by omega), if_pos h2]
    unfold fewC
    rw [if_neg (by decide), eb]
    exact baL_ok hI (b0 := b0) (by omega) 61 0 _ rfl (Lp.start (st := 60) σ (by omega) rfl)
  have uq : ∀ r r', Res (fun k x => Wk s k b0 x) 60 r → Res (fun k x => Wk s k b0 x) 60 r' → r = r' := fun r r' a b => res_uq (P := fun k => Wk s k b0 60) a b
  have σ0 : sT := (fun _ => 0, fun _ => 0, 0)
  refine ⟨fewR s (nI p) 0 σ0, ?_, fun hn => ?_, fun σ => ⟨uq _ _ (hon σ) (hon σ0), uq _ _ (hba σ) (hon σ0)⟩⟩
  · rcases hon σ0 with ⟨k, e, k1, k2, -⟩ | ⟨e, -⟩
    · rw [e]
      intro z
      have : k = 0 := nI_eq0 z (by omega)
      subst this
      have : b0 = 60 := k2
      omega
    · rw [e]; decide
  · have hno := no_sn hn
    rw [few_one (P := fun k => Wk s k b0 60) (N := (65 - b0) / 6) (hon σ0) (fun _ => Wk_home hno hb) (fun k hk w => by have := (Wk_up hno (by omega) k 60 w).1; omega), if_pos (by omega), eb, show (65 : Int32) = nI 65 from rfl, show (6 : Int32) = nI 6 from rfl, nI_sub (by omega), nI_div (by omega) (by decide) (by decide)]
theorem few_home {s : Nat → Int32} {p : Nat} (hp : p < 4) (h2 : ¬ ro s p 2 = 0) (σ : sT) : fewR s (nI p) 0 σ = 0 ∧ fewR s (nI p) 1 σ = 0 := by
  refine ⟨?_, ?_⟩
  · unfold fewR
    rw [if_neg (fun z => z (le3 hp)), if_neg (fun z => z (by decide)), nI_clamp (by omega), if_neg h2]
  · unfold fewR
    rw [if_neg (fun z => z (le3 hp)), if_neg (fun z => z (by decide)), nI_clamp (by omega), if_neg h2]
