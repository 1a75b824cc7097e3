variable {nT : Nat}
/-- a mutator's end: recorded and the row F, or nothing -/
def MU (I0 : fw_I) (k : Nat) (ok : Prop) (F : Nat → Int32) (I2 : fw_I) : Prop := (ok ∧ ∃ I1, RecP I0 I1 k ∧ I2 = wr I1 689 F) ∨ (¬ ok ∧ I2 = I0)
theorem RecP.mem {I I1 : fw_I} {s : Nat → Int32} {k : Nat} (h : RecP (wr I 689 s) I1 k) : I1 = wr I1 689 s := by
  have h1 := h.1 689 (by decide) (by decide)
  rw [wr_at] at h1
  rw [← h1, wr_self]
abbrev aFm (a b : Int32) : Prop := (7 ≤ a ∧ a ≤ 59) ∧ (1 ≤ b ∧ b ≤ 53) ∧ (6 ≤ a - b ∧ a - b ≤ 40)
def aSnkR (s : Nat → Int32) (a b : Int32) : Int32 := if ¬ aFm a b then -2 else if ¬ aSnAt s a = -5 then -4 else if aCntF s 10 = 10 then -3 else nI (aFrF s 10 0)
abbrev aSnkOk (s : Nat → Int32) (a b : Int32) : Prop := aFm a b ∧ aSnAt s a = -5 ∧ ¬ aCntF s 10 = 10
def aSnkF (s : Nat → Int32) (a b : Int32) : Nat → Int32 :=
  let w := 352 + 4 * aFrF s 10 0
  upd (upd (upd (upd s (w + 0) a) (w + 1) b) (w + 2) 0) (w + 3) 0
def aChaR (s : Nat → Int32) (x t : Int32) : Int32 := if ¬ aSk s x then -1 else if ¬ (1 ≤ t ∧ t ≤ 10) then -2 else sn s x.toNatClampNeg 2
abbrev aChaOk (s : Nat → Int32) (x t : Int32) : Prop := aSk s x ∧ (1 ≤ t ∧ t ≤ 10)
def aChaF (s : Nat → Int32) (k : Nat) (t : Int32) : Nat → Int32 :=
  let s1 := upd s (352 + 4 * k + 2) (if t = 10 then 0 else s (352 + 4 * k + 2) + t)
  upd s1 (352 + 4 * k + 0) (if t = 10 then 0 else s1 (352 + 4 * k + 0))
abbrev aDi (d : Int32) : Prop := 1 ≤ d ∧ d ≤ 6
theorem aDi.nat {d : Int32} (h : aDi d) : ∃ n, 1 ≤ n ∧ n ≤ 6 ∧ d = nI n := by
  obtain ⟨j, h1, h2⟩ := nI_of2 (M := 6) (n := 6) rfl (by rw [i32_lt]; have := i32_le.mp h.1; simp at this ⊢; omega) h.2
  refine ⟨j, ?_, h1, h2⟩
  rcases Nat.eq_zero_or_pos j with h0 | h0
  · subst h0
    rw [h2] at h
    exact absurd h.1 (by decide)
  · exact h0
def aTuE (s : Nat → Int32) (d : Int32) : Int32 := if ¬ aDi d then -2 else if s 4 = 4 then -4 else 0
def aTuR (s : Nat → Int32) (d : Int32) : Int32 := if ¬ aDi d then -2 else if s 4 = 4 then -4 else aTq s d
abbrev aTuOk (s : Nat → Int32) (d : Int32) : Prop := aDi d ∧ ¬ s 4 = 4
def aPyF : Nat → Int32 → (Nat → Int32) → Nat × (Nat → Int32)
  | 0, _, s => (0, s)
  | n + 1, x, s => if s 4 = 4 then (0, s) else ((aPyF n (aDraw x) (aT s (aDice (aDraw x)))).1 + 1, (aPyF n (aDraw x) (aT s (aDice (aDraw x)))).2)
abbrev aPyC (x m : Int32) : Prop := (0 ≤ x ∧ x ≤ 65535) ∧ (1 ≤ m ∧ m ≤ 50)
def aPyR (s : Nat → Int32) (x m : Int32) : Int32 := if ¬ aPyC x m then -2 else if s 4 = 4 then -4 else nI (aPyF m.toNatClampNeg x s).1
abbrev aPyOk (s : Nat → Int32) (x m : Int32) : Prop := aPyC x m ∧ ¬ s 4 = 4
def aSelR (s : Nat → Int32) (x y z c : Int32) : Int32 := if aSeE s x y z c < 0 then aSeE s x y z c else if 0 < aRea s x.toNatClampNeg y.toNatClampNeg z.toNatClampNeg c then -10 - aRea s x.toNatClampNeg y.toNatClampNeg z.toNatClampNeg c else ro (aS s x.toNatClampNeg y.toNatClampNeg z.toNatClampNeg c) z.toNatClampNeg 1 + 1000
abbrev aSelOk (s : Nat → Int32) (x y z c : Int32) : Prop := aSeE s x y z c = 0 ∧ aRea s x.toNatClampNeg y.toNatClampNeg z.toNatClampNeg c = 0
def aSelF (s : Nat → Int32) (x y z c : Int32) : Nat → Int32 := aS s x.toNatClampNeg y.toNatClampNeg z.toNatClampNeg c
theorem aRea_cases (s : Nat → Int32) (p k b : Nat) (c : Int32) : aRea s p k b c = 0 ∨ 0 < aRea s p k b c := by
  unfold aRea
  by_cases h1 : ¬ ro s b 2 = 0
  · rw [if_pos h1]; exact Or.inr (by decide)
  · rw [if_neg h1]
    by_cases h2 : s 7 ≤ s (wi p k + 1)
    · rw [if_pos h2]; exact Or.inr (by decide)
    · rw [if_neg h2]
      by_cases h3 : s (wi p k + 3) >>> (nI b &&& 31) &&& 1 = 1
      · rw [if_pos h3]; exact Or.inr (by decide)
      · rw [if_neg h3]
        by_cases h4 : ro s p 1 - c < - s 6
        · rw [if_pos h4]; exact Or.inr (by decide)
        · rw [if_neg h4]
          by_cases h5 : c < aAsk s (s (wi p k + 0)) b
          · rw [if_pos h5]; exact Or.inr (by decide)
          · rw [if_neg h5]; exact Or.inl rfl
abbrev aSeV (x v : Int32) : Prop := (if x = 2 then 1 else 0) ≤ v ∧ v ≤ (if x = 0 then 9 else if x = 1 then 50 else 3)
abbrev aSt3 (x : Int32) : Prop := 0 ≤ x ∧ x ≤ 2
theorem aSt3.nat {x : Int32} (h : aSt3 x) : ∃ i, i ≤ 2 ∧ x = nI i := by
  obtain ⟨j, h1, h2⟩ := nI_of2 (M := 2) (n := 2) rfl (by rw [i32_lt]; have := i32_le.mp h.1; simp at this ⊢; omega) h.2
  exact ⟨j, h1, h2⟩
def aSetR (s : Nat → Int32) (x v : Int32) : Int32 := if ¬ aSt3 x then -1 else if ¬ aSeV x v then -2 else s (5 + x.toNatClampNeg)
abbrev aSetOk (x v : Int32) : Prop := aSt3 x ∧ aSeV x v
def aSetF (s : Nat → Int32) (x v : Int32) : Nat → Int32 := upd s (5 + x.toNatClampNeg) v
theorem if_or {p : Prop} [Decidable p] {a b c : Int32} (h1 : p → a = c) (h2 : ¬ p → b = c) : (if p then a else b) = c := by
  by_cases h : p
  · rw [if_pos h]; exact h1 h
  · rw [if_neg h]; exact h2 h
theorem kRec {l : Launch} {g : fw_G} {k : fw_M} {T T' : fw_T} {mc ms : Nat} {Q : Option Value → fw_I → fw_P → Prop} {I : fw_I} {P : fw_P} {n u w q : Nat} {L : List (Option Value)} {st : List Value} (h : ∀ I1, RecP I I1 n → V l g k T' mc ms Q T I1 P u w q L st) : ∀ (v : Option Value) (I1 : fw_I) (P1 : fw_P), qV (fun I1 P1 => RecP I I1 n ∧ P1 = P) v I1 P1 → V l g k T' mc ms Q T I1 P1 u w q L (v.toList ++ st) := by
  rintro _ I1 _ ⟨rfl, hr, rfl⟩
  exact h I1 hr
theorem aTuE_ok {s : Nat → Int32} {d : Int32} (h : 0 ≤ aTuE s d) : aTuOk s d := by
  unfold aTuE at h
  by_cases h1 : aDi d
  · rw [if_neg (fun q => q h1)] at h
    by_cases h2 : s 4 = 4
    · rw [if_pos h2] at h; exact absurd h (by decide)
    · exact ⟨h1, h2⟩
  · rw [if_pos h1] at h; exact absurd h (by decide)
theorem aTuE_no {s : Nat → Int32} {d : Int32} (h : ¬ 0 ≤ aTuE s d) : ¬ aTuOk s d ∧ aTuR s d = aTuE s d := by
  unfold aTuE at h
  unfold aTuR aTuE
  by_cases h1 : aDi d
  · have hn : ¬ ¬ aDi d := fun q => q h1
    rw [if_neg hn] at h
    rw [if_neg hn, if_neg hn]
    by_cases h2 : s 4 = 4
    · rw [if_pos h2, if_pos h2]; exact ⟨fun q => q.2 h2, rfl⟩
    · rw [if_neg h2] at h; exact absurd (by decide) h
  · rw [if_pos h1, if_pos h1]; exact ⟨fun q => h1 q.1, rfl⟩
theorem aTuR_ok {s : Nat → Int32} {d : Int32} (h : aTuOk s d) : aTuR s d = aTq s d := by
  unfold aTuR
  rw [if_neg (fun q => q h.1), if_neg h.2]
theorem aDice_in {x : Int32} (h : 0 ≤ x ∧ x ≤ 65535) : aDi (aDice x) := by
  obtain ⟨n, hn, rfl⟩ := draw_n h
  unfold aDice
  rw [show (10923 : Int32) = nI 10923 from rfl, nI_div (by omega) (by decide) (by decide), show (1 : Int32) = nI 1 from rfl, nI_add]
  exact ⟨by rw [show (1 : Int32) = nI 1 from rfl]; exact (nI_leI (by decide) (by omega)).mpr (by omega), by rw [show (6 : Int32) = nI 6 from rfl]; exact (nI_leI (by omega) (by decide)).mpr (by omega)⟩
