variable {nT : Nat}
def appR (len : Nat) (c : Int32) : Int32 := if ¬ (32 ≤ c ∧ c ≤ 126) then -2 else if len = 60 then -3 else nI (len + 1)
abbrev appOk (len : Nat) (c : Int32) : Prop := (32 ≤ c ∧ c ≤ 126) ∧ ¬ len = 60
def mB (I : fw_I) (b c s : Nat → Int32) : fw_I := wr (wr (wr I 695 b) 696 c) 689 s
theorem mB_self (I : fw_I) : mB I (I 695) (I 696) (I 689) = I := by
  unfold mB
  rw [wr_self, wr_self, wr_self]
theorem mB_c (I : fw_I) (b c s : Nat → Int32) (j : Nat) (x : Int32) : up2 (mB I b c s) 696 j x = mB I b (upd c j x) s := by
  funext a
  unfold mB
  by_cases h9 : a = 689
  · subst h9; rw [up2_ne _ _ _ (by decide), wr_at, wr_at]
  · by_cases h6 : a = 696
    · subst h6; rw [up2_row, wr_ne _ _ (by decide), wr_at, wr_ne _ _ (by decide), wr_at]; rfl
    · rw [up2_ne _ _ _ h6, wr_ne _ _ h9, wr_ne _ _ h6, wr_ne _ _ h9, wr_ne _ _ h6]
theorem mB_b (I : fw_I) (b c s : Nat → Int32) (j : Nat) (x : Int32) : up2 (mB I b c s) 695 j x = mB I (upd b j x) c s := by
  funext a
  unfold mB
  by_cases h9 : a = 689
  · subst h9; rw [up2_ne _ _ _ (by decide), wr_at, wr_at]
  · by_cases h6 : a = 696
    · subst h6; rw [up2_ne _ _ _ (by decide), wr_ne _ _ (by decide), wr_at, wr_ne _ _ (by decide), wr_at]
    · by_cases h5 : a = 695
      · subst h5; rw [up2_row, wr_ne _ _ (by decide), wr_ne _ _ (by decide), wr_at, wr_ne _ _ (by decide), wr_ne _ _ (by decide), wr_at]; rfl
      · rw [up2_ne _ _ _ h5, wr_ne _ _ h9, wr_ne _ _ h6, wr_ne _ _ h5, wr_ne _ _ h9, wr_ne _ _ h6, wr_ne _ _ h5]
def cpB (b c : Nat → Int32) (n : Nat) : Nat → Int32 := fun j => if j < n then b j else c j
theorem cpB_succ (b c : Nat → Int32) (n : Nat) : upd (cpB b c n) n (b n) = cpB b c (n + 1) := by
  funext j
  unfold cpB
  rw [upd_at]
  by_cases h : j = n
  · subst h; rw [if_pos rfl, if_pos (by omega)]
  · rw [if_neg h]
    by_cases h2 : j < n
    · rw [if_pos h2, if_pos (by omega)]
    · rw [if_neg h2, if_neg (by omega)]
theorem cpB_0 (b c : Nat → Int32) : cpB b c 0 = c := by
  funext j
  unfold cpB
  rw [if_neg (by omega)]
def is01 (b : Nat → Int32) : Prop := ∀ j, j < 60 → b j = 0 ∨ b j = 1
theorem nar01 {x : Int32} (h : x = 0 ∨ x = 1) : vp_nar .boolean x = x := by
  rcases h with rfl | rfl <;> decide
def aLd (s : Nat → Int32) (to : Int32) : Nat := if aSnAt s to = -5 then to.toNatClampNeg else (sn s (aSnAt s to).toNatClampNeg 1).toNatClampNeg
def aInF (s : Nat → Int32) (q : Nat) (c : Nat → Int32) : Nat → Nat → Int32
  | 0 => c
  | d + 1 => upd (aInF s q c d) (aLd s (aGo (nI q) (nI (d + 1)))) 1
def aIsF (q : Nat) (x : Int32) : Nat → Int32
  | 0 => x
  | d + 1 => if ¬ aIsF q x d = 0 ∨ aGo (nI q) (nI (d + 1)) = 60 then 1 else 0
def aOuF (s b c : Nat → Int32) : Nat → Nat → Int32
  | 0 => c
  | q + 1 => if b q = 0 then aOuF s b c q else aInF s q (aOuF s b c q) 6
def aOiF (b : Nat → Int32) : Nat → Int32
  | 0 => 0
  | q + 1 => if b q = 0 then aOiF b q else aIsF q (aOiF b q) 6
def aGoN (q d : Nat) : Nat := if q + d ≤ 60 then q + d else 120 - q - d
theorem aGo_nI {q d : Nat} (hq : q ≤ 60) (hd : d ≤ 60) : aGo (nI q) (nI d) = nI (aGoN q d) := by
  unfold aGo aGoN
  rw [nI_add, show (60 : Int32) = nI 60 from rfl, show (120 : Int32) = nI 120 from rfl]
  by_cases h : q + d ≤ 60
  · rw [if_pos (nI_le h (by decide)), if_pos h]
  · rw [if_neg (nI_ge (by omega) (by omega)), if_neg h, nI_sub (by omega), nI_sub (by omega)]
theorem aGoN_le (q d : Nat) (hq : q ≤ 60) : aGoN q d ≤ 60 := by
  unfold aGoN
  split <;> omega
theorem Inv.tail {B : Nat} {s : Nat → Int32} (h : Inv B s) {x : Int32} (hx : ¬ aSnAt s x = -5) : ∃ k t, k < 10 ∧ aSnAt s x = nI k ∧ 1 ≤ t ∧ t ≤ 53 ∧ sn s k 1 = nI t := by
  obtain ⟨k, hk, e, e0, e1⟩ := aSnAt_nat hx
  rcases (h.2.2.2.2.1 k hk).1 with ⟨h0, -⟩ | ⟨hh, t, -, -, h3, h4, -, -, -, h8⟩
  · rw [h0] at e0
    rw [← e0] at e1
    exact absurd e1 (by decide)
  · exact ⟨k, t, hk, e, h3, h4, h8⟩
theorem aLd_ix {B : Nat} {s : Nat → Int32} (h : Inv B s) {to : Nat} (ht : to ≤ 60) : aLd s (nI to) < 61 ∧ (if aSnAt s (nI to) = -5 then nI to else sn s (aSnAt s (nI to)).toNatClampNeg 1) = nI (aLd s (nI to)) := by
  unfold aLd
  by_cases hc : aSnAt s (nI to) = -5
  · rw [if_pos hc, if_pos hc, nI_clamp (by omega)]
    exact ⟨by omega, rfl⟩
  · rw [if_neg hc, if_neg hc]
    obtain ⟨k, t, hk, e, h1, h2, e2⟩ := h.tail hc
    rw [e, nI_clamp (by omega), e2, nI_clamp (by omega)]
    exact ⟨by omega, rfl⟩
theorem aInF_01 {s : Nat → Int32} {q : Nat} {c : Nat → Int32} (h : is01 c) : ∀ d, is01 (aInF s q c d)
  | 0 => h
  | d + 1 => by
    intro j hj
    show upd _ _ _ j = 0 ∨ upd _ _ _ j = 1
    rw [upd_at]
    by_cases h2 : j = aLd s (aGo (nI q) (nI (d + 1)))
    · rw [if_pos h2]; exact Or.inr rfl
    · rw [if_neg h2]; exact aInF_01 h d j hj
theorem aOuF_01 {s b c : Nat → Int32} (h : is01 c) : ∀ q, is01 (aOuF s b c q)
  | 0 => h
  | q + 1 => by
    unfold aOuF
    by_cases hb : b q = 0
    · rw [if_pos hb]; exact aOuF_01 h q
    · rw [if_neg hb]; exact aInF_01 (aOuF_01 h q) 6
theorem cpB_01 {b c : Nat → Int32} (h : is01 b) : is01 (cpB b c 60) := by
  intro j hj
  unfold cpB
  rw [if_pos hj]
  exact h j hj
theorem aIsF_01 (q : Nat) {x : Int32} (h : x = 0 ∨ x = 1) : ∀ d, aIsF q x d = 0 ∨ aIsF q x d = 1
  | 0 => h
  | d + 1 => by
    unfold aIsF
    split
    · exact Or.inr rfl
    · exact Or.inl rfl
theorem aOiF_01 (b : Nat → Int32) : ∀ q, aOiF b q = 0 ∨ aOiF b q = 1
  | 0 => Or.inl rfl
  | q + 1 => by
    unfold aOiF
    split
    · exact aOiF_01 b q
    · exact aIsF_01 q (aOiF_01 b q) 6
/-- how many throws: the reference's loop -/
def aFwF (s : Nat → Int32) : Nat → Nat → (Nat → Int32) → (Nat → Int32) → Nat
  | 0, n, _, _ => n
  | f + 1, n, b, c => if ¬ aOiF b 60 = 0 then n else aFwF s f (n + 1) (cpB (aOuF s b (cpB b c 60) 60) b 60) (aOuF s b (cpB b c 60) 60)
def bgF (s : Nat → Int32) (p : Nat) (b : Nat → Int32) (n : Nat) : Nat → Int32 := fun j => if j < n then bI (nI j = aBeg s p) else b j
theorem bgF_succ (s : Nat → Int32) (p : Nat) (b : Nat → Int32) (n : Nat) : upd (bgF s p b n) n (bI (nI n = aBeg s p)) = bgF s p b (n + 1) := by
  funext j
  unfold bgF
  rw [upd_at]
  by_cases h : j = n
  · subst h; rw [if_pos rfl, if_pos (by omega)]
  · rw [if_neg h]
    by_cases h2 : j < n
    · rw [if_pos h2, if_pos (by omega)]
    · rw [if_neg h2, if_neg (by omega)]
theorem bgF_01 (s : Nat → Int32) (p : Nat) (b : Nat → Int32) : is01 (bgF s p b 60) := by
  intro j hj
  unfold bgF
  rw [if_pos hj]
  rcases bI_cases (nI j = aBeg s p) with h | h
  · exact Or.inr h.2
  · exact Or.inl h.2
def aFwN (s : Nat → Int32) (p : Nat) (b c : Nat → Int32) : Int32 := if aFwF s 60 1 (bgF s p b 60) c ≤ 60 then nI (aFwF s 60 1 (bgF s p b 60) c) else -5
def aFewX (s : Nat → Int32) (x w : Int32) (b c : Nat → Int32) : Int32 := if ¬ aPl x then -1 else if ¬ (0 ≤ w ∧ w ≤ 1) then -2 else if ro s x.toNatClampNeg 2 = 0 then aFwN s x.toNatClampNeg b c else 0
theorem aFwF_le (s : Nat → Int32) : ∀ f n b c, aFwF s f n b c ≤ n + f
  | 0, n, b, c => Nat.le_refl _
  | f + 1, n, b, c => by
    unfold aFwF
    split
    · omega
    · have := aFwF_le s f (n + 1) (cpB (aOuF s b (cpB b c 60) 60) b 60) (aOuF s b (cpB b c 60) 60)
      omega
def aNxF : Nat → Int32 → (Nat → Int32) → Int32
  | 0, _, _ => -5
  | n + 1, x, s => if aTq s (aDice (aDraw x)) = 60 then s 1 else aNxF n (aDraw x) (aT s (aDice (aDraw x)))
def aNxR (s : Nat → Int32) (x : Int32) : Int32 := if ¬ (0 ≤ x ∧ x ≤ 65535) then -2 else if s 4 = 4 then -4 else aNxF 200 x s
