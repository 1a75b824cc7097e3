variable {nT : Nat}
/-! the abstract race: a row s of 392 numbers, as the reference lays it; what is read off it -/
def ro (s : Nat → Int32) (p f : Nat) : Int32 := s (8 + 6 * p + f)
def wi (p k : Nat) : Nat := 32 + 4 * (20 * p + k)
def sn (s : Nat → Int32) (k f : Nat) : Int32 := s (352 + 4 * k + f)
abbrev aPl (x : Int32) : Prop := 0 ≤ x ∧ x ≤ 3
abbrev aBt (s : Nat → Int32) (x y : Int32) : Prop := aPl x ∧ (0 ≤ y ∧ y ≤ ro s x.toNatClampNeg 5 - 1)
abbrev aSk (s : Nat → Int32) (x : Int32) : Prop := (0 ≤ x ∧ x ≤ 9) ∧ 0 < sn s x.toNatClampNeg 0
def aGo (q d : Int32) : Int32 := if q + d ≤ 60 then q + d else 120 - q - d
def aDraw (x : Int32) : Int32 := (25173 * x + 13849) - (25173 * x + 13849) / 65536 * 65536
def aDice (x : Int32) : Int32 := 1 + x / 10923
/-- the last snake below k with its head on q; -5 if there is none -/
def aSnF (s : Nat → Int32) (q : Int32) : Nat → Int32
  | 0 => -5
  | k + 1 => if sn s k 0 = q ∧ 0 < q then nI k else aSnF s q k
def aSnAt (s : Nat → Int32) (q : Int32) : Int32 := aSnF s q 10
def aCntF (s : Nat → Int32) : Nat → Int32
  | 0 => 0
  | k + 1 => aCntF s k + bI (0 < sn s k 0)
def aHuF (s : Nat → Int32) (p : Nat) : Nat → Int32
  | 0 => 0
  | k + 1 => aHuF s p k + s (wi p k)
/-- how many bites a player holds -/
def aMany (s : Nat → Int32) (p : Nat) : Nat := (ro s p 5).toNatClampNeg
def aHu (s : Nat → Int32) (p : Nat) : Int32 := aHuF s p (aMany s p)
def aBeg (s : Nat → Int32) (p : Nat) : Int32 := if 0 ≤ ro s p 0 - aHu s p then ro s p 0 - aHu s p else 0
def aPiF (s : Nat → Int32) (q : Int32) : Nat → Int32
  | 0 => 0
  | p + 1 => aPiF s q p ||| (if ro s p 0 = q then 1 <<< (nI p &&& 31) else 0)
def aPi (s : Nat → Int32) (q : Int32) : Int32 := aPiF s q 4
abbrev aBites (s : Nat → Int32) (p : Nat) (q : Int32) : Prop := ¬ aSnAt s q = -5 ∧ sn s (aSnAt s q).toNatClampNeg 2 = 0 ∧ aPi s q &&& (1 <<< (nI p &&& 31) ^^^ (-1)) = 0
theorem aSnF_cases (s : Nat → Int32) (q : Int32) : ∀ n, aSnF s q n = -5 ∨ ∃ k, k < n ∧ aSnF s q n = nI k ∧ sn s k 0 = q ∧ 0 < q
  | 0 => Or.inl rfl
  | n + 1 => by
    unfold aSnF
    by_cases h : sn s n 0 = q ∧ 0 < q
    · rw [if_pos h]; exact Or.inr ⟨n, by omega, rfl, h⟩
    · rw [if_neg h]
      rcases aSnF_cases s q n with h1 | ⟨k, h1, h2⟩
      · exact Or.inl h1
      · exact Or.inr ⟨k, by omega, h2⟩
/-- what is so for a row's bites to be read: no more than twenty a player -/
def mOk (s : Nat → Int32) : Prop := ∀ p, p < 4 → ∃ n, n < 20 ∧ ro s p 5 = nI n
theorem mOk.many {s : Nat → Int32} (h : mOk s) {p : Nat} (hp : p < 4) : aMany s p < 20 ∧ ro s p 5 = nI (aMany s p) := by
  obtain ⟨n, hn, e⟩ := h p hp
  unfold aMany
  rw [e, nI_clamp (by omega)]
  exact ⟨hn, rfl⟩
theorem aPl.nat {x : Int32} (h : aPl x) : ∃ p, p < 4 ∧ x = nI p := by
  obtain ⟨j, h1, h2⟩ := nI_of2 (M := 3) (n := 3) rfl (by rw [i32_lt]; have := i32_le.mp h.1; simp at this ⊢; omega) h.2
  exact ⟨j, by omega, h2⟩
theorem ix_of {p w : Nat} (hp : p < 4) (hw : w < 6) : fw_ix (8 + 6 * nI p + nI w) (8 + 6 * p + w) 392 := by
  rw [show (8 : Int32) = nI 8 from rfl, show (6 : Int32) = nI 6 from rfl, nI_mul, nI_add, nI_add]
  exact fw_ix_nI (by omega) (by omega)
theorem ix_sn {k w : Nat} (hk : k < 10) (hw : w < 4) : fw_ix (352 + 4 * nI k + nI w) (352 + 4 * k + w) 392 := by
  rw [show (352 : Int32) = nI 352 from rfl, show (4 : Int32) = nI 4 from rfl, nI_mul, nI_add, nI_add]
  exact fw_ix_nI (by omega) (by omega)
theorem wi_nI (p k : Nat) : (32 : Int32) + 4 * (20 * nI p + nI k) = nI (wi p k) := by
  rw [show (32 : Int32) = nI 32 from rfl, show (4 : Int32) = nI 4 from rfl, show (20 : Int32) = nI 20 from rfl, nI_mul, nI_add, nI_mul, nI_add]
  rfl
theorem wi_lt {p k : Nat} (hp : p < 4) (hk : k < 20) : wi p k + 3 < 352 := by unfold wi; omega
theorem ix_wi {p k f : Nat} (hp : p < 4) (hk : k < 20) (hf : f < 4) : fw_ix (nI (wi p k) + nI f) (wi p k + f) 392 := by
  rw [nI_add]
  have := wi_lt hp hk
  exact fw_ix_nI (by omega) (by omega)
/-! one array of the memory by itself -/
def wr (I : fw_I) (a : Nat) (s : Nat → Int32) : fw_I := fun b => if b = a then s else I b
theorem wr_at (I : fw_I) (a : Nat) (s : Nat → Int32) : wr I a s a = s := by simp [wr]
theorem wr_ne (I : fw_I) {a b : Nat} (s : Nat → Int32) (h : b ≠ a) : wr I a s b = I b := by simp [wr, h]
theorem wr_self (I : fw_I) (a : Nat) : wr I a (I a) = I := by
  funext b
  by_cases h : b = a
  · subst h; exact wr_at I b _
  · exact wr_ne I _ h
theorem wr_wr (I : fw_I) (a : Nat) (s t : Nat → Int32) : wr (wr I a s) a t = wr I a t := by
  funext b
  by_cases h : b = a
  · subst h; rw [wr_at, wr_at]
  · rw [wr_ne _ _ h, wr_ne _ _ h, wr_ne _ _ h]
theorem up2_wr (I : fw_I) (a : Nat) (s : Nat → Int32) (j : Nat) (x : Int32) : up2 (wr I a s) a j x = wr I a (upd s j x) := by
  funext b
  by_cases h : b = a
  · subst h; rw [wr_at, up2_row, wr_at]; rfl
  · rw [wr_ne _ _ h, up2_ne _ _ _ h, wr_ne _ _ h]
theorem up2_to (I : fw_I) (a : Nat) (j : Nat) (x : Int32) : up2 I a j x = wr I a (upd (I a) j x) := by
  have h := up2_wr I a (I a) j x
  rwa [wr_self] at h
section FWW
variable {l : Launch} {g : fw_G} {k : fw_M} {T T' : fw_T} {mc ms : Nat} {Q : Option Value → fw_I → fw_P → Prop} {I I' : fw_I} {P : fw_P} {u w pc q : Nat} {L L' : List (Option Value)} {st : List Value} {s : Nat → Int32}
theorem V_mem (h : I = I') (kk : V l g k T' mc ms Q T I' P u w pc L st) : V l g k T' mc ms Q T I P u w pc L st := h ▸ kk
theorem V_iald9 {a n j : Nat} {i : Int32} (hT : fw_at T a 9 n) (hi : fw_ix i j n) (hd : decode k.2.1 pc = .ok (.iaload, 1)) (hq : pc + 1 = q) (kk : V l g k T' mc ms Q T (wr I a s) P u w q L (.int (s j) :: st)) : V l g k T' mc ms Q T (wr I a s) P u w pc L (.int i :: .ref (g.1 + a) :: st) := by
  refine V_iald hT hi hd hq ?_
  rw [wr_at]
  exact kk
theorem V_iast9 {a n j : Nat} {i x : Int32} (hT : fw_at T a 9 n) (hi : fw_ix i j n) (hd : decode k.2.1 pc = .ok (.iastore, 1)) (hq : pc + 1 = q) (kk : V l g k T' mc ms Q T (wr I a (upd s j x)) P u w q L st) : V l g k T' mc ms Q T (wr I a s) P u w pc L (.int x :: .int i :: .ref (g.1 + a) :: st) := by
  refine V_iast hT hi hd hq ?_
  rw [up2_wr]
  exact kk
end FWW
/-! what a turn and a sale do to the row -/
def aAdd (s : Nat → Int32) (p f : Nat) (x : Int32) : Nat → Int32 := upd s (8 + 6 * p + f) (ro s p f + x)
def aGet (s : Nat → Int32) (p : Nat) (size : Int32) : Nat → Int32 :=
  let w := wi p (aMany s p)
  let s4 := upd (upd (upd (upd s (w + 0) size) (w + 1) 0) (w + 2) (nI p)) (w + 3) (1 <<< (nI p &&& 31))
  let s6 := aAdd (aAdd s4 p 5 1) p 3 1
  upd s6 2 (s6 2 + 1)
def aBit (s : Nat → Int32) (p : Nat) (q : Int32) : Nat → Int32 :=
  let w := 352 + 4 * (aSnAt s q).toNatClampNeg
  let s1 := aGet s p (s (w + 0) - s (w + 1))
  let s2 := upd s1 (w + 2) (s1 5 + 1)
  upd s2 (w + 3) (s2 (w + 3) + 1)
def aSlF (s : Nat → Int32) : Nat → Nat → Int32
  | 0 => s
  | k + 1 => upd (aSlF s k) (352 + 4 * k + 2) (aSlF s k (352 + 4 * k + 2) - bI (0 < sn (aSlF s k) k 2))
def aRem4 (x : Int32) : Int32 := x - x / 4 * 4
def aNoF : Nat → Nat → (Nat → Int32) → Nat → Int32
  | 0, _, s => s
  | n + 1, k, s => if s 4 = 4 then s else if k = 0 ∨ ¬ ro s (s 1).toNatClampNeg 2 = 0 then aNoF n (k + 1) (upd s 1 (aRem4 (s 1 + 1))) else s
def aT1 (s : Nat → Int32) (p : Nat) : Nat → Int32 := aAdd s p 4 (ro s p 0 - aBeg s p)
def aT2 (s : Nat → Int32) (p : Nat) : Nat → Int32 := aAdd (aT1 s p) p 5 (- ro (aT1 s p) p 5)
def aT3 (s : Nat → Int32) (p : Nat) (q : Int32) : Nat → Int32 := aAdd (aT2 s p) p 0 (q - ro (aT2 s p) p 0)
def aT4 (s : Nat → Int32) (p : Nat) (q : Int32) : Nat → Int32 := if aBites (aT3 s p q) p q then aBit (aT3 s p q) p q else aT3 s p q
def aHome (s : Nat → Int32) (p : Nat) : Nat → Int32 := aAdd (upd s 4 (s 4 + 1)) p 2 (upd s 4 (s 4 + 1) 4)
def aT5 (s : Nat → Int32) (p : Nat) (q : Int32) : Nat → Int32 := if q = 60 then aHome (aT4 s p q) p else aT4 s p q
def aT6 (s : Nat → Int32) (p : Nat) (q : Int32) : Nat → Int32 := aSlF (aT5 s p q) 10
def aT7 (s : Nat → Int32) (p : Nat) (q : Int32) : Nat → Int32 := upd (aT6 s p q) 0 (aT6 s p q 0 + 1)
/-- the square to which a turn comes, and the row behind it -/
def aTq (s : Nat → Int32) (d : Int32) : Int32 := aGo (aBeg s (s 1).toNatClampNeg) d
def aT (s : Nat → Int32) (d : Int32) : Nat → Int32 := aNoF 4 0 (aT7 s (s 1).toNatClampNeg (aTq s d))
def aAsk (s : Nat → Int32) (size : Int32) (p : Nat) : Int32 := (size + 2) / 3 + 2 * ro s p 5
def aRea (s : Nat → Int32) (p k b : Nat) (c : Int32) : Int32 :=
  if ¬ ro s b 2 = 0 then 1 else if s 7 ≤ s (wi p k + 1) then 2 else if s (wi p k + 3) >>> (nI b &&& 31) &&& 1 = 1 then 3 else if ro s p 1 - c < - s 6 then 4 else if c < aAsk s (s (wi p k + 0)) b then 5 else 0
def aSeE (s : Nat → Int32) (x y z c : Int32) : Int32 := if ¬ (aBt s x y ∧ aPl z) then -1 else if (0 ≤ c ∧ c ≤ 99) ∧ ¬ x = z then 0 else -2
def aCp (s : Nat → Int32) (to fr : Nat) : Nat → Nat → Int32
  | 0 => s
  | j + 1 => upd (aCp s to fr j) (to + j) (aCp s to fr j (fr + j))
def aSh : Nat → Nat → (Nat → Int32) → Nat → Int32
  | 0, _, s => s
  | n + 1, j, s => aSh n (j + 1) (upd s j (s (j + 4)))
def aS3 (s : Nat → Int32) (p k b : Nat) : Nat → Int32 :=
  let t := wi b (aMany s b)
  let s1 := aCp s t (wi p k) 4
  let s2 := upd s1 (t + 1) (s1 (t + 1) + 1)
  upd s2 (t + 3) (s2 (t + 3) ||| 1 <<< (nI b &&& 31))
def aS5 (s : Nat → Int32) (p k b : Nat) : Nat → Int32 := aAdd (aAdd (aS3 s p k b) b 5 1) p 5 (-1)
def aS6 (s : Nat → Int32) (p k b : Nat) : Nat → Int32 := aSh (4 * (aMany s p - 1 - k)) (wi p k) (aS5 s p k b)
def aS (s : Nat → Int32) (p k b : Nat) (c : Int32) : Nat → Int32 :=
  let s8 := aAdd (aAdd (aS6 s p k b) p 1 (-c)) b 1 c
  upd s8 3 (s8 3 + 1)
