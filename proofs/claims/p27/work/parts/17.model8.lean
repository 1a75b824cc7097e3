variable {nT : Nat}
def dsC (tx : Nat → Int32) (ln pl : Nat) (s : Nat → Int32) : Prop :=
  if isN tx ln pl 49 54 then ¬ s 4 = 4 else aSelOk s (tx (pl + 1) - 48) (tx (pl + 2) - 97) (tx (pl + 4) - 48) (coin tx ln (pl + 6)) ∧ 0 ≤ aSelR s (tx (pl + 1) - 48) (tx (pl + 2) - 97) (tx (pl + 4) - 48) (coin tx ln (pl + 6))
def dsF (tx : Nat → Int32) (ln pl : Nat) (s : Nat → Int32) : Nat → Int32 :=
  if isN tx ln pl 49 54 then (if s 4 = 4 then s else aT s (tx pl - 48)) else if aSelOk s (tx (pl + 1) - 48) (tx (pl + 2) - 97) (tx (pl + 4) - 48) (coin tx ln (pl + 6)) then aSelF s (tx (pl + 1) - 48) (tx (pl + 2) - 97) (tx (pl + 4) - 48) (coin tx ln (pl + 6)) else s
def dsB (tx : Nat → Int32) (ln pl : Nat) (s : Nat → Int32) : Bool := if isN tx ln pl 49 54 then decide (¬ s 4 = 4) else decide (aSelOk s (tx (pl + 1) - 48) (tx (pl + 2) - 97) (tx (pl + 4) - 48) (coin tx ln (pl + 6)) ∧ 0 ≤ aSelR s (tx (pl + 1) - 48) (tx (pl + 2) - 97) (tx (pl + 4) - 48) (coin tx ln (pl + 6)))
theorem dsB_C (tx : Nat → Int32) (ln pl : Nat) (s : Nat → Int32) : dsB tx ln pl s = true ↔ dsC tx ln pl s := by
  unfold dsB dsC
  by_cases h : isN tx ln pl 49 54
  · rw [if_pos h, if_pos h]; exact decide_eq_true_iff
  · rw [if_neg h, if_neg h]; exact decide_eq_true_iff
theorem dig_nat {x : Int32} (h : 49 ≤ x ∧ x ≤ 54) : ∃ d, 1 ≤ d ∧ d ≤ 6 ∧ x - 48 = nI d := by
  obtain ⟨c, h1, h2, rfl⟩ := i32_btw 49 54 (by decide) h (by decide)
  exact ⟨c - 48, by omega, by omega, by rw [show (48 : Int32) = nI 48 from rfl, nI_sub (by omega)]⟩
theorem aSel_in {B : Nat} {s : Nat → Int32} (hI : Inv B s) {x y z c : Int32} (h : aSeE s x y z c = 0) : ∃ p k b, p < 4 ∧ k < aMany s p ∧ b < 4 ∧ ¬ p = b ∧ k < 20 ∧ x = nI p ∧ y = nI k ∧ z = nI b ∧ x.toNatClampNeg = p ∧ y.toNatClampNeg = k ∧ z.toNatClampNeg = b := by
  obtain ⟨he0, ⟨hbt, hpl⟩, hcc, hxz⟩ := (aSeE_cases s x y z c).elim (fun q => absurd q.1 (by rw [h]; decide)) id
  obtain ⟨p, k, hp, rfl, hk, rfl, hk20⟩ := aBt.nat hI.mOk hbt
  obtain ⟨b, hb, rfl⟩ := hpl.nat
  exact ⟨p, k, b, hp, hk, hb, fun q => hxz (by rw [q]), hk20, rfl, rfl, rfl, nI_clamp (by omega), nI_clamp (by omega), nI_clamp (by omega)⟩
theorem Inv_Sel {B : Nat} {s : Nat → Int32} (hI : Inv B s) {x y z c : Int32} (h : aSelOk s x y z c) : Inv B (aSelF s x y z c) := by
  obtain ⟨p, k, b, hp, hk, hb, hpb, -, -, -, -, e1, e2, e3⟩ := aSel_in hI h.1
  have h2 := h.2
  rw [e1, e2, e3] at h2
  unfold aSelF
  rw [e1, e2, e3]
  exact Inv_S hI hp hk hb hpb h2
theorem Inv_ds {B : Nat} {s : Nat → Int32} (hI : Inv B s) (tx : Nat → Int32) (ln pl : Nat) : Inv B (dsF tx ln pl s) := by
  unfold dsF
  by_cases hN : isN tx ln pl 49 54
  · rw [if_pos hN]
    by_cases h4 : s 4 = 4
    · rw [if_pos h4]; exact hI
    · rw [if_neg h4]
      obtain ⟨d, h1, h6, e⟩ := dig_nat hN.2
      rw [e]; exact Inv_T hI h4 h1 h6
  · rw [if_neg hN]
    by_cases hok : aSelOk s (tx (pl + 1) - 48) (tx (pl + 2) - 97) (tx (pl + 4) - 48) (coin tx ln (pl + 6))
    · rw [if_pos hok]; exact Inv_Sel hI hok
    · rw [if_neg hok]; exact hI
/-- the fault of a text from a place on -/
def fau (tx : Nat → Int32) (ln : Nat) : Nat → Nat → Option Nat
  | 0, pl => some pl
  | n + 1, pl => if odC tx ln pl then (if odN tx ln pl = ln then none else fau tx ln n (odN tx ln pl)) else some (fpl tx ln pl)
theorem odN_le {tx : Nat → Int32} {ln pl : Nat} (h : odC tx ln pl) : pl < odN tx ln pl ∧ odN tx ln pl ≤ ln := by
  unfold odN
  by_cases hN : isN tx ln pl 49 54
  · rw [if_pos hN]; have := hN.1; omega
  · rw [if_neg hN]
    have ht := h.elim (fun q => absurd q hN) id
    have h2 := ht.2.2.2.2.2.2.2.1
    have h3 : pl + 6 < cpl tx ln (pl + 6) := by unfold cpl; split <;> omega
    omega
theorem mX_start (I : fw_I) : up2 (up2 I 688 8 0) 688 11 0 = mX I 0 (I 688 9) 0 (I 694) (I 689) := by
  funext b
  unfold mX
  by_cases h8 : b = 688
  · subst h8
    rw [up2_row, up2_row, wr_ne _ _ (by decide), wr_ne _ _ (by decide), wr_at]
    funext j
    unfold obX
    by_cases h1 : j = 11
    · subst h1; simp
    · by_cases h2 : j = 8
      · subst h2; simp [nI_0]
      · by_cases h3 : j = 9
        · subst h3; simp
        · simp [h1, h2, h3]
  · rw [up2_ne _ _ _ h8, up2_ne _ _ _ h8]
    by_cases h9 : b = 689
    · subst h9; rw [wr_at]
    · rw [wr_ne _ _ h9]
      by_cases h4 : b = 694
      · subst h4; rw [wr_at]
      · rw [wr_ne _ _ h4, wr_ne _ _ h8]
/-- carrying out the orders from a place on: how many, and the row then -/
def rnF (tx : Nat → Int32) (ln : Nat) : Nat → Nat → Nat → (Nat → Int32) → Nat × (Nat → Int32)
  | 0, _, k, s => (k, s)
  | n + 1, pl, k, s => if dsB tx ln pl s = true then (if odN tx ln pl = ln then (k + 1, dsF tx ln pl s) else rnF tx ln n (odN tx ln pl) (k + 1) (dsF tx ln pl s)) else (k, dsF tx ln pl s)
theorem fau_od {tx : Nat → Int32} {ln n pl : Nat} (h : fau tx ln (n + 1) pl = none) : odC tx ln pl := by
  by_cases hc : odC tx ln pl
  · exact hc
  · rw [show fau tx ln (n + 1) pl = if odC tx ln pl then (if odN tx ln pl = ln then none else fau tx ln n (odN tx ln pl)) else some (fpl tx ln pl) from rfl, if_neg hc] at h
    cases h
theorem fau_nx {tx : Nat → Int32} {ln n pl : Nat} (h : fau tx ln (n + 1) pl = none) (hc : odC tx ln pl) (hn : ¬ odN tx ln pl = ln) : fau tx ln n (odN tx ln pl) = none := by
  rw [show fau tx ln (n + 1) pl = if odC tx ln pl then (if odN tx ln pl = ln then none else fau tx ln n (odN tx ln pl)) else some (fpl tx ln pl) from rfl, if_pos hc, if_neg hn] at h
  exact h
def fauX (tx : Nat → Int32) (ln : Nat) : Int32 := match fau tx ln (ln + 1) 0 with
  | none => -5
  | some f => nI f
/-- only the reference's own scratch cells changed -/
def mSc (I I1 : fw_I) : Prop := (∀ a, a ≠ 688 → a ≠ 694 → I1 a = I a) ∧ ∀ f, f ≠ 8 → f ≠ 9 → f ≠ 11 → I1 688 f = I 688 f
theorem mSc_mX (I : fw_I) (pl : Nat) (dc dn : Int32) (td : Nat → Int32) : mSc I (mX I pl dc dn td (I 689)) := by
  unfold mX
  refine ⟨fun a h1 h2 => ?_, fun f h1 h2 h3 => ?_⟩
  · by_cases h : a = 689
    · subst h; rw [wr_at]
    · rw [wr_ne _ _ h, wr_ne _ _ h2, wr_ne _ _ h1]
  · rw [wr_ne _ _ (by decide), wr_ne _ _ (by decide), wr_at]
    unfold obX
    rw [if_neg h1, if_neg h2, if_neg h3]
def runR (tx : Nat → Int32) (ln : Nat) (s : Nat → Int32) : Int32 := match fau tx ln (ln + 1) 0 with
  | none => nI (rnF tx ln (ln + 1) 0 0 s).1
  | some f => -100 - nI f
/-- recorded, and the row F, but for scratch cells -/
def MUs (I0 : fw_I) (k : Nat) (ok : Prop) (F : Nat → Int32) (I2 : fw_I) : Prop := (ok ∧ ∃ I1, RecP I0 I1 k ∧ mSc (wr I1 689 F) I2) ∨ (¬ ok ∧ mSc I0 I2)
theorem mSc.trans {I I1 I2 : fw_I} (h : mSc I I1) (h2 : mSc I1 I2) : mSc I I2 := ⟨fun a a1 a2 => (h2.1 a a1 a2).trans (h.1 a a1 a2), fun f f1 f2 f3 => (h2.2 f f1 f2 f3).trans (h.2 f f1 f2 f3)⟩
theorem mX_wr (I : fw_I) (pl : Nat) (dc dn : Int32) (td s : Nat → Int32) (a : Nat) : mX I pl dc dn td s a = mX (wr I 689 s) pl dc dn td s a := by
  unfold mX
  by_cases h : a = 689
  · subst h; rw [wr_at, wr_at]
  · rw [wr_ne _ _ h, wr_ne _ _ h]
    by_cases h4 : a = 694
    · subst h4; rw [wr_at, wr_at]
    · rw [wr_ne _ _ h4, wr_ne _ _ h4]
      by_cases h8 : a = 688
      · subst h8
        rw [wr_at, wr_at]
        funext f
        unfold obX
        rw [wr_ne _ _ (by decide)]
      · rw [wr_ne _ _ h8, wr_ne _ _ h8, wr_ne _ _ h]
