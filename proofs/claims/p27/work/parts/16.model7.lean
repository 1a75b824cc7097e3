variable {nT : Nat}
theorem kO {l : Launch} {g : fw_G} {k : fw_M} {T T' : fw_T} {mc ms : Nat} {Q : Option Value → fw_I → fw_P → Prop} {P : fw_P} {u w q : Nat} {L : List (Option Value)} {st : List Value} {C : Prop} {A0 A1 : fw_I → Prop} (h1 : ∀ F, C ∧ A1 F → V l g k T' mc ms Q T F P u w q L (.int 1 :: st)) (h0 : ∀ F, ¬ C ∧ A0 F → V l g k T' mc ms Q T F P u w q L (.int 0 :: st)) : ∀ (v : Option Value) (I1 : fw_I) (P1 : fw_P), qJ (fun r I1 P1 => P1 = P ∧ ((r = 1 ∧ C ∧ A1 I1) ∨ (r = 0 ∧ ¬ C ∧ A0 I1))) v I1 P1 → V l g k T' mc ms Q T I1 P1 u w q L (v.toList ++ st) := by
  rintro _ I1 _ ⟨r, rfl, rfl, ⟨rfl, hc, ha⟩ | ⟨rfl, hc, ha⟩⟩
  · exact h1 I1 ⟨hc, ha⟩
  · exact h0 I1 ⟨hc, ha⟩
def obX (I : fw_I) (pl : Nat) (dc dn : Int32) : Nat → Int32 := fun f => if f = 8 then nI pl else if f = 9 then dc else if f = 11 then dn else I 688 f
/-- the memory while the reference reads its text -/
def mX (I : fw_I) (pl : Nat) (dc dn : Int32) (td s : Nat → Int32) : fw_I := wr (wr (wr I 688 (obX I pl dc dn)) 694 td) 689 s
theorem mX_put (I : fw_I) (pl : Nat) (dc dn : Int32) (td s : Nat → Int32) (f : Nat) (x : Int32) (t : Nat → Int32) (h : ∀ j, (if j = f then x else obX I pl dc dn j) = t j) : up2 (mX I pl dc dn td s) 688 f x = wr (wr (wr I 688 t) 694 td) 689 s := by
  funext b
  unfold mX
  by_cases h8 : b = 688
  · subst h8
    rw [up2_row, wr_ne _ _ (by decide), wr_ne _ _ (by decide), wr_at, wr_ne _ _ (by decide), wr_ne _ _ (by decide), wr_at]
    funext j
    exact h j
  · rw [up2_ne _ _ _ h8]
    by_cases h9 : b = 689
    · subst h9; rw [wr_at, wr_at]
    · rw [wr_ne _ _ h9, wr_ne _ _ h9]
      by_cases h4 : b = 694
      · subst h4; rw [wr_at, wr_at]
      · rw [wr_ne _ _ h4, wr_ne _ _ h4, wr_ne _ _ h8, wr_ne _ _ h8]
theorem mX_8 (I : fw_I) (pl : Nat) (dc dn : Int32) (td s : Nat → Int32) : up2 (mX I pl dc dn td s) 688 8 (nI pl + 1) = mX I (pl + 1) dc dn td s :=
  mX_put I pl dc dn td s 8 _ (obX I (pl + 1) dc dn) (fun j => by unfold obX; by_cases h : j = 8 <;> simp [h, nI_1])
theorem mX_80 (I : fw_I) (pl : Nat) (dc dn : Int32) (td s : Nat → Int32) : up2 (mX I pl dc dn td s) 688 8 (nI pl + 0) = mX I pl dc dn td s :=
  mX_put I pl dc dn td s 8 _ (obX I pl dc dn) (fun j => by unfold obX; by_cases h : j = 8 <;> simp [h, Int32.add_zero])
theorem mX_9 (I : fw_I) (pl : Nat) (dc dn : Int32) (td s : Nat → Int32) (x : Int32) : up2 (mX I pl dc dn td s) 688 9 x = mX I pl x dn td s :=
  mX_put I pl dc dn td s 9 _ (obX I pl x dn) (fun j => by unfold obX; by_cases h : j = 9 <;> simp [h])
theorem mX_11 (I : fw_I) (pl : Nat) (dc dn : Int32) (td s : Nat → Int32) (x : Int32) : up2 (mX I pl dc dn td s) 688 11 x = mX I pl dc x td s :=
  mX_put I pl dc dn td s 11 _ (obX I pl dc x) (fun j => by unfold obX; by_cases h : j = 11 <;> simp [h])
theorem mX_td (I : fw_I) (pl : Nat) (dc dn : Int32) (td s : Nat → Int32) (j : Nat) (x : Int32) : up2 (mX I pl dc dn td s) 694 j x = mX I pl dc dn (upd td j x) s := by
  funext b
  unfold mX
  by_cases h9 : b = 689
  · subst h9; rw [up2_ne _ _ _ (by decide), wr_at, wr_at]
  · rw [wr_ne _ _ h9]
    by_cases h4 : b = 694
    · subst h4; rw [up2_row, wr_at, wr_ne _ _ (by decide), wr_at]; rfl
    · rw [up2_ne _ _ _ h4, wr_ne _ _ h9, wr_ne _ _ h4, wr_ne _ _ h4]
abbrev isN (tx : Nat → Int32) (ln pl : Nat) (lo hi : Int32) : Prop := pl < ln ∧ lo ≤ tx pl ∧ tx pl ≤ hi
theorem i32_btw (a b : Nat) (hb : b < 2 ^ 31) {x : Int32} (h : nI a ≤ x ∧ x ≤ nI b) (hab : a ≤ b) : ∃ c, a ≤ c ∧ c ≤ b ∧ x = nI c := by
  have h1 := i32_le.mp h.1
  rw [nI_toInt (by omega)] at h1
  obtain ⟨c, hc, rfl⟩ := nI_of (x := x) (by rw [i32_lt, Int32.toInt_zero]; omega)
  rw [nI_toInt hc] at h1
  have h2 := (nI_leI hc hb).mp h.2
  exact ⟨c, by omega, h2, rfl⟩
abbrev cpC (tx : Nat → Int32) (ln pl : Nat) : Prop := 0 < tx pl - 48 ∧ isN tx ln (pl + 1) 48 57
def cpl (tx : Nat → Int32) (ln pl : Nat) : Nat := if cpC tx ln pl then pl + 2 else pl + 1
def coin (tx : Nat → Int32) (ln pl : Nat) : Int32 := if cpC tx ln pl then 10 * (tx pl - 48) + tx (pl + 1) - 48 else tx pl - 48
abbrev trC (tx : Nat → Int32) (ln pl : Nat) : Prop := isN tx ln pl 40 40 ∧ isN tx ln (pl + 1) 48 51 ∧ isN tx ln (pl + 2) 97 104 ∧ isN tx ln (pl + 3) 62 62 ∧ isN tx ln (pl + 4) 48 51 ∧ isN tx ln (pl + 5) 36 36 ∧ isN tx ln (pl + 6) 48 57 ∧ isN tx ln (cpl tx ln (pl + 6)) 41 41
abbrev odC (tx : Nat → Int32) (ln pl : Nat) : Prop := isN tx ln pl 49 54 ∨ trC tx ln pl
/-- where an order that is none is found out -/
def fpl (tx : Nat → Int32) (ln pl : Nat) : Nat :=
  if ¬ isN tx ln pl 40 40 then pl else if ¬ isN tx ln (pl + 1) 48 51 then pl + 1 else if ¬ isN tx ln (pl + 2) 97 104 then pl + 2 else if ¬ isN tx ln (pl + 3) 62 62 then pl + 3
  else if ¬ isN tx ln (pl + 4) 48 51 then pl + 4 else if ¬ isN tx ln (pl + 5) 36 36 then pl + 5 else if ¬ isN tx ln (pl + 6) 48 57 then pl + 6 else cpl tx ln (pl + 6)
def odN (tx : Nat → Int32) (ln pl : Nat) : Nat := if isN tx ln pl 49 54 then pl + 1 else cpl tx ln (pl + 6) + 1
/-- what the reference keeps of the order that it has read -/
def ordI (tx : Nat → Int32) (ln pl : Nat) (dc : Int32) (td : Nat → Int32) : Prop := (isN tx ln pl 49 54 ∧ dc = tx pl - 48) ∨ (¬ isN tx ln pl 49 54 ∧ trC tx ln pl ∧ dc = 0 ∧ td 0 = tx (pl + 1) - 48 ∧ td 1 = tx (pl + 2) - 97 ∧ td 2 = tx (pl + 4) - 48 ∧ td 3 = coin tx ln (pl + 6))
theorem cpl_le {tx : Nat → Int32} {ln pl : Nat} (h : isN tx ln pl 48 57) : cpl tx ln pl ≤ ln := by
  unfold cpl
  by_cases hc : cpC tx ln pl
  · rw [if_pos hc]; have := hc.2.1; omega
  · rw [if_neg hc]; have := h.1; omega
theorem dig_pos {x : Int32} (h : 49 ≤ x ∧ x ≤ 54) : ¬ x - 48 ≤ 0 := by
  obtain ⟨c, h1, h2, rfl⟩ := i32_btw 49 54 (by decide) h (by decide)
  rw [show (48 : Int32) = nI 48 from rfl, nI_sub (by omega)]
  exact nI_nle (by omega) (by omega)
