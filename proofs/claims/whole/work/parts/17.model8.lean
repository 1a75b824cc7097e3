def dsC (tx : Nat → Int32) (ln pl : Nat) (s : Nat → Int32) : Prop :=
  if isN tx ln pl 49 54 then ¬ s 4 = 4 else aSelOk s (tx (pl + 1) - 48) (tx (pl + 2) - 97) (tx (pl + 4) - 48) (coin tx ln (pl + 6)) ∧ 0 ≤ aSelR s (tx (pl + 1) - 48) (tx (pl + 2) - 97) (tx (pl + 4) - 48) (coin tx ln (pl + 6))
def dsF (tx : Nat → Int32) (ln pl : Nat) (s : Nat → Int32) : Nat → Int32 :=
  if isN tx ln pl 49 54 then (if s 4 = 4 then s else aT s (tx pl - 48)) else if aSelOk s (tx (pl + 1) - 48) (tx (pl + 2) - 97) (tx (pl + 4) - 48) (coin tx ln (pl + 6)) then aSelF s (tx (pl + 1) - 48) (tx (pl + 2) - 97) (tx (pl + 4) - 48) (coin tx ln (pl + 6)) else s
def dsB (tx : Nat → Int32) (ln pl : Nat) (s : Nat → Int32) : Bool := if isN tx ln pl 49 54 then decide (¬ s 4 = 4) else decide (aSelOk s (tx (pl + 1) - 48) (tx (pl + 2) - 97) (tx (pl + 4) - 48) (coin tx ln (pl + 6)) ∧ 0 ≤ aSelR s (tx (pl + 1) - 48) (tx (pl + 2) - 97) (tx (pl + 4) - 48) (coin tx ln (pl + 6)))
theorem dsB_C (tx : Nat → Int32) (ln pl : Nat) (s : Nat → Int32) : dsB tx ln pl s = true ↔ dsC tx ln pl s := by
  unfold dsB dsC
  by_cases h : isN tx ln pl 49 54
  · rw [if_pos h, if_pos h]; exact decide_eq_true_iff
  · rw [if_neg h, if_neg h]; exact decide_eq_true_iff
theorem dig_nat {x : Int32} (h : 49 ≤ x ∧ x ≤ 54) : ∃ d, 1 ≤ d ∧ d ≤ 6 ∧ x - 48 = nI d := by
  obtain ⟨c, h1, h2, rfl⟩ := i32_btw 49 54 (by decide) h (by decide)
  exact ⟨c - 48, by omega, by omega, by rw [show (48 : Int32) = nI 48 from rfl, nI_sub (by omega)]⟩
theorem aSel_in {B : Nat} {s : Nat → Int32} (hI : Inv B s) {x y z c : Int32} (h : aSeE s x y z c = 0) : ∃ p k b, p < 4 ∧ k < aMany s p ∧ b < 4 ∧ ¬ p = b ∧ k < 20 ∧ x = nI p ∧ y = nI k ∧ z = nI b ∧ x.toNatClampNeg = p ∧ y.toNatClampNeg = k ∧ z.toNatClampNeg = b := by
  obtain ⟨he0, ⟨hbt, hpl⟩, hcc, hxz⟩ := (aSeE_cases s x y z c).elim (fun q => absurd q.1 (by rw [h]; decide)) id
  obtain ⟨p, k, hp, rfl, hk, rfl, hk20⟩ := aBt.nat hI.mOk hbt
  obtain ⟨b, hb, rfl⟩ := hpl.nat
  exact ⟨p, k, b, hp, hk, hb, fun q => hxz (by rw [q]), hk20, rfl, rfl, rfl, nI_clamp (by omega), nI_clamp (by omega), nI_clamp (by omega)⟩
theorem Inv_Sel {B : Nat} {s : Nat → Int32} (hI : Inv B s) {x y z c : Int32} (h : aSelOk s x y z c) : Inv B (aSelF s x y z c) := by
  obtain ⟨p, k, b, hp, hk, hb, hpb, -, -, -, -, e1, e2, e3⟩ := aSel_in hI h.1
  have h2 := h.2
  rw [e1, e2, e3] at h2
  unfold aSelF
  rw [e1, e2, e3]
  exact Inv_S hI hp hk hb hpb h2
theorem Inv_ds {B : Nat} {s : Nat → Int32} (hI : Inv B s) (tx : Nat → Int32) (ln pl : Nat) : Inv B (dsF tx ln pl s) := by
  unfold dsF
  by_cases hN : isN tx ln pl 49 54
  · rw [if_pos hN]
    by_cases h4 : s 4 = 4
    · rw [if_pos h4]; exact hI
    · rw [if_neg h4]
      obtain ⟨d, h1, h6, e⟩ := dig_nat hN.2
      rw [e]; exact Inv_T hI h4 h1 h6
  · rw [if_neg hN]
    by_cases hok : aSelOk s (tx (pl + 1) - 48) (tx (pl + 2) - 97) (tx (pl + 4) - 48) (coin tx ln (pl + 6))
    · rw [if_pos hok]; exact Inv_Sel hI hok
    · rw [if_neg hok]; exact hI
/-- the fault of a text from a place on -/
def fau (tx : Nat → Int32) (ln : Nat) : Nat → Nat → Option Nat
  | 0, pl => some pl
  | n + 1, pl => if odC tx ln pl then (if odN tx ln pl = ln then none else fau tx ln n (odN tx ln pl)) else some (fpl tx ln pl)
theorem odN_le {tx : Nat → Int32} {ln pl : Nat} (h : odC tx ln pl) : pl < odN tx ln pl ∧ odN tx ln pl ≤ ln := by
  unfold odN
  by_cases hN : isN tx ln pl 49 54
  · rw [if_pos hN]; have := hN.1; omega
  · rw [if_neg hN]
    have ht := h.elim (fun q => absurd q hN) id
    have h2 := ht.2.2.2.2.2.2.2.1
    have h3 : pl + 6 < cpl tx ln (pl + 6) := by unfold cpl; split <;> omega
    omega
theorem mX_start (I : fw_I) : up2 (up2 I 688 8 0) 688 11 0 = mX I 0 (I 688 9) 0 (I 694) (I 689) := by
  funext b
  unfold mX
  by_cases h8 : b = 688
  · subst h8
    rw [up2_row, up2_row, wr_ne _ _ (by decide), wr_ne _ _ (by decide), wr_at]
    funext j
    unfold obX
    by_cases h1 : j = 11
    · subst h1; simp
    · by_cases h2 : j = 8
      · subst h2; simp [nI_0]
      · by_cases h3 : j = 9
        · subst h3; simp
        · simp [h1, h2, h3]
  · rw [up2_ne _ _ _ h8, up2_ne _ _ _ h8]
    by_cases h9 : b = 689
    · subst h9; rw [wr_at]
    · rw [wr_ne _ _ h9]
      by_cases h4 : b = 694
      · subst h4; rw [wr_at]
      · rw [wr_ne _ _ h4, wr_ne _ _ h8]
/-- carrying out the orders from a place on: how many, and the row then -/
def rnF (tx : Nat → Int32) (ln : Nat) : Nat → Nat → Nat → (Nat → Int32) → Nat × (Nat → Int32)
  | 0, _, k, s => (k, s)
  | n + 1, pl, k, s => if dsB tx ln pl s = true then (if odN tx ln pl = ln then (k + 1, dsF tx ln pl s) else rnF tx ln n (odN tx ln pl) (k + 1) (dsF tx ln pl s)) else (k, dsF tx ln pl s)
theorem fau_od {tx : Nat → Int32} {ln n pl : Nat} (h : fau tx ln (n + 1) pl = none) : odC tx ln pl := by
  by_cases hc : odC tx ln pl
  · exact hc
  · rw [show fau tx ln (n + 1) pl = if odC tx ln pl then (if odN tx ln pl = ln then none else fau tx ln n (odN tx ln pl)) else some (fpl tx ln pl) from rfl, if_neg hc] at h
    cases h
theorem fau_nx {tx : Nat → Int32} {ln n pl : Nat} (h : fau tx ln (n + 1) pl = none) (hc : odC tx ln pl) (hn : ¬ odN tx ln pl = ln) : fau tx ln n (odN tx ln pl) = none := by
  rw [show fau tx ln (n + 1) pl = if odC tx ln pl then (if odN tx ln pl = ln then none else fau tx ln n (odN tx ln pl)) else some (fpl tx ln pl) from rfl, if_pos hc, if_neg hn] at h
  exact h
def fauX (tx : Nat → Int32) (ln : Nat) : Int32 := match fau tx ln (ln + 1) 0 with
  | none => -5
  | some f => nI f
/-- only the reference's own scratch cells changed -/
def mSc (I I1 : fw_I) : Prop := (∀ a, a ≠ 688 → a ≠ 694 → I1 a = I a) ∧ ∀ f, f ≠ 8 → f ≠ 9 → f ≠ 11 → I1 688 f = I 688 f
theorem mSc_mX (I : fw_I) (pl : Nat) (dc dn : Int32) (td : Nat → Int32) : mSc I (mX I pl dc dn td (I 689)) := by
  unfold mX
  refine ⟨fun a h1 h2 => ?_, fun f h1 h2 h3 => ?_⟩
  · by_cases h : a = 689
    · subst h; rw [wr_at]
    · rw [wr_ne _ _ h, wr_ne _ _ h2, wr_ne _ _ h1]
  · rw [wr_ne _ _ (by decide), wr_ne _ _ (by decide), wr_at]
    unfold obX
    rw [if_neg h1, if_neg h2, if_neg h3]
def runR (tx : Nat → Int32) (ln : Nat) (s : Nat → Int32) : Int32 := match fau tx ln (ln + 1) 0 with
  | none => nI (rnF tx ln (ln + 1) 0 0 s).1
  | some f => -100 - nI f
/-- recorded, and the row F, but for scratch cells -/
def MUs (I0 : fw_I) (k : Nat) (ok : Prop) (F : Nat → Int32) (I2 : fw_I) : Prop := (ok ∧ ∃ I1, RecP I0 I1 k ∧ mSc (wr I1 689 F) I2) ∨ (¬ ok ∧ mSc I0 I2)
theorem mSc.trans {I I1 I2 : fw_I} (h : mSc I I1) (h2 : mSc I1 I2) : mSc I I2 := ⟨fun a a1 a2 => (h2.1 a a1 a2).trans (h.1 a a1 a2), fun f f1 f2 f3 => (h2.2 f f1 f2 f3).trans (h.2 f f1 f2 f3)⟩
theorem mX_wr (I : fw_I) (pl : Nat) (dc dn : Int32) (td s : Nat → Int32) (a : Nat) : mX I pl dc dn td s a = mX (wr I 689 s) pl dc dn td s a := by
  unfold mX
  by_cases h : a = 689
  · subst h; rw [wr_at, wr_at]
  · rw [wr_ne _ _ h, wr_ne _ _ h]
    by_cases h4 : a = 694
    · subst h4; rw [wr_at, wr_at]
    · rw [wr_ne _ _ h4, wr_ne _ _ h4]
      by_cases h8 : a = 688
      · subst h8
        rw [wr_at, wr_at]
        funext f
        unfold obX
        rw [wr_ne _ _ (by decide)]
      · rw [wr_ne _ _ h8, wr_ne _ _ h8, wr_ne _ _ h]
set_option maxHeartbeats 4000000 in
set_option maxRecDepth 100000 in
theorem sp_doesT (l : Launch) (g : fw_G) {I : fw_I} {P : fw_P} {s td : Nat → Int32} {pl pl0 ln B : Nat} {dc dn : Int32} (hM : MSh P) (hI : Inv B s) (hN : isN (I 693) ln pl0 49 54) (hdc : dc = I 693 pl0 - 48) : Sp l g kX8_does T0 [.ref (g.1 + 688)] (mX I pl dc dn td s) P T0 0 0 (qJ (fun r I1 P1 => P1 = P ∧ ((r = 1 ∧ dsC (I 693) ln pl0 s ∧ I1 = mX I (pl) (dc) (dn) (td) (dsF (I 693) ln pl0 s)) ∨ (r = 0 ∧ ¬ dsC (I 693) ln pl0 s ∧ I1 = mX I (pl) (dc) (dn) (td) (dsF (I 693) ln pl0 s))))) := by
  have a688 := at_688
  have a694 := at_694
  obtain ⟨p0, p1, p3, p5, p6, p10, p12, p13⟩ := id hM
  obtain ⟨p, hp, hs⟩ := hI.now
  obtain ⟨d, hd1, hd6, ed0⟩ := dig_nat hN.2
  have ed : dc = nI d := hdc.trans ed0
  have hE : aTuE s dc = if s 4 = 4 then -4 else 0 := by
    unfold aTuE
    rw [if_neg (fun h => h (by rw [ed]; exact ⟨nI_le (a := 1) hd1 (by omega), nI_le (b := 6) hd6 (by decide)⟩))]
  refine Sp.of_V (L := [some (.ref (g.1 + 688)), none]) (by decide) (by simp [Value.category]) (Nat.le_of_ble_eq_true rfl) rfl ?_
  refine V_aload_n (i := 0) rfl rfl dX8_does_0 rfl ?_
  refine V_get (kf := 9) C8 (by decide) l_X8_151 (by assumption) rfl dX8_does_1 rfl ?_
  rw [show mX I pl dc dn td s 688 9 = dc from rfl]
  refine V_if_le (tgt := 35) dX8_does_4 (by decide) rfl (fun h => absurd h (by rw [hdc]; exact dig_pos hN.2)) (fun _ => ?_)
  refine V_aload_n (i := 0) rfl rfl dX8_does_7 rfl ?_
  refine V_aload_n (i := 0) rfl rfl dX8_does_8 rfl ?_
  refine V_get (kf := 9) C8 (by decide) l_X8_151 (by assumption) rfl dX8_does_9 rfl ?_
  rw [show mX I pl dc dn td s 688 9 = dc from rfl]
  refine V_call (n := 1) (sp_turnError l g hM dc) o_X8_turnError m_X8_116 ⟨by decide, by decide⟩ (by assumption) rfl rfl (by first | exact Nat.le_of_ble_eq_true rfl | simp [Value.category]) (Nat.le_refl _) (Nat.le_refl _) rfl dX8_does_12 rfl (kI ?_)
  refine V_mem (I' := mX I (pl) (dc) (dn) (td) (s)) rfl ?_
  refine V_if_ne (tgt := 33) dX8_does_15 (by decide) rfl (fun h_15 => ?_) (fun h_15 => ?_)
  · have h4 : s 4 = 4 := Decidable.not_not.mp (fun h => h_15 (by rw [hE, if_neg h]))
    refine V_iconst (v := 0) (by decide) dX8_does_33 rfl ?_
    exact V_ireturn rfl (by decide) dX8_does_34 rfl rfl rfl (⟨_, rfl, rfl, Or.inr ⟨rfl, by unfold dsC; rw [if_pos hN]; exact fun h => h h4, by rw [show dsF (I 693) ln pl0 s = s from by unfold dsF; rw [if_pos hN, if_pos h4]]⟩⟩)
  · have h4 : ¬ s 4 = 4 := fun h => absurd (hE.symm.trans h_15) (by rw [if_pos h]; decide)
    refine V_aload_n (i := 0) rfl rfl dX8_does_18 rfl ?_
    refine V_aload_n (i := 0) rfl rfl dX8_does_19 rfl ?_
    refine V_get (kf := 9) C8 (by decide) l_X8_151 (by assumption) rfl dX8_does_20 rfl ?_
    rw [show mX I pl dc dn td s 688 9 = dc from rfl]
    refine V_call (n := 1) (sp_doTurn l g hM hI.mOk hp hs dc) o_X8_doTurn m_X8_119 ⟨by decide, by decide⟩ (by assumption) rfl rfl (by first | exact Nat.le_of_ble_eq_true rfl | simp [Value.category]) (Nat.le_refl _) (Nat.le_refl _) rfl dX8_does_23 rfl (kX ?_)
    refine V_mem (I' := mX I (pl) (dc) (dn) (td) (aT s dc)) rfl ?_
    refine V_if_lt (tgt := 33) dX8_does_26 (by decide) rfl (fun h => absurd h (by obtain ⟨q, hq, e⟩ := aTq_nn hI hp hs hd6; rw [ed, e]; exact nI_pos (by omega))) (fun _ => ?_)
    refine V_iconst (v := 1) (by decide) dX8_does_29 rfl ?_
    refine V_goto (tgt := 34) dX8_does_30 (by decide) ?_
    exact V_ireturn rfl (by decide) dX8_does_34 rfl rfl rfl (⟨_, rfl, rfl, Or.inl ⟨rfl, by unfold dsC; rw [if_pos hN]; exact h4, by rw [show dsF (I 693) ln pl0 s = aT s dc from by unfold dsF; rw [if_pos hN, if_neg h4, hdc]]⟩⟩)

set_option maxHeartbeats 4000000 in
set_option maxRecDepth 100000 in
theorem sp_doesS (l : Launch) (g : fw_G) {I : fw_I} {P : fw_P} {s td : Nat → Int32} {pl pl0 ln B : Nat} {dc dn : Int32} (hM : MSh P) (hI : Inv B s) (hN : ¬ isN (I 693) ln pl0 49 54) (hdc : dc = 0) (t0 : td 0 = I 693 (pl0 + 1) - 48) (t1 : td 1 = I 693 (pl0 + 2) - 97) (t2 : td 2 = I 693 (pl0 + 4) - 48) (t3 : td 3 = coin (I 693) ln (pl0 + 6)) : Sp l g kX8_does T0 [.ref (g.1 + 688)] (mX I pl dc dn td s) P T0 0 0 (qJ (fun r I1 P1 => P1 = P ∧ ((r = 1 ∧ dsC (I 693) ln pl0 s ∧ I1 = mX I (pl) (dc) (dn) (td) (dsF (I 693) ln pl0 s)) ∨ (r = 0 ∧ ¬ dsC (I 693) ln pl0 s ∧ I1 = mX I (pl) (dc) (dn) (td) (dsF (I 693) ln pl0 s))))) := by
  have a688 := at_688
  have a694 := at_694
  obtain ⟨p0, p1, p3, p5, p6, p10, p12, p13⟩ := id hM
  refine Sp.of_V (L := [some (.ref (g.1 + 688)), none]) (by decide) (by simp [Value.category]) (Nat.le_of_ble_eq_true rfl) rfl ?_
  refine V_aload_n (i := 0) rfl rfl dX8_does_0 rfl ?_
  refine V_get (kf := 9) C8 (by decide) l_X8_151 (by assumption) rfl dX8_does_1 rfl ?_
  rw [show mX I pl dc dn td s 688 9 = dc from rfl]
  refine V_if_le (tgt := 35) dX8_does_4 (by decide) rfl (fun _ => ?_) (fun h => absurd (by rw [hdc]; decide) h)
  refine V_aload_n (i := 0) rfl rfl dX8_does_35 rfl ?_
  refine V_aload_n (i := 0) rfl rfl dX8_does_36 rfl ?_
  refine V_getr (kf := 10) C8 (by decide) l_X8_25 (by assumption) rfl (by assumption) dX8_does_37 rfl ?_
  refine V_iconst (v := 0) (by decide) dX8_does_40 rfl ?_
  refine V_iald (by assumption) (fw_ix_nI (j := 0) (by decide) (by decide)) dX8_does_41 rfl ?_
  rw [show mX I pl dc dn td s 694 0 = td 0 from rfl]
  refine V_aload_n (i := 0) rfl rfl dX8_does_42 rfl ?_
  refine V_getr (kf := 10) C8 (by decide) l_X8_25 (by assumption) rfl (by assumption) dX8_does_43 rfl ?_
  refine V_iconst (v := 1) (by decide) dX8_does_46 rfl ?_
  refine V_iald (by assumption) (fw_ix_nI (j := 1) (by decide) (by decide)) dX8_does_47 rfl ?_
  rw [show mX I pl dc dn td s 694 1 = td 1 from rfl]
  refine V_aload_n (i := 0) rfl rfl dX8_does_48 rfl ?_
  refine V_getr (kf := 10) C8 (by decide) l_X8_25 (by assumption) rfl (by assumption) dX8_does_49 rfl ?_
  refine V_iconst (v := 2) (by decide) dX8_does_52 rfl ?_
  refine V_iald (by assumption) (fw_ix_nI (j := 2) (by decide) (by decide)) dX8_does_53 rfl ?_
  rw [show mX I pl dc dn td s 694 2 = td 2 from rfl]
  refine V_aload_n (i := 0) rfl rfl dX8_does_54 rfl ?_
  refine V_getr (kf := 10) C8 (by decide) l_X8_25 (by assumption) rfl (by assumption) dX8_does_55 rfl ?_
  refine V_iconst (v := 3) (by decide) dX8_does_58 rfl ?_
  refine V_iald (by assumption) (fw_ix_nI (j := 3) (by decide) (by decide)) dX8_does_59 rfl ?_
  rw [show mX I pl dc dn td s 694 3 = td 3 from rfl]
  refine V_call (n := 4) (sp_sellError l g hM (td 0) (td 1) (td 2) (td 3)) o_X8_sellError m_X8_129 ⟨by decide, by decide⟩ (by assumption) rfl rfl (by first | exact Nat.le_of_ble_eq_true rfl | simp [Value.category]) (Nat.le_refl _) (Nat.le_refl _) rfl dX8_does_60 rfl (kI ?_)
  refine V_mem (I' := mX I (pl) (dc) (dn) (td) (s)) rfl ?_
  refine V_if_ne (tgt := 101) dX8_does_63 (by decide) rfl (fun h_63 => ?_) (fun h_63 => ?_)
  · have hno : ¬ aSelOk s (td 0) (td 1) (td 2) (td 3) := fun h => by (first | exact h_63 h.1 | exact h_94 (by have h9 := h.2; rw [e1, e2, e3] at h9; exact h9))
    refine V_iconst (v := 0) (by decide) dX8_does_101 rfl ?_
    refine V_istore_n (i := 1) rfl (by decide) rfl dX8_does_102 rfl ?_
    refine V_iload_n (i := 1) rfl rfl dX8_does_103 rfl ?_
    refine V_if_eq (tgt := 142) dX8_does_104 (by decide) rfl (fun _ => ?_) (fun h => absurd rfl h)
    refine V_iconst (v := 0) (by decide) dX8_does_142 rfl ?_
    exact V_ireturn rfl (by decide) dX8_does_143 rfl rfl rfl (⟨_, rfl, rfl, Or.inr ⟨rfl, by unfold dsC; rw [if_neg hN, ← t0, ← t1, ← t2, ← t3]; exact fun h => hno h.1, by rw [show dsF (I 693) ln pl0 s = s from by unfold dsF; rw [if_neg hN, ← t0, ← t1, ← t2, ← t3, if_neg hno]]⟩⟩)
  · obtain ⟨p, k, b, hp, hk, hb, hpb, hk20, x1, x2, x3, e1, e2, e3⟩ := aSel_in hI h_63
    refine V_aload_n (i := 0) rfl rfl dX8_does_66 rfl ?_
    refine V_aload_n (i := 0) rfl rfl dX8_does_67 rfl ?_
    refine V_getr (kf := 10) C8 (by decide) l_X8_25 (by assumption) rfl (by assumption) dX8_does_68 rfl ?_
    refine V_iconst (v := 0) (by decide) dX8_does_71 rfl ?_
    refine V_iald (by assumption) (fw_ix_nI (j := 0) (by decide) (by decide)) dX8_does_72 rfl ?_
    
    refine V_aload_n (i := 0) rfl rfl dX8_does_73 rfl ?_
    refine V_getr (kf := 10) C8 (by decide) l_X8_25 (by assumption) rfl (by assumption) dX8_does_74 rfl ?_
    refine V_iconst (v := 1) (by decide) dX8_does_77 rfl ?_
    refine V_iald (by assumption) (fw_ix_nI (j := 1) (by decide) (by decide)) dX8_does_78 rfl ?_
    refine V_aload_n (i := 0) rfl rfl dX8_does_79 rfl ?_
    refine V_getr (kf := 10) C8 (by decide) l_X8_25 (by assumption) rfl (by assumption) dX8_does_80 rfl ?_
    refine V_iconst (v := 2) (by decide) dX8_does_83 rfl ?_
    refine V_iald (by assumption) (fw_ix_nI (j := 2) (by decide) (by decide)) dX8_does_84 rfl ?_
    refine V_aload_n (i := 0) rfl rfl dX8_does_85 rfl ?_
    refine V_getr (kf := 10) C8 (by decide) l_X8_25 (by assumption) rfl (by assumption) dX8_does_86 rfl ?_
    refine V_iconst (v := 3) (by decide) dX8_does_89 rfl ?_
    refine V_iald (by assumption) (fw_ix_nI (j := 3) (by decide) (by decide)) dX8_does_90 rfl ?_
    rw [show mX I pl dc dn td s 694 0 = td 0 from rfl, show mX I pl dc dn td s 694 1 = td 1 from rfl, show mX I pl dc dn td s 694 2 = td 2 from rfl, show mX I pl dc dn td s 694 3 = td 3 from rfl, x1, x2, x3]
    refine V_call (n := 4) (sp_reason (p := p) (k := k) (b := b) l g hM hp hk20 hb (td 3)) o_X8_reason m_X8_133 ⟨by decide, by decide⟩ (by assumption) rfl rfl (by first | exact Nat.le_of_ble_eq_true rfl | simp [Value.category]) (Nat.le_refl _) (Nat.le_refl _) rfl dX8_does_91 rfl (kI ?_)
    refine V_mem (I' := mX I (pl) (dc) (dn) (td) (s)) rfl ?_
    refine V_if_ne (tgt := 101) dX8_does_94 (by decide) rfl (fun h_94 => ?_) (fun h_94 => ?_)
    · have hno : ¬ aSelOk s (td 0) (td 1) (td 2) (td 3) := fun h => by (first | exact h_63 h.1 | exact h_94 (by have h9 := h.2; rw [e1, e2, e3] at h9; exact h9))
      refine V_iconst (v := 0) (by decide) dX8_does_101 rfl ?_
      refine V_istore_n (i := 1) rfl (by decide) rfl dX8_does_102 rfl ?_
      refine V_iload_n (i := 1) rfl rfl dX8_does_103 rfl ?_
      refine V_if_eq (tgt := 142) dX8_does_104 (by decide) rfl (fun _ => ?_) (fun h => absurd rfl h)
      refine V_iconst (v := 0) (by decide) dX8_does_142 rfl ?_
      exact V_ireturn rfl (by decide) dX8_does_143 rfl rfl rfl (⟨_, rfl, rfl, Or.inr ⟨rfl, by unfold dsC; rw [if_neg hN, ← t0, ← t1, ← t2, ← t3]; exact fun h => hno h.1, by rw [show dsF (I 693) ln pl0 s = s from by unfold dsF; rw [if_neg hN, ← t0, ← t1, ← t2, ← t3, if_neg hno]]⟩⟩)
    · have hok : aSelOk s (td 0) (td 1) (td 2) (td 3) := ⟨h_63, by rw [e1, e2, e3]; exact h_94⟩
      refine V_iconst (v := 1) (by decide) dX8_does_97 rfl ?_
      refine V_goto (tgt := 102) dX8_does_98 (by decide) ?_
      refine V_istore_n (i := 1) rfl (by decide) rfl dX8_does_102 rfl ?_
      refine V_iload_n (i := 1) rfl rfl dX8_does_103 rfl ?_
      refine V_if_eq (tgt := 142) dX8_does_104 (by decide) rfl (fun h => absurd h (by decide)) (fun _ => ?_)
      refine V_aload_n (i := 0) rfl rfl dX8_does_107 rfl ?_
      refine V_aload_n (i := 0) rfl rfl dX8_does_108 rfl ?_
      refine V_getr (kf := 10) C8 (by decide) l_X8_25 (by assumption) rfl (by assumption) dX8_does_109 rfl ?_
      refine V_iconst (v := 0) (by decide) dX8_does_112 rfl ?_
      refine V_iald (by assumption) (fw_ix_nI (j := 0) (by decide) (by decide)) dX8_does_113 rfl ?_
      rw [show mX I pl dc dn td s 694 0 = td 0 from rfl]
      refine V_aload_n (i := 0) rfl rfl dX8_does_114 rfl ?_
      refine V_getr (kf := 10) C8 (by decide) l_X8_25 (by assumption) rfl (by assumption) dX8_does_115 rfl ?_
      refine V_iconst (v := 1) (by decide) dX8_does_118 rfl ?_
      refine V_iald (by assumption) (fw_ix_nI (j := 1) (by decide) (by decide)) dX8_does_119 rfl ?_
      rw [show mX I pl dc dn td s 694 1 = td 1 from rfl]
      refine V_aload_n (i := 0) rfl rfl dX8_does_120 rfl ?_
      refine V_getr (kf := 10) C8 (by decide) l_X8_25 (by assumption) rfl (by assumption) dX8_does_121 rfl ?_
      refine V_iconst (v := 2) (by decide) dX8_does_124 rfl ?_
      refine V_iald (by assumption) (fw_ix_nI (j := 2) (by decide) (by decide)) dX8_does_125 rfl ?_
      rw [show mX I pl dc dn td s 694 2 = td 2 from rfl]
      refine V_aload_n (i := 0) rfl rfl dX8_does_126 rfl ?_
      refine V_getr (kf := 10) C8 (by decide) l_X8_25 (by assumption) rfl (by assumption) dX8_does_127 rfl ?_
      refine V_iconst (v := 3) (by decide) dX8_does_130 rfl ?_
      refine V_iald (by assumption) (fw_ix_nI (j := 3) (by decide) (by decide)) dX8_does_131 rfl ?_
      rw [show mX I pl dc dn td s 694 3 = td 3 from rfl, x1, x2, x3]
      refine V_call (n := 4) (sp_doSell l g hM hI.mOk hp hk hb hpb (td 3)) o_X8_doSell m_X8_136 ⟨by decide, by decide⟩ (by assumption) rfl rfl (by first | exact Nat.le_of_ble_eq_true rfl | simp [Value.category]) (Nat.le_refl _) (Nat.le_refl _) rfl dX8_does_132 rfl (kX ?_)
      refine V_mem (I' := mX I (pl) (dc) (dn) (td) (aS s p k b (td 3))) rfl ?_
      refine V_if_lt (tgt := 142) dX8_does_135 (by decide) rfl (fun h_135 => ?_) (fun h_135 => ?_)
      · refine V_iconst (v := 0) (by decide) dX8_does_142 rfl ?_
        exact V_ireturn rfl (by decide) dX8_does_143 rfl rfl rfl (by
              have hR : aSelR s (td 0) (td 1) (td 2) (td 3) = ro (aS s p k b (td 3)) b 1 + 1000 := by
                unfold aSelR
                rw [hok.1, if_neg (by decide), e1, e2, e3, if_neg (by have h9 := hok.2; rw [e1, e2, e3] at h9; rw [h9]; decide)]
              have hF : dsF (I 693) ln pl0 s = aS s p k b (td 3) := by
                unfold dsF
                rw [if_neg hN, ← t0, ← t1, ← t2, ← t3, if_pos hok]
                unfold aSelF
                rw [e1, e2, e3]
              have hD : dsC (I 693) ln pl0 s ↔ 0 ≤ ro (aS s p k b (td 3)) b 1 + 1000 := by
                unfold dsC
                rw [if_neg hN, ← t0, ← t1, ← t2, ← t3, hR]
                exact ⟨fun h => h.2, fun h => ⟨hok, h⟩⟩
              rw [hF]
              first
                | exact ⟨_, rfl, rfl, Or.inl ⟨rfl, hD.mpr (Int32.not_lt.mp h_135), rfl⟩⟩
                | exact ⟨_, rfl, rfl, Or.inr ⟨rfl, fun h => absurd h_135 (Int32.not_lt.mpr (hD.mp h)), rfl⟩⟩)
      · refine V_iconst (v := 1) (by decide) dX8_does_138 rfl ?_
        refine V_goto (tgt := 143) dX8_does_139 (by decide) ?_
        exact V_ireturn rfl (by decide) dX8_does_143 rfl rfl rfl (by
              have hR : aSelR s (td 0) (td 1) (td 2) (td 3) = ro (aS s p k b (td 3)) b 1 + 1000 := by
                unfold aSelR
                rw [hok.1, if_neg (by decide), e1, e2, e3, if_neg (by have h9 := hok.2; rw [e1, e2, e3] at h9; rw [h9]; decide)]
              have hF : dsF (I 693) ln pl0 s = aS s p k b (td 3) := by
                unfold dsF
                rw [if_neg hN, ← t0, ← t1, ← t2, ← t3, if_pos hok]
                unfold aSelF
                rw [e1, e2, e3]
              have hD : dsC (I 693) ln pl0 s ↔ 0 ≤ ro (aS s p k b (td 3)) b 1 + 1000 := by
                unfold dsC
                rw [if_neg hN, ← t0, ← t1, ← t2, ← t3, hR]
                exact ⟨fun h => h.2, fun h => ⟨hok, h⟩⟩
              rw [hF]
              first
                | exact ⟨_, rfl, rfl, Or.inl ⟨rfl, hD.mpr (Int32.not_lt.mp h_135), rfl⟩⟩
                | exact ⟨_, rfl, rfl, Or.inr ⟨rfl, fun h => absurd h_135 (Int32.not_lt.mpr (hD.mp h)), rfl⟩⟩)

theorem sp_does (l : Launch) (g : fw_G) {I : fw_I} {P : fw_P} {s td : Nat → Int32} {pl pl0 ln B : Nat} {dc dn : Int32} (hM : MSh P) (hI : Inv B s) (ho : ordI (I 693) ln pl0 dc td) : Sp l g kX8_does T0 [.ref (g.1 + 688)] (mX I pl dc dn td s) P T0 0 0 (qJ (fun r I1 P1 => P1 = P ∧ ((r = 1 ∧ dsC (I 693) ln pl0 s ∧ I1 = mX I (pl) (dc) (dn) (td) (dsF (I 693) ln pl0 s)) ∨ (r = 0 ∧ ¬ dsC (I 693) ln pl0 s ∧ I1 = mX I (pl) (dc) (dn) (td) (dsF (I 693) ln pl0 s))))) := by
  rcases ho with ⟨hN, hdc⟩ | ⟨hN, -, hdc, t0, t1, t2, t3⟩
  · exact sp_doesT l g hM hI hN hdc
  · exact sp_doesS l g hM hI hN hdc t0 t1 t2 t3

set_option maxHeartbeats 4000000 in
set_option maxRecDepth 100000 in
theorem lp_rt0 (l : Launch) (g : fw_G) {I : fw_I} {P : fw_P} {s : Nat → Int32} {ln : Nat} (hM : MSh P) (hln : I 688 7 = nI ln) (hl60 : ln ≤ 60) (F : Option Nat) : ∀ (n : Nat) {pl : Nat} (dc dn : Int32) (td : Nat → Int32), ln - pl < n → pl ≤ ln → fau (I 693) ln n pl = F → V l g kX8_readText T0 0 0 (qJ (fun r I1 P1 => P1 = P ∧ ((r = 1 ∧ F = none ∧ ∃ dc1 dn1 td1, I1 = mX I ln dc1 dn1 td1 s) ∨ (r = 0 ∧ ¬ F = none ∧ ∃ f dc1 dn1 td1, F = some f ∧ I1 = mX I f dc1 dn1 td1 s)))) T0 (mX I pl dc dn td s) P 0 0 55 [some (.ref (g.1 + 688)), some (.int 0), none] [] := by
  have a688 := at_688
  obtain ⟨p0, p1, p3, p5, p6, p10, p12, p13⟩ := id hM
  intro n
  induction n with
  | zero => intro pl dc dn td h; exact absurd h (Nat.not_lt_zero _)
  | succ n ih =>
    intro pl dc dn td hlt hpl hF
    refine V_aload_n (i := 0) rfl rfl dX8_readText_55 rfl ?_
    refine V_call (n := 0) (sp_readOrder (pl := pl) l g hM hln hl60 hpl) o_X8_readOrder m_X8_163 ⟨by decide, by decide⟩ (by assumption) rfl rfl (by first | exact Nat.le_of_ble_eq_true rfl | simp [Value.category]) (Nat.le_refl _) (Nat.le_refl _) rfl dX8_readText_56 rfl (kO (fun F_56 h_56 => ?_) (fun F_56 h_56 => ?_))
    · obtain ⟨hod, dc1, td1, ho, rfl⟩ := h_56
      have hnx := odN_le hod
      refine V_istore_n (i := 2) rfl (by decide) rfl dX8_readText_59 rfl ?_
      refine V_goto (tgt := 15) dX8_readText_60 (by decide) ?_
      refine V_iload_n (i := 2) rfl rfl dX8_readText_15 rfl ?_
      refine V_if_eq (tgt := 63) dX8_readText_16 (by decide) rfl (fun h => absurd h (by decide)) (fun _ => ?_)
      refine V_iload_n (i := 1) rfl rfl dX8_readText_19 rfl ?_
      refine V_if_eq (tgt := 32) dX8_readText_20 (by decide) rfl (fun _ => ?_) (fun h => absurd rfl h)
      refine V_aload_n (i := 0) rfl rfl dX8_readText_32 rfl ?_
      refine V_dup (by first | rfl | simp [Value.category]) dX8_readText_33 rfl ?_
      refine V_get (kf := 11) C8 (by decide) l_X8_160 (by assumption) rfl dX8_readText_34 rfl ?_
      rw [show mX I (odN (I 693) ln pl) dc1 dn td1 s 688 11 = dn from rfl]
      refine V_iconst (v := 1) (by decide) dX8_readText_37 rfl ?_
      refine V_iadd dX8_readText_38 rfl ?_
      refine V_puti (kf := 11) C8 (by decide) rfl l_X8_160 rfl rfl rfl rfl (by assumption) dX8_readText_39 rfl ?_
      rw [mX_11]
      refine V_aload_n (i := 0) rfl rfl dX8_readText_42 rfl ?_
      refine V_get (kf := 8) C8 (by decide) l_X8_142 (by assumption) rfl dX8_readText_43 rfl ?_
      rw [show mX I (odN (I 693) ln pl) dc1 (dn + 1) td1 s 688 8 = nI (odN (I 693) ln pl) from rfl]
      refine V_aload_n (i := 0) rfl rfl dX8_readText_46 rfl ?_
      refine V_get (kf := 7) C8 (by decide) l_X8_139 (by assumption) rfl dX8_readText_47 rfl ?_
      rw [show mX I (odN (I 693) ln pl) dc1 (dn + 1) td1 s 688 7 = nI ln from hln]
      refine V_icmp_ne (tgt := 55) dX8_readText_50 (by decide) rfl (fun h_50 => ?_) (fun h_50 => ?_)
      · exact V_forget 2 rfl (ih (pl := odN (I 693) ln pl) _ _ _ (by omega) hnx.2 (by rw [← hF, show fau (I 693) ln (n + 1) pl = if odC (I 693) ln pl then (if odN (I 693) ln pl = ln then none else fau (I 693) ln n (odN (I 693) ln pl)) else some (fpl (I 693) ln pl) from rfl, if_pos hod, if_neg (fun h => h_50 (by rw [h]))]))
      · refine V_iconst (v := 1) (by decide) dX8_readText_53 rfl ?_
        exact V_ireturn rfl (by decide) dX8_readText_54 rfl rfl rfl (⟨_, rfl, rfl, Or.inl ⟨rfl, by rw [← hF, show fau (I 693) ln (n + 1) pl = if odC (I 693) ln pl then (if odN (I 693) ln pl = ln then none else fau (I 693) ln n (odN (I 693) ln pl)) else some (fpl (I 693) ln pl) from rfl, if_pos hod, if_pos (nI_inj (by omega) (by omega) h_50)], _, _, _, by rw [nI_inj (by omega) (by omega) h_50]⟩⟩)
    · obtain ⟨hod, td1, rfl⟩ := h_56
      refine V_istore_n (i := 2) rfl (by decide) rfl dX8_readText_59 rfl ?_
      refine V_goto (tgt := 15) dX8_readText_60 (by decide) ?_
      refine V_iload_n (i := 2) rfl rfl dX8_readText_15 rfl ?_
      refine V_if_eq (tgt := 63) dX8_readText_16 (by decide) rfl (fun _ => ?_) (fun h => absurd rfl h)
      refine V_iconst (v := 0) (by decide) dX8_readText_63 rfl ?_
      exact V_ireturn rfl (by decide) dX8_readText_64 rfl rfl rfl (⟨_, rfl, rfl, Or.inr ⟨rfl, by rw [← hF, show fau (I 693) ln (n + 1) pl = if odC (I 693) ln pl then (if odN (I 693) ln pl = ln then none else fau (I 693) ln n (odN (I 693) ln pl)) else some (fpl (I 693) ln pl) from rfl, if_neg hod]; exact (fun h => by cases h), _, _, _, _, by rw [← hF]; exact if_neg hod, rfl⟩⟩)

set_option maxHeartbeats 4000000 in
set_option maxRecDepth 100000 in
theorem lp_rt0a (l : Launch) (g : fw_G) {I : fw_I} {P : fw_P} {s : Nat → Int32} {ln : Nat} (hM : MSh P) (hln : I 688 7 = nI ln) (hl60 : ln ≤ 60) {F : Option Nat} (dc dn : Int32) (td : Nat → Int32) (hF0 : fau (I 693) ln (ln + 1) 0 = F) : V l g kX8_readText T0 0 0 (qJ (fun r I1 P1 => P1 = P ∧ ((r = 1 ∧ F = none ∧ ∃ dc1 dn1 td1, I1 = mX I ln dc1 dn1 td1 s) ∨ (r = 0 ∧ ¬ F = none ∧ ∃ f dc1 dn1 td1, F = some f ∧ I1 = mX I f dc1 dn1 td1 s)))) T0 (mX I (0) (dc) (dn) (td) (s)) P 0 0 10 [some (.ref (g.1 + 688)), some (.int 0), none] [] := by
  have a688 := at_688
  obtain ⟨p0, p1, p3, p5, p6, p10, p12, p13⟩ := id hM
  obtain ⟨pl, hpl0⟩ : ∃ pl, 0 = pl := ⟨_, rfl⟩
  obtain ⟨n, hn⟩ : ∃ n, ln = n := ⟨_, rfl⟩
  have hF : fau (I 693) ln (n + 1) pl = F := by rw [← hn, ← hpl0]; exact hF0
  have hpl : pl ≤ ln := by omega
  rw [show mX I 0 dc dn td s = mX I pl dc dn td s from by rw [← hpl0]]
  refine V_aload_n (i := 0) rfl rfl dX8_readText_10 rfl ?_
  refine V_call (n := 0) (sp_readOrder (pl := pl) l g hM hln hl60 hpl) o_X8_readOrder m_X8_163 ⟨by decide, by decide⟩ (by assumption) rfl rfl (by first | exact Nat.le_of_ble_eq_true rfl | simp [Value.category]) (Nat.le_refl _) (Nat.le_refl _) rfl dX8_readText_11 rfl (kO (fun F_11 h_11 => ?_) (fun F_11 h_11 => ?_))
  · obtain ⟨hod, dc1, td1, ho, rfl⟩ := h_11
    have hnx := odN_le hod
    refine V_istore_n (i := 2) rfl (by decide) rfl dX8_readText_14 rfl ?_
    refine V_iload_n (i := 2) rfl rfl dX8_readText_15 rfl ?_
    refine V_if_eq (tgt := 63) dX8_readText_16 (by decide) rfl (fun h => absurd h (by decide)) (fun _ => ?_)
    refine V_iload_n (i := 1) rfl rfl dX8_readText_19 rfl ?_
    refine V_if_eq (tgt := 32) dX8_readText_20 (by decide) rfl (fun _ => ?_) (fun h => absurd rfl h)
    refine V_aload_n (i := 0) rfl rfl dX8_readText_32 rfl ?_
    refine V_dup (by first | rfl | simp [Value.category]) dX8_readText_33 rfl ?_
    refine V_get (kf := 11) C8 (by decide) l_X8_160 (by assumption) rfl dX8_readText_34 rfl ?_
    rw [show mX I (odN (I 693) ln pl) dc1 dn td1 s 688 11 = dn from rfl]
    refine V_iconst (v := 1) (by decide) dX8_readText_37 rfl ?_
    refine V_iadd dX8_readText_38 rfl ?_
    refine V_puti (kf := 11) C8 (by decide) rfl l_X8_160 rfl rfl rfl rfl (by assumption) dX8_readText_39 rfl ?_
    rw [mX_11]
    refine V_aload_n (i := 0) rfl rfl dX8_readText_42 rfl ?_
    refine V_get (kf := 8) C8 (by decide) l_X8_142 (by assumption) rfl dX8_readText_43 rfl ?_
    rw [show mX I (odN (I 693) ln pl) dc1 (dn + 1) td1 s 688 8 = nI (odN (I 693) ln pl) from rfl]
    refine V_aload_n (i := 0) rfl rfl dX8_readText_46 rfl ?_
    refine V_get (kf := 7) C8 (by decide) l_X8_139 (by assumption) rfl dX8_readText_47 rfl ?_
    rw [show mX I (odN (I 693) ln pl) dc1 (dn + 1) td1 s 688 7 = nI ln from hln]
    refine V_icmp_ne (tgt := 55) dX8_readText_50 (by decide) rfl (fun h_50 => ?_) (fun h_50 => ?_)
    · exact V_forget 2 rfl (lp_rt0 l g hM hln hl60 F n (pl := odN (I 693) ln pl) _ _ _ (by omega) hnx.2 (by rw [← hF, show fau (I 693) ln (n + 1) pl = if odC (I 693) ln pl then (if odN (I 693) ln pl = ln then none else fau (I 693) ln n (odN (I 693) ln pl)) else some (fpl (I 693) ln pl) from rfl, if_pos hod, if_neg (fun h => h_50 (by rw [h]))]))
    · refine V_iconst (v := 1) (by decide) dX8_readText_53 rfl ?_
      exact V_ireturn rfl (by decide) dX8_readText_54 rfl rfl rfl (⟨_, rfl, rfl, Or.inl ⟨rfl, by rw [← hF, show fau (I 693) ln (n + 1) pl = if odC (I 693) ln pl then (if odN (I 693) ln pl = ln then none else fau (I 693) ln n (odN (I 693) ln pl)) else some (fpl (I 693) ln pl) from rfl, if_pos hod, if_pos (nI_inj (by omega) (by omega) h_50)], _, _, _, by rw [nI_inj (by omega) (by omega) h_50]⟩⟩)
  · obtain ⟨hod, td1, rfl⟩ := h_11
    refine V_istore_n (i := 2) rfl (by decide) rfl dX8_readText_14 rfl ?_
    refine V_iload_n (i := 2) rfl rfl dX8_readText_15 rfl ?_
    refine V_if_eq (tgt := 63) dX8_readText_16 (by decide) rfl (fun _ => ?_) (fun h => absurd rfl h)
    refine V_iconst (v := 0) (by decide) dX8_readText_63 rfl ?_
    exact V_ireturn rfl (by decide) dX8_readText_64 rfl rfl rfl (⟨_, rfl, rfl, Or.inr ⟨rfl, by rw [← hF, show fau (I 693) ln (n + 1) pl = if odC (I 693) ln pl then (if odN (I 693) ln pl = ln then none else fau (I 693) ln n (odN (I 693) ln pl)) else some (fpl (I 693) ln pl) from rfl, if_neg hod]; exact (fun h => by cases h), _, _, _, _, by rw [← hF]; exact if_neg hod, rfl⟩⟩)

set_option maxHeartbeats 4000000 in
set_option maxRecDepth 100000 in
theorem sp_readText0 (l : Launch) (g : fw_G) {I : fw_I} {P : fw_P} {ln : Nat} (hM : MSh P) (hln : I 688 7 = nI ln) (hl60 : ln ≤ 60) : Sp l g kX8_readText T0 [.ref (g.1 + 688), .int 0] I P T0 0 0 (qJ (fun r I1 P1 => P1 = P ∧ ((r = 1 ∧ fau (I 693) ln (ln + 1) 0 = none ∧ ∃ dc1 dn1 td1, I1 = mX I ln dc1 dn1 td1 (I 689)) ∨ (r = 0 ∧ ¬ fau (I 693) ln (ln + 1) 0 = none ∧ ∃ f dc1 dn1 td1, fau (I 693) ln (ln + 1) 0 = some f ∧ I1 = mX I f dc1 dn1 td1 (I 689))))) := by
  have a688 := at_688
  obtain ⟨p0, p1, p3, p5, p6, p10, p12, p13⟩ := id hM
  refine Sp.of_V (L := [some (.ref (g.1 + 688)), some (.int 0), none]) (by decide) (by simp [Value.category]) (Nat.le_of_ble_eq_true rfl) rfl ?_
  refine V_aload_n (i := 0) rfl rfl dX8_readText_0 rfl ?_
  refine V_iconst (v := 0) (by decide) dX8_readText_1 rfl ?_
  refine V_puti (kf := 8) C8 (by decide) rfl l_X8_142 rfl rfl rfl rfl (by assumption) dX8_readText_2 rfl ?_
  refine V_aload_n (i := 0) rfl rfl dX8_readText_5 rfl ?_
  refine V_iconst (v := 0) (by decide) dX8_readText_6 rfl ?_
  refine V_puti (kf := 11) C8 (by decide) rfl l_X8_160 rfl rfl rfl rfl (by assumption) dX8_readText_7 rfl ?_
  rw [mX_start]
  refine V_forget 2 rfl ?_
  exact lp_rt0a l g hM hln hl60 _ _ _ rfl

set_option maxHeartbeats 4000000 in
set_option maxRecDepth 100000 in
theorem lp_rt1 (l : Launch) (g : fw_G) {I : fw_I} {P : fw_P} {ln B : Nat} (hM : MSh P) (hln : I 688 7 = nI ln) (hl60 : ln ≤ 60) (G : Nat × (Nat → Int32)) : ∀ (n : Nat) {pl : Nat} (dc : Int32) (k : Nat) (td s : Nat → Int32), ln - pl < n → pl ≤ ln → Inv B s → fau (I 693) ln n pl = none → rnF (I 693) ln n pl k s = G → V l g kX8_readText T0 0 0 (qJ (fun r I1 P1 => r = 1 ∧ P1 = P ∧ ∃ pl1 dc1 td1, I1 = mX I pl1 dc1 (nI G.1) td1 G.2)) T0 (mX I (pl) (dc) (nI k) (td) (s)) P 0 0 55 [some (.ref (g.1 + 688)), some (.int 1), none] [] := by
  have a688 := at_688
  obtain ⟨p0, p1, p3, p5, p6, p10, p12, p13⟩ := id hM
  intro n
  induction n with
  | zero => intro pl dc k td s h; exact absurd h (Nat.not_lt_zero _)
  | succ n ih =>
    intro pl dc k td s hlt hpl hI hfa hG
    refine V_aload_n (i := 0) rfl rfl dX8_readText_55 rfl ?_
    refine V_call (n := 0) (sp_readOrder (pl := pl) l g hM hln hl60 hpl) o_X8_readOrder m_X8_163 ⟨by decide, by decide⟩ (by assumption) rfl rfl (by first | exact Nat.le_of_ble_eq_true rfl | simp [Value.category]) (Nat.le_refl _) (Nat.le_refl _) rfl dX8_readText_56 rfl (kO (fun F_56 h_56 => ?_) (fun F_56 h_56 => ?_))
    · obtain ⟨hod, dc1, td1, ho, rfl⟩ := h_56
      have hnx := odN_le hod
      refine V_istore_n (i := 2) rfl (by decide) rfl dX8_readText_59 rfl ?_
      refine V_goto (tgt := 15) dX8_readText_60 (by decide) ?_
      refine V_iload_n (i := 2) rfl rfl dX8_readText_15 rfl ?_
      refine V_if_eq (tgt := 63) dX8_readText_16 (by decide) rfl (fun h => absurd h (by decide)) (fun _ => ?_)
      refine V_iload_n (i := 1) rfl rfl dX8_readText_19 rfl ?_
      refine V_if_eq (tgt := 32) dX8_readText_20 (by decide) rfl (fun h => absurd h (by decide)) (fun _ => ?_)
      refine V_aload_n (i := 0) rfl rfl dX8_readText_23 rfl ?_
      refine V_call (n := 0) (sp_does l g hM hI ho) o_X8_does m_X8_166 ⟨by decide, by decide⟩ (by assumption) rfl rfl (by first | exact Nat.le_of_ble_eq_true rfl | simp [Value.category]) (Nat.le_refl _) (Nat.le_refl _) rfl dX8_readText_24 rfl (kO (fun F_24 h_24 => ?_) (fun F_24 h_24 => ?_))
      · obtain ⟨hds, rfl⟩ := h_24
        refine V_if_ne (tgt := 32) dX8_readText_27 (by decide) rfl (fun _ => ?_) (fun h => absurd h (by decide))
        refine V_aload_n (i := 0) rfl rfl dX8_readText_32 rfl ?_
        refine V_dup (by first | rfl | simp [Value.category]) dX8_readText_33 rfl ?_
        refine V_get (kf := 11) C8 (by decide) l_X8_160 (by assumption) rfl dX8_readText_34 rfl ?_
        rw [show mX I (odN (I 693) ln pl) dc1 (nI k) td1 (dsF (I 693) ln pl s) 688 11 = nI k from rfl]
        refine V_iconst (v := 1) (by decide) dX8_readText_37 rfl ?_
        refine V_iadd dX8_readText_38 rfl ?_
        refine V_puti (kf := 11) C8 (by decide) rfl l_X8_160 rfl rfl rfl rfl (by assumption) dX8_readText_39 rfl ?_
        rw [mX_11, nI_1]
        refine V_aload_n (i := 0) rfl rfl dX8_readText_42 rfl ?_
        refine V_get (kf := 8) C8 (by decide) l_X8_142 (by assumption) rfl dX8_readText_43 rfl ?_
        rw [show mX I (odN (I 693) ln pl) dc1 (nI (k + 1)) td1 (dsF (I 693) ln pl s) 688 8 = nI (odN (I 693) ln pl) from rfl]
        refine V_aload_n (i := 0) rfl rfl dX8_readText_46 rfl ?_
        refine V_get (kf := 7) C8 (by decide) l_X8_139 (by assumption) rfl dX8_readText_47 rfl ?_
        rw [show mX I (odN (I 693) ln pl) dc1 (nI (k + 1)) td1 (dsF (I 693) ln pl s) 688 7 = nI ln from hln]
        refine V_icmp_ne (tgt := 55) dX8_readText_50 (by decide) rfl (fun h_50 => ?_) (fun h_50 => ?_)
        · exact V_forget 2 rfl (ih (pl := odN (I 693) ln pl) _ _ _ _ (by omega) hnx.2 (Inv_ds hI _ _ _) (fau_nx hfa hod (fun h => h_50 (by rw [h]))) (by rw [← hG, show rnF (I 693) ln (n + 1) pl k s = if dsB (I 693) ln pl s = true then (if odN (I 693) ln pl = ln then (k + 1, dsF (I 693) ln pl s) else rnF (I 693) ln n (odN (I 693) ln pl) (k + 1) (dsF (I 693) ln pl s)) else (k, dsF (I 693) ln pl s) from rfl, if_pos ((dsB_C _ _ _ _).mpr hds), if_neg (fun h => h_50 (by rw [h]))]))
        · refine V_iconst (v := 1) (by decide) dX8_readText_53 rfl ?_
          exact V_ireturn rfl (by decide) dX8_readText_54 rfl rfl rfl (by
                have e : G = (k + 1, dsF (I 693) ln pl s) := by rw [← hG, show rnF (I 693) ln (n + 1) pl k s = if dsB (I 693) ln pl s = true then (if odN (I 693) ln pl = ln then (k + 1, dsF (I 693) ln pl s) else rnF (I 693) ln n (odN (I 693) ln pl) (k + 1) (dsF (I 693) ln pl s)) else (k, dsF (I 693) ln pl s) from rfl, if_pos ((dsB_C _ _ _ _).mpr hds), if_pos (nI_inj (by omega) (by omega) h_50)]
                exact ⟨_, rfl, rfl, rfl, _, _, _, by rw [e]⟩)
      · obtain ⟨hds, rfl⟩ := h_24
        refine V_if_ne (tgt := 32) dX8_readText_27 (by decide) rfl (fun h => absurd rfl h) (fun _ => ?_)
        refine V_iconst (v := 1) (by decide) dX8_readText_30 rfl ?_
        exact V_ireturn rfl (by decide) dX8_readText_31 rfl rfl rfl (by
              have e : G = (k, dsF (I 693) ln pl s) := by rw [← hG, show rnF (I 693) ln (n + 1) pl k s = if dsB (I 693) ln pl s = true then (if odN (I 693) ln pl = ln then (k + 1, dsF (I 693) ln pl s) else rnF (I 693) ln n (odN (I 693) ln pl) (k + 1) (dsF (I 693) ln pl s)) else (k, dsF (I 693) ln pl s) from rfl, if_neg (fun h => hds ((dsB_C _ _ _ _).mp h))]
              exact ⟨_, rfl, rfl, rfl, _, _, _, by rw [e]⟩)
    · obtain ⟨hod, td1, rfl⟩ := h_56
      exact absurd (fau_od hfa) hod

set_option maxHeartbeats 4000000 in
set_option maxRecDepth 100000 in
theorem lp_rt1a (l : Launch) (g : fw_G) {I : fw_I} {P : fw_P} {ln B : Nat} (hM : MSh P) (hln : I 688 7 = nI ln) (hl60 : ln ≤ 60) {G : Nat × (Nat → Int32)} (dc : Int32) (td s : Nat → Int32) (hI : Inv B s) (hfa0 : fau (I 693) ln (ln + 1) 0 = none) (hG0 : rnF (I 693) ln (ln + 1) 0 0 s = G) : V l g kX8_readText T0 0 0 (qJ (fun r I1 P1 => r = 1 ∧ P1 = P ∧ ∃ pl1 dc1 td1, I1 = mX I pl1 dc1 (nI G.1) td1 G.2)) T0 (mX I (0) (dc) (nI 0) (td) (s)) P 0 0 10 [some (.ref (g.1 + 688)), some (.int 1), none] [] := by
  have a688 := at_688
  obtain ⟨p0, p1, p3, p5, p6, p10, p12, p13⟩ := id hM
  obtain ⟨pl, hpl0⟩ : ∃ pl, 0 = pl := ⟨_, rfl⟩
  obtain ⟨k, hk0⟩ : ∃ k, 0 = k := ⟨_, rfl⟩
  obtain ⟨n, hn⟩ : ∃ n, ln = n := ⟨_, rfl⟩
  have hG : rnF (I 693) ln (n + 1) pl k s = G := by rw [← hn, ← hpl0, ← hk0]; exact hG0
  have hfa : fau (I 693) ln (n + 1) pl = none := by rw [← hn, ← hpl0]; exact hfa0
  have hpl : pl ≤ ln := by omega
  rw [show mX I 0 dc (nI 0) td s = mX I pl dc (nI k) td s from by rw [← hpl0, ← hk0]]
  refine V_aload_n (i := 0) rfl rfl dX8_readText_10 rfl ?_
  refine V_call (n := 0) (sp_readOrder (pl := pl) l g hM hln hl60 hpl) o_X8_readOrder m_X8_163 ⟨by decide, by decide⟩ (by assumption) rfl rfl (by first | exact Nat.le_of_ble_eq_true rfl | simp [Value.category]) (Nat.le_refl _) (Nat.le_refl _) rfl dX8_readText_11 rfl (kO (fun F_11 h_11 => ?_) (fun F_11 h_11 => ?_))
  · obtain ⟨hod, dc1, td1, ho, rfl⟩ := h_11
    have hnx := odN_le hod
    refine V_istore_n (i := 2) rfl (by decide) rfl dX8_readText_14 rfl ?_
    refine V_iload_n (i := 2) rfl rfl dX8_readText_15 rfl ?_
    refine V_if_eq (tgt := 63) dX8_readText_16 (by decide) rfl (fun h => absurd h (by decide)) (fun _ => ?_)
    refine V_iload_n (i := 1) rfl rfl dX8_readText_19 rfl ?_
    refine V_if_eq (tgt := 32) dX8_readText_20 (by decide) rfl (fun h => absurd h (by decide)) (fun _ => ?_)
    refine V_aload_n (i := 0) rfl rfl dX8_readText_23 rfl ?_
    refine V_call (n := 0) (sp_does l g hM hI ho) o_X8_does m_X8_166 ⟨by decide, by decide⟩ (by assumption) rfl rfl (by first | exact Nat.le_of_ble_eq_true rfl | simp [Value.category]) (Nat.le_refl _) (Nat.le_refl _) rfl dX8_readText_24 rfl (kO (fun F_24 h_24 => ?_) (fun F_24 h_24 => ?_))
    · obtain ⟨hds, rfl⟩ := h_24
      refine V_if_ne (tgt := 32) dX8_readText_27 (by decide) rfl (fun _ => ?_) (fun h => absurd h (by decide))
      refine V_aload_n (i := 0) rfl rfl dX8_readText_32 rfl ?_
      refine V_dup (by first | rfl | simp [Value.category]) dX8_readText_33 rfl ?_
      refine V_get (kf := 11) C8 (by decide) l_X8_160 (by assumption) rfl dX8_readText_34 rfl ?_
      rw [show mX I (odN (I 693) ln pl) dc1 (nI k) td1 (dsF (I 693) ln pl s) 688 11 = nI k from rfl]
      refine V_iconst (v := 1) (by decide) dX8_readText_37 rfl ?_
      refine V_iadd dX8_readText_38 rfl ?_
      refine V_puti (kf := 11) C8 (by decide) rfl l_X8_160 rfl rfl rfl rfl (by assumption) dX8_readText_39 rfl ?_
      rw [mX_11, nI_1]
      refine V_aload_n (i := 0) rfl rfl dX8_readText_42 rfl ?_
      refine V_get (kf := 8) C8 (by decide) l_X8_142 (by assumption) rfl dX8_readText_43 rfl ?_
      rw [show mX I (odN (I 693) ln pl) dc1 (nI (k + 1)) td1 (dsF (I 693) ln pl s) 688 8 = nI (odN (I 693) ln pl) from rfl]
      refine V_aload_n (i := 0) rfl rfl dX8_readText_46 rfl ?_
      refine V_get (kf := 7) C8 (by decide) l_X8_139 (by assumption) rfl dX8_readText_47 rfl ?_
      rw [show mX I (odN (I 693) ln pl) dc1 (nI (k + 1)) td1 (dsF (I 693) ln pl s) 688 7 = nI ln from hln]
      refine V_icmp_ne (tgt := 55) dX8_readText_50 (by decide) rfl (fun h_50 => ?_) (fun h_50 => ?_)
      · exact V_forget 2 rfl (lp_rt1 l g hM hln hl60 G n (pl := odN (I 693) ln pl) _ _ _ _ (by omega) hnx.2 (Inv_ds hI _ _ _) (fau_nx hfa hod (fun h => h_50 (by rw [h]))) (by rw [← hG, show rnF (I 693) ln (n + 1) pl k s = if dsB (I 693) ln pl s = true then (if odN (I 693) ln pl = ln then (k + 1, dsF (I 693) ln pl s) else rnF (I 693) ln n (odN (I 693) ln pl) (k + 1) (dsF (I 693) ln pl s)) else (k, dsF (I 693) ln pl s) from rfl, if_pos ((dsB_C _ _ _ _).mpr hds), if_neg (fun h => h_50 (by rw [h]))]))
      · refine V_iconst (v := 1) (by decide) dX8_readText_53 rfl ?_
        exact V_ireturn rfl (by decide) dX8_readText_54 rfl rfl rfl (by
              have e : G = (k + 1, dsF (I 693) ln pl s) := by rw [← hG, show rnF (I 693) ln (n + 1) pl k s = if dsB (I 693) ln pl s = true then (if odN (I 693) ln pl = ln then (k + 1, dsF (I 693) ln pl s) else rnF (I 693) ln n (odN (I 693) ln pl) (k + 1) (dsF (I 693) ln pl s)) else (k, dsF (I 693) ln pl s) from rfl, if_pos ((dsB_C _ _ _ _).mpr hds), if_pos (nI_inj (by omega) (by omega) h_50)]
              exact ⟨_, rfl, rfl, rfl, _, _, _, by rw [e]⟩)
    · obtain ⟨hds, rfl⟩ := h_24
      refine V_if_ne (tgt := 32) dX8_readText_27 (by decide) rfl (fun h => absurd rfl h) (fun _ => ?_)
      refine V_iconst (v := 1) (by decide) dX8_readText_30 rfl ?_
      exact V_ireturn rfl (by decide) dX8_readText_31 rfl rfl rfl (by
            have e : G = (k, dsF (I 693) ln pl s) := by rw [← hG, show rnF (I 693) ln (n + 1) pl k s = if dsB (I 693) ln pl s = true then (if odN (I 693) ln pl = ln then (k + 1, dsF (I 693) ln pl s) else rnF (I 693) ln n (odN (I 693) ln pl) (k + 1) (dsF (I 693) ln pl s)) else (k, dsF (I 693) ln pl s) from rfl, if_neg (fun h => hds ((dsB_C _ _ _ _).mp h))]
            exact ⟨_, rfl, rfl, rfl, _, _, _, by rw [e]⟩)
  · obtain ⟨hod, td1, rfl⟩ := h_11
    exact absurd (fau_od hfa) hod

set_option maxHeartbeats 4000000 in
set_option maxRecDepth 100000 in
theorem sp_readText1 (l : Launch) (g : fw_G) {I : fw_I} {P : fw_P} {ln : Nat} (hM : MSh P) (hln : I 688 7 = nI ln) (hl60 : ln ≤ 60) {B : Nat} (hI : Inv B (I 689)) (hfa : fau (I 693) ln (ln + 1) 0 = none) : Sp l g kX8_readText T0 [.ref (g.1 + 688), .int 1] I P T0 0 0 (qJ (fun r I1 P1 => r = 1 ∧ P1 = P ∧ ∃ pl1 dc1 td1, I1 = mX I pl1 dc1 (nI (rnF (I 693) ln (ln + 1) 0 0 (I 689)).1) td1 (rnF (I 693) ln (ln + 1) 0 0 (I 689)).2)) := by
  have a688 := at_688
  obtain ⟨p0, p1, p3, p5, p6, p10, p12, p13⟩ := id hM
  refine Sp.of_V (L := [some (.ref (g.1 + 688)), some (.int 1), none]) (by decide) (by simp [Value.category]) (Nat.le_of_ble_eq_true rfl) rfl ?_
  refine V_aload_n (i := 0) rfl rfl dX8_readText_0 rfl ?_
  refine V_iconst (v := 0) (by decide) dX8_readText_1 rfl ?_
  refine V_puti (kf := 8) C8 (by decide) rfl l_X8_142 rfl rfl rfl rfl (by assumption) dX8_readText_2 rfl ?_
  refine V_aload_n (i := 0) rfl rfl dX8_readText_5 rfl ?_
  refine V_iconst (v := 0) (by decide) dX8_readText_6 rfl ?_
  refine V_puti (kf := 11) C8 (by decide) rfl l_X8_160 rfl rfl rfl rfl (by assumption) dX8_readText_7 rfl ?_
  rw [mX_start]
  refine V_forget 2 rfl ?_
  exact lp_rt1a l g hM hln hl60 _ _ _ hI hfa rfl

set_option maxHeartbeats 4000000 in
set_option maxRecDepth 100000 in
theorem sp_fault (l : Launch) (g : fw_G) {I : fw_I} {P : fw_P} {ln : Nat} (hM : MSh P) (hln : I 688 7 = nI ln) (hl60 : ln ≤ 60) : Sp l g kX8_fault T0 [.ref (g.1 + 688)] I P T0 0 0 (qJ (fun r I1 P1 => r = fauX (I 693) ln ∧ P1 = P ∧ mSc I I1)) := by
  have a688 := at_688
  obtain ⟨p0, p1, p3, p5, p6, p10, p12, p13⟩ := id hM
  refine Sp.of_V (L := [some (.ref (g.1 + 688))]) (by decide) (by simp [Value.category]) (Nat.le_of_ble_eq_true rfl) rfl ?_
  refine V_aload_n (i := 0) rfl rfl dX8_fault_0 rfl ?_
  refine V_iconst (v := 0) (by decide) dX8_fault_1 rfl ?_
  refine V_call (n := 1) (sp_readText0 l g hM hln hl60) o_X8_readText m_X8_169 ⟨by decide, by decide⟩ (by assumption) rfl rfl (by first | exact Nat.le_of_ble_eq_true rfl | simp [Value.category]) (Nat.le_refl _) (Nat.le_refl _) rfl dX8_fault_2 rfl (kO (fun F_2 h_2 => ?_) (fun F_2 h_2 => ?_))
  · obtain ⟨hf, dc1, dn1, td1, rfl⟩ := h_2
    refine V_if_eq (tgt := 13) dX8_fault_5 (by decide) rfl (fun h => absurd h (by decide)) (fun _ => ?_)
    refine V_bipush (v := (-5)) (by decide) dX8_fault_8 rfl ?_
    refine V_goto (tgt := 17) dX8_fault_10 (by decide) ?_
    try rw [show mX I f dc1 dn1 td1 (I 689) 688 8 = nI f from rfl]
    exact V_ireturn rfl rfl dX8_fault_17 rfl rfl rfl (⟨_, rfl, by unfold fauX; first | rw [hf] | rw [hff], rfl, mSc_mX I _ _ _ _⟩)
  · obtain ⟨hf, f, dc1, dn1, td1, hff, rfl⟩ := h_2
    refine V_if_eq (tgt := 13) dX8_fault_5 (by decide) rfl (fun _ => ?_) (fun h => absurd rfl h)
    refine V_aload_n (i := 0) rfl rfl dX8_fault_13 rfl ?_
    refine V_get (kf := 8) C8 (by decide) l_X8_142 (by assumption) rfl dX8_fault_14 rfl ?_
    try rw [show mX I f dc1 dn1 td1 (I 689) 688 8 = nI f from rfl]
    exact V_ireturn rfl rfl dX8_fault_17 rfl rfl rfl (⟨_, rfl, by unfold fauX; first | rw [hf] | rw [hff], rfl, mSc_mX I _ _ _ _⟩)

set_option maxHeartbeats 4000000 in
set_option maxRecDepth 100000 in
theorem sp_run (l : Launch) (g : fw_G) {I : fw_I} {P : fw_P} {ln : Nat} (hM : MSh P) (hln : I 688 7 = nI ln) (hl60 : ln ≤ 60) {B k : Nat} (hI : Inv B (I 689)) (hk5 : k ≤ 5) (hk : I 688 2 = nI k) : Sp l g kX8_run T0 [.ref (g.1 + 688)] I P T0 0 0 (qJ (fun r I2 P1 => r = runR (I 693) ln (I 689) ∧ P1 = P ∧ ∃ I0, mSc I I0 ∧ MUs I0 k (fau (I 693) ln (ln + 1) 0 = none) (rnF (I 693) ln (ln + 1) 0 0 (I 689)).2 I2)) := by
  have a688 := at_688
  obtain ⟨p0, p1, p3, p5, p6, p10, p12, p13⟩ := id hM
  refine Sp.of_V (L := [some (.ref (g.1 + 688))]) (by decide) (by simp [Value.category]) (Nat.le_of_ble_eq_true rfl) rfl ?_
  refine V_aload_n (i := 0) rfl rfl dX8_run_0 rfl ?_
  refine V_iconst (v := 0) (by decide) dX8_run_1 rfl ?_
  refine V_call (n := 1) (sp_readText0 l g hM hln hl60) o_X8_readText m_X8_169 ⟨by decide, by decide⟩ (by assumption) rfl rfl (by first | exact Nat.le_of_ble_eq_true rfl | simp [Value.category]) (Nat.le_refl _) (Nat.le_refl _) rfl dX8_run_2 rfl (kO (fun F_2 h_2 => ?_) (fun F_2 h_2 => ?_))
  · obtain ⟨hf, dc1, dn1, td1, rfl⟩ := h_2
    refine V_if_ne (tgt := 16) dX8_run_5 (by decide) rfl (fun _ => ?_) (fun h => absurd h (by decide))
    refine V_aload_n (i := 0) rfl rfl dX8_run_16 rfl ?_
    refine V_call (n := 0) (sp_record (I := mX I ln dc1 dn1 td1 (I 689)) l g hM hk5 hk) o_X8_record m_X8_110 ⟨by decide, by decide⟩ (by assumption) rfl rfl (by first | exact Nat.le_of_ble_eq_true rfl | simp [Value.category]) (Nat.le_refl _) (Nat.le_refl _) rfl dX8_run_17 rfl (kRec (fun I17 hr17 => ?_))
    refine V_aload_n (i := 0) rfl rfl dX8_run_20 rfl ?_
    refine V_iconst (v := 1) (by decide) dX8_run_21 rfl ?_
    have e93 : I17 693 = I 693 := hr17.1 693 (by decide) (by decide)
    have e89 : I17 689 = I 689 := hr17.1 689 (by decide) (by decide)
    refine V_call (n := 1) (sp_readText1 (I := I17) (ln := ln) (B := B) l g hM (by rw [hr17.2.1 7 (by decide)]; exact hln) hl60 (by rw [e89]; exact hI) (by rw [e93]; exact hf)) o_X8_readText m_X8_169 ⟨by decide, by decide⟩ (by assumption) rfl rfl (by first | exact Nat.le_of_ble_eq_true rfl | simp [Value.category]) (Nat.le_refl _) (Nat.le_refl _) rfl dX8_run_22 rfl (kJ (fun r22 I22 P22 hh22 => ?_))
    obtain ⟨rfl, eP, pl2, dc2, td2, e22⟩ := hh22
    rw [eP]
    refine V_if_eq (tgt := 35) dX8_run_25 (by decide) rfl (fun h => absurd h (by decide)) (fun _ => ?_)
    refine V_aload_n (i := 0) rfl rfl dX8_run_28 rfl ?_
    refine V_get (kf := 11) C8 (by decide) l_X8_160 (by assumption) rfl dX8_run_29 rfl ?_
    rw [e22, e93, e89, show ∀ G : Nat × (Nat → Int32), mX I17 pl2 dc2 (nI G.1) td2 G.2 688 11 = nI G.1 from fun G => rfl]
    refine V_goto (tgt := 36) dX8_run_32 (by decide) ?_
    exact V_ireturn rfl rfl dX8_run_36 rfl rfl rfl (⟨_, rfl, by unfold runR; rw [hf], rfl, _, mSc_mX I ln dc1 dn1 td1, Or.inl ⟨hf, I17, hr17, by (have h9 := mSc_mX (wr I17 689 (rnF (I 693) ln (ln + 1) 0 0 (I 689)).2) pl2 dc2 (nI (rnF (I 693) ln (ln + 1) 0 0 (I 689)).1) td2; rw [wr_at] at h9; exact ⟨fun a a1 a2 => (h9.1 a a1 a2 ▸ mX_wr I17 _ _ _ _ _ a), fun f f1 f2 f3 => (h9.2 f f1 f2 f3 ▸ congrFun (mX_wr I17 _ _ _ _ _ 688) f)⟩)⟩⟩)
  · obtain ⟨hf, f, dc1, dn1, td1, hff, rfl⟩ := h_2
    refine V_if_ne (tgt := 16) dX8_run_5 (by decide) rfl (fun h => absurd rfl h) (fun _ => ?_)
    refine V_bipush (v := (-100)) (by decide) dX8_run_8 rfl ?_
    refine V_aload_n (i := 0) rfl rfl dX8_run_10 rfl ?_
    refine V_get (kf := 8) C8 (by decide) l_X8_142 (by assumption) rfl dX8_run_11 rfl ?_
    rw [show mX I f dc1 dn1 td1 (I 689) 688 8 = nI f from rfl]
    refine V_isub dX8_run_14 rfl ?_
    exact V_ireturn rfl rfl dX8_run_15 rfl rfl rfl (⟨_, rfl, by unfold runR; rw [hff], rfl, _, mSc_mX I f dc1 dn1 td1, Or.inr ⟨hf, fun _ _ _ => rfl, fun _ _ _ _ => rfl⟩⟩)

