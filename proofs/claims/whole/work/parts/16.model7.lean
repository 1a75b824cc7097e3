theorem kO {l : Launch} {g : fw_G} {k : fw_M} {T T' : fw_T} {mc ms : Nat} {Q : Option Value → fw_I → fw_P → Prop} {P : fw_P} {u w q : Nat} {L : List (Option Value)} {st : List Value} {C : Prop} {A0 A1 : fw_I → Prop} (h1 : ∀ F, C ∧ A1 F → V l g k T' mc ms Q T F P u w q L (.int 1 :: st)) (h0 : ∀ F, ¬ C ∧ A0 F → V l g k T' mc ms Q T F P u w q L (.int 0 :: st)) : ∀ (v : Option Value) (I1 : fw_I) (P1 : fw_P), qJ (fun r I1 P1 => P1 = P ∧ ((r = 1 ∧ C ∧ A1 I1) ∨ (r = 0 ∧ ¬ C ∧ A0 I1))) v I1 P1 → V l g k T' mc ms Q T I1 P1 u w q L (v.toList ++ st) := by
  rintro _ I1 _ ⟨r, rfl, rfl, ⟨rfl, hc, ha⟩ | ⟨rfl, hc, ha⟩⟩
  · exact h1 I1 ⟨hc, ha⟩
  · exact h0 I1 ⟨hc, ha⟩
def obX (I : fw_I) (pl : Nat) (dc dn : Int32) : Nat → Int32 := fun f => if f = 8 then nI pl else if f = 9 then dc else if f = 11 then dn else I 688 f
/-- the memory while the reference reads its text -/
def mX (I : fw_I) (pl : Nat) (dc dn : Int32) (td s : Nat → Int32) : fw_I := wr (wr (wr I 688 (obX I pl dc dn)) 694 td) 689 s
theorem mX_put (I : fw_I) (pl : Nat) (dc dn : Int32) (td s : Nat → Int32) (f : Nat) (x : Int32) (t : Nat → Int32) (h : ∀ j, (if j = f then x else obX I pl dc dn j) = t j) : up2 (mX I pl dc dn td s) 688 f x = wr (wr (wr I 688 t) 694 td) 689 s := by
  funext b
  unfold mX
  by_cases h8 : b = 688
  · subst h8
    rw [up2_row, wr_ne _ _ (by decide), wr_ne _ _ (by decide), wr_at, wr_ne _ _ (by decide), wr_ne _ _ (by decide), wr_at]
    funext j
    exact h j
  · rw [up2_ne _ _ _ h8]
    by_cases h9 : b = 689
    · subst h9; rw [wr_at, wr_at]
    · rw [wr_ne _ _ h9, wr_ne _ _ h9]
      by_cases h4 : b = 694
      · subst h4; rw [wr_at, wr_at]
      · rw [wr_ne _ _ h4, wr_ne _ _ h4, wr_ne _ _ h8, wr_ne _ _ h8]
theorem mX_8 (I : fw_I) (pl : Nat) (dc dn : Int32) (td s : Nat → Int32) : up2 (mX I pl dc dn td s) 688 8 (nI pl + 1) = mX I (pl + 1) dc dn td s :=
  mX_put I pl dc dn td s 8 _ (obX I (pl + 1) dc dn) (fun j => by unfold obX; by_cases h : j = 8 <;> simp [h, nI_1])
theorem mX_80 (I : fw_I) (pl : Nat) (dc dn : Int32) (td s : Nat → Int32) : up2 (mX I pl dc dn td s) 688 8 (nI pl + 0) = mX I pl dc dn td s :=
  mX_put I pl dc dn td s 8 _ (obX I pl dc dn) (fun j => by unfold obX; by_cases h : j = 8 <;> simp [h, Int32.add_zero])
theorem mX_9 (I : fw_I) (pl : Nat) (dc dn : Int32) (td s : Nat → Int32) (x : Int32) : up2 (mX I pl dc dn td s) 688 9 x = mX I pl x dn td s :=
  mX_put I pl dc dn td s 9 _ (obX I pl x dn) (fun j => by unfold obX; by_cases h : j = 9 <;> simp [h])
theorem mX_11 (I : fw_I) (pl : Nat) (dc dn : Int32) (td s : Nat → Int32) (x : Int32) : up2 (mX I pl dc dn td s) 688 11 x = mX I pl dc x td s :=
  mX_put I pl dc dn td s 11 _ (obX I pl dc x) (fun j => by unfold obX; by_cases h : j = 11 <;> simp [h])
theorem mX_td (I : fw_I) (pl : Nat) (dc dn : Int32) (td s : Nat → Int32) (j : Nat) (x : Int32) : up2 (mX I pl dc dn td s) 694 j x = mX I pl dc dn (upd td j x) s := by
  funext b
  unfold mX
  by_cases h9 : b = 689
  · subst h9; rw [up2_ne _ _ _ (by decide), wr_at, wr_at]
  · rw [wr_ne _ _ h9]
    by_cases h4 : b = 694
    · subst h4; rw [up2_row, wr_at, wr_ne _ _ (by decide), wr_at]; rfl
    · rw [up2_ne _ _ _ h4, wr_ne _ _ h9, wr_ne _ _ h4, wr_ne _ _ h4]
abbrev isN (tx : Nat → Int32) (ln pl : Nat) (lo hi : Int32) : Prop := pl < ln ∧ lo ≤ tx pl ∧ tx pl ≤ hi
theorem i32_btw (a b : Nat) (hb : b < 2 ^ 31) {x : Int32} (h : nI a ≤ x ∧ x ≤ nI b) (hab : a ≤ b) : ∃ c, a ≤ c ∧ c ≤ b ∧ x = nI c := by
  have h1 := i32_le.mp h.1
  rw [nI_toInt (by omega)] at h1
  obtain ⟨c, hc, rfl⟩ := nI_of (x := x) (by rw [i32_lt, Int32.toInt_zero]; omega)
  rw [nI_toInt hc] at h1
  have h2 := (nI_leI hc hb).mp h.2
  exact ⟨c, by omega, h2, rfl⟩
abbrev cpC (tx : Nat → Int32) (ln pl : Nat) : Prop := 0 < tx pl - 48 ∧ isN tx ln (pl + 1) 48 57
def cpl (tx : Nat → Int32) (ln pl : Nat) : Nat := if cpC tx ln pl then pl + 2 else pl + 1
def coin (tx : Nat → Int32) (ln pl : Nat) : Int32 := if cpC tx ln pl then 10 * (tx pl - 48) + tx (pl + 1) - 48 else tx pl - 48
abbrev trC (tx : Nat → Int32) (ln pl : Nat) : Prop := isN tx ln pl 40 40 ∧ isN tx ln (pl + 1) 48 51 ∧ isN tx ln (pl + 2) 97 104 ∧ isN tx ln (pl + 3) 62 62 ∧ isN tx ln (pl + 4) 48 51 ∧ isN tx ln (pl + 5) 36 36 ∧ isN tx ln (pl + 6) 48 57 ∧ isN tx ln (cpl tx ln (pl + 6)) 41 41
abbrev odC (tx : Nat → Int32) (ln pl : Nat) : Prop := isN tx ln pl 49 54 ∨ trC tx ln pl
/-- where an order that is none is found out -/
def fpl (tx : Nat → Int32) (ln pl : Nat) : Nat :=
  if ¬ isN tx ln pl 40 40 then pl else if ¬ isN tx ln (pl + 1) 48 51 then pl + 1 else if ¬ isN tx ln (pl + 2) 97 104 then pl + 2 else if ¬ isN tx ln (pl + 3) 62 62 then pl + 3
  else if ¬ isN tx ln (pl + 4) 48 51 then pl + 4 else if ¬ isN tx ln (pl + 5) 36 36 then pl + 5 else if ¬ isN tx ln (pl + 6) 48 57 then pl + 6 else cpl tx ln (pl + 6)
def odN (tx : Nat → Int32) (ln pl : Nat) : Nat := if isN tx ln pl 49 54 then pl + 1 else cpl tx ln (pl + 6) + 1
/-- what the reference keeps of the order that it has read -/
def ordI (tx : Nat → Int32) (ln pl : Nat) (dc : Int32) (td : Nat → Int32) : Prop := (isN tx ln pl 49 54 ∧ dc = tx pl - 48) ∨ (¬ isN tx ln pl 49 54 ∧ trC tx ln pl ∧ dc = 0 ∧ td 0 = tx (pl + 1) - 48 ∧ td 1 = tx (pl + 2) - 97 ∧ td 2 = tx (pl + 4) - 48 ∧ td 3 = coin tx ln (pl + 6))
theorem cpl_le {tx : Nat → Int32} {ln pl : Nat} (h : isN tx ln pl 48 57) : cpl tx ln pl ≤ ln := by
  unfold cpl
  by_cases hc : cpC tx ln pl
  · rw [if_pos hc]; have := hc.2.1; omega
  · rw [if_neg hc]; have := h.1; omega
theorem dig_pos {x : Int32} (h : 49 ≤ x ∧ x ≤ 54) : ¬ x - 48 ≤ 0 := by
  obtain ⟨c, h1, h2, rfl⟩ := i32_btw 49 54 (by decide) h (by decide)
  rw [show (48 : Int32) = nI 48 from rfl, nI_sub (by omega)]
  exact nI_nle (by omega) (by omega)
set_option maxHeartbeats 4000000 in
set_option maxRecDepth 100000 in
theorem sp_isNext (l : Launch) (g : fw_G) {I : fw_I} {P : fw_P} {s td : Nat → Int32} {pl ln : Nat} {dc dn : Int32} (hM : MSh P) (hln : I 688 7 = nI ln) (hl60 : ln ≤ 60) (hpl : pl ≤ ln) (a b : Int32) : Sp l g kX8_isNext T0 [.ref (g.1 + 688), .int a, .int b] (mX I pl dc dn td s) P T0 0 0 (qI (bI (isN (I 693) ln pl a b)) (mX I pl dc dn td s) P) := by
  have a688 := at_688
  have a693 := at_693
  have a694 := at_694
  obtain ⟨p0, p1, p3, p5, p6, p10, p12, p13⟩ := id hM
  refine Sp.of_V (L := [some (.ref (g.1 + 688)), some (.int a), some (.int b)]) (by decide) (by simp [Value.category]) (Nat.le_of_ble_eq_true rfl) rfl ?_
  refine V_aload_n (i := 0) rfl rfl dX8_isNext_0 rfl ?_
  
  refine V_get (kf := 8) C8 (by decide) l_X8_142 (by assumption) rfl dX8_isNext_1 rfl ?_
  rw [show mX I pl dc dn td s 688 8 = nI pl from rfl]
  refine V_aload_n (i := 0) rfl rfl dX8_isNext_4 rfl ?_
  refine V_get (kf := 7) C8 (by decide) l_X8_139 (by assumption) rfl dX8_isNext_5 rfl ?_
  rw [show mX I pl dc dn td s 688 7 = nI ln from hln]
  refine V_icmp_ge (tgt := 32) dX8_isNext_8 (by decide) rfl (fun h_8 => ?_) (fun h_8 => ?_)
  · refine V_iconst (v := 0) (by decide) dX8_isNext_32 rfl ?_
    exact V_ireturn rfl (by decide) dX8_isNext_33 rfl rfl rfl (qI.of (by first | exact Eq.symm (bI_t ⟨(nI_ltI (by omega) (by omega)).mp (Int32.not_le.mp h_8), bI_nz h_25⟩) | exact Eq.symm (bI_f (fun h => bI_z h_25 h.2)) | exact Eq.symm (bI_f (fun h => Int32.not_le.mpr ((nI_ltI (by omega) (by omega)).mpr h.1) h_8))))
  · refine V_aload_n (i := 0) rfl rfl dX8_isNext_11 rfl ?_
    refine V_getr (kf := 6) C8 (by decide) l_X8_22 (by assumption) rfl (by assumption) dX8_isNext_12 rfl ?_
    refine V_aload_n (i := 0) rfl rfl dX8_isNext_15 rfl ?_
    refine V_get (kf := 8) C8 (by decide) l_X8_142 (by assumption) rfl dX8_isNext_16 rfl ?_
    refine V_iald (by assumption) (fw_ix_nI (by have := (nI_ltI (by omega) (by omega)).mp (Int32.not_le.mp h_8); omega) (by decide)) dX8_isNext_19 rfl ?_
    refine V_iload_n (i := 1) rfl rfl dX8_isNext_20 rfl ?_
    refine V_iload_n (i := 2) rfl rfl dX8_isNext_21 rfl ?_
    refine V_callS (n := 3) (sp_in l g _ P (I 693 pl) a b) o_X8_in m_X8_35 ⟨by decide, by decide⟩ rfl rfl (by first | exact Nat.le_of_ble_eq_true rfl | simp [Value.category]) (Nat.le_refl _) (Nat.le_refl _) rfl dX8_isNext_22 rfl (kI ?_)
    refine V_if_eq (tgt := 32) dX8_isNext_25 (by decide) rfl (fun h_25 => ?_) (fun h_25 => ?_)
    · refine V_iconst (v := 0) (by decide) dX8_isNext_32 rfl ?_
      exact V_ireturn rfl (by decide) dX8_isNext_33 rfl rfl rfl (qI.of (by first | exact Eq.symm (bI_t ⟨(nI_ltI (by omega) (by omega)).mp (Int32.not_le.mp h_8), bI_nz h_25⟩) | exact Eq.symm (bI_f (fun h => bI_z h_25 h.2)) | exact Eq.symm (bI_f (fun h => Int32.not_le.mpr ((nI_ltI (by omega) (by omega)).mpr h.1) h_8))))
    · refine V_iconst (v := 1) (by decide) dX8_isNext_28 rfl ?_
      refine V_goto (tgt := 33) dX8_isNext_29 (by decide) ?_
      exact V_ireturn rfl (by decide) dX8_isNext_33 rfl rfl rfl (qI.of (by first | exact Eq.symm (bI_t ⟨(nI_ltI (by omega) (by omega)).mp (Int32.not_le.mp h_8), bI_nz h_25⟩) | exact Eq.symm (bI_f (fun h => bI_z h_25 h.2)) | exact Eq.symm (bI_f (fun h => Int32.not_le.mpr ((nI_ltI (by omega) (by omega)).mpr h.1) h_8))))

set_option maxHeartbeats 4000000 in
set_option maxRecDepth 100000 in
theorem sp_takes (l : Launch) (g : fw_G) {I : fw_I} {P : fw_P} {s td : Nat → Int32} {pl ln : Nat} {dc dn : Int32} (hM : MSh P) (hln : I 688 7 = nI ln) (hl60 : ln ≤ 60) (hpl : pl ≤ ln) (a : Int32) : Sp l g kX8_takes T0 [.ref (g.1 + 688), .int a] (mX I pl dc dn td s) P T0 0 0 (qJ (fun r I1 P1 => P1 = P ∧ ((r = 1 ∧ isN (I 693) ln pl a a ∧ I1 = mX I (pl + 1) (dc) (dn) (td) (s)) ∨ (r = 0 ∧ ¬ isN (I 693) ln pl a a ∧ I1 = mX I (pl) (dc) (dn) (td) (s))))) := by
  have a688 := at_688
  have a693 := at_693
  have a694 := at_694
  obtain ⟨p0, p1, p3, p5, p6, p10, p12, p13⟩ := id hM
  refine Sp.of_V (L := [some (.ref (g.1 + 688)), some (.int a), none]) (by decide) (by simp [Value.category]) (Nat.le_of_ble_eq_true rfl) rfl ?_
  refine V_aload_n (i := 0) rfl rfl dX8_takes_0 rfl ?_
  refine V_iload_n (i := 1) rfl rfl dX8_takes_1 rfl ?_
  refine V_iload_n (i := 1) rfl rfl dX8_takes_2 rfl ?_
  refine V_call (n := 2) (sp_isNext l g hM hln hl60 hpl a a) o_X8_isNext m_X8_145 ⟨by decide, by decide⟩ (by assumption) rfl rfl (by first | exact Nat.le_of_ble_eq_true rfl | simp [Value.category]) (Nat.le_refl _) (Nat.le_refl _) rfl dX8_takes_3 rfl (kI ?_)
  refine V_istore_n (i := 2) rfl (by decide) rfl dX8_takes_6 rfl ?_
  refine V_aload_n (i := 0) rfl rfl dX8_takes_7 rfl ?_
  refine V_dup (by first | rfl | simp [Value.category]) dX8_takes_8 rfl ?_
  refine V_get (kf := 8) C8 (by decide) l_X8_142 (by assumption) rfl dX8_takes_9 rfl ?_
  rw [show mX I pl dc dn td s 688 8 = nI pl from rfl]
  refine V_iload_n (i := 2) rfl rfl dX8_takes_12 rfl ?_
  refine V_if_eq (tgt := 20) dX8_takes_13 (by decide) rfl (fun h_13 => ?_) (fun h_13 => ?_)
  · refine V_iconst (v := 0) (by decide) dX8_takes_20 rfl ?_
    refine V_iadd dX8_takes_21 rfl ?_
    refine V_puti (kf := 8) C8 (by decide) rfl l_X8_142 rfl rfl rfl rfl (by assumption) dX8_takes_22 rfl ?_
    first | rw [mX_8] | rw [mX_80]
    refine V_iload_n (i := 2) rfl rfl dX8_takes_25 rfl ?_
    exact V_ireturn rfl (bI_narrow _) dX8_takes_26 rfl rfl rfl (by first | (rw [bI_t (bI_nz h_13)]; exact ⟨_, rfl, rfl, Or.inl ⟨rfl, bI_nz h_13, rfl⟩⟩) | (rw [bI_f (bI_z h_13)]; exact ⟨_, rfl, rfl, Or.inr ⟨rfl, bI_z h_13, rfl⟩⟩))
  · refine V_iconst (v := 1) (by decide) dX8_takes_16 rfl ?_
    refine V_goto (tgt := 21) dX8_takes_17 (by decide) ?_
    refine V_iadd dX8_takes_21 rfl ?_
    refine V_puti (kf := 8) C8 (by decide) rfl l_X8_142 rfl rfl rfl rfl (by assumption) dX8_takes_22 rfl ?_
    first | rw [mX_8] | rw [mX_80]
    refine V_iload_n (i := 2) rfl rfl dX8_takes_25 rfl ?_
    exact V_ireturn rfl (bI_narrow _) dX8_takes_26 rfl rfl rfl (by first | (rw [bI_t (bI_nz h_13)]; exact ⟨_, rfl, rfl, Or.inl ⟨rfl, bI_nz h_13, rfl⟩⟩) | (rw [bI_f (bI_z h_13)]; exact ⟨_, rfl, rfl, Or.inr ⟨rfl, bI_z h_13, rfl⟩⟩))

set_option maxHeartbeats 4000000 in
set_option maxRecDepth 100000 in
theorem sp_take (l : Launch) (g : fw_G) {I : fw_I} {P : fw_P} {s td : Nat → Int32} {pl ln : Nat} {dc dn : Int32} (hM : MSh P) (hln : I 688 7 = nI ln) (hl60 : ln ≤ 60) (hpl : pl ≤ ln) {w : Nat} (hw : w < 4) (a b : Int32) : Sp l g kX8_take T0 [.ref (g.1 + 688), .int (nI w), .int a, .int b] (mX I pl dc dn td s) P T0 0 0 (qJ (fun r I1 P1 => P1 = P ∧ ((r = 1 ∧ isN (I 693) ln pl a b ∧ I1 = mX I (pl + 1) (dc) (dn) (upd td w (I 693 pl - a)) (s)) ∨ (r = 0 ∧ ¬ isN (I 693) ln pl a b ∧ I1 = mX I (pl) (dc) (dn) (upd td w 0) (s))))) := by
  have a688 := at_688
  have a693 := at_693
  have a694 := at_694
  obtain ⟨p0, p1, p3, p5, p6, p10, p12, p13⟩ := id hM
  refine Sp.of_V (L := [some (.ref (g.1 + 688)), some (.int (nI w)), some (.int a), some (.int b), none]) (by decide) (by simp [Value.category]) (Nat.le_of_ble_eq_true rfl) rfl ?_
  refine V_aload_n (i := 0) rfl rfl dX8_take_0 rfl ?_
  refine V_iload_n (i := 2) rfl rfl dX8_take_1 rfl ?_
  refine V_iload_n (i := 3) rfl rfl dX8_take_2 rfl ?_
  refine V_call (n := 2) (sp_isNext l g hM hln hl60 hpl a b) o_X8_isNext m_X8_145 ⟨by decide, by decide⟩ (by assumption) rfl rfl (by first | exact Nat.le_of_ble_eq_true rfl | simp [Value.category]) (Nat.le_refl _) (Nat.le_refl _) rfl dX8_take_3 rfl (kI ?_)
  refine V_istore (i := 4) (by decide) rfl dX8_take_6 rfl ?_
  refine V_aload_n (i := 0) rfl rfl dX8_take_8 rfl ?_
  refine V_getr (kf := 10) C8 (by decide) l_X8_25 (by assumption) rfl (by assumption) dX8_take_9 rfl ?_
  refine V_iload_n (i := 1) rfl rfl dX8_take_12 rfl ?_
  refine V_iload (i := 4) rfl dX8_take_13 rfl ?_
  refine V_if_eq (tgt := 32) dX8_take_15 (by decide) rfl (fun h_15 => ?_) (fun h_15 => ?_)
  · refine V_iconst (v := 0) (by decide) dX8_take_32 rfl ?_
    refine V_iast (by assumption) (fw_ix_nI hw (by decide)) dX8_take_33 rfl ?_
    rw [mX_td]
    refine V_aload_n (i := 0) rfl rfl dX8_take_34 rfl ?_
    refine V_dup (by first | rfl | simp [Value.category]) dX8_take_35 rfl ?_
    refine V_get (kf := 8) C8 (by decide) l_X8_142 (by assumption) rfl dX8_take_36 rfl ?_
    first | rw [show mX I pl dc dn (upd td w (I 693 pl - a)) s 688 8 = nI pl from rfl] | rw [show mX I pl dc dn (upd td w 0) s 688 8 = nI pl from rfl]
    refine V_iload (i := 4) rfl dX8_take_39 rfl ?_
    refine V_if_eq (tgt := 48) dX8_take_41 (by decide) rfl (fun h_41 => ?_) (fun h_41 => ?_)
    · refine V_iconst (v := 0) (by decide) dX8_take_48 rfl ?_
      refine V_iadd dX8_take_49 rfl ?_
      refine V_puti (kf := 8) C8 (by decide) rfl l_X8_142 rfl rfl rfl rfl (by assumption) dX8_take_50 rfl ?_
      first | rw [mX_8] | rw [mX_80]
      refine V_iload (i := 4) rfl dX8_take_53 rfl ?_
      exact V_ireturn rfl (bI_narrow _) dX8_take_55 rfl rfl rfl (by first | exact absurd h_15 h_41 | exact absurd h_41 h_15 | (rw [bI_t (bI_nz h_15)]; exact ⟨_, rfl, rfl, Or.inl ⟨rfl, bI_nz h_15, rfl⟩⟩) | (rw [bI_f (bI_z h_15)]; exact ⟨_, rfl, rfl, Or.inr ⟨rfl, bI_z h_15, rfl⟩⟩))
    · refine V_iconst (v := 1) (by decide) dX8_take_44 rfl ?_
      refine V_goto (tgt := 49) dX8_take_45 (by decide) ?_
      refine V_iadd dX8_take_49 rfl ?_
      refine V_puti (kf := 8) C8 (by decide) rfl l_X8_142 rfl rfl rfl rfl (by assumption) dX8_take_50 rfl ?_
      first | rw [mX_8] | rw [mX_80]
      refine V_iload (i := 4) rfl dX8_take_53 rfl ?_
      exact V_ireturn rfl (bI_narrow _) dX8_take_55 rfl rfl rfl (by first | exact absurd h_15 h_41 | exact absurd h_41 h_15 | (rw [bI_t (bI_nz h_15)]; exact ⟨_, rfl, rfl, Or.inl ⟨rfl, bI_nz h_15, rfl⟩⟩) | (rw [bI_f (bI_z h_15)]; exact ⟨_, rfl, rfl, Or.inr ⟨rfl, bI_z h_15, rfl⟩⟩))
  · refine V_aload_n (i := 0) rfl rfl dX8_take_18 rfl ?_
    refine V_getr (kf := 6) C8 (by decide) l_X8_22 (by assumption) rfl (by assumption) dX8_take_19 rfl ?_
    refine V_aload_n (i := 0) rfl rfl dX8_take_22 rfl ?_
    refine V_get (kf := 8) C8 (by decide) l_X8_142 (by assumption) rfl dX8_take_23 rfl ?_
    rw [show mX I pl dc dn td s 688 8 = nI pl from rfl]
    refine V_iald (by assumption) (fw_ix_nI (by have := (bI_nz h_15).1; omega) (by decide)) dX8_take_26 rfl ?_
    rw [show mX I pl dc dn td s 693 pl = I 693 pl from rfl]
    refine V_iload_n (i := 2) rfl rfl dX8_take_27 rfl ?_
    refine V_isub dX8_take_28 rfl ?_
    refine V_goto (tgt := 33) dX8_take_29 (by decide) ?_
    refine V_iast (by assumption) (fw_ix_nI hw (by decide)) dX8_take_33 rfl ?_
    rw [mX_td]
    refine V_aload_n (i := 0) rfl rfl dX8_take_34 rfl ?_
    refine V_dup (by first | rfl | simp [Value.category]) dX8_take_35 rfl ?_
    refine V_get (kf := 8) C8 (by decide) l_X8_142 (by assumption) rfl dX8_take_36 rfl ?_
    first | rw [show mX I pl dc dn (upd td w (I 693 pl - a)) s 688 8 = nI pl from rfl] | rw [show mX I pl dc dn (upd td w 0) s 688 8 = nI pl from rfl]
    refine V_iload (i := 4) rfl dX8_take_39 rfl ?_
    refine V_if_eq (tgt := 48) dX8_take_41 (by decide) rfl (fun h_41 => ?_) (fun h_41 => ?_)
    · refine V_iconst (v := 0) (by decide) dX8_take_48 rfl ?_
      refine V_iadd dX8_take_49 rfl ?_
      refine V_puti (kf := 8) C8 (by decide) rfl l_X8_142 rfl rfl rfl rfl (by assumption) dX8_take_50 rfl ?_
      first | rw [mX_8] | rw [mX_80]
      refine V_iload (i := 4) rfl dX8_take_53 rfl ?_
      exact V_ireturn rfl (bI_narrow _) dX8_take_55 rfl rfl rfl (by first | exact absurd h_15 h_41 | exact absurd h_41 h_15 | (rw [bI_t (bI_nz h_15)]; exact ⟨_, rfl, rfl, Or.inl ⟨rfl, bI_nz h_15, rfl⟩⟩) | (rw [bI_f (bI_z h_15)]; exact ⟨_, rfl, rfl, Or.inr ⟨rfl, bI_z h_15, rfl⟩⟩))
    · refine V_iconst (v := 1) (by decide) dX8_take_44 rfl ?_
      refine V_goto (tgt := 49) dX8_take_45 (by decide) ?_
      refine V_iadd dX8_take_49 rfl ?_
      refine V_puti (kf := 8) C8 (by decide) rfl l_X8_142 rfl rfl rfl rfl (by assumption) dX8_take_50 rfl ?_
      first | rw [mX_8] | rw [mX_80]
      refine V_iload (i := 4) rfl dX8_take_53 rfl ?_
      exact V_ireturn rfl (bI_narrow _) dX8_take_55 rfl rfl rfl (by first | exact absurd h_15 h_41 | exact absurd h_41 h_15 | (rw [bI_t (bI_nz h_15)]; exact ⟨_, rfl, rfl, Or.inl ⟨rfl, bI_nz h_15, rfl⟩⟩) | (rw [bI_f (bI_z h_15)]; exact ⟨_, rfl, rfl, Or.inr ⟨rfl, bI_z h_15, rfl⟩⟩))

set_option maxHeartbeats 4000000 in
set_option maxRecDepth 100000 in
theorem sp_readCoins (l : Launch) (g : fw_G) {I : fw_I} {P : fw_P} {s td : Nat → Int32} {pl ln : Nat} {dc dn : Int32} (hM : MSh P) (hln : I 688 7 = nI ln) (hl60 : ln ≤ 60) (hpl : pl ≤ ln) : Sp l g kX8_readCoins T0 [.ref (g.1 + 688)] (mX I pl dc dn td s) P T0 0 0 (qJ (fun r I1 P1 => P1 = P ∧ ((r = 1 ∧ isN (I 693) ln pl 48 57 ∧ I1 = mX I (cpl (I 693) ln pl) (dc) (dn) (upd td 3 (coin (I 693) ln pl)) (s)) ∨ (r = 0 ∧ ¬ isN (I 693) ln pl 48 57 ∧ I1 = mX I (pl) (dc) (dn) (upd td 3 0) (s))))) := by
  have a688 := at_688
  have a693 := at_693
  have a694 := at_694
  obtain ⟨p0, p1, p3, p5, p6, p10, p12, p13⟩ := id hM
  refine Sp.of_V (L := [some (.ref (g.1 + 688))]) (by decide) (by simp [Value.category]) (Nat.le_of_ble_eq_true rfl) rfl ?_
  refine V_aload_n (i := 0) rfl rfl dX8_readCoins_0 rfl ?_
  refine V_iconst (v := 3) (by decide) dX8_readCoins_1 rfl ?_
  refine V_bipush (v := 48) (by decide) dX8_readCoins_2 rfl ?_
  refine V_bipush (v := 57) (by decide) dX8_readCoins_4 rfl ?_
  refine V_call (n := 3) (sp_take (w := 3) l g hM hln hl60 hpl (by decide) 48 57) o_X8_take m_X8_148 ⟨by decide, by decide⟩ (by assumption) rfl rfl (by first | exact Nat.le_of_ble_eq_true rfl | simp [Value.category]) (Nat.le_refl _) (Nat.le_refl _) rfl dX8_readCoins_6 rfl (kO (fun F_6 h_6 => ?_) (fun F_6 h_6 => ?_))
  · obtain ⟨h_6, rfl⟩ := h_6
    refine V_if_ne (tgt := 14) dX8_readCoins_9 (by decide) rfl (fun _ => ?_) (fun h => absurd h (by decide))
    refine V_aload_n (i := 0) rfl rfl dX8_readCoins_14 rfl ?_
    refine V_getr (kf := 10) C8 (by decide) l_X8_25 (by assumption) rfl (by assumption) dX8_readCoins_15 rfl ?_
    refine V_iconst (v := 3) (by decide) dX8_readCoins_18 rfl ?_
    refine V_iald (by assumption) (fw_ix_nI (j := 3) (by decide) (by decide)) dX8_readCoins_19 rfl ?_
    rw [show mX I (pl + 1) dc dn (upd td 3 (I 693 pl - 48)) s 694 3 = I 693 pl - 48 from rfl]
    refine V_if_le (tgt := 72) dX8_readCoins_20 (by decide) rfl (fun h_20 => ?_) (fun h_20 => ?_)
    · try rw [show ∀ y : Int32, up2 (mX I (pl + 1) dc dn (upd td 3 y) s) 688 8 (mX I (pl + 1) dc dn (upd td 3 y) s 688 8 + 1) = mX I (pl + 1 + 1) dc dn (upd td 3 y) s from fun y => mX_8 I (pl + 1) dc dn _ s]
      refine V_iconst (v := 1) (by decide) dX8_readCoins_72 rfl ?_
      exact V_ireturn rfl (by decide) dX8_readCoins_73 rfl rfl rfl (by
            refine ⟨_, rfl, rfl, Or.inl ⟨rfl, h_6, ?_⟩⟩
            by_cases hc : cpC (I 693) ln pl
            · rw [show coin (I 693) ln pl = _ from if_pos hc, show cpl (I 693) ln pl = _ from if_pos hc]
              all_goals first | exact absurd h_20 (Int32.not_le.mpr hc.1) | exact absurd hc.2 (bI_z h_31) | rfl
            · rw [show coin (I 693) ln pl = _ from if_neg hc, show cpl (I 693) ln pl = _ from if_neg hc]
              all_goals first | exact absurd (⟨Int32.not_le.mp h_20, bI_nz h_31⟩ : cpC (I 693) ln pl) hc | rfl)
    · refine V_aload_n (i := 0) rfl rfl dX8_readCoins_23 rfl ?_
      refine V_bipush (v := 48) (by decide) dX8_readCoins_24 rfl ?_
      refine V_bipush (v := 57) (by decide) dX8_readCoins_26 rfl ?_
      refine V_call (n := 2) (sp_isNext (pl := pl + 1) l g hM hln hl60 (by have := h_6.1; omega) 48 57) o_X8_isNext m_X8_145 ⟨by decide, by decide⟩ (by assumption) rfl rfl (by first | exact Nat.le_of_ble_eq_true rfl | simp [Value.category]) (Nat.le_refl _) (Nat.le_refl _) rfl dX8_readCoins_28 rfl (kI ?_)
      refine V_if_eq (tgt := 72) dX8_readCoins_31 (by decide) rfl (fun h_31 => ?_) (fun h_31 => ?_)
      · try rw [show ∀ y : Int32, up2 (mX I (pl + 1) dc dn (upd td 3 y) s) 688 8 (mX I (pl + 1) dc dn (upd td 3 y) s 688 8 + 1) = mX I (pl + 1 + 1) dc dn (upd td 3 y) s from fun y => mX_8 I (pl + 1) dc dn _ s]
        refine V_iconst (v := 1) (by decide) dX8_readCoins_72 rfl ?_
        exact V_ireturn rfl (by decide) dX8_readCoins_73 rfl rfl rfl (by
              refine ⟨_, rfl, rfl, Or.inl ⟨rfl, h_6, ?_⟩⟩
              by_cases hc : cpC (I 693) ln pl
              · rw [show coin (I 693) ln pl = _ from if_pos hc, show cpl (I 693) ln pl = _ from if_pos hc]
                all_goals first | exact absurd h_20 (Int32.not_le.mpr hc.1) | exact absurd hc.2 (bI_z h_31) | rfl
              · rw [show coin (I 693) ln pl = _ from if_neg hc, show cpl (I 693) ln pl = _ from if_neg hc]
                all_goals first | exact absurd (⟨Int32.not_le.mp h_20, bI_nz h_31⟩ : cpC (I 693) ln pl) hc | rfl)
      · refine V_aload_n (i := 0) rfl rfl dX8_readCoins_34 rfl ?_
        refine V_getr (kf := 10) C8 (by decide) l_X8_25 (by assumption) rfl (by assumption) dX8_readCoins_35 rfl ?_
        refine V_iconst (v := 3) (by decide) dX8_readCoins_38 rfl ?_
        refine V_bipush (v := 10) (by decide) dX8_readCoins_39 rfl ?_
        refine V_aload_n (i := 0) rfl rfl dX8_readCoins_41 rfl ?_
        refine V_getr (kf := 10) C8 (by decide) l_X8_25 (by assumption) rfl (by assumption) dX8_readCoins_42 rfl ?_
        refine V_iconst (v := 3) (by decide) dX8_readCoins_45 rfl ?_
        refine V_iald (by assumption) (fw_ix_nI (j := 3) (by decide) (by decide)) dX8_readCoins_46 rfl ?_
        refine V_imul dX8_readCoins_47 rfl ?_
        refine V_aload_n (i := 0) rfl rfl dX8_readCoins_48 rfl ?_
        refine V_getr (kf := 6) C8 (by decide) l_X8_22 (by assumption) rfl (by assumption) dX8_readCoins_49 rfl ?_
        refine V_aload_n (i := 0) rfl rfl dX8_readCoins_52 rfl ?_
        refine V_get (kf := 8) C8 (by decide) l_X8_142 (by assumption) rfl dX8_readCoins_53 rfl ?_
        rw [show mX I (pl + 1) dc dn (upd td 3 (I 693 pl - 48)) s 688 8 = nI (pl + 1) from rfl]
        refine V_iald (by assumption) (fw_ix_nI (by have := (bI_nz h_31).1; omega) (by decide)) dX8_readCoins_56 rfl ?_
        rw [show mX I (pl + 1) dc dn (upd td 3 (I 693 pl - 48)) s 694 3 = I 693 pl - 48 from rfl, show mX I (pl + 1) dc dn (upd td 3 (I 693 pl - 48)) s 693 (pl + 1) = I 693 (pl + 1) from rfl]
        refine V_iadd dX8_readCoins_57 rfl ?_
        refine V_bipush (v := 48) (by decide) dX8_readCoins_58 rfl ?_
        refine V_isub dX8_readCoins_60 rfl ?_
        refine V_iast (by assumption) (fw_ix_nI (j := 3) (by decide) (by decide)) dX8_readCoins_61 rfl ?_
        rw [mX_td, upd_upd]
        refine V_aload_n (i := 0) rfl rfl dX8_readCoins_62 rfl ?_
        refine V_dup (by first | rfl | simp [Value.category]) dX8_readCoins_63 rfl ?_
        refine V_get (kf := 8) C8 (by decide) l_X8_142 (by assumption) rfl dX8_readCoins_64 rfl ?_
        
        refine V_iconst (v := 1) (by decide) dX8_readCoins_67 rfl ?_
        refine V_iadd dX8_readCoins_68 rfl ?_
        refine V_puti (kf := 8) C8 (by decide) rfl l_X8_142 rfl rfl rfl rfl (by assumption) dX8_readCoins_69 rfl ?_
        try rw [show ∀ y : Int32, up2 (mX I (pl + 1) dc dn (upd td 3 y) s) 688 8 (mX I (pl + 1) dc dn (upd td 3 y) s 688 8 + 1) = mX I (pl + 1 + 1) dc dn (upd td 3 y) s from fun y => mX_8 I (pl + 1) dc dn _ s]
        refine V_iconst (v := 1) (by decide) dX8_readCoins_72 rfl ?_
        exact V_ireturn rfl (by decide) dX8_readCoins_73 rfl rfl rfl (by
              refine ⟨_, rfl, rfl, Or.inl ⟨rfl, h_6, ?_⟩⟩
              by_cases hc : cpC (I 693) ln pl
              · rw [show coin (I 693) ln pl = _ from if_pos hc, show cpl (I 693) ln pl = _ from if_pos hc]
                all_goals first | exact absurd h_20 (Int32.not_le.mpr hc.1) | exact absurd hc.2 (bI_z h_31) | rfl
              · rw [show coin (I 693) ln pl = _ from if_neg hc, show cpl (I 693) ln pl = _ from if_neg hc]
                all_goals first | exact absurd (⟨Int32.not_le.mp h_20, bI_nz h_31⟩ : cpC (I 693) ln pl) hc | rfl)
  · obtain ⟨h_6, rfl⟩ := h_6
    refine V_if_ne (tgt := 14) dX8_readCoins_9 (by decide) rfl (fun h => absurd rfl h) (fun _ => ?_)
    refine V_iconst (v := 0) (by decide) dX8_readCoins_12 rfl ?_
    exact V_ireturn rfl (by decide) dX8_readCoins_13 rfl rfl rfl (⟨_, rfl, rfl, Or.inr ⟨rfl, h_6, rfl⟩⟩)

set_option maxHeartbeats 4000000 in
set_option maxRecDepth 100000 in
theorem sp_readOrder (l : Launch) (g : fw_G) {I : fw_I} {P : fw_P} {s td : Nat → Int32} {pl ln : Nat} {dc dn : Int32} (hM : MSh P) (hln : I 688 7 = nI ln) (hl60 : ln ≤ 60) (hpl : pl ≤ ln) : Sp l g kX8_readOrder T0 [.ref (g.1 + 688)] (mX I pl dc dn td s) P T0 0 0 (qJ (fun r I1 P1 => P1 = P ∧ ((r = 1 ∧ odC (I 693) ln pl ∧ (∃ dc1 td1, ordI (I 693) ln pl dc1 td1 ∧ I1 = mX I (odN (I 693) ln pl) (dc1) (dn) (td1) (s))) ∨ (r = 0 ∧ ¬ odC (I 693) ln pl ∧ ∃ td1, I1 = mX I (fpl (I 693) ln pl) (0) (dn) (td1) (s))))) := by
  have a688 := at_688
  have a693 := at_693
  have a694 := at_694
  obtain ⟨p0, p1, p3, p5, p6, p10, p12, p13⟩ := id hM
  refine Sp.of_V (L := [some (.ref (g.1 + 688))]) (by decide) (by simp [Value.category]) (Nat.le_of_ble_eq_true rfl) rfl ?_
  refine V_aload_n (i := 0) rfl rfl dX8_readOrder_0 rfl ?_
  refine V_aload_n (i := 0) rfl rfl dX8_readOrder_1 rfl ?_
  refine V_bipush (v := 49) (by decide) dX8_readOrder_2 rfl ?_
  refine V_bipush (v := 54) (by decide) dX8_readOrder_4 rfl ?_
  refine V_call (n := 2) (sp_isNext l g hM hln hl60 hpl 49 54) o_X8_isNext m_X8_145 ⟨by decide, by decide⟩ (by assumption) rfl rfl (by first | exact Nat.le_of_ble_eq_true rfl | simp [Value.category]) (Nat.le_refl _) (Nat.le_refl _) rfl dX8_readOrder_6 rfl (kI ?_)
  refine V_if_eq (tgt := 27) dX8_readOrder_9 (by decide) rfl (fun h_9 => ?_) (fun h_9 => ?_)
  · refine V_iconst (v := 0) (by decide) dX8_readOrder_27 rfl ?_
    refine V_puti (kf := 9) C8 (by decide) rfl l_X8_151 rfl rfl rfl rfl (by assumption) dX8_readOrder_28 rfl ?_
    rw [mX_9]
    refine V_aload_n (i := 0) rfl rfl dX8_readOrder_31 rfl ?_
    refine V_get (kf := 9) C8 (by decide) l_X8_151 (by assumption) rfl dX8_readOrder_32 rfl ?_
    first | rw [show mX I pl (I 693 pl - 48) dn td s 688 9 = I 693 pl - 48 from rfl] | rw [show mX I pl 0 dn td s 688 9 = 0 from rfl]
    refine V_if_le (tgt := 50) dX8_readOrder_35 (by decide) rfl (fun _ => ?_) (fun h => absurd (by decide : (0 : Int32) ≤ 0) h)
    refine V_aload_n (i := 0) rfl rfl dX8_readOrder_50 rfl ?_
    refine V_bipush (v := 40) (by decide) dX8_readOrder_51 rfl ?_
    refine V_call (n := 1) (sp_takes (pl := pl) l g hM hln hl60 hpl 40) o_X8_takes m_X8_154 ⟨by decide, by decide⟩ (by assumption) rfl rfl (by first | exact Nat.le_of_ble_eq_true rfl | simp [Value.category]) (Nat.le_refl _) (Nat.le_refl _) rfl dX8_readOrder_53 rfl (kO (fun F_53 h_53 => ?_) (fun F_53 h_53 => ?_))
    · obtain ⟨h_53, rfl⟩ := h_53
      refine V_if_eq (tgt := 133) dX8_readOrder_56 (by decide) rfl (fun h => absurd h (by decide)) (fun _ => ?_)
      refine V_aload_n (i := 0) rfl rfl dX8_readOrder_59 rfl ?_
      refine V_iconst (v := 0) (by decide) dX8_readOrder_60 rfl ?_
      refine V_bipush (v := 48) (by decide) dX8_readOrder_61 rfl ?_
      refine V_bipush (v := 51) (by decide) dX8_readOrder_63 rfl ?_
      refine V_call (n := 3) (sp_take (w := 0) (pl := pl + 1) l g hM hln hl60 (by have := h_53.1; omega) (by decide) 48 51) o_X8_take m_X8_148 ⟨by decide, by decide⟩ (by assumption) rfl rfl (by first | exact Nat.le_of_ble_eq_true rfl | simp [Value.category]) (Nat.le_refl _) (Nat.le_refl _) rfl dX8_readOrder_65 rfl (kO (fun F_65 h_65 => ?_) (fun F_65 h_65 => ?_))
      · obtain ⟨h_65, rfl⟩ := h_65
        refine V_if_eq (tgt := 133) dX8_readOrder_68 (by decide) rfl (fun h => absurd h (by decide)) (fun _ => ?_)
        refine V_aload_n (i := 0) rfl rfl dX8_readOrder_71 rfl ?_
        refine V_iconst (v := 1) (by decide) dX8_readOrder_72 rfl ?_
        refine V_bipush (v := 97) (by decide) dX8_readOrder_73 rfl ?_
        refine V_bipush (v := 104) (by decide) dX8_readOrder_75 rfl ?_
        refine V_call (n := 3) (sp_take (w := 1) (pl := pl + 2) l g hM hln hl60 (by have := h_65.1; omega) (by decide) 97 104) o_X8_take m_X8_148 ⟨by decide, by decide⟩ (by assumption) rfl rfl (by first | exact Nat.le_of_ble_eq_true rfl | simp [Value.category]) (Nat.le_refl _) (Nat.le_refl _) rfl dX8_readOrder_77 rfl (kO (fun F_77 h_77 => ?_) (fun F_77 h_77 => ?_))
        · obtain ⟨h_77, rfl⟩ := h_77
          refine V_if_eq (tgt := 133) dX8_readOrder_80 (by decide) rfl (fun h => absurd h (by decide)) (fun _ => ?_)
          refine V_aload_n (i := 0) rfl rfl dX8_readOrder_83 rfl ?_
          refine V_bipush (v := 62) (by decide) dX8_readOrder_84 rfl ?_
          refine V_call (n := 1) (sp_takes (pl := pl + 3) l g hM hln hl60 (by have := h_77.1; omega) 62) o_X8_takes m_X8_154 ⟨by decide, by decide⟩ (by assumption) rfl rfl (by first | exact Nat.le_of_ble_eq_true rfl | simp [Value.category]) (Nat.le_refl _) (Nat.le_refl _) rfl dX8_readOrder_86 rfl (kO (fun F_86 h_86 => ?_) (fun F_86 h_86 => ?_))
          · obtain ⟨h_86, rfl⟩ := h_86
            refine V_if_eq (tgt := 133) dX8_readOrder_89 (by decide) rfl (fun h => absurd h (by decide)) (fun _ => ?_)
            refine V_aload_n (i := 0) rfl rfl dX8_readOrder_92 rfl ?_
            refine V_iconst (v := 2) (by decide) dX8_readOrder_93 rfl ?_
            refine V_bipush (v := 48) (by decide) dX8_readOrder_94 rfl ?_
            refine V_bipush (v := 51) (by decide) dX8_readOrder_96 rfl ?_
            refine V_call (n := 3) (sp_take (w := 2) (pl := pl + 4) l g hM hln hl60 (by have := h_86.1; omega) (by decide) 48 51) o_X8_take m_X8_148 ⟨by decide, by decide⟩ (by assumption) rfl rfl (by first | exact Nat.le_of_ble_eq_true rfl | simp [Value.category]) (Nat.le_refl _) (Nat.le_refl _) rfl dX8_readOrder_98 rfl (kO (fun F_98 h_98 => ?_) (fun F_98 h_98 => ?_))
            · obtain ⟨h_98, rfl⟩ := h_98
              refine V_if_eq (tgt := 133) dX8_readOrder_101 (by decide) rfl (fun h => absurd h (by decide)) (fun _ => ?_)
              refine V_aload_n (i := 0) rfl rfl dX8_readOrder_104 rfl ?_
              refine V_bipush (v := 36) (by decide) dX8_readOrder_105 rfl ?_
              refine V_call (n := 1) (sp_takes (pl := pl + 5) l g hM hln hl60 (by have := h_98.1; omega) 36) o_X8_takes m_X8_154 ⟨by decide, by decide⟩ (by assumption) rfl rfl (by first | exact Nat.le_of_ble_eq_true rfl | simp [Value.category]) (Nat.le_refl _) (Nat.le_refl _) rfl dX8_readOrder_107 rfl (kO (fun F_107 h_107 => ?_) (fun F_107 h_107 => ?_))
              · obtain ⟨h_107, rfl⟩ := h_107
                refine V_if_eq (tgt := 133) dX8_readOrder_110 (by decide) rfl (fun h => absurd h (by decide)) (fun _ => ?_)
                refine V_aload_n (i := 0) rfl rfl dX8_readOrder_113 rfl ?_
                refine V_call (n := 0) (sp_readCoins (pl := pl + 6) l g hM hln hl60 (by have := h_107.1; omega)) o_X8_readCoins m_X8_157 ⟨by decide, by decide⟩ (by assumption) rfl rfl (by first | exact Nat.le_of_ble_eq_true rfl | simp [Value.category]) (Nat.le_refl _) (Nat.le_refl _) rfl dX8_readOrder_114 rfl (kO (fun F_114 h_114 => ?_) (fun F_114 h_114 => ?_))
                · obtain ⟨h_114, rfl⟩ := h_114
                  refine V_if_eq (tgt := 133) dX8_readOrder_117 (by decide) rfl (fun h => absurd h (by decide)) (fun _ => ?_)
                  refine V_aload_n (i := 0) rfl rfl dX8_readOrder_120 rfl ?_
                  refine V_bipush (v := 41) (by decide) dX8_readOrder_121 rfl ?_
                  refine V_call (n := 1) (sp_takes (pl := cpl (I 693) ln (pl + 6)) l g hM hln hl60 (cpl_le h_114) 41) o_X8_takes m_X8_154 ⟨by decide, by decide⟩ (by assumption) rfl rfl (by first | exact Nat.le_of_ble_eq_true rfl | simp [Value.category]) (Nat.le_refl _) (Nat.le_refl _) rfl dX8_readOrder_123 rfl (kO (fun F_123 h_123 => ?_) (fun F_123 h_123 => ?_))
                  · obtain ⟨h_123, rfl⟩ := h_123
                    refine V_if_eq (tgt := 133) dX8_readOrder_126 (by decide) rfl (fun h => absurd h (by decide)) (fun _ => ?_)
                    refine V_iconst (v := 1) (by decide) dX8_readOrder_129 rfl ?_
                    refine V_goto (tgt := 134) dX8_readOrder_130 (by decide) ?_
                    exact V_ireturn rfl (by decide) dX8_readOrder_134 rfl rfl rfl (by first | exact ⟨_, rfl, rfl, Or.inl ⟨rfl, Or.inr ⟨h_53, h_65, h_77, h_86, h_98, h_107, h_114, h_123⟩, _, _, Or.inr ⟨bI_z h_9, ⟨h_53, h_65, h_77, h_86, h_98, h_107, h_114, h_123⟩, rfl, rfl, rfl, rfl, rfl⟩, by rw [show odN (I 693) ln pl = cpl (I 693) ln (pl + 6) + 1 from if_neg (bI_z h_9)]⟩⟩ | (first | exact ⟨_, rfl, rfl, Or.inr ⟨rfl, fun h => h.elim (bI_z h_9) (fun h => h_53 h.1), _, by rw [show fpl (I 693) ln pl = pl from by unfold fpl; rw [if_pos (show ¬ isN (I 693) ln pl 40 40 from h_53)]]⟩⟩ | exact ⟨_, rfl, rfl, Or.inr ⟨rfl, fun h => h.elim (bI_z h_9) (fun h => h_65 h.2.1), _, by rw [show fpl (I 693) ln pl = pl + 1 from by unfold fpl; rw [if_neg (show ¬ ¬ isN (I 693) ln pl 40 40 from fun h => h h_53), if_pos (show ¬ isN (I 693) ln (pl + 1) 48 51 from h_65)]]⟩⟩ | exact ⟨_, rfl, rfl, Or.inr ⟨rfl, fun h => h.elim (bI_z h_9) (fun h => h_77 h.2.2.1), _, by rw [show fpl (I 693) ln pl = pl + 2 from by unfold fpl; rw [if_neg (show ¬ ¬ isN (I 693) ln pl 40 40 from fun h => h h_53), if_neg (show ¬ ¬ isN (I 693) ln (pl + 1) 48 51 from fun h => h h_65), if_pos (show ¬ isN (I 693) ln (pl + 2) 97 104 from h_77)]]⟩⟩ | exact ⟨_, rfl, rfl, Or.inr ⟨rfl, fun h => h.elim (bI_z h_9) (fun h => h_86 h.2.2.2.1), _, by rw [show fpl (I 693) ln pl = pl + 3 from by unfold fpl; rw [if_neg (show ¬ ¬ isN (I 693) ln pl 40 40 from fun h => h h_53), if_neg (show ¬ ¬ isN (I 693) ln (pl + 1) 48 51 from fun h => h h_65), if_neg (show ¬ ¬ isN (I 693) ln (pl + 2) 97 104 from fun h => h h_77), if_pos (show ¬ isN (I 693) ln (pl + 3) 62 62 from h_86)]]⟩⟩ | exact ⟨_, rfl, rfl, Or.inr ⟨rfl, fun h => h.elim (bI_z h_9) (fun h => h_98 h.2.2.2.2.1), _, by rw [show fpl (I 693) ln pl = pl + 4 from by unfold fpl; rw [if_neg (show ¬ ¬ isN (I 693) ln pl 40 40 from fun h => h h_53), if_neg (show ¬ ¬ isN (I 693) ln (pl + 1) 48 51 from fun h => h h_65), if_neg (show ¬ ¬ isN (I 693) ln (pl + 2) 97 104 from fun h => h h_77), if_neg (show ¬ ¬ isN (I 693) ln (pl + 3) 62 62 from fun h => h h_86), if_pos (show ¬ isN (I 693) ln (pl + 4) 48 51 from h_98)]]⟩⟩ | exact ⟨_, rfl, rfl, Or.inr ⟨rfl, fun h => h.elim (bI_z h_9) (fun h => h_107 h.2.2.2.2.2.1), _, by rw [show fpl (I 693) ln pl = pl + 5 from by unfold fpl; rw [if_neg (show ¬ ¬ isN (I 693) ln pl 40 40 from fun h => h h_53), if_neg (show ¬ ¬ isN (I 693) ln (pl + 1) 48 51 from fun h => h h_65), if_neg (show ¬ ¬ isN (I 693) ln (pl + 2) 97 104 from fun h => h h_77), if_neg (show ¬ ¬ isN (I 693) ln (pl + 3) 62 62 from fun h => h h_86), if_neg (show ¬ ¬ isN (I 693) ln (pl + 4) 48 51 from fun h => h h_98), if_pos (show ¬ isN (I 693) ln (pl + 5) 36 36 from h_107)]]⟩⟩ | exact ⟨_, rfl, rfl, Or.inr ⟨rfl, fun h => h.elim (bI_z h_9) (fun h => h_114 h.2.2.2.2.2.2.1), _, by rw [show fpl (I 693) ln pl = pl + 6 from by unfold fpl; rw [if_neg (show ¬ ¬ isN (I 693) ln pl 40 40 from fun h => h h_53), if_neg (show ¬ ¬ isN (I 693) ln (pl + 1) 48 51 from fun h => h h_65), if_neg (show ¬ ¬ isN (I 693) ln (pl + 2) 97 104 from fun h => h h_77), if_neg (show ¬ ¬ isN (I 693) ln (pl + 3) 62 62 from fun h => h h_86), if_neg (show ¬ ¬ isN (I 693) ln (pl + 4) 48 51 from fun h => h h_98), if_neg (show ¬ ¬ isN (I 693) ln (pl + 5) 36 36 from fun h => h h_107), if_pos (show ¬ isN (I 693) ln (pl + 6) 48 57 from h_114)]]⟩⟩ | exact ⟨_, rfl, rfl, Or.inr ⟨rfl, fun h => h.elim (bI_z h_9) (fun h => h_123 h.2.2.2.2.2.2.2), _, by rw [show fpl (I 693) ln pl = cpl (I 693) ln (pl + 6) from by unfold fpl; rw [if_neg (show ¬ ¬ isN (I 693) ln pl 40 40 from fun h => h h_53), if_neg (show ¬ ¬ isN (I 693) ln (pl + 1) 48 51 from fun h => h h_65), if_neg (show ¬ ¬ isN (I 693) ln (pl + 2) 97 104 from fun h => h h_77), if_neg (show ¬ ¬ isN (I 693) ln (pl + 3) 62 62 from fun h => h h_86), if_neg (show ¬ ¬ isN (I 693) ln (pl + 4) 48 51 from fun h => h h_98), if_neg (show ¬ ¬ isN (I 693) ln (pl + 5) 36 36 from fun h => h h_107), if_neg (show ¬ ¬ isN (I 693) ln (pl + 6) 48 57 from fun h => h h_114)]]⟩⟩))
                  · obtain ⟨h_123, rfl⟩ := h_123
                    refine V_if_eq (tgt := 133) dX8_readOrder_126 (by decide) rfl (fun _ => ?_) (fun h => absurd rfl h)
                    refine V_iconst (v := 0) (by decide) dX8_readOrder_133 rfl ?_
                    exact V_ireturn rfl (by decide) dX8_readOrder_134 rfl rfl rfl (by first | exact ⟨_, rfl, rfl, Or.inl ⟨rfl, Or.inr ⟨h_53, h_65, h_77, h_86, h_98, h_107, h_114, h_123⟩, _, _, Or.inr ⟨bI_z h_9, ⟨h_53, h_65, h_77, h_86, h_98, h_107, h_114, h_123⟩, rfl, rfl, rfl, rfl, rfl⟩, by rw [show odN (I 693) ln pl = cpl (I 693) ln (pl + 6) + 1 from if_neg (bI_z h_9)]⟩⟩ | (first | exact ⟨_, rfl, rfl, Or.inr ⟨rfl, fun h => h.elim (bI_z h_9) (fun h => h_53 h.1), _, by rw [show fpl (I 693) ln pl = pl from by unfold fpl; rw [if_pos (show ¬ isN (I 693) ln pl 40 40 from h_53)]]⟩⟩ | exact ⟨_, rfl, rfl, Or.inr ⟨rfl, fun h => h.elim (bI_z h_9) (fun h => h_65 h.2.1), _, by rw [show fpl (I 693) ln pl = pl + 1 from by unfold fpl; rw [if_neg (show ¬ ¬ isN (I 693) ln pl 40 40 from fun h => h h_53), if_pos (show ¬ isN (I 693) ln (pl + 1) 48 51 from h_65)]]⟩⟩ | exact ⟨_, rfl, rfl, Or.inr ⟨rfl, fun h => h.elim (bI_z h_9) (fun h => h_77 h.2.2.1), _, by rw [show fpl (I 693) ln pl = pl + 2 from by unfold fpl; rw [if_neg (show ¬ ¬ isN (I 693) ln pl 40 40 from fun h => h h_53), if_neg (show ¬ ¬ isN (I 693) ln (pl + 1) 48 51 from fun h => h h_65), if_pos (show ¬ isN (I 693) ln (pl + 2) 97 104 from h_77)]]⟩⟩ | exact ⟨_, rfl, rfl, Or.inr ⟨rfl, fun h => h.elim (bI_z h_9) (fun h => h_86 h.2.2.2.1), _, by rw [show fpl (I 693) ln pl = pl + 3 from by unfold fpl; rw [if_neg (show ¬ ¬ isN (I 693) ln pl 40 40 from fun h => h h_53), if_neg (show ¬ ¬ isN (I 693) ln (pl + 1) 48 51 from fun h => h h_65), if_neg (show ¬ ¬ isN (I 693) ln (pl + 2) 97 104 from fun h => h h_77), if_pos (show ¬ isN (I 693) ln (pl + 3) 62 62 from h_86)]]⟩⟩ | exact ⟨_, rfl, rfl, Or.inr ⟨rfl, fun h => h.elim (bI_z h_9) (fun h => h_98 h.2.2.2.2.1), _, by rw [show fpl (I 693) ln pl = pl + 4 from by unfold fpl; rw [if_neg (show ¬ ¬ isN (I 693) ln pl 40 40 from fun h => h h_53), if_neg (show ¬ ¬ isN (I 693) ln (pl + 1) 48 51 from fun h => h h_65), if_neg (show ¬ ¬ isN (I 693) ln (pl + 2) 97 104 from fun h => h h_77), if_neg (show ¬ ¬ isN (I 693) ln (pl + 3) 62 62 from fun h => h h_86), if_pos (show ¬ isN (I 693) ln (pl + 4) 48 51 from h_98)]]⟩⟩ | exact ⟨_, rfl, rfl, Or.inr ⟨rfl, fun h => h.elim (bI_z h_9) (fun h => h_107 h.2.2.2.2.2.1), _, by rw [show fpl (I 693) ln pl = pl + 5 from by unfold fpl; rw [if_neg (show ¬ ¬ isN (I 693) ln pl 40 40 from fun h => h h_53), if_neg (show ¬ ¬ isN (I 693) ln (pl + 1) 48 51 from fun h => h h_65), if_neg (show ¬ ¬ isN (I 693) ln (pl + 2) 97 104 from fun h => h h_77), if_neg (show ¬ ¬ isN (I 693) ln (pl + 3) 62 62 from fun h => h h_86), if_neg (show ¬ ¬ isN (I 693) ln (pl + 4) 48 51 from fun h => h h_98), if_pos (show ¬ isN (I 693) ln (pl + 5) 36 36 from h_107)]]⟩⟩ | exact ⟨_, rfl, rfl, Or.inr ⟨rfl, fun h => h.elim (bI_z h_9) (fun h => h_114 h.2.2.2.2.2.2.1), _, by rw [show fpl (I 693) ln pl = pl + 6 from by unfold fpl; rw [if_neg (show ¬ ¬ isN (I 693) ln pl 40 40 from fun h => h h_53), if_neg (show ¬ ¬ isN (I 693) ln (pl + 1) 48 51 from fun h => h h_65), if_neg (show ¬ ¬ isN (I 693) ln (pl + 2) 97 104 from fun h => h h_77), if_neg (show ¬ ¬ isN (I 693) ln (pl + 3) 62 62 from fun h => h h_86), if_neg (show ¬ ¬ isN (I 693) ln (pl + 4) 48 51 from fun h => h h_98), if_neg (show ¬ ¬ isN (I 693) ln (pl + 5) 36 36 from fun h => h h_107), if_pos (show ¬ isN (I 693) ln (pl + 6) 48 57 from h_114)]]⟩⟩ | exact ⟨_, rfl, rfl, Or.inr ⟨rfl, fun h => h.elim (bI_z h_9) (fun h => h_123 h.2.2.2.2.2.2.2), _, by rw [show fpl (I 693) ln pl = cpl (I 693) ln (pl + 6) from by unfold fpl; rw [if_neg (show ¬ ¬ isN (I 693) ln pl 40 40 from fun h => h h_53), if_neg (show ¬ ¬ isN (I 693) ln (pl + 1) 48 51 from fun h => h h_65), if_neg (show ¬ ¬ isN (I 693) ln (pl + 2) 97 104 from fun h => h h_77), if_neg (show ¬ ¬ isN (I 693) ln (pl + 3) 62 62 from fun h => h h_86), if_neg (show ¬ ¬ isN (I 693) ln (pl + 4) 48 51 from fun h => h h_98), if_neg (show ¬ ¬ isN (I 693) ln (pl + 5) 36 36 from fun h => h h_107), if_neg (show ¬ ¬ isN (I 693) ln (pl + 6) 48 57 from fun h => h h_114)]]⟩⟩))
                · obtain ⟨h_114, rfl⟩ := h_114
                  refine V_if_eq (tgt := 133) dX8_readOrder_117 (by decide) rfl (fun _ => ?_) (fun h => absurd rfl h)
                  refine V_iconst (v := 0) (by decide) dX8_readOrder_133 rfl ?_
                  exact V_ireturn rfl (by decide) dX8_readOrder_134 rfl rfl rfl (by first | exact ⟨_, rfl, rfl, Or.inl ⟨rfl, Or.inr ⟨h_53, h_65, h_77, h_86, h_98, h_107, h_114, h_123⟩, _, _, Or.inr ⟨bI_z h_9, ⟨h_53, h_65, h_77, h_86, h_98, h_107, h_114, h_123⟩, rfl, rfl, rfl, rfl, rfl⟩, by rw [show odN (I 693) ln pl = cpl (I 693) ln (pl + 6) + 1 from if_neg (bI_z h_9)]⟩⟩ | (first | exact ⟨_, rfl, rfl, Or.inr ⟨rfl, fun h => h.elim (bI_z h_9) (fun h => h_53 h.1), _, by rw [show fpl (I 693) ln pl = pl from by unfold fpl; rw [if_pos (show ¬ isN (I 693) ln pl 40 40 from h_53)]]⟩⟩ | exact ⟨_, rfl, rfl, Or.inr ⟨rfl, fun h => h.elim (bI_z h_9) (fun h => h_65 h.2.1), _, by rw [show fpl (I 693) ln pl = pl + 1 from by unfold fpl; rw [if_neg (show ¬ ¬ isN (I 693) ln pl 40 40 from fun h => h h_53), if_pos (show ¬ isN (I 693) ln (pl + 1) 48 51 from h_65)]]⟩⟩ | exact ⟨_, rfl, rfl, Or.inr ⟨rfl, fun h => h.elim (bI_z h_9) (fun h => h_77 h.2.2.1), _, by rw [show fpl (I 693) ln pl = pl + 2 from by unfold fpl; rw [if_neg (show ¬ ¬ isN (I 693) ln pl 40 40 from fun h => h h_53), if_neg (show ¬ ¬ isN (I 693) ln (pl + 1) 48 51 from fun h => h h_65), if_pos (show ¬ isN (I 693) ln (pl + 2) 97 104 from h_77)]]⟩⟩ | exact ⟨_, rfl, rfl, Or.inr ⟨rfl, fun h => h.elim (bI_z h_9) (fun h => h_86 h.2.2.2.1), _, by rw [show fpl (I 693) ln pl = pl + 3 from by unfold fpl; rw [if_neg (show ¬ ¬ isN (I 693) ln pl 40 40 from fun h => h h_53), if_neg (show ¬ ¬ isN (I 693) ln (pl + 1) 48 51 from fun h => h h_65), if_neg (show ¬ ¬ isN (I 693) ln (pl + 2) 97 104 from fun h => h h_77), if_pos (show ¬ isN (I 693) ln (pl + 3) 62 62 from h_86)]]⟩⟩ | exact ⟨_, rfl, rfl, Or.inr ⟨rfl, fun h => h.elim (bI_z h_9) (fun h => h_98 h.2.2.2.2.1), _, by rw [show fpl (I 693) ln pl = pl + 4 from by unfold fpl; rw [if_neg (show ¬ ¬ isN (I 693) ln pl 40 40 from fun h => h h_53), if_neg (show ¬ ¬ isN (I 693) ln (pl + 1) 48 51 from fun h => h h_65), if_neg (show ¬ ¬ isN (I 693) ln (pl + 2) 97 104 from fun h => h h_77), if_neg (show ¬ ¬ isN (I 693) ln (pl + 3) 62 62 from fun h => h h_86), if_pos (show ¬ isN (I 693) ln (pl + 4) 48 51 from h_98)]]⟩⟩ | exact ⟨_, rfl, rfl, Or.inr ⟨rfl, fun h => h.elim (bI_z h_9) (fun h => h_107 h.2.2.2.2.2.1), _, by rw [show fpl (I 693) ln pl = pl + 5 from by unfold fpl; rw [if_neg (show ¬ ¬ isN (I 693) ln pl 40 40 from fun h => h h_53), if_neg (show ¬ ¬ isN (I 693) ln (pl + 1) 48 51 from fun h => h h_65), if_neg (show ¬ ¬ isN (I 693) ln (pl + 2) 97 104 from fun h => h h_77), if_neg (show ¬ ¬ isN (I 693) ln (pl + 3) 62 62 from fun h => h h_86), if_neg (show ¬ ¬ isN (I 693) ln (pl + 4) 48 51 from fun h => h h_98), if_pos (show ¬ isN (I 693) ln (pl + 5) 36 36 from h_107)]]⟩⟩ | exact ⟨_, rfl, rfl, Or.inr ⟨rfl, fun h => h.elim (bI_z h_9) (fun h => h_114 h.2.2.2.2.2.2.1), _, by rw [show fpl (I 693) ln pl = pl + 6 from by unfold fpl; rw [if_neg (show ¬ ¬ isN (I 693) ln pl 40 40 from fun h => h h_53), if_neg (show ¬ ¬ isN (I 693) ln (pl + 1) 48 51 from fun h => h h_65), if_neg (show ¬ ¬ isN (I 693) ln (pl + 2) 97 104 from fun h => h h_77), if_neg (show ¬ ¬ isN (I 693) ln (pl + 3) 62 62 from fun h => h h_86), if_neg (show ¬ ¬ isN (I 693) ln (pl + 4) 48 51 from fun h => h h_98), if_neg (show ¬ ¬ isN (I 693) ln (pl + 5) 36 36 from fun h => h h_107), if_pos (show ¬ isN (I 693) ln (pl + 6) 48 57 from h_114)]]⟩⟩ | exact ⟨_, rfl, rfl, Or.inr ⟨rfl, fun h => h.elim (bI_z h_9) (fun h => h_123 h.2.2.2.2.2.2.2), _, by rw [show fpl (I 693) ln pl = cpl (I 693) ln (pl + 6) from by unfold fpl; rw [if_neg (show ¬ ¬ isN (I 693) ln pl 40 40 from fun h => h h_53), if_neg (show ¬ ¬ isN (I 693) ln (pl + 1) 48 51 from fun h => h h_65), if_neg (show ¬ ¬ isN (I 693) ln (pl + 2) 97 104 from fun h => h h_77), if_neg (show ¬ ¬ isN (I 693) ln (pl + 3) 62 62 from fun h => h h_86), if_neg (show ¬ ¬ isN (I 693) ln (pl + 4) 48 51 from fun h => h h_98), if_neg (show ¬ ¬ isN (I 693) ln (pl + 5) 36 36 from fun h => h h_107), if_neg (show ¬ ¬ isN (I 693) ln (pl + 6) 48 57 from fun h => h h_114)]]⟩⟩))
              · obtain ⟨h_107, rfl⟩ := h_107
                refine V_if_eq (tgt := 133) dX8_readOrder_110 (by decide) rfl (fun _ => ?_) (fun h => absurd rfl h)
                refine V_iconst (v := 0) (by decide) dX8_readOrder_133 rfl ?_
                exact V_ireturn rfl (by decide) dX8_readOrder_134 rfl rfl rfl (by first | exact ⟨_, rfl, rfl, Or.inl ⟨rfl, Or.inr ⟨h_53, h_65, h_77, h_86, h_98, h_107, h_114, h_123⟩, _, _, Or.inr ⟨bI_z h_9, ⟨h_53, h_65, h_77, h_86, h_98, h_107, h_114, h_123⟩, rfl, rfl, rfl, rfl, rfl⟩, by rw [show odN (I 693) ln pl = cpl (I 693) ln (pl + 6) + 1 from if_neg (bI_z h_9)]⟩⟩ | (first | exact ⟨_, rfl, rfl, Or.inr ⟨rfl, fun h => h.elim (bI_z h_9) (fun h => h_53 h.1), _, by rw [show fpl (I 693) ln pl = pl from by unfold fpl; rw [if_pos (show ¬ isN (I 693) ln pl 40 40 from h_53)]]⟩⟩ | exact ⟨_, rfl, rfl, Or.inr ⟨rfl, fun h => h.elim (bI_z h_9) (fun h => h_65 h.2.1), _, by rw [show fpl (I 693) ln pl = pl + 1 from by unfold fpl; rw [if_neg (show ¬ ¬ isN (I 693) ln pl 40 40 from fun h => h h_53), if_pos (show ¬ isN (I 693) ln (pl + 1) 48 51 from h_65)]]⟩⟩ | exact ⟨_, rfl, rfl, Or.inr ⟨rfl, fun h => h.elim (bI_z h_9) (fun h => h_77 h.2.2.1), _, by rw [show fpl (I 693) ln pl = pl + 2 from by unfold fpl; rw [if_neg (show ¬ ¬ isN (I 693) ln pl 40 40 from fun h => h h_53), if_neg (show ¬ ¬ isN (I 693) ln (pl + 1) 48 51 from fun h => h h_65), if_pos (show ¬ isN (I 693) ln (pl + 2) 97 104 from h_77)]]⟩⟩ | exact ⟨_, rfl, rfl, Or.inr ⟨rfl, fun h => h.elim (bI_z h_9) (fun h => h_86 h.2.2.2.1), _, by rw [show fpl (I 693) ln pl = pl + 3 from by unfold fpl; rw [if_neg (show ¬ ¬ isN (I 693) ln pl 40 40 from fun h => h h_53), if_neg (show ¬ ¬ isN (I 693) ln (pl + 1) 48 51 from fun h => h h_65), if_neg (show ¬ ¬ isN (I 693) ln (pl + 2) 97 104 from fun h => h h_77), if_pos (show ¬ isN (I 693) ln (pl + 3) 62 62 from h_86)]]⟩⟩ | exact ⟨_, rfl, rfl, Or.inr ⟨rfl, fun h => h.elim (bI_z h_9) (fun h => h_98 h.2.2.2.2.1), _, by rw [show fpl (I 693) ln pl = pl + 4 from by unfold fpl; rw [if_neg (show ¬ ¬ isN (I 693) ln pl 40 40 from fun h => h h_53), if_neg (show ¬ ¬ isN (I 693) ln (pl + 1) 48 51 from fun h => h h_65), if_neg (show ¬ ¬ isN (I 693) ln (pl + 2) 97 104 from fun h => h h_77), if_neg (show ¬ ¬ isN (I 693) ln (pl + 3) 62 62 from fun h => h h_86), if_pos (show ¬ isN (I 693) ln (pl + 4) 48 51 from h_98)]]⟩⟩ | exact ⟨_, rfl, rfl, Or.inr ⟨rfl, fun h => h.elim (bI_z h_9) (fun h => h_107 h.2.2.2.2.2.1), _, by rw [show fpl (I 693) ln pl = pl + 5 from by unfold fpl; rw [if_neg (show ¬ ¬ isN (I 693) ln pl 40 40 from fun h => h h_53), if_neg (show ¬ ¬ isN (I 693) ln (pl + 1) 48 51 from fun h => h h_65), if_neg (show ¬ ¬ isN (I 693) ln (pl + 2) 97 104 from fun h => h h_77), if_neg (show ¬ ¬ isN (I 693) ln (pl + 3) 62 62 from fun h => h h_86), if_neg (show ¬ ¬ isN (I 693) ln (pl + 4) 48 51 from fun h => h h_98), if_pos (show ¬ isN (I 693) ln (pl + 5) 36 36 from h_107)]]⟩⟩ | exact ⟨_, rfl, rfl, Or.inr ⟨rfl, fun h => h.elim (bI_z h_9) (fun h => h_114 h.2.2.2.2.2.2.1), _, by rw [show fpl (I 693) ln pl = pl + 6 from by unfold fpl; rw [if_neg (show ¬ ¬ isN (I 693) ln pl 40 40 from fun h => h h_53), if_neg (show ¬ ¬ isN (I 693) ln (pl + 1) 48 51 from fun h => h h_65), if_neg (show ¬ ¬ isN (I 693) ln (pl + 2) 97 104 from fun h => h h_77), if_neg (show ¬ ¬ isN (I 693) ln (pl + 3) 62 62 from fun h => h h_86), if_neg (show ¬ ¬ isN (I 693) ln (pl + 4) 48 51 from fun h => h h_98), if_neg (show ¬ ¬ isN (I 693) ln (pl + 5) 36 36 from fun h => h h_107), if_pos (show ¬ isN (I 693) ln (pl + 6) 48 57 from h_114)]]⟩⟩ | exact ⟨_, rfl, rfl, Or.inr ⟨rfl, fun h => h.elim (bI_z h_9) (fun h => h_123 h.2.2.2.2.2.2.2), _, by rw [show fpl (I 693) ln pl = cpl (I 693) ln (pl + 6) from by unfold fpl; rw [if_neg (show ¬ ¬ isN (I 693) ln pl 40 40 from fun h => h h_53), if_neg (show ¬ ¬ isN (I 693) ln (pl + 1) 48 51 from fun h => h h_65), if_neg (show ¬ ¬ isN (I 693) ln (pl + 2) 97 104 from fun h => h h_77), if_neg (show ¬ ¬ isN (I 693) ln (pl + 3) 62 62 from fun h => h h_86), if_neg (show ¬ ¬ isN (I 693) ln (pl + 4) 48 51 from fun h => h h_98), if_neg (show ¬ ¬ isN (I 693) ln (pl + 5) 36 36 from fun h => h h_107), if_neg (show ¬ ¬ isN (I 693) ln (pl + 6) 48 57 from fun h => h h_114)]]⟩⟩))
            · obtain ⟨h_98, rfl⟩ := h_98
              refine V_if_eq (tgt := 133) dX8_readOrder_101 (by decide) rfl (fun _ => ?_) (fun h => absurd rfl h)
              refine V_iconst (v := 0) (by decide) dX8_readOrder_133 rfl ?_
              exact V_ireturn rfl (by decide) dX8_readOrder_134 rfl rfl rfl (by first | exact ⟨_, rfl, rfl, Or.inl ⟨rfl, Or.inr ⟨h_53, h_65, h_77, h_86, h_98, h_107, h_114, h_123⟩, _, _, Or.inr ⟨bI_z h_9, ⟨h_53, h_65, h_77, h_86, h_98, h_107, h_114, h_123⟩, rfl, rfl, rfl, rfl, rfl⟩, by rw [show odN (I 693) ln pl = cpl (I 693) ln (pl + 6) + 1 from if_neg (bI_z h_9)]⟩⟩ | (first | exact ⟨_, rfl, rfl, Or.inr ⟨rfl, fun h => h.elim (bI_z h_9) (fun h => h_53 h.1), _, by rw [show fpl (I 693) ln pl = pl from by unfold fpl; rw [if_pos (show ¬ isN (I 693) ln pl 40 40 from h_53)]]⟩⟩ | exact ⟨_, rfl, rfl, Or.inr ⟨rfl, fun h => h.elim (bI_z h_9) (fun h => h_65 h.2.1), _, by rw [show fpl (I 693) ln pl = pl + 1 from by unfold fpl; rw [if_neg (show ¬ ¬ isN (I 693) ln pl 40 40 from fun h => h h_53), if_pos (show ¬ isN (I 693) ln (pl + 1) 48 51 from h_65)]]⟩⟩ | exact ⟨_, rfl, rfl, Or.inr ⟨rfl, fun h => h.elim (bI_z h_9) (fun h => h_77 h.2.2.1), _, by rw [show fpl (I 693) ln pl = pl + 2 from by unfold fpl; rw [if_neg (show ¬ ¬ isN (I 693) ln pl 40 40 from fun h => h h_53), if_neg (show ¬ ¬ isN (I 693) ln (pl + 1) 48 51 from fun h => h h_65), if_pos (show ¬ isN (I 693) ln (pl + 2) 97 104 from h_77)]]⟩⟩ | exact ⟨_, rfl, rfl, Or.inr ⟨rfl, fun h => h.elim (bI_z h_9) (fun h => h_86 h.2.2.2.1), _, by rw [show fpl (I 693) ln pl = pl + 3 from by unfold fpl; rw [if_neg (show ¬ ¬ isN (I 693) ln pl 40 40 from fun h => h h_53), if_neg (show ¬ ¬ isN (I 693) ln (pl + 1) 48 51 from fun h => h h_65), if_neg (show ¬ ¬ isN (I 693) ln (pl + 2) 97 104 from fun h => h h_77), if_pos (show ¬ isN (I 693) ln (pl + 3) 62 62 from h_86)]]⟩⟩ | exact ⟨_, rfl, rfl, Or.inr ⟨rfl, fun h => h.elim (bI_z h_9) (fun h => h_98 h.2.2.2.2.1), _, by rw [show fpl (I 693) ln pl = pl + 4 from by unfold fpl; rw [if_neg (show ¬ ¬ isN (I 693) ln pl 40 40 from fun h => h h_53), if_neg (show ¬ ¬ isN (I 693) ln (pl + 1) 48 51 from fun h => h h_65), if_neg (show ¬ ¬ isN (I 693) ln (pl + 2) 97 104 from fun h => h h_77), if_neg (show ¬ ¬ isN (I 693) ln (pl + 3) 62 62 from fun h => h h_86), if_pos (show ¬ isN (I 693) ln (pl + 4) 48 51 from h_98)]]⟩⟩ | exact ⟨_, rfl, rfl, Or.inr ⟨rfl, fun h => h.elim (bI_z h_9) (fun h => h_107 h.2.2.2.2.2.1), _, by rw [show fpl (I 693) ln pl = pl + 5 from by unfold fpl; rw [if_neg (show ¬ ¬ isN (I 693) ln pl 40 40 from fun h => h h_53), if_neg (show ¬ ¬ isN (I 693) ln (pl + 1) 48 51 from fun h => h h_65), if_neg (show ¬ ¬ isN (I 693) ln (pl + 2) 97 104 from fun h => h h_77), if_neg (show ¬ ¬ isN (I 693) ln (pl + 3) 62 62 from fun h => h h_86), if_neg (show ¬ ¬ isN (I 693) ln (pl + 4) 48 51 from fun h => h h_98), if_pos (show ¬ isN (I 693) ln (pl + 5) 36 36 from h_107)]]⟩⟩ | exact ⟨_, rfl, rfl, Or.inr ⟨rfl, fun h => h.elim (bI_z h_9) (fun h => h_114 h.2.2.2.2.2.2.1), _, by rw [show fpl (I 693) ln pl = pl + 6 from by unfold fpl; rw [if_neg (show ¬ ¬ isN (I 693) ln pl 40 40 from fun h => h h_53), if_neg (show ¬ ¬ isN (I 693) ln (pl + 1) 48 51 from fun h => h h_65), if_neg (show ¬ ¬ isN (I 693) ln (pl + 2) 97 104 from fun h => h h_77), if_neg (show ¬ ¬ isN (I 693) ln (pl + 3) 62 62 from fun h => h h_86), if_neg (show ¬ ¬ isN (I 693) ln (pl + 4) 48 51 from fun h => h h_98), if_neg (show ¬ ¬ isN (I 693) ln (pl + 5) 36 36 from fun h => h h_107), if_pos (show ¬ isN (I 693) ln (pl + 6) 48 57 from h_114)]]⟩⟩ | exact ⟨_, rfl, rfl, Or.inr ⟨rfl, fun h => h.elim (bI_z h_9) (fun h => h_123 h.2.2.2.2.2.2.2), _, by rw [show fpl (I 693) ln pl = cpl (I 693) ln (pl + 6) from by unfold fpl; rw [if_neg (show ¬ ¬ isN (I 693) ln pl 40 40 from fun h => h h_53), if_neg (show ¬ ¬ isN (I 693) ln (pl + 1) 48 51 from fun h => h h_65), if_neg (show ¬ ¬ isN (I 693) ln (pl + 2) 97 104 from fun h => h h_77), if_neg (show ¬ ¬ isN (I 693) ln (pl + 3) 62 62 from fun h => h h_86), if_neg (show ¬ ¬ isN (I 693) ln (pl + 4) 48 51 from fun h => h h_98), if_neg (show ¬ ¬ isN (I 693) ln (pl + 5) 36 36 from fun h => h h_107), if_neg (show ¬ ¬ isN (I 693) ln (pl + 6) 48 57 from fun h => h h_114)]]⟩⟩))
          · obtain ⟨h_86, rfl⟩ := h_86
            refine V_if_eq (tgt := 133) dX8_readOrder_89 (by decide) rfl (fun _ => ?_) (fun h => absurd rfl h)
            refine V_iconst (v := 0) (by decide) dX8_readOrder_133 rfl ?_
            exact V_ireturn rfl (by decide) dX8_readOrder_134 rfl rfl rfl (by first | exact ⟨_, rfl, rfl, Or.inl ⟨rfl, Or.inr ⟨h_53, h_65, h_77, h_86, h_98, h_107, h_114, h_123⟩, _, _, Or.inr ⟨bI_z h_9, ⟨h_53, h_65, h_77, h_86, h_98, h_107, h_114, h_123⟩, rfl, rfl, rfl, rfl, rfl⟩, by rw [show odN (I 693) ln pl = cpl (I 693) ln (pl + 6) + 1 from if_neg (bI_z h_9)]⟩⟩ | (first | exact ⟨_, rfl, rfl, Or.inr ⟨rfl, fun h => h.elim (bI_z h_9) (fun h => h_53 h.1), _, by rw [show fpl (I 693) ln pl = pl from by unfold fpl; rw [if_pos (show ¬ isN (I 693) ln pl 40 40 from h_53)]]⟩⟩ | exact ⟨_, rfl, rfl, Or.inr ⟨rfl, fun h => h.elim (bI_z h_9) (fun h => h_65 h.2.1), _, by rw [show fpl (I 693) ln pl = pl + 1 from by unfold fpl; rw [if_neg (show ¬ ¬ isN (I 693) ln pl 40 40 from fun h => h h_53), if_pos (show ¬ isN (I 693) ln (pl + 1) 48 51 from h_65)]]⟩⟩ | exact ⟨_, rfl, rfl, Or.inr ⟨rfl, fun h => h.elim (bI_z h_9) (fun h => h_77 h.2.2.1), _, by rw [show fpl (I 693) ln pl = pl + 2 from by unfold fpl; rw [if_neg (show ¬ ¬ isN (I 693) ln pl 40 40 from fun h => h h_53), if_neg (show ¬ ¬ isN (I 693) ln (pl + 1) 48 51 from fun h => h h_65), if_pos (show ¬ isN (I 693) ln (pl + 2) 97 104 from h_77)]]⟩⟩ | exact ⟨_, rfl, rfl, Or.inr ⟨rfl, fun h => h.elim (bI_z h_9) (fun h => h_86 h.2.2.2.1), _, by rw [show fpl (I 693) ln pl = pl + 3 from by unfold fpl; rw [if_neg (show ¬ ¬ isN (I 693) ln pl 40 40 from fun h => h h_53), if_neg (show ¬ ¬ isN (I 693) ln (pl + 1) 48 51 from fun h => h h_65), if_neg (show ¬ ¬ isN (I 693) ln (pl + 2) 97 104 from fun h => h h_77), if_pos (show ¬ isN (I 693) ln (pl + 3) 62 62 from h_86)]]⟩⟩ | exact ⟨_, rfl, rfl, Or.inr ⟨rfl, fun h => h.elim (bI_z h_9) (fun h => h_98 h.2.2.2.2.1), _, by rw [show fpl (I 693) ln pl = pl + 4 from by unfold fpl; rw [if_neg (show ¬ ¬ isN (I 693) ln pl 40 40 from fun h => h h_53), if_neg (show ¬ ¬ isN (I 693) ln (pl + 1) 48 51 from fun h => h h_65), if_neg (show ¬ ¬ isN (I 693) ln (pl + 2) 97 104 from fun h => h h_77), if_neg (show ¬ ¬ isN (I 693) ln (pl + 3) 62 62 from fun h => h h_86), if_pos (show ¬ isN (I 693) ln (pl + 4) 48 51 from h_98)]]⟩⟩ | exact ⟨_, rfl, rfl, Or.inr ⟨rfl, fun h => h.elim (bI_z h_9) (fun h => h_107 h.2.2.2.2.2.1), _, by rw [show fpl (I 693) ln pl = pl + 5 from by unfold fpl; rw [if_neg (show ¬ ¬ isN (I 693) ln pl 40 40 from fun h => h h_53), if_neg (show ¬ ¬ isN (I 693) ln (pl + 1) 48 51 from fun h => h h_65), if_neg (show ¬ ¬ isN (I 693) ln (pl + 2) 97 104 from fun h => h h_77), if_neg (show ¬ ¬ isN (I 693) ln (pl + 3) 62 62 from fun h => h h_86), if_neg (show ¬ ¬ isN (I 693) ln (pl + 4) 48 51 from fun h => h h_98), if_pos (show ¬ isN (I 693) ln (pl + 5) 36 36 from h_107)]]⟩⟩ | exact ⟨_, rfl, rfl, Or.inr ⟨rfl, fun h => h.elim (bI_z h_9) (fun h => h_114 h.2.2.2.2.2.2.1), _, by rw [show fpl (I 693) ln pl = pl + 6 from by unfold fpl; rw [if_neg (show ¬ ¬ isN (I 693) ln pl 40 40 from fun h => h h_53), if_neg (show ¬ ¬ isN (I 693) ln (pl + 1) 48 51 from fun h => h h_65), if_neg (show ¬ ¬ isN (I 693) ln (pl + 2) 97 104 from fun h => h h_77), if_neg (show ¬ ¬ isN (I 693) ln (pl + 3) 62 62 from fun h => h h_86), if_neg (show ¬ ¬ isN (I 693) ln (pl + 4) 48 51 from fun h => h h_98), if_neg (show ¬ ¬ isN (I 693) ln (pl + 5) 36 36 from fun h => h h_107), if_pos (show ¬ isN (I 693) ln (pl + 6) 48 57 from h_114)]]⟩⟩ | exact ⟨_, rfl, rfl, Or.inr ⟨rfl, fun h => h.elim (bI_z h_9) (fun h => h_123 h.2.2.2.2.2.2.2), _, by rw [show fpl (I 693) ln pl = cpl (I 693) ln (pl + 6) from by unfold fpl; rw [if_neg (show ¬ ¬ isN (I 693) ln pl 40 40 from fun h => h h_53), if_neg (show ¬ ¬ isN (I 693) ln (pl + 1) 48 51 from fun h => h h_65), if_neg (show ¬ ¬ isN (I 693) ln (pl + 2) 97 104 from fun h => h h_77), if_neg (show ¬ ¬ isN (I 693) ln (pl + 3) 62 62 from fun h => h h_86), if_neg (show ¬ ¬ isN (I 693) ln (pl + 4) 48 51 from fun h => h h_98), if_neg (show ¬ ¬ isN (I 693) ln (pl + 5) 36 36 from fun h => h h_107), if_neg (show ¬ ¬ isN (I 693) ln (pl + 6) 48 57 from fun h => h h_114)]]⟩⟩))
        · obtain ⟨h_77, rfl⟩ := h_77
          refine V_if_eq (tgt := 133) dX8_readOrder_80 (by decide) rfl (fun _ => ?_) (fun h => absurd rfl h)
          refine V_iconst (v := 0) (by decide) dX8_readOrder_133 rfl ?_
          exact V_ireturn rfl (by decide) dX8_readOrder_134 rfl rfl rfl (by first | exact ⟨_, rfl, rfl, Or.inl ⟨rfl, Or.inr ⟨h_53, h_65, h_77, h_86, h_98, h_107, h_114, h_123⟩, _, _, Or.inr ⟨bI_z h_9, ⟨h_53, h_65, h_77, h_86, h_98, h_107, h_114, h_123⟩, rfl, rfl, rfl, rfl, rfl⟩, by rw [show odN (I 693) ln pl = cpl (I 693) ln (pl + 6) + 1 from if_neg (bI_z h_9)]⟩⟩ | (first | exact ⟨_, rfl, rfl, Or.inr ⟨rfl, fun h => h.elim (bI_z h_9) (fun h => h_53 h.1), _, by rw [show fpl (I 693) ln pl = pl from by unfold fpl; rw [if_pos (show ¬ isN (I 693) ln pl 40 40 from h_53)]]⟩⟩ | exact ⟨_, rfl, rfl, Or.inr ⟨rfl, fun h => h.elim (bI_z h_9) (fun h => h_65 h.2.1), _, by rw [show fpl (I 693) ln pl = pl + 1 from by unfold fpl; rw [if_neg (show ¬ ¬ isN (I 693) ln pl 40 40 from fun h => h h_53), if_pos (show ¬ isN (I 693) ln (pl + 1) 48 51 from h_65)]]⟩⟩ | exact ⟨_, rfl, rfl, Or.inr ⟨rfl, fun h => h.elim (bI_z h_9) (fun h => h_77 h.2.2.1), _, by rw [show fpl (I 693) ln pl = pl + 2 from by unfold fpl; rw [if_neg (show ¬ ¬ isN (I 693) ln pl 40 40 from fun h => h h_53), if_neg (show ¬ ¬ isN (I 693) ln (pl + 1) 48 51 from fun h => h h_65), if_pos (show ¬ isN (I 693) ln (pl + 2) 97 104 from h_77)]]⟩⟩ | exact ⟨_, rfl, rfl, Or.inr ⟨rfl, fun h => h.elim (bI_z h_9) (fun h => h_86 h.2.2.2.1), _, by rw [show fpl (I 693) ln pl = pl + 3 from by unfold fpl; rw [if_neg (show ¬ ¬ isN (I 693) ln pl 40 40 from fun h => h h_53), if_neg (show ¬ ¬ isN (I 693) ln (pl + 1) 48 51 from fun h => h h_65), if_neg (show ¬ ¬ isN (I 693) ln (pl + 2) 97 104 from fun h => h h_77), if_pos (show ¬ isN (I 693) ln (pl + 3) 62 62 from h_86)]]⟩⟩ | exact ⟨_, rfl, rfl, Or.inr ⟨rfl, fun h => h.elim (bI_z h_9) (fun h => h_98 h.2.2.2.2.1), _, by rw [show fpl (I 693) ln pl = pl + 4 from by unfold fpl; rw [if_neg (show ¬ ¬ isN (I 693) ln pl 40 40 from fun h => h h_53), if_neg (show ¬ ¬ isN (I 693) ln (pl + 1) 48 51 from fun h => h h_65), if_neg (show ¬ ¬ isN (I 693) ln (pl + 2) 97 104 from fun h => h h_77), if_neg (show ¬ ¬ isN (I 693) ln (pl + 3) 62 62 from fun h => h h_86), if_pos (show ¬ isN (I 693) ln (pl + 4) 48 51 from h_98)]]⟩⟩ | exact ⟨_, rfl, rfl, Or.inr ⟨rfl, fun h => h.elim (bI_z h_9) (fun h => h_107 h.2.2.2.2.2.1), _, by rw [show fpl (I 693) ln pl = pl + 5 from by unfold fpl; rw [if_neg (show ¬ ¬ isN (I 693) ln pl 40 40 from fun h => h h_53), if_neg (show ¬ ¬ isN (I 693) ln (pl + 1) 48 51 from fun h => h h_65), if_neg (show ¬ ¬ isN (I 693) ln (pl + 2) 97 104 from fun h => h h_77), if_neg (show ¬ ¬ isN (I 693) ln (pl + 3) 62 62 from fun h => h h_86), if_neg (show ¬ ¬ isN (I 693) ln (pl + 4) 48 51 from fun h => h h_98), if_pos (show ¬ isN (I 693) ln (pl + 5) 36 36 from h_107)]]⟩⟩ | exact ⟨_, rfl, rfl, Or.inr ⟨rfl, fun h => h.elim (bI_z h_9) (fun h => h_114 h.2.2.2.2.2.2.1), _, by rw [show fpl (I 693) ln pl = pl + 6 from by unfold fpl; rw [if_neg (show ¬ ¬ isN (I 693) ln pl 40 40 from fun h => h h_53), if_neg (show ¬ ¬ isN (I 693) ln (pl + 1) 48 51 from fun h => h h_65), if_neg (show ¬ ¬ isN (I 693) ln (pl + 2) 97 104 from fun h => h h_77), if_neg (show ¬ ¬ isN (I 693) ln (pl + 3) 62 62 from fun h => h h_86), if_neg (show ¬ ¬ isN (I 693) ln (pl + 4) 48 51 from fun h => h h_98), if_neg (show ¬ ¬ isN (I 693) ln (pl + 5) 36 36 from fun h => h h_107), if_pos (show ¬ isN (I 693) ln (pl + 6) 48 57 from h_114)]]⟩⟩ | exact ⟨_, rfl, rfl, Or.inr ⟨rfl, fun h => h.elim (bI_z h_9) (fun h => h_123 h.2.2.2.2.2.2.2), _, by rw [show fpl (I 693) ln pl = cpl (I 693) ln (pl + 6) from by unfold fpl; rw [if_neg (show ¬ ¬ isN (I 693) ln pl 40 40 from fun h => h h_53), if_neg (show ¬ ¬ isN (I 693) ln (pl + 1) 48 51 from fun h => h h_65), if_neg (show ¬ ¬ isN (I 693) ln (pl + 2) 97 104 from fun h => h h_77), if_neg (show ¬ ¬ isN (I 693) ln (pl + 3) 62 62 from fun h => h h_86), if_neg (show ¬ ¬ isN (I 693) ln (pl + 4) 48 51 from fun h => h h_98), if_neg (show ¬ ¬ isN (I 693) ln (pl + 5) 36 36 from fun h => h h_107), if_neg (show ¬ ¬ isN (I 693) ln (pl + 6) 48 57 from fun h => h h_114)]]⟩⟩))
      · obtain ⟨h_65, rfl⟩ := h_65
        refine V_if_eq (tgt := 133) dX8_readOrder_68 (by decide) rfl (fun _ => ?_) (fun h => absurd rfl h)
        refine V_iconst (v := 0) (by decide) dX8_readOrder_133 rfl ?_
        exact V_ireturn rfl (by decide) dX8_readOrder_134 rfl rfl rfl (by first | exact ⟨_, rfl, rfl, Or.inl ⟨rfl, Or.inr ⟨h_53, h_65, h_77, h_86, h_98, h_107, h_114, h_123⟩, _, _, Or.inr ⟨bI_z h_9, ⟨h_53, h_65, h_77, h_86, h_98, h_107, h_114, h_123⟩, rfl, rfl, rfl, rfl, rfl⟩, by rw [show odN (I 693) ln pl = cpl (I 693) ln (pl + 6) + 1 from if_neg (bI_z h_9)]⟩⟩ | (first | exact ⟨_, rfl, rfl, Or.inr ⟨rfl, fun h => h.elim (bI_z h_9) (fun h => h_53 h.1), _, by rw [show fpl (I 693) ln pl = pl from by unfold fpl; rw [if_pos (show ¬ isN (I 693) ln pl 40 40 from h_53)]]⟩⟩ | exact ⟨_, rfl, rfl, Or.inr ⟨rfl, fun h => h.elim (bI_z h_9) (fun h => h_65 h.2.1), _, by rw [show fpl (I 693) ln pl = pl + 1 from by unfold fpl; rw [if_neg (show ¬ ¬ isN (I 693) ln pl 40 40 from fun h => h h_53), if_pos (show ¬ isN (I 693) ln (pl + 1) 48 51 from h_65)]]⟩⟩ | exact ⟨_, rfl, rfl, Or.inr ⟨rfl, fun h => h.elim (bI_z h_9) (fun h => h_77 h.2.2.1), _, by rw [show fpl (I 693) ln pl = pl + 2 from by unfold fpl; rw [if_neg (show ¬ ¬ isN (I 693) ln pl 40 40 from fun h => h h_53), if_neg (show ¬ ¬ isN (I 693) ln (pl + 1) 48 51 from fun h => h h_65), if_pos (show ¬ isN (I 693) ln (pl + 2) 97 104 from h_77)]]⟩⟩ | exact ⟨_, rfl, rfl, Or.inr ⟨rfl, fun h => h.elim (bI_z h_9) (fun h => h_86 h.2.2.2.1), _, by rw [show fpl (I 693) ln pl = pl + 3 from by unfold fpl; rw [if_neg (show ¬ ¬ isN (I 693) ln pl 40 40 from fun h => h h_53), if_neg (show ¬ ¬ isN (I 693) ln (pl + 1) 48 51 from fun h => h h_65), if_neg (show ¬ ¬ isN (I 693) ln (pl + 2) 97 104 from fun h => h h_77), if_pos (show ¬ isN (I 693) ln (pl + 3) 62 62 from h_86)]]⟩⟩ | exact ⟨_, rfl, rfl, Or.inr ⟨rfl, fun h => h.elim (bI_z h_9) (fun h => h_98 h.2.2.2.2.1), _, by rw [show fpl (I 693) ln pl = pl + 4 from by unfold fpl; rw [if_neg (show ¬ ¬ isN (I 693) ln pl 40 40 from fun h => h h_53), if_neg (show ¬ ¬ isN (I 693) ln (pl + 1) 48 51 from fun h => h h_65), if_neg (show ¬ ¬ isN (I 693) ln (pl + 2) 97 104 from fun h => h h_77), if_neg (show ¬ ¬ isN (I 693) ln (pl + 3) 62 62 from fun h => h h_86), if_pos (show ¬ isN (I 693) ln (pl + 4) 48 51 from h_98)]]⟩⟩ | exact ⟨_, rfl, rfl, Or.inr ⟨rfl, fun h => h.elim (bI_z h_9) (fun h => h_107 h.2.2.2.2.2.1), _, by rw [show fpl (I 693) ln pl = pl + 5 from by unfold fpl; rw [if_neg (show ¬ ¬ isN (I 693) ln pl 40 40 from fun h => h h_53), if_neg (show ¬ ¬ isN (I 693) ln (pl + 1) 48 51 from fun h => h h_65), if_neg (show ¬ ¬ isN (I 693) ln (pl + 2) 97 104 from fun h => h h_77), if_neg (show ¬ ¬ isN (I 693) ln (pl + 3) 62 62 from fun h => h h_86), if_neg (show ¬ ¬ isN (I 693) ln (pl + 4) 48 51 from fun h => h h_98), if_pos (show ¬ isN (I 693) ln (pl + 5) 36 36 from h_107)]]⟩⟩ | exact ⟨_, rfl, rfl, Or.inr ⟨rfl, fun h => h.elim (bI_z h_9) (fun h => h_114 h.2.2.2.2.2.2.1), _, by rw [show fpl (I 693) ln pl = pl + 6 from by unfold fpl; rw [if_neg (show ¬ ¬ isN (I 693) ln pl 40 40 from fun h => h h_53), if_neg (show ¬ ¬ isN (I 693) ln (pl + 1) 48 51 from fun h => h h_65), if_neg (show ¬ ¬ isN (I 693) ln (pl + 2) 97 104 from fun h => h h_77), if_neg (show ¬ ¬ isN (I 693) ln (pl + 3) 62 62 from fun h => h h_86), if_neg (show ¬ ¬ isN (I 693) ln (pl + 4) 48 51 from fun h => h h_98), if_neg (show ¬ ¬ isN (I 693) ln (pl + 5) 36 36 from fun h => h h_107), if_pos (show ¬ isN (I 693) ln (pl + 6) 48 57 from h_114)]]⟩⟩ | exact ⟨_, rfl, rfl, Or.inr ⟨rfl, fun h => h.elim (bI_z h_9) (fun h => h_123 h.2.2.2.2.2.2.2), _, by rw [show fpl (I 693) ln pl = cpl (I 693) ln (pl + 6) from by unfold fpl; rw [if_neg (show ¬ ¬ isN (I 693) ln pl 40 40 from fun h => h h_53), if_neg (show ¬ ¬ isN (I 693) ln (pl + 1) 48 51 from fun h => h h_65), if_neg (show ¬ ¬ isN (I 693) ln (pl + 2) 97 104 from fun h => h h_77), if_neg (show ¬ ¬ isN (I 693) ln (pl + 3) 62 62 from fun h => h h_86), if_neg (show ¬ ¬ isN (I 693) ln (pl + 4) 48 51 from fun h => h h_98), if_neg (show ¬ ¬ isN (I 693) ln (pl + 5) 36 36 from fun h => h h_107), if_neg (show ¬ ¬ isN (I 693) ln (pl + 6) 48 57 from fun h => h h_114)]]⟩⟩))
    · obtain ⟨h_53, rfl⟩ := h_53
      refine V_if_eq (tgt := 133) dX8_readOrder_56 (by decide) rfl (fun _ => ?_) (fun h => absurd rfl h)
      refine V_iconst (v := 0) (by decide) dX8_readOrder_133 rfl ?_
      exact V_ireturn rfl (by decide) dX8_readOrder_134 rfl rfl rfl (by first | exact ⟨_, rfl, rfl, Or.inl ⟨rfl, Or.inr ⟨h_53, h_65, h_77, h_86, h_98, h_107, h_114, h_123⟩, _, _, Or.inr ⟨bI_z h_9, ⟨h_53, h_65, h_77, h_86, h_98, h_107, h_114, h_123⟩, rfl, rfl, rfl, rfl, rfl⟩, by rw [show odN (I 693) ln pl = cpl (I 693) ln (pl + 6) + 1 from if_neg (bI_z h_9)]⟩⟩ | (first | exact ⟨_, rfl, rfl, Or.inr ⟨rfl, fun h => h.elim (bI_z h_9) (fun h => h_53 h.1), _, by rw [show fpl (I 693) ln pl = pl from by unfold fpl; rw [if_pos (show ¬ isN (I 693) ln pl 40 40 from h_53)]]⟩⟩ | exact ⟨_, rfl, rfl, Or.inr ⟨rfl, fun h => h.elim (bI_z h_9) (fun h => h_65 h.2.1), _, by rw [show fpl (I 693) ln pl = pl + 1 from by unfold fpl; rw [if_neg (show ¬ ¬ isN (I 693) ln pl 40 40 from fun h => h h_53), if_pos (show ¬ isN (I 693) ln (pl + 1) 48 51 from h_65)]]⟩⟩ | exact ⟨_, rfl, rfl, Or.inr ⟨rfl, fun h => h.elim (bI_z h_9) (fun h => h_77 h.2.2.1), _, by rw [show fpl (I 693) ln pl = pl + 2 from by unfold fpl; rw [if_neg (show ¬ ¬ isN (I 693) ln pl 40 40 from fun h => h h_53), if_neg (show ¬ ¬ isN (I 693) ln (pl + 1) 48 51 from fun h => h h_65), if_pos (show ¬ isN (I 693) ln (pl + 2) 97 104 from h_77)]]⟩⟩ | exact ⟨_, rfl, rfl, Or.inr ⟨rfl, fun h => h.elim (bI_z h_9) (fun h => h_86 h.2.2.2.1), _, by rw [show fpl (I 693) ln pl = pl + 3 from by unfold fpl; rw [if_neg (show ¬ ¬ isN (I 693) ln pl 40 40 from fun h => h h_53), if_neg (show ¬ ¬ isN (I 693) ln (pl + 1) 48 51 from fun h => h h_65), if_neg (show ¬ ¬ isN (I 693) ln (pl + 2) 97 104 from fun h => h h_77), if_pos (show ¬ isN (I 693) ln (pl + 3) 62 62 from h_86)]]⟩⟩ | exact ⟨_, rfl, rfl, Or.inr ⟨rfl, fun h => h.elim (bI_z h_9) (fun h => h_98 h.2.2.2.2.1), _, by rw [show fpl (I 693) ln pl = pl + 4 from by unfold fpl; rw [if_neg (show ¬ ¬ isN (I 693) ln pl 40 40 from fun h => h h_53), if_neg (show ¬ ¬ isN (I 693) ln (pl + 1) 48 51 from fun h => h h_65), if_neg (show ¬ ¬ isN (I 693) ln (pl + 2) 97 104 from fun h => h h_77), if_neg (show ¬ ¬ isN (I 693) ln (pl + 3) 62 62 from fun h => h h_86), if_pos (show ¬ isN (I 693) ln (pl + 4) 48 51 from h_98)]]⟩⟩ | exact ⟨_, rfl, rfl, Or.inr ⟨rfl, fun h => h.elim (bI_z h_9) (fun h => h_107 h.2.2.2.2.2.1), _, by rw [show fpl (I 693) ln pl = pl + 5 from by unfold fpl; rw [if_neg (show ¬ ¬ isN (I 693) ln pl 40 40 from fun h => h h_53), if_neg (show ¬ ¬ isN (I 693) ln (pl + 1) 48 51 from fun h => h h_65), if_neg (show ¬ ¬ isN (I 693) ln (pl + 2) 97 104 from fun h => h h_77), if_neg (show ¬ ¬ isN (I 693) ln (pl + 3) 62 62 from fun h => h h_86), if_neg (show ¬ ¬ isN (I 693) ln (pl + 4) 48 51 from fun h => h h_98), if_pos (show ¬ isN (I 693) ln (pl + 5) 36 36 from h_107)]]⟩⟩ | exact ⟨_, rfl, rfl, Or.inr ⟨rfl, fun h => h.elim (bI_z h_9) (fun h => h_114 h.2.2.2.2.2.2.1), _, by rw [show fpl (I 693) ln pl = pl + 6 from by unfold fpl; rw [if_neg (show ¬ ¬ isN (I 693) ln pl 40 40 from fun h => h h_53), if_neg (show ¬ ¬ isN (I 693) ln (pl + 1) 48 51 from fun h => h h_65), if_neg (show ¬ ¬ isN (I 693) ln (pl + 2) 97 104 from fun h => h h_77), if_neg (show ¬ ¬ isN (I 693) ln (pl + 3) 62 62 from fun h => h h_86), if_neg (show ¬ ¬ isN (I 693) ln (pl + 4) 48 51 from fun h => h h_98), if_neg (show ¬ ¬ isN (I 693) ln (pl + 5) 36 36 from fun h => h h_107), if_pos (show ¬ isN (I 693) ln (pl + 6) 48 57 from h_114)]]⟩⟩ | exact ⟨_, rfl, rfl, Or.inr ⟨rfl, fun h => h.elim (bI_z h_9) (fun h => h_123 h.2.2.2.2.2.2.2), _, by rw [show fpl (I 693) ln pl = cpl (I 693) ln (pl + 6) from by unfold fpl; rw [if_neg (show ¬ ¬ isN (I 693) ln pl 40 40 from fun h => h h_53), if_neg (show ¬ ¬ isN (I 693) ln (pl + 1) 48 51 from fun h => h h_65), if_neg (show ¬ ¬ isN (I 693) ln (pl + 2) 97 104 from fun h => h h_77), if_neg (show ¬ ¬ isN (I 693) ln (pl + 3) 62 62 from fun h => h h_86), if_neg (show ¬ ¬ isN (I 693) ln (pl + 4) 48 51 from fun h => h h_98), if_neg (show ¬ ¬ isN (I 693) ln (pl + 5) 36 36 from fun h => h h_107), if_neg (show ¬ ¬ isN (I 693) ln (pl + 6) 48 57 from fun h => h h_114)]]⟩⟩))
  · refine V_aload_n (i := 0) rfl rfl dX8_readOrder_12 rfl ?_
    refine V_getr (kf := 6) C8 (by decide) l_X8_22 (by assumption) rfl (by assumption) dX8_readOrder_13 rfl ?_
    refine V_aload_n (i := 0) rfl rfl dX8_readOrder_16 rfl ?_
    refine V_get (kf := 8) C8 (by decide) l_X8_142 (by assumption) rfl dX8_readOrder_17 rfl ?_
    rw [show mX I pl dc dn td s 688 8 = nI pl from rfl]
    refine V_iald (by assumption) (fw_ix_nI (by have := (bI_nz h_9).1; omega) (by decide)) dX8_readOrder_20 rfl ?_
    rw [show mX I pl dc dn td s 693 pl = I 693 pl from rfl]
    refine V_bipush (v := 48) (by decide) dX8_readOrder_21 rfl ?_
    refine V_isub dX8_readOrder_23 rfl ?_
    refine V_goto (tgt := 28) dX8_readOrder_24 (by decide) ?_
    refine V_puti (kf := 9) C8 (by decide) rfl l_X8_151 rfl rfl rfl rfl (by assumption) dX8_readOrder_28 rfl ?_
    rw [mX_9]
    refine V_aload_n (i := 0) rfl rfl dX8_readOrder_31 rfl ?_
    refine V_get (kf := 9) C8 (by decide) l_X8_151 (by assumption) rfl dX8_readOrder_32 rfl ?_
    first | rw [show mX I pl (I 693 pl - 48) dn td s 688 9 = I 693 pl - 48 from rfl] | rw [show mX I pl 0 dn td s 688 9 = 0 from rfl]
    refine V_if_le (tgt := 50) dX8_readOrder_35 (by decide) rfl (fun h => absurd h (dig_pos (bI_nz h_9).2)) (fun _ => ?_)
    refine V_aload_n (i := 0) rfl rfl dX8_readOrder_38 rfl ?_
    refine V_dup (by first | rfl | simp [Value.category]) dX8_readOrder_39 rfl ?_
    refine V_get (kf := 8) C8 (by decide) l_X8_142 (by assumption) rfl dX8_readOrder_40 rfl ?_
    refine V_iconst (v := 1) (by decide) dX8_readOrder_43 rfl ?_
    refine V_iadd dX8_readOrder_44 rfl ?_
    refine V_puti (kf := 8) C8 (by decide) rfl l_X8_142 rfl rfl rfl rfl (by assumption) dX8_readOrder_45 rfl ?_
    rw [show up2 (mX I pl (I 693 pl - 48) dn td s) 688 8 (mX I pl (I 693 pl - 48) dn td s 688 8 + 1) = mX I (pl + 1) (I 693 pl - 48) dn td s from mX_8 I pl _ dn td s]
    refine V_iconst (v := 1) (by decide) dX8_readOrder_48 rfl ?_
    exact V_ireturn rfl (by decide) dX8_readOrder_49 rfl rfl rfl (⟨_, rfl, rfl, Or.inl ⟨rfl, Or.inl (bI_nz h_9), _, _, Or.inl ⟨bI_nz h_9, rfl⟩, by rw [show odN (I 693) ln pl = pl + 1 from if_pos (bI_nz h_9)]⟩⟩)

