variable {nT : Nat}
theorem nI_all (x : Int32) : nI x.toBitVec.toNat = x := Int32.toBitVec_inj.1 (by show (Int32.ofNat x.toBitVec.toNat).toBitVec = _; simp)
/-- the search's cells as they are found -/
def s0 (I : fw_I) : sT := (I 686, I 687, (I 685 2).toBitVec.toNat)
theorem mS_0 (I : fw_I) : mS I (s0 I) = I := by
  unfold mS s0
  show wr (wr (up2 I 685 2 (nI (I 685 2).toBitVec.toNat)) 686 (I 686)) 687 (I 687) = I
  rw [nI_all]
  have h : up2 I 685 2 (I 685 2) = I := by
    funext b j
    rw [up2_at]
    by_cases e : b = 685 ∧ j = 2
    · rw [if_pos e, e.1, e.2]
    · rw [if_neg e]
  rw [h, wr_self, wr_self]
theorem CRel.srch {I J : fw_I} {P : fw_P} {s : Nat → Int32} {k : Nat} {h : Nat → Nat → Int32} {tk : Bool} {sp : Nat → Int32} {len : Nat} {tx : Nat → Int32} (hS : CSh P) (hC : CRel I P s k h tk sp len tx) (e : ∀ b, (b < 685 ∨ 688 ≤ b) → J b = I b) : CRel J P s k h tk sp len tx :=
  hC.txt hS (fun b hb => e b (by omega)) (by rw [e 683 (by omega)]; exact hC.2.2.2.1) hC.2.2.2.2.1 (by rw [e 684 (by omega)]; exact hC.2.2.2.2.2)
def fewC (s : Nat → Int32) (p : Nat) (w : Int32) (σ : sT) : Int32 := if w = 0 then (onL s 61 0 (stF σ (aBeg s p))).1 else (baL s (aBeg s p) 61 0 (stF σ 60)).1
def fewR (s : Nat → Int32) (x w : Int32) (σ : sT) : Int32 := if ¬ aPl x then -1 else if ¬ (0 ≤ w ∧ w ≤ 1) then -2 else if ro s x.toNatClampNeg 2 = 0 then fewC s x.toNatClampNeg w σ else 0
theorem w01 {w : Int32} (h0 : ¬ w = 0) (h1 : ¬ w = 1) : ¬ (0 ≤ w ∧ w ≤ 1) := fun z => by
  have a := i32_le.mp z.1
  have b := i32_le.mp z.2
  rw [Int32.toInt_zero] at a
  rw [show (1 : Int32).toInt = 1 from by decide] at b
  rcases (show w.toInt = 0 ∨ w.toInt = 1 by omega) with e | e
  · exact h0 (Int32.toInt_inj.mp (by rw [e]; rfl))
  · exact h1 (Int32.toInt_inj.mp (by rw [e]; rfl))
set_option maxHeartbeats 4000000 in
set_option maxRecDepth 100000 in
theorem sm_fewest (l : Launch) (g : fw_G) {I : fw_I} {P : fw_P} {s : Nat → Int32} {k : Nat} {h : Nat → Nat → Int32} {tk : Bool} {sp : Nat → Int32} {len : Nat} {tx : Nat → Int32} (hS : CSh P) (hC : CRel I P s k h tk sp len tx) {B : Nat} (hI : Inv B s) (x w : Int32) : Sp l g kX7_fewest (T0 nT) [.ref (g.1 + 0), .int x, .int w] I P (T0 nT) 0 0 (qJ (fun r I1 P1 => r = fewR s x w (s0 I) ∧ CSh P1 ∧ CRel I1 P1 s k h tk sp len tx ∧ Ff I P I1 P1)) := by
  have a0 := (at_0 (nT := nT))
  have a1 := at_race (nT := nT) isRc_1
  have a256 := (at_256 (nT := nT))
  have a683 := (at_683 (nT := nT))
  have r1 := isRc_1
  have hS1 := hS.r isRc_1
  have hR := hC.1.1
  have hv := hC.1.2
  have q0 : P 0 0 = some 1 := hS.2.2.2.2.1
  have q1 : P 0 1 = some 86 := hS.2.2.2.2.2.1
  have q2 : P 0 2 = some 171 := hS.2.2.2.2.2.2.1
  have q3 : P 0 3 = some 256 := hS.2.2.2.2.2.2.2.1
  have q4 : P 0 4 = some 683 := hS.2.2.2.2.2.2.2.2.1
  have q5 : P 0 5 = some 685 := hS.2.2.2.2.2.2.2.2.2.1
  have a685 := (at_685 (nT := nT))
  refine Sp.of_V (L := [some (.ref (g.1 + 0)), some (.int x), some (.int w), none, none]) (by decide) (by simp [Value.category]) (Nat.le_of_ble_eq_true rfl) rfl ?_
  refine V_aload_n (i := 0) rfl rfl dX7_fewest_0 rfl ?_
  refine V_getr (kf := 0) C7 (by decide) l_X7_12 (by assumption) rfl (by assumption) dX7_fewest_1 rfl ?_
  refine V_iload_n (i := 1) rfl rfl dX7_fewest_4 rfl ?_
  refine V_call (n := 1) (sp_pieceOf l g r1 hS1 x) o_X3_pieceOf m_X7_141 ⟨by decide, by decide⟩ (by assumption) rfl rfl (by first | exact Nat.le_of_ble_eq_true rfl | simp [Value.category]) (Nat.le_refl _) (Nat.le_refl _) rfl dX7_fewest_5 rfl (kR ?_)
  refine V_astore_nr (i := 3) rfl (by decide) rfl dX7_fewest_8 rfl ?_
  refine V_aload_nr (i := 3) rfl rfl dX7_fewest_9 rfl ?_
  refine V_ifnonnull (tgt := 15) dX7_fewest_10 (by decide) rfl (fun b_10 h_10 => ?_) (fun h_10 => ?_)
  · obtain ⟨p, hp, rfl, rfl⟩ := pcR_some h_10
    have hap := at_piece (nT := nT) isRc_1 hp
    rw [h_10]
    have hc : (nI p).toNatClampNeg = p := nI_clamp (by omega)
    refine V_iload_n (i := 2) rfl rfl dX7_fewest_15 rfl ?_
    refine V_if_eq (tgt := 27) dX7_fewest_16 (by decide) rfl (fun h_16 => ?_) (fun h_16 => ?_)
    · have hw : 0 ≤ w ∧ w ≤ 1 := (by first | exact (by rw [h_16]; decide) | exact (by rw [h_21]; decide))
      refine V_aload_n (i := 3) rfl rfl dX7_fewest_27 rfl ?_
      refine V_call (n := 0) (sp_Piece_isInRace l g hap) o_X2_isInRace m_X7_230 ⟨by decide, by decide⟩ (by assumption) rfl rfl (by first | exact Nat.le_of_ble_eq_true rfl | simp [Value.category]) (Nat.le_refl _) (Nat.le_refl _) rfl dX7_fewest_28 rfl (kI ?_)
      rw [hR.p2 hp]
      refine V_if_ne (tgt := 36) dX7_fewest_31 (by decide) rfl (fun h_31 => ?_) (fun h_31 => ?_)
      · refine V_aload_n (i := 3) rfl rfl dX7_fewest_36 rfl ?_
        refine V_call (n := 0) (sp_Piece_next l g hap (at_bites (nT := nT) r1 hp) (hS1.2.2.2.1 p hp) (by rw [hR.p1 hp]; exact (hI.many hp).1) (by have := (hI.many hp).2; omega) (fun k hk b hb => hR.b hp (by have := (hI.many hp).2; omega) hk hb (f := 0) (by decide)) (RSh.BtS (nT := nT) r1 hS1 hp) (hR.p2 hp) rfl) o_X2_nextBeginning m_X7_159 ⟨by decide, by decide⟩ (by assumption) rfl rfl (by first | exact Nat.le_of_ble_eq_true rfl | simp [Value.category]) (Nat.le_refl _) (Nat.le_refl _) rfl dX7_fewest_37 rfl (kI ?_)
        refine V_istore (i := 4) (by decide) rfl dX7_fewest_40 rfl ?_
        refine V_iload_n (i := 2) rfl rfl dX7_fewest_42 rfl ?_
        refine V_if_ne (tgt := 62) dX7_fewest_43 (by decide) rfl (fun h_43 => ?_) (fun h_43 => ?_)
        · refine V_aload_n (i := 0) rfl rfl dX7_fewest_62 rfl ?_
          refine V_getr (kf := 5) C7 (by decide) l_X7_39 (by assumption) rfl (by assumption) dX7_fewest_63 rfl ?_
          refine V_aload_n (i := 0) rfl rfl dX7_fewest_66 rfl ?_
          refine V_getr (kf := 0) C7 (by decide) l_X7_12 (by assumption) rfl (by assumption) dX7_fewest_67 rfl ?_
          refine V_iload (i := 4) rfl dX7_fewest_70 rfl ?_
          refine V_mem (mS_0 I).symm ?_
          refine V_call (n := 2) (sp_backTo l g hS hR hI.iHd (s0 I) (aBeg s p)) o_X5_backTo m_X7_245 ⟨by decide, by decide⟩ (by assumption) rfl rfl (by first | exact Nat.le_of_ble_eq_true rfl | simp [Value.category]) (Nat.le_refl _) (Nat.le_refl _) rfl dX7_fewest_72 rfl (kJ ?_)
          rintro _ J P2 ⟨rfl, hJ, hP⟩
          rw [hP]
          exact V_ireturn rfl rfl dX7_fewest_75 rfl rfl rfl (⟨_, rfl, (by unfold fewR; rw [if_neg (fun z => z (le3 hp)), if_neg (fun z => z hw), hc, if_pos ((hI.in hp).mpr (bI_nz h_31))]; unfold fewC; first | exact (if_pos h_43).symm | exact (if_neg h_43).symm), hS, hC.srch hS hJ, fun b hb => ⟨hJ b (by omega), rfl⟩⟩)
        · refine V_aload_n (i := 0) rfl rfl dX7_fewest_46 rfl ?_
          refine V_getr (kf := 5) C7 (by decide) l_X7_39 (by assumption) rfl (by assumption) dX7_fewest_47 rfl ?_
          refine V_aload_n (i := 0) rfl rfl dX7_fewest_50 rfl ?_
          refine V_getr (kf := 0) C7 (by decide) l_X7_12 (by assumption) rfl (by assumption) dX7_fewest_51 rfl ?_
          refine V_iload (i := 4) rfl dX7_fewest_54 rfl ?_
          refine V_mem (mS_0 I).symm ?_
          refine V_call (n := 2) (sp_onFrom l g hS hR hI.iHd (s0 I) (aBeg s p)) o_X5_onFrom m_X7_241 ⟨by decide, by decide⟩ (by assumption) rfl rfl (by first | exact Nat.le_of_ble_eq_true rfl | simp [Value.category]) (Nat.le_refl _) (Nat.le_refl _) rfl dX7_fewest_56 rfl (kJ ?_)
          rintro _ J P2 ⟨rfl, hJ, hP⟩
          rw [hP]
          refine V_goto (tgt := 75) dX7_fewest_59 (by decide) ?_
          exact V_ireturn rfl rfl dX7_fewest_75 rfl rfl rfl (⟨_, rfl, (by unfold fewR; rw [if_neg (fun z => z (le3 hp)), if_neg (fun z => z hw), hc, if_pos ((hI.in hp).mpr (bI_nz h_31))]; unfold fewC; first | exact (if_pos h_43).symm | exact (if_neg h_43).symm), hS, hC.srch hS hJ, fun b hb => ⟨hJ b (by omega), rfl⟩⟩)
      · refine V_iconst (v := 0) (by decide) dX7_fewest_34 rfl ?_
        exact V_ireturn rfl rfl dX7_fewest_35 rfl rfl rfl (⟨_, rfl, (by unfold fewR; rw [if_neg (fun z => z (le3 hp)), if_neg (fun z => z hw), hc, if_neg (fun z => bI_z h_31 ((hI.in hp).mp z))]), hS, hC, fun _ _ => ⟨rfl, rfl⟩⟩)
    · refine V_iload_n (i := 2) rfl rfl dX7_fewest_19 rfl ?_
      refine V_iconst (v := 1) (by decide) dX7_fewest_20 rfl ?_
      refine V_icmp_eq (tgt := 27) dX7_fewest_21 (by decide) rfl (fun h_21 => ?_) (fun h_21 => ?_)
      · have hw : 0 ≤ w ∧ w ≤ 1 := (by first | exact (by rw [h_16]; decide) | exact (by rw [h_21]; decide))
        refine V_aload_n (i := 3) rfl rfl dX7_fewest_27 rfl ?_
        refine V_call (n := 0) (sp_Piece_isInRace l g hap) o_X2_isInRace m_X7_230 ⟨by decide, by decide⟩ (by assumption) rfl rfl (by first | exact Nat.le_of_ble_eq_true rfl | simp [Value.category]) (Nat.le_refl _) (Nat.le_refl _) rfl dX7_fewest_28 rfl (kI ?_)
        rw [hR.p2 hp]
        refine V_if_ne (tgt := 36) dX7_fewest_31 (by decide) rfl (fun h_31 => ?_) (fun h_31 => ?_)
        · refine V_aload_n (i := 3) rfl rfl dX7_fewest_36 rfl ?_
          refine V_call (n := 0) (sp_Piece_next l g hap (at_bites (nT := nT) r1 hp) (hS1.2.2.2.1 p hp) (by rw [hR.p1 hp]; exact (hI.many hp).1) (by have := (hI.many hp).2; omega) (fun k hk b hb => hR.b hp (by have := (hI.many hp).2; omega) hk hb (f := 0) (by decide)) (RSh.BtS (nT := nT) r1 hS1 hp) (hR.p2 hp) rfl) o_X2_nextBeginning m_X7_159 ⟨by decide, by decide⟩ (by assumption) rfl rfl (by first | exact Nat.le_of_ble_eq_true rfl | simp [Value.category]) (Nat.le_refl _) (Nat.le_refl _) rfl dX7_fewest_37 rfl (kI ?_)
          refine V_istore (i := 4) (by decide) rfl dX7_fewest_40 rfl ?_
          refine V_iload_n (i := 2) rfl rfl dX7_fewest_42 rfl ?_
          refine V_if_ne (tgt := 62) dX7_fewest_43 (by decide) rfl (fun h_43 => ?_) (fun h_43 => ?_)
          · refine V_aload_n (i := 0) rfl rfl dX7_fewest_62 rfl ?_
            refine V_getr (kf := 5) C7 (by decide) l_X7_39 (by assumption) rfl (by assumption) dX7_fewest_63 rfl ?_
            refine V_aload_n (i := 0) rfl rfl dX7_fewest_66 rfl ?_
            refine V_getr (kf := 0) C7 (by decide) l_X7_12 (by assumption) rfl (by assumption) dX7_fewest_67 rfl ?_
            refine V_iload (i := 4) rfl dX7_fewest_70 rfl ?_
            refine V_mem (mS_0 I).symm ?_
            refine V_call (n := 2) (sp_backTo l g hS hR hI.iHd (s0 I) (aBeg s p)) o_X5_backTo m_X7_245 ⟨by decide, by decide⟩ (by assumption) rfl rfl (by first | exact Nat.le_of_ble_eq_true rfl | simp [Value.category]) (Nat.le_refl _) (Nat.le_refl _) rfl dX7_fewest_72 rfl (kJ ?_)
            rintro _ J P2 ⟨rfl, hJ, hP⟩
            rw [hP]
            exact V_ireturn rfl rfl dX7_fewest_75 rfl rfl rfl (⟨_, rfl, (by unfold fewR; rw [if_neg (fun z => z (le3 hp)), if_neg (fun z => z hw), hc, if_pos ((hI.in hp).mpr (bI_nz h_31))]; unfold fewC; first | exact (if_pos h_43).symm | exact (if_neg h_43).symm), hS, hC.srch hS hJ, fun b hb => ⟨hJ b (by omega), rfl⟩⟩)
          · refine V_aload_n (i := 0) rfl rfl dX7_fewest_46 rfl ?_
            refine V_getr (kf := 5) C7 (by decide) l_X7_39 (by assumption) rfl (by assumption) dX7_fewest_47 rfl ?_
            refine V_aload_n (i := 0) rfl rfl dX7_fewest_50 rfl ?_
            refine V_getr (kf := 0) C7 (by decide) l_X7_12 (by assumption) rfl (by assumption) dX7_fewest_51 rfl ?_
            refine V_iload (i := 4) rfl dX7_fewest_54 rfl ?_
            refine V_mem (mS_0 I).symm ?_
            refine V_call (n := 2) (sp_onFrom l g hS hR hI.iHd (s0 I) (aBeg s p)) o_X5_onFrom m_X7_241 ⟨by decide, by decide⟩ (by assumption) rfl rfl (by first | exact Nat.le_of_ble_eq_true rfl | simp [Value.category]) (Nat.le_refl _) (Nat.le_refl _) rfl dX7_fewest_56 rfl (kJ ?_)
            rintro _ J P2 ⟨rfl, hJ, hP⟩
            rw [hP]
            refine V_goto (tgt := 75) dX7_fewest_59 (by decide) ?_
            exact V_ireturn rfl rfl dX7_fewest_75 rfl rfl rfl (⟨_, rfl, (by unfold fewR; rw [if_neg (fun z => z (le3 hp)), if_neg (fun z => z hw), hc, if_pos ((hI.in hp).mpr (bI_nz h_31))]; unfold fewC; first | exact (if_pos h_43).symm | exact (if_neg h_43).symm), hS, hC.srch hS hJ, fun b hb => ⟨hJ b (by omega), rfl⟩⟩)
        · refine V_iconst (v := 0) (by decide) dX7_fewest_34 rfl ?_
          exact V_ireturn rfl rfl dX7_fewest_35 rfl rfl rfl (⟨_, rfl, (by unfold fewR; rw [if_neg (fun z => z (le3 hp)), if_neg (fun z => z hw), hc, if_neg (fun z => bI_z h_31 ((hI.in hp).mp z))]), hS, hC, fun _ _ => ⟨rfl, rfl⟩⟩)
      · refine V_bipush (v := (-2)) (by decide) dX7_fewest_24 rfl ?_
        exact V_ireturn rfl rfl dX7_fewest_26 rfl rfl rfl (⟨_, rfl, (by unfold fewR; rw [if_neg (fun z => z (le3 hp)), if_pos (w01 h_16 h_21)]), hS, hC, fun _ _ => ⟨rfl, rfl⟩⟩)
  · refine V_iconst (v := (-1)) (by decide) dX7_fewest_13 rfl ?_
    exact V_ireturn rfl rfl dX7_fewest_14 rfl rfl rfl (⟨_, rfl, (if_pos (pcR_none h_10)).symm, hS, hC, fun _ _ => ⟨rfl, rfl⟩⟩)
