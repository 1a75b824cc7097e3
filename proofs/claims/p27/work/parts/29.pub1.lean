variable {nT : Nat}
theorem Inv.now1 {B : Nat} {s : Nat → Int32} (h : Inv B s) : ∃ m, m < 4 ∧ s 1 = nI m := h.now
theorem aRc_home {B : Nat} {s : Nat → Int32} (h : Inv B s) : aRcF s 4 = 4 - s 4 := by
  have e : ∀ i, i < 4 → bI (¬ ro s i 0 = 60) = bI (ro s i 2 = 0) := fun i hi => bI_congr (h.in hi).symm
  show 0 + bI (¬ ro s 0 0 = 60) + bI (¬ ro s 1 0 = 60) + bI (¬ ro s 2 0 = 60) + bI (¬ ro s 3 0 = 60) = _
  rw [e 0 (by decide), e 1 (by decide), e 2 (by decide), e 3 (by decide), h.2.2.2.2.2.2.2.1]
  unfold home bI
  by_cases h0 : ro s 0 2 = 0 <;> by_cases h1 : ro s 1 2 = 0 <;> by_cases h2 : ro s 2 2 = 0 <;> by_cases h3 : ro s 3 2 = 0 <;> simp only [h0, h1, h2, h3, if_true, if_false] <;> decide
theorem biR_n {ra p : Nat} {s : Nat → Int32} {q : Int32} : biR ra s p q = none ↔ ¬ aBites s p q := ⟨biR_none, fun h => if_neg h⟩
theorem biR_s {ra p b : Nat} {s : Nat → Int32} {q : Int32} (h : biR ra s p q = some b) : aBites s p q := (biR_some h).elim fun _ h => h.2.2.2.1
theorem sw_no {x : Int32} (h : x.toInt < 0 ∨ (3 : Int) < x.toInt) : ¬ (0 ≤ x ∧ x ≤ 3) := fun z => by
  have h1 := i32_le.mp z.1
  have h2 := i32_le.mp z.2
  rw [Int32.toInt_zero] at h1
  rw [show (3 : Int32).toInt = 3 from by decide] at h2
  omega
theorem sw_no2 {x : Int32} (h : x.toInt < 0 ∨ (2 : Int) < x.toInt) : ¬ (0 ≤ x ∧ x ≤ 2) := fun z => by
  have h1 := i32_le.mp z.1
  have h2 := i32_le.mp z.2
  rw [Int32.toInt_zero] at h1
  rw [show (2 : Int32).toInt = 2 from by decide] at h2
  omega
theorem dg6 {j : Nat} (h : j < 6) : ¬ (6 : Int32) < nI (j + 1) := Int32.not_lt.mpr ((nI_leI (b := 6) (by omega) (by decide)).mpr (by omega))
set_option maxHeartbeats 4000000 in
set_option maxRecDepth 100000 in
theorem sc_player (l : Launch) (g : fw_G) {I : fw_I} {P : fw_P} {s : Nat → Int32} {k : Nat} {h : Nat → Nat → Int32} {tk : Bool} {sp : Nat → Int32} {len : Nat} {tx : Nat → Int32} (hS : CSh P) (hC : CRel I P s k h tk sp len tx) {B : Nat} (hI : Inv B s) (x w : Int32) : Sp l g kX7_player (T0 nT) [.ref (g.1 + 0), .int x, .int w] I P (T0 nT) 0 0 (qI (aPlrX s x w) I P) := by
  have a0 := (at_0 (nT := nT))
  have a1 := at_race (nT := nT) isRc_1
  have a256 := (at_256 (nT := nT))
  have a683 := (at_683 (nT := nT))
  have r1 := isRc_1
  have hS1 := hS.r isRc_1
  have hR := hC.1.1
  have hv := hC.1.2
  have q0 : P 0 0 = some 1 := hS.2.2.2.2.1
  have q1 : P 0 1 = some 86 := hS.2.2.2.2.2.1
  have q2 : P 0 2 = some 171 := hS.2.2.2.2.2.2.1
  have q3 : P 0 3 = some 256 := hS.2.2.2.2.2.2.2.1
  have q4 : P 0 4 = some 683 := hS.2.2.2.2.2.2.2.2.1
  have q5 : P 0 5 = some 685 := hS.2.2.2.2.2.2.2.2.2.1
  refine Sp.of_V (L := [some (.ref (g.1 + 0)), some (.int x), some (.int w), none]) (by decide) (by simp [Value.category]) (Nat.le_of_ble_eq_true rfl) rfl ?_
  refine V_aload_n (i := 0) rfl rfl dX7_player_0 rfl ?_
  refine V_getr (kf := 0) C7 (by decide) l_X7_12 (by assumption) rfl (by assumption) dX7_player_1 rfl ?_
  refine V_iload_n (i := 1) rfl rfl dX7_player_4 rfl ?_
  refine V_call (n := 1) (sp_pieceOf l g r1 hS1 x) o_X3_pieceOf m_X7_141 ⟨by decide, by decide⟩ (by assumption) rfl rfl (by first | exact Nat.le_of_ble_eq_true rfl | simp [Value.category]) (Nat.le_refl _) (Nat.le_refl _) rfl dX7_player_5 rfl (kR ?_)
  refine V_astore_nr (i := 3) rfl (by decide) rfl dX7_player_8 rfl ?_
  refine V_aload_nr (i := 3) rfl rfl dX7_player_9 rfl ?_
  refine V_ifnonnull (tgt := 15) dX7_player_10 (by decide) rfl (fun b_10 h_10 => ?_) (fun h_10 => ?_)
  · obtain ⟨p, hp, rfl, rfl⟩ := pcR_some h_10
    have hap := at_piece (nT := nT) isRc_1 hp
    rw [h_10]
    have hc : (nI p).toNatClampNeg = p := nI_clamp (by omega)
    refine V_iload_n (i := 2) rfl rfl dX7_player_15 rfl ?_
    rcases sw_cases 7 (by decide) w with h_16 | ⟨i_16, h_16, rfl⟩
    · refine V_tableOut (tgt := 108) dX7_player_16 h_16 (by decide) ?_
      refine V_bipush (v := (-2)) (by decide) dX7_player_108 rfl ?_
      exact V_ireturn rfl rfl dX7_player_110 rfl rfl rfl (qI.of (by unfold aPlrX; rw [if_pos (le3 hp), hc]; unfold aPlr; rw [if_neg (sw_ne h_16 (by decide : 0 ≤ 7) (by decide)), if_neg (sw_ne h_16 (by decide : 1 ≤ 7) (by decide)), if_neg (sw_ne h_16 (by decide : 2 ≤ 7) (by decide)), if_neg (sw_ne h_16 (by decide : 3 ≤ 7) (by decide)), if_neg (sw_ne h_16 (by decide : 4 ≤ 7) (by decide)), if_neg (sw_ne h_16 (by decide : 5 ≤ 7) (by decide)), if_neg (sw_ne h_16 (by decide : 6 ≤ 7) (by decide)), if_neg (sw_ne h_16 (by decide : 7 ≤ 7) (by decide))]))
    · rcases (show i_16 = 0 ∨ i_16 = 1 ∨ i_16 = 2 ∨ i_16 = 3 ∨ i_16 = 4 ∨ i_16 = 5 ∨ i_16 = 6 ∨ i_16 = 7 by omega) with rfl | rfl | rfl | rfl | rfl | rfl | rfl | rfl
      · refine V_tableIn (x := nI 0) (tgt := 64) dX7_player_16 (by decide) (by decide) rfl (by decide) ?_
        refine V_aload_n (i := 3) rfl rfl dX7_player_64 rfl ?_
        refine V_get (kf := 2) C2 (by decide) l_X7_145 (by assumption) rfl dX7_player_65 rfl ?_
        rw [hR.p2 hp]
        exact V_ireturn rfl rfl dX7_player_68 rfl rfl rfl (qI.of (by unfold aPlrX; rw [if_pos (le3 hp), hc]; rfl))
      · refine V_tableIn (x := nI 1) (tgt := 69) dX7_player_16 (by decide) (by decide) rfl (by decide) ?_
        refine V_aload_n (i := 3) rfl rfl dX7_player_69 rfl ?_
        refine V_get (kf := 3) C2 (by decide) l_X7_150 (by assumption) rfl dX7_player_70 rfl ?_
        rw [hR.p3 hp]
        refine V_sipush (v := 1000) (by decide) dX7_player_73 rfl ?_
        refine V_iadd dX7_player_76 rfl ?_
        exact V_ireturn rfl rfl dX7_player_77 rfl rfl rfl (qI.of (by unfold aPlrX; rw [if_pos (le3 hp), hc]; rfl))
      · refine V_tableIn (x := nI 2) (tgt := 78) dX7_player_16 (by decide) (by decide) rfl (by decide) ?_
        refine V_aload_n (i := 3) rfl rfl dX7_player_78 rfl ?_
        refine V_get (kf := 1) C2 (by decide) l_X7_153 (by assumption) rfl dX7_player_79 rfl ?_
        rw [hR.p1 hp]
        exact V_ireturn rfl rfl dX7_player_82 rfl rfl rfl (qI.of (by unfold aPlrX; rw [if_pos (le3 hp), hc]; rfl))
      · refine V_tableIn (x := nI 3) (tgt := 83) dX7_player_16 (by decide) (by decide) rfl (by decide) ?_
        refine V_aload_n (i := 3) rfl rfl dX7_player_83 rfl ?_
        refine V_call (n := 0) (sp_Piece_sizes l g hap (at_bites (nT := nT) r1 hp) (hS1.2.2.2.1 p hp) (by rw [hR.p1 hp]; exact (hI.many hp).1) (by have := (hI.many hp).2; omega) (fun k hk b hb => hR.b hp (by have := (hI.many hp).2; omega) hk hb (f := 0) (by decide)) (RSh.BtS (nT := nT) r1 hS1 hp)) o_X2_sizesTogether m_X7_156 ⟨by decide, by decide⟩ (by assumption) rfl rfl (by first | exact Nat.le_of_ble_eq_true rfl | simp [Value.category]) (Nat.le_refl _) (Nat.le_refl _) rfl dX7_player_84 rfl (kI ?_)
        exact V_ireturn rfl rfl dX7_player_87 rfl rfl rfl (qI.of (by unfold aPlrX; rw [if_pos (le3 hp), hc]; rfl))
      · refine V_tableIn (x := nI 4) (tgt := 88) dX7_player_16 (by decide) (by decide) rfl (by decide) ?_
        refine V_aload_n (i := 3) rfl rfl dX7_player_88 rfl ?_
        refine V_call (n := 0) (sp_Piece_next l g hap (at_bites (nT := nT) r1 hp) (hS1.2.2.2.1 p hp) (by rw [hR.p1 hp]; exact (hI.many hp).1) (by have := (hI.many hp).2; omega) (fun k hk b hb => hR.b hp (by have := (hI.many hp).2; omega) hk hb (f := 0) (by decide)) (RSh.BtS (nT := nT) r1 hS1 hp) (hR.p2 hp) rfl) o_X2_nextBeginning m_X7_159 ⟨by decide, by decide⟩ (by assumption) rfl rfl (by first | exact Nat.le_of_ble_eq_true rfl | simp [Value.category]) (Nat.le_refl _) (Nat.le_refl _) rfl dX7_player_89 rfl (kI ?_)
        exact V_ireturn rfl rfl dX7_player_92 rfl rfl rfl (qI.of (by unfold aPlrX; rw [if_pos (le3 hp), hc]; rfl))
      · refine V_tableIn (x := nI 5) (tgt := 93) dX7_player_16 (by decide) (by decide) rfl (by decide) ?_
        refine V_aload_n (i := 3) rfl rfl dX7_player_93 rfl ?_
        refine V_get (kf := 4) C2 (by decide) l_X7_162 (by assumption) rfl dX7_player_94 rfl ?_
        rw [hR.p4 hp]
        exact V_ireturn rfl rfl dX7_player_97 rfl rfl rfl (qI.of (by unfold aPlrX; rw [if_pos (le3 hp), hc]; rfl))
      · refine V_tableIn (x := nI 6) (tgt := 98) dX7_player_16 (by decide) (by decide) rfl (by decide) ?_
        refine V_aload_n (i := 3) rfl rfl dX7_player_98 rfl ?_
        refine V_get (kf := 5) C2 (by decide) l_X7_165 (by assumption) rfl dX7_player_99 rfl ?_
        rw [hR.p5 hp]
        exact V_ireturn rfl rfl dX7_player_102 rfl rfl rfl (qI.of (by unfold aPlrX; rw [if_pos (le3 hp), hc]; rfl))
      · refine V_tableIn (x := nI 7) (tgt := 103) dX7_player_16 (by decide) (by decide) rfl (by decide) ?_
        refine V_aload_n (i := 3) rfl rfl dX7_player_103 rfl ?_
        refine V_get (kf := 6) C2 (by decide) l_X7_168 (by assumption) rfl dX7_player_104 rfl ?_
        rw [hR.p6 hp]
        exact V_ireturn rfl rfl dX7_player_107 rfl rfl rfl (qI.of (by unfold aPlrX; rw [if_pos (le3 hp), hc]; rfl))
  · refine V_iconst (v := (-1)) (by decide) dX7_player_13 rfl ?_
    exact V_ireturn rfl rfl dX7_player_14 rfl rfl rfl (qI.of (if_neg (pcR_none h_10)).symm)

set_option maxHeartbeats 4000000 in
set_option maxRecDepth 100000 in
theorem sc_bite (l : Launch) (g : fw_G) {I : fw_I} {P : fw_P} {s : Nat → Int32} {k : Nat} {h : Nat → Nat → Int32} {tk : Bool} {sp : Nat → Int32} {len : Nat} {tx : Nat → Int32} (hS : CSh P) (hC : CRel I P s k h tk sp len tx) {B : Nat} (hI : Inv B s) (x y w : Int32) : Sp l g kX7_bite (T0 nT) [.ref (g.1 + 0), .int x, .int y, .int w] I P (T0 nT) 0 0 (qI (aBitX s x y w) I P) := by
  have a0 := (at_0 (nT := nT))
  have a1 := at_race (nT := nT) isRc_1
  have a256 := (at_256 (nT := nT))
  have a683 := (at_683 (nT := nT))
  have r1 := isRc_1
  have hS1 := hS.r isRc_1
  have hR := hC.1.1
  have hv := hC.1.2
  have q0 : P 0 0 = some 1 := hS.2.2.2.2.1
  have q1 : P 0 1 = some 86 := hS.2.2.2.2.2.1
  have q2 : P 0 2 = some 171 := hS.2.2.2.2.2.2.1
  have q3 : P 0 3 = some 256 := hS.2.2.2.2.2.2.2.1
  have q4 : P 0 4 = some 683 := hS.2.2.2.2.2.2.2.2.1
  have q5 : P 0 5 = some 685 := hS.2.2.2.2.2.2.2.2.2.1
  refine Sp.of_V (L := [some (.ref (g.1 + 0)), some (.int x), some (.int y), some (.int w), none]) (by decide) (by simp [Value.category]) (Nat.le_of_ble_eq_true rfl) rfl ?_
  refine V_aload_n (i := 0) rfl rfl dX7_bite_0 rfl ?_
  refine V_getr (kf := 0) C7 (by decide) l_X7_12 (by assumption) rfl (by assumption) dX7_bite_1 rfl ?_
  refine V_iload_n (i := 1) rfl rfl dX7_bite_4 rfl ?_
  refine V_iload_n (i := 2) rfl rfl dX7_bite_5 rfl ?_
  refine V_call (n := 2) (sp_biteOf l g r1 hS1 hR hI.mOf x y) o_X3_biteOf m_X7_171 ⟨by decide, by decide⟩ (by assumption) rfl rfl (by first | exact Nat.le_of_ble_eq_true rfl | simp [Value.category]) (Nat.le_refl _) (Nat.le_refl _) rfl dX7_bite_6 rfl (kR ?_)
  refine V_astore_r (i := 4) (by decide) rfl dX7_bite_9 rfl ?_
  refine V_aload_r (i := 4) rfl dX7_bite_11 rfl ?_
  refine V_ifnonnull (tgt := 18) dX7_bite_13 (by decide) rfl (fun b_13 h_13 => ?_) (fun h_13 => ?_)
  · have hbt := bR_some h_13
    obtain ⟨p, k2, hp, rfl, hk, rfl, hk20⟩ := aBt.nat hI.mOk hbt
    have hc : (nI p).toNatClampNeg = p := nI_clamp (by omega)
    have hck : (nI k2).toNatClampNeg = k2 := nI_clamp (by omega)
    have hk16 : k2 < 16 := by have := (hI.many hp).2; omega
    rw [bR_nI hI.mOf hp hk] at h_13
    have hab : fw_at (T0 nT) b_13 0 0 := by
      obtain ⟨b9, e9, a9⟩ := RSh.BtS (nT := nT) r1 hS1 hp k2 hk16
      rw [h_13] at e9
      rw [Option.some.inj e9]; exact a9
    rw [bR_nI hI.mOf hp hk, h_13]
    refine V_iload_n (i := 3) rfl rfl dX7_bite_18 rfl ?_
    rcases sw_cases 3 (by decide) w with h_19 | ⟨i_19, h_19, rfl⟩
    · refine V_tableOut (tgt := 72) dX7_bite_19 h_19 (by decide) ?_
      refine V_bipush (v := (-2)) (by decide) dX7_bite_72 rfl ?_
      exact V_ireturn rfl rfl dX7_bite_74 rfl rfl rfl (qI.of (by unfold aBitX; rw [if_pos hbt]; exact (if_neg (sw_no h_19)).symm))
    · rcases (show i_19 = 0 ∨ i_19 = 1 ∨ i_19 = 2 ∨ i_19 = 3 by omega) with rfl | rfl | rfl | rfl
      · refine V_tableIn (x := nI 0) (tgt := 48) dX7_bite_19 (by decide) (by decide) rfl (by decide) ?_
        refine V_aload (i := 4) rfl dX7_bite_48 rfl ?_
        refine V_get (kf := 0) C0 (by decide) l_X7_175 (by assumption) rfl dX7_bite_50 rfl ?_
        rw [hR.b hp hk16 hk h_13 (f := 0) (by decide)]
        exact V_ireturn rfl rfl dX7_bite_53 rfl rfl rfl (qI.of (by unfold aBitX; rw [if_pos hbt, hc, hck]; rfl))
      · refine V_tableIn (x := nI 1) (tgt := 54) dX7_bite_19 (by decide) (by decide) rfl (by decide) ?_
        refine V_aload (i := 4) rfl dX7_bite_54 rfl ?_
        refine V_get (kf := 1) C0 (by decide) l_X7_180 (by assumption) rfl dX7_bite_56 rfl ?_
        rw [hR.b hp hk16 hk h_13 (f := 1) (by decide)]
        exact V_ireturn rfl rfl dX7_bite_59 rfl rfl rfl (qI.of (by unfold aBitX; rw [if_pos hbt, hc, hck]; rfl))
      · refine V_tableIn (x := nI 2) (tgt := 60) dX7_bite_19 (by decide) (by decide) rfl (by decide) ?_
        refine V_aload (i := 4) rfl dX7_bite_60 rfl ?_
        refine V_get (kf := 2) C0 (by decide) l_X7_183 (by assumption) rfl dX7_bite_62 rfl ?_
        rw [hR.b hp hk16 hk h_13 (f := 2) (by decide)]
        exact V_ireturn rfl rfl dX7_bite_65 rfl rfl rfl (qI.of (by unfold aBitX; rw [if_pos hbt, hc, hck]; rfl))
      · refine V_tableIn (x := nI 3) (tgt := 66) dX7_bite_19 (by decide) (by decide) rfl (by decide) ?_
        refine V_aload (i := 4) rfl dX7_bite_66 rfl ?_
        refine V_get (kf := 3) C0 (by decide) l_X7_186 (by assumption) rfl dX7_bite_68 rfl ?_
        rw [hR.b hp hk16 hk h_13 (f := 3) (by decide)]
        exact V_ireturn rfl rfl dX7_bite_71 rfl rfl rfl (qI.of (by unfold aBitX; rw [if_pos hbt, hc, hck]; rfl))
  · refine V_iconst (v := (-1)) (by decide) dX7_bite_16 rfl ?_
    exact V_ireturn rfl rfl dX7_bite_17 rfl rfl rfl (qI.of (if_neg (fun z => by unfold bR at h_13; rw [if_pos z] at h_13; obtain ⟨p, k2, hp, e1, hk, e2, hk20⟩ := aBt.nat hI.mOk z; have hk16 : k2 < 16 := (by have := (hI.many hp).2; omega); obtain ⟨b9, e9, a9⟩ := RSh.BtS (nT := nT) r1 hS1 hp k2 hk16; rw [e1, e2, nI_clamp (by omega), nI_clamp (by omega), e9] at h_13; cases h_13)).symm)

set_option maxHeartbeats 4000000 in
set_option maxRecDepth 100000 in
theorem sc_snakeOf (l : Launch) (g : fw_G) {I : fw_I} {P : fw_P} {s : Nat → Int32} {k : Nat} {h : Nat → Nat → Int32} {tk : Bool} {sp : Nat → Int32} {len : Nat} {tx : Nat → Int32} (hS : CSh P) (hC : CRel I P s k h tk sp len tx) {B : Nat} (hI : Inv B s) (x w : Int32) : Sp l g kX7_snakeOf (T0 nT) [.ref (g.1 + 0), .int x, .int w] I P (T0 nT) 0 0 (qI (aSnkX s x w) I P) := by
  have a0 := (at_0 (nT := nT))
  have a1 := at_race (nT := nT) isRc_1
  have a256 := (at_256 (nT := nT))
  have a683 := (at_683 (nT := nT))
  have r1 := isRc_1
  have hS1 := hS.r isRc_1
  have hR := hC.1.1
  have hv := hC.1.2
  have q0 : P 0 0 = some 1 := hS.2.2.2.2.1
  have q1 : P 0 1 = some 86 := hS.2.2.2.2.2.1
  have q2 : P 0 2 = some 171 := hS.2.2.2.2.2.2.1
  have q3 : P 0 3 = some 256 := hS.2.2.2.2.2.2.2.1
  have q4 : P 0 4 = some 683 := hS.2.2.2.2.2.2.2.2.1
  have q5 : P 0 5 = some 685 := hS.2.2.2.2.2.2.2.2.2.1
  refine Sp.of_V (L := [some (.ref (g.1 + 0)), some (.int x), some (.int w), none]) (by decide) (by simp [Value.category]) (Nat.le_of_ble_eq_true rfl) rfl ?_
  refine V_aload_n (i := 0) rfl rfl dX7_snakeOf_0 rfl ?_
  refine V_getr (kf := 0) C7 (by decide) l_X7_12 (by assumption) rfl (by assumption) dX7_snakeOf_1 rfl ?_
  refine V_iload_n (i := 1) rfl rfl dX7_snakeOf_4 rfl ?_
  refine V_call (n := 1) (sp_snakeNumbered l g r1 hS1 hR x) o_X3_snakeNumbered m_X7_73 ⟨by decide, by decide⟩ (by assumption) rfl rfl (by first | exact Nat.le_of_ble_eq_true rfl | simp [Value.category]) (Nat.le_refl _) (Nat.le_refl _) rfl dX7_snakeOf_5 rfl (kR ?_)
  refine V_astore_nr (i := 3) rfl (by decide) rfl dX7_snakeOf_8 rfl ?_
  refine V_aload_nr (i := 3) rfl rfl dX7_snakeOf_9 rfl ?_
  refine V_ifnonnull (tgt := 15) dX7_snakeOf_10 (by decide) rfl (fun b_10 h_10 => ?_) (fun h_10 => ?_)
  · obtain ⟨i, hi, rfl, hps, rfl⟩ := snR_x h_10
    have hck : (nI i).toNatClampNeg = i := nI_clamp (by omega)
    have hak := at_snake (nT := nT) r1 hi
    have hsk : aSk s (nI i) := ⟨le9 hi, by rw [hck]; exact hps⟩
    rw [h_10]
    refine V_iload_n (i := 2) rfl rfl dX7_snakeOf_15 rfl ?_
    rcases sw_cases 3 (by decide) w with h_16 | ⟨i_16, h_16, rfl⟩
    · refine V_tableOut (tgt := 68) dX7_snakeOf_16 h_16 (by decide) ?_
      refine V_bipush (v := (-2)) (by decide) dX7_snakeOf_68 rfl ?_
      exact V_ireturn rfl rfl dX7_snakeOf_70 rfl rfl rfl (qI.of (by unfold aSnkX; rw [if_pos hsk]; exact (if_neg (sw_no h_16)).symm))
    · rcases (show i_16 = 0 ∨ i_16 = 1 ∨ i_16 = 2 ∨ i_16 = 3 by omega) with rfl | rfl | rfl | rfl
      · refine V_tableIn (x := nI 0) (tgt := 48) dX7_snakeOf_16 (by decide) (by decide) rfl (by decide) ?_
        refine V_aload_n (i := 3) rfl rfl dX7_snakeOf_48 rfl ?_
        refine V_get (kf := 0) C6 (by decide) l_X7_189 (by assumption) rfl dX7_snakeOf_49 rfl ?_
        rw [hR.s0 hi]
        exact V_ireturn rfl rfl dX7_snakeOf_52 rfl rfl rfl (qI.of (by unfold aSnkX; rw [if_pos hsk, hck]; rfl))
      · refine V_tableIn (x := nI 1) (tgt := 53) dX7_snakeOf_16 (by decide) (by decide) rfl (by decide) ?_
        refine V_aload_n (i := 3) rfl rfl dX7_snakeOf_53 rfl ?_
        refine V_get (kf := 1) C6 (by decide) l_X7_192 (by assumption) rfl dX7_snakeOf_54 rfl ?_
        rw [hR.s1 hi hps]
        exact V_ireturn rfl rfl dX7_snakeOf_57 rfl rfl rfl (qI.of (by unfold aSnkX; rw [if_pos hsk, hck]; rfl))
      · refine V_tableIn (x := nI 2) (tgt := 58) dX7_snakeOf_16 (by decide) (by decide) rfl (by decide) ?_
        refine V_aload_n (i := 3) rfl rfl dX7_snakeOf_58 rfl ?_
        refine V_get (kf := 2) C6 (by decide) l_X7_76 (by assumption) rfl dX7_snakeOf_59 rfl ?_
        rw [hR.s2 hi]
        exact V_ireturn rfl rfl dX7_snakeOf_62 rfl rfl rfl (qI.of (by unfold aSnkX; rw [if_pos hsk, hck]; rfl))
      · refine V_tableIn (x := nI 3) (tgt := 63) dX7_snakeOf_16 (by decide) (by decide) rfl (by decide) ?_
        refine V_aload_n (i := 3) rfl rfl dX7_snakeOf_63 rfl ?_
        refine V_get (kf := 3) C6 (by decide) l_X7_195 (by assumption) rfl dX7_snakeOf_64 rfl ?_
        rw [hR.s3 hi hps]
        exact V_ireturn rfl rfl dX7_snakeOf_67 rfl rfl rfl (qI.of (by unfold aSnkX; rw [if_pos hsk, hck]; rfl))
  · refine V_iconst (v := (-1)) (by decide) dX7_snakeOf_13 rfl ?_
    exact V_ireturn rfl rfl dX7_snakeOf_14 rfl rfl rfl (qI.of (if_neg (snR_xn h_10)).symm)

set_option maxHeartbeats 4000000 in
set_option maxRecDepth 100000 in
theorem sc_square (l : Launch) (g : fw_G) {I : fw_I} {P : fw_P} {s : Nat → Int32} {k : Nat} {h : Nat → Nat → Int32} {tk : Bool} {sp : Nat → Int32} {len : Nat} {tx : Nat → Int32} (hS : CSh P) (hC : CRel I P s k h tk sp len tx) {B : Nat} (hI : Inv B s) (q w : Int32) : Sp l g kX7_square (T0 nT) [.ref (g.1 + 0), .int q, .int w] I P (T0 nT) 0 0 (qI (aSqX s q w) I P) := by
  have a0 := (at_0 (nT := nT))
  have a1 := at_race (nT := nT) isRc_1
  have a256 := (at_256 (nT := nT))
  have a683 := (at_683 (nT := nT))
  have r1 := isRc_1
  have hS1 := hS.r isRc_1
  have hR := hC.1.1
  have hv := hC.1.2
  have q0 : P 0 0 = some 1 := hS.2.2.2.2.1
  have q1 : P 0 1 = some 86 := hS.2.2.2.2.2.1
  have q2 : P 0 2 = some 171 := hS.2.2.2.2.2.2.1
  have q3 : P 0 3 = some 256 := hS.2.2.2.2.2.2.2.1
  have q4 : P 0 4 = some 683 := hS.2.2.2.2.2.2.2.2.1
  have q5 : P 0 5 = some 685 := hS.2.2.2.2.2.2.2.2.2.1
  refine Sp.of_V (L := [some (.ref (g.1 + 0)), some (.int q), some (.int w)]) (by decide) (by simp [Value.category]) (Nat.le_of_ble_eq_true rfl) rfl ?_
  refine V_iload_n (i := 1) rfl rfl dX7_square_0 rfl ?_
  refine V_if_lt (tgt := 10) dX7_square_1 (by decide) rfl (fun h_1 => ?_) (fun h_1 => ?_)
  · refine V_bipush (v := (-2)) (by decide) dX7_square_10 rfl ?_
    exact V_ireturn rfl rfl dX7_square_12 rfl rfl rfl (qI.of (by first | exact (if_neg (fun z => absurd z.1.1 (Int32.not_le.mpr h_1))).symm | exact (if_neg (fun z => h_7 z.1.2)).symm))
  · refine V_iload_n (i := 1) rfl rfl dX7_square_4 rfl ?_
    refine V_bipush (v := 60) (by decide) dX7_square_5 rfl ?_
    refine V_icmp_le (tgt := 13) dX7_square_7 (by decide) rfl (fun h_7 => ?_) (fun h_7 => ?_)
    · refine V_iload_n (i := 2) rfl rfl dX7_square_13 rfl ?_
      rcases sw_cases 2 (by decide) w with h_14 | ⟨i_14, h_14, rfl⟩
      · refine V_tableOut (tgt := 67) dX7_square_14 h_14 (by decide) ?_
        refine V_bipush (v := (-2)) (by decide) dX7_square_67 rfl ?_
        exact V_ireturn rfl rfl dX7_square_69 rfl rfl rfl (qI.of (if_neg (fun z => sw_no2 h_14 z.2)).symm)
      · rcases (show i_14 = 0 ∨ i_14 = 1 ∨ i_14 = 2 by omega) with rfl | rfl | rfl
        · refine V_tableIn (x := nI 0) (tgt := 40) dX7_square_14 (by decide) (by decide) rfl (by decide) ?_
          refine V_aload_n (i := 0) rfl rfl dX7_square_40 rfl ?_
          refine V_getr (kf := 0) C7 (by decide) l_X7_12 (by assumption) rfl (by assumption) dX7_square_41 rfl ?_
          refine V_iload_n (i := 1) rfl rfl dX7_square_44 rfl ?_
          refine V_call (n := 1) (sp_piecesOn l g r1 hS1 hR q) o_X3_piecesOn m_X7_198 ⟨by decide, by decide⟩ (by assumption) rfl rfl (by first | exact Nat.le_of_ble_eq_true rfl | simp [Value.category]) (Nat.le_refl _) (Nat.le_refl _) rfl dX7_square_45 rfl (kI ?_)
          exact V_ireturn rfl rfl dX7_square_48 rfl rfl rfl (qI.of (by unfold aSqX; rw [if_pos ⟨⟨Int32.not_lt.mp h_1, h_7⟩, (by decide : (0 : Int32) ≤ nI 0 ∧ nI 0 ≤ 2)⟩]; rfl))
        · refine V_tableIn (x := nI 1) (tgt := 49) dX7_square_14 (by decide) (by decide) rfl (by decide) ?_
          refine V_aload_n (i := 0) rfl rfl dX7_square_49 rfl ?_
          refine V_getr (kf := 0) C7 (by decide) l_X7_12 (by assumption) rfl (by assumption) dX7_square_50 rfl ?_
          refine V_iload_n (i := 1) rfl rfl dX7_square_53 rfl ?_
          refine V_call (n := 1) (sp_headOn l g r1 hS1 hR hI.iHd q) o_X3_numberOfHeadOn m_X7_51 ⟨by decide, by decide⟩ (by assumption) rfl rfl (by first | exact Nat.le_of_ble_eq_true rfl | simp [Value.category]) (Nat.le_refl _) (Nat.le_refl _) rfl dX7_square_54 rfl (kI ?_)
          exact V_ireturn rfl rfl dX7_square_57 rfl rfl rfl (qI.of (by unfold aSqX; rw [if_pos ⟨⟨Int32.not_lt.mp h_1, h_7⟩, (by decide : (0 : Int32) ≤ nI 1 ∧ nI 1 ≤ 2)⟩]; rfl))
        · refine V_tableIn (x := nI 2) (tgt := 58) dX7_square_14 (by decide) (by decide) rfl (by decide) ?_
          refine V_aload_n (i := 0) rfl rfl dX7_square_58 rfl ?_
          refine V_getr (kf := 0) C7 (by decide) l_X7_12 (by assumption) rfl (by assumption) dX7_square_59 rfl ?_
          refine V_iload_n (i := 1) rfl rfl dX7_square_62 rfl ?_
          refine V_call (n := 1) (sp_tailsOn l g r1 hS1 hR q) o_X3_tailsOn m_X7_201 ⟨by decide, by decide⟩ (by assumption) rfl rfl (by first | exact Nat.le_of_ble_eq_true rfl | simp [Value.category]) (Nat.le_refl _) (Nat.le_refl _) rfl dX7_square_63 rfl (kI ?_)
          exact V_ireturn rfl rfl dX7_square_66 rfl rfl rfl (qI.of (by unfold aSqX; rw [if_pos ⟨⟨Int32.not_lt.mp h_1, h_7⟩, (by decide : (0 : Int32) ≤ nI 2 ∧ nI 2 ≤ 2)⟩]; rfl))
    · refine V_bipush (v := (-2)) (by decide) dX7_square_10 rfl ?_
      exact V_ireturn rfl rfl dX7_square_12 rfl rfl rfl (qI.of (by first | exact (if_neg (fun z => absurd z.1.1 (Int32.not_le.mpr h_1))).symm | exact (if_neg (fun z => h_7 z.1.2)).symm))

set_option maxHeartbeats 4000000 in
set_option maxRecDepth 100000 in
theorem sc_count (l : Launch) (g : fw_G) {I : fw_I} {P : fw_P} {s : Nat → Int32} {k : Nat} {h : Nat → Nat → Int32} {tk : Bool} {sp : Nat → Int32} {len : Nat} {tx : Nat → Int32} (hS : CSh P) (hC : CRel I P s k h tk sp len tx) {B : Nat} (hI : Inv B s) (w : Int32) : Sp l g kX7_count (T0 nT) [.ref (g.1 + 0), .int w] I P (T0 nT) 0 0 (qI (aCntX s (nI k) (nI len) w) I P) := by
  have a0 := (at_0 (nT := nT))
  have a1 := at_race (nT := nT) isRc_1
  have a256 := (at_256 (nT := nT))
  have a683 := (at_683 (nT := nT))
  have r1 := isRc_1
  have hS1 := hS.r isRc_1
  have hR := hC.1.1
  have hv := hC.1.2
  have q0 : P 0 0 = some 1 := hS.2.2.2.2.1
  have q1 : P 0 1 = some 86 := hS.2.2.2.2.2.1
  have q2 : P 0 2 = some 171 := hS.2.2.2.2.2.2.1
  have q3 : P 0 3 = some 256 := hS.2.2.2.2.2.2.2.1
  have q4 : P 0 4 = some 683 := hS.2.2.2.2.2.2.2.2.1
  have q5 : P 0 5 = some 685 := hS.2.2.2.2.2.2.2.2.2.1
  refine Sp.of_V (L := [some (.ref (g.1 + 0)), some (.int w)]) (by decide) (by simp [Value.category]) (Nat.le_of_ble_eq_true rfl) rfl ?_
  refine V_iload_n (i := 1) rfl rfl dX7_count_0 rfl ?_
  rcases sw_cases 12 (by decide) w with h_1 | ⟨i_1, h_1, rfl⟩
  · refine V_tableOut (tgt := 175) dX7_count_1 h_1 (by decide) ?_
    refine V_bipush (v := (-2)) (by decide) dX7_count_175 rfl ?_
    exact V_ireturn rfl rfl dX7_count_177 rfl rfl rfl (qI.of (by unfold aCntX; rw [if_neg (sw_ne h_1 (by decide : 0 ≤ 12) (by decide)), if_neg (sw_ne h_1 (by decide : 1 ≤ 12) (by decide)), if_neg (sw_ne h_1 (by decide : 2 ≤ 12) (by decide)), if_neg (sw_ne h_1 (by decide : 3 ≤ 12) (by decide)), if_neg (sw_ne h_1 (by decide : 4 ≤ 12) (by decide)), if_neg (sw_ne h_1 (by decide : 5 ≤ 12) (by decide)), if_neg (sw_ne h_1 (by decide : 6 ≤ 12) (by decide)), if_neg (sw_ne h_1 (by decide : 7 ≤ 12) (by decide)), if_neg (sw_ne h_1 (by decide : 8 ≤ 12) (by decide)), if_neg (sw_ne h_1 (by decide : 9 ≤ 12) (by decide)), if_neg (sw_ne h_1 (by decide : 10 ≤ 12) (by decide)), if_neg (sw_ne h_1 (by decide : 11 ≤ 12) (by decide)), if_neg (sw_ne h_1 (by decide : 12 ≤ 12) (by decide))]))
  · rcases (show i_1 = 0 ∨ i_1 = 1 ∨ i_1 = 2 ∨ i_1 = 3 ∨ i_1 = 4 ∨ i_1 = 5 ∨ i_1 = 6 ∨ i_1 = 7 ∨ i_1 = 8 ∨ i_1 = 9 ∨ i_1 = 10 ∨ i_1 = 11 ∨ i_1 = 12 by omega) with rfl | rfl | rfl | rfl | rfl | rfl | rfl | rfl | rfl | rfl | rfl | rfl | rfl
    · refine V_tableIn (x := nI 0) (tgt := 68) dX7_count_1 (by decide) (by decide) rfl (by decide) ?_
      refine V_aload_n (i := 0) rfl rfl dX7_count_68 rfl ?_
      refine V_getr (kf := 0) C7 (by decide) l_X7_12 (by assumption) rfl (by assumption) dX7_count_69 rfl ?_
      refine V_get (kf := 6) C3 (by decide) l_X7_138 (by assumption) rfl dX7_count_72 rfl ?_
      rw [hR.r6]
      exact V_ireturn rfl rfl dX7_count_75 rfl rfl rfl (qI.of rfl)
    · refine V_tableIn (x := nI 1) (tgt := 76) dX7_count_1 (by decide) (by decide) rfl (by decide) ?_
      refine V_aload_n (i := 0) rfl rfl dX7_count_76 rfl ?_
      refine V_getr (kf := 0) C7 (by decide) l_X7_12 (by assumption) rfl (by assumption) dX7_count_77 rfl ?_
      refine V_get (kf := 5) C3 (by decide) l_X7_204 (by assumption) rfl dX7_count_80 rfl ?_
      rw [show I 1 5 = _ from hv]
      exact V_ireturn rfl rfl dX7_count_83 rfl rfl rfl (qI.of rfl)
    · refine V_tableIn (x := nI 2) (tgt := 84) dX7_count_1 (by decide) (by decide) rfl (by decide) ?_
      refine V_aload_n (i := 0) rfl rfl dX7_count_84 rfl ?_
      refine V_getr (kf := 0) C7 (by decide) l_X7_12 (by assumption) rfl (by assumption) dX7_count_85 rfl ?_
      refine V_call (n := 0) (sp_playersInRace l g r1 hS1 hR) o_X3_playersInRace m_X7_207 ⟨by decide, by decide⟩ (by assumption) rfl rfl (by first | exact Nat.le_of_ble_eq_true rfl | simp [Value.category]) (Nat.le_refl _) (Nat.le_refl _) rfl dX7_count_88 rfl (kI ?_)
      rw [aRc_home hI]
      exact V_ireturn rfl rfl dX7_count_91 rfl rfl rfl (qI.of rfl)
    · refine V_tableIn (x := nI 3) (tgt := 92) dX7_count_1 (by decide) (by decide) rfl (by decide) ?_
      refine V_aload_n (i := 0) rfl rfl dX7_count_92 rfl ?_
      refine V_getr (kf := 0) C7 (by decide) l_X7_12 (by assumption) rfl (by assumption) dX7_count_93 rfl ?_
      refine V_call (n := 0) (sp_snakesThere l g r1 hS1 hR) o_X3_snakesThere m_X7_210 ⟨by decide, by decide⟩ (by assumption) rfl rfl (by first | exact Nat.le_of_ble_eq_true rfl | simp [Value.category]) (Nat.le_refl _) (Nat.le_refl _) rfl dX7_count_96 rfl (kI ?_)
      exact V_ireturn rfl rfl dX7_count_99 rfl rfl rfl (qI.of rfl)
    · refine V_tableIn (x := nI 4) (tgt := 100) dX7_count_1 (by decide) (by decide) rfl (by decide) ?_
      refine V_aload_n (i := 0) rfl rfl dX7_count_100 rfl ?_
      refine V_getr (kf := 0) C7 (by decide) l_X7_12 (by assumption) rfl (by assumption) dX7_count_101 rfl ?_
      refine V_call (n := 0) (sp_bitesHeld l g r1 hS1 hR) o_X3_bitesHeld m_X7_213 ⟨by decide, by decide⟩ (by assumption) rfl rfl (by first | exact Nat.le_of_ble_eq_true rfl | simp [Value.category]) (Nat.le_refl _) (Nat.le_refl _) rfl dX7_count_104 rfl (kI ?_)
      exact V_ireturn rfl rfl dX7_count_107 rfl rfl rfl (qI.of rfl)
    · refine V_tableIn (x := nI 5) (tgt := 108) dX7_count_1 (by decide) (by decide) rfl (by decide) ?_
      refine V_aload_n (i := 0) rfl rfl dX7_count_108 rfl ?_
      refine V_getr (kf := 0) C7 (by decide) l_X7_12 (by assumption) rfl (by assumption) dX7_count_109 rfl ?_
      refine V_get (kf := 8) C3 (by decide) l_X7_216 (by assumption) rfl dX7_count_112 rfl ?_
      rw [hR.r8]
      exact V_ireturn rfl rfl dX7_count_115 rfl rfl rfl (qI.of rfl)
    · refine V_tableIn (x := nI 6) (tgt := 116) dX7_count_1 (by decide) (by decide) rfl (by decide) ?_
      refine V_aload_n (i := 0) rfl rfl dX7_count_116 rfl ?_
      refine V_getr (kf := 0) C7 (by decide) l_X7_12 (by assumption) rfl (by assumption) dX7_count_117 rfl ?_
      refine V_get (kf := 9) C3 (by decide) l_X7_219 (by assumption) rfl dX7_count_120 rfl ?_
      rw [hR.r9]
      exact V_ireturn rfl rfl dX7_count_123 rfl rfl rfl (qI.of rfl)
    · refine V_tableIn (x := nI 7) (tgt := 124) dX7_count_1 (by decide) (by decide) rfl (by decide) ?_
      refine V_aload_n (i := 0) rfl rfl dX7_count_124 rfl ?_
      refine V_getr (kf := 0) C7 (by decide) l_X7_12 (by assumption) rfl (by assumption) dX7_count_125 rfl ?_
      refine V_call (n := 0) (sp_coinsOfAll l g r1 hS1 hR) o_X3_coinsOfAll m_X7_222 ⟨by decide, by decide⟩ (by assumption) rfl rfl (by first | exact Nat.le_of_ble_eq_true rfl | simp [Value.category]) (Nat.le_refl _) (Nat.le_refl _) rfl dX7_count_128 rfl (kI ?_)
      exact V_ireturn rfl rfl dX7_count_131 rfl rfl rfl (qI.of rfl)
    · refine V_tableIn (x := nI 8) (tgt := 132) dX7_count_1 (by decide) (by decide) rfl (by decide) ?_
      refine V_aload_n (i := 0) rfl rfl dX7_count_132 rfl ?_
      refine V_getr (kf := 0) C7 (by decide) l_X7_12 (by assumption) rfl (by assumption) dX7_count_133 rfl ?_
      refine V_iconst (v := 0) (by decide) dX7_count_136 rfl ?_
      refine V_call (n := 1) (sp_settingOf l g r1 hS1 hR 0) o_X3_settingOf m_X7_113 ⟨by decide, by decide⟩ (by assumption) rfl rfl (by first | exact Nat.le_of_ble_eq_true rfl | simp [Value.category]) (Nat.le_refl _) (Nat.le_refl _) rfl dX7_count_137 rfl (kI ?_)
      exact V_ireturn rfl rfl dX7_count_140 rfl rfl rfl (qI.of rfl)
    · refine V_tableIn (x := nI 9) (tgt := 141) dX7_count_1 (by decide) (by decide) rfl (by decide) ?_
      refine V_aload_n (i := 0) rfl rfl dX7_count_141 rfl ?_
      refine V_getr (kf := 0) C7 (by decide) l_X7_12 (by assumption) rfl (by assumption) dX7_count_142 rfl ?_
      refine V_iconst (v := 1) (by decide) dX7_count_145 rfl ?_
      refine V_call (n := 1) (sp_settingOf l g r1 hS1 hR 1) o_X3_settingOf m_X7_113 ⟨by decide, by decide⟩ (by assumption) rfl rfl (by first | exact Nat.le_of_ble_eq_true rfl | simp [Value.category]) (Nat.le_refl _) (Nat.le_refl _) rfl dX7_count_146 rfl (kI ?_)
      exact V_ireturn rfl rfl dX7_count_149 rfl rfl rfl (qI.of rfl)
    · refine V_tableIn (x := nI 10) (tgt := 150) dX7_count_1 (by decide) (by decide) rfl (by decide) ?_
      refine V_aload_n (i := 0) rfl rfl dX7_count_150 rfl ?_
      refine V_getr (kf := 0) C7 (by decide) l_X7_12 (by assumption) rfl (by assumption) dX7_count_151 rfl ?_
      refine V_iconst (v := 2) (by decide) dX7_count_154 rfl ?_
      refine V_call (n := 1) (sp_settingOf l g r1 hS1 hR 2) o_X3_settingOf m_X7_113 ⟨by decide, by decide⟩ (by assumption) rfl rfl (by first | exact Nat.le_of_ble_eq_true rfl | simp [Value.category]) (Nat.le_refl _) (Nat.le_refl _) rfl dX7_count_155 rfl (kI ?_)
      exact V_ireturn rfl rfl dX7_count_158 rfl rfl rfl (qI.of rfl)
    · refine V_tableIn (x := nI 11) (tgt := 159) dX7_count_1 (by decide) (by decide) rfl (by decide) ?_
      refine V_aload_n (i := 0) rfl rfl dX7_count_159 rfl ?_
      refine V_getr (kf := 3) C7 (by decide) l_X7_25 (by assumption) rfl (by assumption) dX7_count_160 rfl ?_
      refine V_get (kf := 1) C1 (by decide) l_X7_225 (by assumption) rfl dX7_count_163 rfl ?_
      rw [hC.2.1.1]
      exact V_ireturn rfl rfl dX7_count_166 rfl rfl rfl (qI.of rfl)
    · refine V_tableIn (x := nI 12) (tgt := 167) dX7_count_1 (by decide) (by decide) rfl (by decide) ?_
      refine V_aload_n (i := 0) rfl rfl dX7_count_167 rfl ?_
      refine V_getr (kf := 4) C7 (by decide) l_X7_32 (by assumption) rfl (by assumption) dX7_count_168 rfl ?_
      refine V_get (kf := 1) C4 (by decide) l_X7_122 (by assumption) rfl dX7_count_171 rfl ?_
      rw [hC.2.2.2.1]
      exact V_ireturn rfl rfl dX7_count_174 rfl rfl rfl (qI.of rfl)

set_option maxHeartbeats 4000000 in
set_option maxRecDepth 100000 in
theorem sc_why (l : Launch) (g : fw_G) {I : fw_I} {P : fw_P} {s : Nat → Int32} {k : Nat} {h : Nat → Nat → Int32} {tk : Bool} {sp : Nat → Int32} {len : Nat} {tx : Nat → Int32} (hS : CSh P) (hC : CRel I P s k h tk sp len tx) {B : Nat} (hI : Inv B s) (x y z c : Int32) : Sp l g kX7_why (T0 nT) [.ref (g.1 + 0), .int x, .int y, .int z, .int c] I P (T0 nT) 0 0 (qI (aWhy s x y z c) I P) := by
  have a0 := (at_0 (nT := nT))
  have a1 := at_race (nT := nT) isRc_1
  have a256 := (at_256 (nT := nT))
  have a683 := (at_683 (nT := nT))
  have r1 := isRc_1
  have hS1 := hS.r isRc_1
  have hR := hC.1.1
  have hv := hC.1.2
  have q0 : P 0 0 = some 1 := hS.2.2.2.2.1
  have q1 : P 0 1 = some 86 := hS.2.2.2.2.2.1
  have q2 : P 0 2 = some 171 := hS.2.2.2.2.2.2.1
  have q3 : P 0 3 = some 256 := hS.2.2.2.2.2.2.2.1
  have q4 : P 0 4 = some 683 := hS.2.2.2.2.2.2.2.2.1
  have q5 : P 0 5 = some 685 := hS.2.2.2.2.2.2.2.2.2.1
  refine Sp.of_V (L := [some (.ref (g.1 + 0)), some (.int x), some (.int y), some (.int z), some (.int c)]) (by decide) (by simp [Value.category]) (Nat.le_of_ble_eq_true rfl) rfl ?_
  refine V_aload_n (i := 0) rfl rfl dX7_why_0 rfl ?_
  refine V_getr (kf := 0) C7 (by decide) l_X7_12 (by assumption) rfl (by assumption) dX7_why_1 rfl ?_
  refine V_iload_n (i := 1) rfl rfl dX7_why_4 rfl ?_
  refine V_iload_n (i := 2) rfl rfl dX7_why_5 rfl ?_
  refine V_iload_n (i := 3) rfl rfl dX7_why_6 rfl ?_
  refine V_iload (i := 4) rfl dX7_why_7 rfl ?_
  refine V_call (n := 4) (sp_obstacle l g r1 hS1 hR hI x y z c) o_X3_obstacle m_X7_100 ⟨by decide, by decide⟩ (by assumption) rfl rfl (by first | exact Nat.le_of_ble_eq_true rfl | simp [Value.category]) (Nat.le_refl _) (Nat.le_refl _) rfl dX7_why_9 rfl (kI ?_)
  exact V_ireturn rfl rfl dX7_why_12 rfl rfl rfl (qI.of rfl)

set_option maxHeartbeats 4000000 in
set_option maxRecDepth 100000 in
theorem lc_dangers (l : Launch) (g : fw_G) {I : fw_I} {P : fw_P} {s : Nat → Int32} {k : Nat} {h : Nat → Nat → Int32} {tk : Bool} {sp : Nat → Int32} {len : Nat} {tx : Nat → Int32} (hS : CSh P) (hC : CRel I P s k h tk sp len tx) {B : Nat} (hI : Inv B s) {p : Nat} (hp : p < 4) : ∀ (m j : Nat), j + m = 6 → V l g kX7_dangers (T0 nT) 0 0 (qI (aDaF s p 6) I P) (T0 nT) I P 0 0 36 [some (.ref (g.1 + 0)), some (.int (nI p)), some (.ref (g.1 + (1 + 2 + 18 * p))), some (.int (aBeg s p)), some (.int (aDaF s p j)), some (.int (nI (j + 1)))] [] := by
  have a0 := (at_0 (nT := nT))
  have a1 := at_race (nT := nT) isRc_1
  have a256 := (at_256 (nT := nT))
  have a683 := (at_683 (nT := nT))
  have r1 := isRc_1
  have hS1 := hS.r isRc_1
  have hR := hC.1.1
  have hv := hC.1.2
  have q0 : P 0 0 = some 1 := hS.2.2.2.2.1
  have q1 : P 0 1 = some 86 := hS.2.2.2.2.2.1
  have q2 : P 0 2 = some 171 := hS.2.2.2.2.2.2.1
  have q3 : P 0 3 = some 256 := hS.2.2.2.2.2.2.2.1
  have q4 : P 0 4 = some 683 := hS.2.2.2.2.2.2.2.2.1
  have q5 : P 0 5 = some 685 := hS.2.2.2.2.2.2.2.2.2.1
  intro m
  induction m with
  | zero =>
    intro j hj
    obtain rfl : j = 6 := by omega
    refine V_iload (i := 5) rfl dX7_dangers_36 rfl ?_
    refine V_bipush (v := 6) (by decide) dX7_dangers_38 rfl ?_
    refine V_icmp_gt (tgt := 75) dX7_dangers_40 (by decide) rfl (fun _ => ?_) (fun h => absurd (by decide) h)
    refine V_iload (i := 4) rfl dX7_dangers_75 rfl ?_
    exact V_ireturn rfl rfl dX7_dangers_77 rfl rfl rfl (qI.of rfl)
  | succ m ih =>
    intro j hj
    have hjn : j < 6 := by omega
    refine V_iload (i := 5) rfl dX7_dangers_36 rfl ?_
    refine V_bipush (v := 6) (by decide) dX7_dangers_38 rfl ?_
    refine V_icmp_gt (tgt := 75) dX7_dangers_40 (by decide) rfl (fun h => absurd h (dg6 hjn)) (fun _ => ?_)
    refine V_aload_n (i := 0) rfl rfl dX7_dangers_43 rfl ?_
    refine V_getr (kf := 0) C7 (by decide) l_X7_12 (by assumption) rfl (by assumption) dX7_dangers_44 rfl ?_
    refine V_iload_n (i := 1) rfl rfl dX7_dangers_47 rfl ?_
    refine V_iload_n (i := 3) rfl rfl dX7_dangers_48 rfl ?_
    refine V_iload (i := 5) rfl dX7_dangers_49 rfl ?_
    refine V_callS (n := 2) (sp_landing l g (aBeg s p) (nI (j + 1))) o_X7_landing m_X7_233 ⟨by decide, by decide⟩ rfl rfl (by first | exact Nat.le_of_ble_eq_true rfl | simp [Value.category]) (Nat.le_refl _) (Nat.le_refl _) rfl dX7_dangers_51 rfl (kI ?_)
    refine V_call (n := 2) (sp_biterOf l g r1 hS1 hR hI.iHd hI.iSl hp (aGo (aBeg s p) (nI (j + 1)))) o_X3_biterOf m_X7_237 ⟨by decide, by decide⟩ (by assumption) rfl rfl (by first | exact Nat.le_of_ble_eq_true rfl | simp [Value.category]) (Nat.le_refl _) (Nat.le_refl _) rfl dX7_dangers_54 rfl (kR ?_)
    refine V_ifnull (tgt := 69) dX7_dangers_57 (by decide) rfl (fun h_57 => ?_) (fun b_57 h_57 => ?_)
    · refine V_iinc1 (i := 5) rfl (by decide) rfl dX7_dangers_69 rfl ?_
      refine V_goto (tgt := 36) dX7_dangers_72 (by decide) ?_
      have he : aDaF s p (j + 1) = aDaF s p j ||| (if aBites s p (aGo (aBeg s p) (nI (j + 1))) then 1 <<< (nI (j + 1) &&& 31) else 0) := rfl
      rw [show (if aBites s p (aGo (aBeg s p) (nI (j + 1))) then (1 : Int32) <<< (nI (j + 1) &&& 31) else 0) = _ from by first | exact if_neg (biR_none h_57) | exact if_pos (biR_s h_57)] at he
      first | rw [Int32.or_zero] at he | skip
      have h9 := ih (j + 1) (by omega)
      rw [← nI_1 (j + 1), he] at h9
      exact h9
    · refine V_iload (i := 4) rfl dX7_dangers_60 rfl ?_
      refine V_iconst (v := 1) (by decide) dX7_dangers_62 rfl ?_
      refine V_iload (i := 5) rfl dX7_dangers_63 rfl ?_
      refine V_ishl dX7_dangers_65 rfl ?_
      refine V_ior dX7_dangers_66 rfl ?_
      refine V_istore (i := 4) (by decide) rfl dX7_dangers_67 rfl ?_
      refine V_iinc1 (i := 5) rfl (by decide) rfl dX7_dangers_69 rfl ?_
      refine V_goto (tgt := 36) dX7_dangers_72 (by decide) ?_
      have he : aDaF s p (j + 1) = aDaF s p j ||| (if aBites s p (aGo (aBeg s p) (nI (j + 1))) then 1 <<< (nI (j + 1) &&& 31) else 0) := rfl
      rw [show (if aBites s p (aGo (aBeg s p) (nI (j + 1))) then (1 : Int32) <<< (nI (j + 1) &&& 31) else 0) = _ from by first | exact if_neg (biR_none h_57) | exact if_pos (biR_s h_57)] at he
      first | rw [Int32.or_zero] at he | skip
      have h9 := ih (j + 1) (by omega)
      rw [← nI_1 (j + 1), he] at h9
      exact h9

set_option maxHeartbeats 4000000 in
set_option maxRecDepth 100000 in
theorem sc_dangers (l : Launch) (g : fw_G) {I : fw_I} {P : fw_P} {s : Nat → Int32} {k : Nat} {h : Nat → Nat → Int32} {tk : Bool} {sp : Nat → Int32} {len : Nat} {tx : Nat → Int32} (hS : CSh P) (hC : CRel I P s k h tk sp len tx) {B : Nat} (hI : Inv B s) (x : Int32) : Sp l g kX7_dangers (T0 nT) [.ref (g.1 + 0), .int x] I P (T0 nT) 0 0 (qI (aDanX s x) I P) := by
  have a0 := (at_0 (nT := nT))
  have a1 := at_race (nT := nT) isRc_1
  have a256 := (at_256 (nT := nT))
  have a683 := (at_683 (nT := nT))
  have r1 := isRc_1
  have hS1 := hS.r isRc_1
  have hR := hC.1.1
  have hv := hC.1.2
  have q0 : P 0 0 = some 1 := hS.2.2.2.2.1
  have q1 : P 0 1 = some 86 := hS.2.2.2.2.2.1
  have q2 : P 0 2 = some 171 := hS.2.2.2.2.2.2.1
  have q3 : P 0 3 = some 256 := hS.2.2.2.2.2.2.2.1
  have q4 : P 0 4 = some 683 := hS.2.2.2.2.2.2.2.2.1
  have q5 : P 0 5 = some 685 := hS.2.2.2.2.2.2.2.2.2.1
  refine Sp.of_V (L := [some (.ref (g.1 + 0)), some (.int x), none, none, none, none]) (by decide) (by simp [Value.category]) (Nat.le_of_ble_eq_true rfl) rfl ?_
  refine V_aload_n (i := 0) rfl rfl dX7_dangers_0 rfl ?_
  refine V_getr (kf := 0) C7 (by decide) l_X7_12 (by assumption) rfl (by assumption) dX7_dangers_1 rfl ?_
  refine V_iload_n (i := 1) rfl rfl dX7_dangers_4 rfl ?_
  refine V_call (n := 1) (sp_pieceOf l g r1 hS1 x) o_X3_pieceOf m_X7_141 ⟨by decide, by decide⟩ (by assumption) rfl rfl (by first | exact Nat.le_of_ble_eq_true rfl | simp [Value.category]) (Nat.le_refl _) (Nat.le_refl _) rfl dX7_dangers_5 rfl (kR ?_)
  refine V_astore_nr (i := 2) rfl (by decide) rfl dX7_dangers_8 rfl ?_
  refine V_aload_nr (i := 2) rfl rfl dX7_dangers_9 rfl ?_
  refine V_ifnonnull (tgt := 15) dX7_dangers_10 (by decide) rfl (fun b_10 h_10 => ?_) (fun h_10 => ?_)
  · obtain ⟨p, hp, rfl, rfl⟩ := pcR_some h_10
    have hap := at_piece (nT := nT) isRc_1 hp
    rw [h_10]
    have hc : (nI p).toNatClampNeg = p := nI_clamp (by omega)
    refine V_aload_n (i := 2) rfl rfl dX7_dangers_15 rfl ?_
    refine V_call (n := 0) (sp_Piece_isInRace l g hap) o_X2_isInRace m_X7_230 ⟨by decide, by decide⟩ (by assumption) rfl rfl (by first | exact Nat.le_of_ble_eq_true rfl | simp [Value.category]) (Nat.le_refl _) (Nat.le_refl _) rfl dX7_dangers_16 rfl (kI ?_)
    rw [hR.p2 hp]
    refine V_if_ne (tgt := 25) dX7_dangers_19 (by decide) rfl (fun h_19 => ?_) (fun h_19 => ?_)
    · refine V_aload_n (i := 2) rfl rfl dX7_dangers_25 rfl ?_
      refine V_call (n := 0) (sp_Piece_next l g hap (at_bites (nT := nT) r1 hp) (hS1.2.2.2.1 p hp) (by rw [hR.p1 hp]; exact (hI.many hp).1) (by have := (hI.many hp).2; omega) (fun k hk b hb => hR.b hp (by have := (hI.many hp).2; omega) hk hb (f := 0) (by decide)) (RSh.BtS (nT := nT) r1 hS1 hp) (hR.p2 hp) rfl) o_X2_nextBeginning m_X7_159 ⟨by decide, by decide⟩ (by assumption) rfl rfl (by first | exact Nat.le_of_ble_eq_true rfl | simp [Value.category]) (Nat.le_refl _) (Nat.le_refl _) rfl dX7_dangers_26 rfl (kI ?_)
      refine V_istore_n (i := 3) rfl (by decide) rfl dX7_dangers_29 rfl ?_
      refine V_iconst (v := 0) (by decide) dX7_dangers_30 rfl ?_
      refine V_istore (i := 4) (by decide) rfl dX7_dangers_31 rfl ?_
      refine V_iconst (v := 1) (by decide) dX7_dangers_33 rfl ?_
      refine V_istore (i := 5) (by decide) rfl dX7_dangers_34 rfl ?_
      refine V_Q ?_ (lc_dangers l g hS hC hI hp 6 0 rfl)
      rintro v I1 P1 ⟨rfl, rfl, rfl⟩
      exact ⟨by unfold aDanX; rw [if_pos (le3 hp), hc, if_pos ((hI.in hp).mpr (bI_nz h_19))], rfl, rfl⟩
    · refine V_bipush (v := (-4)) (by decide) dX7_dangers_22 rfl ?_
      exact V_ireturn rfl rfl dX7_dangers_24 rfl rfl rfl (qI.of (by unfold aDanX; rw [if_pos (le3 hp), hc]; exact (if_neg (fun z => bI_z h_19 ((hI.in hp).mp z))).symm))
  · refine V_iconst (v := (-1)) (by decide) dX7_dangers_13 rfl ?_
    exact V_ireturn rfl rfl dX7_dangers_14 rfl rfl rfl (qI.of (if_neg (pcR_none h_10)).symm)
