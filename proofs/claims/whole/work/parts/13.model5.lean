theorem sw_cases (n : Nat) (hn : n < 2 ^ 31) (x : Int32) : (x.toInt < 0 ∨ (n : Int) < x.toInt) ∨ ∃ i, i ≤ n ∧ x = nI i := by
  by_cases h : x < 0
  · exact Or.inl (Or.inl (by rw [i32_lt, Int32.toInt_zero] at h; exact h))
  · obtain ⟨j, hj, e⟩ := nI_of h
    by_cases h2 : j ≤ n
    · exact Or.inr ⟨j, h2, e⟩
    · refine Or.inl (Or.inr ?_)
      rw [e, nI_toInt hj]
      omega
theorem sw_ne {n k : Nat} {x : Int32} (h : x.toInt < 0 ∨ (n : Int) < x.toInt) (hk : k ≤ n) (hn : n < 2 ^ 31) : ¬ x = nI k := by
  intro e
  rw [e, nI_toInt (by omega)] at h
  omega
def aPlr (s : Nat → Int32) (p : Nat) (w : Int32) : Int32 :=
  if w = nI 0 then ro s p 0 else if w = nI 1 then ro s p 1 + 1000 else if w = nI 2 then ro s p 5 else if w = nI 3 then aHu s p else if w = nI 4 then aBeg s p
  else if w = nI 5 then (if ro s p 2 = 0 then -5 else ro s p 2) else if w = nI 6 then ro s p 3 else if w = nI 7 then ro s p 4 else -2
def aPlrX (s : Nat → Int32) (x w : Int32) : Int32 := if aPl x then aPlr s x.toNatClampNeg w else -1
def aBitX (s : Nat → Int32) (x y w : Int32) : Int32 := if aBt s x y then (if 0 ≤ w ∧ w ≤ 3 then s (wi x.toNatClampNeg y.toNatClampNeg + w.toNatClampNeg) else -2) else -1
def aSnkX (s : Nat → Int32) (x w : Int32) : Int32 := if aSk s x then (if 0 ≤ w ∧ w ≤ 3 then sn s x.toNatClampNeg w.toNatClampNeg else -2) else -1
def aTaF (s : Nat → Int32) (q : Int32) : Nat → Int32
  | 0 => 0
  | k + 1 => aTaF s q k + bI (0 < sn s k 0 ∧ sn s k 1 = q)
def aSqX (s : Nat → Int32) (q w : Int32) : Int32 := if (0 ≤ q ∧ q ≤ 60) ∧ (0 ≤ w ∧ w ≤ 2) then (if w = 0 then aPi s q else if w = 1 then aSnAt s q else aTaF s q 10) else -2
def aSuF (s : Nat → Int32) (f : Nat) : Nat → Int32
  | 0 => 0
  | p + 1 => aSuF s f p + ro s p f
def aCntX (s : Nat → Int32) (kept len : Int32) (w : Int32) : Int32 :=
  if w = nI 0 then s 0 else if w = nI 1 then (if s 4 = 4 then -5 else s 1) else if w = nI 2 then 4 - s 4 else if w = nI 3 then aCntF s 10 else if w = nI 4 then aSuF s 5 4
  else if w = nI 5 then s 2 else if w = nI 6 then s 3 else if w = nI 7 then aSuF s 1 4 else if w = nI 8 then s 5 else if w = nI 9 then s 6 else if w = nI 10 then s 7 else if w = nI 11 then kept else if w = nI 12 then len else -2
theorem aSeE_cases (s : Nat → Int32) (x y z c : Int32) : (aSeE s x y z c < 0 ∧ (aSeE s x y z c = -1 ∨ aSeE s x y z c = -2)) ∨ (aSeE s x y z c = 0 ∧ (aBt s x y ∧ aPl z) ∧ (0 ≤ c ∧ c ≤ 99) ∧ ¬ x = z) := by
  unfold aSeE
  by_cases h1 : aBt s x y ∧ aPl z
  · rw [if_neg (fun h => h h1)]
    by_cases h2 : (0 ≤ c ∧ c ≤ 99) ∧ ¬ x = z
    · rw [if_pos h2]; exact Or.inr ⟨rfl, h1, h2⟩
    · rw [if_neg h2]; exact Or.inl ⟨by decide, Or.inr rfl⟩
  · rw [if_pos h1]; exact Or.inl ⟨by decide, Or.inl rfl⟩
def aWhy (s : Nat → Int32) (x y z c : Int32) : Int32 := if aSeE s x y z c < 0 then aSeE s x y z c else aRea s x.toNatClampNeg y.toNatClampNeg z.toNatClampNeg c
theorem aBt.nat {s : Nat → Int32} {x y : Int32} (hm : mOk s) (h : aBt s x y) : ∃ p k, p < 4 ∧ x = nI p ∧ k < aMany s p ∧ y = nI k ∧ k < 20 := by
  obtain ⟨p, hp, rfl⟩ := h.1.nat
  have hc : (nI p).toNatClampNeg = p := nI_clamp (by omega)
  obtain ⟨-, h1, h2⟩ := h
  rw [hc, (hm.many hp).2] at h2
  have hl := (hm.many hp).1
  obtain ⟨k, hk, rfl⟩ := nI_of (x := y) (by rw [i32_lt, Int32.toInt_zero]; have := i32_le.mp h1; rw [Int32.toInt_zero] at this; omega)
  have h3 : k < aMany s p := by
    rcases Nat.eq_zero_or_pos (aMany s p) with h0 | h0
    · rw [h0] at h2
      have := i32_le.mp h2
      rw [nI_toInt hk, show (nI 0 - 1).toInt = -1 from by decide] at this
      omega
    · obtain ⟨j, hj⟩ : ∃ j, aMany s p = j + 1 := ⟨aMany s p - 1, by omega⟩
      rw [hj, nI_pred] at h2
      have := (nI_leI hk (by omega)).mp h2
      omega
  exact ⟨p, k, hp, rfl, h3, rfl, by omega⟩
def aChS (s : Nat → Int32) (p k b : Nat) (f : Int32) : Int32 :=
  if (¬ nI b = nI p ∧ aAsk s (s (wi p k + 0)) b ≤ 99 ∧ aRea s p k b (aAsk s (s (wi p k + 0)) b) = 0) ∧ (f = -5 ∨ aAsk s (s (wi p k + 0)) b ≤ f - f / 100 * 100) then 100 * nI b + aAsk s (s (wi p k + 0)) b else f
def aChe (s : Nat → Int32) (p k : Nat) : Int32 := aChS s p k 0 (aChS s p k 1 (aChS s p k 2 (aChS s p k 3 (-5))))
def aCheX (s : Nat → Int32) (x y : Int32) : Int32 := if aBt s x y then aChe s x.toNatClampNeg y.toNatClampNeg else -1
def aDaF (s : Nat → Int32) (p : Nat) : Nat → Int32
  | 0 => 0
  | d + 1 => aDaF s p d ||| (if aBites s p (aGo (aBeg s p) (nI (d + 1))) then 1 <<< (nI (d + 1) &&& 31) else 0)
def aDanX (s : Nat → Int32) (x : Int32) : Int32 := if aPl x then (if ro s x.toNatClampNeg 2 = 0 then aDaF s x.toNatClampNeg 6 else -4) else -1
set_option maxHeartbeats 4000000 in
set_option maxRecDepth 100000 in
theorem sp_player (l : Launch) (g : fw_G) {I : fw_I} {P : fw_P} {s : Nat → Int32} (hM : MSh P) (hm : mOk s) (x w : Int32) : Sp l g kX8_player T0 [.ref (g.1 + 688), .int x, .int w] (wr I 689 s) P T0 0 0 (qI (aPlrX s x w) (wr I 689 s) P) := by
  have a688 := at_688
  have a689 := at_689
  obtain ⟨p0, p1, p3, p5, p6, p10, p12, p13⟩ := id hM
  refine Sp.of_V (L := [some (.ref (g.1 + 688)), some (.int x), some (.int w)]) (by decide) (by simp [Value.category]) (Nat.le_of_ble_eq_true rfl) rfl ?_
  refine V_iload_n (i := 1) rfl rfl dX8_player_0 rfl ?_
  refine V_callS (n := 1) (sp_isPlayer l g _ P x) o_X8_isPlayer m_X8_39 ⟨by decide, by decide⟩ rfl rfl (by first | exact Nat.le_of_ble_eq_true rfl | simp [Value.category]) (Nat.le_refl _) (Nat.le_refl _) rfl dX8_player_1 rfl (kI ?_)
  refine V_if_ne (tgt := 9) dX8_player_4 (by decide) rfl (fun h_4 => ?_) (fun h_4 => ?_)
  · obtain ⟨p, hp, rfl⟩ := aPl.nat (bI_nz h_4)
    have hc : (nI p).toNatClampNeg = p := nI_clamp (by omega)
    refine V_iload_n (i := 2) rfl rfl dX8_player_9 rfl ?_
    rcases sw_cases 7 (by decide) w with h_10 | ⟨i_10, h_10, rfl⟩
    · refine V_tableOut (tgt := 127) dX8_player_10 h_10 (by decide) ?_
      refine V_bipush (v := (-2)) (by decide) dX8_player_127 rfl ?_
      exact V_ireturn rfl rfl dX8_player_129 rfl rfl rfl (qI.of (by unfold aPlrX; rw [if_pos (bI_nz h_4), hc]; unfold aPlr; rw [if_neg (sw_ne h_10 (by decide : 0 ≤ 7) (by decide)), if_neg (sw_ne h_10 (by decide : 1 ≤ 7) (by decide)), if_neg (sw_ne h_10 (by decide : 2 ≤ 7) (by decide)), if_neg (sw_ne h_10 (by decide : 3 ≤ 7) (by decide)), if_neg (sw_ne h_10 (by decide : 4 ≤ 7) (by decide)), if_neg (sw_ne h_10 (by decide : 5 ≤ 7) (by decide)), if_neg (sw_ne h_10 (by decide : 6 ≤ 7) (by decide)), if_neg (sw_ne h_10 (by decide : 7 ≤ 7) (by decide))]))
    · rcases (show i_10 = 0 ∨ i_10 = 1 ∨ i_10 = 2 ∨ i_10 = 3 ∨ i_10 = 4 ∨ i_10 = 5 ∨ i_10 = 6 ∨ i_10 = 7 by omega) with rfl | rfl | rfl | rfl | rfl | rfl | rfl | rfl
      · refine V_tableIn (x := nI 0) (tgt := 56) dX8_player_10 (by decide) (by decide) rfl (by decide) ?_
        refine V_aload_n (i := 0) rfl rfl dX8_player_56 rfl ?_
        refine V_iload_n (i := 1) rfl rfl dX8_player_57 rfl ?_
        refine V_iconst (v := 0) (by decide) dX8_player_58 rfl ?_
        refine V_call (n := 2) (sp_of l g hM hp (by decide : 0 < 6)) o_X8_of m_X8_43 ⟨by decide, by decide⟩ (by assumption) rfl rfl (by first | exact Nat.le_of_ble_eq_true rfl | simp [Value.category]) (Nat.le_refl _) (Nat.le_refl _) rfl dX8_player_59 rfl (kI ?_)
        exact V_ireturn rfl rfl dX8_player_62 rfl rfl rfl (qI.of (by unfold aPlrX; rw [if_pos (bI_nz h_4), hc]; rfl))
      · refine V_tableIn (x := nI 1) (tgt := 63) dX8_player_10 (by decide) (by decide) rfl (by decide) ?_
        refine V_aload_n (i := 0) rfl rfl dX8_player_63 rfl ?_
        refine V_iload_n (i := 1) rfl rfl dX8_player_64 rfl ?_
        refine V_iconst (v := 1) (by decide) dX8_player_65 rfl ?_
        refine V_call (n := 2) (sp_of l g hM hp (by decide : 1 < 6)) o_X8_of m_X8_43 ⟨by decide, by decide⟩ (by assumption) rfl rfl (by first | exact Nat.le_of_ble_eq_true rfl | simp [Value.category]) (Nat.le_refl _) (Nat.le_refl _) rfl dX8_player_66 rfl (kI ?_)
        refine V_sipush (v := 1000) (by decide) dX8_player_69 rfl ?_
        refine V_iadd dX8_player_72 rfl ?_
        exact V_ireturn rfl rfl dX8_player_73 rfl rfl rfl (qI.of (by unfold aPlrX; rw [if_pos (bI_nz h_4), hc]; rfl))
      · refine V_tableIn (x := nI 2) (tgt := 74) dX8_player_10 (by decide) (by decide) rfl (by decide) ?_
        refine V_aload_n (i := 0) rfl rfl dX8_player_74 rfl ?_
        refine V_iload_n (i := 1) rfl rfl dX8_player_75 rfl ?_
        refine V_iconst (v := 5) (by decide) dX8_player_76 rfl ?_
        refine V_call (n := 2) (sp_of l g hM hp (by decide : 5 < 6)) o_X8_of m_X8_43 ⟨by decide, by decide⟩ (by assumption) rfl rfl (by first | exact Nat.le_of_ble_eq_true rfl | simp [Value.category]) (Nat.le_refl _) (Nat.le_refl _) rfl dX8_player_77 rfl (kI ?_)
        exact V_ireturn rfl rfl dX8_player_80 rfl rfl rfl (qI.of (by unfold aPlrX; rw [if_pos (bI_nz h_4), hc]; rfl))
      · refine V_tableIn (x := nI 3) (tgt := 81) dX8_player_10 (by decide) (by decide) rfl (by decide) ?_
        refine V_aload_n (i := 0) rfl rfl dX8_player_81 rfl ?_
        refine V_iload_n (i := 1) rfl rfl dX8_player_82 rfl ?_
        refine V_call (n := 1) (sp_hurts l g hM hm hp) o_X8_hurts m_X8_61 ⟨by decide, by decide⟩ (by assumption) rfl rfl (by first | exact Nat.le_of_ble_eq_true rfl | simp [Value.category]) (Nat.le_refl _) (Nat.le_refl _) rfl dX8_player_83 rfl (kI ?_)
        exact V_ireturn rfl rfl dX8_player_86 rfl rfl rfl (qI.of (by unfold aPlrX; rw [if_pos (bI_nz h_4), hc]; rfl))
      · refine V_tableIn (x := nI 4) (tgt := 87) dX8_player_10 (by decide) (by decide) rfl (by decide) ?_
        refine V_aload_n (i := 0) rfl rfl dX8_player_87 rfl ?_
        refine V_iload_n (i := 1) rfl rfl dX8_player_88 rfl ?_
        refine V_call (n := 1) (sp_beginsAt l g hM hm hp) o_X8_beginsAt m_X8_79 ⟨by decide, by decide⟩ (by assumption) rfl rfl (by first | exact Nat.le_of_ble_eq_true rfl | simp [Value.category]) (Nat.le_refl _) (Nat.le_refl _) rfl dX8_player_89 rfl (kI ?_)
        exact V_ireturn rfl rfl dX8_player_92 rfl rfl rfl (qI.of (by unfold aPlrX; rw [if_pos (bI_nz h_4), hc]; rfl))
      · refine V_tableIn (x := nI 5) (tgt := 93) dX8_player_10 (by decide) (by decide) rfl (by decide) ?_
        refine V_aload_n (i := 0) rfl rfl dX8_player_93 rfl ?_
        refine V_iload_n (i := 1) rfl rfl dX8_player_94 rfl ?_
        refine V_call (n := 1) (sp_isIn l g hM hp) o_X8_isIn m_X8_96 ⟨by decide, by decide⟩ (by assumption) rfl rfl (by first | exact Nat.le_of_ble_eq_true rfl | simp [Value.category]) (Nat.le_refl _) (Nat.le_refl _) rfl dX8_player_95 rfl (kI ?_)
        refine V_if_eq (tgt := 106) dX8_player_98 (by decide) rfl (fun h_98 => ?_) (fun h_98 => ?_)
        · refine V_aload_n (i := 0) rfl rfl dX8_player_106 rfl ?_
          refine V_iload_n (i := 1) rfl rfl dX8_player_107 rfl ?_
          refine V_iconst (v := 2) (by decide) dX8_player_108 rfl ?_
          refine V_call (n := 2) (sp_of l g hM hp (by decide : 2 < 6)) o_X8_of m_X8_43 ⟨by decide, by decide⟩ (by assumption) rfl rfl (by first | exact Nat.le_of_ble_eq_true rfl | simp [Value.category]) (Nat.le_refl _) (Nat.le_refl _) rfl dX8_player_109 rfl (kI ?_)
          exact V_ireturn rfl rfl dX8_player_112 rfl rfl rfl (qI.of (by unfold aPlrX; rw [if_pos (bI_nz h_4), hc]; first | (show -5 = if ro s p 2 = 0 then -5 else ro s p 2; rw [if_pos (bI_nz h_98)]) | (show ro s p 2 = if ro s p 2 = 0 then -5 else ro s p 2; rw [if_neg (bI_z h_98)])))
        · refine V_bipush (v := (-5)) (by decide) dX8_player_101 rfl ?_
          refine V_goto (tgt := 112) dX8_player_103 (by decide) ?_
          exact V_ireturn rfl rfl dX8_player_112 rfl rfl rfl (qI.of (by unfold aPlrX; rw [if_pos (bI_nz h_4), hc]; first | (show -5 = if ro s p 2 = 0 then -5 else ro s p 2; rw [if_pos (bI_nz h_98)]) | (show ro s p 2 = if ro s p 2 = 0 then -5 else ro s p 2; rw [if_neg (bI_z h_98)])))
      · refine V_tableIn (x := nI 6) (tgt := 113) dX8_player_10 (by decide) (by decide) rfl (by decide) ?_
        refine V_aload_n (i := 0) rfl rfl dX8_player_113 rfl ?_
        refine V_iload_n (i := 1) rfl rfl dX8_player_114 rfl ?_
        refine V_iconst (v := 3) (by decide) dX8_player_115 rfl ?_
        refine V_call (n := 2) (sp_of l g hM hp (by decide : 3 < 6)) o_X8_of m_X8_43 ⟨by decide, by decide⟩ (by assumption) rfl rfl (by first | exact Nat.le_of_ble_eq_true rfl | simp [Value.category]) (Nat.le_refl _) (Nat.le_refl _) rfl dX8_player_116 rfl (kI ?_)
        exact V_ireturn rfl rfl dX8_player_119 rfl rfl rfl (qI.of (by unfold aPlrX; rw [if_pos (bI_nz h_4), hc]; rfl))
      · refine V_tableIn (x := nI 7) (tgt := 120) dX8_player_10 (by decide) (by decide) rfl (by decide) ?_
        refine V_aload_n (i := 0) rfl rfl dX8_player_120 rfl ?_
        refine V_iload_n (i := 1) rfl rfl dX8_player_121 rfl ?_
        refine V_iconst (v := 4) (by decide) dX8_player_122 rfl ?_
        refine V_call (n := 2) (sp_of l g hM hp (by decide : 4 < 6)) o_X8_of m_X8_43 ⟨by decide, by decide⟩ (by assumption) rfl rfl (by first | exact Nat.le_of_ble_eq_true rfl | simp [Value.category]) (Nat.le_refl _) (Nat.le_refl _) rfl dX8_player_123 rfl (kI ?_)
        exact V_ireturn rfl rfl dX8_player_126 rfl rfl rfl (qI.of (by unfold aPlrX; rw [if_pos (bI_nz h_4), hc]; rfl))
  · refine V_iconst (v := (-1)) (by decide) dX8_player_7 rfl ?_
    exact V_ireturn rfl rfl dX8_player_8 rfl rfl rfl (qI.of (by unfold aPlrX; rw [if_neg (bI_z h_4)]))

set_option maxHeartbeats 4000000 in
set_option maxRecDepth 100000 in
theorem sp_bite (l : Launch) (g : fw_G) {I : fw_I} {P : fw_P} {s : Nat → Int32} (hM : MSh P) (hm : mOk s) (x y w : Int32) : Sp l g kX8_bite T0 [.ref (g.1 + 688), .int x, .int y, .int w] (wr I 689 s) P T0 0 0 (qI (aBitX s x y w) (wr I 689 s) P) := by
  have a688 := at_688
  have a689 := at_689
  obtain ⟨p0, p1, p3, p5, p6, p10, p12, p13⟩ := id hM
  refine Sp.of_V (L := [some (.ref (g.1 + 688)), some (.int x), some (.int y), some (.int w)]) (by decide) (by simp [Value.category]) (Nat.le_of_ble_eq_true rfl) rfl ?_
  refine V_aload_n (i := 0) rfl rfl dX8_bite_0 rfl ?_
  refine V_iload_n (i := 1) rfl rfl dX8_bite_1 rfl ?_
  refine V_iload_n (i := 2) rfl rfl dX8_bite_2 rfl ?_
  refine V_call (n := 2) (sp_isBite l g hM x y) o_X8_isBite m_X8_103 ⟨by decide, by decide⟩ (by assumption) rfl rfl (by first | exact Nat.le_of_ble_eq_true rfl | simp [Value.category]) (Nat.le_refl _) (Nat.le_refl _) rfl dX8_bite_3 rfl (kI ?_)
  refine V_if_ne (tgt := 11) dX8_bite_6 (by decide) rfl (fun h_6 => ?_) (fun h_6 => ?_)
  · have hbt := bI_nz h_6
    obtain ⟨p, k, hp, rfl, hk, rfl, hk20⟩ := aBt.nat hm hbt
    have hc : (nI p).toNatClampNeg = p := nI_clamp (by omega)
    have hck : (nI k).toNatClampNeg = k := nI_clamp (by omega)
    refine V_iload_n (i := 3) rfl rfl dX8_bite_11 rfl ?_
    refine V_iconst (v := 0) (by decide) dX8_bite_12 rfl ?_
    refine V_iconst (v := 3) (by decide) dX8_bite_13 rfl ?_
    refine V_callS (n := 3) (sp_in l g _ P w 0 3) o_X8_in m_X8_35 ⟨by decide, by decide⟩ rfl rfl (by first | exact Nat.le_of_ble_eq_true rfl | simp [Value.category]) (Nat.le_refl _) (Nat.le_refl _) rfl dX8_bite_14 rfl (kI ?_)
    refine V_if_eq (tgt := 35) dX8_bite_17 (by decide) rfl (fun h_17 => ?_) (fun h_17 => ?_)
    · refine V_bipush (v := (-2)) (by decide) dX8_bite_35 rfl ?_
      exact V_ireturn rfl rfl dX8_bite_37 rfl rfl rfl (qI.of (by unfold aBitX; rw [if_pos hbt]; first | (rw [if_pos (bI_nz h_17), hc, hck, hcf]) | (rw [if_neg (bI_z h_17)])))
    · obtain ⟨f, hf, rfl⟩ := aPl.nat (bI_nz h_17)
      have hcf : (nI f).toNatClampNeg = f := nI_clamp (by omega)
      refine V_aload_n (i := 0) rfl rfl dX8_bite_20 rfl ?_
      refine V_getr (kf := 0) C8 (by decide) l_X8_7 (by assumption) rfl (by assumption) dX8_bite_21 rfl ?_
      refine V_iload_n (i := 1) rfl rfl dX8_bite_24 rfl ?_
      refine V_iload_n (i := 2) rfl rfl dX8_bite_25 rfl ?_
      refine V_callS (n := 2) (sp_whereIs l g _ P p k) o_X8_whereIs m_X8_58 ⟨by decide, by decide⟩ rfl rfl (by first | exact Nat.le_of_ble_eq_true rfl | simp [Value.category]) (Nat.le_refl _) (Nat.le_refl _) rfl dX8_bite_26 rfl (kI ?_)
      refine V_iload_n (i := 3) rfl rfl dX8_bite_29 rfl ?_
      refine V_iadd dX8_bite_30 rfl ?_
      refine V_iald9 (by assumption) (ix_wi hp hk20 hf) dX8_bite_31 rfl ?_
      refine V_goto (tgt := 37) dX8_bite_32 (by decide) ?_
      exact V_ireturn rfl rfl dX8_bite_37 rfl rfl rfl (qI.of (by unfold aBitX; rw [if_pos hbt]; first | (rw [if_pos (bI_nz h_17), hc, hck, hcf]) | (rw [if_neg (bI_z h_17)])))
  · refine V_iconst (v := (-1)) (by decide) dX8_bite_9 rfl ?_
    exact V_ireturn rfl rfl dX8_bite_10 rfl rfl rfl (qI.of (by unfold aBitX; rw [if_neg (bI_z h_6)]))

set_option maxHeartbeats 4000000 in
set_option maxRecDepth 100000 in
theorem sp_snakeOf (l : Launch) (g : fw_G) {I : fw_I} {P : fw_P} {s : Nat → Int32} (hM : MSh P) (x w : Int32) : Sp l g kX8_snakeOf T0 [.ref (g.1 + 688), .int x, .int w] (wr I 689 s) P T0 0 0 (qI (aSnkX s x w) (wr I 689 s) P) := by
  have a688 := at_688
  have a689 := at_689
  obtain ⟨p0, p1, p3, p5, p6, p10, p12, p13⟩ := id hM
  refine Sp.of_V (L := [some (.ref (g.1 + 688)), some (.int x), some (.int w)]) (by decide) (by simp [Value.category]) (Nat.le_of_ble_eq_true rfl) rfl ?_
  refine V_aload_n (i := 0) rfl rfl dX8_snakeOf_0 rfl ?_
  refine V_iload_n (i := 1) rfl rfl dX8_snakeOf_1 rfl ?_
  refine V_call (n := 1) (sp_isSnake l g hM x) o_X8_isSnake m_X8_113 ⟨by decide, by decide⟩ (by assumption) rfl rfl (by first | exact Nat.le_of_ble_eq_true rfl | simp [Value.category]) (Nat.le_refl _) (Nat.le_refl _) rfl dX8_snakeOf_2 rfl (kI ?_)
  refine V_if_ne (tgt := 10) dX8_snakeOf_5 (by decide) rfl (fun h_5 => ?_) (fun h_5 => ?_)
  · have hsk := bI_nz h_5
    obtain ⟨k, hk, rfl⟩ := nI_le9 hsk.1
    have hck : (nI k).toNatClampNeg = k := nI_clamp (by omega)
    refine V_iload_n (i := 2) rfl rfl dX8_snakeOf_10 rfl ?_
    refine V_iconst (v := 0) (by decide) dX8_snakeOf_11 rfl ?_
    refine V_iconst (v := 3) (by decide) dX8_snakeOf_12 rfl ?_
    refine V_callS (n := 3) (sp_in l g _ P w 0 3) o_X8_in m_X8_35 ⟨by decide, by decide⟩ rfl rfl (by first | exact Nat.le_of_ble_eq_true rfl | simp [Value.category]) (Nat.le_refl _) (Nat.le_refl _) rfl dX8_snakeOf_13 rfl (kI ?_)
    refine V_if_eq (tgt := 28) dX8_snakeOf_16 (by decide) rfl (fun h_16 => ?_) (fun h_16 => ?_)
    · refine V_bipush (v := (-2)) (by decide) dX8_snakeOf_28 rfl ?_
      exact V_ireturn rfl rfl dX8_snakeOf_30 rfl rfl rfl (qI.of (by unfold aSnkX; rw [if_pos hsk]; first | (rw [if_pos (bI_nz h_16), hck, hcf]) | (rw [if_neg (bI_z h_16)])))
    · obtain ⟨f, hf, rfl⟩ := aPl.nat (bI_nz h_16)
      have hcf : (nI f).toNatClampNeg = f := nI_clamp (by omega)
      refine V_aload_n (i := 0) rfl rfl dX8_snakeOf_19 rfl ?_
      refine V_iload_n (i := 1) rfl rfl dX8_snakeOf_20 rfl ?_
      refine V_iload_n (i := 2) rfl rfl dX8_snakeOf_21 rfl ?_
      refine V_call (n := 2) (sp_ofSnake l g hM hk hf) o_X8_ofSnake m_X8_47 ⟨by decide, by decide⟩ (by assumption) rfl rfl (by first | exact Nat.le_of_ble_eq_true rfl | simp [Value.category]) (Nat.le_refl _) (Nat.le_refl _) rfl dX8_snakeOf_22 rfl (kI ?_)
      refine V_goto (tgt := 30) dX8_snakeOf_25 (by decide) ?_
      exact V_ireturn rfl rfl dX8_snakeOf_30 rfl rfl rfl (qI.of (by unfold aSnkX; rw [if_pos hsk]; first | (rw [if_pos (bI_nz h_16), hck, hcf]) | (rw [if_neg (bI_z h_16)])))
  · refine V_iconst (v := (-1)) (by decide) dX8_snakeOf_8 rfl ?_
    exact V_ireturn rfl rfl dX8_snakeOf_9 rfl rfl rfl (qI.of (by unfold aSnkX; rw [if_neg (bI_z h_5)]))

set_option maxHeartbeats 4000000 in
set_option maxRecDepth 100000 in
theorem lp_tailsAt (l : Launch) (g : fw_G) {I : fw_I} {P : fw_P} {s : Nat → Int32} (hM : MSh P) (x : Int32) : ∀ (n j : Nat), j + n = 10 → V l g kX8_tailsAt T0 0 0 (qI (aTaF s x 10) (wr I 689 s) P) T0 (wr I 689 s) P 0 0 4 [some (.ref (g.1 + 688)), some (.int x), some (.int (aTaF s x j)), some (.int (nI j))] [] := by
  have a688 := at_688
  have a689 := at_689
  obtain ⟨p0, p1, p3, p5, p6, p10, p12, p13⟩ := id hM
  intro n
  induction n with
  | zero =>
    intro j hj
    obtain rfl : j = 10 := by omega
    refine V_iload_n (i := 3) rfl rfl dX8_tailsAt_4 rfl ?_
    refine V_bipush (v := 10) (by decide) dX8_tailsAt_5 rfl ?_
    refine V_icmp_ge (tgt := 42) dX8_tailsAt_7 (by decide) rfl (fun _ => ?_) (fun h => absurd (nI_le (a := 10) (b := 10) (Nat.le_refl _) (by decide)) h)
    refine V_iload_n (i := 2) rfl rfl dX8_tailsAt_42 rfl ?_
    exact V_ireturn rfl rfl dX8_tailsAt_43 rfl rfl rfl (qI.of rfl)
  | succ n ih =>
    intro j hj
    have hj10 : j < 10 := by omega
    have hcj : (nI j).toNatClampNeg = j := nI_clamp (by omega)
    refine V_iload_n (i := 3) rfl rfl dX8_tailsAt_4 rfl ?_
    refine V_bipush (v := 10) (by decide) dX8_tailsAt_5 rfl ?_
    refine V_icmp_ge (tgt := 42) dX8_tailsAt_7 (by decide) rfl (fun h => absurd h (nI_ge (b := 10) (by omega) (by decide))) (fun _ => ?_)
    refine V_iload_n (i := 2) rfl rfl dX8_tailsAt_10 rfl ?_
    refine V_aload_n (i := 0) rfl rfl dX8_tailsAt_11 rfl ?_
    refine V_iload_n (i := 3) rfl rfl dX8_tailsAt_12 rfl ?_
    refine V_call (n := 1) (sp_isSnake l g hM (nI j)) o_X8_isSnake m_X8_113 ⟨by decide, by decide⟩ (by assumption) rfl rfl (by first | exact Nat.le_of_ble_eq_true rfl | simp [Value.category]) (Nat.le_refl _) (Nat.le_refl _) rfl dX8_tailsAt_13 rfl (kI ?_)
    refine V_if_eq (tgt := 33) dX8_tailsAt_16 (by decide) rfl (fun h_16 => ?_) (fun h_16 => ?_)
    · refine V_iconst (v := 0) (by decide) dX8_tailsAt_33 rfl ?_
      refine V_iadd dX8_tailsAt_34 rfl ?_
      refine V_istore_n (i := 2) rfl (by decide) rfl dX8_tailsAt_35 rfl ?_
      refine V_iinc1 (i := 3) rfl (by decide) rfl dX8_tailsAt_36 rfl ?_
      refine V_goto (tgt := 4) dX8_tailsAt_39 (by decide) ?_
      have h9 := ih (j + 1) (by omega)
      rw [← nI_1, show aTaF s x (j + 1) = aTaF s x j + bI (0 < sn s j 0 ∧ sn s j 1 = x) from rfl] at h9
      first
        | (rw [bI_t (⟨hcj ▸ (bI_nz h_16).2, h_26⟩ : 0 < sn s j 0 ∧ sn s j 1 = x)] at h9; exact h9)
        | (rw [bI_f ((fun h => h_26 h.2) : ¬ (0 < sn s j 0 ∧ sn s j 1 = x))] at h9; exact h9)
        | (rw [bI_f ((fun h => bI_z h_16 ⟨⟨nI_pos' (by omega), nI_le (b := 9) (by omega) (by decide)⟩, hcj.symm ▸ h.1⟩) : ¬ (0 < sn s j 0 ∧ sn s j 1 = x))] at h9; exact h9)
    · refine V_aload_n (i := 0) rfl rfl dX8_tailsAt_19 rfl ?_
      refine V_iload_n (i := 3) rfl rfl dX8_tailsAt_20 rfl ?_
      refine V_iconst (v := 1) (by decide) dX8_tailsAt_21 rfl ?_
      refine V_call (n := 2) (sp_ofSnake l g hM hj10 (by decide : 1 < 4)) o_X8_ofSnake m_X8_47 ⟨by decide, by decide⟩ (by assumption) rfl rfl (by first | exact Nat.le_of_ble_eq_true rfl | simp [Value.category]) (Nat.le_refl _) (Nat.le_refl _) rfl dX8_tailsAt_22 rfl (kI ?_)
      refine V_iload_n (i := 1) rfl rfl dX8_tailsAt_25 rfl ?_
      refine V_icmp_ne (tgt := 33) dX8_tailsAt_26 (by decide) rfl (fun h_26 => ?_) (fun h_26 => ?_)
      · refine V_iconst (v := 0) (by decide) dX8_tailsAt_33 rfl ?_
        refine V_iadd dX8_tailsAt_34 rfl ?_
        refine V_istore_n (i := 2) rfl (by decide) rfl dX8_tailsAt_35 rfl ?_
        refine V_iinc1 (i := 3) rfl (by decide) rfl dX8_tailsAt_36 rfl ?_
        refine V_goto (tgt := 4) dX8_tailsAt_39 (by decide) ?_
        have h9 := ih (j + 1) (by omega)
        rw [← nI_1, show aTaF s x (j + 1) = aTaF s x j + bI (0 < sn s j 0 ∧ sn s j 1 = x) from rfl] at h9
        first
          | (rw [bI_t (⟨hcj ▸ (bI_nz h_16).2, h_26⟩ : 0 < sn s j 0 ∧ sn s j 1 = x)] at h9; exact h9)
          | (rw [bI_f ((fun h => h_26 h.2) : ¬ (0 < sn s j 0 ∧ sn s j 1 = x))] at h9; exact h9)
          | (rw [bI_f ((fun h => bI_z h_16 ⟨⟨nI_pos' (by omega), nI_le (b := 9) (by omega) (by decide)⟩, hcj.symm ▸ h.1⟩) : ¬ (0 < sn s j 0 ∧ sn s j 1 = x))] at h9; exact h9)
      · refine V_iconst (v := 1) (by decide) dX8_tailsAt_29 rfl ?_
        refine V_goto (tgt := 34) dX8_tailsAt_30 (by decide) ?_
        refine V_iadd dX8_tailsAt_34 rfl ?_
        refine V_istore_n (i := 2) rfl (by decide) rfl dX8_tailsAt_35 rfl ?_
        refine V_iinc1 (i := 3) rfl (by decide) rfl dX8_tailsAt_36 rfl ?_
        refine V_goto (tgt := 4) dX8_tailsAt_39 (by decide) ?_
        have h9 := ih (j + 1) (by omega)
        rw [← nI_1, show aTaF s x (j + 1) = aTaF s x j + bI (0 < sn s j 0 ∧ sn s j 1 = x) from rfl] at h9
        first
          | (rw [bI_t (⟨hcj ▸ (bI_nz h_16).2, h_26⟩ : 0 < sn s j 0 ∧ sn s j 1 = x)] at h9; exact h9)
          | (rw [bI_f ((fun h => h_26 h.2) : ¬ (0 < sn s j 0 ∧ sn s j 1 = x))] at h9; exact h9)
          | (rw [bI_f ((fun h => bI_z h_16 ⟨⟨nI_pos' (by omega), nI_le (b := 9) (by omega) (by decide)⟩, hcj.symm ▸ h.1⟩) : ¬ (0 < sn s j 0 ∧ sn s j 1 = x))] at h9; exact h9)

set_option maxHeartbeats 4000000 in
set_option maxRecDepth 100000 in
theorem sp_tailsAt (l : Launch) (g : fw_G) {I : fw_I} {P : fw_P} {s : Nat → Int32} (hM : MSh P) (x : Int32) : Sp l g kX8_tailsAt T0 [.ref (g.1 + 688), .int x] (wr I 689 s) P T0 0 0 (qI (aTaF s x 10) (wr I 689 s) P) := by
  refine Sp.of_V (L := [some (.ref (g.1 + 688)), some (.int x), none, none]) (by decide) (by simp [Value.category]) (Nat.le_of_ble_eq_true rfl) rfl ?_
  refine V_iconst (v := 0) (by decide) dX8_tailsAt_0 rfl ?_
  refine V_istore_n (i := 2) rfl (by decide) rfl dX8_tailsAt_1 rfl ?_
  refine V_iconst (v := 0) (by decide) dX8_tailsAt_2 rfl ?_
  refine V_istore_n (i := 3) rfl (by decide) rfl dX8_tailsAt_3 rfl ?_
  exact lp_tailsAt l g hM x 10 0 rfl

set_option maxHeartbeats 4000000 in
set_option maxRecDepth 100000 in
theorem sp_square (l : Launch) (g : fw_G) {I : fw_I} {P : fw_P} {s : Nat → Int32} (hM : MSh P) (q w : Int32) : Sp l g kX8_square T0 [.ref (g.1 + 688), .int q, .int w] (wr I 689 s) P T0 0 0 (qI (aSqX s q w) (wr I 689 s) P) := by
  have a688 := at_688
  have a689 := at_689
  obtain ⟨p0, p1, p3, p5, p6, p10, p12, p13⟩ := id hM
  refine Sp.of_V (L := [some (.ref (g.1 + 688)), some (.int q), some (.int w)]) (by decide) (by simp [Value.category]) (Nat.le_of_ble_eq_true rfl) rfl ?_
  refine V_iload_n (i := 1) rfl rfl dX8_square_0 rfl ?_
  refine V_iconst (v := 0) (by decide) dX8_square_1 rfl ?_
  refine V_bipush (v := 60) (by decide) dX8_square_2 rfl ?_
  refine V_callS (n := 3) (sp_in l g _ P q 0 60) o_X8_in m_X8_35 ⟨by decide, by decide⟩ rfl rfl (by first | exact Nat.le_of_ble_eq_true rfl | simp [Value.category]) (Nat.le_refl _) (Nat.le_refl _) rfl dX8_square_4 rfl (kI ?_)
  refine V_if_eq (tgt := 19) dX8_square_7 (by decide) rfl (fun h_7 => ?_) (fun h_7 => ?_)
  · refine V_bipush (v := (-2)) (by decide) dX8_square_19 rfl ?_
    exact V_ireturn rfl rfl dX8_square_21 rfl rfl rfl (qI.of (by unfold aSqX; first | rw [if_neg ((fun h => bI_z h_7 h.1) : ¬ ((0 ≤ q ∧ q ≤ 60) ∧ (0 ≤ w ∧ w ≤ 2)))] | rw [if_neg ((fun h => bI_z h_16 h.2) : ¬ ((0 ≤ q ∧ q ≤ 60) ∧ (0 ≤ w ∧ w ≤ 2)))]))
  · refine V_iload_n (i := 2) rfl rfl dX8_square_10 rfl ?_
    refine V_iconst (v := 0) (by decide) dX8_square_11 rfl ?_
    refine V_iconst (v := 2) (by decide) dX8_square_12 rfl ?_
    refine V_callS (n := 3) (sp_in l g _ P w 0 2) o_X8_in m_X8_35 ⟨by decide, by decide⟩ rfl rfl (by first | exact Nat.le_of_ble_eq_true rfl | simp [Value.category]) (Nat.le_refl _) (Nat.le_refl _) rfl dX8_square_13 rfl (kI ?_)
    refine V_if_ne (tgt := 22) dX8_square_16 (by decide) rfl (fun h_16 => ?_) (fun h_16 => ?_)
    · refine V_iload_n (i := 2) rfl rfl dX8_square_22 rfl ?_
      refine V_if_ne (tgt := 34) dX8_square_23 (by decide) rfl (fun h_23 => ?_) (fun h_23 => ?_)
      · refine V_iload_n (i := 2) rfl rfl dX8_square_34 rfl ?_
        refine V_iconst (v := 1) (by decide) dX8_square_35 rfl ?_
        refine V_icmp_ne (tgt := 47) dX8_square_36 (by decide) rfl (fun h_36 => ?_) (fun h_36 => ?_)
        · refine V_aload_n (i := 0) rfl rfl dX8_square_47 rfl ?_
          refine V_iload_n (i := 1) rfl rfl dX8_square_48 rfl ?_
          refine V_call (n := 1) (sp_tailsAt l g hM q) o_X8_tailsAt m_X8_177 ⟨by decide, by decide⟩ (by assumption) rfl rfl (by first | exact Nat.le_of_ble_eq_true rfl | simp [Value.category]) (Nat.le_refl _) (Nat.le_refl _) rfl dX8_square_49 rfl (kI ?_)
          exact V_ireturn rfl rfl dX8_square_52 rfl rfl rfl (qI.of (by unfold aSqX; rw [if_pos (⟨bI_nz h_7, bI_nz h_16⟩ : (0 ≤ q ∧ q ≤ 60) ∧ (0 ≤ w ∧ w ≤ 2))]; first | rw [if_pos h_23] | (rw [if_neg h_23]; first | rw [if_pos h_36] | rw [if_neg h_36])))
        · refine V_aload_n (i := 0) rfl rfl dX8_square_39 rfl ?_
          refine V_iload_n (i := 1) rfl rfl dX8_square_40 rfl ?_
          refine V_call (n := 1) (sp_snakeAt l g hM q) o_X8_snakeAt m_X8_65 ⟨by decide, by decide⟩ (by assumption) rfl rfl (by first | exact Nat.le_of_ble_eq_true rfl | simp [Value.category]) (Nat.le_refl _) (Nat.le_refl _) rfl dX8_square_41 rfl (kI ?_)
          refine V_goto (tgt := 52) dX8_square_44 (by decide) ?_
          exact V_ireturn rfl rfl dX8_square_52 rfl rfl rfl (qI.of (by unfold aSqX; rw [if_pos (⟨bI_nz h_7, bI_nz h_16⟩ : (0 ≤ q ∧ q ≤ 60) ∧ (0 ≤ w ∧ w ≤ 2))]; first | rw [if_pos h_23] | (rw [if_neg h_23]; first | rw [if_pos h_36] | rw [if_neg h_36])))
      · refine V_aload_n (i := 0) rfl rfl dX8_square_26 rfl ?_
        refine V_iload_n (i := 1) rfl rfl dX8_square_27 rfl ?_
        refine V_call (n := 1) (sp_piecesAt l g hM q) o_X8_piecesAt m_X8_68 ⟨by decide, by decide⟩ (by assumption) rfl rfl (by first | exact Nat.le_of_ble_eq_true rfl | simp [Value.category]) (Nat.le_refl _) (Nat.le_refl _) rfl dX8_square_28 rfl (kI ?_)
        refine V_goto (tgt := 52) dX8_square_31 (by decide) ?_
        exact V_ireturn rfl rfl dX8_square_52 rfl rfl rfl (qI.of (by unfold aSqX; rw [if_pos (⟨bI_nz h_7, bI_nz h_16⟩ : (0 ≤ q ∧ q ≤ 60) ∧ (0 ≤ w ∧ w ≤ 2))]; first | rw [if_pos h_23] | (rw [if_neg h_23]; first | rw [if_pos h_36] | rw [if_neg h_36])))
    · refine V_bipush (v := (-2)) (by decide) dX8_square_19 rfl ?_
      exact V_ireturn rfl rfl dX8_square_21 rfl rfl rfl (qI.of (by unfold aSqX; first | rw [if_neg ((fun h => bI_z h_7 h.1) : ¬ ((0 ≤ q ∧ q ≤ 60) ∧ (0 ≤ w ∧ w ≤ 2)))] | rw [if_neg ((fun h => bI_z h_16 h.2) : ¬ ((0 ≤ q ∧ q ≤ 60) ∧ (0 ≤ w ∧ w ≤ 2)))]))

set_option maxHeartbeats 4000000 in
set_option maxRecDepth 100000 in
theorem lp_sumOf (l : Launch) (g : fw_G) {I : fw_I} {P : fw_P} {s : Nat → Int32} (hM : MSh P) {f : Nat} (hf : f < 6) : ∀ (n j : Nat), j + n = 4 → V l g kX8_sumOf T0 0 0 (qI (aSuF s f 4) (wr I 689 s) P) T0 (wr I 689 s) P 0 0 4 [some (.ref (g.1 + 688)), some (.int (nI f)), some (.int (aSuF s f j)), some (.int (nI j))] [] := by
  have a688 := at_688
  have a689 := at_689
  obtain ⟨p0, p1, p3, p5, p6, p10, p12, p13⟩ := id hM
  intro n
  induction n with
  | zero =>
    intro j hj
    obtain rfl : j = 4 := by omega
    refine V_iload_n (i := 3) rfl rfl dX8_sumOf_4 rfl ?_
    refine V_iconst (v := 4) (by decide) dX8_sumOf_5 rfl ?_
    refine V_icmp_ge (tgt := 24) dX8_sumOf_6 (by decide) rfl (fun _ => ?_) (fun h => absurd (nI_le (a := 4) (b := 4) (Nat.le_refl _) (by decide)) h)
    refine V_iload_n (i := 2) rfl rfl dX8_sumOf_24 rfl ?_
    exact V_ireturn rfl rfl dX8_sumOf_25 rfl rfl rfl (qI.of rfl)
  | succ n ih =>
    intro j hj
    have hj10 : j < 4 := by omega
    refine V_iload_n (i := 3) rfl rfl dX8_sumOf_4 rfl ?_
    refine V_iconst (v := 4) (by decide) dX8_sumOf_5 rfl ?_
    refine V_icmp_ge (tgt := 24) dX8_sumOf_6 (by decide) rfl (fun h => absurd h (nI_ge (b := 4) (by omega) (by decide))) (fun _ => ?_)
    refine V_iload_n (i := 2) rfl rfl dX8_sumOf_9 rfl ?_
    refine V_aload_n (i := 0) rfl rfl dX8_sumOf_10 rfl ?_
    refine V_iload_n (i := 3) rfl rfl dX8_sumOf_11 rfl ?_
    refine V_iload_n (i := 1) rfl rfl dX8_sumOf_12 rfl ?_
    refine V_call (n := 2) (sp_of l g hM hj10 hf) o_X8_of m_X8_43 ⟨by decide, by decide⟩ (by assumption) rfl rfl (by first | exact Nat.le_of_ble_eq_true rfl | simp [Value.category]) (Nat.le_refl _) (Nat.le_refl _) rfl dX8_sumOf_13 rfl (kI ?_)
    refine V_iadd dX8_sumOf_16 rfl ?_
    refine V_istore_n (i := 2) rfl (by decide) rfl dX8_sumOf_17 rfl ?_
    refine V_iinc1 (i := 3) rfl (by decide) rfl dX8_sumOf_18 rfl ?_
    refine V_goto (tgt := 4) dX8_sumOf_21 (by decide) ?_
    have h9 := ih (j + 1) (by omega)
    rw [← nI_1] at h9
    exact h9

set_option maxHeartbeats 4000000 in
set_option maxRecDepth 100000 in
theorem sp_sumOf (l : Launch) (g : fw_G) {I : fw_I} {P : fw_P} {s : Nat → Int32} (hM : MSh P) {f : Nat} (hf : f < 6) : Sp l g kX8_sumOf T0 [.ref (g.1 + 688), .int (nI f)] (wr I 689 s) P T0 0 0 (qI (aSuF s f 4) (wr I 689 s) P) := by
  refine Sp.of_V (L := [some (.ref (g.1 + 688)), some (.int (nI f)), none, none]) (by decide) (by simp [Value.category]) (Nat.le_of_ble_eq_true rfl) rfl ?_
  refine V_iconst (v := 0) (by decide) dX8_sumOf_0 rfl ?_
  refine V_istore_n (i := 2) rfl (by decide) rfl dX8_sumOf_1 rfl ?_
  refine V_iconst (v := 0) (by decide) dX8_sumOf_2 rfl ?_
  refine V_istore_n (i := 3) rfl (by decide) rfl dX8_sumOf_3 rfl ?_
  exact lp_sumOf l g hM hf 4 0 rfl

set_option maxHeartbeats 4000000 in
set_option maxRecDepth 100000 in
theorem sp_count (l : Launch) (g : fw_G) {I : fw_I} {P : fw_P} {s : Nat → Int32} (hM : MSh P) (w : Int32) : Sp l g kX8_count T0 [.ref (g.1 + 688), .int w] (wr I 689 s) P T0 0 0 (qI (aCntX s (I 688 2) (I 688 7) w) (wr I 689 s) P) := by
  have a688 := at_688
  have a689 := at_689
  obtain ⟨p0, p1, p3, p5, p6, p10, p12, p13⟩ := id hM
  refine Sp.of_V (L := [some (.ref (g.1 + 688)), some (.int w)]) (by decide) (by simp [Value.category]) (Nat.le_of_ble_eq_true rfl) rfl ?_
  refine V_iload_n (i := 1) rfl rfl dX8_count_0 rfl ?_
  rcases sw_cases 12 (by decide) w with h_1 | ⟨i_1, h_1, rfl⟩
  · refine V_tableOut (tgt := 156) dX8_count_1 h_1 (by decide) ?_
    refine V_bipush (v := (-2)) (by decide) dX8_count_156 rfl ?_
    exact V_ireturn rfl rfl dX8_count_158 rfl rfl rfl (qI.of (by unfold aCntX; rw [if_neg (sw_ne h_1 (by decide : 0 ≤ 12) (by decide)), if_neg (sw_ne h_1 (by decide : 1 ≤ 12) (by decide)), if_neg (sw_ne h_1 (by decide : 2 ≤ 12) (by decide)), if_neg (sw_ne h_1 (by decide : 3 ≤ 12) (by decide)), if_neg (sw_ne h_1 (by decide : 4 ≤ 12) (by decide)), if_neg (sw_ne h_1 (by decide : 5 ≤ 12) (by decide)), if_neg (sw_ne h_1 (by decide : 6 ≤ 12) (by decide)), if_neg (sw_ne h_1 (by decide : 7 ≤ 12) (by decide)), if_neg (sw_ne h_1 (by decide : 8 ≤ 12) (by decide)), if_neg (sw_ne h_1 (by decide : 9 ≤ 12) (by decide)), if_neg (sw_ne h_1 (by decide : 10 ≤ 12) (by decide)), if_neg (sw_ne h_1 (by decide : 11 ≤ 12) (by decide)), if_neg (sw_ne h_1 (by decide : 12 ≤ 12) (by decide))]))
  · rcases (show i_1 = 0 ∨ i_1 = 1 ∨ i_1 = 2 ∨ i_1 = 3 ∨ i_1 = 4 ∨ i_1 = 5 ∨ i_1 = 6 ∨ i_1 = 7 ∨ i_1 = 8 ∨ i_1 = 9 ∨ i_1 = 10 ∨ i_1 = 11 ∨ i_1 = 12 by omega) with rfl | rfl | rfl | rfl | rfl | rfl | rfl | rfl | rfl | rfl | rfl | rfl | rfl
    · refine V_tableIn (x := nI 0) (tgt := 68) dX8_count_1 (by decide) (by decide) rfl (by decide) ?_
      refine V_aload_n (i := 0) rfl rfl dX8_count_68 rfl ?_
      refine V_getr (kf := 0) C8 (by decide) l_X8_7 (by assumption) rfl (by assumption) dX8_count_69 rfl ?_
      refine V_iconst (v := 0) (by decide) dX8_count_72 rfl ?_
      refine V_iald9 (by assumption) (fw_ix_nI (j := 0) (by decide) (by decide)) dX8_count_73 rfl ?_
      exact V_ireturn rfl rfl dX8_count_74 rfl rfl rfl (qI.of (by rfl))
    · refine V_tableIn (x := nI 1) (tgt := 75) dX8_count_1 (by decide) (by decide) rfl (by decide) ?_
      refine V_aload_n (i := 0) rfl rfl dX8_count_75 rfl ?_
      refine V_call (n := 0) (sp_isOver l g hM) o_X8_isOver m_X8_92 ⟨by decide, by decide⟩ (by assumption) rfl rfl (by first | exact Nat.le_of_ble_eq_true rfl | simp [Value.category]) (Nat.le_refl _) (Nat.le_refl _) rfl dX8_count_76 rfl (kI ?_)
      refine V_if_eq (tgt := 87) dX8_count_79 (by decide) rfl (fun h_79 => ?_) (fun h_79 => ?_)
      · refine V_aload_n (i := 0) rfl rfl dX8_count_87 rfl ?_
        refine V_getr (kf := 0) C8 (by decide) l_X8_7 (by assumption) rfl (by assumption) dX8_count_88 rfl ?_
        refine V_iconst (v := 1) (by decide) dX8_count_91 rfl ?_
        refine V_iald9 (by assumption) (fw_ix_nI (j := 1) (by decide) (by decide)) dX8_count_92 rfl ?_
        exact V_ireturn rfl rfl dX8_count_93 rfl rfl rfl (qI.of (by first | (show -5 = if s 4 = 4 then -5 else s 1; rw [if_pos (bI_nz h_79)]) | (show s 1 = if s 4 = 4 then -5 else s 1; rw [if_neg (bI_z h_79)])))
      · refine V_bipush (v := (-5)) (by decide) dX8_count_82 rfl ?_
        refine V_goto (tgt := 93) dX8_count_84 (by decide) ?_
        exact V_ireturn rfl rfl dX8_count_93 rfl rfl rfl (qI.of (by first | (show -5 = if s 4 = 4 then -5 else s 1; rw [if_pos (bI_nz h_79)]) | (show s 1 = if s 4 = 4 then -5 else s 1; rw [if_neg (bI_z h_79)])))
    · refine V_tableIn (x := nI 2) (tgt := 94) dX8_count_1 (by decide) (by decide) rfl (by decide) ?_
      refine V_iconst (v := 4) (by decide) dX8_count_94 rfl ?_
      refine V_aload_n (i := 0) rfl rfl dX8_count_95 rfl ?_
      refine V_getr (kf := 0) C8 (by decide) l_X8_7 (by assumption) rfl (by assumption) dX8_count_96 rfl ?_
      refine V_iconst (v := 4) (by decide) dX8_count_99 rfl ?_
      refine V_iald9 (by assumption) (fw_ix_nI (j := 4) (by decide) (by decide)) dX8_count_100 rfl ?_
      refine V_isub dX8_count_101 rfl ?_
      exact V_ireturn rfl rfl dX8_count_102 rfl rfl rfl (qI.of (by rfl))
    · refine V_tableIn (x := nI 3) (tgt := 103) dX8_count_1 (by decide) (by decide) rfl (by decide) ?_
      refine V_aload_n (i := 0) rfl rfl dX8_count_103 rfl ?_
      refine V_call (n := 0) (sp_snakes l g hM) o_X8_snakes m_X8_106 ⟨by decide, by decide⟩ (by assumption) rfl rfl (by first | exact Nat.le_of_ble_eq_true rfl | simp [Value.category]) (Nat.le_refl _) (Nat.le_refl _) rfl dX8_count_104 rfl (kI ?_)
      exact V_ireturn rfl rfl dX8_count_107 rfl rfl rfl (qI.of (by rfl))
    · refine V_tableIn (x := nI 4) (tgt := 108) dX8_count_1 (by decide) (by decide) rfl (by decide) ?_
      refine V_aload_n (i := 0) rfl rfl dX8_count_108 rfl ?_
      refine V_iconst (v := 5) (by decide) dX8_count_109 rfl ?_
      refine V_call (n := 1) (sp_sumOf l g hM (by decide : 5 < 6)) o_X8_sumOf m_X8_180 ⟨by decide, by decide⟩ (by assumption) rfl rfl (by first | exact Nat.le_of_ble_eq_true rfl | simp [Value.category]) (Nat.le_refl _) (Nat.le_refl _) rfl dX8_count_110 rfl (kI ?_)
      exact V_ireturn rfl rfl dX8_count_113 rfl rfl rfl (qI.of (by rfl))
    · refine V_tableIn (x := nI 5) (tgt := 114) dX8_count_1 (by decide) (by decide) rfl (by decide) ?_
      refine V_aload_n (i := 0) rfl rfl dX8_count_114 rfl ?_
      refine V_getr (kf := 0) C8 (by decide) l_X8_7 (by assumption) rfl (by assumption) dX8_count_115 rfl ?_
      refine V_iconst (v := 2) (by decide) dX8_count_118 rfl ?_
      refine V_iald9 (by assumption) (fw_ix_nI (j := 2) (by decide) (by decide)) dX8_count_119 rfl ?_
      exact V_ireturn rfl rfl dX8_count_120 rfl rfl rfl (qI.of (by rfl))
    · refine V_tableIn (x := nI 6) (tgt := 121) dX8_count_1 (by decide) (by decide) rfl (by decide) ?_
      refine V_aload_n (i := 0) rfl rfl dX8_count_121 rfl ?_
      refine V_getr (kf := 0) C8 (by decide) l_X8_7 (by assumption) rfl (by assumption) dX8_count_122 rfl ?_
      refine V_iconst (v := 3) (by decide) dX8_count_125 rfl ?_
      refine V_iald9 (by assumption) (fw_ix_nI (j := 3) (by decide) (by decide)) dX8_count_126 rfl ?_
      exact V_ireturn rfl rfl dX8_count_127 rfl rfl rfl (qI.of (by rfl))
    · refine V_tableIn (x := nI 7) (tgt := 128) dX8_count_1 (by decide) (by decide) rfl (by decide) ?_
      refine V_aload_n (i := 0) rfl rfl dX8_count_128 rfl ?_
      refine V_iconst (v := 1) (by decide) dX8_count_129 rfl ?_
      refine V_call (n := 1) (sp_sumOf l g hM (by decide : 1 < 6)) o_X8_sumOf m_X8_180 ⟨by decide, by decide⟩ (by assumption) rfl rfl (by first | exact Nat.le_of_ble_eq_true rfl | simp [Value.category]) (Nat.le_refl _) (Nat.le_refl _) rfl dX8_count_130 rfl (kI ?_)
      exact V_ireturn rfl rfl dX8_count_133 rfl rfl rfl (qI.of (by rfl))
    · refine V_tableIn (x := nI 8) (tgt := 134) dX8_count_1 (by decide) (by decide) rfl (by decide) ?_
      refine V_aload_n (i := 0) rfl rfl dX8_count_134 rfl ?_
      refine V_getr (kf := 0) C8 (by decide) l_X8_7 (by assumption) rfl (by assumption) dX8_count_135 rfl ?_
      refine V_iconst (v := 5) (by decide) dX8_count_138 rfl ?_
      refine V_iload_n (i := 1) rfl rfl dX8_count_139 rfl ?_
      refine V_iadd dX8_count_140 rfl ?_
      refine V_bipush (v := 8) (by decide) dX8_count_141 rfl ?_
      refine V_isub dX8_count_143 rfl ?_
      refine V_iald9 (by assumption) ⟨by decide, rfl, by decide⟩ dX8_count_144 rfl ?_
      exact V_ireturn rfl rfl dX8_count_145 rfl rfl rfl (qI.of (by rfl))
    · refine V_tableIn (x := nI 9) (tgt := 134) dX8_count_1 (by decide) (by decide) rfl (by decide) ?_
      refine V_aload_n (i := 0) rfl rfl dX8_count_134 rfl ?_
      refine V_getr (kf := 0) C8 (by decide) l_X8_7 (by assumption) rfl (by assumption) dX8_count_135 rfl ?_
      refine V_iconst (v := 5) (by decide) dX8_count_138 rfl ?_
      refine V_iload_n (i := 1) rfl rfl dX8_count_139 rfl ?_
      refine V_iadd dX8_count_140 rfl ?_
      refine V_bipush (v := 8) (by decide) dX8_count_141 rfl ?_
      refine V_isub dX8_count_143 rfl ?_
      refine V_iald9 (by assumption) ⟨by decide, rfl, by decide⟩ dX8_count_144 rfl ?_
      exact V_ireturn rfl rfl dX8_count_145 rfl rfl rfl (qI.of (by rfl))
    · refine V_tableIn (x := nI 10) (tgt := 134) dX8_count_1 (by decide) (by decide) rfl (by decide) ?_
      refine V_aload_n (i := 0) rfl rfl dX8_count_134 rfl ?_
      refine V_getr (kf := 0) C8 (by decide) l_X8_7 (by assumption) rfl (by assumption) dX8_count_135 rfl ?_
      refine V_iconst (v := 5) (by decide) dX8_count_138 rfl ?_
      refine V_iload_n (i := 1) rfl rfl dX8_count_139 rfl ?_
      refine V_iadd dX8_count_140 rfl ?_
      refine V_bipush (v := 8) (by decide) dX8_count_141 rfl ?_
      refine V_isub dX8_count_143 rfl ?_
      refine V_iald9 (by assumption) ⟨by decide, rfl, by decide⟩ dX8_count_144 rfl ?_
      exact V_ireturn rfl rfl dX8_count_145 rfl rfl rfl (qI.of (by rfl))
    · refine V_tableIn (x := nI 11) (tgt := 146) dX8_count_1 (by decide) (by decide) rfl (by decide) ?_
      refine V_aload_n (i := 0) rfl rfl dX8_count_146 rfl ?_
      refine V_get (kf := 2) C8 (by decide) l_X8_50 (by assumption) rfl dX8_count_147 rfl ?_
      exact V_ireturn rfl rfl dX8_count_150 rfl rfl rfl (qI.of (by rfl))
    · refine V_tableIn (x := nI 12) (tgt := 151) dX8_count_1 (by decide) (by decide) rfl (by decide) ?_
      refine V_aload_n (i := 0) rfl rfl dX8_count_151 rfl ?_
      refine V_get (kf := 7) C8 (by decide) l_X8_139 (by assumption) rfl dX8_count_152 rfl ?_
      exact V_ireturn rfl rfl dX8_count_155 rfl rfl rfl (qI.of (by rfl))

set_option maxHeartbeats 4000000 in
set_option maxRecDepth 100000 in
theorem sp_why (l : Launch) (g : fw_G) {I : fw_I} {P : fw_P} {s : Nat → Int32} (hM : MSh P) (hm : mOk s) (x y z c : Int32) : Sp l g kX8_why T0 [.ref (g.1 + 688), .int x, .int y, .int z, .int c] (wr I 689 s) P T0 0 0 (qI (aWhy s x y z c) (wr I 689 s) P) := by
  have a688 := at_688
  have a689 := at_689
  obtain ⟨p0, p1, p3, p5, p6, p10, p12, p13⟩ := id hM
  refine Sp.of_V (L := [some (.ref (g.1 + 688)), some (.int x), some (.int y), some (.int z), some (.int c), none]) (by decide) (by simp [Value.category]) (Nat.le_of_ble_eq_true rfl) rfl ?_
  refine V_aload_n (i := 0) rfl rfl dX8_why_0 rfl ?_
  refine V_iload_n (i := 1) rfl rfl dX8_why_1 rfl ?_
  refine V_iload_n (i := 2) rfl rfl dX8_why_2 rfl ?_
  refine V_iload_n (i := 3) rfl rfl dX8_why_3 rfl ?_
  refine V_iload (i := 4) rfl dX8_why_4 rfl ?_
  refine V_call (n := 4) (sp_sellError l g hM x y z c) o_X8_sellError m_X8_129 ⟨by decide, by decide⟩ (by assumption) rfl rfl (by first | exact Nat.le_of_ble_eq_true rfl | simp [Value.category]) (Nat.le_refl _) (Nat.le_refl _) rfl dX8_why_6 rfl (kI ?_)
  refine V_istore (i := 5) (by decide) rfl dX8_why_9 rfl ?_
  refine V_iload (i := 5) rfl dX8_why_11 rfl ?_
  refine V_if_ge (tgt := 21) dX8_why_13 (by decide) rfl (fun h_13 => ?_) (fun h_13 => ?_)
  · obtain ⟨he0, ⟨hbt, hpl⟩, hcc, hxz⟩ := (aSeE_cases s x y z c).elim (fun h => absurd h.1 (Int32.not_lt.mpr h_13)) id
    obtain ⟨p, k, hp, rfl, hk, rfl, hk20⟩ := aBt.nat hm hbt
    obtain ⟨b, hb, rfl⟩ := hpl.nat
    have hc : (nI p).toNatClampNeg = p := nI_clamp (by omega)
    have hck : (nI k).toNatClampNeg = k := nI_clamp (by omega)
    have hcb : (nI b).toNatClampNeg = b := nI_clamp (by omega)
    refine V_aload_n (i := 0) rfl rfl dX8_why_21 rfl ?_
    refine V_iload_n (i := 1) rfl rfl dX8_why_22 rfl ?_
    refine V_iload_n (i := 2) rfl rfl dX8_why_23 rfl ?_
    refine V_iload_n (i := 3) rfl rfl dX8_why_24 rfl ?_
    refine V_iload (i := 4) rfl dX8_why_25 rfl ?_
    refine V_call (n := 4) (sp_reason l g hM hp hk20 hb c) o_X8_reason m_X8_133 ⟨by decide, by decide⟩ (by assumption) rfl rfl (by first | exact Nat.le_of_ble_eq_true rfl | simp [Value.category]) (Nat.le_refl _) (Nat.le_refl _) rfl dX8_why_27 rfl (kI ?_)
    exact V_ireturn rfl rfl dX8_why_30 rfl rfl rfl (qI.of (by unfold aWhy; first | rw [if_pos (Int32.not_le.mp h_13)] | rw [if_neg (Int32.not_lt.mpr h_13), hc, hck, hcb]))
  · refine V_iload (i := 5) rfl dX8_why_16 rfl ?_
    refine V_goto (tgt := 30) dX8_why_18 (by decide) ?_
    exact V_ireturn rfl rfl dX8_why_30 rfl rfl rfl (qI.of (by unfold aWhy; first | rw [if_pos (Int32.not_le.mp h_13)] | rw [if_neg (Int32.not_lt.mpr h_13), hc, hck, hcb]))

set_option maxHeartbeats 4000000 in
set_option maxRecDepth 100000 in
theorem lp_che (l : Launch) (g : fw_G) {I : fw_I} {P : fw_P} {s : Nat → Int32} (hM : MSh P) {p k b : Nat} (hp : p < 4) (hk : k < 20) (hb : b < 4) (f : Int32) (kk : V l g kX8_cheapest T0 0 0 (qI (aChe s p k) (wr I 689 s) P) T0 (wr I 689 s) P 0 0 17 [some (.ref (g.1 + 688)), some (.int (nI p)), some (.int (nI k)), some (.int (aChS s p k b f)), some (.int (nI b + -1)), none, none] []) : V l g kX8_cheapest T0 0 0 (qI (aChe s p k) (wr I 689 s) P) T0 (wr I 689 s) P 0 0 17 [some (.ref (g.1 + 688)), some (.int (nI p)), some (.int (nI k)), some (.int (f)), some (.int (nI b)), none, none] [] := by
  have a688 := at_688
  have a689 := at_689
  obtain ⟨p0, p1, p3, p5, p6, p10, p12, p13⟩ := id hM
  refine V_iload (i := 4) rfl dX8_cheapest_17 rfl ?_
  refine V_if_lt (tgt := 114) dX8_cheapest_19 (by decide) rfl (fun h => absurd h (nI_pos (by omega))) (fun _ => ?_)
  refine V_aload_n (i := 0) rfl rfl dX8_cheapest_22 rfl ?_
  refine V_aload_n (i := 0) rfl rfl dX8_cheapest_23 rfl ?_
  refine V_getr (kf := 0) C8 (by decide) l_X8_7 (by assumption) rfl (by assumption) dX8_cheapest_24 rfl ?_
  refine V_iload_n (i := 1) rfl rfl dX8_cheapest_27 rfl ?_
  refine V_iload_n (i := 2) rfl rfl dX8_cheapest_28 rfl ?_
  refine V_callS (n := 2) (sp_whereIs l g _ P p k) o_X8_whereIs m_X8_58 ⟨by decide, by decide⟩ rfl rfl (by first | exact Nat.le_of_ble_eq_true rfl | simp [Value.category]) (Nat.le_refl _) (Nat.le_refl _) rfl dX8_cheapest_29 rfl (kI ?_)
  refine V_iconst (v := 0) (by decide) dX8_cheapest_32 rfl ?_
  refine V_iadd dX8_cheapest_33 rfl ?_
  refine V_iald9 (by assumption) (ix_wi hp hk (by decide : 0 < 4)) dX8_cheapest_34 rfl ?_
  refine V_iload (i := 4) rfl dX8_cheapest_35 rfl ?_
  refine V_call (n := 2) (sp_asks l g hM (s (wi p k + 0)) hb) o_X8_asks m_X8_100 ⟨by decide, by decide⟩ (by assumption) rfl rfl (by first | exact Nat.le_of_ble_eq_true rfl | simp [Value.category]) (Nat.le_refl _) (Nat.le_refl _) rfl dX8_cheapest_37 rfl (kI ?_)
  refine V_istore (i := 5) (by decide) rfl dX8_cheapest_40 rfl ?_
  refine V_iload (i := 4) rfl dX8_cheapest_42 rfl ?_
  refine V_iload_n (i := 1) rfl rfl dX8_cheapest_44 rfl ?_
  refine V_icmp_eq (tgt := 72) dX8_cheapest_45 (by decide) rfl (fun h_45 => ?_) (fun h_45 => ?_)
  · refine V_iconst (v := 0) (by decide) dX8_cheapest_72 rfl ?_
    refine V_istore (i := 6) (by decide) rfl dX8_cheapest_73 rfl ?_
    refine V_iload (i := 6) rfl dX8_cheapest_75 rfl ?_
    refine V_if_eq (tgt := 106) dX8_cheapest_77 (by decide) rfl (fun h_77 => ?_) (fun h_77 => ?_)
    · refine V_iload_n (i := 3) rfl rfl dX8_cheapest_106 rfl ?_
      refine V_istore_n (i := 3) rfl (by decide) rfl dX8_cheapest_107 rfl ?_
      refine V_iincm (i := 4) rfl (by decide) rfl dX8_cheapest_108 rfl ?_
      refine V_goto (tgt := 17) dX8_cheapest_111 (by decide) ?_
      refine V_forget 5 rfl ?_
      refine V_forget 6 rfl ?_
      have h9 := kk
      unfold aChS at h9
      first
        | exact absurd rfl h_77
        | exact absurd h_77 (by decide)
        | (rw [if_pos (⟨⟨h_45, Int32.not_lt.mp h_52, h_65⟩, Or.inl h_83⟩ : (¬ nI b = nI p ∧ aAsk s (s (wi p k + 0)) b ≤ 99 ∧ aRea s p k b (aAsk s (s (wi p k + 0)) b) = 0) ∧ (f = -5 ∨ aAsk s (s (wi p k + 0)) b ≤ f - f / 100 * 100))] at h9; exact h9)
        | (rw [if_pos (⟨⟨h_45, Int32.not_lt.mp h_52, h_65⟩, Or.inr (Int32.not_lt.mp h_92)⟩ : (¬ nI b = nI p ∧ aAsk s (s (wi p k + 0)) b ≤ 99 ∧ aRea s p k b (aAsk s (s (wi p k + 0)) b) = 0) ∧ (f = -5 ∨ aAsk s (s (wi p k + 0)) b ≤ f - f / 100 * 100))] at h9; exact h9)
        | (rw [if_neg ((fun h => h.2.elim h_83 (fun h2 => Int32.not_lt.mpr h2 h_92)) : ¬ ((¬ nI b = nI p ∧ aAsk s (s (wi p k + 0)) b ≤ 99 ∧ aRea s p k b (aAsk s (s (wi p k + 0)) b) = 0) ∧ (f = -5 ∨ aAsk s (s (wi p k + 0)) b ≤ f - f / 100 * 100)))] at h9; exact h9)
        | (rw [if_neg ((fun h => h_65 h.1.2.2) : ¬ ((¬ nI b = nI p ∧ aAsk s (s (wi p k + 0)) b ≤ 99 ∧ aRea s p k b (aAsk s (s (wi p k + 0)) b) = 0) ∧ (f = -5 ∨ aAsk s (s (wi p k + 0)) b ≤ f - f / 100 * 100)))] at h9; exact h9)
        | (rw [if_neg ((fun h => Int32.not_lt.mpr h.1.2.1 h_52) : ¬ ((¬ nI b = nI p ∧ aAsk s (s (wi p k + 0)) b ≤ 99 ∧ aRea s p k b (aAsk s (s (wi p k + 0)) b) = 0) ∧ (f = -5 ∨ aAsk s (s (wi p k + 0)) b ≤ f - f / 100 * 100)))] at h9; exact h9)
        | (rw [if_neg ((fun h => h.1.1 h_45) : ¬ ((¬ nI b = nI p ∧ aAsk s (s (wi p k + 0)) b ≤ 99 ∧ aRea s p k b (aAsk s (s (wi p k + 0)) b) = 0) ∧ (f = -5 ∨ aAsk s (s (wi p k + 0)) b ≤ f - f / 100 * 100)))] at h9; exact h9)
    · refine V_iload_n (i := 3) rfl rfl dX8_cheapest_80 rfl ?_
      refine V_bipush (v := (-5)) (by decide) dX8_cheapest_81 rfl ?_
      refine V_icmp_eq (tgt := 95) dX8_cheapest_83 (by decide) rfl (fun h_83 => ?_) (fun h_83 => ?_)
      · refine V_bipush (v := 100) (by decide) dX8_cheapest_95 rfl ?_
        refine V_iload (i := 4) rfl dX8_cheapest_97 rfl ?_
        refine V_imul dX8_cheapest_99 rfl ?_
        refine V_iload (i := 5) rfl dX8_cheapest_100 rfl ?_
        refine V_iadd dX8_cheapest_102 rfl ?_
        refine V_goto (tgt := 107) dX8_cheapest_103 (by decide) ?_
        refine V_istore_n (i := 3) rfl (by decide) rfl dX8_cheapest_107 rfl ?_
        refine V_iincm (i := 4) rfl (by decide) rfl dX8_cheapest_108 rfl ?_
        refine V_goto (tgt := 17) dX8_cheapest_111 (by decide) ?_
        refine V_forget 5 rfl ?_
        refine V_forget 6 rfl ?_
        have h9 := kk
        unfold aChS at h9
        first
          | exact absurd rfl h_77
          | exact absurd h_77 (by decide)
          | (rw [if_pos (⟨⟨h_45, Int32.not_lt.mp h_52, h_65⟩, Or.inl h_83⟩ : (¬ nI b = nI p ∧ aAsk s (s (wi p k + 0)) b ≤ 99 ∧ aRea s p k b (aAsk s (s (wi p k + 0)) b) = 0) ∧ (f = -5 ∨ aAsk s (s (wi p k + 0)) b ≤ f - f / 100 * 100))] at h9; exact h9)
          | (rw [if_pos (⟨⟨h_45, Int32.not_lt.mp h_52, h_65⟩, Or.inr (Int32.not_lt.mp h_92)⟩ : (¬ nI b = nI p ∧ aAsk s (s (wi p k + 0)) b ≤ 99 ∧ aRea s p k b (aAsk s (s (wi p k + 0)) b) = 0) ∧ (f = -5 ∨ aAsk s (s (wi p k + 0)) b ≤ f - f / 100 * 100))] at h9; exact h9)
          | (rw [if_neg ((fun h => h.2.elim h_83 (fun h2 => Int32.not_lt.mpr h2 h_92)) : ¬ ((¬ nI b = nI p ∧ aAsk s (s (wi p k + 0)) b ≤ 99 ∧ aRea s p k b (aAsk s (s (wi p k + 0)) b) = 0) ∧ (f = -5 ∨ aAsk s (s (wi p k + 0)) b ≤ f - f / 100 * 100)))] at h9; exact h9)
          | (rw [if_neg ((fun h => h_65 h.1.2.2) : ¬ ((¬ nI b = nI p ∧ aAsk s (s (wi p k + 0)) b ≤ 99 ∧ aRea s p k b (aAsk s (s (wi p k + 0)) b) = 0) ∧ (f = -5 ∨ aAsk s (s (wi p k + 0)) b ≤ f - f / 100 * 100)))] at h9; exact h9)
          | (rw [if_neg ((fun h => Int32.not_lt.mpr h.1.2.1 h_52) : ¬ ((¬ nI b = nI p ∧ aAsk s (s (wi p k + 0)) b ≤ 99 ∧ aRea s p k b (aAsk s (s (wi p k + 0)) b) = 0) ∧ (f = -5 ∨ aAsk s (s (wi p k + 0)) b ≤ f - f / 100 * 100)))] at h9; exact h9)
          | (rw [if_neg ((fun h => h.1.1 h_45) : ¬ ((¬ nI b = nI p ∧ aAsk s (s (wi p k + 0)) b ≤ 99 ∧ aRea s p k b (aAsk s (s (wi p k + 0)) b) = 0) ∧ (f = -5 ∨ aAsk s (s (wi p k + 0)) b ≤ f - f / 100 * 100)))] at h9; exact h9)
      · refine V_iload (i := 5) rfl dX8_cheapest_86 rfl ?_
        refine V_iload_n (i := 3) rfl rfl dX8_cheapest_88 rfl ?_
        refine V_bipush (v := 100) (by decide) dX8_cheapest_89 rfl ?_
        refine V_irem (by decide) dX8_cheapest_91 rfl ?_
        refine V_icmp_gt (tgt := 106) dX8_cheapest_92 (by decide) rfl (fun h_92 => ?_) (fun h_92 => ?_)
        · refine V_iload_n (i := 3) rfl rfl dX8_cheapest_106 rfl ?_
          refine V_istore_n (i := 3) rfl (by decide) rfl dX8_cheapest_107 rfl ?_
          refine V_iincm (i := 4) rfl (by decide) rfl dX8_cheapest_108 rfl ?_
          refine V_goto (tgt := 17) dX8_cheapest_111 (by decide) ?_
          refine V_forget 5 rfl ?_
          refine V_forget 6 rfl ?_
          have h9 := kk
          unfold aChS at h9
          first
            | exact absurd rfl h_77
            | exact absurd h_77 (by decide)
            | (rw [if_pos (⟨⟨h_45, Int32.not_lt.mp h_52, h_65⟩, Or.inl h_83⟩ : (¬ nI b = nI p ∧ aAsk s (s (wi p k + 0)) b ≤ 99 ∧ aRea s p k b (aAsk s (s (wi p k + 0)) b) = 0) ∧ (f = -5 ∨ aAsk s (s (wi p k + 0)) b ≤ f - f / 100 * 100))] at h9; exact h9)
            | (rw [if_pos (⟨⟨h_45, Int32.not_lt.mp h_52, h_65⟩, Or.inr (Int32.not_lt.mp h_92)⟩ : (¬ nI b = nI p ∧ aAsk s (s (wi p k + 0)) b ≤ 99 ∧ aRea s p k b (aAsk s (s (wi p k + 0)) b) = 0) ∧ (f = -5 ∨ aAsk s (s (wi p k + 0)) b ≤ f - f / 100 * 100))] at h9; exact h9)
            | (rw [if_neg ((fun h => h.2.elim h_83 (fun h2 => Int32.not_lt.mpr h2 h_92)) : ¬ ((¬ nI b = nI p ∧ aAsk s (s (wi p k + 0)) b ≤ 99 ∧ aRea s p k b (aAsk s (s (wi p k + 0)) b) = 0) ∧ (f = -5 ∨ aAsk s (s (wi p k + 0)) b ≤ f - f / 100 * 100)))] at h9; exact h9)
            | (rw [if_neg ((fun h => h_65 h.1.2.2) : ¬ ((¬ nI b = nI p ∧ aAsk s (s (wi p k + 0)) b ≤ 99 ∧ aRea s p k b (aAsk s (s (wi p k + 0)) b) = 0) ∧ (f = -5 ∨ aAsk s (s (wi p k + 0)) b ≤ f - f / 100 * 100)))] at h9; exact h9)
            | (rw [if_neg ((fun h => Int32.not_lt.mpr h.1.2.1 h_52) : ¬ ((¬ nI b = nI p ∧ aAsk s (s (wi p k + 0)) b ≤ 99 ∧ aRea s p k b (aAsk s (s (wi p k + 0)) b) = 0) ∧ (f = -5 ∨ aAsk s (s (wi p k + 0)) b ≤ f - f / 100 * 100)))] at h9; exact h9)
            | (rw [if_neg ((fun h => h.1.1 h_45) : ¬ ((¬ nI b = nI p ∧ aAsk s (s (wi p k + 0)) b ≤ 99 ∧ aRea s p k b (aAsk s (s (wi p k + 0)) b) = 0) ∧ (f = -5 ∨ aAsk s (s (wi p k + 0)) b ≤ f - f / 100 * 100)))] at h9; exact h9)
        · refine V_bipush (v := 100) (by decide) dX8_cheapest_95 rfl ?_
          refine V_iload (i := 4) rfl dX8_cheapest_97 rfl ?_
          refine V_imul dX8_cheapest_99 rfl ?_
          refine V_iload (i := 5) rfl dX8_cheapest_100 rfl ?_
          refine V_iadd dX8_cheapest_102 rfl ?_
          refine V_goto (tgt := 107) dX8_cheapest_103 (by decide) ?_
          refine V_istore_n (i := 3) rfl (by decide) rfl dX8_cheapest_107 rfl ?_
          refine V_iincm (i := 4) rfl (by decide) rfl dX8_cheapest_108 rfl ?_
          refine V_goto (tgt := 17) dX8_cheapest_111 (by decide) ?_
          refine V_forget 5 rfl ?_
          refine V_forget 6 rfl ?_
          have h9 := kk
          unfold aChS at h9
          first
            | exact absurd rfl h_77
            | exact absurd h_77 (by decide)
            | (rw [if_pos (⟨⟨h_45, Int32.not_lt.mp h_52, h_65⟩, Or.inl h_83⟩ : (¬ nI b = nI p ∧ aAsk s (s (wi p k + 0)) b ≤ 99 ∧ aRea s p k b (aAsk s (s (wi p k + 0)) b) = 0) ∧ (f = -5 ∨ aAsk s (s (wi p k + 0)) b ≤ f - f / 100 * 100))] at h9; exact h9)
            | (rw [if_pos (⟨⟨h_45, Int32.not_lt.mp h_52, h_65⟩, Or.inr (Int32.not_lt.mp h_92)⟩ : (¬ nI b = nI p ∧ aAsk s (s (wi p k + 0)) b ≤ 99 ∧ aRea s p k b (aAsk s (s (wi p k + 0)) b) = 0) ∧ (f = -5 ∨ aAsk s (s (wi p k + 0)) b ≤ f - f / 100 * 100))] at h9; exact h9)
            | (rw [if_neg ((fun h => h.2.elim h_83 (fun h2 => Int32.not_lt.mpr h2 h_92)) : ¬ ((¬ nI b = nI p ∧ aAsk s (s (wi p k + 0)) b ≤ 99 ∧ aRea s p k b (aAsk s (s (wi p k + 0)) b) = 0) ∧ (f = -5 ∨ aAsk s (s (wi p k + 0)) b ≤ f - f / 100 * 100)))] at h9; exact h9)
            | (rw [if_neg ((fun h => h_65 h.1.2.2) : ¬ ((¬ nI b = nI p ∧ aAsk s (s (wi p k + 0)) b ≤ 99 ∧ aRea s p k b (aAsk s (s (wi p k + 0)) b) = 0) ∧ (f = -5 ∨ aAsk s (s (wi p k + 0)) b ≤ f - f / 100 * 100)))] at h9; exact h9)
            | (rw [if_neg ((fun h => Int32.not_lt.mpr h.1.2.1 h_52) : ¬ ((¬ nI b = nI p ∧ aAsk s (s (wi p k + 0)) b ≤ 99 ∧ aRea s p k b (aAsk s (s (wi p k + 0)) b) = 0) ∧ (f = -5 ∨ aAsk s (s (wi p k + 0)) b ≤ f - f / 100 * 100)))] at h9; exact h9)
            | (rw [if_neg ((fun h => h.1.1 h_45) : ¬ ((¬ nI b = nI p ∧ aAsk s (s (wi p k + 0)) b ≤ 99 ∧ aRea s p k b (aAsk s (s (wi p k + 0)) b) = 0) ∧ (f = -5 ∨ aAsk s (s (wi p k + 0)) b ≤ f - f / 100 * 100)))] at h9; exact h9)
  · refine V_iload (i := 5) rfl dX8_cheapest_48 rfl ?_
    refine V_bipush (v := 99) (by decide) dX8_cheapest_50 rfl ?_
    refine V_icmp_gt (tgt := 72) dX8_cheapest_52 (by decide) rfl (fun h_52 => ?_) (fun h_52 => ?_)
    · refine V_iconst (v := 0) (by decide) dX8_cheapest_72 rfl ?_
      refine V_istore (i := 6) (by decide) rfl dX8_cheapest_73 rfl ?_
      refine V_iload (i := 6) rfl dX8_cheapest_75 rfl ?_
      refine V_if_eq (tgt := 106) dX8_cheapest_77 (by decide) rfl (fun h_77 => ?_) (fun h_77 => ?_)
      · refine V_iload_n (i := 3) rfl rfl dX8_cheapest_106 rfl ?_
        refine V_istore_n (i := 3) rfl (by decide) rfl dX8_cheapest_107 rfl ?_
        refine V_iincm (i := 4) rfl (by decide) rfl dX8_cheapest_108 rfl ?_
        refine V_goto (tgt := 17) dX8_cheapest_111 (by decide) ?_
        refine V_forget 5 rfl ?_
        refine V_forget 6 rfl ?_
        have h9 := kk
        unfold aChS at h9
        first
          | exact absurd rfl h_77
          | exact absurd h_77 (by decide)
          | (rw [if_pos (⟨⟨h_45, Int32.not_lt.mp h_52, h_65⟩, Or.inl h_83⟩ : (¬ nI b = nI p ∧ aAsk s (s (wi p k + 0)) b ≤ 99 ∧ aRea s p k b (aAsk s (s (wi p k + 0)) b) = 0) ∧ (f = -5 ∨ aAsk s (s (wi p k + 0)) b ≤ f - f / 100 * 100))] at h9; exact h9)
          | (rw [if_pos (⟨⟨h_45, Int32.not_lt.mp h_52, h_65⟩, Or.inr (Int32.not_lt.mp h_92)⟩ : (¬ nI b = nI p ∧ aAsk s (s (wi p k + 0)) b ≤ 99 ∧ aRea s p k b (aAsk s (s (wi p k + 0)) b) = 0) ∧ (f = -5 ∨ aAsk s (s (wi p k + 0)) b ≤ f - f / 100 * 100))] at h9; exact h9)
          | (rw [if_neg ((fun h => h.2.elim h_83 (fun h2 => Int32.not_lt.mpr h2 h_92)) : ¬ ((¬ nI b = nI p ∧ aAsk s (s (wi p k + 0)) b ≤ 99 ∧ aRea s p k b (aAsk s (s (wi p k + 0)) b) = 0) ∧ (f = -5 ∨ aAsk s (s (wi p k + 0)) b ≤ f - f / 100 * 100)))] at h9; exact h9)
          | (rw [if_neg ((fun h => h_65 h.1.2.2) : ¬ ((¬ nI b = nI p ∧ aAsk s (s (wi p k + 0)) b ≤ 99 ∧ aRea s p k b (aAsk s (s (wi p k + 0)) b) = 0) ∧ (f = -5 ∨ aAsk s (s (wi p k + 0)) b ≤ f - f / 100 * 100)))] at h9; exact h9)
          | (rw [if_neg ((fun h => Int32.not_lt.mpr h.1.2.1 h_52) : ¬ ((¬ nI b = nI p ∧ aAsk s (s (wi p k + 0)) b ≤ 99 ∧ aRea s p k b (aAsk s (s (wi p k + 0)) b) = 0) ∧ (f = -5 ∨ aAsk s (s (wi p k + 0)) b ≤ f - f / 100 * 100)))] at h9; exact h9)
          | (rw [if_neg ((fun h => h.1.1 h_45) : ¬ ((¬ nI b = nI p ∧ aAsk s (s (wi p k + 0)) b ≤ 99 ∧ aRea s p k b (aAsk s (s (wi p k + 0)) b) = 0) ∧ (f = -5 ∨ aAsk s (s (wi p k + 0)) b ≤ f - f / 100 * 100)))] at h9; exact h9)
      · refine V_iload_n (i := 3) rfl rfl dX8_cheapest_80 rfl ?_
        refine V_bipush (v := (-5)) (by decide) dX8_cheapest_81 rfl ?_
        refine V_icmp_eq (tgt := 95) dX8_cheapest_83 (by decide) rfl (fun h_83 => ?_) (fun h_83 => ?_)
        · refine V_bipush (v := 100) (by decide) dX8_cheapest_95 rfl ?_
          refine V_iload (i := 4) rfl dX8_cheapest_97 rfl ?_
          refine V_imul dX8_cheapest_99 rfl ?_
          refine V_iload (i := 5) rfl dX8_cheapest_100 rfl ?_
          refine V_iadd dX8_cheapest_102 rfl ?_
          refine V_goto (tgt := 107) dX8_cheapest_103 (by decide) ?_
          refine V_istore_n (i := 3) rfl (by decide) rfl dX8_cheapest_107 rfl ?_
          refine V_iincm (i := 4) rfl (by decide) rfl dX8_cheapest_108 rfl ?_
          refine V_goto (tgt := 17) dX8_cheapest_111 (by decide) ?_
          refine V_forget 5 rfl ?_
          refine V_forget 6 rfl ?_
          have h9 := kk
          unfold aChS at h9
          first
            | exact absurd rfl h_77
            | exact absurd h_77 (by decide)
            | (rw [if_pos (⟨⟨h_45, Int32.not_lt.mp h_52, h_65⟩, Or.inl h_83⟩ : (¬ nI b = nI p ∧ aAsk s (s (wi p k + 0)) b ≤ 99 ∧ aRea s p k b (aAsk s (s (wi p k + 0)) b) = 0) ∧ (f = -5 ∨ aAsk s (s (wi p k + 0)) b ≤ f - f / 100 * 100))] at h9; exact h9)
            | (rw [if_pos (⟨⟨h_45, Int32.not_lt.mp h_52, h_65⟩, Or.inr (Int32.not_lt.mp h_92)⟩ : (¬ nI b = nI p ∧ aAsk s (s (wi p k + 0)) b ≤ 99 ∧ aRea s p k b (aAsk s (s (wi p k + 0)) b) = 0) ∧ (f = -5 ∨ aAsk s (s (wi p k + 0)) b ≤ f - f / 100 * 100))] at h9; exact h9)
            | (rw [if_neg ((fun h => h.2.elim h_83 (fun h2 => Int32.not_lt.mpr h2 h_92)) : ¬ ((¬ nI b = nI p ∧ aAsk s (s (wi p k + 0)) b ≤ 99 ∧ aRea s p k b (aAsk s (s (wi p k + 0)) b) = 0) ∧ (f = -5 ∨ aAsk s (s (wi p k + 0)) b ≤ f - f / 100 * 100)))] at h9; exact h9)
            | (rw [if_neg ((fun h => h_65 h.1.2.2) : ¬ ((¬ nI b = nI p ∧ aAsk s (s (wi p k + 0)) b ≤ 99 ∧ aRea s p k b (aAsk s (s (wi p k + 0)) b) = 0) ∧ (f = -5 ∨ aAsk s (s (wi p k + 0)) b ≤ f - f / 100 * 100)))] at h9; exact h9)
            | (rw [if_neg ((fun h => Int32.not_lt.mpr h.1.2.1 h_52) : ¬ ((¬ nI b = nI p ∧ aAsk s (s (wi p k + 0)) b ≤ 99 ∧ aRea s p k b (aAsk s (s (wi p k + 0)) b) = 0) ∧ (f = -5 ∨ aAsk s (s (wi p k + 0)) b ≤ f - f / 100 * 100)))] at h9; exact h9)
            | (rw [if_neg ((fun h => h.1.1 h_45) : ¬ ((¬ nI b = nI p ∧ aAsk s (s (wi p k + 0)) b ≤ 99 ∧ aRea s p k b (aAsk s (s (wi p k + 0)) b) = 0) ∧ (f = -5 ∨ aAsk s (s (wi p k + 0)) b ≤ f - f / 100 * 100)))] at h9; exact h9)
        · refine V_iload (i := 5) rfl dX8_cheapest_86 rfl ?_
          refine V_iload_n (i := 3) rfl rfl dX8_cheapest_88 rfl ?_
          refine V_bipush (v := 100) (by decide) dX8_cheapest_89 rfl ?_
          refine V_irem (by decide) dX8_cheapest_91 rfl ?_
          refine V_icmp_gt (tgt := 106) dX8_cheapest_92 (by decide) rfl (fun h_92 => ?_) (fun h_92 => ?_)
          · refine V_iload_n (i := 3) rfl rfl dX8_cheapest_106 rfl ?_
            refine V_istore_n (i := 3) rfl (by decide) rfl dX8_cheapest_107 rfl ?_
            refine V_iincm (i := 4) rfl (by decide) rfl dX8_cheapest_108 rfl ?_
            refine V_goto (tgt := 17) dX8_cheapest_111 (by decide) ?_
            refine V_forget 5 rfl ?_
            refine V_forget 6 rfl ?_
            have h9 := kk
            unfold aChS at h9
            first
              | exact absurd rfl h_77
              | exact absurd h_77 (by decide)
              | (rw [if_pos (⟨⟨h_45, Int32.not_lt.mp h_52, h_65⟩, Or.inl h_83⟩ : (¬ nI b = nI p ∧ aAsk s (s (wi p k + 0)) b ≤ 99 ∧ aRea s p k b (aAsk s (s (wi p k + 0)) b) = 0) ∧ (f = -5 ∨ aAsk s (s (wi p k + 0)) b ≤ f - f / 100 * 100))] at h9; exact h9)
              | (rw [if_pos (⟨⟨h_45, Int32.not_lt.mp h_52, h_65⟩, Or.inr (Int32.not_lt.mp h_92)⟩ : (¬ nI b = nI p ∧ aAsk s (s (wi p k + 0)) b ≤ 99 ∧ aRea s p k b (aAsk s (s (wi p k + 0)) b) = 0) ∧ (f = -5 ∨ aAsk s (s (wi p k + 0)) b ≤ f - f / 100 * 100))] at h9; exact h9)
              | (rw [if_neg ((fun h => h.2.elim h_83 (fun h2 => Int32.not_lt.mpr h2 h_92)) : ¬ ((¬ nI b = nI p ∧ aAsk s (s (wi p k + 0)) b ≤ 99 ∧ aRea s p k b (aAsk s (s (wi p k + 0)) b) = 0) ∧ (f = -5 ∨ aAsk s (s (wi p k + 0)) b ≤ f - f / 100 * 100)))] at h9; exact h9)
              | (rw [if_neg ((fun h => h_65 h.1.2.2) : ¬ ((¬ nI b = nI p ∧ aAsk s (s (wi p k + 0)) b ≤ 99 ∧ aRea s p k b (aAsk s (s (wi p k + 0)) b) = 0) ∧ (f = -5 ∨ aAsk s (s (wi p k + 0)) b ≤ f - f / 100 * 100)))] at h9; exact h9)
              | (rw [if_neg ((fun h => Int32.not_lt.mpr h.1.2.1 h_52) : ¬ ((¬ nI b = nI p ∧ aAsk s (s (wi p k + 0)) b ≤ 99 ∧ aRea s p k b (aAsk s (s (wi p k + 0)) b) = 0) ∧ (f = -5 ∨ aAsk s (s (wi p k + 0)) b ≤ f - f / 100 * 100)))] at h9; exact h9)
              | (rw [if_neg ((fun h => h.1.1 h_45) : ¬ ((¬ nI b = nI p ∧ aAsk s (s (wi p k + 0)) b ≤ 99 ∧ aRea s p k b (aAsk s (s (wi p k + 0)) b) = 0) ∧ (f = -5 ∨ aAsk s (s (wi p k + 0)) b ≤ f - f / 100 * 100)))] at h9; exact h9)
          · refine V_bipush (v := 100) (by decide) dX8_cheapest_95 rfl ?_
            refine V_iload (i := 4) rfl dX8_cheapest_97 rfl ?_
            refine V_imul dX8_cheapest_99 rfl ?_
            refine V_iload (i := 5) rfl dX8_cheapest_100 rfl ?_
            refine V_iadd dX8_cheapest_102 rfl ?_
            refine V_goto (tgt := 107) dX8_cheapest_103 (by decide) ?_
            refine V_istore_n (i := 3) rfl (by decide) rfl dX8_cheapest_107 rfl ?_
            refine V_iincm (i := 4) rfl (by decide) rfl dX8_cheapest_108 rfl ?_
            refine V_goto (tgt := 17) dX8_cheapest_111 (by decide) ?_
            refine V_forget 5 rfl ?_
            refine V_forget 6 rfl ?_
            have h9 := kk
            unfold aChS at h9
            first
              | exact absurd rfl h_77
              | exact absurd h_77 (by decide)
              | (rw [if_pos (⟨⟨h_45, Int32.not_lt.mp h_52, h_65⟩, Or.inl h_83⟩ : (¬ nI b = nI p ∧ aAsk s (s (wi p k + 0)) b ≤ 99 ∧ aRea s p k b (aAsk s (s (wi p k + 0)) b) = 0) ∧ (f = -5 ∨ aAsk s (s (wi p k + 0)) b ≤ f - f / 100 * 100))] at h9; exact h9)
              | (rw [if_pos (⟨⟨h_45, Int32.not_lt.mp h_52, h_65⟩, Or.inr (Int32.not_lt.mp h_92)⟩ : (¬ nI b = nI p ∧ aAsk s (s (wi p k + 0)) b ≤ 99 ∧ aRea s p k b (aAsk s (s (wi p k + 0)) b) = 0) ∧ (f = -5 ∨ aAsk s (s (wi p k + 0)) b ≤ f - f / 100 * 100))] at h9; exact h9)
              | (rw [if_neg ((fun h => h.2.elim h_83 (fun h2 => Int32.not_lt.mpr h2 h_92)) : ¬ ((¬ nI b = nI p ∧ aAsk s (s (wi p k + 0)) b ≤ 99 ∧ aRea s p k b (aAsk s (s (wi p k + 0)) b) = 0) ∧ (f = -5 ∨ aAsk s (s (wi p k + 0)) b ≤ f - f / 100 * 100)))] at h9; exact h9)
              | (rw [if_neg ((fun h => h_65 h.1.2.2) : ¬ ((¬ nI b = nI p ∧ aAsk s (s (wi p k + 0)) b ≤ 99 ∧ aRea s p k b (aAsk s (s (wi p k + 0)) b) = 0) ∧ (f = -5 ∨ aAsk s (s (wi p k + 0)) b ≤ f - f / 100 * 100)))] at h9; exact h9)
              | (rw [if_neg ((fun h => Int32.not_lt.mpr h.1.2.1 h_52) : ¬ ((¬ nI b = nI p ∧ aAsk s (s (wi p k + 0)) b ≤ 99 ∧ aRea s p k b (aAsk s (s (wi p k + 0)) b) = 0) ∧ (f = -5 ∨ aAsk s (s (wi p k + 0)) b ≤ f - f / 100 * 100)))] at h9; exact h9)
              | (rw [if_neg ((fun h => h.1.1 h_45) : ¬ ((¬ nI b = nI p ∧ aAsk s (s (wi p k + 0)) b ≤ 99 ∧ aRea s p k b (aAsk s (s (wi p k + 0)) b) = 0) ∧ (f = -5 ∨ aAsk s (s (wi p k + 0)) b ≤ f - f / 100 * 100)))] at h9; exact h9)
    · refine V_aload_n (i := 0) rfl rfl dX8_cheapest_55 rfl ?_
      refine V_iload_n (i := 1) rfl rfl dX8_cheapest_56 rfl ?_
      refine V_iload_n (i := 2) rfl rfl dX8_cheapest_57 rfl ?_
      refine V_iload (i := 4) rfl dX8_cheapest_58 rfl ?_
      refine V_iload (i := 5) rfl dX8_cheapest_60 rfl ?_
      refine V_call (n := 4) (sp_reason l g hM hp hk hb (aAsk s (s (wi p k + 0)) b)) o_X8_reason m_X8_133 ⟨by decide, by decide⟩ (by assumption) rfl rfl (by first | exact Nat.le_of_ble_eq_true rfl | simp [Value.category]) (Nat.le_refl _) (Nat.le_refl _) rfl dX8_cheapest_62 rfl (kI ?_)
      refine V_if_ne (tgt := 72) dX8_cheapest_65 (by decide) rfl (fun h_65 => ?_) (fun h_65 => ?_)
      · refine V_iconst (v := 0) (by decide) dX8_cheapest_72 rfl ?_
        refine V_istore (i := 6) (by decide) rfl dX8_cheapest_73 rfl ?_
        refine V_iload (i := 6) rfl dX8_cheapest_75 rfl ?_
        refine V_if_eq (tgt := 106) dX8_cheapest_77 (by decide) rfl (fun h_77 => ?_) (fun h_77 => ?_)
        · refine V_iload_n (i := 3) rfl rfl dX8_cheapest_106 rfl ?_
          refine V_istore_n (i := 3) rfl (by decide) rfl dX8_cheapest_107 rfl ?_
          refine V_iincm (i := 4) rfl (by decide) rfl dX8_cheapest_108 rfl ?_
          refine V_goto (tgt := 17) dX8_cheapest_111 (by decide) ?_
          refine V_forget 5 rfl ?_
          refine V_forget 6 rfl ?_
          have h9 := kk
          unfold aChS at h9
          first
            | exact absurd rfl h_77
            | exact absurd h_77 (by decide)
            | (rw [if_pos (⟨⟨h_45, Int32.not_lt.mp h_52, h_65⟩, Or.inl h_83⟩ : (¬ nI b = nI p ∧ aAsk s (s (wi p k + 0)) b ≤ 99 ∧ aRea s p k b (aAsk s (s (wi p k + 0)) b) = 0) ∧ (f = -5 ∨ aAsk s (s (wi p k + 0)) b ≤ f - f / 100 * 100))] at h9; exact h9)
            | (rw [if_pos (⟨⟨h_45, Int32.not_lt.mp h_52, h_65⟩, Or.inr (Int32.not_lt.mp h_92)⟩ : (¬ nI b = nI p ∧ aAsk s (s (wi p k + 0)) b ≤ 99 ∧ aRea s p k b (aAsk s (s (wi p k + 0)) b) = 0) ∧ (f = -5 ∨ aAsk s (s (wi p k + 0)) b ≤ f - f / 100 * 100))] at h9; exact h9)
            | (rw [if_neg ((fun h => h.2.elim h_83 (fun h2 => Int32.not_lt.mpr h2 h_92)) : ¬ ((¬ nI b = nI p ∧ aAsk s (s (wi p k + 0)) b ≤ 99 ∧ aRea s p k b (aAsk s (s (wi p k + 0)) b) = 0) ∧ (f = -5 ∨ aAsk s (s (wi p k + 0)) b ≤ f - f / 100 * 100)))] at h9; exact h9)
            | (rw [if_neg ((fun h => h_65 h.1.2.2) : ¬ ((¬ nI b = nI p ∧ aAsk s (s (wi p k + 0)) b ≤ 99 ∧ aRea s p k b (aAsk s (s (wi p k + 0)) b) = 0) ∧ (f = -5 ∨ aAsk s (s (wi p k + 0)) b ≤ f - f / 100 * 100)))] at h9; exact h9)
            | (rw [if_neg ((fun h => Int32.not_lt.mpr h.1.2.1 h_52) : ¬ ((¬ nI b = nI p ∧ aAsk s (s (wi p k + 0)) b ≤ 99 ∧ aRea s p k b (aAsk s (s (wi p k + 0)) b) = 0) ∧ (f = -5 ∨ aAsk s (s (wi p k + 0)) b ≤ f - f / 100 * 100)))] at h9; exact h9)
            | (rw [if_neg ((fun h => h.1.1 h_45) : ¬ ((¬ nI b = nI p ∧ aAsk s (s (wi p k + 0)) b ≤ 99 ∧ aRea s p k b (aAsk s (s (wi p k + 0)) b) = 0) ∧ (f = -5 ∨ aAsk s (s (wi p k + 0)) b ≤ f - f / 100 * 100)))] at h9; exact h9)
        · refine V_iload_n (i := 3) rfl rfl dX8_cheapest_80 rfl ?_
          refine V_bipush (v := (-5)) (by decide) dX8_cheapest_81 rfl ?_
          refine V_icmp_eq (tgt := 95) dX8_cheapest_83 (by decide) rfl (fun h_83 => ?_) (fun h_83 => ?_)
          · refine V_bipush (v := 100) (by decide) dX8_cheapest_95 rfl ?_
            refine V_iload (i := 4) rfl dX8_cheapest_97 rfl ?_
            refine V_imul dX8_cheapest_99 rfl ?_
            refine V_iload (i := 5) rfl dX8_cheapest_100 rfl ?_
            refine V_iadd dX8_cheapest_102 rfl ?_
            refine V_goto (tgt := 107) dX8_cheapest_103 (by decide) ?_
            refine V_istore_n (i := 3) rfl (by decide) rfl dX8_cheapest_107 rfl ?_
            refine V_iincm (i := 4) rfl (by decide) rfl dX8_cheapest_108 rfl ?_
            refine V_goto (tgt := 17) dX8_cheapest_111 (by decide) ?_
            refine V_forget 5 rfl ?_
            refine V_forget 6 rfl ?_
            have h9 := kk
            unfold aChS at h9
            first
              | exact absurd rfl h_77
              | exact absurd h_77 (by decide)
              | (rw [if_pos (⟨⟨h_45, Int32.not_lt.mp h_52, h_65⟩, Or.inl h_83⟩ : (¬ nI b = nI p ∧ aAsk s (s (wi p k + 0)) b ≤ 99 ∧ aRea s p k b (aAsk s (s (wi p k + 0)) b) = 0) ∧ (f = -5 ∨ aAsk s (s (wi p k + 0)) b ≤ f - f / 100 * 100))] at h9; exact h9)
              | (rw [if_pos (⟨⟨h_45, Int32.not_lt.mp h_52, h_65⟩, Or.inr (Int32.not_lt.mp h_92)⟩ : (¬ nI b = nI p ∧ aAsk s (s (wi p k + 0)) b ≤ 99 ∧ aRea s p k b (aAsk s (s (wi p k + 0)) b) = 0) ∧ (f = -5 ∨ aAsk s (s (wi p k + 0)) b ≤ f - f / 100 * 100))] at h9; exact h9)
              | (rw [if_neg ((fun h => h.2.elim h_83 (fun h2 => Int32.not_lt.mpr h2 h_92)) : ¬ ((¬ nI b = nI p ∧ aAsk s (s (wi p k + 0)) b ≤ 99 ∧ aRea s p k b (aAsk s (s (wi p k + 0)) b) = 0) ∧ (f = -5 ∨ aAsk s (s (wi p k + 0)) b ≤ f - f / 100 * 100)))] at h9; exact h9)
              | (rw [if_neg ((fun h => h_65 h.1.2.2) : ¬ ((¬ nI b = nI p ∧ aAsk s (s (wi p k + 0)) b ≤ 99 ∧ aRea s p k b (aAsk s (s (wi p k + 0)) b) = 0) ∧ (f = -5 ∨ aAsk s (s (wi p k + 0)) b ≤ f - f / 100 * 100)))] at h9; exact h9)
              | (rw [if_neg ((fun h => Int32.not_lt.mpr h.1.2.1 h_52) : ¬ ((¬ nI b = nI p ∧ aAsk s (s (wi p k + 0)) b ≤ 99 ∧ aRea s p k b (aAsk s (s (wi p k + 0)) b) = 0) ∧ (f = -5 ∨ aAsk s (s (wi p k + 0)) b ≤ f - f / 100 * 100)))] at h9; exact h9)
              | (rw [if_neg ((fun h => h.1.1 h_45) : ¬ ((¬ nI b = nI p ∧ aAsk s (s (wi p k + 0)) b ≤ 99 ∧ aRea s p k b (aAsk s (s (wi p k + 0)) b) = 0) ∧ (f = -5 ∨ aAsk s (s (wi p k + 0)) b ≤ f - f / 100 * 100)))] at h9; exact h9)
          · refine V_iload (i := 5) rfl dX8_cheapest_86 rfl ?_
            refine V_iload_n (i := 3) rfl rfl dX8_cheapest_88 rfl ?_
            refine V_bipush (v := 100) (by decide) dX8_cheapest_89 rfl ?_
            refine V_irem (by decide) dX8_cheapest_91 rfl ?_
            refine V_icmp_gt (tgt := 106) dX8_cheapest_92 (by decide) rfl (fun h_92 => ?_) (fun h_92 => ?_)
            · refine V_iload_n (i := 3) rfl rfl dX8_cheapest_106 rfl ?_
              refine V_istore_n (i := 3) rfl (by decide) rfl dX8_cheapest_107 rfl ?_
              refine V_iincm (i := 4) rfl (by decide) rfl dX8_cheapest_108 rfl ?_
              refine V_goto (tgt := 17) dX8_cheapest_111 (by decide) ?_
              refine V_forget 5 rfl ?_
              refine V_forget 6 rfl ?_
              have h9 := kk
              unfold aChS at h9
              first
                | exact absurd rfl h_77
                | exact absurd h_77 (by decide)
                | (rw [if_pos (⟨⟨h_45, Int32.not_lt.mp h_52, h_65⟩, Or.inl h_83⟩ : (¬ nI b = nI p ∧ aAsk s (s (wi p k + 0)) b ≤ 99 ∧ aRea s p k b (aAsk s (s (wi p k + 0)) b) = 0) ∧ (f = -5 ∨ aAsk s (s (wi p k + 0)) b ≤ f - f / 100 * 100))] at h9; exact h9)
                | (rw [if_pos (⟨⟨h_45, Int32.not_lt.mp h_52, h_65⟩, Or.inr (Int32.not_lt.mp h_92)⟩ : (¬ nI b = nI p ∧ aAsk s (s (wi p k + 0)) b ≤ 99 ∧ aRea s p k b (aAsk s (s (wi p k + 0)) b) = 0) ∧ (f = -5 ∨ aAsk s (s (wi p k + 0)) b ≤ f - f / 100 * 100))] at h9; exact h9)
                | (rw [if_neg ((fun h => h.2.elim h_83 (fun h2 => Int32.not_lt.mpr h2 h_92)) : ¬ ((¬ nI b = nI p ∧ aAsk s (s (wi p k + 0)) b ≤ 99 ∧ aRea s p k b (aAsk s (s (wi p k + 0)) b) = 0) ∧ (f = -5 ∨ aAsk s (s (wi p k + 0)) b ≤ f - f / 100 * 100)))] at h9; exact h9)
                | (rw [if_neg ((fun h => h_65 h.1.2.2) : ¬ ((¬ nI b = nI p ∧ aAsk s (s (wi p k + 0)) b ≤ 99 ∧ aRea s p k b (aAsk s (s (wi p k + 0)) b) = 0) ∧ (f = -5 ∨ aAsk s (s (wi p k + 0)) b ≤ f - f / 100 * 100)))] at h9; exact h9)
                | (rw [if_neg ((fun h => Int32.not_lt.mpr h.1.2.1 h_52) : ¬ ((¬ nI b = nI p ∧ aAsk s (s (wi p k + 0)) b ≤ 99 ∧ aRea s p k b (aAsk s (s (wi p k + 0)) b) = 0) ∧ (f = -5 ∨ aAsk s (s (wi p k + 0)) b ≤ f - f / 100 * 100)))] at h9; exact h9)
                | (rw [if_neg ((fun h => h.1.1 h_45) : ¬ ((¬ nI b = nI p ∧ aAsk s (s (wi p k + 0)) b ≤ 99 ∧ aRea s p k b (aAsk s (s (wi p k + 0)) b) = 0) ∧ (f = -5 ∨ aAsk s (s (wi p k + 0)) b ≤ f - f / 100 * 100)))] at h9; exact h9)
            · refine V_bipush (v := 100) (by decide) dX8_cheapest_95 rfl ?_
              refine V_iload (i := 4) rfl dX8_cheapest_97 rfl ?_
              refine V_imul dX8_cheapest_99 rfl ?_
              refine V_iload (i := 5) rfl dX8_cheapest_100 rfl ?_
              refine V_iadd dX8_cheapest_102 rfl ?_
              refine V_goto (tgt := 107) dX8_cheapest_103 (by decide) ?_
              refine V_istore_n (i := 3) rfl (by decide) rfl dX8_cheapest_107 rfl ?_
              refine V_iincm (i := 4) rfl (by decide) rfl dX8_cheapest_108 rfl ?_
              refine V_goto (tgt := 17) dX8_cheapest_111 (by decide) ?_
              refine V_forget 5 rfl ?_
              refine V_forget 6 rfl ?_
              have h9 := kk
              unfold aChS at h9
              first
                | exact absurd rfl h_77
                | exact absurd h_77 (by decide)
                | (rw [if_pos (⟨⟨h_45, Int32.not_lt.mp h_52, h_65⟩, Or.inl h_83⟩ : (¬ nI b = nI p ∧ aAsk s (s (wi p k + 0)) b ≤ 99 ∧ aRea s p k b (aAsk s (s (wi p k + 0)) b) = 0) ∧ (f = -5 ∨ aAsk s (s (wi p k + 0)) b ≤ f - f / 100 * 100))] at h9; exact h9)
                | (rw [if_pos (⟨⟨h_45, Int32.not_lt.mp h_52, h_65⟩, Or.inr (Int32.not_lt.mp h_92)⟩ : (¬ nI b = nI p ∧ aAsk s (s (wi p k + 0)) b ≤ 99 ∧ aRea s p k b (aAsk s (s (wi p k + 0)) b) = 0) ∧ (f = -5 ∨ aAsk s (s (wi p k + 0)) b ≤ f - f / 100 * 100))] at h9; exact h9)
                | (rw [if_neg ((fun h => h.2.elim h_83 (fun h2 => Int32.not_lt.mpr h2 h_92)) : ¬ ((¬ nI b = nI p ∧ aAsk s (s (wi p k + 0)) b ≤ 99 ∧ aRea s p k b (aAsk s (s (wi p k + 0)) b) = 0) ∧ (f = -5 ∨ aAsk s (s (wi p k + 0)) b ≤ f - f / 100 * 100)))] at h9; exact h9)
                | (rw [if_neg ((fun h => h_65 h.1.2.2) : ¬ ((¬ nI b = nI p ∧ aAsk s (s (wi p k + 0)) b ≤ 99 ∧ aRea s p k b (aAsk s (s (wi p k + 0)) b) = 0) ∧ (f = -5 ∨ aAsk s (s (wi p k + 0)) b ≤ f - f / 100 * 100)))] at h9; exact h9)
                | (rw [if_neg ((fun h => Int32.not_lt.mpr h.1.2.1 h_52) : ¬ ((¬ nI b = nI p ∧ aAsk s (s (wi p k + 0)) b ≤ 99 ∧ aRea s p k b (aAsk s (s (wi p k + 0)) b) = 0) ∧ (f = -5 ∨ aAsk s (s (wi p k + 0)) b ≤ f - f / 100 * 100)))] at h9; exact h9)
                | (rw [if_neg ((fun h => h.1.1 h_45) : ¬ ((¬ nI b = nI p ∧ aAsk s (s (wi p k + 0)) b ≤ 99 ∧ aRea s p k b (aAsk s (s (wi p k + 0)) b) = 0) ∧ (f = -5 ∨ aAsk s (s (wi p k + 0)) b ≤ f - f / 100 * 100)))] at h9; exact h9)
      · refine V_iconst (v := 1) (by decide) dX8_cheapest_68 rfl ?_
        refine V_goto (tgt := 73) dX8_cheapest_69 (by decide) ?_
        refine V_istore (i := 6) (by decide) rfl dX8_cheapest_73 rfl ?_
        refine V_iload (i := 6) rfl dX8_cheapest_75 rfl ?_
        refine V_if_eq (tgt := 106) dX8_cheapest_77 (by decide) rfl (fun h_77 => ?_) (fun h_77 => ?_)
        · refine V_iload_n (i := 3) rfl rfl dX8_cheapest_106 rfl ?_
          refine V_istore_n (i := 3) rfl (by decide) rfl dX8_cheapest_107 rfl ?_
          refine V_iincm (i := 4) rfl (by decide) rfl dX8_cheapest_108 rfl ?_
          refine V_goto (tgt := 17) dX8_cheapest_111 (by decide) ?_
          refine V_forget 5 rfl ?_
          refine V_forget 6 rfl ?_
          have h9 := kk
          unfold aChS at h9
          first
            | exact absurd rfl h_77
            | exact absurd h_77 (by decide)
            | (rw [if_pos (⟨⟨h_45, Int32.not_lt.mp h_52, h_65⟩, Or.inl h_83⟩ : (¬ nI b = nI p ∧ aAsk s (s (wi p k + 0)) b ≤ 99 ∧ aRea s p k b (aAsk s (s (wi p k + 0)) b) = 0) ∧ (f = -5 ∨ aAsk s (s (wi p k + 0)) b ≤ f - f / 100 * 100))] at h9; exact h9)
            | (rw [if_pos (⟨⟨h_45, Int32.not_lt.mp h_52, h_65⟩, Or.inr (Int32.not_lt.mp h_92)⟩ : (¬ nI b = nI p ∧ aAsk s (s (wi p k + 0)) b ≤ 99 ∧ aRea s p k b (aAsk s (s (wi p k + 0)) b) = 0) ∧ (f = -5 ∨ aAsk s (s (wi p k + 0)) b ≤ f - f / 100 * 100))] at h9; exact h9)
            | (rw [if_neg ((fun h => h.2.elim h_83 (fun h2 => Int32.not_lt.mpr h2 h_92)) : ¬ ((¬ nI b = nI p ∧ aAsk s (s (wi p k + 0)) b ≤ 99 ∧ aRea s p k b (aAsk s (s (wi p k + 0)) b) = 0) ∧ (f = -5 ∨ aAsk s (s (wi p k + 0)) b ≤ f - f / 100 * 100)))] at h9; exact h9)
            | (rw [if_neg ((fun h => h_65 h.1.2.2) : ¬ ((¬ nI b = nI p ∧ aAsk s (s (wi p k + 0)) b ≤ 99 ∧ aRea s p k b (aAsk s (s (wi p k + 0)) b) = 0) ∧ (f = -5 ∨ aAsk s (s (wi p k + 0)) b ≤ f - f / 100 * 100)))] at h9; exact h9)
            | (rw [if_neg ((fun h => Int32.not_lt.mpr h.1.2.1 h_52) : ¬ ((¬ nI b = nI p ∧ aAsk s (s (wi p k + 0)) b ≤ 99 ∧ aRea s p k b (aAsk s (s (wi p k + 0)) b) = 0) ∧ (f = -5 ∨ aAsk s (s (wi p k + 0)) b ≤ f - f / 100 * 100)))] at h9; exact h9)
            | (rw [if_neg ((fun h => h.1.1 h_45) : ¬ ((¬ nI b = nI p ∧ aAsk s (s (wi p k + 0)) b ≤ 99 ∧ aRea s p k b (aAsk s (s (wi p k + 0)) b) = 0) ∧ (f = -5 ∨ aAsk s (s (wi p k + 0)) b ≤ f - f / 100 * 100)))] at h9; exact h9)
        · refine V_iload_n (i := 3) rfl rfl dX8_cheapest_80 rfl ?_
          refine V_bipush (v := (-5)) (by decide) dX8_cheapest_81 rfl ?_
          refine V_icmp_eq (tgt := 95) dX8_cheapest_83 (by decide) rfl (fun h_83 => ?_) (fun h_83 => ?_)
          · refine V_bipush (v := 100) (by decide) dX8_cheapest_95 rfl ?_
            refine V_iload (i := 4) rfl dX8_cheapest_97 rfl ?_
            refine V_imul dX8_cheapest_99 rfl ?_
            refine V_iload (i := 5) rfl dX8_cheapest_100 rfl ?_
            refine V_iadd dX8_cheapest_102 rfl ?_
            refine V_goto (tgt := 107) dX8_cheapest_103 (by decide) ?_
            refine V_istore_n (i := 3) rfl (by decide) rfl dX8_cheapest_107 rfl ?_
            refine V_iincm (i := 4) rfl (by decide) rfl dX8_cheapest_108 rfl ?_
            refine V_goto (tgt := 17) dX8_cheapest_111 (by decide) ?_
            refine V_forget 5 rfl ?_
            refine V_forget 6 rfl ?_
            have h9 := kk
            unfold aChS at h9
            first
              | exact absurd rfl h_77
              | exact absurd h_77 (by decide)
              | (rw [if_pos (⟨⟨h_45, Int32.not_lt.mp h_52, h_65⟩, Or.inl h_83⟩ : (¬ nI b = nI p ∧ aAsk s (s (wi p k + 0)) b ≤ 99 ∧ aRea s p k b (aAsk s (s (wi p k + 0)) b) = 0) ∧ (f = -5 ∨ aAsk s (s (wi p k + 0)) b ≤ f - f / 100 * 100))] at h9; exact h9)
              | (rw [if_pos (⟨⟨h_45, Int32.not_lt.mp h_52, h_65⟩, Or.inr (Int32.not_lt.mp h_92)⟩ : (¬ nI b = nI p ∧ aAsk s (s (wi p k + 0)) b ≤ 99 ∧ aRea s p k b (aAsk s (s (wi p k + 0)) b) = 0) ∧ (f = -5 ∨ aAsk s (s (wi p k + 0)) b ≤ f - f / 100 * 100))] at h9; exact h9)
              | (rw [if_neg ((fun h => h.2.elim h_83 (fun h2 => Int32.not_lt.mpr h2 h_92)) : ¬ ((¬ nI b = nI p ∧ aAsk s (s (wi p k + 0)) b ≤ 99 ∧ aRea s p k b (aAsk s (s (wi p k + 0)) b) = 0) ∧ (f = -5 ∨ aAsk s (s (wi p k + 0)) b ≤ f - f / 100 * 100)))] at h9; exact h9)
              | (rw [if_neg ((fun h => h_65 h.1.2.2) : ¬ ((¬ nI b = nI p ∧ aAsk s (s (wi p k + 0)) b ≤ 99 ∧ aRea s p k b (aAsk s (s (wi p k + 0)) b) = 0) ∧ (f = -5 ∨ aAsk s (s (wi p k + 0)) b ≤ f - f / 100 * 100)))] at h9; exact h9)
              | (rw [if_neg ((fun h => Int32.not_lt.mpr h.1.2.1 h_52) : ¬ ((¬ nI b = nI p ∧ aAsk s (s (wi p k + 0)) b ≤ 99 ∧ aRea s p k b (aAsk s (s (wi p k + 0)) b) = 0) ∧ (f = -5 ∨ aAsk s (s (wi p k + 0)) b ≤ f - f / 100 * 100)))] at h9; exact h9)
              | (rw [if_neg ((fun h => h.1.1 h_45) : ¬ ((¬ nI b = nI p ∧ aAsk s (s (wi p k + 0)) b ≤ 99 ∧ aRea s p k b (aAsk s (s (wi p k + 0)) b) = 0) ∧ (f = -5 ∨ aAsk s (s (wi p k + 0)) b ≤ f - f / 100 * 100)))] at h9; exact h9)
          · refine V_iload (i := 5) rfl dX8_cheapest_86 rfl ?_
            refine V_iload_n (i := 3) rfl rfl dX8_cheapest_88 rfl ?_
            refine V_bipush (v := 100) (by decide) dX8_cheapest_89 rfl ?_
            refine V_irem (by decide) dX8_cheapest_91 rfl ?_
            refine V_icmp_gt (tgt := 106) dX8_cheapest_92 (by decide) rfl (fun h_92 => ?_) (fun h_92 => ?_)
            · refine V_iload_n (i := 3) rfl rfl dX8_cheapest_106 rfl ?_
              refine V_istore_n (i := 3) rfl (by decide) rfl dX8_cheapest_107 rfl ?_
              refine V_iincm (i := 4) rfl (by decide) rfl dX8_cheapest_108 rfl ?_
              refine V_goto (tgt := 17) dX8_cheapest_111 (by decide) ?_
              refine V_forget 5 rfl ?_
              refine V_forget 6 rfl ?_
              have h9 := kk
              unfold aChS at h9
              first
                | exact absurd rfl h_77
                | exact absurd h_77 (by decide)
                | (rw [if_pos (⟨⟨h_45, Int32.not_lt.mp h_52, h_65⟩, Or.inl h_83⟩ : (¬ nI b = nI p ∧ aAsk s (s (wi p k + 0)) b ≤ 99 ∧ aRea s p k b (aAsk s (s (wi p k + 0)) b) = 0) ∧ (f = -5 ∨ aAsk s (s (wi p k + 0)) b ≤ f - f / 100 * 100))] at h9; exact h9)
                | (rw [if_pos (⟨⟨h_45, Int32.not_lt.mp h_52, h_65⟩, Or.inr (Int32.not_lt.mp h_92)⟩ : (¬ nI b = nI p ∧ aAsk s (s (wi p k + 0)) b ≤ 99 ∧ aRea s p k b (aAsk s (s (wi p k + 0)) b) = 0) ∧ (f = -5 ∨ aAsk s (s (wi p k + 0)) b ≤ f - f / 100 * 100))] at h9; exact h9)
                | (rw [if_neg ((fun h => h.2.elim h_83 (fun h2 => Int32.not_lt.mpr h2 h_92)) : ¬ ((¬ nI b = nI p ∧ aAsk s (s (wi p k + 0)) b ≤ 99 ∧ aRea s p k b (aAsk s (s (wi p k + 0)) b) = 0) ∧ (f = -5 ∨ aAsk s (s (wi p k + 0)) b ≤ f - f / 100 * 100)))] at h9; exact h9)
                | (rw [if_neg ((fun h => h_65 h.1.2.2) : ¬ ((¬ nI b = nI p ∧ aAsk s (s (wi p k + 0)) b ≤ 99 ∧ aRea s p k b (aAsk s (s (wi p k + 0)) b) = 0) ∧ (f = -5 ∨ aAsk s (s (wi p k + 0)) b ≤ f - f / 100 * 100)))] at h9; exact h9)
                | (rw [if_neg ((fun h => Int32.not_lt.mpr h.1.2.1 h_52) : ¬ ((¬ nI b = nI p ∧ aAsk s (s (wi p k + 0)) b ≤ 99 ∧ aRea s p k b (aAsk s (s (wi p k + 0)) b) = 0) ∧ (f = -5 ∨ aAsk s (s (wi p k + 0)) b ≤ f - f / 100 * 100)))] at h9; exact h9)
                | (rw [if_neg ((fun h => h.1.1 h_45) : ¬ ((¬ nI b = nI p ∧ aAsk s (s (wi p k + 0)) b ≤ 99 ∧ aRea s p k b (aAsk s (s (wi p k + 0)) b) = 0) ∧ (f = -5 ∨ aAsk s (s (wi p k + 0)) b ≤ f - f / 100 * 100)))] at h9; exact h9)
            · refine V_bipush (v := 100) (by decide) dX8_cheapest_95 rfl ?_
              refine V_iload (i := 4) rfl dX8_cheapest_97 rfl ?_
              refine V_imul dX8_cheapest_99 rfl ?_
              refine V_iload (i := 5) rfl dX8_cheapest_100 rfl ?_
              refine V_iadd dX8_cheapest_102 rfl ?_
              refine V_goto (tgt := 107) dX8_cheapest_103 (by decide) ?_
              refine V_istore_n (i := 3) rfl (by decide) rfl dX8_cheapest_107 rfl ?_
              refine V_iincm (i := 4) rfl (by decide) rfl dX8_cheapest_108 rfl ?_
              refine V_goto (tgt := 17) dX8_cheapest_111 (by decide) ?_
              refine V_forget 5 rfl ?_
              refine V_forget 6 rfl ?_
              have h9 := kk
              unfold aChS at h9
              first
                | exact absurd rfl h_77
                | exact absurd h_77 (by decide)
                | (rw [if_pos (⟨⟨h_45, Int32.not_lt.mp h_52, h_65⟩, Or.inl h_83⟩ : (¬ nI b = nI p ∧ aAsk s (s (wi p k + 0)) b ≤ 99 ∧ aRea s p k b (aAsk s (s (wi p k + 0)) b) = 0) ∧ (f = -5 ∨ aAsk s (s (wi p k + 0)) b ≤ f - f / 100 * 100))] at h9; exact h9)
                | (rw [if_pos (⟨⟨h_45, Int32.not_lt.mp h_52, h_65⟩, Or.inr (Int32.not_lt.mp h_92)⟩ : (¬ nI b = nI p ∧ aAsk s (s (wi p k + 0)) b ≤ 99 ∧ aRea s p k b (aAsk s (s (wi p k + 0)) b) = 0) ∧ (f = -5 ∨ aAsk s (s (wi p k + 0)) b ≤ f - f / 100 * 100))] at h9; exact h9)
                | (rw [if_neg ((fun h => h.2.elim h_83 (fun h2 => Int32.not_lt.mpr h2 h_92)) : ¬ ((¬ nI b = nI p ∧ aAsk s (s (wi p k + 0)) b ≤ 99 ∧ aRea s p k b (aAsk s (s (wi p k + 0)) b) = 0) ∧ (f = -5 ∨ aAsk s (s (wi p k + 0)) b ≤ f - f / 100 * 100)))] at h9; exact h9)
                | (rw [if_neg ((fun h => h_65 h.1.2.2) : ¬ ((¬ nI b = nI p ∧ aAsk s (s (wi p k + 0)) b ≤ 99 ∧ aRea s p k b (aAsk s (s (wi p k + 0)) b) = 0) ∧ (f = -5 ∨ aAsk s (s (wi p k + 0)) b ≤ f - f / 100 * 100)))] at h9; exact h9)
                | (rw [if_neg ((fun h => Int32.not_lt.mpr h.1.2.1 h_52) : ¬ ((¬ nI b = nI p ∧ aAsk s (s (wi p k + 0)) b ≤ 99 ∧ aRea s p k b (aAsk s (s (wi p k + 0)) b) = 0) ∧ (f = -5 ∨ aAsk s (s (wi p k + 0)) b ≤ f - f / 100 * 100)))] at h9; exact h9)
                | (rw [if_neg ((fun h => h.1.1 h_45) : ¬ ((¬ nI b = nI p ∧ aAsk s (s (wi p k + 0)) b ≤ 99 ∧ aRea s p k b (aAsk s (s (wi p k + 0)) b) = 0) ∧ (f = -5 ∨ aAsk s (s (wi p k + 0)) b ≤ f - f / 100 * 100)))] at h9; exact h9)

set_option maxHeartbeats 4000000 in
set_option maxRecDepth 100000 in
theorem sp_cheapest (l : Launch) (g : fw_G) {I : fw_I} {P : fw_P} {s : Nat → Int32} (hM : MSh P) (hm : mOk s) (x y : Int32) : Sp l g kX8_cheapest T0 [.ref (g.1 + 688), .int x, .int y] (wr I 689 s) P T0 0 0 (qI (aCheX s x y) (wr I 689 s) P) := by
  have a688 := at_688
  have a689 := at_689
  obtain ⟨p0, p1, p3, p5, p6, p10, p12, p13⟩ := id hM
  refine Sp.of_V (L := [some (.ref (g.1 + 688)), some (.int x), some (.int y), none, none, none, none]) (by decide) (by simp [Value.category]) (Nat.le_of_ble_eq_true rfl) rfl ?_
  refine V_aload_n (i := 0) rfl rfl dX8_cheapest_0 rfl ?_
  refine V_iload_n (i := 1) rfl rfl dX8_cheapest_1 rfl ?_
  refine V_iload_n (i := 2) rfl rfl dX8_cheapest_2 rfl ?_
  refine V_call (n := 2) (sp_isBite l g hM x y) o_X8_isBite m_X8_103 ⟨by decide, by decide⟩ (by assumption) rfl rfl (by first | exact Nat.le_of_ble_eq_true rfl | simp [Value.category]) (Nat.le_refl _) (Nat.le_refl _) rfl dX8_cheapest_3 rfl (kI ?_)
  refine V_if_ne (tgt := 11) dX8_cheapest_6 (by decide) rfl (fun h_6 => ?_) (fun h_6 => ?_)
  · refine V_bipush (v := (-5)) (by decide) dX8_cheapest_11 rfl ?_
    refine V_istore_n (i := 3) rfl (by decide) rfl dX8_cheapest_13 rfl ?_
    refine V_iconst (v := 3) (by decide) dX8_cheapest_14 rfl ?_
    refine V_istore (i := 4) (by decide) rfl dX8_cheapest_15 rfl ?_
    have hbt := bI_nz h_6
    obtain ⟨p, k, hp, rfl, hk, rfl, hk20⟩ := aBt.nat hm hbt
    have hc : (nI p).toNatClampNeg = p := nI_clamp (by omega)
    have hck : (nI k).toNatClampNeg = k := nI_clamp (by omega)
    have e0 : aCheX s (nI p) (nI k) = aChe s p k := by unfold aCheX; rw [if_pos hbt, hc, hck]
    rw [e0]
    refine lp_che (b := 3) l g hM hp hk20 (by decide) (-5) ?_
    refine lp_che (b := 2) l g hM hp hk20 (by decide) _ ?_
    refine lp_che (b := 1) l g hM hp hk20 (by decide) _ ?_
    refine lp_che (b := 0) l g hM hp hk20 (by decide) _ ?_
    refine V_iload (i := 4) rfl dX8_cheapest_17 rfl ?_
    refine V_if_lt (tgt := 114) dX8_cheapest_19 (by decide) rfl (fun _ => ?_) (fun h => absurd (by decide : nI 0 + -1 < 0) h)
    refine V_iload_n (i := 3) rfl rfl dX8_cheapest_114 rfl ?_
    exact V_ireturn rfl rfl dX8_cheapest_115 rfl rfl rfl (qI.of rfl)
  · refine V_iconst (v := (-1)) (by decide) dX8_cheapest_9 rfl ?_
    exact V_ireturn rfl rfl dX8_cheapest_10 rfl rfl rfl (qI.of (by unfold aCheX; rw [if_neg (bI_z h_6)]))

set_option maxHeartbeats 4000000 in
set_option maxRecDepth 100000 in
theorem lp_dangers (l : Launch) (g : fw_G) {I : fw_I} {P : fw_P} {s : Nat → Int32} (hM : MSh P) (hm : mOk s) {p : Nat} (hp : p < 4) : ∀ (n j : Nat), j + n = 6 → V l g kX8_dangers T0 0 0 (qI (aDaF s p 6) (wr I 689 s) P) T0 (wr I 689 s) P 0 0 24 [some (.ref (g.1 + 688)), some (.int (nI p)), some (.int (aDaF s p j)), some (.int (nI (j + 1)))] [] := by
  have a688 := at_688
  have a689 := at_689
  obtain ⟨p0, p1, p3, p5, p6, p10, p12, p13⟩ := id hM
  intro n
  induction n with
  | zero =>
    intro j hj
    obtain rfl : j = 6 := by omega
    refine V_iload_n (i := 3) rfl rfl dX8_dangers_24 rfl ?_
    refine V_bipush (v := 6) (by decide) dX8_dangers_25 rfl ?_
    refine V_icmp_gt (tgt := 63) dX8_dangers_27 (by decide) rfl (fun _ => ?_) (fun h => absurd (nI_lt (a := 6) (by decide) (by decide)) h)
    refine V_iload_n (i := 2) rfl rfl dX8_dangers_63 rfl ?_
    exact V_ireturn rfl rfl dX8_dangers_64 rfl rfl rfl (qI.of rfl)
  | succ n ih =>
    intro j hj
    have hj10 : j < 6 := by omega
    refine V_iload_n (i := 3) rfl rfl dX8_dangers_24 rfl ?_
    refine V_bipush (v := 6) (by decide) dX8_dangers_25 rfl ?_
    refine V_icmp_gt (tgt := 63) dX8_dangers_27 (by decide) rfl (fun h => absurd h (nI_nlt (b := j + 1) (a := 6) (by omega) (by decide))) (fun _ => ?_)
    refine V_iload_n (i := 2) rfl rfl dX8_dangers_30 rfl ?_
    refine V_aload_n (i := 0) rfl rfl dX8_dangers_31 rfl ?_
    refine V_iload_n (i := 1) rfl rfl dX8_dangers_32 rfl ?_
    refine V_aload_n (i := 0) rfl rfl dX8_dangers_33 rfl ?_
    refine V_iload_n (i := 1) rfl rfl dX8_dangers_34 rfl ?_
    refine V_call (n := 1) (sp_beginsAt l g hM hm hp) o_X8_beginsAt m_X8_79 ⟨by decide, by decide⟩ (by assumption) rfl rfl (by first | exact Nat.le_of_ble_eq_true rfl | simp [Value.category]) (Nat.le_refl _) (Nat.le_refl _) rfl dX8_dangers_35 rfl (kI ?_)
    refine V_iload_n (i := 3) rfl rfl dX8_dangers_38 rfl ?_
    refine V_callS (n := 2) (sp_goOn l g _ _ (aBeg s p) (nI (j + 1))) o_X8_goOn m_X8_82 ⟨by decide, by decide⟩ rfl rfl (by first | exact Nat.le_of_ble_eq_true rfl | simp [Value.category]) (Nat.le_refl _) (Nat.le_refl _) rfl dX8_dangers_39 rfl (kI ?_)
    refine V_call (n := 2) (sp_bites l g hM hp (aGo (aBeg s p) (nI (j + 1)))) o_X8_bites m_X8_85 ⟨by decide, by decide⟩ (by assumption) rfl rfl (by first | exact Nat.le_of_ble_eq_true rfl | simp [Value.category]) (Nat.le_refl _) (Nat.le_refl _) rfl dX8_dangers_42 rfl (kB (fun r42 h42 => ?_))
    refine V_if_eq (tgt := 54) dX8_dangers_45 (by decide) rfl (fun h_45 => ?_) (fun h_45 => ?_)
    · refine V_iconst (v := 0) (by decide) dX8_dangers_54 rfl ?_
      refine V_ior dX8_dangers_55 rfl ?_
      refine V_istore_n (i := 2) rfl (by decide) rfl dX8_dangers_56 rfl ?_
      refine V_iinc1 (i := 3) rfl (by decide) rfl dX8_dangers_57 rfl ?_
      refine V_goto (tgt := 24) dX8_dangers_60 (by decide) ?_
      have h9 := ih (j + 1) (by omega)
      rw [← nI_1 (j + 1), show aDaF s p (j + 1) = aDaF s p j ||| (if aBites s p (aGo (aBeg s p) (nI (j + 1))) then 1 <<< (nI (j + 1) &&& 31) else 0) from rfl] at h9
      first
        | (rw [if_pos (h42.elim (fun h => h.2) (fun h => absurd h.1 h_45))] at h9; exact h9)
        | (rw [if_neg (h42.elim (fun h => absurd (h.1.symm.trans h_45) (by decide)) (fun h => h.2))] at h9; exact h9)
    · refine V_iconst (v := 1) (by decide) dX8_dangers_48 rfl ?_
      refine V_iload_n (i := 3) rfl rfl dX8_dangers_49 rfl ?_
      refine V_ishl dX8_dangers_50 rfl ?_
      refine V_goto (tgt := 55) dX8_dangers_51 (by decide) ?_
      refine V_ior dX8_dangers_55 rfl ?_
      refine V_istore_n (i := 2) rfl (by decide) rfl dX8_dangers_56 rfl ?_
      refine V_iinc1 (i := 3) rfl (by decide) rfl dX8_dangers_57 rfl ?_
      refine V_goto (tgt := 24) dX8_dangers_60 (by decide) ?_
      have h9 := ih (j + 1) (by omega)
      rw [← nI_1 (j + 1), show aDaF s p (j + 1) = aDaF s p j ||| (if aBites s p (aGo (aBeg s p) (nI (j + 1))) then 1 <<< (nI (j + 1) &&& 31) else 0) from rfl] at h9
      first
        | (rw [if_pos (h42.elim (fun h => h.2) (fun h => absurd h.1 h_45))] at h9; exact h9)
        | (rw [if_neg (h42.elim (fun h => absurd (h.1.symm.trans h_45) (by decide)) (fun h => h.2))] at h9; exact h9)

set_option maxHeartbeats 4000000 in
set_option maxRecDepth 100000 in
theorem sp_dangers (l : Launch) (g : fw_G) {I : fw_I} {P : fw_P} {s : Nat → Int32} (hM : MSh P) (hm : mOk s) (x : Int32) : Sp l g kX8_dangers T0 [.ref (g.1 + 688), .int x] (wr I 689 s) P T0 0 0 (qI (aDanX s x) (wr I 689 s) P) := by
  have a688 := at_688
  have a689 := at_689
  obtain ⟨p0, p1, p3, p5, p6, p10, p12, p13⟩ := id hM
  refine Sp.of_V (L := [some (.ref (g.1 + 688)), some (.int x), none, none]) (by decide) (by simp [Value.category]) (Nat.le_of_ble_eq_true rfl) rfl ?_
  refine V_iload_n (i := 1) rfl rfl dX8_dangers_0 rfl ?_
  refine V_callS (n := 1) (sp_isPlayer l g _ P x) o_X8_isPlayer m_X8_39 ⟨by decide, by decide⟩ rfl rfl (by first | exact Nat.le_of_ble_eq_true rfl | simp [Value.category]) (Nat.le_refl _) (Nat.le_refl _) rfl dX8_dangers_1 rfl (kI ?_)
  refine V_if_ne (tgt := 9) dX8_dangers_4 (by decide) rfl (fun h_4 => ?_) (fun h_4 => ?_)
  · obtain ⟨p, hp, rfl⟩ := aPl.nat (bI_nz h_4)
    have hc : (nI p).toNatClampNeg = p := nI_clamp (by omega)
    refine V_aload_n (i := 0) rfl rfl dX8_dangers_9 rfl ?_
    refine V_iload_n (i := 1) rfl rfl dX8_dangers_10 rfl ?_
    refine V_call (n := 1) (sp_isIn l g hM hp) o_X8_isIn m_X8_96 ⟨by decide, by decide⟩ (by assumption) rfl rfl (by first | exact Nat.le_of_ble_eq_true rfl | simp [Value.category]) (Nat.le_refl _) (Nat.le_refl _) rfl dX8_dangers_11 rfl (kI ?_)
    refine V_if_ne (tgt := 20) dX8_dangers_14 (by decide) rfl (fun h_14 => ?_) (fun h_14 => ?_)
    · refine V_iconst (v := 0) (by decide) dX8_dangers_20 rfl ?_
      refine V_istore_n (i := 2) rfl (by decide) rfl dX8_dangers_21 rfl ?_
      refine V_iconst (v := 1) (by decide) dX8_dangers_22 rfl ?_
      refine V_istore_n (i := 3) rfl (by decide) rfl dX8_dangers_23 rfl ?_
      have e0 : aDanX s (nI p) = aDaF s p 6 := by unfold aDanX; rw [if_pos (bI_nz h_4), hc, if_pos (bI_nz h_14)]
      rw [e0]
      exact lp_dangers l g hM hm hp 6 0 rfl
    · refine V_bipush (v := (-4)) (by decide) dX8_dangers_17 rfl ?_
      exact V_ireturn rfl rfl dX8_dangers_19 rfl rfl rfl (qI.of (by unfold aDanX; rw [if_pos (bI_nz h_4), hc, if_neg (bI_z h_14)]))
  · refine V_iconst (v := (-1)) (by decide) dX8_dangers_7 rfl ?_
    exact V_ireturn rfl rfl dX8_dangers_8 rfl rfl rfl (qI.of (by unfold aDanX; rw [if_neg (bI_z h_4)]))

