theorem nI_le9 {x : Int32} (h : 0 ≤ x ∧ x ≤ 9) : ∃ p, p < 10 ∧ x = nI p := by
  obtain ⟨j, h1, h2⟩ := nI_of2 (M := 9) (n := 9) rfl (by rw [i32_lt]; have := i32_le.mp h.1; simp at this ⊢; omega) h.2
  exact ⟨j, by omega, h2⟩
set_option maxHeartbeats 4000000 in
set_option maxRecDepth 100000 in
theorem sp_in (l : Launch) (g : fw_G) (I : fw_I) (P : fw_P) (a b c : Int32) : Sp l g kX8_in T0 [.int a, .int b, .int c] I P T0 0 0 (qI (bI (b ≤ a ∧ a ≤ c)) I P) := by
  refine Sp.of_V (L := [some (.int a), some (.int b), some (.int c)]) (by decide) (by simp [Value.category]) (Nat.le_of_ble_eq_true rfl) rfl ?_
  refine V_iload_n (i := 0) rfl rfl dX8_in_0 rfl ?_
  refine V_iload_n (i := 1) rfl rfl dX8_in_1 rfl ?_
  refine V_icmp_lt (tgt := 14) dX8_in_2 (by decide) rfl (fun h_2 => ?_) (fun h_2 => ?_)
  · refine V_iconst (v := 0) (by decide) dX8_in_14 rfl ?_
    exact V_ireturn rfl (by decide) dX8_in_15 rfl rfl rfl (qI.of (by first | exact (bI_t ⟨Int32.not_lt.mp h_2, Int32.not_lt.mp h_7⟩).symm | exact (bI_f (fun h => absurd h_2 (Int32.not_lt.mpr h.1))).symm | exact (bI_f (fun h => absurd h_7 (Int32.not_lt.mpr h.2))).symm))
  · refine V_iload_n (i := 0) rfl rfl dX8_in_5 rfl ?_
    refine V_iload_n (i := 2) rfl rfl dX8_in_6 rfl ?_
    refine V_icmp_gt (tgt := 14) dX8_in_7 (by decide) rfl (fun h_7 => ?_) (fun h_7 => ?_)
    · refine V_iconst (v := 0) (by decide) dX8_in_14 rfl ?_
      exact V_ireturn rfl (by decide) dX8_in_15 rfl rfl rfl (qI.of (by first | exact (bI_t ⟨Int32.not_lt.mp h_2, Int32.not_lt.mp h_7⟩).symm | exact (bI_f (fun h => absurd h_2 (Int32.not_lt.mpr h.1))).symm | exact (bI_f (fun h => absurd h_7 (Int32.not_lt.mpr h.2))).symm))
    · refine V_iconst (v := 1) (by decide) dX8_in_10 rfl ?_
      refine V_goto (tgt := 15) dX8_in_11 (by decide) ?_
      exact V_ireturn rfl (by decide) dX8_in_15 rfl rfl rfl (qI.of (by first | exact (bI_t ⟨Int32.not_lt.mp h_2, Int32.not_lt.mp h_7⟩).symm | exact (bI_f (fun h => absurd h_2 (Int32.not_lt.mpr h.1))).symm | exact (bI_f (fun h => absurd h_7 (Int32.not_lt.mpr h.2))).symm))

set_option maxHeartbeats 4000000 in
set_option maxRecDepth 100000 in
theorem sp_isPlayer (l : Launch) (g : fw_G) (I : fw_I) (P : fw_P) (a : Int32) : Sp l g kX8_isPlayer T0 [.int a] I P T0 0 0 (qI (bI (aPl a)) I P) := by
  refine Sp.of_V (L := [some (.int a)]) (by decide) (by simp [Value.category]) (Nat.le_of_ble_eq_true rfl) rfl ?_
  refine V_iload_n (i := 0) rfl rfl dX8_isPlayer_0 rfl ?_
  refine V_iconst (v := 0) (by decide) dX8_isPlayer_1 rfl ?_
  refine V_iconst (v := 3) (by decide) dX8_isPlayer_2 rfl ?_
  refine V_callS (n := 3) (sp_in l g _ P a 0 3) o_X8_in m_X8_35 ⟨by decide, by decide⟩ rfl rfl (by first | exact Nat.le_of_ble_eq_true rfl | simp [Value.category]) (Nat.le_refl _) (Nat.le_refl _) rfl dX8_isPlayer_3 rfl (kI ?_)
  exact V_ireturn rfl (bI_narrow _) dX8_isPlayer_6 rfl rfl rfl (qI.of rfl)

set_option maxHeartbeats 4000000 in
set_option maxRecDepth 100000 in
theorem sp_of (l : Launch) (g : fw_G) {I : fw_I} {P : fw_P} {s : Nat → Int32} (hM : MSh P) {p w : Nat} (hp : p < 4) (hw : w < 6) : Sp l g kX8_of T0 [.ref (g.1 + 688), .int (nI p), .int (nI w)] (wr I 689 s) P T0 0 0 (qI (ro s p w) (wr I 689 s) P) := by
  have a688 := at_688
  have a689 := at_689
  obtain ⟨p0, p1, p3, p5, p6, p10, p12, p13⟩ := id hM
  refine Sp.of_V (L := [some (.ref (g.1 + 688)), some (.int (nI p)), some (.int (nI w))]) (by decide) (by simp [Value.category]) (Nat.le_of_ble_eq_true rfl) rfl ?_
  refine V_aload_n (i := 0) rfl rfl dX8_of_0 rfl ?_
  refine V_getr (kf := 0) C8 (by decide) l_X8_7 (by assumption) rfl (by assumption) dX8_of_1 rfl ?_
  refine V_bipush (v := 8) (by decide) dX8_of_4 rfl ?_
  refine V_bipush (v := 6) (by decide) dX8_of_6 rfl ?_
  refine V_iload_n (i := 1) rfl rfl dX8_of_8 rfl ?_
  refine V_imul dX8_of_9 rfl ?_
  refine V_iadd dX8_of_10 rfl ?_
  refine V_iload_n (i := 2) rfl rfl dX8_of_11 rfl ?_
  refine V_iadd dX8_of_12 rfl ?_
  refine V_iald9 (by assumption) (ix_of hp hw) dX8_of_13 rfl ?_
  exact V_ireturn rfl rfl dX8_of_14 rfl rfl rfl (qI.of rfl)

set_option maxHeartbeats 4000000 in
set_option maxRecDepth 100000 in
theorem sp_add (l : Launch) (g : fw_G) {I : fw_I} {P : fw_P} {s : Nat → Int32} (hM : MSh P) {p w : Nat} (x : Int32) (hp : p < 4) (hw : w < 6) : Sp l g kX8_add T0 [.ref (g.1 + 688), .int (nI p), .int (nI w), .int x] (wr I 689 s) P T0 0 0 (qV (fun I1 P1 => I1 = wr I 689 (aAdd s p w x) ∧ P1 = P)) := by
  have a688 := at_688
  have a689 := at_689
  obtain ⟨p0, p1, p3, p5, p6, p10, p12, p13⟩ := id hM
  refine Sp.of_V (L := [some (.ref (g.1 + 688)), some (.int (nI p)), some (.int (nI w)), some (.int x)]) (by decide) (by simp [Value.category]) (Nat.le_of_ble_eq_true rfl) rfl ?_
  refine V_aload_n (i := 0) rfl rfl dX8_add_0 rfl ?_
  refine V_getr (kf := 0) C8 (by decide) l_X8_7 (by assumption) rfl (by assumption) dX8_add_1 rfl ?_
  refine V_bipush (v := 8) (by decide) dX8_add_4 rfl ?_
  refine V_bipush (v := 6) (by decide) dX8_add_6 rfl ?_
  refine V_iload_n (i := 1) rfl rfl dX8_add_8 rfl ?_
  refine V_imul dX8_add_9 rfl ?_
  refine V_iadd dX8_add_10 rfl ?_
  refine V_iload_n (i := 2) rfl rfl dX8_add_11 rfl ?_
  refine V_iadd dX8_add_12 rfl ?_
  refine V_dup2 rfl rfl dX8_add_13 rfl ?_
  refine V_iald9 (by assumption) (ix_of hp hw) dX8_add_14 rfl ?_
  refine V_iload_n (i := 3) rfl rfl dX8_add_15 rfl ?_
  refine V_iadd dX8_add_16 rfl ?_
  refine V_iast9 (by assumption) (ix_of hp hw) dX8_add_17 rfl ?_
  exact V_return rfl dX8_add_18 rfl rfl rfl (⟨rfl, rfl, rfl⟩)

set_option maxHeartbeats 4000000 in
set_option maxRecDepth 100000 in
theorem sp_whereIs (l : Launch) (g : fw_G) (I : fw_I) (P : fw_P) (p k : Nat) : Sp l g kX8_whereIs T0 [.int (nI p), .int (nI k)] I P T0 0 0 (qI (nI (wi p k)) I P) := by
  refine Sp.of_V (L := [some (.int (nI p)), some (.int (nI k))]) (by decide) (by simp [Value.category]) (Nat.le_of_ble_eq_true rfl) rfl ?_
  refine V_bipush (v := 32) (by decide) dX8_whereIs_0 rfl ?_
  refine V_iconst (v := 4) (by decide) dX8_whereIs_2 rfl ?_
  refine V_bipush (v := 20) (by decide) dX8_whereIs_3 rfl ?_
  refine V_iload_n (i := 0) rfl rfl dX8_whereIs_5 rfl ?_
  refine V_imul dX8_whereIs_6 rfl ?_
  refine V_iload_n (i := 1) rfl rfl dX8_whereIs_7 rfl ?_
  refine V_iadd dX8_whereIs_8 rfl ?_
  refine V_imul dX8_whereIs_9 rfl ?_
  refine V_iadd dX8_whereIs_10 rfl ?_
  exact V_ireturn rfl rfl dX8_whereIs_11 rfl rfl rfl (qI.of (wi_nI p k))

set_option maxHeartbeats 4000000 in
set_option maxRecDepth 100000 in
theorem sp_isBite (l : Launch) (g : fw_G) {I : fw_I} {P : fw_P} {s : Nat → Int32} (hM : MSh P) (x y : Int32) : Sp l g kX8_isBite T0 [.ref (g.1 + 688), .int x, .int y] (wr I 689 s) P T0 0 0 (qI (bI (aBt s x y)) (wr I 689 s) P) := by
  have a688 := at_688
  have a689 := at_689
  obtain ⟨p0, p1, p3, p5, p6, p10, p12, p13⟩ := id hM
  refine Sp.of_V (L := [some (.ref (g.1 + 688)), some (.int x), some (.int y)]) (by decide) (by simp [Value.category]) (Nat.le_of_ble_eq_true rfl) rfl ?_
  refine V_iload_n (i := 1) rfl rfl dX8_isBite_0 rfl ?_
  refine V_callS (n := 1) (sp_isPlayer l g _ P x) o_X8_isPlayer m_X8_39 ⟨by decide, by decide⟩ rfl rfl (by first | exact Nat.le_of_ble_eq_true rfl | simp [Value.category]) (Nat.le_refl _) (Nat.le_refl _) rfl dX8_isBite_1 rfl (kI ?_)
  refine V_if_eq (tgt := 27) dX8_isBite_4 (by decide) rfl (fun h_4 => ?_) (fun h_4 => ?_)
  · refine V_iconst (v := 0) (by decide) dX8_isBite_27 rfl ?_
    exact V_ireturn rfl (by decide) dX8_isBite_28 rfl rfl rfl (qI.of (by first | exact (bI_t ⟨bI_nz h_4, by rw [hc]; exact bI_nz h_20⟩).symm | exact (bI_f (fun h => bI_z h_20 (by have h2 := h.2; rw [hc] at h2; exact h2))).symm | exact (bI_f (fun h => bI_z h_4 h.1)).symm))
  · obtain ⟨p, hp, rfl⟩ := aPl.nat (bI_nz h_4)
    have hc : (nI p).toNatClampNeg = p := nI_clamp (by omega)
    refine V_iload_n (i := 2) rfl rfl dX8_isBite_7 rfl ?_
    refine V_iconst (v := 0) (by decide) dX8_isBite_8 rfl ?_
    refine V_aload_n (i := 0) rfl rfl dX8_isBite_9 rfl ?_
    refine V_iload_n (i := 1) rfl rfl dX8_isBite_10 rfl ?_
    refine V_iconst (v := 5) (by decide) dX8_isBite_11 rfl ?_
    refine V_call (n := 2) (sp_of l g hM hp (by decide : 5 < 6)) o_X8_of m_X8_43 ⟨by decide, by decide⟩ (by assumption) rfl rfl (by first | exact Nat.le_of_ble_eq_true rfl | simp [Value.category]) (Nat.le_refl _) (Nat.le_refl _) rfl dX8_isBite_12 rfl (kI ?_)
    refine V_iconst (v := 1) (by decide) dX8_isBite_15 rfl ?_
    refine V_isub dX8_isBite_16 rfl ?_
    refine V_callS (n := 3) (sp_in l g _ P y 0 (ro s p 5 - 1)) o_X8_in m_X8_35 ⟨by decide, by decide⟩ rfl rfl (by first | exact Nat.le_of_ble_eq_true rfl | simp [Value.category]) (Nat.le_refl _) (Nat.le_refl _) rfl dX8_isBite_17 rfl (kI ?_)
    refine V_if_eq (tgt := 27) dX8_isBite_20 (by decide) rfl (fun h_20 => ?_) (fun h_20 => ?_)
    · refine V_iconst (v := 0) (by decide) dX8_isBite_27 rfl ?_
      exact V_ireturn rfl (by decide) dX8_isBite_28 rfl rfl rfl (qI.of (by first | exact (bI_t ⟨bI_nz h_4, by rw [hc]; exact bI_nz h_20⟩).symm | exact (bI_f (fun h => bI_z h_20 (by have h2 := h.2; rw [hc] at h2; exact h2))).symm | exact (bI_f (fun h => bI_z h_4 h.1)).symm))
    · refine V_iconst (v := 1) (by decide) dX8_isBite_23 rfl ?_
      refine V_goto (tgt := 28) dX8_isBite_24 (by decide) ?_
      exact V_ireturn rfl (by decide) dX8_isBite_28 rfl rfl rfl (qI.of (by first | exact (bI_t ⟨bI_nz h_4, by rw [hc]; exact bI_nz h_20⟩).symm | exact (bI_f (fun h => bI_z h_20 (by have h2 := h.2; rw [hc] at h2; exact h2))).symm | exact (bI_f (fun h => bI_z h_4 h.1)).symm))

set_option maxHeartbeats 4000000 in
set_option maxRecDepth 100000 in
theorem sp_ofSnake (l : Launch) (g : fw_G) {I : fw_I} {P : fw_P} {s : Nat → Int32} (hM : MSh P) {k w : Nat} (hk : k < 10) (hw : w < 4) : Sp l g kX8_ofSnake T0 [.ref (g.1 + 688), .int (nI k), .int (nI w)] (wr I 689 s) P T0 0 0 (qI (sn s k w) (wr I 689 s) P) := by
  have a688 := at_688
  have a689 := at_689
  obtain ⟨p0, p1, p3, p5, p6, p10, p12, p13⟩ := id hM
  refine Sp.of_V (L := [some (.ref (g.1 + 688)), some (.int (nI k)), some (.int (nI w))]) (by decide) (by simp [Value.category]) (Nat.le_of_ble_eq_true rfl) rfl ?_
  refine V_aload_n (i := 0) rfl rfl dX8_ofSnake_0 rfl ?_
  refine V_getr (kf := 0) C8 (by decide) l_X8_7 (by assumption) rfl (by assumption) dX8_ofSnake_1 rfl ?_
  refine V_sipush (v := 352) (by decide) dX8_ofSnake_4 rfl ?_
  refine V_iconst (v := 4) (by decide) dX8_ofSnake_7 rfl ?_
  refine V_iload_n (i := 1) rfl rfl dX8_ofSnake_8 rfl ?_
  refine V_imul dX8_ofSnake_9 rfl ?_
  refine V_iadd dX8_ofSnake_10 rfl ?_
  refine V_iload_n (i := 2) rfl rfl dX8_ofSnake_11 rfl ?_
  refine V_iadd dX8_ofSnake_12 rfl ?_
  refine V_iald9 (by assumption) (ix_sn hk hw) dX8_ofSnake_13 rfl ?_
  exact V_ireturn rfl rfl dX8_ofSnake_14 rfl rfl rfl (qI.of rfl)

set_option maxHeartbeats 4000000 in
set_option maxRecDepth 100000 in
theorem sp_isSnake (l : Launch) (g : fw_G) {I : fw_I} {P : fw_P} {s : Nat → Int32} (hM : MSh P) (x : Int32) : Sp l g kX8_isSnake T0 [.ref (g.1 + 688), .int x] (wr I 689 s) P T0 0 0 (qI (bI (aSk s x)) (wr I 689 s) P) := by
  have a688 := at_688
  have a689 := at_689
  obtain ⟨p0, p1, p3, p5, p6, p10, p12, p13⟩ := id hM
  refine Sp.of_V (L := [some (.ref (g.1 + 688)), some (.int x)]) (by decide) (by simp [Value.category]) (Nat.le_of_ble_eq_true rfl) rfl ?_
  refine V_iload_n (i := 1) rfl rfl dX8_isSnake_0 rfl ?_
  refine V_iconst (v := 0) (by decide) dX8_isSnake_1 rfl ?_
  refine V_bipush (v := 9) (by decide) dX8_isSnake_2 rfl ?_
  refine V_callS (n := 3) (sp_in l g _ P x 0 9) o_X8_in m_X8_35 ⟨by decide, by decide⟩ rfl rfl (by first | exact Nat.le_of_ble_eq_true rfl | simp [Value.category]) (Nat.le_refl _) (Nat.le_refl _) rfl dX8_isSnake_4 rfl (kI ?_)
  refine V_if_eq (tgt := 23) dX8_isSnake_7 (by decide) rfl (fun h_7 => ?_) (fun h_7 => ?_)
  · refine V_iconst (v := 0) (by decide) dX8_isSnake_23 rfl ?_
    exact V_ireturn rfl (by decide) dX8_isSnake_24 rfl rfl rfl (qI.of (by first | exact (bI_t ⟨bI_nz h_7, by rw [hc]; exact Int32.not_le.mp h_16⟩).symm | exact (bI_f (fun h => absurd h_16 (Int32.not_le.mpr (by have h2 := h.2; rw [hc] at h2; exact h2)))).symm | exact (bI_f (fun h => bI_z h_7 h.1)).symm))
  · obtain ⟨k, hk, rfl⟩ := nI_le9 (bI_nz h_7)
    have hc : (nI k).toNatClampNeg = k := nI_clamp (by omega)
    refine V_aload_n (i := 0) rfl rfl dX8_isSnake_10 rfl ?_
    refine V_iload_n (i := 1) rfl rfl dX8_isSnake_11 rfl ?_
    refine V_iconst (v := 0) (by decide) dX8_isSnake_12 rfl ?_
    refine V_call (n := 2) (sp_ofSnake l g hM hk (by decide : 0 < 4)) o_X8_ofSnake m_X8_47 ⟨by decide, by decide⟩ (by assumption) rfl rfl (by first | exact Nat.le_of_ble_eq_true rfl | simp [Value.category]) (Nat.le_refl _) (Nat.le_refl _) rfl dX8_isSnake_13 rfl (kI ?_)
    refine V_if_le (tgt := 23) dX8_isSnake_16 (by decide) rfl (fun h_16 => ?_) (fun h_16 => ?_)
    · refine V_iconst (v := 0) (by decide) dX8_isSnake_23 rfl ?_
      exact V_ireturn rfl (by decide) dX8_isSnake_24 rfl rfl rfl (qI.of (by first | exact (bI_t ⟨bI_nz h_7, by rw [hc]; exact Int32.not_le.mp h_16⟩).symm | exact (bI_f (fun h => absurd h_16 (Int32.not_le.mpr (by have h2 := h.2; rw [hc] at h2; exact h2)))).symm | exact (bI_f (fun h => bI_z h_7 h.1)).symm))
    · refine V_iconst (v := 1) (by decide) dX8_isSnake_19 rfl ?_
      refine V_goto (tgt := 24) dX8_isSnake_20 (by decide) ?_
      exact V_ireturn rfl (by decide) dX8_isSnake_24 rfl rfl rfl (qI.of (by first | exact (bI_t ⟨bI_nz h_7, by rw [hc]; exact Int32.not_le.mp h_16⟩).symm | exact (bI_f (fun h => absurd h_16 (Int32.not_le.mpr (by have h2 := h.2; rw [hc] at h2; exact h2)))).symm | exact (bI_f (fun h => bI_z h_7 h.1)).symm))

set_option maxHeartbeats 4000000 in
set_option maxRecDepth 100000 in
theorem sp_isIn (l : Launch) (g : fw_G) {I : fw_I} {P : fw_P} {s : Nat → Int32} (hM : MSh P) {p : Nat} (hp : p < 4) : Sp l g kX8_isIn T0 [.ref (g.1 + 688), .int (nI p)] (wr I 689 s) P T0 0 0 (qI (bI (ro s p 2 = 0)) (wr I 689 s) P) := by
  have a688 := at_688
  have a689 := at_689
  obtain ⟨p0, p1, p3, p5, p6, p10, p12, p13⟩ := id hM
  refine Sp.of_V (L := [some (.ref (g.1 + 688)), some (.int (nI p))]) (by decide) (by simp [Value.category]) (Nat.le_of_ble_eq_true rfl) rfl ?_
  refine V_aload_n (i := 0) rfl rfl dX8_isIn_0 rfl ?_
  refine V_iload_n (i := 1) rfl rfl dX8_isIn_1 rfl ?_
  refine V_iconst (v := 2) (by decide) dX8_isIn_2 rfl ?_
  refine V_call (n := 2) (sp_of l g hM hp (by decide : 2 < 6)) o_X8_of m_X8_43 ⟨by decide, by decide⟩ (by assumption) rfl rfl (by first | exact Nat.le_of_ble_eq_true rfl | simp [Value.category]) (Nat.le_refl _) (Nat.le_refl _) rfl dX8_isIn_3 rfl (kI ?_)
  refine V_if_ne (tgt := 13) dX8_isIn_6 (by decide) rfl (fun h_6 => ?_) (fun h_6 => ?_)
  · refine V_iconst (v := 0) (by decide) dX8_isIn_13 rfl ?_
    exact V_ireturn rfl (by decide) dX8_isIn_14 rfl rfl rfl (qI.of (by first | exact (bI_t h_6).symm | exact (bI_f h_6).symm))
  · refine V_iconst (v := 1) (by decide) dX8_isIn_9 rfl ?_
    refine V_goto (tgt := 14) dX8_isIn_10 (by decide) ?_
    exact V_ireturn rfl (by decide) dX8_isIn_14 rfl rfl rfl (qI.of (by first | exact (bI_t h_6).symm | exact (bI_f h_6).symm))

set_option maxHeartbeats 4000000 in
set_option maxRecDepth 100000 in
theorem sp_isOver (l : Launch) (g : fw_G) {I : fw_I} {P : fw_P} {s : Nat → Int32} (hM : MSh P) : Sp l g kX8_isOver T0 [.ref (g.1 + 688)] (wr I 689 s) P T0 0 0 (qI (bI (s 4 = 4)) (wr I 689 s) P) := by
  have a688 := at_688
  have a689 := at_689
  obtain ⟨p0, p1, p3, p5, p6, p10, p12, p13⟩ := id hM
  refine Sp.of_V (L := [some (.ref (g.1 + 688))]) (by decide) (by simp [Value.category]) (Nat.le_of_ble_eq_true rfl) rfl ?_
  refine V_aload_n (i := 0) rfl rfl dX8_isOver_0 rfl ?_
  refine V_getr (kf := 0) C8 (by decide) l_X8_7 (by assumption) rfl (by assumption) dX8_isOver_1 rfl ?_
  refine V_iconst (v := 4) (by decide) dX8_isOver_4 rfl ?_
  refine V_iald9 (by assumption) (fw_ix_nI (j := 4) (by decide) (by decide)) dX8_isOver_5 rfl ?_
  refine V_iconst (v := 4) (by decide) dX8_isOver_6 rfl ?_
  refine V_icmp_ne (tgt := 14) dX8_isOver_7 (by decide) rfl (fun h_7 => ?_) (fun h_7 => ?_)
  · refine V_iconst (v := 0) (by decide) dX8_isOver_14 rfl ?_
    exact V_ireturn rfl (by decide) dX8_isOver_15 rfl rfl rfl (qI.of (by first | exact (bI_t h_7).symm | exact (bI_f h_7).symm))
  · refine V_iconst (v := 1) (by decide) dX8_isOver_10 rfl ?_
    refine V_goto (tgt := 15) dX8_isOver_11 (by decide) ?_
    exact V_ireturn rfl (by decide) dX8_isOver_15 rfl rfl rfl (qI.of (by first | exact (bI_t h_7).symm | exact (bI_f h_7).symm))

set_option maxHeartbeats 4000000 in
set_option maxRecDepth 100000 in
theorem sp_goOn (l : Launch) (g : fw_G) (I : fw_I) (P : fw_P) (a b : Int32) : Sp l g kX8_goOn T0 [.int a, .int b] I P T0 0 0 (qI (aGo a b) I P) := by
  refine Sp.of_V (L := [some (.int a), some (.int b)]) (by decide) (by simp [Value.category]) (Nat.le_of_ble_eq_true rfl) rfl ?_
  refine V_iload_n (i := 0) rfl rfl dX8_goOn_0 rfl ?_
  refine V_iload_n (i := 1) rfl rfl dX8_goOn_1 rfl ?_
  refine V_iadd dX8_goOn_2 rfl ?_
  refine V_bipush (v := 60) (by decide) dX8_goOn_3 rfl ?_
  refine V_icmp_le (tgt := 17) dX8_goOn_5 (by decide) rfl (fun h_5 => ?_) (fun h_5 => ?_)
  · refine V_iload_n (i := 0) rfl rfl dX8_goOn_17 rfl ?_
    refine V_iload_n (i := 1) rfl rfl dX8_goOn_18 rfl ?_
    refine V_iadd dX8_goOn_19 rfl ?_
    exact V_ireturn rfl rfl dX8_goOn_20 rfl rfl rfl (qI.of (by first | (unfold aGo; rw [if_pos h_5]) | (unfold aGo; rw [if_neg h_5])))
  · refine V_bipush (v := 120) (by decide) dX8_goOn_8 rfl ?_
    refine V_iload_n (i := 0) rfl rfl dX8_goOn_10 rfl ?_
    refine V_isub dX8_goOn_11 rfl ?_
    refine V_iload_n (i := 1) rfl rfl dX8_goOn_12 rfl ?_
    refine V_isub dX8_goOn_13 rfl ?_
    refine V_goto (tgt := 20) dX8_goOn_14 (by decide) ?_
    exact V_ireturn rfl rfl dX8_goOn_20 rfl rfl rfl (qI.of (by first | (unfold aGo; rw [if_pos h_5]) | (unfold aGo; rw [if_neg h_5])))

set_option maxHeartbeats 4000000 in
set_option maxRecDepth 100000 in
theorem sp_draw (l : Launch) (g : fw_G) (I : fw_I) (P : fw_P) (x : Int32) : Sp l g kX8_draw T0 [.int x] I P T0 0 0 (qI (aDraw x) I P) := by
  refine Sp.of_V (L := [some (.int x)]) (by decide) (by simp [Value.category]) (Nat.le_of_ble_eq_true rfl) rfl ?_
  refine V_sipush (v := 25173) (by decide) dX8_draw_0 rfl ?_
  refine V_iload_n (i := 0) rfl rfl dX8_draw_3 rfl ?_
  refine V_imul dX8_draw_4 rfl ?_
  refine V_sipush (v := 13849) (by decide) dX8_draw_5 rfl ?_
  refine V_iadd dX8_draw_8 rfl ?_
  refine V_ldc cst_X8_99 dX8_draw_9 rfl ?_
  refine V_irem (by decide) dX8_draw_11 rfl ?_
  exact V_ireturn rfl rfl dX8_draw_12 rfl rfl rfl (qI.of rfl)

set_option maxHeartbeats 4000000 in
set_option maxRecDepth 100000 in
theorem sp_diceOf (l : Launch) (g : fw_G) (I : fw_I) (P : fw_P) (x : Int32) : Sp l g kX8_diceOf T0 [.int x] I P T0 0 0 (qI (aDice x) I P) := by
  refine Sp.of_V (L := [some (.int x)]) (by decide) (by simp [Value.category]) (Nat.le_of_ble_eq_true rfl) rfl ?_
  refine V_iconst (v := 1) (by decide) dX8_diceOf_0 rfl ?_
  refine V_iload_n (i := 0) rfl rfl dX8_diceOf_1 rfl ?_
  refine V_sipush (v := 10923) (by decide) dX8_diceOf_2 rfl ?_
  refine V_idiv (by decide) dX8_diceOf_5 rfl ?_
  refine V_iadd dX8_diceOf_6 rfl ?_
  exact V_ireturn rfl rfl dX8_diceOf_7 rfl rfl rfl (qI.of rfl)

set_option maxHeartbeats 4000000 in
set_option maxRecDepth 100000 in
theorem lp_snakeAt (l : Launch) (g : fw_G) {I : fw_I} {P : fw_P} {s : Nat → Int32} (hM : MSh P) (x : Int32) : ∀ (n j : Nat), j + n = 10 → V l g kX8_snakeAt T0 0 0 (qI (aSnF s x 10) (wr I 689 s) P) T0 (wr I 689 s) P 0 0 5 [some (.ref (g.1 + 688)), some (.int x), some (.int (aSnF s x j)), some (.int (nI j))] [] := by
  have a688 := at_688
  have a689 := at_689
  obtain ⟨p0, p1, p3, p5, p6, p10, p12, p13⟩ := id hM
  intro n
  induction n with
  | zero =>
    intro j hj
    obtain rfl : j = 10 := by omega
    refine V_iload_n (i := 3) rfl rfl dX8_snakeAt_5 rfl ?_
    refine V_bipush (v := 10) (by decide) dX8_snakeAt_6 rfl ?_
    refine V_icmp_ge (tgt := 37) dX8_snakeAt_8 (by decide) rfl (fun _ => ?_) (fun h => absurd (nI_le (a := 10) (b := 10) (Nat.le_refl _) (by decide)) h)
    refine V_iload_n (i := 2) rfl rfl dX8_snakeAt_37 rfl ?_
    exact V_ireturn rfl rfl dX8_snakeAt_38 rfl rfl rfl (qI.of rfl)
  | succ n ih =>
    intro j hj
    have hj10 : j < 10 := by omega
    refine V_iload_n (i := 3) rfl rfl dX8_snakeAt_5 rfl ?_
    refine V_bipush (v := 10) (by decide) dX8_snakeAt_6 rfl ?_
    refine V_icmp_ge (tgt := 37) dX8_snakeAt_8 (by decide) rfl (fun h => absurd h (nI_ge (b := 10) (by omega) (by decide))) (fun _ => ?_)
    refine V_aload_n (i := 0) rfl rfl dX8_snakeAt_11 rfl ?_
    refine V_iload_n (i := 3) rfl rfl dX8_snakeAt_12 rfl ?_
    refine V_iconst (v := 0) (by decide) dX8_snakeAt_13 rfl ?_
    refine V_call (n := 2) (sp_ofSnake l g hM hj10 (by decide : 0 < 4)) o_X8_ofSnake m_X8_47 ⟨by decide, by decide⟩ (by assumption) rfl rfl (by first | exact Nat.le_of_ble_eq_true rfl | simp [Value.category]) (Nat.le_refl _) (Nat.le_refl _) rfl dX8_snakeAt_14 rfl (kI ?_)
    refine V_iload_n (i := 1) rfl rfl dX8_snakeAt_17 rfl ?_
    refine V_icmp_ne (tgt := 29) dX8_snakeAt_18 (by decide) rfl (fun h_18 => ?_) (fun h_18 => ?_)
    · refine V_iload_n (i := 2) rfl rfl dX8_snakeAt_29 rfl ?_
      refine V_istore_n (i := 2) rfl (by decide) rfl dX8_snakeAt_30 rfl ?_
      refine V_iinc1 (i := 3) rfl (by decide) rfl dX8_snakeAt_31 rfl ?_
      refine V_goto (tgt := 5) dX8_snakeAt_34 (by decide) ?_
      have h9 := ih (j + 1) (by omega)
      rw [← nI_1, show aSnF s x (j + 1) = if sn s j 0 = x ∧ 0 < x then nI j else aSnF s x j from rfl] at h9
      first | (rw [if_pos ⟨h_18, Int32.not_le.mp h_22⟩] at h9; exact h9) | (rw [if_neg (fun h => absurd h_22 (Int32.not_le.mpr h.2))] at h9; exact h9) | (rw [if_neg (fun h => h_18 h.1)] at h9; exact h9)
    · refine V_iload_n (i := 1) rfl rfl dX8_snakeAt_21 rfl ?_
      refine V_if_le (tgt := 29) dX8_snakeAt_22 (by decide) rfl (fun h_22 => ?_) (fun h_22 => ?_)
      · refine V_iload_n (i := 2) rfl rfl dX8_snakeAt_29 rfl ?_
        refine V_istore_n (i := 2) rfl (by decide) rfl dX8_snakeAt_30 rfl ?_
        refine V_iinc1 (i := 3) rfl (by decide) rfl dX8_snakeAt_31 rfl ?_
        refine V_goto (tgt := 5) dX8_snakeAt_34 (by decide) ?_
        have h9 := ih (j + 1) (by omega)
        rw [← nI_1, show aSnF s x (j + 1) = if sn s j 0 = x ∧ 0 < x then nI j else aSnF s x j from rfl] at h9
        first | (rw [if_pos ⟨h_18, Int32.not_le.mp h_22⟩] at h9; exact h9) | (rw [if_neg (fun h => absurd h_22 (Int32.not_le.mpr h.2))] at h9; exact h9) | (rw [if_neg (fun h => h_18 h.1)] at h9; exact h9)
      · refine V_iload_n (i := 3) rfl rfl dX8_snakeAt_25 rfl ?_
        refine V_goto (tgt := 30) dX8_snakeAt_26 (by decide) ?_
        refine V_istore_n (i := 2) rfl (by decide) rfl dX8_snakeAt_30 rfl ?_
        refine V_iinc1 (i := 3) rfl (by decide) rfl dX8_snakeAt_31 rfl ?_
        refine V_goto (tgt := 5) dX8_snakeAt_34 (by decide) ?_
        have h9 := ih (j + 1) (by omega)
        rw [← nI_1, show aSnF s x (j + 1) = if sn s j 0 = x ∧ 0 < x then nI j else aSnF s x j from rfl] at h9
        first | (rw [if_pos ⟨h_18, Int32.not_le.mp h_22⟩] at h9; exact h9) | (rw [if_neg (fun h => absurd h_22 (Int32.not_le.mpr h.2))] at h9; exact h9) | (rw [if_neg (fun h => h_18 h.1)] at h9; exact h9)

set_option maxHeartbeats 4000000 in
set_option maxRecDepth 100000 in
theorem sp_snakeAt (l : Launch) (g : fw_G) {I : fw_I} {P : fw_P} {s : Nat → Int32} (hM : MSh P) (x : Int32) : Sp l g kX8_snakeAt T0 [.ref (g.1 + 688), .int x] (wr I 689 s) P T0 0 0 (qI (aSnAt s x) (wr I 689 s) P) := by
  refine Sp.of_V (L := [some (.ref (g.1 + 688)), some (.int x), none, none]) (by decide) (by simp [Value.category]) (Nat.le_of_ble_eq_true rfl) rfl ?_
  refine V_bipush (v := (-5)) (by decide) dX8_snakeAt_0 rfl ?_
  refine V_istore_n (i := 2) rfl (by decide) rfl dX8_snakeAt_2 rfl ?_
  refine V_iconst (v := 0) (by decide) dX8_snakeAt_3 rfl ?_
  refine V_istore_n (i := 3) rfl (by decide) rfl dX8_snakeAt_4 rfl ?_
  exact lp_snakeAt l g hM x 10 0 rfl

set_option maxHeartbeats 4000000 in
set_option maxRecDepth 100000 in
theorem lp_snakes (l : Launch) (g : fw_G) {I : fw_I} {P : fw_P} {s : Nat → Int32} (hM : MSh P) : ∀ (n j : Nat), j + n = 10 → V l g kX8_snakes T0 0 0 (qI (aCntF s 10) (wr I 689 s) P) T0 (wr I 689 s) P 0 0 4 [some (.ref (g.1 + 688)), some (.int (aCntF s j)), some (.int (nI j))] [] := by
  have a688 := at_688
  have a689 := at_689
  obtain ⟨p0, p1, p3, p5, p6, p10, p12, p13⟩ := id hM
  intro n
  induction n with
  | zero =>
    intro j hj
    obtain rfl : j = 10 := by omega
    refine V_iload_n (i := 2) rfl rfl dX8_snakes_4 rfl ?_
    refine V_bipush (v := 10) (by decide) dX8_snakes_5 rfl ?_
    refine V_icmp_ge (tgt := 33) dX8_snakes_7 (by decide) rfl (fun _ => ?_) (fun h => absurd (nI_le (a := 10) (b := 10) (Nat.le_refl _) (by decide)) h)
    refine V_iload_n (i := 1) rfl rfl dX8_snakes_33 rfl ?_
    exact V_ireturn rfl rfl dX8_snakes_34 rfl rfl rfl (qI.of rfl)
  | succ n ih =>
    intro j hj
    have hj10 : j < 10 := by omega
    refine V_iload_n (i := 2) rfl rfl dX8_snakes_4 rfl ?_
    refine V_bipush (v := 10) (by decide) dX8_snakes_5 rfl ?_
    refine V_icmp_ge (tgt := 33) dX8_snakes_7 (by decide) rfl (fun h => absurd h (nI_ge (b := 10) (by omega) (by decide))) (fun _ => ?_)
    refine V_iload_n (i := 1) rfl rfl dX8_snakes_10 rfl ?_
    refine V_aload_n (i := 0) rfl rfl dX8_snakes_11 rfl ?_
    refine V_iload_n (i := 2) rfl rfl dX8_snakes_12 rfl ?_
    refine V_iconst (v := 0) (by decide) dX8_snakes_13 rfl ?_
    refine V_call (n := 2) (sp_ofSnake l g hM hj10 (by decide : 0 < 4)) o_X8_ofSnake m_X8_47 ⟨by decide, by decide⟩ (by assumption) rfl rfl (by first | exact Nat.le_of_ble_eq_true rfl | simp [Value.category]) (Nat.le_refl _) (Nat.le_refl _) rfl dX8_snakes_14 rfl (kI ?_)
    refine V_if_le (tgt := 24) dX8_snakes_17 (by decide) rfl (fun h_17 => ?_) (fun h_17 => ?_)
    · refine V_iconst (v := 0) (by decide) dX8_snakes_24 rfl ?_
      refine V_iadd dX8_snakes_25 rfl ?_
      refine V_istore_n (i := 1) rfl (by decide) rfl dX8_snakes_26 rfl ?_
      refine V_iinc1 (i := 2) rfl (by decide) rfl dX8_snakes_27 rfl ?_
      refine V_goto (tgt := 4) dX8_snakes_30 (by decide) ?_
      have h9 := ih (j + 1) (by omega)
      rw [← nI_1, show aCntF s (j + 1) = aCntF s j + bI (0 < sn s j 0) from rfl] at h9
      first | (rw [bI_t (Int32.not_le.mp h_17)] at h9; exact h9) | (rw [bI_f (fun h => absurd h_17 (Int32.not_le.mpr h))] at h9; exact h9)
    · refine V_iconst (v := 1) (by decide) dX8_snakes_20 rfl ?_
      refine V_goto (tgt := 25) dX8_snakes_21 (by decide) ?_
      refine V_iadd dX8_snakes_25 rfl ?_
      refine V_istore_n (i := 1) rfl (by decide) rfl dX8_snakes_26 rfl ?_
      refine V_iinc1 (i := 2) rfl (by decide) rfl dX8_snakes_27 rfl ?_
      refine V_goto (tgt := 4) dX8_snakes_30 (by decide) ?_
      have h9 := ih (j + 1) (by omega)
      rw [← nI_1, show aCntF s (j + 1) = aCntF s j + bI (0 < sn s j 0) from rfl] at h9
      first | (rw [bI_t (Int32.not_le.mp h_17)] at h9; exact h9) | (rw [bI_f (fun h => absurd h_17 (Int32.not_le.mpr h))] at h9; exact h9)

set_option maxHeartbeats 4000000 in
set_option maxRecDepth 100000 in
theorem sp_snakes (l : Launch) (g : fw_G) {I : fw_I} {P : fw_P} {s : Nat → Int32} (hM : MSh P) : Sp l g kX8_snakes T0 [.ref (g.1 + 688)] (wr I 689 s) P T0 0 0 (qI (aCntF s 10) (wr I 689 s) P) := by
  refine Sp.of_V (L := [some (.ref (g.1 + 688)), none, none]) (by decide) (by simp [Value.category]) (Nat.le_of_ble_eq_true rfl) rfl ?_
  refine V_iconst (v := 0) (by decide) dX8_snakes_0 rfl ?_
  refine V_istore_n (i := 1) rfl (by decide) rfl dX8_snakes_1 rfl ?_
  refine V_iconst (v := 0) (by decide) dX8_snakes_2 rfl ?_
  refine V_istore_n (i := 2) rfl (by decide) rfl dX8_snakes_3 rfl ?_
  exact lp_snakes l g hM 10 0 rfl

set_option maxHeartbeats 4000000 in
set_option maxRecDepth 100000 in
theorem lp_hurts (l : Launch) (g : fw_G) {I : fw_I} {P : fw_P} {s : Nat → Int32} (hM : MSh P) (hm : mOk s) {p : Nat} (hp : p < 4) : ∀ (n j : Nat), j + n = aMany s p → V l g kX8_hurts T0 0 0 (qI (aHu s p) (wr I 689 s) P) T0 (wr I 689 s) P 0 0 4 [some (.ref (g.1 + 688)), some (.int (nI p)), some (.int (aHuF s p j)), some (.int (nI j))] [] := by
  have a688 := at_688
  have a689 := at_689
  obtain ⟨p0, p1, p3, p5, p6, p10, p12, p13⟩ := id hM
  intro n
  induction n with
  | zero =>
    intro j hj
    obtain rfl : j = aMany s p := by omega
    refine V_iload_n (i := 3) rfl rfl dX8_hurts_4 rfl ?_
    refine V_aload_n (i := 0) rfl rfl dX8_hurts_5 rfl ?_
    refine V_iload_n (i := 1) rfl rfl dX8_hurts_6 rfl ?_
    refine V_iconst (v := 5) (by decide) dX8_hurts_7 rfl ?_
    refine V_call (n := 2) (sp_of l g hM hp (by decide : 5 < 6)) o_X8_of m_X8_43 ⟨by decide, by decide⟩ (by assumption) rfl rfl (by first | exact Nat.le_of_ble_eq_true rfl | simp [Value.category]) (Nat.le_refl _) (Nat.le_refl _) rfl dX8_hurts_8 rfl (kI ?_)
    refine V_icmp_ge (tgt := 35) dX8_hurts_11 (by decide) rfl (fun _ => ?_) (fun h => absurd (by rw [(hm.many hp).2]; exact nI_le (Nat.le_refl _) (by have := (hm.many hp).1; omega)) h)
    refine V_iload_n (i := 2) rfl rfl dX8_hurts_35 rfl ?_
    exact V_ireturn rfl rfl dX8_hurts_36 rfl rfl rfl (qI.of rfl)
  | succ n ih =>
    intro j hj
    have hj10 : j < aMany s p := by omega
    refine V_iload_n (i := 3) rfl rfl dX8_hurts_4 rfl ?_
    refine V_aload_n (i := 0) rfl rfl dX8_hurts_5 rfl ?_
    refine V_iload_n (i := 1) rfl rfl dX8_hurts_6 rfl ?_
    refine V_iconst (v := 5) (by decide) dX8_hurts_7 rfl ?_
    refine V_call (n := 2) (sp_of l g hM hp (by decide : 5 < 6)) o_X8_of m_X8_43 ⟨by decide, by decide⟩ (by assumption) rfl rfl (by first | exact Nat.le_of_ble_eq_true rfl | simp [Value.category]) (Nat.le_refl _) (Nat.le_refl _) rfl dX8_hurts_8 rfl (kI ?_)
    refine V_icmp_ge (tgt := 35) dX8_hurts_11 (by decide) rfl (fun h => absurd h (by rw [(hm.many hp).2]; exact nI_ge hj10 (by have := (hm.many hp).1; omega))) (fun _ => ?_)
    refine V_iload_n (i := 2) rfl rfl dX8_hurts_14 rfl ?_
    refine V_aload_n (i := 0) rfl rfl dX8_hurts_15 rfl ?_
    refine V_getr (kf := 0) C8 (by decide) l_X8_7 (by assumption) rfl (by assumption) dX8_hurts_16 rfl ?_
    refine V_iload_n (i := 1) rfl rfl dX8_hurts_19 rfl ?_
    refine V_iload_n (i := 3) rfl rfl dX8_hurts_20 rfl ?_
    refine V_callS (n := 2) (sp_whereIs l g _ P p j) o_X8_whereIs m_X8_58 ⟨by decide, by decide⟩ rfl rfl (by first | exact Nat.le_of_ble_eq_true rfl | simp [Value.category]) (Nat.le_refl _) (Nat.le_refl _) rfl dX8_hurts_21 rfl (kI ?_)
    refine V_iconst (v := 0) (by decide) dX8_hurts_24 rfl ?_
    refine V_iadd dX8_hurts_25 rfl ?_
    refine V_iald (by assumption) (ix_wi hp (by have := (hm.many hp).1; omega) (by decide : 0 < 4)) dX8_hurts_26 rfl ?_
    refine V_iadd dX8_hurts_27 rfl ?_
    refine V_istore_n (i := 2) rfl (by decide) rfl dX8_hurts_28 rfl ?_
    refine V_iinc1 (i := 3) rfl (by decide) rfl dX8_hurts_29 rfl ?_
    refine V_goto (tgt := 4) dX8_hurts_32 (by decide) ?_
    have h9 := ih (j + 1) (by omega)
    rw [← nI_1] at h9
    exact h9

set_option maxHeartbeats 4000000 in
set_option maxRecDepth 100000 in
theorem sp_hurts (l : Launch) (g : fw_G) {I : fw_I} {P : fw_P} {s : Nat → Int32} (hM : MSh P) (hm : mOk s) {p : Nat} (hp : p < 4) : Sp l g kX8_hurts T0 [.ref (g.1 + 688), .int (nI p)] (wr I 689 s) P T0 0 0 (qI (aHu s p) (wr I 689 s) P) := by
  refine Sp.of_V (L := [some (.ref (g.1 + 688)), some (.int (nI p)), none, none]) (by decide) (by simp [Value.category]) (Nat.le_of_ble_eq_true rfl) rfl ?_
  refine V_iconst (v := 0) (by decide) dX8_hurts_0 rfl ?_
  refine V_istore_n (i := 2) rfl (by decide) rfl dX8_hurts_1 rfl ?_
  refine V_iconst (v := 0) (by decide) dX8_hurts_2 rfl ?_
  refine V_istore_n (i := 3) rfl (by decide) rfl dX8_hurts_3 rfl ?_
  exact lp_hurts l g hM hm hp (aMany s p) 0 (by omega)

set_option maxHeartbeats 4000000 in
set_option maxRecDepth 100000 in
theorem sp_beginsAt (l : Launch) (g : fw_G) {I : fw_I} {P : fw_P} {s : Nat → Int32} (hM : MSh P) (hm : mOk s) {p : Nat} (hp : p < 4) : Sp l g kX8_beginsAt T0 [.ref (g.1 + 688), .int (nI p)] (wr I 689 s) P T0 0 0 (qI (aBeg s p) (wr I 689 s) P) := by
  have a688 := at_688
  have a689 := at_689
  obtain ⟨p0, p1, p3, p5, p6, p10, p12, p13⟩ := id hM
  refine Sp.of_V (L := [some (.ref (g.1 + 688)), some (.int (nI p)), none]) (by decide) (by simp [Value.category]) (Nat.le_of_ble_eq_true rfl) rfl ?_
  refine V_aload_n (i := 0) rfl rfl dX8_beginsAt_0 rfl ?_
  refine V_iload_n (i := 1) rfl rfl dX8_beginsAt_1 rfl ?_
  refine V_iconst (v := 0) (by decide) dX8_beginsAt_2 rfl ?_
  refine V_call (n := 2) (sp_of l g hM hp (by decide : 0 < 6)) o_X8_of m_X8_43 ⟨by decide, by decide⟩ (by assumption) rfl rfl (by first | exact Nat.le_of_ble_eq_true rfl | simp [Value.category]) (Nat.le_refl _) (Nat.le_refl _) rfl dX8_beginsAt_3 rfl (kI ?_)
  refine V_aload_n (i := 0) rfl rfl dX8_beginsAt_6 rfl ?_
  refine V_iload_n (i := 1) rfl rfl dX8_beginsAt_7 rfl ?_
  refine V_call (n := 1) (sp_hurts l g hM hm hp) o_X8_hurts m_X8_61 ⟨by decide, by decide⟩ (by assumption) rfl rfl (by first | exact Nat.le_of_ble_eq_true rfl | simp [Value.category]) (Nat.le_refl _) (Nat.le_refl _) rfl dX8_beginsAt_8 rfl (kI ?_)
  refine V_isub dX8_beginsAt_11 rfl ?_
  refine V_istore_n (i := 2) rfl (by decide) rfl dX8_beginsAt_12 rfl ?_
  refine V_iload_n (i := 2) rfl rfl dX8_beginsAt_13 rfl ?_
  refine V_if_ge (tgt := 21) dX8_beginsAt_14 (by decide) rfl (fun h_14 => ?_) (fun h_14 => ?_)
  · refine V_iload_n (i := 2) rfl rfl dX8_beginsAt_21 rfl ?_
    exact V_ireturn rfl rfl dX8_beginsAt_22 rfl rfl rfl (qI.of (by first | (unfold aBeg; rw [if_pos h_14]) | (unfold aBeg; rw [if_neg h_14])))
  · refine V_iconst (v := 0) (by decide) dX8_beginsAt_17 rfl ?_
    refine V_goto (tgt := 22) dX8_beginsAt_18 (by decide) ?_
    exact V_ireturn rfl rfl dX8_beginsAt_22 rfl rfl rfl (qI.of (by first | (unfold aBeg; rw [if_pos h_14]) | (unfold aBeg; rw [if_neg h_14])))

set_option maxHeartbeats 4000000 in
set_option maxRecDepth 100000 in
theorem lp_piecesAt (l : Launch) (g : fw_G) {I : fw_I} {P : fw_P} {s : Nat → Int32} (hM : MSh P) (x : Int32) : ∀ (n j : Nat), j + n = 4 → V l g kX8_piecesAt T0 0 0 (qI (aPi s x) (wr I 689 s) P) T0 (wr I 689 s) P 0 0 4 [some (.ref (g.1 + 688)), some (.int x), some (.int (aPiF s x j)), some (.int (nI j))] [] := by
  have a688 := at_688
  have a689 := at_689
  obtain ⟨p0, p1, p3, p5, p6, p10, p12, p13⟩ := id hM
  intro n
  induction n with
  | zero =>
    intro j hj
    obtain rfl : j = 4 := by omega
    refine V_iload_n (i := 3) rfl rfl dX8_piecesAt_4 rfl ?_
    refine V_iconst (v := 4) (by decide) dX8_piecesAt_5 rfl ?_
    refine V_icmp_ge (tgt := 35) dX8_piecesAt_6 (by decide) rfl (fun _ => ?_) (fun h => absurd (nI_le (a := 4) (b := 4) (Nat.le_refl _) (by decide)) h)
    refine V_iload_n (i := 2) rfl rfl dX8_piecesAt_35 rfl ?_
    exact V_ireturn rfl rfl dX8_piecesAt_36 rfl rfl rfl (qI.of rfl)
  | succ n ih =>
    intro j hj
    have hj10 : j < 4 := by omega
    refine V_iload_n (i := 3) rfl rfl dX8_piecesAt_4 rfl ?_
    refine V_iconst (v := 4) (by decide) dX8_piecesAt_5 rfl ?_
    refine V_icmp_ge (tgt := 35) dX8_piecesAt_6 (by decide) rfl (fun h => absurd h (nI_ge (b := 4) (by omega) (by decide))) (fun _ => ?_)
    refine V_iload_n (i := 2) rfl rfl dX8_piecesAt_9 rfl ?_
    refine V_aload_n (i := 0) rfl rfl dX8_piecesAt_10 rfl ?_
    refine V_iload_n (i := 3) rfl rfl dX8_piecesAt_11 rfl ?_
    refine V_iconst (v := 0) (by decide) dX8_piecesAt_12 rfl ?_
    refine V_call (n := 2) (sp_of l g hM hj10 (by decide : 0 < 6)) o_X8_of m_X8_43 ⟨by decide, by decide⟩ (by assumption) rfl rfl (by first | exact Nat.le_of_ble_eq_true rfl | simp [Value.category]) (Nat.le_refl _) (Nat.le_refl _) rfl dX8_piecesAt_13 rfl (kI ?_)
    refine V_iload_n (i := 1) rfl rfl dX8_piecesAt_16 rfl ?_
    refine V_icmp_ne (tgt := 26) dX8_piecesAt_17 (by decide) rfl (fun h_17 => ?_) (fun h_17 => ?_)
    · refine V_iconst (v := 0) (by decide) dX8_piecesAt_26 rfl ?_
      refine V_ior dX8_piecesAt_27 rfl ?_
      refine V_istore_n (i := 2) rfl (by decide) rfl dX8_piecesAt_28 rfl ?_
      refine V_iinc1 (i := 3) rfl (by decide) rfl dX8_piecesAt_29 rfl ?_
      refine V_goto (tgt := 4) dX8_piecesAt_32 (by decide) ?_
      have h9 := ih (j + 1) (by omega)
      rw [← nI_1, show aPiF s x (j + 1) = aPiF s x j ||| (if ro s j 0 = x then 1 <<< (nI j &&& 31) else 0) from rfl] at h9
      first | (rw [if_pos h_17] at h9; exact h9) | (rw [if_neg h_17] at h9; exact h9)
    · refine V_iconst (v := 1) (by decide) dX8_piecesAt_20 rfl ?_
      refine V_iload_n (i := 3) rfl rfl dX8_piecesAt_21 rfl ?_
      refine V_ishl dX8_piecesAt_22 rfl ?_
      refine V_goto (tgt := 27) dX8_piecesAt_23 (by decide) ?_
      refine V_ior dX8_piecesAt_27 rfl ?_
      refine V_istore_n (i := 2) rfl (by decide) rfl dX8_piecesAt_28 rfl ?_
      refine V_iinc1 (i := 3) rfl (by decide) rfl dX8_piecesAt_29 rfl ?_
      refine V_goto (tgt := 4) dX8_piecesAt_32 (by decide) ?_
      have h9 := ih (j + 1) (by omega)
      rw [← nI_1, show aPiF s x (j + 1) = aPiF s x j ||| (if ro s j 0 = x then 1 <<< (nI j &&& 31) else 0) from rfl] at h9
      first | (rw [if_pos h_17] at h9; exact h9) | (rw [if_neg h_17] at h9; exact h9)

set_option maxHeartbeats 4000000 in
set_option maxRecDepth 100000 in
theorem sp_piecesAt (l : Launch) (g : fw_G) {I : fw_I} {P : fw_P} {s : Nat → Int32} (hM : MSh P) (x : Int32) : Sp l g kX8_piecesAt T0 [.ref (g.1 + 688), .int x] (wr I 689 s) P T0 0 0 (qI (aPi s x) (wr I 689 s) P) := by
  refine Sp.of_V (L := [some (.ref (g.1 + 688)), some (.int x), none, none]) (by decide) (by simp [Value.category]) (Nat.le_of_ble_eq_true rfl) rfl ?_
  refine V_iconst (v := 0) (by decide) dX8_piecesAt_0 rfl ?_
  refine V_istore_n (i := 2) rfl (by decide) rfl dX8_piecesAt_1 rfl ?_
  refine V_iconst (v := 0) (by decide) dX8_piecesAt_2 rfl ?_
  refine V_istore_n (i := 3) rfl (by decide) rfl dX8_piecesAt_3 rfl ?_
  exact lp_piecesAt l g hM x 4 0 rfl

theorem aSnAt_nat {s : Nat → Int32} {q : Int32} (h : ¬ aSnAt s q = -5) : ∃ k, k < 10 ∧ aSnAt s q = nI k ∧ sn s k 0 = q ∧ 0 < q := by
  rcases aSnF_cases s q 10 with h1 | h1
  · exact absurd h1 h
  · exact h1

set_option maxHeartbeats 4000000 in
set_option maxRecDepth 100000 in
theorem sp_bites (l : Launch) (g : fw_G) {I : fw_I} {P : fw_P} {s : Nat → Int32} (hM : MSh P) {p : Nat} (hp : p < 4) (x : Int32) : Sp l g kX8_bites T0 [.ref (g.1 + 688), .int (nI p), .int x] (wr I 689 s) P T0 0 0 (qJ (fun r I1 P1 => ((r = 1 ∧ aBites s p x) ∨ (r = 0 ∧ ¬ aBites s p x)) ∧ I1 = wr I 689 s ∧ P1 = P)) := by
  have a688 := at_688
  have a689 := at_689
  obtain ⟨p0, p1, p3, p5, p6, p10, p12, p13⟩ := id hM
  refine Sp.of_V (L := [some (.ref (g.1 + 688)), some (.int (nI p)), some (.int x), none]) (by decide) (by simp [Value.category]) (Nat.le_of_ble_eq_true rfl) rfl ?_
  refine V_aload_n (i := 0) rfl rfl dX8_bites_0 rfl ?_
  refine V_iload_n (i := 2) rfl rfl dX8_bites_1 rfl ?_
  refine V_call (n := 1) (sp_snakeAt l g hM x) o_X8_snakeAt m_X8_65 ⟨by decide, by decide⟩ (by assumption) rfl rfl (by first | exact Nat.le_of_ble_eq_true rfl | simp [Value.category]) (Nat.le_refl _) (Nat.le_refl _) rfl dX8_bites_2 rfl (kI ?_)
  refine V_istore_n (i := 3) rfl (by decide) rfl dX8_bites_5 rfl ?_
  refine V_iload_n (i := 3) rfl rfl dX8_bites_6 rfl ?_
  refine V_bipush (v := (-5)) (by decide) dX8_bites_7 rfl ?_
  refine V_icmp_eq (tgt := 39) dX8_bites_9 (by decide) rfl (fun h_9 => ?_) (fun h_9 => ?_)
  · refine V_iconst (v := 0) (by decide) dX8_bites_39 rfl ?_
    exact V_ireturn rfl (by decide) dX8_bites_40 rfl rfl rfl (⟨_, rfl, by first | exact Or.inl ⟨rfl, h_9, by rw [hc]; exact h_18, h_32⟩ | exact Or.inr ⟨rfl, fun h => h_32 h.2.2⟩ | exact Or.inr ⟨rfl, fun h => h_18 (by have h2 := h.2.1; rw [hc] at h2; exact h2)⟩ | exact Or.inr ⟨rfl, fun h => h.1 h_9⟩, rfl, rfl⟩)
  · obtain ⟨k, hk, hk1, hk2, hk3⟩ := aSnAt_nat h_9
    have hc : (aSnAt s x).toNatClampNeg = k := by rw [hk1]; exact nI_clamp (by omega)
    rw [hk1]
    refine V_aload_n (i := 0) rfl rfl dX8_bites_12 rfl ?_
    refine V_iload_n (i := 3) rfl rfl dX8_bites_13 rfl ?_
    refine V_iconst (v := 2) (by decide) dX8_bites_14 rfl ?_
    refine V_call (n := 2) (sp_ofSnake l g hM hk (by decide : 2 < 4)) o_X8_ofSnake m_X8_47 ⟨by decide, by decide⟩ (by assumption) rfl rfl (by first | exact Nat.le_of_ble_eq_true rfl | simp [Value.category]) (Nat.le_refl _) (Nat.le_refl _) rfl dX8_bites_15 rfl (kI ?_)
    refine V_if_ne (tgt := 39) dX8_bites_18 (by decide) rfl (fun h_18 => ?_) (fun h_18 => ?_)
    · refine V_iconst (v := 0) (by decide) dX8_bites_39 rfl ?_
      exact V_ireturn rfl (by decide) dX8_bites_40 rfl rfl rfl (⟨_, rfl, by first | exact Or.inl ⟨rfl, h_9, by rw [hc]; exact h_18, h_32⟩ | exact Or.inr ⟨rfl, fun h => h_32 h.2.2⟩ | exact Or.inr ⟨rfl, fun h => h_18 (by have h2 := h.2.1; rw [hc] at h2; exact h2)⟩ | exact Or.inr ⟨rfl, fun h => h.1 h_9⟩, rfl, rfl⟩)
    · refine V_aload_n (i := 0) rfl rfl dX8_bites_21 rfl ?_
      refine V_iload_n (i := 2) rfl rfl dX8_bites_22 rfl ?_
      refine V_call (n := 1) (sp_piecesAt l g hM x) o_X8_piecesAt m_X8_68 ⟨by decide, by decide⟩ (by assumption) rfl rfl (by first | exact Nat.le_of_ble_eq_true rfl | simp [Value.category]) (Nat.le_refl _) (Nat.le_refl _) rfl dX8_bites_23 rfl (kI ?_)
      refine V_iconst (v := 1) (by decide) dX8_bites_26 rfl ?_
      refine V_iload_n (i := 1) rfl rfl dX8_bites_27 rfl ?_
      refine V_ishl dX8_bites_28 rfl ?_
      refine V_iconst (v := (-1)) (by decide) dX8_bites_29 rfl ?_
      refine V_ixor dX8_bites_30 rfl ?_
      refine V_iand dX8_bites_31 rfl ?_
      refine V_if_ne (tgt := 39) dX8_bites_32 (by decide) rfl (fun h_32 => ?_) (fun h_32 => ?_)
      · refine V_iconst (v := 0) (by decide) dX8_bites_39 rfl ?_
        exact V_ireturn rfl (by decide) dX8_bites_40 rfl rfl rfl (⟨_, rfl, by first | exact Or.inl ⟨rfl, h_9, by rw [hc]; exact h_18, h_32⟩ | exact Or.inr ⟨rfl, fun h => h_32 h.2.2⟩ | exact Or.inr ⟨rfl, fun h => h_18 (by have h2 := h.2.1; rw [hc] at h2; exact h2)⟩ | exact Or.inr ⟨rfl, fun h => h.1 h_9⟩, rfl, rfl⟩)
      · refine V_iconst (v := 1) (by decide) dX8_bites_35 rfl ?_
        refine V_goto (tgt := 40) dX8_bites_36 (by decide) ?_
        exact V_ireturn rfl (by decide) dX8_bites_40 rfl rfl rfl (⟨_, rfl, by first | exact Or.inl ⟨rfl, h_9, by rw [hc]; exact h_18, h_32⟩ | exact Or.inr ⟨rfl, fun h => h_32 h.2.2⟩ | exact Or.inr ⟨rfl, fun h => h_18 (by have h2 := h.2.1; rw [hc] at h2; exact h2)⟩ | exact Or.inr ⟨rfl, fun h => h.1 h_9⟩, rfl, rfl⟩)

