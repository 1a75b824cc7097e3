variable {nT : Nat}
/-! the class' search: throws to each square, the queue, how many are queued -/
abbrev sT : Type := (Nat → Int32) × (Nat → Int32) × Nat
def mS (I : fw_I) (σ : sT) : fw_I := wr (wr (up2 I 685 2 (nI σ.2.2)) 686 σ.1) 687 σ.2.1
theorem mS_n (I : fw_I) (σ : sT) : mS I σ 685 2 = nI σ.2.2 := by unfold mS; rw [wr_ne _ _ (by decide), wr_ne _ _ (by decide), up2_same]
theorem mS_t (I : fw_I) (σ : sT) : mS I σ 686 = σ.1 := by unfold mS; rw [wr_ne _ _ (by decide), wr_at]
theorem mS_q (I : fw_I) (σ : sT) : mS I σ 687 = σ.2.1 := by unfold mS; rw [wr_at]
theorem mS_ne (I : fw_I) (σ : sT) {b : Nat} (h : b < 685 ∨ 688 ≤ b) : mS I σ b = I b := by unfold mS; rw [wr_ne _ _ (by omega), wr_ne _ _ (by omega), up2_ne _ _ _ (by omega)]
theorem mS_ut (I : fw_I) (t q : Nat → Int32) (n : Nat) (j : Nat) (x : Int32) : up2 (mS I (t, q, n)) 686 j x = mS I (upd t j x, q, n) := by
  funext b
  by_cases h : b = 686
  · subst h; rw [up2_row, mS_t, mS_t]; rfl
  · rw [up2_ne _ _ _ h]
    by_cases h2 : b = 687
    · subst h2; rw [mS_q, mS_q]
    · unfold mS; rw [wr_ne _ _ h2, wr_ne _ _ h, wr_ne _ _ h2, wr_ne _ _ h]
theorem mS_uq (I : fw_I) (t q : Nat → Int32) (n : Nat) (j : Nat) (x : Int32) : up2 (mS I (t, q, n)) 687 j x = mS I (t, upd q j x, n) := by
  unfold mS
  rw [up2_wr]
theorem mS_un (I : fw_I) (t q : Nat → Int32) (n m : Nat) : up2 (mS I (t, q, n)) 685 2 (nI m) = mS I (t, q, m) := by
  funext b
  by_cases h : b = 685
  · subst h
    unfold mS
    rw [up2_row, wr_ne _ _ (by decide), wr_ne _ _ (by decide), wr_ne _ _ (by decide), wr_ne _ _ (by decide), up2_row, up2_row]
    funext j
    by_cases e : j = 2
    · simp [e]
    · simp [e]
  · rw [up2_ne _ _ _ h]
    unfold mS
    by_cases h2 : b = 687
    · subst h2; rw [wr_at, wr_at]
    · by_cases h3 : b = 686
      · subst h3; rw [wr_ne _ _ h2, wr_at, wr_ne _ _ h2, wr_at]
      · rw [wr_ne _ _ h2, wr_ne _ _ h3, wr_ne _ _ h2, wr_ne _ _ h3, up2_ne _ _ _ h, up2_ne _ _ _ h]
def seF (σ : sT) (x st : Int32) : sT := if (0 ≤ x ∧ x < 61) ∧ σ.1 x.toNatClampNeg = -1 then (if σ.2.2 < 61 then (upd σ.1 x.toNatClampNeg st, upd σ.2.1 σ.2.2 x, σ.2.2 + 1) else (upd σ.1 x.toNatClampNeg st, σ.2.1, σ.2.2)) else σ
theorem seF_le {σ : sT} (h : σ.2.2 ≤ 61) (x st : Int32) : (seF σ x st).2.2 ≤ 61 := by
  unfold seF
  split
  · split
    · show σ.2.2 + 1 ≤ 61; omega
    · exact h
  · exact h
def thA (σ : sT) (x : Int32) : Int32 := if 0 ≤ x ∧ x < 61 then σ.1 x.toNatClampNeg else -5
def flF (t : Nat → Int32) (j : Nat) : Nat → Int32 := fun i => if i < j then -1 else t i
theorem flF_s (t : Nat → Int32) (j : Nat) : upd (flF t j) j (-1) = flF t (j + 1) := by
  funext i
  unfold flF
  rw [upd_at]
  by_cases e : i = j
  · rw [if_pos e, if_pos (by omega)]
  · rw [if_neg e]
    by_cases h : i < j
    · rw [if_pos h, if_pos (by omega)]
    · rw [if_neg h, if_neg (by omega)]
theorem flF_0 (t : Nat → Int32) : flF t 0 = t := rfl
def stF (σ : sT) (x : Int32) : sT := seF (flF σ.1 61, σ.2.1, 0) x 0
def sbF (σ : sT) (l st : Int32) : Nat → sT
  | 0 => σ
  | d + 1 => seF (seF (sbF σ l st d) (l - nI (d + 1)) st) (120 - l - nI (d + 1)) st
theorem sbF_le {σ : sT} (h : σ.2.2 ≤ 61) (l st : Int32) : ∀ d, (sbF σ l st d).2.2 ≤ 61
  | 0 => h
  | d + 1 => seF_le (seF_le (sbF_le h l st d) _ _) _ _
set_option maxHeartbeats 4000000 in
set_option maxRecDepth 100000 in
theorem sp_throwsAt (l : Launch) (g : fw_G) {I : fw_I} {P : fw_P} (hS : CSh P) (σ : sT) (x : Int32) : Sp l g kX5_throwsAt (T0 nT) [.ref (g.1 + 685), .int x] (mS I σ) P (T0 nT) 0 0 (qI (thA σ x) (mS I σ) P) := by
  have a685 := (at_685 (nT := nT))
  have a686 := (at_686 (nT := nT))
  have a687 := (at_687 (nT := nT))
  have z0 : P 685 0 = some 686 := hS.2.2.2.2.2.2.2.2.2.2.2.1
  have z1 : P 685 1 = some 687 := hS.2.2.2.2.2.2.2.2.2.2.2.2
  refine Sp.of_V (L := [some (.ref (g.1 + 685)), some (.int x)]) (by decide) (by simp [Value.category]) (Nat.le_of_ble_eq_true rfl) rfl ?_
  refine V_iload_n (i := 1) rfl rfl dX5_throwsAt_0 rfl ?_
  refine V_if_lt (tgt := 22) dX5_throwsAt_1 (by decide) rfl (fun h_1 => ?_) (fun h_1 => ?_)
  · refine V_bipush (v := (-5)) (by decide) dX5_throwsAt_22 rfl ?_
    exact V_ireturn rfl rfl dX5_throwsAt_24 rfl rfl rfl (qI.of (by unfold thA; first | exact (by rw [if_pos ⟨nI_pos' (by omega), Int32.not_le.mp h_10⟩, nI_clamp (by omega)]) | exact (if_neg (fun z => absurd z.1 (Int32.not_le.mpr h_1))).symm | exact (if_neg (fun z => absurd z.2 (Int32.not_lt.mpr h_10))).symm))
  · refine V_iload_n (i := 1) rfl rfl dX5_throwsAt_4 rfl ?_
    refine V_aload_n (i := 0) rfl rfl dX5_throwsAt_5 rfl ?_
    refine V_getr (kf := 0) C5 (by decide) l_X5_9 (by assumption) rfl (by assumption) dX5_throwsAt_6 rfl ?_
    refine V_alen (kd := 9) (by decide) (by assumption) dX5_throwsAt_9 rfl ?_
    refine V_icmp_ge (tgt := 22) dX5_throwsAt_10 (by decide) rfl (fun h_10 => ?_) (fun h_10 => ?_)
    · refine V_bipush (v := (-5)) (by decide) dX5_throwsAt_22 rfl ?_
      exact V_ireturn rfl rfl dX5_throwsAt_24 rfl rfl rfl (qI.of (by unfold thA; first | exact (by rw [if_pos ⟨nI_pos' (by omega), Int32.not_le.mp h_10⟩, nI_clamp (by omega)]) | exact (if_neg (fun z => absurd z.1 (Int32.not_le.mpr h_1))).symm | exact (if_neg (fun z => absurd z.2 (Int32.not_lt.mpr h_10))).symm))
    · obtain ⟨k, hk, rfl⟩ := nI_of h_1
      have hk61 := (nI_ltI hk (by decide)).mp (Int32.not_le.mp h_10)
      refine V_aload_n (i := 0) rfl rfl dX5_throwsAt_13 rfl ?_
      refine V_getr (kf := 0) C5 (by decide) l_X5_9 (by assumption) rfl (by assumption) dX5_throwsAt_14 rfl ?_
      refine V_iload_n (i := 1) rfl rfl dX5_throwsAt_17 rfl ?_
      refine V_iald (by assumption) (fw_ix_nI hk61 (by decide)) dX5_throwsAt_18 rfl ?_
      rw [mS_t]
      refine V_goto (tgt := 24) dX5_throwsAt_19 (by decide) ?_
      exact V_ireturn rfl rfl dX5_throwsAt_24 rfl rfl rfl (qI.of (by unfold thA; first | exact (by rw [if_pos ⟨nI_pos' (by omega), Int32.not_le.mp h_10⟩, nI_clamp (by omega)]) | exact (if_neg (fun z => absurd z.1 (Int32.not_le.mpr h_1))).symm | exact (if_neg (fun z => absurd z.2 (Int32.not_lt.mpr h_10))).symm))

set_option maxHeartbeats 4000000 in
set_option maxRecDepth 100000 in
theorem sp_see (l : Launch) (g : fw_G) {I : fw_I} {P : fw_P} (hS : CSh P) (σ : sT) (hn : σ.2.2 ≤ 61) (x st : Int32) : Sp l g kX5_see (T0 nT) [.ref (g.1 + 685), .int x, .int st] (mS I σ) P (T0 nT) 0 0 (qV (fun I1 P1 => I1 = mS I (seF σ x st) ∧ P1 = P)) := by
  have a685 := (at_685 (nT := nT))
  have a686 := (at_686 (nT := nT))
  have a687 := (at_687 (nT := nT))
  have z0 : P 685 0 = some 686 := hS.2.2.2.2.2.2.2.2.2.2.2.1
  have z1 : P 685 1 = some 687 := hS.2.2.2.2.2.2.2.2.2.2.2.2
  obtain ⟨t, q, n⟩ := σ
  have hn : n ≤ 61 := hn
  refine Sp.of_V (L := [some (.ref (g.1 + 685)), some (.int x), some (.int st)]) (by decide) (by simp [Value.category]) (Nat.le_of_ble_eq_true rfl) rfl ?_
  refine V_iload_n (i := 1) rfl rfl dX5_see_0 rfl ?_
  refine V_if_lt (tgt := 23) dX5_see_1 (by decide) rfl (fun h_1 => ?_) (fun h_1 => ?_)
  · exact V_return rfl dX5_see_23 rfl rfl rfl (⟨rfl, by unfold seF; first | exact (by rw [if_neg (fun z => absurd z.1.1 (Int32.not_le.mpr h_1))]) | exact (by rw [if_neg (fun z => absurd z.1.2 (Int32.not_lt.mpr h_10))]) | exact (by rw [if_neg (fun z => h_20 (by have := z.2; rwa [hck] at this))]), rfl⟩)
  · refine V_iload_n (i := 1) rfl rfl dX5_see_4 rfl ?_
    refine V_aload_n (i := 0) rfl rfl dX5_see_5 rfl ?_
    refine V_getr (kf := 0) C5 (by decide) l_X5_9 (by assumption) rfl (by assumption) dX5_see_6 rfl ?_
    refine V_alen (kd := 9) (by decide) (by assumption) dX5_see_9 rfl ?_
    refine V_icmp_ge (tgt := 23) dX5_see_10 (by decide) rfl (fun h_10 => ?_) (fun h_10 => ?_)
    · exact V_return rfl dX5_see_23 rfl rfl rfl (⟨rfl, by unfold seF; first | exact (by rw [if_neg (fun z => absurd z.1.1 (Int32.not_le.mpr h_1))]) | exact (by rw [if_neg (fun z => absurd z.1.2 (Int32.not_lt.mpr h_10))]) | exact (by rw [if_neg (fun z => h_20 (by have := z.2; rwa [hck] at this))]), rfl⟩)
    · obtain ⟨k, hk, rfl⟩ := nI_of h_1
      have hk61 := (nI_ltI hk (by decide)).mp (Int32.not_le.mp h_10)
      have hck : (nI k).toNatClampNeg = k := nI_clamp (by omega)
      have hin : 0 ≤ nI k ∧ nI k < 61 := ⟨nI_pos' (by omega), Int32.not_le.mp h_10⟩
      refine V_aload_n (i := 0) rfl rfl dX5_see_13 rfl ?_
      refine V_getr (kf := 0) C5 (by decide) l_X5_9 (by assumption) rfl (by assumption) dX5_see_14 rfl ?_
      refine V_iload_n (i := 1) rfl rfl dX5_see_17 rfl ?_
      refine V_iald (by assumption) (fw_ix_nI hk61 (by decide)) dX5_see_18 rfl ?_
      rw [mS_t]
      refine V_iconst (v := (-1)) (by decide) dX5_see_19 rfl ?_
      refine V_icmp_eq (tgt := 24) dX5_see_20 (by decide) rfl (fun h_20 => ?_) (fun h_20 => ?_)
      · refine V_aload_n (i := 0) rfl rfl dX5_see_24 rfl ?_
        refine V_getr (kf := 0) C5 (by decide) l_X5_9 (by assumption) rfl (by assumption) dX5_see_25 rfl ?_
        refine V_iload_n (i := 1) rfl rfl dX5_see_28 rfl ?_
        refine V_iload_n (i := 2) rfl rfl dX5_see_29 rfl ?_
        refine V_iast (by assumption) (fw_ix_nI hk61 (by decide)) dX5_see_30 rfl ?_
        rw [mS_ut]
        refine V_aload_n (i := 0) rfl rfl dX5_see_31 rfl ?_
        refine V_get (kf := 2) C5 (by decide) l_X5_22 (by assumption) rfl dX5_see_32 rfl ?_
        rw [mS_n]
        refine V_if_lt (tgt := 70) dX5_see_35 (by decide) rfl (fun h => absurd h (nI_pos (show n < 2 ^ 31 by omega))) (fun _ => ?_)
        refine V_aload_n (i := 0) rfl rfl dX5_see_38 rfl ?_
        refine V_get (kf := 2) C5 (by decide) l_X5_22 (by assumption) rfl dX5_see_39 rfl ?_
        rw [mS_n]
        refine V_aload_n (i := 0) rfl rfl dX5_see_42 rfl ?_
        refine V_getr (kf := 1) C5 (by decide) l_X5_15 (by assumption) rfl (by assumption) dX5_see_43 rfl ?_
        refine V_alen (kd := 9) (by decide) (by assumption) dX5_see_46 rfl ?_
        refine V_icmp_ge (tgt := 70) dX5_see_47 (by decide) rfl (fun h_47 => ?_) (fun h_47 => ?_)
        · first | rw [mS_un] | skip
          exact V_return rfl dX5_see_70 rfl rfl rfl (⟨rfl, by unfold seF; rw [if_pos ⟨hin, by rw [hck]; exact h_20⟩, hck]; show _ = mS I (if n < 61 then (upd t k st, upd q n (nI k), n + 1) else (upd t k st, q, n)); first | exact (by rw [if_pos ((nI_ltI (a := n) (b := 61) (by omega) (by decide)).mp (Int32.not_le.mp h_47))]) | exact (by rw [if_neg (fun z => absurd (nI_lt (a := n) (b := 61) z (by decide)) (Int32.not_lt.mpr h_47))]), rfl⟩)
        · refine V_aload_n (i := 0) rfl rfl dX5_see_50 rfl ?_
          refine V_getr (kf := 1) C5 (by decide) l_X5_15 (by assumption) rfl (by assumption) dX5_see_51 rfl ?_
          refine V_aload_n (i := 0) rfl rfl dX5_see_54 rfl ?_
          refine V_get (kf := 2) C5 (by decide) l_X5_22 (by assumption) rfl dX5_see_55 rfl ?_
          rw [mS_n]
          refine V_iload_n (i := 1) rfl rfl dX5_see_58 rfl ?_
          refine V_iast (by assumption) (fw_ix_nI (j := n) ((nI_ltI (a := n) (b := 61) (by omega) (by decide)).mp (Int32.not_le.mp h_47)) (by decide)) dX5_see_59 rfl ?_
          rw [mS_uq]
          refine V_aload_n (i := 0) rfl rfl dX5_see_60 rfl ?_
          refine V_dup (by first | rfl | simp [Value.category]) dX5_see_61 rfl ?_
          refine V_get (kf := 2) C5 (by decide) l_X5_22 (by assumption) rfl dX5_see_62 rfl ?_
          rw [mS_n]
          refine V_iconst (v := 1) (by decide) dX5_see_65 rfl ?_
          refine V_iadd dX5_see_66 rfl ?_
          rw [nI_1]
          refine V_puti (kf := 2) C5 (by decide) rfl l_X5_22 rfl rfl rfl rfl (by assumption) dX5_see_67 rfl ?_
          first | rw [mS_un] | skip
          exact V_return rfl dX5_see_70 rfl rfl rfl (⟨rfl, by unfold seF; rw [if_pos ⟨hin, by rw [hck]; exact h_20⟩, hck]; show _ = mS I (if n < 61 then (upd t k st, upd q n (nI k), n + 1) else (upd t k st, q, n)); first | exact (by rw [if_pos ((nI_ltI (a := n) (b := 61) (by omega) (by decide)).mp (Int32.not_le.mp h_47))]) | exact (by rw [if_neg (fun z => absurd (nI_lt (a := n) (b := 61) z (by decide)) (Int32.not_lt.mpr h_47))]), rfl⟩)
      · exact V_return rfl dX5_see_23 rfl rfl rfl (⟨rfl, by unfold seF; first | exact (by rw [if_neg (fun z => absurd z.1.1 (Int32.not_le.mpr h_1))]) | exact (by rw [if_neg (fun z => absurd z.1.2 (Int32.not_lt.mpr h_10))]) | exact (by rw [if_neg (fun z => h_20 (by have := z.2; rwa [hck] at this))]), rfl⟩)

set_option maxHeartbeats 4000000 in
set_option maxRecDepth 100000 in
theorem lp_start (l : Launch) (g : fw_G) {I : fw_I} {P : fw_P} (hS : CSh P) (t q : Nat → Int32) (n : Nat) (x : Int32) : ∀ (m j : Nat), j + m = 61 → V l g kX5_start (T0 nT) 0 0 (qV (fun I1 P1 => I1 = mS I (stF (t, q, n) x) ∧ P1 = P)) (T0 nT) (mS I (flF t j, q, n)) P 0 0 2 [some (.ref (g.1 + 685)), some (.int x), some (.int (nI j))] [] := by
  have a685 := (at_685 (nT := nT))
  have a686 := (at_686 (nT := nT))
  have a687 := (at_687 (nT := nT))
  have z0 : P 685 0 = some 686 := hS.2.2.2.2.2.2.2.2.2.2.2.1
  have z1 : P 685 1 = some 687 := hS.2.2.2.2.2.2.2.2.2.2.2.2
  intro m
  induction m with
  | zero =>
    intro j hj
    obtain rfl : j = 61 := by omega
    refine V_iload_n (i := 2) rfl rfl dX5_start_2 rfl ?_
    refine V_aload_n (i := 0) rfl rfl dX5_start_3 rfl ?_
    refine V_getr (kf := 0) C5 (by decide) l_X5_9 (by assumption) rfl (by assumption) dX5_start_4 rfl ?_
    refine V_alen (kd := 9) (by decide) (by assumption) dX5_start_7 rfl ?_
    refine V_icmp_ge (tgt := 24) dX5_start_8 (by decide) rfl (fun _ => ?_) (fun h => absurd (by decide) h)
    refine V_aload_n (i := 0) rfl rfl dX5_start_24 rfl ?_
    refine V_iconst (v := 0) (by decide) dX5_start_25 rfl ?_
    refine V_puti (kf := 2) C5 (by decide) rfl l_X5_22 rfl rfl rfl rfl (by assumption) dX5_start_26 rfl ?_
    rw [show mS I (flF t 61, q, n) = mS I (flF t 61, q, n) from rfl, show (0 : Int32) = nI 0 from rfl, mS_un]
    refine V_aload_n (i := 0) rfl rfl dX5_start_29 rfl ?_
    refine V_iload_n (i := 1) rfl rfl dX5_start_30 rfl ?_
    refine V_iconst (v := 0) (by decide) dX5_start_31 rfl ?_
    refine V_call (n := 2) (sp_see l g hS (flF t 61, q, 0) (Nat.zero_le 61) x 0) o_X5_see m_X5_39 ⟨by decide, by decide⟩ (by assumption) rfl rfl (by first | exact Nat.le_of_ble_eq_true rfl | simp [Value.category]) (Nat.le_refl _) (Nat.le_refl _) rfl dX5_start_32 rfl (kW ?_)
    exact V_return rfl dX5_start_35 rfl rfl rfl (⟨rfl, rfl, rfl⟩)
  | succ m ih =>
    intro j hj
    have hjn : j < 61 := by omega
    refine V_iload_n (i := 2) rfl rfl dX5_start_2 rfl ?_
    refine V_aload_n (i := 0) rfl rfl dX5_start_3 rfl ?_
    refine V_getr (kf := 0) C5 (by decide) l_X5_9 (by assumption) rfl (by assumption) dX5_start_4 rfl ?_
    refine V_alen (kd := 9) (by decide) (by assumption) dX5_start_7 rfl ?_
    refine V_icmp_ge (tgt := 24) dX5_start_8 (by decide) rfl (fun h => absurd h (nI_ge (b := 61) hjn (by decide))) (fun _ => ?_)
    refine V_aload_n (i := 0) rfl rfl dX5_start_11 rfl ?_
    refine V_getr (kf := 0) C5 (by decide) l_X5_9 (by assumption) rfl (by assumption) dX5_start_12 rfl ?_
    refine V_iload_n (i := 2) rfl rfl dX5_start_15 rfl ?_
    refine V_iconst (v := (-1)) (by decide) dX5_start_16 rfl ?_
    refine V_iast (by assumption) (fw_ix_nI hjn (by decide)) dX5_start_17 rfl ?_
    refine V_iinc1 (i := 2) rfl (by decide) rfl dX5_start_18 rfl ?_
    refine V_goto (tgt := 2) dX5_start_21 (by decide) ?_
    have h9 := ih (j + 1) (by omega)
    rw [← nI_1, ← flF_s] at h9
    refine V_mem (mS_ut I (flF t j) q n j (-1)) ?_
    exact h9

set_option maxHeartbeats 4000000 in
set_option maxRecDepth 100000 in
theorem sp_start (l : Launch) (g : fw_G) {I : fw_I} {P : fw_P} (hS : CSh P) (σ : sT) (x : Int32) : Sp l g kX5_start (T0 nT) [.ref (g.1 + 685), .int x] (mS I σ) P (T0 nT) 0 0 (qV (fun I1 P1 => I1 = mS I (stF σ x) ∧ P1 = P)) := by
  have a685 := (at_685 (nT := nT))
  have a686 := (at_686 (nT := nT))
  have a687 := (at_687 (nT := nT))
  have z0 : P 685 0 = some 686 := hS.2.2.2.2.2.2.2.2.2.2.2.1
  have z1 : P 685 1 = some 687 := hS.2.2.2.2.2.2.2.2.2.2.2.2
  obtain ⟨t, q, n⟩ := σ
  refine Sp.of_V (L := [some (.ref (g.1 + 685)), some (.int x), none]) (by decide) (by simp [Value.category]) (Nat.le_of_ble_eq_true rfl) rfl ?_
  refine V_iconst (v := 0) (by decide) dX5_start_0 rfl ?_
  refine V_istore_n (i := 2) rfl (by decide) rfl dX5_start_1 rfl ?_
  exact lp_start l g hS t q n x 61 0 rfl

set_option maxHeartbeats 4000000 in
set_option maxRecDepth 100000 in
theorem lp_before (l : Launch) (g : fw_G) {I : fw_I} {P : fw_P} (hS : CSh P) (σ : sT) (hn : σ.2.2 ≤ 61) (x st : Int32) : ∀ (m j : Nat), j + m = 6 → V l g kX5_seeSquaresBefore (T0 nT) 0 0 (qV (fun I1 P1 => I1 = mS I (sbF σ x st 6) ∧ P1 = P)) (T0 nT) (mS I (sbF σ x st j)) P 0 0 2 [some (.ref (g.1 + 685)), some (.int x), some (.int st), some (.int (nI (j + 1)))] [] := by
  have a685 := (at_685 (nT := nT))
  have a686 := (at_686 (nT := nT))
  have a687 := (at_687 (nT := nT))
  have z0 : P 685 0 = some 686 := hS.2.2.2.2.2.2.2.2.2.2.2.1
  have z1 : P 685 1 = some 687 := hS.2.2.2.2.2.2.2.2.2.2.2.2
  intro m
  induction m with
  | zero =>
    intro j hj
    obtain rfl : j = 6 := by omega
    refine V_iload_n (i := 3) rfl rfl dX5_seeSquaresBefore_2 rfl ?_
    refine V_bipush (v := 6) (by decide) dX5_seeSquaresBefore_3 rfl ?_
    refine V_icmp_gt (tgt := 33) dX5_seeSquaresBefore_5 (by decide) rfl (fun _ => ?_) (fun h => absurd (by decide) h)
    exact V_return rfl dX5_seeSquaresBefore_33 rfl rfl rfl (⟨rfl, rfl, rfl⟩)
  | succ m ih =>
    intro j hj
    have hjn : j < 6 := by omega
    refine V_iload_n (i := 3) rfl rfl dX5_seeSquaresBefore_2 rfl ?_
    refine V_bipush (v := 6) (by decide) dX5_seeSquaresBefore_3 rfl ?_
    refine V_icmp_gt (tgt := 33) dX5_seeSquaresBefore_5 (by decide) rfl (fun h => absurd h (dg6 hjn)) (fun _ => ?_)
    refine V_aload_n (i := 0) rfl rfl dX5_seeSquaresBefore_8 rfl ?_
    refine V_iload_n (i := 1) rfl rfl dX5_seeSquaresBefore_9 rfl ?_
    refine V_iload_n (i := 3) rfl rfl dX5_seeSquaresBefore_10 rfl ?_
    refine V_isub dX5_seeSquaresBefore_11 rfl ?_
    refine V_iload_n (i := 2) rfl rfl dX5_seeSquaresBefore_12 rfl ?_
    refine V_call (n := 2) (sp_see l g hS (sbF σ x st j) (sbF_le hn x st j) (x - nI (j + 1)) st) o_X5_see m_X5_39 ⟨by decide, by decide⟩ (by assumption) rfl rfl (by first | exact Nat.le_of_ble_eq_true rfl | simp [Value.category]) (Nat.le_refl _) (Nat.le_refl _) rfl dX5_seeSquaresBefore_13 rfl (kW ?_)
    refine V_aload_n (i := 0) rfl rfl dX5_seeSquaresBefore_16 rfl ?_
    refine V_bipush (v := 120) (by decide) dX5_seeSquaresBefore_17 rfl ?_
    refine V_iload_n (i := 1) rfl rfl dX5_seeSquaresBefore_19 rfl ?_
    refine V_isub dX5_seeSquaresBefore_20 rfl ?_
    refine V_iload_n (i := 3) rfl rfl dX5_seeSquaresBefore_21 rfl ?_
    refine V_isub dX5_seeSquaresBefore_22 rfl ?_
    refine V_iload_n (i := 2) rfl rfl dX5_seeSquaresBefore_23 rfl ?_
    refine V_call (n := 2) (sp_see l g hS _ (seF_le (sbF_le hn x st j) (x - nI (j + 1)) st) (120 - x - nI (j + 1)) st) o_X5_see m_X5_39 ⟨by decide, by decide⟩ (by assumption) rfl rfl (by first | exact Nat.le_of_ble_eq_true rfl | simp [Value.category]) (Nat.le_refl _) (Nat.le_refl _) rfl dX5_seeSquaresBefore_24 rfl (kW ?_)
    refine V_iinc1 (i := 3) rfl (by decide) rfl dX5_seeSquaresBefore_27 rfl ?_
    refine V_goto (tgt := 2) dX5_seeSquaresBefore_30 (by decide) ?_
    have h9 := ih (j + 1) (by omega)
    rw [← nI_1 (j + 1)] at h9
    exact h9

set_option maxHeartbeats 4000000 in
set_option maxRecDepth 100000 in
theorem sp_before (l : Launch) (g : fw_G) {I : fw_I} {P : fw_P} (hS : CSh P) (σ : sT) (hn : σ.2.2 ≤ 61) (x st : Int32) : Sp l g kX5_seeSquaresBefore (T0 nT) [.ref (g.1 + 685), .int x, .int st] (mS I σ) P (T0 nT) 0 0 (qV (fun I1 P1 => I1 = mS I (sbF σ x st 6) ∧ P1 = P)) := by
  have a685 := (at_685 (nT := nT))
  have a686 := (at_686 (nT := nT))
  have a687 := (at_687 (nT := nT))
  have z0 : P 685 0 = some 686 := hS.2.2.2.2.2.2.2.2.2.2.2.1
  have z1 : P 685 1 = some 687 := hS.2.2.2.2.2.2.2.2.2.2.2.2
  refine Sp.of_V (L := [some (.ref (g.1 + 685)), some (.int x), some (.int st), none]) (by decide) (by simp [Value.category]) (Nat.le_of_ble_eq_true rfl) rfl ?_
  refine V_iconst (v := 1) (by decide) dX5_seeSquaresBefore_0 rfl ?_
  refine V_istore_n (i := 3) rfl (by decide) rfl dX5_seeSquaresBefore_1 rfl ?_
  exact lp_before l g hS σ hn x st 6 0 rfl
