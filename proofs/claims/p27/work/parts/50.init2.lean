variable {nT : Nat}
/-! Race(), Past(), Script(), Search() -/
theorem PcN.frame {pa : Nat} {J K : fw_I} {P Q : fw_P} (h : PcN pa J P) (e1 : K pa = J pa) (e2 : Q pa = P pa) (e3 : Q (pa + 1) = P (pa + 1)) : PcN pa K Q := by
  unfold PcN at h ⊢
  rw [e1, e2, e3]
  exact h
def RcN (ra : Nat) (J : fw_I) (PJ : fw_P) : Prop := RSh PJ ra ∧ RRel J PJ ra r0 ∧ Mv J ra r0
def RcL (I : fw_I) (P : fw_P) (ra i : Nat) (J : fw_I) (PJ : fw_P) : Prop := Fb I P ra J PJ ∧ (∀ f, J ra f = 0) ∧ PJ ra 0 = some (ra + 1) ∧ ∀ p, p < i → PJ (ra + 1) p = some (ra + 2 + 18 * p) ∧ PcN (ra + 2 + 18 * p) J PJ
def RcS (I : fw_I) (P : fw_P) (ra i : Nat) (J : fw_I) (PJ : fw_P) : Prop := RcL I P ra 4 J PJ ∧ PJ ra 1 = some (ra + 74) ∧ ∀ j, j < i → PJ (ra + 74) j = some (ra + 75 + j) ∧ ∀ f, J (ra + 75 + j) f = 0
theorem pcv_r0 : ∀ p, p < 4 → pcv r0 p 1 = 0 ∧ pcv r0 p 2 = 0 ∧ pcv r0 p 3 = 10 ∧ pcv r0 p 4 = -5 ∧ pcv r0 p 5 = 0 ∧ pcv r0 p 6 = 0 ∧ aMany r0 p = 0 := by decide +kernel
theorem rcv_r0 : rcv r0 2 = 2 ∧ rcv r0 3 = 20 ∧ rcv r0 4 = 2 ∧ rcv r0 6 = 0 ∧ rcv r0 7 = 0 ∧ rcv r0 8 = 0 ∧ rcv r0 9 = 0 := by decide +kernel
theorem sn_r0 : ∀ i, i < 10 → sn r0 i 0 = 0 ∧ sn r0 i 2 = 0 := by decide +kernel
theorem RcS.done {I : fw_I} {P : fw_P} {ra : Nat} {J : fw_I} {PJ : fw_P} (h : RcS I P ra 10 J PJ) : Fb I P ra (up2 (up2 (up2 J ra 2 2) ra 3 20) ra 4 2) PJ ∧ RcN ra (up2 (up2 (up2 J ra 2 2) ra 3 20) ra 4 2) PJ := by
  obtain ⟨⟨h1, h2, h3, h4⟩, h5, h6⟩ := h
  have hne : ∀ b, b ≠ ra → up2 (up2 (up2 J ra 2 2) ra 3 20) ra 4 2 b = J b := fun b hb => by rw [up2_ne _ _ _ hb, up2_ne _ _ _ hb, up2_ne _ _ _ hb]
  refine ⟨fun b hb => ⟨(hne b (by omega)).trans (h1 b hb).1, (h1 b hb).2⟩, ⟨h3, h5, fun p hp => (h4 p hp).1, fun p hp => ?_, fun p hp k hk => ⟨k, hk, ?_⟩, fun p hp j k hj hk e => ?_, fun i hi => (h6 i hi).1⟩, ⟨fun p hp f f1 f7 => ?_, fun p hp k _ hk => ?_, fun i hi => ?_, fun f f2 f10 f5 => ?_⟩, ?_⟩
  · have := (h4 p hp).2.2.1
    rw [show ra + 2 + 18 * p + 1 = ra + 3 + 18 * p from by omega] at this
    exact this
  · have := (h4 p hp).2.2.2 k hk
    rw [show ra + 2 + 18 * p + 1 = ra + 3 + 18 * p from by omega, show ra + 2 + 18 * p + 2 + k = ra + 4 + 18 * p + k from by omega] at this
    exact this
  · have a1 := (h4 p hp).2.2.2 j hj
    have a2 := (h4 p hp).2.2.2 k hk
    rw [show ra + 2 + 18 * p + 1 = ra + 3 + 18 * p from by omega] at a1 a2
    rw [a1, a2] at e
    have := Option.some.inj e
    omega
  · rw [hne _ (by omega)]
    obtain ⟨c1, c2, c3, c4, c5, c6, -⟩ := pcv_r0 p hp
    obtain ⟨d1, d2, d3, d4, d5, d6⟩ := (h4 p hp).2.1
    rcases (show f = 1 ∨ f = 2 ∨ f = 3 ∨ f = 4 ∨ f = 5 ∨ f = 6 by omega) with rfl | rfl | rfl | rfl | rfl | rfl
    · rw [c1, d1]
    · rw [c2, d2]
    · rw [c3, d3]
    · rw [c4, d4]
    · rw [c5, d5]
    · rw [c6, d6]
  · rw [(pcv_r0 p hp).2.2.2.2.2.2] at hk; omega
  · obtain ⟨e0, e2⟩ := sn_r0 i hi
    rw [hne _ (by omega), e0, e2]
    exact ⟨(h6 i hi).2 0, (h6 i hi).2 2, fun z => absurd rfl z⟩
  · obtain ⟨c2, c3, c4, c6, c7, c8, c9⟩ := rcv_r0
    rcases (show f = 2 ∨ f = 3 ∨ f = 4 ∨ f = 6 ∨ f = 7 ∨ f = 8 ∨ f = 9 by omega) with rfl | rfl | rfl | rfl | rfl | rfl | rfl
    · rw [c2]; simp [up2_at]
    · rw [c3]; simp [up2_at]
    · rw [c4]; simp [up2_at]
    · rw [c6]; simp [up2_at, h2]
    · rw [c7]; simp [up2_at, h2]
    · rw [c8]; simp [up2_at, h2]
    · rw [c9]; simp [up2_at, h2]
  · unfold Mv
    rw [show r0 4 = 0 from by decide +kernel, if_neg (by decide), show r0 1 = 0 from by decide +kernel]
    simp [up2_at, h2]
theorem lt_4i {i : Nat} (h : i < 4) : ¬ nI 4 ≤ nI i := nI_ge h (by decide)
theorem lt_10i {i : Nat} (h : i < 10) : ¬ nI 10 ≤ nI i := nI_ge h (by decide)
theorem lt_5i {i : Nat} (h : i < 5) : ¬ nI 5 ≤ nI i := nI_ge h (by decide)
set_option maxHeartbeats 4000000 in
set_option maxRecDepth 100000 in
theorem li_Race2 (l : Launch) (g : fw_G) {I : fw_I} {P : fw_P} {ra : Nat} (hr : isRc ra) : ∀ (m i : Nat), i + m = 10 → ∀ J PJ, RcS I P ra i J PJ → V l g kX3_init (ra + 85, tt) 84 402 (qV (fun I1 P1 => Fb I P ra I1 P1 ∧ RcN ra I1 P1)) (ra + 75 + i, tt) J PJ (74 + i) (362 + 4 * i) 53 [some (.ref (g.1 + ra)), some (.int (nI i))] [] := by
  intro m
  induction m with
  | zero =>
    intro i hi J PJ hJ
    obtain rfl : i = 10 := by omega
    have hra : fw_at (ra + 75 + 10, tt) ra 3 0 := ⟨by show ra < ra + 75 + 10; omega, (at_race (nT := 0) hr).2⟩
    have hsa : fw_at (ra + 75 + 10, tt) (ra + 74) 14 10 := ⟨by show ra + 74 < ra + 75 + 10; omega, (at_snakes (nT := 0) hr).2⟩
    refine V_iload_n (i := 1) rfl rfl dX3_init_53 rfl ?_
    refine V_aload_n (i := 0) rfl rfl dX3_init_54 rfl ?_
    refine V_getr (kf := 1) C3 (by decide) l_X3_20 hra rfl hJ.2.1 dX3_init_55 rfl ?_
    refine V_alen (kd := 14) (by decide) hsa dX3_init_58 rfl ?_
    refine V_icmp_ge (tgt := 81) dX3_init_59 (by decide) rfl (fun _ => ?_) (fun h => absurd (Int32.le_refl _) h)
    refine V_aload_n (i := 0) rfl rfl dX3_init_81 rfl ?_
    refine V_iconst (v := 2) (by decide) dX3_init_82 rfl ?_
    refine V_puti (kf := 2) C3 (by decide) rfl l_X3_25 rfl rfl rfl rfl hra dX3_init_83 rfl ?_
    refine V_aload_n (i := 0) rfl rfl dX3_init_86 rfl ?_
    refine V_bipush (v := 20) (by decide) dX3_init_87 rfl ?_
    refine V_puti (kf := 3) C3 (by decide) rfl l_X3_29 rfl rfl rfl rfl hra dX3_init_89 rfl ?_
    refine V_aload_n (i := 0) rfl rfl dX3_init_92 rfl ?_
    refine V_iconst (v := 2) (by decide) dX3_init_93 rfl ?_
    refine V_puti (kf := 4) C3 (by decide) rfl l_X3_32 rfl rfl rfl rfl hra dX3_init_94 rfl ?_
    exact V_return rfl dX3_init_97 rfl rfl rfl ⟨rfl, hJ.done⟩
  | succ m ih =>
    intro i hi J PJ hJ
    have hi10 : i < 10 := by omega
    obtain ⟨⟨h1, h2, h3, h4⟩, h5, h6⟩ := hJ
    have hra : fw_at (ra + 75 + i, tt) ra 3 0 := ⟨by show ra < ra + 75 + i; omega, (at_race (nT := 0) hr).2⟩
    have hsa : fw_at (ra + 75 + i, tt) (ra + 74) 14 10 := ⟨by show ra + 74 < ra + 75 + i; omega, (at_snakes (nT := 0) hr).2⟩
    refine V_iload_n (i := 1) rfl rfl dX3_init_53 rfl ?_
    refine V_aload_n (i := 0) rfl rfl dX3_init_54 rfl ?_
    refine V_getr (kf := 1) C3 (by decide) l_X3_20 hra rfl h5 dX3_init_55 rfl ?_
    refine V_alen (kd := 14) (by decide) hsa dX3_init_58 rfl ?_
    refine V_icmp_ge (tgt := 81) dX3_init_59 (by decide) rfl (fun h => absurd h (lt_10i hi10)) (fun _ => ?_)
    refine V_aload_n (i := 0) rfl rfl dX3_init_62 rfl ?_
    refine V_getr (kf := 1) C3 (by decide) l_X3_20 hra rfl h5 dX3_init_63 rfl ?_
    refine V_iload_n (i := 1) rfl rfl dX3_init_66 rfl ?_
    refine V_newT (at_snake (nT := 0) hr hi10).2 C6 (df6 g _) j_X3_18 in_X6 ini_X6 (by omega) (by omega) dX3_init_67 rfl ?_
    refine V_dup (by rfl) dX3_init_70 rfl ?_
    refine V_callIN (host := RX7) (n := 0) (si_Snake l g _ _) o_X6_init rfl (by decide) ⟨by decide, by decide⟩ rfl rfl (by simp [Value.category]) (by omega) (by omega) rfl dX3_init_71 rfl (kW ?_)
    refine V_aast el14 (b := ra + 75 + i) ⟨by show ra + 74 < ra + 75 + i + 1; omega, (at_snakes (nT := 0) hr).2⟩ ⟨by show ra + 75 + i < ra + 75 + i + 1; omega, (at_snake (nT := 0) hr hi10).2⟩ (fw_ix_nI (j := i) hi10 (by decide)) dX3_init_74 rfl ?_
    refine V_iinc1 (i := 1) rfl (by decide) rfl dX3_init_75 rfl ?_
    refine V_goto (tgt := 53) dX3_init_78 (by decide) ?_
    refine V_cast (T2 := (ra + 75 + (i + 1), tt)) rfl (u2 := 74 + (i + 1)) (by omega) (w2 := 362 + 4 * (i + 1)) (by omega) ?_
    have hI : ∀ b, b < ra + 75 + i → fw_z J (ra + 75 + i) 0 b = J b := fun b hb => fw_z_ne _ (by omega)
    have hP : ∀ b, b < ra + 74 → up2 (fw_z PJ (ra + 75 + i) none) (ra + 74) i (some (ra + 75 + i)) b = PJ b := fun b hb => by rw [up2_ne _ _ _ (by omega), fw_z_ne _ (by omega)]
    have h9 := ih (i + 1) (by omega) (fw_z J (ra + 75 + i) 0) (up2 (fw_z PJ (ra + 75 + i) none) (ra + 74) i (some (ra + 75 + i))) ⟨⟨fun b hb => ⟨(hI b (by omega)).trans (h1 b hb).1, (hP b (by omega)).trans (h1 b hb).2⟩, fun f => by rw [hI _ (by omega)]; exact h2 f, by rw [hP _ (by omega)]; exact h3, fun p hp => ⟨by rw [hP _ (by omega)]; exact (h4 p hp).1, (h4 p hp).2.frame (hI _ (by omega)) (hP _ (by omega)) (hP _ (by omega))⟩⟩, by rw [hP _ (by omega)]; exact h5, fun j hj => ⟨?_, fun f => ?_⟩⟩
    · rw [nI_1]; exact h9
    · rw [up2_at]
      by_cases e : j = i
      · rw [if_pos ⟨rfl, e⟩, e]
      · rw [if_neg (fun z => e z.2), fw_z_ne _ (by omega)]; exact (h6 j (by omega)).1
    · by_cases e : j = i
      · rw [e, fw_z_at]
      · rw [hI _ (by omega)]; exact (h6 j (by omega)).2 f
set_option maxHeartbeats 4000000 in
set_option maxRecDepth 100000 in
theorem li_Race1 (l : Launch) (g : fw_G) {I : fw_I} {P : fw_P} {ra : Nat} (hr : isRc ra) : ∀ (m i : Nat), i + m = 4 → ∀ J PJ, RcL I P ra i J PJ → V l g kX3_init (ra + 85, tt) 84 402 (qV (fun I1 P1 => Fb I P ra I1 P1 ∧ RcN ra I1 P1)) (ra + 2 + 18 * i, tt) J PJ (1 + 18 * i) (4 + 87 * i) 14 [some (.ref (g.1 + ra)), some (.int (nI i))] [] := by
  intro m
  induction m with
  | zero =>
    intro i hi J PJ hJ
    obtain rfl : i = 4 := by omega
    refine V_cast (T2 := (ra + 74, tt)) rfl (u2 := 73) rfl (w2 := 352) rfl ?_
    obtain ⟨h1, h2, h3, h4⟩ := hJ
    have hra : fw_at (ra + 74, tt) ra 3 0 := ⟨by show ra < ra + 74; omega, (at_race (nT := 0) hr).2⟩
    have hpa : fw_at (ra + 74, tt) (ra + 1) 12 4 := ⟨by show ra + 1 < ra + 74; omega, (at_pieces (nT := 0) hr).2⟩
    refine V_iload_n (i := 1) rfl rfl dX3_init_14 rfl ?_
    refine V_aload_n (i := 0) rfl rfl dX3_init_15 rfl ?_
    refine V_getr (kf := 0) C3 (by decide) l_X3_11 hra rfl h3 dX3_init_16 rfl ?_
    refine V_alen (kd := 12) (by decide) hpa dX3_init_19 rfl ?_
    refine V_icmp_ge (tgt := 42) dX3_init_20 (by decide) rfl (fun _ => ?_) (fun h => absurd (Int32.le_refl _) h)
    refine V_aload_n (i := 0) rfl rfl dX3_init_42 rfl ?_
    refine V_bipush (v := 10) (by decide) dX3_init_43 rfl ?_
    refine V_anewT (at_snakes (nT := 0) hr).2 el14 j_X3_18 (by decide) (by decide) rfl (by decide) (by omega) (by omega) dX3_init_45 rfl ?_
    refine V_putrF (kf := 1) C3 (by decide) rfl l_X3_20 rfl rfl rfl rfl rfl ⟨by show ra < ra + 74 + 1; omega, (at_race (nT := 0) hr).2⟩ dX3_init_48 rfl ?_
    refine V_iconst (v := 0) (by decide) dX3_init_51 rfl ?_
    refine V_istore_n (i := 1) rfl (by decide) rfl dX3_init_52 rfl ?_
    refine V_cast (T2 := (ra + 75 + 0, tt)) rfl (u2 := 74 + 0) rfl (w2 := 362 + 4 * 0) rfl ?_
    have hI : ∀ b, b < ra + 74 → fw_z J (ra + 74) 0 b = J b := fun b hb => fw_z_ne _ (by omega)
    have hP : ∀ b, b < ra + 74 → b ≠ ra → up2 (fw_z PJ (ra + 74) none) ra 1 (some (ra + 74)) b = PJ b := fun b hb hb2 => by rw [up2_ne _ _ _ hb2, fw_z_ne _ (by omega)]
    refine li_Race2 l g hr 10 0 rfl _ _ ⟨⟨fun b hb => ⟨(hI b (by omega)).trans (h1 b hb).1, (hP b (by omega) (by omega)).trans (h1 b hb).2⟩, fun f => by rw [hI _ (by omega)]; exact h2 f, ?_, fun p hp => ⟨by rw [hP _ (by omega) (by omega)]; exact (h4 p hp).1, (h4 p hp).2.frame (hI _ (by omega)) (hP _ (by omega) (by omega)) (hP _ (by omega) (by omega))⟩⟩, up2_same _ _ _ _, fun j hj => absurd hj (Nat.not_lt_zero j)⟩
    rw [up2_at, if_neg (by simp), fw_z_ne _ (by omega)]
    exact h3
  | succ m ih =>
    intro i hi J PJ hJ
    have hi4 : i < 4 := by omega
    obtain ⟨h1, h2, h3, h4⟩ := hJ
    have hra : fw_at (ra + 2 + 18 * i, tt) ra 3 0 := ⟨by show ra < ra + 2 + 18 * i; omega, (at_race (nT := 0) hr).2⟩
    have hpa : fw_at (ra + 2 + 18 * i, tt) (ra + 1) 12 4 := ⟨by show ra + 1 < ra + 2 + 18 * i; omega, (at_pieces (nT := 0) hr).2⟩
    refine V_iload_n (i := 1) rfl rfl dX3_init_14 rfl ?_
    refine V_aload_n (i := 0) rfl rfl dX3_init_15 rfl ?_
    refine V_getr (kf := 0) C3 (by decide) l_X3_11 hra rfl h3 dX3_init_16 rfl ?_
    refine V_alen (kd := 12) (by decide) hpa dX3_init_19 rfl ?_
    refine V_icmp_ge (tgt := 42) dX3_init_20 (by decide) rfl (fun h => absurd h (lt_4i hi4)) (fun _ => ?_)
    refine V_aload_n (i := 0) rfl rfl dX3_init_23 rfl ?_
    refine V_getr (kf := 0) C3 (by decide) l_X3_11 hra rfl h3 dX3_init_24 rfl ?_
    refine V_iload_n (i := 1) rfl rfl dX3_init_27 rfl ?_
    refine V_newT (at_piece (nT := 0) hr hi4).2 C2 (df2 g _) j_X3_9 in_X2 ini_X2 (by omega) (by omega) dX3_init_28 rfl ?_
    refine V_dup (by rfl) dX3_init_31 rfl ?_
    refine V_callI (n := 0) (si_Piece l g (isPc_of hr hi4) (fun f => fw_z_at _ _ _ _)) o_X2_init rfl m_X3_17 ⟨by decide, by decide⟩ rfl rfl (by simp [Value.category]) (by omega) (by omega) rfl dX3_init_32 rfl (kV ?_)
    rintro J1 P1 ⟨hF, hN⟩
    refine V_aast el12 (b := ra + 2 + 18 * i) ⟨by show ra + 1 < ra + 2 + 18 * i + 18; omega, (at_pieces (nT := 0) hr).2⟩ ⟨by show ra + 2 + 18 * i < ra + 2 + 18 * i + 18; omega, (at_piece (nT := 0) hr hi4).2⟩ (fw_ix_nI (j := i) hi4 (by decide)) dX3_init_35 rfl ?_
    refine V_iinc1 (i := 1) rfl (by decide) rfl dX3_init_36 rfl ?_
    refine V_goto (tgt := 14) dX3_init_39 (by decide) ?_
    refine V_cast (T2 := (ra + 2 + 18 * (i + 1), tt)) (by rw [show ra + 2 + 18 * i + 18 = ra + 2 + 18 * (i + 1) from by omega]) (u2 := 1 + 18 * (i + 1)) (by omega) (w2 := 4 + 87 * (i + 1)) (by omega) ?_
    have hI : ∀ b, b < ra + 2 + 18 * i → J1 b = J b := fun b hb => (hF b hb).1.trans (fw_z_ne _ (by omega))
    have hP : ∀ b, b < ra + 2 + 18 * i → b ≠ ra + 1 → up2 P1 (ra + 1) i (some (ra + 2 + 18 * i)) b = PJ b := fun b hb hb2 => by rw [up2_ne _ _ _ hb2]; exact (hF b hb).2.trans (fw_z_ne _ (by omega))
    have h9 := ih (i + 1) (by omega) J1 (up2 P1 (ra + 1) i (some (ra + 2 + 18 * i))) ⟨fun b hb => ⟨(hI b (by omega)).trans (h1 b hb).1, (hP b (by omega) (by omega)).trans (h1 b hb).2⟩, fun f => by rw [hI _ (by omega)]; exact h2 f, by rw [hP _ (by omega) (by omega)]; exact h3, fun p hp => ?_⟩
    · rw [nI_1]; exact h9
    · by_cases e : p = i
      · subst e
        exact ⟨up2_same _ _ _ _, hN.frame rfl (up2_ne _ _ _ (by omega)) (up2_ne _ _ _ (by omega))⟩
      · refine ⟨?_, (h4 p (by omega)).2.frame (hI _ (by omega)) (hP _ (by omega) (by omega)) (hP _ (by omega) (by omega))⟩
        rw [up2_at, if_neg (fun z => e z.2), (hF _ (by omega)).2, fw_z_ne _ (by omega)]
        exact (h4 p (by omega)).1
set_option maxHeartbeats 4000000 in
set_option maxRecDepth 100000 in
theorem si_Race (l : Launch) (g : fw_G) {I : fw_I} {P : fw_P} {ra : Nat} (hr : isRc ra) (h0 : ∀ f, I ra f = 0) : Sp l g kX3_init (ra + 1, tt) [.ref (g.1 + ra)] I P (ra + 85, tt) 84 402 (qV (fun I1 P1 => Fb I P ra I1 P1 ∧ RcN ra I1 P1)) := by
  refine Sp.of_V (L := [some (.ref (g.1 + ra)), none]) (by decide) (by simp [Value.category]) (Nat.le_of_ble_eq_true rfl) rfl ?_
  refine V_aload_n (i := 0) rfl rfl dX3_init_0 rfl ?_
  refine V_objInit m_X3_3 oi_1 oi_2 dX3_init_1 rfl (by decide) (by decide) ?_
  refine V_aload_n (i := 0) rfl rfl dX3_init_4 rfl ?_
  refine V_iconst (v := 4) (by decide) dX3_init_5 rfl ?_
  refine V_anewT (at_pieces (nT := 0) hr).2 el12 j_X3_9 (by decide) (by decide) rfl (by decide) (by omega) (by omega) dX3_init_6 rfl ?_
  refine V_putrF (kf := 0) C3 (by decide) rfl l_X3_11 rfl rfl rfl rfl rfl ⟨by show ra < ra + 1 + 1; omega, (at_race (nT := 0) hr).2⟩ dX3_init_9 rfl ?_
  refine V_iconst (v := 0) (by decide) dX3_init_12 rfl ?_
  refine V_istore_n (i := 1) rfl (by decide) rfl dX3_init_13 rfl ?_
  refine V_cast (T2 := (ra + 2 + 18 * 0, tt)) rfl (u2 := 1 + 18 * 0) rfl (w2 := 4 + 87 * 0) rfl ?_
  refine li_Race1 l g hr 4 0 rfl _ _ ⟨fun b hb => ⟨?_, ?_⟩, fun f => ?_, ?_, fun k hk => absurd hk (Nat.not_lt_zero k)⟩
  · rw [fw_z_ne _ (by omega)]
  · rw [up2_ne _ _ _ (by omega), fw_z_ne _ (by omega)]
  · rw [fw_z_ne _ (by omega)]; exact h0 f
  · rw [up2_same]
