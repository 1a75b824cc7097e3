variable {nT : Nat}
/-! Past(), Script(), Search(), SnakeTrades() -/
theorem RcN.frame {ra : Nat} {J K : fw_I} {P Q : fw_P} (h : RcN ra J P) (e : ∀ b, ra ≤ b → b < ra + 85 → K b = J b ∧ Q b = P b) : RcN ra K Q := ⟨h.1.frame (fun b x y => (e b x y).2), RM h.1 h.2 e⟩
def PsL (I : fw_I) (P : fw_P) (i : Nat) (J : fw_I) (PJ : fw_P) : Prop := Fb I P 256 J PJ ∧ (∀ f, J 256 f = 0) ∧ PJ 256 0 = some 257 ∧ ∀ j, j < i → PJ 257 j = some (258 + 85 * j) ∧ RcN (258 + 85 * j) J PJ
def PsN (J : fw_I) (PJ : fw_P) : Prop := J 256 1 = 0 ∧ PJ 256 0 = some 257 ∧ ∀ j, j < 5 → PJ 257 j = some (258 + 85 * j) ∧ RcN (258 + 85 * j) J PJ
theorem PsN.frame {J K : fw_I} {P Q : fw_P} (h : PsN J P) (e : ∀ b, 256 ≤ b → b < 683 → K b = J b ∧ Q b = P b) : PsN K Q := ⟨by rw [(e 256 (by decide) (by decide)).1]; exact h.1, by rw [(e 256 (by decide) (by decide)).2]; exact h.2.1, fun j hj => ⟨by rw [(e 257 (by decide) (by decide)).2]; exact (h.2.2 j hj).1, (h.2.2 j hj).2.frame (fun b x y => e b (by omega) (by omega))⟩⟩
set_option maxHeartbeats 4000000 in
set_option maxRecDepth 100000 in
theorem li_Past (l : Launch) (g : fw_G) {I : fw_I} {P : fw_P} : ∀ (m i : Nat), i + m = 5 → ∀ J PJ, PsL I P i J PJ → V l g kX1_init (683, tt) 426 2065 (qV (fun I1 P1 => Fb I P 256 I1 P1 ∧ PsN I1 P1)) (258 + 85 * i, tt) J PJ (1 + 85 * i) (5 + 412 * i) 14 [some (.ref (g.1 + 256)), some (.int (nI i))] [] := by
  intro m
  induction m with
  | zero =>
    intro i hi J PJ hJ
    obtain rfl : i = 5 := by omega
    obtain ⟨h1, h2, h3, h4⟩ := hJ
    have hra : fw_at (258 + 85 * 5, tt) 256 1 0 := ⟨by decide, (at_256 (nT := 0)).2⟩
    have hpa : fw_at (258 + 85 * 5, tt) 257 11 5 := ⟨by decide, (at_257 (nT := 0)).2⟩
    refine V_iload_n (i := 1) rfl rfl dX1_init_14 rfl ?_
    refine V_aload_n (i := 0) rfl rfl dX1_init_15 rfl ?_
    refine V_getr (kf := 0) C1 (by decide) l_X1_11 hra rfl h3 dX1_init_16 rfl ?_
    refine V_alen (kd := 11) (by decide) hpa dX1_init_19 rfl ?_
    refine V_icmp_ge (tgt := 42) dX1_init_20 (by decide) rfl (fun _ => ?_) (fun h => absurd (Int32.le_refl _) h)
    exact V_return rfl dX1_init_42 rfl rfl rfl ⟨rfl, h1, h2 1, h3, h4⟩
  | succ m ih =>
    intro i hi J PJ hJ
    have hi5 : i < 5 := by omega
    obtain ⟨h1, h2, h3, h4⟩ := hJ
    have hrc := isRc_h hi5
    have hra : fw_at (258 + 85 * i, tt) 256 1 0 := ⟨by show 256 < 258 + 85 * i; omega, (at_256 (nT := 0)).2⟩
    have hpa : fw_at (258 + 85 * i, tt) 257 11 5 := ⟨by show 257 < 258 + 85 * i; omega, (at_257 (nT := 0)).2⟩
    refine V_iload_n (i := 1) rfl rfl dX1_init_14 rfl ?_
    refine V_aload_n (i := 0) rfl rfl dX1_init_15 rfl ?_
    refine V_getr (kf := 0) C1 (by decide) l_X1_11 hra rfl h3 dX1_init_16 rfl ?_
    refine V_alen (kd := 11) (by decide) hpa dX1_init_19 rfl ?_
    refine V_icmp_ge (tgt := 42) dX1_init_20 (by decide) rfl (fun h => absurd h (lt_5i hi5)) (fun _ => ?_)
    refine V_aload_n (i := 0) rfl rfl dX1_init_23 rfl ?_
    refine V_getr (kf := 0) C1 (by decide) l_X1_11 hra rfl h3 dX1_init_24 rfl ?_
    refine V_iload_n (i := 1) rfl rfl dX1_init_27 rfl ?_
    refine V_newT (at_race (nT := 0) hrc).2 C3 (df3 g _) j_X1_9 in_X3 ini_X3 (by omega) (by omega) dX1_init_28 rfl ?_
    refine V_dup (by rfl) dX1_init_31 rfl ?_
    refine V_callI (n := 0) (si_Race l g hrc (fun f => fw_z_at _ _ _ _)) o_X3_init rfl m_X1_17 ⟨by decide, by decide⟩ rfl rfl (by simp [Value.category]) (by omega) (by omega) rfl dX1_init_32 rfl (kV ?_)
    rintro J1 P1 ⟨hF, hN⟩
    refine V_aast el11 (b := 258 + 85 * i) ⟨by show 257 < 258 + 85 * i + 85; omega, (at_257 (nT := 0)).2⟩ ⟨by show 258 + 85 * i < 258 + 85 * i + 85; omega, (at_race (nT := 0) hrc).2⟩ (fw_ix_nI (j := i) hi5 (by decide)) dX1_init_35 rfl ?_
    refine V_iinc1 (i := 1) rfl (by decide) rfl dX1_init_36 rfl ?_
    refine V_goto (tgt := 14) dX1_init_39 (by decide) ?_
    refine V_cast (T2 := (258 + 85 * (i + 1), tt)) (by rw [show 258 + 85 * i + 85 = 258 + 85 * (i + 1) from by omega]) (u2 := 1 + 85 * (i + 1)) (by omega) (w2 := 5 + 412 * (i + 1)) (by omega) ?_
    have hI : ∀ b, b < 258 + 85 * i → J1 b = J b := fun b hb => (hF b hb).1.trans (fw_z_ne _ (by omega))
    have hP : ∀ b, b < 258 + 85 * i → b ≠ 257 → up2 P1 257 i (some (258 + 85 * i)) b = PJ b := fun b hb hb2 => by rw [up2_ne _ _ _ hb2]; exact (hF b hb).2.trans (fw_z_ne _ (by omega))
    have h9 := ih (i + 1) (by omega) J1 (up2 P1 257 i (some (258 + 85 * i))) ⟨fun b hb => ⟨(hI b (by omega)).trans (h1 b hb).1, (hP b (by omega) (by omega)).trans (h1 b hb).2⟩, fun f => by rw [hI _ (by omega)]; exact h2 f, by rw [hP _ (by omega) (by omega)]; exact h3, fun j hj => ?_⟩
    · rw [nI_1]; exact h9
    · by_cases e : j = i
      · subst e
        exact ⟨up2_same _ _ _ _, hN.frame (fun b x y => ⟨rfl, up2_ne _ _ _ (by omega)⟩)⟩
      · refine ⟨?_, (h4 j (by omega)).2.frame (fun b x y => ⟨hI b (by omega), hP b (by omega) (by omega)⟩)⟩
        rw [up2_at, if_neg (fun z => e z.2), (hF _ (by omega)).2, fw_z_ne _ (by omega)]
        exact (h4 j (by omega)).1
set_option maxHeartbeats 4000000 in
set_option maxRecDepth 100000 in
theorem si_Past (l : Launch) (g : fw_G) {I : fw_I} {P : fw_P} (h0 : ∀ f, I 256 f = 0) : Sp l g kX1_init (257, tt) [.ref (g.1 + 256)] I P (683, tt) 426 2065 (qV (fun I1 P1 => Fb I P 256 I1 P1 ∧ PsN I1 P1)) := by
  refine Sp.of_V (L := [some (.ref (g.1 + 256)), none]) (by decide) (by simp [Value.category]) (Nat.le_of_ble_eq_true rfl) rfl ?_
  refine V_aload_n (i := 0) rfl rfl dX1_init_0 rfl ?_
  refine V_objInit m_X1_3 oi_1 oi_2 dX1_init_1 rfl (by decide) (by decide) ?_
  refine V_aload_n (i := 0) rfl rfl dX1_init_4 rfl ?_
  refine V_iconst (v := 5) (by decide) dX1_init_5 rfl ?_
  refine V_anewT (at_257 (nT := 0)).2 el11 j_X1_9 (by decide) (by decide) rfl (by decide) (by omega) (by omega) dX1_init_6 rfl ?_
  refine V_putrF (kf := 0) C1 (by decide) rfl l_X1_11 rfl rfl rfl rfl rfl ⟨by decide, (at_256 (nT := 0)).2⟩ dX1_init_9 rfl ?_
  refine V_iconst (v := 0) (by decide) dX1_init_12 rfl ?_
  refine V_istore_n (i := 1) rfl (by decide) rfl dX1_init_13 rfl ?_
  refine V_cast (T2 := (258 + 85 * 0, tt)) rfl (u2 := 1 + 85 * 0) rfl (w2 := 5 + 412 * 0) rfl ?_
  refine li_Past l g 5 0 rfl _ _ ⟨fun b hb => ⟨?_, ?_⟩, fun f => ?_, ?_, fun k hk => absurd hk (Nat.not_lt_zero k)⟩
  · rw [fw_z_ne _ (by omega)]
  · rw [up2_ne _ _ _ (by omega), fw_z_ne _ (by omega)]
  · rw [fw_z_ne _ (by omega)]; exact h0 f
  · rw [up2_same]
set_option maxHeartbeats 4000000 in
set_option maxRecDepth 100000 in
theorem si_Script (l : Launch) (g : fw_G) {I : fw_I} {P : fw_P} (h0 : ∀ f, I 683 f = 0) : Sp l g kX4_init (684, tt) [.ref (g.1 + 683)] I P (685, tt) 1 60 (qV (fun I1 P1 => Fb I P 683 I1 P1 ∧ I1 683 1 = 0 ∧ P1 683 0 = some 684)) := by
  refine Sp.of_V (L := [some (.ref (g.1 + 683))]) (by decide) (by simp [Value.category]) (Nat.le_of_ble_eq_true rfl) rfl ?_
  refine V_aload_n (i := 0) rfl rfl dX4_init_0 rfl ?_
  refine V_objInit m_X4_3 oi_1 oi_2 dX4_init_1 rfl (by decide) (by decide) ?_
  refine V_aload_n (i := 0) rfl rfl dX4_init_4 rfl ?_
  refine V_bipush (v := 60) (by decide) dX4_init_5 rfl ?_
  refine V_newaT (at_684 (nT := 0)).2 ⟨rfl, rfl⟩ rfl ac_int (by decide) rfl (by decide) (by decide) (by decide) dX4_init_7 rfl ?_
  refine V_putrF (kf := 0) C4 (by decide) rfl l_X4_9 rfl rfl rfl rfl rfl ⟨by decide, (at_683 (nT := 0)).2⟩ dX4_init_9 rfl ?_
  refine V_return rfl dX4_init_12 rfl rfl rfl ⟨rfl, fun b hb => ⟨?_, ?_⟩, ?_, up2_same _ _ _ _⟩
  · rw [fw_z_ne _ (by omega)]
  · rw [up2_ne _ _ _ (by omega), fw_z_ne _ (by omega)]
  · rw [fw_z_ne _ (by omega)]; exact h0 1
set_option maxHeartbeats 4000000 in
set_option maxRecDepth 100000 in
theorem si_Search (l : Launch) (g : fw_G) {I : fw_I} {P : fw_P} : Sp l g kX5_init (686, tt) [.ref (g.1 + 685)] I P (688, tt) 2 122 (qV (fun I1 P1 => Fb I P 685 I1 P1 ∧ P1 685 0 = some 686 ∧ P1 685 1 = some 687)) := by
  refine Sp.of_V (L := [some (.ref (g.1 + 685))]) (by decide) (by simp [Value.category]) (Nat.le_of_ble_eq_true rfl) rfl ?_
  refine V_aload_n (i := 0) rfl rfl dX5_init_0 rfl ?_
  refine V_objInit m_X5_3 oi_1 oi_2 dX5_init_1 rfl (by decide) (by decide) ?_
  refine V_aload_n (i := 0) rfl rfl dX5_init_4 rfl ?_
  refine V_bipush (v := 61) (by decide) dX5_init_5 rfl ?_
  refine V_newaT (at_686 (nT := 0)).2 ⟨rfl, rfl⟩ rfl ac_int (by decide) rfl (by decide) (by decide) (by decide) dX5_init_7 rfl ?_
  refine V_putrF (kf := 0) C5 (by decide) rfl l_X5_9 rfl rfl rfl rfl rfl ⟨by decide, (at_685 (nT := 0)).2⟩ dX5_init_9 rfl ?_
  refine V_aload_n (i := 0) rfl rfl dX5_init_12 rfl ?_
  refine V_bipush (v := 61) (by decide) dX5_init_13 rfl ?_
  refine V_newaT (at_687 (nT := 0)).2 ⟨rfl, rfl⟩ rfl ac_int (by decide) rfl (by decide) (by decide) (by decide) dX5_init_15 rfl ?_
  refine V_putrF (kf := 1) C5 (by decide) rfl l_X5_15 rfl rfl rfl rfl rfl ⟨by decide, (at_685 (nT := 0)).2⟩ dX5_init_17 rfl ?_
  refine V_return rfl dX5_init_20 rfl rfl rfl ⟨rfl, fun b hb => ⟨?_, ?_⟩, ?_, up2_same _ _ _ _⟩
  · rw [fw_z_ne _ (by omega), fw_z_ne _ (by omega)]
  · rw [up2_ne _ _ _ (by omega), fw_z_ne _ (by omega), up2_ne _ _ _ (by omega), fw_z_ne _ (by omega)]
  · rw [up2_at, if_neg (by simp), fw_z_ne _ (by decide), up2_same]
/-- a new object's cells -/
def CNew (J : fw_I) (PJ : fw_P) : Prop := CSh PJ ∧ ∀ h tx sp, CRel J PJ r0 0 h false sp 0 tx
set_option maxHeartbeats 4000000 in
set_option maxRecDepth 100000 in
theorem si_class (l : Launch) (g : fw_G) {I : fw_I} {P : fw_P} : Sp l g kX7_init (1, tt) [.ref (g.1 + 0)] I P (688, tt) 687 3490 (qV (fun I1 P1 => CNew I1 P1)) := by
  refine Sp.of_V (L := [some (.ref (g.1 + 0))]) (by decide) (by simp [Value.category]) (Nat.le_of_ble_eq_true rfl) rfl ?_
  refine V_aload_n (i := 0) rfl rfl dX7_init_0 rfl ?_
  refine V_objInit m_X7_3 oi_1 oi_2 dX7_init_1 rfl (by decide) (by decide) ?_
  refine V_aload_n (i := 0) rfl rfl dX7_init_4 rfl ?_
  refine V_newT (at_race (nT := 0) isRc_1).2 C3 (df3 g _) j_X7_9 in_X3 ini_X3 (by decide) (by decide) dX7_init_5 rfl ?_
  refine V_dup (by rfl) dX7_init_8 rfl ?_
  refine V_callI (n := 0) (si_Race l g isRc_1 (fun f => fw_z_at _ _ _ _)) o_X3_init rfl m_X7_11 ⟨by decide, by decide⟩ rfl rfl (by simp [Value.category]) (by decide) (by decide) rfl dX7_init_9 rfl (kV ?_)
  rintro J1 P1 ⟨F1, N1⟩
  refine V_putrF (kf := 0) C7 (by decide) rfl l_X7_12 rfl rfl rfl rfl rfl ⟨by decide, (at_0 (nT := 0)).2⟩ dX7_init_12 rfl ?_
  refine V_aload_n (i := 0) rfl rfl dX7_init_15 rfl ?_
  refine V_newT (at_race (nT := 0) isRc_86).2 C3 (df3 g _) j_X7_9 in_X3 ini_X3 (by decide) (by decide) dX7_init_16 rfl ?_
  refine V_dup (by rfl) dX7_init_19 rfl ?_
  refine V_callI (n := 0) (si_Race l g isRc_86 (fun f => fw_z_at _ _ _ _)) o_X3_init rfl m_X7_11 ⟨by decide, by decide⟩ rfl rfl (by simp [Value.category]) (by decide) (by decide) rfl dX7_init_20 rfl (kV ?_)
  rintro J2 P2 ⟨F2, N2⟩
  refine V_putrF (kf := 1) C7 (by decide) rfl l_X7_16 rfl rfl rfl rfl rfl ⟨by decide, (at_0 (nT := 0)).2⟩ dX7_init_23 rfl ?_
  refine V_aload_n (i := 0) rfl rfl dX7_init_26 rfl ?_
  refine V_newT (at_race (nT := 0) isRc_171).2 C3 (df3 g _) j_X7_9 in_X3 ini_X3 (by decide) (by decide) dX7_init_27 rfl ?_
  refine V_dup (by rfl) dX7_init_30 rfl ?_
  refine V_callI (n := 0) (si_Race l g isRc_171 (fun f => fw_z_at _ _ _ _)) o_X3_init rfl m_X7_11 ⟨by decide, by decide⟩ rfl rfl (by simp [Value.category]) (by decide) (by decide) rfl dX7_init_31 rfl (kV ?_)
  rintro J3 P3 ⟨F3, N3⟩
  refine V_putrF (kf := 2) C7 (by decide) rfl l_X7_19 rfl rfl rfl rfl rfl ⟨by decide, (at_0 (nT := 0)).2⟩ dX7_init_34 rfl ?_
  refine V_aload_n (i := 0) rfl rfl dX7_init_37 rfl ?_
  refine V_newT (at_256 (nT := 0)).2 C1 (df1 g _) j_X7_22 in_X1 ini_X1 (by decide) (by decide) dX7_init_38 rfl ?_
  refine V_dup (by rfl) dX7_init_41 rfl ?_
  refine V_callI (n := 0) (si_Past l g (fun f => fw_z_at _ _ _ _)) o_X1_init rfl m_X7_24 ⟨by decide, by decide⟩ rfl rfl (by simp [Value.category]) (by decide) (by decide) rfl dX7_init_42 rfl (kV ?_)
  rintro J4 P4 ⟨F4, N4⟩
  refine V_putrF (kf := 3) C7 (by decide) rfl l_X7_25 rfl rfl rfl rfl rfl ⟨by decide, (at_0 (nT := 0)).2⟩ dX7_init_45 rfl ?_
  refine V_aload_n (i := 0) rfl rfl dX7_init_48 rfl ?_
  refine V_newT (at_683 (nT := 0)).2 C4 (df4 g _) j_X7_29 in_X4 ini_X4 (by decide) (by decide) dX7_init_49 rfl ?_
  refine V_dup (by rfl) dX7_init_52 rfl ?_
  refine V_callI (n := 0) (si_Script l g (fun f => fw_z_at _ _ _ _)) o_X4_init rfl m_X7_31 ⟨by decide, by decide⟩ rfl rfl (by simp [Value.category]) (by decide) (by decide) rfl dX7_init_53 rfl (kV ?_)
  rintro J5 P5 ⟨F5, N5a, N5b⟩
  refine V_putrF (kf := 4) C7 (by decide) rfl l_X7_32 rfl rfl rfl rfl rfl ⟨by decide, (at_0 (nT := 0)).2⟩ dX7_init_56 rfl ?_
  refine V_aload_n (i := 0) rfl rfl dX7_init_59 rfl ?_
  refine V_newT (at_685 (nT := 0)).2 C5 (df5 g _) j_X7_36 in_X5 ini_X5 (by decide) (by decide) dX7_init_60 rfl ?_
  refine V_dup (by rfl) dX7_init_63 rfl ?_
  refine V_callI (n := 0) (si_Search l g) o_X5_init rfl m_X7_38 ⟨by decide, by decide⟩ rfl rfl (by simp [Value.category]) (by decide) (by decide) rfl dX7_init_64 rfl (kV ?_)
  rintro J6 P6 ⟨F6, N6a, N6b⟩
  refine V_putrF (kf := 5) C7 (by decide) rfl l_X7_39 rfl rfl rfl rfl rfl ⟨by decide, (at_0 (nT := 0)).2⟩ dX7_init_67 rfl ?_
  refine V_aload_n (i := 0) rfl rfl dX7_init_70 rfl ?_
  refine V_iconst (v := 0) (by decide) dX7_init_71 rfl ?_
  refine V_puti (kf := 6) C7 (by decide) rfl l_X7_43 rfl rfl (by decide) (by decide) ⟨by decide, (at_0 (nT := 0)).2⟩ dX7_init_72 rfl ?_
  -- what each cell is at the end
  have e5 : ∀ b, b < 685 → b ≠ 0 → J6 b = J5 b ∧ P6 b = P5 b := fun b hb h0 => ⟨(F6 b hb).1.trans (fw_z_ne _ (by omega)), (F6 b hb).2.trans ((fw_z_ne _ (by omega)).trans (up2_ne _ _ _ h0))⟩
  have e4 : ∀ b, b < 683 → b ≠ 0 → J6 b = J4 b ∧ P6 b = P4 b := fun b hb h0 => ⟨(e5 b (by omega) h0).1.trans ((F5 b hb).1.trans (fw_z_ne _ (by omega))), (e5 b (by omega) h0).2.trans ((F5 b hb).2.trans ((fw_z_ne _ (by omega)).trans (up2_ne _ _ _ h0)))⟩
  have e3 : ∀ b, b < 256 → b ≠ 0 → J6 b = J3 b ∧ P6 b = P3 b := fun b hb h0 => ⟨(e4 b (by omega) h0).1.trans ((F4 b hb).1.trans (fw_z_ne _ (by omega))), (e4 b (by omega) h0).2.trans ((F4 b hb).2.trans ((fw_z_ne _ (by omega)).trans (up2_ne _ _ _ h0)))⟩
  have e2 : ∀ b, b < 171 → b ≠ 0 → J6 b = J2 b ∧ P6 b = P2 b := fun b hb h0 => ⟨(e3 b (by omega) h0).1.trans ((F3 b hb).1.trans (fw_z_ne _ (by omega))), (e3 b (by omega) h0).2.trans ((F3 b hb).2.trans ((fw_z_ne _ (by omega)).trans (up2_ne _ _ _ h0)))⟩
  have e1 : ∀ b, b < 86 → b ≠ 0 → J6 b = J1 b ∧ P6 b = P1 b := fun b hb h0 => ⟨(e2 b (by omega) h0).1.trans ((F2 b hb).1.trans (fw_z_ne _ (by omega))), (e2 b (by omega) h0).2.trans ((F2 b hb).2.trans ((fw_z_ne _ (by omega)).trans (up2_ne _ _ _ h0)))⟩
  have eJ : ∀ b, b ≠ 0 → up2 J6 0 6 0 b = J6 b := fun b h0 => up2_ne _ _ _ h0
  have eP : ∀ b, b ≠ 0 → up2 P6 0 5 (some 685) b = P6 b := fun b h0 => up2_ne _ _ _ h0
  have R1 : RcN 1 (up2 J6 0 6 0) (up2 P6 0 5 (some 685)) := N1.frame (fun b x y => ⟨(eJ b (by omega)).trans (e1 b (by omega) (by omega)).1, (eP b (by omega)).trans (e1 b (by omega) (by omega)).2⟩)
  have R2 : RcN 86 (up2 J6 0 6 0) (up2 P6 0 5 (some 685)) := N2.frame (fun b x y => ⟨(eJ b (by omega)).trans (e2 b (by omega) (by omega)).1, (eP b (by omega)).trans (e2 b (by omega) (by omega)).2⟩)
  have R3 : RcN 171 (up2 J6 0 6 0) (up2 P6 0 5 (some 685)) := N3.frame (fun b x y => ⟨(eJ b (by omega)).trans (e3 b (by omega) (by omega)).1, (eP b (by omega)).trans (e3 b (by omega) (by omega)).2⟩)
  have R4 : PsN (up2 J6 0 6 0) (up2 P6 0 5 (some 685)) := N4.frame (fun b x y => ⟨(eJ b (by omega)).trans (e4 b (by omega) (by omega)).1, (eP b (by omega)).trans (e4 b (by omega) (by omega)).2⟩)
  have f5 : ∀ j, j ≠ 5 → up2 P6 0 5 (some 685) 0 j = P5 0 j ∨ j = 4 := fun j hj => by
    by_cases e : j = 4
    · exact Or.inr e
    · left
      rw [up2_at, if_neg (fun z => hj z.2), (F6 0 (by decide)).2, fw_z_ne _ (by decide), up2_at, if_neg (fun z => e z.2)]
  have f4 : up2 P6 0 5 (some 685) 0 4 = some 683 := by rw [up2_at, if_neg (by decide), (F6 0 (by decide)).2, fw_z_ne _ (by decide), up2_same]
  have p5 : P5 0 = up2 P4 0 3 (some 256) 0 := (F5 0 (by decide)).2.trans (fw_z_ne _ (by decide))
  have p4 : P4 0 = up2 P3 0 2 (some 171) 0 := (F4 0 (by decide)).2.trans (fw_z_ne _ (by decide))
  have p3 : P3 0 = up2 P2 0 1 (some 86) 0 := (F3 0 (by decide)).2.trans (fw_z_ne _ (by decide))
  have p2 : P2 0 = up2 P1 0 0 (some 1) 0 := (F2 0 (by decide)).2.trans (fw_z_ne _ (by decide))
  have g3 : up2 P6 0 5 (some 685) 0 3 = some 256 := ((f5 3 (by decide)).resolve_right (by decide)).trans (by rw [p5, up2_same])
  have g2 : up2 P6 0 5 (some 685) 0 2 = some 171 := ((f5 2 (by decide)).resolve_right (by decide)).trans (by rw [p5, up2_at, if_neg (by decide), p4, up2_same])
  have g1 : up2 P6 0 5 (some 685) 0 1 = some 86 := ((f5 1 (by decide)).resolve_right (by decide)).trans (by rw [p5, up2_at, if_neg (by decide), p4, up2_at, if_neg (by decide), p3, up2_same])
  have g0 : up2 P6 0 5 (some 685) 0 0 = some 1 := ((f5 0 (by decide)).resolve_right (by decide)).trans (by rw [p5, up2_at, if_neg (by decide), p4, up2_at, if_neg (by decide), p3, up2_at, if_neg (by decide), p2, up2_same])
  refine V_return rfl dX7_init_75 rfl rfl rfl ⟨rfl, ⟨fun ra hr => ?_, R4.2.1, fun i hi => ⟨i, hi, (R4.2.2 i hi).1⟩, fun i j hi hj e => ?_, g0, g1, g2, g3, f4, up2_same _ _ _ _, ?_, ?_, ?_⟩, fun h tx sp => ⟨R1.2, ⟨R4.1, by decide, fun i hi => absurd hi (Nat.not_lt_zero i)⟩, ⟨up2_same _ _ _ _, fun z => absurd z (by decide)⟩, ?_, by decide, fun j hj => absurd hj (Nat.not_lt_zero j)⟩⟩
  · unfold isRc at hr
    simp only [List.mem_cons, List.not_mem_nil, or_false] at hr
    rcases hr with rfl | rfl | rfl | rfl | rfl | rfl | rfl | rfl
    · exact R1.1
    · exact R2.1
    · exact R3.1
    · exact (R4.2.2 0 (by decide)).2.1
    · exact (R4.2.2 1 (by decide)).2.1
    · exact (R4.2.2 2 (by decide)).2.1
    · exact (R4.2.2 3 (by decide)).2.1
    · exact (R4.2.2 4 (by decide)).2.1
  · rw [(R4.2.2 i hi).1, (R4.2.2 j hj).1] at e
    have := Option.some.inj e
    omega
  · rw [eP _ (by decide), (e5 683 (by decide) (by decide)).2]; exact N5b
  · rw [eP _ (by decide)]; exact N6a
  · rw [eP _ (by decide)]; exact N6b
  · rw [eJ _ (by decide), (e5 683 (by decide) (by decide)).1]; exact N5a
