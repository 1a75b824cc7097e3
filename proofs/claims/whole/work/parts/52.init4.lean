/-! the reference's constructor -/
def r0F : Nat → Nat → Int32
  | 0 => upd (upd (upd (fun _ => 0) 5 2) 6 20) 7 2
  | p + 1 => upd (r0F p) (8 + 6 * p + 1) 10
theorem r0F_4 (j : Nat) : r0F 4 j = r0 j := by
  unfold r0F r0F r0F r0F r0F r0
  simp only [upd_at]
  by_cases h5 : j = 5
  · subst h5; rfl
  · by_cases h6 : j = 6
    · subst h6; rfl
    · by_cases h7 : j = 7
      · subst h7; rfl
      · by_cases h9 : j = 9
        · subst h9; rfl
        · by_cases h15 : j = 15
          · subst h15; rfl
          · by_cases h21 : j = 21
            · subst h21; rfl
            · by_cases h27 : j = 27
              · subst h27; rfl
              · simp [h5, h6, h7, h9, h15, h21, h27]
/-- the reference's new cells: below 688 nothing has changed -/
def MNew (I : fw_I) (P : fw_P) (J : fw_I) (PJ : fw_P) : Prop := Fb I P 688 J PJ ∧ MSh PJ ∧ (∀ j, J 689 j = r0 j) ∧ J 688 2 = 0 ∧ J 688 4 = 0 ∧ J 688 7 = 0
set_option maxHeartbeats 4000000 in
set_option maxRecDepth 100000 in
theorem li_model (l : Launch) (g : fw_G) {I : fw_I} {P : fw_P} {J : fw_I} {PJ : fw_P} (hM : MSh PJ) (hF : Fb I P 688 J PJ) (h0 : J 688 2 = 0 ∧ J 688 4 = 0 ∧ J 688 7 = 0) : ∀ (m p : Nat), p + m = 4 → V l g kX8_init (697, tt) 8 3322 (qV (fun I1 P1 => MNew I P I1 P1)) (697, tt) (wr J 689 (r0F p)) PJ 8 3322 97 [some (.ref (g.1 + 688)), some (.int (nI p))] [] := by
  have a8 : fw_at (697, tt) 688 8 0 := at_688
  have a9 : fw_at (697, tt) 689 9 392 := at_689
  have m0 : PJ 688 0 = some 689 := hM.1
  intro m
  induction m with
  | zero =>
    intro p hp
    obtain rfl : p = 4 := by omega
    refine V_iload_n (i := 1) rfl rfl dX8_init_97 rfl ?_
    refine V_iconst (v := 4) (by decide) dX8_init_98 rfl ?_
    refine V_icmp_ge (tgt := 124) dX8_init_99 (by decide) rfl (fun _ => ?_) (fun h => absurd (Int32.le_refl _) h)
    exact V_return rfl dX8_init_124 rfl rfl rfl ⟨rfl, fun b hb => ⟨(wr_ne _ _ (by omega)).trans (hF b hb).1, (hF b hb).2⟩, hM, fun j => by rw [wr_at]; exact r0F_4 j, by rw [wr_ne _ _ (by decide)]; exact h0.1, by rw [wr_ne _ _ (by decide)]; exact h0.2.1, by rw [wr_ne _ _ (by decide)]; exact h0.2.2⟩
  | succ m ih =>
    intro p hp
    have hp4 : p < 4 := by omega
    refine V_iload_n (i := 1) rfl rfl dX8_init_97 rfl ?_
    refine V_iconst (v := 4) (by decide) dX8_init_98 rfl ?_
    refine V_icmp_ge (tgt := 124) dX8_init_99 (by decide) rfl (fun h => absurd h (lt_4i hp4)) (fun _ => ?_)
    refine V_aload_n (i := 0) rfl rfl dX8_init_102 rfl ?_
    refine V_getr (kf := 0) C8 (by decide) l_X8_7 a8 rfl m0 dX8_init_103 rfl ?_
    refine V_bipush (v := 8) (by decide) dX8_init_106 rfl ?_
    refine V_bipush (v := 6) (by decide) dX8_init_108 rfl ?_
    refine V_iload_n (i := 1) rfl rfl dX8_init_110 rfl ?_
    refine V_imul dX8_init_111 rfl ?_
    refine V_iadd dX8_init_112 rfl ?_
    refine V_iconst (v := nI 1) (by decide) dX8_init_113 rfl ?_
    refine V_iadd dX8_init_114 rfl ?_
    refine V_bipush (v := 10) (by decide) dX8_init_115 rfl ?_
    refine V_iast9 a9 (ix_of hp4 (w := 1) (by decide)) dX8_init_117 rfl ?_
    refine V_iinc1 (i := 1) rfl (by decide) rfl dX8_init_118 rfl ?_
    refine V_goto (tgt := 97) dX8_init_121 (by decide) ?_
    have h9 := ih (p + 1) (by omega)
    rw [nI_1]
    exact h9
set_option maxHeartbeats 4000000 in
set_option maxRecDepth 100000 in
theorem si_model (l : Launch) (g : fw_G) {I : fw_I} {P : fw_P} (h0 : ∀ f, I 688 f = 0) : Sp l g kX8_init (689, tt) [.ref (g.1 + 688)] I P (697, tt) 8 3322 (qV (fun I1 P1 => MNew I P I1 P1)) := by
  refine Sp.of_V (L := [some (.ref (g.1 + 688)), none]) (by decide) (by simp [Value.category]) (Nat.le_of_ble_eq_true rfl) rfl ?_
  refine V_aload_n (i := 0) rfl rfl dX8_init_0 rfl ?_
  refine V_objInit m_X8_1 oi_1 oi_2 dX8_init_1 rfl (by decide) (by decide) ?_
  refine V_aload_n (i := 0) rfl rfl dX8_init_4 rfl ?_
  refine V_sipush (v := 392) (by decide) dX8_init_5 rfl ?_
  refine V_newaT at_689.2 (Or.inl ⟨rfl, rfl⟩) rfl ac_int (by decide) rfl (by decide) (by decide) (by decide) dX8_init_8 rfl ?_
  refine V_putrF (kf := 0) C8 (by decide) rfl l_X8_7 rfl rfl rfl rfl rfl ⟨by decide, at_688.2⟩ dX8_init_10 rfl ?_
  refine V_aload_n (i := 0) rfl rfl dX8_init_13 rfl ?_
  refine V_sipush (v := 1960) (by decide) dX8_init_14 rfl ?_
  refine V_newaT at_690.2 (Or.inl ⟨rfl, rfl⟩) rfl ac_int (by decide) rfl (by decide) (by decide) (by decide) dX8_init_17 rfl ?_
  refine V_putrF (kf := 1) C8 (by decide) rfl l_X8_13 rfl rfl rfl rfl rfl ⟨by decide, at_688.2⟩ dX8_init_19 rfl ?_
  refine V_aload_n (i := 0) rfl rfl dX8_init_22 rfl ?_
  refine V_sipush (v := 392) (by decide) dX8_init_23 rfl ?_
  refine V_newaT at_691.2 (Or.inl ⟨rfl, rfl⟩) rfl ac_int (by decide) rfl (by decide) (by decide) (by decide) dX8_init_26 rfl ?_
  refine V_putrF (kf := 3) C8 (by decide) rfl l_X8_16 rfl rfl rfl rfl rfl ⟨by decide, at_688.2⟩ dX8_init_28 rfl ?_
  refine V_aload_n (i := 0) rfl rfl dX8_init_31 rfl ?_
  refine V_sipush (v := 392) (by decide) dX8_init_32 rfl ?_
  refine V_newaT at_692.2 (Or.inl ⟨rfl, rfl⟩) rfl ac_int (by decide) rfl (by decide) (by decide) (by decide) dX8_init_35 rfl ?_
  refine V_putrF (kf := 5) C8 (by decide) rfl l_X8_19 rfl rfl rfl rfl rfl ⟨by decide, at_688.2⟩ dX8_init_37 rfl ?_
  refine V_aload_n (i := 0) rfl rfl dX8_init_40 rfl ?_
  refine V_bipush (v := 60) (by decide) dX8_init_41 rfl ?_
  refine V_newaT at_693.2 (Or.inl ⟨rfl, rfl⟩) rfl ac_int (by decide) rfl (by decide) (by decide) (by decide) dX8_init_43 rfl ?_
  refine V_putrF (kf := 6) C8 (by decide) rfl l_X8_22 rfl rfl rfl rfl rfl ⟨by decide, at_688.2⟩ dX8_init_45 rfl ?_
  refine V_aload_n (i := 0) rfl rfl dX8_init_48 rfl ?_
  refine V_iconst (v := 4) (by decide) dX8_init_49 rfl ?_
  refine V_newaT at_694.2 (Or.inl ⟨rfl, rfl⟩) rfl ac_int (by decide) rfl (by decide) (by decide) (by decide) dX8_init_50 rfl ?_
  refine V_putrF (kf := 10) C8 (by decide) rfl l_X8_25 rfl rfl rfl rfl rfl ⟨by decide, at_688.2⟩ dX8_init_52 rfl ?_
  refine V_aload_n (i := 0) rfl rfl dX8_init_55 rfl ?_
  refine V_bipush (v := 61) (by decide) dX8_init_56 rfl ?_
  refine V_newaT at_695.2 (Or.inr ⟨rfl, rfl⟩) rfl ac_boolean (by decide) rfl (by decide) (by decide) (by decide) dX8_init_58 rfl ?_
  refine V_putrF (kf := 12) C8 (by decide) rfl l_X8_28 rfl rfl rfl rfl rfl ⟨by decide, at_688.2⟩ dX8_init_60 rfl ?_
  refine V_aload_n (i := 0) rfl rfl dX8_init_63 rfl ?_
  refine V_bipush (v := 61) (by decide) dX8_init_64 rfl ?_
  refine V_newaT at_696.2 (Or.inr ⟨rfl, rfl⟩) rfl ac_boolean (by decide) rfl (by decide) (by decide) (by decide) dX8_init_66 rfl ?_
  refine V_putrF (kf := 13) C8 (by decide) rfl l_X8_32 rfl rfl rfl rfl rfl ⟨by decide, at_688.2⟩ dX8_init_68 rfl ?_
  refine V_cast (T2 := (697, tt)) rfl (u2 := 8) rfl (w2 := 3322) rfl ?_
  refine V_genP (A := fun J PJ => MSh PJ ∧ Fb I P 688 J PJ ∧ (J 688 2 = 0 ∧ J 688 4 = 0 ∧ J 688 7 = 0) ∧ J 689 = fun _ => 0) ?_ ?_
  · have hn : ∀ {n : Nat} {K : fw_P} {b : Nat}, b ≠ n → fw_z K n none b = K b := fun h => fw_z_ne _ h
    refine ⟨⟨?_, ?_, ?_, ?_, ?_, ?_, ?_, ?_⟩, fun b hb => ⟨?_, ?_⟩, ⟨?_, ?_, ?_⟩, ?_⟩
    · simp (disch := decide) [up2_at, fw_z_ne]
    · simp (disch := decide) [up2_at, fw_z_ne]
    · simp (disch := decide) [up2_at, fw_z_ne]
    · simp (disch := decide) [up2_at, fw_z_ne]
    · simp (disch := decide) [up2_at, fw_z_ne]
    · simp (disch := decide) [up2_at, fw_z_ne]
    · simp (disch := decide) [up2_at, fw_z_ne]
    · simp (disch := decide) [up2_at, fw_z_ne]
    · simp (disch := omega) only [fw_z_ne]
    · simp (disch := omega) only [fw_z_ne, up2_ne]
    · simp (disch := decide) only [fw_z_ne, h0]
    · simp (disch := decide) only [fw_z_ne, h0]
    · simp (disch := decide) only [fw_z_ne, h0]
    · simp (disch := decide) only [fw_z_ne]
      funext j
      exact fw_z_at _ _ _ _
  rintro J PJ ⟨hM, hF, hz, h9⟩
  have a8 : fw_at (697, tt) 688 8 0 := at_688
  have a9 : fw_at (697, tt) 689 9 392 := at_689
  have m0 : PJ 688 0 = some 689 := hM.1
  refine V_mem (I' := wr J 689 (fun _ => 0)) (by rw [← h9, wr_self]) ?_
  refine V_aload_n (i := 0) rfl rfl dX8_init_71 rfl ?_
  refine V_getr (kf := 0) C8 (by decide) l_X8_7 a8 rfl m0 dX8_init_72 rfl ?_
  refine V_iconst (v := 5) (by decide) dX8_init_75 rfl ?_
  refine V_iconst (v := 2) (by decide) dX8_init_76 rfl ?_
  refine V_iast9 a9 (j := 5) ⟨by decide, rfl, by decide⟩ dX8_init_77 rfl ?_
  refine V_aload_n (i := 0) rfl rfl dX8_init_78 rfl ?_
  refine V_getr (kf := 0) C8 (by decide) l_X8_7 a8 rfl m0 dX8_init_79 rfl ?_
  refine V_bipush (v := 6) (by decide) dX8_init_82 rfl ?_
  refine V_bipush (v := 20) (by decide) dX8_init_84 rfl ?_
  refine V_iast9 a9 (j := 6) ⟨by decide, rfl, by decide⟩ dX8_init_86 rfl ?_
  refine V_aload_n (i := 0) rfl rfl dX8_init_87 rfl ?_
  refine V_getr (kf := 0) C8 (by decide) l_X8_7 a8 rfl m0 dX8_init_88 rfl ?_
  refine V_bipush (v := 7) (by decide) dX8_init_91 rfl ?_
  refine V_iconst (v := 2) (by decide) dX8_init_93 rfl ?_
  refine V_iast9 a9 (j := 7) ⟨by decide, rfl, by decide⟩ dX8_init_94 rfl ?_
  refine V_iconst (v := 0) (by decide) dX8_init_95 rfl ?_
  refine V_istore_n (i := 1) rfl (by decide) rfl dX8_init_96 rfl ?_
  exact li_model l g hM hF hz 4 0 rfl
