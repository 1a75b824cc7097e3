theorem kW {l : Launch} {g : fw_G} {k : fw_M} {T T' : fw_T} {mc ms : Nat} {Q : Option Value → fw_I → fw_P → Prop} {F : fw_I} {P : fw_P} {u w q : Nat} {L : List (Option Value)} {st : List Value} (h : V l g k T' mc ms Q T F P u w q L st) : ∀ (v : Option Value) (I1 : fw_I) (P1 : fw_P), qV (fun I1 P1 => I1 = F ∧ P1 = P) v I1 P1 → V l g k T' mc ms Q T I1 P1 u w q L (v.toList ++ st) := by
  rintro _ _ _ ⟨rfl, rfl, rfl⟩
  exact h
theorem kX {l : Launch} {g : fw_G} {k : fw_M} {T T' : fw_T} {mc ms : Nat} {Q : Option Value → fw_I → fw_P → Prop} {F : fw_I} {P : fw_P} {u w q : Nat} {L : List (Option Value)} {st : List Value} {f : Int32} (h : V l g k T' mc ms Q T F P u w q L (.int f :: st)) : ∀ (v : Option Value) (I1 : fw_I) (P1 : fw_P), qJ (fun r I1 P1 => r = f ∧ I1 = F ∧ P1 = P) v I1 P1 → V l g k T' mc ms Q T I1 P1 u w q L (v.toList ++ st) := by
  rintro _ _ _ ⟨_, rfl, rfl, rfl, rfl⟩
  exact h
theorem kB {l : Launch} {g : fw_G} {k : fw_M} {T T' : fw_T} {mc ms : Nat} {Q : Option Value → fw_I → fw_P → Prop} {F : fw_I} {P : fw_P} {u w q : Nat} {L : List (Option Value)} {st : List Value} {C : Int32 → Prop} (h : ∀ r : Int32, C r → V l g k T' mc ms Q T F P u w q L (.int r :: st)) : ∀ (v : Option Value) (I1 : fw_I) (P1 : fw_P), qJ (fun r I1 P1 => C r ∧ I1 = F ∧ P1 = P) v I1 P1 → V l g k T' mc ms Q T I1 P1 u w q L (v.toList ++ st) := by
  rintro _ _ _ ⟨r, rfl, hc, rfl, rfl⟩
  exact h r hc
theorem ix_snk {s : Nat → Int32} {x : Int32} {f : Nat} (hx : ¬ aSnAt s x = -5) (hf : f < 4) : fw_ix (352 + 4 * aSnAt s x + nI f) (352 + 4 * (aSnAt s x).toNatClampNeg + f) 392 := by
  obtain ⟨k, hk, e, -, -⟩ := aSnAt_nat hx
  rw [e, nI_clamp (by omega)]
  exact ix_sn hk hf
theorem aRem4_nI {p : Nat} (hp : p < 4) : aRem4 (nI p + 1) = nI ((p + 1) % 4) := by
  have : p = 0 ∨ p = 1 ∨ p = 2 ∨ p = 3 := by omega
  rcases this with rfl | rfl | rfl | rfl <;> decide
theorem nI_eq0 {j : Nat} (h : nI j = 0) (hj : j < 2 ^ 31) : j = 0 := by
  have h1 := nI_toInt hj
  rw [h, Int32.toInt_zero] at h1
  omega
set_option maxHeartbeats 4000000 in
set_option maxRecDepth 100000 in
theorem sp_getBite (l : Launch) (g : fw_G) {I : fw_I} {P : fw_P} {s : Nat → Int32} (hM : MSh P) (hm : mOk s) {p : Nat} (hp : p < 4) (x : Int32) : Sp l g kX8_getBite T0 [.ref (g.1 + 688), .int (nI p), .int x] (wr I 689 s) P T0 0 0 (qV (fun I1 P1 => I1 = wr I 689 (aGet s p x) ∧ P1 = P)) := by
  have a688 := at_688
  have a689 := at_689
  obtain ⟨p0, p1, p3, p5, p6, p10, p12, p13⟩ := id hM
  refine Sp.of_V (L := [some (.ref (g.1 + 688)), some (.int (nI p)), some (.int x), none]) (by decide) (by simp [Value.category]) (Nat.le_of_ble_eq_true rfl) rfl ?_
  refine V_iload_n (i := 1) rfl rfl dX8_getBite_0 rfl ?_
  refine V_aload_n (i := 0) rfl rfl dX8_getBite_1 rfl ?_
  refine V_iload_n (i := 1) rfl rfl dX8_getBite_2 rfl ?_
  refine V_iconst (v := 5) (by decide) dX8_getBite_3 rfl ?_
  refine V_call (n := 2) (sp_of l g hM hp (by decide : 5 < 6)) o_X8_of m_X8_43 ⟨by decide, by decide⟩ (by assumption) rfl rfl (by first | exact Nat.le_of_ble_eq_true rfl | simp [Value.category]) (Nat.le_refl _) (Nat.le_refl _) rfl dX8_getBite_4 rfl (kI ?_)
  rw [(hm.many hp).2]
  refine V_callS (n := 2) (sp_whereIs l g _ P p (aMany s p)) o_X8_whereIs m_X8_58 ⟨by decide, by decide⟩ rfl rfl (by first | exact Nat.le_of_ble_eq_true rfl | simp [Value.category]) (Nat.le_refl _) (Nat.le_refl _) rfl dX8_getBite_7 rfl (kI ?_)
  refine V_istore_n (i := 3) rfl (by decide) rfl dX8_getBite_10 rfl ?_
  refine V_aload_n (i := 0) rfl rfl dX8_getBite_11 rfl ?_
  refine V_getr (kf := 0) C8 (by decide) l_X8_7 (by assumption) rfl (by assumption) dX8_getBite_12 rfl ?_
  refine V_iload_n (i := 3) rfl rfl dX8_getBite_15 rfl ?_
  refine V_iconst (v := 0) (by decide) dX8_getBite_16 rfl ?_
  refine V_iadd dX8_getBite_17 rfl ?_
  refine V_iload_n (i := 2) rfl rfl dX8_getBite_18 rfl ?_
  refine V_iast9 (by assumption) (ix_wi hp (hm.many hp).1 (by decide : 0 < 4)) dX8_getBite_19 rfl ?_
  refine V_aload_n (i := 0) rfl rfl dX8_getBite_20 rfl ?_
  refine V_getr (kf := 0) C8 (by decide) l_X8_7 (by assumption) rfl (by assumption) dX8_getBite_21 rfl ?_
  refine V_iload_n (i := 3) rfl rfl dX8_getBite_24 rfl ?_
  refine V_iconst (v := 1) (by decide) dX8_getBite_25 rfl ?_
  refine V_iadd dX8_getBite_26 rfl ?_
  refine V_iconst (v := 0) (by decide) dX8_getBite_27 rfl ?_
  refine V_iast9 (by assumption) (ix_wi hp (hm.many hp).1 (by decide : 1 < 4)) dX8_getBite_28 rfl ?_
  refine V_aload_n (i := 0) rfl rfl dX8_getBite_29 rfl ?_
  refine V_getr (kf := 0) C8 (by decide) l_X8_7 (by assumption) rfl (by assumption) dX8_getBite_30 rfl ?_
  refine V_iload_n (i := 3) rfl rfl dX8_getBite_33 rfl ?_
  refine V_iconst (v := 2) (by decide) dX8_getBite_34 rfl ?_
  refine V_iadd dX8_getBite_35 rfl ?_
  refine V_iload_n (i := 1) rfl rfl dX8_getBite_36 rfl ?_
  refine V_iast9 (by assumption) (ix_wi hp (hm.many hp).1 (by decide : 2 < 4)) dX8_getBite_37 rfl ?_
  refine V_aload_n (i := 0) rfl rfl dX8_getBite_38 rfl ?_
  refine V_getr (kf := 0) C8 (by decide) l_X8_7 (by assumption) rfl (by assumption) dX8_getBite_39 rfl ?_
  refine V_iload_n (i := 3) rfl rfl dX8_getBite_42 rfl ?_
  refine V_iconst (v := 3) (by decide) dX8_getBite_43 rfl ?_
  refine V_iadd dX8_getBite_44 rfl ?_
  refine V_iconst (v := 1) (by decide) dX8_getBite_45 rfl ?_
  refine V_iload_n (i := 1) rfl rfl dX8_getBite_46 rfl ?_
  refine V_ishl dX8_getBite_47 rfl ?_
  refine V_iast9 (by assumption) (ix_wi hp (hm.many hp).1 (by decide : 3 < 4)) dX8_getBite_48 rfl ?_
  refine V_aload_n (i := 0) rfl rfl dX8_getBite_49 rfl ?_
  refine V_iload_n (i := 1) rfl rfl dX8_getBite_50 rfl ?_
  refine V_iconst (v := 5) (by decide) dX8_getBite_51 rfl ?_
  refine V_iconst (v := 1) (by decide) dX8_getBite_52 rfl ?_
  refine V_call (n := 3) (sp_add l g hM 1 hp (by decide : 5 < 6)) o_X8_add m_X8_71 ⟨by decide, by decide⟩ (by assumption) rfl rfl (by first | exact Nat.le_of_ble_eq_true rfl | simp [Value.category]) (Nat.le_refl _) (Nat.le_refl _) rfl dX8_getBite_53 rfl (kW ?_)
  refine V_aload_n (i := 0) rfl rfl dX8_getBite_56 rfl ?_
  refine V_iload_n (i := 1) rfl rfl dX8_getBite_57 rfl ?_
  refine V_iconst (v := 3) (by decide) dX8_getBite_58 rfl ?_
  refine V_iconst (v := 1) (by decide) dX8_getBite_59 rfl ?_
  refine V_call (n := 3) (sp_add l g hM 1 hp (by decide : 3 < 6)) o_X8_add m_X8_71 ⟨by decide, by decide⟩ (by assumption) rfl rfl (by first | exact Nat.le_of_ble_eq_true rfl | simp [Value.category]) (Nat.le_refl _) (Nat.le_refl _) rfl dX8_getBite_60 rfl (kW ?_)
  refine V_aload_n (i := 0) rfl rfl dX8_getBite_63 rfl ?_
  refine V_getr (kf := 0) C8 (by decide) l_X8_7 (by assumption) rfl (by assumption) dX8_getBite_64 rfl ?_
  refine V_iconst (v := 2) (by decide) dX8_getBite_67 rfl ?_
  refine V_dup2 rfl rfl dX8_getBite_68 rfl ?_
  refine V_iald9 (by assumption) (fw_ix_nI (j := 2) (by decide) (by decide)) dX8_getBite_69 rfl ?_
  refine V_iconst (v := 1) (by decide) dX8_getBite_70 rfl ?_
  refine V_iadd dX8_getBite_71 rfl ?_
  refine V_iast9 (by assumption) (fw_ix_nI (j := 2) (by decide) (by decide)) dX8_getBite_72 rfl ?_
  exact V_return rfl dX8_getBite_73 rfl rfl rfl (⟨rfl, rfl, rfl⟩)

set_option maxHeartbeats 4000000 in
set_option maxRecDepth 100000 in
theorem sp_beBitten (l : Launch) (g : fw_G) {I : fw_I} {P : fw_P} {s : Nat → Int32} (hM : MSh P) (hm : mOk s) {p : Nat} (hp : p < 4) (x : Int32) (hx : ¬ aSnAt s x = -5) : Sp l g kX8_beBitten T0 [.ref (g.1 + 688), .int (nI p), .int x] (wr I 689 s) P T0 0 0 (qV (fun I1 P1 => I1 = wr I 689 (aBit s p x) ∧ P1 = P)) := by
  have a688 := at_688
  have a689 := at_689
  obtain ⟨p0, p1, p3, p5, p6, p10, p12, p13⟩ := id hM
  refine Sp.of_V (L := [some (.ref (g.1 + 688)), some (.int (nI p)), some (.int x), none]) (by decide) (by simp [Value.category]) (Nat.le_of_ble_eq_true rfl) rfl ?_
  refine V_sipush (v := 352) (by decide) dX8_beBitten_0 rfl ?_
  refine V_iconst (v := 4) (by decide) dX8_beBitten_3 rfl ?_
  refine V_aload_n (i := 0) rfl rfl dX8_beBitten_4 rfl ?_
  refine V_iload_n (i := 2) rfl rfl dX8_beBitten_5 rfl ?_
  refine V_call (n := 1) (sp_snakeAt l g hM x) o_X8_snakeAt m_X8_65 ⟨by decide, by decide⟩ (by assumption) rfl rfl (by first | exact Nat.le_of_ble_eq_true rfl | simp [Value.category]) (Nat.le_refl _) (Nat.le_refl _) rfl dX8_beBitten_6 rfl (kI ?_)
  refine V_imul dX8_beBitten_9 rfl ?_
  refine V_iadd dX8_beBitten_10 rfl ?_
  refine V_istore_n (i := 3) rfl (by decide) rfl dX8_beBitten_11 rfl ?_
  refine V_aload_n (i := 0) rfl rfl dX8_beBitten_12 rfl ?_
  refine V_iload_n (i := 1) rfl rfl dX8_beBitten_13 rfl ?_
  refine V_aload_n (i := 0) rfl rfl dX8_beBitten_14 rfl ?_
  refine V_getr (kf := 0) C8 (by decide) l_X8_7 (by assumption) rfl (by assumption) dX8_beBitten_15 rfl ?_
  refine V_iload_n (i := 3) rfl rfl dX8_beBitten_18 rfl ?_
  refine V_iconst (v := 0) (by decide) dX8_beBitten_19 rfl ?_
  refine V_iadd dX8_beBitten_20 rfl ?_
  refine V_iald9 (by assumption) (ix_snk hx (by decide : 0 < 4)) dX8_beBitten_21 rfl ?_
  refine V_aload_n (i := 0) rfl rfl dX8_beBitten_22 rfl ?_
  refine V_getr (kf := 0) C8 (by decide) l_X8_7 (by assumption) rfl (by assumption) dX8_beBitten_23 rfl ?_
  refine V_iload_n (i := 3) rfl rfl dX8_beBitten_26 rfl ?_
  refine V_iconst (v := 1) (by decide) dX8_beBitten_27 rfl ?_
  refine V_iadd dX8_beBitten_28 rfl ?_
  refine V_iald9 (by assumption) (ix_snk hx (by decide : 1 < 4)) dX8_beBitten_29 rfl ?_
  refine V_isub dX8_beBitten_30 rfl ?_
  refine V_call (n := 2) (sp_getBite l g hM hm hp (s (352 + 4 * (aSnAt s x).toNatClampNeg + 0) - s (352 + 4 * (aSnAt s x).toNatClampNeg + 1))) o_X8_getBite m_X8_75 ⟨by decide, by decide⟩ (by assumption) rfl rfl (by first | exact Nat.le_of_ble_eq_true rfl | simp [Value.category]) (Nat.le_refl _) (Nat.le_refl _) rfl dX8_beBitten_31 rfl (kW ?_)
  refine V_aload_n (i := 0) rfl rfl dX8_beBitten_34 rfl ?_
  refine V_getr (kf := 0) C8 (by decide) l_X8_7 (by assumption) rfl (by assumption) dX8_beBitten_35 rfl ?_
  refine V_iload_n (i := 3) rfl rfl dX8_beBitten_38 rfl ?_
  refine V_iconst (v := 2) (by decide) dX8_beBitten_39 rfl ?_
  refine V_iadd dX8_beBitten_40 rfl ?_
  refine V_aload_n (i := 0) rfl rfl dX8_beBitten_41 rfl ?_
  refine V_getr (kf := 0) C8 (by decide) l_X8_7 (by assumption) rfl (by assumption) dX8_beBitten_42 rfl ?_
  refine V_iconst (v := 5) (by decide) dX8_beBitten_45 rfl ?_
  refine V_iald9 (by assumption) (fw_ix_nI (j := 5) (by decide) (by decide)) dX8_beBitten_46 rfl ?_
  refine V_iconst (v := 1) (by decide) dX8_beBitten_47 rfl ?_
  refine V_iadd dX8_beBitten_48 rfl ?_
  refine V_iast9 (by assumption) (ix_snk hx (by decide : 2 < 4)) dX8_beBitten_49 rfl ?_
  refine V_aload_n (i := 0) rfl rfl dX8_beBitten_50 rfl ?_
  refine V_getr (kf := 0) C8 (by decide) l_X8_7 (by assumption) rfl (by assumption) dX8_beBitten_51 rfl ?_
  refine V_iload_n (i := 3) rfl rfl dX8_beBitten_54 rfl ?_
  refine V_iconst (v := 3) (by decide) dX8_beBitten_55 rfl ?_
  refine V_iadd dX8_beBitten_56 rfl ?_
  refine V_dup2 rfl rfl dX8_beBitten_57 rfl ?_
  refine V_iald9 (by assumption) (ix_snk hx (by decide : 3 < 4)) dX8_beBitten_58 rfl ?_
  refine V_iconst (v := 1) (by decide) dX8_beBitten_59 rfl ?_
  refine V_iadd dX8_beBitten_60 rfl ?_
  refine V_iast9 (by assumption) (ix_snk hx (by decide : 3 < 4)) dX8_beBitten_61 rfl ?_
  exact V_return rfl dX8_beBitten_62 rfl rfl rfl (⟨rfl, rfl, rfl⟩)

set_option maxHeartbeats 4000000 in
set_option maxRecDepth 100000 in
theorem lp_turnNow (l : Launch) (g : fw_G) {I : fw_I} {P : fw_P} (hM : MSh P) {p : Nat} (d q b : Int32) (F : Nat → Int32) : ∀ (n j : Nat) (s : Nat → Int32), j + n = 4 → (∃ p1, p1 < 4 ∧ s 1 = nI p1) → aNoF n j s = F → V l g kX8_doTurn T0 0 0 (qJ (fun r I1 P1 => r = q ∧ I1 = wr I 689 (F) ∧ P1 = P)) T0 (wr I 689 (s)) P 0 0 170 [some (.ref (g.1 + 688)), some (.int d), some (.int (nI p)), some (.int b), some (.int q), some (.int (nI j))] [] := by
  have a688 := at_688
  have a689 := at_689
  obtain ⟨p0, p1, p3, p5, p6, p10, p12, p13⟩ := id hM
  intro n
  induction n with
  | zero =>
    intro j s hj hs hF
    obtain rfl : j = 4 := by omega
    subst hF
    refine V_iload (i := 5) rfl dX8_doTurn_170 rfl ?_
    refine V_iconst (v := 4) (by decide) dX8_doTurn_172 rfl ?_
    refine V_icmp_ge (tgt := 223) dX8_doTurn_173 (by decide) rfl (fun _ => ?_) (fun h => absurd (nI_le (a := 4) (b := 4) (Nat.le_refl _) (by decide)) h)
    refine V_iload (i := 4) rfl dX8_doTurn_223 rfl ?_
    exact V_ireturn rfl rfl dX8_doTurn_225 rfl rfl rfl (⟨_, rfl, rfl, rfl, rfl⟩)
  | succ n ih =>
    intro j s hj hs hF
    obtain ⟨p1, hp1, e1⟩ := hs
    have hc : (s 1).toNatClampNeg = p1 := by rw [e1]; exact nI_clamp (by omega)
    have hst : ∀ (hg : j = 0 ∨ ¬ ro s p1 2 = 0), ¬ s 4 = 4 → aNoF n (j + 1) (upd s 1 (aRem4 (s 1 + 1))) = F := fun hg h4 => by
      rw [← hF]
      show _ = if s 4 = 4 then s else _
      rw [if_neg h4, hc, if_pos hg]
    have hnx : ∃ p2, p2 < 4 ∧ upd s 1 (aRem4 (s 1 + 1)) 1 = nI p2 := ⟨(p1 + 1) % 4, by omega, by rw [show upd s 1 (aRem4 (s 1 + 1)) 1 = aRem4 (s 1 + 1) from rfl, e1]; exact aRem4_nI hp1⟩
    refine V_iload (i := 5) rfl dX8_doTurn_170 rfl ?_
    refine V_iconst (v := 4) (by decide) dX8_doTurn_172 rfl ?_
    refine V_icmp_ge (tgt := 223) dX8_doTurn_173 (by decide) rfl (fun h => absurd h (nI_ge (b := 4) (by omega) (by decide))) (fun _ => ?_)
    refine V_aload_n (i := 0) rfl rfl dX8_doTurn_176 rfl ?_
    refine V_call (n := 0) (sp_isOver l g hM) o_X8_isOver m_X8_92 ⟨by decide, by decide⟩ (by assumption) rfl rfl (by first | exact Nat.le_of_ble_eq_true rfl | simp [Value.category]) (Nat.le_refl _) (Nat.le_refl _) rfl dX8_doTurn_177 rfl (kI ?_)
    refine V_if_ne (tgt := 223) dX8_doTurn_180 (by decide) rfl (fun h_180 => ?_) (fun h_180 => ?_)
    · refine V_iload (i := 4) rfl dX8_doTurn_223 rfl ?_
      exact V_ireturn rfl rfl dX8_doTurn_225 rfl rfl rfl (⟨_, rfl, rfl, by
            first
              | (rw [← hF]; show _ = wr I 689 (if s 4 = 4 then s else _); rw [if_pos (bI_nz h_180)])
              | (rw [← hF]; show _ = wr I 689 (if s 4 = 4 then s else _); rw [if_neg (bI_z h_180), hc, if_neg (fun h => h.elim (fun h0 => h_185 (by rw [h0]; rfl)) (fun h0 => h0 (bI_nz h_198)))]), rfl⟩)
    · refine V_iload (i := 5) rfl dX8_doTurn_183 rfl ?_
      refine V_if_eq (tgt := 201) dX8_doTurn_185 (by decide) rfl (fun h_185 => ?_) (fun h_185 => ?_)
      · refine V_aload_n (i := 0) rfl rfl dX8_doTurn_201 rfl ?_
        refine V_getr (kf := 0) C8 (by decide) l_X8_7 (by assumption) rfl (by assumption) dX8_doTurn_202 rfl ?_
        refine V_iconst (v := 1) (by decide) dX8_doTurn_205 rfl ?_
        refine V_aload_n (i := 0) rfl rfl dX8_doTurn_206 rfl ?_
        refine V_getr (kf := 0) C8 (by decide) l_X8_7 (by assumption) rfl (by assumption) dX8_doTurn_207 rfl ?_
        refine V_iconst (v := 1) (by decide) dX8_doTurn_210 rfl ?_
        refine V_iald9 (by assumption) (fw_ix_nI (j := 1) (by decide) (by decide)) dX8_doTurn_211 rfl ?_
        refine V_iconst (v := 1) (by decide) dX8_doTurn_212 rfl ?_
        refine V_iadd dX8_doTurn_213 rfl ?_
        refine V_iconst (v := 4) (by decide) dX8_doTurn_214 rfl ?_
        refine V_irem (by decide) dX8_doTurn_215 rfl ?_
        refine V_iast9 (by assumption) (fw_ix_nI (j := 1) (by decide) (by decide)) dX8_doTurn_216 rfl ?_
        refine V_iinc1 (i := 5) rfl (by decide) rfl dX8_doTurn_217 rfl ?_
        refine V_goto (tgt := 170) dX8_doTurn_220 (by decide) ?_
        have h9 := ih (j + 1) _ (by omega) hnx (hst (by first | exact Or.inl (nI_eq0 h_185 (by omega)) | exact Or.inr (bI_z h_198)) (bI_z h_180))
        rw [← nI_1] at h9
        exact h9
      · refine V_aload_n (i := 0) rfl rfl dX8_doTurn_188 rfl ?_
        refine V_aload_n (i := 0) rfl rfl dX8_doTurn_189 rfl ?_
        refine V_getr (kf := 0) C8 (by decide) l_X8_7 (by assumption) rfl (by assumption) dX8_doTurn_190 rfl ?_
        refine V_iconst (v := 1) (by decide) dX8_doTurn_193 rfl ?_
        refine V_iald9 (by assumption) (fw_ix_nI (j := 1) (by decide) (by decide)) dX8_doTurn_194 rfl ?_
        rw [e1]
        refine V_call (n := 1) (sp_isIn l g hM hp1) o_X8_isIn m_X8_96 ⟨by decide, by decide⟩ (by assumption) rfl rfl (by first | exact Nat.le_of_ble_eq_true rfl | simp [Value.category]) (Nat.le_refl _) (Nat.le_refl _) rfl dX8_doTurn_195 rfl (kI ?_)
        refine V_if_ne (tgt := 223) dX8_doTurn_198 (by decide) rfl (fun h_198 => ?_) (fun h_198 => ?_)
        · refine V_iload (i := 4) rfl dX8_doTurn_223 rfl ?_
          exact V_ireturn rfl rfl dX8_doTurn_225 rfl rfl rfl (⟨_, rfl, rfl, by
                first
                  | (rw [← hF]; show _ = wr I 689 (if s 4 = 4 then s else _); rw [if_pos (bI_nz h_180)])
                  | (rw [← hF]; show _ = wr I 689 (if s 4 = 4 then s else _); rw [if_neg (bI_z h_180), hc, if_neg (fun h => h.elim (fun h0 => h_185 (by rw [h0]; rfl)) (fun h0 => h0 (bI_nz h_198)))]), rfl⟩)
        · refine V_aload_n (i := 0) rfl rfl dX8_doTurn_201 rfl ?_
          refine V_getr (kf := 0) C8 (by decide) l_X8_7 (by assumption) rfl (by assumption) dX8_doTurn_202 rfl ?_
          refine V_iconst (v := 1) (by decide) dX8_doTurn_205 rfl ?_
          refine V_aload_n (i := 0) rfl rfl dX8_doTurn_206 rfl ?_
          refine V_getr (kf := 0) C8 (by decide) l_X8_7 (by assumption) rfl (by assumption) dX8_doTurn_207 rfl ?_
          refine V_iconst (v := 1) (by decide) dX8_doTurn_210 rfl ?_
          refine V_iald9 (by assumption) (fw_ix_nI (j := 1) (by decide) (by decide)) dX8_doTurn_211 rfl ?_
          refine V_iconst (v := 1) (by decide) dX8_doTurn_212 rfl ?_
          refine V_iadd dX8_doTurn_213 rfl ?_
          refine V_iconst (v := 4) (by decide) dX8_doTurn_214 rfl ?_
          refine V_irem (by decide) dX8_doTurn_215 rfl ?_
          refine V_iast9 (by assumption) (fw_ix_nI (j := 1) (by decide) (by decide)) dX8_doTurn_216 rfl ?_
          refine V_iinc1 (i := 5) rfl (by decide) rfl dX8_doTurn_217 rfl ?_
          refine V_goto (tgt := 170) dX8_doTurn_220 (by decide) ?_
          have h9 := ih (j + 1) _ (by omega) hnx (hst (by first | exact Or.inl (nI_eq0 h_185 (by omega)) | exact Or.inr (bI_z h_198)) (bI_z h_180))
          rw [← nI_1] at h9
          exact h9

set_option maxHeartbeats 4000000 in
set_option maxRecDepth 100000 in
theorem lp_turnSl (l : Launch) (g : fw_G) {I : fw_I} {P : fw_P} {s : Nat → Int32} (hM : MSh P) (hs1 : ∃ p1, p1 < 4 ∧ upd (aSlF s 10) 0 (aSlF s 10 0 + 1) 1 = nI p1) {p : Nat} (d q b : Int32) : ∀ (n j : Nat), j + n = 10 → V l g kX8_doTurn T0 0 0 (qJ (fun r I1 P1 => r = q ∧ I1 = wr I 689 (aNoF 4 0 (upd (aSlF s 10) 0 (aSlF s 10 0 + 1))) ∧ P1 = P)) T0 (wr I 689 (aSlF s j)) P 0 0 111 [some (.ref (g.1 + 688)), some (.int d), some (.int (nI p)), some (.int b), some (.int q), some (.int (nI j))] [] := by
  have a688 := at_688
  have a689 := at_689
  obtain ⟨p0, p1, p3, p5, p6, p10, p12, p13⟩ := id hM
  intro n
  induction n with
  | zero =>
    intro j hj
    obtain rfl : j = 10 := by omega
    refine V_iload (i := 5) rfl dX8_doTurn_111 rfl ?_
    refine V_bipush (v := 10) (by decide) dX8_doTurn_113 rfl ?_
    refine V_icmp_ge (tgt := 157) dX8_doTurn_115 (by decide) rfl (fun _ => ?_) (fun h => absurd (nI_le (a := 10) (b := 10) (Nat.le_refl _) (by decide)) h)
    refine V_aload_n (i := 0) rfl rfl dX8_doTurn_157 rfl ?_
    refine V_getr (kf := 0) C8 (by decide) l_X8_7 (by assumption) rfl (by assumption) dX8_doTurn_158 rfl ?_
    refine V_iconst (v := 0) (by decide) dX8_doTurn_161 rfl ?_
    refine V_dup2 rfl rfl dX8_doTurn_162 rfl ?_
    refine V_iald9 (by assumption) (fw_ix_nI (j := 0) (by decide) (by decide)) dX8_doTurn_163 rfl ?_
    refine V_iconst (v := 1) (by decide) dX8_doTurn_164 rfl ?_
    refine V_iadd dX8_doTurn_165 rfl ?_
    refine V_iast9 (by assumption) (fw_ix_nI (j := 0) (by decide) (by decide)) dX8_doTurn_166 rfl ?_
    refine V_iconst (v := 0) (by decide) dX8_doTurn_167 rfl ?_
    refine V_istore (i := 5) (by decide) rfl dX8_doTurn_168 rfl ?_
    exact lp_turnNow l g hM d q b _ 4 0 _ rfl hs1 rfl
  | succ n ih =>
    intro j hj
    have hj10 : j < 10 := by omega
    refine V_iload (i := 5) rfl dX8_doTurn_111 rfl ?_
    refine V_bipush (v := 10) (by decide) dX8_doTurn_113 rfl ?_
    refine V_icmp_ge (tgt := 157) dX8_doTurn_115 (by decide) rfl (fun h => absurd h (nI_ge (b := 10) (by omega) (by decide))) (fun _ => ?_)
    refine V_aload_n (i := 0) rfl rfl dX8_doTurn_118 rfl ?_
    refine V_getr (kf := 0) C8 (by decide) l_X8_7 (by assumption) rfl (by assumption) dX8_doTurn_119 rfl ?_
    refine V_sipush (v := 352) (by decide) dX8_doTurn_122 rfl ?_
    refine V_iconst (v := 4) (by decide) dX8_doTurn_125 rfl ?_
    refine V_iload (i := 5) rfl dX8_doTurn_126 rfl ?_
    refine V_imul dX8_doTurn_128 rfl ?_
    refine V_iadd dX8_doTurn_129 rfl ?_
    refine V_iconst (v := 2) (by decide) dX8_doTurn_130 rfl ?_
    refine V_iadd dX8_doTurn_131 rfl ?_
    refine V_dup2 rfl rfl dX8_doTurn_132 rfl ?_
    refine V_iald9 (by assumption) (ix_sn hj10 (by decide : 2 < 4)) dX8_doTurn_133 rfl ?_
    refine V_aload_n (i := 0) rfl rfl dX8_doTurn_134 rfl ?_
    refine V_iload (i := 5) rfl dX8_doTurn_135 rfl ?_
    refine V_iconst (v := 2) (by decide) dX8_doTurn_137 rfl ?_
    refine V_call (n := 2) (sp_ofSnake l g hM hj10 (by decide : 2 < 4)) o_X8_ofSnake m_X8_47 ⟨by decide, by decide⟩ (by assumption) rfl rfl (by first | exact Nat.le_of_ble_eq_true rfl | simp [Value.category]) (Nat.le_refl _) (Nat.le_refl _) rfl dX8_doTurn_138 rfl (kI ?_)
    refine V_if_le (tgt := 148) dX8_doTurn_141 (by decide) rfl (fun h_141 => ?_) (fun h_141 => ?_)
    · refine V_iconst (v := 0) (by decide) dX8_doTurn_148 rfl ?_
      refine V_isub dX8_doTurn_149 rfl ?_
      refine V_iast9 (by assumption) (ix_sn hj10 (by decide : 2 < 4)) dX8_doTurn_150 rfl ?_
      refine V_iinc1 (i := 5) rfl (by decide) rfl dX8_doTurn_151 rfl ?_
      refine V_goto (tgt := 111) dX8_doTurn_154 (by decide) ?_
      have h9 := ih (j + 1) (by omega)
      rw [← nI_1, show aSlF s (j + 1) = upd (aSlF s j) (352 + 4 * j + 2) (aSlF s j (352 + 4 * j + 2) - bI (0 < sn (aSlF s j) j 2)) from rfl] at h9
      first | (rw [bI_t (Int32.not_le.mp h_141)] at h9; exact h9) | (rw [bI_f (fun h => absurd h_141 (Int32.not_le.mpr h))] at h9; exact h9)
    · refine V_iconst (v := 1) (by decide) dX8_doTurn_144 rfl ?_
      refine V_goto (tgt := 149) dX8_doTurn_145 (by decide) ?_
      refine V_isub dX8_doTurn_149 rfl ?_
      refine V_iast9 (by assumption) (ix_sn hj10 (by decide : 2 < 4)) dX8_doTurn_150 rfl ?_
      refine V_iinc1 (i := 5) rfl (by decide) rfl dX8_doTurn_151 rfl ?_
      refine V_goto (tgt := 111) dX8_doTurn_154 (by decide) ?_
      have h9 := ih (j + 1) (by omega)
      rw [← nI_1, show aSlF s (j + 1) = upd (aSlF s j) (352 + 4 * j + 2) (aSlF s j (352 + 4 * j + 2) - bI (0 < sn (aSlF s j) j 2)) from rfl] at h9
      first | (rw [bI_t (Int32.not_le.mp h_141)] at h9; exact h9) | (rw [bI_f (fun h => absurd h_141 (Int32.not_le.mpr h))] at h9; exact h9)

