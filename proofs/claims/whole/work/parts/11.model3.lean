theorem V_Q {l : Launch} {g : fw_G} {k : fw_M} {T T' : fw_T} {mc ms : Nat} {Q Q0 : Option Value → fw_I → fw_P → Prop} {I : fw_I} {P : fw_P} {u w pc : Nat} {L : List (Option Value)} {st : List Value} (h : ∀ (v : Option Value) (I1 : fw_I) (P1 : fw_P), Q0 v I1 P1 → Q v I1 P1) (kk : V l g k T' mc ms Q0 T I P u w pc L st) : V l g k T' mc ms Q T I P u w pc L st := by
  intro p e s m args below meth c H locs ls hC hK hR hS hL T1 hT X
  obtain ⟨t, a, o, b1, b2, b3, b4⟩ := kk p e s m args below meth c H locs ls hC hK hR hS hL T1 hT X
  obtain ⟨⟨v, I1, P1, e1, e2, e3⟩, e4⟩ := b3
  exact ⟨t, a, o, b1, b2, ⟨⟨v, I1, P1, e1, h v I1 P1 e2, e3⟩, e4⟩, b4⟩
theorem upd_at (s : Nat → Int32) (i : Nat) (x : Int32) (j : Nat) : upd s i x j = if j = i then x else s j := rfl
theorem ro_aAdd (s : Nat → Int32) {p f p2 f2 : Nat} (x : Int32) (hf : f < 6) (hf2 : f2 < 6) : ro (aAdd s p f x) p2 f2 = if p2 = p ∧ f2 = f then ro s p f + x else ro s p2 f2 := by
  unfold aAdd ro
  rw [upd_at]
  by_cases h : p2 = p ∧ f2 = f
  · obtain ⟨rfl, rfl⟩ := h
    simp
  · rw [if_neg h, if_neg]
    omega
theorem aAdd_lo (s : Nat → Int32) (p f : Nat) (x : Int32) {j : Nat} (h : j < 8) : aAdd s p f x j = s j := by
  unfold aAdd
  rw [upd_at, if_neg (by omega)]
theorem aAdd_hi (s : Nat → Int32) {p f : Nat} (x : Int32) {j : Nat} (hp : p < 4) (hf : f < 6) (h : 32 ≤ j) : aAdd s p f x j = s j := by
  unfold aAdd
  rw [upd_at, if_neg (by omega)]
theorem aSlF_lo (s : Nat → Int32) {j : Nat} (h : j < 352) : ∀ n, aSlF s n j = s j
  | 0 => rfl
  | n + 1 => by
    show upd (aSlF s n) _ _ j = _
    rw [upd_at, if_neg (by omega)]
    exact aSlF_lo s h n
theorem aT3_ro (s : Nat → Int32) {p : Nat} (q : Int32) {p2 f : Nat} (hf : f < 6) : ro (aT3 s p q) p2 f = if p2 = p then (if f = 0 then q else if f = 4 then ro s p 4 + (ro s p 0 - aBeg s p) else if f = 5 then 0 else ro s p2 f) else ro s p2 f := by
  have r1 : ∀ f2, f2 < 6 → ro (aT1 s p) p2 f2 = if p2 = p ∧ f2 = 4 then ro s p 4 + (ro s p 0 - aBeg s p) else ro s p2 f2 := fun f2 h => ro_aAdd s _ (by decide) h
  have r1p : ∀ f2, f2 < 6 → ro (aT1 s p) p f2 = if p = p ∧ f2 = 4 then ro s p 4 + (ro s p 0 - aBeg s p) else ro s p f2 := fun f2 h => ro_aAdd s _ (by decide) h
  have r2 : ∀ f2, f2 < 6 → ro (aT2 s p) p2 f2 = if p2 = p ∧ f2 = 5 then 0 else ro (aT1 s p) p2 f2 := fun f2 h => by
    rw [aT2, ro_aAdd _ _ (by decide) h, Int32.add_right_neg]
  have r3 : ro (aT3 s p q) p2 f = if p2 = p ∧ f = 0 then q else ro (aT2 s p) p2 f := by
    rw [aT3, ro_aAdd _ _ (by decide) hf, Int32.add_comm, Int32.sub_add_cancel]
  rw [r3, r2 f hf, r1 f hf]
  by_cases hp : p2 = p
  · subst hp
    by_cases h0 : f = 0
    · simp [h0]
    · by_cases h4 : f = 4
      · simp [h4]
      · by_cases h5 : f = 5
        · simp [h5]
        · simp [h0, h4, h5]
  · simp [hp]
theorem aT3_mOk {s : Nat → Int32} (h : mOk s) (p : Nat) (q : Int32) : mOk (aT3 s p q) := by
  intro p2 hp2
  rw [aT3_ro s q (by decide : 5 < 6)]
  by_cases hp : p2 = p
  · exact ⟨0, by decide, by simp [hp, nI_0]⟩
  · rw [if_neg hp]; exact h p2 hp2
theorem aT3_lo (s : Nat → Int32) (p : Nat) (q : Int32) {j : Nat} (h : j < 8) : aT3 s p q j = s j := by
  unfold aT3 aT2 aT1
  rw [aAdd_lo _ _ _ _ h, aAdd_lo _ _ _ _ h, aAdd_lo _ _ _ _ h]
theorem aGet_1 (s : Nat → Int32) (p : Nat) (x : Int32) : aGet s p x 1 = s 1 := by
  have hw : 32 ≤ wi p (aMany s p) := by unfold wi; omega
  unfold aGet
  rw [upd_at, if_neg (by decide), aAdd_lo _ _ _ _ (by decide), aAdd_lo _ _ _ _ (by decide), upd_at, if_neg (by omega), upd_at, if_neg (by omega), upd_at, if_neg (by omega), upd_at, if_neg (by omega)]
theorem aBit_1 (s : Nat → Int32) (p : Nat) (q : Int32) : aBit s p q 1 = s 1 := by
  unfold aBit
  rw [upd_at, if_neg (by omega), upd_at, if_neg (by omega)]
  exact aGet_1 s p _
theorem aT4_1 (s : Nat → Int32) (p : Nat) (q : Int32) : aT4 s p q 1 = s 1 := by
  unfold aT4
  split
  · rw [aBit_1, aT3_lo _ _ _ (by decide)]
  · rw [aT3_lo _ _ _ (by decide)]
theorem aHome_1 (s : Nat → Int32) (p : Nat) : aHome s p 1 = s 1 := by
  unfold aHome
  rw [aAdd_lo _ _ _ _ (by decide), upd_at, if_neg (by decide)]
theorem nI_m1 {m : Nat} (h : 0 < m) : nI m + -1 = nI (m - 1) := by
  obtain ⟨j, rfl⟩ : ∃ j, m = j + 1 := ⟨m - 1, by omega⟩
  rw [Int32.add_neg_eq_sub, nI_pred]
  rfl
theorem aCp_lo (s : Nat → Int32) {to fr j : Nat} (h : j < to) : ∀ n, aCp s to fr n j = s j
  | 0 => rfl
  | n + 1 => by
    show upd (aCp s to fr n) _ _ j = _
    rw [upd_at, if_neg (by omega)]
    exact aCp_lo s h n
theorem aS3_lo (s : Nat → Int32) (p k b : Nat) {j : Nat} (h : j < 32) : aS3 s p k b j = s j := by
  have hw : 32 ≤ wi b (aMany s b) := by unfold wi; omega
  unfold aS3
  rw [upd_at, if_neg (by omega), upd_at, if_neg (by omega)]
  exact aCp_lo s (by omega) 4
theorem aS5_5 {s : Nat → Int32} (hm : mOk s) {p k b : Nat} (hp : p < 4) (hb : b < 4) (hk : k < aMany s p) (hpb : ¬ p = b) : aS5 s p k b (8 + 6 * p + 5) = nI (aMany s p - 1) := by
  show ro (aS5 s p k b) p 5 = _
  unfold aS5
  rw [ro_aAdd _ _ (by decide) (by decide), if_pos ⟨rfl, rfl⟩, ro_aAdd _ _ (by decide) (by decide), if_neg (fun h => hpb h.1)]
  have e : ro (aS3 s p k b) p 5 = ro s p 5 := by unfold ro; exact aS3_lo s p k b (by omega)
  rw [e, (hm.many hp).2, nI_m1 (by omega)]
set_option maxHeartbeats 4000000 in
set_option maxRecDepth 100000 in
theorem lp_turn108 (l : Launch) (g : fw_G) {I : fw_I} {P : fw_P} {s : Nat → Int32} (hM : MSh P) (hs1 : ∃ p1, p1 < 4 ∧ s 1 = nI p1) {p : Nat} (d q b : Int32) : V l g kX8_doTurn T0 0 0 (qJ (fun r I1 P1 => r = q ∧ I1 = wr I 689 (aNoF 4 0 (upd (aSlF s 10) 0 (aSlF s 10 0 + 1))) ∧ P1 = P)) T0 (wr I 689 (s)) P 0 0 108 [some (.ref (g.1 + 688)), some (.int d), some (.int (nI p)), some (.int b), some (.int q), none] [] := by
  have hs2 : ∃ p1, p1 < 4 ∧ upd (aSlF s 10) 0 (aSlF s 10 0 + 1) 1 = nI p1 := by
    rw [upd_at, if_neg (by decide), aSlF_lo s (by decide)]
    exact hs1
  refine V_iconst (v := 0) (by decide) dX8_doTurn_108 rfl ?_
  refine V_istore (i := 5) (by decide) rfl dX8_doTurn_109 rfl ?_
  exact lp_turnSl l g hM hs2 d q b 10 0 rfl

set_option maxHeartbeats 4000000 in
set_option maxRecDepth 100000 in
theorem lp_turn79 (l : Launch) (g : fw_G) {I : fw_I} {P : fw_P} {s : Nat → Int32} (hM : MSh P) (hs1 : ∃ p1, p1 < 4 ∧ s 1 = nI p1) {p : Nat} (hp : p < 4) (d q b : Int32) : V l g kX8_doTurn T0 0 0 (qJ (fun r I1 P1 => r = q ∧ I1 = wr I 689 (aNoF 4 0 (upd (aSlF (if q = 60 then aHome s p else s) 10) 0 (aSlF (if q = 60 then aHome s p else s) 10 0 + 1))) ∧ P1 = P)) T0 (wr I 689 (s)) P 0 0 79 [some (.ref (g.1 + 688)), some (.int d), some (.int (nI p)), some (.int b), some (.int q), none] [] := by
  have a688 := at_688
  have a689 := at_689
  obtain ⟨p0, p1, p3, p5, p6, p10, p12, p13⟩ := id hM
  refine V_iload (i := 4) rfl dX8_doTurn_79 rfl ?_
  refine V_bipush (v := 60) (by decide) dX8_doTurn_81 rfl ?_
  refine V_icmp_ne (tgt := 108) dX8_doTurn_83 (by decide) rfl (fun h_83 => ?_) (fun h_83 => ?_)
  · first
      | (rw [if_neg h_83]; exact lp_turn108 l g hM hs1 d q b)
      | (rw [if_pos h_83]; exact lp_turn108 (s := aHome s p) l g hM (by rw [aHome_1]; exact hs1) d q b)
  · refine V_aload_n (i := 0) rfl rfl dX8_doTurn_86 rfl ?_
    refine V_getr (kf := 0) C8 (by decide) l_X8_7 (by assumption) rfl (by assumption) dX8_doTurn_87 rfl ?_
    refine V_iconst (v := 4) (by decide) dX8_doTurn_90 rfl ?_
    refine V_dup2 rfl rfl dX8_doTurn_91 rfl ?_
    refine V_iald9 (by assumption) (fw_ix_nI (j := 4) (by decide) (by decide)) dX8_doTurn_92 rfl ?_
    refine V_iconst (v := 1) (by decide) dX8_doTurn_93 rfl ?_
    refine V_iadd dX8_doTurn_94 rfl ?_
    refine V_iast9 (by assumption) (fw_ix_nI (j := 4) (by decide) (by decide)) dX8_doTurn_95 rfl ?_
    refine V_aload_n (i := 0) rfl rfl dX8_doTurn_96 rfl ?_
    refine V_iload_n (i := 2) rfl rfl dX8_doTurn_97 rfl ?_
    refine V_iconst (v := 2) (by decide) dX8_doTurn_98 rfl ?_
    refine V_aload_n (i := 0) rfl rfl dX8_doTurn_99 rfl ?_
    refine V_getr (kf := 0) C8 (by decide) l_X8_7 (by assumption) rfl (by assumption) dX8_doTurn_100 rfl ?_
    refine V_iconst (v := 4) (by decide) dX8_doTurn_103 rfl ?_
    refine V_iald9 (by assumption) (fw_ix_nI (j := 4) (by decide) (by decide)) dX8_doTurn_104 rfl ?_
    refine V_call (n := 3) (sp_add l g hM _ hp (by decide : 2 < 6)) o_X8_add m_X8_71 ⟨by decide, by decide⟩ (by assumption) rfl rfl (by first | exact Nat.le_of_ble_eq_true rfl | simp [Value.category]) (Nat.le_refl _) (Nat.le_refl _) rfl dX8_doTurn_105 rfl (kW ?_)
    first
      | (rw [if_neg h_83]; exact lp_turn108 l g hM hs1 d q b)
      | (rw [if_pos h_83]; exact lp_turn108 (s := aHome s p) l g hM (by rw [aHome_1]; exact hs1) d q b)

set_option maxHeartbeats 4000000 in
set_option maxRecDepth 100000 in
theorem sp_doTurn (l : Launch) (g : fw_G) {I : fw_I} {P : fw_P} {s : Nat → Int32} (hM : MSh P) (hm : mOk s) {p : Nat} (hp : p < 4) (hs : s 1 = nI p) (d : Int32) : Sp l g kX8_doTurn T0 [.ref (g.1 + 688), .int d] (wr I 689 s) P T0 0 0 (qJ (fun r I1 P1 => r = aTq s d ∧ I1 = wr I 689 (aT s d) ∧ P1 = P)) := by
  have a688 := at_688
  have a689 := at_689
  obtain ⟨p0, p1, p3, p5, p6, p10, p12, p13⟩ := id hM
  have hcl : (s 1).toNatClampNeg = p := by rw [hs]; exact nI_clamp (by omega)
  have eT : ∀ {v : Option Value} {I1 : fw_I} {P1 : fw_P} {s4 : Nat → Int32}, qJ (fun r I1 P1 => r = aTq s d ∧ I1 = wr I 689 (aNoF 4 0 (upd (aSlF (if aTq s d = 60 then aHome s4 p else s4) 10) 0 (aSlF (if aTq s d = 60 then aHome s4 p else s4) 10 0 + 1))) ∧ P1 = P) v I1 P1 → aT4 s p (aTq s d) = s4 → qJ (fun r I1 P1 => r = aTq s d ∧ I1 = wr I 689 (aT s d) ∧ P1 = P) v I1 P1 := by
    intro v I1 P1 s4 h e
    subst e
    have e9 : aT s d = aNoF 4 0 (upd (aSlF (if aTq s d = 60 then aHome (aT4 s p (aTq s d)) p else aT4 s p (aTq s d)) 10) 0 (aSlF (if aTq s d = 60 then aHome (aT4 s p (aTq s d)) p else aT4 s p (aTq s d)) 10 0 + 1)) := by
      unfold aT
      rw [hcl]
      rfl
    rw [e9]
    exact h
  refine Sp.of_V (L := [some (.ref (g.1 + 688)), some (.int d), none, none, none, none]) (by decide) (by simp [Value.category]) (Nat.le_of_ble_eq_true rfl) rfl ?_
  refine V_aload_n (i := 0) rfl rfl dX8_doTurn_0 rfl ?_
  refine V_getr (kf := 0) C8 (by decide) l_X8_7 (by assumption) rfl (by assumption) dX8_doTurn_1 rfl ?_
  refine V_iconst (v := 1) (by decide) dX8_doTurn_4 rfl ?_
  refine V_iald9 (by assumption) (fw_ix_nI (j := 1) (by decide) (by decide)) dX8_doTurn_5 rfl ?_
  rw [hs]
  refine V_istore_n (i := 2) rfl (by decide) rfl dX8_doTurn_6 rfl ?_
  refine V_aload_n (i := 0) rfl rfl dX8_doTurn_7 rfl ?_
  refine V_iload_n (i := 2) rfl rfl dX8_doTurn_8 rfl ?_
  refine V_call (n := 1) (sp_beginsAt l g hM hm hp) o_X8_beginsAt m_X8_79 ⟨by decide, by decide⟩ (by assumption) rfl rfl (by first | exact Nat.le_of_ble_eq_true rfl | simp [Value.category]) (Nat.le_refl _) (Nat.le_refl _) rfl dX8_doTurn_9 rfl (kI ?_)
  refine V_istore_n (i := 3) rfl (by decide) rfl dX8_doTurn_12 rfl ?_
  refine V_aload_n (i := 0) rfl rfl dX8_doTurn_13 rfl ?_
  refine V_iload_n (i := 2) rfl rfl dX8_doTurn_14 rfl ?_
  refine V_iconst (v := 4) (by decide) dX8_doTurn_15 rfl ?_
  refine V_aload_n (i := 0) rfl rfl dX8_doTurn_16 rfl ?_
  refine V_iload_n (i := 2) rfl rfl dX8_doTurn_17 rfl ?_
  refine V_iconst (v := 0) (by decide) dX8_doTurn_18 rfl ?_
  refine V_call (n := 2) (sp_of l g hM hp (by decide : 0 < 6)) o_X8_of m_X8_43 ⟨by decide, by decide⟩ (by assumption) rfl rfl (by first | exact Nat.le_of_ble_eq_true rfl | simp [Value.category]) (Nat.le_refl _) (Nat.le_refl _) rfl dX8_doTurn_19 rfl (kI ?_)
  refine V_iload_n (i := 3) rfl rfl dX8_doTurn_22 rfl ?_
  refine V_isub dX8_doTurn_23 rfl ?_
  refine V_call (n := 3) (sp_add l g hM (ro s p 0 - aBeg s p) hp (by decide : 4 < 6)) o_X8_add m_X8_71 ⟨by decide, by decide⟩ (by assumption) rfl rfl (by first | exact Nat.le_of_ble_eq_true rfl | simp [Value.category]) (Nat.le_refl _) (Nat.le_refl _) rfl dX8_doTurn_24 rfl (kW ?_)
  refine V_aload_n (i := 0) rfl rfl dX8_doTurn_27 rfl ?_
  refine V_iload_n (i := 2) rfl rfl dX8_doTurn_28 rfl ?_
  refine V_iconst (v := 5) (by decide) dX8_doTurn_29 rfl ?_
  refine V_aload_n (i := 0) rfl rfl dX8_doTurn_30 rfl ?_
  refine V_iload_n (i := 2) rfl rfl dX8_doTurn_31 rfl ?_
  refine V_iconst (v := 5) (by decide) dX8_doTurn_32 rfl ?_
  refine V_call (n := 2) (sp_of l g hM hp (by decide : 5 < 6)) o_X8_of m_X8_43 ⟨by decide, by decide⟩ (by assumption) rfl rfl (by first | exact Nat.le_of_ble_eq_true rfl | simp [Value.category]) (Nat.le_refl _) (Nat.le_refl _) rfl dX8_doTurn_33 rfl (kI ?_)
  refine V_ineg dX8_doTurn_36 rfl ?_
  refine V_call (n := 3) (sp_add l g hM (- ro (aT1 s p) p 5) hp (by decide : 5 < 6)) o_X8_add m_X8_71 ⟨by decide, by decide⟩ (by assumption) rfl rfl (by first | exact Nat.le_of_ble_eq_true rfl | simp [Value.category]) (Nat.le_refl _) (Nat.le_refl _) rfl dX8_doTurn_37 rfl (kW ?_)
  refine V_iload_n (i := 3) rfl rfl dX8_doTurn_40 rfl ?_
  refine V_iload_n (i := 1) rfl rfl dX8_doTurn_41 rfl ?_
  have e42 : aGo (aBeg s p) d = aTq s d := by unfold aTq; rw [hs, nI_clamp (by omega)]
  refine V_callS (n := 2) (sp_goOn l g _ _ (aBeg s p) d) o_X8_goOn m_X8_82 ⟨by decide, by decide⟩ rfl rfl (by first | exact Nat.le_of_ble_eq_true rfl | simp [Value.category]) (Nat.le_refl _) (Nat.le_refl _) rfl dX8_doTurn_42 rfl (kI ?_)
  rw [e42]
  refine V_istore (i := 4) (by decide) rfl dX8_doTurn_45 rfl ?_
  refine V_aload_n (i := 0) rfl rfl dX8_doTurn_47 rfl ?_
  refine V_iload_n (i := 2) rfl rfl dX8_doTurn_48 rfl ?_
  refine V_iconst (v := 0) (by decide) dX8_doTurn_49 rfl ?_
  refine V_iload (i := 4) rfl dX8_doTurn_50 rfl ?_
  refine V_aload_n (i := 0) rfl rfl dX8_doTurn_52 rfl ?_
  refine V_iload_n (i := 2) rfl rfl dX8_doTurn_53 rfl ?_
  refine V_iconst (v := 0) (by decide) dX8_doTurn_54 rfl ?_
  refine V_call (n := 2) (sp_of l g hM hp (by decide : 0 < 6)) o_X8_of m_X8_43 ⟨by decide, by decide⟩ (by assumption) rfl rfl (by first | exact Nat.le_of_ble_eq_true rfl | simp [Value.category]) (Nat.le_refl _) (Nat.le_refl _) rfl dX8_doTurn_55 rfl (kI ?_)
  refine V_isub dX8_doTurn_58 rfl ?_
  refine V_call (n := 3) (sp_add l g hM (aTq s d - ro (aT2 s p) p 0) hp (by decide : 0 < 6)) o_X8_add m_X8_71 ⟨by decide, by decide⟩ (by assumption) rfl rfl (by first | exact Nat.le_of_ble_eq_true rfl | simp [Value.category]) (Nat.le_refl _) (Nat.le_refl _) rfl dX8_doTurn_59 rfl (kW ?_)
  refine V_aload_n (i := 0) rfl rfl dX8_doTurn_62 rfl ?_
  refine V_iload_n (i := 2) rfl rfl dX8_doTurn_63 rfl ?_
  refine V_iload (i := 4) rfl dX8_doTurn_64 rfl ?_
  refine V_call (n := 2) (sp_bites l g hM hp (aTq s d)) o_X8_bites m_X8_85 ⟨by decide, by decide⟩ (by assumption) rfl rfl (by first | exact Nat.le_of_ble_eq_true rfl | simp [Value.category]) (Nat.le_refl _) (Nat.le_refl _) rfl dX8_doTurn_66 rfl (kB (fun r66 hb66 => ?_))
  refine V_if_eq (tgt := 79) dX8_doTurn_69 (by decide) rfl (fun h_69 => ?_) (fun h_69 => ?_)
  · have h9 := lp_turn79 (I := I) (P := P) (s := aT4 s p (aTq s d)) l g hM ⟨p, hp, by rw [aT4_1]; exact hs⟩ hp d (aTq s d) (aBeg s p)
    first
      | (have e4 : aT4 s p (aTq s d) = aT3 s p (aTq s d) := if_neg (hb66.elim (fun h => absurd (h.1.symm.trans h_69) (by decide)) (fun h => h.2))
         rw [e4] at h9
         exact V_Q (fun v I1 P1 hv => eT hv e4) h9)
      | (have e4 : aT4 s p (aTq s d) = aBit (aT3 s p (aTq s d)) p (aTq s d) := if_pos hb67
         rw [e4] at h9
         exact V_Q (fun v I1 P1 hv => eT hv e4) h9)
  · have hb67 := hb66.elim (fun h => h.2) (fun h => absurd h.1 h_69)
    refine V_aload_n (i := 0) rfl rfl dX8_doTurn_72 rfl ?_
    refine V_iload_n (i := 2) rfl rfl dX8_doTurn_73 rfl ?_
    refine V_iload (i := 4) rfl dX8_doTurn_74 rfl ?_
    refine V_call (n := 2) (sp_beBitten l g hM (aT3_mOk hm p (aTq s d)) hp (aTq s d) hb67.1) o_X8_beBitten m_X8_89 ⟨by decide, by decide⟩ (by assumption) rfl rfl (by first | exact Nat.le_of_ble_eq_true rfl | simp [Value.category]) (Nat.le_refl _) (Nat.le_refl _) rfl dX8_doTurn_76 rfl (kW ?_)
    have h9 := lp_turn79 (I := I) (P := P) (s := aT4 s p (aTq s d)) l g hM ⟨p, hp, by rw [aT4_1]; exact hs⟩ hp d (aTq s d) (aBeg s p)
    first
      | (have e4 : aT4 s p (aTq s d) = aT3 s p (aTq s d) := if_neg (hb66.elim (fun h => absurd (h.1.symm.trans h_69) (by decide)) (fun h => h.2))
         rw [e4] at h9
         exact V_Q (fun v I1 P1 hv => eT hv e4) h9)
      | (have e4 : aT4 s p (aTq s d) = aBit (aT3 s p (aTq s d)) p (aTq s d) := if_pos hb67
         rw [e4] at h9
         exact V_Q (fun v I1 P1 hv => eT hv e4) h9)

set_option maxHeartbeats 4000000 in
set_option maxRecDepth 100000 in
theorem sp_asks (l : Launch) (g : fw_G) {I : fw_I} {P : fw_P} {s : Nat → Int32} (hM : MSh P) (x : Int32) {p : Nat} (hp : p < 4) : Sp l g kX8_asks T0 [.ref (g.1 + 688), .int x, .int (nI p)] (wr I 689 s) P T0 0 0 (qI (aAsk s x p) (wr I 689 s) P) := by
  have a688 := at_688
  have a689 := at_689
  obtain ⟨p0, p1, p3, p5, p6, p10, p12, p13⟩ := id hM
  refine Sp.of_V (L := [some (.ref (g.1 + 688)), some (.int x), some (.int (nI p))]) (by decide) (by simp [Value.category]) (Nat.le_of_ble_eq_true rfl) rfl ?_
  refine V_iload_n (i := 1) rfl rfl dX8_asks_0 rfl ?_
  refine V_iconst (v := 2) (by decide) dX8_asks_1 rfl ?_
  refine V_iadd dX8_asks_2 rfl ?_
  refine V_iconst (v := 3) (by decide) dX8_asks_3 rfl ?_
  refine V_idiv (by decide) dX8_asks_4 rfl ?_
  refine V_iconst (v := 2) (by decide) dX8_asks_5 rfl ?_
  refine V_aload_n (i := 0) rfl rfl dX8_asks_6 rfl ?_
  refine V_iload_n (i := 2) rfl rfl dX8_asks_7 rfl ?_
  refine V_iconst (v := 5) (by decide) dX8_asks_8 rfl ?_
  refine V_call (n := 2) (sp_of l g hM hp (by decide : 5 < 6)) o_X8_of m_X8_43 ⟨by decide, by decide⟩ (by assumption) rfl rfl (by first | exact Nat.le_of_ble_eq_true rfl | simp [Value.category]) (Nat.le_refl _) (Nat.le_refl _) rfl dX8_asks_9 rfl (kI ?_)
  refine V_imul dX8_asks_12 rfl ?_
  refine V_iadd dX8_asks_13 rfl ?_
  exact V_ireturn rfl rfl dX8_asks_14 rfl rfl rfl (qI.of rfl)

set_option maxHeartbeats 4000000 in
set_option maxRecDepth 100000 in
theorem sp_reason (l : Launch) (g : fw_G) {I : fw_I} {P : fw_P} {s : Nat → Int32} (hM : MSh P) {p k b : Nat} (hp : p < 4) (hk : k < 20) (hb : b < 4) (c : Int32) : Sp l g kX8_reason T0 [.ref (g.1 + 688), .int (nI p), .int (nI k), .int (nI b), .int c] (wr I 689 s) P T0 0 0 (qI (aRea s p k b c) (wr I 689 s) P) := by
  have a688 := at_688
  have a689 := at_689
  obtain ⟨p0, p1, p3, p5, p6, p10, p12, p13⟩ := id hM
  refine Sp.of_V (L := [some (.ref (g.1 + 688)), some (.int (nI p)), some (.int (nI k)), some (.int (nI b)), some (.int c), none]) (by decide) (by simp [Value.category]) (Nat.le_of_ble_eq_true rfl) rfl ?_
  refine V_iload_n (i := 1) rfl rfl dX8_reason_0 rfl ?_
  refine V_iload_n (i := 2) rfl rfl dX8_reason_1 rfl ?_
  refine V_callS (n := 2) (sp_whereIs l g _ P p k) o_X8_whereIs m_X8_58 ⟨by decide, by decide⟩ rfl rfl (by first | exact Nat.le_of_ble_eq_true rfl | simp [Value.category]) (Nat.le_refl _) (Nat.le_refl _) rfl dX8_reason_2 rfl (kI ?_)
  refine V_istore (i := 5) (by decide) rfl dX8_reason_5 rfl ?_
  refine V_aload_n (i := 0) rfl rfl dX8_reason_7 rfl ?_
  refine V_iload_n (i := 3) rfl rfl dX8_reason_8 rfl ?_
  refine V_call (n := 1) (sp_isIn l g hM hb) o_X8_isIn m_X8_96 ⟨by decide, by decide⟩ (by assumption) rfl rfl (by first | exact Nat.le_of_ble_eq_true rfl | simp [Value.category]) (Nat.le_refl _) (Nat.le_refl _) rfl dX8_reason_9 rfl (kI ?_)
  refine V_if_ne (tgt := 17) dX8_reason_12 (by decide) rfl (fun h_12 => ?_) (fun h_12 => ?_)
  · refine V_aload_n (i := 0) rfl rfl dX8_reason_17 rfl ?_
    refine V_getr (kf := 0) C8 (by decide) l_X8_7 (by assumption) rfl (by assumption) dX8_reason_18 rfl ?_
    refine V_iload (i := 5) rfl dX8_reason_21 rfl ?_
    refine V_iconst (v := 1) (by decide) dX8_reason_23 rfl ?_
    refine V_iadd dX8_reason_24 rfl ?_
    refine V_iald9 (by assumption) (ix_wi hp hk (by decide : 1 < 4)) dX8_reason_25 rfl ?_
    refine V_aload_n (i := 0) rfl rfl dX8_reason_26 rfl ?_
    refine V_getr (kf := 0) C8 (by decide) l_X8_7 (by assumption) rfl (by assumption) dX8_reason_27 rfl ?_
    refine V_bipush (v := 7) (by decide) dX8_reason_30 rfl ?_
    refine V_iald9 (by assumption) (fw_ix_nI (j := 7) (by decide) (by decide)) dX8_reason_32 rfl ?_
    refine V_icmp_lt (tgt := 38) dX8_reason_33 (by decide) rfl (fun h_33 => ?_) (fun h_33 => ?_)
    · refine V_aload_n (i := 0) rfl rfl dX8_reason_38 rfl ?_
      refine V_getr (kf := 0) C8 (by decide) l_X8_7 (by assumption) rfl (by assumption) dX8_reason_39 rfl ?_
      refine V_iload (i := 5) rfl dX8_reason_42 rfl ?_
      refine V_iconst (v := 3) (by decide) dX8_reason_44 rfl ?_
      refine V_iadd dX8_reason_45 rfl ?_
      refine V_iald9 (by assumption) (ix_wi hp hk (by decide : 3 < 4)) dX8_reason_46 rfl ?_
      refine V_iload_n (i := 3) rfl rfl dX8_reason_47 rfl ?_
      refine V_ishr dX8_reason_48 rfl ?_
      refine V_iconst (v := 1) (by decide) dX8_reason_49 rfl ?_
      refine V_iand dX8_reason_50 rfl ?_
      refine V_iconst (v := 1) (by decide) dX8_reason_51 rfl ?_
      refine V_icmp_ne (tgt := 57) dX8_reason_52 (by decide) rfl (fun h_52 => ?_) (fun h_52 => ?_)
      · refine V_aload_n (i := 0) rfl rfl dX8_reason_57 rfl ?_
        refine V_iload_n (i := 1) rfl rfl dX8_reason_58 rfl ?_
        refine V_iconst (v := 1) (by decide) dX8_reason_59 rfl ?_
        refine V_call (n := 2) (sp_of l g hM hp (by decide : 1 < 6)) o_X8_of m_X8_43 ⟨by decide, by decide⟩ (by assumption) rfl rfl (by first | exact Nat.le_of_ble_eq_true rfl | simp [Value.category]) (Nat.le_refl _) (Nat.le_refl _) rfl dX8_reason_60 rfl (kI ?_)
        refine V_iload (i := 4) rfl dX8_reason_63 rfl ?_
        refine V_isub dX8_reason_65 rfl ?_
        refine V_aload_n (i := 0) rfl rfl dX8_reason_66 rfl ?_
        refine V_getr (kf := 0) C8 (by decide) l_X8_7 (by assumption) rfl (by assumption) dX8_reason_67 rfl ?_
        refine V_bipush (v := 6) (by decide) dX8_reason_70 rfl ?_
        refine V_iald9 (by assumption) (fw_ix_nI (j := 6) (by decide) (by decide)) dX8_reason_72 rfl ?_
        refine V_ineg dX8_reason_73 rfl ?_
        refine V_icmp_ge (tgt := 79) dX8_reason_74 (by decide) rfl (fun h_74 => ?_) (fun h_74 => ?_)
        · refine V_iload (i := 4) rfl dX8_reason_79 rfl ?_
          refine V_aload_n (i := 0) rfl rfl dX8_reason_81 rfl ?_
          refine V_aload_n (i := 0) rfl rfl dX8_reason_82 rfl ?_
          refine V_getr (kf := 0) C8 (by decide) l_X8_7 (by assumption) rfl (by assumption) dX8_reason_83 rfl ?_
          refine V_iload (i := 5) rfl dX8_reason_86 rfl ?_
          refine V_iconst (v := 0) (by decide) dX8_reason_88 rfl ?_
          refine V_iadd dX8_reason_89 rfl ?_
          refine V_iald9 (by assumption) (ix_wi hp hk (by decide : 0 < 4)) dX8_reason_90 rfl ?_
          refine V_iload_n (i := 3) rfl rfl dX8_reason_91 rfl ?_
          refine V_call (n := 2) (sp_asks l g hM (s (wi p k + 0)) hb) o_X8_asks m_X8_100 ⟨by decide, by decide⟩ (by assumption) rfl rfl (by first | exact Nat.le_of_ble_eq_true rfl | simp [Value.category]) (Nat.le_refl _) (Nat.le_refl _) rfl dX8_reason_92 rfl (kI ?_)
          refine V_icmp_ge (tgt := 102) dX8_reason_95 (by decide) rfl (fun h_95 => ?_) (fun h_95 => ?_)
          · refine V_iconst (v := 0) (by decide) dX8_reason_102 rfl ?_
            exact V_ireturn rfl rfl dX8_reason_103 rfl rfl rfl (qI.of (by unfold aRea; rw [if_neg (fun h => h (bI_nz h_12)), if_neg (Int32.not_le.mpr h_33), if_neg h_52, if_neg (Int32.not_lt.mpr h_74)]; first | rw [if_neg (Int32.not_lt.mpr h_95)] | rw [if_pos (Int32.not_le.mp h_95)]))
          · refine V_iconst (v := 5) (by decide) dX8_reason_98 rfl ?_
            refine V_goto (tgt := 103) dX8_reason_99 (by decide) ?_
            exact V_ireturn rfl rfl dX8_reason_103 rfl rfl rfl (qI.of (by unfold aRea; rw [if_neg (fun h => h (bI_nz h_12)), if_neg (Int32.not_le.mpr h_33), if_neg h_52, if_neg (Int32.not_lt.mpr h_74)]; first | rw [if_neg (Int32.not_lt.mpr h_95)] | rw [if_pos (Int32.not_le.mp h_95)]))
        · refine V_iconst (v := 4) (by decide) dX8_reason_77 rfl ?_
          exact V_ireturn rfl rfl dX8_reason_78 rfl rfl rfl (qI.of (by unfold aRea; rw [if_neg (fun h => h (bI_nz h_12)), if_neg (Int32.not_le.mpr h_33), if_neg h_52, if_pos (Int32.not_le.mp h_74)]))
      · refine V_iconst (v := 3) (by decide) dX8_reason_55 rfl ?_
        exact V_ireturn rfl rfl dX8_reason_56 rfl rfl rfl (qI.of (by unfold aRea; rw [if_neg (fun h => h (bI_nz h_12)), if_neg (Int32.not_le.mpr h_33), if_pos h_52]))
    · refine V_iconst (v := 2) (by decide) dX8_reason_36 rfl ?_
      exact V_ireturn rfl rfl dX8_reason_37 rfl rfl rfl (qI.of (by unfold aRea; rw [if_neg (fun h => h (bI_nz h_12)), if_pos (Int32.not_lt.mp h_33)]))
  · refine V_iconst (v := 1) (by decide) dX8_reason_15 rfl ?_
    exact V_ireturn rfl rfl dX8_reason_16 rfl rfl rfl (qI.of (by unfold aRea; rw [if_pos (bI_z h_12)]))

set_option maxHeartbeats 4000000 in
set_option maxRecDepth 100000 in
theorem sp_sellError (l : Launch) (g : fw_G) {I : fw_I} {P : fw_P} {s : Nat → Int32} (hM : MSh P) (x y z c : Int32) : Sp l g kX8_sellError T0 [.ref (g.1 + 688), .int x, .int y, .int z, .int c] (wr I 689 s) P T0 0 0 (qI (aSeE s x y z c) (wr I 689 s) P) := by
  have a688 := at_688
  have a689 := at_689
  obtain ⟨p0, p1, p3, p5, p6, p10, p12, p13⟩ := id hM
  refine Sp.of_V (L := [some (.ref (g.1 + 688)), some (.int x), some (.int y), some (.int z), some (.int c)]) (by decide) (by simp [Value.category]) (Nat.le_of_ble_eq_true rfl) rfl ?_
  refine V_aload_n (i := 0) rfl rfl dX8_sellError_0 rfl ?_
  refine V_iload_n (i := 1) rfl rfl dX8_sellError_1 rfl ?_
  refine V_iload_n (i := 2) rfl rfl dX8_sellError_2 rfl ?_
  refine V_call (n := 2) (sp_isBite l g hM x y) o_X8_isBite m_X8_103 ⟨by decide, by decide⟩ (by assumption) rfl rfl (by first | exact Nat.le_of_ble_eq_true rfl | simp [Value.category]) (Nat.le_refl _) (Nat.le_refl _) rfl dX8_sellError_3 rfl (kI ?_)
  refine V_if_eq (tgt := 16) dX8_sellError_6 (by decide) rfl (fun h_6 => ?_) (fun h_6 => ?_)
  · refine V_iconst (v := (-1)) (by decide) dX8_sellError_16 rfl ?_
    exact V_ireturn rfl rfl dX8_sellError_17 rfl rfl rfl (qI.of (by unfold aSeE; first | rw [if_pos ((fun h => bI_z h_6 h.1) : ¬ (aBt s x y ∧ aPl z))] | rw [if_pos ((fun h => bI_z h_13 h.2) : ¬ (aBt s x y ∧ aPl z))]))
  · refine V_iload_n (i := 3) rfl rfl dX8_sellError_9 rfl ?_
    refine V_callS (n := 1) (sp_isPlayer l g _ P z) o_X8_isPlayer m_X8_39 ⟨by decide, by decide⟩ rfl rfl (by first | exact Nat.le_of_ble_eq_true rfl | simp [Value.category]) (Nat.le_refl _) (Nat.le_refl _) rfl dX8_sellError_10 rfl (kI ?_)
    refine V_if_ne (tgt := 18) dX8_sellError_13 (by decide) rfl (fun h_13 => ?_) (fun h_13 => ?_)
    · refine V_iload (i := 4) rfl dX8_sellError_18 rfl ?_
      refine V_iconst (v := 0) (by decide) dX8_sellError_20 rfl ?_
      refine V_bipush (v := 99) (by decide) dX8_sellError_21 rfl ?_
      refine V_callS (n := 3) (sp_in l g _ P c 0 99) o_X8_in m_X8_35 ⟨by decide, by decide⟩ rfl rfl (by first | exact Nat.le_of_ble_eq_true rfl | simp [Value.category]) (Nat.le_refl _) (Nat.le_refl _) rfl dX8_sellError_23 rfl (kI ?_)
      refine V_if_eq (tgt := 38) dX8_sellError_26 (by decide) rfl (fun h_26 => ?_) (fun h_26 => ?_)
      · refine V_bipush (v := (-2)) (by decide) dX8_sellError_38 rfl ?_
        exact V_ireturn rfl rfl dX8_sellError_40 rfl rfl rfl (qI.of (by unfold aSeE; rw [if_neg (fun h => h ⟨bI_nz h_6, bI_nz h_13⟩)]; first | rw [if_pos (⟨bI_nz h_26, h_31⟩ : (0 ≤ c ∧ c ≤ 99) ∧ ¬ x = z)] | rw [if_neg ((fun h => h.2 h_31) : ¬ ((0 ≤ c ∧ c ≤ 99) ∧ ¬ x = z))] | rw [if_neg ((fun h => bI_z h_26 h.1) : ¬ ((0 ≤ c ∧ c ≤ 99) ∧ ¬ x = z))]))
      · refine V_iload_n (i := 1) rfl rfl dX8_sellError_29 rfl ?_
        refine V_iload_n (i := 3) rfl rfl dX8_sellError_30 rfl ?_
        refine V_icmp_eq (tgt := 38) dX8_sellError_31 (by decide) rfl (fun h_31 => ?_) (fun h_31 => ?_)
        · refine V_bipush (v := (-2)) (by decide) dX8_sellError_38 rfl ?_
          exact V_ireturn rfl rfl dX8_sellError_40 rfl rfl rfl (qI.of (by unfold aSeE; rw [if_neg (fun h => h ⟨bI_nz h_6, bI_nz h_13⟩)]; first | rw [if_pos (⟨bI_nz h_26, h_31⟩ : (0 ≤ c ∧ c ≤ 99) ∧ ¬ x = z)] | rw [if_neg ((fun h => h.2 h_31) : ¬ ((0 ≤ c ∧ c ≤ 99) ∧ ¬ x = z))] | rw [if_neg ((fun h => bI_z h_26 h.1) : ¬ ((0 ≤ c ∧ c ≤ 99) ∧ ¬ x = z))]))
        · refine V_iconst (v := 0) (by decide) dX8_sellError_34 rfl ?_
          refine V_goto (tgt := 40) dX8_sellError_35 (by decide) ?_
          exact V_ireturn rfl rfl dX8_sellError_40 rfl rfl rfl (qI.of (by unfold aSeE; rw [if_neg (fun h => h ⟨bI_nz h_6, bI_nz h_13⟩)]; first | rw [if_pos (⟨bI_nz h_26, h_31⟩ : (0 ≤ c ∧ c ≤ 99) ∧ ¬ x = z)] | rw [if_neg ((fun h => h.2 h_31) : ¬ ((0 ≤ c ∧ c ≤ 99) ∧ ¬ x = z))] | rw [if_neg ((fun h => bI_z h_26 h.1) : ¬ ((0 ≤ c ∧ c ≤ 99) ∧ ¬ x = z))]))
    · refine V_iconst (v := (-1)) (by decide) dX8_sellError_16 rfl ?_
      exact V_ireturn rfl rfl dX8_sellError_17 rfl rfl rfl (qI.of (by unfold aSeE; first | rw [if_pos ((fun h => bI_z h_6 h.1) : ¬ (aBt s x y ∧ aPl z))] | rw [if_pos ((fun h => bI_z h_13 h.2) : ¬ (aBt s x y ∧ aPl z))]))

set_option maxHeartbeats 4000000 in
set_option maxRecDepth 100000 in
theorem lp_sellSh (l : Launch) (g : fw_G) {I : fw_I} {P : fw_P} {s : Nat → Int32} (hM : MSh P) (hm : mOk s) {p k b : Nat} (hp : p < 4) (hk : k < aMany s p) (hb : b < 4) (hpb : ¬ p = b) (c : Int32) : ∀ (n j : Nat) (t : Nat → Int32), j + n = wi p (aMany s p - 1) → wi p k ≤ j → (∀ i, i < 32 → t i = aS5 s p k b i) → aSh n j t = aS6 s p k b → V l g kX8_doSell T0 0 0 (qJ (fun r I1 P1 => r = ro (aS s p k b c) b 1 + 1000 ∧ I1 = wr I 689 (aS s p k b c) ∧ P1 = P)) T0 (wr I 689 (t)) P 0 0 100 [some (.ref (g.1 + 688)), some (.int (nI p)), some (.int (nI k)), some (.int (nI b)), some (.int c), some (.int (nI (wi p k))), some (.int (nI (wi b (aMany s b)))), some (.int (nI j))] [] := by
  have a688 := at_688
  have a689 := at_689
  obtain ⟨p0, p1, p3, p5, p6, p10, p12, p13⟩ := id hM
  have hk20 : k < 20 := Nat.lt_trans hk (hm.many hp).1
  have hb20 := (hm.many hb).1
  have hlt := wi_lt hp hk20
  have hmy := (hm.many hp).1
  have hwm : wi p (aMany s p - 1) = wi p k + 4 * (aMany s p - 1 - k) := by unfold wi; omega
  have hwl : wi p (aMany s p - 1) < 352 := by unfold wi; omega
  intro n
  induction n with
  | zero =>
    intro j t hj hge ht hF
    obtain rfl : j = wi p (aMany s p - 1) := by omega
    have hmm : ro t p 5 = nI (aMany s p - 1) := by
      unfold ro; rw [ht _ (by omega)]; exact aS5_5 hm hp hb hk hpb
    obtain rfl : t = aS6 s p k b := hF
    refine V_iload (i := 7) rfl dX8_doSell_100 rfl ?_
    refine V_iload_n (i := 1) rfl rfl dX8_doSell_102 rfl ?_
    refine V_aload_n (i := 0) rfl rfl dX8_doSell_103 rfl ?_
    refine V_iload_n (i := 1) rfl rfl dX8_doSell_104 rfl ?_
    refine V_iconst (v := 5) (by decide) dX8_doSell_105 rfl ?_
    refine V_call (n := 2) (sp_of l g hM hp (by decide : 5 < 6)) o_X8_of m_X8_43 ⟨by decide, by decide⟩ (by assumption) rfl rfl (by first | exact Nat.le_of_ble_eq_true rfl | simp [Value.category]) (Nat.le_refl _) (Nat.le_refl _) rfl dX8_doSell_106 rfl (kI ?_)
    rw [hmm]
    refine V_callS (n := 2) (sp_whereIs l g _ P p (aMany s p - 1)) o_X8_whereIs m_X8_58 ⟨by decide, by decide⟩ rfl rfl (by first | exact Nat.le_of_ble_eq_true rfl | simp [Value.category]) (Nat.le_refl _) (Nat.le_refl _) rfl dX8_doSell_109 rfl (kI ?_)
    refine V_icmp_ge (tgt := 137) dX8_doSell_112 (by decide) rfl (fun _ => ?_) (fun h => absurd (nI_le (Nat.le_refl _) (by omega)) h)
    refine V_aload_n (i := 0) rfl rfl dX8_doSell_137 rfl ?_
    refine V_iload_n (i := 1) rfl rfl dX8_doSell_138 rfl ?_
    refine V_iconst (v := 1) (by decide) dX8_doSell_139 rfl ?_
    refine V_iload (i := 4) rfl dX8_doSell_140 rfl ?_
    refine V_ineg dX8_doSell_142 rfl ?_
    refine V_call (n := 3) (sp_add l g hM (-c) hp (by decide : 1 < 6)) o_X8_add m_X8_71 ⟨by decide, by decide⟩ (by assumption) rfl rfl (by first | exact Nat.le_of_ble_eq_true rfl | simp [Value.category]) (Nat.le_refl _) (Nat.le_refl _) rfl dX8_doSell_143 rfl (kW ?_)
    refine V_aload_n (i := 0) rfl rfl dX8_doSell_146 rfl ?_
    refine V_iload_n (i := 3) rfl rfl dX8_doSell_147 rfl ?_
    refine V_iconst (v := 1) (by decide) dX8_doSell_148 rfl ?_
    refine V_iload (i := 4) rfl dX8_doSell_149 rfl ?_
    refine V_call (n := 3) (sp_add l g hM c hb (by decide : 1 < 6)) o_X8_add m_X8_71 ⟨by decide, by decide⟩ (by assumption) rfl rfl (by first | exact Nat.le_of_ble_eq_true rfl | simp [Value.category]) (Nat.le_refl _) (Nat.le_refl _) rfl dX8_doSell_151 rfl (kW ?_)
    refine V_aload_n (i := 0) rfl rfl dX8_doSell_154 rfl ?_
    refine V_getr (kf := 0) C8 (by decide) l_X8_7 (by assumption) rfl (by assumption) dX8_doSell_155 rfl ?_
    refine V_iconst (v := 3) (by decide) dX8_doSell_158 rfl ?_
    refine V_dup2 rfl rfl dX8_doSell_159 rfl ?_
    refine V_iald9 (by assumption) (fw_ix_nI (j := 3) (by decide) (by decide)) dX8_doSell_160 rfl ?_
    refine V_iconst (v := 1) (by decide) dX8_doSell_161 rfl ?_
    refine V_iadd dX8_doSell_162 rfl ?_
    refine V_iast9 (by assumption) (fw_ix_nI (j := 3) (by decide) (by decide)) dX8_doSell_163 rfl ?_
    refine V_aload_n (i := 0) rfl rfl dX8_doSell_164 rfl ?_
    refine V_iload_n (i := 3) rfl rfl dX8_doSell_165 rfl ?_
    refine V_iconst (v := 1) (by decide) dX8_doSell_166 rfl ?_
    refine V_call (n := 2) (sp_of l g hM hb (by decide : 1 < 6)) o_X8_of m_X8_43 ⟨by decide, by decide⟩ (by assumption) rfl rfl (by first | exact Nat.le_of_ble_eq_true rfl | simp [Value.category]) (Nat.le_refl _) (Nat.le_refl _) rfl dX8_doSell_167 rfl (kI ?_)
    refine V_sipush (v := 1000) (by decide) dX8_doSell_170 rfl ?_
    refine V_iadd dX8_doSell_173 rfl ?_
    exact V_ireturn rfl rfl dX8_doSell_174 rfl rfl rfl (⟨_, rfl, rfl, rfl, rfl⟩)
  | succ n ih =>
    intro j t hj hge ht hF
    have hmm : ro t p 5 = nI (aMany s p - 1) := by
      unfold ro; rw [ht _ (by omega)]; exact aS5_5 hm hp hb hk hpb
    refine V_iload (i := 7) rfl dX8_doSell_100 rfl ?_
    refine V_iload_n (i := 1) rfl rfl dX8_doSell_102 rfl ?_
    refine V_aload_n (i := 0) rfl rfl dX8_doSell_103 rfl ?_
    refine V_iload_n (i := 1) rfl rfl dX8_doSell_104 rfl ?_
    refine V_iconst (v := 5) (by decide) dX8_doSell_105 rfl ?_
    refine V_call (n := 2) (sp_of l g hM hp (by decide : 5 < 6)) o_X8_of m_X8_43 ⟨by decide, by decide⟩ (by assumption) rfl rfl (by first | exact Nat.le_of_ble_eq_true rfl | simp [Value.category]) (Nat.le_refl _) (Nat.le_refl _) rfl dX8_doSell_106 rfl (kI ?_)
    rw [hmm]
    refine V_callS (n := 2) (sp_whereIs l g _ P p (aMany s p - 1)) o_X8_whereIs m_X8_58 ⟨by decide, by decide⟩ rfl rfl (by first | exact Nat.le_of_ble_eq_true rfl | simp [Value.category]) (Nat.le_refl _) (Nat.le_refl _) rfl dX8_doSell_109 rfl (kI ?_)
    refine V_icmp_ge (tgt := 137) dX8_doSell_112 (by decide) rfl (fun h => absurd h (nI_ge (by omega) (by omega))) (fun _ => ?_)
    refine V_aload_n (i := 0) rfl rfl dX8_doSell_115 rfl ?_
    refine V_getr (kf := 0) C8 (by decide) l_X8_7 (by assumption) rfl (by assumption) dX8_doSell_116 rfl ?_
    refine V_iload (i := 7) rfl dX8_doSell_119 rfl ?_
    refine V_aload_n (i := 0) rfl rfl dX8_doSell_121 rfl ?_
    refine V_getr (kf := 0) C8 (by decide) l_X8_7 (by assumption) rfl (by assumption) dX8_doSell_122 rfl ?_
    refine V_iload (i := 7) rfl dX8_doSell_125 rfl ?_
    refine V_iconst (v := 4) (by decide) dX8_doSell_127 rfl ?_
    refine V_iadd dX8_doSell_128 rfl ?_
    refine V_iald9 (by assumption) (by rw [show (4 : Int32) = nI 4 from rfl, nI_add]; exact fw_ix_nI (by omega) (by omega)) dX8_doSell_129 rfl ?_
    refine V_iast9 (by assumption) (fw_ix_nI (by omega) (by omega)) dX8_doSell_130 rfl ?_
    refine V_iinc1 (i := 7) rfl (by decide) rfl dX8_doSell_131 rfl ?_
    refine V_goto (tgt := 100) dX8_doSell_134 (by decide) ?_
    have h9 := ih (j + 1) (upd t j (t (j + 4))) (by omega) (by omega) (fun i hi => by rw [upd_at, if_neg (by have : 32 ≤ wi p k := (by unfold wi; omega); omega)]; exact ht i hi) hF
    rw [← nI_1] at h9
    exact h9

set_option maxHeartbeats 4000000 in
set_option maxRecDepth 100000 in
theorem lp_sellCp (l : Launch) (g : fw_G) {I : fw_I} {P : fw_P} {s : Nat → Int32} (hM : MSh P) (hm : mOk s) {p k b : Nat} (hp : p < 4) (hk : k < aMany s p) (hb : b < 4) (hpb : ¬ p = b) (c : Int32) : ∀ (n j : Nat), j + n = 4 → V l g kX8_doSell T0 0 0 (qJ (fun r I1 P1 => r = ro (aS s p k b c) b 1 + 1000 ∧ I1 = wr I 689 (aS s p k b c) ∧ P1 = P)) T0 (wr I 689 (aCp s (wi b (aMany s b)) (wi p k) j)) P 0 0 22 [some (.ref (g.1 + 688)), some (.int (nI p)), some (.int (nI k)), some (.int (nI b)), some (.int c), some (.int (nI (wi p k))), some (.int (nI (wi b (aMany s b)))), some (.int (nI j))] [] := by
  have a688 := at_688
  have a689 := at_689
  obtain ⟨p0, p1, p3, p5, p6, p10, p12, p13⟩ := id hM
  have hk20 : k < 20 := Nat.lt_trans hk (hm.many hp).1
  have hb20 := (hm.many hb).1
  intro n
  induction n with
  | zero =>
    intro j hj
    obtain rfl : j = 4 := by omega
    have hS5 : aSh (4 * (aMany s p - 1 - k)) (wi p k) (aS5 s p k b) = aS6 s p k b := rfl
    refine V_iload (i := 7) rfl dX8_doSell_22 rfl ?_
    refine V_iconst (v := 4) (by decide) dX8_doSell_24 rfl ?_
    refine V_icmp_ge (tgt := 54) dX8_doSell_25 (by decide) rfl (fun _ => ?_) (fun h => absurd (nI_le (a := 4) (b := 4) (Nat.le_refl _) (by decide)) h)
    refine V_aload_n (i := 0) rfl rfl dX8_doSell_54 rfl ?_
    refine V_getr (kf := 0) C8 (by decide) l_X8_7 (by assumption) rfl (by assumption) dX8_doSell_55 rfl ?_
    refine V_iload (i := 6) rfl dX8_doSell_58 rfl ?_
    refine V_iconst (v := 1) (by decide) dX8_doSell_60 rfl ?_
    refine V_iadd dX8_doSell_61 rfl ?_
    refine V_dup2 rfl rfl dX8_doSell_62 rfl ?_
    refine V_iald9 (by assumption) (ix_wi hb hb20 (by decide : 1 < 4)) dX8_doSell_63 rfl ?_
    refine V_iconst (v := 1) (by decide) dX8_doSell_64 rfl ?_
    refine V_iadd dX8_doSell_65 rfl ?_
    refine V_iast9 (by assumption) (ix_wi hb hb20 (by decide : 1 < 4)) dX8_doSell_66 rfl ?_
    refine V_aload_n (i := 0) rfl rfl dX8_doSell_67 rfl ?_
    refine V_getr (kf := 0) C8 (by decide) l_X8_7 (by assumption) rfl (by assumption) dX8_doSell_68 rfl ?_
    refine V_iload (i := 6) rfl dX8_doSell_71 rfl ?_
    refine V_iconst (v := 3) (by decide) dX8_doSell_73 rfl ?_
    refine V_iadd dX8_doSell_74 rfl ?_
    refine V_dup2 rfl rfl dX8_doSell_75 rfl ?_
    refine V_iald9 (by assumption) (ix_wi hb hb20 (by decide : 3 < 4)) dX8_doSell_76 rfl ?_
    refine V_iconst (v := 1) (by decide) dX8_doSell_77 rfl ?_
    refine V_iload_n (i := 3) rfl rfl dX8_doSell_78 rfl ?_
    refine V_ishl dX8_doSell_79 rfl ?_
    refine V_ior dX8_doSell_80 rfl ?_
    refine V_iast9 (by assumption) (ix_wi hb hb20 (by decide : 3 < 4)) dX8_doSell_81 rfl ?_
    refine V_aload_n (i := 0) rfl rfl dX8_doSell_82 rfl ?_
    refine V_iload_n (i := 3) rfl rfl dX8_doSell_83 rfl ?_
    refine V_iconst (v := 5) (by decide) dX8_doSell_84 rfl ?_
    refine V_iconst (v := 1) (by decide) dX8_doSell_85 rfl ?_
    refine V_call (n := 3) (sp_add l g hM 1 hb (by decide : 5 < 6)) o_X8_add m_X8_71 ⟨by decide, by decide⟩ (by assumption) rfl rfl (by first | exact Nat.le_of_ble_eq_true rfl | simp [Value.category]) (Nat.le_refl _) (Nat.le_refl _) rfl dX8_doSell_86 rfl (kW ?_)
    refine V_aload_n (i := 0) rfl rfl dX8_doSell_89 rfl ?_
    refine V_iload_n (i := 1) rfl rfl dX8_doSell_90 rfl ?_
    refine V_iconst (v := 5) (by decide) dX8_doSell_91 rfl ?_
    refine V_iconst (v := (-1)) (by decide) dX8_doSell_92 rfl ?_
    refine V_call (n := 3) (sp_add l g hM (-1) hp (by decide : 5 < 6)) o_X8_add m_X8_71 ⟨by decide, by decide⟩ (by assumption) rfl rfl (by first | exact Nat.le_of_ble_eq_true rfl | simp [Value.category]) (Nat.le_refl _) (Nat.le_refl _) rfl dX8_doSell_93 rfl (kW ?_)
    refine V_iload (i := 5) rfl dX8_doSell_96 rfl ?_
    refine V_istore (i := 7) (by decide) rfl dX8_doSell_98 rfl ?_
    exact lp_sellSh l g hM hm hp hk hb hpb c (4 * (aMany s p - 1 - k)) (wi p k) (aS5 s p k b) (by unfold wi; omega) (Nat.le_refl _) (fun _ _ => rfl) hS5
  | succ n ih =>
    intro j hj
    have hj4 : j < 4 := by omega
    refine V_iload (i := 7) rfl dX8_doSell_22 rfl ?_
    refine V_iconst (v := 4) (by decide) dX8_doSell_24 rfl ?_
    refine V_icmp_ge (tgt := 54) dX8_doSell_25 (by decide) rfl (fun h => absurd h (nI_ge (b := 4) (by omega) (by decide))) (fun _ => ?_)
    refine V_aload_n (i := 0) rfl rfl dX8_doSell_28 rfl ?_
    refine V_getr (kf := 0) C8 (by decide) l_X8_7 (by assumption) rfl (by assumption) dX8_doSell_29 rfl ?_
    refine V_iload (i := 6) rfl dX8_doSell_32 rfl ?_
    refine V_iload (i := 7) rfl dX8_doSell_34 rfl ?_
    refine V_iadd dX8_doSell_36 rfl ?_
    refine V_aload_n (i := 0) rfl rfl dX8_doSell_37 rfl ?_
    refine V_getr (kf := 0) C8 (by decide) l_X8_7 (by assumption) rfl (by assumption) dX8_doSell_38 rfl ?_
    refine V_iload (i := 5) rfl dX8_doSell_41 rfl ?_
    refine V_iload (i := 7) rfl dX8_doSell_43 rfl ?_
    refine V_iadd dX8_doSell_45 rfl ?_
    refine V_iald9 (by assumption) (ix_wi hp hk20 hj4) dX8_doSell_46 rfl ?_
    refine V_iast9 (by assumption) (ix_wi hb hb20 hj4) dX8_doSell_47 rfl ?_
    refine V_iinc1 (i := 7) rfl (by decide) rfl dX8_doSell_48 rfl ?_
    refine V_goto (tgt := 22) dX8_doSell_51 (by decide) ?_
    have h9 := ih (j + 1) (by omega)
    rw [← nI_1] at h9
    exact h9

set_option maxHeartbeats 4000000 in
set_option maxRecDepth 100000 in
theorem sp_doSell (l : Launch) (g : fw_G) {I : fw_I} {P : fw_P} {s : Nat → Int32} (hM : MSh P) (hm : mOk s) {p k b : Nat} (hp : p < 4) (hk : k < aMany s p) (hb : b < 4) (hpb : ¬ p = b) (c : Int32) : Sp l g kX8_doSell T0 [.ref (g.1 + 688), .int (nI p), .int (nI k), .int (nI b), .int c] (wr I 689 s) P T0 0 0 (qJ (fun r I1 P1 => r = ro (aS s p k b c) b 1 + 1000 ∧ I1 = wr I 689 (aS s p k b c) ∧ P1 = P)) := by
  have a688 := at_688
  have a689 := at_689
  obtain ⟨p0, p1, p3, p5, p6, p10, p12, p13⟩ := id hM
  refine Sp.of_V (L := [some (.ref (g.1 + 688)), some (.int (nI p)), some (.int (nI k)), some (.int (nI b)), some (.int c), none, none, none]) (by decide) (by simp [Value.category]) (Nat.le_of_ble_eq_true rfl) rfl ?_
  refine V_iload_n (i := 1) rfl rfl dX8_doSell_0 rfl ?_
  refine V_iload_n (i := 2) rfl rfl dX8_doSell_1 rfl ?_
  refine V_callS (n := 2) (sp_whereIs l g _ P p k) o_X8_whereIs m_X8_58 ⟨by decide, by decide⟩ rfl rfl (by first | exact Nat.le_of_ble_eq_true rfl | simp [Value.category]) (Nat.le_refl _) (Nat.le_refl _) rfl dX8_doSell_2 rfl (kI ?_)
  refine V_istore (i := 5) (by decide) rfl dX8_doSell_5 rfl ?_
  refine V_iload_n (i := 3) rfl rfl dX8_doSell_7 rfl ?_
  refine V_aload_n (i := 0) rfl rfl dX8_doSell_8 rfl ?_
  refine V_iload_n (i := 3) rfl rfl dX8_doSell_9 rfl ?_
  refine V_iconst (v := 5) (by decide) dX8_doSell_10 rfl ?_
  refine V_call (n := 2) (sp_of l g hM hb (by decide : 5 < 6)) o_X8_of m_X8_43 ⟨by decide, by decide⟩ (by assumption) rfl rfl (by first | exact Nat.le_of_ble_eq_true rfl | simp [Value.category]) (Nat.le_refl _) (Nat.le_refl _) rfl dX8_doSell_11 rfl (kI ?_)
  rw [(hm.many hb).2]
  refine V_callS (n := 2) (sp_whereIs l g _ P b (aMany s b)) o_X8_whereIs m_X8_58 ⟨by decide, by decide⟩ rfl rfl (by first | exact Nat.le_of_ble_eq_true rfl | simp [Value.category]) (Nat.le_refl _) (Nat.le_refl _) rfl dX8_doSell_14 rfl (kI ?_)
  refine V_istore (i := 6) (by decide) rfl dX8_doSell_17 rfl ?_
  refine V_iconst (v := 0) (by decide) dX8_doSell_19 rfl ?_
  refine V_istore (i := 7) (by decide) rfl dX8_doSell_20 rfl ?_
  exact lp_sellCp l g hM hm hp hk hb hpb c 4 0 rfl

