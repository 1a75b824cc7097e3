variable {nT : Nat}
theorem mS_R {I : fw_I} {P : fw_P} {s : Nat → Int32} (hS : CSh P) (h : RRel I P 1 s) (σ : sT) : RRel (mS I σ) P 1 s := h.frame (hS.r isRc_1) (fun b _ h2 => ⟨mS_ne I σ (by omega), rfl⟩)
def slF (s : Nat → Int32) (here more : Int32) (σ : sT) : Nat → sT
  | 0 => if aSnAt s here = -5 then sbF σ here more 6 else σ
  | i + 1 => if 0 < sn s i 0 ∧ sn s i 1 = here then sbF (slF s here more σ i) (sn s i 0) more 6 else slF s here more σ i
theorem slF_le {s : Nat → Int32} {here more : Int32} {σ : sT} (h : σ.2.2 ≤ 61) : ∀ i, (slF s here more σ i).2.2 ≤ 61
  | 0 => by
    unfold slF
    split
    · exact sbF_le h _ _ _
    · exact h
  | i + 1 => by
    unfold slF
    split
    · exact sbF_le (slF_le h i) _ _ _
    · exact slF_le h i
def landF (s : Nat → Int32) (here : Int32) (σ : sT) : sT := slF s here (thA σ here + 1) σ 10
def inF (s : Nat → Int32) (here : Int32) (σ : sT) : Nat → sT
  | 0 => σ
  | d + 1 => seF (inF s here σ d) (laX s (aGo here (nI (d + 1)))) (thA (inF s here σ d) here + 1)
theorem inF_le {s : Nat → Int32} {here : Int32} {σ : sT} (h : σ.2.2 ≤ 61) : ∀ d, (inF s here σ d).2.2 ≤ 61
  | 0 => h
  | d + 1 => seF_le (inF_le h d) _ _
/-- onward from the queue's i-th place -/
def onL (s : Nat → Int32) : Nat → Nat → sT → Int32 × sT
  | 0, _, σ => (-5, σ)
  | f + 1, i, σ => if i < σ.2.2 then (if σ.2.1 i = 60 then (thA σ 60, σ) else onL s f (i + 1) (inF s (σ.2.1 i) σ 6)) else (-5, σ)
def baL (s : Nat → Int32) (to : Int32) : Nat → Nat → sT → Int32 × sT
  | 0, _, σ => (-5, σ)
  | f + 1, i, σ => if i < σ.2.2 then (if σ.2.1 i = to then (thA σ to, σ) else baL s to f (i + 1) (landF s (σ.2.1 i) σ)) else (-5, σ)
theorem stF_le (σ : sT) (x : Int32) : (stF σ x).2.2 ≤ 61 := seF_le (Nat.zero_le 61) _ _
set_option maxHeartbeats 4000000 in
set_option maxRecDepth 100000 in
theorem lp_lands (l : Launch) (g : fw_G) {I : fw_I} {P : fw_P} {s : Nat → Int32} (hS : CSh P) (hR : RRel I P 1 s) (hd : iHd s) (σ : sT) (hn : σ.2.2 ≤ 61) (x m1 : Int32) : ∀ (m j : Nat), j + m = 10 → V l g kX5_seeLandingsThatLeadTo (T0 nT) 0 0 (qV (fun I1 P1 => I1 = mS I (slF s x m1 σ 10) ∧ P1 = P)) (T0 nT) (mS I (slF s x m1 σ j)) P 0 0 27 [some (.ref (g.1 + 685)), some (.int x), some (.ref (g.1 + 1)), some (.int m1), some (.int (nI j)), none] [] := by
  have a685 := (at_685 (nT := nT))
  have a686 := (at_686 (nT := nT))
  have a687 := (at_687 (nT := nT))
  have z0 : P 685 0 = some 686 := hS.2.2.2.2.2.2.2.2.2.2.2.1
  have z1 : P 685 1 = some 687 := hS.2.2.2.2.2.2.2.2.2.2.2.2
  have r1 := isRc_1
  have a1 := at_race (nT := nT) r1
  have hS1 := hS.r r1
  intro m
  induction m with
  | zero =>
    intro j hj
    obtain rfl : j = 10 := by omega
    refine V_iload (i := 4) rfl dX5_seeLandingsThatLeadTo_27 rfl ?_
    refine V_bipush (v := 10) (by decide) dX5_seeLandingsThatLeadTo_29 rfl ?_
    refine V_icmp_ge (tgt := 72) dX5_seeLandingsThatLeadTo_31 (by decide) rfl (fun _ => ?_) (fun h => absurd (by decide) h)
    exact V_return rfl dX5_seeLandingsThatLeadTo_72 rfl rfl rfl (⟨rfl, rfl, rfl⟩)
  | succ m ih =>
    intro j hj
    have hjn : j < 10 := by omega
    refine V_iload (i := 4) rfl dX5_seeLandingsThatLeadTo_27 rfl ?_
    refine V_bipush (v := 10) (by decide) dX5_seeLandingsThatLeadTo_29 rfl ?_
    refine V_icmp_ge (tgt := 72) dX5_seeLandingsThatLeadTo_31 (by decide) rfl (fun h => absurd h (nlt10 hjn)) (fun _ => ?_)
    refine V_aload_n (i := 2) rfl rfl dX5_seeLandingsThatLeadTo_34 rfl ?_
    refine V_iload (i := 4) rfl dX5_seeLandingsThatLeadTo_35 rfl ?_
    refine V_call (n := 1) (sp_snakeNumbered l g r1 hS1 (mS_R hS hR _) (nI j)) o_X3_snakeNumbered m_X5_53 ⟨by decide, by decide⟩ (by assumption) rfl rfl (by first | exact Nat.le_of_ble_eq_true rfl | simp [Value.category]) (Nat.le_refl _) (Nat.le_refl _) rfl dX5_seeLandingsThatLeadTo_37 rfl (kR ?_)
    refine V_astore_r (i := 5) (by decide) rfl dX5_seeLandingsThatLeadTo_40 rfl ?_
    refine V_aload_r (i := 5) rfl dX5_seeLandingsThatLeadTo_42 rfl ?_
    refine V_ifnull (tgt := 66) dX5_seeLandingsThatLeadTo_44 (by decide) rfl (fun h_44 => ?_) (fun b_44 h_44 => ?_)
    · refine V_iinc1 (i := 4) rfl (by decide) rfl dX5_seeLandingsThatLeadTo_66 rfl ?_
      refine V_goto (tgt := 27) dX5_seeLandingsThatLeadTo_69 (by decide) ?_
      have he : slF s x m1 σ (j + 1) = if 0 < sn s j 0 ∧ sn s j 1 = x then sbF (slF s x m1 σ j) (sn s j 0) m1 6 else slF s x m1 σ j := rfl
      rw [show (if 0 < sn s j 0 ∧ sn s j 1 = x then sbF (slF s x m1 σ j) (sn s j 0) m1 6 else slF s x m1 σ j) = _ from by first | exact if_neg (fun h => snR_none hjn h_44 h.1) | exact if_neg (fun h => h_53 h.2) | exact if_pos ⟨hps, h_53⟩] at he
      refine V_forget 5 rfl ?_
      have h9 := ih (j + 1) (by omega)
      rw [← nI_1, he] at h9
      exact h9
    · obtain ⟨hps, rfl⟩ := snR_some hjn h_44
      have hak := at_snake (nT := nT) r1 hjn
      rw [h_44]
      refine V_aload (i := 5) rfl dX5_seeLandingsThatLeadTo_47 rfl ?_
      refine V_get (kf := 1) C6 (by decide) l_X5_57 (by assumption) rfl dX5_seeLandingsThatLeadTo_49 rfl ?_
      rw [(mS_R hS hR _).s1 hjn hps]
      refine V_iload_n (i := 1) rfl rfl dX5_seeLandingsThatLeadTo_52 rfl ?_
      refine V_icmp_ne (tgt := 66) dX5_seeLandingsThatLeadTo_53 (by decide) rfl (fun h_53 => ?_) (fun h_53 => ?_)
      · refine V_iinc1 (i := 4) rfl (by decide) rfl dX5_seeLandingsThatLeadTo_66 rfl ?_
        refine V_goto (tgt := 27) dX5_seeLandingsThatLeadTo_69 (by decide) ?_
        have he : slF s x m1 σ (j + 1) = if 0 < sn s j 0 ∧ sn s j 1 = x then sbF (slF s x m1 σ j) (sn s j 0) m1 6 else slF s x m1 σ j := rfl
        rw [show (if 0 < sn s j 0 ∧ sn s j 1 = x then sbF (slF s x m1 σ j) (sn s j 0) m1 6 else slF s x m1 σ j) = _ from by first | exact if_neg (fun h => snR_none hjn h_44 h.1) | exact if_neg (fun h => h_53 h.2) | exact if_pos ⟨hps, h_53⟩] at he
        refine V_forget 5 rfl ?_
        have h9 := ih (j + 1) (by omega)
        rw [← nI_1, he] at h9
        exact h9
      · refine V_aload_n (i := 0) rfl rfl dX5_seeLandingsThatLeadTo_56 rfl ?_
        refine V_aload (i := 5) rfl dX5_seeLandingsThatLeadTo_57 rfl ?_
        refine V_get (kf := 0) C6 (by decide) l_X5_62 (by assumption) rfl dX5_seeLandingsThatLeadTo_59 rfl ?_
        rw [(mS_R hS hR _).s0 hjn]
        refine V_iload_n (i := 3) rfl rfl dX5_seeLandingsThatLeadTo_62 rfl ?_
        refine V_call (n := 2) (sp_before l g hS (slF s x m1 σ j) (slF_le hn j) (sn s j 0) m1) o_X5_seeSquaresBefore m_X5_50 ⟨by decide, by decide⟩ (by assumption) rfl rfl (by first | exact Nat.le_of_ble_eq_true rfl | simp [Value.category]) (Nat.le_refl _) (Nat.le_refl _) rfl dX5_seeLandingsThatLeadTo_63 rfl (kW ?_)
        refine V_iinc1 (i := 4) rfl (by decide) rfl dX5_seeLandingsThatLeadTo_66 rfl ?_
        refine V_goto (tgt := 27) dX5_seeLandingsThatLeadTo_69 (by decide) ?_
        have he : slF s x m1 σ (j + 1) = if 0 < sn s j 0 ∧ sn s j 1 = x then sbF (slF s x m1 σ j) (sn s j 0) m1 6 else slF s x m1 σ j := rfl
        rw [show (if 0 < sn s j 0 ∧ sn s j 1 = x then sbF (slF s x m1 σ j) (sn s j 0) m1 6 else slF s x m1 σ j) = _ from by first | exact if_neg (fun h => snR_none hjn h_44 h.1) | exact if_neg (fun h => h_53 h.2) | exact if_pos ⟨hps, h_53⟩] at he
        refine V_forget 5 rfl ?_
        have h9 := ih (j + 1) (by omega)
        rw [← nI_1, he] at h9
        exact h9

set_option maxHeartbeats 4000000 in
set_option maxRecDepth 100000 in
theorem sp_lands (l : Launch) (g : fw_G) {I : fw_I} {P : fw_P} {s : Nat → Int32} (hS : CSh P) (hR : RRel I P 1 s) (hd : iHd s) (σ : sT) (hn : σ.2.2 ≤ 61) (x : Int32) : Sp l g kX5_seeLandingsThatLeadTo (T0 nT) [.ref (g.1 + 685), .int x, .ref (g.1 + 1)] (mS I σ) P (T0 nT) 0 0 (qV (fun I1 P1 => I1 = mS I (landF s x σ) ∧ P1 = P)) := by
  have a685 := (at_685 (nT := nT))
  have a686 := (at_686 (nT := nT))
  have a687 := (at_687 (nT := nT))
  have z0 : P 685 0 = some 686 := hS.2.2.2.2.2.2.2.2.2.2.2.1
  have z1 : P 685 1 = some 687 := hS.2.2.2.2.2.2.2.2.2.2.2.2
  have r1 := isRc_1
  have a1 := at_race (nT := nT) r1
  have hS1 := hS.r r1
  refine Sp.of_V (L := [some (.ref (g.1 + 685)), some (.int x), some (.ref (g.1 + 1)), none, none, none]) (by decide) (by simp [Value.category]) (Nat.le_of_ble_eq_true rfl) rfl ?_
  refine V_aload_n (i := 0) rfl rfl dX5_seeLandingsThatLeadTo_0 rfl ?_
  refine V_iload_n (i := 1) rfl rfl dX5_seeLandingsThatLeadTo_1 rfl ?_
  refine V_call (n := 1) (sp_throwsAt l g hS σ x) o_X5_throwsAt m_X5_26 ⟨by decide, by decide⟩ (by assumption) rfl rfl (by first | exact Nat.le_of_ble_eq_true rfl | simp [Value.category]) (Nat.le_refl _) (Nat.le_refl _) rfl dX5_seeLandingsThatLeadTo_2 rfl (kI ?_)
  refine V_iconst (v := 1) (by decide) dX5_seeLandingsThatLeadTo_5 rfl ?_
  refine V_iadd dX5_seeLandingsThatLeadTo_6 rfl ?_
  refine V_istore_n (i := 3) rfl (by decide) rfl dX5_seeLandingsThatLeadTo_7 rfl ?_
  refine V_aload_n (i := 2) rfl rfl dX5_seeLandingsThatLeadTo_8 rfl ?_
  refine V_iload_n (i := 1) rfl rfl dX5_seeLandingsThatLeadTo_9 rfl ?_
  refine V_call (n := 1) (sp_headOn l g r1 hS1 (mS_R hS hR _) hd x) o_X3_numberOfHeadOn m_X5_47 ⟨by decide, by decide⟩ (by assumption) rfl rfl (by first | exact Nat.le_of_ble_eq_true rfl | simp [Value.category]) (Nat.le_refl _) (Nat.le_refl _) rfl dX5_seeLandingsThatLeadTo_10 rfl (kI ?_)
  refine V_bipush (v := (-5)) (by decide) dX5_seeLandingsThatLeadTo_13 rfl ?_
  refine V_icmp_ne (tgt := 24) dX5_seeLandingsThatLeadTo_15 (by decide) rfl (fun h_15 => ?_) (fun h_15 => ?_)
  · refine V_iconst (v := 0) (by decide) dX5_seeLandingsThatLeadTo_24 rfl ?_
    refine V_istore (i := 4) (by decide) rfl dX5_seeLandingsThatLeadTo_25 rfl ?_
    have h9 := lp_lands (nT := nT) l g hS hR hd σ hn x (thA σ x + 1) 10 0 rfl
    rw [show slF s x (thA σ x + 1) σ 0 = _ from by show (if aSnAt s x = -5 then _ else _) = _; first | exact if_pos h_15 | exact if_neg h_15] at h9
    exact h9
  · refine V_aload_n (i := 0) rfl rfl dX5_seeLandingsThatLeadTo_18 rfl ?_
    refine V_iload_n (i := 1) rfl rfl dX5_seeLandingsThatLeadTo_19 rfl ?_
    refine V_iload_n (i := 3) rfl rfl dX5_seeLandingsThatLeadTo_20 rfl ?_
    refine V_call (n := 2) (sp_before l g hS σ hn x (thA σ x + 1)) o_X5_seeSquaresBefore m_X5_50 ⟨by decide, by decide⟩ (by assumption) rfl rfl (by first | exact Nat.le_of_ble_eq_true rfl | simp [Value.category]) (Nat.le_refl _) (Nat.le_refl _) rfl dX5_seeLandingsThatLeadTo_21 rfl (kW ?_)
    refine V_iconst (v := 0) (by decide) dX5_seeLandingsThatLeadTo_24 rfl ?_
    refine V_istore (i := 4) (by decide) rfl dX5_seeLandingsThatLeadTo_25 rfl ?_
    have h9 := lp_lands (nT := nT) l g hS hR hd σ hn x (thA σ x + 1) 10 0 rfl
    rw [show slF s x (thA σ x + 1) σ 0 = _ from by show (if aSnAt s x = -5 then _ else _) = _; first | exact if_pos h_15 | exact if_neg h_15] at h9
    exact h9

set_option maxHeartbeats 4000000 in
set_option maxRecDepth 100000 in
theorem lp_onIn (l : Launch) (g : fw_G) {I : fw_I} {P : fw_P} {s : Nat → Int32} (hS : CSh P) (hR : RRel I P 1 s) (hd : iHd s) (σ : sT) (hn : σ.2.2 ≤ 61) (x y : Int32) (i : Nat) {Q : Option Value → fw_I → fw_P → Prop} (hk : V l g kX5_onFrom (T0 nT) 0 0 Q (T0 nT) (mS I (inF s x σ 6)) P 0 0 7 [some (.ref (g.1 + 685)), some (.ref (g.1 + 1)), some (.int y), some (.int (nI (i + 1))), none, none] []) : ∀ (m j : Nat), j + m = 6 → V l g kX5_onFrom (T0 nT) 0 0 Q (T0 nT) (mS I (inF s x σ j)) P 0 0 49 [some (.ref (g.1 + 685)), some (.ref (g.1 + 1)), some (.int y), some (.int (nI i)), some (.int x), some (.int (nI (j + 1)))] [] := by
  have a685 := (at_685 (nT := nT))
  have a686 := (at_686 (nT := nT))
  have a687 := (at_687 (nT := nT))
  have z0 : P 685 0 = some 686 := hS.2.2.2.2.2.2.2.2.2.2.2.1
  have z1 : P 685 1 = some 687 := hS.2.2.2.2.2.2.2.2.2.2.2.2
  have r1 := isRc_1
  have a1 := at_race (nT := nT) r1
  have hS1 := hS.r r1
  intro m
  induction m with
  | zero =>
    intro j hj
    obtain rfl : j = 6 := by omega
    refine V_iload (i := 5) rfl dX5_onFrom_49 rfl ?_
    refine V_bipush (v := 6) (by decide) dX5_onFrom_51 rfl ?_
    refine V_icmp_gt (tgt := 85) dX5_onFrom_53 (by decide) rfl (fun _ => ?_) (fun h => absurd (by decide) h)
    refine V_iinc1 (i := 3) rfl (by decide) rfl dX5_onFrom_85 rfl ?_
    refine V_goto (tgt := 7) dX5_onFrom_88 (by decide) ?_
    refine V_forget 4 rfl ?_
    refine V_forget 5 rfl ?_
    rw [← nI_1] at hk
    exact hk
  | succ m ih =>
    intro j hj
    have hjn : j < 6 := by omega
    refine V_iload (i := 5) rfl dX5_onFrom_49 rfl ?_
    refine V_bipush (v := 6) (by decide) dX5_onFrom_51 rfl ?_
    refine V_icmp_gt (tgt := 85) dX5_onFrom_53 (by decide) rfl (fun h => absurd h (dg6 hjn)) (fun _ => ?_)
    refine V_aload_n (i := 0) rfl rfl dX5_onFrom_56 rfl ?_
    refine V_aload_n (i := 1) rfl rfl dX5_onFrom_57 rfl ?_
    refine V_iload (i := 4) rfl dX5_onFrom_58 rfl ?_
    refine V_iload (i := 5) rfl dX5_onFrom_60 rfl ?_
    refine V_callSN (host := RX7) (n := 2) (sp_landing l g x (nI (j + 1))) o_X7_landing (by decide) ⟨by decide, by decide⟩ rfl rfl (by first | exact Nat.le_of_ble_eq_true rfl | simp [Value.category]) (Nat.le_refl _) (Nat.le_refl _) rfl dX5_onFrom_62 rfl (kI ?_)
    refine V_call (n := 1) (sp_beginningAfter l g r1 hS1 (mS_R hS hR _) hd _) o_X3_beginningAfter m_X5_34 ⟨by decide, by decide⟩ (by assumption) rfl rfl (by first | exact Nat.le_of_ble_eq_true rfl | simp [Value.category]) (Nat.le_refl _) (Nat.le_refl _) rfl dX5_onFrom_65 rfl (kI ?_)
    refine V_aload_n (i := 0) rfl rfl dX5_onFrom_68 rfl ?_
    refine V_iload (i := 4) rfl dX5_onFrom_69 rfl ?_
    refine V_call (n := 1) (sp_throwsAt l g hS _ x) o_X5_throwsAt m_X5_26 ⟨by decide, by decide⟩ (by assumption) rfl rfl (by first | exact Nat.le_of_ble_eq_true rfl | simp [Value.category]) (Nat.le_refl _) (Nat.le_refl _) rfl dX5_onFrom_71 rfl (kI ?_)
    refine V_iconst (v := 1) (by decide) dX5_onFrom_74 rfl ?_
    refine V_iadd dX5_onFrom_75 rfl ?_
    refine V_call (n := 2) (sp_see l g hS (inF s x σ j) (inF_le hn j) _ _) o_X5_see m_X5_39 ⟨by decide, by decide⟩ (by assumption) rfl rfl (by first | exact Nat.le_of_ble_eq_true rfl | simp [Value.category]) (Nat.le_refl _) (Nat.le_refl _) rfl dX5_onFrom_76 rfl (kW ?_)
    refine V_iinc1 (i := 5) rfl (by decide) rfl dX5_onFrom_79 rfl ?_
    refine V_goto (tgt := 49) dX5_onFrom_82 (by decide) ?_
    have h9 := ih (j + 1) (by omega)
    rw [← nI_1 (j + 1)] at h9
    exact h9

set_option maxHeartbeats 4000000 in
set_option maxRecDepth 100000 in
theorem lp_on (l : Launch) (g : fw_G) {I : fw_I} {P : fw_P} {s : Nat → Int32} (hS : CSh P) (hR : RRel I P 1 s) (hd : iHd s) (y : Int32) {Q : Option Value → fw_I → fw_P → Prop} : ∀ (m i : Nat) (σ : sT), i + m = 61 → σ.2.2 ≤ 61 → (∀ σ', Q (some (.int (onL s m i σ).1)) (mS I σ') P ∨ σ' ≠ (onL s m i σ).2) → V l g kX5_onFrom (T0 nT) 0 0 Q (T0 nT) (mS I σ) P 0 0 7 [some (.ref (g.1 + 685)), some (.ref (g.1 + 1)), some (.int y), some (.int (nI i)), none, none] [] := by
  have a685 := (at_685 (nT := nT))
  have a686 := (at_686 (nT := nT))
  have a687 := (at_687 (nT := nT))
  have z0 : P 685 0 = some 686 := hS.2.2.2.2.2.2.2.2.2.2.2.1
  have z1 : P 685 1 = some 687 := hS.2.2.2.2.2.2.2.2.2.2.2.2
  have r1 := isRc_1
  have a1 := at_race (nT := nT) r1
  have hS1 := hS.r r1
  intro m
  induction m with
  | zero =>
    intro i σ hi hn hQ
    obtain rfl : i = 61 := by omega
    have hq := (hQ σ).elim id (fun z => absurd rfl z)
    refine V_iload_n (i := 3) rfl rfl dX5_onFrom_7 rfl ?_
    refine V_aload_n (i := 0) rfl rfl dX5_onFrom_8 rfl ?_
    refine V_get (kf := 2) C5 (by decide) l_X5_22 (by assumption) rfl dX5_onFrom_9 rfl ?_
    rw [mS_n]
    refine V_icmp_ge (tgt := 91) dX5_onFrom_12 (by decide) rfl (fun _ => ?_) (fun h => absurd ((nI_leI (by omega) (by decide)).mpr hn) h)
    refine V_bipush (v := (-5)) (by decide) dX5_onFrom_91 rfl ?_
    exact V_ireturn rfl rfl dX5_onFrom_93 rfl rfl rfl (hq)
  | succ m ih =>
    intro i σ hi hn hQ
    have hi61 : i < 61 := by omega
    by_cases hin : i < σ.2.2
    · have e : onL s (m + 1) i σ = if σ.2.1 i = 60 then (thA σ 60, σ) else onL s m (i + 1) (inF s (σ.2.1 i) σ 6) := if_pos hin
      rw [e] at hQ
      refine V_iload_n (i := 3) rfl rfl dX5_onFrom_7 rfl ?_
      refine V_aload_n (i := 0) rfl rfl dX5_onFrom_8 rfl ?_
      refine V_get (kf := 2) C5 (by decide) l_X5_22 (by assumption) rfl dX5_onFrom_9 rfl ?_
      rw [mS_n]
      refine V_icmp_ge (tgt := 91) dX5_onFrom_12 (by decide) rfl (fun h => absurd h (nI_ge hin (by omega))) (fun _ => ?_)
      refine V_iload_n (i := 3) rfl rfl dX5_onFrom_15 rfl ?_
      refine V_aload_n (i := 0) rfl rfl dX5_onFrom_16 rfl ?_
      refine V_getr (kf := 1) C5 (by decide) l_X5_15 (by assumption) rfl (by assumption) dX5_onFrom_17 rfl ?_
      refine V_alen (kd := 9) (by decide) (by assumption) dX5_onFrom_20 rfl ?_
      refine V_icmp_ge (tgt := 91) dX5_onFrom_21 (by decide) rfl (fun h => absurd h (nI_ge (b := 61) hi61 (by decide))) (fun _ => ?_)
      refine V_aload_n (i := 0) rfl rfl dX5_onFrom_24 rfl ?_
      refine V_getr (kf := 1) C5 (by decide) l_X5_15 (by assumption) rfl (by assumption) dX5_onFrom_25 rfl ?_
      refine V_iload_n (i := 3) rfl rfl dX5_onFrom_28 rfl ?_
      refine V_iald (by assumption) (fw_ix_nI hi61 (by decide)) dX5_onFrom_29 rfl ?_
      rw [mS_q]
      refine V_istore (i := 4) (by decide) rfl dX5_onFrom_30 rfl ?_
      refine V_iload (i := 4) rfl dX5_onFrom_32 rfl ?_
      refine V_bipush (v := 60) (by decide) dX5_onFrom_34 rfl ?_
      refine V_icmp_ne (tgt := 46) dX5_onFrom_36 (by decide) rfl (fun h_36 => ?_) (fun h_36 => ?_)
      · refine V_iconst (v := 1) (by decide) dX5_onFrom_46 rfl ?_
        refine V_istore (i := 5) (by decide) rfl dX5_onFrom_47 rfl ?_
        rw [if_neg h_36] at hQ
        exact lp_onIn l g hS hR hd σ hn (σ.2.1 i) y i (ih (i + 1) (inF s (σ.2.1 i) σ 6) (by omega) (inF_le hn 6) hQ) 6 0 rfl
      · refine V_aload_n (i := 0) rfl rfl dX5_onFrom_39 rfl ?_
        refine V_iload (i := 4) rfl dX5_onFrom_40 rfl ?_
        refine V_call (n := 1) (sp_throwsAt l g hS σ _) o_X5_throwsAt m_X5_26 ⟨by decide, by decide⟩ (by assumption) rfl rfl (by first | exact Nat.le_of_ble_eq_true rfl | simp [Value.category]) (Nat.le_refl _) (Nat.le_refl _) rfl dX5_onFrom_42 rfl (kI ?_)
        exact V_ireturn rfl rfl dX5_onFrom_45 rfl rfl rfl (by rw [if_pos h_36] at hQ; rw [h_36]; exact (hQ σ).elim id (fun z => absurd rfl z))
    · have e : onL s (m + 1) i σ = (-5, σ) := if_neg hin
      rw [e] at hQ
      have hq := (hQ σ).elim id (fun z => absurd rfl z)
      refine V_iload_n (i := 3) rfl rfl dX5_onFrom_7 rfl ?_
      refine V_aload_n (i := 0) rfl rfl dX5_onFrom_8 rfl ?_
      refine V_get (kf := 2) C5 (by decide) l_X5_22 (by assumption) rfl dX5_onFrom_9 rfl ?_
      rw [mS_n]
      refine V_icmp_ge (tgt := 91) dX5_onFrom_12 (by decide) rfl (fun _ => ?_) (fun h => absurd ((nI_leI (by omega) (by omega)).mpr (by omega)) h)
      refine V_bipush (v := (-5)) (by decide) dX5_onFrom_91 rfl ?_
      exact V_ireturn rfl rfl dX5_onFrom_93 rfl rfl rfl (hq)

set_option maxHeartbeats 4000000 in
set_option maxRecDepth 100000 in
theorem lp_ba (l : Launch) (g : fw_G) {I : fw_I} {P : fw_P} {s : Nat → Int32} (hS : CSh P) (hR : RRel I P 1 s) (hd : iHd s) (y : Int32) {Q : Option Value → fw_I → fw_P → Prop} : ∀ (m i : Nat) (σ : sT), i + m = 61 → σ.2.2 ≤ 61 → (∀ σ', Q (some (.int (baL s y m i σ).1)) (mS I σ') P ∨ σ' ≠ (baL s y m i σ).2) → V l g kX5_backTo (T0 nT) 0 0 Q (T0 nT) (mS I σ) P 0 0 8 [some (.ref (g.1 + 685)), some (.ref (g.1 + 1)), some (.int y), some (.int (nI i)), none] [] := by
  have a685 := (at_685 (nT := nT))
  have a686 := (at_686 (nT := nT))
  have a687 := (at_687 (nT := nT))
  have z0 : P 685 0 = some 686 := hS.2.2.2.2.2.2.2.2.2.2.2.1
  have z1 : P 685 1 = some 687 := hS.2.2.2.2.2.2.2.2.2.2.2.2
  have r1 := isRc_1
  have a1 := at_race (nT := nT) r1
  have hS1 := hS.r r1
  intro m
  induction m with
  | zero =>
    intro i σ hi hn hQ
    obtain rfl : i = 61 := by omega
    have hq := (hQ σ).elim id (fun z => absurd rfl z)
    refine V_iload_n (i := 3) rfl rfl dX5_backTo_8 rfl ?_
    refine V_aload_n (i := 0) rfl rfl dX5_backTo_9 rfl ?_
    refine V_get (kf := 2) C5 (by decide) l_X5_22 (by assumption) rfl dX5_backTo_10 rfl ?_
    rw [mS_n]
    refine V_icmp_ge (tgt := 59) dX5_backTo_13 (by decide) rfl (fun _ => ?_) (fun h => absurd ((nI_leI (by omega) (by decide)).mpr hn) h)
    refine V_bipush (v := (-5)) (by decide) dX5_backTo_59 rfl ?_
    exact V_ireturn rfl rfl dX5_backTo_61 rfl rfl rfl (hq)
  | succ m ih =>
    intro i σ hi hn hQ
    have hi61 : i < 61 := by omega
    by_cases hin : i < σ.2.2
    · have e : baL s y (m + 1) i σ = if σ.2.1 i = y then (thA σ y, σ) else baL s y m (i + 1) (landF s (σ.2.1 i) σ) := if_pos hin
      rw [e] at hQ
      refine V_iload_n (i := 3) rfl rfl dX5_backTo_8 rfl ?_
      refine V_aload_n (i := 0) rfl rfl dX5_backTo_9 rfl ?_
      refine V_get (kf := 2) C5 (by decide) l_X5_22 (by assumption) rfl dX5_backTo_10 rfl ?_
      rw [mS_n]
      refine V_icmp_ge (tgt := 59) dX5_backTo_13 (by decide) rfl (fun h => absurd h (nI_ge hin (by omega))) (fun _ => ?_)
      refine V_iload_n (i := 3) rfl rfl dX5_backTo_16 rfl ?_
      refine V_aload_n (i := 0) rfl rfl dX5_backTo_17 rfl ?_
      refine V_getr (kf := 1) C5 (by decide) l_X5_15 (by assumption) rfl (by assumption) dX5_backTo_18 rfl ?_
      refine V_alen (kd := 9) (by decide) (by assumption) dX5_backTo_21 rfl ?_
      refine V_icmp_ge (tgt := 59) dX5_backTo_22 (by decide) rfl (fun h => absurd h (nI_ge (b := 61) hi61 (by decide))) (fun _ => ?_)
      refine V_aload_n (i := 0) rfl rfl dX5_backTo_25 rfl ?_
      refine V_getr (kf := 1) C5 (by decide) l_X5_15 (by assumption) rfl (by assumption) dX5_backTo_26 rfl ?_
      refine V_iload_n (i := 3) rfl rfl dX5_backTo_29 rfl ?_
      refine V_iald (by assumption) (fw_ix_nI hi61 (by decide)) dX5_backTo_30 rfl ?_
      rw [mS_q]
      refine V_istore (i := 4) (by decide) rfl dX5_backTo_31 rfl ?_
      refine V_iload (i := 4) rfl dX5_backTo_33 rfl ?_
      refine V_iload_n (i := 2) rfl rfl dX5_backTo_35 rfl ?_
      refine V_icmp_ne (tgt := 46) dX5_backTo_36 (by decide) rfl (fun h_36 => ?_) (fun h_36 => ?_)
      · refine V_aload_n (i := 0) rfl rfl dX5_backTo_46 rfl ?_
        refine V_iload (i := 4) rfl dX5_backTo_47 rfl ?_
        refine V_aload_n (i := 1) rfl rfl dX5_backTo_49 rfl ?_
        refine V_call (n := 2) (sp_lands l g hS hR hd σ hn (σ.2.1 i)) o_X5_seeLandingsThatLeadTo m_X5_43 ⟨by decide, by decide⟩ (by assumption) rfl rfl (by first | exact Nat.le_of_ble_eq_true rfl | simp [Value.category]) (Nat.le_refl _) (Nat.le_refl _) rfl dX5_backTo_50 rfl (kW ?_)
        refine V_iinc1 (i := 3) rfl (by decide) rfl dX5_backTo_53 rfl ?_
        refine V_goto (tgt := 8) dX5_backTo_56 (by decide) ?_
        rw [if_neg h_36] at hQ
        refine V_forget 4 rfl ?_
        have h9 := ih (i + 1) (landF s (σ.2.1 i) σ) (by omega) (slF_le hn 10) hQ
        rw [← nI_1] at h9
        exact h9
      · refine V_aload_n (i := 0) rfl rfl dX5_backTo_39 rfl ?_
        refine V_iload (i := 4) rfl dX5_backTo_40 rfl ?_
        refine V_call (n := 1) (sp_throwsAt l g hS σ _) o_X5_throwsAt m_X5_26 ⟨by decide, by decide⟩ (by assumption) rfl rfl (by first | exact Nat.le_of_ble_eq_true rfl | simp [Value.category]) (Nat.le_refl _) (Nat.le_refl _) rfl dX5_backTo_42 rfl (kI ?_)
        exact V_ireturn rfl rfl dX5_backTo_45 rfl rfl rfl (by rw [if_pos h_36] at hQ; rw [h_36]; exact (hQ σ).elim id (fun z => absurd rfl z))
    · have e : baL s y (m + 1) i σ = (-5, σ) := if_neg hin
      rw [e] at hQ
      have hq := (hQ σ).elim id (fun z => absurd rfl z)
      refine V_iload_n (i := 3) rfl rfl dX5_backTo_8 rfl ?_
      refine V_aload_n (i := 0) rfl rfl dX5_backTo_9 rfl ?_
      refine V_get (kf := 2) C5 (by decide) l_X5_22 (by assumption) rfl dX5_backTo_10 rfl ?_
      rw [mS_n]
      refine V_icmp_ge (tgt := 59) dX5_backTo_13 (by decide) rfl (fun _ => ?_) (fun h => absurd ((nI_leI (by omega) (by omega)).mpr (by omega)) h)
      refine V_bipush (v := (-5)) (by decide) dX5_backTo_59 rfl ?_
      exact V_ireturn rfl rfl dX5_backTo_61 rfl rfl rfl (hq)

set_option maxHeartbeats 4000000 in
set_option maxRecDepth 100000 in
theorem sp_onFrom (l : Launch) (g : fw_G) {I : fw_I} {P : fw_P} {s : Nat → Int32} (hS : CSh P) (hR : RRel I P 1 s) (hd : iHd s) (σ : sT) (y : Int32) : Sp l g kX5_onFrom (T0 nT) [.ref (g.1 + 685), .ref (g.1 + 1), .int y] (mS I σ) P (T0 nT) 0 0 (qJ (fun r I1 P1 => r = (onL s 61 0 (stF σ y)).1 ∧ (∀ b, (b < 685 ∨ 688 ≤ b) → I1 b = I b) ∧ P1 = P)) := by
  have a685 := (at_685 (nT := nT))
  have a686 := (at_686 (nT := nT))
  have a687 := (at_687 (nT := nT))
  have z0 : P 685 0 = some 686 := hS.2.2.2.2.2.2.2.2.2.2.2.1
  have z1 : P 685 1 = some 687 := hS.2.2.2.2.2.2.2.2.2.2.2.2
  have r1 := isRc_1
  have a1 := at_race (nT := nT) r1
  have hS1 := hS.r r1
  refine Sp.of_V (L := [some (.ref (g.1 + 685)), some (.ref (g.1 + 1)), some (.int y), none, none, none]) (by decide) (by simp [Value.category]) (Nat.le_of_ble_eq_true rfl) rfl ?_
  refine V_aload_n (i := 0) rfl rfl dX5_onFrom_0 rfl ?_
  refine V_iload_n (i := 2) rfl rfl dX5_onFrom_1 rfl ?_
  refine V_call (n := 1) (sp_start l g hS σ y) o_X5_start m_X5_18 ⟨by decide, by decide⟩ (by assumption) rfl rfl (by first | exact Nat.le_of_ble_eq_true rfl | simp [Value.category]) (Nat.le_refl _) (Nat.le_refl _) rfl dX5_onFrom_2 rfl (kW ?_)
  refine V_iconst (v := 0) (by decide) dX5_onFrom_5 rfl ?_
  refine V_istore_n (i := 3) rfl (by decide) rfl dX5_onFrom_6 rfl ?_
  exact lp_on l g hS hR hd y 61 0 (stF σ y) rfl (stF_le σ y) (fun σ2 => Or.inl ⟨_, rfl, rfl, fun b hb => mS_ne I σ2 hb, rfl⟩)

set_option maxHeartbeats 4000000 in
set_option maxRecDepth 100000 in
theorem sp_backTo (l : Launch) (g : fw_G) {I : fw_I} {P : fw_P} {s : Nat → Int32} (hS : CSh P) (hR : RRel I P 1 s) (hd : iHd s) (σ : sT) (y : Int32) : Sp l g kX5_backTo (T0 nT) [.ref (g.1 + 685), .ref (g.1 + 1), .int y] (mS I σ) P (T0 nT) 0 0 (qJ (fun r I1 P1 => r = (baL s y 61 0 (stF σ 60)).1 ∧ (∀ b, (b < 685 ∨ 688 ≤ b) → I1 b = I b) ∧ P1 = P)) := by
  have a685 := (at_685 (nT := nT))
  have a686 := (at_686 (nT := nT))
  have a687 := (at_687 (nT := nT))
  have z0 : P 685 0 = some 686 := hS.2.2.2.2.2.2.2.2.2.2.2.1
  have z1 : P 685 1 = some 687 := hS.2.2.2.2.2.2.2.2.2.2.2.2
  have r1 := isRc_1
  have a1 := at_race (nT := nT) r1
  have hS1 := hS.r r1
  refine Sp.of_V (L := [some (.ref (g.1 + 685)), some (.ref (g.1 + 1)), some (.int y), none, none]) (by decide) (by simp [Value.category]) (Nat.le_of_ble_eq_true rfl) rfl ?_
  refine V_aload_n (i := 0) rfl rfl dX5_backTo_0 rfl ?_
  refine V_bipush (v := 60) (by decide) dX5_backTo_1 rfl ?_
  refine V_call (n := 1) (sp_start l g hS σ 60) o_X5_start m_X5_18 ⟨by decide, by decide⟩ (by assumption) rfl rfl (by first | exact Nat.le_of_ble_eq_true rfl | simp [Value.category]) (Nat.le_refl _) (Nat.le_refl _) rfl dX5_backTo_3 rfl (kW ?_)
  refine V_iconst (v := 0) (by decide) dX5_backTo_6 rfl ?_
  refine V_istore_n (i := 3) rfl (by decide) rfl dX5_backTo_7 rfl ?_
  exact lp_ba l g hS hR hd y 61 0 (stF σ 60) rfl (stF_le σ 60) (fun σ2 => Or.inl ⟨_, rfl, rfl, fun b hb => mS_ne I σ2 hb, rfl⟩)
