variable {nT : Nat}
def ccF (s : Nat → Int32) (p k : Nat) : Nat → Int32 × Int32
  | 0 => (100, -5)
  | j + 1 => if aAsk s (s (wi p k + 0)) j < (ccF s p k j).1 ∧ aWhy s (nI p) (nI k) (nI j) (aAsk s (s (wi p k + 0)) j) = 0 then (aAsk s (s (wi p k + 0)) j, 100 * nI j + aAsk s (s (wi p k + 0)) j) else ccF s p k j
def cheR (s : Nat → Int32) (x y : Int32) : Int32 := if aBt s x y then (ccF s x.toNatClampNeg y.toNatClampNeg 4).2 else -1
theorem bR_none {I : fw_I} {P : fw_P} {ra B : Nat} {s : Nat → Int32} (hr : isRc ra) (hS : RSh P ra) (hI : Inv B s) {x y : Int32} (h : bR P ra s x y = none) : ¬ aBt s x y := fun z => by
  unfold bR at h
  rw [if_pos z] at h
  obtain ⟨p, k2, hp, e1, hk, e2, hk20⟩ := aBt.nat hI.mOk z
  have hk16 : k2 < 16 := by have := (hI.many hp).2; omega
  obtain ⟨b9, e9, a9⟩ := RSh.BtS (nT := 0) hr hS hp k2 hk16
  rw [e1, e2, nI_clamp (by omega), nI_clamp (by omega), e9] at h
  cases h
set_option maxHeartbeats 4000000 in
set_option maxRecDepth 100000 in
theorem lc_cheapest (l : Launch) (g : fw_G) {I : fw_I} {P : fw_P} {s : Nat → Int32} {k : Nat} {h : Nat → Nat → Int32} {tk : Bool} {sp : Nat → Int32} {len : Nat} {tx : Nat → Int32} (hS : CSh P) (hC : CRel I P s k h tk sp len tx) {B : Nat} (hI : Inv B s) {p k2 bt : Nat} (hp : p < 4) (hk : k2 < aMany s p) (hbt : P (1 + 3 + 18 * p) k2 = some bt) (hat : fw_at (T0 nT) bt 0 0) : ∀ (m j : Nat), j + m = 4 → V l g kX7_cheapest (T0 nT) 0 0 (qI (ccF s p k2 4).2 I P) (T0 nT) I P 0 0 27 [some (.ref (g.1 + 0)), some (.int (nI p)), some (.int (nI k2)), some (.ref (g.1 + bt)), some (.int (ccF s p k2 j).2), some (.int (ccF s p k2 j).1), some (.int (nI j)), none] [] := by
  have a0 := (at_0 (nT := nT))
  have a1 := at_race (nT := nT) isRc_1
  have a256 := (at_256 (nT := nT))
  have a683 := (at_683 (nT := nT))
  have r1 := isRc_1
  have hS1 := hS.r isRc_1
  have hR := hC.1.1
  have hv := hC.1.2
  have q0 : P 0 0 = some 1 := hS.2.2.2.2.1
  have q1 : P 0 1 = some 86 := hS.2.2.2.2.2.1
  have q2 : P 0 2 = some 171 := hS.2.2.2.2.2.2.1
  have q3 : P 0 3 = some 256 := hS.2.2.2.2.2.2.2.1
  have q4 : P 0 4 = some 683 := hS.2.2.2.2.2.2.2.2.1
  have q5 : P 0 5 = some 685 := hS.2.2.2.2.2.2.2.2.2.1
  have hk16 : k2 < 16 := by have := (hI.many hp).2; omega
  intro m
  induction m with
  | zero =>
    intro j hj
    obtain rfl : j = 4 := by omega
    refine V_iload (i := 6) rfl dX7_cheapest_27 rfl ?_
    refine V_iconst (v := 4) (by decide) dX7_cheapest_29 rfl ?_
    refine V_icmp_ge (tgt := 88) dX7_cheapest_30 (by decide) rfl (fun _ => ?_) (fun h => absurd (by decide) h)
    refine V_iload (i := 4) rfl dX7_cheapest_88 rfl ?_
    exact V_ireturn rfl rfl dX7_cheapest_90 rfl rfl rfl (qI.of rfl)
  | succ m ih =>
    intro j hj
    have hjn : j < 4 := by omega
    refine V_iload (i := 6) rfl dX7_cheapest_27 rfl ?_
    refine V_iconst (v := 4) (by decide) dX7_cheapest_29 rfl ?_
    refine V_icmp_ge (tgt := 88) dX7_cheapest_30 (by decide) rfl (fun h => absurd h (nlt4 hjn)) (fun _ => ?_)
    refine V_aload_n (i := 0) rfl rfl dX7_cheapest_33 rfl ?_
    refine V_getr (kf := 0) C7 (by decide) l_X7_12 (by assumption) rfl (by assumption) dX7_cheapest_34 rfl ?_
    refine V_iload (i := 6) rfl dX7_cheapest_37 rfl ?_
    refine V_aload_n (i := 3) rfl rfl dX7_cheapest_39 rfl ?_
    refine V_call (n := 2) (sp_askedBy l g r1 hS1 hR hjn hat) o_X3_askedBy m_X7_226 ⟨by decide, by decide⟩ (by assumption) rfl rfl (by first | exact Nat.le_of_ble_eq_true rfl | simp [Value.category]) (Nat.le_refl _) (Nat.le_refl _) rfl dX7_cheapest_40 rfl (kI ?_)
    rw [hR.b hp hk16 hk hbt (f := 0) (by decide)]
    refine V_istore (i := 7) (by decide) rfl dX7_cheapest_43 rfl ?_
    refine V_iload (i := 7) rfl dX7_cheapest_45 rfl ?_
    refine V_iload (i := 5) rfl dX7_cheapest_47 rfl ?_
    refine V_icmp_ge (tgt := 82) dX7_cheapest_49 (by decide) rfl (fun h_49 => ?_) (fun h_49 => ?_)
    · refine V_iinc1 (i := 6) rfl (by decide) rfl dX7_cheapest_82 rfl ?_
      refine V_goto (tgt := 27) dX7_cheapest_85 (by decide) ?_
      have he : ccF s p k2 (j + 1) = if aAsk s (s (wi p k2 + 0)) j < (ccF s p k2 j).1 ∧ aWhy s (nI p) (nI k2) (nI j) (aAsk s (s (wi p k2 + 0)) j) = 0 then (aAsk s (s (wi p k2 + 0)) j, 100 * nI j + aAsk s (s (wi p k2 + 0)) j) else ccF s p k2 j := rfl
      rw [show (if aAsk s (s (wi p k2 + 0)) j < (ccF s p k2 j).1 ∧ aWhy s (nI p) (nI k2) (nI j) (aAsk s (s (wi p k2 + 0)) j) = 0 then (aAsk s (s (wi p k2 + 0)) j, 100 * nI j + aAsk s (s (wi p k2 + 0)) j) else ccF s p k2 j) = _ from by first | exact if_neg (fun h => absurd h.1 (Int32.not_lt.mpr h_49)) | exact if_neg (fun h => h_65 h.2) | exact if_pos ⟨Int32.not_le.mp h_49, h_65⟩] at he
      refine V_forget 7 rfl ?_
      have h9 := ih (j + 1) (by omega)
      rw [← nI_1, he] at h9
      exact h9
    · refine V_aload_n (i := 0) rfl rfl dX7_cheapest_52 rfl ?_
      refine V_getr (kf := 0) C7 (by decide) l_X7_12 (by assumption) rfl (by assumption) dX7_cheapest_53 rfl ?_
      refine V_iload_n (i := 1) rfl rfl dX7_cheapest_56 rfl ?_
      refine V_iload_n (i := 2) rfl rfl dX7_cheapest_57 rfl ?_
      refine V_iload (i := 6) rfl dX7_cheapest_58 rfl ?_
      refine V_iload (i := 7) rfl dX7_cheapest_60 rfl ?_
      refine V_call (n := 4) (sp_obstacle l g r1 hS1 hR hI (nI p) (nI k2) (nI j) (aAsk s (s (wi p k2 + 0)) j)) o_X3_obstacle m_X7_100 ⟨by decide, by decide⟩ (by assumption) rfl rfl (by first | exact Nat.le_of_ble_eq_true rfl | simp [Value.category]) (Nat.le_refl _) (Nat.le_refl _) rfl dX7_cheapest_62 rfl (kI ?_)
      refine V_if_ne (tgt := 82) dX7_cheapest_65 (by decide) rfl (fun h_65 => ?_) (fun h_65 => ?_)
      · refine V_iinc1 (i := 6) rfl (by decide) rfl dX7_cheapest_82 rfl ?_
        refine V_goto (tgt := 27) dX7_cheapest_85 (by decide) ?_
        have he : ccF s p k2 (j + 1) = if aAsk s (s (wi p k2 + 0)) j < (ccF s p k2 j).1 ∧ aWhy s (nI p) (nI k2) (nI j) (aAsk s (s (wi p k2 + 0)) j) = 0 then (aAsk s (s (wi p k2 + 0)) j, 100 * nI j + aAsk s (s (wi p k2 + 0)) j) else ccF s p k2 j := rfl
        rw [show (if aAsk s (s (wi p k2 + 0)) j < (ccF s p k2 j).1 ∧ aWhy s (nI p) (nI k2) (nI j) (aAsk s (s (wi p k2 + 0)) j) = 0 then (aAsk s (s (wi p k2 + 0)) j, 100 * nI j + aAsk s (s (wi p k2 + 0)) j) else ccF s p k2 j) = _ from by first | exact if_neg (fun h => absurd h.1 (Int32.not_lt.mpr h_49)) | exact if_neg (fun h => h_65 h.2) | exact if_pos ⟨Int32.not_le.mp h_49, h_65⟩] at he
        refine V_forget 7 rfl ?_
        have h9 := ih (j + 1) (by omega)
        rw [← nI_1, he] at h9
        exact h9
      · refine V_iload (i := 7) rfl dX7_cheapest_68 rfl ?_
        refine V_istore (i := 5) (by decide) rfl dX7_cheapest_70 rfl ?_
        refine V_bipush (v := 100) (by decide) dX7_cheapest_72 rfl ?_
        refine V_iload (i := 6) rfl dX7_cheapest_74 rfl ?_
        refine V_imul dX7_cheapest_76 rfl ?_
        refine V_iload (i := 7) rfl dX7_cheapest_77 rfl ?_
        refine V_iadd dX7_cheapest_79 rfl ?_
        refine V_istore (i := 4) (by decide) rfl dX7_cheapest_80 rfl ?_
        refine V_iinc1 (i := 6) rfl (by decide) rfl dX7_cheapest_82 rfl ?_
        refine V_goto (tgt := 27) dX7_cheapest_85 (by decide) ?_
        have he : ccF s p k2 (j + 1) = if aAsk s (s (wi p k2 + 0)) j < (ccF s p k2 j).1 ∧ aWhy s (nI p) (nI k2) (nI j) (aAsk s (s (wi p k2 + 0)) j) = 0 then (aAsk s (s (wi p k2 + 0)) j, 100 * nI j + aAsk s (s (wi p k2 + 0)) j) else ccF s p k2 j := rfl
        rw [show (if aAsk s (s (wi p k2 + 0)) j < (ccF s p k2 j).1 ∧ aWhy s (nI p) (nI k2) (nI j) (aAsk s (s (wi p k2 + 0)) j) = 0 then (aAsk s (s (wi p k2 + 0)) j, 100 * nI j + aAsk s (s (wi p k2 + 0)) j) else ccF s p k2 j) = _ from by first | exact if_neg (fun h => absurd h.1 (Int32.not_lt.mpr h_49)) | exact if_neg (fun h => h_65 h.2) | exact if_pos ⟨Int32.not_le.mp h_49, h_65⟩] at he
        refine V_forget 7 rfl ?_
        have h9 := ih (j + 1) (by omega)
        rw [← nI_1, he] at h9
        exact h9

set_option maxHeartbeats 4000000 in
set_option maxRecDepth 100000 in
theorem sc_cheapest (l : Launch) (g : fw_G) {I : fw_I} {P : fw_P} {s : Nat → Int32} {k : Nat} {h : Nat → Nat → Int32} {tk : Bool} {sp : Nat → Int32} {len : Nat} {tx : Nat → Int32} (hS : CSh P) (hC : CRel I P s k h tk sp len tx) {B : Nat} (hI : Inv B s) (x y : Int32) : Sp l g kX7_cheapest (T0 nT) [.ref (g.1 + 0), .int x, .int y] I P (T0 nT) 0 0 (qI (cheR s x y) I P) := by
  have a0 := (at_0 (nT := nT))
  have a1 := at_race (nT := nT) isRc_1
  have a256 := (at_256 (nT := nT))
  have a683 := (at_683 (nT := nT))
  have r1 := isRc_1
  have hS1 := hS.r isRc_1
  have hR := hC.1.1
  have hv := hC.1.2
  have q0 : P 0 0 = some 1 := hS.2.2.2.2.1
  have q1 : P 0 1 = some 86 := hS.2.2.2.2.2.1
  have q2 : P 0 2 = some 171 := hS.2.2.2.2.2.2.1
  have q3 : P 0 3 = some 256 := hS.2.2.2.2.2.2.2.1
  have q4 : P 0 4 = some 683 := hS.2.2.2.2.2.2.2.2.1
  have q5 : P 0 5 = some 685 := hS.2.2.2.2.2.2.2.2.2.1
  refine Sp.of_V (L := [some (.ref (g.1 + 0)), some (.int x), some (.int y), none, none, none, none, none]) (by decide) (by simp [Value.category]) (Nat.le_of_ble_eq_true rfl) rfl ?_
  refine V_aload_n (i := 0) rfl rfl dX7_cheapest_0 rfl ?_
  refine V_getr (kf := 0) C7 (by decide) l_X7_12 (by assumption) rfl (by assumption) dX7_cheapest_1 rfl ?_
  refine V_iload_n (i := 1) rfl rfl dX7_cheapest_4 rfl ?_
  refine V_iload_n (i := 2) rfl rfl dX7_cheapest_5 rfl ?_
  refine V_call (n := 2) (sp_biteOf l g r1 hS1 hR hI.mOf x y) o_X3_biteOf m_X7_171 ⟨by decide, by decide⟩ (by assumption) rfl rfl (by first | exact Nat.le_of_ble_eq_true rfl | simp [Value.category]) (Nat.le_refl _) (Nat.le_refl _) rfl dX7_cheapest_6 rfl (kR ?_)
  refine V_astore_nr (i := 3) rfl (by decide) rfl dX7_cheapest_9 rfl ?_
  refine V_aload_nr (i := 3) rfl rfl dX7_cheapest_10 rfl ?_
  refine V_ifnonnull (tgt := 16) dX7_cheapest_11 (by decide) rfl (fun b_11 h_11 => ?_) (fun h_11 => ?_)
  · have hbt := bR_some h_11
    obtain ⟨p, k2, hp, rfl, hk, rfl, hk20⟩ := aBt.nat hI.mOk hbt
    have hc : (nI p).toNatClampNeg = p := nI_clamp (by omega)
    have hck : (nI k2).toNatClampNeg = k2 := nI_clamp (by omega)
    have hk16 : k2 < 16 := by have := (hI.many hp).2; omega
    rw [bR_nI hI.mOf hp hk] at h_11
    have hab : fw_at (T0 nT) b_11 0 0 := by
      obtain ⟨b9, e9, a9⟩ := RSh.BtS (nT := nT) r1 hS1 hp k2 hk16
      rw [h_11] at e9
      rw [Option.some.inj e9]; exact a9
    rw [bR_nI hI.mOf hp hk, h_11]
    refine V_bipush (v := (-5)) (by decide) dX7_cheapest_16 rfl ?_
    refine V_istore (i := 4) (by decide) rfl dX7_cheapest_18 rfl ?_
    refine V_bipush (v := 100) (by decide) dX7_cheapest_20 rfl ?_
    refine V_istore (i := 5) (by decide) rfl dX7_cheapest_22 rfl ?_
    refine V_iconst (v := 0) (by decide) dX7_cheapest_24 rfl ?_
    refine V_istore (i := 6) (by decide) rfl dX7_cheapest_25 rfl ?_
    refine V_Q ?_ (lc_cheapest l g hS hC hI hp hk h_11 hab 4 0 rfl)
    rintro v I1 P1 ⟨rfl, rfl, rfl⟩
    exact ⟨by unfold cheR; rw [if_pos hbt, hc, hck], rfl, rfl⟩
  · refine V_iconst (v := (-1)) (by decide) dX7_cheapest_14 rfl ?_
    exact V_ireturn rfl rfl dX7_cheapest_15 rfl rfl rfl (qI.of (if_neg (bR_none (I := I) r1 hS1 hI h_11)).symm)
