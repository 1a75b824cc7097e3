variable {nT : Nat}
theorem lk2 {x : Int32} {a b d : Int} (h0 : ¬ x = 0) (h1 : ¬ x = 1) : Op.lookupswitch.offset #[((0 : Int), a), (1, b)].toList d x.toInt = d := by
  show (if (0 : Int) = x.toInt then a else if (1 : Int) = x.toInt then b else d) = d
  rw [if_neg (fun e => h0 (Int32.toInt_inj.mp (by rw [← e]; rfl))), if_neg (fun e => h1 (Int32.toInt_inj.mp (by rw [← e]; rfl)))]
def stX (s : Nat → Int32) (x : Int32) : Int32 := if x = 0 then s 5 else if x = 1 then s 6 else s 7
def stC (x : Int32) : Nat := if x = 0 then 2 else if x = 1 then 3 else 4
theorem hold_iff : ∀ h, h < 16 → ∀ b, b < 4 → ((¬ nI h &&& (1 <<< (nI b &&& 31)) = 0) ↔ nI h >>> (nI b &&& 31) &&& 1 = 1) := by decide +kernel
theorem m_stX {s : Nat → Int32} : ∀ i, i ≤ 2 → stX s (nI i) = s (5 + i) := fun i hi => by
  rcases (show i = 0 ∨ i = 1 ∨ i = 2 by omega) with rfl | rfl | rfl <;> rfl
theorem btR_bR {P : fw_P} {ra : Nat} {s : Nat → Int32} (hm : mOf s) {p : Nat} (hp : p < 4) (y : Int32) : btR P (ra + 3 + 18 * p) (aMany s p) y = bR P ra s (nI p) y := by
  unfold btR bR
  have hc : (nI p).toNatClampNeg = p := nI_clamp (by omega)
  by_cases h : aBt s (nI p) y
  · rw [if_pos h, hc]
    obtain ⟨p', k, h1, h2, h3, rfl, h5⟩ := h.nat (fun p hp => ⟨aMany s p, by have := (hm p hp).2; omega, (hm p hp).1⟩)
    have := nI_inj (by omega) (by omega) h2
    subst this
    exact if_pos ⟨nI_pos' (by omega), nI_lt h3 (by have := (hm p hp).2; omega)⟩
  · rw [if_neg h]
    refine if_neg (fun q => h ⟨le3 hp, q.1, ?_⟩)
    obtain ⟨k, hk, rfl⟩ := nI_of (Int32.not_lt.mpr q.1)
    have h2 := (nI_ltI hk (by have := (hm p hp).2; omega)).mp q.2
    rw [hc, (hm p hp).1]
    obtain ⟨j, hj⟩ : ∃ j, aMany s p = j + 1 := ⟨aMany s p - 1, by omega⟩
    rw [hj, nI_pred]
    exact (nI_leI hk (by have := (hm p hp).2; omega)).mpr (by omega)
theorem bR_some {P : fw_P} {ra b : Nat} {s : Nat → Int32} {x y : Int32} (h : bR P ra s x y = some b) : aBt s x y := by
  unfold bR at h
  by_cases q : aBt s x y
  · exact q
  · rw [if_neg q] at h; cases h
theorem bR_nI {P : fw_P} {ra : Nat} {s : Nat → Int32} (hm : mOf s) {p k : Nat} (hp : p < 4) (hk : k < aMany s p) : bR P ra s (nI p) (nI k) = P (ra + 3 + 18 * p) k := by
  rw [← btR_bR hm hp, btR_nI P hk (by have := (hm p hp).2; omega)]
theorem aBt_nI {s : Nat → Int32} (hm : mOf s) {p k : Nat} (hp : p < 4) (hk : k < aMany s p) : aBt s (nI p) (nI k) := by
  by_cases q : aBt s (nI p) (nI k)
  · exact q
  · have h1 : bR (fun _ _ => some 0) 0 s (nI p) (nI k) = none := if_neg q
    rw [bR_nI hm hp hk] at h1
    cases h1
theorem bR_no {P : fw_P} {ra : Nat} {s : Nat → Int32} {x : Int32} (y : Int32) (h : ¬ aPl x) : bR P ra s x y = none := if_neg (fun q => h q.1)
theorem aSk_at {s : Nat → Int32} {q : Int32} (h : ¬ aSnAt s q = -5) : ∃ k, k < 10 ∧ aSnAt s q = nI k ∧ 0 < sn s k 0 := by
  rcases aSnF_cases s q 10 with h1 | ⟨k, h1, h2, h3, h4⟩
  · exact absurd h1 h
  · exact ⟨k, h1, h2, by rw [h3]; exact h4⟩
theorem aSk_of {s : Nat → Int32} {q : Int32} (h : ¬ aSnAt s q = -5) : aSk s (aSnAt s q) := by
  obtain ⟨k, hk, e, hp⟩ := aSk_at h
  rw [e]
  exact ⟨le9 hk, by rwa [nI_clamp (by omega)]⟩
def biR (ra : Nat) (s : Nat → Int32) (p : Nat) (q : Int32) : Option Nat := if aBites s p q then some (ra + 75 + (aSnAt s q).toNatClampNeg) else none
def laX (s : Nat → Int32) (q : Int32) : Int32 := if aSnAt s q = -5 then q else sn s (aSnAt s q).toNatClampNeg 1
/-- sleeps are numbers -/
def iSl (s : Nat → Int32) : Prop := ∀ i, i < 10 → 0 ≤ sn s i 2
theorem le_0 {x : Int32} (h : 0 ≤ x) (h2 : x ≤ 0) : x = 0 := by
  rw [i32_le] at h h2
  exact Int32.toInt_inj.mp (Int.le_antisymm h2 h)
theorem Inv.iSl {B : Nat} {s : Nat → Int32} (h : Inv B s) : iSl s := fun i hi => by
  obtain ⟨n, hn, e⟩ := (h.2.2.2.2.1 i hi).2
  rw [e]
  exact nI_pos' (by have := h.2.1; omega)
theorem Inv.in {B : Nat} {s : Nat → Int32} (h : Inv B s) {p : Nat} (hp : p < 4) : ro s p 2 = 0 ↔ ¬ ro s p 0 = 60 := by
  obtain ⟨q, n, h1, h2, h3, h4, h5, h6⟩ := h.2.2.1 p hp
  rw [h5, h2]
  exact not_congr ⟨fun e => by rw [e]; rfl, fun e => nI_inj (b := 60) (by omega) (by decide) e⟩
theorem Inv.hl {B : Nat} {s : Nat → Int32} (h : Inv B s) {p k : Nat} (hp : p < 4) (hk : k < aMany s p) : ∃ z, z < 16 ∧ s (wi p k + 3) = nI z := by
  obtain ⟨z, h', -, -, -, h4, h5, -⟩ := h.2.2.2.1 p hp k hk
  exact ⟨h', h4, h5⟩
theorem obs_no {s : Nat → Int32} {x y z c : Int32} (h : ¬ (aBt s x y ∧ aPl z)) : aWhy s x y z c = -1 := by
  have e : aSeE s x y z c = -1 := if_pos h
  unfold aWhy
  rw [e]; exact if_pos (by decide)
theorem obs_bad {s : Nat → Int32} {x y z c : Int32} (h : aBt s x y ∧ aPl z) (h2 : ¬ ((0 ≤ c ∧ c ≤ 99) ∧ ¬ x = z)) : aWhy s x y z c = -2 := by
  have e : aSeE s x y z c = -2 := by unfold aSeE; rw [if_neg (fun q => q h), if_neg h2]
  unfold aWhy
  rw [e]; exact if_pos (by decide)
theorem obs_ok {s : Nat → Int32} {c : Int32} {p k b : Nat} (hp : p < 4) (hk : k < 20) (hb : b < 4) (h : aBt s (nI p) (nI k) ∧ aPl (nI b)) (h2 : (0 ≤ c ∧ c ≤ 99) ∧ ¬ nI p = nI b) : aWhy s (nI p) (nI k) (nI b) c = aRea s p k b c := by
  have e : aSeE s (nI p) (nI k) (nI b) c = 0 := by unfold aSeE; rw [if_neg (fun q => q h), if_pos h2]
  unfold aWhy
  rw [e, nI_clamp (by omega), nI_clamp (by omega), nI_clamp (by omega)]; exact if_neg (by decide)
set_option maxHeartbeats 4000000 in
set_option maxRecDepth 100000 in
theorem sp_settingOf (l : Launch) (g : fw_G) {I : fw_I} {P : fw_P} {ra : Nat} {s : Nat → Int32} (hr : isRc ra) (hS : RSh P ra) (hR : RRel I P ra s) (x : Int32) : Sp l g kX3_settingOf (T0 nT) [.ref (g.1 + ra), .int x] I P (T0 nT) 0 0 (qI (stX s x) I P) := by
  have ara := at_race (nT := nT) hr
  have apc := at_pieces (nT := nT) hr
  have asn := at_snakes (nT := nT) hr
  obtain ⟨h0, h1, hpp, hpb, hbb, hinj, hsn⟩ := id hS
  refine Sp.of_V (L := [some (.ref (g.1 + ra)), some (.int x)]) (by decide) (by simp [Value.category]) (Nat.le_of_ble_eq_true rfl) rfl ?_
  refine V_iload_n (i := 1) rfl rfl dX3_settingOf_0 rfl ?_
  by_cases h_1_0 : x = 0
  · refine V_lookup (off := 27) (tgt := 28) dX3_settingOf_1 (by decide) (by rw [h_1_0]; rfl) (by decide) ?_
    refine V_aload_n (i := 0) rfl rfl dX3_settingOf_28 rfl ?_
    refine V_get (kf := 2) C3 (by decide) l_X3_25 (by assumption) rfl dX3_settingOf_29 rfl ?_
    rw [hR.r2]
    exact V_ireturn rfl rfl dX3_settingOf_32 rfl rfl rfl (qI.of (by unfold stX; first | exact (if_pos h_1_0).symm | exact ((if_neg h_1_0).trans (if_pos h_1_1)).symm | exact ((if_neg h_1_0).trans (if_neg h_1_1)).symm))
  · by_cases h_1_1 : x = 1
    · refine V_lookup (off := 32) (tgt := 33) dX3_settingOf_1 (by decide) (by rw [h_1_1]; rfl) (by decide) ?_
      refine V_aload_n (i := 0) rfl rfl dX3_settingOf_33 rfl ?_
      refine V_get (kf := 3) C3 (by decide) l_X3_29 (by assumption) rfl dX3_settingOf_34 rfl ?_
      rw [hR.r3]
      exact V_ireturn rfl rfl dX3_settingOf_37 rfl rfl rfl (qI.of (by unfold stX; first | exact (if_pos h_1_0).symm | exact ((if_neg h_1_0).trans (if_pos h_1_1)).symm | exact ((if_neg h_1_0).trans (if_neg h_1_1)).symm))
    · refine V_lookup (off := 37) (tgt := 38) dX3_settingOf_1 (by decide) (lk2 h_1_0 h_1_1) (by decide) ?_
      refine V_aload_n (i := 0) rfl rfl dX3_settingOf_38 rfl ?_
      refine V_get (kf := 4) C3 (by decide) l_X3_32 (by assumption) rfl dX3_settingOf_39 rfl ?_
      rw [hR.r4]
      exact V_ireturn rfl rfl dX3_settingOf_42 rfl rfl rfl (qI.of (by unfold stX; first | exact (if_pos h_1_0).symm | exact ((if_neg h_1_0).trans (if_pos h_1_1)).symm | exact ((if_neg h_1_0).trans (if_neg h_1_1)).symm))

set_option maxHeartbeats 4000000 in
set_option maxRecDepth 100000 in
theorem sp_changeSetting (l : Launch) (g : fw_G) {I : fw_I} {P : fw_P} {ra : Nat} (hr : isRc ra) (hS : RSh P ra) (x v : Int32) : Sp l g kX3_changeSetting (T0 nT) [.ref (g.1 + ra), .int x, .int v] I P (T0 nT) 0 0 (qV (fun I1 P1 => I1 = up2 I ra (stC x) v ∧ P1 = P)) := by
  have ara := at_race (nT := nT) hr
  have apc := at_pieces (nT := nT) hr
  have asn := at_snakes (nT := nT) hr
  obtain ⟨h0, h1, hpp, hpb, hbb, hinj, hsn⟩ := id hS
  refine Sp.of_V (L := [some (.ref (g.1 + ra)), some (.int x), some (.int v)]) (by decide) (by simp [Value.category]) (Nat.le_of_ble_eq_true rfl) rfl ?_
  refine V_iload_n (i := 1) rfl rfl dX3_changeSetting_0 rfl ?_
  by_cases h_1_0 : x = 0
  · refine V_lookup (off := 27) (tgt := 28) dX3_changeSetting_1 (by decide) (by rw [h_1_0]; rfl) (by decide) ?_
    refine V_aload_n (i := 0) rfl rfl dX3_changeSetting_28 rfl ?_
    refine V_iload_n (i := 2) rfl rfl dX3_changeSetting_29 rfl ?_
    refine V_puti (kf := 2) C3 (by decide) rfl l_X3_25 rfl rfl rfl rfl (by assumption) dX3_changeSetting_30 rfl ?_
    refine V_goto (tgt := 49) dX3_changeSetting_33 (by decide) ?_
    exact V_return rfl dX3_changeSetting_49 rfl rfl rfl (⟨rfl, by unfold stC; first | rw [if_pos h_1_0] | rw [if_neg h_1_0, if_pos h_1_1] | rw [if_neg h_1_0, if_neg h_1_1], rfl⟩)
  · by_cases h_1_1 : x = 1
    · refine V_lookup (off := 35) (tgt := 36) dX3_changeSetting_1 (by decide) (by rw [h_1_1]; rfl) (by decide) ?_
      refine V_aload_n (i := 0) rfl rfl dX3_changeSetting_36 rfl ?_
      refine V_iload_n (i := 2) rfl rfl dX3_changeSetting_37 rfl ?_
      refine V_puti (kf := 3) C3 (by decide) rfl l_X3_29 rfl rfl rfl rfl (by assumption) dX3_changeSetting_38 rfl ?_
      refine V_goto (tgt := 49) dX3_changeSetting_41 (by decide) ?_
      exact V_return rfl dX3_changeSetting_49 rfl rfl rfl (⟨rfl, by unfold stC; first | rw [if_pos h_1_0] | rw [if_neg h_1_0, if_pos h_1_1] | rw [if_neg h_1_0, if_neg h_1_1], rfl⟩)
    · refine V_lookup (off := 43) (tgt := 44) dX3_changeSetting_1 (by decide) (lk2 h_1_0 h_1_1) (by decide) ?_
      refine V_aload_n (i := 0) rfl rfl dX3_changeSetting_44 rfl ?_
      refine V_iload_n (i := 2) rfl rfl dX3_changeSetting_45 rfl ?_
      refine V_puti (kf := 4) C3 (by decide) rfl l_X3_32 rfl rfl rfl rfl (by assumption) dX3_changeSetting_46 rfl ?_
      exact V_return rfl dX3_changeSetting_49 rfl rfl rfl (⟨rfl, by unfold stC; first | rw [if_pos h_1_0] | rw [if_neg h_1_0, if_pos h_1_1] | rw [if_neg h_1_0, if_neg h_1_1], rfl⟩)

set_option maxHeartbeats 4000000 in
set_option maxRecDepth 100000 in
theorem sp_isOverC (l : Launch) (g : fw_G) {I : fw_I} {P : fw_P} {ra : Nat} {s : Nat → Int32} (hr : isRc ra) (hS : RSh P ra) (hR : RRel I P ra s) (hv : Mv I ra s) (hn : ∃ m, m < 4 ∧ s 1 = nI m) : Sp l g kX3_isOver (T0 nT) [.ref (g.1 + ra)] I P (T0 nT) 0 0 (qI (bI (s 4 = 4)) I P) := by
  have ara := at_race (nT := nT) hr
  have apc := at_pieces (nT := nT) hr
  have asn := at_snakes (nT := nT) hr
  obtain ⟨h0, h1, hpp, hpb, hbb, hinj, hsn⟩ := id hS
  refine Sp.of_V (L := [some (.ref (g.1 + ra))]) (by decide) (by simp [Value.category]) (Nat.le_of_ble_eq_true rfl) rfl ?_
  refine V_aload_n (i := 0) rfl rfl dX3_isOver_0 rfl ?_
  refine V_get (kf := 5) C3 (by decide) l_X3_50 (by assumption) rfl dX3_isOver_1 rfl ?_
  refine V_bipush (v := (-5)) (by decide) dX3_isOver_4 rfl ?_
  refine V_icmp_ne (tgt := 13) dX3_isOver_6 (by decide) rfl (fun h_6 => ?_) (fun h_6 => ?_)
  · refine V_iconst (v := 0) (by decide) dX3_isOver_13 rfl ?_
    exact V_ireturn rfl (by decide) dX3_isOver_14 rfl rfl rfl (qI.of (by rw [show I ra 5 = _ from hv] at h_6; obtain ⟨m, hm, e⟩ := hn; by_cases q : s 4 = 4; (first | exact (bI_t q).symm | exact absurd (if_pos q) h_6); rw [if_neg q, e] at h_6; first | exact (bI_f q).symm | exact absurd h_6 (nI_n5 m (by omega))))
  · refine V_iconst (v := 1) (by decide) dX3_isOver_9 rfl ?_
    refine V_goto (tgt := 14) dX3_isOver_10 (by decide) ?_
    exact V_ireturn rfl (by decide) dX3_isOver_14 rfl rfl rfl (qI.of (by rw [show I ra 5 = _ from hv] at h_6; obtain ⟨m, hm, e⟩ := hn; by_cases q : s 4 = 4; (first | exact (bI_t q).symm | exact absurd (if_pos q) h_6); rw [if_neg q, e] at h_6; first | exact (bI_f q).symm | exact absurd h_6 (nI_n5 m (by omega))))

set_option maxHeartbeats 4000000 in
set_option maxRecDepth 100000 in
theorem sp_landing (l : Launch) (g : fw_G) {I : fw_I} {P : fw_P} (q d : Int32) : Sp l g kX7_landing (T0 nT) [.int q, .int d] I P (T0 nT) 0 0 (qI (aGo q d) I P) := by
  refine Sp.of_V (L := [some (.int q), some (.int d), none]) (by decide) (by simp [Value.category]) (Nat.le_of_ble_eq_true rfl) rfl ?_
  refine V_iload_n (i := 0) rfl rfl dX7_landing_0 rfl ?_
  refine V_iload_n (i := 1) rfl rfl dX7_landing_1 rfl ?_
  refine V_iadd dX7_landing_2 rfl ?_
  refine V_istore_n (i := 2) rfl (by decide) rfl dX7_landing_3 rfl ?_
  refine V_iload_n (i := 2) rfl rfl dX7_landing_4 rfl ?_
  refine V_bipush (v := 60) (by decide) dX7_landing_5 rfl ?_
  refine V_icmp_le (tgt := 17) dX7_landing_7 (by decide) rfl (fun h_7 => ?_) (fun h_7 => ?_)
  · refine V_iload_n (i := 2) rfl rfl dX7_landing_17 rfl ?_
    exact V_ireturn rfl rfl dX7_landing_18 rfl rfl rfl (qI.of (by unfold aGo; first | exact (if_pos h_7).symm | exact (by rw [if_neg h_7, Int32.sub_sub])))
  · refine V_bipush (v := 120) (by decide) dX7_landing_10 rfl ?_
    refine V_iload_n (i := 2) rfl rfl dX7_landing_12 rfl ?_
    refine V_isub dX7_landing_13 rfl ?_
    refine V_goto (tgt := 18) dX7_landing_14 (by decide) ?_
    exact V_ireturn rfl rfl dX7_landing_18 rfl rfl rfl (qI.of (by unfold aGo; first | exact (if_pos h_7).symm | exact (by rw [if_neg h_7, Int32.sub_sub])))

set_option maxHeartbeats 4000000 in
set_option maxRecDepth 100000 in
theorem sp_biteOf (l : Launch) (g : fw_G) {I : fw_I} {P : fw_P} {ra : Nat} {s : Nat → Int32} (hr : isRc ra) (hS : RSh P ra) (hR : RRel I P ra s) (hm : mOf s) (x y : Int32) : Sp l g kX3_biteOf (T0 nT) [.ref (g.1 + ra), .int x, .int y] I P (T0 nT) 0 0 (qR g (bR P ra s x y) I P) := by
  have ara := at_race (nT := nT) hr
  have apc := at_pieces (nT := nT) hr
  have asn := at_snakes (nT := nT) hr
  obtain ⟨h0, h1, hpp, hpb, hbb, hinj, hsn⟩ := id hS
  refine Sp.of_V (L := [some (.ref (g.1 + ra)), some (.int x), some (.int y), none]) (by decide) (by simp [Value.category]) (Nat.le_of_ble_eq_true rfl) rfl ?_
  refine V_aload_n (i := 0) rfl rfl dX3_biteOf_0 rfl ?_
  refine V_iload_n (i := 1) rfl rfl dX3_biteOf_1 rfl ?_
  refine V_call (n := 1) (sp_pieceOf l g hr hS x) o_X3_pieceOf m_X3_35 ⟨by decide, by decide⟩ (by assumption) rfl rfl (by first | exact Nat.le_of_ble_eq_true rfl | simp [Value.category]) (Nat.le_refl _) (Nat.le_refl _) rfl dX3_biteOf_2 rfl (kR ?_)
  refine V_astore_nr (i := 3) rfl (by decide) rfl dX3_biteOf_5 rfl ?_
  refine V_aload_nr (i := 3) rfl rfl dX3_biteOf_6 rfl ?_
  refine V_ifnonnull (tgt := 14) dX3_biteOf_7 (by decide) rfl (fun b_7 h_7 => ?_) (fun h_7 => ?_)
  · obtain ⟨k, hk, rfl, rfl⟩ := pcR_some h_7
    have hak := at_piece (nT := nT) hr hk
    rw [h_7]
    refine V_aload_n (i := 3) rfl rfl dX3_biteOf_14 rfl ?_
    refine V_iload_n (i := 2) rfl rfl dX3_biteOf_15 rfl ?_
    refine V_call (n := 1) (sp_Piece_biteAt l g hak (at_bites (nT := nT) hr hk) (hpb k hk) (by rw [hR.p1 hk]; exact (hm k hk).1) (by have := (hm k hk).2; omega) y) o_X2_biteAt m_X3_65 ⟨by decide, by decide⟩ (by assumption) rfl rfl (by first | exact Nat.le_of_ble_eq_true rfl | simp [Value.category]) (Nat.le_refl _) (Nat.le_refl _) rfl dX3_biteOf_16 rfl (kR ?_)
    exact V_areturn (r := _) rfl dX3_biteOf_19 rfl rfl rfl (qR.of (by first | exact (bR_no y (pcR_none h_7)).symm | exact btR_bR hm hk y))
  · refine V_null dX3_biteOf_10 rfl ?_
    refine V_goto (tgt := 19) dX3_biteOf_11 (by decide) ?_
    exact V_areturn (r := _) rfl dX3_biteOf_19 rfl rfl rfl (qR.of (by first | exact (bR_no y (pcR_none h_7)).symm | exact btR_bR hm hk y))

set_option maxHeartbeats 4000000 in
set_option maxRecDepth 100000 in
theorem sp_biterOf (l : Launch) (g : fw_G) {I : fw_I} {P : fw_P} {ra : Nat} {s : Nat → Int32} (hr : isRc ra) (hS : RSh P ra) (hR : RRel I P ra s) (hd : iHd s) (hl : iSl s) {p : Nat} (hp : p < 4) (q : Int32) : Sp l g kX3_biterOf (T0 nT) [.ref (g.1 + ra), .int (nI p), .int q] I P (T0 nT) 0 0 (qR g (biR ra s p q) I P) := by
  have ara := at_race (nT := nT) hr
  have apc := at_pieces (nT := nT) hr
  have asn := at_snakes (nT := nT) hr
  obtain ⟨h0, h1, hpp, hpb, hbb, hinj, hsn⟩ := id hS
  refine Sp.of_V (L := [some (.ref (g.1 + ra)), some (.int (nI p)), some (.int q), none, none]) (by decide) (by simp [Value.category]) (Nat.le_of_ble_eq_true rfl) rfl ?_
  refine V_aload_n (i := 0) rfl rfl dX3_biterOf_0 rfl ?_
  refine V_aload_n (i := 0) rfl rfl dX3_biterOf_1 rfl ?_
  refine V_iload_n (i := 2) rfl rfl dX3_biterOf_2 rfl ?_
  refine V_call (n := 1) (sp_headOn l g hr hS hR hd q) o_X3_numberOfHeadOn m_X3_122 ⟨by decide, by decide⟩ (by assumption) rfl rfl (by first | exact Nat.le_of_ble_eq_true rfl | simp [Value.category]) (Nat.le_refl _) (Nat.le_refl _) rfl dX3_biterOf_3 rfl (kI ?_)
  refine V_call (n := 1) (sp_snakeNumbered l g hr hS hR (aSnAt s q)) o_X3_snakeNumbered m_X3_73 ⟨by decide, by decide⟩ (by assumption) rfl rfl (by first | exact Nat.le_of_ble_eq_true rfl | simp [Value.category]) (Nat.le_refl _) (Nat.le_refl _) rfl dX3_biterOf_6 rfl (kR ?_)
  refine V_astore_nr (i := 3) rfl (by decide) rfl dX3_biterOf_9 rfl ?_
  refine V_aload_nr (i := 3) rfl rfl dX3_biterOf_10 rfl ?_
  refine V_ifnull (tgt := 21) dX3_biterOf_11 (by decide) rfl (fun h_11 => ?_) (fun b_11 h_11 => ?_)
  · refine V_null dX3_biterOf_21 rfl ?_
    exact V_areturn (r := _) rfl dX3_biterOf_22 rfl rfl rfl (qR.of (by first | exact (if_neg (fun z => snR_xn h_11 (aSk_of z.1))).symm | exact (if_neg (fun z => h_18 (by have := z.2.1; rw [he, nI_clamp (by omega)] at this; rw [this]; decide))).symm))
  · obtain ⟨k, hk, he, hps, rfl⟩ := snR_x h_11
    have hak := at_snake (nT := nT) hr hk
    rw [h_11]
    refine V_aload_n (i := 3) rfl rfl dX3_biterOf_14 rfl ?_
    refine V_get (kf := 2) C6 (by decide) l_X3_125 (by assumption) rfl dX3_biterOf_15 rfl ?_
    rw [hR.s2 hk]
    refine V_if_le (tgt := 23) dX3_biterOf_18 (by decide) rfl (fun h_18 => ?_) (fun h_18 => ?_)
    · refine V_aload_n (i := 0) rfl rfl dX3_biterOf_23 rfl ?_
      refine V_iload_n (i := 2) rfl rfl dX3_biterOf_24 rfl ?_
      refine V_call (n := 1) (sp_piecesOn l g hr hS hR q) o_X3_piecesOn m_X3_128 ⟨by decide, by decide⟩ (by assumption) rfl rfl (by first | exact Nat.le_of_ble_eq_true rfl | simp [Value.category]) (Nat.le_refl _) (Nat.le_refl _) rfl dX3_biterOf_25 rfl (kI ?_)
      refine V_iconst (v := 1) (by decide) dX3_biterOf_28 rfl ?_
      refine V_iload_n (i := 1) rfl rfl dX3_biterOf_29 rfl ?_
      refine V_ishl dX3_biterOf_30 rfl ?_
      refine V_iconst (v := (-1)) (by decide) dX3_biterOf_31 rfl ?_
      refine V_ixor dX3_biterOf_32 rfl ?_
      refine V_iand dX3_biterOf_33 rfl ?_
      refine V_istore (i := 4) (by decide) rfl dX3_biterOf_34 rfl ?_
      refine V_iload (i := 4) rfl dX3_biterOf_36 rfl ?_
      refine V_if_ne (tgt := 45) dX3_biterOf_38 (by decide) rfl (fun h_38 => ?_) (fun h_38 => ?_)
      · refine V_null dX3_biterOf_45 rfl ?_
        first | exact V_areturn (r := none) rfl dX3_biterOf_46 rfl rfl rfl (qR.of (by first | exact (if_neg (fun z => h_38 z.2.2)).symm | exact (by unfold biR; rw [if_pos ⟨by rw [he]; exact nI_n5 k (by omega), by rw [he, nI_clamp (by omega)]; exact le_0 (hl k hk) h_18, h_38⟩, he, nI_clamp (by omega)]))) | exact V_areturn (r := some (ra + 75 + k)) rfl dX3_biterOf_46 rfl rfl rfl (qR.of (by first | exact (if_neg (fun z => h_38 z.2.2)).symm | exact (by unfold biR; rw [if_pos ⟨by rw [he]; exact nI_n5 k (by omega), by rw [he, nI_clamp (by omega)]; exact le_0 (hl k hk) h_18, h_38⟩, he, nI_clamp (by omega)])))
      · refine V_aload_n (i := 3) rfl rfl dX3_biterOf_41 rfl ?_
        refine V_goto (tgt := 46) dX3_biterOf_42 (by decide) ?_
        first | exact V_areturn (r := none) rfl dX3_biterOf_46 rfl rfl rfl (qR.of (by first | exact (if_neg (fun z => h_38 z.2.2)).symm | exact (by unfold biR; rw [if_pos ⟨by rw [he]; exact nI_n5 k (by omega), by rw [he, nI_clamp (by omega)]; exact le_0 (hl k hk) h_18, h_38⟩, he, nI_clamp (by omega)]))) | exact V_areturn (r := some (ra + 75 + k)) rfl dX3_biterOf_46 rfl rfl rfl (qR.of (by first | exact (if_neg (fun z => h_38 z.2.2)).symm | exact (by unfold biR; rw [if_pos ⟨by rw [he]; exact nI_n5 k (by omega), by rw [he, nI_clamp (by omega)]; exact le_0 (hl k hk) h_18, h_38⟩, he, nI_clamp (by omega)])))
    · refine V_null dX3_biterOf_21 rfl ?_
      exact V_areturn (r := _) rfl dX3_biterOf_22 rfl rfl rfl (qR.of (by first | exact (if_neg (fun z => snR_xn h_11 (aSk_of z.1))).symm | exact (if_neg (fun z => h_18 (by have := z.2.1; rw [he, nI_clamp (by omega)] at this; rw [this]; decide))).symm))

set_option maxHeartbeats 4000000 in
set_option maxRecDepth 100000 in
theorem sp_beginningAfter (l : Launch) (g : fw_G) {I : fw_I} {P : fw_P} {ra : Nat} {s : Nat → Int32} (hr : isRc ra) (hS : RSh P ra) (hR : RRel I P ra s) (hd : iHd s) (q : Int32) : Sp l g kX3_beginningAfter (T0 nT) [.ref (g.1 + ra), .int q] I P (T0 nT) 0 0 (qI (laX s q) I P) := by
  have ara := at_race (nT := nT) hr
  have apc := at_pieces (nT := nT) hr
  have asn := at_snakes (nT := nT) hr
  obtain ⟨h0, h1, hpp, hpb, hbb, hinj, hsn⟩ := id hS
  refine Sp.of_V (L := [some (.ref (g.1 + ra)), some (.int q), none]) (by decide) (by simp [Value.category]) (Nat.le_of_ble_eq_true rfl) rfl ?_
  refine V_aload_n (i := 0) rfl rfl dX3_beginningAfter_0 rfl ?_
  refine V_aload_n (i := 0) rfl rfl dX3_beginningAfter_1 rfl ?_
  refine V_iload_n (i := 1) rfl rfl dX3_beginningAfter_2 rfl ?_
  refine V_call (n := 1) (sp_headOn l g hr hS hR hd q) o_X3_numberOfHeadOn m_X3_122 ⟨by decide, by decide⟩ (by assumption) rfl rfl (by first | exact Nat.le_of_ble_eq_true rfl | simp [Value.category]) (Nat.le_refl _) (Nat.le_refl _) rfl dX3_beginningAfter_3 rfl (kI ?_)
  refine V_call (n := 1) (sp_snakeNumbered l g hr hS hR (aSnAt s q)) o_X3_snakeNumbered m_X3_73 ⟨by decide, by decide⟩ (by assumption) rfl rfl (by first | exact Nat.le_of_ble_eq_true rfl | simp [Value.category]) (Nat.le_refl _) (Nat.le_refl _) rfl dX3_beginningAfter_6 rfl (kR ?_)
  refine V_astore_nr (i := 2) rfl (by decide) rfl dX3_beginningAfter_9 rfl ?_
  refine V_aload_nr (i := 2) rfl rfl dX3_beginningAfter_10 rfl ?_
  refine V_ifnonnull (tgt := 18) dX3_beginningAfter_11 (by decide) rfl (fun b_11 h_11 => ?_) (fun h_11 => ?_)
  · obtain ⟨k, hk, he, hps, rfl⟩ := snR_x h_11
    have hak := at_snake (nT := nT) hr hk
    rw [h_11]
    refine V_aload_n (i := 2) rfl rfl dX3_beginningAfter_18 rfl ?_
    refine V_get (kf := 1) C6 (by decide) l_X3_79 (by assumption) rfl dX3_beginningAfter_19 rfl ?_
    exact V_ireturn rfl rfl dX3_beginningAfter_22 rfl rfl rfl (qI.of (by first | exact (if_pos (Decidable.not_not.mp (fun z => snR_xn h_11 (aSk_of z)))).symm | exact (by unfold laX; rw [if_neg (by rw [he]; exact nI_n5 k (by omega)), he, nI_clamp (by omega), hR.s1 hk hps])))
  · refine V_iload_n (i := 1) rfl rfl dX3_beginningAfter_14 rfl ?_
    refine V_goto (tgt := 22) dX3_beginningAfter_15 (by decide) ?_
    exact V_ireturn rfl rfl dX3_beginningAfter_22 rfl rfl rfl (qI.of (by first | exact (if_pos (Decidable.not_not.mp (fun z => snR_xn h_11 (aSk_of z)))).symm | exact (by unfold laX; rw [if_neg (by rw [he]; exact nI_n5 k (by omega)), he, nI_clamp (by omega), hR.s1 hk hps])))

set_option maxHeartbeats 4000000 in
set_option maxRecDepth 100000 in
theorem sp_askedBy (l : Launch) (g : fw_G) {I : fw_I} {P : fw_P} {ra : Nat} {s : Nat → Int32} (hr : isRc ra) (hS : RSh P ra) (hR : RRel I P ra s) {b a : Nat} (hb : b < 4) (ha : fw_at (T0 nT) a 0 0) : Sp l g kX3_askedBy (T0 nT) [.ref (g.1 + ra), .int (nI b), .ref (g.1 + a)] I P (T0 nT) 0 0 (qI (aAsk s (I a 0) b) I P) := by
  have ara := at_race (nT := nT) hr
  have apc := at_pieces (nT := nT) hr
  have asn := at_snakes (nT := nT) hr
  obtain ⟨h0, h1, hpp, hpb, hbb, hinj, hsn⟩ := id hS
  have hak := at_piece (nT := nT) hr hb
  refine Sp.of_V (L := [some (.ref (g.1 + ra)), some (.int (nI b)), some (.ref (g.1 + a)), none, none]) (by decide) (by simp [Value.category]) (Nat.le_of_ble_eq_true rfl) rfl ?_
  refine V_aload_n (i := 0) rfl rfl dX3_askedBy_0 rfl ?_
  refine V_iload_n (i := 1) rfl rfl dX3_askedBy_1 rfl ?_
  refine V_call (n := 1) (sp_pieceOf l g hr hS (nI b)) o_X3_pieceOf m_X3_35 ⟨by decide, by decide⟩ (by assumption) rfl rfl (by first | exact Nat.le_of_ble_eq_true rfl | simp [Value.category]) (Nat.le_refl _) (Nat.le_refl _) rfl dX3_askedBy_2 rfl (kR ?_)
  rw [pcR_nI ra hb]
  refine V_astore_n (i := 3) rfl (by decide) rfl dX3_askedBy_5 rfl ?_
  refine V_aload_n (i := 3) rfl rfl dX3_askedBy_6 rfl ?_
  refine V_ifnonnull_s (tgt := 14) dX3_askedBy_7 (by decide) ?_
  refine V_aload_n (i := 3) rfl rfl dX3_askedBy_14 rfl ?_
  refine V_get (kf := 1) C2 (by decide) l_X3_91 (by assumption) rfl dX3_askedBy_15 rfl ?_
  rw [hR.p1 hb]
  refine V_istore (i := 4) (by decide) rfl dX3_askedBy_18 rfl ?_
  refine V_aload_n (i := 2) rfl rfl dX3_askedBy_20 rfl ?_
  refine V_get (kf := 0) C0 (by decide) l_X3_147 (by assumption) rfl dX3_askedBy_21 rfl ?_
  refine V_iconst (v := 2) (by decide) dX3_askedBy_24 rfl ?_
  refine V_iadd dX3_askedBy_25 rfl ?_
  refine V_iconst (v := 3) (by decide) dX3_askedBy_26 rfl ?_
  refine V_idiv (by decide) dX3_askedBy_27 rfl ?_
  refine V_iconst (v := 2) (by decide) dX3_askedBy_28 rfl ?_
  refine V_iload (i := 4) rfl dX3_askedBy_29 rfl ?_
  refine V_imul dX3_askedBy_31 rfl ?_
  refine V_iadd dX3_askedBy_32 rfl ?_
  exact V_ireturn rfl rfl dX3_askedBy_33 rfl rfl rfl (qI.of rfl)

set_option maxHeartbeats 4000000 in
set_option maxRecDepth 100000 in
theorem sp_obstacle_ok (l : Launch) (g : fw_G) {I : fw_I} {P : fw_P} {ra : Nat} {s : Nat → Int32} (hr : isRc ra) (hS : RSh P ra) (hR : RRel I P ra s) {B : Nat} (hI : Inv B s) {p k b : Nat} (hp : p < 4) (hk : k < aMany s p) (hb : b < 4) (c : Int32) : Sp l g kX3_obstacle (T0 nT) [.ref (g.1 + ra), .int (nI p), .int (nI k), .int (nI b), .int c] I P (T0 nT) 0 0 (qI (aWhy s (nI p) (nI k) (nI b) c) I P) := by
  have ara := at_race (nT := nT) hr
  have apc := at_pieces (nT := nT) hr
  have asn := at_snakes (nT := nT) hr
  obtain ⟨h0, h1, hpp, hpb, hbb, hinj, hsn⟩ := id hS
  have hb1 := at_piece (nT := nT) hr hb
  have hp1 := at_piece (nT := nT) hr hp
  have hk20 : k < 20 := by have := (hI.many hp).2; omega
  have hk16 : k < 16 := by have := (hI.many hp).2; omega
  obtain ⟨bt, hbt, hat⟩ := RSh.BtS (nT := nT) hr hS hp k hk16
  have hok : aBt s (nI p) (nI k) ∧ aPl (nI b) := ⟨aBt_nI hI.mOf hp hk, le3 hb⟩
  refine Sp.of_V (L := [some (.ref (g.1 + ra)), some (.int (nI p)), some (.int (nI k)), some (.int (nI b)), some (.int c), none, none, none]) (by decide) (by simp [Value.category]) (Nat.le_of_ble_eq_true rfl) rfl ?_
  refine V_aload_n (i := 0) rfl rfl dX3_obstacle_0 rfl ?_
  refine V_iload_n (i := 1) rfl rfl dX3_obstacle_1 rfl ?_
  refine V_call (n := 1) (sp_pieceOf l g hr hS (nI p)) o_X3_pieceOf m_X3_35 ⟨by decide, by decide⟩ (by assumption) rfl rfl (by first | exact Nat.le_of_ble_eq_true rfl | simp [Value.category]) (Nat.le_refl _) (Nat.le_refl _) rfl dX3_obstacle_2 rfl (kR ?_)
  rw [pcR_nI ra hp]
  refine V_astore (i := 5) (by decide) rfl dX3_obstacle_5 rfl ?_
  refine V_aload_n (i := 0) rfl rfl dX3_obstacle_7 rfl ?_
  refine V_iload_n (i := 3) rfl rfl dX3_obstacle_8 rfl ?_
  refine V_call (n := 1) (sp_pieceOf l g hr hS (nI b)) o_X3_pieceOf m_X3_35 ⟨by decide, by decide⟩ (by assumption) rfl rfl (by first | exact Nat.le_of_ble_eq_true rfl | simp [Value.category]) (Nat.le_refl _) (Nat.le_refl _) rfl dX3_obstacle_9 rfl (kR ?_)
  rw [pcR_nI ra hb]
  refine V_astore (i := 6) (by decide) rfl dX3_obstacle_12 rfl ?_
  refine V_aload_n (i := 0) rfl rfl dX3_obstacle_14 rfl ?_
  refine V_iload_n (i := 1) rfl rfl dX3_obstacle_15 rfl ?_
  refine V_iload_n (i := 2) rfl rfl dX3_obstacle_16 rfl ?_
  refine V_call (n := 2) (sp_biteOf l g hr hS hR hI.mOf (nI p) (nI k)) o_X3_biteOf m_X3_150 ⟨by decide, by decide⟩ (by assumption) rfl rfl (by first | exact Nat.le_of_ble_eq_true rfl | simp [Value.category]) (Nat.le_refl _) (Nat.le_refl _) rfl dX3_obstacle_17 rfl (kR ?_)
  rw [bR_nI hI.mOf hp hk, hbt]
  refine V_astore (i := 7) (by decide) rfl dX3_obstacle_20 rfl ?_
  refine V_aload (i := 5) rfl dX3_obstacle_22 rfl ?_
  refine V_ifnull_s dX3_obstacle_24 rfl ?_
  refine V_aload (i := 6) rfl dX3_obstacle_27 rfl ?_
  refine V_ifnull_s dX3_obstacle_29 rfl ?_
  refine V_aload (i := 7) rfl dX3_obstacle_32 rfl ?_
  refine V_ifnonnull_s (tgt := 39) dX3_obstacle_34 (by decide) ?_
  refine V_iload (i := 4) rfl dX3_obstacle_39 rfl ?_
  refine V_if_lt (tgt := 56) dX3_obstacle_41 (by decide) rfl (fun h_41 => ?_) (fun h_41 => ?_)
  · refine V_bipush (v := (-2)) (by decide) dX3_obstacle_56 rfl ?_
    exact V_ireturn rfl rfl dX3_obstacle_58 rfl rfl rfl (qI.of (by first | exact (obs_bad hok (fun z => absurd z.1.1 (Int32.not_le.mpr h_41))).symm | exact (obs_bad hok (fun z => absurd z.1.2 (Int32.not_le.mpr h_48))).symm | exact (obs_bad hok (fun z => z.2 h_53)).symm))
  · refine V_iload (i := 4) rfl dX3_obstacle_44 rfl ?_
    refine V_bipush (v := 99) (by decide) dX3_obstacle_46 rfl ?_
    refine V_icmp_gt (tgt := 56) dX3_obstacle_48 (by decide) rfl (fun h_48 => ?_) (fun h_48 => ?_)
    · refine V_bipush (v := (-2)) (by decide) dX3_obstacle_56 rfl ?_
      exact V_ireturn rfl rfl dX3_obstacle_58 rfl rfl rfl (qI.of (by first | exact (obs_bad hok (fun z => absurd z.1.1 (Int32.not_le.mpr h_41))).symm | exact (obs_bad hok (fun z => absurd z.1.2 (Int32.not_le.mpr h_48))).symm | exact (obs_bad hok (fun z => z.2 h_53)).symm))
    · refine V_iload_n (i := 1) rfl rfl dX3_obstacle_51 rfl ?_
      refine V_iload_n (i := 3) rfl rfl dX3_obstacle_52 rfl ?_
      refine V_icmp_ne (tgt := 59) dX3_obstacle_53 (by decide) rfl (fun h_53 => ?_) (fun h_53 => ?_)
      · refine V_aload (i := 6) rfl dX3_obstacle_59 rfl ?_
        refine V_call (n := 0) (sp_Piece_isInRace l g hb1) o_X2_isInRace m_X3_85 ⟨by decide, by decide⟩ (by assumption) rfl rfl (by first | exact Nat.le_of_ble_eq_true rfl | simp [Value.category]) (Nat.le_refl _) (Nat.le_refl _) rfl dX3_obstacle_61 rfl (kI ?_)
        rw [hR.p2 hb]
        refine V_if_ne (tgt := 69) dX3_obstacle_64 (by decide) rfl (fun h_64 => ?_) (fun h_64 => ?_)
        · refine V_aload (i := 7) rfl dX3_obstacle_69 rfl ?_
          refine V_get (kf := 1) C0 (by decide) l_X3_154 (by assumption) rfl dX3_obstacle_71 rfl ?_
          rw [hR.b hp hk16 hk hbt (f := 1) (by decide)]
          refine V_aload_n (i := 0) rfl rfl dX3_obstacle_74 rfl ?_
          refine V_get (kf := 4) C3 (by decide) l_X3_32 (by assumption) rfl dX3_obstacle_75 rfl ?_
          rw [hR.r4]
          refine V_icmp_lt (tgt := 83) dX3_obstacle_78 (by decide) rfl (fun h_78 => ?_) (fun h_78 => ?_)
          · refine V_aload (i := 7) rfl dX3_obstacle_83 rfl ?_
            refine V_iload_n (i := 3) rfl rfl dX3_obstacle_85 rfl ?_
            refine V_call (n := 1) (sp_Bite_wasHeldBy l g hat (nI b)) o_X0_wasHeldBy m_X3_157 ⟨by decide, by decide⟩ (by assumption) rfl rfl (by first | exact Nat.le_of_ble_eq_true rfl | simp [Value.category]) (Nat.le_refl _) (Nat.le_refl _) rfl dX3_obstacle_86 rfl (kI ?_)
            rw [hR.b hp hk16 hk hbt (f := 3) (by decide)]
            refine V_if_eq (tgt := 94) dX3_obstacle_89 (by decide) rfl (fun h_89 => ?_) (fun h_89 => ?_)
            · refine V_aload (i := 5) rfl dX3_obstacle_94 rfl ?_
              refine V_get (kf := 3) C2 (by decide) l_X3_94 (by assumption) rfl dX3_obstacle_96 rfl ?_
              rw [hR.p3 hp]
              refine V_iload (i := 4) rfl dX3_obstacle_99 rfl ?_
              refine V_isub dX3_obstacle_101 rfl ?_
              refine V_iconst (v := 0) (by decide) dX3_obstacle_102 rfl ?_
              refine V_aload_n (i := 0) rfl rfl dX3_obstacle_103 rfl ?_
              refine V_get (kf := 3) C3 (by decide) l_X3_29 (by assumption) rfl dX3_obstacle_104 rfl ?_
              rw [hR.r3]
              refine V_isub dX3_obstacle_107 rfl ?_
              refine V_icmp_ge (tgt := 113) dX3_obstacle_108 (by decide) rfl (fun h_108 => ?_) (fun h_108 => ?_)
              · refine V_iload (i := 4) rfl dX3_obstacle_113 rfl ?_
                refine V_aload_n (i := 0) rfl rfl dX3_obstacle_115 rfl ?_
                refine V_iload_n (i := 3) rfl rfl dX3_obstacle_116 rfl ?_
                refine V_aload (i := 7) rfl dX3_obstacle_117 rfl ?_
                refine V_call (n := 2) (sp_askedBy l g hr hS hR hb hat) o_X3_askedBy m_X3_160 ⟨by decide, by decide⟩ (by assumption) rfl rfl (by first | exact Nat.le_of_ble_eq_true rfl | simp [Value.category]) (Nat.le_refl _) (Nat.le_refl _) rfl dX3_obstacle_119 rfl (kI ?_)
                rw [hR.b hp hk16 hk hbt (f := 0) (by decide)]
                refine V_icmp_ge (tgt := 129) dX3_obstacle_122 (by decide) rfl (fun h_122 => ?_) (fun h_122 => ?_)
                · refine V_iconst (v := 0) (by decide) dX3_obstacle_129 rfl ?_
                  exact V_ireturn rfl rfl dX3_obstacle_130 rfl rfl rfl (qI.of (by rw [obs_ok hp hk20 hb hok ⟨⟨Int32.not_lt.mp h_41, Int32.not_lt.mp h_48⟩, h_53⟩]; have hin := (hI.in hb).mpr (bI_nz h_64); obtain ⟨zz, hz, ez⟩ := hI.hl hp hk; unfold aRea; rw [if_neg (fun z => z hin)]; rw [if_neg (Int32.not_le.mpr h_78), if_neg (by rw [ez]; intro e; exact bI_z h_89 (by rw [ez]; exact (hold_iff zz hz b hb).mpr e)), if_neg (by rw [← Int32.zero_sub]; exact Int32.not_lt.mpr h_108)]; first | exact (if_neg (Int32.not_lt.mpr h_122)).symm | exact (if_pos (Int32.not_le.mp h_122)).symm))
                · refine V_iconst (v := 5) (by decide) dX3_obstacle_125 rfl ?_
                  refine V_goto (tgt := 130) dX3_obstacle_126 (by decide) ?_
                  exact V_ireturn rfl rfl dX3_obstacle_130 rfl rfl rfl (qI.of (by rw [obs_ok hp hk20 hb hok ⟨⟨Int32.not_lt.mp h_41, Int32.not_lt.mp h_48⟩, h_53⟩]; have hin := (hI.in hb).mpr (bI_nz h_64); obtain ⟨zz, hz, ez⟩ := hI.hl hp hk; unfold aRea; rw [if_neg (fun z => z hin)]; rw [if_neg (Int32.not_le.mpr h_78), if_neg (by rw [ez]; intro e; exact bI_z h_89 (by rw [ez]; exact (hold_iff zz hz b hb).mpr e)), if_neg (by rw [← Int32.zero_sub]; exact Int32.not_lt.mpr h_108)]; first | exact (if_neg (Int32.not_lt.mpr h_122)).symm | exact (if_pos (Int32.not_le.mp h_122)).symm))
              · refine V_iconst (v := 4) (by decide) dX3_obstacle_111 rfl ?_
                exact V_ireturn rfl rfl dX3_obstacle_112 rfl rfl rfl (qI.of (by rw [obs_ok hp hk20 hb hok ⟨⟨Int32.not_lt.mp h_41, Int32.not_lt.mp h_48⟩, h_53⟩]; have hin := (hI.in hb).mpr (bI_nz h_64); obtain ⟨zz, hz, ez⟩ := hI.hl hp hk; unfold aRea; rw [if_neg (fun z => z hin)]; rw [if_neg (Int32.not_le.mpr h_78), if_neg (by rw [ez]; intro e; exact bI_z h_89 (by rw [ez]; exact (hold_iff zz hz b hb).mpr e)), if_pos (by rw [← Int32.zero_sub]; exact Int32.not_le.mp h_108)]))
            · refine V_iconst (v := 3) (by decide) dX3_obstacle_92 rfl ?_
              exact V_ireturn rfl rfl dX3_obstacle_93 rfl rfl rfl (qI.of (by rw [obs_ok hp hk20 hb hok ⟨⟨Int32.not_lt.mp h_41, Int32.not_lt.mp h_48⟩, h_53⟩]; have hin := (hI.in hb).mpr (bI_nz h_64); obtain ⟨zz, hz, ez⟩ := hI.hl hp hk; unfold aRea; rw [if_neg (fun z => z hin)]; rw [if_neg (Int32.not_le.mpr h_78), if_pos (by rw [ez]; exact (hold_iff zz hz b hb).mp (by rw [← ez]; exact bI_nz h_89))]))
          · refine V_iconst (v := 2) (by decide) dX3_obstacle_81 rfl ?_
            exact V_ireturn rfl rfl dX3_obstacle_82 rfl rfl rfl (qI.of (by rw [obs_ok hp hk20 hb hok ⟨⟨Int32.not_lt.mp h_41, Int32.not_lt.mp h_48⟩, h_53⟩]; have hin := (hI.in hb).mpr (bI_nz h_64); obtain ⟨zz, hz, ez⟩ := hI.hl hp hk; unfold aRea; rw [if_neg (fun z => z hin)]; exact (if_pos (Int32.not_lt.mp h_78)).symm))
        · refine V_iconst (v := 1) (by decide) dX3_obstacle_67 rfl ?_
          exact V_ireturn rfl rfl dX3_obstacle_68 rfl rfl rfl (qI.of (by rw [obs_ok hp hk20 hb hok ⟨⟨Int32.not_lt.mp h_41, Int32.not_lt.mp h_48⟩, h_53⟩]; exact (if_pos (fun z => bI_z h_64 ((hI.in hb).mp z))).symm))
      · refine V_bipush (v := (-2)) (by decide) dX3_obstacle_56 rfl ?_
        exact V_ireturn rfl rfl dX3_obstacle_58 rfl rfl rfl (qI.of (by first | exact (obs_bad hok (fun z => absurd z.1.1 (Int32.not_le.mpr h_41))).symm | exact (obs_bad hok (fun z => absurd z.1.2 (Int32.not_le.mpr h_48))).symm | exact (obs_bad hok (fun z => z.2 h_53)).symm))

set_option maxHeartbeats 4000000 in
set_option maxRecDepth 100000 in
theorem sp_obstacle_no (l : Launch) (g : fw_G) {I : fw_I} {P : fw_P} {ra : Nat} {s : Nat → Int32} (hr : isRc ra) (hS : RSh P ra) (hR : RRel I P ra s) {B : Nat} (hI : Inv B s) {x y z : Int32} (hno : ¬ (aBt s x y ∧ aPl z)) (c : Int32) : Sp l g kX3_obstacle (T0 nT) [.ref (g.1 + ra), .int x, .int y, .int z, .int c] I P (T0 nT) 0 0 (qI (aWhy s x y z c) I P) := by
  have ara := at_race (nT := nT) hr
  have apc := at_pieces (nT := nT) hr
  have asn := at_snakes (nT := nT) hr
  obtain ⟨h0, h1, hpp, hpb, hbb, hinj, hsn⟩ := id hS
  refine Sp.of_V (L := [some (.ref (g.1 + ra)), some (.int x), some (.int y), some (.int z), some (.int c), none, none, none]) (by decide) (by simp [Value.category]) (Nat.le_of_ble_eq_true rfl) rfl ?_
  refine V_aload_n (i := 0) rfl rfl dX3_obstacle_0 rfl ?_
  refine V_iload_n (i := 1) rfl rfl dX3_obstacle_1 rfl ?_
  refine V_call (n := 1) (sp_pieceOf l g hr hS x) o_X3_pieceOf m_X3_35 ⟨by decide, by decide⟩ (by assumption) rfl rfl (by first | exact Nat.le_of_ble_eq_true rfl | simp [Value.category]) (Nat.le_refl _) (Nat.le_refl _) rfl dX3_obstacle_2 rfl (kR ?_)
  refine V_astore_r (i := 5) (by decide) rfl dX3_obstacle_5 rfl ?_
  refine V_aload_n (i := 0) rfl rfl dX3_obstacle_7 rfl ?_
  refine V_iload_n (i := 3) rfl rfl dX3_obstacle_8 rfl ?_
  refine V_call (n := 1) (sp_pieceOf l g hr hS z) o_X3_pieceOf m_X3_35 ⟨by decide, by decide⟩ (by assumption) rfl rfl (by first | exact Nat.le_of_ble_eq_true rfl | simp [Value.category]) (Nat.le_refl _) (Nat.le_refl _) rfl dX3_obstacle_9 rfl (kR ?_)
  refine V_astore_r (i := 6) (by decide) rfl dX3_obstacle_12 rfl ?_
  refine V_aload_n (i := 0) rfl rfl dX3_obstacle_14 rfl ?_
  refine V_iload_n (i := 1) rfl rfl dX3_obstacle_15 rfl ?_
  refine V_iload_n (i := 2) rfl rfl dX3_obstacle_16 rfl ?_
  refine V_call (n := 2) (sp_biteOf l g hr hS hR hI.mOf x y) o_X3_biteOf m_X3_150 ⟨by decide, by decide⟩ (by assumption) rfl rfl (by first | exact Nat.le_of_ble_eq_true rfl | simp [Value.category]) (Nat.le_refl _) (Nat.le_refl _) rfl dX3_obstacle_17 rfl (kR ?_)
  refine V_astore_r (i := 7) (by decide) rfl dX3_obstacle_20 rfl ?_
  refine V_aload_r (i := 5) rfl dX3_obstacle_22 rfl ?_
  refine V_ifnull (tgt := 37) dX3_obstacle_24 (by decide) rfl (fun h_24 => ?_) (fun b_24 h_24 => ?_)
  · refine V_iconst (v := (-1)) (by decide) dX3_obstacle_37 rfl ?_
    exact V_ireturn rfl rfl dX3_obstacle_38 rfl rfl rfl (qI.of (obs_no hno).symm)
  · refine V_aload_r (i := 6) rfl dX3_obstacle_27 rfl ?_
    refine V_ifnull (tgt := 37) dX3_obstacle_29 (by decide) rfl (fun h_29 => ?_) (fun b_29 h_29 => ?_)
    · refine V_iconst (v := (-1)) (by decide) dX3_obstacle_37 rfl ?_
      exact V_ireturn rfl rfl dX3_obstacle_38 rfl rfl rfl (qI.of (obs_no hno).symm)
    · refine V_aload_r (i := 7) rfl dX3_obstacle_32 rfl ?_
      refine V_ifnonnull (tgt := 39) dX3_obstacle_34 (by decide) rfl (fun b_34 h_34 => ?_) (fun h_34 => ?_)
      · obtain ⟨w, hw, rfl, -⟩ := pcR_some h_29
        exact absurd ⟨bR_some h_34, le3 hw⟩ hno
      · refine V_iconst (v := (-1)) (by decide) dX3_obstacle_37 rfl ?_
        exact V_ireturn rfl rfl dX3_obstacle_38 rfl rfl rfl (qI.of (obs_no hno).symm)

theorem sp_obstacle (l : Launch) (g : fw_G) {I : fw_I} {P : fw_P} {ra : Nat} {s : Nat → Int32} (hr : isRc ra) (hS : RSh P ra) (hR : RRel I P ra s) {B : Nat} (hI : Inv B s) (x y z c : Int32) : Sp l g kX3_obstacle (T0 nT) [.ref (g.1 + ra), .int x, .int y, .int z, .int c] I P (T0 nT) 0 0 (qI (aWhy s x y z c) I P) := by
  by_cases h : aBt s x y ∧ aPl z
  · obtain ⟨p, k, hp, rfl, hk, rfl, -⟩ := h.1.nat hI.mOk
    obtain ⟨b, hb, rfl⟩ := h.2.nat
    exact sp_obstacle_ok l g hr hS hR hI hp hk hb c
  · exact sp_obstacle_no l g hr hS hR hI h c
