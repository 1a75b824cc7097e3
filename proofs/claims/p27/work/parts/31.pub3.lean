variable {nT : Nat}
section CREL2
variable {I J : fw_I} {P : fw_P} {s t : Nat → Int32} {k : Nat} {h : Nat → Nat → Int32} {tk : Bool} {sp : Nat → Int32} {len : Nat} {tx : Nat → Int32}
/-- the trial's cells don't count -/
theorem CRel.tri (hS : CSh P) (hC : CRel I P s k h tk sp len tx) (e : ∀ b, (b < 86 ∨ 171 ≤ b) → J b = I b) : CRel J P s k h tk sp len tx := by
  obtain ⟨a1, ⟨b1, b2, b3⟩, ⟨c1, c2⟩, d1, d2, d3⟩ := hC
  refine ⟨RM (hS.r isRc_1) a1 (fun b x y => ⟨e b (by omega), rfl⟩), ⟨by rw [e 256 (by omega)]; exact b1, b2, fun i hi r hr' => ?_⟩, ⟨by rw [e 0 (by omega)]; exact c1, fun t => RM (hS.r isRc_171) (c2 t) (fun b x y => ⟨e b (by omega), rfl⟩)⟩, by rw [e 683 (by omega)]; exact d1, d2, by rw [e 684 (by omega)]; exact d3⟩
  obtain ⟨c', hc', e3⟩ := hS.2.2.1 i (by omega)
  rw [hr'] at e3
  obtain rfl := Option.some.inj e3
  exact RM (hS.r (isRc_h hc')) (b3 i hi _ hr') (fun b x y => ⟨e b (by omega), rfl⟩)
theorem CRel.save (hS : CSh P) (hC : CRel I P s k h tk sp len tx) (hJ : Rt I P 171 s J) : CRel (up2 J 0 6 1) P s k h true s len tx := by
  obtain ⟨a1, ⟨b1, b2, b3⟩, ⟨c1, c2⟩, d1, d2, d3⟩ := hC
  have e : ∀ b, b ≠ 0 → (b < 171 ∨ 256 ≤ b) → up2 J 0 6 1 b = I b := fun b h1 h2 => by rw [up2_ne _ _ _ h1]; exact hJ.2.2 b (by omega)
  refine ⟨RM (hS.r isRc_1) a1 (fun b x y => ⟨e b (by omega) (by omega), rfl⟩), ⟨by rw [e 256 (by omega) (by omega)]; exact b1, b2, fun i hi r hr' => ?_⟩, ⟨up2_same _ _ _ _, fun _ => RM (I := J) (hS.r isRc_171) ⟨hJ.1, hJ.2.1⟩ (fun b x y => ⟨up2_ne _ _ _ (by omega), rfl⟩)⟩, by rw [e 683 (by omega) (by omega)]; exact d1, d2, by rw [e 684 (by omega) (by omega)]; exact d3⟩
  obtain ⟨c', hc', e3⟩ := hS.2.2.1 i (by omega)
  rw [hr'] at e3
  obtain rfl := Option.some.inj e3
  exact RM (hS.r (isRc_h hc')) (b3 i hi _ hr') (fun b x y => ⟨e b (by omega) (by omega), rfl⟩)
/-- the text has changed -/
theorem CRel.txt (hS : CSh P) (hC : CRel I P s k h tk sp len tx) {len' : Nat} {tx' : Nat → Int32} (e : ∀ b, b < 683 → J b = I b) (e1 : J 683 1 = nI len') (e2 : len' ≤ 60) (e3 : ∀ j, j < len' → J 684 j = tx' j) : CRel J P s k h tk sp len' tx' := by
  obtain ⟨a1, ⟨b1, b2, b3⟩, ⟨c1, c2⟩, d1, d2, d3⟩ := hC
  refine ⟨RM (hS.r isRc_1) a1 (fun b x y => ⟨e b (by omega), rfl⟩), ⟨by rw [e 256 (by omega)]; exact b1, b2, fun i hi r hr' => ?_⟩, ⟨by rw [e 0 (by omega)]; exact c1, fun t => RM (hS.r isRc_171) (c2 t) (fun b x y => ⟨e b (by omega), rfl⟩)⟩, e1, e2, e3⟩
  obtain ⟨c', hc', e3⟩ := hS.2.2.1 i (by omega)
  rw [hr'] at e3
  obtain rfl := Option.some.inj e3
  exact RM (hS.r (isRc_h hc')) (b3 i hi _ hr') (fun b x y => ⟨e b (by omega), rfl⟩)
theorem CRel.add (hS : CSh P) (hC : CRel I P s k h tk sp len tx) (hl : len < 60) (c : Int32) : CRel (up2 (up2 I 684 len c) 683 1 (nI (len + 1))) P s k h tk sp (len + 1) (upd tx len c) :=
  hC.txt hS (fun b hb => by rw [up2_ne _ _ _ (by omega), up2_ne _ _ _ (by omega)]) (up2_same _ _ _ _) (by omega) (fun j hj => by
    rw [up2_ne _ _ _ (by decide), up2_at, upd_at]
    by_cases e : j = len
    · rw [if_pos ⟨rfl, e⟩, if_pos e]
    · rw [if_neg (fun z => e z.2), if_neg e]; exact hC.2.2.2.2.2 j (by omega))
theorem CRel.clr (hS : CSh P) (hC : CRel I P s k h tk sp len tx) : CRel (up2 I 683 1 0) P s k h tk sp 0 tx :=
  hC.txt hS (fun b hb => up2_ne _ _ _ (by omega)) (up2_same _ _ _ _) (by omega) (fun j hj => absurd hj (by omega))
end CREL2
theorem aPm {y : Int32} (h : 1 ≤ y ∧ y ≤ 50) : ∃ m, m ≤ 50 ∧ y = nI m := by
  obtain ⟨j, h1, h2⟩ := nI_of2 (M := 50) (n := 50) rfl (by rw [i32_lt]; have := i32_le.mp h.1; simp at this ⊢; omega) h.2
  exact ⟨j, h1, h2⟩
set_option maxHeartbeats 4000000 in
set_option maxRecDepth 100000 in
theorem sm_undo_0 (l : Launch) (g : fw_G) {I : fw_I} {P : fw_P} {s : Nat → Int32} {k : Nat} {h : Nat → Nat → Int32} {tk : Bool} {sp : Nat → Int32} {len : Nat} {tx : Nat → Int32} (hS : CSh P) (hC : CRel I P s k h tk sp len tx) {B : Nat} (hI : Inv B s) (hk : k = 0) : Sp l g kX7_undo (T0 nT) [.ref (g.1 + 0)] I P (T0 nT) 0 0 (qJ (fun r I1 P1 => r = -5 ∧ CSh P1 ∧ CRel I1 P1 s k h tk sp len tx ∧ Ff I P I1 P1)) := by
  have a0 := (at_0 (nT := nT))
  have a1 := at_race (nT := nT) isRc_1
  have a256 := (at_256 (nT := nT))
  have a683 := (at_683 (nT := nT))
  have r1 := isRc_1
  have hS1 := hS.r isRc_1
  have hR := hC.1.1
  have hv := hC.1.2
  have q0 : P 0 0 = some 1 := hS.2.2.2.2.1
  have q1 : P 0 1 = some 86 := hS.2.2.2.2.2.1
  have q2 : P 0 2 = some 171 := hS.2.2.2.2.2.2.1
  have q3 : P 0 3 = some 256 := hS.2.2.2.2.2.2.2.1
  have q4 : P 0 4 = some 683 := hS.2.2.2.2.2.2.2.2.1
  have q5 : P 0 5 = some 685 := hS.2.2.2.2.2.2.2.2.2.1
  refine Sp.of_V (L := [some (.ref (g.1 + 0))]) (by decide) (by simp [Value.category]) (Nat.le_of_ble_eq_true rfl) rfl ?_
  refine V_aload_n (i := 0) rfl rfl dX7_undo_0 rfl ?_
  refine V_getr (kf := 3) C7 (by decide) l_X7_25 (by assumption) rfl (by assumption) dX7_undo_1 rfl ?_
  refine V_aload_n (i := 0) rfl rfl dX7_undo_4 rfl ?_
  refine V_getr (kf := 0) C7 (by decide) l_X7_12 (by assumption) rfl (by assumption) dX7_undo_5 rfl ?_
  refine V_call (n := 1) (sp_bringBack_0 l g hS (by rw [hC.2.1.1, hk]; rfl)) o_X1_bringBack m_X7_132 ⟨by decide, by decide⟩ (by assumption) rfl rfl (by first | exact Nat.le_of_ble_eq_true rfl | simp [Value.category]) (Nat.le_refl _) (Nat.le_refl _) rfl dX7_undo_8 rfl (kI ?_)
  exact V_ireturn rfl rfl dX7_undo_11 rfl rfl rfl (⟨_, rfl, rfl, hS, hC, fun _ _ => ⟨rfl, rfl⟩⟩)

set_option maxHeartbeats 4000000 in
set_option maxRecDepth 100000 in
theorem sm_undo_1 (l : Launch) (g : fw_G) {I : fw_I} {P : fw_P} {s : Nat → Int32} {k : Nat} {h : Nat → Nat → Int32} {tk : Bool} {sp : Nat → Int32} {len : Nat} {tx : Nat → Int32} (hS : CSh P) (hC : CRel I P s k h tk sp len tx) {B : Nat} (hI : Inv B s) (hk : 0 < k) (hm : mOf (h (k - 1))) : Sp l g kX7_undo (T0 nT) [.ref (g.1 + 0)] I P (T0 nT) 0 0 (qJ (fun r I1 P1 => r = nI (k - 1) ∧ CSh P1 ∧ CRel I1 P1 (h (k - 1)) (k - 1) h tk sp len tx ∧ Ff I P I1 P1)) := by
  have a0 := (at_0 (nT := nT))
  have a1 := at_race (nT := nT) isRc_1
  have a256 := (at_256 (nT := nT))
  have a683 := (at_683 (nT := nT))
  have r1 := isRc_1
  have hS1 := hS.r isRc_1
  have hR := hC.1.1
  have hv := hC.1.2
  have q0 : P 0 0 = some 1 := hS.2.2.2.2.1
  have q1 : P 0 1 = some 86 := hS.2.2.2.2.2.1
  have q2 : P 0 2 = some 171 := hS.2.2.2.2.2.2.1
  have q3 : P 0 3 = some 256 := hS.2.2.2.2.2.2.2.1
  have q4 : P 0 4 = some 683 := hS.2.2.2.2.2.2.2.2.1
  have q5 : P 0 5 = some 685 := hS.2.2.2.2.2.2.2.2.2.1
  refine Sp.of_V (L := [some (.ref (g.1 + 0))]) (by decide) (by simp [Value.category]) (Nat.le_of_ble_eq_true rfl) rfl ?_
  refine V_aload_n (i := 0) rfl rfl dX7_undo_0 rfl ?_
  refine V_getr (kf := 3) C7 (by decide) l_X7_25 (by assumption) rfl (by assumption) dX7_undo_1 rfl ?_
  refine V_aload_n (i := 0) rfl rfl dX7_undo_4 rfl ?_
  refine V_getr (kf := 0) C7 (by decide) l_X7_12 (by assumption) rfl (by assumption) dX7_undo_5 rfl ?_
  refine V_call (n := 1) (sp_bringBack l g hS hC hk hm) o_X1_bringBack m_X7_132 ⟨by decide, by decide⟩ (by assumption) rfl rfl (by first | exact Nat.le_of_ble_eq_true rfl | simp [Value.category]) (Nat.le_refl _) (Nat.le_refl _) rfl dX7_undo_8 rfl (kJ ?_)
  rintro _ J P2 ⟨⟨rfl, hJ, hF⟩, hP⟩
  rw [hP] at hJ ⊢
  exact V_ireturn rfl rfl dX7_undo_11 rfl rfl rfl (⟨_, rfl, rfl, hS, hJ, fun b hb => ⟨hF b hb, rfl⟩⟩)

set_option maxHeartbeats 4000000 in
set_option maxRecDepth 100000 in
theorem lc_play (l : Launch) (g : fw_G) {k : Nat} {h : Nat → Nat → Int32} {tk : Bool} {sp : Nat → Int32} {len : Nat} {tx : Nat → Int32} {B : Nat} {m : Nat} (hm50 : m ≤ 50) (y0 : Int32) {Q : Option Value → fw_I → fw_P → Prop} : ∀ (n j : Nat) (x : Int32) (s : Nat → Int32) (I : fw_I) (P : fw_P), j + n = m → (0 ≤ x ∧ x ≤ 65535) → Inv B s → CSh P → CRel I P s k h tk sp len tx → (∀ I1 P1, CSh P1 → CRel I1 P1 (aPyF n x s).2 k h tk sp len tx → Inv B (aPyF n x s).2 → Ff I P I1 P1 → Q (some (.int (nI (j + (aPyF n x s).1)))) I1 P1) → V l g kX7_play (T0 nT) 0 0 Q (T0 nT) I P 0 0 50 [some (.ref (g.1 + 0)), some (.int y0), some (.int (nI m)), some (.int x), some (.int (nI j))] [] := by
  intro n
  induction n with
  | zero =>
    intro j x s I P hj hx hI hS hC hQ
    obtain rfl : j = m := by omega
    have a0 := (at_0 (nT := nT))
    have a1 := at_race (nT := nT) isRc_1
    have a256 := (at_256 (nT := nT))
    have a683 := (at_683 (nT := nT))
    have r1 := isRc_1
    have hS1 := hS.r isRc_1
    have hR := hC.1.1
    have hv := hC.1.2
    have q0 : P 0 0 = some 1 := hS.2.2.2.2.1
    have q1 : P 0 1 = some 86 := hS.2.2.2.2.2.1
    have q2 : P 0 2 = some 171 := hS.2.2.2.2.2.2.1
    have q3 : P 0 3 = some 256 := hS.2.2.2.2.2.2.2.1
    have q4 : P 0 4 = some 683 := hS.2.2.2.2.2.2.2.2.1
    have q5 : P 0 5 = some 685 := hS.2.2.2.2.2.2.2.2.2.1
    refine V_iload (i := 4) rfl dX7_play_50 rfl ?_
    refine V_iload_n (i := 2) rfl rfl dX7_play_52 rfl ?_
    refine V_icmp_ge (tgt := 89) dX7_play_53 (by decide) rfl (fun _ => ?_) (fun h => absurd (nI_le (Nat.le_refl _) (by omega)) h)
    refine V_iload (i := 4) rfl dX7_play_89 rfl ?_
    exact V_ireturn rfl rfl dX7_play_91 rfl rfl rfl (hQ I P hS hC hI (fun _ _ => ⟨rfl, rfl⟩))
  | succ n ih =>
    intro j x s I P hj hx hI hS hC hQ
    have a0 := (at_0 (nT := nT))
    have a1 := at_race (nT := nT) isRc_1
    have a256 := (at_256 (nT := nT))
    have a683 := (at_683 (nT := nT))
    have r1 := isRc_1
    have hS1 := hS.r isRc_1
    have hR := hC.1.1
    have hv := hC.1.2
    have q0 : P 0 0 = some 1 := hS.2.2.2.2.1
    have q1 : P 0 1 = some 86 := hS.2.2.2.2.2.1
    have q2 : P 0 2 = some 171 := hS.2.2.2.2.2.2.1
    have q3 : P 0 3 = some 256 := hS.2.2.2.2.2.2.2.1
    have q4 : P 0 4 = some 683 := hS.2.2.2.2.2.2.2.2.1
    have q5 : P 0 5 = some 685 := hS.2.2.2.2.2.2.2.2.2.1
    obtain ⟨p, hp, hs1, hh2, -⟩ := hI.2.2.2.2.2.2.2.2
    have hx2 := aDraw_in hx
    have hd := aDice_in hx2
    have hIT : ¬ s 4 = 4 → Inv B (aT s (aDice (aDraw x))) := fun h4 => by obtain ⟨d, d1, d6, e⟩ := hd.nat; rw [e]; exact Inv_T hI h4 d1 d6
    refine V_iload (i := 4) rfl dX7_play_50 rfl ?_
    refine V_iload_n (i := 2) rfl rfl dX7_play_52 rfl ?_
    refine V_icmp_ge (tgt := 89) dX7_play_53 (by decide) rfl (fun h => absurd h (nI_ge (by omega) (by omega))) (fun _ => ?_)
    refine V_aload_n (i := 0) rfl rfl dX7_play_56 rfl ?_
    refine V_getr (kf := 0) C7 (by decide) l_X7_12 (by assumption) rfl (by assumption) dX7_play_57 rfl ?_
    refine V_call (n := 0) (sp_isOverC l g r1 hS1 hR hv hI.now) o_X3_isOver m_X7_83 ⟨by decide, by decide⟩ (by assumption) rfl rfl (by first | exact Nat.le_of_ble_eq_true rfl | simp [Value.category]) (Nat.le_refl _) (Nat.le_refl _) rfl dX7_play_60 rfl (kI ?_)
    refine V_if_ne (tgt := 89) dX7_play_63 (by decide) rfl (fun h_63 => ?_) (fun h_63 => ?_)
    · refine V_iload (i := 4) rfl dX7_play_89 rfl ?_
      exact V_ireturn rfl rfl dX7_play_91 rfl rfl rfl (by have h8 := hQ I P hS (by unfold aPyF; rw [if_pos (bI_nz h_63)]; exact hC) (by unfold aPyF; rw [if_pos (bI_nz h_63)]; exact hI) (fun _ _ => ⟨rfl, rfl⟩); unfold aPyF at h8; rw [if_pos (bI_nz h_63)] at h8; exact h8)
    · refine V_iload_n (i := 3) rfl rfl dX7_play_66 rfl ?_
      refine V_callS (n := 1) (sp_drawAfter l g x) o_X7_drawAfter m_X7_94 ⟨by decide, by decide⟩ rfl rfl (by first | exact Nat.le_of_ble_eq_true rfl | simp [Value.category]) (Nat.le_refl _) (Nat.le_refl _) rfl dX7_play_67 rfl (kI ?_)
      refine V_istore_n (i := 3) rfl (by decide) rfl dX7_play_70 rfl ?_
      refine V_aload_n (i := 0) rfl rfl dX7_play_71 rfl ?_
      refine V_getr (kf := 0) C7 (by decide) l_X7_12 (by assumption) rfl (by assumption) dX7_play_72 rfl ?_
      refine V_iload_n (i := 3) rfl rfl dX7_play_75 rfl ?_
      refine V_callS (n := 1) (sp_throwOf l g (aDraw x)) o_X7_throwOf m_X7_97 ⟨by decide, by decide⟩ rfl rfl (by first | exact Nat.le_of_ble_eq_true rfl | simp [Value.category]) (Nat.le_refl _) (Nat.le_refl _) rfl dX7_play_76 rfl (kI ?_)
      refine V_call (n := 1) (sp_makeTurn l g r1 hS1 hR hI hp hs1 (bI_z h_63) (hh2 (bI_z h_63)) hv (aDice (aDraw x)) (B1 := B) (hIT (bI_z h_63))) o_X3_makeTurn m_X7_87 ⟨by decide, by decide⟩ (by assumption) rfl rfl (by first | exact Nat.le_of_ble_eq_true rfl | simp [Value.category]) (Nat.le_refl _) (Nat.le_refl _) rfl dX7_play_79 rfl (kJQ ?_)
      intro K hK
      refine V_pop (by first | rfl | (cases ‹Option Nat› <;> rfl)) dX7_play_82 rfl ?_
      refine V_iinc1 (i := 4) rfl (by decide) rfl dX7_play_83 rfl ?_
      refine V_goto (tgt := 50) dX7_play_86 (by decide) ?_
      have h9 := ih (j + 1) (aDraw x) (aT s (aDice (aDraw x))) K P (by omega) hx2 (hIT (bI_z h_63)) hS (hC.rt hS hK) (fun I1 P1 a b c d => by
        have h8 := hQ I1 P1 a (by unfold aPyF; rw [if_neg (bI_z h_63)]; exact b) (by unfold aPyF; rw [if_neg (bI_z h_63)]; exact c) (fun x hx => ⟨(d x hx).1.trans (hK.2.2 x (by omega)), (d x hx).2⟩)
        unfold aPyF at h8
        rw [if_neg (bI_z h_63), ← Nat.add_assoc, Nat.add_right_comm] at h8
        exact h8)
      rw [← nI_1] at h9
      exact h9

set_option maxHeartbeats 4000000 in
set_option maxRecDepth 100000 in
theorem sm_play (l : Launch) (g : fw_G) {I : fw_I} {P : fw_P} {s : Nat → Int32} {k : Nat} {h : Nat → Nat → Int32} {tk : Bool} {sp : Nat → Int32} {len : Nat} {tx : Nat → Int32} (hS : CSh P) (hC : CRel I P s k h tk sp len tx) {B : Nat} (hI : Inv B s) (x y : Int32) : Sp l g kX7_play (T0 nT) [.ref (g.1 + 0), .int x, .int y] I P (T0 nT) 0 0 (qJ (fun r I1 P1 => r = aPyR s x y ∧ CM I P s k h tk sp len tx (aPyOk s x y) ((aPyF y.toNatClampNeg x s).2) I1 P1)) := by
  have a0 := (at_0 (nT := nT))
  have a1 := at_race (nT := nT) isRc_1
  have a256 := (at_256 (nT := nT))
  have a683 := (at_683 (nT := nT))
  have r1 := isRc_1
  have hS1 := hS.r isRc_1
  have hR := hC.1.1
  have hv := hC.1.2
  have q0 : P 0 0 = some 1 := hS.2.2.2.2.1
  have q1 : P 0 1 = some 86 := hS.2.2.2.2.2.1
  have q2 : P 0 2 = some 171 := hS.2.2.2.2.2.2.1
  have q3 : P 0 3 = some 256 := hS.2.2.2.2.2.2.2.1
  have q4 : P 0 4 = some 683 := hS.2.2.2.2.2.2.2.2.1
  have q5 : P 0 5 = some 685 := hS.2.2.2.2.2.2.2.2.2.1
  refine Sp.of_V (L := [some (.ref (g.1 + 0)), some (.int x), some (.int y), none, none]) (by decide) (by simp [Value.category]) (Nat.le_of_ble_eq_true rfl) rfl ?_
  refine V_iload_n (i := 1) rfl rfl dX7_play_0 rfl ?_
  refine V_callS (n := 1) (sp_isDraw l g x) o_X7_isDraw m_X7_90 ⟨by decide, by decide⟩ rfl rfl (by first | exact Nat.le_of_ble_eq_true rfl | simp [Value.category]) (Nat.le_refl _) (Nat.le_refl _) rfl dX7_play_1 rfl (kI ?_)
  refine V_if_eq (tgt := 18) dX7_play_4 (by decide) rfl (fun h_4 => ?_) (fun h_4 => ?_)
  · refine V_bipush (v := (-2)) (by decide) dX7_play_18 rfl ?_
    exact V_ireturn rfl rfl dX7_play_20 rfl rfl rfl (⟨_, rfl, (by first | exact (if_pos (fun z => bI_z h_4 z.1)).symm | exact (if_pos (fun z => absurd z.2.1 (Int32.not_le.mpr h_9))).symm | exact (if_pos (fun z => h_15 z.2.2)).symm), CM.no hS hC (by first | exact fun z => bI_z h_4 z.1.1 | exact fun z => absurd z.1.2.1 (Int32.not_le.mpr h_9) | exact fun z => h_15 z.1.2.2)⟩)
  · refine V_iload_n (i := 2) rfl rfl dX7_play_7 rfl ?_
    refine V_iconst (v := 1) (by decide) dX7_play_8 rfl ?_
    refine V_icmp_lt (tgt := 18) dX7_play_9 (by decide) rfl (fun h_9 => ?_) (fun h_9 => ?_)
    · refine V_bipush (v := (-2)) (by decide) dX7_play_18 rfl ?_
      exact V_ireturn rfl rfl dX7_play_20 rfl rfl rfl (⟨_, rfl, (by first | exact (if_pos (fun z => bI_z h_4 z.1)).symm | exact (if_pos (fun z => absurd z.2.1 (Int32.not_le.mpr h_9))).symm | exact (if_pos (fun z => h_15 z.2.2)).symm), CM.no hS hC (by first | exact fun z => bI_z h_4 z.1.1 | exact fun z => absurd z.1.2.1 (Int32.not_le.mpr h_9) | exact fun z => h_15 z.1.2.2)⟩)
    · refine V_iload_n (i := 2) rfl rfl dX7_play_12 rfl ?_
      refine V_bipush (v := 50) (by decide) dX7_play_13 rfl ?_
      refine V_icmp_le (tgt := 21) dX7_play_15 (by decide) rfl (fun h_15 => ?_) (fun h_15 => ?_)
      · refine V_aload_n (i := 0) rfl rfl dX7_play_21 rfl ?_
        refine V_getr (kf := 0) C7 (by decide) l_X7_12 (by assumption) rfl (by assumption) dX7_play_22 rfl ?_
        refine V_call (n := 0) (sp_isOverC l g r1 hS1 hR hv hI.now) o_X3_isOver m_X7_83 ⟨by decide, by decide⟩ (by assumption) rfl rfl (by first | exact Nat.le_of_ble_eq_true rfl | simp [Value.category]) (Nat.le_refl _) (Nat.le_refl _) rfl dX7_play_25 rfl (kI ?_)
        refine V_if_eq (tgt := 34) dX7_play_28 (by decide) rfl (fun h_28 => ?_) (fun h_28 => ?_)
        · refine V_aload_n (i := 0) rfl rfl dX7_play_34 rfl ?_
          refine V_getr (kf := 3) C7 (by decide) l_X7_25 (by assumption) rfl (by assumption) dX7_play_35 rfl ?_
          refine V_aload_n (i := 0) rfl rfl dX7_play_38 rfl ?_
          refine V_getr (kf := 0) C7 (by decide) l_X7_12 (by assumption) rfl (by assumption) dX7_play_39 rfl ?_
          refine V_call (n := 1) (sp_remember l g hS hC hI.mOf) o_X1_remember m_X7_63 ⟨by decide, by decide⟩ (by assumption) rfl rfl (by first | exact Nat.le_of_ble_eq_true rfl | simp [Value.category]) (Nat.le_refl _) (Nat.le_refl _) rfl dX7_play_42 rfl (kV ?_)
          rintro J PJ ⟨⟨hS2, hC2⟩, hF⟩
          have hS3 := hS2.r isRc_1
          have hR2 := hC2.1.1
          have hv2 := hC2.1.2
          have w0 : PJ 0 0 = some 1 := hS2.2.2.2.2.1
          have w1 : PJ 0 1 = some 86 := hS2.2.2.2.2.2.1
          have w2 : PJ 0 2 = some 171 := hS2.2.2.2.2.2.2.1
          have w3 : PJ 0 3 = some 256 := hS2.2.2.2.2.2.2.2.1
          have w4 : PJ 0 4 = some 683 := hS2.2.2.2.2.2.2.2.2.1
          have w5 : PJ 0 5 = some 685 := hS2.2.2.2.2.2.2.2.2.2.1
          have hx := bI_nz h_4
          have hpc : aPyC x y := ⟨hx, Int32.not_lt.mp h_9, h_15⟩
          obtain ⟨m, hm50, rfl⟩ := aPm hpc.2
          have hcm : (nI m).toNatClampNeg = m := nI_clamp (by omega)
          refine V_iload_n (i := 1) rfl rfl dX7_play_45 rfl ?_
          refine V_istore_n (i := 3) rfl (by decide) rfl dX7_play_46 rfl ?_
          refine V_iconst (v := 0) (by decide) dX7_play_47 rfl ?_
          refine V_istore (i := 4) (by decide) rfl dX7_play_48 rfl ?_
          refine lc_play l g hm50 x m 0 x s J PJ (by omega) hx hI hS2 hC2 (fun I1 P1 a b c d => ⟨_, rfl, ?_, a, Or.inl ⟨⟨hpc, bI_z h_28⟩, by rw [hcm]; exact b⟩, fun z hz => ⟨(d z hz).1.trans (hF z hz).1, (d z hz).2.trans (hF z hz).2⟩⟩)
          unfold aPyR
          rw [if_neg (fun z => z hpc), if_neg (bI_z h_28), hcm, Nat.zero_add]
        · refine V_bipush (v := (-4)) (by decide) dX7_play_31 rfl ?_
          exact V_ireturn rfl rfl dX7_play_33 rfl rfl rfl (⟨_, rfl, (by unfold aPyR; rw [if_neg (fun z => z ⟨bI_nz h_4, Int32.not_lt.mp h_9, h_15⟩), if_pos (bI_nz h_28)]), CM.no hS hC (fun z => z.2 (bI_nz h_28))⟩)
      · refine V_bipush (v := (-2)) (by decide) dX7_play_18 rfl ?_
        exact V_ireturn rfl rfl dX7_play_20 rfl rfl rfl (⟨_, rfl, (by first | exact (if_pos (fun z => bI_z h_4 z.1)).symm | exact (if_pos (fun z => absurd z.2.1 (Int32.not_le.mpr h_9))).symm | exact (if_pos (fun z => h_15 z.2.2)).symm), CM.no hS hC (by first | exact fun z => bI_z h_4 z.1.1 | exact fun z => absurd z.1.2.1 (Int32.not_le.mpr h_9) | exact fun z => h_15 z.1.2.2)⟩)

set_option maxHeartbeats 4000000 in
set_option maxRecDepth 100000 in
theorem lc_next (l : Launch) (g : fw_G) {P : fw_P} {B : Nat} (hS : CSh P) (y0 : Int32) {Q : Option Value → fw_I → fw_P → Prop} : ∀ (n j : Nat) (x : Int32) (s : Nat → Int32) (I : fw_I), j + n = 200 → (0 ≤ x ∧ x ≤ 65535) → Inv B s → ¬ s 4 = 4 → RRel I P 86 s → Mv I 86 s → (∀ I1, (∀ b, (b < 86 ∨ 171 ≤ b) → I1 b = I b) → Q (some (.int (aNxF n x s))) I1 P) → V l g kX7_nextHome (T0 nT) 0 0 Q (T0 nT) I P 0 0 38 [some (.ref (g.1 + 0)), some (.int y0), some (.int x), some (.int (nI j)), none] [] := by
  have a0 := (at_0 (nT := nT))
  have a86 := at_race (nT := nT) isRc_86
  have q1 : P 0 1 = some 86 := hS.2.2.2.2.2.1
  have hS8 := hS.r isRc_86
  intro n
  induction n with
  | zero =>
    intro j x s I hj hx hI h4 hR hv hQ
    obtain rfl : j = 200 := by omega
    refine V_iload_n (i := 3) rfl rfl dX7_nextHome_38 rfl ?_
    refine V_sipush (v := 200) (by decide) dX7_nextHome_39 rfl ?_
    refine V_icmp_ge (tgt := 84) dX7_nextHome_42 (by decide) rfl (fun _ => ?_) (fun h => absurd (by decide) h)
    refine V_bipush (v := (-5)) (by decide) dX7_nextHome_84 rfl ?_
    exact V_ireturn rfl rfl dX7_nextHome_86 rfl rfl rfl (hQ I (fun _ _ => rfl))
  | succ n ih =>
    intro j x s I hj hx hI h4 hR hv hQ
    have hjn : j < 200 := by omega
    obtain ⟨p, hp, hs1, hh2, -⟩ := hI.2.2.2.2.2.2.2.2
    have hx2 := aDraw_in hx
    have hd := aDice_in hx2
    have hIT : Inv B (aT s (aDice (aDraw x))) := by obtain ⟨d, d1, d6, e⟩ := hd.nat; rw [e]; exact Inv_T hI h4 d1 d6
    have h5 : I 86 5 = s 1 := by rw [show I 86 5 = _ from hv, if_neg h4]
    refine V_iload_n (i := 3) rfl rfl dX7_nextHome_38 rfl ?_
    refine V_sipush (v := 200) (by decide) dX7_nextHome_39 rfl ?_
    refine V_icmp_ge (tgt := 84) dX7_nextHome_42 (by decide) rfl (fun h => absurd h (nI_ge (b := 200) hjn (by decide))) (fun _ => ?_)
    refine V_aload_n (i := 0) rfl rfl dX7_nextHome_45 rfl ?_
    refine V_getr (kf := 1) C7 (by decide) l_X7_16 (by assumption) rfl (by assumption) dX7_nextHome_46 rfl ?_
    refine V_get (kf := 5) C3 (by decide) l_X7_204 (by assumption) rfl dX7_nextHome_49 rfl ?_
    rw [h5]
    refine V_istore (i := 4) (by decide) rfl dX7_nextHome_52 rfl ?_
    refine V_iload_n (i := 2) rfl rfl dX7_nextHome_54 rfl ?_
    refine V_callS (n := 1) (sp_drawAfter l g x) o_X7_drawAfter m_X7_94 ⟨by decide, by decide⟩ rfl rfl (by first | exact Nat.le_of_ble_eq_true rfl | simp [Value.category]) (Nat.le_refl _) (Nat.le_refl _) rfl dX7_nextHome_55 rfl (kI ?_)
    refine V_istore_n (i := 2) rfl (by decide) rfl dX7_nextHome_58 rfl ?_
    refine V_aload_n (i := 0) rfl rfl dX7_nextHome_59 rfl ?_
    refine V_getr (kf := 1) C7 (by decide) l_X7_16 (by assumption) rfl (by assumption) dX7_nextHome_60 rfl ?_
    refine V_iload_n (i := 2) rfl rfl dX7_nextHome_63 rfl ?_
    refine V_callS (n := 1) (sp_throwOf l g (aDraw x)) o_X7_throwOf m_X7_97 ⟨by decide, by decide⟩ rfl rfl (by first | exact Nat.le_of_ble_eq_true rfl | simp [Value.category]) (Nat.le_refl _) (Nat.le_refl _) rfl dX7_nextHome_64 rfl (kI ?_)
    refine V_call (n := 1) (sp_makeTurn l g isRc_86 hS8 hR hI hp hs1 h4 (hh2 h4) hv (aDice (aDraw x)) (B1 := B) hIT) o_X3_makeTurn m_X7_87 ⟨by decide, by decide⟩ (by assumption) rfl rfl (by first | exact Nat.le_of_ble_eq_true rfl | simp [Value.category]) (Nat.le_refl _) (Nat.le_refl _) rfl dX7_nextHome_67 rfl (kJQ ?_)
    intro K hK
    refine V_bipush (v := 60) (by decide) dX7_nextHome_70 rfl ?_
    refine V_icmp_ne (tgt := 78) dX7_nextHome_72 (by decide) rfl (fun h_72 => ?_) (fun h_72 => ?_)
    · refine V_iinc1 (i := 3) rfl (by decide) rfl dX7_nextHome_78 rfl ?_
      refine V_goto (tgt := 38) dX7_nextHome_81 (by decide) ?_
      refine V_forget 4 rfl ?_
      have h9 := ih (j + 1) (aDraw x) (aT s (aDice (aDraw x))) K (by omega) hx2 hIT (by rw [aT_4 s _ h_72]; exact h4) hK.1 hK.2.1 (fun I1 e => by
        have h8 := hQ I1 (fun b hb => (e b hb).trans (hK.2.2 b (by omega)))
        unfold aNxF at h8
        rw [if_neg h_72] at h8
        exact h8)
      rw [← nI_1] at h9
      exact h9
    · refine V_iload (i := 4) rfl dX7_nextHome_75 rfl ?_
      exact V_ireturn rfl rfl dX7_nextHome_77 rfl rfl rfl (by have h8 := hQ K (fun b hb => hK.2.2 b (by omega)); unfold aNxF at h8; rw [if_pos h_72] at h8; exact h8)

set_option maxHeartbeats 4000000 in
set_option maxRecDepth 100000 in
theorem sm_nextHome (l : Launch) (g : fw_G) {I : fw_I} {P : fw_P} {s : Nat → Int32} {k : Nat} {h : Nat → Nat → Int32} {tk : Bool} {sp : Nat → Int32} {len : Nat} {tx : Nat → Int32} (hS : CSh P) (hC : CRel I P s k h tk sp len tx) {B : Nat} (hI : Inv B s) (x : Int32) : Sp l g kX7_nextHome (T0 nT) [.ref (g.1 + 0), .int x] I P (T0 nT) 0 0 (qJ (fun r I1 P1 => r = aNxR s x ∧ CSh P1 ∧ CRel I1 P1 s k h tk sp len tx ∧ Ff I P I1 P1)) := by
  have a0 := (at_0 (nT := nT))
  have a1 := at_race (nT := nT) isRc_1
  have a256 := (at_256 (nT := nT))
  have a683 := (at_683 (nT := nT))
  have r1 := isRc_1
  have hS1 := hS.r isRc_1
  have hR := hC.1.1
  have hv := hC.1.2
  have q0 : P 0 0 = some 1 := hS.2.2.2.2.1
  have q1 : P 0 1 = some 86 := hS.2.2.2.2.2.1
  have q2 : P 0 2 = some 171 := hS.2.2.2.2.2.2.1
  have q3 : P 0 3 = some 256 := hS.2.2.2.2.2.2.2.1
  have q4 : P 0 4 = some 683 := hS.2.2.2.2.2.2.2.2.1
  have q5 : P 0 5 = some 685 := hS.2.2.2.2.2.2.2.2.2.1
  have a86 := at_race (nT := nT) isRc_86
  refine Sp.of_V (L := [some (.ref (g.1 + 0)), some (.int x), none, none, none]) (by decide) (by simp [Value.category]) (Nat.le_of_ble_eq_true rfl) rfl ?_
  refine V_iload_n (i := 1) rfl rfl dX7_nextHome_0 rfl ?_
  refine V_callS (n := 1) (sp_isDraw l g x) o_X7_isDraw m_X7_90 ⟨by decide, by decide⟩ rfl rfl (by first | exact Nat.le_of_ble_eq_true rfl | simp [Value.category]) (Nat.le_refl _) (Nat.le_refl _) rfl dX7_nextHome_1 rfl (kI ?_)
  refine V_if_ne (tgt := 10) dX7_nextHome_4 (by decide) rfl (fun h_4 => ?_) (fun h_4 => ?_)
  · refine V_aload_n (i := 0) rfl rfl dX7_nextHome_10 rfl ?_
    refine V_getr (kf := 0) C7 (by decide) l_X7_12 (by assumption) rfl (by assumption) dX7_nextHome_11 rfl ?_
    refine V_call (n := 0) (sp_isOverC l g r1 hS1 hR hv hI.now) o_X3_isOver m_X7_83 ⟨by decide, by decide⟩ (by assumption) rfl rfl (by first | exact Nat.le_of_ble_eq_true rfl | simp [Value.category]) (Nat.le_refl _) (Nat.le_refl _) rfl dX7_nextHome_14 rfl (kI ?_)
    refine V_if_eq (tgt := 23) dX7_nextHome_17 (by decide) rfl (fun h_17 => ?_) (fun h_17 => ?_)
    · refine V_aload_n (i := 0) rfl rfl dX7_nextHome_23 rfl ?_
      refine V_getr (kf := 1) C7 (by decide) l_X7_16 (by assumption) rfl (by assumption) dX7_nextHome_24 rfl ?_
      refine V_aload_n (i := 0) rfl rfl dX7_nextHome_27 rfl ?_
      refine V_getr (kf := 0) C7 (by decide) l_X7_12 (by assumption) rfl (by assumption) dX7_nextHome_28 rfl ?_
      refine V_call (n := 1) (sp_copyFrom l g isRc_86 r1 (by omega) (hS.r isRc_86) hS1 hR hI.mOf hv) o_X3_copyFrom m_X7_135 ⟨by decide, by decide⟩ (by assumption) rfl rfl (by first | exact Nat.le_of_ble_eq_true rfl | simp [Value.category]) (Nat.le_refl _) (Nat.le_refl _) rfl dX7_nextHome_31 rfl (kQ ?_)
      intro J hJ
      refine V_iload_n (i := 1) rfl rfl dX7_nextHome_34 rfl ?_
      refine V_istore_n (i := 2) rfl (by decide) rfl dX7_nextHome_35 rfl ?_
      refine V_iconst (v := 0) (by decide) dX7_nextHome_36 rfl ?_
      refine V_istore_n (i := 3) rfl (by decide) rfl dX7_nextHome_37 rfl ?_
      refine lc_next l g hS x 200 0 x s J rfl (bI_nz h_4) hI (bI_z h_17) hJ.1 hJ.2.1 (fun I1 e => ⟨_, rfl, ?_, hS, hC.tri hS (fun b hb => (e b hb).trans (hJ.2.2 b (by omega))), fun b hb => ⟨(e b (by omega)).trans (hJ.2.2 b (by omega)), rfl⟩⟩)
      unfold aNxR
      rw [if_neg (fun z => z (bI_nz h_4)), if_neg (bI_z h_17)]
    · refine V_bipush (v := (-4)) (by decide) dX7_nextHome_20 rfl ?_
      exact V_ireturn rfl rfl dX7_nextHome_22 rfl rfl rfl (⟨_, rfl, (by unfold aNxR; rw [if_neg (fun z => z (bI_nz h_4)), if_pos (bI_nz h_17)]), hS, hC, fun _ _ => ⟨rfl, rfl⟩⟩)
  · refine V_bipush (v := (-2)) (by decide) dX7_nextHome_7 rfl ?_
    exact V_ireturn rfl rfl dX7_nextHome_9 rfl rfl rfl (⟨_, rfl, (if_pos (bI_z h_4)).symm, hS, hC, fun _ _ => ⟨rfl, rfl⟩⟩)
