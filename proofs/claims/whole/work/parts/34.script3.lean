theorem aRea_5 (s : Nat → Int32) (p k b : Nat) (c : Int32) : aRea s p k b c = 0 ∨ aRea s p k b c = 1 ∨ aRea s p k b c = 2 ∨ aRea s p k b c = 3 ∨ aRea s p k b c = 4 ∨ aRea s p k b c = 5 := by
  unfold aRea
  repeat' split
  all_goals decide
theorem sel_lt {s : Nat → Int32} {x y z c : Int32} (h : ¬ aSelOk s x y z c) : aSelR s x y z c < 0 := by
  unfold aSelR
  rcases aSeE_cases s x y z c with ⟨e, -⟩ | ⟨e, -⟩
  · rw [if_pos e]; exact e
  · rw [e, if_neg (by decide)]
    rcases aRea_5 s x.toNatClampNeg y.toNatClampNeg z.toNatClampNeg c with r | r | r | r | r | r
    · exact absurd ⟨e, r⟩ h
    all_goals (rw [r, if_pos (by decide)]; decide)
theorem Inv_sel {B : Nat} {s : Nat → Int32} (hI : Inv B s) (x y z c : Int32) : Inv B (selF s x y z c) := by
  unfold selF
  by_cases h : aSelOk s x y z c
  · rw [if_pos h]
    obtain ⟨hse, hre⟩ := id h
    obtain ⟨-, ⟨hbt, hpl⟩, hcc, hxz⟩ := (aSeE_cases s x y z c).elim (fun w => absurd w.1 (by rw [hse]; decide)) id
    obtain ⟨p, k2, hp, rfl, hk2, rfl, hk20⟩ := aBt.nat hI.mOk hbt
    obtain ⟨b, hb, rfl⟩ := hpl.nat
    have hcp : (nI p).toNatClampNeg = p := nI_clamp (by omega)
    have hck : (nI k2).toNatClampNeg = k2 := nI_clamp (by omega)
    have hcb : (nI b).toNatClampNeg = b := nI_clamp (by omega)
    unfold aSelF
    rw [hcp, hck, hcb] at hre ⊢
    exact Inv_S hI hp hk2 hb (fun e => hxz (by rw [e])) hre
  · rw [if_neg h]; exact hI
theorem n4041 {x lo hi : Int32} (h : lo ≤ x ∧ x ≤ hi) (hh : (41 : Int32) < lo ∨ hi < 40) : ¬ x = 40 ∧ ¬ x = 41 := by
  constructor
  all_goals
    intro e
    rw [e] at h
    rcases hh with q | q
  · exact absurd (Int32.lt_of_lt_of_le q h.1) (by decide)
  · exact absurd (Int32.lt_of_le_of_lt h.2 q) (by decide)
  · exact absurd (Int32.lt_of_lt_of_le q h.1) (by decide)
  · exact absurd (Int32.lt_of_le_of_lt h.2 q) (by decide)
theorem btw_eq {x a : Int32} (h : a ≤ x ∧ x ≤ a) : x = a := by
  have h1 := i32_le.mp h.1
  have h2 := i32_le.mp h.2
  exact Int32.toInt_inj.mp (Int.le_antisymm h2 h1)
theorem Ff.trans {I J K : fw_I} {P Q R : fw_P} (h : Ff I P J Q) (h2 : Ff J Q K R) : Ff I P K R := fun b hb => ⟨(h2 b hb).1.trans (h b hb).1, (h2 b hb).2.trans (h b hb).2⟩
theorem rnF_n {tx : Nat → Int32} {ln n pl k : Nat} {s : Nat → Int32} (h : ¬ dsB tx ln pl s = true) : rnF tx ln (n + 1) pl k s = (k, dsF tx ln pl s) := by
  show (if dsB tx ln pl s = true then _ else _) = _
  rw [if_neg h]
theorem rnF_e {tx : Nat → Int32} {ln n pl k : Nat} {s : Nat → Int32} (h : dsB tx ln pl s = true) (he : odN tx ln pl = ln) : rnF tx ln (n + 1) pl k s = (k + 1, dsF tx ln pl s) := by
  show (if dsB tx ln pl s = true then (if odN tx ln pl = ln then _ else _) else _) = _
  rw [if_pos h, if_pos he]
theorem rnF_s {tx : Nat → Int32} {ln n pl k : Nat} {s : Nat → Int32} (h : dsB tx ln pl s = true) (he : ¬ odN tx ln pl = ln) : rnF tx ln (n + 1) pl k s = rnF tx ln n (odN tx ln pl) (k + 1) (dsF tx ln pl s) := by
  show (if dsB tx ln pl s = true then (if odN tx ln pl = ln then _ else _) else _) = _
  rw [if_pos h, if_neg he]
theorem ds_N {tx : Nat → Int32} {ln pl : Nat} {s : Nat → Int32} (hN : isN tx ln pl 49 54) : (dsB tx ln pl s = true ↔ ¬ s 4 = 4) ∧ dsF tx ln pl s = (if s 4 = 4 then s else aT s (tx pl - 48)) := by
  unfold dsB dsF
  rw [if_pos hN, if_pos hN]
  exact ⟨by simp, rfl⟩
theorem ds_T {tx : Nat → Int32} {ln pl : Nat} {s : Nat → Int32} (hN : ¬ isN tx ln pl 49 54) : (dsB tx ln pl s = true ↔ ¬ aSelR s (tx (pl + 1) - 48) (tx (pl + 2) - 97) (tx (pl + 4) - 48) (coin tx ln (pl + 6)) < 0) ∧ dsF tx ln pl s = selF s (tx (pl + 1) - 48) (tx (pl + 2) - 97) (tx (pl + 4) - 48) (coin tx ln (pl + 6)) := by
  unfold dsB dsF selF
  rw [if_neg hN, if_neg hN]
  refine ⟨?_, rfl⟩
  rw [decide_eq_true_iff]
  exact ⟨fun h => Int32.not_lt.mpr h.2, fun h => ⟨Decidable.not_not.mp (fun q => h (sel_lt q)), Int32.not_lt.mp h⟩⟩
set_option maxHeartbeats 4000000 in
set_option maxRecDepth 100000 in
theorem lc_carry (l : Launch) (g : fw_G) {k : Nat} {h : Nat → Nat → Int32} {tk : Bool} {sp : Nat → Int32} {len : Nat} {tx : Nat → Int32} {B : Nat} {Q : Option Value → fw_I → fw_P → Prop} : ∀ (n pl kk : Nat) (s : Nat → Int32) (I : fw_I) (P : fw_P), fau tx len n pl = none → Inv B s → CSh P → CRel I P s k h tk sp len tx → (∀ I1 P1, CSh P1 → CRel I1 P1 (rnF tx len n pl kk s).2 k h tk sp len tx → Ff I P I1 P1 → Q (some (.int (nI (rnF tx len n pl kk s).1))) I1 P1) → V l g kX4_carryOut T0 0 0 Q T0 I P 0 0 8 [some (.ref (g.1 + 683)), some (.ref (g.1 + 1)), some (.int (nI kk)), some (.int (-5)), some (.int (nI pl)), none, none] [] := by
  intro n
  induction n with
  | zero => intro pl kk s I P hf; cases hf
  | succ n ih =>
    intro pl kk s I P hf hI hS hC hQ
    have hl := hC.2.2.2.2.1
    have hod := fau_od hf
    have hle := odN_le hod
    have go : dsB tx len pl s = true → ∀ I1 P1, CSh P1 → CRel I1 P1 (dsF tx len pl s) k h tk sp len tx → Inv B (dsF tx len pl s) → Ff I P I1 P1 → V l g kX4_carryOut T0 0 0 Q T0 I1 P1 0 0 8 [some (.ref (g.1 + 683)), some (.ref (g.1 + 1)), some (.int (nI (kk + 1))), some (.int (-5)), some (.int (nI (odN tx len pl))), none, none] [] := by
      intro hd I1 P1 hS1 hC1 hI1 hF
      by_cases he : odN tx len pl = len
      · rw [rnF_e hd he] at hQ
        rw [he]
        exact vc_end l g (B := B) hS1 hC1 (kk + 1) (hQ I1 P1 hS1 hC1 hF)
      · rw [rnF_s hd he] at hQ
        exact ih (odN tx len pl) (kk + 1) (dsF tx len pl s) I1 P1 (fau_nx hf hod he) hI1 hS1 hC1 (fun I2 P2 a b c => hQ I2 P2 a b (hF.trans c))
    by_cases hN : isN tx len pl 49 54
    · obtain ⟨c, c1, c2, ec⟩ := i32_btw 49 54 (by decide) hN.2 (by decide)
      have h40 : ¬ tx pl = 40 := fun q => by rw [q] at ec; have := nI_inj (a := 40) (by decide) (by omega) ec; omega
      have ed : tx pl - 48 = nI (c - 48) := by rw [ec]; exact nI_sub (b := 48) (by omega)
      obtain ⟨d1, d2⟩ := ds_N (s := s) hN
      have hoN : odN tx len pl = pl + 1 := if_pos hN
      by_cases h4 : s 4 = 4
      · rw [rnF_n (fun q => d1.mp q h4), d2, if_pos h4] at hQ
        exact vc_over l g (B := B) hS hC kk hN.1 h40 h4 (hQ I P hS hC (fun _ _ => ⟨rfl, rfl⟩))
      · rw [d2, if_neg h4, ed, hoN] at go
        refine vc_turn l g hS hC hI kk hN.1 h40 ed (by omega) (by omega) h4 (fun I1 P1 a b c => go (d1.mpr h4) I1 P1 a b ?_ c)
        exact Inv_T hI h4 (by omega) (by omega)
    · have ht := hod.elim (fun q => absurd q hN) id
      obtain ⟨t0, t1, t2, t3, t4, t5, t6, t7⟩ := ht
      obtain ⟨d1, d2⟩ := ds_T (s := s) hN
      have hoN : odN tx len pl = cpl tx len (pl + 6) + 1 := if_neg hN
      have hc6 : cpl tx len (pl + 6) = pl + 7 ∨ (cpl tx len (pl + 6) = pl + 8 ∧ isN tx len (pl + 7) 48 57) := by
        unfold cpl
        by_cases q : cpC tx len (pl + 6)
        · rw [if_pos q]; exact Or.inr ⟨rfl, q.2⟩
        · rw [if_neg q]; exact Or.inl rfl
      rw [d2, hoN] at go
      refine vc_open l g (B := B) hS hC kk t0.1 (btw_eq t0.2) ?_
      refine vc_skip l g (B := B) hS hC kk (o := pl) (e := cpl tx len (pl + 6)) (by omega) (by omega) ?_ (cpl tx len (pl + 6) - (pl + 1)) (pl + 1) (by omega) (fun j j1 j2 => ?_)
      · refine vc_close l g hS hC hI kk t7.1 (by omega) (btw_eq t7.2) rfl rfl rfl (coF_coin tx len (pl + 6)) (fun hn I1 P1 a b c => ?_) (fun hy I1 P1 a b c => go (d1.mpr hy) I1 P1 a b (Inv_sel hI _ _ _ _) c)
        rw [rnF_n (fun q => d1.mp q hn), d2] at hQ
        exact hQ I1 P1 a b c
      · rcases (show j = pl + 1 ∨ j = pl + 2 ∨ j = pl + 3 ∨ j = pl + 4 ∨ j = pl + 5 ∨ j = pl + 6 ∨ j = pl + 7 by omega) with rfl | rfl | rfl | rfl | rfl | rfl | rfl
        · exact n4041 t1.2 (Or.inl (by decide))
        · exact n4041 t2.2 (Or.inl (by decide))
        · exact n4041 t3.2 (Or.inl (by decide))
        · exact n4041 t4.2 (Or.inl (by decide))
        · exact n4041 t5.2 (Or.inr (by decide))
        · exact n4041 t6.2 (Or.inl (by decide))
        · rcases hc6 with q | q
          · omega
          · exact n4041 q.2.2 (Or.inl (by decide))

set_option maxHeartbeats 4000000 in
set_option maxRecDepth 100000 in
theorem sp_carryOut (l : Launch) (g : fw_G) {I : fw_I} {P : fw_P} {s : Nat → Int32} {k : Nat} {h : Nat → Nat → Int32} {tk : Bool} {sp : Nat → Int32} {len : Nat} {tx : Nat → Int32} (hS : CSh P) (hC : CRel I P s k h tk sp len tx) {B : Nat} (hI : Inv B s) (hf : fau tx len (len + 1) 0 = none) : Sp l g kX4_carryOut T0 [.ref (g.1 + 683), .ref (g.1 + 1)] I P T0 0 0 (qJ (fun r I1 P1 => r = nI (rnF tx len (len + 1) 0 0 s).1 ∧ CSh P1 ∧ CRel I1 P1 (rnF tx len (len + 1) 0 0 s).2 k h tk sp len tx ∧ Ff I P I1 P1)) := by
  refine Sp.of_V (L := [some (.ref (g.1 + 683)), some (.ref (g.1 + 1)), none, none, none, none, none]) (by decide) (by simp [Value.category]) (Nat.le_of_ble_eq_true rfl) rfl ?_
  refine V_iconst (v := 0) (by decide) dX4_carryOut_0 rfl ?_
  refine V_istore_n (i := 2) rfl (by decide) rfl dX4_carryOut_1 rfl ?_
  refine V_bipush (v := (-5)) (by decide) dX4_carryOut_2 rfl ?_
  refine V_istore_n (i := 3) rfl (by decide) rfl dX4_carryOut_4 rfl ?_
  refine V_iconst (v := 0) (by decide) dX4_carryOut_5 rfl ?_
  refine V_istore (i := 4) (by decide) rfl dX4_carryOut_6 rfl ?_
  exact lc_carry l g (len + 1) 0 0 s I P hf hI hS hC (fun I1 P1 a b c => ⟨_, rfl, rfl, a, b, c⟩)

set_option maxHeartbeats 4000000 in
set_option maxRecDepth 100000 in
theorem sm_run (l : Launch) (g : fw_G) {I : fw_I} {P : fw_P} {s : Nat → Int32} {k : Nat} {h : Nat → Nat → Int32} {tk : Bool} {sp : Nat → Int32} {len : Nat} {tx : Nat → Int32} (hS : CSh P) (hC : CRel I P s k h tk sp len tx) {B : Nat} (hI : Inv B s)  : Sp l g kX7_run T0 [.ref (g.1 + 0)] I P T0 0 0 (qJ (fun r I1 P1 => r = runR tx len s ∧ CM I P s k h tk sp len tx (fau tx len (len + 1) 0 = none) ((rnF tx len (len + 1) 0 0 s).2) I1 P1)) := by
  have a0 := at_0
  have a1 := at_race isRc_1
  have a256 := at_256
  have a683 := at_683
  have r1 := isRc_1
  have hS1 := hS.r isRc_1
  have hR := hC.1.1
  have hv := hC.1.2
  have q0 : P 0 0 = some 1 := hS.2.2.2.2.1
  have q1 : P 0 1 = some 86 := hS.2.2.2.2.2.1
  have q2 : P 0 2 = some 171 := hS.2.2.2.2.2.2.1
  have q3 : P 0 3 = some 256 := hS.2.2.2.2.2.2.2.1
  have q4 : P 0 4 = some 683 := hS.2.2.2.2.2.2.2.2.1
  have q5 : P 0 5 = some 685 := hS.2.2.2.2.2.2.2.2.2.1
  refine Sp.of_V (L := [some (.ref (g.1 + 0)), none]) (by decide) (by simp [Value.category]) (Nat.le_of_ble_eq_true rfl) rfl ?_
  refine V_aload_n (i := 0) rfl rfl dX7_run_0 rfl ?_
  refine V_getr (kf := 4) C7 (by decide) l_X7_32 (by assumption) rfl (by assumption) dX7_run_1 rfl ?_
  refine V_call (n := 0) (sp_firstFault l g hS hC) o_X4_firstFault m_X7_125 ⟨by decide, by decide⟩ (by assumption) rfl rfl (by first | exact Nat.le_of_ble_eq_true rfl | simp [Value.category]) (Nat.le_refl _) (Nat.le_refl _) rfl dX7_run_4 rfl (kI ?_)
  refine V_istore_n (i := 1) rfl (by decide) rfl dX7_run_7 rfl ?_
  refine V_iload_n (i := 1) rfl rfl dX7_run_8 rfl ?_
  refine V_bipush (v := (-5)) (by decide) dX7_run_9 rfl ?_
  refine V_icmp_eq (tgt := 19) dX7_run_11 (by decide) rfl (fun h_11 => ?_) (fun h_11 => ?_)
  · have hfn : fau tx len (len + 1) 0 = none := by
      cases hz : fau tx len (len + 1) 0 with
      | none => rfl
      | some f =>
        obtain ⟨e1, e2⟩ := (ff_eq tx len hC.2.2.2.2.1).2 f hz
        rw [e1] at h_11
        exact absurd h_11 (nI_n5 f (by have := hC.2.2.2.2.1; omega))
    refine V_aload_n (i := 0) rfl rfl dX7_run_19 rfl ?_
    refine V_getr (kf := 3) C7 (by decide) l_X7_25 (by assumption) rfl (by assumption) dX7_run_20 rfl ?_
    refine V_aload_n (i := 0) rfl rfl dX7_run_23 rfl ?_
    refine V_getr (kf := 0) C7 (by decide) l_X7_12 (by assumption) rfl (by assumption) dX7_run_24 rfl ?_
    refine V_call (n := 1) (sp_remember l g hS hC hI.mOf) o_X1_remember m_X7_63 ⟨by decide, by decide⟩ (by assumption) rfl rfl (by first | exact Nat.le_of_ble_eq_true rfl | simp [Value.category]) (Nat.le_refl _) (Nat.le_refl _) rfl dX7_run_27 rfl (kV ?_)
    rintro J PJ ⟨⟨hS2, hC2⟩, hF⟩
    have hS3 := hS2.r isRc_1
    have hR2 := hC2.1.1
    have hv2 := hC2.1.2
    have w0 : PJ 0 0 = some 1 := hS2.2.2.2.2.1
    have w1 : PJ 0 1 = some 86 := hS2.2.2.2.2.2.1
    have w2 : PJ 0 2 = some 171 := hS2.2.2.2.2.2.2.1
    have w3 : PJ 0 3 = some 256 := hS2.2.2.2.2.2.2.2.1
    have w4 : PJ 0 4 = some 683 := hS2.2.2.2.2.2.2.2.2.1
    have w5 : PJ 0 5 = some 685 := hS2.2.2.2.2.2.2.2.2.2.1
    refine V_aload_n (i := 0) rfl rfl dX7_run_30 rfl ?_
    refine V_getr (kf := 4) C7 (by decide) l_X7_32 (by assumption) rfl (by assumption) dX7_run_31 rfl ?_
    refine V_aload_n (i := 0) rfl rfl dX7_run_34 rfl ?_
    refine V_getr (kf := 0) C7 (by decide) l_X7_12 (by assumption) rfl (by assumption) dX7_run_35 rfl ?_
    refine V_call (n := 1) (sp_carryOut l g hS2 hC2 hI hfn) o_X4_carryOut m_X7_128 ⟨by decide, by decide⟩ (by assumption) rfl rfl (by first | exact Nat.le_of_ble_eq_true rfl | simp [Value.category]) (Nat.le_refl _) (Nat.le_refl _) rfl dX7_run_38 rfl (kJ ?_)
    rintro _ I1 P1 ⟨rfl, hS4, hC4, hF4⟩
    exact V_ireturn rfl rfl dX7_run_41 rfl rfl rfl (⟨_, rfl, (by unfold runR; rw [hfn]), hS4, Or.inl ⟨hfn, hC4⟩, hF.trans hF4⟩)
  · refine V_bipush (v := (-100)) (by decide) dX7_run_14 rfl ?_
    refine V_iload_n (i := 1) rfl rfl dX7_run_16 rfl ?_
    refine V_isub dX7_run_17 rfl ?_
    exact V_ireturn rfl rfl dX7_run_18 rfl rfl rfl (by
      cases hz : fau tx len (len + 1) 0 with
      | none => exact absurd ((ff_eq tx len hC.2.2.2.2.1).1 hz) h_11
      | some f => exact ⟨_, rfl, (by unfold runR; rw [hz, ((ff_eq tx len hC.2.2.2.2.1).2 f hz).1]), CM.no hS hC (fun q => by cases q)⟩)

