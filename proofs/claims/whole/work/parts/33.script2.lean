theorem Sp.imp {l : Launch} {g : fw_G} {k : fw_M} {T T' : fw_T} {as : List Value} {I : fw_I} {P : fw_P} {mc ms : Nat} {Q Q' : Option Value → fw_I → fw_P → Prop} (h : Sp l g k T as I P T' mc ms Q) (hi : ∀ v I1 P1, Q v I1 P1 → Q' v I1 P1) : Sp l g k T as I P T' mc ms Q' := fun p e a1 a2 a3 s m args below b1 b2 b3 b4 => by
  obtain ⟨n, o, c1, c2, c3, ⟨⟨⟨v, I1, P1, e1, e2, e3⟩, e4⟩, L⟩⟩ := h p e a1 a2 a3 s m args below b1 b2 b3 b4
  exact ⟨n, o, c1, c2, c3, ⟨⟨v, I1, P1, e1, hi v I1 P1 e2, e3⟩, e4⟩, L⟩
/-- the row behind a sale, be it made or not -/
def selF (s : Nat → Int32) (x y z c : Int32) : Nat → Int32 := if aSelOk s x y z c then aSelF s x y z c else s
def coF (tx : Nat → Int32) : Nat → Nat → Int32 → Int32
  | 0, _, c => c
  | n + 1, i, c => coF tx n (i + 1) (10 * c + tx i - 48)
theorem coF_coin (tx : Nat → Int32) (ln pl : Nat) : coF tx (cpl tx ln pl - pl) pl 0 = coin tx ln pl := by
  unfold cpl coin
  by_cases h : cpC tx ln pl
  · rw [if_pos h, if_pos h, show pl + 2 - pl = 2 by omega]
    show 10 * (10 * 0 + tx pl - 48) + tx (pl + 1) - 48 = _
    rw [show (10 : Int32) * 0 = 0 from rfl, Int32.zero_add]
  · rw [if_neg h, if_neg h, show pl + 1 - pl = 1 by omega]
    show 10 * 0 + tx pl - 48 = _
    rw [show (10 : Int32) * 0 = 0 from rfl, Int32.zero_add]
theorem sp_tradeC (l : Launch) (g : fw_G) {I : fw_I} {P : fw_P} {s : Nat → Int32} {k : Nat} {h : Nat → Nat → Int32} {tk : Bool} {sp : Nat → Int32} {len : Nat} {tx : Nat → Int32} (hS : CSh P) (hC : CRel I P s k h tk sp len tx) {B : Nat} (hI : Inv B s) (x y z c : Int32) : Sp l g kX3_trade T0 [.ref (g.1 + 1), .int x, .int y, .int z, .int c] I P T0 0 0 (qJ (fun r I1 P1 => r = aSelR s x y z c ∧ CSh P1 ∧ CRel I1 P1 (selF s x y z c) k h tk sp len tx ∧ Ff I P I1 P1)) := by
  have a0 := at_0
  have a1 := at_race isRc_1
  have a256 := at_256
  have a683 := at_683
  have r1 := isRc_1
  have hS1 := hS.r isRc_1
  have hR := hC.1.1
  have hv := hC.1.2
  have q0 : P 0 0 = some 1 := hS.2.2.2.2.1
  have q1 : P 0 1 = some 86 := hS.2.2.2.2.2.1
  have q2 : P 0 2 = some 171 := hS.2.2.2.2.2.2.1
  have q3 : P 0 3 = some 256 := hS.2.2.2.2.2.2.2.1
  have q4 : P 0 4 = some 683 := hS.2.2.2.2.2.2.2.2.1
  have q5 : P 0 5 = some 685 := hS.2.2.2.2.2.2.2.2.2.1
  by_cases hw : aWhy s x y z c = 0
  · have hok := why_ok.mp hw
    obtain ⟨hse, hre⟩ := id hok
    obtain ⟨-, ⟨hbt, hpl⟩, hcc, hxz⟩ := (aSeE_cases s x y z c).elim (fun w => absurd w.1 (by rw [hse]; decide)) id
    obtain ⟨p, k2, hp, rfl, hk2, rfl, hk20⟩ := aBt.nat hI.mOk hbt
    obtain ⟨b, hb, rfl⟩ := hpl.nat
    have hcp : (nI p).toNatClampNeg = p := nI_clamp (by omega)
    have hck : (nI k2).toNatClampNeg = k2 := nI_clamp (by omega)
    have hcb : (nI b).toNatClampNeg = b := nI_clamp (by omega)
    have hpb : ¬ p = b := fun e => hxz (by rw [e])
    have hre2 := hre
    rw [hcp, hck, hcb] at hre2
    refine (sp_trade_ok l g r1 hS1 hR hI hv hp hb hpb (n := aMany s p - 1) (k := k2) (by omega) (by omega) rfl c hw).imp ?_
    rintro v I1 P1 ⟨r, rfl, e, hK⟩
    refine ⟨r, rfl, ?_, hS.set hK.1 (fun x hx => (hK.2.2.2 x (by omega)).2), ?_, fun x hx => hK.2.2.2 x (by omega)⟩
    · rw [e]; unfold aSelR; rw [hse, if_neg (by decide), hcp, hck, hcb, hre2, if_neg (by decide)]
    · have h9 := hC.set hS ⟨hK.2.1, hK.2.2.1⟩ (fun x hx => hK.2.2.2 x (by omega))
      unfold selF
      rw [if_pos hok]
      unfold aSelF
      rw [hcp, hck, hcb]
      exact h9
  · refine (sp_trade_no l g r1 hS1 hR hI x y z c hw).imp ?_
    rintro v I1 P1 ⟨rfl, rfl, rfl⟩
    refine ⟨_, rfl, why_sel hw, hS, ?_, fun _ _ => ⟨rfl, rfl⟩⟩
    unfold selF
    rw [if_neg (fun q => hw (why_ok.mpr q))]
    exact hC

set_option maxHeartbeats 4000000 in
set_option maxRecDepth 100000 in
theorem lp_coins (l : Launch) (g : fw_G) {I : fw_I} {P : fw_P} {s : Nat → Int32} {k : Nat} {h : Nat → Nat → Int32} {tk : Bool} {sp : Nat → Int32} {len : Nat} {tx : Nat → Int32} (hS : CSh P) (hC : CRel I P s k h tk sp len tx) {B : Nat} (hI : Inv B s) {o e : Nat} (he : e ≤ len) (x y z : Int32) : ∀ (n i : Nat) (c0 c : Int32), i + n = e → coF tx n i c0 = c → V l g kX4_tradeFrom T0 0 0 (qJ (fun r I1 P1 => r = aSelR s x y z c ∧ CSh P1 ∧ CRel I1 P1 (selF s x y z c) k h tk sp len tx ∧ Ff I P I1 P1)) T0 I P 0 0 45 [some (.ref (g.1 + 683)), some (.ref (g.1 + 1)), some (.int (nI o)), some (.int (nI e)), some (.int x), some (.int y), some (.int z), some (.int (c0)), some (.int (nI i))] [] := by
  have a0 := at_0
  have a1 := at_race isRc_1
  have a256 := at_256
  have a683 := at_683
  have r1 := isRc_1
  have hS1 := hS.r isRc_1
  have hR := hC.1.1
  have hv := hC.1.2
  have q0 : P 0 0 = some 1 := hS.2.2.2.2.1
  have q1 : P 0 1 = some 86 := hS.2.2.2.2.2.1
  have q2 : P 0 2 = some 171 := hS.2.2.2.2.2.2.1
  have q3 : P 0 3 = some 256 := hS.2.2.2.2.2.2.2.1
  have q4 : P 0 4 = some 683 := hS.2.2.2.2.2.2.2.2.1
  have q5 : P 0 5 = some 685 := hS.2.2.2.2.2.2.2.2.2.1
  have a684 := at_684
  have q6 : P 683 0 = some 684 := hS.2.2.2.2.2.2.2.2.2.2.1
  have hl := hC.2.2.2.2.1
  intro n
  induction n with
  | zero =>
    intro i c0 c hi hc
    obtain rfl : i = e := by omega
    obtain rfl : c0 = c := hc
    refine V_iload (i := 8) rfl dX4_tradeFrom_45 rfl ?_
    refine V_iload_n (i := 3) rfl rfl dX4_tradeFrom_47 rfl ?_
    refine V_icmp_ge (tgt := 74) dX4_tradeFrom_48 (by decide) rfl (fun _ => ?_) (fun h => absurd (nI_le (Nat.le_refl _) (by omega)) h)
    refine V_aload_n (i := 1) rfl rfl dX4_tradeFrom_74 rfl ?_
    refine V_iload (i := 4) rfl dX4_tradeFrom_75 rfl ?_
    refine V_iload (i := 5) rfl dX4_tradeFrom_77 rfl ?_
    refine V_iload (i := 6) rfl dX4_tradeFrom_79 rfl ?_
    refine V_iload (i := 7) rfl dX4_tradeFrom_81 rfl ?_
    refine V_call (n := 4) (sp_tradeC l g hS hC hI x y z c0) o_X3_trade m_X4_40 ⟨by decide, by decide⟩ (by assumption) rfl rfl (by first | exact Nat.le_of_ble_eq_true rfl | simp [Value.category]) (Nat.le_refl _) (Nat.le_refl _) rfl dX4_tradeFrom_83 rfl (kJ ?_)
    rintro r I1 P1 hp
    exact V_ireturn rfl rfl dX4_tradeFrom_86 rfl rfl rfl (⟨r, rfl, hp⟩)
  | succ n ih =>
    intro i c0 c hi hc
    refine V_iload (i := 8) rfl dX4_tradeFrom_45 rfl ?_
    refine V_iload_n (i := 3) rfl rfl dX4_tradeFrom_47 rfl ?_
    refine V_icmp_ge (tgt := 74) dX4_tradeFrom_48 (by decide) rfl (fun h => absurd h (nI_ge (by omega) (by omega))) (fun _ => ?_)
    refine V_bipush (v := 10) (by decide) dX4_tradeFrom_51 rfl ?_
    refine V_iload (i := 7) rfl dX4_tradeFrom_53 rfl ?_
    refine V_imul dX4_tradeFrom_55 rfl ?_
    refine V_aload_n (i := 0) rfl rfl dX4_tradeFrom_56 rfl ?_
    refine V_iload (i := 8) rfl dX4_tradeFrom_57 rfl ?_
    refine V_call (n := 1) (sp_signAt l g hS hC (nI i)) o_X4_signAt m_X4_19 ⟨by decide, by decide⟩ (by assumption) rfl rfl (by first | exact Nat.le_of_ble_eq_true rfl | simp [Value.category]) (Nat.le_refl _) (Nat.le_refl _) rfl dX4_tradeFrom_59 rfl (kI ?_)
    rw [sgX_nI tx (by omega) hl]
    refine V_iadd dX4_tradeFrom_62 rfl ?_
    refine V_bipush (v := 48) (by decide) dX4_tradeFrom_63 rfl ?_
    refine V_isub dX4_tradeFrom_65 rfl ?_
    refine V_istore (i := 7) (by decide) rfl dX4_tradeFrom_66 rfl ?_
    refine V_iinc1 (i := 8) rfl (by decide) rfl dX4_tradeFrom_68 rfl ?_
    refine V_goto (tgt := 45) dX4_tradeFrom_71 (by decide) ?_
    have h9 := ih (i + 1) (10 * c0 + tx i - 48) c (by omega) hc
    rw [← nI_1] at h9
    exact h9

set_option maxHeartbeats 4000000 in
set_option maxRecDepth 100000 in
theorem sp_tradeFrom (l : Launch) (g : fw_G) {I : fw_I} {P : fw_P} {s : Nat → Int32} {k : Nat} {h : Nat → Nat → Int32} {tk : Bool} {sp : Nat → Int32} {len : Nat} {tx : Nat → Int32} (hS : CSh P) (hC : CRel I P s k h tk sp len tx) {B : Nat} (hI : Inv B s) {o e : Nat} (he : e ≤ len) (h6 : o + 6 ≤ e) {x y z c : Int32} (ex : tx (o + 1) - 48 = x) (ey : tx (o + 2) - 97 = y) (ez : tx (o + 4) - 48 = z) (ec : coF tx (e - (o + 6)) (o + 6) 0 = c) : Sp l g kX4_tradeFrom T0 [.ref (g.1 + 683), .ref (g.1 + 1), .int (nI o), .int (nI e)] I P T0 0 0 (qJ (fun r I1 P1 => r = aSelR s x y z c ∧ CSh P1 ∧ CRel I1 P1 (selF s x y z c) k h tk sp len tx ∧ Ff I P I1 P1)) := by
  have a0 := at_0
  have a1 := at_race isRc_1
  have a256 := at_256
  have a683 := at_683
  have r1 := isRc_1
  have hS1 := hS.r isRc_1
  have hR := hC.1.1
  have hv := hC.1.2
  have q0 : P 0 0 = some 1 := hS.2.2.2.2.1
  have q1 : P 0 1 = some 86 := hS.2.2.2.2.2.1
  have q2 : P 0 2 = some 171 := hS.2.2.2.2.2.2.1
  have q3 : P 0 3 = some 256 := hS.2.2.2.2.2.2.2.1
  have q4 : P 0 4 = some 683 := hS.2.2.2.2.2.2.2.2.1
  have q5 : P 0 5 = some 685 := hS.2.2.2.2.2.2.2.2.2.1
  have a684 := at_684
  have q6 : P 683 0 = some 684 := hS.2.2.2.2.2.2.2.2.2.2.1
  have hl := hC.2.2.2.2.1
  refine Sp.of_V (L := [some (.ref (g.1 + 683)), some (.ref (g.1 + 1)), some (.int (nI o)), some (.int (nI e)), none, none, none, none, none]) (by decide) (by simp [Value.category]) (Nat.le_of_ble_eq_true rfl) rfl ?_
  refine V_aload_n (i := 0) rfl rfl dX4_tradeFrom_0 rfl ?_
  refine V_iload_n (i := 2) rfl rfl dX4_tradeFrom_1 rfl ?_
  refine V_iconst (v := 1) (by decide) dX4_tradeFrom_2 rfl ?_
  refine V_iadd dX4_tradeFrom_3 rfl ?_
  rw [show nI o + 1 = nI (o + 1) from nI_1 o]
  refine V_call (n := 1) (sp_signAt l g hS hC (nI (o + 1))) o_X4_signAt m_X4_19 ⟨by decide, by decide⟩ (by assumption) rfl rfl (by first | exact Nat.le_of_ble_eq_true rfl | simp [Value.category]) (Nat.le_refl _) (Nat.le_refl _) rfl dX4_tradeFrom_4 rfl (kI ?_)
  rw [sgX_nI tx (by omega) hl]
  refine V_bipush (v := 48) (by decide) dX4_tradeFrom_7 rfl ?_
  refine V_isub dX4_tradeFrom_9 rfl ?_
  rw [ex]
  refine V_istore (i := 4) (by decide) rfl dX4_tradeFrom_10 rfl ?_
  refine V_aload_n (i := 0) rfl rfl dX4_tradeFrom_12 rfl ?_
  refine V_iload_n (i := 2) rfl rfl dX4_tradeFrom_13 rfl ?_
  refine V_iconst (v := 2) (by decide) dX4_tradeFrom_14 rfl ?_
  refine V_iadd dX4_tradeFrom_15 rfl ?_
  rw [show nI o + 2 = nI (o + 2) from nI_add o 2]
  refine V_call (n := 1) (sp_signAt l g hS hC (nI (o + 2))) o_X4_signAt m_X4_19 ⟨by decide, by decide⟩ (by assumption) rfl rfl (by first | exact Nat.le_of_ble_eq_true rfl | simp [Value.category]) (Nat.le_refl _) (Nat.le_refl _) rfl dX4_tradeFrom_16 rfl (kI ?_)
  rw [sgX_nI tx (by omega) hl]
  refine V_bipush (v := 97) (by decide) dX4_tradeFrom_19 rfl ?_
  refine V_isub dX4_tradeFrom_21 rfl ?_
  rw [ey]
  refine V_istore (i := 5) (by decide) rfl dX4_tradeFrom_22 rfl ?_
  refine V_aload_n (i := 0) rfl rfl dX4_tradeFrom_24 rfl ?_
  refine V_iload_n (i := 2) rfl rfl dX4_tradeFrom_25 rfl ?_
  refine V_iconst (v := 4) (by decide) dX4_tradeFrom_26 rfl ?_
  refine V_iadd dX4_tradeFrom_27 rfl ?_
  rw [show nI o + 4 = nI (o + 4) from nI_add o 4]
  refine V_call (n := 1) (sp_signAt l g hS hC (nI (o + 4))) o_X4_signAt m_X4_19 ⟨by decide, by decide⟩ (by assumption) rfl rfl (by first | exact Nat.le_of_ble_eq_true rfl | simp [Value.category]) (Nat.le_refl _) (Nat.le_refl _) rfl dX4_tradeFrom_28 rfl (kI ?_)
  rw [sgX_nI tx (by omega) hl]
  refine V_bipush (v := 48) (by decide) dX4_tradeFrom_31 rfl ?_
  refine V_isub dX4_tradeFrom_33 rfl ?_
  rw [ez]
  refine V_istore (i := 6) (by decide) rfl dX4_tradeFrom_34 rfl ?_
  refine V_iconst (v := 0) (by decide) dX4_tradeFrom_36 rfl ?_
  refine V_istore (i := 7) (by decide) rfl dX4_tradeFrom_37 rfl ?_
  refine V_iload_n (i := 2) rfl rfl dX4_tradeFrom_39 rfl ?_
  refine V_bipush (v := 6) (by decide) dX4_tradeFrom_40 rfl ?_
  refine V_iadd dX4_tradeFrom_42 rfl ?_
  rw [show nI o + 6 = nI (o + 6) from nI_add o 6]
  refine V_istore (i := 8) (by decide) rfl dX4_tradeFrom_43 rfl ?_
  exact lp_coins l g hS hC hI he x y z (e - (o + 6)) (o + 6) 0 c (by omega) ec

set_option maxHeartbeats 4000000 in
set_option maxRecDepth 100000 in
theorem vc_end (l : Launch) (g : fw_G) {I : fw_I} {P : fw_P} {s : Nat → Int32} {k : Nat} {h : Nat → Nat → Int32} {tk : Bool} {sp : Nat → Int32} {len : Nat} {tx : Nat → Int32} {B : Nat} {Q : Option Value → fw_I → fw_P → Prop} (hS : CSh P) (hC : CRel I P s k h tk sp len tx) (kk : Nat) (hq : Q (some (.int (nI kk))) I P) : V l g kX4_carryOut T0 0 0 Q T0 I P 0 0 8 [some (.ref (g.1 + 683)), some (.ref (g.1 + 1)), some (.int (nI kk)), some (.int (-5)), some (.int (nI len)), none, none] [] := by
  have a0 := at_0
  have a1 := at_race isRc_1
  have a256 := at_256
  have a683 := at_683
  have r1 := isRc_1
  have hS1 := hS.r isRc_1
  have hR := hC.1.1
  have hv := hC.1.2
  have q0 : P 0 0 = some 1 := hS.2.2.2.2.1
  have q1 : P 0 1 = some 86 := hS.2.2.2.2.2.1
  have q2 : P 0 2 = some 171 := hS.2.2.2.2.2.2.1
  have q3 : P 0 3 = some 256 := hS.2.2.2.2.2.2.2.1
  have q4 : P 0 4 = some 683 := hS.2.2.2.2.2.2.2.2.1
  have q5 : P 0 5 = some 685 := hS.2.2.2.2.2.2.2.2.2.1
  have a684 := at_684
  have q6 : P 683 0 = some 684 := hS.2.2.2.2.2.2.2.2.2.2.1
  have hl := hC.2.2.2.2.1
  refine V_iload (i := 4) rfl dX4_carryOut_8 rfl ?_
  refine V_aload_n (i := 0) rfl rfl dX4_carryOut_10 rfl ?_
  refine V_get (kf := 1) C4 (by decide) l_X4_15 (by assumption) rfl dX4_carryOut_11 rfl ?_
  rw [hC.2.2.2.1]
  refine V_icmp_ge (tgt := 95) dX4_carryOut_14 (by decide) rfl (fun _ => ?_) (fun h => absurd (nI_le (Nat.le_refl _) (by omega)) h)
  refine V_iload_n (i := 2) rfl rfl dX4_carryOut_95 rfl ?_
  exact V_ireturn rfl rfl dX4_carryOut_96 rfl rfl rfl (hq)

set_option maxHeartbeats 4000000 in
set_option maxRecDepth 100000 in
theorem vc_skip (l : Launch) (g : fw_G) {I : fw_I} {P : fw_P} {s : Nat → Int32} {k : Nat} {h : Nat → Nat → Int32} {tk : Bool} {sp : Nat → Int32} {len : Nat} {tx : Nat → Int32} {B : Nat} {Q : Option Value → fw_I → fw_P → Prop} (hS : CSh P) (hC : CRel I P s k h tk sp len tx) (kk : Nat) {o e : Nat} (he : e ≤ len) (ho : o < 60) (hk : V l g kX4_carryOut T0 0 0 Q T0 I P 0 0 8 [some (.ref (g.1 + 683)), some (.ref (g.1 + 1)), some (.int (nI kk)), some (.int (nI o)), some (.int (nI e)), none, none] []) : ∀ (m i : Nat), i + m = e → (∀ j, i ≤ j → j < e → ¬ tx j = 40 ∧ ¬ tx j = 41) → V l g kX4_carryOut T0 0 0 Q T0 I P 0 0 8 [some (.ref (g.1 + 683)), some (.ref (g.1 + 1)), some (.int (nI kk)), some (.int (nI o)), some (.int (nI i)), none, none] [] := by
  have a0 := at_0
  have a1 := at_race isRc_1
  have a256 := at_256
  have a683 := at_683
  have r1 := isRc_1
  have hS1 := hS.r isRc_1
  have hR := hC.1.1
  have hv := hC.1.2
  have q0 : P 0 0 = some 1 := hS.2.2.2.2.1
  have q1 : P 0 1 = some 86 := hS.2.2.2.2.2.1
  have q2 : P 0 2 = some 171 := hS.2.2.2.2.2.2.1
  have q3 : P 0 3 = some 256 := hS.2.2.2.2.2.2.2.1
  have q4 : P 0 4 = some 683 := hS.2.2.2.2.2.2.2.2.1
  have q5 : P 0 5 = some 685 := hS.2.2.2.2.2.2.2.2.2.1
  have a684 := at_684
  have q6 : P 683 0 = some 684 := hS.2.2.2.2.2.2.2.2.2.2.1
  have hl := hC.2.2.2.2.1
  intro m
  induction m with
  | zero =>
    intro i hi _
    obtain rfl : i = e := by omega
    exact hk
  | succ m ih =>
    intro i hi hn
    have hi1 := hn i (Nat.le_refl _) (by omega)
    refine V_iload (i := 4) rfl dX4_carryOut_8 rfl ?_
    refine V_aload_n (i := 0) rfl rfl dX4_carryOut_10 rfl ?_
    refine V_get (kf := 1) C4 (by decide) l_X4_15 (by assumption) rfl dX4_carryOut_11 rfl ?_
    rw [hC.2.2.2.1]
    refine V_icmp_ge (tgt := 95) dX4_carryOut_14 (by decide) rfl (fun h => absurd h (nI_ge (by omega) (by omega))) (fun _ => ?_)
    refine V_aload_n (i := 0) rfl rfl dX4_carryOut_17 rfl ?_
    refine V_iload (i := 4) rfl dX4_carryOut_18 rfl ?_
    refine V_call (n := 1) (sp_signAt l g hS hC (nI i)) o_X4_signAt m_X4_19 ⟨by decide, by decide⟩ (by assumption) rfl rfl (by first | exact Nat.le_of_ble_eq_true rfl | simp [Value.category]) (Nat.le_refl _) (Nat.le_refl _) rfl dX4_carryOut_20 rfl (kI ?_)
    rw [sgX_nI tx (by omega) hl]
    refine V_istore (i := 5) (by decide) rfl dX4_carryOut_23 rfl ?_
    refine V_iload (i := 5) rfl dX4_carryOut_25 rfl ?_
    refine V_bipush (v := 40) (by decide) dX4_carryOut_27 rfl ?_
    refine V_icmp_ne (tgt := 35) dX4_carryOut_29 (by decide) rfl (fun _ => ?_) (fun h => absurd h hi1.1)
    refine V_iload_n (i := 3) rfl rfl dX4_carryOut_35 rfl ?_
    refine V_bipush (v := (-5)) (by decide) dX4_carryOut_36 rfl ?_
    refine V_icmp_eq (tgt := 48) dX4_carryOut_38 (by decide) rfl (fun h => absurd h (nI_n5 o (by omega))) (fun _ => ?_)
    refine V_iload (i := 5) rfl dX4_carryOut_41 rfl ?_
    refine V_bipush (v := 41) (by decide) dX4_carryOut_43 rfl ?_
    refine V_icmp_ne (tgt := 89) dX4_carryOut_45 (by decide) rfl (fun _ => ?_) (fun h => absurd h hi1.2)
    refine V_iinc1 (i := 4) rfl (by decide) rfl dX4_carryOut_89 rfl ?_
    refine V_goto (tgt := 8) dX4_carryOut_92 (by decide) ?_
    refine V_forget 5 rfl ?_
    have h9 := ih (i + 1) (by omega) (fun j h1 h2 => hn j (by omega) h2)
    rw [← nI_1] at h9
    exact h9

set_option maxHeartbeats 4000000 in
set_option maxRecDepth 100000 in
theorem vc_open (l : Launch) (g : fw_G) {I : fw_I} {P : fw_P} {s : Nat → Int32} {k : Nat} {h : Nat → Nat → Int32} {tk : Bool} {sp : Nat → Int32} {len : Nat} {tx : Nat → Int32} {B : Nat} {Q : Option Value → fw_I → fw_P → Prop} (hS : CSh P) (hC : CRel I P s k h tk sp len tx) (kk : Nat) {i : Nat} (hi : i < len) (h40 : tx i = 40) (hk : V l g kX4_carryOut T0 0 0 Q T0 I P 0 0 8 [some (.ref (g.1 + 683)), some (.ref (g.1 + 1)), some (.int (nI kk)), some (.int (nI i)), some (.int (nI (i + 1))), none, none] []) : V l g kX4_carryOut T0 0 0 Q T0 I P 0 0 8 [some (.ref (g.1 + 683)), some (.ref (g.1 + 1)), some (.int (nI kk)), some (.int (-5)), some (.int (nI i)), none, none] [] := by
  have a0 := at_0
  have a1 := at_race isRc_1
  have a256 := at_256
  have a683 := at_683
  have r1 := isRc_1
  have hS1 := hS.r isRc_1
  have hR := hC.1.1
  have hv := hC.1.2
  have q0 : P 0 0 = some 1 := hS.2.2.2.2.1
  have q1 : P 0 1 = some 86 := hS.2.2.2.2.2.1
  have q2 : P 0 2 = some 171 := hS.2.2.2.2.2.2.1
  have q3 : P 0 3 = some 256 := hS.2.2.2.2.2.2.2.1
  have q4 : P 0 4 = some 683 := hS.2.2.2.2.2.2.2.2.1
  have q5 : P 0 5 = some 685 := hS.2.2.2.2.2.2.2.2.2.1
  have a684 := at_684
  have q6 : P 683 0 = some 684 := hS.2.2.2.2.2.2.2.2.2.2.1
  have hl := hC.2.2.2.2.1
  refine V_iload (i := 4) rfl dX4_carryOut_8 rfl ?_
  refine V_aload_n (i := 0) rfl rfl dX4_carryOut_10 rfl ?_
  refine V_get (kf := 1) C4 (by decide) l_X4_15 (by assumption) rfl dX4_carryOut_11 rfl ?_
  rw [hC.2.2.2.1]
  refine V_icmp_ge (tgt := 95) dX4_carryOut_14 (by decide) rfl (fun h => absurd h (nI_ge hi (by omega))) (fun _ => ?_)
  refine V_aload_n (i := 0) rfl rfl dX4_carryOut_17 rfl ?_
  refine V_iload (i := 4) rfl dX4_carryOut_18 rfl ?_
  refine V_call (n := 1) (sp_signAt l g hS hC (nI i)) o_X4_signAt m_X4_19 ⟨by decide, by decide⟩ (by assumption) rfl rfl (by first | exact Nat.le_of_ble_eq_true rfl | simp [Value.category]) (Nat.le_refl _) (Nat.le_refl _) rfl dX4_carryOut_20 rfl (kI ?_)
  rw [sgX_nI tx hi hl]
  refine V_istore (i := 5) (by decide) rfl dX4_carryOut_23 rfl ?_
  refine V_iload (i := 5) rfl dX4_carryOut_25 rfl ?_
  refine V_bipush (v := 40) (by decide) dX4_carryOut_27 rfl ?_
  refine V_icmp_ne (tgt := 35) dX4_carryOut_29 (by decide) rfl (fun h => absurd h40 h) (fun _ => ?_)
  refine V_iload (i := 4) rfl dX4_carryOut_32 rfl ?_
  refine V_istore_n (i := 3) rfl (by decide) rfl dX4_carryOut_34 rfl ?_
  refine V_iload_n (i := 3) rfl rfl dX4_carryOut_35 rfl ?_
  refine V_bipush (v := (-5)) (by decide) dX4_carryOut_36 rfl ?_
  refine V_icmp_eq (tgt := 48) dX4_carryOut_38 (by decide) rfl (fun h => absurd h (nI_n5 i (by omega))) (fun _ => ?_)
  refine V_iload (i := 5) rfl dX4_carryOut_41 rfl ?_
  refine V_bipush (v := 41) (by decide) dX4_carryOut_43 rfl ?_
  refine V_icmp_ne (tgt := 89) dX4_carryOut_45 (by decide) rfl (fun _ => ?_) (fun h => absurd h (by rw [h40]; decide))
  refine V_iinc1 (i := 4) rfl (by decide) rfl dX4_carryOut_89 rfl ?_
  refine V_goto (tgt := 8) dX4_carryOut_92 (by decide) ?_
  refine V_forget 5 rfl ?_
  have h9 := hk
  rw [← nI_1] at h9
  exact h9

set_option maxHeartbeats 4000000 in
set_option maxRecDepth 100000 in
theorem vc_close (l : Launch) (g : fw_G) {I : fw_I} {P : fw_P} {s : Nat → Int32} {k : Nat} {h : Nat → Nat → Int32} {tk : Bool} {sp : Nat → Int32} {len : Nat} {tx : Nat → Int32} {B : Nat} {Q : Option Value → fw_I → fw_P → Prop} (hS : CSh P) (hC : CRel I P s k h tk sp len tx) (hI : Inv B s) (kk : Nat) {o e : Nat} (he : e < len) (h6 : o + 6 ≤ e) (h41 : tx e = 41) {x y z c : Int32} (ex : tx (o + 1) - 48 = x) (ey : tx (o + 2) - 97 = y) (ez : tx (o + 4) - 48 = z) (ec : coF tx (e - (o + 6)) (o + 6) 0 = c)
    (hn : aSelR s x y z c < 0 → ∀ I1 P1, CSh P1 → CRel I1 P1 (selF s x y z c) k h tk sp len tx → Ff I P I1 P1 → Q (some (.int (nI kk))) I1 P1)
    (hy : ¬ aSelR s x y z c < 0 → ∀ I1 P1, CSh P1 → CRel I1 P1 (selF s x y z c) k h tk sp len tx → Ff I P I1 P1 → V l g kX4_carryOut T0 0 0 Q T0 I1 P1 0 0 8 [some (.ref (g.1 + 683)), some (.ref (g.1 + 1)), some (.int (nI (kk + 1))), some (.int (-5)), some (.int (nI (e + 1))), none, none] []) : V l g kX4_carryOut T0 0 0 Q T0 I P 0 0 8 [some (.ref (g.1 + 683)), some (.ref (g.1 + 1)), some (.int (nI kk)), some (.int (nI o)), some (.int (nI e)), none, none] [] := by
  have a0 := at_0
  have a1 := at_race isRc_1
  have a256 := at_256
  have a683 := at_683
  have r1 := isRc_1
  have hS1 := hS.r isRc_1
  have hR := hC.1.1
  have hv := hC.1.2
  have q0 : P 0 0 = some 1 := hS.2.2.2.2.1
  have q1 : P 0 1 = some 86 := hS.2.2.2.2.2.1
  have q2 : P 0 2 = some 171 := hS.2.2.2.2.2.2.1
  have q3 : P 0 3 = some 256 := hS.2.2.2.2.2.2.2.1
  have q4 : P 0 4 = some 683 := hS.2.2.2.2.2.2.2.2.1
  have q5 : P 0 5 = some 685 := hS.2.2.2.2.2.2.2.2.2.1
  have a684 := at_684
  have q6 : P 683 0 = some 684 := hS.2.2.2.2.2.2.2.2.2.2.1
  have hl := hC.2.2.2.2.1
  refine V_iload (i := 4) rfl dX4_carryOut_8 rfl ?_
  refine V_aload_n (i := 0) rfl rfl dX4_carryOut_10 rfl ?_
  refine V_get (kf := 1) C4 (by decide) l_X4_15 (by assumption) rfl dX4_carryOut_11 rfl ?_
  rw [hC.2.2.2.1]
  refine V_icmp_ge (tgt := 95) dX4_carryOut_14 (by decide) rfl (fun h => absurd h (nI_ge he (by omega))) (fun _ => ?_)
  refine V_aload_n (i := 0) rfl rfl dX4_carryOut_17 rfl ?_
  refine V_iload (i := 4) rfl dX4_carryOut_18 rfl ?_
  refine V_call (n := 1) (sp_signAt l g hS hC (nI e)) o_X4_signAt m_X4_19 ⟨by decide, by decide⟩ (by assumption) rfl rfl (by first | exact Nat.le_of_ble_eq_true rfl | simp [Value.category]) (Nat.le_refl _) (Nat.le_refl _) rfl dX4_carryOut_20 rfl (kI ?_)
  rw [sgX_nI tx he hl]
  refine V_istore (i := 5) (by decide) rfl dX4_carryOut_23 rfl ?_
  refine V_iload (i := 5) rfl dX4_carryOut_25 rfl ?_
  refine V_bipush (v := 40) (by decide) dX4_carryOut_27 rfl ?_
  refine V_icmp_ne (tgt := 35) dX4_carryOut_29 (by decide) rfl (fun _ => ?_) (fun h => absurd h (by rw [h41]; decide))
  refine V_iload_n (i := 3) rfl rfl dX4_carryOut_35 rfl ?_
  refine V_bipush (v := (-5)) (by decide) dX4_carryOut_36 rfl ?_
  refine V_icmp_eq (tgt := 48) dX4_carryOut_38 (by decide) rfl (fun h => absurd h (nI_n5 o (by omega))) (fun _ => ?_)
  refine V_iload (i := 5) rfl dX4_carryOut_41 rfl ?_
  refine V_bipush (v := 41) (by decide) dX4_carryOut_43 rfl ?_
  refine V_icmp_ne (tgt := 89) dX4_carryOut_45 (by decide) rfl (fun h => absurd h41 h) (fun _ => ?_)
  refine V_iload_n (i := 3) rfl rfl dX4_carryOut_48 rfl ?_
  refine V_bipush (v := (-5)) (by decide) dX4_carryOut_49 rfl ?_
  refine V_icmp_ne (tgt := 66) dX4_carryOut_51 (by decide) rfl (fun _ => ?_) (fun h => absurd h (nI_n5 o (by omega)))
  refine V_aload_n (i := 0) rfl rfl dX4_carryOut_66 rfl ?_
  refine V_aload_n (i := 1) rfl rfl dX4_carryOut_67 rfl ?_
  refine V_iload_n (i := 3) rfl rfl dX4_carryOut_68 rfl ?_
  refine V_iload (i := 4) rfl dX4_carryOut_69 rfl ?_
  refine V_call (n := 3) (sp_tradeFrom l g hS hC hI (by omega) h6 ex ey ez ec) o_X4_tradeFrom m_X4_36 ⟨by decide, by decide⟩ (by assumption) rfl rfl (by first | exact Nat.le_of_ble_eq_true rfl | simp [Value.category]) (Nat.le_refl _) (Nat.le_refl _) rfl dX4_carryOut_71 rfl (kJ ?_)
  rintro _ I1 P1 ⟨rfl, hS2, hC2, hF⟩
  refine V_istore (i := 6) (by decide) rfl dX4_carryOut_74 rfl ?_
  refine V_iload (i := 6) rfl dX4_carryOut_76 rfl ?_
  refine V_if_ge (tgt := 83) dX4_carryOut_78 (by decide) rfl (fun h_78 => ?_) (fun h_78 => ?_)
  · refine V_iinc1 (i := 2) rfl (by decide) rfl dX4_carryOut_83 rfl ?_
    refine V_bipush (v := (-5)) (by decide) dX4_carryOut_86 rfl ?_
    refine V_istore_n (i := 3) rfl (by decide) rfl dX4_carryOut_88 rfl ?_
    refine V_iinc1 (i := 4) rfl (by decide) rfl dX4_carryOut_89 rfl ?_
    refine V_goto (tgt := 8) dX4_carryOut_92 (by decide) ?_
    refine V_forget 5 rfl ?_
    refine V_forget 6 rfl ?_
    have h9 := hy (Int32.not_lt.mpr h_78) I1 P1 hS2 hC2 hF
    rw [← nI_1, ← nI_1] at h9
    exact h9
  · refine V_iload_n (i := 2) rfl rfl dX4_carryOut_81 rfl ?_
    exact V_ireturn rfl rfl dX4_carryOut_82 rfl rfl rfl (hn (Int32.not_le.mp h_78) I1 P1 hS2 hC2 hF)

set_option maxHeartbeats 4000000 in
set_option maxRecDepth 100000 in
theorem vc_over (l : Launch) (g : fw_G) {I : fw_I} {P : fw_P} {s : Nat → Int32} {k : Nat} {h : Nat → Nat → Int32} {tk : Bool} {sp : Nat → Int32} {len : Nat} {tx : Nat → Int32} {B : Nat} {Q : Option Value → fw_I → fw_P → Prop} (hS : CSh P) (hC : CRel I P s k h tk sp len tx) (kk : Nat) {i : Nat} (hi : i < len) (h40 : ¬ tx i = 40) (h4 : s 4 = 4) (hq : Q (some (.int (nI kk))) I P) : V l g kX4_carryOut T0 0 0 Q T0 I P 0 0 8 [some (.ref (g.1 + 683)), some (.ref (g.1 + 1)), some (.int (nI kk)), some (.int (-5)), some (.int (nI i)), none, none] [] := by
  have a0 := at_0
  have a1 := at_race isRc_1
  have a256 := at_256
  have a683 := at_683
  have r1 := isRc_1
  have hS1 := hS.r isRc_1
  have hR := hC.1.1
  have hv := hC.1.2
  have q0 : P 0 0 = some 1 := hS.2.2.2.2.1
  have q1 : P 0 1 = some 86 := hS.2.2.2.2.2.1
  have q2 : P 0 2 = some 171 := hS.2.2.2.2.2.2.1
  have q3 : P 0 3 = some 256 := hS.2.2.2.2.2.2.2.1
  have q4 : P 0 4 = some 683 := hS.2.2.2.2.2.2.2.2.1
  have q5 : P 0 5 = some 685 := hS.2.2.2.2.2.2.2.2.2.1
  have a684 := at_684
  have q6 : P 683 0 = some 684 := hS.2.2.2.2.2.2.2.2.2.2.1
  have hl := hC.2.2.2.2.1
  refine V_iload (i := 4) rfl dX4_carryOut_8 rfl ?_
  refine V_aload_n (i := 0) rfl rfl dX4_carryOut_10 rfl ?_
  refine V_get (kf := 1) C4 (by decide) l_X4_15 (by assumption) rfl dX4_carryOut_11 rfl ?_
  rw [hC.2.2.2.1]
  refine V_icmp_ge (tgt := 95) dX4_carryOut_14 (by decide) rfl (fun h => absurd h (nI_ge hi (by omega))) (fun _ => ?_)
  refine V_aload_n (i := 0) rfl rfl dX4_carryOut_17 rfl ?_
  refine V_iload (i := 4) rfl dX4_carryOut_18 rfl ?_
  refine V_call (n := 1) (sp_signAt l g hS hC (nI i)) o_X4_signAt m_X4_19 ⟨by decide, by decide⟩ (by assumption) rfl rfl (by first | exact Nat.le_of_ble_eq_true rfl | simp [Value.category]) (Nat.le_refl _) (Nat.le_refl _) rfl dX4_carryOut_20 rfl (kI ?_)
  rw [sgX_nI tx hi hl]
  refine V_istore (i := 5) (by decide) rfl dX4_carryOut_23 rfl ?_
  refine V_iload (i := 5) rfl dX4_carryOut_25 rfl ?_
  refine V_bipush (v := 40) (by decide) dX4_carryOut_27 rfl ?_
  refine V_icmp_ne (tgt := 35) dX4_carryOut_29 (by decide) rfl (fun _ => ?_) (fun h => absurd h h40)
  refine V_iload_n (i := 3) rfl rfl dX4_carryOut_35 rfl ?_
  refine V_bipush (v := (-5)) (by decide) dX4_carryOut_36 rfl ?_
  refine V_icmp_eq (tgt := 48) dX4_carryOut_38 (by decide) rfl (fun _ => ?_) (fun h => absurd rfl h)
  refine V_iload_n (i := 3) rfl rfl dX4_carryOut_48 rfl ?_
  refine V_bipush (v := (-5)) (by decide) dX4_carryOut_49 rfl ?_
  refine V_icmp_ne (tgt := 66) dX4_carryOut_51 (by decide) rfl (fun h => absurd rfl h) (fun _ => ?_)
  refine V_aload_n (i := 1) rfl rfl dX4_carryOut_54 rfl ?_
  refine V_iload (i := 5) rfl dX4_carryOut_55 rfl ?_
  refine V_bipush (v := 48) (by decide) dX4_carryOut_57 rfl ?_
  refine V_isub dX4_carryOut_59 rfl ?_
  refine V_call (n := 1) (sp_makeTurn_over l g r1 hS1 (by rw [show I 1 5 = _ from hv, if_pos h4]) (tx i - 48)) o_X3_makeTurn m_X4_31 ⟨by decide, by decide⟩ (by assumption) rfl rfl (by first | exact Nat.le_of_ble_eq_true rfl | simp [Value.category]) (Nat.le_refl _) (Nat.le_refl _) rfl dX4_carryOut_60 rfl (kI ?_)
  refine V_goto (tgt := 74) dX4_carryOut_63 (by decide) ?_
  refine V_istore (i := 6) (by decide) rfl dX4_carryOut_74 rfl ?_
  refine V_iload (i := 6) rfl dX4_carryOut_76 rfl ?_
  refine V_if_ge (tgt := 83) dX4_carryOut_78 (by decide) rfl (fun h => absurd h (by decide)) (fun _ => ?_)
  refine V_iload_n (i := 2) rfl rfl dX4_carryOut_81 rfl ?_
  exact V_ireturn rfl rfl dX4_carryOut_82 rfl rfl rfl (hq)

set_option maxHeartbeats 4000000 in
set_option maxRecDepth 100000 in
theorem vc_turn (l : Launch) (g : fw_G) {I : fw_I} {P : fw_P} {s : Nat → Int32} {k : Nat} {h : Nat → Nat → Int32} {tk : Bool} {sp : Nat → Int32} {len : Nat} {tx : Nat → Int32} {B : Nat} {Q : Option Value → fw_I → fw_P → Prop} (hS : CSh P) (hC : CRel I P s k h tk sp len tx) (hI : Inv B s) (kk : Nat) {i d : Nat} (hi : i < len) (h40 : ¬ tx i = 40) (hd : tx i - 48 = nI d) (d1 : 1 ≤ d) (d6 : d ≤ 6) (h4 : ¬ s 4 = 4)
    (hy : ∀ I1 P1, CSh P1 → CRel I1 P1 (aT s (nI d)) k h tk sp len tx → Ff I P I1 P1 → V l g kX4_carryOut T0 0 0 Q T0 I1 P1 0 0 8 [some (.ref (g.1 + 683)), some (.ref (g.1 + 1)), some (.int (nI (kk + 1))), some (.int (-5)), some (.int (nI (i + 1))), none, none] []) : V l g kX4_carryOut T0 0 0 Q T0 I P 0 0 8 [some (.ref (g.1 + 683)), some (.ref (g.1 + 1)), some (.int (nI kk)), some (.int (-5)), some (.int (nI i)), none, none] [] := by
  have a0 := at_0
  have a1 := at_race isRc_1
  have a256 := at_256
  have a683 := at_683
  have r1 := isRc_1
  have hS1 := hS.r isRc_1
  have hR := hC.1.1
  have hv := hC.1.2
  have q0 : P 0 0 = some 1 := hS.2.2.2.2.1
  have q1 : P 0 1 = some 86 := hS.2.2.2.2.2.1
  have q2 : P 0 2 = some 171 := hS.2.2.2.2.2.2.1
  have q3 : P 0 3 = some 256 := hS.2.2.2.2.2.2.2.1
  have q4 : P 0 4 = some 683 := hS.2.2.2.2.2.2.2.2.1
  have q5 : P 0 5 = some 685 := hS.2.2.2.2.2.2.2.2.2.1
  have a684 := at_684
  have q6 : P 683 0 = some 684 := hS.2.2.2.2.2.2.2.2.2.2.1
  have hl := hC.2.2.2.2.1
  obtain ⟨p, hp, hs1, hh2, -⟩ := hI.2.2.2.2.2.2.2.2
  obtain ⟨q, hq60, eq⟩ := aTq_nn hI hp hs1 d6
  refine V_iload (i := 4) rfl dX4_carryOut_8 rfl ?_
  refine V_aload_n (i := 0) rfl rfl dX4_carryOut_10 rfl ?_
  refine V_get (kf := 1) C4 (by decide) l_X4_15 (by assumption) rfl dX4_carryOut_11 rfl ?_
  rw [hC.2.2.2.1]
  refine V_icmp_ge (tgt := 95) dX4_carryOut_14 (by decide) rfl (fun h => absurd h (nI_ge hi (by omega))) (fun _ => ?_)
  refine V_aload_n (i := 0) rfl rfl dX4_carryOut_17 rfl ?_
  refine V_iload (i := 4) rfl dX4_carryOut_18 rfl ?_
  refine V_call (n := 1) (sp_signAt l g hS hC (nI i)) o_X4_signAt m_X4_19 ⟨by decide, by decide⟩ (by assumption) rfl rfl (by first | exact Nat.le_of_ble_eq_true rfl | simp [Value.category]) (Nat.le_refl _) (Nat.le_refl _) rfl dX4_carryOut_20 rfl (kI ?_)
  rw [sgX_nI tx hi hl]
  refine V_istore (i := 5) (by decide) rfl dX4_carryOut_23 rfl ?_
  refine V_iload (i := 5) rfl dX4_carryOut_25 rfl ?_
  refine V_bipush (v := 40) (by decide) dX4_carryOut_27 rfl ?_
  refine V_icmp_ne (tgt := 35) dX4_carryOut_29 (by decide) rfl (fun _ => ?_) (fun h => absurd h h40)
  refine V_iload_n (i := 3) rfl rfl dX4_carryOut_35 rfl ?_
  refine V_bipush (v := (-5)) (by decide) dX4_carryOut_36 rfl ?_
  refine V_icmp_eq (tgt := 48) dX4_carryOut_38 (by decide) rfl (fun _ => ?_) (fun h => absurd rfl h)
  refine V_iload_n (i := 3) rfl rfl dX4_carryOut_48 rfl ?_
  refine V_bipush (v := (-5)) (by decide) dX4_carryOut_49 rfl ?_
  refine V_icmp_ne (tgt := 66) dX4_carryOut_51 (by decide) rfl (fun h => absurd rfl h) (fun _ => ?_)
  refine V_aload_n (i := 1) rfl rfl dX4_carryOut_54 rfl ?_
  refine V_iload (i := 5) rfl dX4_carryOut_55 rfl ?_
  refine V_bipush (v := 48) (by decide) dX4_carryOut_57 rfl ?_
  refine V_isub dX4_carryOut_59 rfl ?_
  rw [hd]
  refine V_call (n := 1) (sp_makeTurn l g r1 hS1 hR hI hp hs1 h4 (hh2 h4) hv (nI d) (B1 := B) (Inv_T hI h4 d1 d6)) o_X3_makeTurn m_X4_31 ⟨by decide, by decide⟩ (by assumption) rfl rfl (by first | exact Nat.le_of_ble_eq_true rfl | simp [Value.category]) (Nat.le_refl _) (Nat.le_refl _) rfl dX4_carryOut_60 rfl (kJQ ?_)
  intro K hK
  refine V_goto (tgt := 74) dX4_carryOut_63 (by decide) ?_
  rw [eq]
  refine V_istore (i := 6) (by decide) rfl dX4_carryOut_74 rfl ?_
  refine V_iload (i := 6) rfl dX4_carryOut_76 rfl ?_
  refine V_if_ge (tgt := 83) dX4_carryOut_78 (by decide) rfl (fun _ => ?_) (fun h => absurd (nI_pos' (by omega)) h)
  refine V_iinc1 (i := 2) rfl (by decide) rfl dX4_carryOut_83 rfl ?_
  refine V_bipush (v := (-5)) (by decide) dX4_carryOut_86 rfl ?_
  refine V_istore_n (i := 3) rfl (by decide) rfl dX4_carryOut_88 rfl ?_
  refine V_iinc1 (i := 4) rfl (by decide) rfl dX4_carryOut_89 rfl ?_
  refine V_goto (tgt := 8) dX4_carryOut_92 (by decide) ?_
  refine V_forget 5 rfl ?_
  refine V_forget 6 rfl ?_
  have h9 := hy K P hS (hC.rt hS hK) (fun b hb => ⟨hK.2.2 b (by omega), rfl⟩)
  rw [← nI_1, ← nI_1] at h9
  exact h9

