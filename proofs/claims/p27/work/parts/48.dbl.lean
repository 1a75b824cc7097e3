variable {nT : Nat}
/-! doubles -/
section FWD
variable {l : Launch} {g : fw_G} {k : fw_M} {T T' : fw_T} {mc ms : Nat} {Q : Option Value → fw_I → fw_P → Prop} {I : fw_I} {P : fw_P} {u w pc q : Nat} {L L' : List (Option Value)} {st : List Value}
theorem V_i2d {x : Int32} (hd : decode k.2.1 pc = .ok (.i2d, 1)) (hq : pc + 1 = q) (kk : V l g k T' mc ms Q T I P u w q L (.double (FP.i2d x) :: st)) : V l g k T' mc ms Q T I P u w pc L (.int x :: st) := by
  subst hq
  intro p e s m args below meth c H locs ls hC hK hR hS hL
  exact lv_i2d hC.1.1.1 hC.1.1.2.1 hd (kk p e s m args below meth c H locs ls hC hK hR hS hL)
theorem V_ddiv {x y : UInt64} (hne : vf_n64 (FP.ddiv x y)) (hd : decode k.2.1 pc = .ok (.ddiv, 1)) (hq : pc + 1 = q) (kk : V l g k T' mc ms Q T I P u w q L (.double (FP.ddiv x y) :: st)) : V l g k T' mc ms Q T I P u w pc L (.double y :: .double x :: st) := by
  subst hq
  intro p e s m args below meth c H locs ls hC hK hR hS hL
  exact lv_ddiv hC.1.1.1 hC.1.1.2.1 hd hne (kk p e s m args below meth c H locs ls hC hK hR hS hL)
theorem V_dconst0 (hd : decode k.2.1 pc = .ok (.dconst 0, 1)) (hq : pc + 1 = q) (kk : V l g k T' mc ms Q T I P u w q L (.double FP.dconst0 :: st)) : V l g k T' mc ms Q T I P u w pc L st := by
  subst hq
  intro p e s m args below meth c H locs ls hC hK hR hS hL
  exact lv_dconst0 hC.1.1.1 hC.1.1.2.1 hd (kk p e s m args below meth c H locs ls hC hK hR hS hL)
theorem V_ldc2d {i : Nat} {v : UInt64} (hw : Cond.constantDouble k.1.cls i v ∈ fw_U) (hd : decode k.2.1 pc = .ok (.ldc2_w i, 3)) (hq : pc + 3 = q) (kk : V l g k T' mc ms Q T I P u w q L (.double v :: st)) : V l g k T' mc ms Q T I P u w pc L st := by
  subst hq
  intro p e s m args below meth c H locs ls hC hK hR hS hL
  exact lv_ldc2d hC.1.1.1 hC.1.1.2.1 hC.1.1.2.2.2.1 (hC.1.1.2.2.2.2 _ hw) hd (kk p e s m args below meth c H locs ls hC hK hR hS hL)
theorem V_dreturn {v : UInt64} (hr : k.2.2.2.1 = some .double) (hd : decode k.2.1 pc = .ok (.dreturn, 1)) (hT : T = T') (hu : u = mc) (hw : w = ms) (hQ : Q (some (.double v)) I P) : V l g k T' mc ms Q T I P u w pc L [.double v] := by
  subst hT hu hw
  intro p e s m args below meth c H locs ls hC hK hR hS hL
  exact W.dret (v := v) hC.1.1.1 hC.1.1.2.1 (hC.1.2.1.trans hr) (fun t ht hW => ⟨⟨_, I, P, rfl, hQ, by rw [ht]; exact hR⟩, hS.F ht⟩) hS.2.2 hd hC.1.2.2.1
end FWD
def qD (f : UInt64) (I : fw_I) (P : fw_P) : Option Value → fw_I → fw_P → Prop := fun v I1 P1 => v = some (.double f) ∧ I1 = I ∧ P1 = P
theorem dbl_X7 : Cond.constantDouble RX7 248 4633641066610819072 ∈ fw_U := fw_mem (List.mem_of_getElem? (i := 380) (by decide +kernel)) (by decide +kernel)
theorem dv_ok : ∀ b, b < 61 → (FP.ddiv (FP.i2d (nI b)) 4633641066610819072 &&& 0x7fffffffffffffff ≤ 0x7ff0000000000000) ∧ Op.cmpValue (FP.dcmp (FP.ddiv (FP.i2d (nI b)) 4633641066610819072) (FP.ddiv (FP.i2d (nI b)) 4633641066610819072)) CmpOp.l = 0 := by decide +kernel
/-- how far a player is -/
def prX (s : Nat → Int32) (x : Int32) : UInt64 := if aPl x then FP.ddiv (FP.i2d (aBeg s x.toNatClampNeg)) 4633641066610819072 else FP.dconst0
theorem pr_cmp {B : Nat} {s : Nat → Int32} (hI : Inv B s) (x : Int32) : Op.cmpValue (FP.dcmp (prX s x) (prX s x)) CmpOp.l = 0 := by
  unfold prX
  by_cases hx : aPl x
  · rw [if_pos hx]
    obtain ⟨p, hp, rfl⟩ := hx.nat
    rw [nI_clamp (by omega)]
    obtain ⟨b, hb, e⟩ := hI.beg hp
    rw [e]
    exact (dv_ok b (by omega)).2
  · rw [if_neg hx]
    decide +kernel
theorem pr_n {B : Nat} {s : Nat → Int32} (hI : Inv B s) {p : Nat} (hp : p < 4) : vf_n64 (FP.ddiv (FP.i2d (aBeg s p)) 4633641066610819072) := by
  obtain ⟨b, hb, e⟩ := hI.beg hp
  rw [e]
  exact (dv_ok b (by omega)).1
set_option maxHeartbeats 4000000 in
set_option maxRecDepth 100000 in
theorem sc_progress (l : Launch) (g : fw_G) {I : fw_I} {P : fw_P} {s : Nat → Int32} {k : Nat} {h : Nat → Nat → Int32} {tk : Bool} {sp : Nat → Int32} {len : Nat} {tx : Nat → Int32} (hS : CSh P) (hC : CRel I P s k h tk sp len tx) {B : Nat} (hI : Inv B s) (x : Int32) : Sp l g kX7_progress (T0 nT) [.ref (g.1 + 0), .int x] I P (T0 nT) 0 0 (qD (prX s x) I P) := by
  have a0 := (at_0 (nT := nT))
  have a1 := at_race (nT := nT) isRc_1
  have r1 := isRc_1
  have hS1 := hS.r isRc_1
  have hR := hC.1.1
  have q0 : P 0 0 = some 1 := hS.2.2.2.2.1
  refine Sp.of_V (L := [some (.ref (g.1 + 0)), some (.int x), none]) (by decide) (by simp [Value.category]) (Nat.le_of_ble_eq_true rfl) rfl ?_
  refine V_aload_n (i := 0) rfl rfl dX7_progress_0 rfl ?_
  refine V_getr (kf := 0) C7 (by decide) l_X7_12 (by assumption) rfl (by assumption) dX7_progress_1 rfl ?_
  refine V_iload_n (i := 1) rfl rfl dX7_progress_4 rfl ?_
  refine V_call (n := 1) (sp_pieceOf l g r1 hS1 x) o_X3_pieceOf m_X7_141 ⟨by decide, by decide⟩ (by assumption) rfl rfl (by first | exact Nat.le_of_ble_eq_true rfl | simp [Value.category]) (Nat.le_refl _) (Nat.le_refl _) rfl dX7_progress_5 rfl (kR ?_)
  refine V_astore_nr (i := 2) rfl (by decide) rfl dX7_progress_8 rfl ?_
  refine V_aload_nr (i := 2) rfl rfl dX7_progress_9 rfl ?_
  refine V_ifnonnull (tgt := 17) dX7_progress_10 (by decide) rfl (fun b_10 h_10 => ?_) (fun h_10 => ?_)
  · obtain ⟨p, hp, rfl, rfl⟩ := pcR_some h_10
    have hap := at_piece (nT := nT) isRc_1 hp
    rw [h_10]
    refine V_aload_n (i := 2) rfl rfl dX7_progress_17 rfl ?_
    refine V_call (n := 0) (sp_Piece_next l g hap (at_bites (nT := nT) r1 hp) (hS1.2.2.2.1 p hp) (by rw [hR.p1 hp]; exact (hI.many hp).1) (by have := (hI.many hp).2; omega) (fun k hk b hb => hR.b hp (by have := (hI.many hp).2; omega) hk hb (f := 0) (by decide)) (RSh.BtS (nT := nT) r1 hS1 hp) (hR.p2 hp) rfl) o_X2_nextBeginning m_X7_159 ⟨by decide, by decide⟩ (by assumption) rfl rfl (by first | exact Nat.le_of_ble_eq_true rfl | simp [Value.category]) (Nat.le_refl _) (Nat.le_refl _) rfl dX7_progress_18 rfl (kI ?_)
    refine V_i2d dX7_progress_21 rfl ?_
    refine V_ldc2d dbl_X7 dX7_progress_22 rfl ?_
    refine V_ddiv (pr_n hI hp) dX7_progress_25 rfl ?_
    exact V_dreturn rfl dX7_progress_26 rfl rfl rfl ⟨by unfold prX; rw [if_pos (le3 hp), nI_clamp (by omega)], rfl, rfl⟩
  · refine V_dconst0 dX7_progress_13 rfl ?_
    refine V_goto (tgt := 26) dX7_progress_14 (by decide) ?_
    exact V_dreturn rfl dX7_progress_26 rfl rfl rfl ⟨by unfold prX; rw [if_neg (pcR_none h_10)], rfl, rfl⟩
