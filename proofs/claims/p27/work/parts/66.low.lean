variable {nT : Nat}
/-! rows of doubles; what the law's own small methods answer -/
section LOWR
variable {l : Launch} {g : fw_G} {k : fw_M} {T T' : fw_T} {mc ms : Nat} {Q : Option Value → fw_I → fw_P → Prop} {I : fw_I} {P : fw_P} {u w pc q : Nat} {L L' : List (Option Value)} {st : List Value}
theorem V_dconst1 (hd : decode k.2.1 pc = .ok (.dconst 1, 1)) (hq : pc + 1 = q) (kk : V l g k T' mc ms Q T I P u w q L (.double FP.dconst1 :: st)) : V l g k T' mc ms Q T I P u w pc L st := by
  subst hq
  intro p e s m args below meth c H locs ls hC hK hR hS hL
  exact lv_dconst1 hC.1.1.1 hC.1.1.2.1 hd (kk p e s m args below meth c H locs ls hC hK hR hS hL)
theorem V_dcmp {x y : UInt64} {op : CmpOp} (hd : decode k.2.1 pc = .ok (.dcmp op, 1)) (hq : pc + 1 = q) (kk : V l g k T' mc ms Q T I P u w q L (.int (Op.cmpValue (FP.dcmp x y) op) :: st)) : V l g k T' mc ms Q T I P u w pc L (.double y :: .double x :: st) := by
  subst hq
  intro p e s m args below meth c H locs ls hC hK hR hS hL
  exact lv_dcmp hC.1.1.1 hC.1.1.2.1 hd (kk p e s m args below meth c H locs ls hC hK hR hS hL)
theorem kD {f : UInt64} (h : V l g k T' mc ms Q T I P u w q L (.double f :: st)) : ∀ (v : Option Value) (I1 : fw_I) (P1 : fw_P), qD f I P v I1 P1 → V l g k T' mc ms Q T I1 P1 u w q L (v.toList ++ st) := by
  rintro _ _ _ ⟨rfl, rfl, rfl⟩
  exact h
/-- a new row of four ints behind the class' cells -/
theorem V_new4 {mc ms : Nat} (hu : u + 1 ≤ mc) (hw : w + 4 ≤ ms) (hd : decode k.2.1 pc = .ok (.newarray .int, 2)) (hq : pc + 2 = q) (kk : V l g k T' mc ms Q (T0 (nT + 1)) (fw_z I (688 + nT) 0) (fw_z P (688 + nT) none) (u + 1) (w + 4) q L (.ref (g.1 + (688 + nT)) :: st)) : V l g k T' mc ms Q (T0 nT) I P u w pc L (.int 4 :: st) := by
  refine V_newa (kd := 9) (N := 4) (ty := .int) ⟨rfl, rfl⟩ rfl ac_int (by decide) rfl (by decide) hu hw hd hq ?_
  have e : fw_push (T0 nT) (9, 4) = T0 (nT + 1) := by
    have h9 : tt (688 + nT) = (9, 4) := by
      unfold tt
      rw [if_neg (by omega), if_neg (by omega), if_neg (by omega), if_neg (by omega), if_neg (by omega), if_neg (by omega), if_neg (by omega), if_neg (by omega), if_neg (by omega), if_neg (by omega)]
    exact push_tt h9
  rw [e]
  exact kk
end LOWR
theorem low_m (v : Int32) : ∃ a, a < 2 ^ 31 ∧ v &&& 2147483647 = nI a := by
  refine ⟨(v &&& 2147483647).toBitVec.toNat, ?_, (nI_all _).symm⟩
  rw [Int32.toBitVec_and, BitVec.toNat_and]
  have h : (2147483647 : Int32).toBitVec.toNat = 2147483647 := by decide
  rw [h]
  have := Nat.and_le_right (n := v.toBitVec.toNat) (m := 2147483647)
  omega
theorem low_n (v : Int32) {m : Nat} (h0 : 0 < m) (hm : m < 2 ^ 31) : ∃ j, j < m ∧ (v &&& 2147483647) - (v &&& 2147483647) / nI m * nI m = nI j := by
  obtain ⟨a, ha, e⟩ := low_m v
  refine ⟨a % m, Nat.mod_lt _ h0, ?_⟩
  rw [e, nI_div ha hm h0, nI_mul, nI_sub (Nat.div_mul_le_self a m)]
  congr 1
  have := Nat.div_add_mod a m
  rw [Nat.mul_comm] at this
  omega
theorem ones_n : ∀ h, h < 16 → (((nI h &&& 1) + (nI h >>> ((1 : Int32) &&& 31) &&& 1)) + (nI h >>> ((2 : Int32) &&& 31) &&& 1)) + (nI h >>> ((3 : Int32) &&& 31) &&& 1) = nI (pop4 h) := by decide +kernel
/-! walked -/
set_option maxHeartbeats 4000000 in
set_option maxRecDepth 100000 in
theorem sp_low (l : Launch) (g : fw_G) {I : fw_I} {P : fw_P} (v : Int32) {m : Nat} (h0 : 0 < m) (hm : m < 2 ^ 31) : Sp l g kL_low (T0 nT) [.int v, .int (nI m)] I P (T0 nT) 0 0 (qJ (fun r I1 P1 => (∃ j, j < m ∧ r = nI j) ∧ I1 = I ∧ P1 = P)) := by
  refine Sp.of_V (L := [some (.int v), some (.int (nI m))]) (by decide) (by simp [Value.category]) (Nat.le_of_ble_eq_true rfl) rfl ?_
  refine V_iload_n (i := 0) rfl rfl dL_low_0 rfl ?_
  refine V_ldc cst_L_9 dL_low_1 rfl ?_
  refine V_iand dL_low_3 rfl ?_
  refine V_iload_n (i := 1) rfl rfl dL_low_4 rfl ?_
  refine V_irem (fun z => by have := nI_eq0 z hm; omega) dL_low_5 rfl ?_
  exact V_ireturn rfl rfl dL_low_6 rfl rfl rfl (⟨_, rfl, low_n v h0 hm, rfl, rfl⟩)

set_option maxHeartbeats 4000000 in
set_option maxRecDepth 100000 in
theorem sp_ones (l : Launch) (g : fw_G) {I : fw_I} {P : fw_P} {h : Nat} (hh : h < 16) : Sp l g kL_ones (T0 nT) [.int (nI h)] I P (T0 nT) 0 0 (qI (nI (pop4 h)) I P) := by
  refine Sp.of_V (L := [some (.int (nI h))]) (by decide) (by simp [Value.category]) (Nat.le_of_ble_eq_true rfl) rfl ?_
  refine V_iload_n (i := 0) rfl rfl dL_ones_0 rfl ?_
  refine V_iconst (v := 1) (by decide) dL_ones_1 rfl ?_
  refine V_iand dL_ones_2 rfl ?_
  refine V_iload_n (i := 0) rfl rfl dL_ones_3 rfl ?_
  refine V_iconst (v := 1) (by decide) dL_ones_4 rfl ?_
  refine V_ishr dL_ones_5 rfl ?_
  refine V_iconst (v := 1) (by decide) dL_ones_6 rfl ?_
  refine V_iand dL_ones_7 rfl ?_
  refine V_iadd dL_ones_8 rfl ?_
  refine V_iload_n (i := 0) rfl rfl dL_ones_9 rfl ?_
  refine V_iconst (v := 2) (by decide) dL_ones_10 rfl ?_
  refine V_ishr dL_ones_11 rfl ?_
  refine V_iconst (v := 1) (by decide) dL_ones_12 rfl ?_
  refine V_iand dL_ones_13 rfl ?_
  refine V_iadd dL_ones_14 rfl ?_
  refine V_iload_n (i := 0) rfl rfl dL_ones_15 rfl ?_
  refine V_iconst (v := 3) (by decide) dL_ones_16 rfl ?_
  refine V_ishr dL_ones_17 rfl ?_
  refine V_iconst (v := 1) (by decide) dL_ones_18 rfl ?_
  refine V_iand dL_ones_19 rfl ?_
  refine V_iadd dL_ones_20 rfl ?_
  exact V_ireturn rfl rfl dL_ones_21 rfl rfl rfl (qI.of (ones_n h hh))

