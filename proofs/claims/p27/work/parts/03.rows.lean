/-! ROWS of the walk over flat memory: one an instruction -/
section FWR
variable {l : Launch} {g : fw_G} {k : fw_M} {T T' : fw_T} {mc ms : Nat} {Q : Option Value → fw_I → fw_P → Prop} {I : fw_I} {P : fw_P} {u w pc q : Nat} {L L' : List (Option Value)} {st : List Value}
theorem V_iconst {n : Int} {v : Int32} (hv : Int32.ofInt n = v) (hd : decode k.2.1 pc = .ok (.iconst n, 1)) (hq : pc + 1 = q) (kk : V l g k T' mc ms Q T I P u w q L (.int v :: st)) : V l g k T' mc ms Q T I P u w pc L (st) := by
  subst hq
  intro p e s m args below meth c H locs ls hC hK hR hS hL
  exact lv_iconst hC.1.1.1 hC.1.1.2.1 hd hv (kk p e s m args below meth c H locs ls hC hK hR hS hL)
theorem V_bipush {n : Int} {v : Int32} (hv : (Int8.ofInt n).toInt32 = v) (hd : decode k.2.1 pc = .ok (.bipush n, 2)) (hq : pc + 2 = q) (kk : V l g k T' mc ms Q T I P u w q L (.int v :: st)) : V l g k T' mc ms Q T I P u w pc L (st) := by
  subst hq
  intro p e s m args below meth c H locs ls hC hK hR hS hL
  exact lv_bipush hC.1.1.1 hC.1.1.2.1 hd hv (kk p e s m args below meth c H locs ls hC hK hR hS hL)
theorem V_sipush {n : Int} {v : Int32} (hv : (Int16.ofInt n).toInt32 = v) (hd : decode k.2.1 pc = .ok (.sipush n, 3)) (hq : pc + 3 = q) (kk : V l g k T' mc ms Q T I P u w q L (.int v :: st)) : V l g k T' mc ms Q T I P u w pc L (st) := by
  subst hq
  intro p e s m args below meth c H locs ls hC hK hR hS hL
  exact lv_sipush hC.1.1.1 hC.1.1.2.1 hd hv (kk p e s m args below meth c H locs ls hC hK hR hS hL)
theorem V_iadd {x y : Int32} (hd : decode k.2.1 pc = .ok (.iadd, 1)) (hq : pc + 1 = q) (kk : V l g k T' mc ms Q T I P u w q L (.int (x + y) :: st)) : V l g k T' mc ms Q T I P u w pc L (.int y :: .int x :: st) := by
  subst hq
  intro p e s m args below meth c H locs ls hC hK hR hS hL
  exact lv_iadd hC.1.1.1 hC.1.1.2.1 hd (kk p e s m args below meth c H locs ls hC hK hR hS hL)
theorem V_isub {x y : Int32} (hd : decode k.2.1 pc = .ok (.isub, 1)) (hq : pc + 1 = q) (kk : V l g k T' mc ms Q T I P u w q L (.int (x - y) :: st)) : V l g k T' mc ms Q T I P u w pc L (.int y :: .int x :: st) := by
  subst hq
  intro p e s m args below meth c H locs ls hC hK hR hS hL
  exact lv_isub hC.1.1.1 hC.1.1.2.1 hd (kk p e s m args below meth c H locs ls hC hK hR hS hL)
theorem V_imul {x y : Int32} (hd : decode k.2.1 pc = .ok (.imul, 1)) (hq : pc + 1 = q) (kk : V l g k T' mc ms Q T I P u w q L (.int (x * y) :: st)) : V l g k T' mc ms Q T I P u w pc L (.int y :: .int x :: st) := by
  subst hq
  intro p e s m args below meth c H locs ls hC hK hR hS hL
  exact lv_imul hC.1.1.1 hC.1.1.2.1 hd (kk p e s m args below meth c H locs ls hC hK hR hS hL)
theorem V_iand {x y : Int32} (hd : decode k.2.1 pc = .ok (.iand, 1)) (hq : pc + 1 = q) (kk : V l g k T' mc ms Q T I P u w q L (.int (x &&& y) :: st)) : V l g k T' mc ms Q T I P u w pc L (.int y :: .int x :: st) := by
  subst hq
  intro p e s m args below meth c H locs ls hC hK hR hS hL
  exact lv_iand hC.1.1.1 hC.1.1.2.1 hd (kk p e s m args below meth c H locs ls hC hK hR hS hL)
theorem V_ior {x y : Int32} (hd : decode k.2.1 pc = .ok (.ior, 1)) (hq : pc + 1 = q) (kk : V l g k T' mc ms Q T I P u w q L (.int (x ||| y) :: st)) : V l g k T' mc ms Q T I P u w pc L (.int y :: .int x :: st) := by
  subst hq
  intro p e s m args below meth c H locs ls hC hK hR hS hL
  exact lv_ior hC.1.1.1 hC.1.1.2.1 hd (kk p e s m args below meth c H locs ls hC hK hR hS hL)
theorem V_ixor {x y : Int32} (hd : decode k.2.1 pc = .ok (.ixor, 1)) (hq : pc + 1 = q) (kk : V l g k T' mc ms Q T I P u w q L (.int (x ^^^ y) :: st)) : V l g k T' mc ms Q T I P u w pc L (.int y :: .int x :: st) := by
  subst hq
  intro p e s m args below meth c H locs ls hC hK hR hS hL
  exact lv_ixor hC.1.1.1 hC.1.1.2.1 hd (kk p e s m args below meth c H locs ls hC hK hR hS hL)
theorem V_ishl {x y : Int32} (hd : decode k.2.1 pc = .ok (.ishl, 1)) (hq : pc + 1 = q) (kk : V l g k T' mc ms Q T I P u w q L (.int (x <<< (y &&& 31)) :: st)) : V l g k T' mc ms Q T I P u w pc L (.int y :: .int x :: st) := by
  subst hq
  intro p e s m args below meth c H locs ls hC hK hR hS hL
  exact lv_ishl hC.1.1.1 hC.1.1.2.1 hd (kk p e s m args below meth c H locs ls hC hK hR hS hL)
theorem V_ishr {x y : Int32} (hd : decode k.2.1 pc = .ok (.ishr, 1)) (hq : pc + 1 = q) (kk : V l g k T' mc ms Q T I P u w q L (.int (x >>> (y &&& 31)) :: st)) : V l g k T' mc ms Q T I P u w pc L (.int y :: .int x :: st) := by
  subst hq
  intro p e s m args below meth c H locs ls hC hK hR hS hL
  exact lv_ishr hC.1.1.1 hC.1.1.2.1 hd (kk p e s m args below meth c H locs ls hC hK hR hS hL)
theorem V_ineg {x : Int32} (hd : decode k.2.1 pc = .ok (.ineg, 1)) (hq : pc + 1 = q) (kk : V l g k T' mc ms Q T I P u w q L (.int (-x) :: st)) : V l g k T' mc ms Q T I P u w pc L (.int x :: st) := by
  subst hq
  intro p e s m args below meth c H locs ls hC hK hR hS hL
  exact lv_ineg hC.1.1.1 hC.1.1.2.1 hd (kk p e s m args below meth c H locs ls hC hK hR hS hL)
theorem V_idiv {x y : Int32} (hne : ¬ y = 0) (hd : decode k.2.1 pc = .ok (.idiv, 1)) (hq : pc + 1 = q) (kk : V l g k T' mc ms Q T I P u w q L (.int (x / y) :: st)) : V l g k T' mc ms Q T I P u w pc L (.int y :: .int x :: st) := by
  subst hq
  intro p e s m args below meth c H locs ls hC hK hR hS hL
  exact lv_idiv hC.1.1.1 hC.1.1.2.1 hd hne (kk p e s m args below meth c H locs ls hC hK hR hS hL)
theorem V_irem {x y : Int32} (hne : ¬ y = 0) (hd : decode k.2.1 pc = .ok (.irem, 1)) (hq : pc + 1 = q) (kk : V l g k T' mc ms Q T I P u w q L (.int (x - x / y * y) :: st)) : V l g k T' mc ms Q T I P u w pc L (.int y :: .int x :: st) := by
  subst hq
  intro p e s m args below meth c H locs ls hC hK hR hS hL
  exact lv_irem hC.1.1.1 hC.1.1.2.1 hd hne (kk p e s m args below meth c H locs ls hC hK hR hS hL)
theorem V_dup {v : Value} (hc : v.category = 1) (hd : decode k.2.1 pc = .ok (.dup, 1)) (hq : pc + 1 = q) (kk : V l g k T' mc ms Q T I P u w q L (v :: v :: st)) : V l g k T' mc ms Q T I P u w pc L (v :: st) := by
  subst hq
  intro p e s m args below meth c H locs ls hC hK hR hS hL
  exact lv_dup hC.1.1.1 hC.1.1.2.1 hd hc (kk p e s m args below meth c H locs ls hC hK hR hS hL)
theorem V_pop {v : Value} (hc : v.category = 1) (hd : decode k.2.1 pc = .ok (.pop, 1)) (hq : pc + 1 = q) (kk : V l g k T' mc ms Q T I P u w q L (st)) : V l g k T' mc ms Q T I P u w pc L (v :: st) := by
  subst hq
  intro p e s m args below meth c H locs ls hC hK hR hS hL
  exact lv_pop hC.1.1.1 hC.1.1.2.1 hd hc (kk p e s m args below meth c H locs ls hC hK hR hS hL)
theorem V_dup2 {v v2 : Value} (hc : v.category = 1) (hc2 : v2.category = 1) (hd : decode k.2.1 pc = .ok (.dup2, 1)) (hq : pc + 1 = q) (kk : V l g k T' mc ms Q T I P u w q L (v :: v2 :: v :: v2 :: st)) : V l g k T' mc ms Q T I P u w pc L (v :: v2 :: st) := by
  subst hq
  intro p e s m args below meth c H locs ls hC hK hR hS hL
  exact lv_dup2_11 hC.1.1.1 hC.1.1.2.1 hd hc hc2 (kk p e s m args below meth c H locs ls hC hK hR hS hL)
theorem V_dup_x1 {v v2 : Value} (hc : v.category = 1) (hc2 : v2.category = 1) (hd : decode k.2.1 pc = .ok (.dup_x1, 1)) (hq : pc + 1 = q) (kk : V l g k T' mc ms Q T I P u w q L (v :: v2 :: v :: st)) : V l g k T' mc ms Q T I P u w pc L (v :: v2 :: st) := by
  subst hq
  intro p e s m args below meth c H locs ls hC hK hR hS hL
  exact lv_dup_x1 hC.1.1.1 hC.1.1.2.1 hd hc hc2 (kk p e s m args below meth c H locs ls hC hK hR hS hL)
theorem V_null  (hd : decode k.2.1 pc = .ok (.aconst_null, 1)) (hq : pc + 1 = q) (kk : V l g k T' mc ms Q T I P u w q L (fw_rf g none :: st)) : V l g k T' mc ms Q T I P u w pc L (st) := by
  subst hq
  intro p e s m args below meth c H locs ls hC hK hR hS hL
  exact lv_null hC.1.1.1 hC.1.1.2.1 hd (kk p e s m args below meth c H locs ls hC hK hR hS hL)
theorem V_ldc {i : Nat} {v : Int32} (hw : Cond.constant k.1.cls i v ∈ fw_U) (hd : decode k.2.1 pc = .ok (.ldc i, 2)) (hq : pc + 2 = q) (kk : V l g k T' mc ms Q T I P u w q L (.int v :: st)) : V l g k T' mc ms Q T I P u w pc L (st) := by
  subst hq
  intro p e s m args below meth c H locs ls hC hK hR hS hL
  exact lv_ldc hC.1.1.1 hC.1.1.2.1 hC.1.1.2.2.2.1 (hC.1.1.2.2.2.2 _ hw) hd (kk p e s m args below meth c H locs ls hC hK hR hS hL)
theorem V_iload_n {n : Fin 4} {i : Nat} {x : Int32} (hi : (n : Nat) = i) (hl : L[i]? = some (some (.int x))) (hd : decode k.2.1 pc = .ok (.iload_n n, 1)) (hq : pc + 1 = q) (kk : V l g k T' mc ms Q T I P u w q L (.int x :: st)) : V l g k T' mc ms Q T I P u w pc L (st) := by
  subst hq
  intro p e s m args below meth c H locs ls hC hK hR hS hL
  exact lv_iload_n hC.1.1.1 hC.1.1.2.1 hd hi (hL.2.2 _ _ hl).2 (kk p e s m args below meth c H locs ls hC hK hR hS hL)
theorem V_iload {i : Nat} {x : Int32} (hl : L[i]? = some (some (.int x))) (hd : decode k.2.1 pc = .ok (.iload i, 2)) (hq : pc + 2 = q) (kk : V l g k T' mc ms Q T I P u w q L (.int x :: st)) : V l g k T' mc ms Q T I P u w pc L (st) := by
  subst hq
  intro p e s m args below meth c H locs ls hC hK hR hS hL
  exact lv_iload hC.1.1.1 hC.1.1.2.1 hd (hL.2.2 _ _ hl).2 (kk p e s m args below meth c H locs ls hC hK hR hS hL)
theorem V_aload_n {n : Fin 4} {i a : Nat} (hi : (n : Nat) = i) (hl : L[i]? = some (some (.ref a))) (hd : decode k.2.1 pc = .ok (.aload_n n, 1)) (hq : pc + 1 = q) (kk : V l g k T' mc ms Q T I P u w q L (.ref a :: st)) : V l g k T' mc ms Q T I P u w pc L (st) := by
  subst hq
  intro p e s m args below meth c H locs ls hC hK hR hS hL
  exact lv_aload_n hC.1.1.1 hC.1.1.2.1 hd hi (hL.2.2 _ _ hl).2 (kk p e s m args below meth c H locs ls hC hK hR hS hL)
theorem V_aload {i a : Nat} (hl : L[i]? = some (some (.ref a))) (hd : decode k.2.1 pc = .ok (.aload i, 2)) (hq : pc + 2 = q) (kk : V l g k T' mc ms Q T I P u w q L (.ref a :: st)) : V l g k T' mc ms Q T I P u w pc L (st) := by
  subst hq
  intro p e s m args below meth c H locs ls hC hK hR hS hL
  exact lv_aload hC.1.1.1 hC.1.1.2.1 hd (hL.2.2 _ _ hl).2 (kk p e s m args below meth c H locs ls hC hK hR hS hL)
theorem V_aload_nr {n : Fin 4} {i : Nat} {r : Option Nat} (hi : (n : Nat) = i) (hl : L[i]? = some (some (fw_rf g r))) (hd : decode k.2.1 pc = .ok (.aload_n n, 1)) (hq : pc + 1 = q) (kk : V l g k T' mc ms Q T I P u w q L (fw_rf g r :: st)) : V l g k T' mc ms Q T I P u w pc L (st) := by
  subst hq
  intro p e s m args below meth c H locs ls hC hK hR hS hL
  cases r with
  | none => exact lv_aload_nN hC.1.1.1 hC.1.1.2.1 hd hi (hL.2.2 _ _ hl).2 (kk p e s m args below meth c H locs ls hC hK hR hS hL)
  | some a => exact lv_aload_n hC.1.1.1 hC.1.1.2.1 hd hi (hL.2.2 _ _ hl).2 (kk p e s m args below meth c H locs ls hC hK hR hS hL)
theorem V_aload_r {i : Nat} {r : Option Nat} (hl : L[i]? = some (some (fw_rf g r))) (hd : decode k.2.1 pc = .ok (.aload i, 2)) (hq : pc + 2 = q) (kk : V l g k T' mc ms Q T I P u w q L (fw_rf g r :: st)) : V l g k T' mc ms Q T I P u w pc L (st) := by
  subst hq
  intro p e s m args below meth c H locs ls hC hK hR hS hL
  cases r with
  | none => exact lv_aloadN hC.1.1.1 hC.1.1.2.1 hd (hL.2.2 _ _ hl).2 (kk p e s m args below meth c H locs ls hC hK hR hS hL)
  | some a => exact lv_aload hC.1.1.1 hC.1.1.2.1 hd (hL.2.2 _ _ hl).2 (kk p e s m args below meth c H locs ls hC hK hR hS hL)
theorem V_istore_n {n : Fin 4} {i : Nat} {x : Int32} (hi : (n : Nat) = i) (hn : i < k.2.2.1) (hL' : L.set i (some (.int x)) = L') (hd : decode k.2.1 pc = .ok (.istore_n n, 1)) (hq : pc + 1 = q) (kk : V l g k T' mc ms Q T I P u w q L' st) : V l g k T' mc ms Q T I P u w pc L ((.int x) :: st) := by
  subst hq
  subst hL'
  subst hi
  intro p e s m args below meth c H locs ls hC hK hR hS hL
  obtain ⟨ls', e', h'⟩ := lv_store1 (v := (.int x)) hL.has hn rfl
  have kk := kk p e s m args below meth c H locs ls' hC hK hR hS (hL.set hn rfl e')
  intro T0 hT X
  obtain ⟨t, a1, b1⟩ := kk T0 hT X
  refine ⟨t, ?_, b1⟩
  jvm_step X.here [X.here.top, ↓top_set X.here.top, hC.1.1.1, hC.1.1.2.1, hd, e', Value.isRef]
  exact a1
theorem V_istore {i : Nat} {x : Int32} (hn : i < k.2.2.1) (hL' : L.set i (some (.int x)) = L') (hd : decode k.2.1 pc = .ok (.istore i, 2)) (hq : pc + 2 = q) (kk : V l g k T' mc ms Q T I P u w q L' st) : V l g k T' mc ms Q T I P u w pc L ((.int x) :: st) := by
  subst hq
  subst hL'
  intro p e s m args below meth c H locs ls hC hK hR hS hL
  obtain ⟨ls', e', h'⟩ := lv_store1 (v := (.int x)) hL.has hn rfl
  have kk := kk p e s m args below meth c H locs ls' hC hK hR hS (hL.set hn rfl e')
  intro T0 hT X
  obtain ⟨t, a1, b1⟩ := kk T0 hT X
  refine ⟨t, ?_, b1⟩
  jvm_step X.here [X.here.top, ↓top_set X.here.top, hC.1.1.1, hC.1.1.2.1, hd, e', Value.isRef]
  exact a1
theorem V_astore_n {n : Fin 4} {i a : Nat} (hi : (n : Nat) = i) (hn : i < k.2.2.1) (hL' : L.set i (some (.ref a)) = L') (hd : decode k.2.1 pc = .ok (.astore_n n, 1)) (hq : pc + 1 = q) (kk : V l g k T' mc ms Q T I P u w q L' st) : V l g k T' mc ms Q T I P u w pc L ((.ref a) :: st) := by
  subst hq
  subst hL'
  subst hi
  intro p e s m args below meth c H locs ls hC hK hR hS hL
  obtain ⟨ls', e', h'⟩ := lv_store1 (v := (.ref a)) hL.has hn rfl
  have kk := kk p e s m args below meth c H locs ls' hC hK hR hS (hL.set hn rfl e')
  intro T0 hT X
  obtain ⟨t, a1, b1⟩ := kk T0 hT X
  refine ⟨t, ?_, b1⟩
  jvm_step X.here [X.here.top, ↓top_set X.here.top, hC.1.1.1, hC.1.1.2.1, hd, e', Value.isRef]
  exact a1
theorem V_astore {i a : Nat} (hn : i < k.2.2.1) (hL' : L.set i (some (.ref a)) = L') (hd : decode k.2.1 pc = .ok (.astore i, 2)) (hq : pc + 2 = q) (kk : V l g k T' mc ms Q T I P u w q L' st) : V l g k T' mc ms Q T I P u w pc L ((.ref a) :: st) := by
  subst hq
  subst hL'
  intro p e s m args below meth c H locs ls hC hK hR hS hL
  obtain ⟨ls', e', h'⟩ := lv_store1 (v := (.ref a)) hL.has hn rfl
  have kk := kk p e s m args below meth c H locs ls' hC hK hR hS (hL.set hn rfl e')
  intro T0 hT X
  obtain ⟨t, a1, b1⟩ := kk T0 hT X
  refine ⟨t, ?_, b1⟩
  jvm_step X.here [X.here.top, ↓top_set X.here.top, hC.1.1.1, hC.1.1.2.1, hd, e', Value.isRef]
  exact a1
theorem V_astore_nN {n : Fin 4} {i : Nat} (hi : (n : Nat) = i) (hn : i < k.2.2.1) (hL' : L.set i (some (.null)) = L') (hd : decode k.2.1 pc = .ok (.astore_n n, 1)) (hq : pc + 1 = q) (kk : V l g k T' mc ms Q T I P u w q L' st) : V l g k T' mc ms Q T I P u w pc L ((.null) :: st) := by
  subst hq
  subst hL'
  subst hi
  intro p e s m args below meth c H locs ls hC hK hR hS hL
  obtain ⟨ls', e', h'⟩ := lv_store1 (v := (.null)) hL.has hn rfl
  have kk := kk p e s m args below meth c H locs ls' hC hK hR hS (hL.set hn rfl e')
  intro T0 hT X
  obtain ⟨t, a1, b1⟩ := kk T0 hT X
  refine ⟨t, ?_, b1⟩
  jvm_step X.here [X.here.top, ↓top_set X.here.top, hC.1.1.1, hC.1.1.2.1, hd, e', Value.isRef]
  exact a1
theorem V_astoreN {i : Nat} (hn : i < k.2.2.1) (hL' : L.set i (some (.null)) = L') (hd : decode k.2.1 pc = .ok (.astore i, 2)) (hq : pc + 2 = q) (kk : V l g k T' mc ms Q T I P u w q L' st) : V l g k T' mc ms Q T I P u w pc L ((.null) :: st) := by
  subst hq
  subst hL'
  intro p e s m args below meth c H locs ls hC hK hR hS hL
  obtain ⟨ls', e', h'⟩ := lv_store1 (v := (.null)) hL.has hn rfl
  have kk := kk p e s m args below meth c H locs ls' hC hK hR hS (hL.set hn rfl e')
  intro T0 hT X
  obtain ⟨t, a1, b1⟩ := kk T0 hT X
  refine ⟨t, ?_, b1⟩
  jvm_step X.here [X.here.top, ↓top_set X.here.top, hC.1.1.1, hC.1.1.2.1, hd, e', Value.isRef]
  exact a1
theorem V_astore_nr {n : Fin 4} {i : Nat} {r : Option Nat} (hi : (n : Nat) = i) (hn : i < k.2.2.1) (hL' : L.set i (some (fw_rf g r)) = L') (hd : decode k.2.1 pc = .ok (.astore_n n, 1)) (hq : pc + 1 = q) (kk : V l g k T' mc ms Q T I P u w q L' st) : V l g k T' mc ms Q T I P u w pc L (fw_rf g r :: st) := by
  cases r with
  | none => exact V_astore_nN hi hn hL' hd hq kk
  | some a => exact V_astore_n hi hn hL' hd hq kk
theorem V_astore_r {i : Nat} {r : Option Nat} (hn : i < k.2.2.1) (hL' : L.set i (some (fw_rf g r)) = L') (hd : decode k.2.1 pc = .ok (.astore i, 2)) (hq : pc + 2 = q) (kk : V l g k T' mc ms Q T I P u w q L' st) : V l g k T' mc ms Q T I P u w pc L (fw_rf g r :: st) := by
  cases r with
  | none => exact V_astoreN hn hL' hd hq kk
  | some a => exact V_astore hn hL' hd hq kk
theorem V_iinc {i : Nat} {n : Int} {x v : Int32} (hl : L[i]? = some (some (.int x))) (hv : x + Int32.ofInt n = v) (hn : i < k.2.2.1) (hL' : L.set i (some (.int v)) = L') (hd : decode k.2.1 pc = .ok (.iinc i n, 3)) (hq : pc + 3 = q) (kk : V l g k T' mc ms Q T I P u w q L' st) : V l g k T' mc ms Q T I P u w pc L st := by
  subst hq
  subst hL'
  subst hv
  intro p e s m args below meth c H locs ls hC hK hR hS hL
  obtain ⟨ls', e', h'⟩ := lv_store1 (v := .int (x + Int32.ofInt n)) hL.has hn rfl
  have hg := (hL.2.2 _ _ hl).2
  have kk := kk p e s m args below meth c H locs ls' hC hK hR hS (hL.set hn rfl e')
  intro T0 hT X
  obtain ⟨t, a1, b1⟩ := kk T0 hT X
  refine ⟨t, ?_, b1⟩
  jvm_step X.here [X.here.top, ↓top_set X.here.top, hC.1.1.1, hC.1.1.2.1, hd, hg, e']
  exact a1
theorem V_icmp_eq {x y : Int32} {off : Int} {tgt : Nat} (hd : decode k.2.1 pc = .ok (.if_icmp .eq off, 3)) (ht : (pc : Int) + off = (tgt : Int)) (hq : pc + 3 = q) (kt : x = y → V l g k T' mc ms Q T I P u w tgt L st) (kf : ¬ x = y → V l g k T' mc ms Q T I P u w q L st) : V l g k T' mc ms Q T I P u w pc L (.int y :: .int x :: st) := by
  subst hq
  intro p e s m args below meth c H locs ls hC hK hR hS hL
  exact lv_icmp_eq hC.1.1.1 hC.1.1.2.1 hd ht (fun h => kt h p e s m args below meth c H locs ls hC hK hR hS hL) (fun h => kf h p e s m args below meth c H locs ls hC hK hR hS hL)
theorem V_if_eq {x : Int32} {off : Int} {tgt : Nat} (hd : decode k.2.1 pc = .ok (.ifCond .eq off, 3)) (ht : (pc : Int) + off = (tgt : Int)) (hq : pc + 3 = q) (kt : x = 0 → V l g k T' mc ms Q T I P u w tgt L st) (kf : ¬ x = 0 → V l g k T' mc ms Q T I P u w q L st) : V l g k T' mc ms Q T I P u w pc L (.int x :: st) := by
  subst hq
  intro p e s m args below meth c H locs ls hC hK hR hS hL
  exact lv_if_eq hC.1.1.1 hC.1.1.2.1 hd ht (fun h => kt h p e s m args below meth c H locs ls hC hK hR hS hL) (fun h => kf h p e s m args below meth c H locs ls hC hK hR hS hL)
theorem V_icmp_ne {x y : Int32} {off : Int} {tgt : Nat} (hd : decode k.2.1 pc = .ok (.if_icmp .ne off, 3)) (ht : (pc : Int) + off = (tgt : Int)) (hq : pc + 3 = q) (kt : ¬ x = y → V l g k T' mc ms Q T I P u w tgt L st) (kf : x = y → V l g k T' mc ms Q T I P u w q L st) : V l g k T' mc ms Q T I P u w pc L (.int y :: .int x :: st) := by
  subst hq
  intro p e s m args below meth c H locs ls hC hK hR hS hL
  exact lv_icmp_ne hC.1.1.1 hC.1.1.2.1 hd ht (fun h => kt h p e s m args below meth c H locs ls hC hK hR hS hL) (fun h => kf h p e s m args below meth c H locs ls hC hK hR hS hL)
theorem V_if_ne {x : Int32} {off : Int} {tgt : Nat} (hd : decode k.2.1 pc = .ok (.ifCond .ne off, 3)) (ht : (pc : Int) + off = (tgt : Int)) (hq : pc + 3 = q) (kt : ¬ x = 0 → V l g k T' mc ms Q T I P u w tgt L st) (kf : x = 0 → V l g k T' mc ms Q T I P u w q L st) : V l g k T' mc ms Q T I P u w pc L (.int x :: st) := by
  subst hq
  intro p e s m args below meth c H locs ls hC hK hR hS hL
  exact lv_if_ne hC.1.1.1 hC.1.1.2.1 hd ht (fun h => kt h p e s m args below meth c H locs ls hC hK hR hS hL) (fun h => kf h p e s m args below meth c H locs ls hC hK hR hS hL)
theorem V_icmp_lt {x y : Int32} {off : Int} {tgt : Nat} (hd : decode k.2.1 pc = .ok (.if_icmp .lt off, 3)) (ht : (pc : Int) + off = (tgt : Int)) (hq : pc + 3 = q) (kt : x < y → V l g k T' mc ms Q T I P u w tgt L st) (kf : ¬ x < y → V l g k T' mc ms Q T I P u w q L st) : V l g k T' mc ms Q T I P u w pc L (.int y :: .int x :: st) := by
  subst hq
  intro p e s m args below meth c H locs ls hC hK hR hS hL
  exact lv_icmp_lt hC.1.1.1 hC.1.1.2.1 hd ht (fun h => kt h p e s m args below meth c H locs ls hC hK hR hS hL) (fun h => kf h p e s m args below meth c H locs ls hC hK hR hS hL)
theorem V_if_lt {x : Int32} {off : Int} {tgt : Nat} (hd : decode k.2.1 pc = .ok (.ifCond .lt off, 3)) (ht : (pc : Int) + off = (tgt : Int)) (hq : pc + 3 = q) (kt : x < 0 → V l g k T' mc ms Q T I P u w tgt L st) (kf : ¬ x < 0 → V l g k T' mc ms Q T I P u w q L st) : V l g k T' mc ms Q T I P u w pc L (.int x :: st) := by
  subst hq
  intro p e s m args below meth c H locs ls hC hK hR hS hL
  exact lv_if_lt hC.1.1.1 hC.1.1.2.1 hd ht (fun h => kt h p e s m args below meth c H locs ls hC hK hR hS hL) (fun h => kf h p e s m args below meth c H locs ls hC hK hR hS hL)
theorem V_icmp_ge {x y : Int32} {off : Int} {tgt : Nat} (hd : decode k.2.1 pc = .ok (.if_icmp .ge off, 3)) (ht : (pc : Int) + off = (tgt : Int)) (hq : pc + 3 = q) (kt : y ≤ x → V l g k T' mc ms Q T I P u w tgt L st) (kf : ¬ y ≤ x → V l g k T' mc ms Q T I P u w q L st) : V l g k T' mc ms Q T I P u w pc L (.int y :: .int x :: st) := by
  subst hq
  intro p e s m args below meth c H locs ls hC hK hR hS hL
  exact lv_icmp_ge hC.1.1.1 hC.1.1.2.1 hd ht (fun h => kt h p e s m args below meth c H locs ls hC hK hR hS hL) (fun h => kf h p e s m args below meth c H locs ls hC hK hR hS hL)
theorem V_if_ge {x : Int32} {off : Int} {tgt : Nat} (hd : decode k.2.1 pc = .ok (.ifCond .ge off, 3)) (ht : (pc : Int) + off = (tgt : Int)) (hq : pc + 3 = q) (kt : 0 ≤ x → V l g k T' mc ms Q T I P u w tgt L st) (kf : ¬ 0 ≤ x → V l g k T' mc ms Q T I P u w q L st) : V l g k T' mc ms Q T I P u w pc L (.int x :: st) := by
  subst hq
  intro p e s m args below meth c H locs ls hC hK hR hS hL
  exact lv_if_ge hC.1.1.1 hC.1.1.2.1 hd ht (fun h => kt h p e s m args below meth c H locs ls hC hK hR hS hL) (fun h => kf h p e s m args below meth c H locs ls hC hK hR hS hL)
theorem V_icmp_gt {x y : Int32} {off : Int} {tgt : Nat} (hd : decode k.2.1 pc = .ok (.if_icmp .gt off, 3)) (ht : (pc : Int) + off = (tgt : Int)) (hq : pc + 3 = q) (kt : y < x → V l g k T' mc ms Q T I P u w tgt L st) (kf : ¬ y < x → V l g k T' mc ms Q T I P u w q L st) : V l g k T' mc ms Q T I P u w pc L (.int y :: .int x :: st) := by
  subst hq
  intro p e s m args below meth c H locs ls hC hK hR hS hL
  exact lv_icmp_gt hC.1.1.1 hC.1.1.2.1 hd ht (fun h => kt h p e s m args below meth c H locs ls hC hK hR hS hL) (fun h => kf h p e s m args below meth c H locs ls hC hK hR hS hL)
theorem V_if_gt {x : Int32} {off : Int} {tgt : Nat} (hd : decode k.2.1 pc = .ok (.ifCond .gt off, 3)) (ht : (pc : Int) + off = (tgt : Int)) (hq : pc + 3 = q) (kt : 0 < x → V l g k T' mc ms Q T I P u w tgt L st) (kf : ¬ 0 < x → V l g k T' mc ms Q T I P u w q L st) : V l g k T' mc ms Q T I P u w pc L (.int x :: st) := by
  subst hq
  intro p e s m args below meth c H locs ls hC hK hR hS hL
  exact lv_if_gt hC.1.1.1 hC.1.1.2.1 hd ht (fun h => kt h p e s m args below meth c H locs ls hC hK hR hS hL) (fun h => kf h p e s m args below meth c H locs ls hC hK hR hS hL)
theorem V_icmp_le {x y : Int32} {off : Int} {tgt : Nat} (hd : decode k.2.1 pc = .ok (.if_icmp .le off, 3)) (ht : (pc : Int) + off = (tgt : Int)) (hq : pc + 3 = q) (kt : x ≤ y → V l g k T' mc ms Q T I P u w tgt L st) (kf : ¬ x ≤ y → V l g k T' mc ms Q T I P u w q L st) : V l g k T' mc ms Q T I P u w pc L (.int y :: .int x :: st) := by
  subst hq
  intro p e s m args below meth c H locs ls hC hK hR hS hL
  exact lv_icmp_le hC.1.1.1 hC.1.1.2.1 hd ht (fun h => kt h p e s m args below meth c H locs ls hC hK hR hS hL) (fun h => kf h p e s m args below meth c H locs ls hC hK hR hS hL)
theorem V_if_le {x : Int32} {off : Int} {tgt : Nat} (hd : decode k.2.1 pc = .ok (.ifCond .le off, 3)) (ht : (pc : Int) + off = (tgt : Int)) (hq : pc + 3 = q) (kt : x ≤ 0 → V l g k T' mc ms Q T I P u w tgt L st) (kf : ¬ x ≤ 0 → V l g k T' mc ms Q T I P u w q L st) : V l g k T' mc ms Q T I P u w pc L (.int x :: st) := by
  subst hq
  intro p e s m args below meth c H locs ls hC hK hR hS hL
  exact lv_if_le hC.1.1.1 hC.1.1.2.1 hd ht (fun h => kt h p e s m args below meth c H locs ls hC hK hR hS hL) (fun h => kf h p e s m args below meth c H locs ls hC hK hR hS hL)
theorem V_goto {off : Int} {tgt : Nat} (hd : decode k.2.1 pc = .ok (.goto off, 3)) (ht : (pc : Int) + off = (tgt : Int)) (kk : V l g k T' mc ms Q T I P u w tgt L st) : V l g k T' mc ms Q T I P u w pc L st := by
  intro p e s m args below meth c H locs ls hC hK hR hS hL
  exact lv_goto hC.1.1.1 hC.1.1.2.1 hd ht (kk p e s m args below meth c H locs ls hC hK hR hS hL)
theorem V_ifnull {r : Option Nat} {off : Int} {tgt : Nat} (hd : decode k.2.1 pc = .ok (.ifnull off, 3)) (ht : (pc : Int) + off = (tgt : Int)) (hq : pc + 3 = q) (kt : r = none → V l g k T' mc ms Q T I P u w tgt L st) (kf : ∀ a, r = some a → V l g k T' mc ms Q T I P u w q L st) : V l g k T' mc ms Q T I P u w pc L (fw_rf g r :: st) := by
  subst hq
  intro p e s m args below meth c H locs ls hC hK hR hS hL
  cases r with
  | none => exact lv_ifnullN hC.1.1.1 hC.1.1.2.1 hd ht (kt rfl p e s m args below meth c H locs ls hC hK hR hS hL)
  | some a => exact lv_ifnull hC.1.1.1 hC.1.1.2.1 hd (kf a rfl p e s m args below meth c H locs ls hC hK hR hS hL)
theorem V_ifnonnull {r : Option Nat} {off : Int} {tgt : Nat} (hd : decode k.2.1 pc = .ok (.ifnonnull off, 3)) (ht : (pc : Int) + off = (tgt : Int)) (hq : pc + 3 = q) (kt : ∀ a, r = some a → V l g k T' mc ms Q T I P u w tgt L st) (kf : r = none → V l g k T' mc ms Q T I P u w q L st) : V l g k T' mc ms Q T I P u w pc L (fw_rf g r :: st) := by
  subst hq
  intro p e s m args below meth c H locs ls hC hK hR hS hL
  cases r with
  | none => exact lv_ifnonnullN hC.1.1.1 hC.1.1.2.1 hd (kf rfl p e s m args below meth c H locs ls hC hK hR hS hL)
  | some a => exact lv_ifnonnull hC.1.1.1 hC.1.1.2.1 hd ht (kt a rfl p e s m args below meth c H locs ls hC hK hR hS hL)
theorem V_ifnull_s {a : Nat} {off : Int} (hd : decode k.2.1 pc = .ok (.ifnull off, 3)) (hq : pc + 3 = q) (kk : V l g k T' mc ms Q T I P u w q L st) : V l g k T' mc ms Q T I P u w pc L (.ref a :: st) := by
  subst hq
  intro p e s m args below meth c H locs ls hC hK hR hS hL
  exact lv_ifnull hC.1.1.1 hC.1.1.2.1 hd (kk p e s m args below meth c H locs ls hC hK hR hS hL)
theorem V_ifnonnull_s {a : Nat} {off : Int} {tgt : Nat} (hd : decode k.2.1 pc = .ok (.ifnonnull off, 3)) (ht : (pc : Int) + off = (tgt : Int)) (kk : V l g k T' mc ms Q T I P u w tgt L st) : V l g k T' mc ms Q T I P u w pc L (.ref a :: st) := by
  intro p e s m args below meth c H locs ls hC hK hR hS hL
  exact lv_ifnonnull hC.1.1.1 hC.1.1.2.1 hd ht (kk p e s m args below meth c H locs ls hC hK hR hS hL)
theorem V_ifnull_n {off : Int} {tgt : Nat} (hd : decode k.2.1 pc = .ok (.ifnull off, 3)) (ht : (pc : Int) + off = (tgt : Int)) (kk : V l g k T' mc ms Q T I P u w tgt L st) : V l g k T' mc ms Q T I P u w pc L (.null :: st) := by
  intro p e s m args below meth c H locs ls hC hK hR hS hL
  exact lv_ifnullN hC.1.1.1 hC.1.1.2.1 hd ht (kk p e s m args below meth c H locs ls hC hK hR hS hL)
theorem V_ifnonnull_n {off : Int} (hd : decode k.2.1 pc = .ok (.ifnonnull off, 3)) (hq : pc + 3 = q) (kk : V l g k T' mc ms Q T I P u w q L st) : V l g k T' mc ms Q T I P u w pc L (.null :: st) := by
  subst hq
  intro p e s m args below meth c H locs ls hC hK hR hS hL
  exact lv_ifnonnullN hC.1.1.1 hC.1.1.2.1 hd (kk p e s m args below meth c H locs ls hC hK hR hS hL)
theorem V_lookup {dflt : Int} {ps : Array (Int × Int)} {len : Nat} {x : Int32} {off : Int} {tgt : Nat} (hd : decode k.2.1 pc = .ok (.lookupswitch dflt ps, len)) (hp : (ps.toList.zip (ps.toList.drop 1)).all (fun (a, next) => a.1 < next.1) = true) (ho : Op.lookupswitch.offset ps.toList dflt x.toInt = off) (ht : (pc : Int) + off = (tgt : Int)) (kk : V l g k T' mc ms Q T I P u w tgt L st) : V l g k T' mc ms Q T I P u w pc L (.int x :: st) := by
  intro p e s m args below meth c H locs ls hC hK hR hS hL
  exact lv_lookup hC.1.1.1 hC.1.1.2.1 hd hp ho ht (kk p e s m args below meth c H locs ls hC hK hR hS hL)
theorem V_tableOut {dflt lo hi : Int} {offs : Array Int} {len : Nat} {x : Int32} {tgt : Nat} (hd : decode k.2.1 pc = .ok (.tableswitch dflt lo hi offs, len)) (h : x.toInt < lo ∨ hi < x.toInt) (ht : (pc : Int) + dflt = (tgt : Int)) (kk : V l g k T' mc ms Q T I P u w tgt L st) : V l g k T' mc ms Q T I P u w pc L (.int x :: st) := by
  intro p e s m args below meth c H locs ls hC hK hR hS hL
  exact lv_tableOut hC.1.1.1 hC.1.1.2.1 hd h ht (kk p e s m args below meth c H locs ls hC hK hR hS hL)
theorem V_tableIn {dflt lo hi : Int} {offs : Array Int} {len : Nat} {x : Int32} {off : Int} {tgt : Nat} (hd : decode k.2.1 pc = .ok (.tableswitch dflt lo hi offs, len)) (h1 : ¬ x.toInt < lo) (h2 : ¬ hi < x.toInt) (ho : offs[(x.toInt - lo).toNat]? = some off) (ht : (pc : Int) + off = (tgt : Int)) (kk : V l g k T' mc ms Q T I P u w tgt L st) : V l g k T' mc ms Q T I P u w pc L (.int x :: st) := by
  intro p e s m args below meth c H locs ls hC hK hR hS hL
  exact lv_tableIn hC.1.1.1 hC.1.1.2.1 hd h1 h2 ho ht (kk p e s m args below meth c H locs ls hC hK hR hS hL)
/-! fields -/
def fw_at (T : fw_T) (a c n : Nat) : Prop := a < T.1 ∧ T.2 a = (c, n)
def fw_cl (ci : Nat) (C : String) (Tt : u_T) (N : Nat) (ty : Nat → FieldType) : Prop := vwCl[ci]? = some (C, Tt, N) ∧ ci < 9 ∧ (∀ w ∈ u_ws C Tt N, w ∈ fw_U) ∧ (∀ k, k < N → parseFieldDescriptor (Tt k).2.2.1 = some (ty k)) ∧ (∀ a, a < N → ∀ b, b < N → a ≠ b → (Tt a).2.1 ≠ (Tt b).2.1) ∧ ∀ (g : fw_G) (I : fw_I) (P : fw_P) (a : Nat), (fw_fs g I P a ci).length = N
theorem fw_at.get {T : fw_T} {a c : Nat} (h : fw_at T a c 0) (hc : c < 9) (g : fw_G) (I : fw_I) (P : fw_P) : (fw_ws g T I P)[a]? = some (g.1 + a, .inr (c, fw_fs g I P a c)) := by
  rw [fw_ws_get g T I P h.1, h.2, fw_ent_ob g I P a 0 hc]
theorem V_get {ci kf idx a N : Nat} {C : String} {Tt : u_T} {ty : Nat → FieldType} {v : Value} (hc : fw_cl ci C Tt N ty) (hk : kf < N) (hl : Cond.fieldLink k.1.cls idx (Tt kf).1 (Tt kf).2.1 (Tt kf).2.2.1 ∈ fw_U) (hT : fw_at T a ci 0) (hv : (fw_fs g I P a ci)[kf]? = some v) (hd : decode k.2.1 pc = .ok (.getfield idx, 3)) (hq : pc + 3 = q) (kk : V l g k T' mc ms Q T I P u w q L (v :: st)) : V l g k T' mc ms Q T I P u w pc L (.ref (g.1 + a) :: st) := by
  subst hq
  intro p e s m args below meth c H locs ls hC hK hR hS hL
  exact va_get (D := g.2.1) hC.1.1.1 hC.1.1.2.1 hC.1.1.2.2.2.2 hc.2.2.1 hC.1.1.2.2.2.1 hK.1 hR a (hT.get hc.2.1 g I P) hc.1 kf hk (hC.1.1.2.2.2.2 _ hl) (fun _ h9 => h9) hv hd (kk p e s m args below meth c H locs ls hC hK hR hS hL)
theorem V_puti {ci kf idx a N : Nat} {C : String} {Tt : u_T} {ty : Nat → FieldType} {fty : FieldType} {x : Int32} (hc : fw_cl ci C Tt N ty) (hk : kf < N) (hi : fw_int ci kf = true) (hl : Cond.fieldLink k.1.cls idx (Tt kf).1 (Tt kf).2.1 (Tt kf).2.2.1 ∈ fw_U) (hfin : (Tt kf).2.2.2 = false) (hty : ty kf = fty) (hn : narrow fty (.int x) = .int x) (hf : fits fty (.int x) = true) (hT : fw_at T a ci 0) (hd : decode k.2.1 pc = .ok (.putfield idx, 3)) (hq : pc + 3 = q) (kk : V l g k T' mc ms Q T (up2 I a kf x) P u w q L st) : V l g k T' mc ms Q T I P u w pc L (.int x :: .ref (g.1 + a) :: st) := by
  subst hq
  intro p e s m args below meth c H locs ls hC hK hR hS hL
  refine va_put (D := g.2.1) (ty := fty) hC.1.1.1 hC.1.1.2.1 hC.1.1.2.2.2.2 hc.2.2.1 ty hc.2.2.2.1 hc.2.2.2.2.1 hC.1.1.2.2.2.1 hK.1 hR (fw_D g T I P) hS a (hT.get hc.2.1 g I P) hc.1 kf hk (hC.1.1.2.2.2.2 _ hl) (fun _ h9 => h9) hfin (by rw [hc.2.2.2.1 kf hk, hty]) hn hf (by rw [hc.2.2.2.2.2]; exact hk) hd (fun H1 locs1 hP1 hD1 hS1 => ?_)
  have e9 : (fw_ws g T I P).set a (g.1 + a, .inr (ci, (fw_fs g I P a ci).set kf (.int x))) = fw_ws g T (up2 I a kf x) P :=
    fw_ws_set g T I (up2 I a kf x) P P hT.1 (by rw [hT.2, fw_ent_ob g _ P a 0 hc.2.1, fw_seti g I P a x ci kf hi]) (fun b hb => up2_ne I kf x hb) (fun _ _ => rfl)
  rw [e9] at hP1
  exact kk p e s m args below meth c H1 locs1 ls hC hK hP1 hS1 hL
theorem fw_ent_i (g : fw_G) (I : fw_I) (P : fw_P) (a n j : Nat) (x : Int32) : fw_ent g (up2 I a j x) P a (9, n) = .inl (g.2.2 9, n, .inl (upd (I a) j x)) := by
  show Sum.inl (g.2.2 9, n, Sum.inl (up2 I a j x a)) = _
  rw [up2_row]
  rfl
/-- the arrays of references: the class of their elements -/
def fw_el (kd ce : Nat) (r : vw_C) : Prop := (kd = 11 ∧ ce = 3 ∧ r = (RX3, TX3, 10)) ∨ (kd = 12 ∧ ce = 2 ∧ r = (RX2, TX2, 7)) ∨ (kd = 13 ∧ ce = 0 ∧ r = (RX0, TX0, 4)) ∨ (kd = 14 ∧ ce = 6 ∧ r = (RX6, TX6, 4))
theorem fw_el.ty {kd ce : Nat} {r : vw_C} (h : fw_el kd ce r) (g : fw_G) : (fw_tys g)[kd - 9]? = some (g.2.2 kd, .object r.1) := by
  rcases h with ⟨rfl, rfl, rfl⟩ | ⟨rfl, rfl, rfl⟩ | ⟨rfl, rfl, rfl⟩ | ⟨rfl, rfl, rfl⟩ <;> rfl
theorem fw_el.cl {kd ce : Nat} {r : vw_C} (h : fw_el kd ce r) : vwCl[ce]? = some r := by
  rcases h with ⟨rfl, rfl, rfl⟩ | ⟨rfl, rfl, rfl⟩ | ⟨rfl, rfl, rfl⟩ | ⟨rfl, rfl, rfl⟩ <;> rfl
theorem fw_el.lt {kd ce : Nat} {r : vw_C} (h : fw_el kd ce r) : ce < 9 := by
  rcases h with ⟨rfl, rfl, rfl⟩ | ⟨rfl, rfl, rfl⟩ | ⟨rfl, rfl, rfl⟩ | ⟨rfl, rfl, rfl⟩ <;> decide
theorem fw_el.ent {kd ce : Nat} {r : vw_C} (h : fw_el kd ce r) (g : fw_G) (I : fw_I) (P : fw_P) (a n : Nat) : fw_ent g I P a (kd, n) = .inl (g.2.2 kd, n, .inr (.inr (.inr (.inr (fun j => (P a j).map fun b => g.1 + b))))) := by
  rcases h with ⟨rfl, rfl, rfl⟩ | ⟨rfl, rfl, rfl⟩ | ⟨rfl, rfl, rfl⟩ | ⟨rfl, rfl, rfl⟩ <;> rfl

/-! arrays -/
def fw_ix (i : Int32) (j n : Nat) : Prop := ¬ i < 0 ∧ i.toNatClampNeg = j ∧ j < n
theorem fw_ix.in {i : Int32} {j n : Nat} (h : fw_ix i j n) : vp_in i n := fun q => q.elim h.1 (fun z => by have := h.2.1; have := h.2.2; omega)
theorem fw_ix_nI {j n : Nat} (h : j < n) (hn : n < 2 ^ 31) : fw_ix (nI j) j n := ⟨nI_pos (by omega), nI_clamp (by omega), h⟩
theorem V_iald {a n j : Nat} {i : Int32} (hT : fw_at T a 9 n) (hi : fw_ix i j n) (hd : decode k.2.1 pc = .ok (.iaload, 1)) (hq : pc + 1 = q) (kk : V l g k T' mc ms Q T I P u w q L (.int (I a j) :: st)) : V l g k T' mc ms Q T I P u w pc L (.int i :: .ref (g.1 + a) :: st) := by
  subst hq
  intro p e s m args below meth c H locs ls hC hK hR hS hL
  have kk := kk p e s m args below meth c H locs ls hC hK hR hS hL
  rw [← hi.2.1] at kk
  exact va_iald (D := g.2.1) hC.1.1.1 hC.1.1.2.1 hK.1 hR a 0 (by rw [fw_ws_get g T I P hT.1, hT.2]; rfl) rfl hi.in hd kk
theorem fw_upd (I : fw_I) (a j : Nat) (x : Int32) : up2 I a j x a = upd (I a) j x := by
  rw [up2_row]
  rfl
theorem V_iast {a n j : Nat} {i x : Int32} (hT : fw_at T a 9 n) (hi : fw_ix i j n) (hd : decode k.2.1 pc = .ok (.iastore, 1)) (hq : pc + 1 = q) (kk : V l g k T' mc ms Q T (up2 I a j x) P u w q L st) : V l g k T' mc ms Q T I P u w pc L (.int x :: .int i :: .ref (g.1 + a) :: st) := by
  subst hq
  intro p e s m args below meth c H locs ls hC hK hR hS hL
  refine va_iast (D := g.2.1) hC.1.1.1 hC.1.1.2.1 hK.1 hR (fw_D g T I P) hS a 0 (by rw [fw_ws_get g T I P hT.1, hT.2]; rfl) rfl hi.in hd (fun H1 locs1 hP1 hD1 hS1 => ?_)
  rw [hi.2.1, fw_ws_set g T I (up2 I a j x) P P hT.1 (by rw [hT.2]; exact fw_ent_i g _ P a n j x) (fun b hb => up2_ne I j x hb) (fun _ _ => rfl)] at hP1
  exact kk p e s m args below meth c H1 locs1 ls hC hK hP1 hS1 hL
theorem V_aald {kd ce a n j : Nat} {r : vw_C} {i : Int32} (he : fw_el kd ce r) (hT : fw_at T a kd n) (hi : fw_ix i j n) (hd : decode k.2.1 pc = .ok (.aaload, 1)) (hq : pc + 1 = q) (kk : V l g k T' mc ms Q T I P u w q L (fw_rf g (P a j) :: st)) : V l g k T' mc ms Q T I P u w pc L (.int i :: .ref (g.1 + a) :: st) := by
  subst hq
  intro p e s m args below meth c H locs ls hC hK hR hS hL
  have kk := kk p e s m args below meth c H locs ls hC hK hR hS hL
  rw [← hi.2.1, ← fw_rf_map] at kk
  exact va_aldq (D := g.2.1) hC.1.1.1 hC.1.1.2.1 hK.1 hR a (kd - 9) (by rw [fw_ws_get g T I P hT.1, hT.2, he.ent]) (he.ty g) hi.in hd kk
theorem V_aast {kd ce a n j b : Nat} {r : vw_C} {i : Int32} (he : fw_el kd ce r) (hT : fw_at T a kd n) (hb : fw_at T b ce 0) (hi : fw_ix i j n) (hd : decode k.2.1 pc = .ok (.aastore, 1)) (hq : pc + 1 = q) (kk : V l g k T' mc ms Q T I (up2 P a j (some b)) u w q L st) : V l g k T' mc ms Q T I P u w pc L (.ref (g.1 + b) :: .int i :: .ref (g.1 + a) :: st) := by
  subst hq
  intro p e s m args below meth c H locs ls hC hK hR hS hL
  refine va_astq (D := g.2.1) hC.1.1.1 hC.1.1.2.1 hK.1 hR (fw_D g T I P) hS a (kd - 9) b ce (by rw [fw_ws_get g T I P hT.1, hT.2, he.ent]) (he.ty g) (hb.get he.lt g I P) he.cl hi.in hd (fun H1 locs1 hP1 hD1 hS1 => ?_)
  rw [hi.2.1, fw_ws_set g T I I P (up2 P a j (some b)) hT.1 (by
    rw [hT.2, he.ent]
    congr 7
    funext x
    rw [up2_row]
    unfold va_up
    by_cases hx : x = j <;> simp [hx]) (fun _ _ => rfl) (fun b0 hb0 => up2_ne P j (some b) hb0)] at hP1
  exact kk p e s m args below meth c H1 locs1 ls hC hK hP1 hS1 hL
theorem V_alen {kd a n : Nat} (hkd : 9 ≤ kd ∧ kd < 15) (hT : fw_at T a kd n) (hd : decode k.2.1 pc = .ok (.arraylength, 1)) (hq : pc + 1 = q) (kk : V l g k T' mc ms Q T I P u w q L (.int (nI n) :: st)) : V l g k T' mc ms Q T I P u w pc L (.ref (g.1 + a) :: st) := by
  subst hq
  intro p e s m args below meth c H locs ls hC hK hR hS hL
  have kk := kk p e s m args below meth c H locs ls hC hK hR hS hL
  have key : ∀ (x : vp_A) (ty : FieldType), (fw_ws g T I P)[a]? = some (g.1 + a, .inl (g.2.2 kd, x)) → (fw_tys g)[kd - 9]? = some (g.2.2 kd, ty) → x.1 = n → W p l e (fw_rm k mc ms) s m args below meth c H locs u w (MQ below (fw_post g T' Q) args s mc ms (fw_A g)) (F0 m pc ls (.ref (g.1 + a) :: st)) := by
    intro x ty h1 h2 h3
    exact va_alen (D := g.2.1) hC.1.1.1 hC.1.1.2.1 hK.1 hR a (kd - 9) h1 h2 (by rw [h3]; rfl) hd kk
  have hget := fw_ws_get g T I P hT.1
  rw [hT.2] at hget
  rcases (show kd = 9 ∨ kd = 10 ∨ kd = 11 ∨ kd = 12 ∨ kd = 13 ∨ kd = 14 by omega) with rfl | rfl | rfl | rfl | rfl | rfl
  · exact key (n, .inl (I a)) .int hget rfl rfl
  · exact key (n, .inl (I a)) .int hget rfl rfl
  · exact key (n, .inr (.inr (.inr (.inr (fun j => (P a j).map fun b => g.1 + b))))) (.object RX3) hget rfl rfl
  · exact key (n, .inr (.inr (.inr (.inr (fun j => (P a j).map fun b => g.1 + b))))) (.object RX2) hget rfl rfl
  · exact key (n, .inr (.inr (.inr (.inr (fun j => (P a j).map fun b => g.1 + b))))) (.object RX0) hget rfl rfl
  · exact key (n, .inr (.inr (.inr (.inr (fun j => (P a j).map fun b => g.1 + b))))) (.object RX6) hget rfl rfl
/-! ends -/
theorem V_ireturn {ty : FieldType} {v : Int32} (hr : k.2.2.2.1 = some ty) (hn : narrow ty (.int v) = .int v) (hd : decode k.2.1 pc = .ok (.ireturn, 1)) (hT : T = T') (hu : u = mc) (hw : w = ms) (hQ : Q (some (.int v)) I P) : V l g k T' mc ms Q T I P u w pc L [.int v] := by
  subst hT hu hw
  intro p e s m args below meth c H locs ls hC hK hR hS hL
  exact W.zret (v := v) hC.1.1.1 hC.1.1.2.1 (hC.1.2.1.trans hr) hn (fun t ht hW => ⟨⟨_, I, P, rfl, hQ, by rw [ht]; exact hR⟩, hS.F ht⟩) hS.2.2 hd hC.1.2.2.1
theorem V_return (hr : k.2.2.2.1 = none) (hd : decode k.2.1 pc = .ok (.return_, 1)) (hT : T = T') (hu : u = mc) (hw : w = ms) (hQ : Q none I P) : V l g k T' mc ms Q T I P u w pc L [] := by
  subst hT hu hw
  intro p e s m args below meth c H locs ls hC hK hR hS hL
  exact W.vret hC.1.1.1 hC.1.1.2.1 (hC.1.2.1.trans hr) (fun t ht hW => ⟨⟨_, I, P, rfl, hQ, by rw [ht]; exact hR⟩, hS.F ht⟩) hS.2.2 hd hC.1.2.2.1
theorem V_areturn {C : String} {r : Option Nat} (hr : k.2.2.2.1 = some (.object C)) (hd : decode k.2.1 pc = .ok (.areturn, 1)) (hT : T = T') (hu : u = mc) (hw : w = ms) (hQ : Q (some (fw_rf g r)) I P) : V l g k T' mc ms Q T I P u w pc L [fw_rf g r] := by
  subst hT hu hw
  intro p e s m args below meth c H locs ls hC hK hR hS hL
  exact W.aret (v := fw_rf g r) hC.1.1.1 hC.1.1.2.1 (hC.1.2.1.trans hr) (Or.inl ⟨C, rfl⟩) (by cases r with | none => exact Or.inl rfl | some a => exact Or.inr ⟨_, rfl⟩) (fun t ht hW => ⟨⟨_, I, P, rfl, hQ, by rw [ht]; exact hR⟩, hS.F ht⟩) hS.2.2 hd hC.1.2.2.1
/-! allocation -/
def fw_push (T : fw_T) (kd : Nat × Nat) : fw_T := (T.1 + 1, fun a => if a = T.1 then kd else T.2 a)
def fw_z {α : Type} (I : Nat → Nat → α) (n : Nat) (x : α) : Nat → Nat → α := fun b => if b = n then (fun _ => x) else I b
theorem fw_ws_push (g : fw_G) (T : fw_T) (I : fw_I) (P : fw_P) (kd : Nat × Nat) : fw_ws g (fw_push T kd) (fw_z I T.1 0) (fw_z P T.1 none) = fw_ws g T I P ++ [(g.1 + T.1, fw_ent g (fun _ _ => 0) (fun _ _ => none) T.1 kd)] := by
  unfold fw_ws fw_push
  simp only [List.range_succ, List.map_append, List.map_cons, List.map_nil, if_true]
  congr 1
  · apply List.map_congr_left
    intro a ha
    have : a ≠ T.1 := by have := List.mem_range.mp ha; omega
    simp only [this, if_false]
    congr 1
    unfold fw_ent fw_fs fw_z
    simp only [this, if_false]
  · congr 2
    unfold fw_ent fw_fs fw_z
    simp only [if_true]
theorem fw_sized {p : Program} {e : Env} {s : State} {m : MethodId} {args : Array Value} {below : List Frame} {meth : Method} {c : Code} {R : Room} {H : Heap} {locs : List Loc} {Qw : State → Prop} {f : JFrame} (hz : s.heap.size + u = g.1 + T.1) (hg : g.1 ≤ s.heap.size) (hS : va_S (fw_A g) s.heap H locs) (hR : fw_R g T I P H) (h : H.size = g.1 + T.1 → W p l e R s m args below meth c H locs u w Qw f) : W p l e R s m args below meth c H locs u w Qw f := by
  intro T0 hT0 X
  refine h ?_ T0 hT0 X
  have h1 := X.heapSize
  rw [hT0] at h1
  have h2 := hS.1
  rcases Nat.eq_zero_or_pos T.1 with h0 | h0
  · omega
  · have h3 := (hR (T.1 - 1) _ (fw_ws_get g T I P (a := T.1 - 1) (by omega))).lt
    show H.size = _
    have h4 : (g.1 + (T.1 - 1), fw_ent g I P (T.1 - 1) (T.2 (T.1 - 1))).1 = g.1 + (T.1 - 1) := rfl
    omega
theorem fw_newcell {p : Program} {e : Env} {s : State} {m : MethodId} {args : Array Value} {below : List Frame} {meth : Method} {c : Code} {H1 : Heap} {locs : List Loc} {ls : Array Slot} {a0 : Nat} {e0 : va_E} {kd : Nat × Nat} {n1 : Nat}
    (hC : fw_C g k p s m args meth c ∧ s.heap.size + u = g.1 + T.1) (hK : fw_K g s) (hL : fw_L ls k.2.2.1 L) (ha : a0 = g.1 + T.1) (he : fw_ent g (fun _ _ => 0) (fun _ _ => none) T.1 kd = e0)
    (hP1 : va_P g.2.1 vwCl (fw_ws g T I P ++ [(a0, e0)]) H1) (hS1 : va_S (fw_A g) s.heap H1 locs)
    (kk : V l g k T' mc ms Q (fw_push T kd) (fw_z I T.1 0) (fw_z P T.1 none) (u + 1) n1 q L (.ref (g.1 + T.1) :: st)) :
    W p l e (fw_rm k mc ms) s m args below meth c H1 locs (u + 1) n1 (MQ below (fw_post g T' Q) args s mc ms (fw_A g)) (F0 m q ls (.ref a0 :: st)) := by
  subst ha
  subst he
  rw [← fw_ws_push] at hP1
  exact kk p e s m args below meth c H1 locs ls ⟨hC.1, by show _ = g.1 + (T.1 + 1); have := hC.2; omega⟩ hK hP1 hS1 hL
theorem V_new {ci idx N : Nat} {C : String} {Tt : u_T} {ty : Nat → FieldType} (hc : fw_cl ci C Tt N ty) (hdf : ∀ j, j < N → defaultValue (ty j) = vp_V (fw_fs g (fun _ _ => 0) (fun _ _ => none) T.1 ci) j) (hl : Cond.classLink k.1.cls idx C ∈ fw_U) (hin : Cond.instantiable C N ∈ fw_U) (hini : Cond.initialized C ∈ fw_U) (hu : u + 1 ≤ mc) (hw : w + N ≤ ms) (hd : decode k.2.1 pc = .ok (.new idx, 3)) (hq : pc + 3 = q)
    (kk : V l g k T' mc ms Q (fw_push T (ci, 0)) (fw_z I T.1 0) (fw_z P T.1 none) (u + 1) (w + N) q L (.ref (g.1 + T.1) :: st)) : V l g k T' mc ms Q T I P u w pc L st := by
  subst hq
  intro p e s m args below meth c H locs ls hC hK hR hS hL
  refine fw_sized hC.2 hC.1.2.2.2.2 hS hR (fun hz => ?_)
  have hcl := hC.1.1.2.2.2.2
  refine W.newcK hC.1.1.1 hC.1.1.2.1 hC.1.1.2.2.2.1 (hcl _ hl) (hcl _ hin) (hcl _ hini) rfl hd hu hw (hK.1.1 ci _ hc.1).2.1 rfl (fun H1 kC hkC e1 z1 o1 => ?_)
  have hk : ∀ (k0 : Nat) (x : Nat × va_E), (fw_ws g T I P)[k0]? = some x → H1[x.1]? = H[x.1]? := fun k0 x hx => o1 x.1 ((hR k0 x hx).lt)
  refine fw_newcell hC hK hL hz (fw_ent_ob g _ _ T.1 0 hc.2.1) ((va_P.kept hR hk).app (fun k0 x hx => ?_)) ⟨Nat.le_trans hS.1 (by omega), fun x h1 h2 => (o1 x (Nat.lt_of_lt_of_le h1 hS.1)).trans (hS.2.1 x h1 h2), hS.2.2⟩ kk
  have hz0 : k0 < 1 := (List.getElem?_eq_some_iff.mp hx).1
  rw [show k0 = 0 by omega] at hx
  cases hx
  exact ⟨_, hc.1, (u_born ty hcl hc.2.2.1 (hK.1.1 ci _ hc.1) hkC e1 hc.2.2.2.1).to hdf⟩
theorem V_newa {kd N : Nat} {at0 : ArrayType} {n : Int32} {ty : FieldType} (hkd : kd = 9 ∧ ty = .int) (hty : newarray.typeOf at0 = ty) (hac : Cond.arrayClass ty ∈ fw_U) (hn : ¬ n < 0) (hN : n.toNatClampNeg = N) (hb : N * componentBytes ty ≤ 536870912) (hu : u + 1 ≤ mc) (hw : w + N ≤ ms) (hd : decode k.2.1 pc = .ok (.newarray at0, 2)) (hq : pc + 2 = q)
    (kk : V l g k T' mc ms Q (fw_push T (kd, N)) (fw_z I T.1 0) (fw_z P T.1 none) (u + 1) (w + N) q L (.ref (g.1 + T.1) :: st)) : V l g k T' mc ms Q T I P u w pc L (.int n :: st) := by
  subst hty
  subst hq
  intro p e s m args below meth c H locs ls hC hK hR hS hL
  refine fw_sized hC.2 hC.1.2.2.2.2 hS hR (fun hz => ?_)
  refine va_newaK hC.1.1.1 hC.1.1.2.1 (hC.1.1.2.2.2.2 _ hac) rfl hd rfl hn hN hb hu hw rfl (fun H1 cA e1 z1 o1 hAr hNm => ?_)
  have hk : ∀ (k0 : Nat) (x : Nat × va_E), (fw_ws g T I P)[k0]? = some x → H1[x.1]? = H[x.1]? := fun k0 x hx => o1 x.1 ((hR k0 x hx).lt)
  have hS1 : va_S (fw_A g) s.heap H1 locs := ⟨Nat.le_trans hS.1 (by omega), fun x h1 h2 => (o1 x (Nat.lt_of_lt_of_le h1 hS.1)).trans (hS.2.1 x h1 h2), hS.2.2⟩
  obtain ⟨rfl, h9⟩ := hkd
  rw [h9] at e1 hNm
  have hcA : cA = g.2.2 9 := by
    have h2 := (hK.1.2 0 _ rfl).2
    exact Option.some.inj (hNm.symm.trans h2)
  subst hcA
  refine fw_newcell hC hK hL hz rfl ((va_P.kept hR hk).app (fun k0 x hx => ?_)) hS1 kk
  have hz0 : k0 < 1 := (List.getElem?_eq_some_iff.mp hx).1
  rw [show k0 = 0 by omega] at hx
  cases hx
  exact e1

theorem V_anew {kd ce N idx : Nat} {r : vw_C} {n : Int32} (he : fw_el kd ce r) (hl : Cond.classLink k.1.cls idx r.1 ∈ fw_U) (hov : r.1 ∈ fw_aos) (hn : ¬ n < 0) (hN : n.toNatClampNeg = N) (hb : N * 4 ≤ 536870912) (hu : u + 1 ≤ mc) (hw : w + N ≤ ms) (hd : decode k.2.1 pc = .ok (.anewarray idx, 3)) (hq : pc + 3 = q)
    (kk : V l g k T' mc ms Q (fw_push T (kd, N)) (fw_z I T.1 0) (fw_z P T.1 none) (u + 1) (w + N) q L (.ref (g.1 + T.1) :: st)) : V l g k T' mc ms Q T I P u w pc L (.int n :: st) := by
  subst hN
  subst hq
  intro p e s m args below meth c H locs ls hC hK hR hS hL
  refine fw_sized hC.2 hC.1.2.2.2.2 hS hR (fun hz => ?_)
  refine W.anew hC.1.1.1 hC.1.1.2.1 hC.1.1.2.2.2.1 (hC.1.1.2.2.2.2 _ hl) (va_AO.use (hK.2.2 _ hov)) rfl hd rfl hn hb hu hw (fun cA kA comp f1 f2 f3 f4 => ?_)
  generalize hH1 : H.push ({ cls := cA, slots := Array.replicate n.toNatClampNeg .null, vm := .none } : Cell) = H1
  have z1 : H1.size = H.size + 1 := by rw [← hH1, Array.size_push]
  have e1 : H1[H.size]? = some (arrV cA n.toNatClampNeg (fun _ => .null)) := by rw [← hH1, Array.getElem?_push_size, ← arrV_new]
  have o1 : ∀ x : Nat, x < H.size → H1[x]? = H[x]? := fun x hx => by rw [← hH1, Array.getElem?_push, if_neg (Nat.ne_of_lt hx)]
  have hk : ∀ (k0 : Nat) (x : Nat × va_E), (fw_ws g T I P)[k0]? = some x → H1[x.1]? = H[x.1]? := fun k0 x hx => o1 x.1 ((hR k0 x hx).lt)
  have hS1 : va_S (fw_A g) s.heap H1 locs := ⟨Nat.le_trans hS.1 (by omega), fun x h1 h2 => (o1 x (Nat.lt_of_lt_of_le h1 hS.1)).trans (hS.2.1 x h1 h2), hS.2.2⟩
  have hcA : cA = g.2.2 kd := by
    obtain ⟨kA2, comp2, h1, h2, h3, h4⟩ := (hK.1.2 (kd - 9) _ (he.ty g)).2
    have h5 : s.vm.findClass ("[" ++ (FieldType.object r.1).toString) = some cA := by first | exact f1 | exact f4
    exact Option.some.inj (h5.symm.trans h4)
  subst hcA
  refine fw_newcell hC hK hL hz (he.ent g _ _ T.1 n.toNatClampNeg) ((va_P.kept hR hk).app (fun k0 x hx => ?_)) hS1 kk
  have hz0 : k0 < 1 := (List.getElem?_eq_some_iff.mp hx).1
  rw [show k0 = 0 by omega] at hx
  cases hx
  show H1[H.size]? = some (vp_cell _ _)
  rw [e1]
  rfl
theorem V_putrF {ci kf idx a N : Nat} {C : String} {Tt : u_T} {ty : Nat → FieldType} {b : Nat} (hc : fw_cl ci C Tt N ty) (hk : kf < N) (hi : fw_refs ci kf = true) (hl : Cond.fieldLink k.1.cls idx (Tt kf).1 (Tt kf).2.1 (Tt kf).2.2.1 ∈ fw_U) (hfin : (Tt kf).2.2.2 = true) (hinit : k.1.name = "<init>") (hown : (Tt kf).1 = k.1.cls) (hn : narrow (ty kf) (.ref (g.1 + b)) = .ref (g.1 + b)) (hf : fits (ty kf) (.ref (g.1 + b)) = true) (hT : fw_at T a ci 0) (hd : decode k.2.1 pc = .ok (.putfield idx, 3)) (hq : pc + 3 = q) (kk : V l g k T' mc ms Q T I (up2 P a kf (some b)) u w q L st) : V l g k T' mc ms Q T I P u w pc L (.ref (g.1 + b) :: .ref (g.1 + a) :: st) := by
  subst hq
  intro p e s m args below meth c H locs ls hC hK hR hS hL
  refine va_putF (D := g.2.1) (ty := ty kf) hC.1.1.1 hC.1.1.2.1 hC.1.1.2.2.2.2 hc.2.2.1 ty hc.2.2.2.1 hc.2.2.2.2.1 hC.1.1.2.2.2.1 hK.1 hR (fw_D g T I P) hS a (hT.get hc.2.1 g I P) hc.1 kf hk (hC.1.1.2.2.2.2 _ hl) (fun _ h9 => h9) hfin (hC.1.2.2.2.1.trans hinit) hown (hc.2.2.2.1 kf hk) hn hf (by rw [hc.2.2.2.2.2]; exact hk) hd (fun H1 locs1 hP1 hD1 hS1 => ?_)
  have e9 : (fw_ws g T I P).set a (g.1 + a, .inr (ci, (fw_fs g I P a ci).set kf (.ref (g.1 + b)))) = fw_ws g T I (up2 P a kf (some b)) :=
    fw_ws_set g T I I P (up2 P a kf (some b)) hT.1 (by rw [hT.2, fw_ent_ob g _ _ a 0 hc.2.1, ← fw_setr g I P a (some b) ci kf hi]; rfl) (fun _ _ => rfl) (fun b0 hb => up2_ne P kf (some b) hb)
  rw [e9] at hP1
  exact kk p e s m args below meth c H1 locs1 ls hC hK hP1 hS1 hL
theorem V_objInit {idx a : Nat} (hl : Cond.methodLink k.1.cls idx Lib.objectInit ∈ fw_U) (hin : Cond.instanceMethod Lib.objectInit ∈ fw_U) (hcode : Cond.code Lib.objectInit ⟨#[0xb1]⟩ 1 none ∈ fw_U) (hd : decode k.2.1 pc = .ok (.invokespecial idx, 3)) (hq : pc + 3 = q) (hfr : 1 ≤ k.2.2.2.2.1) (hlo : (st.map fun v => v.category).sum + 12 ≤ k.2.2.2.2.2) (kk : V l g k T' mc ms Q T I P u w q L st) : V l g k T' mc ms Q T I P u w pc L (.ref a :: st) := by
  subst hq
  intro p e s m args below meth c H locs ls hC hK hR hS hL
  refine W.objInit hC.1.1.1 hC.1.1.2.1 hC.1.1.2.2.2.1 (hC.1.1.2.2.2.2 _ hl) (hC.1.1.2.2.2.2 _ hin) (hC.1.1.2.2.2.2 _ hcode) rfl (by show ls.size = c.maxLocals; rw [hC.1.1.2.2.1]; exact hL.1) rfl hd hfr (by show 2 * (F0 m pc ls (.ref a :: st)).monitorRoom + _ + 12 ≤ _; rw [show (F0 m pc ls (.ref a :: st)).monitorRoom = 0 from rfl]; show 2 * 0 + _ + 12 ≤ k.2.2.2.2.2; omega) ?_
  exact kk p e s m args below meth c H locs ls hC hK hR hS hL
/-! calls -/
def fw_plain (y : MethodName) (n : Nat) : Prop := y.cls ≠ "java/lang/invoke/MethodHandle" ∧ y.cls ≠ "java/lang/invoke/VarHandle" ∧ (parseMethodDescriptor y.desc).map (fun d => d.parameters.length) = some n
def fw_kc (k0 : fw_M) (n : Nat) : Prop := Cond.code k0.1 k0.2.1 k0.2.2.1 k0.2.2.2.1 ∈ fw_U ∧ Cond.initialized k0.1.cls ∈ fw_U ∧ fw_plain k0.1 n
def fw_kv (k0 : fw_M) (ci n : Nat) : Prop := fw_kc k0 n ∧ Cond.instanceMethod k0.1 ∈ fw_U ∧ Cond.selects k0.1.cls k0.1 k0.1 ∈ fw_U ∧ ci < 9 ∧ ∃ q, vwCl[ci]? = some q ∧ q.1 = k0.1.cls
def fw_ks (k0 : fw_M) (n : Nat) : Prop := fw_kc k0 n ∧ Cond.static k0.1 ∈ fw_U
def fw_ki (k0 : fw_M) (n : Nat) : Prop := fw_kc k0 n ∧ Cond.instanceMethod k0.1 ∈ fw_U ∧ k0.1.name = "<init>"
/-- the callee's room fits the caller's -/
def fw_fit (k k0 : fw_M) : Prop := k0.2.2.2.2.1 + 1 ≤ k.2.2.2.2.1 ∧ 8 + (k0.2.2.1 + 11) + k0.2.2.2.2.2 ≤ k.2.2.2.2.2
theorem fw_go {p : Program} {e : Env} {s : State} {m : MethodId} {args : Array Value} {below : List Frame} {meth : Method} {c : Code} {R : Room} {H : Heap} {locs : List Loc} {Qw : State → Prop} {ls : Array Slot} {st0 rest : List Value} {a : Array Value} {mc0 ms0 : Nat} {T0 : fw_T} {Q0 : Option Value → fw_I → fw_P → Prop}
    (hr : va_Run p l e R s m args below meth c H locs u w mc0 ms0 (F0 m pc ls st0) rest (fw_post g T0 Q0 a) (fw_A g)) (hS : va_S (fw_A g) s.heap H locs)
    (kk : ∀ (v : Option Value) (I1 : fw_I) (P1 : fw_P) (H1 : Heap) (locs1 : List Loc), Q0 v I1 P1 → fw_R g T0 I1 P1 H1 → va_S (fw_A g) s.heap H1 locs1 → W p l e R s m args below meth c H1 locs1 (u + mc0) (w + ms0) Qw (F0 m (pc + 3) ls (v.toList ++ rest))) : W p l e R s m args below meth c H locs u w Qw (F0 m pc ls st0) := by
  intro T1 hT X
  obtain ⟨v, st₀, t, T2, L1, h0, X', hL1, e1, e2, ⟨⟨v2, I1, P1, hv, hQ0, hR1⟩, hz, hk⟩, st1⟩ := hr T1 hT X
  cases hv
  rw [h0] at hz hk
  obtain ⟨t2, a1, b1⟩ := kk v I1 P1 T2.heap (locs ++ L1) hQ0 (by rw [e1]; exact hR1)
    ⟨Nat.le_trans hS.1 (by rw [e1]; exact hz), fun q0 h1 h2 => by rw [e1, hk q0 (Nat.lt_of_lt_of_le h1 hS.1) h2]; exact hS.2.1 q0 h1 h2, fun q0 hq0 => by
      rcases List.mem_append.mp hq0 with h | h
      · exact hS.2.2 q0 h
      · exact hL1 q0 h⟩ T2 rfl X'
  exact ⟨t2, st1 t2 a1, b1⟩
theorem fw_callB {k0 : fw_M} {idx n mc0 ms0 : Nat} {p : Program} {s : State} {m : MethodId} {args : Array Value} {meth : Method} {c : Code} (hC : fw_C g k p s m args meth c) (hk : fw_kc k0 n) (hm : Cond.methodLink k.1.cls idx k0.1 ∈ fw_U) (hf : fw_fit k k0) : CallB (fw_rm k mc ms) s args k.1.cls idx k0.1 k0.2.1 k0.2.2.1 k0.2.2.2.1 (fw_wsk k0) (fw_rm k0 mc0 ms0) mc0 ms0 n :=
  callB_of n hC.1.2.2.2.2 (fw_wsk_good hk.1) rfl rfl rfl (hC.1.2.2.2.2 _ hk.2.1) (hC.1.2.2.2.2 _ hm) ⟨hk.2.2.1, hk.2.2.2.1, hk.2.2.2.2⟩ hf
theorem V_call {k0 : fw_M} {ci n idx a mc0 ms0 : Nat} {As S0 : List Value} {T0 : fw_T} {Q0 : Option Value → fw_I → fw_P → Prop} (hsp : Sp l g k0 T (.ref (g.1 + a) :: As) I P T0 mc0 ms0 Q0) (hk : fw_kv k0 ci n) (hm : Cond.methodLink k.1.cls idx k0.1 ∈ fw_U) (hf : fw_fit k k0) (hT : fw_at T a ci 0) (hn : As.length = n) (hst : S0 = As.reverse ++ .ref (g.1 + a) :: st) (hcs : (st.map fun v => v.category).sum ≤ 8) (hu : u + mc0 ≤ mc) (hw : w + ms0 ≤ ms) (h0 : T0.1 = T.1 + mc0) (hd : decode k.2.1 pc = .ok (.invokevirtual idx, 3)) (hq : pc + 3 = q)
    (kk : ∀ (v : Option Value) (I1 : fw_I) (P1 : fw_P), Q0 v I1 P1 → V l g k T' mc ms Q T0 I1 P1 (u + mc0) (w + ms0) q L (v.toList ++ st)) : V l g k T' mc ms Q T I P u w pc L S0 := by
  subst hq
  intro p e s m args below meth c H locs ls hC hK hR hS hL
  refine fw_sized hC.2 hC.1.2.2.2.2 hS hR (fun hz => ?_)
  obtain ⟨r, hr1, hr2⟩ := hk.2.2.2.2
  have hrec := va_recv (q0 := a) hK.1 hR hr1 (hT.get hk.2.2.2.1 g I P)
  rw [hr2] at hrec
  refine fw_go (va_runV (C := k0.1.cls) (b := g.1 + a) (As := As) (rest := st) hC.1.1 hsp ⟨fw_callB hC.1 hk.1 hm hf, hC.1.1.2.2.2.2 _ hk.2.1, hC.1.1.2.2.2.2 _ hk.2.2.1⟩ ⟨fw_blind _ _ _ _ _, hrec, fun U hU hW => ⟨rfl, ⟨by rw [hU]; exact hz, by rw [hU]; exact hR⟩, hK.warm hW⟩⟩ rfl hn hL.1 hst (by show 2 * (F0 m pc ls S0).monitorRoom + _ ≤ 8; rw [show (F0 m pc ls S0).monitorRoom = 0 from rfl]; simpa using hcs) hd ⟨hu, hw⟩) hS (fun v I1 P1 H1 locs1 hQ0 hR1 hS1 => ?_)
  exact kk v I1 P1 hQ0 p e s m args below meth c H1 locs1 ls ⟨hC.1, by rw [h0]; have := hC.2; omega⟩ hK hR1 hS1 hL
theorem V_callS {k0 : fw_M} {n idx mc0 ms0 : Nat} {As S0 : List Value} {T0 : fw_T} {Q0 : Option Value → fw_I → fw_P → Prop} (hsp : Sp l g k0 T As I P T0 mc0 ms0 Q0) (hk : fw_ks k0 n) (hm : Cond.methodLink k.1.cls idx k0.1 ∈ fw_U) (hf : fw_fit k k0) (hn : As.length = n) (hst : S0 = As.reverse ++ st) (hcs : (st.map fun v => v.category).sum ≤ 8) (hu : u + mc0 ≤ mc) (hw : w + ms0 ≤ ms) (h0 : T0.1 = T.1 + mc0) (hd : decode k.2.1 pc = .ok (.invokestatic idx, 3)) (hq : pc + 3 = q)
    (kk : ∀ (v : Option Value) (I1 : fw_I) (P1 : fw_P), Q0 v I1 P1 → V l g k T' mc ms Q T0 I1 P1 (u + mc0) (w + ms0) q L (v.toList ++ st)) : V l g k T' mc ms Q T I P u w pc L S0 := by
  subst hq
  intro p e s m args below meth c H locs ls hC hK hR hS hL
  refine fw_sized hC.2 hC.1.2.2.2.2 hS hR (fun hz => ?_)
  refine fw_go (va_runS (As := As) (rest := st) hC.1.1 hsp ⟨fw_callB hC.1 hk.1 hm hf, hC.1.1.2.2.2.2 _ hk.2⟩ ⟨fw_blind _ _ _ _ _, fun U hU hW => ⟨rfl, ⟨by rw [hU]; exact hz, by rw [hU]; exact hR⟩, hK.warm hW⟩⟩ rfl hn hL.1 hst (by show 2 * (F0 m pc ls S0).monitorRoom + _ ≤ 8; rw [show (F0 m pc ls S0).monitorRoom = 0 from rfl]; simpa using hcs) hd ⟨hu, hw⟩) hS (fun v I1 P1 H1 locs1 hQ0 hR1 hS1 => ?_)
  exact kk v I1 P1 hQ0 p e s m args below meth c H1 locs1 ls ⟨hC.1, by rw [h0]; have := hC.2; omega⟩ hK hR1 hS1 hL
theorem V_callSN {k0 : fw_M} {n idx mc0 ms0 : Nat} {host : String} {As S0 : List Value} {T0 : fw_T} {Q0 : Option Value → fw_I → fw_P → Prop} (hsp : Sp l g k0 T As I P T0 mc0 ms0 Q0) (hk : fw_ks k0 n) (hm : (k.1.cls, idx, k0.1, host) ∈ fw_nests) (hf : fw_fit k k0) (hn : As.length = n) (hst : S0 = As.reverse ++ st) (hcs : (st.map fun v => v.category).sum ≤ 8) (hu : u + mc0 ≤ mc) (hw : w + ms0 ≤ ms) (h0 : T0.1 = T.1 + mc0) (hd : decode k.2.1 pc = .ok (.invokestatic idx, 3)) (hq : pc + 3 = q)
    (kk : ∀ (v : Option Value) (I1 : fw_I) (P1 : fw_P), Q0 v I1 P1 → V l g k T' mc ms Q T0 I1 P1 (u + mc0) (w + ms0) q L (v.toList ++ st)) : V l g k T' mc ms Q T I P u w pc L S0 := by
  subst hq
  intro p e s m args below meth c H locs ls hC hK hR hS hL
  refine fw_sized hC.2 hC.1.2.2.2.2 hS hR (fun hz => ?_)
  refine fw_go (va_runSN (As := As) (rest := st) hC.1.1 hsp ⟨va_cnB n hC.1.1.2.2.2.2 (fw_wsk_good hk.1.1) rfl rfl rfl (hK.2.1 _ hm) (hC.1.1.2.2.2.2 _ hk.1.2.1) ⟨hk.1.2.2.1, hk.1.2.2.2.1, hk.1.2.2.2.2⟩ hf, hC.1.1.2.2.2.2 _ hk.2, trivial⟩ ⟨fw_blind _ _ _ _ _, fun U hU hW => ⟨rfl, ⟨by rw [hU]; exact hz, by rw [hU]; exact hR⟩, hK.warm hW⟩⟩ rfl hn hL.1 hst (by show 2 * (F0 m pc ls S0).monitorRoom + _ ≤ 8; rw [show (F0 m pc ls S0).monitorRoom = 0 from rfl]; simpa using hcs) hd ⟨hu, hw⟩) hS (fun v I1 P1 H1 locs1 hQ0 hR1 hS1 => ?_)
  exact kk v I1 P1 hQ0 p e s m args below meth c H1 locs1 ls ⟨hC.1, by rw [h0]; have := hC.2; omega⟩ hK hR1 hS1 hL
theorem V_callI {k0 : fw_M} {n idx b mc0 ms0 : Nat} {As S0 : List Value} {T0 : fw_T} {Q0 : Option Value → fw_I → fw_P → Prop} (hsp : Sp l g k0 T (.ref b :: As) I P T0 mc0 ms0 Q0) (hk : fw_ki k0 n) (hret : k0.2.2.2.1 = none) (hm : Cond.methodLink k.1.cls idx k0.1 ∈ fw_U) (hf : fw_fit k k0) (hn : As.length = n) (hst : S0 = As.reverse ++ .ref b :: st) (hcs : (st.map fun v => v.category).sum ≤ 8) (hu : u + mc0 ≤ mc) (hw : w + ms0 ≤ ms) (h0 : T0.1 = T.1 + mc0) (hd : decode k.2.1 pc = .ok (.invokespecial idx, 3)) (hq : pc + 3 = q)
    (kk : ∀ (v : Option Value) (I1 : fw_I) (P1 : fw_P), Q0 v I1 P1 → V l g k T' mc ms Q T0 I1 P1 (u + mc0) (w + ms0) q L (v.toList ++ st)) : V l g k T' mc ms Q T I P u w pc L S0 := by
  subst hq
  intro p e s m args below meth c H locs ls hC hK hR hS hL
  refine fw_sized hC.2 hC.1.2.2.2.2 hS hR (fun hz => ?_)
  have hcb := fw_callB (mc := mc) (ms := ms) (mc0 := mc0) (ms0 := ms0) hC.1 hk.1 hm hf
  rw [hret] at hcb
  refine fw_go (va_runI (b := b) (As := As) (rest := st) hC.1.1 hsp ⟨hcb, hk.2.2, hC.1.1.2.2.2.2 _ hk.2.1⟩ ⟨fw_blind _ _ _ _ _, fun U hU hW => ⟨rfl, ⟨by rw [hU]; exact hz, by rw [hU]; exact hR⟩, hK.warm hW⟩⟩ rfl hn hL.1 hst (by show 2 * (F0 m pc ls S0).monitorRoom + _ ≤ 8; rw [show (F0 m pc ls S0).monitorRoom = 0 from rfl]; simpa using hcs) hd ⟨hu, hw⟩) hS (fun v I1 P1 H1 locs1 hQ0 hR1 hS1 => ?_)
  exact kk v I1 P1 hQ0 p e s m args below meth c H1 locs1 ls ⟨hC.1, by rw [h0]; have := hC.2; omega⟩ hK hR1 hS1 hL
theorem V_callIN {k0 : fw_M} {n idx b mc0 ms0 : Nat} {host : String} {As S0 : List Value} {T0 : fw_T} {Q0 : Option Value → fw_I → fw_P → Prop} (hsp : Sp l g k0 T (.ref b :: As) I P T0 mc0 ms0 Q0) (hk : fw_ki k0 n) (hret : k0.2.2.2.1 = none) (hm : (k.1.cls, idx, k0.1, host) ∈ fw_nests) (hf : fw_fit k k0) (hn : As.length = n) (hst : S0 = As.reverse ++ .ref b :: st) (hcs : (st.map fun v => v.category).sum ≤ 8) (hu : u + mc0 ≤ mc) (hw : w + ms0 ≤ ms) (h0 : T0.1 = T.1 + mc0) (hd : decode k.2.1 pc = .ok (.invokespecial idx, 3)) (hq : pc + 3 = q)
    (kk : ∀ (v : Option Value) (I1 : fw_I) (P1 : fw_P), Q0 v I1 P1 → V l g k T' mc ms Q T0 I1 P1 (u + mc0) (w + ms0) q L (v.toList ++ st)) : V l g k T' mc ms Q T I P u w pc L S0 := by
  subst hq
  intro p e s m args below meth c H locs ls hC hK hR hS hL
  refine fw_sized hC.2 hC.1.2.2.2.2 hS hR (fun hz => ?_)
  have hcb := va_cnB (R := fw_rm k mc ms) (rm := fw_rm k0 mc0 ms0) (mc := mc0) (ms := ms0) n hC.1.1.2.2.2.2 (fw_wsk_good hk.1.1) rfl rfl rfl (hK.2.1 _ hm) (hC.1.1.2.2.2.2 _ hk.1.2.1) ⟨hk.1.2.2.1, hk.1.2.2.2.1, hk.1.2.2.2.2⟩ hf
  rw [hret] at hcb
  refine fw_go (va_runIN (b := b) (As := As) (rest := st) hC.1.1 hsp ⟨hcb, hk.2.2, hC.1.1.2.2.2.2 _ hk.2.1⟩ ⟨fw_blind _ _ _ _ _, fun U hU hW => ⟨rfl, ⟨by rw [hU]; exact hz, by rw [hU]; exact hR⟩, hK.warm hW⟩⟩ rfl hn hL.1 hst (by show 2 * (F0 m pc ls S0).monitorRoom + _ ≤ 8; rw [show (F0 m pc ls S0).monitorRoom = 0 from rfl]; simpa using hcs) hd ⟨hu, hw⟩) hS (fun v I1 P1 H1 locs1 hQ0 hR1 hS1 => ?_)
  exact kk v I1 P1 hQ0 p e s m args below meth c H1 locs1 ls ⟨hC.1, by rw [h0]; have := hC.2; omega⟩ hK hR1 hS1 hL

end FWR
