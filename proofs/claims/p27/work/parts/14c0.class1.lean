variable {nT : Nat}
theorem el11 : fw_el 11 3 (RX3, TX3, 10) := Or.inl ⟨rfl, rfl, rfl⟩
theorem el12 : fw_el 12 2 (RX2, TX2, 7) := Or.inr (Or.inl ⟨rfl, rfl, rfl⟩)
theorem el13 : fw_el 13 0 (RX0, TX0, 4) := Or.inr (Or.inr (Or.inl ⟨rfl, rfl, rfl⟩))
theorem el14 : fw_el 14 6 (RX6, TX6, 4) := Or.inr (Or.inr (Or.inr ⟨rfl, rfl, rfl⟩))
theorem qR.of {g : fw_G} {f x : Option Nat} {I : fw_I} {P : fw_P} (h : x = f) : qR g f I P (some (fw_rf g x)) I P := ⟨by rw [h], rfl, rfl⟩
def b4 (I : fw_I) (a : Nat) (x y z w : Int32) : fw_I := up2 (up2 (up2 (up2 I a 0 x) a 1 y) a 2 z) a 3 w
theorem b4_ne (I : fw_I) {a b : Nat} (x y z w : Int32) (h : b ≠ a) : b4 I a x y z w b = I b := by
  unfold b4
  rw [up2_ne _ _ _ h, up2_ne _ _ _ h, up2_ne _ _ _ h, up2_ne _ _ _ h]
theorem b4_at (I : fw_I) (a : Nat) (x y z w : Int32) : b4 I a x y z w a 0 = x ∧ b4 I a x y z w a 1 = y ∧ b4 I a x y z w a 2 = z ∧ b4 I a x y z w a 3 = w := by
  unfold b4
  simp [up2_at]
theorem kQ {l : Launch} {g : fw_G} {k : fw_M} {T T' : fw_T} {mc ms : Nat} {Q : Option Value → fw_I → fw_P → Prop} {P : fw_P} {u w q : Nat} {L : List (Option Value)} {st : List Value} {A : fw_I → Prop} (h : ∀ F, A F → V l g k T' mc ms Q T F P u w q L st) : ∀ (v : Option Value) (I1 : fw_I) (P1 : fw_P), qV (fun I1 P1 => A I1 ∧ P1 = P) v I1 P1 → V l g k T' mc ms Q T I1 P1 u w q L (v.toList ++ st) := by
  rintro _ I1 _ ⟨rfl, ha, rfl⟩
  exact h I1 ha
/-- the bites of a row of places are bites -/
def BtS (P : fw_P) (ba : Nat) : Prop := ∀ k, k < 16 → ∃ b, P ba k = some b ∧ fw_at (T0 nT) b 0 0
def btR (P : fw_P) (ba n : Nat) (x : Int32) : Option Nat := if 0 ≤ x ∧ x < nI n then P ba x.toNatClampNeg else none
theorem btR_nI (P : fw_P) {ba n k : Nat} (hk : k < n) (hn : n < 2 ^ 31) : btR P ba n (nI k) = P ba k := by
  unfold btR
  rw [if_pos ⟨nI_pos' (by omega), nI_lt hk hn⟩, nI_clamp (by omega)]
theorem beg_eq (x : Int32) : (if 0 < x then x else 0) = if 0 ≤ x then x else 0 := by
  by_cases h : 0 < x
  · rw [if_pos h, if_pos (Int32.le_iff_lt_or_eq.mpr (Or.inl h))]
  · rw [if_neg h]
    by_cases h2 : 0 ≤ x
    · rw [if_pos h2]
      rcases Int32.le_iff_lt_or_eq.mp h2 with h3 | h3
      · exact absurd h3 h
      · exact h3
    · rw [if_neg h2]
/-- the places k to n - 1, turned by one -/
def rot (r : Nat → Option Nat) (k n : Nat) : Nat → Option Nat := fun j => if k ≤ j ∧ j + 1 < n then r (j + 1) else if j + 1 = n then r k else r j
/-- on the way: those before m are moved -/
def rotm (r : Nat → Option Nat) (k m : Nat) : Nat → Option Nat := fun j => if k ≤ j ∧ j < m then r (j + 1) else r j
def wp (P : fw_P) (a : Nat) (r : Nat → Option Nat) : fw_P := fun b => if b = a then r else P b
theorem wp_at (P : fw_P) (a : Nat) (r : Nat → Option Nat) : wp P a r a = r := by simp [wp]
theorem wp_ne (P : fw_P) {a b : Nat} (r : Nat → Option Nat) (h : b ≠ a) : wp P a r b = P b := by simp [wp, h]
theorem wp_self (P : fw_P) (a : Nat) : wp P a (P a) = P := by
  funext b
  by_cases h : b = a
  · subst h; exact wp_at P b _
  · exact wp_ne P _ h
theorem up2_wp (P : fw_P) (a : Nat) (r : Nat → Option Nat) (j : Nat) (x : Option Nat) : up2 (wp P a r) a j x = wp P a (fun i => if i = j then x else r i) := by
  funext b
  by_cases h : b = a
  · subst h; rw [wp_at, up2_row, wp_at]
  · rw [wp_ne _ _ h, up2_ne _ _ _ h, wp_ne _ _ h]
theorem V_memP {l : Launch} {g : fw_G} {k : fw_M} {T T' : fw_T} {mc ms : Nat} {Q : Option Value → fw_I → fw_P → Prop} {I : fw_I} {P P' : fw_P} {u w pc : Nat} {L : List (Option Value)} {st : List Value} (h : P = P') (kk : V l g k T' mc ms Q T I P' u w pc L st) : V l g k T' mc ms Q T I P u w pc L st := h ▸ kk
theorem rotm_0 (r : Nat → Option Nat) (k : Nat) : rotm r k k = r := by
  funext j
  unfold rotm
  rw [if_neg (by omega)]
theorem rotm_succ (r : Nat → Option Nat) {k m : Nat} (h : k ≤ m) : (fun i => if i = m then r (m + 1) else rotm r k m i) = rotm r k (m + 1) := by
  funext i
  unfold rotm
  by_cases h1 : i = m
  · subst h1; rw [if_pos rfl, if_pos (by omega)]
  · rw [if_neg h1]
    by_cases h2 : k ≤ i ∧ i < m
    · rw [if_pos h2, if_pos (by omega)]
    · rw [if_neg h2, if_neg (by omega)]
theorem rotm_end (r : Nat → Option Nat) {k m : Nat} (h : k ≤ m) : (fun i => if i = m then r k else rotm r k m i) = rot r k (m + 1) := by
  funext i
  unfold rotm rot
  by_cases h1 : i = m
  · subst h1; rw [if_pos rfl, if_neg (by omega), if_pos rfl]
  · rw [if_neg h1]
    by_cases h2 : k ≤ i ∧ i < m
    · rw [if_pos h2, if_pos (by omega)]
    · rw [if_neg h2, if_neg (by omega), if_neg (by omega)]
set_option maxHeartbeats 4000000 in
set_option maxRecDepth 100000 in
theorem sp_Bite_begin (l : Launch) (g : fw_G) {I : fw_I} {P : fw_P} {a : Nat} (ha : fw_at (T0 nT) a 0 0) (x y : Int32) : Sp l g kX0_begin (T0 nT) [.ref (g.1 + a), .int x, .int y] I P (T0 nT) 0 0 (qV (fun I1 P1 => I1 = b4 I a x 0 y (1 <<< (y &&& 31)) ∧ P1 = P)) := by
  refine Sp.of_V (L := [some (.ref (g.1 + a)), some (.int x), some (.int y)]) (by decide) (by simp [Value.category]) (Nat.le_of_ble_eq_true rfl) rfl ?_
  refine V_aload_n (i := 0) rfl rfl dX0_begin_0 rfl ?_
  refine V_iload_n (i := 1) rfl rfl dX0_begin_1 rfl ?_
  refine V_puti (kf := 0) C0 (by decide) rfl l_X0_7 rfl rfl rfl rfl (by assumption) dX0_begin_2 rfl ?_
  refine V_aload_n (i := 0) rfl rfl dX0_begin_5 rfl ?_
  refine V_iconst (v := 0) (by decide) dX0_begin_6 rfl ?_
  refine V_puti (kf := 1) C0 (by decide) rfl l_X0_13 rfl rfl rfl rfl (by assumption) dX0_begin_7 rfl ?_
  refine V_aload_n (i := 0) rfl rfl dX0_begin_10 rfl ?_
  refine V_iload_n (i := 2) rfl rfl dX0_begin_11 rfl ?_
  refine V_puti (kf := 2) C0 (by decide) rfl l_X0_16 rfl rfl rfl rfl (by assumption) dX0_begin_12 rfl ?_
  refine V_aload_n (i := 0) rfl rfl dX0_begin_15 rfl ?_
  refine V_iconst (v := 1) (by decide) dX0_begin_16 rfl ?_
  refine V_iload_n (i := 2) rfl rfl dX0_begin_17 rfl ?_
  refine V_ishl dX0_begin_18 rfl ?_
  refine V_puti (kf := 3) C0 (by decide) rfl l_X0_19 rfl rfl rfl rfl (by assumption) dX0_begin_19 rfl ?_
  exact V_return rfl dX0_begin_22 rfl rfl rfl (⟨rfl, rfl, rfl⟩)

set_option maxHeartbeats 4000000 in
set_option maxRecDepth 100000 in
theorem sp_Bite_copyFrom (l : Launch) (g : fw_G) {I : fw_I} {P : fw_P} {a : Nat} (ha : fw_at (T0 nT) a 0 0) {b : Nat} (hb : fw_at (T0 nT) b 0 0) (hab : b ≠ a) : Sp l g kX0_copyFrom (T0 nT) [.ref (g.1 + a), .ref (g.1 + b)] I P (T0 nT) 0 0 (qV (fun I1 P1 => I1 = b4 I a (I b 0) (I b 1) (I b 2) (I b 3) ∧ P1 = P)) := by
  refine Sp.of_V (L := [some (.ref (g.1 + a)), some (.ref (g.1 + b))]) (by decide) (by simp [Value.category]) (Nat.le_of_ble_eq_true rfl) rfl ?_
  refine V_aload_n (i := 0) rfl rfl dX0_copyFrom_0 rfl ?_
  refine V_aload_n (i := 1) rfl rfl dX0_copyFrom_1 rfl ?_
  refine V_get (kf := 0) C0 (by decide) l_X0_7 (by assumption) rfl dX0_copyFrom_2 rfl ?_
  refine V_puti (kf := 0) C0 (by decide) rfl l_X0_7 rfl rfl rfl rfl (by assumption) dX0_copyFrom_5 rfl ?_
  refine V_aload_n (i := 0) rfl rfl dX0_copyFrom_8 rfl ?_
  refine V_aload_n (i := 1) rfl rfl dX0_copyFrom_9 rfl ?_
  refine V_get (kf := 1) C0 (by decide) l_X0_13 (by assumption) rfl dX0_copyFrom_10 rfl ?_
  refine V_puti (kf := 1) C0 (by decide) rfl l_X0_13 rfl rfl rfl rfl (by assumption) dX0_copyFrom_13 rfl ?_
  refine V_aload_n (i := 0) rfl rfl dX0_copyFrom_16 rfl ?_
  refine V_aload_n (i := 1) rfl rfl dX0_copyFrom_17 rfl ?_
  refine V_get (kf := 2) C0 (by decide) l_X0_16 (by assumption) rfl dX0_copyFrom_18 rfl ?_
  refine V_puti (kf := 2) C0 (by decide) rfl l_X0_16 rfl rfl rfl rfl (by assumption) dX0_copyFrom_21 rfl ?_
  refine V_aload_n (i := 0) rfl rfl dX0_copyFrom_24 rfl ?_
  refine V_aload_n (i := 1) rfl rfl dX0_copyFrom_25 rfl ?_
  refine V_get (kf := 3) C0 (by decide) l_X0_19 (by assumption) rfl dX0_copyFrom_26 rfl ?_
  refine V_puti (kf := 3) C0 (by decide) rfl l_X0_19 rfl rfl rfl rfl (by assumption) dX0_copyFrom_29 rfl ?_
  exact V_return rfl dX0_copyFrom_32 rfl rfl rfl (⟨rfl, by unfold b4; simp only [up2_ne _ _ _ hab], rfl⟩)

set_option maxHeartbeats 4000000 in
set_option maxRecDepth 100000 in
theorem sp_Bite_passTo (l : Launch) (g : fw_G) {I : fw_I} {P : fw_P} {a : Nat} (ha : fw_at (T0 nT) a 0 0) (y : Int32) : Sp l g kX0_passTo (T0 nT) [.ref (g.1 + a), .int y] I P (T0 nT) 0 0 (qV (fun I1 P1 => I1 = up2 (up2 I a 1 (I a 1 + 1)) a 3 (I a 3 ||| 1 <<< (y &&& 31)) ∧ P1 = P)) := by
  refine Sp.of_V (L := [some (.ref (g.1 + a)), some (.int y)]) (by decide) (by simp [Value.category]) (Nat.le_of_ble_eq_true rfl) rfl ?_
  refine V_aload_n (i := 0) rfl rfl dX0_passTo_0 rfl ?_
  refine V_dup (by first | rfl | simp [Value.category]) dX0_passTo_1 rfl ?_
  refine V_get (kf := 1) C0 (by decide) l_X0_13 (by assumption) rfl dX0_passTo_2 rfl ?_
  refine V_iconst (v := 1) (by decide) dX0_passTo_5 rfl ?_
  refine V_iadd dX0_passTo_6 rfl ?_
  refine V_puti (kf := 1) C0 (by decide) rfl l_X0_13 rfl rfl rfl rfl (by assumption) dX0_passTo_7 rfl ?_
  refine V_aload_n (i := 0) rfl rfl dX0_passTo_10 rfl ?_
  refine V_dup (by first | rfl | simp [Value.category]) dX0_passTo_11 rfl ?_
  refine V_get (kf := 3) C0 (by decide) l_X0_19 (by assumption) rfl dX0_passTo_12 rfl ?_
  refine V_iconst (v := 1) (by decide) dX0_passTo_15 rfl ?_
  refine V_iload_n (i := 1) rfl rfl dX0_passTo_16 rfl ?_
  refine V_ishl dX0_passTo_17 rfl ?_
  refine V_ior dX0_passTo_18 rfl ?_
  refine V_puti (kf := 3) C0 (by decide) rfl l_X0_19 rfl rfl rfl rfl (by assumption) dX0_passTo_19 rfl ?_
  exact V_return rfl dX0_passTo_22 rfl rfl rfl (⟨rfl, by rw [up2_at I a 1, if_neg (fun h => absurd h.2 (by decide))], rfl⟩)

set_option maxHeartbeats 4000000 in
set_option maxRecDepth 100000 in
theorem sp_Bite_wasHeldBy (l : Launch) (g : fw_G) {I : fw_I} {P : fw_P} {a : Nat} (ha : fw_at (T0 nT) a 0 0) (y : Int32) : Sp l g kX0_wasHeldBy (T0 nT) [.ref (g.1 + a), .int y] I P (T0 nT) 0 0 (qI (bI (¬ I a 3 &&& (1 <<< (y &&& 31)) = 0)) I P) := by
  refine Sp.of_V (L := [some (.ref (g.1 + a)), some (.int y)]) (by decide) (by simp [Value.category]) (Nat.le_of_ble_eq_true rfl) rfl ?_
  refine V_aload_n (i := 0) rfl rfl dX0_wasHeldBy_0 rfl ?_
  refine V_get (kf := 3) C0 (by decide) l_X0_19 (by assumption) rfl dX0_wasHeldBy_1 rfl ?_
  refine V_iconst (v := 1) (by decide) dX0_wasHeldBy_4 rfl ?_
  refine V_iload_n (i := 1) rfl rfl dX0_wasHeldBy_5 rfl ?_
  refine V_ishl dX0_wasHeldBy_6 rfl ?_
  refine V_iand dX0_wasHeldBy_7 rfl ?_
  refine V_if_eq (tgt := 15) dX0_wasHeldBy_8 (by decide) rfl (fun h_8 => ?_) (fun h_8 => ?_)
  · refine V_iconst (v := 0) (by decide) dX0_wasHeldBy_15 rfl ?_
    exact V_ireturn rfl (by decide) dX0_wasHeldBy_16 rfl rfl rfl (qI.of (by first | exact Eq.symm (bI_t h_8) | exact Eq.symm (bI_f (fun h => h h_8))))
  · refine V_iconst (v := 1) (by decide) dX0_wasHeldBy_11 rfl ?_
    refine V_goto (tgt := 16) dX0_wasHeldBy_12 (by decide) ?_
    exact V_ireturn rfl (by decide) dX0_wasHeldBy_16 rfl rfl rfl (qI.of (by first | exact Eq.symm (bI_t h_8) | exact Eq.symm (bI_f (fun h => h h_8))))

set_option maxHeartbeats 4000000 in
set_option maxRecDepth 100000 in
theorem sp_Snake_isThere (l : Launch) (g : fw_G) {I : fw_I} {P : fw_P} {a : Nat} (ha : fw_at (T0 nT) a 6 0) : Sp l g kX6_isThere (T0 nT) [.ref (g.1 + a)] I P (T0 nT) 0 0 (qI (bI (0 < I a 0)) I P) := by
  refine Sp.of_V (L := [some (.ref (g.1 + a))]) (by decide) (by simp [Value.category]) (Nat.le_of_ble_eq_true rfl) rfl ?_
  refine V_aload_n (i := 0) rfl rfl dX6_isThere_0 rfl ?_
  refine V_get (kf := 0) C6 (by decide) l_X6_7 (by assumption) rfl dX6_isThere_1 rfl ?_
  refine V_if_le (tgt := 11) dX6_isThere_4 (by decide) rfl (fun h_4 => ?_) (fun h_4 => ?_)
  · refine V_iconst (v := 0) (by decide) dX6_isThere_11 rfl ?_
    exact V_ireturn rfl (by decide) dX6_isThere_12 rfl rfl rfl (qI.of (by first | exact Eq.symm (bI_t (Int32.not_le.mp h_4)) | exact Eq.symm (bI_f (fun h => absurd h_4 (Int32.not_le.mpr h)))))
  · refine V_iconst (v := 1) (by decide) dX6_isThere_7 rfl ?_
    refine V_goto (tgt := 12) dX6_isThere_8 (by decide) ?_
    exact V_ireturn rfl (by decide) dX6_isThere_12 rfl rfl rfl (qI.of (by first | exact Eq.symm (bI_t (Int32.not_le.mp h_4)) | exact Eq.symm (bI_f (fun h => absurd h_4 (Int32.not_le.mpr h)))))

set_option maxHeartbeats 4000000 in
set_option maxRecDepth 100000 in
theorem sp_Snake_appear (l : Launch) (g : fw_G) {I : fw_I} {P : fw_P} {a : Nat} (ha : fw_at (T0 nT) a 6 0) (x y : Int32) : Sp l g kX6_appear (T0 nT) [.ref (g.1 + a), .int x, .int y] I P (T0 nT) 0 0 (qV (fun I1 P1 => I1 = b4 I a x y 0 0 ∧ P1 = P)) := by
  refine Sp.of_V (L := [some (.ref (g.1 + a)), some (.int x), some (.int y)]) (by decide) (by simp [Value.category]) (Nat.le_of_ble_eq_true rfl) rfl ?_
  refine V_aload_n (i := 0) rfl rfl dX6_appear_0 rfl ?_
  refine V_iload_n (i := 1) rfl rfl dX6_appear_1 rfl ?_
  refine V_puti (kf := 0) C6 (by decide) rfl l_X6_7 rfl rfl rfl rfl (by assumption) dX6_appear_2 rfl ?_
  refine V_aload_n (i := 0) rfl rfl dX6_appear_5 rfl ?_
  refine V_iload_n (i := 2) rfl rfl dX6_appear_6 rfl ?_
  refine V_puti (kf := 1) C6 (by decide) rfl l_X6_13 rfl rfl rfl rfl (by assumption) dX6_appear_7 rfl ?_
  refine V_aload_n (i := 0) rfl rfl dX6_appear_10 rfl ?_
  refine V_iconst (v := 0) (by decide) dX6_appear_11 rfl ?_
  refine V_puti (kf := 2) C6 (by decide) rfl l_X6_16 rfl rfl rfl rfl (by assumption) dX6_appear_12 rfl ?_
  refine V_aload_n (i := 0) rfl rfl dX6_appear_15 rfl ?_
  refine V_iconst (v := 0) (by decide) dX6_appear_16 rfl ?_
  refine V_puti (kf := 3) C6 (by decide) rfl l_X6_19 rfl rfl rfl rfl (by assumption) dX6_appear_17 rfl ?_
  exact V_return rfl dX6_appear_20 rfl rfl rfl (⟨rfl, rfl, rfl⟩)

set_option maxHeartbeats 4000000 in
set_option maxRecDepth 100000 in
theorem sp_Snake_vanish (l : Launch) (g : fw_G) {I : fw_I} {P : fw_P} {a : Nat} (ha : fw_at (T0 nT) a 6 0) : Sp l g kX6_vanish (T0 nT) [.ref (g.1 + a)] I P (T0 nT) 0 0 (qV (fun I1 P1 => I1 = b4 I a 0 0 0 0 ∧ P1 = P)) := by
  refine Sp.of_V (L := [some (.ref (g.1 + a))]) (by decide) (by simp [Value.category]) (Nat.le_of_ble_eq_true rfl) rfl ?_
  refine V_aload_n (i := 0) rfl rfl dX6_vanish_0 rfl ?_
  refine V_iconst (v := 0) (by decide) dX6_vanish_1 rfl ?_
  refine V_iconst (v := 0) (by decide) dX6_vanish_2 rfl ?_
  refine V_call (n := 2) (sp_Snake_appear l g ha 0 0) o_X6_appear m_X6_22 ⟨by decide, by decide⟩ (by assumption) rfl rfl (by first | exact Nat.le_of_ble_eq_true rfl | simp [Value.category]) (Nat.le_refl _) (Nat.le_refl _) rfl dX6_vanish_3 rfl (kW ?_)
  exact V_return rfl dX6_vanish_6 rfl rfl rfl (⟨rfl, rfl, rfl⟩)

set_option maxHeartbeats 4000000 in
set_option maxRecDepth 100000 in
theorem sp_Snake_copyFrom (l : Launch) (g : fw_G) {I : fw_I} {P : fw_P} {a : Nat} (ha : fw_at (T0 nT) a 6 0) {b : Nat} (hb : fw_at (T0 nT) b 6 0) (hab : b ≠ a) : Sp l g kX6_copyFrom (T0 nT) [.ref (g.1 + a), .ref (g.1 + b)] I P (T0 nT) 0 0 (qV (fun I1 P1 => I1 = b4 I a (I b 0) (I b 1) (I b 2) (I b 3) ∧ P1 = P)) := by
  refine Sp.of_V (L := [some (.ref (g.1 + a)), some (.ref (g.1 + b))]) (by decide) (by simp [Value.category]) (Nat.le_of_ble_eq_true rfl) rfl ?_
  refine V_aload_n (i := 0) rfl rfl dX6_copyFrom_0 rfl ?_
  refine V_aload_n (i := 1) rfl rfl dX6_copyFrom_1 rfl ?_
  refine V_get (kf := 0) C6 (by decide) l_X6_7 (by assumption) rfl dX6_copyFrom_2 rfl ?_
  refine V_puti (kf := 0) C6 (by decide) rfl l_X6_7 rfl rfl rfl rfl (by assumption) dX6_copyFrom_5 rfl ?_
  refine V_aload_n (i := 0) rfl rfl dX6_copyFrom_8 rfl ?_
  refine V_aload_n (i := 1) rfl rfl dX6_copyFrom_9 rfl ?_
  refine V_get (kf := 1) C6 (by decide) l_X6_13 (by assumption) rfl dX6_copyFrom_10 rfl ?_
  refine V_puti (kf := 1) C6 (by decide) rfl l_X6_13 rfl rfl rfl rfl (by assumption) dX6_copyFrom_13 rfl ?_
  refine V_aload_n (i := 0) rfl rfl dX6_copyFrom_16 rfl ?_
  refine V_aload_n (i := 1) rfl rfl dX6_copyFrom_17 rfl ?_
  refine V_get (kf := 2) C6 (by decide) l_X6_16 (by assumption) rfl dX6_copyFrom_18 rfl ?_
  refine V_puti (kf := 2) C6 (by decide) rfl l_X6_16 rfl rfl rfl rfl (by assumption) dX6_copyFrom_21 rfl ?_
  refine V_aload_n (i := 0) rfl rfl dX6_copyFrom_24 rfl ?_
  refine V_aload_n (i := 1) rfl rfl dX6_copyFrom_25 rfl ?_
  refine V_get (kf := 3) C6 (by decide) l_X6_19 (by assumption) rfl dX6_copyFrom_26 rfl ?_
  refine V_puti (kf := 3) C6 (by decide) rfl l_X6_19 rfl rfl rfl rfl (by assumption) dX6_copyFrom_29 rfl ?_
  exact V_return rfl dX6_copyFrom_32 rfl rfl rfl (⟨rfl, by unfold b4; simp only [up2_ne _ _ _ hab], rfl⟩)

set_option maxHeartbeats 4000000 in
set_option maxRecDepth 100000 in
theorem sp_Piece_isInRace (l : Launch) (g : fw_G) {I : fw_I} {P : fw_P} {pa : Nat} (hpa : fw_at (T0 nT) pa 2 0) : Sp l g kX2_isInRace (T0 nT) [.ref (g.1 + pa)] I P (T0 nT) 0 0 (qI (bI (¬ I pa 2 = 60)) I P) := by
  refine Sp.of_V (L := [some (.ref (g.1 + pa))]) (by decide) (by simp [Value.category]) (Nat.le_of_ble_eq_true rfl) rfl ?_
  refine V_aload_n (i := 0) rfl rfl dX2_isInRace_0 rfl ?_
  refine V_get (kf := 2) C2 (by decide) l_X2_25 (by assumption) rfl dX2_isInRace_1 rfl ?_
  refine V_bipush (v := 60) (by decide) dX2_isInRace_4 rfl ?_
  refine V_icmp_eq (tgt := 13) dX2_isInRace_6 (by decide) rfl (fun h_6 => ?_) (fun h_6 => ?_)
  · refine V_iconst (v := 0) (by decide) dX2_isInRace_13 rfl ?_
    exact V_ireturn rfl (by decide) dX2_isInRace_14 rfl rfl rfl (qI.of (by first | exact Eq.symm (bI_t h_6) | exact Eq.symm (bI_f (fun h => h h_6))))
  · refine V_iconst (v := 1) (by decide) dX2_isInRace_9 rfl ?_
    refine V_goto (tgt := 14) dX2_isInRace_10 (by decide) ?_
    exact V_ireturn rfl (by decide) dX2_isInRace_14 rfl rfl rfl (qI.of (by first | exact Eq.symm (bI_t h_6) | exact Eq.symm (bI_f (fun h => h h_6))))

set_option maxHeartbeats 4000000 in
set_option maxRecDepth 100000 in
theorem sp_Piece_biteAt (l : Launch) (g : fw_G) {I : fw_I} {P : fw_P} {pa ba n : Nat} (hpa : fw_at (T0 nT) pa 2 0) (hba : fw_at (T0 nT) ba 13 16) (hpb : P pa 0 = some ba) (hn : I pa 1 = nI n) (hn16 : n ≤ 16) (x : Int32) : Sp l g kX2_biteAt (T0 nT) [.ref (g.1 + pa), .int x] I P (T0 nT) 0 0 (qR g (btR P ba n x) I P) := by
  refine Sp.of_V (L := [some (.ref (g.1 + pa)), some (.int x)]) (by decide) (by simp [Value.category]) (Nat.le_of_ble_eq_true rfl) rfl ?_
  refine V_iload_n (i := 1) rfl rfl dX2_biteAt_0 rfl ?_
  refine V_if_lt (tgt := 30) dX2_biteAt_1 (by decide) rfl (fun h_1 => ?_) (fun h_1 => ?_)
  · refine V_null dX2_biteAt_30 rfl ?_
    exact V_areturn (r := _) rfl dX2_biteAt_31 rfl rfl rfl (qR.of (by first | exact (btR_nI P hkn (by omega)).symm | exact (if_neg (fun h => h_1 |> Int32.not_lt.mpr h.1)).symm | exact (if_neg (fun h => Int32.not_le.mpr h.2 h_9)).symm))
  · refine V_iload_n (i := 1) rfl rfl dX2_biteAt_4 rfl ?_
    refine V_aload_n (i := 0) rfl rfl dX2_biteAt_5 rfl ?_
    refine V_get (kf := 1) C2 (by decide) l_X2_28 (by assumption) rfl dX2_biteAt_6 rfl ?_
    rw [hn]
    refine V_icmp_ge (tgt := 30) dX2_biteAt_9 (by decide) rfl (fun h_9 => ?_) (fun h_9 => ?_)
    · refine V_null dX2_biteAt_30 rfl ?_
      exact V_areturn (r := _) rfl dX2_biteAt_31 rfl rfl rfl (qR.of (by first | exact (btR_nI P hkn (by omega)).symm | exact (if_neg (fun h => h_1 |> Int32.not_lt.mpr h.1)).symm | exact (if_neg (fun h => Int32.not_le.mpr h.2 h_9)).symm))
    · obtain ⟨k, hk, rfl⟩ := nI_of h_1
      have hkn := (nI_ltI hk (by omega)).mp (Int32.not_le.mp h_9)
      refine V_iload_n (i := 1) rfl rfl dX2_biteAt_12 rfl ?_
      refine V_aload_n (i := 0) rfl rfl dX2_biteAt_13 rfl ?_
      refine V_getr (kf := 0) C2 (by decide) l_X2_11 (by assumption) rfl (by assumption) dX2_biteAt_14 rfl ?_
      refine V_alen (kd := 13) (by decide) (by assumption) dX2_biteAt_17 rfl ?_
      refine V_icmp_ge (tgt := 30) dX2_biteAt_18 (by decide) rfl (fun h => absurd h (nI_ge (by omega) (by decide))) (fun _ => ?_)
      refine V_aload_n (i := 0) rfl rfl dX2_biteAt_21 rfl ?_
      refine V_getr (kf := 0) C2 (by decide) l_X2_11 (by assumption) rfl (by assumption) dX2_biteAt_22 rfl ?_
      refine V_iload_n (i := 1) rfl rfl dX2_biteAt_25 rfl ?_
      refine V_aald el13 (by assumption) (fw_ix_nI (by omega) (by decide)) dX2_biteAt_26 rfl ?_
      refine V_goto (tgt := 31) dX2_biteAt_27 (by decide) ?_
      exact V_areturn (r := _) rfl dX2_biteAt_31 rfl rfl rfl (qR.of (by first | exact (btR_nI P hkn (by omega)).symm | exact (if_neg (fun h => h_1 |> Int32.not_lt.mpr h.1)).symm | exact (if_neg (fun h => Int32.not_le.mpr h.2 h_9)).symm))

set_option maxHeartbeats 4000000 in
set_option maxRecDepth 100000 in
theorem lp_Piece_sizes (l : Launch) (g : fw_G) {I : fw_I} {P : fw_P} {pa ba n : Nat} (hpa : fw_at (T0 nT) pa 2 0) (hba : fw_at (T0 nT) ba 13 16) (hpb : P pa 0 = some ba) (hn : I pa 1 = nI n) (hn16 : n ≤ 16) {s : Nat → Int32} {p : Nat} (hz : ∀ k, k < n → ∀ b, P ba k = some b → I b 0 = s (wi p k)) (hB : BtS (nT := nT) P ba) : ∀ (m j : Nat), j + m = n → V l g kX2_sizesTogether (T0 nT) 0 0 (qI (aHuF s p n) I P) (T0 nT) I P 0 0 4 [some (.ref (g.1 + pa)), some (.int (aHuF s p j)), some (.int (nI j)), none] [] := by
  intro m
  induction m with
  | zero =>
    intro j hj
    obtain rfl : j = n := by omega
    refine V_iload_n (i := 2) rfl rfl dX2_sizesTogether_4 rfl ?_
    refine V_aload_n (i := 0) rfl rfl dX2_sizesTogether_5 rfl ?_
    refine V_get (kf := 1) C2 (by decide) l_X2_28 (by assumption) rfl dX2_sizesTogether_6 rfl ?_
    rw [hn]
    refine V_icmp_ge (tgt := 39) dX2_sizesTogether_9 (by decide) rfl (fun _ => ?_) (fun h => absurd (nI_le (Nat.le_refl _) (by omega)) h)
    refine V_iload_n (i := 1) rfl rfl dX2_sizesTogether_39 rfl ?_
    exact V_ireturn rfl rfl dX2_sizesTogether_40 rfl rfl rfl (qI.of rfl)
  | succ m ih =>
    intro j hj
    have hjn : j < n := by omega
    obtain ⟨b, hb, hb0⟩ := hB j (by omega)
    have ht := btR_nI P (ba := ba) hjn (by omega)
    have hzj := hz j hjn b hb
    refine V_iload_n (i := 2) rfl rfl dX2_sizesTogether_4 rfl ?_
    refine V_aload_n (i := 0) rfl rfl dX2_sizesTogether_5 rfl ?_
    refine V_get (kf := 1) C2 (by decide) l_X2_28 (by assumption) rfl dX2_sizesTogether_6 rfl ?_
    rw [hn]
    refine V_icmp_ge (tgt := 39) dX2_sizesTogether_9 (by decide) rfl (fun h => absurd h (nI_ge hjn (by omega))) (fun _ => ?_)
    refine V_aload_n (i := 0) rfl rfl dX2_sizesTogether_12 rfl ?_
    refine V_iload_n (i := 2) rfl rfl dX2_sizesTogether_13 rfl ?_
    refine V_call (n := 1) (sp_Piece_biteAt l g hpa hba hpb hn hn16 (nI j)) o_X2_biteAt m_X2_31 ⟨by decide, by decide⟩ (by assumption) rfl rfl (by first | exact Nat.le_of_ble_eq_true rfl | simp [Value.category]) (Nat.le_refl _) (Nat.le_refl _) rfl dX2_sizesTogether_14 rfl (kR ?_)
    rw [ht, hb]
    refine V_astore_n (i := 3) rfl (by decide) rfl dX2_sizesTogether_17 rfl ?_
    refine V_iload_n (i := 1) rfl rfl dX2_sizesTogether_18 rfl ?_
    refine V_aload_n (i := 3) rfl rfl dX2_sizesTogether_19 rfl ?_
    refine V_ifnonnull_s (tgt := 27) dX2_sizesTogether_20 (by decide) ?_
    refine V_aload_n (i := 3) rfl rfl dX2_sizesTogether_27 rfl ?_
    refine V_get (kf := 0) C0 (by decide) l_X2_35 (by assumption) rfl dX2_sizesTogether_28 rfl ?_
    rw [hzj]
    refine V_iadd dX2_sizesTogether_31 rfl ?_
    refine V_istore_n (i := 1) rfl (by decide) rfl dX2_sizesTogether_32 rfl ?_
    refine V_iinc1 (i := 2) rfl (by decide) rfl dX2_sizesTogether_33 rfl ?_
    refine V_goto (tgt := 4) dX2_sizesTogether_36 (by decide) ?_
    refine V_forget 3 rfl ?_
    have h9 := ih (j + 1) (by omega)
    rw [← nI_1] at h9
    exact h9

set_option maxHeartbeats 4000000 in
set_option maxRecDepth 100000 in
theorem sp_Piece_sizes (l : Launch) (g : fw_G) {I : fw_I} {P : fw_P} {pa ba n : Nat} (hpa : fw_at (T0 nT) pa 2 0) (hba : fw_at (T0 nT) ba 13 16) (hpb : P pa 0 = some ba) (hn : I pa 1 = nI n) (hn16 : n ≤ 16) {s : Nat → Int32} {p : Nat} (hz : ∀ k, k < n → ∀ b, P ba k = some b → I b 0 = s (wi p k)) (hB : BtS (nT := nT) P ba) : Sp l g kX2_sizesTogether (T0 nT) [.ref (g.1 + pa)] I P (T0 nT) 0 0 (qI (aHuF s p n) I P) := by
  refine Sp.of_V (L := [some (.ref (g.1 + pa)), none, none, none]) (by decide) (by simp [Value.category]) (Nat.le_of_ble_eq_true rfl) rfl ?_
  refine V_iconst (v := 0) (by decide) dX2_sizesTogether_0 rfl ?_
  refine V_istore_n (i := 1) rfl (by decide) rfl dX2_sizesTogether_1 rfl ?_
  refine V_iconst (v := 0) (by decide) dX2_sizesTogether_2 rfl ?_
  refine V_istore_n (i := 2) rfl (by decide) rfl dX2_sizesTogether_3 rfl ?_
  exact lp_Piece_sizes l g hpa hba hpb hn hn16 hz hB n 0 (by omega)

set_option maxHeartbeats 4000000 in
set_option maxRecDepth 100000 in
theorem sp_Piece_next (l : Launch) (g : fw_G) {I : fw_I} {P : fw_P} {pa ba n : Nat} (hpa : fw_at (T0 nT) pa 2 0) (hba : fw_at (T0 nT) ba 13 16) (hpb : P pa 0 = some ba) (hn : I pa 1 = nI n) (hn16 : n ≤ 16) {s : Nat → Int32} {p : Nat} (hz : ∀ k, k < n → ∀ b, P ba k = some b → I b 0 = s (wi p k)) (hB : BtS (nT := nT) P ba) (hq : I pa 2 = ro s p 0) (hm : n = aMany s p) : Sp l g kX2_nextBeginning (T0 nT) [.ref (g.1 + pa)] I P (T0 nT) 0 0 (qI (aBeg s p) I P) := by
  refine Sp.of_V (L := [some (.ref (g.1 + pa)), none]) (by decide) (by simp [Value.category]) (Nat.le_of_ble_eq_true rfl) rfl ?_
  refine V_aload_n (i := 0) rfl rfl dX2_nextBeginning_0 rfl ?_
  refine V_get (kf := 2) C2 (by decide) l_X2_25 (by assumption) rfl dX2_nextBeginning_1 rfl ?_
  refine V_aload_n (i := 0) rfl rfl dX2_nextBeginning_4 rfl ?_
  refine V_call (n := 0) (sp_Piece_sizes l g hpa hba hpb hn hn16 hz hB) o_X2_sizesTogether m_X2_38 ⟨by decide, by decide⟩ (by assumption) rfl rfl (by first | exact Nat.le_of_ble_eq_true rfl | simp [Value.category]) (Nat.le_refl _) (Nat.le_refl _) rfl dX2_nextBeginning_5 rfl (kI ?_)
  rw [hq, hm, show aHuF s p (aMany s p) = aHu s p from rfl]
  refine V_isub dX2_nextBeginning_8 rfl ?_
  refine V_istore_n (i := 1) rfl (by decide) rfl dX2_nextBeginning_9 rfl ?_
  refine V_iload_n (i := 1) rfl rfl dX2_nextBeginning_10 rfl ?_
  refine V_if_le (tgt := 18) dX2_nextBeginning_11 (by decide) rfl (fun h_11 => ?_) (fun h_11 => ?_)
  · refine V_iconst (v := 0) (by decide) dX2_nextBeginning_18 rfl ?_
    exact V_ireturn rfl rfl dX2_nextBeginning_19 rfl rfl rfl (qI.of (by unfold aBeg; rw [← beg_eq]; first | rw [if_pos (Int32.not_le.mp h_11)] | rw [if_neg (Int32.not_lt.mpr h_11)]))
  · refine V_iload_n (i := 1) rfl rfl dX2_nextBeginning_14 rfl ?_
    refine V_goto (tgt := 19) dX2_nextBeginning_15 (by decide) ?_
    exact V_ireturn rfl rfl dX2_nextBeginning_19 rfl rfl rfl (qI.of (by unfold aBeg; rw [← beg_eq]; first | rw [if_pos (Int32.not_le.mp h_11)] | rw [if_neg (Int32.not_lt.mpr h_11)]))

set_option maxHeartbeats 4000000 in
set_option maxRecDepth 100000 in
theorem sp_Piece_hurt (l : Launch) (g : fw_G) {I : fw_I} {P : fw_P} {pa ba n : Nat} (hpa : fw_at (T0 nT) pa 2 0) (hba : fw_at (T0 nT) ba 13 16) (hpb : P pa 0 = some ba) (hn : I pa 1 = nI n) (hn16 : n ≤ 16) {s : Nat → Int32} {p : Nat} (hz : ∀ k, k < n → ∀ b, P ba k = some b → I b 0 = s (wi p k)) (hB : BtS (nT := nT) P ba) (hq : I pa 2 = ro s p 0) (hm : n = aMany s p) : Sp l g kX2_hurt (T0 nT) [.ref (g.1 + pa)] I P (T0 nT) 0 0 (qV (fun I1 P1 => I1 = up2 (up2 (up2 I pa 6 (I pa 6 + (ro s p 0 - aBeg s p))) pa 2 (aBeg s p)) pa 1 0 ∧ P1 = P)) := by
  refine Sp.of_V (L := [some (.ref (g.1 + pa)), none]) (by decide) (by simp [Value.category]) (Nat.le_of_ble_eq_true rfl) rfl ?_
  refine V_aload_n (i := 0) rfl rfl dX2_hurt_0 rfl ?_
  refine V_call (n := 0) (sp_Piece_next l g hpa hba hpb hn hn16 hz hB hq hm) o_X2_nextBeginning m_X2_42 ⟨by decide, by decide⟩ (by assumption) rfl rfl (by first | exact Nat.le_of_ble_eq_true rfl | simp [Value.category]) (Nat.le_refl _) (Nat.le_refl _) rfl dX2_hurt_1 rfl (kI ?_)
  refine V_istore_n (i := 1) rfl (by decide) rfl dX2_hurt_4 rfl ?_
  refine V_aload_n (i := 0) rfl rfl dX2_hurt_5 rfl ?_
  refine V_dup (by first | rfl | simp [Value.category]) dX2_hurt_6 rfl ?_
  refine V_get (kf := 6) C2 (by decide) l_X2_45 (by assumption) rfl dX2_hurt_7 rfl ?_
  refine V_aload_n (i := 0) rfl rfl dX2_hurt_10 rfl ?_
  refine V_get (kf := 2) C2 (by decide) l_X2_25 (by assumption) rfl dX2_hurt_11 rfl ?_
  rw [hq]
  refine V_iload_n (i := 1) rfl rfl dX2_hurt_14 rfl ?_
  refine V_isub dX2_hurt_15 rfl ?_
  refine V_iadd dX2_hurt_16 rfl ?_
  refine V_puti (kf := 6) C2 (by decide) rfl l_X2_45 rfl rfl rfl rfl (by assumption) dX2_hurt_17 rfl ?_
  refine V_aload_n (i := 0) rfl rfl dX2_hurt_20 rfl ?_
  refine V_iload_n (i := 1) rfl rfl dX2_hurt_21 rfl ?_
  refine V_puti (kf := 2) C2 (by decide) rfl l_X2_25 rfl rfl rfl rfl (by assumption) dX2_hurt_22 rfl ?_
  refine V_aload_n (i := 0) rfl rfl dX2_hurt_25 rfl ?_
  refine V_iconst (v := 0) (by decide) dX2_hurt_26 rfl ?_
  refine V_puti (kf := 1) C2 (by decide) rfl l_X2_28 rfl rfl rfl rfl (by assumption) dX2_hurt_27 rfl ?_
  exact V_return rfl dX2_hurt_30 rfl rfl rfl (⟨rfl, rfl, rfl⟩)

set_option maxHeartbeats 4000000 in
set_option maxRecDepth 100000 in
theorem sp_Piece_newLast (l : Launch) (g : fw_G) {I : fw_I} {P : fw_P} {pa ba n : Nat} (hpa : fw_at (T0 nT) pa 2 0) (hba : fw_at (T0 nT) ba 13 16) (hpb : P pa 0 = some ba) (hn : I pa 1 = nI n) (hn16 : n < 16) : Sp l g kX2_newLast (T0 nT) [.ref (g.1 + pa)] I P (T0 nT) 0 0 (qS g (fun r I1 P1 => r = P ba n ∧ I1 = up2 I pa 1 (nI (n + 1)) ∧ P1 = P)) := by
  refine Sp.of_V (L := [some (.ref (g.1 + pa))]) (by decide) (by simp [Value.category]) (Nat.le_of_ble_eq_true rfl) rfl ?_
  refine V_aload_n (i := 0) rfl rfl dX2_newLast_0 rfl ?_
  refine V_get (kf := 1) C2 (by decide) l_X2_28 (by assumption) rfl dX2_newLast_1 rfl ?_
  refine V_aload_n (i := 0) rfl rfl dX2_newLast_4 rfl ?_
  refine V_getr (kf := 0) C2 (by decide) l_X2_11 (by assumption) rfl (by assumption) dX2_newLast_5 rfl ?_
  
  refine V_alen (kd := 13) (by decide) (by assumption) dX2_newLast_8 rfl ?_
  rw [hn]
  refine V_icmp_lt (tgt := 14) dX2_newLast_9 (by decide) rfl (fun _ => ?_) (fun h => absurd (nI_lt (by omega) (by decide)) h)
  refine V_aload_n (i := 0) rfl rfl dX2_newLast_14 rfl ?_
  refine V_dup (by first | rfl | simp [Value.category]) dX2_newLast_15 rfl ?_
  refine V_get (kf := 1) C2 (by decide) l_X2_28 (by assumption) rfl dX2_newLast_16 rfl ?_
  rw [hn]
  refine V_iconst (v := 1) (by decide) dX2_newLast_19 rfl ?_
  refine V_iadd dX2_newLast_20 rfl ?_
  rw [nI_1]
  refine V_puti (kf := 1) C2 (by decide) rfl l_X2_28 rfl rfl rfl rfl (by assumption) dX2_newLast_21 rfl ?_
  refine V_aload_n (i := 0) rfl rfl dX2_newLast_24 rfl ?_
  refine V_aload_n (i := 0) rfl rfl dX2_newLast_25 rfl ?_
  refine V_get (kf := 1) C2 (by decide) l_X2_28 (by assumption) rfl dX2_newLast_26 rfl ?_
  rw [up2_same]
  refine V_iconst (v := 1) (by decide) dX2_newLast_29 rfl ?_
  refine V_isub dX2_newLast_30 rfl ?_
  rw [nI_pred]
  refine V_call (n := 1) (sp_Piece_biteAt (I := up2 I pa 1 (nI (n + 1))) (n := n + 1) l g hpa hba hpb (up2_same _ _ _ _) (by omega) (nI n)) o_X2_biteAt m_X2_31 ⟨by decide, by decide⟩ (by assumption) rfl rfl (by first | exact Nat.le_of_ble_eq_true rfl | simp [Value.category]) (Nat.le_refl _) (Nat.le_refl _) rfl dX2_newLast_31 rfl (kR ?_)
  rw [btR_nI P (Nat.lt_succ_self n) (by omega)]
  exact V_areturn (r := _) rfl dX2_newLast_34 rfl rfl rfl (⟨_, rfl, rfl, rfl, rfl⟩)

set_option maxHeartbeats 4000000 in
set_option maxRecDepth 100000 in
theorem lp_remove (l : Launch) (g : fw_G) {I : fw_I} {P : fw_P} {pa ba n k : Nat} (hpa : fw_at (T0 nT) pa 2 0) (hba : fw_at (T0 nT) ba 13 16) (hpab : pa ≠ ba) (hpb : P pa 0 = some ba) (hn : I pa 1 = nI (n + 1)) (hn16 : n < 16) (hk : k ≤ n) (hB : BtS (nT := nT) P ba) {b0 : Nat} (hb0 : P ba k = some b0) (hb0a : fw_at (T0 nT) b0 0 0) : ∀ (m j : Nat), j + m = n → k ≤ j → V l g kX2_remove (T0 nT) 0 0 (qV (fun I1 P1 => I1 = up2 I pa 1 (nI n) ∧ P1 = wp P ba (rot (P ba) k (n + 1)))) (T0 nT) I (wp P ba (rotm (P ba) k j)) 0 0 36 [some (.ref (g.1 + pa)), some (.int (nI k)), some (.int (nI n)), some (.ref (g.1 + b0)), some (.int (nI j))] [] := by
  intro m
  induction m with
  | zero =>
    intro j hj hkj
    obtain rfl : j = n := by omega
    have hpb2 : wp P ba (rotm (P ba) k j) pa 0 = some ba := by rw [wp_ne _ _ hpab]; exact hpb
    refine V_iload (i := 4) rfl dX2_remove_36 rfl ?_
    refine V_iload_n (i := 2) rfl rfl dX2_remove_38 rfl ?_
    refine V_icmp_ge (tgt := 64) dX2_remove_39 (by decide) rfl (fun _ => ?_) (fun h => absurd (nI_le (Nat.le_refl _) (by omega)) h)
    refine V_aload_n (i := 0) rfl rfl dX2_remove_64 rfl ?_
    refine V_getr (kf := 0) C2 (by decide) l_X2_11 (by assumption) rfl (by assumption) dX2_remove_65 rfl ?_
    refine V_iload_n (i := 2) rfl rfl dX2_remove_68 rfl ?_
    refine V_aload_n (i := 3) rfl rfl dX2_remove_69 rfl ?_
    refine V_aast el13 (by assumption) hb0a (fw_ix_nI hn16 (by decide)) dX2_remove_70 rfl ?_
    refine V_aload_n (i := 0) rfl rfl dX2_remove_71 rfl ?_
    refine V_iload_n (i := 2) rfl rfl dX2_remove_72 rfl ?_
    refine V_puti (kf := 1) C2 (by decide) rfl l_X2_28 rfl rfl rfl rfl (by assumption) dX2_remove_73 rfl ?_
    exact V_return rfl dX2_remove_76 rfl rfl rfl (⟨rfl, rfl, by rw [up2_wp, ← rotm_end (P ba) hk, hb0]⟩)
  | succ m ih =>
    intro j hj hkj
    have hpb2 : wp P ba (rotm (P ba) k j) pa 0 = some ba := by rw [wp_ne _ _ hpab]; exact hpb
    obtain ⟨b1, hb1, hb1a⟩ := hB (j + 1) (by omega)
    have hb12 : wp P ba (rotm (P ba) k j) ba (j + 1) = some b1 := by rw [wp_at]; unfold rotm; rw [if_neg (by omega)]; exact hb1
    refine V_iload (i := 4) rfl dX2_remove_36 rfl ?_
    refine V_iload_n (i := 2) rfl rfl dX2_remove_38 rfl ?_
    refine V_icmp_ge (tgt := 64) dX2_remove_39 (by decide) rfl (fun h => absurd h (nI_ge (by omega) (by omega))) (fun _ => ?_)
    refine V_aload_n (i := 0) rfl rfl dX2_remove_42 rfl ?_
    refine V_getr (kf := 0) C2 (by decide) l_X2_11 (by assumption) rfl (by assumption) dX2_remove_43 rfl ?_
    refine V_iload (i := 4) rfl dX2_remove_46 rfl ?_
    refine V_aload_n (i := 0) rfl rfl dX2_remove_48 rfl ?_
    refine V_getr (kf := 0) C2 (by decide) l_X2_11 (by assumption) rfl (by assumption) dX2_remove_49 rfl ?_
    refine V_iload (i := 4) rfl dX2_remove_52 rfl ?_
    refine V_iconst (v := 1) (by decide) dX2_remove_54 rfl ?_
    refine V_iadd dX2_remove_55 rfl ?_
    rw [nI_1]
    refine V_aaldr el13 (by assumption) (fw_ix_nI (by omega) (by decide)) (by assumption) dX2_remove_56 rfl ?_
    refine V_aast el13 (by assumption) hb1a (fw_ix_nI (by omega) (by decide)) dX2_remove_57 rfl ?_
    refine V_iinc1 (i := 4) rfl (by decide) rfl dX2_remove_58 rfl ?_
    refine V_goto (tgt := 36) dX2_remove_61 (by decide) ?_
    have h9 := ih (j + 1) (by omega) (by omega)
    rw [← nI_1, ← rotm_succ _ hkj, hb1] at h9
    refine V_memP (up2_wp _ _ _ _ _) ?_
    exact h9

set_option maxHeartbeats 4000000 in
set_option maxRecDepth 100000 in
theorem sp_Piece_remove (l : Launch) (g : fw_G) {I : fw_I} {P : fw_P} {pa ba n k : Nat} (hpa : fw_at (T0 nT) pa 2 0) (hba : fw_at (T0 nT) ba 13 16) (hpab : pa ≠ ba) (hpb : P pa 0 = some ba) (hn : I pa 1 = nI (n + 1)) (hn16 : n < 16) (hk : k ≤ n) (hB : BtS (nT := nT) P ba) : Sp l g kX2_remove (T0 nT) [.ref (g.1 + pa), .int (nI k)] I P (T0 nT) 0 0 (qV (fun I1 P1 => I1 = up2 I pa 1 (nI n) ∧ P1 = wp P ba (rot (P ba) k (n + 1)))) := by
  refine Sp.of_V (L := [some (.ref (g.1 + pa)), some (.int (nI k)), none, none, none]) (by decide) (by simp [Value.category]) (Nat.le_of_ble_eq_true rfl) rfl ?_
  refine V_aload_n (i := 0) rfl rfl dX2_remove_0 rfl ?_
  refine V_get (kf := 1) C2 (by decide) l_X2_28 (by assumption) rfl dX2_remove_1 rfl ?_
  rw [hn]
  refine V_iconst (v := 1) (by decide) dX2_remove_4 rfl ?_
  refine V_isub dX2_remove_5 rfl ?_
  rw [nI_pred]
  refine V_istore_n (i := 2) rfl (by decide) rfl dX2_remove_6 rfl ?_
  refine V_iload_n (i := 1) rfl rfl dX2_remove_7 rfl ?_
  refine V_if_lt (tgt := 25) dX2_remove_8 (by decide) rfl (fun h => absurd h (nI_pos (by omega))) (fun _ => ?_)
  refine V_iload_n (i := 1) rfl rfl dX2_remove_11 rfl ?_
  refine V_iload_n (i := 2) rfl rfl dX2_remove_12 rfl ?_
  refine V_icmp_gt (tgt := 25) dX2_remove_13 (by decide) rfl (fun h => absurd h (nI_nlt hk (by omega))) (fun _ => ?_)
  refine V_iload_n (i := 2) rfl rfl dX2_remove_16 rfl ?_
  refine V_aload_n (i := 0) rfl rfl dX2_remove_17 rfl ?_
  refine V_getr (kf := 0) C2 (by decide) l_X2_11 (by assumption) rfl (by assumption) dX2_remove_18 rfl ?_
  refine V_alen (kd := 13) (by decide) (by assumption) dX2_remove_21 rfl ?_
  refine V_icmp_lt (tgt := 26) dX2_remove_22 (by decide) rfl (fun _ => ?_) (fun h => absurd (nI_lt hn16 (by decide)) h)
  refine V_aload_n (i := 0) rfl rfl dX2_remove_26 rfl ?_
  refine V_getr (kf := 0) C2 (by decide) l_X2_11 (by assumption) rfl (by assumption) dX2_remove_27 rfl ?_
  refine V_iload_n (i := 1) rfl rfl dX2_remove_30 rfl ?_
  refine V_aald el13 (by assumption) (fw_ix_nI (by omega) (by decide)) dX2_remove_31 rfl ?_
  obtain ⟨b0, hb0, hb0a⟩ := hB k (by omega)
  rw [hb0]
  refine V_astore_n (i := 3) rfl (by decide) rfl dX2_remove_32 rfl ?_
  refine V_iload_n (i := 1) rfl rfl dX2_remove_33 rfl ?_
  refine V_istore (i := 4) (by decide) rfl dX2_remove_34 rfl ?_
  refine V_memP (P' := wp P ba (rotm (P ba) k k)) (by rw [rotm_0, wp_self]) ?_
  exact lp_remove l g hpa hba hpab hpb hn hn16 hk hB hb0 hb0a (n - k) k (by omega) (Nat.le_refl _)
