def appR (len : Nat) (c : Int32) : Int32 := if ¬ (32 ≤ c ∧ c ≤ 126) then -2 else if len = 60 then -3 else nI (len + 1)
abbrev appOk (len : Nat) (c : Int32) : Prop := (32 ≤ c ∧ c ≤ 126) ∧ ¬ len = 60
def mB (I : fw_I) (b c s : Nat → Int32) : fw_I := wr (wr (wr I 695 b) 696 c) 689 s
theorem mB_self (I : fw_I) : mB I (I 695) (I 696) (I 689) = I := by
  unfold mB
  rw [wr_self, wr_self, wr_self]
theorem mB_c (I : fw_I) (b c s : Nat → Int32) (j : Nat) (x : Int32) : up2 (mB I b c s) 696 j x = mB I b (upd c j x) s := by
  funext a
  unfold mB
  by_cases h9 : a = 689
  · subst h9; rw [up2_ne _ _ _ (by decide), wr_at, wr_at]
  · by_cases h6 : a = 696
    · subst h6; rw [up2_row, wr_ne _ _ (by decide), wr_at, wr_ne _ _ (by decide), wr_at]; rfl
    · rw [up2_ne _ _ _ h6, wr_ne _ _ h9, wr_ne _ _ h6, wr_ne _ _ h9, wr_ne _ _ h6]
theorem mB_b (I : fw_I) (b c s : Nat → Int32) (j : Nat) (x : Int32) : up2 (mB I b c s) 695 j x = mB I (upd b j x) c s := by
  funext a
  unfold mB
  by_cases h9 : a = 689
  · subst h9; rw [up2_ne _ _ _ (by decide), wr_at, wr_at]
  · by_cases h6 : a = 696
    · subst h6; rw [up2_ne _ _ _ (by decide), wr_ne _ _ (by decide), wr_at, wr_ne _ _ (by decide), wr_at]
    · by_cases h5 : a = 695
      · subst h5; rw [up2_row, wr_ne _ _ (by decide), wr_ne _ _ (by decide), wr_at, wr_ne _ _ (by decide), wr_ne _ _ (by decide), wr_at]; rfl
      · rw [up2_ne _ _ _ h5, wr_ne _ _ h9, wr_ne _ _ h6, wr_ne _ _ h5, wr_ne _ _ h9, wr_ne _ _ h6, wr_ne _ _ h5]
def cpB (b c : Nat → Int32) (n : Nat) : Nat → Int32 := fun j => if j < n then b j else c j
theorem cpB_succ (b c : Nat → Int32) (n : Nat) : upd (cpB b c n) n (b n) = cpB b c (n + 1) := by
  funext j
  unfold cpB
  rw [upd_at]
  by_cases h : j = n
  · subst h; rw [if_pos rfl, if_pos (by omega)]
  · rw [if_neg h]
    by_cases h2 : j < n
    · rw [if_pos h2, if_pos (by omega)]
    · rw [if_neg h2, if_neg (by omega)]
theorem cpB_0 (b c : Nat → Int32) : cpB b c 0 = c := by
  funext j
  unfold cpB
  rw [if_neg (by omega)]
def is01 (b : Nat → Int32) : Prop := ∀ j, j < 60 → b j = 0 ∨ b j = 1
theorem nar01 {x : Int32} (h : x = 0 ∨ x = 1) : vp_nar .boolean x = x := by
  rcases h with rfl | rfl <;> decide
def aLd (s : Nat → Int32) (to : Int32) : Nat := if aSnAt s to = -5 then to.toNatClampNeg else (sn s (aSnAt s to).toNatClampNeg 1).toNatClampNeg
def aInF (s : Nat → Int32) (q : Nat) (c : Nat → Int32) : Nat → Nat → Int32
  | 0 => c
  | d + 1 => upd (aInF s q c d) (aLd s (aGo (nI q) (nI (d + 1)))) 1
def aIsF (q : Nat) (x : Int32) : Nat → Int32
  | 0 => x
  | d + 1 => if ¬ aIsF q x d = 0 ∨ aGo (nI q) (nI (d + 1)) = 60 then 1 else 0
def aOuF (s b c : Nat → Int32) : Nat → Nat → Int32
  | 0 => c
  | q + 1 => if b q = 0 then aOuF s b c q else aInF s q (aOuF s b c q) 6
def aOiF (b : Nat → Int32) : Nat → Int32
  | 0 => 0
  | q + 1 => if b q = 0 then aOiF b q else aIsF q (aOiF b q) 6
def aGoN (q d : Nat) : Nat := if q + d ≤ 60 then q + d else 120 - q - d
theorem aGo_nI {q d : Nat} (hq : q ≤ 60) (hd : d ≤ 60) : aGo (nI q) (nI d) = nI (aGoN q d) := by
  unfold aGo aGoN
  rw [nI_add, show (60 : Int32) = nI 60 from rfl, show (120 : Int32) = nI 120 from rfl]
  by_cases h : q + d ≤ 60
  · rw [if_pos (nI_le h (by decide)), if_pos h]
  · rw [if_neg (nI_ge (by omega) (by omega)), if_neg h, nI_sub (by omega), nI_sub (by omega)]
theorem aGoN_le (q d : Nat) (hq : q ≤ 60) : aGoN q d ≤ 60 := by
  unfold aGoN
  split <;> omega
theorem Inv.tail {B : Nat} {s : Nat → Int32} (h : Inv B s) {x : Int32} (hx : ¬ aSnAt s x = -5) : ∃ k t, k < 10 ∧ aSnAt s x = nI k ∧ 1 ≤ t ∧ t ≤ 53 ∧ sn s k 1 = nI t := by
  obtain ⟨k, hk, e, e0, e1⟩ := aSnAt_nat hx
  rcases (h.2.2.2.2.1 k hk).1 with ⟨h0, -⟩ | ⟨hh, t, -, -, h3, h4, -, -, -, h8⟩
  · rw [h0] at e0
    rw [← e0] at e1
    exact absurd e1 (by decide)
  · exact ⟨k, t, hk, e, h3, h4, h8⟩
theorem aLd_ix {B : Nat} {s : Nat → Int32} (h : Inv B s) {to : Nat} (ht : to ≤ 60) : aLd s (nI to) < 61 ∧ (if aSnAt s (nI to) = -5 then nI to else sn s (aSnAt s (nI to)).toNatClampNeg 1) = nI (aLd s (nI to)) := by
  unfold aLd
  by_cases hc : aSnAt s (nI to) = -5
  · rw [if_pos hc, if_pos hc, nI_clamp (by omega)]
    exact ⟨by omega, rfl⟩
  · rw [if_neg hc, if_neg hc]
    obtain ⟨k, t, hk, e, h1, h2, e2⟩ := h.tail hc
    rw [e, nI_clamp (by omega), e2, nI_clamp (by omega)]
    exact ⟨by omega, rfl⟩
theorem aInF_01 {s : Nat → Int32} {q : Nat} {c : Nat → Int32} (h : is01 c) : ∀ d, is01 (aInF s q c d)
  | 0 => h
  | d + 1 => by
    intro j hj
    show upd _ _ _ j = 0 ∨ upd _ _ _ j = 1
    rw [upd_at]
    by_cases h2 : j = aLd s (aGo (nI q) (nI (d + 1)))
    · rw [if_pos h2]; exact Or.inr rfl
    · rw [if_neg h2]; exact aInF_01 h d j hj
theorem aOuF_01 {s b c : Nat → Int32} (h : is01 c) : ∀ q, is01 (aOuF s b c q)
  | 0 => h
  | q + 1 => by
    unfold aOuF
    by_cases hb : b q = 0
    · rw [if_pos hb]; exact aOuF_01 h q
    · rw [if_neg hb]; exact aInF_01 (aOuF_01 h q) 6
theorem cpB_01 {b c : Nat → Int32} (h : is01 b) : is01 (cpB b c 60) := by
  intro j hj
  unfold cpB
  rw [if_pos hj]
  exact h j hj
theorem aIsF_01 (q : Nat) {x : Int32} (h : x = 0 ∨ x = 1) : ∀ d, aIsF q x d = 0 ∨ aIsF q x d = 1
  | 0 => h
  | d + 1 => by
    unfold aIsF
    split
    · exact Or.inr rfl
    · exact Or.inl rfl
theorem aOiF_01 (b : Nat → Int32) : ∀ q, aOiF b q = 0 ∨ aOiF b q = 1
  | 0 => Or.inl rfl
  | q + 1 => by
    unfold aOiF
    split
    · exact aOiF_01 b q
    · exact aIsF_01 q (aOiF_01 b q) 6
/-- how many throws: the reference's loop -/
def aFwF (s : Nat → Int32) : Nat → Nat → (Nat → Int32) → (Nat → Int32) → Nat
  | 0, n, _, _ => n
  | f + 1, n, b, c => if ¬ aOiF b 60 = 0 then n else aFwF s f (n + 1) (cpB (aOuF s b (cpB b c 60) 60) b 60) (aOuF s b (cpB b c 60) 60)
def bgF (s : Nat → Int32) (p : Nat) (b : Nat → Int32) (n : Nat) : Nat → Int32 := fun j => if j < n then bI (nI j = aBeg s p) else b j
theorem bgF_succ (s : Nat → Int32) (p : Nat) (b : Nat → Int32) (n : Nat) : upd (bgF s p b n) n (bI (nI n = aBeg s p)) = bgF s p b (n + 1) := by
  funext j
  unfold bgF
  rw [upd_at]
  by_cases h : j = n
  · subst h; rw [if_pos rfl, if_pos (by omega)]
  · rw [if_neg h]
    by_cases h2 : j < n
    · rw [if_pos h2, if_pos (by omega)]
    · rw [if_neg h2, if_neg (by omega)]
theorem bgF_01 (s : Nat → Int32) (p : Nat) (b : Nat → Int32) : is01 (bgF s p b 60) := by
  intro j hj
  unfold bgF
  rw [if_pos hj]
  rcases bI_cases (nI j = aBeg s p) with h | h
  · exact Or.inr h.2
  · exact Or.inl h.2
def aFwN (s : Nat → Int32) (p : Nat) (b c : Nat → Int32) : Int32 := if aFwF s 60 1 (bgF s p b 60) c ≤ 60 then nI (aFwF s 60 1 (bgF s p b 60) c) else -5
def aFewX (s : Nat → Int32) (x w : Int32) (b c : Nat → Int32) : Int32 := if ¬ aPl x then -1 else if ¬ (0 ≤ w ∧ w ≤ 1) then -2 else if ro s x.toNatClampNeg 2 = 0 then aFwN s x.toNatClampNeg b c else 0
theorem aFwF_le (s : Nat → Int32) : ∀ f n b c, aFwF s f n b c ≤ n + f
  | 0, n, b, c => Nat.le_refl _
  | f + 1, n, b, c => by
    unfold aFwF
    split
    · omega
    · have := aFwF_le s f (n + 1) (cpB (aOuF s b (cpB b c 60) 60) b 60) (aOuF s b (cpB b c 60) 60)
      omega
def aNxF : Nat → Int32 → (Nat → Int32) → Int32
  | 0, _, _ => -5
  | n + 1, x, s => if aTq s (aDice (aDraw x)) = 60 then s 1 else aNxF n (aDraw x) (aT s (aDice (aDraw x)))
def aNxR (s : Nat → Int32) (x : Int32) : Int32 := if ¬ (0 ≤ x ∧ x ≤ 65535) then -2 else if s 4 = 4 then -4 else aNxF 200 x s
set_option maxHeartbeats 4000000 in
set_option maxRecDepth 100000 in
theorem sp_append (l : Launch) (g : fw_G) {I : fw_I} {P : fw_P} (hM : MSh P) {len : Nat} (hl : I 688 7 = nI len) (hl60 : len ≤ 60) (c : Int32) : Sp l g kX8_append T0 [.ref (g.1 + 688), .int c] I P T0 0 0 (qJ (fun r I2 P2 => r = appR len c ∧ P2 = P ∧ ((appOk len c ∧ I2 = up2 (up2 I 693 len c) 688 7 (nI (len + 1))) ∨ (¬ appOk len c ∧ I2 = I)))) := by
  have a688 := at_688
  have a689 := at_689
  have a691 := at_691
  have a692 := at_692
  have a693 := at_693
  obtain ⟨p0, p1, p3, p5, p6, p10, p12, p13⟩ := id hM
  refine Sp.of_V (L := [some (.ref (g.1 + 688)), some (.int c)]) (by decide) (by simp [Value.category]) (Nat.le_of_ble_eq_true rfl) rfl ?_
  refine V_iload_n (i := 1) rfl rfl dX8_append_0 rfl ?_
  refine V_bipush (v := 32) (by decide) dX8_append_1 rfl ?_
  refine V_bipush (v := 126) (by decide) dX8_append_3 rfl ?_
  refine V_callS (n := 3) (sp_in l g _ P c 32 126) o_X8_in m_X8_35 ⟨by decide, by decide⟩ rfl rfl (by first | exact Nat.le_of_ble_eq_true rfl | simp [Value.category]) (Nat.le_refl _) (Nat.le_refl _) rfl dX8_append_5 rfl (kI ?_)
  refine V_if_ne (tgt := 14) dX8_append_8 (by decide) rfl (fun h_8 => ?_) (fun h_8 => ?_)
  · refine V_aload_n (i := 0) rfl rfl dX8_append_14 rfl ?_
    refine V_get (kf := 7) C8 (by decide) l_X8_139 (by assumption) rfl dX8_append_15 rfl ?_
    rw [hl]
    refine V_bipush (v := 60) (by decide) dX8_append_18 rfl ?_
    refine V_icmp_ne (tgt := 26) dX8_append_20 (by decide) rfl (fun h_20 => ?_) (fun h_20 => ?_)
    · refine V_aload_n (i := 0) rfl rfl dX8_append_26 rfl ?_
      refine V_getr (kf := 6) C8 (by decide) l_X8_22 (by assumption) rfl (by assumption) dX8_append_27 rfl ?_
      refine V_aload_n (i := 0) rfl rfl dX8_append_30 rfl ?_
      refine V_get (kf := 7) C8 (by decide) l_X8_139 (by assumption) rfl dX8_append_31 rfl ?_
      rw [hl]
      refine V_iload_n (i := 1) rfl rfl dX8_append_34 rfl ?_
      refine V_iast (by assumption) (fw_ix_nI (by have : len ≠ 60 := fun h => h_20 (by rw [h]; rfl); omega) (by decide)) dX8_append_35 rfl ?_
      refine V_aload_n (i := 0) rfl rfl dX8_append_36 rfl ?_
      refine V_dup (by first | rfl | simp [Value.category]) dX8_append_37 rfl ?_
      refine V_get (kf := 7) C8 (by decide) l_X8_139 (by assumption) rfl dX8_append_38 rfl ?_
      rw [show up2 I 693 len c 688 7 = nI len from hl]
      refine V_iconst (v := 1) (by decide) dX8_append_41 rfl ?_
      refine V_iadd dX8_append_42 rfl ?_
      refine V_puti (kf := 7) C8 (by decide) rfl l_X8_139 rfl rfl rfl rfl (by assumption) dX8_append_43 rfl ?_
      refine V_aload_n (i := 0) rfl rfl dX8_append_46 rfl ?_
      refine V_get (kf := 7) C8 (by decide) l_X8_139 (by assumption) rfl dX8_append_47 rfl ?_
      rw [up2_same]
      exact V_ireturn rfl rfl dX8_append_50 rfl rfl rfl (by have h60 : ¬ len = 60 := fun h => h_20 (by rw [h]; rfl); exact ⟨_, rfl, by unfold appR; rw [if_neg (fun h => h (bI_nz h_8)), if_neg h60, nI_1], rfl, Or.inl ⟨⟨bI_nz h_8, h60⟩, by rw [nI_1]⟩⟩)
    · refine V_bipush (v := (-3)) (by decide) dX8_append_23 rfl ?_
      exact V_ireturn rfl rfl dX8_append_25 rfl rfl rfl (by have h60 : len = 60 := nI_inj (by omega) (by decide) h_20; exact ⟨_, rfl, by unfold appR; rw [if_neg (fun h => h (bI_nz h_8)), if_pos h60], rfl, Or.inr ⟨fun h => h.2 h60, rfl⟩⟩)
  · refine V_bipush (v := (-2)) (by decide) dX8_append_11 rfl ?_
    exact V_ireturn rfl rfl dX8_append_13 rfl rfl rfl (⟨_, rfl, by unfold appR; rw [if_pos (bI_z h_8)], rfl, Or.inr ⟨fun h => bI_z h_8 h.1, rfl⟩⟩)

set_option maxHeartbeats 4000000 in
set_option maxRecDepth 100000 in
theorem sp_clearText (l : Launch) (g : fw_G) {I : fw_I} {P : fw_P} (hM : MSh P) : Sp l g kX8_clearText T0 [.ref (g.1 + 688)] I P T0 0 0 (qJ (fun r I2 P2 => r = I 688 7 ∧ P2 = P ∧ I2 = up2 I 688 7 0)) := by
  have a688 := at_688
  have a689 := at_689
  have a691 := at_691
  have a692 := at_692
  have a693 := at_693
  obtain ⟨p0, p1, p3, p5, p6, p10, p12, p13⟩ := id hM
  refine Sp.of_V (L := [some (.ref (g.1 + 688)), none]) (by decide) (by simp [Value.category]) (Nat.le_of_ble_eq_true rfl) rfl ?_
  refine V_aload_n (i := 0) rfl rfl dX8_clearText_0 rfl ?_
  refine V_get (kf := 7) C8 (by decide) l_X8_139 (by assumption) rfl dX8_clearText_1 rfl ?_
  refine V_istore_n (i := 1) rfl (by decide) rfl dX8_clearText_4 rfl ?_
  refine V_aload_n (i := 0) rfl rfl dX8_clearText_5 rfl ?_
  refine V_iconst (v := 0) (by decide) dX8_clearText_6 rfl ?_
  refine V_puti (kf := 7) C8 (by decide) rfl l_X8_139 rfl rfl rfl rfl (by assumption) dX8_clearText_7 rfl ?_
  refine V_iload_n (i := 1) rfl rfl dX8_clearText_10 rfl ?_
  exact V_ireturn rfl rfl dX8_clearText_11 rfl rfl rfl (⟨_, rfl, rfl, rfl, rfl⟩)

set_option maxHeartbeats 4000000 in
set_option maxRecDepth 100000 in
theorem sp_undo0 (l : Launch) (g : fw_G) {I : fw_I} {P : fw_P} (hM : MSh P) (hk : I 688 2 = 0) : Sp l g kX8_undo T0 [.ref (g.1 + 688)] I P T0 0 0 (qJ (fun r I2 P2 => P2 = P ∧ r = -5 ∧ I2 = I)) := by
  have a688 := at_688
  have a689 := at_689
  have a691 := at_691
  have a692 := at_692
  have a693 := at_693
  obtain ⟨p0, p1, p3, p5, p6, p10, p12, p13⟩ := id hM
  refine Sp.of_V (L := [some (.ref (g.1 + 688))]) (by decide) (by simp [Value.category]) (Nat.le_of_ble_eq_true rfl) rfl ?_
  refine V_aload_n (i := 0) rfl rfl dX8_undo_0 rfl ?_
  refine V_get (kf := 2) C8 (by decide) l_X8_50 (by assumption) rfl dX8_undo_1 rfl ?_
  rw [hk]
  refine V_if_ne (tgt := 10) dX8_undo_4 (by decide) rfl (fun h => absurd rfl h) (fun _ => ?_)
  refine V_bipush (v := (-5)) (by decide) dX8_undo_7 rfl ?_
  exact V_ireturn rfl rfl dX8_undo_9 rfl rfl rfl (⟨_, rfl, rfl, rfl, rfl⟩)

set_option maxHeartbeats 4000000 in
set_option maxRecDepth 100000 in
theorem sp_undo1 (l : Launch) (g : fw_G) {I : fw_I} {P : fw_P} (hM : MSh P) {k : Nat} (hk5 : k < 5) (hk : I 688 2 = nI (k + 1)) : Sp l g kX8_undo T0 [.ref (g.1 + 688)] I P T0 0 0 (qJ (fun r I2 P2 => P2 = P ∧ r = nI k ∧ I2 = wr (up2 I 688 2 (nI k)) 689 (cpF (I 690) (I 689) (392 * k) 0 392))) := by
  have a688 := at_688
  have a689 := at_689
  have a691 := at_691
  have a692 := at_692
  have a693 := at_693
  obtain ⟨p0, p1, p3, p5, p6, p10, p12, p13⟩ := id hM
  refine Sp.of_V (L := [some (.ref (g.1 + 688))]) (by decide) (by simp [Value.category]) (Nat.le_of_ble_eq_true rfl) rfl ?_
  refine V_aload_n (i := 0) rfl rfl dX8_undo_0 rfl ?_
  refine V_get (kf := 2) C8 (by decide) l_X8_50 (by assumption) rfl dX8_undo_1 rfl ?_
  rw [hk]
  refine V_if_ne (tgt := 10) dX8_undo_4 (by decide) rfl (fun _ => ?_) (fun h => absurd h (nI_ne0 (by omega) (by omega)))
  refine V_aload_n (i := 0) rfl rfl dX8_undo_10 rfl ?_
  refine V_dup (by first | rfl | simp [Value.category]) dX8_undo_11 rfl ?_
  refine V_get (kf := 2) C8 (by decide) l_X8_50 (by assumption) rfl dX8_undo_12 rfl ?_
  rw [hk]
  refine V_iconst (v := 1) (by decide) dX8_undo_15 rfl ?_
  refine V_isub dX8_undo_16 rfl ?_
  rw [nI_pred]
  refine V_puti (kf := 2) C8 (by decide) rfl l_X8_50 rfl rfl rfl rfl (by assumption) dX8_undo_17 rfl ?_
  refine V_aload_n (i := 0) rfl rfl dX8_undo_20 rfl ?_
  refine V_getr (kf := 1) C8 (by decide) l_X8_13 (by assumption) rfl (by assumption) dX8_undo_21 rfl ?_
  refine V_sipush (v := 392) (by decide) dX8_undo_24 rfl ?_
  refine V_aload_n (i := 0) rfl rfl dX8_undo_27 rfl ?_
  refine V_get (kf := 2) C8 (by decide) l_X8_50 (by assumption) rfl dX8_undo_28 rfl ?_
  rw [up2_same, show (392 : Int32) = nI 392 from rfl]
  refine V_imul dX8_undo_31 rfl ?_
  rw [nI_mul]
  refine V_aload_n (i := 0) rfl rfl dX8_undo_32 rfl ?_
  refine V_getr (kf := 0) C8 (by decide) l_X8_7 (by assumption) rfl (by assumption) dX8_undo_33 rfl ?_
  refine V_iconst (v := 0) (by decide) dX8_undo_36 rfl ?_
  refine V_callS (n := 4) (sp_copy (I := up2 I 688 2 (nI k)) (f := 392 * k) (t := 0) l g (by decide : (690 : Nat) ≠ 689) at_690 at_689 (by omega) (by decide) (by decide) (by decide)) o_X8_copy m_X8_54 ⟨by decide, by decide⟩ rfl rfl (by first | exact Nat.le_of_ble_eq_true rfl | simp [Value.category]) (Nat.le_refl _) (Nat.le_refl _) rfl dX8_undo_37 rfl (kW ?_)
  refine V_aload_n (i := 0) rfl rfl dX8_undo_40 rfl ?_
  refine V_get (kf := 2) C8 (by decide) l_X8_50 (by assumption) rfl dX8_undo_41 rfl ?_
  rw [wr_ne _ _ (by decide), up2_same]
  exact V_ireturn rfl rfl dX8_undo_44 rfl rfl rfl (⟨_, rfl, rfl, rfl, by rw [up2_ne _ _ _ (by decide), up2_ne _ _ _ (by decide)]⟩)

set_option maxHeartbeats 4000000 in
set_option maxRecDepth 100000 in
theorem sp_save (l : Launch) (g : fw_G) {I : fw_I} {P : fw_P} (hM : MSh P) : Sp l g kX8_save T0 [.ref (g.1 + 688)] I P T0 0 0 (qJ (fun r I2 P2 => r = I 689 0 ∧ P2 = P ∧ I2 = up2 (wr I 691 (cpF (I 689) (I 691) 0 0 392)) 688 4 1)) := by
  have a688 := at_688
  have a689 := at_689
  have a691 := at_691
  have a692 := at_692
  have a693 := at_693
  obtain ⟨p0, p1, p3, p5, p6, p10, p12, p13⟩ := id hM
  refine Sp.of_V (L := [some (.ref (g.1 + 688))]) (by decide) (by simp [Value.category]) (Nat.le_of_ble_eq_true rfl) rfl ?_
  refine V_aload_n (i := 0) rfl rfl dX8_save_0 rfl ?_
  refine V_getr (kf := 0) C8 (by decide) l_X8_7 (by assumption) rfl (by assumption) dX8_save_1 rfl ?_
  refine V_iconst (v := 0) (by decide) dX8_save_4 rfl ?_
  refine V_aload_n (i := 0) rfl rfl dX8_save_5 rfl ?_
  refine V_getr (kf := 3) C8 (by decide) l_X8_16 (by assumption) rfl (by assumption) dX8_save_6 rfl ?_
  refine V_iconst (v := 0) (by decide) dX8_save_9 rfl ?_
  refine V_callS (n := 4) (sp_copy (f := 0) (t := 0) l g (by decide : (689 : Nat) ≠ 691) at_689 at_691 (by decide) (by decide) (by decide) (by decide)) o_X8_copy m_X8_54 ⟨by decide, by decide⟩ rfl rfl (by first | exact Nat.le_of_ble_eq_true rfl | simp [Value.category]) (Nat.le_refl _) (Nat.le_refl _) rfl dX8_save_10 rfl (kW ?_)
  refine V_aload_n (i := 0) rfl rfl dX8_save_13 rfl ?_
  refine V_iconst (v := 1) (by decide) dX8_save_14 rfl ?_
  refine V_puti (kf := 4) C8 (by decide) rfl l_X8_173 rfl rfl (by decide) (by decide) (by assumption) dX8_save_15 rfl ?_
  refine V_aload_n (i := 0) rfl rfl dX8_save_18 rfl ?_
  refine V_getr (kf := 0) C8 (by decide) l_X8_7 (by assumption) rfl (by assumption) dX8_save_19 rfl ?_
  refine V_iconst (v := 0) (by decide) dX8_save_22 rfl ?_
  refine V_iald (by assumption) (fw_ix_nI (j := 0) (by decide) (by decide)) dX8_save_23 rfl ?_
  exact V_ireturn rfl rfl dX8_save_24 rfl rfl rfl (⟨_, rfl, by rw [up2_ne _ _ _ (by decide), wr_ne _ _ (by decide)], rfl, rfl⟩)

set_option maxHeartbeats 4000000 in
set_option maxRecDepth 100000 in
theorem sp_restore (l : Launch) (g : fw_G) {I : fw_I} {P : fw_P} (hM : MSh P) {k : Nat} (hk5 : k ≤ 5) (hk : I 688 2 = nI k) : Sp l g kX8_restore T0 [.ref (g.1 + 688)] I P T0 0 0 (qJ (fun r I2 P2 => P2 = P ∧ ((I 688 4 = 0 ∧ r = -4 ∧ I2 = I) ∨ (¬ I 688 4 = 0 ∧ r = I 691 0 ∧ ∃ I1, RecP I I1 k ∧ I2 = wr I1 689 (cpF (I 691) (I 689) 0 0 392))))) := by
  have a688 := at_688
  have a689 := at_689
  have a691 := at_691
  have a692 := at_692
  have a693 := at_693
  obtain ⟨p0, p1, p3, p5, p6, p10, p12, p13⟩ := id hM
  refine Sp.of_V (L := [some (.ref (g.1 + 688))]) (by decide) (by simp [Value.category]) (Nat.le_of_ble_eq_true rfl) rfl ?_
  refine V_aload_n (i := 0) rfl rfl dX8_restore_0 rfl ?_
  refine V_get (kf := 4) C8 (by decide) l_X8_173 (by assumption) rfl dX8_restore_1 rfl ?_
  refine V_if_ne (tgt := 10) dX8_restore_4 (by decide) rfl (fun h_4 => ?_) (fun h_4 => ?_)
  · refine V_aload_n (i := 0) rfl rfl dX8_restore_10 rfl ?_
    refine V_call (n := 0) (sp_record l g hM hk5 hk) o_X8_record m_X8_110 ⟨by decide, by decide⟩ (by assumption) rfl rfl (by first | exact Nat.le_of_ble_eq_true rfl | simp [Value.category]) (Nat.le_refl _) (Nat.le_refl _) rfl dX8_restore_11 rfl (kRec (fun I11 hr11 => ?_))
    refine V_aload_n (i := 0) rfl rfl dX8_restore_14 rfl ?_
    refine V_getr (kf := 3) C8 (by decide) l_X8_16 (by assumption) rfl (by assumption) dX8_restore_15 rfl ?_
    refine V_iconst (v := 0) (by decide) dX8_restore_18 rfl ?_
    refine V_aload_n (i := 0) rfl rfl dX8_restore_19 rfl ?_
    refine V_getr (kf := 0) C8 (by decide) l_X8_7 (by assumption) rfl (by assumption) dX8_restore_20 rfl ?_
    refine V_iconst (v := 0) (by decide) dX8_restore_23 rfl ?_
    refine V_callS (n := 4) (sp_copy (f := 0) (t := 0) l g (by decide : (691 : Nat) ≠ 689) at_691 at_689 (by decide) (by decide) (by decide) (by decide)) o_X8_copy m_X8_54 ⟨by decide, by decide⟩ rfl rfl (by first | exact Nat.le_of_ble_eq_true rfl | simp [Value.category]) (Nat.le_refl _) (Nat.le_refl _) rfl dX8_restore_24 rfl (kW ?_)
    refine V_aload_n (i := 0) rfl rfl dX8_restore_27 rfl ?_
    refine V_getr (kf := 0) C8 (by decide) l_X8_7 (by assumption) rfl (by assumption) dX8_restore_28 rfl ?_
    refine V_iconst (v := 0) (by decide) dX8_restore_31 rfl ?_
    refine V_iald (by assumption) (fw_ix_nI (j := 0) (by decide) (by decide)) dX8_restore_32 rfl ?_
    exact V_ireturn rfl rfl dX8_restore_33 rfl rfl rfl (⟨_, rfl, rfl, Or.inr ⟨h_4, by rw [wr_at, hr11.1 691 (by decide) (by decide)]; rfl, I11, hr11, by rw [hr11.1 691 (by decide) (by decide), hr11.1 689 (by decide) (by decide)]⟩⟩)
  · refine V_bipush (v := (-4)) (by decide) dX8_restore_7 rfl ?_
    exact V_ireturn rfl rfl dX8_restore_9 rfl rfl rfl (⟨_, rfl, rfl, Or.inl ⟨h_4, rfl, rfl⟩⟩)

set_option maxHeartbeats 4000000 in
set_option maxRecDepth 100000 in
theorem lp_th3 (l : Launch) (g : fw_G) {I : fw_I} {P : fw_P} {s b c : Nat → Int32} {B : Nat} (hM : MSh P) (hI : Inv B s) (hb : is01 b) : ∀ (n j : Nat), j + n = 60 → V l g kX8_throwsHome T0 0 0 (qJ (fun r I1 P1 => r = aOiF b 60 ∧ I1 = mB I (cpB (aOuF s b (cpB b c 60) 60) b 60) ((aOuF s b (cpB b c 60) 60)) (s) ∧ P1 = P)) T0 (mB I (cpB (aOuF s b (cpB b c 60) 60) b j) ((aOuF s b (cpB b c 60) 60)) (s)) P 0 0 124 [some (.ref (g.1 + 688)), some (.int (aOiF b 60)), some (.int (nI j)), none, none, none] [] := by
  have a688 := at_688
  have a695 := at_695
  have a696 := at_696
  obtain ⟨p0, p1, p3, p5, p6, p10, p12, p13⟩ := id hM
  intro n
  induction n with
  | zero =>
    intro j hj
    obtain rfl : j = 60 := by omega
    refine V_iload_n (i := 2) rfl rfl dX8_throwsHome_124 rfl ?_
    refine V_bipush (v := 60) (by decide) dX8_throwsHome_125 rfl ?_
    refine V_icmp_ge (tgt := 148) dX8_throwsHome_127 (by decide) rfl (fun _ => ?_) (fun h => absurd (nI_le (a := 60) (b := 60) (Nat.le_refl _) (by decide)) h)
    refine V_iload_n (i := 1) rfl rfl dX8_throwsHome_148 rfl ?_
    exact V_ireturn rfl (by obtain h | h := aOiF_01 b 60 <;> rw [h] <;> decide) dX8_throwsHome_149 rfl rfl rfl (⟨_, rfl, rfl, rfl, rfl⟩)
  | succ n ih =>
    intro j hj
    have hjN : j < 60 := by omega
    refine V_iload_n (i := 2) rfl rfl dX8_throwsHome_124 rfl ?_
    refine V_bipush (v := 60) (by decide) dX8_throwsHome_125 rfl ?_
    refine V_icmp_ge (tgt := 148) dX8_throwsHome_127 (by decide) rfl (fun h => absurd h (nI_ge (b := 60) (by omega) (by decide))) (fun _ => ?_)
    refine V_aload_n (i := 0) rfl rfl dX8_throwsHome_130 rfl ?_
    refine V_getr (kf := 12) C8 (by decide) l_X8_28 (by assumption) rfl (by assumption) dX8_throwsHome_131 rfl ?_
    refine V_iload_n (i := 2) rfl rfl dX8_throwsHome_134 rfl ?_
    refine V_aload_n (i := 0) rfl rfl dX8_throwsHome_135 rfl ?_
    refine V_getr (kf := 13) C8 (by decide) l_X8_32 (by assumption) rfl (by assumption) dX8_throwsHome_136 rfl ?_
    refine V_iload_n (i := 2) rfl rfl dX8_throwsHome_139 rfl ?_
    refine V_zald (by assumption) (fw_ix_nI (by omega) (by decide)) dX8_throwsHome_140 rfl ?_
    refine V_zast (nar01 (aOuF_01 (cpB_01 hb) 60 j hjN)) (by assumption) (fw_ix_nI (by omega) (by decide)) dX8_throwsHome_141 rfl ?_
    rw [mB_b, show upd (cpB (aOuF s b (cpB b c 60) 60) b j) j (mB I (cpB (aOuF s b (cpB b c 60) 60) b j) (aOuF s b (cpB b c 60) 60) s 696 j) = cpB (aOuF s b (cpB b c 60) 60) b (j + 1) from cpB_succ _ _ j]
    refine V_iinc1 (i := 2) rfl (by decide) rfl dX8_throwsHome_142 rfl ?_
    refine V_goto (tgt := 124) dX8_throwsHome_145 (by decide) ?_
    have h9 := ih (j + 1) (by omega)
    rw [← nI_1] at h9
    exact h9

set_option maxHeartbeats 4000000 in
set_option maxRecDepth 100000 in
theorem lp_th2i (l : Launch) (g : fw_G) {I : fw_I} {P : fw_P} {s b c : Nat → Int32} {B : Nat} (hM : MSh P) (hI : Inv B s) (hb : is01 b) {q : Nat} (hq : q < 60) (hbq : ¬ b q = 0) (kk : V l g kX8_throwsHome T0 0 0 (qJ (fun r I1 P1 => r = aOiF b 60 ∧ I1 = mB I (cpB (aOuF s b (cpB b c 60) 60) b 60) ((aOuF s b (cpB b c 60) 60)) (s) ∧ P1 = P)) T0 (mB I (b) (aInF s q (aOuF s b (cpB b c 60) q) 6) (s)) P 0 0 116 [some (.ref (g.1 + 688)), some (.int (aIsF q (aOiF b q) 6)), some (.int (nI q)), none, none, none] []) : ∀ (n d : Nat), d + n = 6 → V l g kX8_throwsHome T0 0 0 (qJ (fun r I1 P1 => r = aOiF b 60 ∧ I1 = mB I (cpB (aOuF s b (cpB b c 60) 60) b 60) ((aOuF s b (cpB b c 60) 60)) (s) ∧ P1 = P)) T0 (mB I (b) (aInF s q (aOuF s b (cpB b c 60) q) d) (s)) P 0 0 38 [some (.ref (g.1 + 688)), some (.int (aIsF q (aOiF b q) d)), some (.int (nI q)), some (.int (nI (d + 1))), none, none] [] := by
  have a688 := at_688
  have a695 := at_695
  have a696 := at_696
  obtain ⟨p0, p1, p3, p5, p6, p10, p12, p13⟩ := id hM
  intro n
  induction n with
  | zero =>
    intro d hd
    obtain rfl : d = 6 := by omega
    refine V_iload_n (i := 3) rfl rfl dX8_throwsHome_38 rfl ?_
    refine V_bipush (v := 6) (by decide) dX8_throwsHome_39 rfl ?_
    refine V_icmp_gt (tgt := 116) dX8_throwsHome_41 (by decide) rfl (fun _ => ?_) (fun h => absurd (nI_lt (a := 6) (by decide) (by decide)) h)
    exact V_forget 3 rfl kk
  | succ n ih =>
    intro d hd
    have hto : aGo (nI q) (nI (d + 1)) = nI (aGoN q (d + 1)) := aGo_nI (by omega) (by omega)
    have hto60 := aGoN_le q (d + 1) (by omega)
    obtain ⟨hix, hval⟩ := aLd_ix hI hto60
    refine V_iload_n (i := 3) rfl rfl dX8_throwsHome_38 rfl ?_
    refine V_bipush (v := 6) (by decide) dX8_throwsHome_39 rfl ?_
    refine V_icmp_gt (tgt := 116) dX8_throwsHome_41 (by decide) rfl (fun h => absurd h (nI_nlt (b := d + 1) (a := 6) (by omega) (by decide))) (fun _ => ?_)
    refine V_aload_n (i := 0) rfl rfl dX8_throwsHome_44 rfl ?_
    refine V_getr (kf := 12) C8 (by decide) l_X8_28 (by assumption) rfl (by assumption) dX8_throwsHome_45 rfl ?_
    refine V_iload_n (i := 2) rfl rfl dX8_throwsHome_48 rfl ?_
    refine V_zald (by assumption) (fw_ix_nI (by omega) (by decide)) dX8_throwsHome_49 rfl ?_
    rw [show mB I (b) (aInF s q (aOuF s b (cpB b c 60) q) d) (s) 695 q = b q from rfl]
    refine V_if_eq (tgt := 116) dX8_throwsHome_50 (by decide) rfl (fun h => absurd h hbq) (fun _ => ?_)
    refine V_iload_n (i := 2) rfl rfl dX8_throwsHome_53 rfl ?_
    refine V_iload_n (i := 3) rfl rfl dX8_throwsHome_54 rfl ?_
    refine V_callS (n := 2) (sp_goOn l g _ P (nI q) (nI (d + 1))) o_X8_goOn m_X8_82 ⟨by decide, by decide⟩ rfl rfl (by first | exact Nat.le_of_ble_eq_true rfl | simp [Value.category]) (Nat.le_refl _) (Nat.le_refl _) rfl dX8_throwsHome_55 rfl (kI ?_)
    rw [hto]
    refine V_istore (i := 4) (by decide) rfl dX8_throwsHome_58 rfl ?_
    refine V_aload_n (i := 0) rfl rfl dX8_throwsHome_60 rfl ?_
    refine V_iload (i := 4) rfl dX8_throwsHome_61 rfl ?_
    refine V_call (n := 1) (sp_snakeAt l g hM (nI (aGoN q (d + 1)))) o_X8_snakeAt m_X8_65 ⟨by decide, by decide⟩ (by assumption) rfl rfl (by first | exact Nat.le_of_ble_eq_true rfl | simp [Value.category]) (Nat.le_refl _) (Nat.le_refl _) rfl dX8_throwsHome_63 rfl (kI ?_)
    refine V_mem (I' := mB I (b) (aInF s q (aOuF s b (cpB b c 60) q) d) (s)) rfl ?_
    refine V_istore (i := 5) (by decide) rfl dX8_throwsHome_66 rfl ?_
    refine V_iload_n (i := 1) rfl rfl dX8_throwsHome_68 rfl ?_
    refine V_if_ne (tgt := 79) dX8_throwsHome_69 (by decide) rfl (fun h_69 => ?_) (fun h_69 => ?_)
    · refine V_iconst (v := 1) (by decide) dX8_throwsHome_79 rfl ?_
      refine V_goto (tgt := 84) dX8_throwsHome_80 (by decide) ?_
      refine V_istore_n (i := 1) rfl (by decide) rfl dX8_throwsHome_84 rfl ?_
      refine V_aload_n (i := 0) rfl rfl dX8_throwsHome_85 rfl ?_
      refine V_getr (kf := 13) C8 (by decide) l_X8_32 (by assumption) rfl (by assumption) dX8_throwsHome_86 rfl ?_
      refine V_iload (i := 5) rfl dX8_throwsHome_89 rfl ?_
      refine V_bipush (v := (-5)) (by decide) dX8_throwsHome_91 rfl ?_
      refine V_icmp_ne (tgt := 101) dX8_throwsHome_93 (by decide) rfl (fun h_93 => ?_) (fun h_93 => ?_)
      · refine V_aload_n (i := 0) rfl rfl dX8_throwsHome_101 rfl ?_
        refine V_iload (i := 5) rfl dX8_throwsHome_102 rfl ?_
        refine V_iconst (v := 1) (by decide) dX8_throwsHome_104 rfl ?_
        obtain ⟨k9, hk9, ek9, -, -⟩ := aSnAt_nat h_93
        rw [ek9]
        refine V_call (n := 2) (sp_ofSnake (k := k9) l g hM hk9 (by decide : 1 < 4)) o_X8_ofSnake m_X8_47 ⟨by decide, by decide⟩ (by assumption) rfl rfl (by first | exact Nat.le_of_ble_eq_true rfl | simp [Value.category]) (Nat.le_refl _) (Nat.le_refl _) rfl dX8_throwsHome_105 rfl (kI ?_)
        refine V_mem (I' := mB I (b) (aInF s q (aOuF s b (cpB b c 60) q) d) (s)) rfl ?_
        rw [if_neg h_93, ek9, nI_clamp (by omega)] at hval
        rw [hval]
        refine V_iconst (v := 1) (by decide) dX8_throwsHome_108 rfl ?_
        refine V_zast (by decide) (by assumption) (fw_ix_nI hix (by decide)) dX8_throwsHome_109 rfl ?_
        refine V_iinc1 (i := 3) rfl (by decide) rfl dX8_throwsHome_110 rfl ?_
        refine V_goto (tgt := 38) dX8_throwsHome_113 (by decide) ?_
        have h9 := ih (d + 1) (by omega)
        rw [← nI_1 (d + 1), show aIsF q (aOiF b q) (d + 1) = if ¬ aIsF q (aOiF b q) d = 0 ∨ aGo (nI q) (nI (d + 1)) = 60 then 1 else 0 from rfl, show aInF s q (aOuF s b (cpB b c 60) q) (d + 1) = upd (aInF s q (aOuF s b (cpB b c 60) q) d) (aLd s (aGo (nI q) (nI (d + 1)))) 1 from rfl, hto, ← mB_c] at h9
        refine V_forget 4 rfl (V_forget 5 rfl ?_)
        first
          | (rw [if_pos (Or.inl h_69)] at h9; exact h9)
          | (rw [if_pos (Or.inr h_76)] at h9; exact h9)
          | (rw [if_neg (fun h => h.elim (fun h2 => h2 h_69) h_76)] at h9; exact h9)
      · refine V_iload (i := 4) rfl dX8_throwsHome_96 rfl ?_
        rw [if_pos h_93] at hval
        rw [hval]
        refine V_goto (tgt := 108) dX8_throwsHome_98 (by decide) ?_
        refine V_iconst (v := 1) (by decide) dX8_throwsHome_108 rfl ?_
        refine V_zast (by decide) (by assumption) (fw_ix_nI hix (by decide)) dX8_throwsHome_109 rfl ?_
        refine V_iinc1 (i := 3) rfl (by decide) rfl dX8_throwsHome_110 rfl ?_
        refine V_goto (tgt := 38) dX8_throwsHome_113 (by decide) ?_
        have h9 := ih (d + 1) (by omega)
        rw [← nI_1 (d + 1), show aIsF q (aOiF b q) (d + 1) = if ¬ aIsF q (aOiF b q) d = 0 ∨ aGo (nI q) (nI (d + 1)) = 60 then 1 else 0 from rfl, show aInF s q (aOuF s b (cpB b c 60) q) (d + 1) = upd (aInF s q (aOuF s b (cpB b c 60) q) d) (aLd s (aGo (nI q) (nI (d + 1)))) 1 from rfl, hto, ← mB_c] at h9
        refine V_forget 4 rfl (V_forget 5 rfl ?_)
        first
          | (rw [if_pos (Or.inl h_69)] at h9; exact h9)
          | (rw [if_pos (Or.inr h_76)] at h9; exact h9)
          | (rw [if_neg (fun h => h.elim (fun h2 => h2 h_69) h_76)] at h9; exact h9)
    · refine V_iload (i := 4) rfl dX8_throwsHome_72 rfl ?_
      refine V_bipush (v := 60) (by decide) dX8_throwsHome_74 rfl ?_
      refine V_icmp_ne (tgt := 83) dX8_throwsHome_76 (by decide) rfl (fun h_76 => ?_) (fun h_76 => ?_)
      · refine V_iconst (v := 0) (by decide) dX8_throwsHome_83 rfl ?_
        refine V_istore_n (i := 1) rfl (by decide) rfl dX8_throwsHome_84 rfl ?_
        refine V_aload_n (i := 0) rfl rfl dX8_throwsHome_85 rfl ?_
        refine V_getr (kf := 13) C8 (by decide) l_X8_32 (by assumption) rfl (by assumption) dX8_throwsHome_86 rfl ?_
        refine V_iload (i := 5) rfl dX8_throwsHome_89 rfl ?_
        refine V_bipush (v := (-5)) (by decide) dX8_throwsHome_91 rfl ?_
        refine V_icmp_ne (tgt := 101) dX8_throwsHome_93 (by decide) rfl (fun h_93 => ?_) (fun h_93 => ?_)
        · refine V_aload_n (i := 0) rfl rfl dX8_throwsHome_101 rfl ?_
          refine V_iload (i := 5) rfl dX8_throwsHome_102 rfl ?_
          refine V_iconst (v := 1) (by decide) dX8_throwsHome_104 rfl ?_
          obtain ⟨k9, hk9, ek9, -, -⟩ := aSnAt_nat h_93
          rw [ek9]
          refine V_call (n := 2) (sp_ofSnake (k := k9) l g hM hk9 (by decide : 1 < 4)) o_X8_ofSnake m_X8_47 ⟨by decide, by decide⟩ (by assumption) rfl rfl (by first | exact Nat.le_of_ble_eq_true rfl | simp [Value.category]) (Nat.le_refl _) (Nat.le_refl _) rfl dX8_throwsHome_105 rfl (kI ?_)
          refine V_mem (I' := mB I (b) (aInF s q (aOuF s b (cpB b c 60) q) d) (s)) rfl ?_
          rw [if_neg h_93, ek9, nI_clamp (by omega)] at hval
          rw [hval]
          refine V_iconst (v := 1) (by decide) dX8_throwsHome_108 rfl ?_
          refine V_zast (by decide) (by assumption) (fw_ix_nI hix (by decide)) dX8_throwsHome_109 rfl ?_
          refine V_iinc1 (i := 3) rfl (by decide) rfl dX8_throwsHome_110 rfl ?_
          refine V_goto (tgt := 38) dX8_throwsHome_113 (by decide) ?_
          have h9 := ih (d + 1) (by omega)
          rw [← nI_1 (d + 1), show aIsF q (aOiF b q) (d + 1) = if ¬ aIsF q (aOiF b q) d = 0 ∨ aGo (nI q) (nI (d + 1)) = 60 then 1 else 0 from rfl, show aInF s q (aOuF s b (cpB b c 60) q) (d + 1) = upd (aInF s q (aOuF s b (cpB b c 60) q) d) (aLd s (aGo (nI q) (nI (d + 1)))) 1 from rfl, hto, ← mB_c] at h9
          refine V_forget 4 rfl (V_forget 5 rfl ?_)
          first
            | (rw [if_pos (Or.inl h_69)] at h9; exact h9)
            | (rw [if_pos (Or.inr h_76)] at h9; exact h9)
            | (rw [if_neg (fun h => h.elim (fun h2 => h2 h_69) h_76)] at h9; exact h9)
        · refine V_iload (i := 4) rfl dX8_throwsHome_96 rfl ?_
          rw [if_pos h_93] at hval
          rw [hval]
          refine V_goto (tgt := 108) dX8_throwsHome_98 (by decide) ?_
          refine V_iconst (v := 1) (by decide) dX8_throwsHome_108 rfl ?_
          refine V_zast (by decide) (by assumption) (fw_ix_nI hix (by decide)) dX8_throwsHome_109 rfl ?_
          refine V_iinc1 (i := 3) rfl (by decide) rfl dX8_throwsHome_110 rfl ?_
          refine V_goto (tgt := 38) dX8_throwsHome_113 (by decide) ?_
          have h9 := ih (d + 1) (by omega)
          rw [← nI_1 (d + 1), show aIsF q (aOiF b q) (d + 1) = if ¬ aIsF q (aOiF b q) d = 0 ∨ aGo (nI q) (nI (d + 1)) = 60 then 1 else 0 from rfl, show aInF s q (aOuF s b (cpB b c 60) q) (d + 1) = upd (aInF s q (aOuF s b (cpB b c 60) q) d) (aLd s (aGo (nI q) (nI (d + 1)))) 1 from rfl, hto, ← mB_c] at h9
          refine V_forget 4 rfl (V_forget 5 rfl ?_)
          first
            | (rw [if_pos (Or.inl h_69)] at h9; exact h9)
            | (rw [if_pos (Or.inr h_76)] at h9; exact h9)
            | (rw [if_neg (fun h => h.elim (fun h2 => h2 h_69) h_76)] at h9; exact h9)
      · refine V_iconst (v := 1) (by decide) dX8_throwsHome_79 rfl ?_
        refine V_goto (tgt := 84) dX8_throwsHome_80 (by decide) ?_
        refine V_istore_n (i := 1) rfl (by decide) rfl dX8_throwsHome_84 rfl ?_
        refine V_aload_n (i := 0) rfl rfl dX8_throwsHome_85 rfl ?_
        refine V_getr (kf := 13) C8 (by decide) l_X8_32 (by assumption) rfl (by assumption) dX8_throwsHome_86 rfl ?_
        refine V_iload (i := 5) rfl dX8_throwsHome_89 rfl ?_
        refine V_bipush (v := (-5)) (by decide) dX8_throwsHome_91 rfl ?_
        refine V_icmp_ne (tgt := 101) dX8_throwsHome_93 (by decide) rfl (fun h_93 => ?_) (fun h_93 => ?_)
        · refine V_aload_n (i := 0) rfl rfl dX8_throwsHome_101 rfl ?_
          refine V_iload (i := 5) rfl dX8_throwsHome_102 rfl ?_
          refine V_iconst (v := 1) (by decide) dX8_throwsHome_104 rfl ?_
          obtain ⟨k9, hk9, ek9, -, -⟩ := aSnAt_nat h_93
          rw [ek9]
          refine V_call (n := 2) (sp_ofSnake (k := k9) l g hM hk9 (by decide : 1 < 4)) o_X8_ofSnake m_X8_47 ⟨by decide, by decide⟩ (by assumption) rfl rfl (by first | exact Nat.le_of_ble_eq_true rfl | simp [Value.category]) (Nat.le_refl _) (Nat.le_refl _) rfl dX8_throwsHome_105 rfl (kI ?_)
          refine V_mem (I' := mB I (b) (aInF s q (aOuF s b (cpB b c 60) q) d) (s)) rfl ?_
          rw [if_neg h_93, ek9, nI_clamp (by omega)] at hval
          rw [hval]
          refine V_iconst (v := 1) (by decide) dX8_throwsHome_108 rfl ?_
          refine V_zast (by decide) (by assumption) (fw_ix_nI hix (by decide)) dX8_throwsHome_109 rfl ?_
          refine V_iinc1 (i := 3) rfl (by decide) rfl dX8_throwsHome_110 rfl ?_
          refine V_goto (tgt := 38) dX8_throwsHome_113 (by decide) ?_
          have h9 := ih (d + 1) (by omega)
          rw [← nI_1 (d + 1), show aIsF q (aOiF b q) (d + 1) = if ¬ aIsF q (aOiF b q) d = 0 ∨ aGo (nI q) (nI (d + 1)) = 60 then 1 else 0 from rfl, show aInF s q (aOuF s b (cpB b c 60) q) (d + 1) = upd (aInF s q (aOuF s b (cpB b c 60) q) d) (aLd s (aGo (nI q) (nI (d + 1)))) 1 from rfl, hto, ← mB_c] at h9
          refine V_forget 4 rfl (V_forget 5 rfl ?_)
          first
            | (rw [if_pos (Or.inl h_69)] at h9; exact h9)
            | (rw [if_pos (Or.inr h_76)] at h9; exact h9)
            | (rw [if_neg (fun h => h.elim (fun h2 => h2 h_69) h_76)] at h9; exact h9)
        · refine V_iload (i := 4) rfl dX8_throwsHome_96 rfl ?_
          rw [if_pos h_93] at hval
          rw [hval]
          refine V_goto (tgt := 108) dX8_throwsHome_98 (by decide) ?_
          refine V_iconst (v := 1) (by decide) dX8_throwsHome_108 rfl ?_
          refine V_zast (by decide) (by assumption) (fw_ix_nI hix (by decide)) dX8_throwsHome_109 rfl ?_
          refine V_iinc1 (i := 3) rfl (by decide) rfl dX8_throwsHome_110 rfl ?_
          refine V_goto (tgt := 38) dX8_throwsHome_113 (by decide) ?_
          have h9 := ih (d + 1) (by omega)
          rw [← nI_1 (d + 1), show aIsF q (aOiF b q) (d + 1) = if ¬ aIsF q (aOiF b q) d = 0 ∨ aGo (nI q) (nI (d + 1)) = 60 then 1 else 0 from rfl, show aInF s q (aOuF s b (cpB b c 60) q) (d + 1) = upd (aInF s q (aOuF s b (cpB b c 60) q) d) (aLd s (aGo (nI q) (nI (d + 1)))) 1 from rfl, hto, ← mB_c] at h9
          refine V_forget 4 rfl (V_forget 5 rfl ?_)
          first
            | (rw [if_pos (Or.inl h_69)] at h9; exact h9)
            | (rw [if_pos (Or.inr h_76)] at h9; exact h9)
            | (rw [if_neg (fun h => h.elim (fun h2 => h2 h_69) h_76)] at h9; exact h9)

set_option maxHeartbeats 4000000 in
set_option maxRecDepth 100000 in
theorem lp_th2 (l : Launch) (g : fw_G) {I : fw_I} {P : fw_P} {s b c : Nat → Int32} {B : Nat} (hM : MSh P) (hI : Inv B s) (hb : is01 b) : ∀ (n j : Nat), j + n = 60 → V l g kX8_throwsHome T0 0 0 (qJ (fun r I1 P1 => r = aOiF b 60 ∧ I1 = mB I (cpB (aOuF s b (cpB b c 60) 60) b 60) ((aOuF s b (cpB b c 60) 60)) (s) ∧ P1 = P)) T0 (mB I (b) (aOuF s b (cpB b c 60) j) (s)) P 0 0 30 [some (.ref (g.1 + 688)), some (.int (aOiF b j)), some (.int (nI j)), none, none, none] [] := by
  have a688 := at_688
  have a695 := at_695
  have a696 := at_696
  obtain ⟨p0, p1, p3, p5, p6, p10, p12, p13⟩ := id hM
  intro n
  induction n with
  | zero =>
    intro j hj
    obtain rfl : j = 60 := by omega
    refine V_iload_n (i := 2) rfl rfl dX8_throwsHome_30 rfl ?_
    refine V_bipush (v := 60) (by decide) dX8_throwsHome_31 rfl ?_
    refine V_icmp_ge (tgt := 122) dX8_throwsHome_33 (by decide) rfl (fun _ => ?_) (fun h => absurd (nI_le (a := 60) (b := 60) (Nat.le_refl _) (by decide)) h)
    refine V_iconst (v := 0) (by decide) dX8_throwsHome_122 rfl ?_
    refine V_istore_n (i := 2) rfl (by decide) rfl dX8_throwsHome_123 rfl ?_
    refine V_mem (I' := mB I (cpB (aOuF s b (cpB b c 60) 60) b 0) ((aOuF s b (cpB b c 60) 60)) (s)) (by rw [cpB_0]) ?_
    exact lp_th3 l g hM hI hb 60 0 rfl
  | succ n ih =>
    intro j hj
    have hjN : j < 60 := by omega
    refine V_iload_n (i := 2) rfl rfl dX8_throwsHome_30 rfl ?_
    refine V_bipush (v := 60) (by decide) dX8_throwsHome_31 rfl ?_
    refine V_icmp_ge (tgt := 122) dX8_throwsHome_33 (by decide) rfl (fun h => absurd h (nI_ge (b := 60) (by omega) (by decide))) (fun _ => ?_)
    refine V_iconst (v := 1) (by decide) dX8_throwsHome_36 rfl ?_
    refine V_istore_n (i := 3) rfl (by decide) rfl dX8_throwsHome_37 rfl ?_
    by_cases hbj : b j = 0
    · refine V_iload_n (i := 3) rfl rfl dX8_throwsHome_38 rfl ?_
      refine V_bipush (v := 6) (by decide) dX8_throwsHome_39 rfl ?_
      refine V_icmp_gt (tgt := 116) dX8_throwsHome_41 (by decide) rfl (fun h => absurd h (by decide)) (fun _ => ?_)
      refine V_aload_n (i := 0) rfl rfl dX8_throwsHome_44 rfl ?_
      refine V_getr (kf := 12) C8 (by decide) l_X8_28 (by assumption) rfl (by assumption) dX8_throwsHome_45 rfl ?_
      refine V_iload_n (i := 2) rfl rfl dX8_throwsHome_48 rfl ?_
      refine V_zald (by assumption) (fw_ix_nI (by omega) (by decide)) dX8_throwsHome_49 rfl ?_
      rw [show mB I (b) (aOuF s b (cpB b c 60) j) (s) 695 j = b j from rfl]
      refine V_if_eq (tgt := 116) dX8_throwsHome_50 (by decide) rfl (fun _ => ?_) (fun h => absurd hbj h)
      refine V_iinc1 (i := 2) rfl (by decide) rfl dX8_throwsHome_116 rfl ?_
      refine V_goto (tgt := 30) dX8_throwsHome_119 (by decide) ?_
      refine V_forget 3 rfl ?_
      have h9 := ih (j + 1) (by omega)
      rw [← nI_1, show aOuF s b (cpB b c 60) (j + 1) = if b j = 0 then aOuF s b (cpB b c 60) j else aInF s j (aOuF s b (cpB b c 60) j) 6 from rfl, if_pos hbj, show aOiF b (j + 1) = if b j = 0 then aOiF b j else aIsF j (aOiF b j) 6 from rfl, if_pos hbj] at h9
      exact h9
    · refine lp_th2i (q := j) l g hM hI hb hjN hbj ?_ 6 0 rfl
      refine V_iinc1 (i := 2) rfl (by decide) rfl dX8_throwsHome_116 rfl ?_
      refine V_goto (tgt := 30) dX8_throwsHome_119 (by decide) ?_
      have h9 := ih (j + 1) (by omega)
      rw [← nI_1, show aOuF s b (cpB b c 60) (j + 1) = if b j = 0 then aOuF s b (cpB b c 60) j else aInF s j (aOuF s b (cpB b c 60) j) 6 from rfl, if_neg hbj, show aOiF b (j + 1) = if b j = 0 then aOiF b j else aIsF j (aOiF b j) 6 from rfl, if_neg hbj] at h9
      exact h9

set_option maxHeartbeats 4000000 in
set_option maxRecDepth 100000 in
theorem lp_th1 (l : Launch) (g : fw_G) {I : fw_I} {P : fw_P} {s b c : Nat → Int32} {B : Nat} (hM : MSh P) (hI : Inv B s) (hb : is01 b) : ∀ (n j : Nat), j + n = 60 → V l g kX8_throwsHome T0 0 0 (qJ (fun r I1 P1 => r = aOiF b 60 ∧ I1 = mB I (cpB (aOuF s b (cpB b c 60) 60) b 60) ((aOuF s b (cpB b c 60) 60)) (s) ∧ P1 = P)) T0 (mB I (b) (cpB b c j) (s)) P 0 0 4 [some (.ref (g.1 + 688)), some (.int 0), some (.int (nI j)), none, none, none] [] := by
  have a688 := at_688
  have a695 := at_695
  have a696 := at_696
  obtain ⟨p0, p1, p3, p5, p6, p10, p12, p13⟩ := id hM
  intro n
  induction n with
  | zero =>
    intro j hj
    obtain rfl : j = 60 := by omega
    refine V_iload_n (i := 2) rfl rfl dX8_throwsHome_4 rfl ?_
    refine V_bipush (v := 60) (by decide) dX8_throwsHome_5 rfl ?_
    refine V_icmp_ge (tgt := 28) dX8_throwsHome_7 (by decide) rfl (fun _ => ?_) (fun h => absurd (nI_le (a := 60) (b := 60) (Nat.le_refl _) (by decide)) h)
    refine V_iconst (v := 0) (by decide) dX8_throwsHome_28 rfl ?_
    refine V_istore_n (i := 2) rfl (by decide) rfl dX8_throwsHome_29 rfl ?_
    exact lp_th2 l g hM hI hb 60 0 rfl
  | succ n ih =>
    intro j hj
    have hjN : j < 60 := by omega
    refine V_iload_n (i := 2) rfl rfl dX8_throwsHome_4 rfl ?_
    refine V_bipush (v := 60) (by decide) dX8_throwsHome_5 rfl ?_
    refine V_icmp_ge (tgt := 28) dX8_throwsHome_7 (by decide) rfl (fun h => absurd h (nI_ge (b := 60) (by omega) (by decide))) (fun _ => ?_)
    refine V_aload_n (i := 0) rfl rfl dX8_throwsHome_10 rfl ?_
    refine V_getr (kf := 13) C8 (by decide) l_X8_32 (by assumption) rfl (by assumption) dX8_throwsHome_11 rfl ?_
    refine V_iload_n (i := 2) rfl rfl dX8_throwsHome_14 rfl ?_
    refine V_aload_n (i := 0) rfl rfl dX8_throwsHome_15 rfl ?_
    refine V_getr (kf := 12) C8 (by decide) l_X8_28 (by assumption) rfl (by assumption) dX8_throwsHome_16 rfl ?_
    refine V_iload_n (i := 2) rfl rfl dX8_throwsHome_19 rfl ?_
    refine V_zald (by assumption) (fw_ix_nI (by omega) (by decide)) dX8_throwsHome_20 rfl ?_
    refine V_zast (nar01 (hb j hjN)) (by assumption) (fw_ix_nI (by omega) (by decide)) dX8_throwsHome_21 rfl ?_
    rw [mB_c, show upd (cpB b c j) j (mB I b (cpB b c j) s 695 j) = cpB b c (j + 1) from cpB_succ _ _ j]
    refine V_iinc1 (i := 2) rfl (by decide) rfl dX8_throwsHome_22 rfl ?_
    refine V_goto (tgt := 4) dX8_throwsHome_25 (by decide) ?_
    have h9 := ih (j + 1) (by omega)
    rw [← nI_1] at h9
    exact h9

set_option maxHeartbeats 4000000 in
set_option maxRecDepth 100000 in
theorem sp_throwsHome (l : Launch) (g : fw_G) {I : fw_I} {P : fw_P} {s b c : Nat → Int32} {B : Nat} (hM : MSh P) (hI : Inv B s) (hb : is01 b) : Sp l g kX8_throwsHome T0 [.ref (g.1 + 688)] (mB I (b) (c) (s)) P T0 0 0 (qJ (fun r I1 P1 => r = aOiF b 60 ∧ I1 = mB I (cpB (aOuF s b (cpB b c 60) 60) b 60) ((aOuF s b (cpB b c 60) 60)) (s) ∧ P1 = P)) := by
  have a688 := at_688
  have a695 := at_695
  have a696 := at_696
  obtain ⟨p0, p1, p3, p5, p6, p10, p12, p13⟩ := id hM
  refine Sp.of_V (L := [some (.ref (g.1 + 688)), none, none, none, none, none]) (by decide) (by simp [Value.category]) (Nat.le_of_ble_eq_true rfl) rfl ?_
  refine V_iconst (v := 0) (by decide) dX8_throwsHome_0 rfl ?_
  refine V_istore_n (i := 1) rfl (by decide) rfl dX8_throwsHome_1 rfl ?_
  refine V_iconst (v := 0) (by decide) dX8_throwsHome_2 rfl ?_
  refine V_istore_n (i := 2) rfl (by decide) rfl dX8_throwsHome_3 rfl ?_
  refine V_mem (I' := mB I (b) (cpB b c 0) (s)) (by rw [cpB_0]) ?_
  exact lp_th1 l g hM hI hb 60 0 rfl

set_option maxHeartbeats 4000000 in
set_option maxRecDepth 100000 in
theorem lp_fw2 (l : Launch) (g : fw_G) {I : fw_I} {P : fw_P} {s : Nat → Int32} {B : Nat} (hM : MSh P) (hI : Inv B s) {p : Nat} (w R : Int32) : ∀ (f n : Nat) (b c : Nat → Int32), n + f = 61 → 1 ≤ n → is01 b → (if aFwF s f n b c ≤ 60 then nI (aFwF s f n b c) else -5) = R → V l g kX8_fewest T0 0 0 (qJ (fun r I1 P1 => r = R ∧ P1 = P ∧ ∃ b1 c1, I1 = mB I b1 c1 s)) T0 (mB I (b) (c) (s)) P 0 0 67 [some (.ref (g.1 + 688)), some (.int (nI p)), some (.int w), some (.int (nI n))] [] := by
  have a688 := at_688
  have a695 := at_695
  have a696 := at_696
  obtain ⟨p0, p1, p3, p5, p6, p10, p12, p13⟩ := id hM
  intro f
  induction f with
  | zero =>
    intro n b c hn h1 hb hR
    obtain rfl : n = 61 := by omega
    refine V_iload_n (i := 3) rfl rfl dX8_fewest_67 rfl ?_
    refine V_bipush (v := 60) (by decide) dX8_fewest_68 rfl ?_
    refine V_icmp_gt (tgt := 86) dX8_fewest_70 (by decide) rfl (fun _ => ?_) (fun h => absurd (nI_lt (a := 60) (b := 61) (by decide) (by decide)) h)
    refine V_iload_n (i := 3) rfl rfl dX8_fewest_86 rfl ?_
    refine V_bipush (v := 60) (by decide) dX8_fewest_87 rfl ?_
    refine V_icmp_gt (tgt := 96) dX8_fewest_89 (by decide) rfl (fun _ => ?_) (fun h => absurd (nI_lt (a := 60) (b := 61) (by decide) (by decide)) h)
    refine V_bipush (v := (-5)) (by decide) dX8_fewest_96 rfl ?_
    exact V_ireturn rfl rfl dX8_fewest_98 rfl rfl rfl (⟨_, rfl, hR, rfl, _, _, rfl⟩)
  | succ f ih =>
    intro n b c hn h1 hb hR
    have hF : aFwF s (f + 1) n b c = if ¬ aOiF b 60 = 0 then n else aFwF s f (n + 1) (cpB (aOuF s b (cpB b c 60) 60) b 60) (aOuF s b (cpB b c 60) 60) := rfl
    refine V_iload_n (i := 3) rfl rfl dX8_fewest_67 rfl ?_
    refine V_bipush (v := 60) (by decide) dX8_fewest_68 rfl ?_
    refine V_icmp_gt (tgt := 86) dX8_fewest_70 (by decide) rfl (fun h => absurd h (nI_nlt (a := 60) (b := n) (by omega) (by decide))) (fun _ => ?_)
    refine V_aload_n (i := 0) rfl rfl dX8_fewest_73 rfl ?_
    refine V_call (n := 0) (sp_throwsHome l g hM hI hb) o_X8_throwsHome m_X8_183 ⟨by decide, by decide⟩ (by assumption) rfl rfl (by first | exact Nat.le_of_ble_eq_true rfl | simp [Value.category]) (Nat.le_refl _) (Nat.le_refl _) rfl dX8_fewest_74 rfl (kX ?_)
    refine V_if_ne (tgt := 86) dX8_fewest_77 (by decide) rfl (fun h_77 => ?_) (fun h_77 => ?_)
    · refine V_iload_n (i := 3) rfl rfl dX8_fewest_86 rfl ?_
      refine V_bipush (v := 60) (by decide) dX8_fewest_87 rfl ?_
      refine V_icmp_gt (tgt := 96) dX8_fewest_89 (by decide) rfl (fun h => absurd h (nI_nlt (a := 60) (b := n) (by omega) (by decide))) (fun _ => ?_)
      refine V_iload_n (i := 3) rfl rfl dX8_fewest_92 rfl ?_
      refine V_goto (tgt := 98) dX8_fewest_93 (by decide) ?_
      exact V_ireturn rfl rfl dX8_fewest_98 rfl rfl rfl (⟨_, rfl, by rw [← hR, hF, if_pos h_77, if_pos (by omega)], rfl, _, _, rfl⟩)
    · refine V_iinc1 (i := 3) rfl (by decide) rfl dX8_fewest_80 rfl ?_
      refine V_goto (tgt := 67) dX8_fewest_83 (by decide) ?_
      have hF2 := hF.trans (if_neg (show ¬ ¬ aOiF b 60 = 0 from fun h => h h_77))
      rw [hF2] at hR
      have h9 := ih (n + 1) _ _ (by omega) (by omega) (cpB_01 (aOuF_01 (cpB_01 hb) 60)) hR
      rw [← nI_1] at h9
      exact h9

set_option maxHeartbeats 4000000 in
set_option maxRecDepth 100000 in
theorem lp_fw1 (l : Launch) (g : fw_G) {I : fw_I} {P : fw_P} {s b c : Nat → Int32} {B : Nat} (hM : MSh P) (hI : Inv B s) {p : Nat} (hp : p < 4) (w R : Int32) (hR : aFwN s p b c = R) : ∀ (n j : Nat), j + n = 60 → V l g kX8_fewest T0 0 0 (qJ (fun r I1 P1 => r = R ∧ P1 = P ∧ ∃ b1 c1, I1 = mB I b1 c1 s)) T0 (mB I (bgF s p b j) (c) (s)) P 0 0 33 [some (.ref (g.1 + 688)), some (.int (nI p)), some (.int w), some (.int (nI j))] [] := by
  have a688 := at_688
  have a695 := at_695
  have a696 := at_696
  obtain ⟨p0, p1, p3, p5, p6, p10, p12, p13⟩ := id hM
  intro n
  induction n with
  | zero =>
    intro j hj
    obtain rfl : j = 60 := by omega
    refine V_iload_n (i := 3) rfl rfl dX8_fewest_33 rfl ?_
    refine V_bipush (v := 60) (by decide) dX8_fewest_34 rfl ?_
    refine V_icmp_ge (tgt := 65) dX8_fewest_36 (by decide) rfl (fun _ => ?_) (fun h => absurd (nI_le (a := 60) (b := 60) (Nat.le_refl _) (by decide)) h)
    refine V_iconst (v := 1) (by decide) dX8_fewest_65 rfl ?_
    refine V_istore_n (i := 3) rfl (by decide) rfl dX8_fewest_66 rfl ?_
    exact lp_fw2 l g hM hI w R 60 1 _ _ rfl (by decide) (bgF_01 s p b) hR
  | succ n ih =>
    intro j hj
    refine V_iload_n (i := 3) rfl rfl dX8_fewest_33 rfl ?_
    refine V_bipush (v := 60) (by decide) dX8_fewest_34 rfl ?_
    refine V_icmp_ge (tgt := 65) dX8_fewest_36 (by decide) rfl (fun h => absurd h (nI_ge (b := 60) (by omega) (by decide))) (fun _ => ?_)
    refine V_aload_n (i := 0) rfl rfl dX8_fewest_39 rfl ?_
    refine V_getr (kf := 12) C8 (by decide) l_X8_28 (by assumption) rfl (by assumption) dX8_fewest_40 rfl ?_
    refine V_iload_n (i := 3) rfl rfl dX8_fewest_43 rfl ?_
    refine V_iload_n (i := 3) rfl rfl dX8_fewest_44 rfl ?_
    refine V_aload_n (i := 0) rfl rfl dX8_fewest_45 rfl ?_
    refine V_iload_n (i := 1) rfl rfl dX8_fewest_46 rfl ?_
    refine V_call (n := 1) (sp_beginsAt l g hM hI.mOk hp) o_X8_beginsAt m_X8_79 ⟨by decide, by decide⟩ (by assumption) rfl rfl (by first | exact Nat.le_of_ble_eq_true rfl | simp [Value.category]) (Nat.le_refl _) (Nat.le_refl _) rfl dX8_fewest_47 rfl (kI ?_)
    refine V_mem (I' := mB I (bgF s p b j) (c) (s)) rfl ?_
    refine V_icmp_ne (tgt := 57) dX8_fewest_50 (by decide) rfl (fun h_50 => ?_) (fun h_50 => ?_)
    · refine V_iconst (v := 0) (by decide) dX8_fewest_57 rfl ?_
      refine V_zast (by decide) (by assumption) (fw_ix_nI (by omega) (by decide)) dX8_fewest_58 rfl ?_
      refine V_iinc1 (i := 3) rfl (by decide) rfl dX8_fewest_59 rfl ?_
      refine V_goto (tgt := 33) dX8_fewest_62 (by decide) ?_
      have h9 := ih (j + 1) (by omega)
      rw [← nI_1, ← bgF_succ, ← mB_b] at h9
      first | (rw [bI_t h_50] at h9; exact h9) | (rw [bI_f h_50] at h9; exact h9)
    · refine V_iconst (v := 1) (by decide) dX8_fewest_53 rfl ?_
      refine V_goto (tgt := 58) dX8_fewest_54 (by decide) ?_
      refine V_zast (by decide) (by assumption) (fw_ix_nI (by omega) (by decide)) dX8_fewest_58 rfl ?_
      refine V_iinc1 (i := 3) rfl (by decide) rfl dX8_fewest_59 rfl ?_
      refine V_goto (tgt := 33) dX8_fewest_62 (by decide) ?_
      have h9 := ih (j + 1) (by omega)
      rw [← nI_1, ← bgF_succ, ← mB_b] at h9
      first | (rw [bI_t h_50] at h9; exact h9) | (rw [bI_f h_50] at h9; exact h9)

set_option maxHeartbeats 4000000 in
set_option maxRecDepth 100000 in
theorem sp_fewest (l : Launch) (g : fw_G) {I : fw_I} {P : fw_P} {s b c : Nat → Int32} {B : Nat} (hM : MSh P) (hI : Inv B s) (x w : Int32) : Sp l g kX8_fewest T0 [.ref (g.1 + 688), .int x, .int w] (mB I (b) (c) (s)) P T0 0 0 (qJ (fun r I1 P1 => r = aFewX s x w b c ∧ P1 = P ∧ ∃ b1 c1, I1 = mB I b1 c1 s)) := by
  have a688 := at_688
  have a695 := at_695
  have a696 := at_696
  obtain ⟨p0, p1, p3, p5, p6, p10, p12, p13⟩ := id hM
  refine Sp.of_V (L := [some (.ref (g.1 + 688)), some (.int x), some (.int w), none]) (by decide) (by simp [Value.category]) (Nat.le_of_ble_eq_true rfl) rfl ?_
  refine V_iload_n (i := 1) rfl rfl dX8_fewest_0 rfl ?_
  refine V_callS (n := 1) (sp_isPlayer l g _ P x) o_X8_isPlayer m_X8_39 ⟨by decide, by decide⟩ rfl rfl (by first | exact Nat.le_of_ble_eq_true rfl | simp [Value.category]) (Nat.le_refl _) (Nat.le_refl _) rfl dX8_fewest_1 rfl (kI ?_)
  refine V_if_ne (tgt := 9) dX8_fewest_4 (by decide) rfl (fun h_4 => ?_) (fun h_4 => ?_)
  · obtain ⟨p, hp, rfl⟩ := aPl.nat (bI_nz h_4)
    have hc : (nI p).toNatClampNeg = p := nI_clamp (by omega)
    refine V_iload_n (i := 2) rfl rfl dX8_fewest_9 rfl ?_
    refine V_iconst (v := 0) (by decide) dX8_fewest_10 rfl ?_
    refine V_iconst (v := 1) (by decide) dX8_fewest_11 rfl ?_
    refine V_callS (n := 3) (sp_in l g _ P w 0 1) o_X8_in m_X8_35 ⟨by decide, by decide⟩ rfl rfl (by first | exact Nat.le_of_ble_eq_true rfl | simp [Value.category]) (Nat.le_refl _) (Nat.le_refl _) rfl dX8_fewest_12 rfl (kI ?_)
    refine V_if_ne (tgt := 21) dX8_fewest_15 (by decide) rfl (fun h_15 => ?_) (fun h_15 => ?_)
    · refine V_aload_n (i := 0) rfl rfl dX8_fewest_21 rfl ?_
      refine V_iload_n (i := 1) rfl rfl dX8_fewest_22 rfl ?_
      refine V_call (n := 1) (sp_isIn l g hM hp) o_X8_isIn m_X8_96 ⟨by decide, by decide⟩ (by assumption) rfl rfl (by first | exact Nat.le_of_ble_eq_true rfl | simp [Value.category]) (Nat.le_refl _) (Nat.le_refl _) rfl dX8_fewest_23 rfl (kI ?_)
      refine V_mem (I' := mB I (b) (c) (s)) rfl ?_
      refine V_if_ne (tgt := 31) dX8_fewest_26 (by decide) rfl (fun h_26 => ?_) (fun h_26 => ?_)
      · refine V_iconst (v := 0) (by decide) dX8_fewest_31 rfl ?_
        refine V_istore_n (i := 3) rfl (by decide) rfl dX8_fewest_32 rfl ?_
        have hR : aFwN s p b c = aFewX s (nI p) w b c := by unfold aFewX; rw [if_neg (fun h => h (bI_nz h_4)), if_neg (fun h => h (bI_nz h_15)), hc, if_pos (bI_nz h_26)]
        refine V_mem (I' := mB I (bgF s p b 0) (c) (s)) (by rw [show bgF s p b 0 = b from by funext j; unfold bgF; rw [if_neg (by omega)]]) ?_
        exact lp_fw1 l g hM hI hp w _ hR 60 0 rfl
      · refine V_iconst (v := 0) (by decide) dX8_fewest_29 rfl ?_
        exact V_ireturn rfl rfl dX8_fewest_30 rfl rfl rfl (⟨_, rfl, by unfold aFewX; rw [if_neg (fun h => h (bI_nz h_4)), if_neg (fun h => h (bI_nz h_15)), hc, if_neg (bI_z h_26)], rfl, _, _, rfl⟩)
    · refine V_bipush (v := (-2)) (by decide) dX8_fewest_18 rfl ?_
      exact V_ireturn rfl rfl dX8_fewest_20 rfl rfl rfl (⟨_, rfl, by unfold aFewX; rw [if_neg (fun h => h (bI_nz h_4)), if_pos (bI_z h_15)], rfl, _, _, rfl⟩)
  · refine V_iconst (v := (-1)) (by decide) dX8_fewest_7 rfl ?_
    exact V_ireturn rfl rfl dX8_fewest_8 rfl rfl rfl (⟨_, rfl, by unfold aFewX; rw [if_pos (bI_z h_4)], rfl, _, _, rfl⟩)

set_option maxHeartbeats 4000000 in
set_option maxRecDepth 100000 in
theorem lp_nx98 (l : Launch) (g : fw_G) {I : fw_I} {P : fw_P} (hM : MSh P) {s0 s c0 : Nat → Int32} (x0 x f j R : Int32) (hR : f = R) : V l g kX8_nextHome T0 0 0 (qJ (fun r I1 P1 => r = R ∧ P1 = P ∧ ∃ t b, (∀ j, j < 392 → t j = s0 j) ∧ I1 = wr (wr I 692 b) 689 t)) T0 (wr (wr I 692 (cpF s0 c0 0 0 392)) 689 (s)) P 0 0 98 [some (.ref (g.1 + 688)), some (.int x0), some (.int (f)), some (.int (x)), some (.int j), none] [] := by
  have a688 := at_688
  have a689 := at_689
  have a691 := at_691
  have a692 := at_692
  have a693 := at_693
  obtain ⟨p0, p1, p3, p5, p6, p10, p12, p13⟩ := id hM
  refine V_aload_n (i := 0) rfl rfl dX8_nextHome_98 rfl ?_
  refine V_getr (kf := 5) C8 (by decide) l_X8_19 (by assumption) rfl (by assumption) dX8_nextHome_99 rfl ?_
  refine V_iconst (v := 0) (by decide) dX8_nextHome_102 rfl ?_
  refine V_aload_n (i := 0) rfl rfl dX8_nextHome_103 rfl ?_
  refine V_getr (kf := 0) C8 (by decide) l_X8_7 (by assumption) rfl (by assumption) dX8_nextHome_104 rfl ?_
  refine V_iconst (v := 0) (by decide) dX8_nextHome_107 rfl ?_
  refine V_callS (n := 4) (sp_copy (f := 0) (t := 0) l g (by decide : (692 : Nat) ≠ 689) at_692 at_689 (by decide) (by decide) (by decide) (by decide)) o_X8_copy m_X8_54 ⟨by decide, by decide⟩ rfl rfl (by first | exact Nat.le_of_ble_eq_true rfl | simp [Value.category]) (Nat.le_refl _) (Nat.le_refl _) rfl dX8_nextHome_108 rfl (kW ?_)
  refine V_iload_n (i := 2) rfl rfl dX8_nextHome_111 rfl ?_
  refine V_ireturn rfl rfl dX8_nextHome_112 rfl rfl rfl (⟨_, rfl, hR, rfl, _, cpF s0 c0 0 0 392, (fun q hq => ?_), by rw [wr_ne _ _ (by decide), wr_at, wr_at, wr_wr]⟩)
  show cpF _ _ 0 0 392 q = s0 q
  unfold cpF
  rw [if_pos (by omega)]
  show cpF s0 c0 0 0 392 (0 + (q - 0)) = s0 q
  unfold cpF
  rw [if_pos (by omega)]
  exact congrArg s0 (by omega)

set_option maxHeartbeats 4000000 in
set_option maxRecDepth 100000 in
theorem lp_nx44 (l : Launch) (g : fw_G) {I : fw_I} {P : fw_P} (hM : MSh P) {s0 s c0 : Nat → Int32} (x0 x f j R : Int32) (hf : ¬ f = -5) (hR : f = R) : V l g kX8_nextHome T0 0 0 (qJ (fun r I1 P1 => r = R ∧ P1 = P ∧ ∃ t b, (∀ j, j < 392 → t j = s0 j) ∧ I1 = wr (wr I 692 b) 689 t)) T0 (wr (wr I 692 (cpF s0 c0 0 0 392)) 689 (s)) P 0 0 44 [some (.ref (g.1 + 688)), some (.int x0), some (.int (f)), some (.int (x)), some (.int j), none] [] := by
  refine V_iload (i := 4) rfl dX8_nextHome_44 rfl ?_
  refine V_sipush (v := 200) (by decide) dX8_nextHome_46 rfl ?_
  refine V_icmp_ge (tgt := 98) dX8_nextHome_49 (by decide) rfl (fun h_49 => ?_) (fun h_49 => ?_)
  · exact lp_nx98 l g hM x0 x _ _ R hR
  · refine V_iload_n (i := 2) rfl rfl dX8_nextHome_52 rfl ?_
    refine V_bipush (v := (-5)) (by decide) dX8_nextHome_53 rfl ?_
    refine V_icmp_ne (tgt := 98) dX8_nextHome_55 (by decide) rfl (fun _ => ?_) (fun h => absurd h hf)
    exact lp_nx98 l g hM x0 x _ _ R hR

set_option maxHeartbeats 4000000 in
set_option maxRecDepth 100000 in
theorem lp_nx (l : Launch) (g : fw_G) {I : fw_I} {P : fw_P} (hM : MSh P) {s0 c0 : Nat → Int32} {B : Nat} (x0 R : Int32) : ∀ (n j : Nat) (x : Int32) (s : Nat → Int32), j + n = 200 → Inv B s → ¬ s 4 = 4 → (0 ≤ x ∧ x ≤ 65535) → aNxF n x s = R → V l g kX8_nextHome T0 0 0 (qJ (fun r I1 P1 => r = R ∧ P1 = P ∧ ∃ t b, (∀ j, j < 392 → t j = s0 j) ∧ I1 = wr (wr I 692 b) 689 t)) T0 (wr (wr I 692 (cpF s0 c0 0 0 392)) 689 (s)) P 0 0 44 [some (.ref (g.1 + 688)), some (.int x0), some (.int (-5)), some (.int (x)), some (.int (nI j)), none] [] := by
  have a688 := at_688
  have a689 := at_689
  have a691 := at_691
  have a692 := at_692
  have a693 := at_693
  obtain ⟨p0, p1, p3, p5, p6, p10, p12, p13⟩ := id hM
  intro n
  induction n with
  | zero =>
    intro j x s hj hI h4 hx hR
    obtain rfl : j = 200 := by omega
    refine V_iload (i := 4) rfl dX8_nextHome_44 rfl ?_
    refine V_sipush (v := 200) (by decide) dX8_nextHome_46 rfl ?_
    refine V_icmp_ge (tgt := 98) dX8_nextHome_49 (by decide) rfl (fun _ => ?_) (fun h => absurd (nI_le (a := 200) (b := 200) (Nat.le_refl _) (by decide)) h)
    exact lp_nx98 l g hM x0 x _ _ R hR
  | succ n ih =>
    intro j x s hj hI h4 hx hR
    obtain ⟨p, hp, hs⟩ := hI.now
    have hd := aDraw_in hx
    have hdi := aDice_in hd
    have hN : aNxF (n + 1) x s = if aTq s (aDice (aDraw x)) = 60 then s 1 else aNxF n (aDraw x) (aT s (aDice (aDraw x))) := rfl
    have hs5 : ¬ s 1 = -5 := by rw [hs]; intro h; have h1 := nI_toInt (n := p) (by omega); rw [h] at h1; rw [show (-5 : Int32).toInt = -5 from by decide] at h1; omega
    refine V_iload (i := 4) rfl dX8_nextHome_44 rfl ?_
    refine V_sipush (v := 200) (by decide) dX8_nextHome_46 rfl ?_
    refine V_icmp_ge (tgt := 98) dX8_nextHome_49 (by decide) rfl (fun h => absurd h (nI_ge (b := 200) (by omega) (by decide))) (fun _ => ?_)
    refine V_iload_n (i := 2) rfl rfl dX8_nextHome_52 rfl ?_
    refine V_bipush (v := (-5)) (by decide) dX8_nextHome_53 rfl ?_
    refine V_icmp_ne (tgt := 98) dX8_nextHome_55 (by decide) rfl (fun h => absurd rfl h) (fun _ => ?_)
    refine V_aload_n (i := 0) rfl rfl dX8_nextHome_58 rfl ?_
    refine V_getr (kf := 0) C8 (by decide) l_X8_7 (by assumption) rfl (by assumption) dX8_nextHome_59 rfl ?_
    refine V_iconst (v := 1) (by decide) dX8_nextHome_62 rfl ?_
    refine V_iald9 (by assumption) (fw_ix_nI (j := 1) (by decide) (by decide)) dX8_nextHome_63 rfl ?_
    refine V_istore (i := 5) (by decide) rfl dX8_nextHome_64 rfl ?_
    refine V_iload_n (i := 3) rfl rfl dX8_nextHome_66 rfl ?_
    refine V_callS (n := 1) (sp_draw l g _ _ x) o_X8_draw m_X8_123 ⟨by decide, by decide⟩ rfl rfl (by first | exact Nat.le_of_ble_eq_true rfl | simp [Value.category]) (Nat.le_refl _) (Nat.le_refl _) rfl dX8_nextHome_67 rfl (kI ?_)
    refine V_istore_n (i := 3) rfl (by decide) rfl dX8_nextHome_70 rfl ?_
    refine V_aload_n (i := 0) rfl rfl dX8_nextHome_71 rfl ?_
    refine V_iload_n (i := 3) rfl rfl dX8_nextHome_72 rfl ?_
    refine V_callS (n := 1) (sp_diceOf l g _ _ (aDraw x)) o_X8_diceOf m_X8_126 ⟨by decide, by decide⟩ rfl rfl (by first | exact Nat.le_of_ble_eq_true rfl | simp [Value.category]) (Nat.le_refl _) (Nat.le_refl _) rfl dX8_nextHome_73 rfl (kI ?_)
    refine V_call (n := 1) (sp_doTurn l g hM hI.mOk hp hs (aDice (aDraw x))) o_X8_doTurn m_X8_119 ⟨by decide, by decide⟩ (by assumption) rfl rfl (by first | exact Nat.le_of_ble_eq_true rfl | simp [Value.category]) (Nat.le_refl _) (Nat.le_refl _) rfl dX8_nextHome_76 rfl (kX ?_)
    refine V_bipush (v := 60) (by decide) dX8_nextHome_79 rfl ?_
    refine V_icmp_ne (tgt := 89) dX8_nextHome_81 (by decide) rfl (fun h_81 => ?_) (fun h_81 => ?_)
    · refine V_bipush (v := (-5)) (by decide) dX8_nextHome_89 rfl ?_
      refine V_istore_n (i := 2) rfl (by decide) rfl dX8_nextHome_91 rfl ?_
      refine V_iinc1 (i := 4) rfl (by decide) rfl dX8_nextHome_92 rfl ?_
      refine V_goto (tgt := 44) dX8_nextHome_95 (by decide) ?_
      refine V_forget 5 rfl ?_
      first
        | exact lp_nx44 l g hM x0 (aDraw x) (s 1) (nI j + 1) R hs5 (by rw [← hR, hN, if_pos h_81])
        | (obtain ⟨dn, hd1, hd6, ed⟩ := aDi.nat hdi
           have h9 := ih (j + 1) (aDraw x) (aT s (aDice (aDraw x))) (by omega) (by rw [ed]; exact Inv_T hI h4 hd1 hd6) (by rw [aT_4 _ _ h_81]; exact h4) hd (by rw [← hR, hN, if_neg h_81])
           rw [← nI_1] at h9
           exact h9)
    · refine V_iload (i := 5) rfl dX8_nextHome_84 rfl ?_
      refine V_goto (tgt := 91) dX8_nextHome_86 (by decide) ?_
      refine V_istore_n (i := 2) rfl (by decide) rfl dX8_nextHome_91 rfl ?_
      refine V_iinc1 (i := 4) rfl (by decide) rfl dX8_nextHome_92 rfl ?_
      refine V_goto (tgt := 44) dX8_nextHome_95 (by decide) ?_
      refine V_forget 5 rfl ?_
      first
        | exact lp_nx44 l g hM x0 (aDraw x) (s 1) (nI j + 1) R hs5 (by rw [← hR, hN, if_pos h_81])
        | (obtain ⟨dn, hd1, hd6, ed⟩ := aDi.nat hdi
           have h9 := ih (j + 1) (aDraw x) (aT s (aDice (aDraw x))) (by omega) (by rw [ed]; exact Inv_T hI h4 hd1 hd6) (by rw [aT_4 _ _ h_81]; exact h4) hd (by rw [← hR, hN, if_neg h_81])
           rw [← nI_1] at h9
           exact h9)

set_option maxHeartbeats 4000000 in
set_option maxRecDepth 100000 in
theorem sp_nextHome (l : Launch) (g : fw_G) {I : fw_I} {P : fw_P} (hM : MSh P) {B : Nat} (hI : Inv B (I 689)) (x : Int32) : Sp l g kX8_nextHome T0 [.ref (g.1 + 688), .int x] I P T0 0 0 (qJ (fun r I1 P1 => r = aNxR (I 689) x ∧ P1 = P ∧ ∃ t b, (∀ j, j < 392 → t j = I 689 j) ∧ I1 = wr (wr I 692 b) 689 t)) := by
  have a688 := at_688
  have a689 := at_689
  have a691 := at_691
  have a692 := at_692
  have a693 := at_693
  obtain ⟨p0, p1, p3, p5, p6, p10, p12, p13⟩ := id hM
  refine Sp.of_V (L := [some (.ref (g.1 + 688)), some (.int x), none, none, none, none]) (by decide) (by simp [Value.category]) (Nat.le_of_ble_eq_true rfl) rfl ?_
  refine V_iload_n (i := 1) rfl rfl dX8_nextHome_0 rfl ?_
  refine V_iconst (v := 0) (by decide) dX8_nextHome_1 rfl ?_
  refine V_ldc cst_X8_122 dX8_nextHome_2 rfl ?_
  refine V_callS (n := 3) (sp_in l g _ P x 0 65535) o_X8_in m_X8_35 ⟨by decide, by decide⟩ rfl rfl (by first | exact Nat.le_of_ble_eq_true rfl | simp [Value.category]) (Nat.le_refl _) (Nat.le_refl _) rfl dX8_nextHome_4 rfl (kI ?_)
  refine V_if_ne (tgt := 13) dX8_nextHome_7 (by decide) rfl (fun h_7 => ?_) (fun h_7 => ?_)
  · refine V_aload_n (i := 0) rfl rfl dX8_nextHome_13 rfl ?_
    refine V_mem (wr_self I 689).symm ?_
    refine V_call (n := 0) (sp_isOver (s := I 689) l g hM) o_X8_isOver m_X8_92 ⟨by decide, by decide⟩ (by assumption) rfl rfl (by first | exact Nat.le_of_ble_eq_true rfl | simp [Value.category]) (Nat.le_refl _) (Nat.le_refl _) rfl dX8_nextHome_14 rfl (kI ?_)
    refine V_mem (wr_self I 689) ?_
    refine V_if_eq (tgt := 23) dX8_nextHome_17 (by decide) rfl (fun h_17 => ?_) (fun h_17 => ?_)
    · refine V_aload_n (i := 0) rfl rfl dX8_nextHome_23 rfl ?_
      refine V_getr (kf := 0) C8 (by decide) l_X8_7 (by assumption) rfl (by assumption) dX8_nextHome_24 rfl ?_
      refine V_iconst (v := 0) (by decide) dX8_nextHome_27 rfl ?_
      refine V_aload_n (i := 0) rfl rfl dX8_nextHome_28 rfl ?_
      refine V_getr (kf := 5) C8 (by decide) l_X8_19 (by assumption) rfl (by assumption) dX8_nextHome_29 rfl ?_
      refine V_iconst (v := 0) (by decide) dX8_nextHome_32 rfl ?_
      refine V_callS (n := 4) (sp_copy (f := 0) (t := 0) l g (by decide : (689 : Nat) ≠ 692) at_689 at_692 (by decide) (by decide) (by decide) (by decide)) o_X8_copy m_X8_54 ⟨by decide, by decide⟩ rfl rfl (by first | exact Nat.le_of_ble_eq_true rfl | simp [Value.category]) (Nat.le_refl _) (Nat.le_refl _) rfl dX8_nextHome_33 rfl (kW ?_)
      refine V_bipush (v := (-5)) (by decide) dX8_nextHome_36 rfl ?_
      refine V_istore_n (i := 2) rfl (by decide) rfl dX8_nextHome_38 rfl ?_
      refine V_iload_n (i := 1) rfl rfl dX8_nextHome_39 rfl ?_
      refine V_istore_n (i := 3) rfl (by decide) rfl dX8_nextHome_40 rfl ?_
      refine V_iconst (v := 0) (by decide) dX8_nextHome_41 rfl ?_
      refine V_istore (i := 4) (by decide) rfl dX8_nextHome_42 rfl ?_
      have hR : aNxF 200 x (I 689) = aNxR (I 689) x := by unfold aNxR; rw [if_neg (fun h => h (bI_nz h_7)), if_neg (bI_z h_17)]
      refine V_mem (I' := wr (wr I 692 (cpF (I 689) (I 692) 0 0 392)) 689 (I 689)) (wr_self (wr I 692 (cpF (I 689) (I 692) 0 0 392)) 689).symm ?_
      exact lp_nx l g hM x _ 200 0 x (I 689) rfl hI (bI_z h_17) (bI_nz h_7) hR
    · refine V_bipush (v := (-4)) (by decide) dX8_nextHome_20 rfl ?_
      exact V_ireturn rfl rfl dX8_nextHome_22 rfl rfl rfl (⟨_, rfl, by unfold aNxR; rw [if_neg (fun h => h (bI_nz h_7)), if_pos (bI_nz h_17)], rfl, I 689, I 692, fun _ _ => rfl, by rw [wr_self, wr_self]⟩)
  · refine V_bipush (v := (-2)) (by decide) dX8_nextHome_10 rfl ?_
    exact V_ireturn rfl rfl dX8_nextHome_12 rfl rfl rfl (⟨_, rfl, by unfold aNxR; rw [if_pos (bI_z h_7)], rfl, I 689, I 692, fun _ _ => rfl, by rw [wr_self, wr_self]⟩)

