/-- a mutator's end: recorded and the row F, or nothing -/
def MU (I0 : fw_I) (k : Nat) (ok : Prop) (F : Nat → Int32) (I2 : fw_I) : Prop := (ok ∧ ∃ I1, RecP I0 I1 k ∧ I2 = wr I1 689 F) ∨ (¬ ok ∧ I2 = I0)
theorem RecP.mem {I I1 : fw_I} {s : Nat → Int32} {k : Nat} (h : RecP (wr I 689 s) I1 k) : I1 = wr I1 689 s := by
  have h1 := h.1 689 (by decide) (by decide)
  rw [wr_at] at h1
  rw [← h1, wr_self]
abbrev aFm (a b : Int32) : Prop := (7 ≤ a ∧ a ≤ 59) ∧ (1 ≤ b ∧ b ≤ 53) ∧ (6 ≤ a - b ∧ a - b ≤ 40)
def aSnkR (s : Nat → Int32) (a b : Int32) : Int32 := if ¬ aFm a b then -2 else if ¬ aSnAt s a = -5 then -4 else if aCntF s 10 = 10 then -3 else nI (aFrF s 10 0)
abbrev aSnkOk (s : Nat → Int32) (a b : Int32) : Prop := aFm a b ∧ aSnAt s a = -5 ∧ ¬ aCntF s 10 = 10
def aSnkF (s : Nat → Int32) (a b : Int32) : Nat → Int32 :=
  let w := 352 + 4 * aFrF s 10 0
  upd (upd (upd (upd s (w + 0) a) (w + 1) b) (w + 2) 0) (w + 3) 0
def aChaR (s : Nat → Int32) (x t : Int32) : Int32 := if ¬ aSk s x then -1 else if ¬ (1 ≤ t ∧ t ≤ 10) then -2 else sn s x.toNatClampNeg 2
abbrev aChaOk (s : Nat → Int32) (x t : Int32) : Prop := aSk s x ∧ (1 ≤ t ∧ t ≤ 10)
def aChaF (s : Nat → Int32) (k : Nat) (t : Int32) : Nat → Int32 :=
  let s1 := upd s (352 + 4 * k + 2) (if t = 10 then 0 else s (352 + 4 * k + 2) + t)
  upd s1 (352 + 4 * k + 0) (if t = 10 then 0 else s1 (352 + 4 * k + 0))
abbrev aDi (d : Int32) : Prop := 1 ≤ d ∧ d ≤ 6
theorem aDi.nat {d : Int32} (h : aDi d) : ∃ n, 1 ≤ n ∧ n ≤ 6 ∧ d = nI n := by
  obtain ⟨j, h1, h2⟩ := nI_of2 (M := 6) (n := 6) rfl (by rw [i32_lt]; have := i32_le.mp h.1; simp at this ⊢; omega) h.2
  refine ⟨j, ?_, h1, h2⟩
  rcases Nat.eq_zero_or_pos j with h0 | h0
  · subst h0
    rw [h2] at h
    exact absurd h.1 (by decide)
  · exact h0
def aTuE (s : Nat → Int32) (d : Int32) : Int32 := if ¬ aDi d then -2 else if s 4 = 4 then -4 else 0
def aTuR (s : Nat → Int32) (d : Int32) : Int32 := if ¬ aDi d then -2 else if s 4 = 4 then -4 else aTq s d
abbrev aTuOk (s : Nat → Int32) (d : Int32) : Prop := aDi d ∧ ¬ s 4 = 4
def aPyF : Nat → Int32 → (Nat → Int32) → Nat × (Nat → Int32)
  | 0, _, s => (0, s)
  | n + 1, x, s => if s 4 = 4 then (0, s) else ((aPyF n (aDraw x) (aT s (aDice (aDraw x)))).1 + 1, (aPyF n (aDraw x) (aT s (aDice (aDraw x)))).2)
abbrev aPyC (x m : Int32) : Prop := (0 ≤ x ∧ x ≤ 65535) ∧ (1 ≤ m ∧ m ≤ 50)
def aPyR (s : Nat → Int32) (x m : Int32) : Int32 := if ¬ aPyC x m then -2 else if s 4 = 4 then -4 else nI (aPyF m.toNatClampNeg x s).1
abbrev aPyOk (s : Nat → Int32) (x m : Int32) : Prop := aPyC x m ∧ ¬ s 4 = 4
def aSelR (s : Nat → Int32) (x y z c : Int32) : Int32 := if aSeE s x y z c < 0 then aSeE s x y z c else if 0 < aRea s x.toNatClampNeg y.toNatClampNeg z.toNatClampNeg c then -10 - aRea s x.toNatClampNeg y.toNatClampNeg z.toNatClampNeg c else ro (aS s x.toNatClampNeg y.toNatClampNeg z.toNatClampNeg c) z.toNatClampNeg 1 + 1000
abbrev aSelOk (s : Nat → Int32) (x y z c : Int32) : Prop := aSeE s x y z c = 0 ∧ aRea s x.toNatClampNeg y.toNatClampNeg z.toNatClampNeg c = 0
def aSelF (s : Nat → Int32) (x y z c : Int32) : Nat → Int32 := aS s x.toNatClampNeg y.toNatClampNeg z.toNatClampNeg c
theorem aRea_cases (s : Nat → Int32) (p k b : Nat) (c : Int32) : aRea s p k b c = 0 ∨ 0 < aRea s p k b c := by
  unfold aRea
  by_cases h1 : ¬ ro s b 2 = 0
  · rw [if_pos h1]; exact Or.inr (by decide)
  · rw [if_neg h1]
    by_cases h2 : s 7 ≤ s (wi p k + 1)
    · rw [if_pos h2]; exact Or.inr (by decide)
    · rw [if_neg h2]
      by_cases h3 : s (wi p k + 3) >>> (nI b &&& 31) &&& 1 = 1
      · rw [if_pos h3]; exact Or.inr (by decide)
      · rw [if_neg h3]
        by_cases h4 : ro s p 1 - c < - s 6
        · rw [if_pos h4]; exact Or.inr (by decide)
        · rw [if_neg h4]
          by_cases h5 : c < aAsk s (s (wi p k + 0)) b
          · rw [if_pos h5]; exact Or.inr (by decide)
          · rw [if_neg h5]; exact Or.inl rfl
abbrev aSeV (x v : Int32) : Prop := (if x = 2 then 1 else 0) ≤ v ∧ v ≤ (if x = 0 then 9 else if x = 1 then 50 else 3)
abbrev aSt3 (x : Int32) : Prop := 0 ≤ x ∧ x ≤ 2
theorem aSt3.nat {x : Int32} (h : aSt3 x) : ∃ i, i ≤ 2 ∧ x = nI i := by
  obtain ⟨j, h1, h2⟩ := nI_of2 (M := 2) (n := 2) rfl (by rw [i32_lt]; have := i32_le.mp h.1; simp at this ⊢; omega) h.2
  exact ⟨j, h1, h2⟩
def aSetR (s : Nat → Int32) (x v : Int32) : Int32 := if ¬ aSt3 x then -1 else if ¬ aSeV x v then -2 else s (5 + x.toNatClampNeg)
abbrev aSetOk (x v : Int32) : Prop := aSt3 x ∧ aSeV x v
def aSetF (s : Nat → Int32) (x v : Int32) : Nat → Int32 := upd s (5 + x.toNatClampNeg) v
theorem if_or {p : Prop} [Decidable p] {a b c : Int32} (h1 : p → a = c) (h2 : ¬ p → b = c) : (if p then a else b) = c := by
  by_cases h : p
  · rw [if_pos h]; exact h1 h
  · rw [if_neg h]; exact h2 h
theorem kRec {l : Launch} {g : fw_G} {k : fw_M} {T T' : fw_T} {mc ms : Nat} {Q : Option Value → fw_I → fw_P → Prop} {I : fw_I} {P : fw_P} {n u w q : Nat} {L : List (Option Value)} {st : List Value} (h : ∀ I1, RecP I I1 n → V l g k T' mc ms Q T I1 P u w q L st) : ∀ (v : Option Value) (I1 : fw_I) (P1 : fw_P), qV (fun I1 P1 => RecP I I1 n ∧ P1 = P) v I1 P1 → V l g k T' mc ms Q T I1 P1 u w q L (v.toList ++ st) := by
  rintro _ I1 _ ⟨rfl, hr, rfl⟩
  exact h I1 hr
theorem aTuE_ok {s : Nat → Int32} {d : Int32} (h : 0 ≤ aTuE s d) : aTuOk s d := by
  unfold aTuE at h
  by_cases h1 : aDi d
  · rw [if_neg (fun q => q h1)] at h
    by_cases h2 : s 4 = 4
    · rw [if_pos h2] at h; exact absurd h (by decide)
    · exact ⟨h1, h2⟩
  · rw [if_pos h1] at h; exact absurd h (by decide)
theorem aTuE_no {s : Nat → Int32} {d : Int32} (h : ¬ 0 ≤ aTuE s d) : ¬ aTuOk s d ∧ aTuR s d = aTuE s d := by
  unfold aTuE at h
  unfold aTuR aTuE
  by_cases h1 : aDi d
  · have hn : ¬ ¬ aDi d := fun q => q h1
    rw [if_neg hn] at h
    rw [if_neg hn, if_neg hn]
    by_cases h2 : s 4 = 4
    · rw [if_pos h2, if_pos h2]; exact ⟨fun q => q.2 h2, rfl⟩
    · rw [if_neg h2] at h; exact absurd (by decide) h
  · rw [if_pos h1, if_pos h1]; exact ⟨fun q => h1 q.1, rfl⟩
theorem aTuR_ok {s : Nat → Int32} {d : Int32} (h : aTuOk s d) : aTuR s d = aTq s d := by
  unfold aTuR
  rw [if_neg (fun q => q h.1), if_neg h.2]
theorem aDice_in {x : Int32} (h : 0 ≤ x ∧ x ≤ 65535) : aDi (aDice x) := by
  obtain ⟨n, hn, rfl⟩ := draw_n h
  unfold aDice
  rw [show (10923 : Int32) = nI 10923 from rfl, nI_div (by omega) (by decide) (by decide), show (1 : Int32) = nI 1 from rfl, nI_add]
  exact ⟨by rw [show (1 : Int32) = nI 1 from rfl]; exact (nI_leI (by decide) (by omega)).mpr (by omega), by rw [show (6 : Int32) = nI 6 from rfl]; exact (nI_leI (by omega) (by decide)).mpr (by omega)⟩
set_option maxHeartbeats 4000000 in
set_option maxRecDepth 100000 in
theorem lp_snake68 (l : Launch) (g : fw_G) {I : fw_I} {P : fw_P} {s : Nat → Int32} (hM : MSh P) {k : Nat} (hk5 : k ≤ 5) (hk : I 688 2 = nI k) (a b : Int32) {I1 : fw_I} (hr : RecP (wr I 689 s) I1 k) (hok : aSnkOk s a b) (hR : aSnkR s a b = nI (aFrF s 10 0)) : ∀ (n j : Nat), j + n = 10 → (∀ i, i < j → 0 < sn s i 0) → aFrF s n j = aFrF s 10 0 → V l g kX8_snake T0 0 0 (qJ (fun r I2 P2 => r = aSnkR s a b ∧ P2 = P ∧ MU (wr I 689 s) k (aSnkOk s a b) (aSnkF s a b) I2)) T0 (wr I1 689 s) P 0 0 68 [some (.ref (g.1 + 688)), some (.int a), some (.int b), some (.int (nI j)), none] [] := by
  have a688 := at_688
  have a689 := at_689
  obtain ⟨p0, p1, p3, p5, p6, p10, p12, p13⟩ := id hM
  intro n
  induction n with
  | zero =>
    intro j hj hall hF
    obtain rfl : j = 10 := by omega
    exact absurd (aCnt_all 10 hall) hok.2.2
  | succ n ih =>
    intro j hj hall hF
    have hj10 : j < 10 := by omega
    have hcj : (nI j).toNatClampNeg = j := nI_clamp (by omega)
    refine V_aload_n (i := 0) rfl rfl dX8_snake_68 rfl ?_
    refine V_iload_n (i := 3) rfl rfl dX8_snake_69 rfl ?_
    refine V_call (n := 1) (sp_isSnake l g hM (nI j)) o_X8_isSnake m_X8_113 ⟨by decide, by decide⟩ (by assumption) rfl rfl (by first | exact Nat.le_of_ble_eq_true rfl | simp [Value.category]) (Nat.le_refl _) (Nat.le_refl _) rfl dX8_snake_70 rfl (kI ?_)
    refine V_if_eq (tgt := 82) dX8_snake_73 (by decide) rfl (fun h_73 => ?_) (fun h_73 => ?_)
    · have hfr : j = aFrF s 10 0 := by
        rw [← hF]
        show j = if 0 < sn s j 0 then _ else j
        rw [if_neg (fun h => bI_z h_73 ⟨⟨nI_pos' (by omega), nI_le (b := 9) (by omega) (by decide)⟩, hcj.symm ▸ h⟩)]
      refine V_sipush (v := 352) (by decide) dX8_snake_82 rfl ?_
      refine V_iconst (v := 4) (by decide) dX8_snake_85 rfl ?_
      refine V_iload_n (i := 3) rfl rfl dX8_snake_86 rfl ?_
      refine V_imul dX8_snake_87 rfl ?_
      refine V_iadd dX8_snake_88 rfl ?_
      refine V_istore (i := 4) (by decide) rfl dX8_snake_89 rfl ?_
      refine V_aload_n (i := 0) rfl rfl dX8_snake_91 rfl ?_
      refine V_getr (kf := 0) C8 (by decide) l_X8_7 (by assumption) rfl (by assumption) dX8_snake_92 rfl ?_
      refine V_iload (i := 4) rfl dX8_snake_95 rfl ?_
      refine V_iconst (v := 0) (by decide) dX8_snake_97 rfl ?_
      refine V_iadd dX8_snake_98 rfl ?_
      refine V_iload_n (i := 1) rfl rfl dX8_snake_99 rfl ?_
      refine V_iast9 (by assumption) (ix_sn hj10 (by decide : 0 < 4)) dX8_snake_100 rfl ?_
      refine V_aload_n (i := 0) rfl rfl dX8_snake_101 rfl ?_
      refine V_getr (kf := 0) C8 (by decide) l_X8_7 (by assumption) rfl (by assumption) dX8_snake_102 rfl ?_
      refine V_iload (i := 4) rfl dX8_snake_105 rfl ?_
      refine V_iconst (v := 1) (by decide) dX8_snake_107 rfl ?_
      refine V_iadd dX8_snake_108 rfl ?_
      refine V_iload_n (i := 2) rfl rfl dX8_snake_109 rfl ?_
      refine V_iast9 (by assumption) (ix_sn hj10 (by decide : 1 < 4)) dX8_snake_110 rfl ?_
      refine V_aload_n (i := 0) rfl rfl dX8_snake_111 rfl ?_
      refine V_getr (kf := 0) C8 (by decide) l_X8_7 (by assumption) rfl (by assumption) dX8_snake_112 rfl ?_
      refine V_iload (i := 4) rfl dX8_snake_115 rfl ?_
      refine V_iconst (v := 2) (by decide) dX8_snake_117 rfl ?_
      refine V_iadd dX8_snake_118 rfl ?_
      refine V_iconst (v := 0) (by decide) dX8_snake_119 rfl ?_
      refine V_iast9 (by assumption) (ix_sn hj10 (by decide : 2 < 4)) dX8_snake_120 rfl ?_
      refine V_aload_n (i := 0) rfl rfl dX8_snake_121 rfl ?_
      refine V_getr (kf := 0) C8 (by decide) l_X8_7 (by assumption) rfl (by assumption) dX8_snake_122 rfl ?_
      refine V_iload (i := 4) rfl dX8_snake_125 rfl ?_
      refine V_iconst (v := 3) (by decide) dX8_snake_127 rfl ?_
      refine V_iadd dX8_snake_128 rfl ?_
      refine V_iconst (v := 0) (by decide) dX8_snake_129 rfl ?_
      refine V_iast9 (by assumption) (ix_sn hj10 (by decide : 3 < 4)) dX8_snake_130 rfl ?_
      refine V_iload_n (i := 3) rfl rfl dX8_snake_131 rfl ?_
      exact V_ireturn rfl rfl dX8_snake_132 rfl rfl rfl (⟨_, rfl, by rw [hR, hfr], rfl, Or.inl ⟨hok, I1, hr, by unfold aSnkF; rw [← hfr]⟩⟩)
    · refine V_iinc1 (i := 3) rfl (by decide) rfl dX8_snake_76 rfl ?_
      refine V_goto (tgt := 68) dX8_snake_79 (by decide) ?_
      have hp := (bI_nz h_73).2
      rw [hcj] at hp
      have h9 := ih (j + 1) (by omega) (fun i hi => (by rcases Nat.lt_succ_iff_lt_or_eq.mp hi with h | h; exact hall i h; rw [h]; exact hp)) (by rw [← hF]; show _ = if 0 < sn s j 0 then aFrF s n (j + 1) else j; rw [if_pos hp])
      rw [← nI_1] at h9
      exact h9

set_option maxHeartbeats 4000000 in
set_option maxRecDepth 100000 in
theorem sp_snake (l : Launch) (g : fw_G) {I : fw_I} {P : fw_P} {s : Nat → Int32} (hM : MSh P) {k : Nat} (hk5 : k ≤ 5) (hk : I 688 2 = nI k) (a b : Int32) : Sp l g kX8_snake T0 [.ref (g.1 + 688), .int a, .int b] (wr I 689 s) P T0 0 0 (qJ (fun r I2 P2 => r = aSnkR s a b ∧ P2 = P ∧ MU (wr I 689 s) k (aSnkOk s a b) (aSnkF s a b) I2)) := by
  have a688 := at_688
  have a689 := at_689
  obtain ⟨p0, p1, p3, p5, p6, p10, p12, p13⟩ := id hM
  refine Sp.of_V (L := [some (.ref (g.1 + 688)), some (.int a), some (.int b), none, none]) (by decide) (by simp [Value.category]) (Nat.le_of_ble_eq_true rfl) rfl ?_
  refine V_iload_n (i := 1) rfl rfl dX8_snake_0 rfl ?_
  refine V_bipush (v := 7) (by decide) dX8_snake_1 rfl ?_
  refine V_bipush (v := 59) (by decide) dX8_snake_3 rfl ?_
  refine V_callS (n := 3) (sp_in l g _ P a 7 59) o_X8_in m_X8_35 ⟨by decide, by decide⟩ rfl rfl (by first | exact Nat.le_of_ble_eq_true rfl | simp [Value.category]) (Nat.le_refl _) (Nat.le_refl _) rfl dX8_snake_5 rfl (kI ?_)
  refine V_if_eq (tgt := 34) dX8_snake_8 (by decide) rfl (fun h_8 => ?_) (fun h_8 => ?_)
  · refine V_bipush (v := (-2)) (by decide) dX8_snake_34 rfl ?_
    exact V_ireturn rfl rfl dX8_snake_36 rfl rfl rfl (by first | (have hn : ¬ aFm a b := fun h => bI_z h_8 h.1; exact ⟨_, rfl, by unfold aSnkR; rw [if_pos hn], rfl, Or.inr ⟨fun h => hn h.1, rfl⟩⟩) | (have hn : ¬ aFm a b := fun h => bI_z h_18 h.2.1; exact ⟨_, rfl, by unfold aSnkR; rw [if_pos hn], rfl, Or.inr ⟨fun h => hn h.1, rfl⟩⟩) | (have hn : ¬ aFm a b := fun h => bI_z h_31 h.2.2; exact ⟨_, rfl, by unfold aSnkR; rw [if_pos hn], rfl, Or.inr ⟨fun h => hn h.1, rfl⟩⟩))
  · refine V_iload_n (i := 2) rfl rfl dX8_snake_11 rfl ?_
    refine V_iconst (v := 1) (by decide) dX8_snake_12 rfl ?_
    refine V_bipush (v := 53) (by decide) dX8_snake_13 rfl ?_
    refine V_callS (n := 3) (sp_in l g _ P b 1 53) o_X8_in m_X8_35 ⟨by decide, by decide⟩ rfl rfl (by first | exact Nat.le_of_ble_eq_true rfl | simp [Value.category]) (Nat.le_refl _) (Nat.le_refl _) rfl dX8_snake_15 rfl (kI ?_)
    refine V_if_eq (tgt := 34) dX8_snake_18 (by decide) rfl (fun h_18 => ?_) (fun h_18 => ?_)
    · refine V_bipush (v := (-2)) (by decide) dX8_snake_34 rfl ?_
      exact V_ireturn rfl rfl dX8_snake_36 rfl rfl rfl (by first | (have hn : ¬ aFm a b := fun h => bI_z h_8 h.1; exact ⟨_, rfl, by unfold aSnkR; rw [if_pos hn], rfl, Or.inr ⟨fun h => hn h.1, rfl⟩⟩) | (have hn : ¬ aFm a b := fun h => bI_z h_18 h.2.1; exact ⟨_, rfl, by unfold aSnkR; rw [if_pos hn], rfl, Or.inr ⟨fun h => hn h.1, rfl⟩⟩) | (have hn : ¬ aFm a b := fun h => bI_z h_31 h.2.2; exact ⟨_, rfl, by unfold aSnkR; rw [if_pos hn], rfl, Or.inr ⟨fun h => hn h.1, rfl⟩⟩))
    · refine V_iload_n (i := 1) rfl rfl dX8_snake_21 rfl ?_
      refine V_iload_n (i := 2) rfl rfl dX8_snake_22 rfl ?_
      refine V_isub dX8_snake_23 rfl ?_
      refine V_bipush (v := 6) (by decide) dX8_snake_24 rfl ?_
      refine V_bipush (v := 40) (by decide) dX8_snake_26 rfl ?_
      refine V_callS (n := 3) (sp_in l g _ P (a - b) 6 40) o_X8_in m_X8_35 ⟨by decide, by decide⟩ rfl rfl (by first | exact Nat.le_of_ble_eq_true rfl | simp [Value.category]) (Nat.le_refl _) (Nat.le_refl _) rfl dX8_snake_28 rfl (kI ?_)
      refine V_if_ne (tgt := 37) dX8_snake_31 (by decide) rfl (fun h_31 => ?_) (fun h_31 => ?_)
      · refine V_aload_n (i := 0) rfl rfl dX8_snake_37 rfl ?_
        refine V_iload_n (i := 1) rfl rfl dX8_snake_38 rfl ?_
        refine V_call (n := 1) (sp_snakeAt l g hM a) o_X8_snakeAt m_X8_65 ⟨by decide, by decide⟩ (by assumption) rfl rfl (by first | exact Nat.le_of_ble_eq_true rfl | simp [Value.category]) (Nat.le_refl _) (Nat.le_refl _) rfl dX8_snake_39 rfl (kI ?_)
        refine V_bipush (v := (-5)) (by decide) dX8_snake_42 rfl ?_
        refine V_icmp_eq (tgt := 50) dX8_snake_44 (by decide) rfl (fun h_44 => ?_) (fun h_44 => ?_)
        · refine V_aload_n (i := 0) rfl rfl dX8_snake_50 rfl ?_
          refine V_call (n := 0) (sp_snakes l g hM) o_X8_snakes m_X8_106 ⟨by decide, by decide⟩ (by assumption) rfl rfl (by first | exact Nat.le_of_ble_eq_true rfl | simp [Value.category]) (Nat.le_refl _) (Nat.le_refl _) rfl dX8_snake_51 rfl (kI ?_)
          refine V_bipush (v := 10) (by decide) dX8_snake_54 rfl ?_
          refine V_icmp_ne (tgt := 62) dX8_snake_56 (by decide) rfl (fun h_56 => ?_) (fun h_56 => ?_)
          · refine V_aload_n (i := 0) rfl rfl dX8_snake_62 rfl ?_
            refine V_call (n := 0) (sp_record (I := wr I 689 s) l g hM hk5 hk) o_X8_record m_X8_110 ⟨by decide, by decide⟩ (by assumption) rfl rfl (by first | exact Nat.le_of_ble_eq_true rfl | simp [Value.category]) (Nat.le_refl _) (Nat.le_refl _) rfl dX8_snake_63 rfl (kRec (fun I63 hr63 => ?_))
            rw [hr63.mem]
            refine V_iconst (v := 0) (by decide) dX8_snake_66 rfl ?_
            refine V_istore_n (i := 3) rfl (by decide) rfl dX8_snake_67 rfl ?_
            have hf := (⟨bI_nz h_8, bI_nz h_18, bI_nz h_31⟩ : aFm a b)
            exact lp_snake68 l g hM hk5 hk a b hr63 ⟨hf, h_44, h_56⟩ (by unfold aSnkR; rw [if_neg (fun h => h hf), if_neg (fun h => h h_44), if_neg h_56]) 10 0 rfl (fun i hi => absurd hi (Nat.not_lt_zero i)) rfl
          · refine V_bipush (v := (-3)) (by decide) dX8_snake_59 rfl ?_
            exact V_ireturn rfl rfl dX8_snake_61 rfl rfl rfl (by have hf := (⟨bI_nz h_8, bI_nz h_18, bI_nz h_31⟩ : aFm a b); exact ⟨_, rfl, by unfold aSnkR; rw [if_neg (fun h => h hf), if_neg (fun h => h h_44), if_pos h_56], rfl, Or.inr ⟨fun h => h.2.2 h_56, rfl⟩⟩)
        · refine V_bipush (v := (-4)) (by decide) dX8_snake_47 rfl ?_
          exact V_ireturn rfl rfl dX8_snake_49 rfl rfl rfl (by have hf := (⟨bI_nz h_8, bI_nz h_18, bI_nz h_31⟩ : aFm a b); exact ⟨_, rfl, by unfold aSnkR; rw [if_neg (fun h => h hf), if_pos h_44], rfl, Or.inr ⟨fun h => h_44 h.2.1, rfl⟩⟩)
      · refine V_bipush (v := (-2)) (by decide) dX8_snake_34 rfl ?_
        exact V_ireturn rfl rfl dX8_snake_36 rfl rfl rfl (by first | (have hn : ¬ aFm a b := fun h => bI_z h_8 h.1; exact ⟨_, rfl, by unfold aSnkR; rw [if_pos hn], rfl, Or.inr ⟨fun h => hn h.1, rfl⟩⟩) | (have hn : ¬ aFm a b := fun h => bI_z h_18 h.2.1; exact ⟨_, rfl, by unfold aSnkR; rw [if_pos hn], rfl, Or.inr ⟨fun h => hn h.1, rfl⟩⟩) | (have hn : ¬ aFm a b := fun h => bI_z h_31 h.2.2; exact ⟨_, rfl, by unfold aSnkR; rw [if_pos hn], rfl, Or.inr ⟨fun h => hn h.1, rfl⟩⟩))

set_option maxHeartbeats 4000000 in
set_option maxRecDepth 100000 in
theorem sp_charm (l : Launch) (g : fw_G) {I : fw_I} {P : fw_P} {s : Nat → Int32} (hM : MSh P) {k : Nat} (hk5 : k ≤ 5) (hk : I 688 2 = nI k) (x t : Int32) : Sp l g kX8_charm T0 [.ref (g.1 + 688), .int x, .int t] (wr I 689 s) P T0 0 0 (qJ (fun r I2 P2 => r = aChaR s x t ∧ P2 = P ∧ MU (wr I 689 s) k (aChaOk s x t) (aChaF s x.toNatClampNeg t) I2)) := by
  have a688 := at_688
  have a689 := at_689
  obtain ⟨p0, p1, p3, p5, p6, p10, p12, p13⟩ := id hM
  refine Sp.of_V (L := [some (.ref (g.1 + 688)), some (.int x), some (.int t), none, none]) (by decide) (by simp [Value.category]) (Nat.le_of_ble_eq_true rfl) rfl ?_
  refine V_aload_n (i := 0) rfl rfl dX8_charm_0 rfl ?_
  refine V_iload_n (i := 1) rfl rfl dX8_charm_1 rfl ?_
  refine V_call (n := 1) (sp_isSnake l g hM x) o_X8_isSnake m_X8_113 ⟨by decide, by decide⟩ (by assumption) rfl rfl (by first | exact Nat.le_of_ble_eq_true rfl | simp [Value.category]) (Nat.le_refl _) (Nat.le_refl _) rfl dX8_charm_2 rfl (kI ?_)
  refine V_if_ne (tgt := 10) dX8_charm_5 (by decide) rfl (fun h_5 => ?_) (fun h_5 => ?_)
  · refine V_iload_n (i := 2) rfl rfl dX8_charm_10 rfl ?_
    refine V_iconst (v := 1) (by decide) dX8_charm_11 rfl ?_
    refine V_bipush (v := 10) (by decide) dX8_charm_12 rfl ?_
    refine V_callS (n := 3) (sp_in l g _ P t 1 10) o_X8_in m_X8_35 ⟨by decide, by decide⟩ rfl rfl (by first | exact Nat.le_of_ble_eq_true rfl | simp [Value.category]) (Nat.le_refl _) (Nat.le_refl _) rfl dX8_charm_14 rfl (kI ?_)
    refine V_if_ne (tgt := 23) dX8_charm_17 (by decide) rfl (fun h_17 => ?_) (fun h_17 => ?_)
    · refine V_aload_n (i := 0) rfl rfl dX8_charm_23 rfl ?_
      refine V_call (n := 0) (sp_record (I := wr I 689 s) l g hM hk5 hk) o_X8_record m_X8_110 ⟨by decide, by decide⟩ (by assumption) rfl rfl (by first | exact Nat.le_of_ble_eq_true rfl | simp [Value.category]) (Nat.le_refl _) (Nat.le_refl _) rfl dX8_charm_24 rfl (kRec (fun I24 hr24 => ?_))
      rw [hr24.mem]
      have hsk := bI_nz h_5
      obtain ⟨j, hj, rfl⟩ := nI_le9 hsk.1
      have hcj : (nI j).toNatClampNeg = j := nI_clamp (by omega)
      refine V_sipush (v := 352) (by decide) dX8_charm_27 rfl ?_
      refine V_iconst (v := 4) (by decide) dX8_charm_30 rfl ?_
      refine V_iload_n (i := 1) rfl rfl dX8_charm_31 rfl ?_
      refine V_imul dX8_charm_32 rfl ?_
      refine V_iadd dX8_charm_33 rfl ?_
      refine V_istore_n (i := 3) rfl (by decide) rfl dX8_charm_34 rfl ?_
      refine V_aload_n (i := 0) rfl rfl dX8_charm_35 rfl ?_
      refine V_getr (kf := 0) C8 (by decide) l_X8_7 (by assumption) rfl (by assumption) dX8_charm_36 rfl ?_
      refine V_iload_n (i := 3) rfl rfl dX8_charm_39 rfl ?_
      refine V_iconst (v := 2) (by decide) dX8_charm_40 rfl ?_
      refine V_iadd dX8_charm_41 rfl ?_
      refine V_iald9 (by assumption) (ix_sn hj (by decide : 2 < 4)) dX8_charm_42 rfl ?_
      refine V_istore (i := 4) (by decide) rfl dX8_charm_43 rfl ?_
      refine V_aload_n (i := 0) rfl rfl dX8_charm_45 rfl ?_
      refine V_getr (kf := 0) C8 (by decide) l_X8_7 (by assumption) rfl (by assumption) dX8_charm_46 rfl ?_
      refine V_iload_n (i := 3) rfl rfl dX8_charm_49 rfl ?_
      refine V_iconst (v := 2) (by decide) dX8_charm_50 rfl ?_
      refine V_iadd dX8_charm_51 rfl ?_
      refine V_iload_n (i := 2) rfl rfl dX8_charm_52 rfl ?_
      refine V_bipush (v := 10) (by decide) dX8_charm_53 rfl ?_
      refine V_icmp_ne (tgt := 62) dX8_charm_55 (by decide) rfl (fun h_55 => ?_) (fun h_55 => ?_)
      · refine V_iload (i := 4) rfl dX8_charm_62 rfl ?_
        refine V_iload_n (i := 2) rfl rfl dX8_charm_64 rfl ?_
        refine V_iadd dX8_charm_65 rfl ?_
        refine V_iast9 (by assumption) (ix_sn hj (by decide : 2 < 4)) dX8_charm_66 rfl ?_
        refine V_aload_n (i := 0) rfl rfl dX8_charm_67 rfl ?_
        refine V_getr (kf := 0) C8 (by decide) l_X8_7 (by assumption) rfl (by assumption) dX8_charm_68 rfl ?_
        refine V_iload_n (i := 3) rfl rfl dX8_charm_71 rfl ?_
        refine V_iconst (v := 0) (by decide) dX8_charm_72 rfl ?_
        refine V_iadd dX8_charm_73 rfl ?_
        refine V_iload_n (i := 2) rfl rfl dX8_charm_74 rfl ?_
        refine V_bipush (v := 10) (by decide) dX8_charm_75 rfl ?_
        refine V_icmp_ne (tgt := 84) dX8_charm_77 (by decide) rfl (fun h_77 => ?_) (fun h_77 => ?_)
        · refine V_aload_n (i := 0) rfl rfl dX8_charm_84 rfl ?_
          refine V_getr (kf := 0) C8 (by decide) l_X8_7 (by assumption) rfl (by assumption) dX8_charm_85 rfl ?_
          refine V_iload_n (i := 3) rfl rfl dX8_charm_88 rfl ?_
          refine V_iconst (v := 0) (by decide) dX8_charm_89 rfl ?_
          refine V_iadd dX8_charm_90 rfl ?_
          refine V_iald9 (by assumption) (ix_sn hj (by decide : 0 < 4)) dX8_charm_91 rfl ?_
          refine V_iast9 (by assumption) (ix_sn hj (by decide : 0 < 4)) dX8_charm_92 rfl ?_
          refine V_iload (i := 4) rfl dX8_charm_93 rfl ?_
          exact V_ireturn rfl rfl dX8_charm_95 rfl rfl rfl (⟨_, rfl, by unfold aChaR; rw [if_neg (fun h => h hsk), if_neg (fun h => h (bI_nz h_17)), hcj]; rfl, rfl, Or.inl ⟨⟨hsk, bI_nz h_17⟩, _, hr24, by first | exact absurd h_77 h_55 | exact absurd h_55 h_77 | (rw [hcj]; unfold aChaF; simp only [if_neg h_55]; done) | (rw [hcj]; unfold aChaF; simp only [if_pos h_55]; done)⟩⟩)
        · refine V_iconst (v := 0) (by decide) dX8_charm_80 rfl ?_
          refine V_goto (tgt := 92) dX8_charm_81 (by decide) ?_
          refine V_iast9 (by assumption) (ix_sn hj (by decide : 0 < 4)) dX8_charm_92 rfl ?_
          refine V_iload (i := 4) rfl dX8_charm_93 rfl ?_
          exact V_ireturn rfl rfl dX8_charm_95 rfl rfl rfl (⟨_, rfl, by unfold aChaR; rw [if_neg (fun h => h hsk), if_neg (fun h => h (bI_nz h_17)), hcj]; rfl, rfl, Or.inl ⟨⟨hsk, bI_nz h_17⟩, _, hr24, by first | exact absurd h_77 h_55 | exact absurd h_55 h_77 | (rw [hcj]; unfold aChaF; simp only [if_neg h_55]; done) | (rw [hcj]; unfold aChaF; simp only [if_pos h_55]; done)⟩⟩)
      · refine V_iconst (v := 0) (by decide) dX8_charm_58 rfl ?_
        refine V_goto (tgt := 66) dX8_charm_59 (by decide) ?_
        refine V_iast9 (by assumption) (ix_sn hj (by decide : 2 < 4)) dX8_charm_66 rfl ?_
        refine V_aload_n (i := 0) rfl rfl dX8_charm_67 rfl ?_
        refine V_getr (kf := 0) C8 (by decide) l_X8_7 (by assumption) rfl (by assumption) dX8_charm_68 rfl ?_
        refine V_iload_n (i := 3) rfl rfl dX8_charm_71 rfl ?_
        refine V_iconst (v := 0) (by decide) dX8_charm_72 rfl ?_
        refine V_iadd dX8_charm_73 rfl ?_
        refine V_iload_n (i := 2) rfl rfl dX8_charm_74 rfl ?_
        refine V_bipush (v := 10) (by decide) dX8_charm_75 rfl ?_
        refine V_icmp_ne (tgt := 84) dX8_charm_77 (by decide) rfl (fun h_77 => ?_) (fun h_77 => ?_)
        · refine V_aload_n (i := 0) rfl rfl dX8_charm_84 rfl ?_
          refine V_getr (kf := 0) C8 (by decide) l_X8_7 (by assumption) rfl (by assumption) dX8_charm_85 rfl ?_
          refine V_iload_n (i := 3) rfl rfl dX8_charm_88 rfl ?_
          refine V_iconst (v := 0) (by decide) dX8_charm_89 rfl ?_
          refine V_iadd dX8_charm_90 rfl ?_
          refine V_iald9 (by assumption) (ix_sn hj (by decide : 0 < 4)) dX8_charm_91 rfl ?_
          refine V_iast9 (by assumption) (ix_sn hj (by decide : 0 < 4)) dX8_charm_92 rfl ?_
          refine V_iload (i := 4) rfl dX8_charm_93 rfl ?_
          exact V_ireturn rfl rfl dX8_charm_95 rfl rfl rfl (⟨_, rfl, by unfold aChaR; rw [if_neg (fun h => h hsk), if_neg (fun h => h (bI_nz h_17)), hcj]; rfl, rfl, Or.inl ⟨⟨hsk, bI_nz h_17⟩, _, hr24, by first | exact absurd h_77 h_55 | exact absurd h_55 h_77 | (rw [hcj]; unfold aChaF; simp only [if_neg h_55]; done) | (rw [hcj]; unfold aChaF; simp only [if_pos h_55]; done)⟩⟩)
        · refine V_iconst (v := 0) (by decide) dX8_charm_80 rfl ?_
          refine V_goto (tgt := 92) dX8_charm_81 (by decide) ?_
          refine V_iast9 (by assumption) (ix_sn hj (by decide : 0 < 4)) dX8_charm_92 rfl ?_
          refine V_iload (i := 4) rfl dX8_charm_93 rfl ?_
          exact V_ireturn rfl rfl dX8_charm_95 rfl rfl rfl (⟨_, rfl, by unfold aChaR; rw [if_neg (fun h => h hsk), if_neg (fun h => h (bI_nz h_17)), hcj]; rfl, rfl, Or.inl ⟨⟨hsk, bI_nz h_17⟩, _, hr24, by first | exact absurd h_77 h_55 | exact absurd h_55 h_77 | (rw [hcj]; unfold aChaF; simp only [if_neg h_55]; done) | (rw [hcj]; unfold aChaF; simp only [if_pos h_55]; done)⟩⟩)
    · refine V_bipush (v := (-2)) (by decide) dX8_charm_20 rfl ?_
      exact V_ireturn rfl rfl dX8_charm_22 rfl rfl rfl (⟨_, rfl, by unfold aChaR; rw [if_neg (fun h => h (bI_nz h_5)), if_pos (bI_z h_17)], rfl, Or.inr ⟨fun h => bI_z h_17 h.2, rfl⟩⟩)
  · refine V_iconst (v := (-1)) (by decide) dX8_charm_8 rfl ?_
    exact V_ireturn rfl rfl dX8_charm_9 rfl rfl rfl (⟨_, rfl, by unfold aChaR; rw [if_pos (bI_z h_5)], rfl, Or.inr ⟨fun h => bI_z h_5 h.1, rfl⟩⟩)

set_option maxHeartbeats 4000000 in
set_option maxRecDepth 100000 in
theorem sp_turnError (l : Launch) (g : fw_G) {I : fw_I} {P : fw_P} {s : Nat → Int32} (hM : MSh P) (d : Int32) : Sp l g kX8_turnError T0 [.ref (g.1 + 688), .int d] (wr I 689 s) P T0 0 0 (qI (aTuE s d) (wr I 689 s) P) := by
  have a688 := at_688
  have a689 := at_689
  obtain ⟨p0, p1, p3, p5, p6, p10, p12, p13⟩ := id hM
  refine Sp.of_V (L := [some (.ref (g.1 + 688)), some (.int d)]) (by decide) (by simp [Value.category]) (Nat.le_of_ble_eq_true rfl) rfl ?_
  refine V_iload_n (i := 1) rfl rfl dX8_turnError_0 rfl ?_
  refine V_iconst (v := 1) (by decide) dX8_turnError_1 rfl ?_
  refine V_bipush (v := 6) (by decide) dX8_turnError_2 rfl ?_
  refine V_callS (n := 3) (sp_in l g _ P d 1 6) o_X8_in m_X8_35 ⟨by decide, by decide⟩ rfl rfl (by first | exact Nat.le_of_ble_eq_true rfl | simp [Value.category]) (Nat.le_refl _) (Nat.le_refl _) rfl dX8_turnError_4 rfl (kI ?_)
  refine V_if_ne (tgt := 15) dX8_turnError_7 (by decide) rfl (fun h_7 => ?_) (fun h_7 => ?_)
  · refine V_aload_n (i := 0) rfl rfl dX8_turnError_15 rfl ?_
    refine V_call (n := 0) (sp_isOver l g hM) o_X8_isOver m_X8_92 ⟨by decide, by decide⟩ (by assumption) rfl rfl (by first | exact Nat.le_of_ble_eq_true rfl | simp [Value.category]) (Nat.le_refl _) (Nat.le_refl _) rfl dX8_turnError_16 rfl (kI ?_)
    refine V_if_eq (tgt := 27) dX8_turnError_19 (by decide) rfl (fun h_19 => ?_) (fun h_19 => ?_)
    · refine V_iconst (v := 0) (by decide) dX8_turnError_27 rfl ?_
      exact V_ireturn rfl rfl dX8_turnError_28 rfl rfl rfl (qI.of (by unfold aTuE; first | rw [if_pos (bI_z h_7)] | (rw [if_neg (fun h => h (bI_nz h_7))]; first | rw [if_pos (bI_nz h_19)] | rw [if_neg (bI_z h_19)])))
    · refine V_bipush (v := (-4)) (by decide) dX8_turnError_22 rfl ?_
      refine V_goto (tgt := 28) dX8_turnError_24 (by decide) ?_
      exact V_ireturn rfl rfl dX8_turnError_28 rfl rfl rfl (qI.of (by unfold aTuE; first | rw [if_pos (bI_z h_7)] | (rw [if_neg (fun h => h (bI_nz h_7))]; first | rw [if_pos (bI_nz h_19)] | rw [if_neg (bI_z h_19)])))
  · refine V_bipush (v := (-2)) (by decide) dX8_turnError_10 rfl ?_
    refine V_goto (tgt := 28) dX8_turnError_12 (by decide) ?_
    exact V_ireturn rfl rfl dX8_turnError_28 rfl rfl rfl (qI.of (by unfold aTuE; first | rw [if_pos (bI_z h_7)] | (rw [if_neg (fun h => h (bI_nz h_7))]; first | rw [if_pos (bI_nz h_19)] | rw [if_neg (bI_z h_19)])))

set_option maxHeartbeats 4000000 in
set_option maxRecDepth 100000 in
theorem sp_turn (l : Launch) (g : fw_G) {I : fw_I} {P : fw_P} {s : Nat → Int32} (hM : MSh P) {k : Nat} (hk5 : k ≤ 5) (hk : I 688 2 = nI k) (hm : mOk s) (hn : ∃ p, p < 4 ∧ s 1 = nI p) (d : Int32) : Sp l g kX8_turn T0 [.ref (g.1 + 688), .int d] (wr I 689 s) P T0 0 0 (qJ (fun r I2 P2 => r = aTuR s d ∧ P2 = P ∧ MU (wr I 689 s) k (aTuOk s d) (aT s d) I2)) := by
  have a688 := at_688
  have a689 := at_689
  obtain ⟨p0, p1, p3, p5, p6, p10, p12, p13⟩ := id hM
  refine Sp.of_V (L := [some (.ref (g.1 + 688)), some (.int d), none]) (by decide) (by simp [Value.category]) (Nat.le_of_ble_eq_true rfl) rfl ?_
  refine V_aload_n (i := 0) rfl rfl dX8_turn_0 rfl ?_
  refine V_iload_n (i := 1) rfl rfl dX8_turn_1 rfl ?_
  refine V_call (n := 1) (sp_turnError l g hM d) o_X8_turnError m_X8_116 ⟨by decide, by decide⟩ (by assumption) rfl rfl (by first | exact Nat.le_of_ble_eq_true rfl | simp [Value.category]) (Nat.le_refl _) (Nat.le_refl _) rfl dX8_turn_2 rfl (kI ?_)
  refine V_istore_n (i := 2) rfl (by decide) rfl dX8_turn_5 rfl ?_
  refine V_iload_n (i := 2) rfl rfl dX8_turn_6 rfl ?_
  refine V_if_ge (tgt := 12) dX8_turn_7 (by decide) rfl (fun h_7 => ?_) (fun h_7 => ?_)
  · refine V_aload_n (i := 0) rfl rfl dX8_turn_12 rfl ?_
    refine V_call (n := 0) (sp_record (I := wr I 689 s) l g hM hk5 hk) o_X8_record m_X8_110 ⟨by decide, by decide⟩ (by assumption) rfl rfl (by first | exact Nat.le_of_ble_eq_true rfl | simp [Value.category]) (Nat.le_refl _) (Nat.le_refl _) rfl dX8_turn_13 rfl (kRec (fun I13 hr13 => ?_))
    rw [hr13.mem]
    refine V_aload_n (i := 0) rfl rfl dX8_turn_16 rfl ?_
    refine V_iload_n (i := 1) rfl rfl dX8_turn_17 rfl ?_
    obtain ⟨p, hp, hs⟩ := hn
    refine V_call (n := 1) (sp_doTurn l g hM hm hp hs d) o_X8_doTurn m_X8_119 ⟨by decide, by decide⟩ (by assumption) rfl rfl (by first | exact Nat.le_of_ble_eq_true rfl | simp [Value.category]) (Nat.le_refl _) (Nat.le_refl _) rfl dX8_turn_18 rfl (kX ?_)
    exact V_ireturn rfl rfl dX8_turn_21 rfl rfl rfl (⟨_, rfl, (aTuR_ok (aTuE_ok h_7)).symm, rfl, Or.inl ⟨aTuE_ok h_7, _, hr13, rfl⟩⟩)
  · refine V_iload_n (i := 2) rfl rfl dX8_turn_10 rfl ?_
    exact V_ireturn rfl rfl dX8_turn_11 rfl rfl rfl (⟨_, rfl, (aTuE_no h_7).2.symm, rfl, Or.inr ⟨(aTuE_no h_7).1, rfl⟩⟩)

set_option maxHeartbeats 4000000 in
set_option maxRecDepth 100000 in
theorem lp_play (l : Launch) (g : fw_G) {I I1 : fw_I} {P : fw_P} (hM : MSh P) {s0 : Nat → Int32} {k B mm : Nat} (x0 m : Int32) (hr : RecP (wr I 689 s0) I1 k) (hok : aPyOk s0 x0 m) (hmm : m = nI mm) (hm50 : mm ≤ 50) (hR : aPyR s0 x0 m = nI (aPyF mm x0 s0).1) : ∀ (n j : Nat) (x : Int32) (s : Nat → Int32), j + n = mm → Inv B s → (0 ≤ x ∧ x ≤ 65535) → aPyF mm x0 s0 = ((aPyF n x s).1 + j, (aPyF n x s).2) → V l g kX8_play T0 0 0 (qJ (fun r I2 P2 => r = aPyR s0 x0 m ∧ P2 = P ∧ MU (wr I 689 s0) k (aPyOk s0 x0 m) (aPyF m.toNatClampNeg x0 s0).2 I2)) T0 (wr I1 689 s) P 0 0 42 [some (.ref (g.1 + 688)), some (.int x0), some (.int (nI mm)), some (.int (nI j)), some (.int x)] [] := by
  have a688 := at_688
  have a689 := at_689
  obtain ⟨p0, p1, p3, p5, p6, p10, p12, p13⟩ := id hM
  intro n
  induction n with
  | zero =>
    intro j x s hj hI hx hF
    obtain rfl : j = mm := by omega
    refine V_iload_n (i := 3) rfl rfl dX8_play_42 rfl ?_
    refine V_iload_n (i := 2) rfl rfl dX8_play_43 rfl ?_
    refine V_icmp_ge (tgt := 77) dX8_play_44 (by decide) rfl (fun _ => ?_) (fun h => absurd (nI_le (Nat.le_refl _) (by omega)) h)
    refine V_iload_n (i := 3) rfl rfl dX8_play_77 rfl ?_
    exact V_ireturn rfl rfl dX8_play_78 rfl rfl rfl (⟨_, rfl, by rw [hR, hF]; exact congrArg nI (Nat.zero_add _).symm, rfl, Or.inl ⟨hok, I1, hr, by rw [hmm, nI_clamp (by omega), hF]; rfl⟩⟩)
  | succ n ih =>
    intro j x s hj hI hx hF
    obtain ⟨p, hp, hs⟩ := hI.now
    have hm := hI.mOk
    have hd := aDraw_in hx
    have hdi := aDice_in hd
    have hF2 : aPyF (n + 1) x s = if s 4 = 4 then (0, s) else ((aPyF n (aDraw x) (aT s (aDice (aDraw x)))).1 + 1, (aPyF n (aDraw x) (aT s (aDice (aDraw x)))).2) := rfl
    refine V_iload_n (i := 3) rfl rfl dX8_play_42 rfl ?_
    refine V_iload_n (i := 2) rfl rfl dX8_play_43 rfl ?_
    refine V_icmp_ge (tgt := 77) dX8_play_44 (by decide) rfl (fun h => absurd h (nI_ge (by omega) (by omega))) (fun _ => ?_)
    refine V_aload_n (i := 0) rfl rfl dX8_play_47 rfl ?_
    refine V_call (n := 0) (sp_isOver l g hM) o_X8_isOver m_X8_92 ⟨by decide, by decide⟩ (by assumption) rfl rfl (by first | exact Nat.le_of_ble_eq_true rfl | simp [Value.category]) (Nat.le_refl _) (Nat.le_refl _) rfl dX8_play_48 rfl (kI ?_)
    refine V_if_ne (tgt := 77) dX8_play_51 (by decide) rfl (fun h_51 => ?_) (fun h_51 => ?_)
    · refine V_iload_n (i := 3) rfl rfl dX8_play_77 rfl ?_
      exact V_ireturn rfl rfl dX8_play_78 rfl rfl rfl (⟨_, rfl, by rw [hR, hF, hF2, if_pos (bI_nz h_51)]; exact congrArg nI (Nat.zero_add _).symm, rfl, Or.inl ⟨hok, I1, hr, by rw [hmm, nI_clamp (by omega), hF, hF2, if_pos (bI_nz h_51)]⟩⟩)
    · refine V_iload (i := 4) rfl dX8_play_54 rfl ?_
      refine V_callS (n := 1) (sp_draw l g _ _ x) o_X8_draw m_X8_123 ⟨by decide, by decide⟩ rfl rfl (by first | exact Nat.le_of_ble_eq_true rfl | simp [Value.category]) (Nat.le_refl _) (Nat.le_refl _) rfl dX8_play_56 rfl (kI ?_)
      refine V_istore (i := 4) (by decide) rfl dX8_play_59 rfl ?_
      refine V_aload_n (i := 0) rfl rfl dX8_play_61 rfl ?_
      refine V_iload (i := 4) rfl dX8_play_62 rfl ?_
      refine V_callS (n := 1) (sp_diceOf l g _ _ (aDraw x)) o_X8_diceOf m_X8_126 ⟨by decide, by decide⟩ rfl rfl (by first | exact Nat.le_of_ble_eq_true rfl | simp [Value.category]) (Nat.le_refl _) (Nat.le_refl _) rfl dX8_play_64 rfl (kI ?_)
      refine V_call (n := 1) (sp_doTurn l g hM hm hp hs (aDice (aDraw x))) o_X8_doTurn m_X8_119 ⟨by decide, by decide⟩ (by assumption) rfl rfl (by first | exact Nat.le_of_ble_eq_true rfl | simp [Value.category]) (Nat.le_refl _) (Nat.le_refl _) rfl dX8_play_67 rfl (kX ?_)
      refine V_pop (by first | rfl | (cases ‹Option Nat› <;> rfl)) dX8_play_70 rfl ?_
      refine V_iinc1 (i := 3) rfl (by decide) rfl dX8_play_71 rfl ?_
      refine V_goto (tgt := 42) dX8_play_74 (by decide) ?_
      obtain ⟨dn, hd1, hd6, ed⟩ := aDi.nat hdi
      have h9 := ih (j + 1) (aDraw x) (aT s (aDice (aDraw x))) (by omega) (by rw [ed]; exact Inv_T hI (bI_z h_51) hd1 hd6) hd (by rw [hF, hF2, if_neg (bI_z h_51)]; exact Prod.ext (by show _ + 1 + j = _ + (j + 1); omega) rfl)
      rw [← nI_1] at h9
      exact h9

set_option maxHeartbeats 4000000 in
set_option maxRecDepth 100000 in
theorem sp_play (l : Launch) (g : fw_G) {I : fw_I} {P : fw_P} {s : Nat → Int32} (hM : MSh P) {k : Nat} (hk5 : k ≤ 5) (hk : I 688 2 = nI k) {B : Nat} (hI : Inv B s) (x m : Int32) : Sp l g kX8_play T0 [.ref (g.1 + 688), .int x, .int m] (wr I 689 s) P T0 0 0 (qJ (fun r I2 P2 => r = aPyR s x m ∧ P2 = P ∧ MU (wr I 689 s) k (aPyOk s x m) ((aPyF m.toNatClampNeg x s).2) I2)) := by
  have a688 := at_688
  have a689 := at_689
  obtain ⟨p0, p1, p3, p5, p6, p10, p12, p13⟩ := id hM
  refine Sp.of_V (L := [some (.ref (g.1 + 688)), some (.int x), some (.int m), none, none]) (by decide) (by simp [Value.category]) (Nat.le_of_ble_eq_true rfl) rfl ?_
  refine V_iload_n (i := 1) rfl rfl dX8_play_0 rfl ?_
  refine V_iconst (v := 0) (by decide) dX8_play_1 rfl ?_
  refine V_ldc cst_X8_122 dX8_play_2 rfl ?_
  refine V_callS (n := 3) (sp_in l g _ P x 0 65535) o_X8_in m_X8_35 ⟨by decide, by decide⟩ rfl rfl (by first | exact Nat.le_of_ble_eq_true rfl | simp [Value.category]) (Nat.le_refl _) (Nat.le_refl _) rfl dX8_play_4 rfl (kI ?_)
  refine V_if_eq (tgt := 20) dX8_play_7 (by decide) rfl (fun h_7 => ?_) (fun h_7 => ?_)
  · refine V_bipush (v := (-2)) (by decide) dX8_play_20 rfl ?_
    exact V_ireturn rfl rfl dX8_play_22 rfl rfl rfl (by first | (have hn : ¬ aPyC x m := fun h => bI_z h_7 h.1; exact ⟨_, rfl, by unfold aPyR; rw [if_pos hn], rfl, Or.inr ⟨fun h => hn h.1, rfl⟩⟩) | (have hn : ¬ aPyC x m := fun h => bI_z h_17 h.2; exact ⟨_, rfl, by unfold aPyR; rw [if_pos hn], rfl, Or.inr ⟨fun h => hn h.1, rfl⟩⟩))
  · refine V_iload_n (i := 2) rfl rfl dX8_play_10 rfl ?_
    refine V_iconst (v := 1) (by decide) dX8_play_11 rfl ?_
    refine V_bipush (v := 50) (by decide) dX8_play_12 rfl ?_
    refine V_callS (n := 3) (sp_in l g _ P m 1 50) o_X8_in m_X8_35 ⟨by decide, by decide⟩ rfl rfl (by first | exact Nat.le_of_ble_eq_true rfl | simp [Value.category]) (Nat.le_refl _) (Nat.le_refl _) rfl dX8_play_14 rfl (kI ?_)
    refine V_if_ne (tgt := 23) dX8_play_17 (by decide) rfl (fun h_17 => ?_) (fun h_17 => ?_)
    · refine V_aload_n (i := 0) rfl rfl dX8_play_23 rfl ?_
      refine V_call (n := 0) (sp_isOver l g hM) o_X8_isOver m_X8_92 ⟨by decide, by decide⟩ (by assumption) rfl rfl (by first | exact Nat.le_of_ble_eq_true rfl | simp [Value.category]) (Nat.le_refl _) (Nat.le_refl _) rfl dX8_play_24 rfl (kI ?_)
      refine V_if_eq (tgt := 33) dX8_play_27 (by decide) rfl (fun h_27 => ?_) (fun h_27 => ?_)
      · refine V_aload_n (i := 0) rfl rfl dX8_play_33 rfl ?_
        refine V_call (n := 0) (sp_record (I := wr I 689 s) l g hM hk5 hk) o_X8_record m_X8_110 ⟨by decide, by decide⟩ (by assumption) rfl rfl (by first | exact Nat.le_of_ble_eq_true rfl | simp [Value.category]) (Nat.le_refl _) (Nat.le_refl _) rfl dX8_play_34 rfl (kRec (fun I34 hr34 => ?_))
        rw [hr34.mem]
        refine V_iconst (v := 0) (by decide) dX8_play_37 rfl ?_
        refine V_istore_n (i := 3) rfl (by decide) rfl dX8_play_38 rfl ?_
        refine V_iload_n (i := 1) rfl rfl dX8_play_39 rfl ?_
        refine V_istore (i := 4) (by decide) rfl dX8_play_40 rfl ?_
        obtain ⟨mm, hmm, rfl⟩ := nI_of2 (x := m) (M := 50) (n := 50) rfl (by rw [i32_lt]; have := i32_le.mp (bI_nz h_17).1; simp at this ⊢; omega) (bI_nz h_17).2
        have hcm : (nI mm).toNatClampNeg = mm := nI_clamp (by omega)
        exact lp_play (B := B) l g hM x (nI mm) hr34 ⟨⟨bI_nz h_7, bI_nz h_17⟩, bI_z h_27⟩ rfl hmm (by unfold aPyR; rw [if_neg (fun h => h ⟨bI_nz h_7, bI_nz h_17⟩), if_neg (bI_z h_27), hcm]) mm 0 x s (by omega) hI (bI_nz h_7) (Prod.ext (by show _ = _ + 0; omega) rfl)
      · refine V_bipush (v := (-4)) (by decide) dX8_play_30 rfl ?_
        exact V_ireturn rfl rfl dX8_play_32 rfl rfl rfl (⟨_, rfl, by unfold aPyR; rw [if_neg (fun h => h ⟨bI_nz h_7, bI_nz h_17⟩), if_pos (bI_nz h_27)], rfl, Or.inr ⟨fun h => h.2 (bI_nz h_27), rfl⟩⟩)
    · refine V_bipush (v := (-2)) (by decide) dX8_play_20 rfl ?_
      exact V_ireturn rfl rfl dX8_play_22 rfl rfl rfl (by first | (have hn : ¬ aPyC x m := fun h => bI_z h_7 h.1; exact ⟨_, rfl, by unfold aPyR; rw [if_pos hn], rfl, Or.inr ⟨fun h => hn h.1, rfl⟩⟩) | (have hn : ¬ aPyC x m := fun h => bI_z h_17 h.2; exact ⟨_, rfl, by unfold aPyR; rw [if_pos hn], rfl, Or.inr ⟨fun h => hn h.1, rfl⟩⟩))

set_option maxHeartbeats 4000000 in
set_option maxRecDepth 100000 in
theorem sp_sell (l : Launch) (g : fw_G) {I : fw_I} {P : fw_P} {s : Nat → Int32} (hM : MSh P) {k : Nat} (hk5 : k ≤ 5) (hk : I 688 2 = nI k) (hm : mOk s) (x y z c : Int32) : Sp l g kX8_sell T0 [.ref (g.1 + 688), .int x, .int y, .int z, .int c] (wr I 689 s) P T0 0 0 (qJ (fun r I2 P2 => r = aSelR s x y z c ∧ P2 = P ∧ MU (wr I 689 s) k (aSelOk s x y z c) (aSelF s x y z c) I2)) := by
  have a688 := at_688
  have a689 := at_689
  obtain ⟨p0, p1, p3, p5, p6, p10, p12, p13⟩ := id hM
  refine Sp.of_V (L := [some (.ref (g.1 + 688)), some (.int x), some (.int y), some (.int z), some (.int c), none, none]) (by decide) (by simp [Value.category]) (Nat.le_of_ble_eq_true rfl) rfl ?_
  refine V_aload_n (i := 0) rfl rfl dX8_sell_0 rfl ?_
  refine V_iload_n (i := 1) rfl rfl dX8_sell_1 rfl ?_
  refine V_iload_n (i := 2) rfl rfl dX8_sell_2 rfl ?_
  refine V_iload_n (i := 3) rfl rfl dX8_sell_3 rfl ?_
  refine V_iload (i := 4) rfl dX8_sell_4 rfl ?_
  refine V_call (n := 4) (sp_sellError l g hM x y z c) o_X8_sellError m_X8_129 ⟨by decide, by decide⟩ (by assumption) rfl rfl (by first | exact Nat.le_of_ble_eq_true rfl | simp [Value.category]) (Nat.le_refl _) (Nat.le_refl _) rfl dX8_sell_6 rfl (kI ?_)
  refine V_istore (i := 5) (by decide) rfl dX8_sell_9 rfl ?_
  refine V_iload (i := 5) rfl dX8_sell_11 rfl ?_
  refine V_if_ge (tgt := 19) dX8_sell_13 (by decide) rfl (fun h_13 => ?_) (fun h_13 => ?_)
  · obtain ⟨he0, ⟨hbt, hpl⟩, hcc, hxz⟩ := (aSeE_cases s x y z c).elim (fun h => absurd h.1 (Int32.not_lt.mpr h_13)) id
    obtain ⟨p, y1, hp, rfl, hky, rfl, hk20⟩ := aBt.nat hm hbt
    obtain ⟨b, hb, rfl⟩ := hpl.nat
    have hpb : ¬ p = b := fun h => hxz (by rw [h])
    have hc : (nI p).toNatClampNeg = p := nI_clamp (by omega)
    have hck : (nI y1).toNatClampNeg = y1 := nI_clamp (by omega)
    have hcb : (nI b).toNatClampNeg = b := nI_clamp (by omega)
    refine V_aload_n (i := 0) rfl rfl dX8_sell_19 rfl ?_
    refine V_iload_n (i := 1) rfl rfl dX8_sell_20 rfl ?_
    refine V_iload_n (i := 2) rfl rfl dX8_sell_21 rfl ?_
    refine V_iload_n (i := 3) rfl rfl dX8_sell_22 rfl ?_
    refine V_iload (i := 4) rfl dX8_sell_23 rfl ?_
    refine V_call (n := 4) (sp_reason l g hM hp hk20 hb c) o_X8_reason m_X8_133 ⟨by decide, by decide⟩ (by assumption) rfl rfl (by first | exact Nat.le_of_ble_eq_true rfl | simp [Value.category]) (Nat.le_refl _) (Nat.le_refl _) rfl dX8_sell_25 rfl (kI ?_)
    refine V_istore (i := 6) (by decide) rfl dX8_sell_28 rfl ?_
    refine V_iload (i := 6) rfl dX8_sell_30 rfl ?_
    refine V_if_le (tgt := 41) dX8_sell_32 (by decide) rfl (fun h_32 => ?_) (fun h_32 => ?_)
    · refine V_aload_n (i := 0) rfl rfl dX8_sell_41 rfl ?_
      refine V_call (n := 0) (sp_record (I := wr I 689 s) l g hM hk5 hk) o_X8_record m_X8_110 ⟨by decide, by decide⟩ (by assumption) rfl rfl (by first | exact Nat.le_of_ble_eq_true rfl | simp [Value.category]) (Nat.le_refl _) (Nat.le_refl _) rfl dX8_sell_42 rfl (kRec (fun I42 hr42 => ?_))
      rw [hr42.mem]
      refine V_aload_n (i := 0) rfl rfl dX8_sell_45 rfl ?_
      refine V_iload_n (i := 1) rfl rfl dX8_sell_46 rfl ?_
      refine V_iload_n (i := 2) rfl rfl dX8_sell_47 rfl ?_
      refine V_iload_n (i := 3) rfl rfl dX8_sell_48 rfl ?_
      refine V_iload (i := 4) rfl dX8_sell_49 rfl ?_
      refine V_call (n := 4) (sp_doSell l g hM hm hp hky hb hpb c) o_X8_doSell m_X8_136 ⟨by decide, by decide⟩ (by assumption) rfl rfl (by first | exact Nat.le_of_ble_eq_true rfl | simp [Value.category]) (Nat.le_refl _) (Nat.le_refl _) rfl dX8_sell_51 rfl (kX ?_)
      exact V_ireturn rfl rfl dX8_sell_54 rfl rfl rfl (⟨_, rfl, by unfold aSelR; rw [if_neg (Int32.not_lt.mpr h_13), hc, hck, hcb, if_neg (Int32.not_lt.mpr h_32)], rfl, Or.inl ⟨⟨he0, by rw [hc, hck, hcb]; exact (aRea_cases s p y1 b c).elim id (fun h => absurd h (Int32.not_lt.mpr h_32))⟩, _, hr42, by unfold aSelF; rw [hc, hck, hcb]⟩⟩)
    · refine V_bipush (v := (-10)) (by decide) dX8_sell_35 rfl ?_
      refine V_iload (i := 6) rfl dX8_sell_37 rfl ?_
      refine V_isub dX8_sell_39 rfl ?_
      exact V_ireturn rfl rfl dX8_sell_40 rfl rfl rfl (⟨_, rfl, by unfold aSelR; rw [if_neg (Int32.not_lt.mpr h_13), hc, hck, hcb, if_pos (Int32.not_le.mp h_32)], rfl, Or.inr ⟨fun h => h_32 (by have h2 := h.2; rw [hc, hck, hcb] at h2; rw [h2]; decide), rfl⟩⟩)
  · refine V_iload (i := 5) rfl dX8_sell_16 rfl ?_
    exact V_ireturn rfl rfl dX8_sell_18 rfl rfl rfl (⟨_, rfl, by unfold aSelR; rw [if_pos (Int32.not_le.mp h_13)], rfl, Or.inr ⟨fun h => h_13 (by rw [h.1]; decide), rfl⟩⟩)

set_option maxHeartbeats 4000000 in
set_option maxRecDepth 100000 in
theorem sp_set (l : Launch) (g : fw_G) {I : fw_I} {P : fw_P} {s : Nat → Int32} (hM : MSh P) {k : Nat} (hk5 : k ≤ 5) (hk : I 688 2 = nI k) (x v : Int32) : Sp l g kX8_set T0 [.ref (g.1 + 688), .int x, .int v] (wr I 689 s) P T0 0 0 (qJ (fun r I2 P2 => r = aSetR s x v ∧ P2 = P ∧ MU (wr I 689 s) k (aSetOk x v) (aSetF s x v) I2)) := by
  have a688 := at_688
  have a689 := at_689
  obtain ⟨p0, p1, p3, p5, p6, p10, p12, p13⟩ := id hM
  refine Sp.of_V (L := [some (.ref (g.1 + 688)), some (.int x), some (.int v), none]) (by decide) (by simp [Value.category]) (Nat.le_of_ble_eq_true rfl) rfl ?_
  refine V_iload_n (i := 1) rfl rfl dX8_set_0 rfl ?_
  refine V_iconst (v := 0) (by decide) dX8_set_1 rfl ?_
  refine V_iconst (v := 2) (by decide) dX8_set_2 rfl ?_
  refine V_callS (n := 3) (sp_in l g _ P x 0 2) o_X8_in m_X8_35 ⟨by decide, by decide⟩ rfl rfl (by first | exact Nat.le_of_ble_eq_true rfl | simp [Value.category]) (Nat.le_refl _) (Nat.le_refl _) rfl dX8_set_3 rfl (kI ?_)
  refine V_if_ne (tgt := 11) dX8_set_6 (by decide) rfl (fun h_6 => ?_) (fun h_6 => ?_)
  · refine V_iload_n (i := 2) rfl rfl dX8_set_11 rfl ?_
    refine V_iload_n (i := 1) rfl rfl dX8_set_12 rfl ?_
    refine V_iconst (v := 2) (by decide) dX8_set_13 rfl ?_
    refine V_icmp_ne (tgt := 21) dX8_set_14 (by decide) rfl (fun h_14 => ?_) (fun h_14 => ?_)
    · refine V_iconst (v := 0) (by decide) dX8_set_21 rfl ?_
      refine V_iload_n (i := 1) rfl rfl dX8_set_22 rfl ?_
      refine V_if_ne (tgt := 31) dX8_set_23 (by decide) rfl (fun h_23 => ?_) (fun h_23 => ?_)
      · refine V_iload_n (i := 1) rfl rfl dX8_set_31 rfl ?_
        refine V_iconst (v := 1) (by decide) dX8_set_32 rfl ?_
        refine V_icmp_ne (tgt := 41) dX8_set_33 (by decide) rfl (fun h_33 => ?_) (fun h_33 => ?_)
        · refine V_iconst (v := 3) (by decide) dX8_set_41 rfl ?_
          refine V_callS (n := 3) (sp_in l g _ P v _ _) o_X8_in m_X8_35 ⟨by decide, by decide⟩ rfl rfl (by first | exact Nat.le_of_ble_eq_true rfl | simp [Value.category]) (Nat.le_refl _) (Nat.le_refl _) rfl dX8_set_42 rfl (kI ?_)
          refine V_if_ne (tgt := 51) dX8_set_45 (by decide) rfl (fun h_45 => ?_) (fun h_45 => ?_)
          · refine V_aload_n (i := 0) rfl rfl dX8_set_51 rfl ?_
            refine V_call (n := 0) (sp_record (I := wr I 689 s) l g hM hk5 hk) o_X8_record m_X8_110 ⟨by decide, by decide⟩ (by assumption) rfl rfl (by first | exact Nat.le_of_ble_eq_true rfl | simp [Value.category]) (Nat.le_refl _) (Nat.le_refl _) rfl dX8_set_52 rfl (kRec (fun I52 hr52 => ?_))
            rw [hr52.mem]
            obtain ⟨i, hi, ei⟩ := aSt3.nat (bI_nz h_6)
            have hci : x.toNatClampNeg = i := by rw [ei]; exact nI_clamp (by omega)
            have hix : fw_ix (5 + x) (5 + x.toNatClampNeg) 392 := by rw [hci, ei, show (5 : Int32) = nI 5 from rfl, nI_add]; exact fw_ix_nI (by omega) (by omega)
            have hv : aSeV x v := by
              have h9 := bI_nz h_45
              constructor
              · first | (rw [if_pos h_14]; exact h9.1) | (rw [if_neg h_14]; exact h9.1)
              · first | (rw [if_pos h_23]; exact h9.2) | (rw [if_neg h_23]; first | (rw [if_pos h_33]; exact h9.2) | (rw [if_neg h_33]; exact h9.2))
            refine V_aload_n (i := 0) rfl rfl dX8_set_55 rfl ?_
            refine V_getr (kf := 0) C8 (by decide) l_X8_7 (by assumption) rfl (by assumption) dX8_set_56 rfl ?_
            refine V_iconst (v := 5) (by decide) dX8_set_59 rfl ?_
            refine V_iload_n (i := 1) rfl rfl dX8_set_60 rfl ?_
            refine V_iadd dX8_set_61 rfl ?_
            refine V_iald9 (by assumption) hix dX8_set_62 rfl ?_
            refine V_istore_n (i := 3) rfl (by decide) rfl dX8_set_63 rfl ?_
            refine V_aload_n (i := 0) rfl rfl dX8_set_64 rfl ?_
            refine V_getr (kf := 0) C8 (by decide) l_X8_7 (by assumption) rfl (by assumption) dX8_set_65 rfl ?_
            refine V_iconst (v := 5) (by decide) dX8_set_68 rfl ?_
            refine V_iload_n (i := 1) rfl rfl dX8_set_69 rfl ?_
            refine V_iadd dX8_set_70 rfl ?_
            refine V_iload_n (i := 2) rfl rfl dX8_set_71 rfl ?_
            refine V_iast9 (by assumption) hix dX8_set_72 rfl ?_
            refine V_iload_n (i := 3) rfl rfl dX8_set_73 rfl ?_
            exact V_ireturn rfl rfl dX8_set_74 rfl rfl rfl (⟨_, rfl, by unfold aSetR; rw [if_neg (fun h => h (bI_nz h_6)), if_neg (fun h => h hv)], rfl, Or.inl ⟨⟨bI_nz h_6, hv⟩, _, hr52, rfl⟩⟩)
          · refine V_bipush (v := (-2)) (by decide) dX8_set_48 rfl ?_
            exact V_ireturn rfl rfl dX8_set_50 rfl rfl rfl (by
                  have hv : ¬ aSeV x v := fun h => bI_z h_45 (by
                    obtain ⟨h1, h2⟩ := h
                    constructor
                    · first | (rw [if_pos h_14] at h1; exact h1) | (rw [if_neg h_14] at h1; exact h1)
                    · first | (rw [if_pos h_23] at h2; exact h2) | (rw [if_neg h_23] at h2; first | (rw [if_pos h_33] at h2; exact h2) | (rw [if_neg h_33] at h2; exact h2)))
                  exact ⟨_, rfl, by unfold aSetR; rw [if_neg (fun h => h (bI_nz h_6)), if_pos hv], rfl, Or.inr ⟨fun h => hv h.2, rfl⟩⟩)
        · refine V_bipush (v := 50) (by decide) dX8_set_36 rfl ?_
          refine V_goto (tgt := 42) dX8_set_38 (by decide) ?_
          refine V_callS (n := 3) (sp_in l g _ P v _ _) o_X8_in m_X8_35 ⟨by decide, by decide⟩ rfl rfl (by first | exact Nat.le_of_ble_eq_true rfl | simp [Value.category]) (Nat.le_refl _) (Nat.le_refl _) rfl dX8_set_42 rfl (kI ?_)
          refine V_if_ne (tgt := 51) dX8_set_45 (by decide) rfl (fun h_45 => ?_) (fun h_45 => ?_)
          · refine V_aload_n (i := 0) rfl rfl dX8_set_51 rfl ?_
            refine V_call (n := 0) (sp_record (I := wr I 689 s) l g hM hk5 hk) o_X8_record m_X8_110 ⟨by decide, by decide⟩ (by assumption) rfl rfl (by first | exact Nat.le_of_ble_eq_true rfl | simp [Value.category]) (Nat.le_refl _) (Nat.le_refl _) rfl dX8_set_52 rfl (kRec (fun I52 hr52 => ?_))
            rw [hr52.mem]
            obtain ⟨i, hi, ei⟩ := aSt3.nat (bI_nz h_6)
            have hci : x.toNatClampNeg = i := by rw [ei]; exact nI_clamp (by omega)
            have hix : fw_ix (5 + x) (5 + x.toNatClampNeg) 392 := by rw [hci, ei, show (5 : Int32) = nI 5 from rfl, nI_add]; exact fw_ix_nI (by omega) (by omega)
            have hv : aSeV x v := by
              have h9 := bI_nz h_45
              constructor
              · first | (rw [if_pos h_14]; exact h9.1) | (rw [if_neg h_14]; exact h9.1)
              · first | (rw [if_pos h_23]; exact h9.2) | (rw [if_neg h_23]; first | (rw [if_pos h_33]; exact h9.2) | (rw [if_neg h_33]; exact h9.2))
            refine V_aload_n (i := 0) rfl rfl dX8_set_55 rfl ?_
            refine V_getr (kf := 0) C8 (by decide) l_X8_7 (by assumption) rfl (by assumption) dX8_set_56 rfl ?_
            refine V_iconst (v := 5) (by decide) dX8_set_59 rfl ?_
            refine V_iload_n (i := 1) rfl rfl dX8_set_60 rfl ?_
            refine V_iadd dX8_set_61 rfl ?_
            refine V_iald9 (by assumption) hix dX8_set_62 rfl ?_
            refine V_istore_n (i := 3) rfl (by decide) rfl dX8_set_63 rfl ?_
            refine V_aload_n (i := 0) rfl rfl dX8_set_64 rfl ?_
            refine V_getr (kf := 0) C8 (by decide) l_X8_7 (by assumption) rfl (by assumption) dX8_set_65 rfl ?_
            refine V_iconst (v := 5) (by decide) dX8_set_68 rfl ?_
            refine V_iload_n (i := 1) rfl rfl dX8_set_69 rfl ?_
            refine V_iadd dX8_set_70 rfl ?_
            refine V_iload_n (i := 2) rfl rfl dX8_set_71 rfl ?_
            refine V_iast9 (by assumption) hix dX8_set_72 rfl ?_
            refine V_iload_n (i := 3) rfl rfl dX8_set_73 rfl ?_
            exact V_ireturn rfl rfl dX8_set_74 rfl rfl rfl (⟨_, rfl, by unfold aSetR; rw [if_neg (fun h => h (bI_nz h_6)), if_neg (fun h => h hv)], rfl, Or.inl ⟨⟨bI_nz h_6, hv⟩, _, hr52, rfl⟩⟩)
          · refine V_bipush (v := (-2)) (by decide) dX8_set_48 rfl ?_
            exact V_ireturn rfl rfl dX8_set_50 rfl rfl rfl (by
                  have hv : ¬ aSeV x v := fun h => bI_z h_45 (by
                    obtain ⟨h1, h2⟩ := h
                    constructor
                    · first | (rw [if_pos h_14] at h1; exact h1) | (rw [if_neg h_14] at h1; exact h1)
                    · first | (rw [if_pos h_23] at h2; exact h2) | (rw [if_neg h_23] at h2; first | (rw [if_pos h_33] at h2; exact h2) | (rw [if_neg h_33] at h2; exact h2)))
                  exact ⟨_, rfl, by unfold aSetR; rw [if_neg (fun h => h (bI_nz h_6)), if_pos hv], rfl, Or.inr ⟨fun h => hv h.2, rfl⟩⟩)
      · refine V_bipush (v := 9) (by decide) dX8_set_26 rfl ?_
        refine V_goto (tgt := 42) dX8_set_28 (by decide) ?_
        refine V_callS (n := 3) (sp_in l g _ P v _ _) o_X8_in m_X8_35 ⟨by decide, by decide⟩ rfl rfl (by first | exact Nat.le_of_ble_eq_true rfl | simp [Value.category]) (Nat.le_refl _) (Nat.le_refl _) rfl dX8_set_42 rfl (kI ?_)
        refine V_if_ne (tgt := 51) dX8_set_45 (by decide) rfl (fun h_45 => ?_) (fun h_45 => ?_)
        · refine V_aload_n (i := 0) rfl rfl dX8_set_51 rfl ?_
          refine V_call (n := 0) (sp_record (I := wr I 689 s) l g hM hk5 hk) o_X8_record m_X8_110 ⟨by decide, by decide⟩ (by assumption) rfl rfl (by first | exact Nat.le_of_ble_eq_true rfl | simp [Value.category]) (Nat.le_refl _) (Nat.le_refl _) rfl dX8_set_52 rfl (kRec (fun I52 hr52 => ?_))
          rw [hr52.mem]
          obtain ⟨i, hi, ei⟩ := aSt3.nat (bI_nz h_6)
          have hci : x.toNatClampNeg = i := by rw [ei]; exact nI_clamp (by omega)
          have hix : fw_ix (5 + x) (5 + x.toNatClampNeg) 392 := by rw [hci, ei, show (5 : Int32) = nI 5 from rfl, nI_add]; exact fw_ix_nI (by omega) (by omega)
          have hv : aSeV x v := by
            have h9 := bI_nz h_45
            constructor
            · first | (rw [if_pos h_14]; exact h9.1) | (rw [if_neg h_14]; exact h9.1)
            · first | (rw [if_pos h_23]; exact h9.2) | (rw [if_neg h_23]; first | (rw [if_pos h_33]; exact h9.2) | (rw [if_neg h_33]; exact h9.2))
          refine V_aload_n (i := 0) rfl rfl dX8_set_55 rfl ?_
          refine V_getr (kf := 0) C8 (by decide) l_X8_7 (by assumption) rfl (by assumption) dX8_set_56 rfl ?_
          refine V_iconst (v := 5) (by decide) dX8_set_59 rfl ?_
          refine V_iload_n (i := 1) rfl rfl dX8_set_60 rfl ?_
          refine V_iadd dX8_set_61 rfl ?_
          refine V_iald9 (by assumption) hix dX8_set_62 rfl ?_
          refine V_istore_n (i := 3) rfl (by decide) rfl dX8_set_63 rfl ?_
          refine V_aload_n (i := 0) rfl rfl dX8_set_64 rfl ?_
          refine V_getr (kf := 0) C8 (by decide) l_X8_7 (by assumption) rfl (by assumption) dX8_set_65 rfl ?_
          refine V_iconst (v := 5) (by decide) dX8_set_68 rfl ?_
          refine V_iload_n (i := 1) rfl rfl dX8_set_69 rfl ?_
          refine V_iadd dX8_set_70 rfl ?_
          refine V_iload_n (i := 2) rfl rfl dX8_set_71 rfl ?_
          refine V_iast9 (by assumption) hix dX8_set_72 rfl ?_
          refine V_iload_n (i := 3) rfl rfl dX8_set_73 rfl ?_
          exact V_ireturn rfl rfl dX8_set_74 rfl rfl rfl (⟨_, rfl, by unfold aSetR; rw [if_neg (fun h => h (bI_nz h_6)), if_neg (fun h => h hv)], rfl, Or.inl ⟨⟨bI_nz h_6, hv⟩, _, hr52, rfl⟩⟩)
        · refine V_bipush (v := (-2)) (by decide) dX8_set_48 rfl ?_
          exact V_ireturn rfl rfl dX8_set_50 rfl rfl rfl (by
                have hv : ¬ aSeV x v := fun h => bI_z h_45 (by
                  obtain ⟨h1, h2⟩ := h
                  constructor
                  · first | (rw [if_pos h_14] at h1; exact h1) | (rw [if_neg h_14] at h1; exact h1)
                  · first | (rw [if_pos h_23] at h2; exact h2) | (rw [if_neg h_23] at h2; first | (rw [if_pos h_33] at h2; exact h2) | (rw [if_neg h_33] at h2; exact h2)))
                exact ⟨_, rfl, by unfold aSetR; rw [if_neg (fun h => h (bI_nz h_6)), if_pos hv], rfl, Or.inr ⟨fun h => hv h.2, rfl⟩⟩)
    · refine V_iconst (v := 1) (by decide) dX8_set_17 rfl ?_
      refine V_goto (tgt := 22) dX8_set_18 (by decide) ?_
      refine V_iload_n (i := 1) rfl rfl dX8_set_22 rfl ?_
      refine V_if_ne (tgt := 31) dX8_set_23 (by decide) rfl (fun h_23 => ?_) (fun h_23 => ?_)
      · refine V_iload_n (i := 1) rfl rfl dX8_set_31 rfl ?_
        refine V_iconst (v := 1) (by decide) dX8_set_32 rfl ?_
        refine V_icmp_ne (tgt := 41) dX8_set_33 (by decide) rfl (fun h_33 => ?_) (fun h_33 => ?_)
        · refine V_iconst (v := 3) (by decide) dX8_set_41 rfl ?_
          refine V_callS (n := 3) (sp_in l g _ P v _ _) o_X8_in m_X8_35 ⟨by decide, by decide⟩ rfl rfl (by first | exact Nat.le_of_ble_eq_true rfl | simp [Value.category]) (Nat.le_refl _) (Nat.le_refl _) rfl dX8_set_42 rfl (kI ?_)
          refine V_if_ne (tgt := 51) dX8_set_45 (by decide) rfl (fun h_45 => ?_) (fun h_45 => ?_)
          · refine V_aload_n (i := 0) rfl rfl dX8_set_51 rfl ?_
            refine V_call (n := 0) (sp_record (I := wr I 689 s) l g hM hk5 hk) o_X8_record m_X8_110 ⟨by decide, by decide⟩ (by assumption) rfl rfl (by first | exact Nat.le_of_ble_eq_true rfl | simp [Value.category]) (Nat.le_refl _) (Nat.le_refl _) rfl dX8_set_52 rfl (kRec (fun I52 hr52 => ?_))
            rw [hr52.mem]
            obtain ⟨i, hi, ei⟩ := aSt3.nat (bI_nz h_6)
            have hci : x.toNatClampNeg = i := by rw [ei]; exact nI_clamp (by omega)
            have hix : fw_ix (5 + x) (5 + x.toNatClampNeg) 392 := by rw [hci, ei, show (5 : Int32) = nI 5 from rfl, nI_add]; exact fw_ix_nI (by omega) (by omega)
            have hv : aSeV x v := by
              have h9 := bI_nz h_45
              constructor
              · first | (rw [if_pos h_14]; exact h9.1) | (rw [if_neg h_14]; exact h9.1)
              · first | (rw [if_pos h_23]; exact h9.2) | (rw [if_neg h_23]; first | (rw [if_pos h_33]; exact h9.2) | (rw [if_neg h_33]; exact h9.2))
            refine V_aload_n (i := 0) rfl rfl dX8_set_55 rfl ?_
            refine V_getr (kf := 0) C8 (by decide) l_X8_7 (by assumption) rfl (by assumption) dX8_set_56 rfl ?_
            refine V_iconst (v := 5) (by decide) dX8_set_59 rfl ?_
            refine V_iload_n (i := 1) rfl rfl dX8_set_60 rfl ?_
            refine V_iadd dX8_set_61 rfl ?_
            refine V_iald9 (by assumption) hix dX8_set_62 rfl ?_
            refine V_istore_n (i := 3) rfl (by decide) rfl dX8_set_63 rfl ?_
            refine V_aload_n (i := 0) rfl rfl dX8_set_64 rfl ?_
            refine V_getr (kf := 0) C8 (by decide) l_X8_7 (by assumption) rfl (by assumption) dX8_set_65 rfl ?_
            refine V_iconst (v := 5) (by decide) dX8_set_68 rfl ?_
            refine V_iload_n (i := 1) rfl rfl dX8_set_69 rfl ?_
            refine V_iadd dX8_set_70 rfl ?_
            refine V_iload_n (i := 2) rfl rfl dX8_set_71 rfl ?_
            refine V_iast9 (by assumption) hix dX8_set_72 rfl ?_
            refine V_iload_n (i := 3) rfl rfl dX8_set_73 rfl ?_
            exact V_ireturn rfl rfl dX8_set_74 rfl rfl rfl (⟨_, rfl, by unfold aSetR; rw [if_neg (fun h => h (bI_nz h_6)), if_neg (fun h => h hv)], rfl, Or.inl ⟨⟨bI_nz h_6, hv⟩, _, hr52, rfl⟩⟩)
          · refine V_bipush (v := (-2)) (by decide) dX8_set_48 rfl ?_
            exact V_ireturn rfl rfl dX8_set_50 rfl rfl rfl (by
                  have hv : ¬ aSeV x v := fun h => bI_z h_45 (by
                    obtain ⟨h1, h2⟩ := h
                    constructor
                    · first | (rw [if_pos h_14] at h1; exact h1) | (rw [if_neg h_14] at h1; exact h1)
                    · first | (rw [if_pos h_23] at h2; exact h2) | (rw [if_neg h_23] at h2; first | (rw [if_pos h_33] at h2; exact h2) | (rw [if_neg h_33] at h2; exact h2)))
                  exact ⟨_, rfl, by unfold aSetR; rw [if_neg (fun h => h (bI_nz h_6)), if_pos hv], rfl, Or.inr ⟨fun h => hv h.2, rfl⟩⟩)
        · refine V_bipush (v := 50) (by decide) dX8_set_36 rfl ?_
          refine V_goto (tgt := 42) dX8_set_38 (by decide) ?_
          refine V_callS (n := 3) (sp_in l g _ P v _ _) o_X8_in m_X8_35 ⟨by decide, by decide⟩ rfl rfl (by first | exact Nat.le_of_ble_eq_true rfl | simp [Value.category]) (Nat.le_refl _) (Nat.le_refl _) rfl dX8_set_42 rfl (kI ?_)
          refine V_if_ne (tgt := 51) dX8_set_45 (by decide) rfl (fun h_45 => ?_) (fun h_45 => ?_)
          · refine V_aload_n (i := 0) rfl rfl dX8_set_51 rfl ?_
            refine V_call (n := 0) (sp_record (I := wr I 689 s) l g hM hk5 hk) o_X8_record m_X8_110 ⟨by decide, by decide⟩ (by assumption) rfl rfl (by first | exact Nat.le_of_ble_eq_true rfl | simp [Value.category]) (Nat.le_refl _) (Nat.le_refl _) rfl dX8_set_52 rfl (kRec (fun I52 hr52 => ?_))
            rw [hr52.mem]
            obtain ⟨i, hi, ei⟩ := aSt3.nat (bI_nz h_6)
            have hci : x.toNatClampNeg = i := by rw [ei]; exact nI_clamp (by omega)
            have hix : fw_ix (5 + x) (5 + x.toNatClampNeg) 392 := by rw [hci, ei, show (5 : Int32) = nI 5 from rfl, nI_add]; exact fw_ix_nI (by omega) (by omega)
            have hv : aSeV x v := by
              have h9 := bI_nz h_45
              constructor
              · first | (rw [if_pos h_14]; exact h9.1) | (rw [if_neg h_14]; exact h9.1)
              · first | (rw [if_pos h_23]; exact h9.2) | (rw [if_neg h_23]; first | (rw [if_pos h_33]; exact h9.2) | (rw [if_neg h_33]; exact h9.2))
            refine V_aload_n (i := 0) rfl rfl dX8_set_55 rfl ?_
            refine V_getr (kf := 0) C8 (by decide) l_X8_7 (by assumption) rfl (by assumption) dX8_set_56 rfl ?_
            refine V_iconst (v := 5) (by decide) dX8_set_59 rfl ?_
            refine V_iload_n (i := 1) rfl rfl dX8_set_60 rfl ?_
            refine V_iadd dX8_set_61 rfl ?_
            refine V_iald9 (by assumption) hix dX8_set_62 rfl ?_
            refine V_istore_n (i := 3) rfl (by decide) rfl dX8_set_63 rfl ?_
            refine V_aload_n (i := 0) rfl rfl dX8_set_64 rfl ?_
            refine V_getr (kf := 0) C8 (by decide) l_X8_7 (by assumption) rfl (by assumption) dX8_set_65 rfl ?_
            refine V_iconst (v := 5) (by decide) dX8_set_68 rfl ?_
            refine V_iload_n (i := 1) rfl rfl dX8_set_69 rfl ?_
            refine V_iadd dX8_set_70 rfl ?_
            refine V_iload_n (i := 2) rfl rfl dX8_set_71 rfl ?_
            refine V_iast9 (by assumption) hix dX8_set_72 rfl ?_
            refine V_iload_n (i := 3) rfl rfl dX8_set_73 rfl ?_
            exact V_ireturn rfl rfl dX8_set_74 rfl rfl rfl (⟨_, rfl, by unfold aSetR; rw [if_neg (fun h => h (bI_nz h_6)), if_neg (fun h => h hv)], rfl, Or.inl ⟨⟨bI_nz h_6, hv⟩, _, hr52, rfl⟩⟩)
          · refine V_bipush (v := (-2)) (by decide) dX8_set_48 rfl ?_
            exact V_ireturn rfl rfl dX8_set_50 rfl rfl rfl (by
                  have hv : ¬ aSeV x v := fun h => bI_z h_45 (by
                    obtain ⟨h1, h2⟩ := h
                    constructor
                    · first | (rw [if_pos h_14] at h1; exact h1) | (rw [if_neg h_14] at h1; exact h1)
                    · first | (rw [if_pos h_23] at h2; exact h2) | (rw [if_neg h_23] at h2; first | (rw [if_pos h_33] at h2; exact h2) | (rw [if_neg h_33] at h2; exact h2)))
                  exact ⟨_, rfl, by unfold aSetR; rw [if_neg (fun h => h (bI_nz h_6)), if_pos hv], rfl, Or.inr ⟨fun h => hv h.2, rfl⟩⟩)
      · refine V_bipush (v := 9) (by decide) dX8_set_26 rfl ?_
        refine V_goto (tgt := 42) dX8_set_28 (by decide) ?_
        refine V_callS (n := 3) (sp_in l g _ P v _ _) o_X8_in m_X8_35 ⟨by decide, by decide⟩ rfl rfl (by first | exact Nat.le_of_ble_eq_true rfl | simp [Value.category]) (Nat.le_refl _) (Nat.le_refl _) rfl dX8_set_42 rfl (kI ?_)
        refine V_if_ne (tgt := 51) dX8_set_45 (by decide) rfl (fun h_45 => ?_) (fun h_45 => ?_)
        · refine V_aload_n (i := 0) rfl rfl dX8_set_51 rfl ?_
          refine V_call (n := 0) (sp_record (I := wr I 689 s) l g hM hk5 hk) o_X8_record m_X8_110 ⟨by decide, by decide⟩ (by assumption) rfl rfl (by first | exact Nat.le_of_ble_eq_true rfl | simp [Value.category]) (Nat.le_refl _) (Nat.le_refl _) rfl dX8_set_52 rfl (kRec (fun I52 hr52 => ?_))
          rw [hr52.mem]
          obtain ⟨i, hi, ei⟩ := aSt3.nat (bI_nz h_6)
          have hci : x.toNatClampNeg = i := by rw [ei]; exact nI_clamp (by omega)
          have hix : fw_ix (5 + x) (5 + x.toNatClampNeg) 392 := by rw [hci, ei, show (5 : Int32) = nI 5 from rfl, nI_add]; exact fw_ix_nI (by omega) (by omega)
          have hv : aSeV x v := by
            have h9 := bI_nz h_45
            constructor
            · first | (rw [if_pos h_14]; exact h9.1) | (rw [if_neg h_14]; exact h9.1)
            · first | (rw [if_pos h_23]; exact h9.2) | (rw [if_neg h_23]; first | (rw [if_pos h_33]; exact h9.2) | (rw [if_neg h_33]; exact h9.2))
          refine V_aload_n (i := 0) rfl rfl dX8_set_55 rfl ?_
          refine V_getr (kf := 0) C8 (by decide) l_X8_7 (by assumption) rfl (by assumption) dX8_set_56 rfl ?_
          refine V_iconst (v := 5) (by decide) dX8_set_59 rfl ?_
          refine V_iload_n (i := 1) rfl rfl dX8_set_60 rfl ?_
          refine V_iadd dX8_set_61 rfl ?_
          refine V_iald9 (by assumption) hix dX8_set_62 rfl ?_
          refine V_istore_n (i := 3) rfl (by decide) rfl dX8_set_63 rfl ?_
          refine V_aload_n (i := 0) rfl rfl dX8_set_64 rfl ?_
          refine V_getr (kf := 0) C8 (by decide) l_X8_7 (by assumption) rfl (by assumption) dX8_set_65 rfl ?_
          refine V_iconst (v := 5) (by decide) dX8_set_68 rfl ?_
          refine V_iload_n (i := 1) rfl rfl dX8_set_69 rfl ?_
          refine V_iadd dX8_set_70 rfl ?_
          refine V_iload_n (i := 2) rfl rfl dX8_set_71 rfl ?_
          refine V_iast9 (by assumption) hix dX8_set_72 rfl ?_
          refine V_iload_n (i := 3) rfl rfl dX8_set_73 rfl ?_
          exact V_ireturn rfl rfl dX8_set_74 rfl rfl rfl (⟨_, rfl, by unfold aSetR; rw [if_neg (fun h => h (bI_nz h_6)), if_neg (fun h => h hv)], rfl, Or.inl ⟨⟨bI_nz h_6, hv⟩, _, hr52, rfl⟩⟩)
        · refine V_bipush (v := (-2)) (by decide) dX8_set_48 rfl ?_
          exact V_ireturn rfl rfl dX8_set_50 rfl rfl rfl (by
                have hv : ¬ aSeV x v := fun h => bI_z h_45 (by
                  obtain ⟨h1, h2⟩ := h
                  constructor
                  · first | (rw [if_pos h_14] at h1; exact h1) | (rw [if_neg h_14] at h1; exact h1)
                  · first | (rw [if_pos h_23] at h2; exact h2) | (rw [if_neg h_23] at h2; first | (rw [if_pos h_33] at h2; exact h2) | (rw [if_neg h_33] at h2; exact h2)))
                exact ⟨_, rfl, by unfold aSetR; rw [if_neg (fun h => h (bI_nz h_6)), if_pos hv], rfl, Or.inr ⟨fun h => hv h.2, rfl⟩⟩)
  · refine V_iconst (v := (-1)) (by decide) dX8_set_9 rfl ?_
    exact V_ireturn rfl rfl dX8_set_10 rfl rfl rfl (⟨_, rfl, by unfold aSetR; rw [if_pos (bI_z h_6)], rfl, Or.inr ⟨fun h => bI_z h_6 h.1, rfl⟩⟩)

