variable {nT : Nat}
/-! the law's look at one player -/
theorem bit_t : ∀ h, h < 16 → ∀ p, p < 4 → Nat.testBit h p = true → ¬ nI h >>> (nI p &&& 31) &&& 1 = 0 := by decide +kernel
theorem bb4_0 : ∀ a b c : Bool, (bb4 true a b c >>> (nI 0 &&& 31)) &&& 1 = 1 ∧ (bb4 a true b c >>> (nI 1 &&& 31)) &&& 1 = 1 ∧ (bb4 a b true c >>> (nI 2 &&& 31)) &&& 1 = 1 ∧ (bb4 a b c true >>> (nI 3 &&& 31)) &&& 1 = 1 := by decide +kernel
theorem pi_bit {s : Nat → Int32} {p : Nat} (hp : p < 4) {q : Int32} (e : ro s p 0 = q) : (aPi s q >>> (nI p &&& 31)) &&& 1 = 1 := by
  rw [aPi_bb4]
  have h := bb4_0
  rcases (show p = 0 ∨ p = 1 ∨ p = 2 ∨ p = 3 by omega) with rfl | rfl | rfl | rfl <;> rw [decide_eq_true e]
  · exact (h _ _ _).1
  · exact (h _ _ _).2.1
  · exact (h _ _ _).2.2.1
  · exact (h _ _ _).2.2.2
theorem pop_pos {h p : Nat} (hp : p < 4) (hb : Nat.testBit h p = true) : 0 < pop4 h := by
  unfold pop4
  rcases (show p = 0 ∨ p = 1 ∨ p = 2 ∨ p = 3 by omega) with rfl | rfl | rfl | rfl <;> rw [if_pos hb] <;> omega
theorem pop_le (h : Nat) : pop4 h ≤ 4 := by
  unfold pop4
  split <;> split <;> split <;> split <;> omega
theorem dv_one : ∀ b, b < 61 → ¬ 0 < Op.cmpValue (FP.dcmp (FP.ddiv (FP.i2d (nI b)) 4633641066610819072) FP.dconst1) CmpOp.g := by decide +kernel
theorem six_lt {z : Nat} (h : 6 ≤ z) (h2 : z ≤ 40) : ¬ nI z < 6 := Int32.not_lt.mpr (nI_le (a := 6) h (by omega))
theorem lt_lit {z n : Nat} (h : n ≤ z) (h2 : z < 2 ^ 31) : ¬ nI z < nI n := Int32.not_lt.mpr (nI_le h h2)
/-- what the law asks of a bite -/
theorem jT_facts {s : Nat → Int32} {p k : Nat} (h : jT s p k) : ∃ z hh w, 6 ≤ z ∧ z ≤ 40 ∧ s (wi p k + 0) = nI z ∧ s (wi p k + 1) = nI (pop4 hh - 1) ∧ w < 4 ∧ s (wi p k + 2) = nI w ∧ Nat.testBit hh w = true ∧ hh < 16 ∧ s (wi p k + 3) = nI hh ∧ Nat.testBit hh p = true := h

set_option maxHeartbeats 4000000 in
set_option maxRecDepth 100000 in
theorem lp_isP {l : Launch} {g : fw_G} {I : fw_I} {P : fw_P} {s : Nat → Int32} {k : Nat} {h : Nat → Nat → Int32} {B : Nat} (hx : Wd I P s k h B) {p : Nat} (hp : p < 4) (v4 : Int32) {Q : Option Value → fw_I → fw_P → Prop} (hk : V l g kL_isPlayer (T0 nT) 0 0 (Q) (T0 nT) I P 0 0 162 [some (.ref (g.1 + 0)), some (.int (nI p)), some (.int (aHuF s p (aMany s p))), some (.int (ro s p 0 - aHu s p)), some (.int (v4)), some (.int (nI (aMany s p))), none, none] []) : ∀ (m j : Nat), j + m = aMany s p → V l g kL_isPlayer (T0 nT) 0 0 (Q) (T0 nT) I P 0 0 37 [some (.ref (g.1 + 0)), some (.int (nI p)), some (.int (aHuF s p j)), some (.int (ro s p 0 - aHu s p)), some (.int (v4)), some (.int (nI j)), none, none] [] := by
  have a0 := at_0 (nT := nT)
  have hm := hx.2.1.many hp
  intro m
  induction m with
  | zero =>
    intro j hj
    obtain rfl : j = aMany s p := by omega
    refine V_iload (i := 5) rfl dL_isPlayer_37 rfl ?_
    refine V_aload_n (i := 0) rfl rfl dL_isPlayer_39 rfl ?_
    refine V_iload_n (i := 1) rfl rfl dL_isPlayer_40 rfl ?_
    refine V_iconst (v := 2) (by decide) dL_isPlayer_41 rfl ?_
    refine V_call (n := 2) (q_pl2 hx hp) o_X7_player m_L_10 ⟨by decide, by decide⟩ (by assumption) rfl rfl (by first | exact Nat.le_of_ble_eq_true rfl | simp [Value.category]) (Nat.le_refl _) (Nat.le_refl _) rfl dL_isPlayer_42 rfl (kI ?_)
    rw [hm.1]
    refine V_icmp_ge (tgt := 162) dL_isPlayer_45 (by decide) rfl (fun _ => ?_) (fun h => absurd (nI_le (Nat.le_refl _) (by omega)) h)
    exact hk
  | succ m ih =>
    intro j hjm
    have hj : j < aMany s p := by omega
    obtain ⟨z, hh, w, z6, z40, e0, e1, hw, e2, bw, hh16, e3, bp⟩ := jT_facts (hx.2.2.2.2.2.1 p hp j hj)
    refine V_iload (i := 5) rfl dL_isPlayer_37 rfl ?_
    refine V_aload_n (i := 0) rfl rfl dL_isPlayer_39 rfl ?_
    refine V_iload_n (i := 1) rfl rfl dL_isPlayer_40 rfl ?_
    refine V_iconst (v := 2) (by decide) dL_isPlayer_41 rfl ?_
    refine V_call (n := 2) (q_pl2 hx hp) o_X7_player m_L_10 ⟨by decide, by decide⟩ (by assumption) rfl rfl (by first | exact Nat.le_of_ble_eq_true rfl | simp [Value.category]) (Nat.le_refl _) (Nat.le_refl _) rfl dL_isPlayer_42 rfl (kI ?_)
    rw [hm.1]
    refine V_icmp_ge (tgt := 162) dL_isPlayer_45 (by decide) rfl (fun h => absurd h (nI_ge hj (by omega))) (fun _ => ?_)
    refine V_aload_n (i := 0) rfl rfl dL_isPlayer_48 rfl ?_
    refine V_iload_n (i := 1) rfl rfl dL_isPlayer_49 rfl ?_
    refine V_iload (i := 5) rfl dL_isPlayer_50 rfl ?_
    refine V_iconst (v := 3) (by decide) dL_isPlayer_52 rfl ?_
    refine V_call (n := 3) (q_bt3 hx hp hj) o_X7_bite m_L_16 ⟨by decide, by decide⟩ (by assumption) rfl rfl (by first | exact Nat.le_of_ble_eq_true rfl | simp [Value.category]) (Nat.le_refl _) (Nat.le_refl _) rfl dL_isPlayer_53 rfl (kI ?_)
    rw [e3]
    refine V_istore (i := 6) (by decide) rfl dL_isPlayer_56 rfl ?_
    refine V_aload_n (i := 0) rfl rfl dL_isPlayer_58 rfl ?_
    refine V_iload_n (i := 1) rfl rfl dL_isPlayer_59 rfl ?_
    refine V_iload (i := 5) rfl dL_isPlayer_60 rfl ?_
    refine V_iconst (v := 2) (by decide) dL_isPlayer_62 rfl ?_
    refine V_call (n := 3) (q_bt2 hx hp hj) o_X7_bite m_L_16 ⟨by decide, by decide⟩ (by assumption) rfl rfl (by first | exact Nat.le_of_ble_eq_true rfl | simp [Value.category]) (Nat.le_refl _) (Nat.le_refl _) rfl dL_isPlayer_63 rfl (kI ?_)
    rw [e2]
    refine V_istore (i := 7) (by decide) rfl dL_isPlayer_66 rfl ?_
    refine V_iload_n (i := 2) rfl rfl dL_isPlayer_68 rfl ?_
    refine V_aload_n (i := 0) rfl rfl dL_isPlayer_69 rfl ?_
    refine V_iload_n (i := 1) rfl rfl dL_isPlayer_70 rfl ?_
    refine V_iload (i := 5) rfl dL_isPlayer_71 rfl ?_
    refine V_iconst (v := 0) (by decide) dL_isPlayer_73 rfl ?_
    refine V_call (n := 3) (q_bt0 hx hp hj) o_X7_bite m_L_16 ⟨by decide, by decide⟩ (by assumption) rfl rfl (by first | exact Nat.le_of_ble_eq_true rfl | simp [Value.category]) (Nat.le_refl _) (Nat.le_refl _) rfl dL_isPlayer_74 rfl (kI ?_)
    refine V_iadd dL_isPlayer_77 rfl ?_
    rw [show aHuF s p j + s (wi p j + 0) = aHuF s p (j + 1) from rfl]
    refine V_istore_n (i := 2) rfl (by decide) rfl dL_isPlayer_78 rfl ?_
    refine V_aload_n (i := 0) rfl rfl dL_isPlayer_79 rfl ?_
    refine V_iload_n (i := 1) rfl rfl dL_isPlayer_80 rfl ?_
    refine V_iload (i := 5) rfl dL_isPlayer_81 rfl ?_
    refine V_iconst (v := 0) (by decide) dL_isPlayer_83 rfl ?_
    refine V_call (n := 3) (q_bt0 hx hp hj) o_X7_bite m_L_16 ⟨by decide, by decide⟩ (by assumption) rfl rfl (by first | exact Nat.le_of_ble_eq_true rfl | simp [Value.category]) (Nat.le_refl _) (Nat.le_refl _) rfl dL_isPlayer_84 rfl (kI ?_)
    rw [e0]
    refine V_bipush (v := 6) (by decide) dL_isPlayer_87 rfl ?_
    refine V_icmp_lt (tgt := 154) dL_isPlayer_89 (by decide) rfl (fun h => absurd h (six_lt z6 z40)) (fun _ => ?_)
    refine V_aload_n (i := 0) rfl rfl dL_isPlayer_92 rfl ?_
    refine V_iload_n (i := 1) rfl rfl dL_isPlayer_93 rfl ?_
    refine V_iload (i := 5) rfl dL_isPlayer_94 rfl ?_
    refine V_iconst (v := 0) (by decide) dL_isPlayer_96 rfl ?_
    refine V_call (n := 3) (q_bt0 hx hp hj) o_X7_bite m_L_16 ⟨by decide, by decide⟩ (by assumption) rfl rfl (by first | exact Nat.le_of_ble_eq_true rfl | simp [Value.category]) (Nat.le_refl _) (Nat.le_refl _) rfl dL_isPlayer_97 rfl (kI ?_)
    rw [e0]
    refine V_bipush (v := 40) (by decide) dL_isPlayer_100 rfl ?_
    refine V_icmp_gt (tgt := 154) dL_isPlayer_102 (by decide) rfl (fun h => absurd h (Int32.not_lt.mpr (nI_le (b := 40) z40 (by decide)))) (fun _ => ?_)
    refine V_aload_n (i := 0) rfl rfl dL_isPlayer_105 rfl ?_
    refine V_iload_n (i := 1) rfl rfl dL_isPlayer_106 rfl ?_
    refine V_iload (i := 5) rfl dL_isPlayer_107 rfl ?_
    refine V_iconst (v := 1) (by decide) dL_isPlayer_109 rfl ?_
    refine V_call (n := 3) (q_bt1 hx hp hj) o_X7_bite m_L_16 ⟨by decide, by decide⟩ (by assumption) rfl rfl (by first | exact Nat.le_of_ble_eq_true rfl | simp [Value.category]) (Nat.le_refl _) (Nat.le_refl _) rfl dL_isPlayer_110 rfl (kI ?_)
    rw [e1]
    refine V_iload (i := 6) rfl dL_isPlayer_113 rfl ?_
    refine V_callS (n := 1) (sp_ones l g hh16) o_L_ones m_L_20 ⟨by decide, by decide⟩ rfl rfl (by first | exact Nat.le_of_ble_eq_true rfl | simp [Value.category]) (Nat.le_refl _) (Nat.le_refl _) rfl dL_isPlayer_115 rfl (kI ?_)
    refine V_iconst (v := 1) (by decide) dL_isPlayer_118 rfl ?_
    refine V_isub dL_isPlayer_119 rfl ?_
    rw [nI_m (pop_pos hp bp)]
    refine V_icmp_ne (tgt := 154) dL_isPlayer_120 (by decide) rfl (fun h => absurd rfl h) (fun _ => ?_)
    refine V_aload_n (i := 0) rfl rfl dL_isPlayer_123 rfl ?_
    refine V_iload_n (i := 1) rfl rfl dL_isPlayer_124 rfl ?_
    refine V_iload (i := 5) rfl dL_isPlayer_125 rfl ?_
    refine V_iconst (v := 1) (by decide) dL_isPlayer_127 rfl ?_
    refine V_call (n := 3) (q_bt1 hx hp hj) o_X7_bite m_L_16 ⟨by decide, by decide⟩ (by assumption) rfl rfl (by first | exact Nat.le_of_ble_eq_true rfl | simp [Value.category]) (Nat.le_refl _) (Nat.le_refl _) rfl dL_isPlayer_128 rfl (kI ?_)
    rw [e1]
    refine V_iconst (v := 3) (by decide) dL_isPlayer_131 rfl ?_
    refine V_icmp_gt (tgt := 154) dL_isPlayer_132 (by decide) rfl (fun h => absurd h (Int32.not_lt.mpr (nI_le (b := 3) (by have := pop_le hh; omega) (by decide)))) (fun _ => ?_)
    refine V_iload (i := 6) rfl dL_isPlayer_135 rfl ?_
    refine V_iload_n (i := 1) rfl rfl dL_isPlayer_137 rfl ?_
    refine V_ishr dL_isPlayer_138 rfl ?_
    refine V_iconst (v := 1) (by decide) dL_isPlayer_139 rfl ?_
    refine V_iand dL_isPlayer_140 rfl ?_
    refine V_if_eq (tgt := 154) dL_isPlayer_141 (by decide) rfl (fun h => absurd h (bit_t hh hh16 p hp bp)) (fun _ => ?_)
    refine V_iload (i := 6) rfl dL_isPlayer_144 rfl ?_
    refine V_iload (i := 7) rfl dL_isPlayer_146 rfl ?_
    refine V_ishr dL_isPlayer_148 rfl ?_
    refine V_iconst (v := 1) (by decide) dL_isPlayer_149 rfl ?_
    refine V_iand dL_isPlayer_150 rfl ?_
    refine V_if_ne (tgt := 156) dL_isPlayer_151 (by decide) rfl (fun _ => ?_) (fun h => absurd h (bit_t hh hh16 w hw bw))
    refine V_iinc1 (i := 5) rfl (by decide) rfl dL_isPlayer_156 rfl ?_
    refine V_goto (tgt := 37) dL_isPlayer_159 (by decide) ?_
    refine V_forget 6 rfl ?_
    refine V_forget 7 rfl ?_
    rw [nI_1]
    exact ih (j + 1) (by omega)

theorem four4 {n : Nat} (h : n ≤ 4) : (4 : Int32) - (4 - nI n) = nI n := by
  rcases (show n = 0 ∨ n = 1 ∨ n = 2 ∨ n = 3 ∨ n = 4 by omega) with rfl | rfl | rfl | rfl | rfl <;> decide
set_option maxHeartbeats 4000000 in
set_option maxRecDepth 100000 in
theorem lc_isPH {l : Launch} {g : fw_G} {I : fw_I} {P : fw_P} {s : Nat → Int32} {k : Nat} {h : Nat → Nat → Int32} {B : Nat} (hx : Wd I P s k h B) {p : Nat} (hp : p < 4) (h2 : ¬ ro s p 2 = 0) : V l g kL_isPlayer (T0 nT) 0 0 (qJ (fun r I1 P1 => r = 1 ∧ Sx I1 P1 s k h)) (T0 nT) I P 0 0 162 [some (.ref (g.1 + 0)), some (.int (nI p)), some (.int (aHu s p)), some (.int (ro s p 0 - aHu s p)), some (.int (1)), some (.int (nI (aMany s p))), none, none] [] := by
  have a0 := at_0 (nT := nT)
  obtain ⟨q, n, hq, eq, hn, en, h2q, hn0⟩ := hx.2.1.2.2.1 p hp
  obtain ⟨b, hbl, ebb⟩ := hx.2.1.beg hp
  have dv1 : Op.cmpValue (FP.dcmp (FP.ddiv (FP.i2d (aBeg s p)) 4633641066610819072) (FP.ddiv (FP.i2d (aBeg s p)) 4633641066610819072)) CmpOp.l = 0 := by rw [ebb]; exact (dv_ok b (by omega)).2
  have dv2 : ¬ 0 < Op.cmpValue (FP.dcmp (FP.ddiv (FP.i2d (aBeg s p)) 4633641066610819072) FP.dconst1) CmpOp.g := by rw [ebb]; exact dv_one b (by omega)
  have hcb := hx.2.2.2.1.bd p hp
  have cc1 : (ro s p 1 + 1000).toInt = (ro s p 1).toInt + 1000 := by
    have := (toInt_small (x := ro s p 1) (y := 1000) (by omega) (by omega)).2
    exact this
  have hr : ∀ σ, fewR s (nI p) 0 σ = 0 ∧ fewR s (nI p) 1 σ = 0 := few_home hp h2
  have hq60 : q = 60 := Decidable.not_not.mp (fun z => h2 (h2q.mpr z))
  have eq60 : ro s p 0 = 60 := by rw [eq, hq60]; rfl
  have en0 : ro s p 5 = 0 := by rw [en, hn0 hq60]; rfl
  obtain ⟨pl, pl1, -⟩ := hx.2.2.2.2.2.2
  obtain ⟨ev, pv2⟩ := pl1 p hp
  have hl := home_le s
  have eh : s 4 = nI (home s) := hx.2.1.2.2.2.2.2.2.2.1
  have pv1 : 1 ≤ pl p := Nat.pos_of_ne_zero (fun z => h2 (by rw [ev, z]; rfl))
  have K190 : V l g kL_isPlayer (T0 nT) 0 0 (qJ (fun r I1 P1 => r = 1 ∧ Sx I1 P1 s k h)) (T0 nT) I P 0 0 190 [some (.ref (g.1 + 0)), some (.int (nI p)), some (.int (aHu s p)), some (.int (ro s p 0 - aHu s p)), some (.int (1)), some (.int (nI (aMany s p))), none, none] [] := by
    refine V_aload_n (i := 0) rfl rfl dL_isPlayer_190 rfl ?_
    refine V_iload_n (i := 1) rfl rfl dL_isPlayer_191 rfl ?_
    refine V_iconst (v := 1) (by decide) dL_isPlayer_192 rfl ?_
    refine V_call (n := 2) (q_pl1 hx hp) o_X7_player m_L_10 ⟨by decide, by decide⟩ (by assumption) rfl rfl (by first | exact Nat.le_of_ble_eq_true rfl | simp [Value.category]) (Nat.le_refl _) (Nat.le_refl _) rfl dL_isPlayer_193 rfl (kI ?_)
    refine V_sipush (v := 950) (by decide) dL_isPlayer_196 rfl ?_
    refine V_icmp_lt (tgt := 275) dL_isPlayer_199 (by decide) rfl (fun h => absurd h (by rw [i32_lt, cc1]; simp; omega)) (fun _ => ?_)
    refine V_aload_n (i := 0) rfl rfl dL_isPlayer_202 rfl ?_
    refine V_iload_n (i := 1) rfl rfl dL_isPlayer_203 rfl ?_
    refine V_iconst (v := 0) (by decide) dL_isPlayer_204 rfl ?_
    refine V_call (n := 2) (q_pl0 hx hp) o_X7_player m_L_10 ⟨by decide, by decide⟩ (by assumption) rfl rfl (by first | exact Nat.le_of_ble_eq_true rfl | simp [Value.category]) (Nat.le_refl _) (Nat.le_refl _) rfl dL_isPlayer_205 rfl (kI ?_)
    rw [eq]
    refine V_bipush (v := 60) (by decide) dL_isPlayer_208 rfl ?_
    refine V_icmp_gt (tgt := 275) dL_isPlayer_210 (by decide) rfl (fun h => absurd h (Int32.not_lt.mpr (nI_le (b := 60) hq (by decide)))) (fun _ => ?_)
    refine V_aload_n (i := 0) rfl rfl dL_isPlayer_213 rfl ?_
    refine V_iload_n (i := 1) rfl rfl dL_isPlayer_214 rfl ?_
    refine V_iconst (v := 0) (by decide) dL_isPlayer_215 rfl ?_
    refine V_call (n := 2) (q_pl0 hx hp) o_X7_player m_L_10 ⟨by decide, by decide⟩ (by assumption) rfl rfl (by first | exact Nat.le_of_ble_eq_true rfl | simp [Value.category]) (Nat.le_refl _) (Nat.le_refl _) rfl dL_isPlayer_216 rfl (kI ?_)
    rw [eq]
    refine V_if_lt (tgt := 275) dL_isPlayer_219 (by decide) rfl (fun h => absurd h (nI_pos (by omega))) (fun _ => ?_)
    refine V_aload_n (i := 0) rfl rfl dL_isPlayer_222 rfl ?_
    refine V_aload_n (i := 0) rfl rfl dL_isPlayer_223 rfl ?_
    refine V_iload_n (i := 1) rfl rfl dL_isPlayer_224 rfl ?_
    refine V_iconst (v := 0) (by decide) dL_isPlayer_225 rfl ?_
    refine V_call (n := 2) (q_pl0 hx hp) o_X7_player m_L_10 ⟨by decide, by decide⟩ (by assumption) rfl rfl (by first | exact Nat.le_of_ble_eq_true rfl | simp [Value.category]) (Nat.le_refl _) (Nat.le_refl _) rfl dL_isPlayer_226 rfl (kI ?_)
    rw [eq]
    refine V_iconst (v := 0) (by decide) dL_isPlayer_229 rfl ?_
    refine V_call (n := 2) (q_sq0 hx hq) o_X7_square m_L_26 ⟨by decide, by decide⟩ (by assumption) rfl rfl (by first | exact Nat.le_of_ble_eq_true rfl | simp [Value.category]) (Nat.le_refl _) (Nat.le_refl _) rfl dL_isPlayer_230 rfl (kI ?_)
    refine V_iload_n (i := 1) rfl rfl dL_isPlayer_233 rfl ?_
    refine V_ishr dL_isPlayer_234 rfl ?_
    refine V_iconst (v := 1) (by decide) dL_isPlayer_235 rfl ?_
    refine V_iand dL_isPlayer_236 rfl ?_
    refine V_iconst (v := 1) (by decide) dL_isPlayer_237 rfl ?_
    refine V_icmp_ne (tgt := 275) dL_isPlayer_238 (by decide) rfl (fun h => absurd (pi_bit hp eq) h) (fun _ => ?_)
    refine V_aload_n (i := 0) rfl rfl dL_isPlayer_241 rfl ?_
    refine V_iload_n (i := 1) rfl rfl dL_isPlayer_242 rfl ?_
    refine V_call (n := 1) (q_pr hx hp) o_X7_progress m_L_29 ⟨by decide, by decide⟩ (by assumption) rfl rfl (by first | exact Nat.le_of_ble_eq_true rfl | simp [Value.category]) (Nat.le_refl _) (Nat.le_refl _) rfl dL_isPlayer_243 rfl (kD ?_)
    refine V_aload_n (i := 0) rfl rfl dL_isPlayer_246 rfl ?_
    refine V_iload_n (i := 1) rfl rfl dL_isPlayer_247 rfl ?_
    refine V_iconst (v := 4) (by decide) dL_isPlayer_248 rfl ?_
    refine V_call (n := 2) (q_pl4 hx hp) o_X7_player m_L_10 ⟨by decide, by decide⟩ (by assumption) rfl rfl (by first | exact Nat.le_of_ble_eq_true rfl | simp [Value.category]) (Nat.le_refl _) (Nat.le_refl _) rfl dL_isPlayer_249 rfl (kI ?_)
    refine V_i2d dL_isPlayer_252 rfl ?_
    refine V_ldc2d cstd_L_33 dL_isPlayer_253 rfl ?_
    refine V_ddiv (pr_n hx.2.1 hp) dL_isPlayer_256 rfl ?_
    refine V_dcmp dL_isPlayer_257 rfl ?_
    refine V_if_ne (tgt := 275) dL_isPlayer_258 (by decide) rfl (fun h => absurd dv1 h) (fun _ => ?_)
    refine V_aload_n (i := 0) rfl rfl dL_isPlayer_261 rfl ?_
    refine V_iload_n (i := 1) rfl rfl dL_isPlayer_262 rfl ?_
    refine V_call (n := 1) (q_pr hx hp) o_X7_progress m_L_29 ⟨by decide, by decide⟩ (by assumption) rfl rfl (by first | exact Nat.le_of_ble_eq_true rfl | simp [Value.category]) (Nat.le_refl _) (Nat.le_refl _) rfl dL_isPlayer_263 rfl (kD ?_)
    refine V_dconst1 dL_isPlayer_266 rfl ?_
    refine V_dcmp dL_isPlayer_267 rfl ?_
    refine V_if_gt (tgt := 275) dL_isPlayer_268 (by decide) rfl (fun h => absurd h dv2) (fun _ => ?_)
    refine V_iconst (v := 1) (by decide) dL_isPlayer_271 rfl ?_
    refine V_goto (tgt := 276) dL_isPlayer_272 (by decide) ?_
    refine V_istore (i := 5) (by decide) rfl dL_isPlayer_276 rfl ?_
    refine V_aload_n (i := 0) rfl rfl dL_isPlayer_278 rfl ?_
    refine V_iload_n (i := 1) rfl rfl dL_isPlayer_279 rfl ?_
    refine V_iconst (v := 0) (by decide) dL_isPlayer_280 rfl ?_
    refine V_call (n := 2) (q_fw0 hx hr) o_X7_fewest m_L_35 ⟨by decide, by decide⟩ (by assumption) rfl rfl (by first | exact Nat.le_of_ble_eq_true rfl | simp [Value.category]) (Nat.le_refl _) (Nat.le_refl _) rfl dL_isPlayer_281 rfl (kJ ?_)
    rintro _ I1 P1 ⟨rfl, hx1'⟩
    have hx1 := hx.to hx1'
    refine V_istore (i := 6) (by decide) rfl dL_isPlayer_284 rfl ?_
    refine V_iload (i := 5) rfl dL_isPlayer_286 rfl ?_
    refine V_if_eq (tgt := 434) dL_isPlayer_288 (by decide) rfl (fun h => absurd h (by decide)) (fun _ => ?_)
    refine V_iload (i := 6) rfl dL_isPlayer_291 rfl ?_
    refine V_aload_n (i := 0) rfl rfl dL_isPlayer_293 rfl ?_
    refine V_iload_n (i := 1) rfl rfl dL_isPlayer_294 rfl ?_
    refine V_iconst (v := 1) (by decide) dL_isPlayer_295 rfl ?_
    refine V_call (n := 2) (q_fw1 hx1 hr) o_X7_fewest m_L_35 ⟨by decide, by decide⟩ (by assumption) rfl rfl (by first | exact Nat.le_of_ble_eq_true rfl | simp [Value.category]) (Nat.le_refl _) (Nat.le_refl _) rfl dL_isPlayer_296 rfl (kJ ?_)
    rintro _ I2 P2 ⟨rfl, hx2'⟩
    have hx2 := hx.to hx2'
    refine V_icmp_ne (tgt := 434) dL_isPlayer_299 (by decide) rfl (fun h => absurd rfl h) (fun _ => ?_)
    refine V_iload (i := 6) rfl dL_isPlayer_302 rfl ?_
    refine V_if_ne (tgt := 311) dL_isPlayer_304 (by decide) rfl (fun h => absurd rfl h) (fun _ => ?_)
    refine V_iconst (v := 1) (by decide) dL_isPlayer_307 rfl ?_
    refine V_goto (tgt := 312) dL_isPlayer_308 (by decide) ?_
    refine V_iload (i := 4) rfl dL_isPlayer_312 rfl ?_
    refine V_icmp_ne (tgt := 434) dL_isPlayer_314 (by decide) rfl (fun h => absurd rfl h) (fun _ => ?_)
    refine V_iload (i := 4) rfl dL_isPlayer_317 rfl ?_
    refine V_if_eq (tgt := 381) dL_isPlayer_319 (by decide) rfl (fun h => absurd h (by decide)) (fun _ => ?_)
    refine V_aload_n (i := 0) rfl rfl dL_isPlayer_322 rfl ?_
    refine V_iload_n (i := 1) rfl rfl dL_isPlayer_323 rfl ?_
    refine V_iconst (v := 0) (by decide) dL_isPlayer_324 rfl ?_
    refine V_call (n := 2) (q_pl0 hx2 hp) o_X7_player m_L_10 ⟨by decide, by decide⟩ (by assumption) rfl rfl (by first | exact Nat.le_of_ble_eq_true rfl | simp [Value.category]) (Nat.le_refl _) (Nat.le_refl _) rfl dL_isPlayer_325 rfl (kI ?_)
    rw [eq60]
    refine V_bipush (v := 60) (by decide) dL_isPlayer_328 rfl ?_
    refine V_icmp_ne (tgt := 434) dL_isPlayer_330 (by decide) rfl (fun h => absurd rfl h) (fun _ => ?_)
    refine V_aload_n (i := 0) rfl rfl dL_isPlayer_333 rfl ?_
    refine V_iload_n (i := 1) rfl rfl dL_isPlayer_334 rfl ?_
    refine V_iconst (v := 2) (by decide) dL_isPlayer_335 rfl ?_
    refine V_call (n := 2) (q_pl2 hx2 hp) o_X7_player m_L_10 ⟨by decide, by decide⟩ (by assumption) rfl rfl (by first | exact Nat.le_of_ble_eq_true rfl | simp [Value.category]) (Nat.le_refl _) (Nat.le_refl _) rfl dL_isPlayer_336 rfl (kI ?_)
    rw [en0]
    refine V_if_ne (tgt := 434) dL_isPlayer_339 (by decide) rfl (fun h => absurd rfl h) (fun _ => ?_)
    refine V_aload_n (i := 0) rfl rfl dL_isPlayer_342 rfl ?_
    refine V_iload_n (i := 1) rfl rfl dL_isPlayer_343 rfl ?_
    refine V_iconst (v := 5) (by decide) dL_isPlayer_344 rfl ?_
    refine V_call (n := 2) (q_pl5 hx2 hp) o_X7_player m_L_10 ⟨by decide, by decide⟩ (by assumption) rfl rfl (by first | exact Nat.le_of_ble_eq_true rfl | simp [Value.category]) (Nat.le_refl _) (Nat.le_refl _) rfl dL_isPlayer_345 rfl (kI ?_)
    rw [if_neg h2, ev]
    refine V_iconst (v := 1) (by decide) dL_isPlayer_348 rfl ?_
    refine V_icmp_lt (tgt := 434) dL_isPlayer_349 (by decide) rfl (fun h => absurd h (lt_lit (n := 1) pv1 (by omega))) (fun _ => ?_)
    refine V_aload_n (i := 0) rfl rfl dL_isPlayer_352 rfl ?_
    refine V_iload_n (i := 1) rfl rfl dL_isPlayer_353 rfl ?_
    refine V_iconst (v := 5) (by decide) dL_isPlayer_354 rfl ?_
    refine V_call (n := 2) (q_pl5 hx2 hp) o_X7_player m_L_10 ⟨by decide, by decide⟩ (by assumption) rfl rfl (by first | exact Nat.le_of_ble_eq_true rfl | simp [Value.category]) (Nat.le_refl _) (Nat.le_refl _) rfl dL_isPlayer_355 rfl (kI ?_)
    rw [if_neg h2, ev]
    refine V_iconst (v := 4) (by decide) dL_isPlayer_358 rfl ?_
    refine V_aload_n (i := 0) rfl rfl dL_isPlayer_359 rfl ?_
    refine V_iconst (v := 2) (by decide) dL_isPlayer_360 rfl ?_
    refine V_call (n := 1) (q_ct2 hx2) o_X7_count m_L_38 ⟨by decide, by decide⟩ (by assumption) rfl rfl (by first | exact Nat.le_of_ble_eq_true rfl | simp [Value.category]) (Nat.le_refl _) (Nat.le_refl _) rfl dL_isPlayer_361 rfl (kI ?_)
    rw [eh]
    refine V_isub dL_isPlayer_364 rfl ?_
    rw [four4 hl]
    refine V_icmp_gt (tgt := 434) dL_isPlayer_365 (by decide) rfl (fun h => absurd h (Int32.not_lt.mpr (nI_le pv2 (by omega)))) (fun _ => ?_)
    refine V_aload_n (i := 0) rfl rfl dL_isPlayer_368 rfl ?_
    refine V_iload_n (i := 1) rfl rfl dL_isPlayer_369 rfl ?_
    refine V_call (n := 1) (q_dan hx2 hp h2) o_X7_dangers m_L_41 ⟨by decide, by decide⟩ (by assumption) rfl rfl (by first | exact Nat.le_of_ble_eq_true rfl | simp [Value.category]) (Nat.le_refl _) (Nat.le_refl _) rfl dL_isPlayer_370 rfl (kI ?_)
    refine V_bipush (v := (-4)) (by decide) dL_isPlayer_373 rfl ?_
    refine V_icmp_ne (tgt := 434) dL_isPlayer_375 (by decide) rfl (fun h => absurd rfl h) (fun _ => ?_)
    refine V_goto (tgt := 400) dL_isPlayer_378 (by decide) ?_
    refine V_iload (i := 4) rfl dL_isPlayer_400 rfl ?_
    refine V_if_ne (tgt := 430) dL_isPlayer_402 (by decide) rfl (fun _ => ?_) (fun h => absurd h (by decide))
    refine V_iconst (v := 1) (by decide) dL_isPlayer_430 rfl ?_
    refine V_goto (tgt := 435) dL_isPlayer_431 (by decide) ?_
    exact V_ireturn rfl (by decide) dL_isPlayer_435 rfl rfl rfl (⟨_, rfl, rfl, hx2'⟩)
  by_cases hb : 0 ≤ ro s p 0 - aHu s p
  · refine V_aload_n (i := 0) rfl rfl dL_isPlayer_162 rfl ?_
    refine V_iload_n (i := 1) rfl rfl dL_isPlayer_163 rfl ?_
    refine V_iconst (v := 3) (by decide) dL_isPlayer_164 rfl ?_
    refine V_call (n := 2) (q_pl3 hx hp) o_X7_player m_L_10 ⟨by decide, by decide⟩ (by assumption) rfl rfl (by first | exact Nat.le_of_ble_eq_true rfl | simp [Value.category]) (Nat.le_refl _) (Nat.le_refl _) rfl dL_isPlayer_165 rfl (kI ?_)
    refine V_iload_n (i := 2) rfl rfl dL_isPlayer_168 rfl ?_
    refine V_icmp_ne (tgt := 275) dL_isPlayer_169 (by decide) rfl (fun h => absurd rfl h) (fun _ => ?_)
    refine V_aload_n (i := 0) rfl rfl dL_isPlayer_172 rfl ?_
    refine V_iload_n (i := 1) rfl rfl dL_isPlayer_173 rfl ?_
    refine V_iconst (v := 4) (by decide) dL_isPlayer_174 rfl ?_
    refine V_call (n := 2) (q_pl4 hx hp) o_X7_player m_L_10 ⟨by decide, by decide⟩ (by assumption) rfl rfl (by first | exact Nat.le_of_ble_eq_true rfl | simp [Value.category]) (Nat.le_refl _) (Nat.le_refl _) rfl dL_isPlayer_175 rfl (kI ?_)
    refine V_iload_n (i := 3) rfl rfl dL_isPlayer_178 rfl ?_
    refine V_if_ge (tgt := 186) dL_isPlayer_179 (by decide) rfl (fun _ => ?_) (fun h => absurd hb h)
    refine V_iload_n (i := 3) rfl rfl dL_isPlayer_186 rfl ?_
    refine V_icmp_ne (tgt := 275) dL_isPlayer_187 (by decide) rfl (fun h => absurd (if_pos hb) h) (fun _ => ?_)
    exact K190
  · refine V_aload_n (i := 0) rfl rfl dL_isPlayer_162 rfl ?_
    refine V_iload_n (i := 1) rfl rfl dL_isPlayer_163 rfl ?_
    refine V_iconst (v := 3) (by decide) dL_isPlayer_164 rfl ?_
    refine V_call (n := 2) (q_pl3 hx hp) o_X7_player m_L_10 ⟨by decide, by decide⟩ (by assumption) rfl rfl (by first | exact Nat.le_of_ble_eq_true rfl | simp [Value.category]) (Nat.le_refl _) (Nat.le_refl _) rfl dL_isPlayer_165 rfl (kI ?_)
    refine V_iload_n (i := 2) rfl rfl dL_isPlayer_168 rfl ?_
    refine V_icmp_ne (tgt := 275) dL_isPlayer_169 (by decide) rfl (fun h => absurd rfl h) (fun _ => ?_)
    refine V_aload_n (i := 0) rfl rfl dL_isPlayer_172 rfl ?_
    refine V_iload_n (i := 1) rfl rfl dL_isPlayer_173 rfl ?_
    refine V_iconst (v := 4) (by decide) dL_isPlayer_174 rfl ?_
    refine V_call (n := 2) (q_pl4 hx hp) o_X7_player m_L_10 ⟨by decide, by decide⟩ (by assumption) rfl rfl (by first | exact Nat.le_of_ble_eq_true rfl | simp [Value.category]) (Nat.le_refl _) (Nat.le_refl _) rfl dL_isPlayer_175 rfl (kI ?_)
    refine V_iload_n (i := 3) rfl rfl dL_isPlayer_178 rfl ?_
    refine V_if_ge (tgt := 186) dL_isPlayer_179 (by decide) rfl (fun h => absurd h hb) (fun _ => ?_)
    refine V_iconst (v := 0) (by decide) dL_isPlayer_182 rfl ?_
    refine V_goto (tgt := 187) dL_isPlayer_183 (by decide) ?_
    refine V_icmp_ne (tgt := 275) dL_isPlayer_187 (by decide) rfl (fun h => absurd (if_neg hb) h) (fun _ => ?_)
    exact K190

def b6 (a b c d e f : Bool) : Int32 := ((((((0 : Int32) ||| (if a then 1 <<< (nI 1 &&& 31) else 0)) ||| (if b then 1 <<< (nI 2 &&& 31) else 0)) ||| (if c then 1 <<< (nI 3 &&& 31) else 0)) ||| (if d then 1 <<< (nI 4 &&& 31) else 0)) ||| (if e then 1 <<< (nI 5 &&& 31) else 0)) ||| (if f then 1 <<< (nI 6 &&& 31) else 0)
theorem da_b6 (s : Nat → Int32) (p : Nat) : aDaF s p 6 = b6 (decide (aBites s p (aGo (aBeg s p) (nI 1)))) (decide (aBites s p (aGo (aBeg s p) (nI 2)))) (decide (aBites s p (aGo (aBeg s p) (nI 3)))) (decide (aBites s p (aGo (aBeg s p) (nI 4)))) (decide (aBites s p (aGo (aBeg s p) (nI 5)))) (decide (aBites s p (aGo (aBeg s p) (nI 6)))) := by
  unfold b6
  simp only [decide_eq_true_eq]
  rfl
theorem b6_n : ∀ a b c d e f : Bool, ¬ b6 a b c d e f < 0 := by decide +kernel
set_option maxHeartbeats 4000000 in
set_option maxRecDepth 100000 in
theorem lc_isPR {l : Launch} {g : fw_G} {I : fw_I} {P : fw_P} {s : Nat → Int32} {k : Nat} {h : Nat → Nat → Int32} {B : Nat} (hx : Wd I P s k h B) {p : Nat} (hp : p < 4) (h2 : ro s p 2 = 0) : V l g kL_isPlayer (T0 nT) 0 0 (qJ (fun r I1 P1 => r = 1 ∧ Sx I1 P1 s k h)) (T0 nT) I P 0 0 162 [some (.ref (g.1 + 0)), some (.int (nI p)), some (.int (aHu s p)), some (.int (ro s p 0 - aHu s p)), some (.int (0)), some (.int (nI (aMany s p))), none, none] [] := by
  have a0 := at_0 (nT := nT)
  obtain ⟨q, n, hq, eq, hn, en, h2q, hn0⟩ := hx.2.1.2.2.1 p hp
  obtain ⟨b, hbl, ebb⟩ := hx.2.1.beg hp
  have dv1 : Op.cmpValue (FP.dcmp (FP.ddiv (FP.i2d (aBeg s p)) 4633641066610819072) (FP.ddiv (FP.i2d (aBeg s p)) 4633641066610819072)) CmpOp.l = 0 := by rw [ebb]; exact (dv_ok b (by omega)).2
  have dv2 : ¬ 0 < Op.cmpValue (FP.dcmp (FP.ddiv (FP.i2d (aBeg s p)) 4633641066610819072) FP.dconst1) CmpOp.g := by rw [ebb]; exact dv_one b (by omega)
  have hcb := hx.2.2.2.1.bd p hp
  have cc1 : (ro s p 1 + 1000).toInt = (ro s p 1).toInt + 1000 := by
    have := (toInt_small (x := ro s p 1) (y := 1000) (by omega) (by omega)).2
    exact this
  obtain ⟨r, r0, re, hr⟩ := few_fix hx.2.1 hp h2
  have hq60 : ¬ q = 60 := h2q.mp h2
  have dn : ¬ aDaF s p 6 < 0 := by rw [da_b6]; exact b6_n _ _ _ _ _ _
  have K190 : V l g kL_isPlayer (T0 nT) 0 0 (qJ (fun r I1 P1 => r = 1 ∧ Sx I1 P1 s k h)) (T0 nT) I P 0 0 190 [some (.ref (g.1 + 0)), some (.int (nI p)), some (.int (aHu s p)), some (.int (ro s p 0 - aHu s p)), some (.int (0)), some (.int (nI (aMany s p))), none, none] [] := by
    refine V_aload_n (i := 0) rfl rfl dL_isPlayer_190 rfl ?_
    refine V_iload_n (i := 1) rfl rfl dL_isPlayer_191 rfl ?_
    refine V_iconst (v := 1) (by decide) dL_isPlayer_192 rfl ?_
    refine V_call (n := 2) (q_pl1 hx hp) o_X7_player m_L_10 ⟨by decide, by decide⟩ (by assumption) rfl rfl (by first | exact Nat.le_of_ble_eq_true rfl | simp [Value.category]) (Nat.le_refl _) (Nat.le_refl _) rfl dL_isPlayer_193 rfl (kI ?_)
    refine V_sipush (v := 950) (by decide) dL_isPlayer_196 rfl ?_
    refine V_icmp_lt (tgt := 275) dL_isPlayer_199 (by decide) rfl (fun h => absurd h (by rw [i32_lt, cc1]; simp; omega)) (fun _ => ?_)
    refine V_aload_n (i := 0) rfl rfl dL_isPlayer_202 rfl ?_
    refine V_iload_n (i := 1) rfl rfl dL_isPlayer_203 rfl ?_
    refine V_iconst (v := 0) (by decide) dL_isPlayer_204 rfl ?_
    refine V_call (n := 2) (q_pl0 hx hp) o_X7_player m_L_10 ⟨by decide, by decide⟩ (by assumption) rfl rfl (by first | exact Nat.le_of_ble_eq_true rfl | simp [Value.category]) (Nat.le_refl _) (Nat.le_refl _) rfl dL_isPlayer_205 rfl (kI ?_)
    rw [eq]
    refine V_bipush (v := 60) (by decide) dL_isPlayer_208 rfl ?_
    refine V_icmp_gt (tgt := 275) dL_isPlayer_210 (by decide) rfl (fun h => absurd h (Int32.not_lt.mpr (nI_le (b := 60) hq (by decide)))) (fun _ => ?_)
    refine V_aload_n (i := 0) rfl rfl dL_isPlayer_213 rfl ?_
    refine V_iload_n (i := 1) rfl rfl dL_isPlayer_214 rfl ?_
    refine V_iconst (v := 0) (by decide) dL_isPlayer_215 rfl ?_
    refine V_call (n := 2) (q_pl0 hx hp) o_X7_player m_L_10 ⟨by decide, by decide⟩ (by assumption) rfl rfl (by first | exact Nat.le_of_ble_eq_true rfl | simp [Value.category]) (Nat.le_refl _) (Nat.le_refl _) rfl dL_isPlayer_216 rfl (kI ?_)
    rw [eq]
    refine V_if_lt (tgt := 275) dL_isPlayer_219 (by decide) rfl (fun h => absurd h (nI_pos (by omega))) (fun _ => ?_)
    refine V_aload_n (i := 0) rfl rfl dL_isPlayer_222 rfl ?_
    refine V_aload_n (i := 0) rfl rfl dL_isPlayer_223 rfl ?_
    refine V_iload_n (i := 1) rfl rfl dL_isPlayer_224 rfl ?_
    refine V_iconst (v := 0) (by decide) dL_isPlayer_225 rfl ?_
    refine V_call (n := 2) (q_pl0 hx hp) o_X7_player m_L_10 ⟨by decide, by decide⟩ (by assumption) rfl rfl (by first | exact Nat.le_of_ble_eq_true rfl | simp [Value.category]) (Nat.le_refl _) (Nat.le_refl _) rfl dL_isPlayer_226 rfl (kI ?_)
    rw [eq]
    refine V_iconst (v := 0) (by decide) dL_isPlayer_229 rfl ?_
    refine V_call (n := 2) (q_sq0 hx hq) o_X7_square m_L_26 ⟨by decide, by decide⟩ (by assumption) rfl rfl (by first | exact Nat.le_of_ble_eq_true rfl | simp [Value.category]) (Nat.le_refl _) (Nat.le_refl _) rfl dL_isPlayer_230 rfl (kI ?_)
    refine V_iload_n (i := 1) rfl rfl dL_isPlayer_233 rfl ?_
    refine V_ishr dL_isPlayer_234 rfl ?_
    refine V_iconst (v := 1) (by decide) dL_isPlayer_235 rfl ?_
    refine V_iand dL_isPlayer_236 rfl ?_
    refine V_iconst (v := 1) (by decide) dL_isPlayer_237 rfl ?_
    refine V_icmp_ne (tgt := 275) dL_isPlayer_238 (by decide) rfl (fun h => absurd (pi_bit hp eq) h) (fun _ => ?_)
    refine V_aload_n (i := 0) rfl rfl dL_isPlayer_241 rfl ?_
    refine V_iload_n (i := 1) rfl rfl dL_isPlayer_242 rfl ?_
    refine V_call (n := 1) (q_pr hx hp) o_X7_progress m_L_29 ⟨by decide, by decide⟩ (by assumption) rfl rfl (by first | exact Nat.le_of_ble_eq_true rfl | simp [Value.category]) (Nat.le_refl _) (Nat.le_refl _) rfl dL_isPlayer_243 rfl (kD ?_)
    refine V_aload_n (i := 0) rfl rfl dL_isPlayer_246 rfl ?_
    refine V_iload_n (i := 1) rfl rfl dL_isPlayer_247 rfl ?_
    refine V_iconst (v := 4) (by decide) dL_isPlayer_248 rfl ?_
    refine V_call (n := 2) (q_pl4 hx hp) o_X7_player m_L_10 ⟨by decide, by decide⟩ (by assumption) rfl rfl (by first | exact Nat.le_of_ble_eq_true rfl | simp [Value.category]) (Nat.le_refl _) (Nat.le_refl _) rfl dL_isPlayer_249 rfl (kI ?_)
    refine V_i2d dL_isPlayer_252 rfl ?_
    refine V_ldc2d cstd_L_33 dL_isPlayer_253 rfl ?_
    refine V_ddiv (pr_n hx.2.1 hp) dL_isPlayer_256 rfl ?_
    refine V_dcmp dL_isPlayer_257 rfl ?_
    refine V_if_ne (tgt := 275) dL_isPlayer_258 (by decide) rfl (fun h => absurd dv1 h) (fun _ => ?_)
    refine V_aload_n (i := 0) rfl rfl dL_isPlayer_261 rfl ?_
    refine V_iload_n (i := 1) rfl rfl dL_isPlayer_262 rfl ?_
    refine V_call (n := 1) (q_pr hx hp) o_X7_progress m_L_29 ⟨by decide, by decide⟩ (by assumption) rfl rfl (by first | exact Nat.le_of_ble_eq_true rfl | simp [Value.category]) (Nat.le_refl _) (Nat.le_refl _) rfl dL_isPlayer_263 rfl (kD ?_)
    refine V_dconst1 dL_isPlayer_266 rfl ?_
    refine V_dcmp dL_isPlayer_267 rfl ?_
    refine V_if_gt (tgt := 275) dL_isPlayer_268 (by decide) rfl (fun h => absurd h dv2) (fun _ => ?_)
    refine V_iconst (v := 1) (by decide) dL_isPlayer_271 rfl ?_
    refine V_goto (tgt := 276) dL_isPlayer_272 (by decide) ?_
    refine V_istore (i := 5) (by decide) rfl dL_isPlayer_276 rfl ?_
    refine V_aload_n (i := 0) rfl rfl dL_isPlayer_278 rfl ?_
    refine V_iload_n (i := 1) rfl rfl dL_isPlayer_279 rfl ?_
    refine V_iconst (v := 0) (by decide) dL_isPlayer_280 rfl ?_
    refine V_call (n := 2) (q_fw0 hx hr) o_X7_fewest m_L_35 ⟨by decide, by decide⟩ (by assumption) rfl rfl (by first | exact Nat.le_of_ble_eq_true rfl | simp [Value.category]) (Nat.le_refl _) (Nat.le_refl _) rfl dL_isPlayer_281 rfl (kJ ?_)
    rintro _ I1 P1 ⟨rfl, hx1'⟩
    have hx1 := hx.to hx1'
    refine V_istore (i := 6) (by decide) rfl dL_isPlayer_284 rfl ?_
    refine V_iload (i := 5) rfl dL_isPlayer_286 rfl ?_
    refine V_if_eq (tgt := 434) dL_isPlayer_288 (by decide) rfl (fun h => absurd h (by decide)) (fun _ => ?_)
    refine V_iload (i := 6) rfl dL_isPlayer_291 rfl ?_
    refine V_aload_n (i := 0) rfl rfl dL_isPlayer_293 rfl ?_
    refine V_iload_n (i := 1) rfl rfl dL_isPlayer_294 rfl ?_
    refine V_iconst (v := 1) (by decide) dL_isPlayer_295 rfl ?_
    refine V_call (n := 2) (q_fw1 hx1 hr) o_X7_fewest m_L_35 ⟨by decide, by decide⟩ (by assumption) rfl rfl (by first | exact Nat.le_of_ble_eq_true rfl | simp [Value.category]) (Nat.le_refl _) (Nat.le_refl _) rfl dL_isPlayer_296 rfl (kJ ?_)
    rintro _ I2 P2 ⟨rfl, hx2'⟩
    have hx2 := hx.to hx2'
    refine V_icmp_ne (tgt := 434) dL_isPlayer_299 (by decide) rfl (fun h => absurd rfl h) (fun _ => ?_)
    refine V_iload (i := 6) rfl dL_isPlayer_302 rfl ?_
    refine V_if_ne (tgt := 311) dL_isPlayer_304 (by decide) rfl (fun _ => ?_) (fun h => absurd h r0)
    refine V_iconst (v := 0) (by decide) dL_isPlayer_311 rfl ?_
    refine V_iload (i := 4) rfl dL_isPlayer_312 rfl ?_
    refine V_icmp_ne (tgt := 434) dL_isPlayer_314 (by decide) rfl (fun h => absurd rfl h) (fun _ => ?_)
    refine V_iload (i := 4) rfl dL_isPlayer_317 rfl ?_
    refine V_if_eq (tgt := 381) dL_isPlayer_319 (by decide) rfl (fun _ => ?_) (fun h => absurd rfl h)
    refine V_aload_n (i := 0) rfl rfl dL_isPlayer_381 rfl ?_
    refine V_iload_n (i := 1) rfl rfl dL_isPlayer_382 rfl ?_
    refine V_iconst (v := 0) (by decide) dL_isPlayer_383 rfl ?_
    refine V_call (n := 2) (q_pl0 hx2 hp) o_X7_player m_L_10 ⟨by decide, by decide⟩ (by assumption) rfl rfl (by first | exact Nat.le_of_ble_eq_true rfl | simp [Value.category]) (Nat.le_refl _) (Nat.le_refl _) rfl dL_isPlayer_384 rfl (kI ?_)
    rw [eq]
    refine V_bipush (v := 60) (by decide) dL_isPlayer_387 rfl ?_
    refine V_icmp_ge (tgt := 434) dL_isPlayer_389 (by decide) rfl (fun h => absurd h (nI_ge (a := q) (b := 60) (by omega) (by decide))) (fun _ => ?_)
    refine V_aload_n (i := 0) rfl rfl dL_isPlayer_392 rfl ?_
    refine V_iload_n (i := 1) rfl rfl dL_isPlayer_393 rfl ?_
    refine V_call (n := 1) (q_da hx2 hp h2) o_X7_dangers m_L_41 ⟨by decide, by decide⟩ (by assumption) rfl rfl (by first | exact Nat.le_of_ble_eq_true rfl | simp [Value.category]) (Nat.le_refl _) (Nat.le_refl _) rfl dL_isPlayer_394 rfl (kI ?_)
    refine V_if_lt (tgt := 434) dL_isPlayer_397 (by decide) rfl (fun h => absurd h dn) (fun _ => ?_)
    refine V_iload (i := 4) rfl dL_isPlayer_400 rfl ?_
    refine V_if_ne (tgt := 430) dL_isPlayer_402 (by decide) rfl (fun h => absurd rfl h) (fun _ => ?_)
    refine V_aload_n (i := 0) rfl rfl dL_isPlayer_405 rfl ?_
    refine V_iconst (v := 3) (by decide) dL_isPlayer_406 rfl ?_
    refine V_call (n := 1) (q_ct3 hx2) o_X7_count m_L_38 ⟨by decide, by decide⟩ (by assumption) rfl rfl (by first | exact Nat.le_of_ble_eq_true rfl | simp [Value.category]) (Nat.le_refl _) (Nat.le_refl _) rfl dL_isPlayer_407 rfl (kI ?_)
    refine V_if_gt (tgt := 430) dL_isPlayer_410 (by decide) rfl (fun h_410 => ?_) (fun h_410 => ?_)
    · refine V_iconst (v := 1) (by decide) dL_isPlayer_430 rfl ?_
      refine V_goto (tgt := 435) dL_isPlayer_431 (by decide) ?_
      exact V_ireturn rfl (by decide) dL_isPlayer_435 rfl rfl rfl (⟨_, rfl, rfl, hx2'⟩)
    · refine V_iload (i := 6) rfl dL_isPlayer_413 rfl ?_
      refine V_bipush (v := 65) (by decide) dL_isPlayer_415 rfl ?_
      refine V_aload_n (i := 0) rfl rfl dL_isPlayer_417 rfl ?_
      refine V_iload_n (i := 1) rfl rfl dL_isPlayer_418 rfl ?_
      refine V_iconst (v := 4) (by decide) dL_isPlayer_419 rfl ?_
      refine V_call (n := 2) (q_pl4 hx2 hp) o_X7_player m_L_10 ⟨by decide, by decide⟩ (by assumption) rfl rfl (by first | exact Nat.le_of_ble_eq_true rfl | simp [Value.category]) (Nat.le_refl _) (Nat.le_refl _) rfl dL_isPlayer_420 rfl (kI ?_)
      refine V_isub dL_isPlayer_423 rfl ?_
      refine V_bipush (v := 6) (by decide) dL_isPlayer_424 rfl ?_
      refine V_idiv (by decide) dL_isPlayer_426 rfl ?_
      refine V_icmp_ne (tgt := 434) dL_isPlayer_427 (by decide) rfl (fun h => absurd (re h_410) h) (fun _ => ?_)
      refine V_iconst (v := 1) (by decide) dL_isPlayer_430 rfl ?_
      refine V_goto (tgt := 435) dL_isPlayer_431 (by decide) ?_
      exact V_ireturn rfl (by decide) dL_isPlayer_435 rfl rfl rfl (⟨_, rfl, rfl, hx2'⟩)
  by_cases hb : 0 ≤ ro s p 0 - aHu s p
  · refine V_aload_n (i := 0) rfl rfl dL_isPlayer_162 rfl ?_
    refine V_iload_n (i := 1) rfl rfl dL_isPlayer_163 rfl ?_
    refine V_iconst (v := 3) (by decide) dL_isPlayer_164 rfl ?_
    refine V_call (n := 2) (q_pl3 hx hp) o_X7_player m_L_10 ⟨by decide, by decide⟩ (by assumption) rfl rfl (by first | exact Nat.le_of_ble_eq_true rfl | simp [Value.category]) (Nat.le_refl _) (Nat.le_refl _) rfl dL_isPlayer_165 rfl (kI ?_)
    refine V_iload_n (i := 2) rfl rfl dL_isPlayer_168 rfl ?_
    refine V_icmp_ne (tgt := 275) dL_isPlayer_169 (by decide) rfl (fun h => absurd rfl h) (fun _ => ?_)
    refine V_aload_n (i := 0) rfl rfl dL_isPlayer_172 rfl ?_
    refine V_iload_n (i := 1) rfl rfl dL_isPlayer_173 rfl ?_
    refine V_iconst (v := 4) (by decide) dL_isPlayer_174 rfl ?_
    refine V_call (n := 2) (q_pl4 hx hp) o_X7_player m_L_10 ⟨by decide, by decide⟩ (by assumption) rfl rfl (by first | exact Nat.le_of_ble_eq_true rfl | simp [Value.category]) (Nat.le_refl _) (Nat.le_refl _) rfl dL_isPlayer_175 rfl (kI ?_)
    refine V_iload_n (i := 3) rfl rfl dL_isPlayer_178 rfl ?_
    refine V_if_ge (tgt := 186) dL_isPlayer_179 (by decide) rfl (fun _ => ?_) (fun h => absurd hb h)
    refine V_iload_n (i := 3) rfl rfl dL_isPlayer_186 rfl ?_
    refine V_icmp_ne (tgt := 275) dL_isPlayer_187 (by decide) rfl (fun h => absurd (if_pos hb) h) (fun _ => ?_)
    exact K190
  · refine V_aload_n (i := 0) rfl rfl dL_isPlayer_162 rfl ?_
    refine V_iload_n (i := 1) rfl rfl dL_isPlayer_163 rfl ?_
    refine V_iconst (v := 3) (by decide) dL_isPlayer_164 rfl ?_
    refine V_call (n := 2) (q_pl3 hx hp) o_X7_player m_L_10 ⟨by decide, by decide⟩ (by assumption) rfl rfl (by first | exact Nat.le_of_ble_eq_true rfl | simp [Value.category]) (Nat.le_refl _) (Nat.le_refl _) rfl dL_isPlayer_165 rfl (kI ?_)
    refine V_iload_n (i := 2) rfl rfl dL_isPlayer_168 rfl ?_
    refine V_icmp_ne (tgt := 275) dL_isPlayer_169 (by decide) rfl (fun h => absurd rfl h) (fun _ => ?_)
    refine V_aload_n (i := 0) rfl rfl dL_isPlayer_172 rfl ?_
    refine V_iload_n (i := 1) rfl rfl dL_isPlayer_173 rfl ?_
    refine V_iconst (v := 4) (by decide) dL_isPlayer_174 rfl ?_
    refine V_call (n := 2) (q_pl4 hx hp) o_X7_player m_L_10 ⟨by decide, by decide⟩ (by assumption) rfl rfl (by first | exact Nat.le_of_ble_eq_true rfl | simp [Value.category]) (Nat.le_refl _) (Nat.le_refl _) rfl dL_isPlayer_175 rfl (kI ?_)
    refine V_iload_n (i := 3) rfl rfl dL_isPlayer_178 rfl ?_
    refine V_if_ge (tgt := 186) dL_isPlayer_179 (by decide) rfl (fun h => absurd h hb) (fun _ => ?_)
    refine V_iconst (v := 0) (by decide) dL_isPlayer_182 rfl ?_
    refine V_goto (tgt := 187) dL_isPlayer_183 (by decide) ?_
    refine V_icmp_ne (tgt := 275) dL_isPlayer_187 (by decide) rfl (fun h => absurd (if_neg hb) h) (fun _ => ?_)
    exact K190

set_option maxHeartbeats 4000000 in
set_option maxRecDepth 100000 in
theorem sp_isP (l : Launch) (g : fw_G) {I : fw_I} {P : fw_P} {s : Nat → Int32} {k : Nat} {h : Nat → Nat → Int32} {B : Nat} (hx : Wd I P s k h B) {p : Nat} (hp : p < 4) : Sp l g kL_isPlayer (T0 nT) [.ref (g.1 + 0), .int (nI p)] I P (T0 nT) 0 0 (qJ (fun r I1 P1 => r = 1 ∧ Sx I1 P1 s k h)) := by
  have a0 := at_0 (nT := nT)
  refine Sp.of_V (L := [some (.ref (g.1 + 0)), some (.int (nI p)), none, none, none, none, none, none]) (by decide) (by simp [Value.category]) (Nat.le_of_ble_eq_true rfl) rfl ?_
  by_cases h2 : ro s p 2 = 0
  · refine V_iconst (v := 0) (by decide) dL_isPlayer_0 rfl ?_
    refine V_istore_n (i := 2) rfl (by decide) rfl dL_isPlayer_1 rfl ?_
    refine V_aload_n (i := 0) rfl rfl dL_isPlayer_2 rfl ?_
    refine V_iload_n (i := 1) rfl rfl dL_isPlayer_3 rfl ?_
    refine V_iconst (v := 0) (by decide) dL_isPlayer_4 rfl ?_
    refine V_call (n := 2) (q_pl0 hx hp) o_X7_player m_L_10 ⟨by decide, by decide⟩ (by assumption) rfl rfl (by first | exact Nat.le_of_ble_eq_true rfl | simp [Value.category]) (Nat.le_refl _) (Nat.le_refl _) rfl dL_isPlayer_5 rfl (kI ?_)
    refine V_aload_n (i := 0) rfl rfl dL_isPlayer_8 rfl ?_
    refine V_iload_n (i := 1) rfl rfl dL_isPlayer_9 rfl ?_
    refine V_iconst (v := 3) (by decide) dL_isPlayer_10 rfl ?_
    refine V_call (n := 2) (q_pl3 hx hp) o_X7_player m_L_10 ⟨by decide, by decide⟩ (by assumption) rfl rfl (by first | exact Nat.le_of_ble_eq_true rfl | simp [Value.category]) (Nat.le_refl _) (Nat.le_refl _) rfl dL_isPlayer_11 rfl (kI ?_)
    refine V_isub dL_isPlayer_14 rfl ?_
    refine V_istore_n (i := 3) rfl (by decide) rfl dL_isPlayer_15 rfl ?_
    refine V_aload_n (i := 0) rfl rfl dL_isPlayer_16 rfl ?_
    refine V_iload_n (i := 1) rfl rfl dL_isPlayer_17 rfl ?_
    refine V_iconst (v := 5) (by decide) dL_isPlayer_18 rfl ?_
    refine V_call (n := 2) (q_pl5 hx hp) o_X7_player m_L_10 ⟨by decide, by decide⟩ (by assumption) rfl rfl (by first | exact Nat.le_of_ble_eq_true rfl | simp [Value.category]) (Nat.le_refl _) (Nat.le_refl _) rfl dL_isPlayer_19 rfl (kI ?_)
    rw [if_pos h2]
    refine V_bipush (v := (-5)) (by decide) dL_isPlayer_22 rfl ?_
    refine V_icmp_eq (tgt := 31) dL_isPlayer_24 (by decide) rfl (fun _ => ?_) (fun h => absurd rfl h)
    refine V_iconst (v := 0) (by decide) dL_isPlayer_31 rfl ?_
    refine V_istore (i := 4) (by decide) rfl dL_isPlayer_32 rfl ?_
    refine V_iconst (v := 0) (by decide) dL_isPlayer_34 rfl ?_
    refine V_istore (i := 5) (by decide) rfl dL_isPlayer_35 rfl ?_
    exact lp_isP hx hp 0 (lc_isPR hx hp h2) (aMany s p) 0 (Nat.zero_add _)
  · obtain ⟨pl, pl1, -⟩ := hx.2.2.2.2.2.2
    have hn5 : ¬ ro s p 2 = -5 := by
      rw [(pl1 p hp).1]
      exact nI_ne5 (by have := (pl1 p hp).2; have := home_le s; omega)
    refine V_iconst (v := 0) (by decide) dL_isPlayer_0 rfl ?_
    refine V_istore_n (i := 2) rfl (by decide) rfl dL_isPlayer_1 rfl ?_
    refine V_aload_n (i := 0) rfl rfl dL_isPlayer_2 rfl ?_
    refine V_iload_n (i := 1) rfl rfl dL_isPlayer_3 rfl ?_
    refine V_iconst (v := 0) (by decide) dL_isPlayer_4 rfl ?_
    refine V_call (n := 2) (q_pl0 hx hp) o_X7_player m_L_10 ⟨by decide, by decide⟩ (by assumption) rfl rfl (by first | exact Nat.le_of_ble_eq_true rfl | simp [Value.category]) (Nat.le_refl _) (Nat.le_refl _) rfl dL_isPlayer_5 rfl (kI ?_)
    refine V_aload_n (i := 0) rfl rfl dL_isPlayer_8 rfl ?_
    refine V_iload_n (i := 1) rfl rfl dL_isPlayer_9 rfl ?_
    refine V_iconst (v := 3) (by decide) dL_isPlayer_10 rfl ?_
    refine V_call (n := 2) (q_pl3 hx hp) o_X7_player m_L_10 ⟨by decide, by decide⟩ (by assumption) rfl rfl (by first | exact Nat.le_of_ble_eq_true rfl | simp [Value.category]) (Nat.le_refl _) (Nat.le_refl _) rfl dL_isPlayer_11 rfl (kI ?_)
    refine V_isub dL_isPlayer_14 rfl ?_
    refine V_istore_n (i := 3) rfl (by decide) rfl dL_isPlayer_15 rfl ?_
    refine V_aload_n (i := 0) rfl rfl dL_isPlayer_16 rfl ?_
    refine V_iload_n (i := 1) rfl rfl dL_isPlayer_17 rfl ?_
    refine V_iconst (v := 5) (by decide) dL_isPlayer_18 rfl ?_
    refine V_call (n := 2) (q_pl5 hx hp) o_X7_player m_L_10 ⟨by decide, by decide⟩ (by assumption) rfl rfl (by first | exact Nat.le_of_ble_eq_true rfl | simp [Value.category]) (Nat.le_refl _) (Nat.le_refl _) rfl dL_isPlayer_19 rfl (kI ?_)
    rw [if_neg h2]
    refine V_bipush (v := (-5)) (by decide) dL_isPlayer_22 rfl ?_
    refine V_icmp_eq (tgt := 31) dL_isPlayer_24 (by decide) rfl (fun h => absurd h hn5) (fun _ => ?_)
    refine V_iconst (v := 1) (by decide) dL_isPlayer_27 rfl ?_
    refine V_goto (tgt := 32) dL_isPlayer_28 (by decide) ?_
    refine V_istore (i := 4) (by decide) rfl dL_isPlayer_32 rfl ?_
    refine V_iconst (v := 0) (by decide) dL_isPlayer_34 rfl ?_
    refine V_istore (i := 5) (by decide) rfl dL_isPlayer_35 rfl ?_
    exact lp_isP hx hp 1 (lc_isPH hx hp h2) (aMany s p) 0 (Nat.zero_add _)
