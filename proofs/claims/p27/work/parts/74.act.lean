variable {nT : Nat}
/-! one act of the law -/
def lowV (v n : Int32) : Int32 := (v &&& 2147483647) - (v &&& 2147483647) / n * n
theorem fr_ok {s : Nat → Int32} : ∀ n j, (aFrF s n j < j + n ∧ ¬ 0 < sn s (aFrF s n j) 0) ∨ (aFrF s n j = j + n ∧ ∀ i, j ≤ i → i < j + n → 0 < sn s i 0)
  | 0, j => Or.inr ⟨rfl, fun i h1 h2 => by omega⟩
  | n + 1, j => by
    show ((if 0 < sn s j 0 then aFrF s n (j + 1) else j) < j + (n + 1) ∧ ¬ 0 < sn s (if 0 < sn s j 0 then aFrF s n (j + 1) else j) 0) ∨ ((if 0 < sn s j 0 then aFrF s n (j + 1) else j) = j + (n + 1) ∧ _)
    by_cases h : 0 < sn s j 0
    · rw [if_pos h]
      rcases fr_ok (s := s) n (j + 1) with ⟨h1, h2⟩ | ⟨h1, h2⟩
      · exact Or.inl ⟨by omega, h2⟩
      · refine Or.inr ⟨by omega, fun i a b => ?_⟩
        by_cases q : i = j
        · rw [q]; exact h
        · exact h2 i (by omega) (by omega)
    · rw [if_neg h]
      exact Or.inl ⟨by omega, h⟩
theorem fr_free {s : Nat → Int32} (h : ¬ aCntF s 10 = 10) : aFrF s 10 0 < 10 ∧ ¬ 0 < sn s (aFrF s 10 0) 0 := by
  rcases fr_ok (s := s) 10 0 with ⟨h1, h2⟩ | ⟨h1, h2⟩
  · exact ⟨by omega, h2⟩
  · exact absurd (aCnt_all 10 (fun i hi => h2 i (Nat.zero_le _) (by omega))) h
theorem cnt_one {s t : Nat → Int32} {i0 : Nat} (h0 : ¬ 0 < sn s i0 0) (h1 : 0 < sn t i0 0) (h : ∀ i, ¬ i = i0 → sn t i 0 = sn s i 0) : ∀ n, aCntF t n = if i0 < n then aCntF s n + 1 else aCntF s n
  | 0 => rfl
  | n + 1 => by
    show aCntF t n + bI (0 < sn t n 0) = if i0 < n + 1 then (aCntF s n + bI (0 < sn s n 0)) + 1 else aCntF s n + bI (0 < sn s n 0)
    rw [cnt_one h0 h1 h n]
    by_cases q : n = i0
    · subst q
      rw [if_neg (by omega), if_pos (by omega), bI_t h1, bI_f h0, Int32.add_zero]
    · rw [h n q]
      by_cases q2 : i0 < n
      · rw [if_pos q2, if_pos (by omega)]; ac_rfl
      · rw [if_neg q2, if_neg (by omega)]
theorem snk_at {s : Nat → Int32} {a b : Int32} : sn (aSnkF s a b) (aFrF s 10 0) 0 = a ∧ sn (aSnkF s a b) (aFrF s 10 0) 1 = b ∧ sn (aSnkF s a b) (aFrF s 10 0) 2 = 0 ∧ ∀ i f, f < 4 → ¬ i = aFrF s 10 0 → sn (aSnkF s a b) i f = sn s i f := by
  unfold aSnkF sn
  refine ⟨?_, ?_, ?_, fun i f hf q => ?_⟩
  all_goals simp (disch := omega) only [upd_ne, upd_eq]
theorem sub_neg {a q : Nat} (ha : a ≤ 100) (hq : q ≤ 100) (h : ¬ q < a) : ¬ 1 ≤ nI a - nI q := fun z => by
  have e := (toInt_small (x := nI a) (y := q) (by rw [nI_toInt (by omega)]; omega) (by omega)).1
  rw [i32_le, e, nI_toInt (by omega), show (1 : Int32).toInt = 1 from by decide] at z
  omega

set_option maxHeartbeats 4000000 in
set_option maxRecDepth 100000 in
theorem lc_a54 {l : Launch} {g : fw_G} {I : fw_I} {P : fw_P} {s : Nat → Int32} {k : Nat} {h : Nat → Nat → Int32} {B : Nat} (hx : Wd I P s k h B) (hB : B + 100 < 1000000) (v w : Int32) {j hd q : Nat} (h7 : 7 ≤ hd) (h59 : hd ≤ 59) (hq35 : q < 35) : V l g kL_act (T0 nT) 0 0 (qA (B + 100)) (T0 nT) I P 0 0 54 [some (.ref (g.1 + 0)), some (.int v), some (.int w), some (.int (nI j)), some (.int (nI hd)), none, none, none, none] [.int (nI (hd - 6) - nI q)] := by
  have a0 := at_0 (nT := nT)
  by_cases hq : q < hd - 6
  · have hfm : aFm (nI hd) (nI (hd - 6 - q)) := by
      refine ⟨⟨nI_le (a := 7) h7 (by omega), nI_le (b := 59) h59 (by decide)⟩, ⟨nI_le (a := 1) (by omega) (by omega), nI_le (b := 53) (by omega) (by decide)⟩, ?_⟩
      rw [nI_sub (by omega)]
      exact ⟨nI_le (a := 6) (by omega) (by omega), nI_le (b := 40) (by omega) (by decide)⟩
    by_cases ha : aSnAt s (nI hd) = -5
    · by_cases hc : aCntF s 10 = 10
      · have er : aSnkR s (nI hd) (nI (hd - 6 - q)) = -3 := by unfold aSnkR; rw [if_neg (fun z => z hfm), if_neg (fun z => z ha), if_pos hc]
        have no : ¬ aSnkOk s (nI hd) (nI (hd - 6 - q)) := fun z => z.2.2 hc
        have ea := ha
        rw [nI_sub (Nat.le_of_lt hq)]
        refine V_istore (i := 5) (by decide) rfl dL_act_54 rfl ?_
        refine V_aload_n (i := 0) rfl rfl dL_act_56 rfl ?_
        refine V_iconst (v := 3) (by decide) dL_act_57 rfl ?_
        refine V_call (n := 1) (q_ct3 hx) o_X7_count m_L_38 ⟨by decide, by decide⟩ (by assumption) rfl rfl (by first | exact Nat.le_of_ble_eq_true rfl | simp [Value.category]) (Nat.le_refl _) (Nat.le_refl _) rfl dL_act_58 rfl (kI ?_)
        refine V_istore (i := 6) (by decide) rfl dL_act_61 rfl ?_
        refine V_aload_n (i := 0) rfl rfl dL_act_63 rfl ?_
        refine V_iload (i := 4) rfl dL_act_64 rfl ?_
        refine V_iconst (v := 1) (by decide) dL_act_66 rfl ?_
        refine V_call (n := 2) (q_sq1 hx (q := hd) (by omega)) o_X7_square m_L_26 ⟨by decide, by decide⟩ (by assumption) rfl rfl (by first | exact Nat.le_of_ble_eq_true rfl | simp [Value.category]) (Nat.le_refl _) (Nat.le_refl _) rfl dL_act_67 rfl (kI ?_)
        rw [ea]
        refine V_if_lt (tgt := 77) dL_act_70 (by decide) rfl (fun _ => ?_) (fun h => absurd (by decide) h)
        refine V_iconst (v := 0) (by decide) dL_act_77 rfl ?_
        refine V_istore (i := 7) (by decide) rfl dL_act_78 rfl ?_
        refine V_aload_n (i := 0) rfl rfl dL_act_80 rfl ?_
        refine V_iload (i := 4) rfl dL_act_81 rfl ?_
        refine V_iload (i := 5) rfl dL_act_83 rfl ?_
        refine V_call (n := 2) (q_snake hx _ _) o_X7_snake m_L_77 ⟨by decide, by decide⟩ (by assumption) rfl rfl (by first | exact Nat.le_of_ble_eq_true rfl | simp [Value.category]) (Nat.le_refl _) (Nat.le_refl _) rfl dL_act_85 rfl (kJ ?_)
        rintro _ I1 P1 ⟨rfl, hm, -⟩
        have hx1 : Wd I1 P1 s k h B := hm.elim (fun z => absurd z.1 no) (fun z => hx.to z.2)
        rw [er]
        refine V_istore (i := 8) (by decide) rfl dL_act_88 rfl ?_
        refine V_iload (i := 5) rfl dL_act_90 rfl ?_
        refine V_iconst (v := 1) (by decide) dL_act_92 rfl ?_
        refine V_icmp_ge (tgt := 111) dL_act_93 (by decide) rfl (fun _ => ?_) (fun h => absurd (nI_le (a := 1) (by omega) (by omega)) h)
        refine V_iload (i := 7) rfl dL_act_111 rfl ?_
        refine V_if_eq (tgt := 131) dL_act_113 (by decide) rfl (fun _ => ?_) (fun h => absurd rfl h)
        refine V_iload (i := 6) rfl dL_act_131 rfl ?_
        refine V_bipush (v := 10) (by decide) dL_act_133 rfl ?_
        refine V_icmp_ne (tgt := 153) dL_act_135 (by decide) rfl (fun h => absurd hc h) (fun _ => ?_)
        refine V_iload (i := 8) rfl dL_act_138 rfl ?_
        refine V_bipush (v := (-3)) (by decide) dL_act_140 rfl ?_
        refine V_icmp_ne (tgt := 149) dL_act_142 (by decide) rfl (fun h => absurd rfl h) (fun _ => ?_)
        refine V_iconst (v := 1) (by decide) dL_act_145 rfl ?_
        refine V_goto (tgt := 209) dL_act_146 (by decide) ?_
        exact V_ireturn rfl (by decide) dL_act_209 rfl rfl rfl (⟨_, rfl, rfl, s, k, h, hx1.mono (by omega) hB⟩)
      · have er : aSnkR s (nI hd) (nI (hd - 6 - q)) = nI (aFrF s 10 0) := by unfold aSnkR; rw [if_neg (fun z => z hfm), if_neg (fun z => z ha), if_neg hc]
        have ok : aSnkOk s (nI hd) (nI (hd - 6 - q)) := ⟨hfm, ha, hc⟩
        obtain ⟨f10, fr⟩ := fr_free hc
        obtain ⟨s0, s1, s2, sr⟩ := snk_at (s := s) (a := nI hd) (b := nI (hd - 6 - q))
        have g0 : 0 < sn (aSnkF s (nI hd) (nI (hd - 6 - q))) (aFrF s 10 0) 0 := by rw [s0]; exact nI_lt (a := 0) (by omega) (by omega)
        have ec : aCntF (aSnkF s (nI hd) (nI (hd - 6 - q))) 10 = aCntF s 10 + 1 := by rw [cnt_one fr g0 (fun i q2 => sr i 0 (by decide) q2) 10, if_pos f10]
        have ea := ha
        rw [nI_sub (Nat.le_of_lt hq)]
        refine V_istore (i := 5) (by decide) rfl dL_act_54 rfl ?_
        refine V_aload_n (i := 0) rfl rfl dL_act_56 rfl ?_
        refine V_iconst (v := 3) (by decide) dL_act_57 rfl ?_
        refine V_call (n := 1) (q_ct3 hx) o_X7_count m_L_38 ⟨by decide, by decide⟩ (by assumption) rfl rfl (by first | exact Nat.le_of_ble_eq_true rfl | simp [Value.category]) (Nat.le_refl _) (Nat.le_refl _) rfl dL_act_58 rfl (kI ?_)
        refine V_istore (i := 6) (by decide) rfl dL_act_61 rfl ?_
        refine V_aload_n (i := 0) rfl rfl dL_act_63 rfl ?_
        refine V_iload (i := 4) rfl dL_act_64 rfl ?_
        refine V_iconst (v := 1) (by decide) dL_act_66 rfl ?_
        refine V_call (n := 2) (q_sq1 hx (q := hd) (by omega)) o_X7_square m_L_26 ⟨by decide, by decide⟩ (by assumption) rfl rfl (by first | exact Nat.le_of_ble_eq_true rfl | simp [Value.category]) (Nat.le_refl _) (Nat.le_refl _) rfl dL_act_67 rfl (kI ?_)
        rw [ea]
        refine V_if_lt (tgt := 77) dL_act_70 (by decide) rfl (fun _ => ?_) (fun h => absurd (by decide) h)
        refine V_iconst (v := 0) (by decide) dL_act_77 rfl ?_
        refine V_istore (i := 7) (by decide) rfl dL_act_78 rfl ?_
        refine V_aload_n (i := 0) rfl rfl dL_act_80 rfl ?_
        refine V_iload (i := 4) rfl dL_act_81 rfl ?_
        refine V_iload (i := 5) rfl dL_act_83 rfl ?_
        refine V_call (n := 2) (q_snake hx _ _) o_X7_snake m_L_77 ⟨by decide, by decide⟩ (by assumption) rfl rfl (by first | exact Nat.le_of_ble_eq_true rfl | simp [Value.category]) (Nat.le_refl _) (Nat.le_refl _) rfl dL_act_85 rfl (kJ ?_)
        rintro _ I1 P1 ⟨rfl, hm, -⟩
        have hw : Wd I1 P1 (aSnkF s (nI hd) (nI (hd - 6 - q))) (rK k) (rH k h s) B := by
          rcases hm with ⟨-, sx⟩ | ⟨no, -⟩
          · exact ⟨sx, Inv_snake hx.2.1 ok, J_snk hx.2.1 hx.2.2⟩
          · exact absurd ok no
        rw [er]
        refine V_istore (i := 8) (by decide) rfl dL_act_88 rfl ?_
        refine V_iload (i := 5) rfl dL_act_90 rfl ?_
        refine V_iconst (v := 1) (by decide) dL_act_92 rfl ?_
        refine V_icmp_ge (tgt := 111) dL_act_93 (by decide) rfl (fun _ => ?_) (fun h => absurd (nI_le (a := 1) (by omega) (by omega)) h)
        refine V_iload (i := 7) rfl dL_act_111 rfl ?_
        refine V_if_eq (tgt := 131) dL_act_113 (by decide) rfl (fun _ => ?_) (fun h => absurd rfl h)
        refine V_iload (i := 6) rfl dL_act_131 rfl ?_
        refine V_bipush (v := 10) (by decide) dL_act_133 rfl ?_
        refine V_icmp_ne (tgt := 153) dL_act_135 (by decide) rfl (fun _ => ?_) (fun h => absurd h hc)
        refine V_iload (i := 8) rfl dL_act_153 rfl ?_
        refine V_if_lt (tgt := 208) dL_act_155 (by decide) rfl (fun h => absurd h (nI_pos (by omega))) (fun _ => ?_)
        refine V_aload_n (i := 0) rfl rfl dL_act_158 rfl ?_
        refine V_iload (i := 8) rfl dL_act_159 rfl ?_
        refine V_iconst (v := 0) (by decide) dL_act_161 rfl ?_
        refine V_call (n := 2) (q_sn0 hw f10 g0) o_X7_snakeOf m_L_48 ⟨by decide, by decide⟩ (by assumption) rfl rfl (by first | exact Nat.le_of_ble_eq_true rfl | simp [Value.category]) (Nat.le_refl _) (Nat.le_refl _) rfl dL_act_162 rfl (kI ?_)
        rw [s0]
        refine V_iload (i := 4) rfl dL_act_165 rfl ?_
        refine V_icmp_ne (tgt := 208) dL_act_167 (by decide) rfl (fun h => absurd rfl h) (fun _ => ?_)
        refine V_aload_n (i := 0) rfl rfl dL_act_170 rfl ?_
        refine V_iload (i := 8) rfl dL_act_171 rfl ?_
        refine V_iconst (v := 1) (by decide) dL_act_173 rfl ?_
        refine V_call (n := 2) (q_sn1 hw f10 g0) o_X7_snakeOf m_L_48 ⟨by decide, by decide⟩ (by assumption) rfl rfl (by first | exact Nat.le_of_ble_eq_true rfl | simp [Value.category]) (Nat.le_refl _) (Nat.le_refl _) rfl dL_act_174 rfl (kI ?_)
        rw [s1]
        refine V_iload (i := 5) rfl dL_act_177 rfl ?_
        refine V_icmp_ne (tgt := 208) dL_act_179 (by decide) rfl (fun h => absurd rfl h) (fun _ => ?_)
        refine V_aload_n (i := 0) rfl rfl dL_act_182 rfl ?_
        refine V_iload (i := 8) rfl dL_act_183 rfl ?_
        refine V_iconst (v := 2) (by decide) dL_act_185 rfl ?_
        refine V_call (n := 2) (q_sn2 hw f10 g0) o_X7_snakeOf m_L_48 ⟨by decide, by decide⟩ (by assumption) rfl rfl (by first | exact Nat.le_of_ble_eq_true rfl | simp [Value.category]) (Nat.le_refl _) (Nat.le_refl _) rfl dL_act_186 rfl (kI ?_)
        rw [s2]
        refine V_if_ne (tgt := 208) dL_act_189 (by decide) rfl (fun h => absurd rfl h) (fun _ => ?_)
        refine V_aload_n (i := 0) rfl rfl dL_act_192 rfl ?_
        refine V_iconst (v := 3) (by decide) dL_act_193 rfl ?_
        refine V_call (n := 1) (q_ct3 hw) o_X7_count m_L_38 ⟨by decide, by decide⟩ (by assumption) rfl rfl (by first | exact Nat.le_of_ble_eq_true rfl | simp [Value.category]) (Nat.le_refl _) (Nat.le_refl _) rfl dL_act_194 rfl (kI ?_)
        rw [ec]
        refine V_iload (i := 6) rfl dL_act_197 rfl ?_
        refine V_iconst (v := 1) (by decide) dL_act_199 rfl ?_
        refine V_iadd dL_act_200 rfl ?_
        refine V_icmp_ne (tgt := 208) dL_act_201 (by decide) rfl (fun h => absurd rfl h) (fun _ => ?_)
        refine V_iconst (v := 1) (by decide) dL_act_204 rfl ?_
        refine V_goto (tgt := 209) dL_act_205 (by decide) ?_
        exact V_ireturn rfl (by decide) dL_act_209 rfl rfl rfl (⟨_, rfl, rfl, _, _, _, hw.mono (by omega) hB⟩)
    · have er : aSnkR s (nI hd) (nI (hd - 6 - q)) = -4 := by unfold aSnkR; rw [if_neg (fun z => z hfm), if_pos ha]
      have no : ¬ aSnkOk s (nI hd) (nI (hd - 6 - q)) := fun z => ha z.2.1
      obtain ⟨kk, hk, ea, -⟩ := aSk_at ha
      rw [nI_sub (Nat.le_of_lt hq)]
      refine V_istore (i := 5) (by decide) rfl dL_act_54 rfl ?_
      refine V_aload_n (i := 0) rfl rfl dL_act_56 rfl ?_
      refine V_iconst (v := 3) (by decide) dL_act_57 rfl ?_
      refine V_call (n := 1) (q_ct3 hx) o_X7_count m_L_38 ⟨by decide, by decide⟩ (by assumption) rfl rfl (by first | exact Nat.le_of_ble_eq_true rfl | simp [Value.category]) (Nat.le_refl _) (Nat.le_refl _) rfl dL_act_58 rfl (kI ?_)
      refine V_istore (i := 6) (by decide) rfl dL_act_61 rfl ?_
      refine V_aload_n (i := 0) rfl rfl dL_act_63 rfl ?_
      refine V_iload (i := 4) rfl dL_act_64 rfl ?_
      refine V_iconst (v := 1) (by decide) dL_act_66 rfl ?_
      refine V_call (n := 2) (q_sq1 hx (q := hd) (by omega)) o_X7_square m_L_26 ⟨by decide, by decide⟩ (by assumption) rfl rfl (by first | exact Nat.le_of_ble_eq_true rfl | simp [Value.category]) (Nat.le_refl _) (Nat.le_refl _) rfl dL_act_67 rfl (kI ?_)
      rw [ea]
      refine V_if_lt (tgt := 77) dL_act_70 (by decide) rfl (fun h => absurd h (nI_pos (by omega))) (fun _ => ?_)
      refine V_iconst (v := 1) (by decide) dL_act_73 rfl ?_
      refine V_goto (tgt := 78) dL_act_74 (by decide) ?_
      refine V_istore (i := 7) (by decide) rfl dL_act_78 rfl ?_
      refine V_aload_n (i := 0) rfl rfl dL_act_80 rfl ?_
      refine V_iload (i := 4) rfl dL_act_81 rfl ?_
      refine V_iload (i := 5) rfl dL_act_83 rfl ?_
      refine V_call (n := 2) (q_snake hx _ _) o_X7_snake m_L_77 ⟨by decide, by decide⟩ (by assumption) rfl rfl (by first | exact Nat.le_of_ble_eq_true rfl | simp [Value.category]) (Nat.le_refl _) (Nat.le_refl _) rfl dL_act_85 rfl (kJ ?_)
      rintro _ I1 P1 ⟨rfl, hm, -⟩
      have hx1 : Wd I1 P1 s k h B := hm.elim (fun z => absurd z.1 no) (fun z => hx.to z.2)
      rw [er]
      refine V_istore (i := 8) (by decide) rfl dL_act_88 rfl ?_
      refine V_iload (i := 5) rfl dL_act_90 rfl ?_
      refine V_iconst (v := 1) (by decide) dL_act_92 rfl ?_
      refine V_icmp_ge (tgt := 111) dL_act_93 (by decide) rfl (fun _ => ?_) (fun h => absurd (nI_le (a := 1) (by omega) (by omega)) h)
      refine V_iload (i := 7) rfl dL_act_111 rfl ?_
      refine V_if_eq (tgt := 131) dL_act_113 (by decide) rfl (fun h => absurd h (by decide)) (fun _ => ?_)
      refine V_iload (i := 8) rfl dL_act_116 rfl ?_
      refine V_bipush (v := (-4)) (by decide) dL_act_118 rfl ?_
      refine V_icmp_ne (tgt := 127) dL_act_120 (by decide) rfl (fun h => absurd rfl h) (fun _ => ?_)
      refine V_iconst (v := 1) (by decide) dL_act_123 rfl ?_
      refine V_goto (tgt := 209) dL_act_124 (by decide) ?_
      exact V_ireturn rfl (by decide) dL_act_209 rfl rfl rfl (⟨_, rfl, rfl, s, k, h, hx1.mono (by omega) hB⟩)
  · have hneg := sub_neg (a := hd - 6) (q := q) (by omega) (by omega) hq
    have no : ¬ aSnkOk s (nI hd) (nI (hd - 6) - nI q) := fun z => hneg z.1.2.1.1
    have er : aSnkR s (nI hd) (nI (hd - 6) - nI q) = -2 := by unfold aSnkR; rw [if_pos (fun z => hneg z.2.1.1)]
    refine V_istore (i := 5) (by decide) rfl dL_act_54 rfl ?_
    refine V_aload_n (i := 0) rfl rfl dL_act_56 rfl ?_
    refine V_iconst (v := 3) (by decide) dL_act_57 rfl ?_
    refine V_call (n := 1) (q_ct3 hx) o_X7_count m_L_38 ⟨by decide, by decide⟩ (by assumption) rfl rfl (by first | exact Nat.le_of_ble_eq_true rfl | simp [Value.category]) (Nat.le_refl _) (Nat.le_refl _) rfl dL_act_58 rfl (kI ?_)
    refine V_istore (i := 6) (by decide) rfl dL_act_61 rfl ?_
    refine V_aload_n (i := 0) rfl rfl dL_act_63 rfl ?_
    refine V_iload (i := 4) rfl dL_act_64 rfl ?_
    refine V_iconst (v := 1) (by decide) dL_act_66 rfl ?_
    refine V_call (n := 2) (q_sq1 hx (q := hd) (by omega)) o_X7_square m_L_26 ⟨by decide, by decide⟩ (by assumption) rfl rfl (by first | exact Nat.le_of_ble_eq_true rfl | simp [Value.category]) (Nat.le_refl _) (Nat.le_refl _) rfl dL_act_67 rfl (kI ?_)
    refine V_if_lt (tgt := 77) dL_act_70 (by decide) rfl (fun h_70 => ?_) (fun h_70 => ?_)
    · refine V_iconst (v := 0) (by decide) dL_act_77 rfl ?_
      refine V_istore (i := 7) (by decide) rfl dL_act_78 rfl ?_
      refine V_aload_n (i := 0) rfl rfl dL_act_80 rfl ?_
      refine V_iload (i := 4) rfl dL_act_81 rfl ?_
      refine V_iload (i := 5) rfl dL_act_83 rfl ?_
      refine V_call (n := 2) (q_snake hx _ _) o_X7_snake m_L_77 ⟨by decide, by decide⟩ (by assumption) rfl rfl (by first | exact Nat.le_of_ble_eq_true rfl | simp [Value.category]) (Nat.le_refl _) (Nat.le_refl _) rfl dL_act_85 rfl (kJ ?_)
      rintro _ I1 P1 ⟨rfl, hm, -⟩
      have hx1 : Wd I1 P1 s k h B := hm.elim (fun z => absurd z.1 no) (fun z => hx.to z.2)
      rw [er]
      refine V_istore (i := 8) (by decide) rfl dL_act_88 rfl ?_
      refine V_iload (i := 5) rfl dL_act_90 rfl ?_
      refine V_iconst (v := 1) (by decide) dL_act_92 rfl ?_
      refine V_icmp_ge (tgt := 111) dL_act_93 (by decide) rfl (fun h => absurd h hneg) (fun _ => ?_)
      refine V_iload (i := 8) rfl dL_act_96 rfl ?_
      refine V_bipush (v := (-2)) (by decide) dL_act_98 rfl ?_
      refine V_icmp_ne (tgt := 107) dL_act_100 (by decide) rfl (fun h => absurd rfl h) (fun _ => ?_)
      refine V_iconst (v := 1) (by decide) dL_act_103 rfl ?_
      refine V_goto (tgt := 209) dL_act_104 (by decide) ?_
      exact V_ireturn rfl (by decide) dL_act_209 rfl rfl rfl (⟨_, rfl, rfl, s, k, h, hx1.mono (by omega) hB⟩)
    · refine V_iconst (v := 1) (by decide) dL_act_73 rfl ?_
      refine V_goto (tgt := 78) dL_act_74 (by decide) ?_
      refine V_istore (i := 7) (by decide) rfl dL_act_78 rfl ?_
      refine V_aload_n (i := 0) rfl rfl dL_act_80 rfl ?_
      refine V_iload (i := 4) rfl dL_act_81 rfl ?_
      refine V_iload (i := 5) rfl dL_act_83 rfl ?_
      refine V_call (n := 2) (q_snake hx _ _) o_X7_snake m_L_77 ⟨by decide, by decide⟩ (by assumption) rfl rfl (by first | exact Nat.le_of_ble_eq_true rfl | simp [Value.category]) (Nat.le_refl _) (Nat.le_refl _) rfl dL_act_85 rfl (kJ ?_)
      rintro _ I1 P1 ⟨rfl, hm, -⟩
      have hx1 : Wd I1 P1 s k h B := hm.elim (fun z => absurd z.1 no) (fun z => hx.to z.2)
      rw [er]
      refine V_istore (i := 8) (by decide) rfl dL_act_88 rfl ?_
      refine V_iload (i := 5) rfl dL_act_90 rfl ?_
      refine V_iconst (v := 1) (by decide) dL_act_92 rfl ?_
      refine V_icmp_ge (tgt := 111) dL_act_93 (by decide) rfl (fun h => absurd h hneg) (fun _ => ?_)
      refine V_iload (i := 8) rfl dL_act_96 rfl ?_
      refine V_bipush (v := (-2)) (by decide) dL_act_98 rfl ?_
      refine V_icmp_ne (tgt := 107) dL_act_100 (by decide) rfl (fun h => absurd rfl h) (fun _ => ?_)
      refine V_iconst (v := 1) (by decide) dL_act_103 rfl ?_
      refine V_goto (tgt := 209) dL_act_104 (by decide) ?_
      exact V_ireturn rfl (by decide) dL_act_209 rfl rfl rfl (⟨_, rfl, rfl, s, k, h, hx1.mono (by omega) hB⟩)

set_option maxHeartbeats 4000000 in
set_option maxRecDepth 100000 in
theorem lc_a12 {l : Launch} {g : fw_G} {I : fw_I} {P : fw_P} {s : Nat → Int32} {k : Nat} {h : Nat → Nat → Int32} {B : Nat} (hx : Wd I P s k h B) (hB : B + 100 < 1000000) (v w : Int32) (j : Nat) : V l g kL_act (T0 nT) 0 0 (qA (B + 100)) (T0 nT) I P 0 0 12 [some (.ref (g.1 + 0)), some (.int v), some (.int w), some (.int (nI j)), none, none, none, none, none] [] := by
  have a0 := at_0 (nT := nT)
  refine V_bipush (v := 7) (by decide) dL_act_12 rfl ?_
  refine V_iload_n (i := 2) rfl rfl dL_act_14 rfl ?_
  refine V_bipush (v := 53) (by decide) dL_act_15 rfl ?_
  refine V_callS (n := 2) (sp_low l g w (m := 53) (by decide) (by decide)) o_L_low m_L_64 ⟨by decide, by decide⟩ rfl rfl (by first | exact Nat.le_of_ble_eq_true rfl | simp [Value.category]) (Nat.le_refl _) (Nat.le_refl _) rfl dL_act_17 rfl (kJ ?_)
  rintro _ I1 P1 ⟨⟨x, hx53, rfl⟩, rfl, rfl⟩
  refine V_iadd dL_act_20 rfl ?_
  rw [show (7 : Int32) = nI 7 from rfl, nI_add]
  refine V_istore (i := 4) (by decide) rfl dL_act_21 rfl ?_
  refine V_iload (i := 4) rfl dL_act_23 rfl ?_
  refine V_bipush (v := 6) (by decide) dL_act_25 rfl ?_
  refine V_isub dL_act_27 rfl ?_
  rw [show (6 : Int32) = nI 6 from rfl, nI_sub (show 6 ≤ 7 + x by omega)]
  refine V_iload_n (i := 2) rfl rfl dL_act_28 rfl ?_
  refine V_bipush (v := 6) (by decide) dL_act_29 rfl ?_
  refine V_ishr dL_act_31 rfl ?_
  refine V_iload_n (i := 2) rfl rfl dL_act_32 rfl ?_
  refine V_bipush (v := 13) (by decide) dL_act_33 rfl ?_
  refine V_ishr dL_act_35 rfl ?_
  refine V_iconst (v := 2) (by decide) dL_act_36 rfl ?_
  refine V_callS (n := 2) (sp_low l g (w >>> ((13 : Int32) &&& 31)) (m := 2) (by decide) (by decide)) o_L_low m_L_64 ⟨by decide, by decide⟩ rfl rfl (by first | exact Nat.le_of_ble_eq_true rfl | simp [Value.category]) (Nat.le_refl _) (Nat.le_refl _) rfl dL_act_37 rfl (kJ ?_)
  rintro _ I1 P1 ⟨⟨r, hr, rfl⟩, rfl, rfl⟩
  refine V_if_ne (tgt := 48) dL_act_40 (by decide) rfl (fun h_40 => ?_) (fun h_40 => ?_)
  · refine V_bipush (v := 12) (by decide) dL_act_48 rfl ?_
    first | (refine V_callS (n := 2) (sp_low l g (w >>> ((6 : Int32) &&& 31)) (m := 35) (by decide) (by decide)) o_L_low m_L_64 ⟨by decide, by decide⟩ rfl rfl (by first | exact Nat.le_of_ble_eq_true rfl | simp [Value.category]) (Nat.le_refl _) (Nat.le_refl _) rfl dL_act_50 rfl (kJ ?_); rintro _ I1 P1 ⟨⟨q, hq, rfl⟩, rfl, rfl⟩; refine V_isub dL_act_53 rfl ?_; exact lc_a54 hx hB v w (by omega) (by omega) (by omega)) | (refine V_callS (n := 2) (sp_low l g (w >>> ((6 : Int32) &&& 31)) (m := 12) (by decide) (by decide)) o_L_low m_L_64 ⟨by decide, by decide⟩ rfl rfl (by first | exact Nat.le_of_ble_eq_true rfl | simp [Value.category]) (Nat.le_refl _) (Nat.le_refl _) rfl dL_act_50 rfl (kJ ?_); rintro _ I1 P1 ⟨⟨q, hq, rfl⟩, rfl, rfl⟩; refine V_isub dL_act_53 rfl ?_; exact lc_a54 hx hB v w (by omega) (by omega) (by omega))
  · refine V_bipush (v := 35) (by decide) dL_act_43 rfl ?_
    refine V_goto (tgt := 50) dL_act_45 (by decide) ?_
    first | (refine V_callS (n := 2) (sp_low l g (w >>> ((6 : Int32) &&& 31)) (m := 35) (by decide) (by decide)) o_L_low m_L_64 ⟨by decide, by decide⟩ rfl rfl (by first | exact Nat.le_of_ble_eq_true rfl | simp [Value.category]) (Nat.le_refl _) (Nat.le_refl _) rfl dL_act_50 rfl (kJ ?_); rintro _ I1 P1 ⟨⟨q, hq, rfl⟩, rfl, rfl⟩; refine V_isub dL_act_53 rfl ?_; exact lc_a54 hx hB v w (by omega) (by omega) (by omega)) | (refine V_callS (n := 2) (sp_low l g (w >>> ((6 : Int32) &&& 31)) (m := 12) (by decide) (by decide)) o_L_low m_L_64 ⟨by decide, by decide⟩ rfl rfl (by first | exact Nat.le_of_ble_eq_true rfl | simp [Value.category]) (Nat.le_refl _) (Nat.le_refl _) rfl dL_act_50 rfl (kJ ?_); rintro _ I1 P1 ⟨⟨q, hq, rfl⟩, rfl, rfl⟩; refine V_isub dL_act_53 rfl ?_; exact lc_a54 hx hB v w (by omega) (by omega) (by omega))

set_option maxHeartbeats 4000000 in
set_option maxRecDepth 100000 in
theorem lc_a288 {l : Launch} {g : fw_G} {I : fw_I} {P : fw_P} {s : Nat → Int32} {k : Nat} {h : Nat → Nat → Int32} {B : Nat} (hx : Wd I P s k h B) (hB : B + 100 < 1000000) (v w : Int32) {d : Nat} (d1 : 1 ≤ d) (d6 : d ≤ 6) (j : Nat) (v5 v6 : Int32) : V l g kL_act (T0 nT) 0 0 (qA (B + 100)) (T0 nT) I P 0 0 288 [some (.ref (g.1 + 0)), some (.int v), some (.int w), some (.int (nI j)), some (.int (nI d)), some (.int v5), some (.int v6), none, none] [] := by
  have a0 := at_0 (nT := nT)
  refine V_aload_n (i := 0) rfl rfl dL_act_288 rfl ?_
  refine V_iload (i := 4) rfl dL_act_289 rfl ?_
  refine V_callS (n := 2) (sp_turns l g hx (by omega) d1 d6) o_L_turns m_L_80 ⟨by decide, by decide⟩ rfl rfl (by first | exact Nat.le_of_ble_eq_true rfl | simp [Value.category]) (Nat.le_refl _) (Nat.le_refl _) rfl dL_act_291 rfl (kJ ?_)
  rintro _ I1 P1 ⟨rfl, s1, k1, h1, hw1⟩
  exact V_ireturn rfl (by decide) dL_act_294 rfl rfl rfl (⟨_, rfl, rfl, s1, k1, h1, hw1.mono (by omega) hB⟩)

set_option maxHeartbeats 4000000 in
set_option maxRecDepth 100000 in
theorem lp_a236 {l : Launch} {g : fw_G} {I : fw_I} {P : fw_P} {s : Nat → Int32} {k : Nat} {h : Nat → Nat → Int32} {B : Nat} (hx : Wd I P s k h B) (hB : B + 100 < 1000000) (v w : Int32) (j : Nat) {p : Nat} (hp : p < 4) (h2 : ro s p 2 = 0) : ∀ (n i d : Nat), i + n = 7 → 1 ≤ i → 1 ≤ d → d ≤ 6 → V l g kL_act (T0 nT) 0 0 (qA (B + 100)) (T0 nT) I P 0 0 236 [some (.ref (g.1 + 0)), some (.int v), some (.int w), some (.int (nI j)), some (.int (nI d)), some (.int (nI p)), some (.int (nI i)), none, none] [] := by
  have a0 := at_0 (nT := nT)
  intro n
  induction n with
  | zero =>
    intro i d hi i1 d1 d6
    obtain rfl : i = 7 := by omega
    refine V_iload (i := 6) rfl dL_act_236 rfl ?_
    refine V_bipush (v := 7) (by decide) dL_act_238 rfl ?_
    refine V_icmp_ge (tgt := 288) dL_act_240 (by decide) rfl (fun _ => ?_) (fun h => absurd (by decide) h)
    exact lc_a288 hx hB v w d1 d6 j _ _
  | succ n ih =>
    intro i d hin i1 d1 d6
    have hi : i < 7 := by omega
    refine V_iload (i := 6) rfl dL_act_236 rfl ?_
    refine V_bipush (v := 7) (by decide) dL_act_238 rfl ?_
    refine V_icmp_ge (tgt := 288) dL_act_240 (by decide) rfl (fun h => absurd h (nI_ge (b := 7) hi (by decide))) (fun _ => ?_)
    refine V_iload (i := 5) rfl dL_act_243 rfl ?_
    refine V_if_lt (tgt := 288) dL_act_245 (by decide) rfl (fun h => absurd h (nI_pos (by omega))) (fun _ => ?_)
    refine V_iload_n (i := 2) rfl rfl dL_act_248 rfl ?_
    refine V_iconst (v := 4) (by decide) dL_act_249 rfl ?_
    refine V_ishr dL_act_250 rfl ?_
    refine V_iconst (v := 2) (by decide) dL_act_251 rfl ?_
    refine V_callS (n := 2) (sp_low l g (w >>> ((4 : Int32) &&& 31)) (m := 2) (by decide) (by decide)) o_L_low m_L_64 ⟨by decide, by decide⟩ rfl rfl (by first | exact Nat.le_of_ble_eq_true rfl | simp [Value.category]) (Nat.le_refl _) (Nat.le_refl _) rfl dL_act_252 rfl (kJ ?_)
    rintro _ I1 P1 ⟨⟨r, hr, rfl⟩, rfl, rfl⟩
    refine V_if_ne (tgt := 288) dL_act_255 (by decide) rfl (fun h_255 => ?_) (fun h_255 => ?_)
    · exact lc_a288 hx hB v w d1 d6 j _ _
    · refine V_aload_n (i := 0) rfl rfl dL_act_258 rfl ?_
      refine V_iload (i := 5) rfl dL_act_259 rfl ?_
      refine V_call (n := 1) (q_da hx hp h2) o_X7_dangers m_L_41 ⟨by decide, by decide⟩ (by assumption) rfl rfl (by first | exact Nat.le_of_ble_eq_true rfl | simp [Value.category]) (Nat.le_refl _) (Nat.le_refl _) rfl dL_act_261 rfl (kI ?_)
      refine V_iload (i := 6) rfl dL_act_264 rfl ?_
      refine V_ishr dL_act_266 rfl ?_
      refine V_iconst (v := 1) (by decide) dL_act_267 rfl ?_
      refine V_iand dL_act_268 rfl ?_
      refine V_iconst (v := 1) (by decide) dL_act_269 rfl ?_
      refine V_icmp_ne (tgt := 278) dL_act_270 (by decide) rfl (fun h_270 => ?_) (fun h_270 => ?_)
      · refine V_iload (i := 4) rfl dL_act_278 rfl ?_
        refine V_istore (i := 4) (by decide) rfl dL_act_280 rfl ?_
        refine V_iinc1 (i := 6) rfl (by decide) rfl dL_act_282 rfl ?_
        refine V_goto (tgt := 236) dL_act_285 (by decide) ?_
        rw [nI_1]
        first | exact ih (i + 1) d (by omega) (by omega) d1 d6 | exact ih (i + 1) i (by omega) (by omega) i1 (by omega)
      · refine V_iload (i := 6) rfl dL_act_273 rfl ?_
        refine V_goto (tgt := 280) dL_act_275 (by decide) ?_
        refine V_istore (i := 4) (by decide) rfl dL_act_280 rfl ?_
        refine V_iinc1 (i := 6) rfl (by decide) rfl dL_act_282 rfl ?_
        refine V_goto (tgt := 236) dL_act_285 (by decide) ?_
        rw [nI_1]
        first | exact ih (i + 1) d (by omega) (by omega) d1 d6 | exact ih (i + 1) i (by omega) (by omega) i1 (by omega)

set_option maxHeartbeats 4000000 in
set_option maxRecDepth 100000 in
theorem lc_a216 {l : Launch} {g : fw_G} {I : fw_I} {P : fw_P} {s : Nat → Int32} {k : Nat} {h : Nat → Nat → Int32} {B : Nat} (hx : Wd I P s k h B) (hB : B + 100 < 1000000) (v w : Int32) (j : Nat) : V l g kL_act (T0 nT) 0 0 (qA (B + 100)) (T0 nT) I P 0 0 216 [some (.ref (g.1 + 0)), some (.int v), some (.int w), some (.int (nI j)), none, none, none, none, none] [] := by
  have a0 := at_0 (nT := nT)
  obtain ⟨p, hp, em, hm2, -⟩ := hx.2.1.2.2.2.2.2.2.2.2
  by_cases h4 : s 4 = 4
  · refine V_iconst (v := 1) (by decide) dL_act_216 rfl ?_
    refine V_iload_n (i := 2) rfl rfl dL_act_217 rfl ?_
    refine V_bipush (v := 6) (by decide) dL_act_218 rfl ?_
    refine V_callS (n := 2) (sp_low l g w (m := 6) (by decide) (by decide)) o_L_low m_L_64 ⟨by decide, by decide⟩ rfl rfl (by first | exact Nat.le_of_ble_eq_true rfl | simp [Value.category]) (Nat.le_refl _) (Nat.le_refl _) rfl dL_act_220 rfl (kJ ?_)
    rintro _ I1 P1 ⟨⟨x, hx6, rfl⟩, rfl, rfl⟩
    refine V_iadd dL_act_223 rfl ?_
    rw [show (1 : Int32) = nI 1 from rfl, nI_add]
    refine V_istore (i := 4) (by decide) rfl dL_act_224 rfl ?_
    refine V_aload_n (i := 0) rfl rfl dL_act_226 rfl ?_
    refine V_iconst (v := 1) (by decide) dL_act_227 rfl ?_
    refine V_call (n := 1) (q_ct1 hx) o_X7_count m_L_38 ⟨by decide, by decide⟩ (by assumption) rfl rfl (by first | exact Nat.le_of_ble_eq_true rfl | simp [Value.category]) (Nat.le_refl _) (Nat.le_refl _) rfl dL_act_228 rfl (kI ?_)
    rw [if_pos h4]
    refine V_istore (i := 5) (by decide) rfl dL_act_231 rfl ?_
    refine V_iconst (v := 1) (by decide) dL_act_233 rfl ?_
    refine V_istore (i := 6) (by decide) rfl dL_act_234 rfl ?_
    refine V_iload (i := 6) rfl dL_act_236 rfl ?_
    refine V_bipush (v := 7) (by decide) dL_act_238 rfl ?_
    refine V_icmp_ge (tgt := 288) dL_act_240 (by decide) rfl (fun h => absurd h (by decide)) (fun _ => ?_)
    refine V_iload (i := 5) rfl dL_act_243 rfl ?_
    refine V_if_lt (tgt := 288) dL_act_245 (by decide) rfl (fun _ => ?_) (fun h => absurd (by decide) h)
    exact lc_a288 hx hB v w (by omega) (by omega) j _ _
  · refine V_iconst (v := 1) (by decide) dL_act_216 rfl ?_
    refine V_iload_n (i := 2) rfl rfl dL_act_217 rfl ?_
    refine V_bipush (v := 6) (by decide) dL_act_218 rfl ?_
    refine V_callS (n := 2) (sp_low l g w (m := 6) (by decide) (by decide)) o_L_low m_L_64 ⟨by decide, by decide⟩ rfl rfl (by first | exact Nat.le_of_ble_eq_true rfl | simp [Value.category]) (Nat.le_refl _) (Nat.le_refl _) rfl dL_act_220 rfl (kJ ?_)
    rintro _ I1 P1 ⟨⟨x, hx6, rfl⟩, rfl, rfl⟩
    refine V_iadd dL_act_223 rfl ?_
    rw [show (1 : Int32) = nI 1 from rfl, nI_add]
    refine V_istore (i := 4) (by decide) rfl dL_act_224 rfl ?_
    refine V_aload_n (i := 0) rfl rfl dL_act_226 rfl ?_
    refine V_iconst (v := 1) (by decide) dL_act_227 rfl ?_
    refine V_call (n := 1) (q_ct1 hx) o_X7_count m_L_38 ⟨by decide, by decide⟩ (by assumption) rfl rfl (by first | exact Nat.le_of_ble_eq_true rfl | simp [Value.category]) (Nat.le_refl _) (Nat.le_refl _) rfl dL_act_228 rfl (kI ?_)
    rw [if_neg h4, em]
    refine V_istore (i := 5) (by decide) rfl dL_act_231 rfl ?_
    refine V_iconst (v := 1) (by decide) dL_act_233 rfl ?_
    refine V_istore (i := 6) (by decide) rfl dL_act_234 rfl ?_
    exact lp_a236 hx hB v w j hp (hm2 h4) 6 1 (1 + x) rfl (by decide) (by omega) (by omega)

set_option maxHeartbeats 4000000 in
set_option maxRecDepth 100000 in
theorem lc_a344 {l : Launch} {g : fw_G} {I : fw_I} {P : fw_P} {s : Nat → Int32} {k : Nat} {h : Nat → Nat → Int32} {B : Nat} (hx : Wd I P s k h B) (hB : B + 100 < 1000000) (v w : Int32) (j : Nat) : V l g kL_act (T0 nT) 0 0 (qA (B + 100)) (T0 nT) I P 0 0 344 [some (.ref (g.1 + 0)), some (.int v), some (.int w), some (.int (nI j)), none, none, none, none, none] [] := by
  have a0 := at_0 (nT := nT)
  refine V_aload_n (i := 0) rfl rfl dL_act_344 rfl ?_
  refine V_iload_n (i := 2) rfl rfl dL_act_345 rfl ?_
  refine V_callS (n := 2) (sp_sells l g hx w) o_L_sells m_L_88 ⟨by decide, by decide⟩ rfl rfl (by first | exact Nat.le_of_ble_eq_true rfl | simp [Value.category]) (Nat.le_refl _) (Nat.le_refl _) rfl dL_act_346 rfl (kJ ?_)
  rintro _ I1 P1 ⟨rfl, s1, k1, h1, hw1⟩
  exact V_ireturn rfl (by decide) dL_act_349 rfl rfl rfl (⟨_, rfl, rfl, s1, k1, h1, hw1.mono (by omega) hB⟩)

set_option maxHeartbeats 4000000 in
set_option maxRecDepth 100000 in
theorem lc_a376 {l : Launch} {g : fw_G} {I : fw_I} {P : fw_P} {s : Nat → Int32} {k : Nat} {h : Nat → Nat → Int32} {B : Nat} (hx : Wd I P s k h B) (hB : B + 100 < 1000000) (v w : Int32) (j : Nat) {i b : Nat} (hi : i < 10) (hb : b < 10) : V l g kL_act (T0 nT) 0 0 (qA (B + 100)) (T0 nT) I P 0 0 376 [some (.ref (g.1 + 0)), some (.int v), some (.int w), some (.int (nI j)), some (.int (nI i)), some (.int (nI (1 + b))), none, none, none] [] := by
  have a0 := at_0 (nT := nT)
  have hby : 1 ≤ nI (1 + b) ∧ nI (1 + b) ≤ 10 := ⟨nI_le (a := 1) (by omega) (by omega), nI_le (b := 10) (by omega) (by decide)⟩
  have hcl : (nI i).toNatClampNeg = i := nI_clamp (by omega)
  by_cases h0 : 0 < sn s i 0
  · have hsk : aSk s (nI i) := ⟨le9 hi, by rw [hcl]; exact h0⟩
    have ok : aChaOk s (nI i) (nI (1 + b)) := ⟨hsk, hby⟩
    obtain ⟨-, sl, sl1, el⟩ := hx.2.1.2.2.2.2.1 i hi
    have hB6 := hx.2.1.2.1
    have er : aChaR s (nI i) (nI (1 + b)) = nI sl := by unfold aChaR; rw [if_neg (fun z => z hsk), if_neg (fun z => z hby), hcl, el]
    by_cases h10 : 1 + b = 10
    · have e10 : nI (1 + b) = 10 := by rw [h10]; rfl
      have g0 : ¬ 0 < sn (aChaF s i (nI (1 + b))) i 0 := by
        have : sn (aChaF s i (nI (1 + b))) i 0 = 0 := by
          unfold aChaF sn
          simp (disch := omega) only [upd_ne, upd_eq, if_pos e10]
        rw [this]; decide
      refine V_aload_n (i := 0) rfl rfl dL_act_376 rfl ?_
      refine V_iload (i := 4) rfl dL_act_377 rfl ?_
      refine V_iconst (v := 2) (by decide) dL_act_379 rfl ?_
      refine V_call (n := 2) (q_sn2 hx hi h0) o_X7_snakeOf m_L_48 ⟨by decide, by decide⟩ (by assumption) rfl rfl (by first | exact Nat.le_of_ble_eq_true rfl | simp [Value.category]) (Nat.le_refl _) (Nat.le_refl _) rfl dL_act_380 rfl (kI ?_)
      rw [el]
      refine V_istore (i := 6) (by decide) rfl dL_act_383 rfl ?_
      refine V_aload_n (i := 0) rfl rfl dL_act_385 rfl ?_
      refine V_iload (i := 4) rfl dL_act_386 rfl ?_
      refine V_iload (i := 5) rfl dL_act_388 rfl ?_
      refine V_call (n := 2) (q_charm hx _ _) o_X7_charm m_L_91 ⟨by decide, by decide⟩ (by assumption) rfl rfl (by first | exact Nat.le_of_ble_eq_true rfl | simp [Value.category]) (Nat.le_refl _) (Nat.le_refl _) rfl dL_act_390 rfl (kJ ?_)
      rintro _ I1 P1 ⟨rfl, hm, -⟩
      have hw : Wd I1 P1 (aChaF s i (nI (1 + b))) (rK k) (rH k h s) (B + 9) := by
        rcases hm with ⟨-, sx⟩ | ⟨no, -⟩
        · rw [nI_clamp (by omega)] at sx
          exact ⟨sx, Inv_cha hx.2.1 (by omega) hi hby h0, (J_cha hx.2.1 hx.2.2 hi).mono (by omega)⟩
        · exact absurd ok no
      rw [er]
      refine V_iload (i := 6) rfl dL_act_393 rfl ?_
      refine V_icmp_ne (tgt := 433) dL_act_395 (by decide) rfl (fun h => absurd rfl h) (fun _ => ?_)
      refine V_aload_n (i := 0) rfl rfl dL_act_398 rfl ?_
      refine V_iload (i := 4) rfl dL_act_399 rfl ?_
      refine V_iconst (v := 2) (by decide) dL_act_401 rfl ?_
      refine V_call (n := 2) (q_sn2n hw hi g0) o_X7_snakeOf m_L_48 ⟨by decide, by decide⟩ (by assumption) rfl rfl (by first | exact Nat.le_of_ble_eq_true rfl | simp [Value.category]) (Nat.le_refl _) (Nat.le_refl _) rfl dL_act_402 rfl (kI ?_)
      refine V_iload (i := 6) rfl dL_act_405 rfl ?_
      refine V_if_lt (tgt := 417) dL_act_407 (by decide) rfl (fun h => absurd h (nI_pos (by omega))) (fun _ => ?_)
      refine V_iload (i := 5) rfl dL_act_410 rfl ?_
      refine V_bipush (v := 10) (by decide) dL_act_412 rfl ?_
      refine V_icmp_ne (tgt := 421) dL_act_414 (by decide) rfl (fun h => absurd e10 h) (fun _ => ?_)
      refine V_iconst (v := (-1)) (by decide) dL_act_417 rfl ?_
      refine V_goto (tgt := 426) dL_act_418 (by decide) ?_
      refine V_icmp_ne (tgt := 433) dL_act_426 (by decide) rfl (fun h => absurd rfl h) (fun _ => ?_)
      refine V_iconst (v := 1) (by decide) dL_act_429 rfl ?_
      refine V_goto (tgt := 434) dL_act_430 (by decide) ?_
      exact V_ireturn rfl (by decide) dL_act_434 rfl rfl rfl (⟨_, rfl, rfl, _, _, _, hw.mono (by omega) hB⟩)
    · have n10 : ¬ nI (1 + b) = 10 := fun z => h10 (nI_inj (b := 10) (by omega) (by decide) z)
      have g0 : 0 < sn (aChaF s i (nI (1 + b))) i 0 := by
        have : sn (aChaF s i (nI (1 + b))) i 0 = sn s i 0 := by
          unfold aChaF sn
          simp (disch := omega) only [upd_ne, upd_eq, if_neg n10]
        rw [this]; exact h0
      have g2 : sn (aChaF s i (nI (1 + b))) i 2 = nI sl + nI (1 + b) := by
        rw [← el]
        unfold aChaF sn
        simp (disch := omega) only [upd_ne, upd_eq, if_neg n10]
      refine V_aload_n (i := 0) rfl rfl dL_act_376 rfl ?_
      refine V_iload (i := 4) rfl dL_act_377 rfl ?_
      refine V_iconst (v := 2) (by decide) dL_act_379 rfl ?_
      refine V_call (n := 2) (q_sn2 hx hi h0) o_X7_snakeOf m_L_48 ⟨by decide, by decide⟩ (by assumption) rfl rfl (by first | exact Nat.le_of_ble_eq_true rfl | simp [Value.category]) (Nat.le_refl _) (Nat.le_refl _) rfl dL_act_380 rfl (kI ?_)
      rw [el]
      refine V_istore (i := 6) (by decide) rfl dL_act_383 rfl ?_
      refine V_aload_n (i := 0) rfl rfl dL_act_385 rfl ?_
      refine V_iload (i := 4) rfl dL_act_386 rfl ?_
      refine V_iload (i := 5) rfl dL_act_388 rfl ?_
      refine V_call (n := 2) (q_charm hx _ _) o_X7_charm m_L_91 ⟨by decide, by decide⟩ (by assumption) rfl rfl (by first | exact Nat.le_of_ble_eq_true rfl | simp [Value.category]) (Nat.le_refl _) (Nat.le_refl _) rfl dL_act_390 rfl (kJ ?_)
      rintro _ I1 P1 ⟨rfl, hm, -⟩
      have hw : Wd I1 P1 (aChaF s i (nI (1 + b))) (rK k) (rH k h s) (B + 9) := by
        rcases hm with ⟨-, sx⟩ | ⟨no, -⟩
        · rw [nI_clamp (by omega)] at sx
          exact ⟨sx, Inv_cha hx.2.1 (by omega) hi hby h0, (J_cha hx.2.1 hx.2.2 hi).mono (by omega)⟩
        · exact absurd ok no
      rw [er]
      refine V_iload (i := 6) rfl dL_act_393 rfl ?_
      refine V_icmp_ne (tgt := 433) dL_act_395 (by decide) rfl (fun h => absurd rfl h) (fun _ => ?_)
      refine V_aload_n (i := 0) rfl rfl dL_act_398 rfl ?_
      refine V_iload (i := 4) rfl dL_act_399 rfl ?_
      refine V_iconst (v := 2) (by decide) dL_act_401 rfl ?_
      refine V_call (n := 2) (q_sn2 hw hi g0) o_X7_snakeOf m_L_48 ⟨by decide, by decide⟩ (by assumption) rfl rfl (by first | exact Nat.le_of_ble_eq_true rfl | simp [Value.category]) (Nat.le_refl _) (Nat.le_refl _) rfl dL_act_402 rfl (kI ?_)
      rw [g2]
      refine V_iload (i := 6) rfl dL_act_405 rfl ?_
      refine V_if_lt (tgt := 417) dL_act_407 (by decide) rfl (fun h => absurd h (nI_pos (by omega))) (fun _ => ?_)
      refine V_iload (i := 5) rfl dL_act_410 rfl ?_
      refine V_bipush (v := 10) (by decide) dL_act_412 rfl ?_
      refine V_icmp_ne (tgt := 421) dL_act_414 (by decide) rfl (fun _ => ?_) (fun h => absurd h (fun z => h10 (nI_inj (b := 10) (by omega) (by decide) z)))
      refine V_iload (i := 6) rfl dL_act_421 rfl ?_
      refine V_iload (i := 5) rfl dL_act_423 rfl ?_
      refine V_iadd dL_act_425 rfl ?_
      refine V_icmp_ne (tgt := 433) dL_act_426 (by decide) rfl (fun h => absurd rfl h) (fun _ => ?_)
      refine V_iconst (v := 1) (by decide) dL_act_429 rfl ?_
      refine V_goto (tgt := 434) dL_act_430 (by decide) ?_
      exact V_ireturn rfl (by decide) dL_act_434 rfl rfl rfl (⟨_, rfl, rfl, _, _, _, hw.mono (by omega) hB⟩)
  · have no : ¬ aChaOk s (nI i) (nI (1 + b)) := fun z => h0 (by have := z.1.2; rwa [hcl] at this)
    have er : aChaR s (nI i) (nI (1 + b)) = -1 := by unfold aChaR; rw [if_pos (fun z => h0 (by have := z.2; rwa [hcl] at this))]
    refine V_aload_n (i := 0) rfl rfl dL_act_376 rfl ?_
    refine V_iload (i := 4) rfl dL_act_377 rfl ?_
    refine V_iconst (v := 2) (by decide) dL_act_379 rfl ?_
    refine V_call (n := 2) (q_sn2n hx hi h0) o_X7_snakeOf m_L_48 ⟨by decide, by decide⟩ (by assumption) rfl rfl (by first | exact Nat.le_of_ble_eq_true rfl | simp [Value.category]) (Nat.le_refl _) (Nat.le_refl _) rfl dL_act_380 rfl (kI ?_)
    refine V_istore (i := 6) (by decide) rfl dL_act_383 rfl ?_
    refine V_aload_n (i := 0) rfl rfl dL_act_385 rfl ?_
    refine V_iload (i := 4) rfl dL_act_386 rfl ?_
    refine V_iload (i := 5) rfl dL_act_388 rfl ?_
    refine V_call (n := 2) (q_charm hx _ _) o_X7_charm m_L_91 ⟨by decide, by decide⟩ (by assumption) rfl rfl (by first | exact Nat.le_of_ble_eq_true rfl | simp [Value.category]) (Nat.le_refl _) (Nat.le_refl _) rfl dL_act_390 rfl (kJ ?_)
    rintro _ I1 P1 ⟨rfl, hm, -⟩
    have hx1 : Wd I1 P1 s k h B := hm.elim (fun z => absurd z.1 no) (fun z => hx.to z.2)
    rw [er]
    refine V_iload (i := 6) rfl dL_act_393 rfl ?_
    refine V_icmp_ne (tgt := 433) dL_act_395 (by decide) rfl (fun h => absurd rfl h) (fun _ => ?_)
    refine V_aload_n (i := 0) rfl rfl dL_act_398 rfl ?_
    refine V_iload (i := 4) rfl dL_act_399 rfl ?_
    refine V_iconst (v := 2) (by decide) dL_act_401 rfl ?_
    refine V_call (n := 2) (q_sn2n hx1 hi h0) o_X7_snakeOf m_L_48 ⟨by decide, by decide⟩ (by assumption) rfl rfl (by first | exact Nat.le_of_ble_eq_true rfl | simp [Value.category]) (Nat.le_refl _) (Nat.le_refl _) rfl dL_act_402 rfl (kI ?_)
    refine V_iload (i := 6) rfl dL_act_405 rfl ?_
    refine V_if_lt (tgt := 417) dL_act_407 (by decide) rfl (fun _ => ?_) (fun h => absurd (by decide) h)
    refine V_iconst (v := (-1)) (by decide) dL_act_417 rfl ?_
    refine V_goto (tgt := 426) dL_act_418 (by decide) ?_
    refine V_icmp_ne (tgt := 433) dL_act_426 (by decide) rfl (fun h => absurd rfl h) (fun _ => ?_)
    refine V_iconst (v := 1) (by decide) dL_act_429 rfl ?_
    refine V_goto (tgt := 434) dL_act_430 (by decide) ?_
    exact V_ireturn rfl (by decide) dL_act_434 rfl rfl rfl (⟨_, rfl, rfl, s, k, h, hx1.mono (by omega) hB⟩)

set_option maxHeartbeats 4000000 in
set_option maxRecDepth 100000 in
theorem lc_a356 {l : Launch} {g : fw_G} {I : fw_I} {P : fw_P} {s : Nat → Int32} {k : Nat} {h : Nat → Nat → Int32} {B : Nat} (hx : Wd I P s k h B) (hB : B + 100 < 1000000) (v w : Int32) (j : Nat) : V l g kL_act (T0 nT) 0 0 (qA (B + 100)) (T0 nT) I P 0 0 356 [some (.ref (g.1 + 0)), some (.int v), some (.int w), some (.int (nI j)), none, none, none, none, none] [] := by
  have a0 := at_0 (nT := nT)
  refine V_iload_n (i := 2) rfl rfl dL_act_356 rfl ?_
  refine V_bipush (v := 10) (by decide) dL_act_357 rfl ?_
  refine V_callS (n := 2) (sp_low l g w (m := 10) (by decide) (by decide)) o_L_low m_L_64 ⟨by decide, by decide⟩ rfl rfl (by first | exact Nat.le_of_ble_eq_true rfl | simp [Value.category]) (Nat.le_refl _) (Nat.le_refl _) rfl dL_act_359 rfl (kJ ?_)
  rintro _ I1 P1 ⟨⟨i, hi, rfl⟩, rfl, rfl⟩
  refine V_istore (i := 4) (by decide) rfl dL_act_362 rfl ?_
  refine V_iconst (v := 1) (by decide) dL_act_364 rfl ?_
  refine V_iload_n (i := 2) rfl rfl dL_act_365 rfl ?_
  refine V_iconst (v := 4) (by decide) dL_act_366 rfl ?_
  refine V_ishr dL_act_367 rfl ?_
  refine V_bipush (v := 10) (by decide) dL_act_368 rfl ?_
  refine V_callS (n := 2) (sp_low l g (w >>> ((4 : Int32) &&& 31)) (m := 10) (by decide) (by decide)) o_L_low m_L_64 ⟨by decide, by decide⟩ rfl rfl (by first | exact Nat.le_of_ble_eq_true rfl | simp [Value.category]) (Nat.le_refl _) (Nat.le_refl _) rfl dL_act_370 rfl (kJ ?_)
  rintro _ I1 P1 ⟨⟨b, hb, rfl⟩, rfl, rfl⟩
  refine V_iadd dL_act_373 rfl ?_
  rw [show (1 : Int32) = nI 1 from rfl, nI_add]
  refine V_istore (i := 5) (by decide) rfl dL_act_374 rfl ?_
  exact lc_a376 hx hB v w j hi hb

set_option maxHeartbeats 4000000 in
set_option maxRecDepth 100000 in
theorem lc_a512_0 {l : Launch} {g : fw_G} {I : fw_I} {P : fw_P} {s : Nat → Int32} {k : Nat} {h : Nat → Nat → Int32} {B : Nat} (hx : Wd I P s k h B) (hB : B + 100 < 1000000) (v w : Int32) (j : Nat) {to : Nat} (t1 : 0 ≤ to) (t2 : to ≤ 9) : V l g kL_act (T0 nT) 0 0 (qA (B + 100)) (T0 nT) I P 0 0 512 [some (.ref (g.1 + 0)), some (.int v), some (.int w), some (.int (nI j)), some (.int (nI 0)), some (.int (s 5)), some (.int (nI to)), none, none] [] := by
  have a0 := at_0 (nT := nT)
  have hs3 : aSt3 (nI 0) := by decide
  have hsv : aSeV (nI 0) (nI to) := ⟨nI_pos' (by omega), nI_le (b := 9) t2 (by decide)⟩
  have ok : aSetOk (nI 0) (nI to) := ⟨hs3, hsv⟩
  have er : aSetR s (nI 0) (nI to) = s (5 + 0) := by unfold aSetR; rw [if_neg (fun z => z hs3), if_neg (fun z => z hsv)]; rfl
  have et : aSetF s (nI 0) (nI to) 5 = nI to := upd_eq _ rfl
  refine V_aload_n (i := 0) rfl rfl dL_act_512 rfl ?_
  refine V_iload (i := 4) rfl dL_act_513 rfl ?_
  refine V_iload (i := 6) rfl dL_act_515 rfl ?_
  refine V_call (n := 2) (q_set hx _ _) o_X7_set m_L_94 ⟨by decide, by decide⟩ (by assumption) rfl rfl (by first | exact Nat.le_of_ble_eq_true rfl | simp [Value.category]) (Nat.le_refl _) (Nat.le_refl _) rfl dL_act_517 rfl (kJ ?_)
  rintro _ I1 P1 ⟨rfl, hm, -⟩
  have hw : Wd I1 P1 (aSetF s (nI 0) (nI to)) (rK k) (rH k h s) B := by
    rcases hm with ⟨-, sx⟩ | ⟨no, -⟩
    · exact ⟨sx, Inv_set hx.2.1 ok, J_set hx.2.1 hx.2.2 ok⟩
    · exact absurd ok no
  rw [show aSetR s (nI 0) (nI to) = s (5 + 0) from er]
  refine V_iload (i := 5) rfl dL_act_520 rfl ?_
  refine V_icmp_ne (tgt := 543) dL_act_522 (by decide) rfl (fun h => absurd rfl h) (fun _ => ?_)
  refine V_aload_n (i := 0) rfl rfl dL_act_525 rfl ?_
  refine V_bipush (v := 8) (by decide) dL_act_526 rfl ?_
  refine V_iload (i := 4) rfl dL_act_528 rfl ?_
  refine V_iadd dL_act_530 rfl ?_
  rw [show (8 : Int32) + nI 0 = 8 from rfl]
  refine V_call (n := 1) (q_ct8 hw) o_X7_count m_L_38 ⟨by decide, by decide⟩ (by assumption) rfl rfl (by first | exact Nat.le_of_ble_eq_true rfl | simp [Value.category]) (Nat.le_refl _) (Nat.le_refl _) rfl dL_act_531 rfl (kI ?_)
  rw [et]
  refine V_iload (i := 6) rfl dL_act_534 rfl ?_
  refine V_icmp_ne (tgt := 543) dL_act_536 (by decide) rfl (fun h => absurd rfl h) (fun _ => ?_)
  refine V_iconst (v := 1) (by decide) dL_act_539 rfl ?_
  refine V_goto (tgt := 544) dL_act_540 (by decide) ?_
  exact V_ireturn rfl (by decide) dL_act_544 rfl rfl rfl (⟨_, rfl, rfl, _, _, _, hw.mono (by omega) hB⟩)

set_option maxHeartbeats 4000000 in
set_option maxRecDepth 100000 in
theorem lc_a512_1 {l : Launch} {g : fw_G} {I : fw_I} {P : fw_P} {s : Nat → Int32} {k : Nat} {h : Nat → Nat → Int32} {B : Nat} (hx : Wd I P s k h B) (hB : B + 100 < 1000000) (v w : Int32) (j : Nat) {to : Nat} (t1 : 0 ≤ to) (t2 : to ≤ 50) : V l g kL_act (T0 nT) 0 0 (qA (B + 100)) (T0 nT) I P 0 0 512 [some (.ref (g.1 + 0)), some (.int v), some (.int w), some (.int (nI j)), some (.int (nI 1)), some (.int (s 6)), some (.int (nI to)), none, none] [] := by
  have a0 := at_0 (nT := nT)
  have hs3 : aSt3 (nI 1) := by decide
  have hsv : aSeV (nI 1) (nI to) := ⟨nI_pos' (by omega), nI_le (b := 50) t2 (by decide)⟩
  have ok : aSetOk (nI 1) (nI to) := ⟨hs3, hsv⟩
  have er : aSetR s (nI 1) (nI to) = s (5 + 1) := by unfold aSetR; rw [if_neg (fun z => z hs3), if_neg (fun z => z hsv)]; rfl
  have et : aSetF s (nI 1) (nI to) 6 = nI to := upd_eq _ rfl
  refine V_aload_n (i := 0) rfl rfl dL_act_512 rfl ?_
  refine V_iload (i := 4) rfl dL_act_513 rfl ?_
  refine V_iload (i := 6) rfl dL_act_515 rfl ?_
  refine V_call (n := 2) (q_set hx _ _) o_X7_set m_L_94 ⟨by decide, by decide⟩ (by assumption) rfl rfl (by first | exact Nat.le_of_ble_eq_true rfl | simp [Value.category]) (Nat.le_refl _) (Nat.le_refl _) rfl dL_act_517 rfl (kJ ?_)
  rintro _ I1 P1 ⟨rfl, hm, -⟩
  have hw : Wd I1 P1 (aSetF s (nI 1) (nI to)) (rK k) (rH k h s) B := by
    rcases hm with ⟨-, sx⟩ | ⟨no, -⟩
    · exact ⟨sx, Inv_set hx.2.1 ok, J_set hx.2.1 hx.2.2 ok⟩
    · exact absurd ok no
  rw [show aSetR s (nI 1) (nI to) = s (5 + 1) from er]
  refine V_iload (i := 5) rfl dL_act_520 rfl ?_
  refine V_icmp_ne (tgt := 543) dL_act_522 (by decide) rfl (fun h => absurd rfl h) (fun _ => ?_)
  refine V_aload_n (i := 0) rfl rfl dL_act_525 rfl ?_
  refine V_bipush (v := 8) (by decide) dL_act_526 rfl ?_
  refine V_iload (i := 4) rfl dL_act_528 rfl ?_
  refine V_iadd dL_act_530 rfl ?_
  rw [show (8 : Int32) + nI 1 = 9 from rfl]
  refine V_call (n := 1) (q_ct9 hw) o_X7_count m_L_38 ⟨by decide, by decide⟩ (by assumption) rfl rfl (by first | exact Nat.le_of_ble_eq_true rfl | simp [Value.category]) (Nat.le_refl _) (Nat.le_refl _) rfl dL_act_531 rfl (kI ?_)
  rw [et]
  refine V_iload (i := 6) rfl dL_act_534 rfl ?_
  refine V_icmp_ne (tgt := 543) dL_act_536 (by decide) rfl (fun h => absurd rfl h) (fun _ => ?_)
  refine V_iconst (v := 1) (by decide) dL_act_539 rfl ?_
  refine V_goto (tgt := 544) dL_act_540 (by decide) ?_
  exact V_ireturn rfl (by decide) dL_act_544 rfl rfl rfl (⟨_, rfl, rfl, _, _, _, hw.mono (by omega) hB⟩)

set_option maxHeartbeats 4000000 in
set_option maxRecDepth 100000 in
theorem lc_a512_2 {l : Launch} {g : fw_G} {I : fw_I} {P : fw_P} {s : Nat → Int32} {k : Nat} {h : Nat → Nat → Int32} {B : Nat} (hx : Wd I P s k h B) (hB : B + 100 < 1000000) (v w : Int32) (j : Nat) {to : Nat} (t1 : 1 ≤ to) (t2 : to ≤ 3) : V l g kL_act (T0 nT) 0 0 (qA (B + 100)) (T0 nT) I P 0 0 512 [some (.ref (g.1 + 0)), some (.int v), some (.int w), some (.int (nI j)), some (.int (nI 2)), some (.int (s 7)), some (.int (nI to)), none, none] [] := by
  have a0 := at_0 (nT := nT)
  have hs3 : aSt3 (nI 2) := by decide
  have hsv : aSeV (nI 2) (nI to) := ⟨nI_le (a := 1) t1 (by omega), nI_le (b := 3) t2 (by decide)⟩
  have ok : aSetOk (nI 2) (nI to) := ⟨hs3, hsv⟩
  have er : aSetR s (nI 2) (nI to) = s (5 + 2) := by unfold aSetR; rw [if_neg (fun z => z hs3), if_neg (fun z => z hsv)]; rfl
  have et : aSetF s (nI 2) (nI to) 7 = nI to := upd_eq _ rfl
  refine V_aload_n (i := 0) rfl rfl dL_act_512 rfl ?_
  refine V_iload (i := 4) rfl dL_act_513 rfl ?_
  refine V_iload (i := 6) rfl dL_act_515 rfl ?_
  refine V_call (n := 2) (q_set hx _ _) o_X7_set m_L_94 ⟨by decide, by decide⟩ (by assumption) rfl rfl (by first | exact Nat.le_of_ble_eq_true rfl | simp [Value.category]) (Nat.le_refl _) (Nat.le_refl _) rfl dL_act_517 rfl (kJ ?_)
  rintro _ I1 P1 ⟨rfl, hm, -⟩
  have hw : Wd I1 P1 (aSetF s (nI 2) (nI to)) (rK k) (rH k h s) B := by
    rcases hm with ⟨-, sx⟩ | ⟨no, -⟩
    · exact ⟨sx, Inv_set hx.2.1 ok, J_set hx.2.1 hx.2.2 ok⟩
    · exact absurd ok no
  rw [show aSetR s (nI 2) (nI to) = s (5 + 2) from er]
  refine V_iload (i := 5) rfl dL_act_520 rfl ?_
  refine V_icmp_ne (tgt := 543) dL_act_522 (by decide) rfl (fun h => absurd rfl h) (fun _ => ?_)
  refine V_aload_n (i := 0) rfl rfl dL_act_525 rfl ?_
  refine V_bipush (v := 8) (by decide) dL_act_526 rfl ?_
  refine V_iload (i := 4) rfl dL_act_528 rfl ?_
  refine V_iadd dL_act_530 rfl ?_
  rw [show (8 : Int32) + nI 2 = 10 from rfl]
  refine V_call (n := 1) (q_ct10 hw) o_X7_count m_L_38 ⟨by decide, by decide⟩ (by assumption) rfl rfl (by first | exact Nat.le_of_ble_eq_true rfl | simp [Value.category]) (Nat.le_refl _) (Nat.le_refl _) rfl dL_act_531 rfl (kI ?_)
  rw [et]
  refine V_iload (i := 6) rfl dL_act_534 rfl ?_
  refine V_icmp_ne (tgt := 543) dL_act_536 (by decide) rfl (fun h => absurd rfl h) (fun _ => ?_)
  refine V_iconst (v := 1) (by decide) dL_act_539 rfl ?_
  refine V_goto (tgt := 544) dL_act_540 (by decide) ?_
  exact V_ireturn rfl (by decide) dL_act_544 rfl rfl rfl (⟨_, rfl, rfl, _, _, _, hw.mono (by omega) hB⟩)

set_option maxHeartbeats 4000000 in
set_option maxRecDepth 100000 in
theorem lc_a435 {l : Launch} {g : fw_G} {I : fw_I} {P : fw_P} {s : Nat → Int32} {k : Nat} {h : Nat → Nat → Int32} {B : Nat} (hx : Wd I P s k h B) (hB : B + 100 < 1000000) (v w : Int32) (j : Nat) : V l g kL_act (T0 nT) 0 0 (qA (B + 100)) (T0 nT) I P 0 0 435 [some (.ref (g.1 + 0)), some (.int v), some (.int w), some (.int (nI j)), none, none, none, none, none] [] := by
  have a0 := at_0 (nT := nT)
  refine V_iload_n (i := 2) rfl rfl dL_act_435 rfl ?_
  refine V_iconst (v := 3) (by decide) dL_act_436 rfl ?_
  refine V_callS (n := 2) (sp_low l g w (m := 3) (by decide) (by decide)) o_L_low m_L_64 ⟨by decide, by decide⟩ rfl rfl (by first | exact Nat.le_of_ble_eq_true rfl | simp [Value.category]) (Nat.le_refl _) (Nat.le_refl _) rfl dL_act_437 rfl (kJ ?_)
  rintro _ I1 P1 ⟨⟨i, hi, rfl⟩, rfl, rfl⟩
  have K0 : ∀ i, i < 3 → i = 0 ∨ i = 1 ∨ i = 2 := fun i hi => by omega
  rcases K0 i hi with rfl | rfl | rfl
  · refine V_istore (i := 4) (by decide) rfl dL_act_440 rfl ?_
    refine V_aload_n (i := 0) rfl rfl dL_act_442 rfl ?_
    refine V_bipush (v := 8) (by decide) dL_act_443 rfl ?_
    refine V_iload (i := 4) rfl dL_act_445 rfl ?_
    refine V_iadd dL_act_447 rfl ?_
    rw [show (8 : Int32) + nI 0 = 8 from rfl]
    refine V_call (n := 1) (q_ct8 hx) o_X7_count m_L_38 ⟨by decide, by decide⟩ (by assumption) rfl rfl (by first | exact Nat.le_of_ble_eq_true rfl | simp [Value.category]) (Nat.le_refl _) (Nat.le_refl _) rfl dL_act_448 rfl (kI ?_)
    refine V_istore (i := 5) (by decide) rfl dL_act_451 rfl ?_
    refine V_iload (i := 4) rfl dL_act_453 rfl ?_
    refine V_if_ne (tgt := 484) dL_act_455 (by decide) rfl (fun h => absurd rfl h) (fun _ => ?_)
    refine V_iload_n (i := 2) rfl rfl dL_act_458 rfl ?_
    refine V_iconst (v := 2) (by decide) dL_act_459 rfl ?_
    refine V_ishr dL_act_460 rfl ?_
    refine V_iload_n (i := 2) rfl rfl dL_act_461 rfl ?_
    refine V_bipush (v := 9) (by decide) dL_act_462 rfl ?_
    refine V_ishr dL_act_464 rfl ?_
    refine V_iconst (v := 2) (by decide) dL_act_465 rfl ?_
    refine V_callS (n := 2) (sp_low l g (w >>> ((9 : Int32) &&& 31)) (m := 2) (by decide) (by decide)) o_L_low m_L_64 ⟨by decide, by decide⟩ rfl rfl (by first | exact Nat.le_of_ble_eq_true rfl | simp [Value.category]) (Nat.le_refl _) (Nat.le_refl _) rfl dL_act_466 rfl (kJ ?_)
    rintro _ I1 P1 ⟨⟨r, hr, rfl⟩, rfl, rfl⟩
    refine V_if_ne (tgt := 477) dL_act_469 (by decide) rfl (fun h_469 => ?_) (fun h_469 => ?_)
    · refine V_iconst (v := 2) (by decide) dL_act_477 rfl ?_
      first | (refine V_callS (n := 2) (sp_low l g (w >>> ((2 : Int32) &&& 31)) (m := 10) (by decide) (by decide)) o_L_low m_L_64 ⟨by decide, by decide⟩ rfl rfl (by first | exact Nat.le_of_ble_eq_true rfl | simp [Value.category]) (Nat.le_refl _) (Nat.le_refl _) rfl dL_act_478 rfl (kJ ?_); rintro _ I1 P1 ⟨⟨to, hto, rfl⟩, rfl, rfl⟩; refine V_goto (tgt := 510) dL_act_481 (by decide) ?_; refine V_istore (i := 6) (by decide) rfl dL_act_510 rfl ?_; exact lc_a512_0 hx hB v w j (Nat.zero_le _) (by omega)) | (refine V_callS (n := 2) (sp_low l g (w >>> ((2 : Int32) &&& 31)) (m := 2) (by decide) (by decide)) o_L_low m_L_64 ⟨by decide, by decide⟩ rfl rfl (by first | exact Nat.le_of_ble_eq_true rfl | simp [Value.category]) (Nat.le_refl _) (Nat.le_refl _) rfl dL_act_478 rfl (kJ ?_); rintro _ I1 P1 ⟨⟨to, hto, rfl⟩, rfl, rfl⟩; refine V_goto (tgt := 510) dL_act_481 (by decide) ?_; refine V_istore (i := 6) (by decide) rfl dL_act_510 rfl ?_; exact lc_a512_0 hx hB v w j (Nat.zero_le _) (by omega))
    · refine V_bipush (v := 10) (by decide) dL_act_472 rfl ?_
      refine V_goto (tgt := 478) dL_act_474 (by decide) ?_
      first | (refine V_callS (n := 2) (sp_low l g (w >>> ((2 : Int32) &&& 31)) (m := 10) (by decide) (by decide)) o_L_low m_L_64 ⟨by decide, by decide⟩ rfl rfl (by first | exact Nat.le_of_ble_eq_true rfl | simp [Value.category]) (Nat.le_refl _) (Nat.le_refl _) rfl dL_act_478 rfl (kJ ?_); rintro _ I1 P1 ⟨⟨to, hto, rfl⟩, rfl, rfl⟩; refine V_goto (tgt := 510) dL_act_481 (by decide) ?_; refine V_istore (i := 6) (by decide) rfl dL_act_510 rfl ?_; exact lc_a512_0 hx hB v w j (Nat.zero_le _) (by omega)) | (refine V_callS (n := 2) (sp_low l g (w >>> ((2 : Int32) &&& 31)) (m := 2) (by decide) (by decide)) o_L_low m_L_64 ⟨by decide, by decide⟩ rfl rfl (by first | exact Nat.le_of_ble_eq_true rfl | simp [Value.category]) (Nat.le_refl _) (Nat.le_refl _) rfl dL_act_478 rfl (kJ ?_); rintro _ I1 P1 ⟨⟨to, hto, rfl⟩, rfl, rfl⟩; refine V_goto (tgt := 510) dL_act_481 (by decide) ?_; refine V_istore (i := 6) (by decide) rfl dL_act_510 rfl ?_; exact lc_a512_0 hx hB v w j (Nat.zero_le _) (by omega))
  · refine V_istore (i := 4) (by decide) rfl dL_act_440 rfl ?_
    refine V_aload_n (i := 0) rfl rfl dL_act_442 rfl ?_
    refine V_bipush (v := 8) (by decide) dL_act_443 rfl ?_
    refine V_iload (i := 4) rfl dL_act_445 rfl ?_
    refine V_iadd dL_act_447 rfl ?_
    rw [show (8 : Int32) + nI 1 = 9 from rfl]
    refine V_call (n := 1) (q_ct9 hx) o_X7_count m_L_38 ⟨by decide, by decide⟩ (by assumption) rfl rfl (by first | exact Nat.le_of_ble_eq_true rfl | simp [Value.category]) (Nat.le_refl _) (Nat.le_refl _) rfl dL_act_448 rfl (kI ?_)
    refine V_istore (i := 5) (by decide) rfl dL_act_451 rfl ?_
    refine V_iload (i := 4) rfl dL_act_453 rfl ?_
    refine V_if_ne (tgt := 484) dL_act_455 (by decide) rfl (fun _ => ?_) (fun h => absurd h (by decide))
    refine V_iload (i := 4) rfl dL_act_484 rfl ?_
    refine V_iconst (v := 1) (by decide) dL_act_486 rfl ?_
    refine V_icmp_ne (tgt := 501) dL_act_487 (by decide) rfl (fun h => absurd rfl h) (fun _ => ?_)
    refine V_iload_n (i := 2) rfl rfl dL_act_490 rfl ?_
    refine V_iconst (v := 2) (by decide) dL_act_491 rfl ?_
    refine V_ishr dL_act_492 rfl ?_
    refine V_bipush (v := 51) (by decide) dL_act_493 rfl ?_
    refine V_callS (n := 2) (sp_low l g (w >>> ((2 : Int32) &&& 31)) (m := 51) (by decide) (by decide)) o_L_low m_L_64 ⟨by decide, by decide⟩ rfl rfl (by first | exact Nat.le_of_ble_eq_true rfl | simp [Value.category]) (Nat.le_refl _) (Nat.le_refl _) rfl dL_act_495 rfl (kJ ?_)
    rintro _ I1 P1 ⟨⟨to, hto, rfl⟩, rfl, rfl⟩
    refine V_goto (tgt := 510) dL_act_498 (by decide) ?_
    refine V_istore (i := 6) (by decide) rfl dL_act_510 rfl ?_
    exact lc_a512_1 hx hB v w j (by omega) (by omega)
  · refine V_istore (i := 4) (by decide) rfl dL_act_440 rfl ?_
    refine V_aload_n (i := 0) rfl rfl dL_act_442 rfl ?_
    refine V_bipush (v := 8) (by decide) dL_act_443 rfl ?_
    refine V_iload (i := 4) rfl dL_act_445 rfl ?_
    refine V_iadd dL_act_447 rfl ?_
    rw [show (8 : Int32) + nI 2 = 10 from rfl]
    refine V_call (n := 1) (q_ct10 hx) o_X7_count m_L_38 ⟨by decide, by decide⟩ (by assumption) rfl rfl (by first | exact Nat.le_of_ble_eq_true rfl | simp [Value.category]) (Nat.le_refl _) (Nat.le_refl _) rfl dL_act_448 rfl (kI ?_)
    refine V_istore (i := 5) (by decide) rfl dL_act_451 rfl ?_
    refine V_iload (i := 4) rfl dL_act_453 rfl ?_
    refine V_if_ne (tgt := 484) dL_act_455 (by decide) rfl (fun _ => ?_) (fun h => absurd h (by decide))
    refine V_iload (i := 4) rfl dL_act_484 rfl ?_
    refine V_iconst (v := 1) (by decide) dL_act_486 rfl ?_
    refine V_icmp_ne (tgt := 501) dL_act_487 (by decide) rfl (fun _ => ?_) (fun h => absurd h (by decide))
    refine V_iconst (v := 1) (by decide) dL_act_501 rfl ?_
    refine V_iload_n (i := 2) rfl rfl dL_act_502 rfl ?_
    refine V_iconst (v := 2) (by decide) dL_act_503 rfl ?_
    refine V_ishr dL_act_504 rfl ?_
    refine V_iconst (v := 3) (by decide) dL_act_505 rfl ?_
    refine V_callS (n := 2) (sp_low l g (w >>> ((2 : Int32) &&& 31)) (m := 3) (by decide) (by decide)) o_L_low m_L_64 ⟨by decide, by decide⟩ rfl rfl (by first | exact Nat.le_of_ble_eq_true rfl | simp [Value.category]) (Nat.le_refl _) (Nat.le_refl _) rfl dL_act_506 rfl (kJ ?_)
    rintro _ I1 P1 ⟨⟨to, hto, rfl⟩, rfl, rfl⟩
    refine V_iadd dL_act_509 rfl ?_
    rw [show (1 : Int32) = nI 1 from rfl, nI_add]
    refine V_istore (i := 6) (by decide) rfl dL_act_510 rfl ?_
    exact lc_a512_2 hx hB v w j (by omega) (by omega)

set_option maxHeartbeats 4000000 in
set_option maxRecDepth 100000 in
theorem lc_a301 {l : Launch} {g : fw_G} {I : fw_I} {P : fw_P} {s : Nat → Int32} {k : Nat} {h : Nat → Nat → Int32} {B : Nat} (hx : Wd I P s k h B) (hB : B + 100 < 1000000) (v w : Int32) (j : Nat) : V l g kL_act (T0 (nT + 1)) 1 4 (qA (B + 100)) (T0 nT) I P 0 0 301 [some (.ref (g.1 + 0)), some (.int v), some (.int w), some (.int (nI j)), none, none, none, none, none] [] := by
  have a0 := at_0 (nT := nT)
  refine V_aload_n (i := 0) rfl rfl dL_act_301 rfl ?_
  refine V_iload_n (i := 2) rfl rfl dL_act_302 rfl ?_
  refine V_ldc cst_L_83 dL_act_303 rfl ?_
  refine V_callS (n := 2) (sp_low l g w (m := 65536) (by decide) (by decide)) o_L_low m_L_64 ⟨by decide, by decide⟩ rfl rfl (by first | exact Nat.le_of_ble_eq_true rfl | simp [Value.category]) (by decide) (by decide) rfl dL_act_305 rfl (kJ ?_)
  rintro _ I1 P1 ⟨⟨x, hx65, rfl⟩, rfl, rfl⟩
  refine V_iconst (v := 1) (by decide) dL_act_308 rfl ?_
  refine V_iload_n (i := 2) rfl rfl dL_act_309 rfl ?_
  refine V_iconst (v := 5) (by decide) dL_act_310 rfl ?_
  refine V_ishr dL_act_311 rfl ?_
  refine V_iload_n (i := 2) rfl rfl dL_act_312 rfl ?_
  refine V_bipush (v := 12) (by decide) dL_act_313 rfl ?_
  refine V_ishr dL_act_315 rfl ?_
  refine V_iconst (v := 4) (by decide) dL_act_316 rfl ?_
  refine V_callS (n := 2) (sp_low l g (w >>> ((12 : Int32) &&& 31)) (m := 4) (by decide) (by decide)) o_L_low m_L_64 ⟨by decide, by decide⟩ rfl rfl (by first | exact Nat.le_of_ble_eq_true rfl | simp [Value.category]) (by decide) (by decide) rfl dL_act_317 rfl (kJ ?_)
  rintro _ I1 P1 ⟨⟨r, hr, rfl⟩, rfl, rfl⟩
  refine V_if_ne (tgt := 328) dL_act_320 (by decide) rfl (fun h_320 => ?_) (fun h_320 => ?_)
  · refine V_bipush (v := 8) (by decide) dL_act_328 rfl ?_
    first | (refine V_callS (n := 2) (sp_low l g (w >>> ((5 : Int32) &&& 31)) (m := 50) (by decide) (by decide)) o_L_low m_L_64 ⟨by decide, by decide⟩ rfl rfl (by first | exact Nat.le_of_ble_eq_true rfl | simp [Value.category]) (by decide) (by decide) rfl dL_act_330 rfl (kJ ?_); rintro _ I1 P1 ⟨⟨m, hm, rfl⟩, rfl, rfl⟩; refine V_iadd dL_act_333 rfl ?_; rw [show (1 : Int32) = nI 1 from rfl, nI_add]; refine V_callS (n := 3) (sp_plays l g hx hB (show x ≤ 65535 by omega) (show 1 ≤ 1 + m by omega) (show 1 + m ≤ 50 by omega)) o_L_plays m_L_84 ⟨by decide, by decide⟩ rfl rfl (by first | exact Nat.le_of_ble_eq_true rfl | simp [Value.category]) (by decide) (by decide) rfl dL_act_334 rfl (kJ ?_); rintro _ I1 P1 ⟨rfl, s1, k1, h1, hw1⟩; exact V_ireturn rfl (by decide) dL_act_337 rfl rfl rfl ⟨_, rfl, rfl, s1, k1, h1, hw1⟩) | (refine V_callS (n := 2) (sp_low l g (w >>> ((5 : Int32) &&& 31)) (m := 8) (by decide) (by decide)) o_L_low m_L_64 ⟨by decide, by decide⟩ rfl rfl (by first | exact Nat.le_of_ble_eq_true rfl | simp [Value.category]) (by decide) (by decide) rfl dL_act_330 rfl (kJ ?_); rintro _ I1 P1 ⟨⟨m, hm, rfl⟩, rfl, rfl⟩; refine V_iadd dL_act_333 rfl ?_; rw [show (1 : Int32) = nI 1 from rfl, nI_add]; refine V_callS (n := 3) (sp_plays l g hx hB (show x ≤ 65535 by omega) (show 1 ≤ 1 + m by omega) (show 1 + m ≤ 50 by omega)) o_L_plays m_L_84 ⟨by decide, by decide⟩ rfl rfl (by first | exact Nat.le_of_ble_eq_true rfl | simp [Value.category]) (by decide) (by decide) rfl dL_act_334 rfl (kJ ?_); rintro _ I1 P1 ⟨rfl, s1, k1, h1, hw1⟩; exact V_ireturn rfl (by decide) dL_act_337 rfl rfl rfl ⟨_, rfl, rfl, s1, k1, h1, hw1⟩)
  · refine V_bipush (v := 50) (by decide) dL_act_323 rfl ?_
    refine V_goto (tgt := 330) dL_act_325 (by decide) ?_
    first | (refine V_callS (n := 2) (sp_low l g (w >>> ((5 : Int32) &&& 31)) (m := 50) (by decide) (by decide)) o_L_low m_L_64 ⟨by decide, by decide⟩ rfl rfl (by first | exact Nat.le_of_ble_eq_true rfl | simp [Value.category]) (by decide) (by decide) rfl dL_act_330 rfl (kJ ?_); rintro _ I1 P1 ⟨⟨m, hm, rfl⟩, rfl, rfl⟩; refine V_iadd dL_act_333 rfl ?_; rw [show (1 : Int32) = nI 1 from rfl, nI_add]; refine V_callS (n := 3) (sp_plays l g hx hB (show x ≤ 65535 by omega) (show 1 ≤ 1 + m by omega) (show 1 + m ≤ 50 by omega)) o_L_plays m_L_84 ⟨by decide, by decide⟩ rfl rfl (by first | exact Nat.le_of_ble_eq_true rfl | simp [Value.category]) (by decide) (by decide) rfl dL_act_334 rfl (kJ ?_); rintro _ I1 P1 ⟨rfl, s1, k1, h1, hw1⟩; exact V_ireturn rfl (by decide) dL_act_337 rfl rfl rfl ⟨_, rfl, rfl, s1, k1, h1, hw1⟩) | (refine V_callS (n := 2) (sp_low l g (w >>> ((5 : Int32) &&& 31)) (m := 8) (by decide) (by decide)) o_L_low m_L_64 ⟨by decide, by decide⟩ rfl rfl (by first | exact Nat.le_of_ble_eq_true rfl | simp [Value.category]) (by decide) (by decide) rfl dL_act_330 rfl (kJ ?_); rintro _ I1 P1 ⟨⟨m, hm, rfl⟩, rfl, rfl⟩; refine V_iadd dL_act_333 rfl ?_; rw [show (1 : Int32) = nI 1 from rfl, nI_add]; refine V_callS (n := 3) (sp_plays l g hx hB (show x ≤ 65535 by omega) (show 1 ≤ 1 + m by omega) (show 1 + m ≤ 50 by omega)) o_L_plays m_L_84 ⟨by decide, by decide⟩ rfl rfl (by first | exact Nat.le_of_ble_eq_true rfl | simp [Value.category]) (by decide) (by decide) rfl dL_act_334 rfl (kJ ?_); rintro _ I1 P1 ⟨rfl, s1, k1, h1, hw1⟩; exact V_ireturn rfl (by decide) dL_act_337 rfl rfl rfl ⟨_, rfl, rfl, s1, k1, h1, hw1⟩)

set_option maxHeartbeats 4000000 in
set_option maxRecDepth 100000 in
theorem sp_lowV (l : Launch) (g : fw_G) {I : fw_I} {P : fw_P} (v : Int32) {m : Nat} (h0 : 0 < m) (hm : m < 2 ^ 31) : Sp l g kL_low (T0 nT) [.int v, .int (nI m)] I P (T0 nT) 0 0 (qI (lowV v (nI m)) I P) := by
  refine Sp.of_V (L := [some (.int v), some (.int (nI m))]) (by decide) (by simp [Value.category]) (Nat.le_of_ble_eq_true rfl) rfl ?_
  refine V_iload_n (i := 0) rfl rfl dL_low_0 rfl ?_
  refine V_ldc cst_L_9 dL_low_1 rfl ?_
  refine V_iand dL_low_3 rfl ?_
  refine V_iload_n (i := 1) rfl rfl dL_low_4 rfl ?_
  refine V_irem (fun z => by have := nI_eq0 z hm; omega) dL_low_5 rfl ?_
  exact V_ireturn rfl rfl dL_low_6 rfl rfl rfl (qI.of rfl)

set_option maxHeartbeats 4000000 in
set_option maxRecDepth 100000 in
theorem sp_actO (l : Launch) (g : fw_G) {I : fw_I} {P : fw_P} {s : Nat → Int32} {k : Nat} {h : Nat → Nat → Int32} {B : Nat} (hx : Wd I P s k h B) (hB : B + 100 < 1000000) (v w : Int32) (h12 : ¬ lowV v (nI 20) = 12) : Sp l g kL_act (T0 nT) [.ref (g.1 + 0), .int v, .int w] I P (T0 nT) 0 0 (qA (B + 100)) := by
  have a0 := at_0 (nT := nT)
  obtain ⟨j, hj, ej⟩ := low_n v (m := 20) (by decide) (by decide)
  have ej : lowV v (nI 20) = nI j := ej
  have n12 : ¬ j = 12 := fun z => h12 (by rw [ej, z]; rfl)
  refine Sp.of_V (L := [some (.ref (g.1 + 0)), some (.int v), some (.int w), none, none, none, none, none, none]) (by decide) (by simp [Value.category]) (Nat.le_of_ble_eq_true rfl) rfl ?_
  by_cases c0 : j < 4
  · refine V_iload_n (i := 1) rfl rfl dL_act_0 rfl ?_
    refine V_bipush (v := 20) (by decide) dL_act_1 rfl ?_
    refine V_callS (n := 2) (sp_lowV l g v (m := 20) (by decide) (by decide)) o_L_low m_L_64 ⟨by decide, by decide⟩ rfl rfl (by first | exact Nat.le_of_ble_eq_true rfl | simp [Value.category]) (Nat.le_refl _) (Nat.le_refl _) rfl dL_act_3 rfl (kI ?_)
    rw [ej]
    refine V_istore_n (i := 3) rfl (by decide) rfl dL_act_6 rfl ?_
    refine V_iload_n (i := 3) rfl rfl dL_act_7 rfl ?_
    refine V_iconst (v := 4) (by decide) dL_act_8 rfl ?_
    refine V_icmp_ge (tgt := 210) dL_act_9 (by decide) rfl (fun h => absurd h (nI_ge (b := 4) (by omega) (by decide))) (fun _ => ?_)
    exact lc_a12 hx hB v w j
  by_cases c1 : j < 12
  · refine V_iload_n (i := 1) rfl rfl dL_act_0 rfl ?_
    refine V_bipush (v := 20) (by decide) dL_act_1 rfl ?_
    refine V_callS (n := 2) (sp_lowV l g v (m := 20) (by decide) (by decide)) o_L_low m_L_64 ⟨by decide, by decide⟩ rfl rfl (by first | exact Nat.le_of_ble_eq_true rfl | simp [Value.category]) (Nat.le_refl _) (Nat.le_refl _) rfl dL_act_3 rfl (kI ?_)
    rw [ej]
    refine V_istore_n (i := 3) rfl (by decide) rfl dL_act_6 rfl ?_
    refine V_iload_n (i := 3) rfl rfl dL_act_7 rfl ?_
    refine V_iconst (v := 4) (by decide) dL_act_8 rfl ?_
    refine V_icmp_ge (tgt := 210) dL_act_9 (by decide) rfl (fun _ => ?_) (fun h => absurd (nI_le (a := 4) (by omega) (by omega)) h)
    refine V_iload_n (i := 3) rfl rfl dL_act_210 rfl ?_
    refine V_bipush (v := 12) (by decide) dL_act_211 rfl ?_
    refine V_icmp_ge (tgt := 295) dL_act_213 (by decide) rfl (fun h => absurd h (nI_ge (b := 12) (by omega) (by decide))) (fun _ => ?_)
    exact lc_a216 hx hB v w j
  by_cases c2 : j < 17
  · refine V_iload_n (i := 1) rfl rfl dL_act_0 rfl ?_
    refine V_bipush (v := 20) (by decide) dL_act_1 rfl ?_
    refine V_callS (n := 2) (sp_lowV l g v (m := 20) (by decide) (by decide)) o_L_low m_L_64 ⟨by decide, by decide⟩ rfl rfl (by first | exact Nat.le_of_ble_eq_true rfl | simp [Value.category]) (Nat.le_refl _) (Nat.le_refl _) rfl dL_act_3 rfl (kI ?_)
    rw [ej]
    refine V_istore_n (i := 3) rfl (by decide) rfl dL_act_6 rfl ?_
    refine V_iload_n (i := 3) rfl rfl dL_act_7 rfl ?_
    refine V_iconst (v := 4) (by decide) dL_act_8 rfl ?_
    refine V_icmp_ge (tgt := 210) dL_act_9 (by decide) rfl (fun _ => ?_) (fun h => absurd (nI_le (a := 4) (by omega) (by omega)) h)
    refine V_iload_n (i := 3) rfl rfl dL_act_210 rfl ?_
    refine V_bipush (v := 12) (by decide) dL_act_211 rfl ?_
    refine V_icmp_ge (tgt := 295) dL_act_213 (by decide) rfl (fun _ => ?_) (fun h => absurd (nI_le (a := 12) (by omega) (by omega)) h)
    refine V_iload_n (i := 3) rfl rfl dL_act_295 rfl ?_
    refine V_bipush (v := 12) (by decide) dL_act_296 rfl ?_
    refine V_icmp_ne (tgt := 338) dL_act_298 (by decide) rfl (fun _ => ?_) (fun h => absurd h (fun z => (show ¬ j = 12 by omega) (nI_inj (b := 12) (by omega) (by decide) z)))
    refine V_iload_n (i := 3) rfl rfl dL_act_338 rfl ?_
    refine V_bipush (v := 17) (by decide) dL_act_339 rfl ?_
    refine V_icmp_ge (tgt := 350) dL_act_341 (by decide) rfl (fun h => absurd h (nI_ge (b := 17) (by omega) (by decide))) (fun _ => ?_)
    exact lc_a344 hx hB v w j
  by_cases c3 : j = 17
  · refine V_iload_n (i := 1) rfl rfl dL_act_0 rfl ?_
    refine V_bipush (v := 20) (by decide) dL_act_1 rfl ?_
    refine V_callS (n := 2) (sp_lowV l g v (m := 20) (by decide) (by decide)) o_L_low m_L_64 ⟨by decide, by decide⟩ rfl rfl (by first | exact Nat.le_of_ble_eq_true rfl | simp [Value.category]) (Nat.le_refl _) (Nat.le_refl _) rfl dL_act_3 rfl (kI ?_)
    rw [ej]
    refine V_istore_n (i := 3) rfl (by decide) rfl dL_act_6 rfl ?_
    refine V_iload_n (i := 3) rfl rfl dL_act_7 rfl ?_
    refine V_iconst (v := 4) (by decide) dL_act_8 rfl ?_
    refine V_icmp_ge (tgt := 210) dL_act_9 (by decide) rfl (fun _ => ?_) (fun h => absurd (nI_le (a := 4) (by omega) (by omega)) h)
    refine V_iload_n (i := 3) rfl rfl dL_act_210 rfl ?_
    refine V_bipush (v := 12) (by decide) dL_act_211 rfl ?_
    refine V_icmp_ge (tgt := 295) dL_act_213 (by decide) rfl (fun _ => ?_) (fun h => absurd (nI_le (a := 12) (by omega) (by omega)) h)
    refine V_iload_n (i := 3) rfl rfl dL_act_295 rfl ?_
    refine V_bipush (v := 12) (by decide) dL_act_296 rfl ?_
    refine V_icmp_ne (tgt := 338) dL_act_298 (by decide) rfl (fun _ => ?_) (fun h => absurd h (fun z => (show ¬ j = 12 by omega) (nI_inj (b := 12) (by omega) (by decide) z)))
    refine V_iload_n (i := 3) rfl rfl dL_act_338 rfl ?_
    refine V_bipush (v := 17) (by decide) dL_act_339 rfl ?_
    refine V_icmp_ge (tgt := 350) dL_act_341 (by decide) rfl (fun _ => ?_) (fun h => absurd (nI_le (a := 17) (by omega) (by omega)) h)
    refine V_iload_n (i := 3) rfl rfl dL_act_350 rfl ?_
    refine V_bipush (v := 17) (by decide) dL_act_351 rfl ?_
    refine V_icmp_ne (tgt := 435) dL_act_353 (by decide) rfl (fun h => absurd (by rw [c3]; rfl) h) (fun _ => ?_)
    exact lc_a356 hx hB v w j
  refine V_iload_n (i := 1) rfl rfl dL_act_0 rfl ?_
  refine V_bipush (v := 20) (by decide) dL_act_1 rfl ?_
  refine V_callS (n := 2) (sp_lowV l g v (m := 20) (by decide) (by decide)) o_L_low m_L_64 ⟨by decide, by decide⟩ rfl rfl (by first | exact Nat.le_of_ble_eq_true rfl | simp [Value.category]) (Nat.le_refl _) (Nat.le_refl _) rfl dL_act_3 rfl (kI ?_)
  rw [ej]
  refine V_istore_n (i := 3) rfl (by decide) rfl dL_act_6 rfl ?_
  refine V_iload_n (i := 3) rfl rfl dL_act_7 rfl ?_
  refine V_iconst (v := 4) (by decide) dL_act_8 rfl ?_
  refine V_icmp_ge (tgt := 210) dL_act_9 (by decide) rfl (fun _ => ?_) (fun h => absurd (nI_le (a := 4) (by omega) (by omega)) h)
  refine V_iload_n (i := 3) rfl rfl dL_act_210 rfl ?_
  refine V_bipush (v := 12) (by decide) dL_act_211 rfl ?_
  refine V_icmp_ge (tgt := 295) dL_act_213 (by decide) rfl (fun _ => ?_) (fun h => absurd (nI_le (a := 12) (by omega) (by omega)) h)
  refine V_iload_n (i := 3) rfl rfl dL_act_295 rfl ?_
  refine V_bipush (v := 12) (by decide) dL_act_296 rfl ?_
  refine V_icmp_ne (tgt := 338) dL_act_298 (by decide) rfl (fun _ => ?_) (fun h => absurd h (fun z => (show ¬ j = 12 by omega) (nI_inj (b := 12) (by omega) (by decide) z)))
  refine V_iload_n (i := 3) rfl rfl dL_act_338 rfl ?_
  refine V_bipush (v := 17) (by decide) dL_act_339 rfl ?_
  refine V_icmp_ge (tgt := 350) dL_act_341 (by decide) rfl (fun _ => ?_) (fun h => absurd (nI_le (a := 17) (by omega) (by omega)) h)
  refine V_iload_n (i := 3) rfl rfl dL_act_350 rfl ?_
  refine V_bipush (v := 17) (by decide) dL_act_351 rfl ?_
  refine V_icmp_ne (tgt := 435) dL_act_353 (by decide) rfl (fun _ => ?_) (fun h => absurd h (fun z => (show ¬ j = 17 by omega) (nI_inj (b := 17) (by omega) (by decide) z)))
  exact lc_a435 hx hB v w j

set_option maxHeartbeats 4000000 in
set_option maxRecDepth 100000 in
theorem sp_act12 (l : Launch) (g : fw_G) {I : fw_I} {P : fw_P} {s : Nat → Int32} {k : Nat} {h : Nat → Nat → Int32} {B : Nat} (hx : Wd I P s k h B) (hB : B + 100 < 1000000) (v w : Int32) (h12 : lowV v (nI 20) = 12) : Sp l g kL_act (T0 nT) [.ref (g.1 + 0), .int v, .int w] I P (T0 (nT + 1)) 1 4 (qA (B + 100)) := by
  have a0 := at_0 (nT := nT)
  have ej : lowV v (nI 20) = nI 12 := h12
  refine Sp.of_V (L := [some (.ref (g.1 + 0)), some (.int v), some (.int w), none, none, none, none, none, none]) (by decide) (by simp [Value.category]) (Nat.le_of_ble_eq_true rfl) rfl ?_
  refine V_iload_n (i := 1) rfl rfl dL_act_0 rfl ?_
  refine V_bipush (v := 20) (by decide) dL_act_1 rfl ?_
  refine V_callS (n := 2) (sp_lowV l g v (m := 20) (by decide) (by decide)) o_L_low m_L_64 ⟨by decide, by decide⟩ rfl rfl (by first | exact Nat.le_of_ble_eq_true rfl | simp [Value.category]) (by decide) (by decide) rfl dL_act_3 rfl (kI ?_)
  rw [ej]
  refine V_istore_n (i := 3) rfl (by decide) rfl dL_act_6 rfl ?_
  refine V_iload_n (i := 3) rfl rfl dL_act_7 rfl ?_
  refine V_iconst (v := 4) (by decide) dL_act_8 rfl ?_
  refine V_icmp_ge (tgt := 210) dL_act_9 (by decide) rfl (fun _ => ?_) (fun h => absurd (by decide) h)
  refine V_iload_n (i := 3) rfl rfl dL_act_210 rfl ?_
  refine V_bipush (v := 12) (by decide) dL_act_211 rfl ?_
  refine V_icmp_ge (tgt := 295) dL_act_213 (by decide) rfl (fun _ => ?_) (fun h => absurd (by decide) h)
  refine V_iload_n (i := 3) rfl rfl dL_act_295 rfl ?_
  refine V_bipush (v := 12) (by decide) dL_act_296 rfl ?_
  refine V_icmp_ne (tgt := 338) dL_act_298 (by decide) rfl (fun h => absurd rfl h) (fun _ => ?_)
  exact lc_a301 hx hB v w 12
