/-- the class' reading: the state behind a sign -/
def rdN (r : Nat) (c : Int32) : Nat :=
  if r = 1 then (if c = 40 then 2 else if 49 ≤ c ∧ c ≤ 54 then 1 else 0) else if r = 2 then (if 48 ≤ c ∧ c ≤ 51 then 3 else 0) else if r = 3 then (if 97 ≤ c ∧ c ≤ 104 then 4 else 0) else if r = 4 then (if c = 62 then 5 else 0)
  else if r = 5 then (if 48 ≤ c ∧ c ≤ 51 then 6 else 0) else if r = 6 then (if c = 36 then 7 else 0) else if r = 7 then (if c = 48 then 9 else if 49 ≤ c ∧ c ≤ 57 then 8 else 0) else if r = 8 then (if c = 41 then 1 else if 48 ≤ c ∧ c ≤ 57 then 9 else 0)
  else if r = 9 then (if c = 41 then 1 else 0) else 0
theorem rdN_le (r : Nat) (c : Int32) : rdN r c ≤ 9 := by
  unfold rdN
  repeat' split
  all_goals omega
/-- the class' first fault -/
def ffF (tx : Nat → Int32) (ln : Nat) : Nat → Nat → Nat → Int32
  | 0, _, r => if r = 1 ∧ 0 < ln then -5 else nI ln
  | n + 1, i, r => if rdN r (tx i) = 0 then nI i else ffF tx ln n (i + 1) (rdN r (tx i))
def sgX (tx : Nat → Int32) (ln : Nat) (x : Int32) : Int32 := if 0 ≤ x ∧ x < nI ln then tx x.toNatClampNeg else 0
theorem sgX_nI (tx : Nat → Int32) {ln i : Nat} (h : i < ln) (hl : ln ≤ 60) : sgX tx ln (nI i) = tx i := by
  unfold sgX
  rw [if_pos ⟨nI_pos' (by omega), nI_lt h (by omega)⟩, nI_clamp (by omega)]
theorem rd_1 (c : Int32) : rdN 1 c = (if c = 40 then 2 else if 49 ≤ c ∧ c ≤ 54 then 1 else 0 : Nat) := rfl
theorem rd_2 (c : Int32) : rdN 2 c = (if 48 ≤ c ∧ c ≤ 51 then 3 else 0 : Nat) := rfl
theorem rd_3 (c : Int32) : rdN 3 c = (if 97 ≤ c ∧ c ≤ 104 then 4 else 0 : Nat) := rfl
theorem rd_4 (c : Int32) : rdN 4 c = (if c = 62 then 5 else 0 : Nat) := rfl
theorem rd_5 (c : Int32) : rdN 5 c = (if 48 ≤ c ∧ c ≤ 51 then 6 else 0 : Nat) := rfl
theorem rd_6 (c : Int32) : rdN 6 c = (if c = 36 then 7 else 0 : Nat) := rfl
theorem rd_7 (c : Int32) : rdN 7 c = (if c = 48 then 9 else if 49 ≤ c ∧ c ≤ 57 then 8 else 0 : Nat) := rfl
theorem rd_8 (c : Int32) : rdN 8 c = (if c = 41 then 1 else if 48 ≤ c ∧ c ≤ 57 then 9 else 0 : Nat) := rfl
theorem rd_9 (c : Int32) : rdN 9 c = (if c = 41 then 1 else 0 : Nat) := rfl
theorem sg60 {x : Int32} {ln : Nat} (hl : ln ≤ 60) (h : x < nI ln) (h2 : (60 : Int32) ≤ x) : False := by
  rw [i32_lt, nI_toInt (by omega)] at h
  rw [i32_le, show (60 : Int32).toInt = 60 from by decide] at h2
  omega
set_option maxHeartbeats 4000000 in
set_option maxRecDepth 100000 in
theorem sp_isFrom (l : Launch) (g : fw_G) {I : fw_I} {P : fw_P} (a c b : Int32) : Sp l g kX4_isFrom T0 [.int a, .int c, .int b] I P T0 0 0 (qI (bI (a ≤ c ∧ c ≤ b)) I P) := by
  refine Sp.of_V (L := [some (.int a), some (.int c), some (.int b)]) (by decide) (by simp [Value.category]) (Nat.le_of_ble_eq_true rfl) rfl ?_
  refine V_iload_n (i := 1) rfl rfl dX4_isFrom_0 rfl ?_
  refine V_iload_n (i := 0) rfl rfl dX4_isFrom_1 rfl ?_
  refine V_icmp_lt (tgt := 14) dX4_isFrom_2 (by decide) rfl (fun h_2 => ?_) (fun h_2 => ?_)
  · refine V_iconst (v := 0) (by decide) dX4_isFrom_14 rfl ?_
    exact V_ireturn rfl (by decide) dX4_isFrom_15 rfl rfl rfl (qI.of (by first | exact (bI_t ⟨Int32.not_lt.mp h_2, Int32.not_lt.mp h_7⟩).symm | exact (bI_f (fun z => absurd z.1 (Int32.not_le.mpr h_2))).symm | exact (bI_f (fun z => absurd z.2 (Int32.not_le.mpr h_7))).symm))
  · refine V_iload_n (i := 1) rfl rfl dX4_isFrom_5 rfl ?_
    refine V_iload_n (i := 2) rfl rfl dX4_isFrom_6 rfl ?_
    refine V_icmp_gt (tgt := 14) dX4_isFrom_7 (by decide) rfl (fun h_7 => ?_) (fun h_7 => ?_)
    · refine V_iconst (v := 0) (by decide) dX4_isFrom_14 rfl ?_
      exact V_ireturn rfl (by decide) dX4_isFrom_15 rfl rfl rfl (qI.of (by first | exact (bI_t ⟨Int32.not_lt.mp h_2, Int32.not_lt.mp h_7⟩).symm | exact (bI_f (fun z => absurd z.1 (Int32.not_le.mpr h_2))).symm | exact (bI_f (fun z => absurd z.2 (Int32.not_le.mpr h_7))).symm))
    · refine V_iconst (v := 1) (by decide) dX4_isFrom_10 rfl ?_
      refine V_goto (tgt := 15) dX4_isFrom_11 (by decide) ?_
      exact V_ireturn rfl (by decide) dX4_isFrom_15 rfl rfl rfl (qI.of (by first | exact (bI_t ⟨Int32.not_lt.mp h_2, Int32.not_lt.mp h_7⟩).symm | exact (bI_f (fun z => absurd z.1 (Int32.not_le.mpr h_2))).symm | exact (bI_f (fun z => absurd z.2 (Int32.not_le.mpr h_7))).symm))

set_option maxHeartbeats 4000000 in
set_option maxRecDepth 100000 in
theorem sp_read_1 (l : Launch) (g : fw_G) {I : fw_I} {P : fw_P} (c : Int32) : Sp l g kX4_readAfter T0 [.int (nI 1), .int c] I P T0 0 0 (qI (nI (rdN 1 c)) I P) := by
  refine Sp.of_V (L := [some (.int (nI 1)), some (.int c)]) (by decide) (by simp [Value.category]) (Nat.le_of_ble_eq_true rfl) rfl ?_
  refine V_iload_n (i := 0) rfl rfl dX4_readAfter_0 rfl ?_
  refine V_tableIn (x := nI 1) (tgt := 52) dX4_readAfter_1 (by decide) (by decide) rfl (by decide) ?_
  refine V_iload_n (i := 1) rfl rfl dX4_readAfter_52 rfl ?_
  refine V_bipush (v := 40) (by decide) dX4_readAfter_53 rfl ?_
  refine V_icmp_ne (tgt := 62) dX4_readAfter_55 (by decide) rfl (fun h_55 => ?_) (fun h_55 => ?_)
  · refine V_bipush (v := 49) (by decide) dX4_readAfter_62 rfl ?_
    refine V_iload_n (i := 1) rfl rfl dX4_readAfter_64 rfl ?_
    refine V_bipush (v := 54) (by decide) dX4_readAfter_65 rfl ?_
    refine V_callS (n := 3) (sp_isFrom l g 49 c 54) o_X4_isFrom m_X4_27 ⟨by decide, by decide⟩ rfl rfl (by first | exact Nat.le_of_ble_eq_true rfl | simp [Value.category]) (Nat.le_refl _) (Nat.le_refl _) rfl dX4_readAfter_67 rfl (kI ?_)
    refine V_if_eq (tgt := 77) dX4_readAfter_70 (by decide) rfl (fun h_70 => ?_) (fun h_70 => ?_)
    · refine V_iconst (v := 0) (by decide) dX4_readAfter_77 rfl ?_
      exact V_ireturn rfl rfl dX4_readAfter_78 rfl rfl rfl (qI.of (by rw [show rdN 1 c = _ from rd_1 c]; first | (rw [if_pos h_55]; rfl) | (rw [if_neg h_55, if_pos (bI_nz h_70)]; rfl) | (rw [if_neg h_55, if_neg (bI_z h_70)]; rfl)))
    · refine V_iconst (v := 1) (by decide) dX4_readAfter_73 rfl ?_
      refine V_goto (tgt := 78) dX4_readAfter_74 (by decide) ?_
      exact V_ireturn rfl rfl dX4_readAfter_78 rfl rfl rfl (qI.of (by rw [show rdN 1 c = _ from rd_1 c]; first | (rw [if_pos h_55]; rfl) | (rw [if_neg h_55, if_pos (bI_nz h_70)]; rfl) | (rw [if_neg h_55, if_neg (bI_z h_70)]; rfl)))
  · refine V_iconst (v := 2) (by decide) dX4_readAfter_58 rfl ?_
    refine V_goto (tgt := 78) dX4_readAfter_59 (by decide) ?_
    exact V_ireturn rfl rfl dX4_readAfter_78 rfl rfl rfl (qI.of (by rw [show rdN 1 c = _ from rd_1 c]; first | (rw [if_pos h_55]; rfl) | (rw [if_neg h_55, if_pos (bI_nz h_70)]; rfl) | (rw [if_neg h_55, if_neg (bI_z h_70)]; rfl)))

set_option maxHeartbeats 4000000 in
set_option maxRecDepth 100000 in
theorem sp_read_2 (l : Launch) (g : fw_G) {I : fw_I} {P : fw_P} (c : Int32) : Sp l g kX4_readAfter T0 [.int (nI 2), .int c] I P T0 0 0 (qI (nI (rdN 2 c)) I P) := by
  refine Sp.of_V (L := [some (.int (nI 2)), some (.int c)]) (by decide) (by simp [Value.category]) (Nat.le_of_ble_eq_true rfl) rfl ?_
  refine V_iload_n (i := 0) rfl rfl dX4_readAfter_0 rfl ?_
  refine V_tableIn (x := nI 2) (tgt := 79) dX4_readAfter_1 (by decide) (by decide) rfl (by decide) ?_
  refine V_bipush (v := 48) (by decide) dX4_readAfter_79 rfl ?_
  refine V_iload_n (i := 1) rfl rfl dX4_readAfter_81 rfl ?_
  refine V_bipush (v := 51) (by decide) dX4_readAfter_82 rfl ?_
  refine V_callS (n := 3) (sp_isFrom l g 48 c 51) o_X4_isFrom m_X4_27 ⟨by decide, by decide⟩ rfl rfl (by first | exact Nat.le_of_ble_eq_true rfl | simp [Value.category]) (Nat.le_refl _) (Nat.le_refl _) rfl dX4_readAfter_84 rfl (kI ?_)
  refine V_if_eq (tgt := 94) dX4_readAfter_87 (by decide) rfl (fun h_87 => ?_) (fun h_87 => ?_)
  · refine V_iconst (v := 0) (by decide) dX4_readAfter_94 rfl ?_
    exact V_ireturn rfl rfl dX4_readAfter_95 rfl rfl rfl (qI.of (by rw [show rdN 2 c = _ from rd_2 c]; first | (rw [if_pos (bI_nz h_87)]; rfl) | (rw [if_neg (bI_z h_87)]; rfl)))
  · refine V_iconst (v := 3) (by decide) dX4_readAfter_90 rfl ?_
    refine V_goto (tgt := 95) dX4_readAfter_91 (by decide) ?_
    exact V_ireturn rfl rfl dX4_readAfter_95 rfl rfl rfl (qI.of (by rw [show rdN 2 c = _ from rd_2 c]; first | (rw [if_pos (bI_nz h_87)]; rfl) | (rw [if_neg (bI_z h_87)]; rfl)))

set_option maxHeartbeats 4000000 in
set_option maxRecDepth 100000 in
theorem sp_read_3 (l : Launch) (g : fw_G) {I : fw_I} {P : fw_P} (c : Int32) : Sp l g kX4_readAfter T0 [.int (nI 3), .int c] I P T0 0 0 (qI (nI (rdN 3 c)) I P) := by
  refine Sp.of_V (L := [some (.int (nI 3)), some (.int c)]) (by decide) (by simp [Value.category]) (Nat.le_of_ble_eq_true rfl) rfl ?_
  refine V_iload_n (i := 0) rfl rfl dX4_readAfter_0 rfl ?_
  refine V_tableIn (x := nI 3) (tgt := 96) dX4_readAfter_1 (by decide) (by decide) rfl (by decide) ?_
  refine V_bipush (v := 97) (by decide) dX4_readAfter_96 rfl ?_
  refine V_iload_n (i := 1) rfl rfl dX4_readAfter_98 rfl ?_
  refine V_bipush (v := 104) (by decide) dX4_readAfter_99 rfl ?_
  refine V_callS (n := 3) (sp_isFrom l g 97 c 104) o_X4_isFrom m_X4_27 ⟨by decide, by decide⟩ rfl rfl (by first | exact Nat.le_of_ble_eq_true rfl | simp [Value.category]) (Nat.le_refl _) (Nat.le_refl _) rfl dX4_readAfter_101 rfl (kI ?_)
  refine V_if_eq (tgt := 111) dX4_readAfter_104 (by decide) rfl (fun h_104 => ?_) (fun h_104 => ?_)
  · refine V_iconst (v := 0) (by decide) dX4_readAfter_111 rfl ?_
    exact V_ireturn rfl rfl dX4_readAfter_112 rfl rfl rfl (qI.of (by rw [show rdN 3 c = _ from rd_3 c]; first | (rw [if_pos (bI_nz h_104)]; rfl) | (rw [if_neg (bI_z h_104)]; rfl)))
  · refine V_iconst (v := 4) (by decide) dX4_readAfter_107 rfl ?_
    refine V_goto (tgt := 112) dX4_readAfter_108 (by decide) ?_
    exact V_ireturn rfl rfl dX4_readAfter_112 rfl rfl rfl (qI.of (by rw [show rdN 3 c = _ from rd_3 c]; first | (rw [if_pos (bI_nz h_104)]; rfl) | (rw [if_neg (bI_z h_104)]; rfl)))

set_option maxHeartbeats 4000000 in
set_option maxRecDepth 100000 in
theorem sp_read_4 (l : Launch) (g : fw_G) {I : fw_I} {P : fw_P} (c : Int32) : Sp l g kX4_readAfter T0 [.int (nI 4), .int c] I P T0 0 0 (qI (nI (rdN 4 c)) I P) := by
  refine Sp.of_V (L := [some (.int (nI 4)), some (.int c)]) (by decide) (by simp [Value.category]) (Nat.le_of_ble_eq_true rfl) rfl ?_
  refine V_iload_n (i := 0) rfl rfl dX4_readAfter_0 rfl ?_
  refine V_tableIn (x := nI 4) (tgt := 113) dX4_readAfter_1 (by decide) (by decide) rfl (by decide) ?_
  refine V_iload_n (i := 1) rfl rfl dX4_readAfter_113 rfl ?_
  refine V_bipush (v := 62) (by decide) dX4_readAfter_114 rfl ?_
  refine V_icmp_ne (tgt := 123) dX4_readAfter_116 (by decide) rfl (fun h_116 => ?_) (fun h_116 => ?_)
  · refine V_iconst (v := 0) (by decide) dX4_readAfter_123 rfl ?_
    exact V_ireturn rfl rfl dX4_readAfter_124 rfl rfl rfl (qI.of (by rw [show rdN 4 c = _ from rd_4 c]; first | (rw [if_pos h_116]; rfl) | (rw [if_neg h_116]; rfl)))
  · refine V_iconst (v := 5) (by decide) dX4_readAfter_119 rfl ?_
    refine V_goto (tgt := 124) dX4_readAfter_120 (by decide) ?_
    exact V_ireturn rfl rfl dX4_readAfter_124 rfl rfl rfl (qI.of (by rw [show rdN 4 c = _ from rd_4 c]; first | (rw [if_pos h_116]; rfl) | (rw [if_neg h_116]; rfl)))

set_option maxHeartbeats 4000000 in
set_option maxRecDepth 100000 in
theorem sp_read_5 (l : Launch) (g : fw_G) {I : fw_I} {P : fw_P} (c : Int32) : Sp l g kX4_readAfter T0 [.int (nI 5), .int c] I P T0 0 0 (qI (nI (rdN 5 c)) I P) := by
  refine Sp.of_V (L := [some (.int (nI 5)), some (.int c)]) (by decide) (by simp [Value.category]) (Nat.le_of_ble_eq_true rfl) rfl ?_
  refine V_iload_n (i := 0) rfl rfl dX4_readAfter_0 rfl ?_
  refine V_tableIn (x := nI 5) (tgt := 125) dX4_readAfter_1 (by decide) (by decide) rfl (by decide) ?_
  refine V_bipush (v := 48) (by decide) dX4_readAfter_125 rfl ?_
  refine V_iload_n (i := 1) rfl rfl dX4_readAfter_127 rfl ?_
  refine V_bipush (v := 51) (by decide) dX4_readAfter_128 rfl ?_
  refine V_callS (n := 3) (sp_isFrom l g 48 c 51) o_X4_isFrom m_X4_27 ⟨by decide, by decide⟩ rfl rfl (by first | exact Nat.le_of_ble_eq_true rfl | simp [Value.category]) (Nat.le_refl _) (Nat.le_refl _) rfl dX4_readAfter_130 rfl (kI ?_)
  refine V_if_eq (tgt := 141) dX4_readAfter_133 (by decide) rfl (fun h_133 => ?_) (fun h_133 => ?_)
  · refine V_iconst (v := 0) (by decide) dX4_readAfter_141 rfl ?_
    exact V_ireturn rfl rfl dX4_readAfter_142 rfl rfl rfl (qI.of (by rw [show rdN 5 c = _ from rd_5 c]; first | (rw [if_pos (bI_nz h_133)]; rfl) | (rw [if_neg (bI_z h_133)]; rfl)))
  · refine V_bipush (v := 6) (by decide) dX4_readAfter_136 rfl ?_
    refine V_goto (tgt := 142) dX4_readAfter_138 (by decide) ?_
    exact V_ireturn rfl rfl dX4_readAfter_142 rfl rfl rfl (qI.of (by rw [show rdN 5 c = _ from rd_5 c]; first | (rw [if_pos (bI_nz h_133)]; rfl) | (rw [if_neg (bI_z h_133)]; rfl)))

set_option maxHeartbeats 4000000 in
set_option maxRecDepth 100000 in
theorem sp_read_6 (l : Launch) (g : fw_G) {I : fw_I} {P : fw_P} (c : Int32) : Sp l g kX4_readAfter T0 [.int (nI 6), .int c] I P T0 0 0 (qI (nI (rdN 6 c)) I P) := by
  refine Sp.of_V (L := [some (.int (nI 6)), some (.int c)]) (by decide) (by simp [Value.category]) (Nat.le_of_ble_eq_true rfl) rfl ?_
  refine V_iload_n (i := 0) rfl rfl dX4_readAfter_0 rfl ?_
  refine V_tableIn (x := nI 6) (tgt := 143) dX4_readAfter_1 (by decide) (by decide) rfl (by decide) ?_
  refine V_iload_n (i := 1) rfl rfl dX4_readAfter_143 rfl ?_
  refine V_bipush (v := 36) (by decide) dX4_readAfter_144 rfl ?_
  refine V_icmp_ne (tgt := 154) dX4_readAfter_146 (by decide) rfl (fun h_146 => ?_) (fun h_146 => ?_)
  · refine V_iconst (v := 0) (by decide) dX4_readAfter_154 rfl ?_
    exact V_ireturn rfl rfl dX4_readAfter_155 rfl rfl rfl (qI.of (by rw [show rdN 6 c = _ from rd_6 c]; first | (rw [if_pos h_146]; rfl) | (rw [if_neg h_146]; rfl)))
  · refine V_bipush (v := 7) (by decide) dX4_readAfter_149 rfl ?_
    refine V_goto (tgt := 155) dX4_readAfter_151 (by decide) ?_
    exact V_ireturn rfl rfl dX4_readAfter_155 rfl rfl rfl (qI.of (by rw [show rdN 6 c = _ from rd_6 c]; first | (rw [if_pos h_146]; rfl) | (rw [if_neg h_146]; rfl)))

set_option maxHeartbeats 4000000 in
set_option maxRecDepth 100000 in
theorem sp_read_7 (l : Launch) (g : fw_G) {I : fw_I} {P : fw_P} (c : Int32) : Sp l g kX4_readAfter T0 [.int (nI 7), .int c] I P T0 0 0 (qI (nI (rdN 7 c)) I P) := by
  refine Sp.of_V (L := [some (.int (nI 7)), some (.int c)]) (by decide) (by simp [Value.category]) (Nat.le_of_ble_eq_true rfl) rfl ?_
  refine V_iload_n (i := 0) rfl rfl dX4_readAfter_0 rfl ?_
  refine V_tableIn (x := nI 7) (tgt := 156) dX4_readAfter_1 (by decide) (by decide) rfl (by decide) ?_
  refine V_iload_n (i := 1) rfl rfl dX4_readAfter_156 rfl ?_
  refine V_bipush (v := 48) (by decide) dX4_readAfter_157 rfl ?_
  refine V_icmp_ne (tgt := 167) dX4_readAfter_159 (by decide) rfl (fun h_159 => ?_) (fun h_159 => ?_)
  · refine V_bipush (v := 49) (by decide) dX4_readAfter_167 rfl ?_
    refine V_iload_n (i := 1) rfl rfl dX4_readAfter_169 rfl ?_
    refine V_bipush (v := 57) (by decide) dX4_readAfter_170 rfl ?_
    refine V_callS (n := 3) (sp_isFrom l g 49 c 57) o_X4_isFrom m_X4_27 ⟨by decide, by decide⟩ rfl rfl (by first | exact Nat.le_of_ble_eq_true rfl | simp [Value.category]) (Nat.le_refl _) (Nat.le_refl _) rfl dX4_readAfter_172 rfl (kI ?_)
    refine V_if_eq (tgt := 183) dX4_readAfter_175 (by decide) rfl (fun h_175 => ?_) (fun h_175 => ?_)
    · refine V_iconst (v := 0) (by decide) dX4_readAfter_183 rfl ?_
      exact V_ireturn rfl rfl dX4_readAfter_184 rfl rfl rfl (qI.of (by rw [show rdN 7 c = _ from rd_7 c]; first | (rw [if_pos h_159]; rfl) | (rw [if_neg h_159, if_pos (bI_nz h_175)]; rfl) | (rw [if_neg h_159, if_neg (bI_z h_175)]; rfl)))
    · refine V_bipush (v := 8) (by decide) dX4_readAfter_178 rfl ?_
      refine V_goto (tgt := 184) dX4_readAfter_180 (by decide) ?_
      exact V_ireturn rfl rfl dX4_readAfter_184 rfl rfl rfl (qI.of (by rw [show rdN 7 c = _ from rd_7 c]; first | (rw [if_pos h_159]; rfl) | (rw [if_neg h_159, if_pos (bI_nz h_175)]; rfl) | (rw [if_neg h_159, if_neg (bI_z h_175)]; rfl)))
  · refine V_bipush (v := 9) (by decide) dX4_readAfter_162 rfl ?_
    refine V_goto (tgt := 184) dX4_readAfter_164 (by decide) ?_
    exact V_ireturn rfl rfl dX4_readAfter_184 rfl rfl rfl (qI.of (by rw [show rdN 7 c = _ from rd_7 c]; first | (rw [if_pos h_159]; rfl) | (rw [if_neg h_159, if_pos (bI_nz h_175)]; rfl) | (rw [if_neg h_159, if_neg (bI_z h_175)]; rfl)))

set_option maxHeartbeats 4000000 in
set_option maxRecDepth 100000 in
theorem sp_read_8 (l : Launch) (g : fw_G) {I : fw_I} {P : fw_P} (c : Int32) : Sp l g kX4_readAfter T0 [.int (nI 8), .int c] I P T0 0 0 (qI (nI (rdN 8 c)) I P) := by
  refine Sp.of_V (L := [some (.int (nI 8)), some (.int c)]) (by decide) (by simp [Value.category]) (Nat.le_of_ble_eq_true rfl) rfl ?_
  refine V_iload_n (i := 0) rfl rfl dX4_readAfter_0 rfl ?_
  refine V_tableIn (x := nI 8) (tgt := 185) dX4_readAfter_1 (by decide) (by decide) rfl (by decide) ?_
  refine V_iload_n (i := 1) rfl rfl dX4_readAfter_185 rfl ?_
  refine V_bipush (v := 41) (by decide) dX4_readAfter_186 rfl ?_
  refine V_icmp_ne (tgt := 195) dX4_readAfter_188 (by decide) rfl (fun h_188 => ?_) (fun h_188 => ?_)
  · refine V_bipush (v := 48) (by decide) dX4_readAfter_195 rfl ?_
    refine V_iload_n (i := 1) rfl rfl dX4_readAfter_197 rfl ?_
    refine V_bipush (v := 57) (by decide) dX4_readAfter_198 rfl ?_
    refine V_callS (n := 3) (sp_isFrom l g 48 c 57) o_X4_isFrom m_X4_27 ⟨by decide, by decide⟩ rfl rfl (by first | exact Nat.le_of_ble_eq_true rfl | simp [Value.category]) (Nat.le_refl _) (Nat.le_refl _) rfl dX4_readAfter_200 rfl (kI ?_)
    refine V_if_eq (tgt := 211) dX4_readAfter_203 (by decide) rfl (fun h_203 => ?_) (fun h_203 => ?_)
    · refine V_iconst (v := 0) (by decide) dX4_readAfter_211 rfl ?_
      exact V_ireturn rfl rfl dX4_readAfter_212 rfl rfl rfl (qI.of (by rw [show rdN 8 c = _ from rd_8 c]; first | (rw [if_pos h_188]; rfl) | (rw [if_neg h_188, if_pos (bI_nz h_203)]; rfl) | (rw [if_neg h_188, if_neg (bI_z h_203)]; rfl)))
    · refine V_bipush (v := 9) (by decide) dX4_readAfter_206 rfl ?_
      refine V_goto (tgt := 212) dX4_readAfter_208 (by decide) ?_
      exact V_ireturn rfl rfl dX4_readAfter_212 rfl rfl rfl (qI.of (by rw [show rdN 8 c = _ from rd_8 c]; first | (rw [if_pos h_188]; rfl) | (rw [if_neg h_188, if_pos (bI_nz h_203)]; rfl) | (rw [if_neg h_188, if_neg (bI_z h_203)]; rfl)))
  · refine V_iconst (v := 1) (by decide) dX4_readAfter_191 rfl ?_
    refine V_goto (tgt := 212) dX4_readAfter_192 (by decide) ?_
    exact V_ireturn rfl rfl dX4_readAfter_212 rfl rfl rfl (qI.of (by rw [show rdN 8 c = _ from rd_8 c]; first | (rw [if_pos h_188]; rfl) | (rw [if_neg h_188, if_pos (bI_nz h_203)]; rfl) | (rw [if_neg h_188, if_neg (bI_z h_203)]; rfl)))

set_option maxHeartbeats 4000000 in
set_option maxRecDepth 100000 in
theorem sp_read_9 (l : Launch) (g : fw_G) {I : fw_I} {P : fw_P} (c : Int32) : Sp l g kX4_readAfter T0 [.int (nI 9), .int c] I P T0 0 0 (qI (nI (rdN 9 c)) I P) := by
  refine Sp.of_V (L := [some (.int (nI 9)), some (.int c)]) (by decide) (by simp [Value.category]) (Nat.le_of_ble_eq_true rfl) rfl ?_
  refine V_iload_n (i := 0) rfl rfl dX4_readAfter_0 rfl ?_
  refine V_tableIn (x := nI 9) (tgt := 213) dX4_readAfter_1 (by decide) (by decide) rfl (by decide) ?_
  refine V_iload_n (i := 1) rfl rfl dX4_readAfter_213 rfl ?_
  refine V_bipush (v := 41) (by decide) dX4_readAfter_214 rfl ?_
  refine V_icmp_ne (tgt := 223) dX4_readAfter_216 (by decide) rfl (fun h_216 => ?_) (fun h_216 => ?_)
  · refine V_iconst (v := 0) (by decide) dX4_readAfter_223 rfl ?_
    exact V_ireturn rfl rfl dX4_readAfter_224 rfl rfl rfl (qI.of (by rw [show rdN 9 c = _ from rd_9 c]; first | (rw [if_pos h_216]; rfl) | (rw [if_neg h_216]; rfl)))
  · refine V_iconst (v := 1) (by decide) dX4_readAfter_219 rfl ?_
    refine V_goto (tgt := 224) dX4_readAfter_220 (by decide) ?_
    exact V_ireturn rfl rfl dX4_readAfter_224 rfl rfl rfl (qI.of (by rw [show rdN 9 c = _ from rd_9 c]; first | (rw [if_pos h_216]; rfl) | (rw [if_neg h_216]; rfl)))

theorem sp_readAfter (l : Launch) (g : fw_G) {I : fw_I} {P : fw_P} {r : Nat} (h1 : 1 ≤ r) (h9 : r ≤ 9) (c : Int32) : Sp l g kX4_readAfter T0 [.int (nI r), .int c] I P T0 0 0 (qI (nI (rdN r c)) I P) := by
  rcases (show r = 1 ∨ r = 2 ∨ r = 3 ∨ r = 4 ∨ r = 5 ∨ r = 6 ∨ r = 7 ∨ r = 8 ∨ r = 9 by omega) with rfl | rfl | rfl | rfl | rfl | rfl | rfl | rfl | rfl
  · exact sp_read_1 l g c
  · exact sp_read_2 l g c
  · exact sp_read_3 l g c
  · exact sp_read_4 l g c
  · exact sp_read_5 l g c
  · exact sp_read_6 l g c
  · exact sp_read_7 l g c
  · exact sp_read_8 l g c
  · exact sp_read_9 l g c

set_option maxHeartbeats 4000000 in
set_option maxRecDepth 100000 in
theorem sp_signAt (l : Launch) (g : fw_G) {I : fw_I} {P : fw_P} {s : Nat → Int32} {k : Nat} {h : Nat → Nat → Int32} {tk : Bool} {sp : Nat → Int32} {len : Nat} {tx : Nat → Int32} (hS : CSh P) (hC : CRel I P s k h tk sp len tx) (x : Int32) : Sp l g kX4_signAt T0 [.ref (g.1 + 683), .int x] I P T0 0 0 (qI (sgX tx len x) I P) := by
  have a0 := at_0
  have a1 := at_race isRc_1
  have a256 := at_256
  have a683 := at_683
  have r1 := isRc_1
  have hS1 := hS.r isRc_1
  have hR := hC.1.1
  have hv := hC.1.2
  have q0 : P 0 0 = some 1 := hS.2.2.2.2.1
  have q1 : P 0 1 = some 86 := hS.2.2.2.2.2.1
  have q2 : P 0 2 = some 171 := hS.2.2.2.2.2.2.1
  have q3 : P 0 3 = some 256 := hS.2.2.2.2.2.2.2.1
  have q4 : P 0 4 = some 683 := hS.2.2.2.2.2.2.2.2.1
  have q5 : P 0 5 = some 685 := hS.2.2.2.2.2.2.2.2.2.1
  have a684 := at_684
  have q6 : P 683 0 = some 684 := hS.2.2.2.2.2.2.2.2.2.2.1
  refine Sp.of_V (L := [some (.ref (g.1 + 683)), some (.int x)]) (by decide) (by simp [Value.category]) (Nat.le_of_ble_eq_true rfl) rfl ?_
  refine V_iload_n (i := 1) rfl rfl dX4_signAt_0 rfl ?_
  refine V_if_lt (tgt := 30) dX4_signAt_1 (by decide) rfl (fun h_1 => ?_) (fun h_1 => ?_)
  · refine V_iconst (v := 0) (by decide) dX4_signAt_30 rfl ?_
    exact V_ireturn rfl rfl dX4_signAt_31 rfl rfl rfl (qI.of (by first | exact (hC.2.2.2.2.2 i hil).trans (sgX_nI tx hil hl).symm | exact (if_neg (fun z => absurd z.1 (Int32.not_le.mpr h_1))).symm | exact (if_neg (fun z => absurd z.2 (Int32.not_lt.mpr h_9))).symm | exact (if_neg (fun z => sg60 hC.2.2.2.2.1 z.2 h_18)).symm))
  · refine V_iload_n (i := 1) rfl rfl dX4_signAt_4 rfl ?_
    refine V_aload_n (i := 0) rfl rfl dX4_signAt_5 rfl ?_
    refine V_get (kf := 1) C4 (by decide) l_X4_15 (by assumption) rfl dX4_signAt_6 rfl ?_
    rw [hC.2.2.2.1]
    refine V_icmp_ge (tgt := 30) dX4_signAt_9 (by decide) rfl (fun h_9 => ?_) (fun h_9 => ?_)
    · refine V_iconst (v := 0) (by decide) dX4_signAt_30 rfl ?_
      exact V_ireturn rfl rfl dX4_signAt_31 rfl rfl rfl (qI.of (by first | exact (hC.2.2.2.2.2 i hil).trans (sgX_nI tx hil hl).symm | exact (if_neg (fun z => absurd z.1 (Int32.not_le.mpr h_1))).symm | exact (if_neg (fun z => absurd z.2 (Int32.not_lt.mpr h_9))).symm | exact (if_neg (fun z => sg60 hC.2.2.2.2.1 z.2 h_18)).symm))
    · refine V_iload_n (i := 1) rfl rfl dX4_signAt_12 rfl ?_
      refine V_aload_n (i := 0) rfl rfl dX4_signAt_13 rfl ?_
      refine V_getr (kf := 0) C4 (by decide) l_X4_9 (by assumption) rfl (by assumption) dX4_signAt_14 rfl ?_
      refine V_alen (kd := 9) (by decide) (by assumption) dX4_signAt_17 rfl ?_
      refine V_icmp_ge (tgt := 30) dX4_signAt_18 (by decide) rfl (fun h_18 => ?_) (fun h_18 => ?_)
      · refine V_iconst (v := 0) (by decide) dX4_signAt_30 rfl ?_
        exact V_ireturn rfl rfl dX4_signAt_31 rfl rfl rfl (qI.of (by first | exact (hC.2.2.2.2.2 i hil).trans (sgX_nI tx hil hl).symm | exact (if_neg (fun z => absurd z.1 (Int32.not_le.mpr h_1))).symm | exact (if_neg (fun z => absurd z.2 (Int32.not_lt.mpr h_9))).symm | exact (if_neg (fun z => sg60 hC.2.2.2.2.1 z.2 h_18)).symm))
      · obtain ⟨i, hi, rfl⟩ := nI_of h_1
        have hl := hC.2.2.2.2.1
        have hil := (nI_ltI hi (by omega)).mp (Int32.not_le.mp h_9)
        refine V_aload_n (i := 0) rfl rfl dX4_signAt_21 rfl ?_
        refine V_getr (kf := 0) C4 (by decide) l_X4_9 (by assumption) rfl (by assumption) dX4_signAt_22 rfl ?_
        refine V_iload_n (i := 1) rfl rfl dX4_signAt_25 rfl ?_
        refine V_iald (by assumption) (fw_ix_nI (show i < 60 by omega) (by decide)) dX4_signAt_26 rfl ?_
        refine V_goto (tgt := 31) dX4_signAt_27 (by decide) ?_
        exact V_ireturn rfl rfl dX4_signAt_31 rfl rfl rfl (qI.of (by first | exact (hC.2.2.2.2.2 i hil).trans (sgX_nI tx hil hl).symm | exact (if_neg (fun z => absurd z.1 (Int32.not_le.mpr h_1))).symm | exact (if_neg (fun z => absurd z.2 (Int32.not_lt.mpr h_9))).symm | exact (if_neg (fun z => sg60 hC.2.2.2.2.1 z.2 h_18)).symm))

set_option maxHeartbeats 4000000 in
set_option maxRecDepth 100000 in
theorem lp_fault (l : Launch) (g : fw_G) {I : fw_I} {P : fw_P} {s : Nat → Int32} {k : Nat} {h : Nat → Nat → Int32} {tk : Bool} {sp : Nat → Int32} {len : Nat} {tx : Nat → Int32} (hS : CSh P) (hC : CRel I P s k h tk sp len tx) : ∀ (n i r : Nat), i + n = len → 1 ≤ r → r ≤ 9 → V l g kX4_firstFault T0 0 0 (qI (ffF tx len n i r) I P) T0 I P 0 0 4 [some (.ref (g.1 + 683)), some (.int (nI r)), some (.int (nI i))] [] := by
  have a0 := at_0
  have a1 := at_race isRc_1
  have a256 := at_256
  have a683 := at_683
  have r1 := isRc_1
  have hS1 := hS.r isRc_1
  have hR := hC.1.1
  have hv := hC.1.2
  have q0 : P 0 0 = some 1 := hS.2.2.2.2.1
  have q1 : P 0 1 = some 86 := hS.2.2.2.2.2.1
  have q2 : P 0 2 = some 171 := hS.2.2.2.2.2.2.1
  have q3 : P 0 3 = some 256 := hS.2.2.2.2.2.2.2.1
  have q4 : P 0 4 = some 683 := hS.2.2.2.2.2.2.2.2.1
  have q5 : P 0 5 = some 685 := hS.2.2.2.2.2.2.2.2.2.1
  have a684 := at_684
  have q6 : P 683 0 = some 684 := hS.2.2.2.2.2.2.2.2.2.2.1
  have hl := hC.2.2.2.2.1
  intro n
  induction n with
  | zero =>
    intro i r hi h1 h9
    obtain rfl : i = len := by omega
    refine V_iload_n (i := 2) rfl rfl dX4_firstFault_4 rfl ?_
    refine V_aload_n (i := 0) rfl rfl dX4_firstFault_5 rfl ?_
    refine V_get (kf := 1) C4 (by decide) l_X4_15 (by assumption) rfl dX4_firstFault_6 rfl ?_
    rw [hC.2.2.2.1]
    refine V_icmp_ge (tgt := 34) dX4_firstFault_9 (by decide) rfl (fun _ => ?_) (fun h => absurd (nI_le (Nat.le_refl _) (by omega)) h)
    refine V_iload_n (i := 1) rfl rfl dX4_firstFault_34 rfl ?_
    refine V_iconst (v := 1) (by decide) dX4_firstFault_35 rfl ?_
    refine V_icmp_ne (tgt := 51) dX4_firstFault_36 (by decide) rfl (fun h_36 => ?_) (fun h_36 => ?_)
    · refine V_aload_n (i := 0) rfl rfl dX4_firstFault_51 rfl ?_
      refine V_get (kf := 1) C4 (by decide) l_X4_15 (by assumption) rfl dX4_firstFault_52 rfl ?_
      first | rw [hC.2.2.2.1] | skip
      exact V_ireturn rfl rfl dX4_firstFault_55 rfl rfl rfl (qI.of (by first | exact (if_neg (fun z => h_36 (by rw [z.1]; rfl))).symm | exact (if_neg (fun z => absurd (show (0 : Int32) < nI i from nI_lt (a := 0) z.2 (by omega)) (Int32.not_lt.mpr h_43))).symm | exact (if_pos ⟨nI_inj (b := 1) (by omega) (by decide) h_36, (nI_ltI (a := 0) (by decide) (by omega)).mp (Int32.not_le.mp h_43)⟩).symm))
    · refine V_aload_n (i := 0) rfl rfl dX4_firstFault_39 rfl ?_
      refine V_get (kf := 1) C4 (by decide) l_X4_15 (by assumption) rfl dX4_firstFault_40 rfl ?_
      rw [hC.2.2.2.1]
      refine V_if_le (tgt := 51) dX4_firstFault_43 (by decide) rfl (fun h_43 => ?_) (fun h_43 => ?_)
      · refine V_aload_n (i := 0) rfl rfl dX4_firstFault_51 rfl ?_
        refine V_get (kf := 1) C4 (by decide) l_X4_15 (by assumption) rfl dX4_firstFault_52 rfl ?_
        first | rw [hC.2.2.2.1] | skip
        exact V_ireturn rfl rfl dX4_firstFault_55 rfl rfl rfl (qI.of (by first | exact (if_neg (fun z => h_36 (by rw [z.1]; rfl))).symm | exact (if_neg (fun z => absurd (show (0 : Int32) < nI i from nI_lt (a := 0) z.2 (by omega)) (Int32.not_lt.mpr h_43))).symm | exact (if_pos ⟨nI_inj (b := 1) (by omega) (by decide) h_36, (nI_ltI (a := 0) (by decide) (by omega)).mp (Int32.not_le.mp h_43)⟩).symm))
      · refine V_bipush (v := (-5)) (by decide) dX4_firstFault_46 rfl ?_
        refine V_goto (tgt := 55) dX4_firstFault_48 (by decide) ?_
        first | rw [hC.2.2.2.1] | skip
        exact V_ireturn rfl rfl dX4_firstFault_55 rfl rfl rfl (qI.of (by first | exact (if_neg (fun z => h_36 (by rw [z.1]; rfl))).symm | exact (if_neg (fun z => absurd (show (0 : Int32) < nI i from nI_lt (a := 0) z.2 (by omega)) (Int32.not_lt.mpr h_43))).symm | exact (if_pos ⟨nI_inj (b := 1) (by omega) (by decide) h_36, (nI_ltI (a := 0) (by decide) (by omega)).mp (Int32.not_le.mp h_43)⟩).symm))
  | succ n ih =>
    intro i r hi h1 h9
    have hil : i < len := by omega
    have hr := rdN_le r (tx i)
    refine V_iload_n (i := 2) rfl rfl dX4_firstFault_4 rfl ?_
    refine V_aload_n (i := 0) rfl rfl dX4_firstFault_5 rfl ?_
    refine V_get (kf := 1) C4 (by decide) l_X4_15 (by assumption) rfl dX4_firstFault_6 rfl ?_
    rw [hC.2.2.2.1]
    refine V_icmp_ge (tgt := 34) dX4_firstFault_9 (by decide) rfl (fun h => absurd h (nI_ge hil (by omega))) (fun _ => ?_)
    refine V_iload_n (i := 1) rfl rfl dX4_firstFault_12 rfl ?_
    refine V_aload_n (i := 0) rfl rfl dX4_firstFault_13 rfl ?_
    refine V_iload_n (i := 2) rfl rfl dX4_firstFault_14 rfl ?_
    refine V_call (n := 1) (sp_signAt l g hS hC (nI i)) o_X4_signAt m_X4_19 ⟨by decide, by decide⟩ (by assumption) rfl rfl (by first | exact Nat.le_of_ble_eq_true rfl | simp [Value.category]) (Nat.le_refl _) (Nat.le_refl _) rfl dX4_firstFault_15 rfl (kI ?_)
    rw [sgX_nI tx hil hl]
    refine V_callS (n := 2) (sp_readAfter l g h1 h9 (tx i)) o_X4_readAfter m_X4_23 ⟨by decide, by decide⟩ rfl rfl (by first | exact Nat.le_of_ble_eq_true rfl | simp [Value.category]) (Nat.le_refl _) (Nat.le_refl _) rfl dX4_firstFault_18 rfl (kI ?_)
    refine V_istore_n (i := 1) rfl (by decide) rfl dX4_firstFault_21 rfl ?_
    refine V_iload_n (i := 1) rfl rfl dX4_firstFault_22 rfl ?_
    refine V_if_ne (tgt := 28) dX4_firstFault_23 (by decide) rfl (fun h_23 => ?_) (fun h_23 => ?_)
    · refine V_iinc1 (i := 2) rfl (by decide) rfl dX4_firstFault_28 rfl ?_
      refine V_goto (tgt := 4) dX4_firstFault_31 (by decide) ?_
      have hne : ¬ rdN r (tx i) = 0 := fun e => h_23 (by rw [e]; rfl)
      have h8 := ih (i + 1) (rdN r (tx i)) (by omega) (by omega) hr
      rw [← nI_1] at h8
      refine V_Q ?_ h8
      rintro v I1 P1 ⟨rfl, rfl, rfl⟩
      exact ⟨by rw [show ffF tx len (n + 1) i r = if rdN r (tx i) = 0 then nI i else ffF tx len n (i + 1) (rdN r (tx i)) from rfl, if_neg hne], rfl, rfl⟩
    · refine V_iload_n (i := 2) rfl rfl dX4_firstFault_26 rfl ?_
      exact V_ireturn rfl rfl dX4_firstFault_27 rfl rfl rfl (qI.of (by rw [show ffF tx len (n + 1) i r = if rdN r (tx i) = 0 then nI i else ffF tx len n (i + 1) (rdN r (tx i)) from rfl, if_pos (nI_eq0 h_23 (by omega))]))

set_option maxHeartbeats 4000000 in
set_option maxRecDepth 100000 in
theorem sp_firstFault (l : Launch) (g : fw_G) {I : fw_I} {P : fw_P} {s : Nat → Int32} {k : Nat} {h : Nat → Nat → Int32} {tk : Bool} {sp : Nat → Int32} {len : Nat} {tx : Nat → Int32} (hS : CSh P) (hC : CRel I P s k h tk sp len tx) : Sp l g kX4_firstFault T0 [.ref (g.1 + 683)] I P T0 0 0 (qI (ffF tx len len 0 1) I P) := by
  refine Sp.of_V (L := [some (.ref (g.1 + 683)), none, none]) (by decide) (by simp [Value.category]) (Nat.le_of_ble_eq_true rfl) rfl ?_
  refine V_iconst (v := 1) (by decide) dX4_firstFault_0 rfl ?_
  refine V_istore_n (i := 1) rfl (by decide) rfl dX4_firstFault_1 rfl ?_
  refine V_iconst (v := 0) (by decide) dX4_firstFault_2 rfl ?_
  refine V_istore_n (i := 2) rfl (by decide) rfl dX4_firstFault_3 rfl ?_
  exact lp_fault l g hS hC len 0 1 (by omega) (by decide) (by decide)

set_option maxHeartbeats 4000000 in
set_option maxRecDepth 100000 in
theorem sc_fault (l : Launch) (g : fw_G) {I : fw_I} {P : fw_P} {s : Nat → Int32} {k : Nat} {h : Nat → Nat → Int32} {tk : Bool} {sp : Nat → Int32} {len : Nat} {tx : Nat → Int32} (hS : CSh P) (hC : CRel I P s k h tk sp len tx) {B : Nat} (hI : Inv B s) : Sp l g kX7_fault T0 [.ref (g.1 + 0)] I P T0 0 0 (qI (ffF tx len len 0 1) I P) := by
  have a0 := at_0
  have a1 := at_race isRc_1
  have a256 := at_256
  have a683 := at_683
  have r1 := isRc_1
  have hS1 := hS.r isRc_1
  have hR := hC.1.1
  have hv := hC.1.2
  have q0 : P 0 0 = some 1 := hS.2.2.2.2.1
  have q1 : P 0 1 = some 86 := hS.2.2.2.2.2.1
  have q2 : P 0 2 = some 171 := hS.2.2.2.2.2.2.1
  have q3 : P 0 3 = some 256 := hS.2.2.2.2.2.2.2.1
  have q4 : P 0 4 = some 683 := hS.2.2.2.2.2.2.2.2.1
  have q5 : P 0 5 = some 685 := hS.2.2.2.2.2.2.2.2.2.1
  have a684 := at_684
  have q6 : P 683 0 = some 684 := hS.2.2.2.2.2.2.2.2.2.2.1
  refine Sp.of_V (L := [some (.ref (g.1 + 0))]) (by decide) (by simp [Value.category]) (Nat.le_of_ble_eq_true rfl) rfl ?_
  refine V_aload_n (i := 0) rfl rfl dX7_fault_0 rfl ?_
  refine V_getr (kf := 4) C7 (by decide) l_X7_32 (by assumption) rfl (by assumption) dX7_fault_1 rfl ?_
  refine V_call (n := 0) (sp_firstFault l g hS hC) o_X4_firstFault m_X7_125 ⟨by decide, by decide⟩ (by assumption) rfl rfl (by first | exact Nat.le_of_ble_eq_true rfl | simp [Value.category]) (Nat.le_refl _) (Nat.le_refl _) rfl dX7_fault_4 rfl (kI ?_)
  exact V_ireturn rfl rfl dX7_fault_7 rfl rfl rfl (qI.of rfl)

