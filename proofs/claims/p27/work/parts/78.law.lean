variable {nT : Nat}
/-! the law: its loop, its start -/
set_option maxHeartbeats 4000000 in
set_option maxRecDepth 100000 in
theorem fw_start {s : State} {b : Nat} (hts : ∀ w ∈ lw_tbl, w.before #[Value.ref b] s = true) : ∃ g : fw_G, g.1 = s.heap.size ∧ fw_K g s := by
  have hU : ∀ w ∈ fw_U, w.before #[Value.ref b] s = true := fun w h => hts w (List.mem_filter.mp h).1
  have hT : ∀ w ∈ tables_1, w.before #[Value.ref b] s = true := fun w h => hts w (List.mem_append_right _ h)
  obtain ⟨c0, i0, k0⟩ := u_known (C := RX0) (T := TX0) (N := 4) (n := 4) hU C0.2.2.1 (hU _ in_X0)
  obtain ⟨c1, i1, k1⟩ := u_known (C := RX1) (T := TX1) (N := 2) (n := 2) hU C1.2.2.1 (hU _ in_X1)
  obtain ⟨c2, i2, k2⟩ := u_known (C := RX2) (T := TX2) (N := 7) (n := 7) hU C2.2.2.1 (hU _ in_X2)
  obtain ⟨c3, i3, k3⟩ := u_known (C := RX3) (T := TX3) (N := 10) (n := 10) hU C3.2.2.1 (hU _ in_X3)
  obtain ⟨c4, i4, k4⟩ := u_known (C := RX4) (T := TX4) (N := 2) (n := 2) hU C4.2.2.1 (hU _ in_X4)
  obtain ⟨c5, i5, k5⟩ := u_known (C := RX5) (T := TX5) (N := 3) (n := 3) hU C5.2.2.1 (hU _ in_X5)
  obtain ⟨c6, i6, k6⟩ := u_known (C := RX6) (T := TX6) (N := 4) (n := 4) hU C6.2.2.1 (hU _ in_X6)
  obtain ⟨c7, i7, k7⟩ := u_known (C := RX7) (T := TX7) (N := 7) (n := 7) hU C7.2.2.1 (hU _ in_X7)
  obtain ⟨a9, kA9, cm9, f9, g9, h9⟩ := Cond.arrayClass_spec (hU _ ac_int)
  have o11 : (Cond.arrayOver (.object RX3)).before #[Value.ref b] s = true := hT _ (List.mem_of_getElem? (i := 162) (by decide +kernel))
  have o12 : (Cond.arrayOver (.object RX2)).before #[Value.ref b] s = true := hT _ (List.mem_of_getElem? (i := 24) (by decide +kernel))
  have o13 : (Cond.arrayOver (.object RX0)).before #[Value.ref b] s = true := hT _ (List.mem_of_getElem? (i := 31) (by decide +kernel))
  have o14 : (Cond.arrayOver (.object RX6)).before #[Value.ref b] s = true := hT _ (List.mem_of_getElem? (i := 91) (by decide +kernel))
  obtain ⟨cm11, a11, kA11, p11, -, q11, r11, s11⟩ := Cond.arrayOver_spec o11
  obtain ⟨cm12, a12, kA12, p12, -, q12, r12, s12⟩ := Cond.arrayOver_spec o12
  obtain ⟨cm13, a13, kA13, p13, -, q13, r13, s13⟩ := Cond.arrayOver_spec o13
  obtain ⟨cm14, a14, kA14, p14, -, q14, r14, s14⟩ := Cond.arrayOver_spec o14
  refine ⟨(s.heap.size, (fun k => match k with | 0 => c0 | 1 => c1 | 2 => c2 | 3 => c3 | 4 => c4 | 5 => c5 | 6 => c6 | _ => c7, fun k => match k with | 0 => i0 | 1 => i1 | 2 => i2 | 3 => i3 | 4 => i4 | 5 => i5 | 6 => i6 | _ => i7), fun k => match k with | 9 => a9 | 10 => a9 | 11 => a11 | 12 => a12 | 13 => a13 | _ => a14), rfl, ⟨fun k q hq => ?_, fun k q hq => ?_⟩, fun q hq => ?_, fun q hq => ?_⟩
  · match k, hq with
    | 0, hq => cases hq; exact k0
    | 1, hq => cases hq; exact k1
    | 2, hq => cases hq; exact k2
    | 3, hq => cases hq; exact k3
    | 4, hq => cases hq; exact k4
    | 5, hq => cases hq; exact k5
    | 6, hq => cases hq; exact k6
    | 7, hq => cases hq; exact k7
    | k + 8, hq => simp [vwCl] at hq
  · match k, hq with
    | 0, hq => cases hq; exact ⟨fun n z => ⟨(fun k h => by cases h), kA9, g9, cm9, h9⟩, f9⟩
    | 1, hq => cases hq; exact ⟨fun n z => ⟨(fun k h => by cases h), kA9, g9, cm9, h9⟩, f9⟩
    | 2, hq => cases hq; exact ⟨fun n z => ⟨(fun k h => by cases h), kA11, q11, cm11, r11⟩, kA11, cm11, q11, r11, p11, s11⟩
    | 3, hq => cases hq; exact ⟨fun n z => ⟨(fun k h => by cases h), kA12, q12, cm12, r12⟩, kA12, cm12, q12, r12, p12, s12⟩
    | 4, hq => cases hq; exact ⟨fun n z => ⟨(fun k h => by cases h), kA13, q13, cm13, r13⟩, kA13, cm13, q13, r13, p13, s13⟩
    | 5, hq => cases hq; exact ⟨fun n z => ⟨(fun k h => by cases h), kA14, q14, cm14, r14⟩, kA14, cm14, q14, r14, p14, s14⟩
    | k + 6, hq => simp [fw_tys] at hq
  · simp only [fw_nests, List.mem_cons, List.not_mem_nil, or_false] at hq
    rcases hq with rfl | rfl | rfl | rfl
    · exact va_tabs (A := #[Value.ref b]) (u := s) (by decide +kernel) rfl (hT _ (List.mem_of_getElem? (i := 33) (by decide +kernel)))
    · exact va_tabs (A := #[Value.ref b]) (u := s) (by decide +kernel) rfl (hT _ (List.mem_of_getElem? (i := 93) (by decide +kernel)))
    · exact va_tabs (A := #[Value.ref b]) (u := s) (by decide +kernel) rfl (hT _ (List.mem_of_getElem? (i := 444) (by decide +kernel)))
    · exact va_tabs (A := #[Value.ref b]) (u := s) (by decide +kernel) rfl (hT _ (List.mem_of_getElem? (i := 306) (by decide +kernel)))
  · simp only [fw_aos, List.mem_cons, List.not_mem_nil, or_false] at hq
    rcases hq with rfl | rfl | rfl | rfl
    · exact va_AO.of o13
    · exact va_AO.of o12
    · exact va_AO.of o11
    · exact va_AO.of o14
section LAWE
variable {p : Program} {l : Launch} {ev : Env} {s : State} {m : MethodId} {below : List Frame} {meth : Method} {c : Code} {b Ln : Nat} {xs : Nat → Int32} {g : fw_G}
def LL (b : Nat) (g : fw_G) (e : Nat) : List (Option Value) := [some (.ref b), some (.ref (g.1 + 0)), some (.int (nI e))]
theorem LL.cat {b : Nat} {g : fw_G} {e : Nat} : ∀ v, some v ∈ LL b g e → v.category = 1 := by
  intro v hv
  simp only [LL, List.mem_cons, List.not_mem_nil, or_false, Option.some.injEq] at hv
  rcases hv with rfl | rfl | rfl <;> rfl
set_option maxHeartbeats 4000000 in
set_option maxRecDepth 100000 in
theorem law_end (C : LC p s m meth c b Ln xs g) {I : fw_I} {P : fw_P} {r : Nat → Int32} {k : Nat} {h : Nat → Nat → Int32} {e n w : Nat} (hn : n ≤ 52) (hw : w ≤ 10000) (hx : Wd I P r k h (10 + 100 * 52)) : VL p l ev s m below meth c b g (T0 n) I P w 106 (LL b g e) [] := by
  refine L_aload_n C (i := 1) rfl rfl dL_law_106 rfl ?_
  refine L_aload_n C (i := 0) rfl rfl dL_law_107 rfl ?_
  refine L_bipush C (v := nI 104) (by decide) dL_law_108 rfl ?_
  refine L_cell C (j := 104) (by omega) m_L_102 (by first | exact Nat.le_of_ble_eq_true rfl | simp [Value.category]) (by show 688 + n ≤ 698861; omega) (by omega) dL_law_110 rfl (fun r1 => ?_)
  refine L_ldc C cst_L_83 dL_law_113 rfl ?_
  refine L_callS C (n := 2) (sp_low (nT := n) l g r1 (m := 65536) (by decide) (by decide)) o_L_low m_L_64 ⟨by decide, by decide⟩ rfl rfl (by first | exact Nat.le_of_ble_eq_true rfl | simp [Value.category]) (by show 688 + n + 0 ≤ 698861; omega) (by omega) rfl dL_law_115 rfl ?_
  rintro _ I1 P1 ⟨_, rfl, ⟨x, hx65, rfl⟩, rfl, rfl⟩
  refine L_iconst C (v := 1) (by decide) dL_law_118 rfl ?_
  refine L_aload_n C (i := 0) rfl rfl dL_law_119 rfl ?_
  refine L_bipush C (v := nI 105) (by decide) dL_law_120 rfl ?_
  refine L_cell C (j := 105) (by omega) m_L_102 (by first | exact Nat.le_of_ble_eq_true rfl | simp [Value.category]) (by show 688 + n ≤ 698861; omega) (by omega) dL_law_122 rfl (fun r2 => ?_)
  refine L_bipush C (v := 50) (by decide) dL_law_125 rfl ?_
  refine L_callS C (n := 2) (sp_low (nT := n) l g r2 (m := 50) (by decide) (by decide)) o_L_low m_L_64 ⟨by decide, by decide⟩ rfl rfl (by first | exact Nat.le_of_ble_eq_true rfl | simp [Value.category]) (by show 688 + n + 0 ≤ 698861; omega) (by omega) rfl dL_law_127 rfl ?_
  rintro _ I1 P1 ⟨_, rfl, ⟨y, hy, rfl⟩, rfl, rfl⟩
  refine L_iadd C dL_law_130 rfl ?_
  rw [show (1 : Int32) = nI 1 from rfl, nI_add]
  refine L_callS C (n := 3) (sp_plays (nT := n) l g hx (by decide) (show x ≤ 65535 by omega) (show 1 ≤ 1 + y by omega) (show 1 + y ≤ 50 by omega)) o_L_plays m_L_84 ⟨by decide, by decide⟩ rfl rfl (by first | exact Nat.le_of_ble_eq_true rfl | simp [Value.category]) (by show 688 + n + 1 ≤ 698861; omega) (by omega) rfl dL_law_131 rfl ?_
  rintro _ I1 P1 ⟨_, rfl, rfl, r', k', h', hx1⟩
  refine L_if_eq C (tgt := 148) dL_law_134 (by decide) rfl (fun z => absurd z (by decide)) (fun _ => ?_)
  refine L_aload_n C (i := 1) rfl rfl dL_law_137 rfl ?_
  refine L_callS C (n := 1) (sp_holds (nT := n + 1) l g hx1) o_L_holds m_L_98 ⟨by decide, by decide⟩ rfl rfl (by first | exact Nat.le_of_ble_eq_true rfl | simp [Value.category]) (by show 688 + (n + 1) + 0 ≤ 698861; omega) (by omega) rfl dL_law_138 rfl ?_
  rintro _ I2 P2 ⟨_, rfl, rfl, sx⟩
  refine L_if_eq C (tgt := 148) dL_law_141 (by decide) rfl (fun z => absurd z (by decide)) (fun _ => ?_)
  refine L_iconst C (v := 1) (by decide) dL_law_144 rfl ?_
  refine L_goto C (tgt := 149) dL_law_145 (by decide) ?_
  exact L_ret C (by show 688 + (n + 1) ≤ 698861; omega) (by omega)
set_option maxHeartbeats 4000000 in
set_option maxRecDepth 100000 in
theorem law_loop (C : LC p s m meth c b Ln xs g) : ∀ (f e n w : Nat) (I : fw_I) (P : fw_P) (r : Nat → Int32) (k : Nat) (h : Nat → Nat → Int32), e + f = 52 → n ≤ e → w ≤ 5000 + 4 * e → Wd I P r k h (10 + 100 * e) → VL p l ev s m below meth c b g (T0 n) I P w 38 (LL b g e) [] := by
  intro f
  induction f with
  | zero =>
    intro e n w I P r k h he hn hw hx
    obtain rfl : e = 52 := by omega
    refine L_iload_n C (i := 2) rfl rfl dL_law_38 rfl ?_
    refine L_bipush C (v := nI 52) (by decide) dL_law_39 rfl ?_
    refine L_icmp_ge C (tgt := 106) dL_law_41 (by decide) rfl (fun _ => ?_) (fun z => absurd (by decide) z)
    exact law_end C hn (by omega) hx
  | succ f ih =>
    intro e n w I P r k h hef hn hw hx
    have he : e < 52 := by omega
    have hBx : 10 + 100 * e + 100 < 1000000 := by omega
    refine L_iload_n C (i := 2) rfl rfl dL_law_38 rfl ?_
    refine L_bipush C (v := nI 52) (by decide) dL_law_39 rfl ?_
    refine L_icmp_ge C (tgt := 106) dL_law_41 (by decide) rfl (fun z => absurd z (nI_ge he (by decide))) (fun _ => ?_)
    refine L_aload_n C (i := 1) rfl rfl dL_law_44 rfl ?_
    have K76 : ∀ v : Int32, VL p l ev s m below meth c b g (T0 n) I P w 76 (LL b g e) [.int v, .ref (g.1 + 0)] := by
      intro v
      refine L_aload_n C (i := 0) rfl rfl dL_law_76 rfl ?_
      refine L_iconst C (v := nI 2) (by decide) dL_law_77 rfl ?_
      refine L_iload_n C (i := 2) rfl rfl dL_law_78 rfl ?_
      refine L_imul C dL_law_79 rfl ?_
      refine L_iconst C (v := 1) (by decide) dL_law_80 rfl ?_
      refine L_iadd C dL_law_81 rfl ?_
      rw [nI_mul, nI_1]
      refine L_cell C (j := 2 * e + 1) (by omega) m_L_102 (by first | exact Nat.le_of_ble_eq_true rfl | simp [Value.category]) (by show 688 + n ≤ 698861; omega) (by omega) dL_law_82 rfl (fun v2 => ?_)
      by_cases h12 : lowV v (nI 20) = 12
      · refine L_callS C (n := 3) (sp_act12 (nT := n) l g hx hBx v v2 h12) o_L_act m_L_107 ⟨by decide, by decide⟩ rfl rfl (by first | exact Nat.le_of_ble_eq_true rfl | simp [Value.category]) (by show 688 + n + 1 ≤ 698861; omega) (by omega) rfl dL_law_85 rfl ?_
        rintro _ I1 P1 ⟨_, rfl, rfl, r', k', h', hx1⟩
        refine L_if_eq C (tgt := 98) dL_law_88 (by decide) rfl (fun z => absurd z (by decide)) (fun _ => ?_)
        refine L_aload_n C (i := 1) rfl rfl dL_law_91 rfl ?_
        refine L_callS C (n := 1) (sp_holds (nT := n + 1) l g hx1) o_L_holds m_L_98 ⟨by decide, by decide⟩ rfl rfl (by first | exact Nat.le_of_ble_eq_true rfl | simp [Value.category]) (by show 688 + (n + 1) + 0 ≤ 698861; omega) (by omega) rfl dL_law_92 rfl ?_
        rintro _ I2 P2 ⟨_, rfl, rfl, sx⟩
        refine L_if_ne C (tgt := 100) dL_law_95 (by decide) rfl (fun _ => ?_) (fun z => absurd (by decide) z)
        refine L_iinc C (i := 2) (v := nI e + 1) rfl (by rfl) (by decide) LL.cat rfl dL_law_100 rfl ?_
        refine L_goto C (tgt := 38) dL_law_103 (by decide) ?_
        rw [nI_1]
        exact ih (e + 1) (n + 1) _ I2 P2 r' k' h' (by omega) (by omega) (by omega) (by rw [show 10 + 100 * (e + 1) = 10 + 100 * e + 100 from by omega]; exact hx1.to sx)
      · refine L_callS C (n := 3) (sp_actO (nT := n) l g hx hBx v v2 h12) o_L_act m_L_107 ⟨by decide, by decide⟩ rfl rfl (by first | exact Nat.le_of_ble_eq_true rfl | simp [Value.category]) (by show 688 + n + 0 ≤ 698861; omega) (by omega) rfl dL_law_85 rfl ?_
        rintro _ I1 P1 ⟨_, rfl, rfl, r', k', h', hx1⟩
        refine L_if_eq C (tgt := 98) dL_law_88 (by decide) rfl (fun z => absurd z (by decide)) (fun _ => ?_)
        refine L_aload_n C (i := 1) rfl rfl dL_law_91 rfl ?_
        refine L_callS C (n := 1) (sp_holds (nT := n) l g hx1) o_L_holds m_L_98 ⟨by decide, by decide⟩ rfl rfl (by first | exact Nat.le_of_ble_eq_true rfl | simp [Value.category]) (by show 688 + n + 0 ≤ 698861; omega) (by omega) rfl dL_law_92 rfl ?_
        rintro _ I2 P2 ⟨_, rfl, rfl, sx⟩
        refine L_if_ne C (tgt := 100) dL_law_95 (by decide) rfl (fun _ => ?_) (fun z => absurd (by decide) z)
        refine L_iinc C (i := 2) (v := nI e + 1) rfl (by rfl) (by decide) LL.cat rfl dL_law_100 rfl ?_
        refine L_goto C (tgt := 38) dL_law_103 (by decide) ?_
        rw [nI_1]
        exact ih (e + 1) n _ I2 P2 r' k' h' (by omega) (by omega) (by omega) (by rw [show 10 + 100 * (e + 1) = 10 + 100 * e + 100 from by omega]; exact hx1.to sx)
    refine L_iload_n C (i := 2) rfl rfl dL_law_45 rfl ?_
    refine L_iconst C (v := 5) (by decide) dL_law_46 rfl ?_
    refine L_icmp_ge C (tgt := 69) dL_law_47 (by decide) rfl (fun _ => ?_) (fun _ => ?_)
    · refine L_aload_n C (i := 0) rfl rfl dL_law_69 rfl ?_
      refine L_iconst C (v := nI 2) (by decide) dL_law_70 rfl ?_
      refine L_iload_n C (i := 2) rfl rfl dL_law_71 rfl ?_
      refine L_imul C dL_law_72 rfl ?_
      rw [nI_mul]
      refine L_cell C (j := 2 * e) (by omega) m_L_102 (by first | exact Nat.le_of_ble_eq_true rfl | simp [Value.category]) (by show 688 + n ≤ 698861; omega) (by omega) dL_law_73 rfl (fun v1 => ?_)
      exact K76 v1
    · refine L_bipush C (v := 20) (by decide) dL_law_50 rfl ?_
      refine L_aload_n C (i := 0) rfl rfl dL_law_52 rfl ?_
      refine L_iconst C (v := nI 2) (by decide) dL_law_53 rfl ?_
      refine L_iload_n C (i := 2) rfl rfl dL_law_54 rfl ?_
      refine L_imul C dL_law_55 rfl ?_
      rw [nI_mul]
      refine L_cell C (j := 2 * e) (by omega) m_L_102 (by first | exact Nat.le_of_ble_eq_true rfl | simp [Value.category]) (by show 688 + n ≤ 698861; omega) (by omega) dL_law_56 rfl (fun v1 => ?_)
      refine L_bipush C (v := 8) (by decide) dL_law_59 rfl ?_
      refine L_ishr C dL_law_61 rfl ?_
      refine L_ldc C cst_L_106 dL_law_62 rfl ?_
      refine L_iand C dL_law_64 rfl ?_
      refine L_imul C dL_law_65 rfl ?_
      refine L_goto C (tgt := 76) dL_law_66 (by decide) ?_
      exact K76 _
end LAWE
set_option maxHeartbeats 4000000 in
set_option maxRecDepth 100000 in
theorem whole_start {p : Program} {e : Env} {s : State} {m : MethodId} {below : List Frame} {meth : Method} {c : Code} (l : Launch) (hflags : l.flags = flags0) {b L : Nat} {xs : Nat → Int32} (hL : L ≤ 260) (C0 : lw_At p s m meth c b L xs) : W p l e room_1 s m #[Value.ref b] below meth c s.heap [] 0 0 (lw_Z below #[Value.ref b] s) (entryFrame m ([Value.ref b] : List Value).toArray 3) := by
  obtain ⟨g, hg, hK⟩ := fw_start C0.2.2.2.2.2.1
  have C : LC p s m meth c b L xs g := ⟨C0, hg, hK, hL⟩
  have hl := lv_entry ([.ref b]) (n := 3) (Nat.le_of_ble_eq_true rfl)
  rw [lg_entry_eq]
  generalize (lg_sl ([.ref b]) ++ List.replicate (3 - (lg_sl ([.ref b])).length) Slot.unset).toArray = ls at hl ⊢
  have hl : lv_has ls 3 [(0, .ref b)] := hl
  have hL2 : fw_L2 ls 3 [some (.ref b), none, none] := fw_L2.of hl (fun j u hj => by
    match j, hj with
    | 0, hj => cases hj; simp
    | 1, hj => simp at hj
    | 2, hj => simp at hj
    | j + 3, hj => simp at hj)
  have hR : fw_R g (0, tt) (fun _ _ => 0) (fun _ _ => none) s.heap := fun k q h => by simp [fw_ws] at h
  suffices K : VL p l e s m below meth c b g (0, tt) (fun _ _ => 0) (fun _ _ => none) 0 0 [some (.ref b), none, none] [] from K s.heap [] ls hR va_S.rf hL2
  have cat1 : ∀ v, some v ∈ ([some (.ref b), none, none] : List (Option Value)) → v.category = 1 := by
    intro v hv
    simp only [List.mem_cons, List.not_mem_nil, or_false, Option.some.injEq, reduceCtorEq] at hv
    rw [hv]; rfl
  have cat2 : ∀ v, some v ∈ ([some (.ref b), some (.ref (g.1 + 0)), none] : List (Option Value)) → v.category = 1 := by
    intro v hv
    simp only [List.mem_cons, List.not_mem_nil, or_false, Option.some.injEq, reduceCtorEq] at hv
    rcases hv with rfl | rfl <;> rfl
  refine L_new C (at_0 (nT := 0)).2 C7 (df7 g _) j_L_11 in_X7 ini_X7 (by decide) (by decide) dL_law_0 rfl ?_
  refine L_dup C (by rfl) dL_law_3 rfl ?_
  refine L_callI C (n := 0) (si_class l g) o_X7_init rfl m_L_97 ⟨by decide, by decide⟩ rfl rfl (by simp [Value.category]) (Nat.le_of_ble_eq_true rfl) (Nat.le_of_ble_eq_true rfl) rfl dL_law_4 rfl ?_
  rintro _ I1 P1 ⟨rfl, hS1, hC1⟩
  have hx : Wd I1 P1 r0 0 (fun _ _ => 0) 10 := ⟨⟨hS1, hC1 _ _ _⟩, Inv_r0, J_r0.mono (Nat.zero_le _)⟩
  refine L_astore_n C (i := 1) rfl (by decide) cat1 rfl dL_law_7 rfl ?_
  suffices K : ∀ w, w ≤ 4000 → VL p l e s m below meth c b g (T0 0) I1 P1 w 8 [some (.ref b), some (.ref (g.1 + 0)), none] [] from K _ (Nat.le_of_ble_eq_true rfl)
  intro w hw
  refine L_aload_n C (i := 1) rfl rfl dL_law_8 rfl ?_
  refine L_callS C (n := 1) (sp_holds (nT := 0) l g hx) o_L_holds m_L_98 ⟨by decide, by decide⟩ rfl rfl (by first | exact Nat.le_of_ble_eq_true rfl | simp [Value.category]) (Nat.le_of_ble_eq_true rfl) (by omega) rfl dL_law_9 rfl ?_
  rintro _ I2 P2 ⟨_, rfl, rfl, sx⟩
  have hx2 := hx.to sx
  refine L_if_eq C (tgt := 34) dL_law_12 (by decide) rfl (fun z => absurd z (by decide)) (fun _ => ?_)
  refine L_aload_n C (i := 1) rfl rfl dL_law_15 rfl ?_
  refine L_iconst C (v := 1) (by decide) dL_law_16 rfl ?_
  refine L_call C (n := 1) (q_ct1 (nT := 0) hx2) o_X7_count m_L_38 ⟨by decide, by decide⟩ (at_0 (nT := 0)) rfl rfl (by first | exact Nat.le_of_ble_eq_true rfl | simp [Value.category]) (Nat.le_of_ble_eq_true rfl) (by omega) rfl dL_law_17 rfl ?_
  rintro _ I3 P3 ⟨rfl, rfl, rfl⟩
  refine L_if_ne C (tgt := 34) dL_law_20 (by decide) rfl (fun z => absurd (show (if r0 4 = 4 then (-5 : Int32) else r0 1) = 0 from by decide +kernel) z) (fun _ => ?_)
  refine L_aload_n C (i := 1) rfl rfl dL_law_23 rfl ?_
  refine L_iconst C (v := 3) (by decide) dL_law_24 rfl ?_
  refine L_iconst C (v := 1) (by decide) dL_law_25 rfl ?_
  obtain ⟨rr, -, re, hr⟩ := few_fix (p := 3) Inv_r0 (by decide) (by decide +kernel)
  have e10 : rr = 10 := (re (by decide +kernel)).trans (by decide +kernel)
  refine L_call C (n := 2) (q_fw1 (nT := 0) (p := 3) hx2 hr) o_X7_fewest m_L_35 ⟨by decide, by decide⟩ (at_0 (nT := 0)) rfl rfl (by first | exact Nat.le_of_ble_eq_true rfl | simp [Value.category]) (Nat.le_of_ble_eq_true rfl) (by omega) rfl dL_law_26 rfl ?_
  rintro _ I4 P4 ⟨_, rfl, rfl, sx4⟩
  have hx4 := hx2.to sx4
  refine L_bipush C (v := 10) (by decide) dL_law_29 rfl ?_
  refine L_icmp_eq C (tgt := 36) dL_law_31 (by decide) e10 ?_
  refine L_iconst C (v := 0) (by decide) dL_law_36 rfl ?_
  refine L_istore_n C (i := 2) rfl (by decide) cat2 rfl dL_law_37 rfl ?_
  exact law_loop C 52 0 0 _ I4 P4 r0 0 _ rfl (Nat.le_refl _) (by omega) hx4
