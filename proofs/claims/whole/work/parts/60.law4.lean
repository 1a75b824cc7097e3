/-! the law from its entry -/
theorem CSh.fr {P Q : fw_P} (h : CSh P) (e : ∀ b, b < 688 → Q b = P b) : CSh Q := by
  obtain ⟨h1, h2, h3, h4, h5⟩ := h
  have e0 := e 0 (by decide)
  have e1 := e 256 (by decide)
  have e2 := e 257 (by decide)
  have e3 := e 683 (by decide)
  have e4 := e 685 (by decide)
  exact ⟨fun ra hr => (h1 ra hr).frame (fun b x y => e b (by have := hr.lt; omega)), by rw [e1]; exact h2, by rw [e2]; exact h3, by rw [e2]; exact h4, by rw [e0, e3, e4]; exact h5⟩
theorem CRel.fr {I J : fw_I} {P Q : fw_P} {s : Nat → Int32} {k : Nat} {h : Nat → Nat → Int32} {tk : Bool} {sp : Nat → Int32} {len : Nat} {tx : Nat → Int32} (hS : CSh P) (hC : CRel I P s k h tk sp len tx) (e : ∀ b, b < 688 → J b = I b ∧ Q b = P b) : CRel J Q s k h tk sp len tx := by
  obtain ⟨a1, ⟨b1, b2, b3⟩, ⟨c1, c2⟩, d1, d2, d3⟩ := hC
  refine ⟨RM (hS.r isRc_1) a1 (fun b x y => e b (by omega)), ⟨by rw [(e 256 (by decide)).1]; exact b1, b2, fun i hi r hr => ?_⟩, ⟨by rw [(e 0 (by decide)).1]; exact c1, fun t => RM (hS.r isRc_171) (c2 t) (fun b x y => e b (by omega))⟩, by rw [(e 683 (by decide)).1]; exact d1, d2, by rw [(e 684 (by decide)).1]; exact d3⟩
  rw [(e 257 (by decide)).2] at hr
  obtain ⟨c, hc, e'⟩ := hS.2.2.1 i (by omega)
  have hb := b3 i hi r hr
  rw [hr] at e'
  obtain rfl := Option.some.inj e'
  exact RM (hS.r (isRc_h hc)) hb (fun b x y => e b (by have := (isRc_h hc).lt; omega))
set_option maxHeartbeats 4000000 in
set_option maxRecDepth 100000 in
theorem fw_start {s : State} {b : Nat} (hts : ∀ w ∈ lw_tbl, w.before #[Value.ref b] s = true) : ∃ g : fw_G, g.1 = s.heap.size ∧ fw_K g s := by
  have hU : ∀ w ∈ fw_U, w.before #[Value.ref b] s = true := fun w h => hts w (List.mem_filter.mp h).1
  have hT : ∀ w ∈ tables_1, w.before #[Value.ref b] s = true := fun w h => hts w (List.mem_append_right _ h)
  obtain ⟨c0, i0, k0⟩ := u_known (C := RX0) (T := TX0) (N := 4) (n := 4) hU C0.2.2.1 (hU _ in_X0)
  obtain ⟨c1, i1, k1⟩ := u_known (C := RX1) (T := TX1) (N := 2) (n := 2) hU C1.2.2.1 (hU _ in_X1)
  obtain ⟨c2, i2, k2⟩ := u_known (C := RX2) (T := TX2) (N := 7) (n := 7) hU C2.2.2.1 (hU _ in_X2)
  obtain ⟨c3, i3, k3⟩ := u_known (C := RX3) (T := TX3) (N := 10) (n := 10) hU C3.2.2.1 (hU _ in_X3)
  obtain ⟨c4, i4, k4⟩ := u_known (C := RX4) (T := TX4) (N := 2) (n := 2) hU C4.2.2.1 (hU _ in_X4)
  obtain ⟨c5, i5, k5⟩ := u_known (C := RX5) (T := TX5) (N := 3) (n := 3) hU C5.2.2.1 (hU _ in_X5)
  obtain ⟨c6, i6, k6⟩ := u_known (C := RX6) (T := TX6) (N := 4) (n := 4) hU C6.2.2.1 (hU _ in_X6)
  obtain ⟨c7, i7, k7⟩ := u_known (C := RX7) (T := TX7) (N := 7) (n := 7) hU C7.2.2.1 (hU _ in_X7)
  obtain ⟨c8, i8, k8⟩ := u_known (C := RX8) (T := TX8) (N := 14) (n := 14) hU C8.2.2.1 (hU _ in_X8)
  obtain ⟨a9, kA9, cm9, f9, g9, h9⟩ := Cond.arrayClass_spec (hU _ ac_int)
  obtain ⟨a10, kA10, cm10, f10, g10, h10⟩ := Cond.arrayClass_spec (hU _ ac_boolean)
  have o11 : (Cond.arrayOver (.object RX3)).before #[Value.ref b] s = true := hT _ (List.mem_of_getElem? (i := 163) (by decide +kernel))
  have o12 : (Cond.arrayOver (.object RX2)).before #[Value.ref b] s = true := hT _ (List.mem_of_getElem? (i := 25) (by decide +kernel))
  have o13 : (Cond.arrayOver (.object RX0)).before #[Value.ref b] s = true := hT _ (List.mem_of_getElem? (i := 32) (by decide +kernel))
  have o14 : (Cond.arrayOver (.object RX6)).before #[Value.ref b] s = true := hT _ (List.mem_of_getElem? (i := 92) (by decide +kernel))
  obtain ⟨cm11, a11, kA11, p11, -, q11, r11, s11⟩ := Cond.arrayOver_spec o11
  obtain ⟨cm12, a12, kA12, p12, -, q12, r12, s12⟩ := Cond.arrayOver_spec o12
  obtain ⟨cm13, a13, kA13, p13, -, q13, r13, s13⟩ := Cond.arrayOver_spec o13
  obtain ⟨cm14, a14, kA14, p14, -, q14, r14, s14⟩ := Cond.arrayOver_spec o14
  refine ⟨(s.heap.size, (fun k => match k with | 0 => c0 | 1 => c1 | 2 => c2 | 3 => c3 | 4 => c4 | 5 => c5 | 6 => c6 | 7 => c7 | _ => c8, fun k => match k with | 0 => i0 | 1 => i1 | 2 => i2 | 3 => i3 | 4 => i4 | 5 => i5 | 6 => i6 | 7 => i7 | _ => i8), fun k => match k with | 9 => a9 | 10 => a10 | 11 => a11 | 12 => a12 | 13 => a13 | _ => a14), rfl, ⟨fun k q hq => ?_, fun k q hq => ?_⟩, fun q hq => ?_, fun q hq => ?_⟩
  · match k, hq with
    | 0, hq => cases hq; exact k0
    | 1, hq => cases hq; exact k1
    | 2, hq => cases hq; exact k2
    | 3, hq => cases hq; exact k3
    | 4, hq => cases hq; exact k4
    | 5, hq => cases hq; exact k5
    | 6, hq => cases hq; exact k6
    | 7, hq => cases hq; exact k7
    | 8, hq => cases hq; exact k8
    | k + 9, hq => simp [vwCl] at hq
  · match k, hq with
    | 0, hq => cases hq; exact ⟨fun n z => ⟨(fun k h => by cases h), kA9, g9, cm9, h9⟩, f9⟩
    | 1, hq => cases hq; exact ⟨fun n z => ⟨(fun k h => by cases h), kA10, g10, cm10, h10⟩, f10⟩
    | 2, hq => cases hq; exact ⟨fun n z => ⟨(fun k h => by cases h), kA11, q11, cm11, r11⟩, kA11, cm11, q11, r11, p11, s11⟩
    | 3, hq => cases hq; exact ⟨fun n z => ⟨(fun k h => by cases h), kA12, q12, cm12, r12⟩, kA12, cm12, q12, r12, p12, s12⟩
    | 4, hq => cases hq; exact ⟨fun n z => ⟨(fun k h => by cases h), kA13, q13, cm13, r13⟩, kA13, cm13, q13, r13, p13, s13⟩
    | 5, hq => cases hq; exact ⟨fun n z => ⟨(fun k h => by cases h), kA14, q14, cm14, r14⟩, kA14, cm14, q14, r14, p14, s14⟩
    | k + 6, hq => simp [fw_tys] at hq
  · simp only [fw_nests, List.mem_cons, List.not_mem_nil, or_false] at hq
    rcases hq with rfl | rfl | rfl | rfl
    · exact va_tabs (A := #[Value.ref b]) (u := s) (by decide +kernel) rfl (hT _ (List.mem_of_getElem? (i := 34) (by decide +kernel)))
    · exact va_tabs (A := #[Value.ref b]) (u := s) (by decide +kernel) rfl (hT _ (List.mem_of_getElem? (i := 94) (by decide +kernel)))
    · exact va_tabs (A := #[Value.ref b]) (u := s) (by decide +kernel) rfl (hT _ (List.mem_of_getElem? (i := 328) (by decide +kernel)))
    · exact va_tabs (A := #[Value.ref b]) (u := s) (by decide +kernel) rfl (hT _ (List.mem_of_getElem? (i := 578) (by decide +kernel)))
  · simp only [fw_aos, List.mem_cons, List.not_mem_nil, or_false] at hq
    rcases hq with rfl | rfl | rfl | rfl
    · exact va_AO.of o13
    · exact va_AO.of o12
    · exact va_AO.of o11
    · exact va_AO.of o14
set_option maxHeartbeats 4000000 in
set_option maxRecDepth 100000 in
theorem whole_start {p : Program} {e : Env} {s : State} {m : MethodId} {below : List Frame} {meth : Method} {c : Code} (l : Launch) (hflags : l.flags = flags0) {b L : Nat} {xs : Nat → Int32} (hL : L ≤ 2560) (C0 : lw_At p s m meth c b L xs) : W p l e room_1 s m #[Value.ref b] below meth c s.heap [] 0 0 (lw_Z below #[Value.ref b] s) (entryFrame m ([Value.ref b] : List Value).toArray 8) := by
  obtain ⟨g, hg, hK⟩ := fw_start C0.2.2.2.2.2.1
  have C : LC p s m meth c b L xs g := ⟨C0, hg, hK, hL⟩
  have hl := lv_entry ([.ref b]) (n := 8) (Nat.le_of_ble_eq_true rfl)
  rw [lg_entry_eq]
  generalize (lg_sl ([.ref b]) ++ List.replicate (8 - (lg_sl ([.ref b])).length) Slot.unset).toArray = ls at hl ⊢
  have hl : lv_has ls 8 [(0, .ref b)] := hl
  have hL2 : fw_L2 ls 8 [some (.ref b), none, none, none, none, none, none, none] := fw_L2.of hl (fun j u hj => by
    match j, hj with
    | 0, hj => cases hj; simp
    | 1, hj => simp at hj
    | 2, hj => simp at hj
    | 3, hj => simp at hj
    | 4, hj => simp at hj
    | 5, hj => simp at hj
    | 6, hj => simp at hj
    | 7, hj => simp at hj
    | j + 8, hj => simp at hj)
  have hR : fw_R g (0, tt) (fun _ _ => 0) (fun _ _ => none) s.heap := fun k q h => by simp [fw_ws] at h
  suffices K : VL p l e s m below meth c b g (0, tt) (fun _ _ => 0) (fun _ _ => none) 0 0 [some (.ref b), none, none, none, none, none, none, none] [] from K s.heap [] ls hR va_S.rf hL2
  have cat1 : ∀ v, some v ∈ ([some (.ref b), none, none, none, none, none, none, none] : List (Option Value)) → v.category = 1 := by
    intro v hv
    simp only [List.mem_cons, List.not_mem_nil, or_false, Option.some.injEq, reduceCtorEq] at hv
    rw [hv]; rfl
  have cat2 : ∀ v, some v ∈ ([some (.ref b), some (.ref (g.1 + 0)), none, none, none, none, none, none] : List (Option Value)) → v.category = 1 := by
    intro v hv
    simp only [List.mem_cons, List.not_mem_nil, or_false, Option.some.injEq, reduceCtorEq] at hv
    rcases hv with rfl | rfl <;> rfl
  have cat3 : ∀ v, some v ∈ ([some (.ref b), some (.ref (g.1 + 0)), some (.ref (g.1 + 688)), none, none, none, none, none] : List (Option Value)) → v.category = 1 := by
    intro v hv
    simp only [List.mem_cons, List.not_mem_nil, or_false, Option.some.injEq, reduceCtorEq] at hv
    rcases hv with rfl | rfl | rfl <;> rfl
  refine L_new C at_0.2 C7 (df7 g _) j_L_7 in_X7 ini_X7 (by decide) (by decide) dL_law_0 rfl ?_
  refine L_dup C (by rfl) dL_law_3 rfl ?_
  refine L_callI C (n := 0) (si_class l g) o_X7_init rfl m_L_9 ⟨by decide, by decide⟩ rfl rfl (by simp [Value.category]) (Nat.le_of_ble_eq_true rfl) (Nat.le_of_ble_eq_true rfl) rfl dL_law_4 rfl ?_
  rintro _ I1 P1 ⟨rfl, hS1, hC1⟩
  refine L_astore_n C (i := 1) rfl (by decide) cat1 rfl dL_law_7 rfl ?_
  refine L_new C at_688.2 C8 (df8 g _) j_L_10 in_X8 ini_X8 (by decide) (Nat.le_of_ble_eq_true rfl) dL_law_8 rfl ?_
  refine L_dup C (by rfl) dL_law_11 rfl ?_
  refine L_callI C (n := 0) (si_model l g (fun f => fw_z_at _ _ _ _)) o_X8_init rfl m_L_12 ⟨by decide, by decide⟩ rfl rfl (by simp [Value.category]) (Nat.le_of_ble_eq_true rfl) (Nat.le_of_ble_eq_true rfl) rfl dL_law_12 rfl ?_
  rintro _ I2 P2 ⟨rfl, hF, hM, h689, h2, h4, h7⟩
  refine L_astore_n C (i := 2) rfl (by decide) cat2 rfl dL_law_15 rfl ?_
  refine L_iconst C (v := 0) (by decide) dL_law_16 rfl ?_
  refine L_istore_n C (i := 3) rfl (by decide) cat3 rfl dL_law_17 rfl ?_
  have ef : ∀ q, q < 688 → I2 q = I1 q ∧ P2 q = P1 q := fun q hq => ⟨(hF q hq).1.trans (fw_z_ne _ (by omega)), (hF q hq).2.trans (fw_z_ne _ (by omega))⟩
  have hS2 : CSh P2 := hS1.fr (fun q hq => (ef q hq).2)
  have hC2 := CRel.fr hS1 (hC1 (hrow I2) (I2 693) (I2 691)) ef
  have hSm : Sm I2 P2 (10 + 9 * 0) := Sim.put hM hS2 hC2 (fun _ _ => rfl) (fun j _ => h689 j) (fun i hi => absurd hi (Nat.not_lt_zero i)) (fun z => absurd z (by decide)) (fun j hj => absurd hj (Nat.not_lt_zero j)) h2 h4 h7 Inv_r0 (fun i hi => absurd hi (Nat.not_lt_zero i)) (fun z => absurd z (by decide))
  exact law_loop C (Nat.le_of_ble_eq_true rfl) 513 0 I2 P2 rfl (by decide) hSm
