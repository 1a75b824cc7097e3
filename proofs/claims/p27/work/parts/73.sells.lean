variable {nT : Nat}
/-! a sale, as the law looks at it -/
theorem sells_no {B : Nat} {s : Nat → Int32} (hI : Inv B s) {x : Nat} (hx : x < 4) (h0 : aMany s x = 0) (z c : Int32) : ¬ aBt s (nI x) 0 ∧ aSelR s (nI x) 0 z c = -1 ∧ ¬ aSelOk s (nI x) 0 z c ∧ cheR s (nI x) 0 = -1 := by
  have hm := hI.many hx
  have hn : ¬ aBt s (nI x) 0 := fun w => by
    have h1 := w.2.2
    rw [nI_clamp (by omega), hm.1, h0] at h1
    exact absurd h1 (by decide)
  have e : aSeE s (nI x) 0 z c = -1 := by unfold aSeE; rw [if_pos (fun w => hn w.1)]
  refine ⟨hn, ?_, fun w => ?_, ?_⟩
  · unfold aSelR
    rw [e, if_pos (by decide)]
  · have := w.1
    rw [e] at this
    exact absurd this (by decide)
  · unfold cheR
    rw [if_neg hn]
theorem selR_in {B : Nat} {s : Nat → Int32} (hI : Inv B s) {p j b c : Nat} (hp : p < 4) (hj : j < aMany s p) (hb : b < 4) (hc : c ≤ 99) : (b = p → aSelR s (nI p) (nI j) (nI b) (nI c) = -2 ∧ ¬ aSelOk s (nI p) (nI j) (nI b) (nI c)) ∧ (¬ b = p → ¬ aRea s p j b (nI c) = 0 → aSelR s (nI p) (nI j) (nI b) (nI c) = -10 - aRea s p j b (nI c) ∧ ¬ aSelOk s (nI p) (nI j) (nI b) (nI c)) ∧ (¬ b = p → aRea s p j b (nI c) = 0 → aSelR s (nI p) (nI j) (nI b) (nI c) = ro (aS s p j b (nI c)) b 1 + 1000 ∧ aSelOk s (nI p) (nI j) (nI b) (nI c) ∧ aSelF s (nI p) (nI j) (nI b) (nI c) = aS s p j b (nI c)) := by
  have hm := hI.many hp
  have e1 : (nI p).toNatClampNeg = p := nI_clamp (by omega)
  have e2 : (nI j).toNatClampNeg = j := nI_clamp (by omega)
  have e3 : (nI b).toNatClampNeg = b := nI_clamp (by omega)
  have es := see_in hI hp hj hb hc
  refine ⟨fun q => ?_, fun q h => ?_, fun q h => ?_⟩
  · rw [if_pos q] at es
    refine ⟨?_, fun w => ?_⟩
    · unfold aSelR; rw [es, if_pos (by decide)]
    · have := w.1; rw [es] at this; exact absurd this (by decide)
  · rw [if_neg q] at es
    refine ⟨?_, fun w => ?_⟩
    · unfold aSelR; rw [es, if_neg (by decide), e1, e2, e3, if_pos (rea_pos _ h)]
    · have := w.2; rw [e1, e2, e3] at this; exact h this
  · rw [if_neg q] at es
    refine ⟨?_, ⟨es, by rw [e1, e2, e3]; exact h⟩, ?_⟩
    · unfold aSelR; rw [es, if_neg (by decide), e1, e2, e3, h, if_neg (by decide)]
    · unfold aSelF; rw [e1, e2, e3]
theorem swap_1 (a b c : Int32) : a + b + c = a + c + b := by ac_rfl
theorem swap_2 (a b c : Int32) : a - b + c = a + c - b := by
  rw [Int32.sub_eq_add_neg, Int32.sub_eq_add_neg]
  ac_rfl

set_option maxHeartbeats 4000000 in
set_option maxRecDepth 100000 in
theorem lc_s268w {l : Launch} {g : fw_G} {I : fw_I} {P : fw_P} {s : Nat → Int32} {k : Nat} {h : Nat → Nat → Int32} {B x j : Nat} (hx : Wd I P s k h B) (hx4 : x < 4) (hj : j < aMany s x) {b c : Nat} (hb : b < 4) (hc : c ≤ 99) (v v5 v8 : Int32) : V l g kL_sells (T0 nT) 0 0 (qA B) (T0 nT) I P 0 0 268 [some (.ref (g.1 + 0)), some (.int v), some (.int (nI x)), some (.int (nI (aMany s x))), some (.int (nI j)), some (.int v5), some (.int (nI b)), some (.int (nI c)), some (.int v8), none, none, none, none, none, none, none] [] := by
  have a0 := at_0 (nT := nT)
  have hm := hx.2.1.many hx4
  have hmb := hx.2.1.many hb
  obtain ⟨r1, r2, r3⟩ := selR_in hx.2.1 hx4 hj hb hc
  have ew := why_in hx.2.1 hx4 hj hb hc
  by_cases hne : b = x
  · obtain ⟨er, no⟩ := r1 hne
    rw [if_pos hne] at ew
    subst hne
    refine V_aload_n (i := 0) rfl rfl dL_sells_268 rfl ?_
    refine V_iload_n (i := 2) rfl rfl dL_sells_269 rfl ?_
    refine V_iload (i := 4) rfl dL_sells_270 rfl ?_
    refine V_iload (i := 6) rfl dL_sells_272 rfl ?_
    refine V_iload (i := 7) rfl dL_sells_274 rfl ?_
    refine V_call (n := 4) (q_why hx _ _ _ _) o_X7_why m_L_74 ⟨by decide, by decide⟩ (by assumption) rfl rfl (by first | exact Nat.le_of_ble_eq_true rfl | simp [Value.category]) (Nat.le_refl _) (Nat.le_refl _) rfl dL_sells_276 rfl (kI ?_)
    rw [ew]
    refine V_istore (i := 8) (by decide) rfl dL_sells_279 rfl ?_
    refine V_aload_n (i := 0) rfl rfl dL_sells_281 rfl ?_
    refine V_iload_n (i := 2) rfl rfl dL_sells_282 rfl ?_
    refine V_iload (i := 4) rfl dL_sells_283 rfl ?_
    refine V_iconst (v := 0) (by decide) dL_sells_285 rfl ?_
    refine V_call (n := 3) (q_bt0 hx hx4 hj) o_X7_bite m_L_16 ⟨by decide, by decide⟩ (by assumption) rfl rfl (by first | exact Nat.le_of_ble_eq_true rfl | simp [Value.category]) (Nat.le_refl _) (Nat.le_refl _) rfl dL_sells_286 rfl (kI ?_)
    refine V_istore (i := 9) (by decide) rfl dL_sells_289 rfl ?_
    refine V_aload_n (i := 0) rfl rfl dL_sells_291 rfl ?_
    refine V_iload_n (i := 2) rfl rfl dL_sells_292 rfl ?_
    refine V_iload (i := 4) rfl dL_sells_293 rfl ?_
    refine V_iconst (v := 1) (by decide) dL_sells_295 rfl ?_
    refine V_call (n := 3) (q_bt1 hx hx4 hj) o_X7_bite m_L_16 ⟨by decide, by decide⟩ (by assumption) rfl rfl (by first | exact Nat.le_of_ble_eq_true rfl | simp [Value.category]) (Nat.le_refl _) (Nat.le_refl _) rfl dL_sells_296 rfl (kI ?_)
    refine V_istore (i := 10) (by decide) rfl dL_sells_299 rfl ?_
    refine V_aload_n (i := 0) rfl rfl dL_sells_301 rfl ?_
    refine V_iload_n (i := 2) rfl rfl dL_sells_302 rfl ?_
    refine V_iconst (v := 1) (by decide) dL_sells_303 rfl ?_
    refine V_call (n := 2) (q_pl1 hx hx4) o_X7_player m_L_10 ⟨by decide, by decide⟩ (by assumption) rfl rfl (by first | exact Nat.le_of_ble_eq_true rfl | simp [Value.category]) (Nat.le_refl _) (Nat.le_refl _) rfl dL_sells_304 rfl (kI ?_)
    refine V_istore (i := 11) (by decide) rfl dL_sells_307 rfl ?_
    refine V_aload_n (i := 0) rfl rfl dL_sells_309 rfl ?_
    refine V_iload (i := 6) rfl dL_sells_310 rfl ?_
    refine V_iconst (v := 1) (by decide) dL_sells_312 rfl ?_
    refine V_call (n := 2) (q_pl1 hx hb) o_X7_player m_L_10 ⟨by decide, by decide⟩ (by assumption) rfl rfl (by first | exact Nat.le_of_ble_eq_true rfl | simp [Value.category]) (Nat.le_refl _) (Nat.le_refl _) rfl dL_sells_313 rfl (kI ?_)
    refine V_istore (i := 12) (by decide) rfl dL_sells_316 rfl ?_
    refine V_aload_n (i := 0) rfl rfl dL_sells_318 rfl ?_
    refine V_iload (i := 6) rfl dL_sells_319 rfl ?_
    refine V_iconst (v := 2) (by decide) dL_sells_321 rfl ?_
    refine V_call (n := 2) (q_pl2 hx hb) o_X7_player m_L_10 ⟨by decide, by decide⟩ (by assumption) rfl rfl (by first | exact Nat.le_of_ble_eq_true rfl | simp [Value.category]) (Nat.le_refl _) (Nat.le_refl _) rfl dL_sells_322 rfl (kI ?_)
    rw [(hx.2.1.many hb).1]
    refine V_istore (i := 13) (by decide) rfl dL_sells_325 rfl ?_
    refine V_aload_n (i := 0) rfl rfl dL_sells_327 rfl ?_
    refine V_bipush (v := 6) (by decide) dL_sells_328 rfl ?_
    refine V_call (n := 1) (q_ct6 hx) o_X7_count m_L_38 ⟨by decide, by decide⟩ (by assumption) rfl rfl (by first | exact Nat.le_of_ble_eq_true rfl | simp [Value.category]) (Nat.le_refl _) (Nat.le_refl _) rfl dL_sells_330 rfl (kI ?_)
    refine V_istore (i := 14) (by decide) rfl dL_sells_333 rfl ?_
    refine V_aload_n (i := 0) rfl rfl dL_sells_335 rfl ?_
    refine V_iload_n (i := 2) rfl rfl dL_sells_336 rfl ?_
    refine V_iload (i := 4) rfl dL_sells_337 rfl ?_
    refine V_iload (i := 6) rfl dL_sells_339 rfl ?_
    refine V_iload (i := 7) rfl dL_sells_341 rfl ?_
    refine V_call (n := 4) (q_sell hx _ _ _ _) o_X7_sell m_L_67 ⟨by decide, by decide⟩ (by assumption) rfl rfl (by first | exact Nat.le_of_ble_eq_true rfl | simp [Value.category]) (Nat.le_refl _) (Nat.le_refl _) rfl dL_sells_343 rfl (kJ ?_)
    rintro _ I1 P1 ⟨rfl, hm, -⟩
    have hx1 : Wd I1 P1 s k h B := hm.elim (fun z => absurd z.1 no) (fun z => hx.to z.2)
    rw [er]
    refine V_istore (i := 15) (by decide) rfl dL_sells_346 rfl ?_
    refine V_iload (i := 6) rfl dL_sells_348 rfl ?_
    refine V_iload_n (i := 2) rfl rfl dL_sells_350 rfl ?_
    refine V_icmp_ne (tgt := 374) dL_sells_351 (by decide) rfl (fun h => absurd rfl h) (fun _ => ?_)
    refine V_iload (i := 15) rfl dL_sells_354 rfl ?_
    refine V_bipush (v := (-2)) (by decide) dL_sells_356 rfl ?_
    refine V_icmp_ne (tgt := 372) dL_sells_358 (by decide) rfl (fun h => absurd rfl h) (fun _ => ?_)
    refine V_iload (i := 8) rfl dL_sells_361 rfl ?_
    refine V_bipush (v := (-2)) (by decide) dL_sells_363 rfl ?_
    refine V_icmp_ne (tgt := 372) dL_sells_365 (by decide) rfl (fun h => absurd rfl h) (fun _ => ?_)
    refine V_iconst (v := 1) (by decide) dL_sells_368 rfl ?_
    refine V_goto (tgt := 373) dL_sells_369 (by decide) ?_
    exact V_ireturn rfl (by decide) dL_sells_373 rfl rfl rfl (⟨_, rfl, rfl, s, k, h, hx1⟩)
  rw [if_neg hne] at ew
  by_cases hr : aRea s x j b (nI c) = 0
  · obtain ⟨er, ok, ef⟩ := r3 hne hr
    have hxb : ¬ x = b := fun z => hne z.symm
    have hE := S_eff (c := nI c) hx.2.1 hx4 hj hb hxb
    obtain ⟨-, ⟨ep1, eb1, -⟩, ⟨mp, mb, -⟩, -, -, -, ⟨w0, w1, -, -⟩, -, -, t3⟩ := id hE
    have hbm : aMany s b < aMany (aS s x j b (nI c)) b := by omega
    have em1 : nI (aMany (aS s x j b (nI c)) x) = nI (aMany s x) - 1 := by rw [← mp, nI_pred]
    have em2 : nI (aMany (aS s x j b (nI c)) b) = nI (aMany s b) + 1 := by rw [mb, nI_1]
    rw [hr] at ew
    refine V_aload_n (i := 0) rfl rfl dL_sells_268 rfl ?_
    refine V_iload_n (i := 2) rfl rfl dL_sells_269 rfl ?_
    refine V_iload (i := 4) rfl dL_sells_270 rfl ?_
    refine V_iload (i := 6) rfl dL_sells_272 rfl ?_
    refine V_iload (i := 7) rfl dL_sells_274 rfl ?_
    refine V_call (n := 4) (q_why hx _ _ _ _) o_X7_why m_L_74 ⟨by decide, by decide⟩ (by assumption) rfl rfl (by first | exact Nat.le_of_ble_eq_true rfl | simp [Value.category]) (Nat.le_refl _) (Nat.le_refl _) rfl dL_sells_276 rfl (kI ?_)
    rw [ew]
    refine V_istore (i := 8) (by decide) rfl dL_sells_279 rfl ?_
    refine V_aload_n (i := 0) rfl rfl dL_sells_281 rfl ?_
    refine V_iload_n (i := 2) rfl rfl dL_sells_282 rfl ?_
    refine V_iload (i := 4) rfl dL_sells_283 rfl ?_
    refine V_iconst (v := 0) (by decide) dL_sells_285 rfl ?_
    refine V_call (n := 3) (q_bt0 hx hx4 hj) o_X7_bite m_L_16 ⟨by decide, by decide⟩ (by assumption) rfl rfl (by first | exact Nat.le_of_ble_eq_true rfl | simp [Value.category]) (Nat.le_refl _) (Nat.le_refl _) rfl dL_sells_286 rfl (kI ?_)
    refine V_istore (i := 9) (by decide) rfl dL_sells_289 rfl ?_
    refine V_aload_n (i := 0) rfl rfl dL_sells_291 rfl ?_
    refine V_iload_n (i := 2) rfl rfl dL_sells_292 rfl ?_
    refine V_iload (i := 4) rfl dL_sells_293 rfl ?_
    refine V_iconst (v := 1) (by decide) dL_sells_295 rfl ?_
    refine V_call (n := 3) (q_bt1 hx hx4 hj) o_X7_bite m_L_16 ⟨by decide, by decide⟩ (by assumption) rfl rfl (by first | exact Nat.le_of_ble_eq_true rfl | simp [Value.category]) (Nat.le_refl _) (Nat.le_refl _) rfl dL_sells_296 rfl (kI ?_)
    refine V_istore (i := 10) (by decide) rfl dL_sells_299 rfl ?_
    refine V_aload_n (i := 0) rfl rfl dL_sells_301 rfl ?_
    refine V_iload_n (i := 2) rfl rfl dL_sells_302 rfl ?_
    refine V_iconst (v := 1) (by decide) dL_sells_303 rfl ?_
    refine V_call (n := 2) (q_pl1 hx hx4) o_X7_player m_L_10 ⟨by decide, by decide⟩ (by assumption) rfl rfl (by first | exact Nat.le_of_ble_eq_true rfl | simp [Value.category]) (Nat.le_refl _) (Nat.le_refl _) rfl dL_sells_304 rfl (kI ?_)
    refine V_istore (i := 11) (by decide) rfl dL_sells_307 rfl ?_
    refine V_aload_n (i := 0) rfl rfl dL_sells_309 rfl ?_
    refine V_iload (i := 6) rfl dL_sells_310 rfl ?_
    refine V_iconst (v := 1) (by decide) dL_sells_312 rfl ?_
    refine V_call (n := 2) (q_pl1 hx hb) o_X7_player m_L_10 ⟨by decide, by decide⟩ (by assumption) rfl rfl (by first | exact Nat.le_of_ble_eq_true rfl | simp [Value.category]) (Nat.le_refl _) (Nat.le_refl _) rfl dL_sells_313 rfl (kI ?_)
    refine V_istore (i := 12) (by decide) rfl dL_sells_316 rfl ?_
    refine V_aload_n (i := 0) rfl rfl dL_sells_318 rfl ?_
    refine V_iload (i := 6) rfl dL_sells_319 rfl ?_
    refine V_iconst (v := 2) (by decide) dL_sells_321 rfl ?_
    refine V_call (n := 2) (q_pl2 hx hb) o_X7_player m_L_10 ⟨by decide, by decide⟩ (by assumption) rfl rfl (by first | exact Nat.le_of_ble_eq_true rfl | simp [Value.category]) (Nat.le_refl _) (Nat.le_refl _) rfl dL_sells_322 rfl (kI ?_)
    rw [(hx.2.1.many hb).1]
    refine V_istore (i := 13) (by decide) rfl dL_sells_325 rfl ?_
    refine V_aload_n (i := 0) rfl rfl dL_sells_327 rfl ?_
    refine V_bipush (v := 6) (by decide) dL_sells_328 rfl ?_
    refine V_call (n := 1) (q_ct6 hx) o_X7_count m_L_38 ⟨by decide, by decide⟩ (by assumption) rfl rfl (by first | exact Nat.le_of_ble_eq_true rfl | simp [Value.category]) (Nat.le_refl _) (Nat.le_refl _) rfl dL_sells_330 rfl (kI ?_)
    refine V_istore (i := 14) (by decide) rfl dL_sells_333 rfl ?_
    refine V_aload_n (i := 0) rfl rfl dL_sells_335 rfl ?_
    refine V_iload_n (i := 2) rfl rfl dL_sells_336 rfl ?_
    refine V_iload (i := 4) rfl dL_sells_337 rfl ?_
    refine V_iload (i := 6) rfl dL_sells_339 rfl ?_
    refine V_iload (i := 7) rfl dL_sells_341 rfl ?_
    refine V_call (n := 4) (q_sell hx _ _ _ _) o_X7_sell m_L_67 ⟨by decide, by decide⟩ (by assumption) rfl rfl (by first | exact Nat.le_of_ble_eq_true rfl | simp [Value.category]) (Nat.le_refl _) (Nat.le_refl _) rfl dL_sells_343 rfl (kJ ?_)
    rintro _ I1 P1 ⟨rfl, hm, -⟩
    have hw : Wd I1 P1 (aS s x j b (nI c)) (rK k) (rH k h s) B := by
      rcases hm with ⟨-, sx⟩ | ⟨no, -⟩
      · rw [ef] at sx
        exact ⟨sx, Inv_S hx.2.1 hx4 hj hb hxb hr, J_S hx.2.1 hx.2.2 hx4 hj hb hxb hc hr hE⟩
      · exact absurd ok no
    rw [er, eb1]
    refine V_istore (i := 15) (by decide) rfl dL_sells_346 rfl ?_
    refine V_iload (i := 6) rfl dL_sells_348 rfl ?_
    refine V_iload_n (i := 2) rfl rfl dL_sells_350 rfl ?_
    refine V_icmp_ne (tgt := 374) dL_sells_351 (by decide) rfl (fun _ => ?_) (fun h => absurd h (fun z => hne (nI_inj (by omega) (by omega) z)))
    refine V_iload (i := 8) rfl dL_sells_374 rfl ?_
    refine V_if_eq (tgt := 411) dL_sells_376 (by decide) rfl (fun _ => ?_) (fun h => absurd rfl h)
    refine V_iload (i := 15) rfl dL_sells_411 rfl ?_
    refine V_iload (i := 12) rfl dL_sells_413 rfl ?_
    refine V_iload (i := 7) rfl dL_sells_415 rfl ?_
    refine V_iadd dL_sells_417 rfl ?_
    refine V_icmp_ne (tgt := 520) dL_sells_418 (by decide) rfl (fun h => absurd (swap_1 _ _ _) h) (fun _ => ?_)
    refine V_aload_n (i := 0) rfl rfl dL_sells_421 rfl ?_
    refine V_iload (i := 6) rfl dL_sells_422 rfl ?_
    refine V_iconst (v := 1) (by decide) dL_sells_424 rfl ?_
    refine V_call (n := 2) (q_pl1 hw hb) o_X7_player m_L_10 ⟨by decide, by decide⟩ (by assumption) rfl rfl (by first | exact Nat.le_of_ble_eq_true rfl | simp [Value.category]) (Nat.le_refl _) (Nat.le_refl _) rfl dL_sells_425 rfl (kI ?_)
    rw [eb1]
    refine V_iload (i := 15) rfl dL_sells_428 rfl ?_
    refine V_icmp_ne (tgt := 520) dL_sells_430 (by decide) rfl (fun h => absurd rfl h) (fun _ => ?_)
    refine V_aload_n (i := 0) rfl rfl dL_sells_433 rfl ?_
    refine V_iload_n (i := 2) rfl rfl dL_sells_434 rfl ?_
    refine V_iconst (v := 1) (by decide) dL_sells_435 rfl ?_
    refine V_call (n := 2) (q_pl1 hw hx4) o_X7_player m_L_10 ⟨by decide, by decide⟩ (by assumption) rfl rfl (by first | exact Nat.le_of_ble_eq_true rfl | simp [Value.category]) (Nat.le_refl _) (Nat.le_refl _) rfl dL_sells_436 rfl (kI ?_)
    rw [ep1]
    refine V_iload (i := 11) rfl dL_sells_439 rfl ?_
    refine V_iload (i := 7) rfl dL_sells_441 rfl ?_
    refine V_isub dL_sells_443 rfl ?_
    refine V_icmp_ne (tgt := 520) dL_sells_444 (by decide) rfl (fun h => absurd (swap_2 _ _ _) h) (fun _ => ?_)
    refine V_aload_n (i := 0) rfl rfl dL_sells_447 rfl ?_
    refine V_iload_n (i := 2) rfl rfl dL_sells_448 rfl ?_
    refine V_iconst (v := 2) (by decide) dL_sells_449 rfl ?_
    refine V_call (n := 2) (q_pl2 hw hx4) o_X7_player m_L_10 ⟨by decide, by decide⟩ (by assumption) rfl rfl (by first | exact Nat.le_of_ble_eq_true rfl | simp [Value.category]) (Nat.le_refl _) (Nat.le_refl _) rfl dL_sells_450 rfl (kI ?_)
    rw [(hw.2.1.many hx4).1]
    refine V_iload_n (i := 3) rfl rfl dL_sells_453 rfl ?_
    refine V_iconst (v := 1) (by decide) dL_sells_454 rfl ?_
    refine V_isub dL_sells_455 rfl ?_
    refine V_icmp_ne (tgt := 520) dL_sells_456 (by decide) rfl (fun h => absurd em1 h) (fun _ => ?_)
    refine V_aload_n (i := 0) rfl rfl dL_sells_459 rfl ?_
    refine V_iload (i := 6) rfl dL_sells_460 rfl ?_
    refine V_iconst (v := 2) (by decide) dL_sells_462 rfl ?_
    refine V_call (n := 2) (q_pl2 hw hb) o_X7_player m_L_10 ⟨by decide, by decide⟩ (by assumption) rfl rfl (by first | exact Nat.le_of_ble_eq_true rfl | simp [Value.category]) (Nat.le_refl _) (Nat.le_refl _) rfl dL_sells_463 rfl (kI ?_)
    rw [(hw.2.1.many hb).1]
    refine V_iload (i := 13) rfl dL_sells_466 rfl ?_
    refine V_iconst (v := 1) (by decide) dL_sells_468 rfl ?_
    refine V_iadd dL_sells_469 rfl ?_
    refine V_icmp_ne (tgt := 520) dL_sells_470 (by decide) rfl (fun h => absurd em2 h) (fun _ => ?_)
    refine V_aload_n (i := 0) rfl rfl dL_sells_473 rfl ?_
    refine V_iload (i := 6) rfl dL_sells_474 rfl ?_
    refine V_iload (i := 13) rfl dL_sells_476 rfl ?_
    refine V_iconst (v := 0) (by decide) dL_sells_478 rfl ?_
    refine V_call (n := 3) (q_bt0 hw hb hbm) o_X7_bite m_L_16 ⟨by decide, by decide⟩ (by assumption) rfl rfl (by first | exact Nat.le_of_ble_eq_true rfl | simp [Value.category]) (Nat.le_refl _) (Nat.le_refl _) rfl dL_sells_479 rfl (kI ?_)
    rw [w0]
    refine V_iload (i := 9) rfl dL_sells_482 rfl ?_
    refine V_icmp_ne (tgt := 520) dL_sells_484 (by decide) rfl (fun h => absurd rfl h) (fun _ => ?_)
    refine V_aload_n (i := 0) rfl rfl dL_sells_487 rfl ?_
    refine V_iload (i := 6) rfl dL_sells_488 rfl ?_
    refine V_iload (i := 13) rfl dL_sells_490 rfl ?_
    refine V_iconst (v := 1) (by decide) dL_sells_492 rfl ?_
    refine V_call (n := 3) (q_bt1 hw hb hbm) o_X7_bite m_L_16 ⟨by decide, by decide⟩ (by assumption) rfl rfl (by first | exact Nat.le_of_ble_eq_true rfl | simp [Value.category]) (Nat.le_refl _) (Nat.le_refl _) rfl dL_sells_493 rfl (kI ?_)
    rw [w1]
    refine V_iload (i := 10) rfl dL_sells_496 rfl ?_
    refine V_iconst (v := 1) (by decide) dL_sells_498 rfl ?_
    refine V_iadd dL_sells_499 rfl ?_
    refine V_icmp_ne (tgt := 520) dL_sells_500 (by decide) rfl (fun h => absurd rfl h) (fun _ => ?_)
    refine V_aload_n (i := 0) rfl rfl dL_sells_503 rfl ?_
    refine V_bipush (v := 6) (by decide) dL_sells_504 rfl ?_
    refine V_call (n := 1) (q_ct6 hw) o_X7_count m_L_38 ⟨by decide, by decide⟩ (by assumption) rfl rfl (by first | exact Nat.le_of_ble_eq_true rfl | simp [Value.category]) (Nat.le_refl _) (Nat.le_refl _) rfl dL_sells_506 rfl (kI ?_)
    rw [t3]
    refine V_iload (i := 14) rfl dL_sells_509 rfl ?_
    refine V_iconst (v := 1) (by decide) dL_sells_511 rfl ?_
    refine V_iadd dL_sells_512 rfl ?_
    refine V_icmp_ne (tgt := 520) dL_sells_513 (by decide) rfl (fun h => absurd rfl h) (fun _ => ?_)
    refine V_iconst (v := 1) (by decide) dL_sells_516 rfl ?_
    refine V_goto (tgt := 521) dL_sells_517 (by decide) ?_
    exact V_ireturn rfl (by decide) dL_sells_521 rfl rfl rfl (⟨_, rfl, rfl, _, _, _, hw⟩)
  · obtain ⟨er, no⟩ := r2 hne hr
    refine V_aload_n (i := 0) rfl rfl dL_sells_268 rfl ?_
    refine V_iload_n (i := 2) rfl rfl dL_sells_269 rfl ?_
    refine V_iload (i := 4) rfl dL_sells_270 rfl ?_
    refine V_iload (i := 6) rfl dL_sells_272 rfl ?_
    refine V_iload (i := 7) rfl dL_sells_274 rfl ?_
    refine V_call (n := 4) (q_why hx _ _ _ _) o_X7_why m_L_74 ⟨by decide, by decide⟩ (by assumption) rfl rfl (by first | exact Nat.le_of_ble_eq_true rfl | simp [Value.category]) (Nat.le_refl _) (Nat.le_refl _) rfl dL_sells_276 rfl (kI ?_)
    rw [ew]
    refine V_istore (i := 8) (by decide) rfl dL_sells_279 rfl ?_
    refine V_aload_n (i := 0) rfl rfl dL_sells_281 rfl ?_
    refine V_iload_n (i := 2) rfl rfl dL_sells_282 rfl ?_
    refine V_iload (i := 4) rfl dL_sells_283 rfl ?_
    refine V_iconst (v := 0) (by decide) dL_sells_285 rfl ?_
    refine V_call (n := 3) (q_bt0 hx hx4 hj) o_X7_bite m_L_16 ⟨by decide, by decide⟩ (by assumption) rfl rfl (by first | exact Nat.le_of_ble_eq_true rfl | simp [Value.category]) (Nat.le_refl _) (Nat.le_refl _) rfl dL_sells_286 rfl (kI ?_)
    refine V_istore (i := 9) (by decide) rfl dL_sells_289 rfl ?_
    refine V_aload_n (i := 0) rfl rfl dL_sells_291 rfl ?_
    refine V_iload_n (i := 2) rfl rfl dL_sells_292 rfl ?_
    refine V_iload (i := 4) rfl dL_sells_293 rfl ?_
    refine V_iconst (v := 1) (by decide) dL_sells_295 rfl ?_
    refine V_call (n := 3) (q_bt1 hx hx4 hj) o_X7_bite m_L_16 ⟨by decide, by decide⟩ (by assumption) rfl rfl (by first | exact Nat.le_of_ble_eq_true rfl | simp [Value.category]) (Nat.le_refl _) (Nat.le_refl _) rfl dL_sells_296 rfl (kI ?_)
    refine V_istore (i := 10) (by decide) rfl dL_sells_299 rfl ?_
    refine V_aload_n (i := 0) rfl rfl dL_sells_301 rfl ?_
    refine V_iload_n (i := 2) rfl rfl dL_sells_302 rfl ?_
    refine V_iconst (v := 1) (by decide) dL_sells_303 rfl ?_
    refine V_call (n := 2) (q_pl1 hx hx4) o_X7_player m_L_10 ⟨by decide, by decide⟩ (by assumption) rfl rfl (by first | exact Nat.le_of_ble_eq_true rfl | simp [Value.category]) (Nat.le_refl _) (Nat.le_refl _) rfl dL_sells_304 rfl (kI ?_)
    refine V_istore (i := 11) (by decide) rfl dL_sells_307 rfl ?_
    refine V_aload_n (i := 0) rfl rfl dL_sells_309 rfl ?_
    refine V_iload (i := 6) rfl dL_sells_310 rfl ?_
    refine V_iconst (v := 1) (by decide) dL_sells_312 rfl ?_
    refine V_call (n := 2) (q_pl1 hx hb) o_X7_player m_L_10 ⟨by decide, by decide⟩ (by assumption) rfl rfl (by first | exact Nat.le_of_ble_eq_true rfl | simp [Value.category]) (Nat.le_refl _) (Nat.le_refl _) rfl dL_sells_313 rfl (kI ?_)
    refine V_istore (i := 12) (by decide) rfl dL_sells_316 rfl ?_
    refine V_aload_n (i := 0) rfl rfl dL_sells_318 rfl ?_
    refine V_iload (i := 6) rfl dL_sells_319 rfl ?_
    refine V_iconst (v := 2) (by decide) dL_sells_321 rfl ?_
    refine V_call (n := 2) (q_pl2 hx hb) o_X7_player m_L_10 ⟨by decide, by decide⟩ (by assumption) rfl rfl (by first | exact Nat.le_of_ble_eq_true rfl | simp [Value.category]) (Nat.le_refl _) (Nat.le_refl _) rfl dL_sells_322 rfl (kI ?_)
    rw [(hx.2.1.many hb).1]
    refine V_istore (i := 13) (by decide) rfl dL_sells_325 rfl ?_
    refine V_aload_n (i := 0) rfl rfl dL_sells_327 rfl ?_
    refine V_bipush (v := 6) (by decide) dL_sells_328 rfl ?_
    refine V_call (n := 1) (q_ct6 hx) o_X7_count m_L_38 ⟨by decide, by decide⟩ (by assumption) rfl rfl (by first | exact Nat.le_of_ble_eq_true rfl | simp [Value.category]) (Nat.le_refl _) (Nat.le_refl _) rfl dL_sells_330 rfl (kI ?_)
    refine V_istore (i := 14) (by decide) rfl dL_sells_333 rfl ?_
    refine V_aload_n (i := 0) rfl rfl dL_sells_335 rfl ?_
    refine V_iload_n (i := 2) rfl rfl dL_sells_336 rfl ?_
    refine V_iload (i := 4) rfl dL_sells_337 rfl ?_
    refine V_iload (i := 6) rfl dL_sells_339 rfl ?_
    refine V_iload (i := 7) rfl dL_sells_341 rfl ?_
    refine V_call (n := 4) (q_sell hx _ _ _ _) o_X7_sell m_L_67 ⟨by decide, by decide⟩ (by assumption) rfl rfl (by first | exact Nat.le_of_ble_eq_true rfl | simp [Value.category]) (Nat.le_refl _) (Nat.le_refl _) rfl dL_sells_343 rfl (kJ ?_)
    rintro _ I1 P1 ⟨rfl, hm, -⟩
    have hx1 : Wd I1 P1 s k h B := hm.elim (fun z => absurd z.1 no) (fun z => hx.to z.2)
    rw [er]
    refine V_istore (i := 15) (by decide) rfl dL_sells_346 rfl ?_
    refine V_iload (i := 6) rfl dL_sells_348 rfl ?_
    refine V_iload_n (i := 2) rfl rfl dL_sells_350 rfl ?_
    refine V_icmp_ne (tgt := 374) dL_sells_351 (by decide) rfl (fun _ => ?_) (fun h => absurd h (fun z => hne (nI_inj (by omega) (by omega) z)))
    refine V_iload (i := 8) rfl dL_sells_374 rfl ?_
    refine V_if_eq (tgt := 411) dL_sells_376 (by decide) rfl (fun h => absurd h hr) (fun _ => ?_)
    refine V_iload (i := 8) rfl dL_sells_379 rfl ?_
    refine V_if_le (tgt := 409) dL_sells_381 (by decide) rfl (fun h => absurd h (Int32.not_le.mpr (rea_pos _ hr))) (fun _ => ?_)
    refine V_iload (i := 15) rfl dL_sells_384 rfl ?_
    refine V_bipush (v := (-10)) (by decide) dL_sells_386 rfl ?_
    refine V_iload (i := 8) rfl dL_sells_388 rfl ?_
    refine V_isub dL_sells_390 rfl ?_
    refine V_icmp_ne (tgt := 409) dL_sells_391 (by decide) rfl (fun h => absurd rfl h) (fun _ => ?_)
    refine V_aload_n (i := 0) rfl rfl dL_sells_394 rfl ?_
    refine V_bipush (v := 6) (by decide) dL_sells_395 rfl ?_
    refine V_call (n := 1) (q_ct6 hx1) o_X7_count m_L_38 ⟨by decide, by decide⟩ (by assumption) rfl rfl (by first | exact Nat.le_of_ble_eq_true rfl | simp [Value.category]) (Nat.le_refl _) (Nat.le_refl _) rfl dL_sells_397 rfl (kI ?_)
    refine V_iload (i := 14) rfl dL_sells_400 rfl ?_
    refine V_icmp_ne (tgt := 409) dL_sells_402 (by decide) rfl (fun h => absurd rfl h) (fun _ => ?_)
    refine V_iconst (v := 1) (by decide) dL_sells_405 rfl ?_
    refine V_goto (tgt := 410) dL_sells_406 (by decide) ?_
    exact V_ireturn rfl (by decide) dL_sells_410 rfl rfl rfl (⟨_, rfl, rfl, s, k, h, hx1⟩)

set_option maxHeartbeats 4000000 in
set_option maxRecDepth 100000 in
theorem lc_s222 {l : Launch} {g : fw_G} {I : fw_I} {P : fw_P} {s : Nat → Int32} {k : Nat} {h : Nat → Nat → Int32} {B x j : Nat} (hx : Wd I P s k h B) (hx4 : x < 4) (hj : j < aMany s x) {b c : Nat} (hb : b < 4) (hc : c ≤ 99) (v v5 : Int32) (h5 : v5 = -5 ∨ ∃ b0 a0, b0 < 4 ∧ a0 ≤ 40 ∧ v5 = nI (100 * b0 + a0) ∧ aWhy s (nI x) (nI j) (nI b0) (nI a0) = 0) : V l g kL_sells (T0 nT) 0 0 (qA B) (T0 nT) I P 0 0 222 [some (.ref (g.1 + 0)), some (.int v), some (.int (nI x)), some (.int (nI (aMany s x))), some (.int (nI j)), some (.int v5), some (.int (nI b)), some (.int (nI c)), some (.int (nI 4)), none, none, none, none, none, none, none] [] := by
  have a9 := at_0 (nT := nT)
  rcases h5 with rfl | ⟨b0, a0, hb0, ha0, rfl, hw0⟩
  · refine V_iload_n (i := 1) rfl rfl dL_sells_222 rfl ?_
    refine V_bipush (v := 14) (by decide) dL_sells_223 rfl ?_
    refine V_ishr dL_sells_225 rfl ?_
    refine V_iconst (v := 2) (by decide) dL_sells_226 rfl ?_
    refine V_callS (n := 2) (sp_low l g (v >>> ((14 : Int32) &&& 31)) (m := 2) (by decide) (by decide)) o_L_low m_L_64 ⟨by decide, by decide⟩ rfl rfl (by first | exact Nat.le_of_ble_eq_true rfl | simp [Value.category]) (Nat.le_refl _) (Nat.le_refl _) rfl dL_sells_227 rfl (kJ ?_)
    rintro _ I1 P1 ⟨⟨r, hr, rfl⟩, rfl, rfl⟩
    refine V_if_ne (tgt := 268) dL_sells_230 (by decide) rfl (fun h_230 => ?_) (fun h_230 => ?_)
    · exact lc_s268w hx hx4 hj hb hc v _ _
    · refine V_iload (i := 5) rfl dL_sells_233 rfl ?_
      refine V_if_lt (tgt := 268) dL_sells_235 (by decide) rfl (fun _ => ?_) (fun h => absurd (by decide) h)
      exact lc_s268w hx hx4 hj hb hc v _ _
  · refine V_iload_n (i := 1) rfl rfl dL_sells_222 rfl ?_
    refine V_bipush (v := 14) (by decide) dL_sells_223 rfl ?_
    refine V_ishr dL_sells_225 rfl ?_
    refine V_iconst (v := 2) (by decide) dL_sells_226 rfl ?_
    refine V_callS (n := 2) (sp_low l g (v >>> ((14 : Int32) &&& 31)) (m := 2) (by decide) (by decide)) o_L_low m_L_64 ⟨by decide, by decide⟩ rfl rfl (by first | exact Nat.le_of_ble_eq_true rfl | simp [Value.category]) (Nat.le_refl _) (Nat.le_refl _) rfl dL_sells_227 rfl (kJ ?_)
    rintro _ I1 P1 ⟨⟨r, hr, rfl⟩, rfl, rfl⟩
    refine V_if_ne (tgt := 268) dL_sells_230 (by decide) rfl (fun h_230 => ?_) (fun h_230 => ?_)
    · first | exact lc_s268w hx hx4 hj hb hc v _ _ | exact lc_s268w hx hx4 hj hb0 (show a0 ≤ 99 by omega) v _ _
    · refine V_iload (i := 5) rfl dL_sells_233 rfl ?_
      refine V_if_lt (tgt := 268) dL_sells_235 (by decide) rfl (fun h => absurd h (nI_pos (by omega))) (fun _ => ?_)
      refine V_iload (i := 5) rfl dL_sells_238 rfl ?_
      refine V_bipush (v := 100) (by decide) dL_sells_240 rfl ?_
      refine V_idiv (by decide) dL_sells_242 rfl ?_
      rw [(d100 hb0 ha0).1]
      refine V_istore (i := 6) (by decide) rfl dL_sells_243 rfl ?_
      refine V_iload (i := 5) rfl dL_sells_245 rfl ?_
      refine V_bipush (v := 100) (by decide) dL_sells_247 rfl ?_
      refine V_irem (by decide) dL_sells_249 rfl ?_
      rw [(d100 hb0 ha0).2]
      refine V_istore (i := 7) (by decide) rfl dL_sells_250 rfl ?_
      refine V_aload_n (i := 0) rfl rfl dL_sells_252 rfl ?_
      refine V_iload_n (i := 2) rfl rfl dL_sells_253 rfl ?_
      refine V_iload (i := 4) rfl dL_sells_254 rfl ?_
      refine V_iload (i := 6) rfl dL_sells_256 rfl ?_
      refine V_iload (i := 7) rfl dL_sells_258 rfl ?_
      refine V_call (n := 4) (q_why hx _ _ _ _) o_X7_why m_L_74 ⟨by decide, by decide⟩ (by assumption) rfl rfl (by first | exact Nat.le_of_ble_eq_true rfl | simp [Value.category]) (Nat.le_refl _) (Nat.le_refl _) rfl dL_sells_260 rfl (kI ?_)
      rw [hw0]
      refine V_if_eq (tgt := 268) dL_sells_263 (by decide) rfl (fun _ => ?_) (fun h => absurd rfl h)
      first | exact lc_s268w hx hx4 hj hb hc v _ _ | exact lc_s268w hx hx4 hj hb0 (show a0 ≤ 99 by omega) v _ _

set_option maxHeartbeats 4000000 in
set_option maxRecDepth 100000 in
theorem lp_s128 {l : Launch} {g : fw_G} {I : fw_I} {P : fw_P} {s : Nat → Int32} {k : Nat} {h : Nat → Nat → Int32} {B x j : Nat} (hx : Wd I P s k h B) (hx4 : x < 4) {p lim : Nat} (hp : p < 4) (hl60 : lim ≤ 60) (v v5 v6 v7 : Int32) (hlim : (v5 = -5 ∧ lim = 60) ∨ (0 ≤ v5 ∧ v5 - v5 / 100 * 100 = nI lim)) (hnw : ∀ c, c < lim → ¬ nI p = nI x → ¬ aWhy s (nI x) (nI j) (nI p) (nI c) = 0) {Q : Option Value → fw_I → fw_P → Prop} (hk : V l g kL_sells (T0 nT) 0 0 (Q) (T0 nT) I P 0 0 176 [some (.ref (g.1 + 0)), some (.int v), some (.int (nI x)), some (.int (nI (aMany s x))), some (.int (nI j)), some (.int v5), some (.int v6), some (.int v7), some (.int (nI p)), some (.int (nI lim)), none, none, none, none, none, none] []) : ∀ (n c : Nat), c + n = lim → V l g kL_sells (T0 nT) 0 0 (Q) (T0 nT) I P 0 0 128 [some (.ref (g.1 + 0)), some (.int v), some (.int (nI x)), some (.int (nI (aMany s x))), some (.int (nI j)), some (.int v5), some (.int v6), some (.int v7), some (.int (nI p)), some (.int (nI c)), none, none, none, none, none, none] [] := by
  have a0 := at_0 (nT := nT)
  intro n
  induction n with
  | zero =>
    intro c hc
    obtain rfl : c = lim := by omega
    rcases hlim with ⟨rfl, rfl⟩ | ⟨h5, e5⟩
    · refine V_iload (i := 9) rfl dL_sells_128 rfl ?_
      refine V_iload (i := 5) rfl dL_sells_130 rfl ?_
      refine V_if_ge (tgt := 140) dL_sells_132 (by decide) rfl (fun h => absurd h (by decide)) (fun _ => ?_)
      refine V_bipush (v := 60) (by decide) dL_sells_135 rfl ?_
      refine V_goto (tgt := 145) dL_sells_137 (by decide) ?_
      refine V_icmp_ge (tgt := 176) dL_sells_145 (by decide) rfl (fun _ => ?_) (fun h => absurd (by decide) h)
      exact hk
    · refine V_iload (i := 9) rfl dL_sells_128 rfl ?_
      refine V_iload (i := 5) rfl dL_sells_130 rfl ?_
      refine V_if_ge (tgt := 140) dL_sells_132 (by decide) rfl (fun _ => ?_) (fun h => absurd h5 h)
      refine V_iload (i := 5) rfl dL_sells_140 rfl ?_
      refine V_bipush (v := 100) (by decide) dL_sells_142 rfl ?_
      refine V_irem (by decide) dL_sells_144 rfl ?_
      rw [e5]
      refine V_icmp_ge (tgt := 176) dL_sells_145 (by decide) rfl (fun _ => ?_) (fun h => absurd (nI_le (Nat.le_refl _) (by omega)) h)
      exact hk
  | succ n ih =>
    intro c hcn
    have hcl : c < lim := by omega
    rcases hlim with ⟨rfl, rfl⟩ | ⟨h5, e5⟩
    · refine V_iload (i := 9) rfl dL_sells_128 rfl ?_
      refine V_iload (i := 5) rfl dL_sells_130 rfl ?_
      refine V_if_ge (tgt := 140) dL_sells_132 (by decide) rfl (fun h => absurd h (by decide)) (fun _ => ?_)
      refine V_bipush (v := 60) (by decide) dL_sells_135 rfl ?_
      refine V_goto (tgt := 145) dL_sells_137 (by decide) ?_
      refine V_icmp_ge (tgt := 176) dL_sells_145 (by decide) rfl (fun h => absurd h (nI_ge (b := 60) hcl (by decide))) (fun _ => ?_)
      refine V_iload (i := 8) rfl dL_sells_148 rfl ?_
      refine V_iload_n (i := 2) rfl rfl dL_sells_150 rfl ?_
      refine V_icmp_eq (tgt := 170) dL_sells_151 (by decide) rfl (fun h_151 => ?_) (fun h_151 => ?_)
      · refine V_iinc1 (i := 9) rfl (by decide) rfl dL_sells_170 rfl ?_
        refine V_goto (tgt := 128) dL_sells_173 (by decide) ?_
        rw [nI_1]
        exact ih (c + 1) (by omega)
      · refine V_aload_n (i := 0) rfl rfl dL_sells_154 rfl ?_
        refine V_iload_n (i := 2) rfl rfl dL_sells_155 rfl ?_
        refine V_iload (i := 4) rfl dL_sells_156 rfl ?_
        refine V_iload (i := 8) rfl dL_sells_158 rfl ?_
        refine V_iload (i := 9) rfl dL_sells_160 rfl ?_
        refine V_call (n := 4) (q_why hx _ _ _ _) o_X7_why m_L_74 ⟨by decide, by decide⟩ (by assumption) rfl rfl (by first | exact Nat.le_of_ble_eq_true rfl | simp [Value.category]) (Nat.le_refl _) (Nat.le_refl _) rfl dL_sells_162 rfl (kI ?_)
        refine V_if_ne (tgt := 170) dL_sells_165 (by decide) rfl (fun _ => ?_) (fun h => absurd h (hnw c hcl h_151))
        refine V_iinc1 (i := 9) rfl (by decide) rfl dL_sells_170 rfl ?_
        refine V_goto (tgt := 128) dL_sells_173 (by decide) ?_
        rw [nI_1]
        exact ih (c + 1) (by omega)
    · refine V_iload (i := 9) rfl dL_sells_128 rfl ?_
      refine V_iload (i := 5) rfl dL_sells_130 rfl ?_
      refine V_if_ge (tgt := 140) dL_sells_132 (by decide) rfl (fun _ => ?_) (fun h => absurd h5 h)
      refine V_iload (i := 5) rfl dL_sells_140 rfl ?_
      refine V_bipush (v := 100) (by decide) dL_sells_142 rfl ?_
      refine V_irem (by decide) dL_sells_144 rfl ?_
      rw [e5]
      refine V_icmp_ge (tgt := 176) dL_sells_145 (by decide) rfl (fun h => absurd h (nI_ge hcl (by omega))) (fun _ => ?_)
      refine V_iload (i := 8) rfl dL_sells_148 rfl ?_
      refine V_iload_n (i := 2) rfl rfl dL_sells_150 rfl ?_
      refine V_icmp_eq (tgt := 170) dL_sells_151 (by decide) rfl (fun h_151 => ?_) (fun h_151 => ?_)
      · refine V_iinc1 (i := 9) rfl (by decide) rfl dL_sells_170 rfl ?_
        refine V_goto (tgt := 128) dL_sells_173 (by decide) ?_
        rw [nI_1]
        exact ih (c + 1) (by omega)
      · refine V_aload_n (i := 0) rfl rfl dL_sells_154 rfl ?_
        refine V_iload_n (i := 2) rfl rfl dL_sells_155 rfl ?_
        refine V_iload (i := 4) rfl dL_sells_156 rfl ?_
        refine V_iload (i := 8) rfl dL_sells_158 rfl ?_
        refine V_iload (i := 9) rfl dL_sells_160 rfl ?_
        refine V_call (n := 4) (q_why hx _ _ _ _) o_X7_why m_L_74 ⟨by decide, by decide⟩ (by assumption) rfl rfl (by first | exact Nat.le_of_ble_eq_true rfl | simp [Value.category]) (Nat.le_refl _) (Nat.le_refl _) rfl dL_sells_162 rfl (kI ?_)
        refine V_if_ne (tgt := 170) dL_sells_165 (by decide) rfl (fun _ => ?_) (fun h => absurd h (hnw c hcl h_151))
        refine V_iinc1 (i := 9) rfl (by decide) rfl dL_sells_170 rfl ?_
        refine V_goto (tgt := 128) dL_sells_173 (by decide) ?_
        rw [nI_1]
        exact ih (c + 1) (by omega)

set_option maxHeartbeats 4000000 in
set_option maxRecDepth 100000 in
theorem lp_s119 {l : Launch} {g : fw_G} {I : fw_I} {P : fw_P} {s : Nat → Int32} {k : Nat} {h : Nat → Nat → Int32} {B x j : Nat} (hx : Wd I P s k h B) (hx4 : x < 4) {lim b0 : Nat} (hl60 : lim ≤ 60) (hb0 : b0 < 4) (v v5 v6 v7 : Int32) (hlim : (v5 = -5 ∧ lim = 60) ∨ (0 ≤ v5 ∧ v5 - v5 / 100 * 100 = nI lim)) (hd : v5 = -5 ∨ (0 ≤ v5 ∧ v5 / 100 = nI b0 ∧ v5 - v5 / 100 * 100 = nI lim ∧ ∀ b', b' < b0 → ¬ b' = x → ¬ aWhy s (nI x) (nI j) (nI b') (nI lim) = 0)) (hnw : ∀ p c, p < 4 → c < lim → ¬ p = x → ¬ aWhy s (nI x) (nI j) (nI p) (nI c) = 0) {Q : Option Value → fw_I → fw_P → Prop} (hk : V l g kL_sells (T0 nT) 0 0 (Q) (T0 nT) I P 0 0 222 [some (.ref (g.1 + 0)), some (.int v), some (.int (nI x)), some (.int (nI (aMany s x))), some (.int (nI j)), some (.int v5), some (.int v6), some (.int v7), some (.int (nI 4)), none, none, none, none, none, none, none] []) : ∀ (n p : Nat), p + n = 4 → V l g kL_sells (T0 nT) 0 0 (Q) (T0 nT) I P 0 0 119 [some (.ref (g.1 + 0)), some (.int v), some (.int (nI x)), some (.int (nI (aMany s x))), some (.int (nI j)), some (.int v5), some (.int v6), some (.int v7), some (.int (nI p)), none, none, none, none, none, none, none] [] := by
  have a0 := at_0 (nT := nT)
  intro n
  induction n with
  | zero =>
    intro p hp
    obtain rfl : p = 4 := by omega
    refine V_iload (i := 8) rfl dL_sells_119 rfl ?_
    refine V_iconst (v := 4) (by decide) dL_sells_121 rfl ?_
    refine V_icmp_ge (tgt := 222) dL_sells_122 (by decide) rfl (fun _ => ?_) (fun h => absurd (by decide) h)
    exact hk
  | succ n ih =>
    intro p hpn
    have hp : p < 4 := by omega
    have K176 : V l g kL_sells (T0 nT) 0 0 (Q) (T0 nT) I P 0 0 176 [some (.ref (g.1 + 0)), some (.int v), some (.int (nI x)), some (.int (nI (aMany s x))), some (.int (nI j)), some (.int v5), some (.int v6), some (.int v7), some (.int (nI p)), some (.int (nI lim)), none, none, none, none, none, none] [] := by
      rcases hd with rfl | ⟨h5, e50, e5, hn2⟩
      · refine V_iload (i := 5) rfl dL_sells_176 rfl ?_
        refine V_if_lt (tgt := 216) dL_sells_178 (by decide) rfl (fun _ => ?_) (fun h => absurd (by decide) h)
        refine V_iinc1 (i := 8) rfl (by decide) rfl dL_sells_216 rfl ?_
        refine V_goto (tgt := 119) dL_sells_219 (by decide) ?_
        refine V_forget 9 rfl ?_
        rw [nI_1]
        exact ih (p + 1) (by omega)
      · refine V_iload (i := 5) rfl dL_sells_176 rfl ?_
        refine V_if_lt (tgt := 216) dL_sells_178 (by decide) rfl (fun h => absurd h (Int32.not_lt.mpr h5)) (fun _ => ?_)
        refine V_iload (i := 8) rfl dL_sells_181 rfl ?_
        refine V_iload (i := 5) rfl dL_sells_183 rfl ?_
        refine V_bipush (v := 100) (by decide) dL_sells_185 rfl ?_
        refine V_idiv (by decide) dL_sells_187 rfl ?_
        rw [e50]
        refine V_icmp_ge (tgt := 216) dL_sells_188 (by decide) rfl (fun h_188 => ?_) (fun h_188 => ?_)
        · refine V_iinc1 (i := 8) rfl (by decide) rfl dL_sells_216 rfl ?_
          refine V_goto (tgt := 119) dL_sells_219 (by decide) ?_
          refine V_forget 9 rfl ?_
          rw [nI_1]
          exact ih (p + 1) (by omega)
        · refine V_iload (i := 8) rfl dL_sells_191 rfl ?_
          refine V_iload_n (i := 2) rfl rfl dL_sells_193 rfl ?_
          refine V_icmp_eq (tgt := 216) dL_sells_194 (by decide) rfl (fun h_194 => ?_) (fun h_194 => ?_)
          · refine V_iinc1 (i := 8) rfl (by decide) rfl dL_sells_216 rfl ?_
            refine V_goto (tgt := 119) dL_sells_219 (by decide) ?_
            refine V_forget 9 rfl ?_
            rw [nI_1]
            exact ih (p + 1) (by omega)
          · refine V_aload_n (i := 0) rfl rfl dL_sells_197 rfl ?_
            refine V_iload_n (i := 2) rfl rfl dL_sells_198 rfl ?_
            refine V_iload (i := 4) rfl dL_sells_199 rfl ?_
            refine V_iload (i := 8) rfl dL_sells_201 rfl ?_
            refine V_iload (i := 5) rfl dL_sells_203 rfl ?_
            refine V_bipush (v := 100) (by decide) dL_sells_205 rfl ?_
            refine V_irem (by decide) dL_sells_207 rfl ?_
            rw [e5]
            refine V_call (n := 4) (q_why hx _ _ _ _) o_X7_why m_L_74 ⟨by decide, by decide⟩ (by assumption) rfl rfl (by first | exact Nat.le_of_ble_eq_true rfl | simp [Value.category]) (Nat.le_refl _) (Nat.le_refl _) rfl dL_sells_208 rfl (kI ?_)
            refine V_if_ne (tgt := 216) dL_sells_211 (by decide) rfl (fun _ => ?_) (fun h => absurd h (hn2 p ((nI_ltI (by omega) (by omega)).mp (Int32.not_le.mp h_188)) (fun z => h_194 (by rw [z]))))
            refine V_iinc1 (i := 8) rfl (by decide) rfl dL_sells_216 rfl ?_
            refine V_goto (tgt := 119) dL_sells_219 (by decide) ?_
            refine V_forget 9 rfl ?_
            rw [nI_1]
            exact ih (p + 1) (by omega)
    refine V_iload (i := 8) rfl dL_sells_119 rfl ?_
    refine V_iconst (v := 4) (by decide) dL_sells_121 rfl ?_
    refine V_icmp_ge (tgt := 222) dL_sells_122 (by decide) rfl (fun h => absurd h (nI_ge (b := 4) hp (by decide))) (fun _ => ?_)
    refine V_iconst (v := 0) (by decide) dL_sells_125 rfl ?_
    refine V_istore (i := 9) (by decide) rfl dL_sells_126 rfl ?_
    exact lp_s128 hx hx4 hp hl60 v v5 v6 v7 hlim (fun c hc hne => hnw p c hp hc (fun z => hne (by rw [z]))) K176 lim 0 (Nat.zero_add _)

set_option maxHeartbeats 4000000 in
set_option maxRecDepth 100000 in
theorem lc_s34 {l : Launch} {g : fw_G} {I : fw_I} {P : fw_P} {s : Nat → Int32} {k : Nat} {h : Nat → Nat → Int32} {B x : Nat} (hx : Wd I P s k h B) (hx4 : x < 4) (v : Int32) (jj : Nat) : V l g kL_sells (T0 nT) 0 0 (qA B) (T0 nT) I P 0 0 34 [some (.ref (g.1 + 0)), some (.int v), some (.int (nI x)), some (.int (nI jj)), none, none, none, none, none, none, none, none, none, none, none, none] [] := by
  have a0 := at_0 (nT := nT)
  have hm := hx.2.1.many hx4
  by_cases h0 : aMany s x = 0
  · refine V_aload_n (i := 0) rfl rfl dL_sells_34 rfl ?_
    refine V_iload_n (i := 2) rfl rfl dL_sells_35 rfl ?_
    refine V_iconst (v := 2) (by decide) dL_sells_36 rfl ?_
    refine V_call (n := 2) (q_pl2 hx hx4) o_X7_player m_L_10 ⟨by decide, by decide⟩ (by assumption) rfl rfl (by first | exact Nat.le_of_ble_eq_true rfl | simp [Value.category]) (Nat.le_refl _) (Nat.le_refl _) rfl dL_sells_37 rfl (kI ?_)
    rw [hm.1]
    refine V_istore_n (i := 3) rfl (by decide) rfl dL_sells_40 rfl ?_
    refine V_iload_n (i := 3) rfl rfl dL_sells_41 rfl ?_
    refine V_if_ne (tgt := 77) dL_sells_42 (by decide) rfl (fun h => absurd (by rw [h0]; rfl) h) (fun _ => ?_)
    refine V_aload_n (i := 0) rfl rfl dL_sells_45 rfl ?_
    refine V_iload_n (i := 2) rfl rfl dL_sells_46 rfl ?_
    refine V_iconst (v := 0) (by decide) dL_sells_47 rfl ?_
    refine V_iload_n (i := 2) rfl rfl dL_sells_48 rfl ?_
    refine V_iconst (v := 1) (by decide) dL_sells_49 rfl ?_
    refine V_iadd dL_sells_50 rfl ?_
    refine V_iconst (v := 4) (by decide) dL_sells_51 rfl ?_
    refine V_irem (by decide) dL_sells_52 rfl ?_
    refine V_iconst (v := 5) (by decide) dL_sells_53 rfl ?_
    refine V_call (n := 4) (q_sell hx _ _ _ _) o_X7_sell m_L_67 ⟨by decide, by decide⟩ (by assumption) rfl rfl (by first | exact Nat.le_of_ble_eq_true rfl | simp [Value.category]) (Nat.le_refl _) (Nat.le_refl _) rfl dL_sells_54 rfl (kJ ?_)
    rintro _ I1 P1 ⟨rfl, hm1, -⟩
    have hx1 : Wd I1 P1 s k h B := hm1.elim (fun z => absurd z.1 (sells_no hx.2.1 hx4 h0 _ _).2.2.1) (fun z => hx.to z.2)
    rw [(sells_no hx.2.1 hx4 h0 _ _).2.1]
    refine V_iconst (v := (-1)) (by decide) dL_sells_57 rfl ?_
    refine V_icmp_ne (tgt := 75) dL_sells_58 (by decide) rfl (fun h => absurd rfl h) (fun _ => ?_)
    refine V_aload_n (i := 0) rfl rfl dL_sells_61 rfl ?_
    refine V_iload_n (i := 2) rfl rfl dL_sells_62 rfl ?_
    refine V_iconst (v := 0) (by decide) dL_sells_63 rfl ?_
    refine V_call (n := 2) (q_che hx1 _ _) o_X7_cheapest m_L_71 ⟨by decide, by decide⟩ (by assumption) rfl rfl (by first | exact Nat.le_of_ble_eq_true rfl | simp [Value.category]) (Nat.le_refl _) (Nat.le_refl _) rfl dL_sells_64 rfl (kI ?_)
    rw [(sells_no hx.2.1 hx4 h0 0 0).2.2.2]
    refine V_iconst (v := (-1)) (by decide) dL_sells_67 rfl ?_
    refine V_icmp_ne (tgt := 75) dL_sells_68 (by decide) rfl (fun h => absurd rfl h) (fun _ => ?_)
    refine V_iconst (v := 1) (by decide) dL_sells_71 rfl ?_
    refine V_goto (tgt := 76) dL_sells_72 (by decide) ?_
    exact V_ireturn rfl (by decide) dL_sells_76 rfl rfl rfl (⟨_, rfl, rfl, s, k, h, hx1⟩)
  · refine V_aload_n (i := 0) rfl rfl dL_sells_34 rfl ?_
    refine V_iload_n (i := 2) rfl rfl dL_sells_35 rfl ?_
    refine V_iconst (v := 2) (by decide) dL_sells_36 rfl ?_
    refine V_call (n := 2) (q_pl2 hx hx4) o_X7_player m_L_10 ⟨by decide, by decide⟩ (by assumption) rfl rfl (by first | exact Nat.le_of_ble_eq_true rfl | simp [Value.category]) (Nat.le_refl _) (Nat.le_refl _) rfl dL_sells_37 rfl (kI ?_)
    rw [hm.1]
    refine V_istore_n (i := 3) rfl (by decide) rfl dL_sells_40 rfl ?_
    refine V_iload_n (i := 3) rfl rfl dL_sells_41 rfl ?_
    refine V_if_ne (tgt := 77) dL_sells_42 (by decide) rfl (fun _ => ?_) (fun h => absurd h (fun z => h0 (nI_eq0 z (by omega))))
    refine V_iload_n (i := 1) rfl rfl dL_sells_77 rfl ?_
    refine V_iconst (v := 3) (by decide) dL_sells_78 rfl ?_
    refine V_ishr dL_sells_79 rfl ?_
    refine V_iload_n (i := 3) rfl rfl dL_sells_80 rfl ?_
    refine V_callS (n := 2) (sp_low l g (v >>> ((3 : Int32) &&& 31)) (m := (aMany s x)) (by omega) (by omega)) o_L_low m_L_64 ⟨by decide, by decide⟩ rfl rfl (by first | exact Nat.le_of_ble_eq_true rfl | simp [Value.category]) (Nat.le_refl _) (Nat.le_refl _) rfl dL_sells_81 rfl (kJ ?_)
    rintro _ I1 P1 ⟨⟨j, hj, rfl⟩, rfl, rfl⟩
    refine V_istore (i := 4) (by decide) rfl dL_sells_84 rfl ?_
    refine V_aload_n (i := 0) rfl rfl dL_sells_86 rfl ?_
    refine V_iload_n (i := 2) rfl rfl dL_sells_87 rfl ?_
    refine V_iload (i := 4) rfl dL_sells_88 rfl ?_
    refine V_call (n := 2) (q_che hx _ _) o_X7_cheapest m_L_71 ⟨by decide, by decide⟩ (by assumption) rfl rfl (by first | exact Nat.le_of_ble_eq_true rfl | simp [Value.category]) (Nat.le_refl _) (Nat.le_refl _) rfl dL_sells_90 rfl (kI ?_)
    refine V_istore (i := 5) (by decide) rfl dL_sells_93 rfl ?_
    refine V_iload_n (i := 1) rfl rfl dL_sells_95 rfl ?_
    refine V_bipush (v := 6) (by decide) dL_sells_96 rfl ?_
    refine V_ishr dL_sells_98 rfl ?_
    refine V_iconst (v := 4) (by decide) dL_sells_99 rfl ?_
    refine V_callS (n := 2) (sp_low l g (v >>> ((6 : Int32) &&& 31)) (m := 4) (by decide) (by decide)) o_L_low m_L_64 ⟨by decide, by decide⟩ rfl rfl (by first | exact Nat.le_of_ble_eq_true rfl | simp [Value.category]) (Nat.le_refl _) (Nat.le_refl _) rfl dL_sells_100 rfl (kJ ?_)
    rintro _ I1 P1 ⟨⟨b, hb, rfl⟩, rfl, rfl⟩
    refine V_istore (i := 6) (by decide) rfl dL_sells_103 rfl ?_
    refine V_iload_n (i := 1) rfl rfl dL_sells_105 rfl ?_
    refine V_bipush (v := 9) (by decide) dL_sells_106 rfl ?_
    refine V_ishr dL_sells_108 rfl ?_
    refine V_bipush (v := 16) (by decide) dL_sells_109 rfl ?_
    refine V_callS (n := 2) (sp_low l g (v >>> ((9 : Int32) &&& 31)) (m := 16) (by decide) (by decide)) o_L_low m_L_64 ⟨by decide, by decide⟩ rfl rfl (by first | exact Nat.le_of_ble_eq_true rfl | simp [Value.category]) (Nat.le_refl _) (Nat.le_refl _) rfl dL_sells_111 rfl (kJ ?_)
    rintro _ I1 P1 ⟨⟨c, hc, rfl⟩, rfl, rfl⟩
    refine V_istore (i := 7) (by decide) rfl dL_sells_114 rfl ?_
    refine V_iconst (v := 0) (by decide) dL_sells_116 rfl ?_
    refine V_istore (i := 8) (by decide) rfl dL_sells_117 rfl ?_
    rcases che_ok hx.2.1 hx.2.2 hx4 hj with ⟨e, hn⟩ | ⟨b0, a0, hb0, ha0, e, hw0, hn1, hn2⟩
    · rw [e]
      exact lp_s119 hx hx4 (lim := 60) (b0 := 0) (by decide) (by decide) v (-5) _ _ (Or.inl ⟨rfl, rfl⟩) (Or.inl rfl) (fun p c hp hc hne => hn p c hp hc hne) (lc_s222 hx hx4 hj hb (by omega) v (-5) (Or.inl rfl)) 4 0 rfl
    · rw [e]
      have hv : (0 : Int32) ≤ nI (100 * b0 + a0) := nI_pos' (by omega)
      exact lp_s119 hx hx4 (lim := a0) (b0 := b0) (by omega) hb0 v _ _ _ (Or.inr ⟨hv, (d100 hb0 ha0).2⟩) (Or.inr ⟨hv, (d100 hb0 ha0).1, (d100 hb0 ha0).2, hn2⟩) (fun p c hp hc hne => hn1 p c hp hc hne) (lc_s222 hx hx4 hj hb (by omega) v _ (Or.inr ⟨b0, a0, hb0, ha0, rfl, hw0⟩)) 4 0 rfl

set_option maxHeartbeats 4000000 in
set_option maxRecDepth 100000 in
theorem lp_s8 {l : Launch} {g : fw_G} {I : fw_I} {P : fw_P} {s : Nat → Int32} {k : Nat} {h : Nat → Nat → Int32} {B : Nat} (hx : Wd I P s k h B) (v : Int32) : ∀ (n j x : Nat), j + n = 4 → x < 4 → V l g kL_sells (T0 nT) 0 0 (qA B) (T0 nT) I P 0 0 8 [some (.ref (g.1 + 0)), some (.int v), some (.int (nI x)), some (.int (nI j)), none, none, none, none, none, none, none, none, none, none, none, none] [] := by
  have a0 := at_0 (nT := nT)
  intro n
  induction n with
  | zero =>
    intro j x hj hx4
    obtain rfl : j = 4 := by omega
    refine V_iload_n (i := 3) rfl rfl dL_sells_8 rfl ?_
    refine V_iconst (v := 4) (by decide) dL_sells_9 rfl ?_
    refine V_icmp_ge (tgt := 34) dL_sells_10 (by decide) rfl (fun _ => ?_) (fun h => absurd (by decide) h)
    exact lc_s34 hx hx4 v 4
  | succ n ih =>
    intro j x hjn hx4
    have hj : j < 4 := by omega
    by_cases h0 : aMany s x = 0
    · refine V_iload_n (i := 3) rfl rfl dL_sells_8 rfl ?_
      refine V_iconst (v := 4) (by decide) dL_sells_9 rfl ?_
      refine V_icmp_ge (tgt := 34) dL_sells_10 (by decide) rfl (fun h => absurd h (nI_ge (b := 4) hj (by decide))) (fun _ => ?_)
      refine V_aload_n (i := 0) rfl rfl dL_sells_13 rfl ?_
      refine V_iload_n (i := 2) rfl rfl dL_sells_14 rfl ?_
      refine V_iconst (v := 2) (by decide) dL_sells_15 rfl ?_
      refine V_call (n := 2) (q_pl2 hx hx4) o_X7_player m_L_10 ⟨by decide, by decide⟩ (by assumption) rfl rfl (by first | exact Nat.le_of_ble_eq_true rfl | simp [Value.category]) (Nat.le_refl _) (Nat.le_refl _) rfl dL_sells_16 rfl (kI ?_)
      rw [(hx.2.1.many hx4).1]
      refine V_if_ne (tgt := 34) dL_sells_19 (by decide) rfl (fun h => absurd (by rw [h0]; rfl) h) (fun _ => ?_)
      refine V_iload_n (i := 2) rfl rfl dL_sells_22 rfl ?_
      refine V_iconst (v := 1) (by decide) dL_sells_23 rfl ?_
      refine V_iadd dL_sells_24 rfl ?_
      refine V_iconst (v := 4) (by decide) dL_sells_25 rfl ?_
      refine V_irem (by decide) dL_sells_26 rfl ?_
      rw [rem4n x hx4]
      refine V_istore_n (i := 2) rfl (by decide) rfl dL_sells_27 rfl ?_
      refine V_iinc1 (i := 3) rfl (by decide) rfl dL_sells_28 rfl ?_
      refine V_goto (tgt := 8) dL_sells_31 (by decide) ?_
      rw [nI_1]
      exact ih (j + 1) ((x + 1) % 4) (by omega) (by omega)
    · refine V_iload_n (i := 3) rfl rfl dL_sells_8 rfl ?_
      refine V_iconst (v := 4) (by decide) dL_sells_9 rfl ?_
      refine V_icmp_ge (tgt := 34) dL_sells_10 (by decide) rfl (fun h => absurd h (nI_ge (b := 4) hj (by decide))) (fun _ => ?_)
      refine V_aload_n (i := 0) rfl rfl dL_sells_13 rfl ?_
      refine V_iload_n (i := 2) rfl rfl dL_sells_14 rfl ?_
      refine V_iconst (v := 2) (by decide) dL_sells_15 rfl ?_
      refine V_call (n := 2) (q_pl2 hx hx4) o_X7_player m_L_10 ⟨by decide, by decide⟩ (by assumption) rfl rfl (by first | exact Nat.le_of_ble_eq_true rfl | simp [Value.category]) (Nat.le_refl _) (Nat.le_refl _) rfl dL_sells_16 rfl (kI ?_)
      rw [(hx.2.1.many hx4).1]
      refine V_if_ne (tgt := 34) dL_sells_19 (by decide) rfl (fun _ => ?_) (fun h => absurd h (fun z => h0 (nI_eq0 z (by have := (hx.2.1.many hx4).2; omega))))
      exact lc_s34 hx hx4 v j

set_option maxHeartbeats 4000000 in
set_option maxRecDepth 100000 in
theorem sp_sells (l : Launch) (g : fw_G) {I : fw_I} {P : fw_P} {s : Nat → Int32} {k : Nat} {h : Nat → Nat → Int32} {B : Nat} (hx : Wd I P s k h B) (v : Int32) : Sp l g kL_sells (T0 nT) [.ref (g.1 + 0), .int v] I P (T0 nT) 0 0 (qA B) := by
  have a0 := at_0 (nT := nT)
  refine Sp.of_V (L := [some (.ref (g.1 + 0)), some (.int v), none, none, none, none, none, none, none, none, none, none, none, none, none, none]) (by decide) (by simp [Value.category]) (Nat.le_of_ble_eq_true rfl) rfl ?_
  refine V_iload_n (i := 1) rfl rfl dL_sells_0 rfl ?_
  refine V_iconst (v := 4) (by decide) dL_sells_1 rfl ?_
  refine V_callS (n := 2) (sp_low l g v (m := 4) (by decide) (by decide)) o_L_low m_L_64 ⟨by decide, by decide⟩ rfl rfl (by first | exact Nat.le_of_ble_eq_true rfl | simp [Value.category]) (Nat.le_refl _) (Nat.le_refl _) rfl dL_sells_2 rfl (kJ ?_)
  rintro _ I1 P1 ⟨⟨x, hx4, rfl⟩, rfl, rfl⟩
  refine V_istore_n (i := 2) rfl (by decide) rfl dL_sells_5 rfl ?_
  refine V_iconst (v := 0) (by decide) dL_sells_6 rfl ?_
  refine V_istore_n (i := 3) rfl (by decide) rfl dL_sells_7 rfl ?_
  exact lp_s8 hx v 4 0 x rfl hx4
