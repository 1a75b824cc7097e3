variable {nT : Nat}
/-! a turn, as the law looks at it -/
theorem b6_b : ∀ a b c d e f : Bool, (b6 a b c d e f >>> (nI 1 &&& 31)) &&& 1 = (if a then (1 : Int32) else 0) ∧ (b6 a b c d e f >>> (nI 2 &&& 31)) &&& 1 = (if b then (1 : Int32) else 0) ∧ (b6 a b c d e f >>> (nI 3 &&& 31)) &&& 1 = (if c then (1 : Int32) else 0) ∧ (b6 a b c d e f >>> (nI 4 &&& 31)) &&& 1 = (if d then (1 : Int32) else 0) ∧ (b6 a b c d e f >>> (nI 5 &&& 31)) &&& 1 = (if e then (1 : Int32) else 0) ∧ (b6 a b c d e f >>> (nI 6 &&& 31)) &&& 1 = (if f then (1 : Int32) else 0) := by decide +kernel
theorem da_bit (s : Nat → Int32) (p : Nat) {d : Nat} (h1 : 1 ≤ d) (h6 : d ≤ 6) : (aDaF s p 6 >>> (nI d &&& 31)) &&& 1 = if aBites s p (aGo (aBeg s p) (nI d)) then (1 : Int32) else 0 := by
  rw [da_b6]
  rcases (show d = 1 ∨ d = 2 ∨ d = 3 ∨ d = 4 ∨ d = 5 ∨ d = 6 by omega) with rfl | rfl | rfl | rfl | rfl | rfl
  · rw [(b6_b _ _ _ _ _ _).1]; simp only [decide_eq_true_eq]
  · rw [(b6_b _ _ _ _ _ _).2.1]; simp only [decide_eq_true_eq]
  · rw [(b6_b _ _ _ _ _ _).2.2.1]; simp only [decide_eq_true_eq]
  · rw [(b6_b _ _ _ _ _ _).2.2.2.1]; simp only [decide_eq_true_eq]
  · rw [(b6_b _ _ _ _ _ _).2.2.2.2.1]; simp only [decide_eq_true_eq]
  · rw [(b6_b _ _ _ _ _ _).2.2.2.2.2]; simp only [decide_eq_true_eq]
theorem add_sub_a (a b c : Int32) : a + (c - b) = a + c - b := by
  rw [Int32.sub_eq_add_neg, Int32.sub_eq_add_neg, Int32.add_assoc]
/-- what an act leaves: the class' cells hold some row -/
def qA (B : Nat) : Option Value → fw_I → fw_P → Prop := qJ (fun r I1 P1 => r = 1 ∧ ∃ s k h, Wd I1 P1 s k h B)
theorem Wd.mono {I : fw_I} {P : fw_P} {s : Nat → Int32} {k : Nat} {h : Nat → Nat → Int32} {B B' : Nat} (hx : Wd I P s k h B) (h1 : B ≤ B') (h2 : B' < 1000000) : Wd I P s k h B' := ⟨hx.1, hx.2.1.mono h1 h2, hx.2.2.mono h1⟩

set_option maxHeartbeats 4000000 in
set_option maxRecDepth 100000 in
theorem lc_tN {l : Launch} {g : fw_G} {I : fw_I} {P : fw_P} {s t : Nat → Int32} {k : Nat} {h : Nat → Nat → Int32} {B d p b Q : Nat} (hw : Wd I P t k h B) (hE : TE s t p Q) (hp : p < 4) (hQ : Q ≤ 60) (eb : aBeg s p = nI b) (eh : s 4 = nI (home s)) (v9 v10 v11 : Int32) (hn : ¬ aBites s p (nI Q)) : V l g kL_turns (T0 nT) 0 0 (qA B) (T0 nT) I P 0 0 182 [some (.ref (g.1 + 0)), some (.int (nI d)), some (.int (nI p)), some (.int (nI b)), some (.int (ro s p 4 + ro s p 0 - nI b)), some (.int (ro s p 3)), some (.int (s 0)), some (.int (nI Q)), some (.int 0), some (.int v9), some (.int v10), some (.int v11), some (.int (nI (home s))), some (.int (nI Q)), none] [] := by
  have a0 := at_0 (nT := nT)
  obtain ⟨r0', r1, r2, r2p, r3, r4, r5, wI, ⟨t0, t4, t5, t6, t7⟩, sHT, hb⟩ := hE
  rw [eb, add_sub_a] at r4
  have rp0 : ro t p 0 = nI Q := by rw [r0' p hp, if_pos rfl]
  have hl := home_le s
  obtain ⟨hb', -⟩ | ⟨-, e3, e5, -, -⟩ := hb
  · exact absurd hb' hn
  by_cases q60 : Q = 60
  · subst q60
    rw [if_pos rfl, eh, nI_1] at r2p
    have n2 : ¬ ro t p 2 = 0 := fun z => by rw [r2p] at z; have := nI_eq0 z (by omega); omega
    refine V_iload (i := 13) rfl dL_turns_182 rfl ?_
    refine V_iload (i := 7) rfl dL_turns_184 rfl ?_
    refine V_icmp_ne (tgt := 324) dL_turns_186 (by decide) rfl (fun h => absurd rfl h) (fun _ => ?_)
    refine V_aload_n (i := 0) rfl rfl dL_turns_189 rfl ?_
    refine V_iload_n (i := 2) rfl rfl dL_turns_190 rfl ?_
    refine V_iconst (v := 0) (by decide) dL_turns_191 rfl ?_
    refine V_call (n := 2) (q_pl0 hw hp) o_X7_player m_L_10 ⟨by decide, by decide⟩ (by assumption) rfl rfl (by first | exact Nat.le_of_ble_eq_true rfl | simp [Value.category]) (Nat.le_refl _) (Nat.le_refl _) rfl dL_turns_192 rfl (kI ?_)
    rw [rp0]
    refine V_iload (i := 7) rfl dL_turns_195 rfl ?_
    refine V_icmp_ne (tgt := 324) dL_turns_197 (by decide) rfl (fun h => absurd rfl h) (fun _ => ?_)
    refine V_aload_n (i := 0) rfl rfl dL_turns_200 rfl ?_
    refine V_iload_n (i := 2) rfl rfl dL_turns_201 rfl ?_
    refine V_bipush (v := 7) (by decide) dL_turns_202 rfl ?_
    refine V_call (n := 2) (q_pl7 hw hp) o_X7_player m_L_10 ⟨by decide, by decide⟩ (by assumption) rfl rfl (by first | exact Nat.le_of_ble_eq_true rfl | simp [Value.category]) (Nat.le_refl _) (Nat.le_refl _) rfl dL_turns_204 rfl (kI ?_)
    rw [r4]
    refine V_iload (i := 4) rfl dL_turns_207 rfl ?_
    refine V_icmp_ne (tgt := 324) dL_turns_209 (by decide) rfl (fun h => absurd rfl h) (fun _ => ?_)
    refine V_aload_n (i := 0) rfl rfl dL_turns_212 rfl ?_
    refine V_iload_n (i := 2) rfl rfl dL_turns_213 rfl ?_
    refine V_bipush (v := 6) (by decide) dL_turns_214 rfl ?_
    refine V_call (n := 2) (q_pl6 hw hp) o_X7_player m_L_10 ⟨by decide, by decide⟩ (by assumption) rfl rfl (by first | exact Nat.le_of_ble_eq_true rfl | simp [Value.category]) (Nat.le_refl _) (Nat.le_refl _) rfl dL_turns_216 rfl (kI ?_)
    rw [e3]
    refine V_iload (i := 5) rfl dL_turns_219 rfl ?_
    refine V_iload (i := 8) rfl dL_turns_221 rfl ?_
    refine V_if_eq (tgt := 230) dL_turns_223 (by decide) rfl (fun _ => ?_) (fun h => absurd rfl h)
    refine V_iconst (v := 0) (by decide) dL_turns_230 rfl ?_
    refine V_iadd dL_turns_231 rfl ?_
    refine V_icmp_ne (tgt := 324) dL_turns_232 (by decide) rfl (fun h => absurd (Int32.add_zero _).symm h) (fun _ => ?_)
    refine V_aload_n (i := 0) rfl rfl dL_turns_235 rfl ?_
    refine V_iload_n (i := 2) rfl rfl dL_turns_236 rfl ?_
    refine V_iconst (v := 2) (by decide) dL_turns_237 rfl ?_
    refine V_call (n := 2) (q_pl2 hw hp) o_X7_player m_L_10 ⟨by decide, by decide⟩ (by assumption) rfl rfl (by first | exact Nat.le_of_ble_eq_true rfl | simp [Value.category]) (Nat.le_refl _) (Nat.le_refl _) rfl dL_turns_238 rfl (kI ?_)
    rw [e5]
    refine V_iload (i := 8) rfl dL_turns_241 rfl ?_
    refine V_if_eq (tgt := 250) dL_turns_243 (by decide) rfl (fun _ => ?_) (fun h => absurd rfl h)
    refine V_iconst (v := 0) (by decide) dL_turns_250 rfl ?_
    refine V_icmp_ne (tgt := 324) dL_turns_251 (by decide) rfl (fun h => absurd rfl h) (fun _ => ?_)
    refine V_aload_n (i := 0) rfl rfl dL_turns_254 rfl ?_
    refine V_iconst (v := 0) (by decide) dL_turns_255 rfl ?_
    refine V_call (n := 1) (q_ct0 hw) o_X7_count m_L_38 ⟨by decide, by decide⟩ (by assumption) rfl rfl (by first | exact Nat.le_of_ble_eq_true rfl | simp [Value.category]) (Nat.le_refl _) (Nat.le_refl _) rfl dL_turns_256 rfl (kI ?_)
    rw [t0]
    refine V_iload (i := 6) rfl dL_turns_259 rfl ?_
    refine V_iconst (v := 1) (by decide) dL_turns_261 rfl ?_
    refine V_iadd dL_turns_262 rfl ?_
    refine V_icmp_ne (tgt := 324) dL_turns_263 (by decide) rfl (fun h => absurd rfl h) (fun _ => ?_)
    refine V_iload (i := 8) rfl dL_turns_266 rfl ?_
    refine V_if_eq (tgt := 320) dL_turns_268 (by decide) rfl (fun _ => ?_) (fun h => absurd rfl h)
    refine V_iconst (v := 1) (by decide) dL_turns_320 rfl ?_
    refine V_goto (tgt := 325) dL_turns_321 (by decide) ?_
    refine V_istore (i := 14) (by decide) rfl dL_turns_325 rfl ?_
    refine V_iload (i := 14) rfl dL_turns_327 rfl ?_
    refine V_if_eq (tgt := 370) dL_turns_329 (by decide) rfl (fun h => absurd h (by decide)) (fun _ => ?_)
    refine V_iload (i := 7) rfl dL_turns_332 rfl ?_
    refine V_bipush (v := 60) (by decide) dL_turns_334 rfl ?_
    refine V_icmp_ne (tgt := 355) dL_turns_336 (by decide) rfl (fun h => absurd rfl h) (fun _ => ?_)
    refine V_aload_n (i := 0) rfl rfl dL_turns_339 rfl ?_
    refine V_iload_n (i := 2) rfl rfl dL_turns_340 rfl ?_
    refine V_iconst (v := 5) (by decide) dL_turns_341 rfl ?_
    refine V_call (n := 2) (q_pl5 hw hp) o_X7_player m_L_10 ⟨by decide, by decide⟩ (by assumption) rfl rfl (by first | exact Nat.le_of_ble_eq_true rfl | simp [Value.category]) (Nat.le_refl _) (Nat.le_refl _) rfl dL_turns_342 rfl (kI ?_)
    rw [if_neg n2, r2p]
    refine V_iload (i := 12) rfl dL_turns_345 rfl ?_
    refine V_iconst (v := 1) (by decide) dL_turns_347 rfl ?_
    refine V_iadd dL_turns_348 rfl ?_
    rw [nI_1]
    refine V_icmp_ne (tgt := 370) dL_turns_349 (by decide) rfl (fun h => absurd rfl h) (fun _ => ?_)
    refine V_goto (tgt := 366) dL_turns_352 (by decide) ?_
    refine V_iconst (v := 1) (by decide) dL_turns_366 rfl ?_
    refine V_goto (tgt := 371) dL_turns_367 (by decide) ?_
    exact V_ireturn rfl (by decide) dL_turns_371 rfl rfl rfl (⟨_, rfl, rfl, t, k, h, hw⟩)
  · rw [if_neg q60] at r2p
    refine V_iload (i := 13) rfl dL_turns_182 rfl ?_
    refine V_iload (i := 7) rfl dL_turns_184 rfl ?_
    refine V_icmp_ne (tgt := 324) dL_turns_186 (by decide) rfl (fun h => absurd rfl h) (fun _ => ?_)
    refine V_aload_n (i := 0) rfl rfl dL_turns_189 rfl ?_
    refine V_iload_n (i := 2) rfl rfl dL_turns_190 rfl ?_
    refine V_iconst (v := 0) (by decide) dL_turns_191 rfl ?_
    refine V_call (n := 2) (q_pl0 hw hp) o_X7_player m_L_10 ⟨by decide, by decide⟩ (by assumption) rfl rfl (by first | exact Nat.le_of_ble_eq_true rfl | simp [Value.category]) (Nat.le_refl _) (Nat.le_refl _) rfl dL_turns_192 rfl (kI ?_)
    rw [rp0]
    refine V_iload (i := 7) rfl dL_turns_195 rfl ?_
    refine V_icmp_ne (tgt := 324) dL_turns_197 (by decide) rfl (fun h => absurd rfl h) (fun _ => ?_)
    refine V_aload_n (i := 0) rfl rfl dL_turns_200 rfl ?_
    refine V_iload_n (i := 2) rfl rfl dL_turns_201 rfl ?_
    refine V_bipush (v := 7) (by decide) dL_turns_202 rfl ?_
    refine V_call (n := 2) (q_pl7 hw hp) o_X7_player m_L_10 ⟨by decide, by decide⟩ (by assumption) rfl rfl (by first | exact Nat.le_of_ble_eq_true rfl | simp [Value.category]) (Nat.le_refl _) (Nat.le_refl _) rfl dL_turns_204 rfl (kI ?_)
    rw [r4]
    refine V_iload (i := 4) rfl dL_turns_207 rfl ?_
    refine V_icmp_ne (tgt := 324) dL_turns_209 (by decide) rfl (fun h => absurd rfl h) (fun _ => ?_)
    refine V_aload_n (i := 0) rfl rfl dL_turns_212 rfl ?_
    refine V_iload_n (i := 2) rfl rfl dL_turns_213 rfl ?_
    refine V_bipush (v := 6) (by decide) dL_turns_214 rfl ?_
    refine V_call (n := 2) (q_pl6 hw hp) o_X7_player m_L_10 ⟨by decide, by decide⟩ (by assumption) rfl rfl (by first | exact Nat.le_of_ble_eq_true rfl | simp [Value.category]) (Nat.le_refl _) (Nat.le_refl _) rfl dL_turns_216 rfl (kI ?_)
    rw [e3]
    refine V_iload (i := 5) rfl dL_turns_219 rfl ?_
    refine V_iload (i := 8) rfl dL_turns_221 rfl ?_
    refine V_if_eq (tgt := 230) dL_turns_223 (by decide) rfl (fun _ => ?_) (fun h => absurd rfl h)
    refine V_iconst (v := 0) (by decide) dL_turns_230 rfl ?_
    refine V_iadd dL_turns_231 rfl ?_
    refine V_icmp_ne (tgt := 324) dL_turns_232 (by decide) rfl (fun h => absurd (Int32.add_zero _).symm h) (fun _ => ?_)
    refine V_aload_n (i := 0) rfl rfl dL_turns_235 rfl ?_
    refine V_iload_n (i := 2) rfl rfl dL_turns_236 rfl ?_
    refine V_iconst (v := 2) (by decide) dL_turns_237 rfl ?_
    refine V_call (n := 2) (q_pl2 hw hp) o_X7_player m_L_10 ⟨by decide, by decide⟩ (by assumption) rfl rfl (by first | exact Nat.le_of_ble_eq_true rfl | simp [Value.category]) (Nat.le_refl _) (Nat.le_refl _) rfl dL_turns_238 rfl (kI ?_)
    rw [e5]
    refine V_iload (i := 8) rfl dL_turns_241 rfl ?_
    refine V_if_eq (tgt := 250) dL_turns_243 (by decide) rfl (fun _ => ?_) (fun h => absurd rfl h)
    refine V_iconst (v := 0) (by decide) dL_turns_250 rfl ?_
    refine V_icmp_ne (tgt := 324) dL_turns_251 (by decide) rfl (fun h => absurd rfl h) (fun _ => ?_)
    refine V_aload_n (i := 0) rfl rfl dL_turns_254 rfl ?_
    refine V_iconst (v := 0) (by decide) dL_turns_255 rfl ?_
    refine V_call (n := 1) (q_ct0 hw) o_X7_count m_L_38 ⟨by decide, by decide⟩ (by assumption) rfl rfl (by first | exact Nat.le_of_ble_eq_true rfl | simp [Value.category]) (Nat.le_refl _) (Nat.le_refl _) rfl dL_turns_256 rfl (kI ?_)
    rw [t0]
    refine V_iload (i := 6) rfl dL_turns_259 rfl ?_
    refine V_iconst (v := 1) (by decide) dL_turns_261 rfl ?_
    refine V_iadd dL_turns_262 rfl ?_
    refine V_icmp_ne (tgt := 324) dL_turns_263 (by decide) rfl (fun h => absurd rfl h) (fun _ => ?_)
    refine V_iload (i := 8) rfl dL_turns_266 rfl ?_
    refine V_if_eq (tgt := 320) dL_turns_268 (by decide) rfl (fun _ => ?_) (fun h => absurd rfl h)
    refine V_iconst (v := 1) (by decide) dL_turns_320 rfl ?_
    refine V_goto (tgt := 325) dL_turns_321 (by decide) ?_
    refine V_istore (i := 14) (by decide) rfl dL_turns_325 rfl ?_
    refine V_iload (i := 14) rfl dL_turns_327 rfl ?_
    refine V_if_eq (tgt := 370) dL_turns_329 (by decide) rfl (fun h => absurd h (by decide)) (fun _ => ?_)
    refine V_iload (i := 7) rfl dL_turns_332 rfl ?_
    refine V_bipush (v := 60) (by decide) dL_turns_334 rfl ?_
    refine V_icmp_ne (tgt := 355) dL_turns_336 (by decide) rfl (fun _ => ?_) (fun h => absurd h (fun z => q60 (nI_inj (b := 60) (by omega) (by decide) z)))
    refine V_aload_n (i := 0) rfl rfl dL_turns_355 rfl ?_
    refine V_iload_n (i := 2) rfl rfl dL_turns_356 rfl ?_
    refine V_iconst (v := 5) (by decide) dL_turns_357 rfl ?_
    refine V_call (n := 2) (q_pl5 hw hp) o_X7_player m_L_10 ⟨by decide, by decide⟩ (by assumption) rfl rfl (by first | exact Nat.le_of_ble_eq_true rfl | simp [Value.category]) (Nat.le_refl _) (Nat.le_refl _) rfl dL_turns_358 rfl (kI ?_)
    rw [if_pos r2p]
    refine V_bipush (v := (-5)) (by decide) dL_turns_361 rfl ?_
    refine V_icmp_ne (tgt := 370) dL_turns_363 (by decide) rfl (fun h => absurd rfl h) (fun _ => ?_)
    refine V_iconst (v := 1) (by decide) dL_turns_366 rfl ?_
    refine V_goto (tgt := 371) dL_turns_367 (by decide) ?_
    exact V_ireturn rfl (by decide) dL_turns_371 rfl rfl rfl (⟨_, rfl, rfl, t, k, h, hw⟩)

set_option maxHeartbeats 4000000 in
set_option maxRecDepth 100000 in
theorem lc_tB {l : Launch} {g : fw_G} {I : fw_I} {P : fw_P} {s t : Nat → Int32} {k : Nat} {h : Nat → Nat → Int32} {B d p b Q : Nat} (hw : Wd I P t k h B) (hE : TE s t p Q) (hp : p < 4) (hQ : Q ≤ 60) (eb : aBeg s p = nI b) (eh : s 4 = nI (home s)) {kk x y : Nat} (hk : kk < 10) (ea : aSnAt s (nI Q) = nI kk) (ex : sn s kk 0 = nI x) (ey : sn s kk 1 = nI y) (hxx : x ≤ 59) (hyy : y ≤ 53) (hn : aBites s p (nI Q)) : V l g kL_turns (T0 nT) 0 0 (qA B) (T0 nT) I P 0 0 182 [some (.ref (g.1 + 0)), some (.int (nI d)), some (.int (nI p)), some (.int (nI b)), some (.int (ro s p 4 + ro s p 0 - nI b)), some (.int (ro s p 3)), some (.int (s 0)), some (.int (nI Q)), some (.int 1), some (.int (nI kk)), some (.int (nI (x - y))), some (.int 0), some (.int (nI (home s))), some (.int (nI Q)), none] [] := by
  have a0 := at_0 (nT := nT)
  obtain ⟨r0', r1, r2, r2p, r3, r4, r5, wI, ⟨t0, t4, t5, t6, t7⟩, sHT, hb⟩ := hE
  rw [eb, add_sub_a] at r4
  have rp0 : ro t p 0 = nI Q := by rw [r0' p hp, if_pos rfl]
  have hl := home_le s
  obtain ⟨-, e3, e5, -, k', x', y', hk', q60, ea', h0, ex', ey', yx1, -, x2, -, w0, -, w2, -, g2, -⟩ := hb.resolve_right (fun z => z.1 hn)
  obtain rfl : k' = kk := nI_inj (by omega) (by omega) (ea'.symm.trans ea)
  obtain rfl : x' = x := nI_inj (by omega) (by omega) (ex'.symm.trans ex)
  have hyx : nI y' = nI y := ey'.symm.trans ey
  have h0t : 0 < sn t k' 0 := by rw [sHT k' 0 hk (by decide)]; exact h0
  have hm1 : 0 < aMany t p := by unfold aMany; rw [e5]; decide
  have yy := (show y' = y from nI_inj (by omega) (by omega) hyx)
  rw [yy] at w0
  rw [if_neg q60] at r2p
  refine V_iload (i := 13) rfl dL_turns_182 rfl ?_
  refine V_iload (i := 7) rfl dL_turns_184 rfl ?_
  refine V_icmp_ne (tgt := 324) dL_turns_186 (by decide) rfl (fun h => absurd rfl h) (fun _ => ?_)
  refine V_aload_n (i := 0) rfl rfl dL_turns_189 rfl ?_
  refine V_iload_n (i := 2) rfl rfl dL_turns_190 rfl ?_
  refine V_iconst (v := 0) (by decide) dL_turns_191 rfl ?_
  refine V_call (n := 2) (q_pl0 hw hp) o_X7_player m_L_10 ⟨by decide, by decide⟩ (by assumption) rfl rfl (by first | exact Nat.le_of_ble_eq_true rfl | simp [Value.category]) (Nat.le_refl _) (Nat.le_refl _) rfl dL_turns_192 rfl (kI ?_)
  rw [rp0]
  refine V_iload (i := 7) rfl dL_turns_195 rfl ?_
  refine V_icmp_ne (tgt := 324) dL_turns_197 (by decide) rfl (fun h => absurd rfl h) (fun _ => ?_)
  refine V_aload_n (i := 0) rfl rfl dL_turns_200 rfl ?_
  refine V_iload_n (i := 2) rfl rfl dL_turns_201 rfl ?_
  refine V_bipush (v := 7) (by decide) dL_turns_202 rfl ?_
  refine V_call (n := 2) (q_pl7 hw hp) o_X7_player m_L_10 ⟨by decide, by decide⟩ (by assumption) rfl rfl (by first | exact Nat.le_of_ble_eq_true rfl | simp [Value.category]) (Nat.le_refl _) (Nat.le_refl _) rfl dL_turns_204 rfl (kI ?_)
  rw [r4]
  refine V_iload (i := 4) rfl dL_turns_207 rfl ?_
  refine V_icmp_ne (tgt := 324) dL_turns_209 (by decide) rfl (fun h => absurd rfl h) (fun _ => ?_)
  refine V_aload_n (i := 0) rfl rfl dL_turns_212 rfl ?_
  refine V_iload_n (i := 2) rfl rfl dL_turns_213 rfl ?_
  refine V_bipush (v := 6) (by decide) dL_turns_214 rfl ?_
  refine V_call (n := 2) (q_pl6 hw hp) o_X7_player m_L_10 ⟨by decide, by decide⟩ (by assumption) rfl rfl (by first | exact Nat.le_of_ble_eq_true rfl | simp [Value.category]) (Nat.le_refl _) (Nat.le_refl _) rfl dL_turns_216 rfl (kI ?_)
  rw [e3]
  refine V_iload (i := 5) rfl dL_turns_219 rfl ?_
  refine V_iload (i := 8) rfl dL_turns_221 rfl ?_
  refine V_if_eq (tgt := 230) dL_turns_223 (by decide) rfl (fun h => absurd h (by decide)) (fun _ => ?_)
  refine V_iconst (v := 1) (by decide) dL_turns_226 rfl ?_
  refine V_goto (tgt := 231) dL_turns_227 (by decide) ?_
  refine V_iadd dL_turns_231 rfl ?_
  refine V_icmp_ne (tgt := 324) dL_turns_232 (by decide) rfl (fun h => absurd rfl h) (fun _ => ?_)
  refine V_aload_n (i := 0) rfl rfl dL_turns_235 rfl ?_
  refine V_iload_n (i := 2) rfl rfl dL_turns_236 rfl ?_
  refine V_iconst (v := 2) (by decide) dL_turns_237 rfl ?_
  refine V_call (n := 2) (q_pl2 hw hp) o_X7_player m_L_10 ⟨by decide, by decide⟩ (by assumption) rfl rfl (by first | exact Nat.le_of_ble_eq_true rfl | simp [Value.category]) (Nat.le_refl _) (Nat.le_refl _) rfl dL_turns_238 rfl (kI ?_)
  rw [e5]
  refine V_iload (i := 8) rfl dL_turns_241 rfl ?_
  refine V_if_eq (tgt := 250) dL_turns_243 (by decide) rfl (fun h => absurd h (by decide)) (fun _ => ?_)
  refine V_iconst (v := 1) (by decide) dL_turns_246 rfl ?_
  refine V_goto (tgt := 251) dL_turns_247 (by decide) ?_
  refine V_icmp_ne (tgt := 324) dL_turns_251 (by decide) rfl (fun h => absurd rfl h) (fun _ => ?_)
  refine V_aload_n (i := 0) rfl rfl dL_turns_254 rfl ?_
  refine V_iconst (v := 0) (by decide) dL_turns_255 rfl ?_
  refine V_call (n := 1) (q_ct0 hw) o_X7_count m_L_38 ⟨by decide, by decide⟩ (by assumption) rfl rfl (by first | exact Nat.le_of_ble_eq_true rfl | simp [Value.category]) (Nat.le_refl _) (Nat.le_refl _) rfl dL_turns_256 rfl (kI ?_)
  rw [t0]
  refine V_iload (i := 6) rfl dL_turns_259 rfl ?_
  refine V_iconst (v := 1) (by decide) dL_turns_261 rfl ?_
  refine V_iadd dL_turns_262 rfl ?_
  refine V_icmp_ne (tgt := 324) dL_turns_263 (by decide) rfl (fun h => absurd rfl h) (fun _ => ?_)
  refine V_iload (i := 8) rfl dL_turns_266 rfl ?_
  refine V_if_eq (tgt := 320) dL_turns_268 (by decide) rfl (fun h => absurd h (by decide)) (fun _ => ?_)
  refine V_iload (i := 9) rfl dL_turns_271 rfl ?_
  refine V_if_lt (tgt := 324) dL_turns_273 (by decide) rfl (fun h => absurd h (nI_pos (by omega))) (fun _ => ?_)
  refine V_iload (i := 11) rfl dL_turns_276 rfl ?_
  refine V_if_ne (tgt := 324) dL_turns_278 (by decide) rfl (fun h => absurd rfl h) (fun _ => ?_)
  refine V_aload_n (i := 0) rfl rfl dL_turns_281 rfl ?_
  refine V_iload_n (i := 2) rfl rfl dL_turns_282 rfl ?_
  refine V_iconst (v := 0) (by decide) dL_turns_283 rfl ?_
  refine V_iconst (v := 0) (by decide) dL_turns_284 rfl ?_
  refine V_call (n := 3) (q_bt0 hw hp hm1) o_X7_bite m_L_16 ⟨by decide, by decide⟩ (by assumption) rfl rfl (by first | exact Nat.le_of_ble_eq_true rfl | simp [Value.category]) (Nat.le_refl _) (Nat.le_refl _) rfl dL_turns_285 rfl (kI ?_)
  rw [w0]
  refine V_iload (i := 10) rfl dL_turns_288 rfl ?_
  refine V_icmp_ne (tgt := 324) dL_turns_290 (by decide) rfl (fun h => absurd rfl h) (fun _ => ?_)
  refine V_aload_n (i := 0) rfl rfl dL_turns_293 rfl ?_
  refine V_iload_n (i := 2) rfl rfl dL_turns_294 rfl ?_
  refine V_iconst (v := 0) (by decide) dL_turns_295 rfl ?_
  refine V_iconst (v := 2) (by decide) dL_turns_296 rfl ?_
  refine V_call (n := 3) (q_bt2 hw hp hm1) o_X7_bite m_L_16 ⟨by decide, by decide⟩ (by assumption) rfl rfl (by first | exact Nat.le_of_ble_eq_true rfl | simp [Value.category]) (Nat.le_refl _) (Nat.le_refl _) rfl dL_turns_297 rfl (kI ?_)
  rw [w2]
  refine V_iload_n (i := 2) rfl rfl dL_turns_300 rfl ?_
  refine V_icmp_ne (tgt := 324) dL_turns_301 (by decide) rfl (fun h => absurd rfl h) (fun _ => ?_)
  refine V_aload_n (i := 0) rfl rfl dL_turns_304 rfl ?_
  refine V_iload (i := 9) rfl dL_turns_305 rfl ?_
  refine V_iconst (v := 2) (by decide) dL_turns_307 rfl ?_
  refine V_call (n := 2) (q_sn2 hw hk h0t) o_X7_snakeOf m_L_48 ⟨by decide, by decide⟩ (by assumption) rfl rfl (by first | exact Nat.le_of_ble_eq_true rfl | simp [Value.category]) (Nat.le_refl _) (Nat.le_refl _) rfl dL_turns_308 rfl (kI ?_)
  rw [g2]
  refine V_aload_n (i := 0) rfl rfl dL_turns_311 rfl ?_
  refine V_bipush (v := 8) (by decide) dL_turns_312 rfl ?_
  refine V_call (n := 1) (q_ct8 hw) o_X7_count m_L_38 ⟨by decide, by decide⟩ (by assumption) rfl rfl (by first | exact Nat.le_of_ble_eq_true rfl | simp [Value.category]) (Nat.le_refl _) (Nat.le_refl _) rfl dL_turns_314 rfl (kI ?_)
  rw [t5]
  refine V_icmp_ne (tgt := 324) dL_turns_317 (by decide) rfl (fun h => absurd rfl h) (fun _ => ?_)
  refine V_iconst (v := 1) (by decide) dL_turns_320 rfl ?_
  refine V_goto (tgt := 325) dL_turns_321 (by decide) ?_
  refine V_istore (i := 14) (by decide) rfl dL_turns_325 rfl ?_
  refine V_iload (i := 14) rfl dL_turns_327 rfl ?_
  refine V_if_eq (tgt := 370) dL_turns_329 (by decide) rfl (fun h => absurd h (by decide)) (fun _ => ?_)
  refine V_iload (i := 7) rfl dL_turns_332 rfl ?_
  refine V_bipush (v := 60) (by decide) dL_turns_334 rfl ?_
  refine V_icmp_ne (tgt := 355) dL_turns_336 (by decide) rfl (fun _ => ?_) (fun h => absurd h (fun z => q60 (nI_inj (b := 60) (by omega) (by decide) z)))
  refine V_aload_n (i := 0) rfl rfl dL_turns_355 rfl ?_
  refine V_iload_n (i := 2) rfl rfl dL_turns_356 rfl ?_
  refine V_iconst (v := 5) (by decide) dL_turns_357 rfl ?_
  refine V_call (n := 2) (q_pl5 hw hp) o_X7_player m_L_10 ⟨by decide, by decide⟩ (by assumption) rfl rfl (by first | exact Nat.le_of_ble_eq_true rfl | simp [Value.category]) (Nat.le_refl _) (Nat.le_refl _) rfl dL_turns_358 rfl (kI ?_)
  rw [if_pos r2p]
  refine V_bipush (v := (-5)) (by decide) dL_turns_361 rfl ?_
  refine V_icmp_ne (tgt := 370) dL_turns_363 (by decide) rfl (fun h => absurd rfl h) (fun _ => ?_)
  refine V_iconst (v := 1) (by decide) dL_turns_366 rfl ?_
  refine V_goto (tgt := 371) dL_turns_367 (by decide) ?_
  exact V_ireturn rfl (by decide) dL_turns_371 rfl rfl rfl (⟨_, rfl, rfl, t, k, h, hw⟩)

set_option maxHeartbeats 4000000 in
set_option maxRecDepth 100000 in
theorem lc_t166N {l : Launch} {g : fw_G} {I : fw_I} {P : fw_P} {s : Nat → Int32} {k : Nat} {h : Nat → Nat → Int32} {B d p b Q : Nat} (hx : Wd I P s k h B) (hB : B + 1 < 1000000) (h1 : 1 ≤ d) (h6 : d ≤ 6) (hp : p < 4) (em : s 1 = nI p) (h4 : ¬ s 4 = 4) (h2 : ro s p 2 = 0) (eb : aBeg s p = nI b) (hQ : Q ≤ 60) (eQ : aTq s (nI d) = nI Q) (hE : TE s (aT s (nI d)) p Q) (hn : ¬ aBites s p (nI Q)) (v9 v10 v11 : Int32) : V l g kL_turns (T0 nT) 0 0 (qA (B + 1)) (T0 nT) I P 0 0 166 [some (.ref (g.1 + 0)), some (.int (nI d)), some (.int (nI p)), some (.int (nI b)), some (.int (ro s p 4 + ro s p 0 - nI b)), some (.int (ro s p 3)), some (.int (s 0)), some (.int (nI Q)), some (.int 0), some (.int v9), some (.int v10), some (.int v11), none, none, none] [] := by
  have a0 := at_0 (nT := nT)
  have hl := home_le s
  have eh : s 4 = nI (home s) := hx.2.1.2.2.2.2.2.2.2.1
  have er : aTuR s (nI d) = nI Q := by
    unfold aTuR
    rw [if_neg (fun z => z ⟨nI_le (a := 1) h1 (by omega), nI_le (b := 6) h6 (by decide)⟩), if_neg h4, eQ]
  refine V_iconst (v := 4) (by decide) dL_turns_166 rfl ?_
  refine V_aload_n (i := 0) rfl rfl dL_turns_167 rfl ?_
  refine V_iconst (v := 2) (by decide) dL_turns_168 rfl ?_
  refine V_call (n := 1) (q_ct2 hx) o_X7_count m_L_38 ⟨by decide, by decide⟩ (by assumption) rfl rfl (by first | exact Nat.le_of_ble_eq_true rfl | simp [Value.category]) (Nat.le_refl _) (Nat.le_refl _) rfl dL_turns_169 rfl (kI ?_)
  rw [eh]
  refine V_isub dL_turns_172 rfl ?_
  rw [four4 hl]
  refine V_istore (i := 12) (by decide) rfl dL_turns_173 rfl ?_
  refine V_aload_n (i := 0) rfl rfl dL_turns_175 rfl ?_
  refine V_iload_n (i := 1) rfl rfl dL_turns_176 rfl ?_
  refine V_call (n := 1) (q_turn hx (nI d)) o_X7_turn m_L_51 ⟨by decide, by decide⟩ (by assumption) rfl rfl (by first | exact Nat.le_of_ble_eq_true rfl | simp [Value.category]) (Nat.le_refl _) (Nat.le_refl _) rfl dL_turns_177 rfl (kJ ?_)
  rintro _ I1 P1 ⟨rfl, hm, -⟩
  have hw : Wd I1 P1 (aT s (nI d)) (rK k) (rH k h s) (B + 1) := by
    rcases hm with ⟨-, sx⟩ | ⟨no, -⟩
    · exact ⟨sx, (Inv_T hx.2.1 h4 h1 h6).mono (by omega) hB, J_T hx.2.1 hx.2.2 hp h2 hE⟩
    · exact absurd ⟨⟨nI_le (a := 1) h1 (by omega), nI_le (b := 6) h6 (by decide)⟩, h4⟩ no
  rw [er]
  refine V_istore (i := 13) (by decide) rfl dL_turns_180 rfl ?_
  exact lc_tN hw hE hp hQ eb eh v9 v10 v11 hn

set_option maxHeartbeats 4000000 in
set_option maxRecDepth 100000 in
theorem lc_t166B {l : Launch} {g : fw_G} {I : fw_I} {P : fw_P} {s : Nat → Int32} {k : Nat} {h : Nat → Nat → Int32} {B d p b Q : Nat} (hx : Wd I P s k h B) (hB : B + 1 < 1000000) (h1 : 1 ≤ d) (h6 : d ≤ 6) (hp : p < 4) (em : s 1 = nI p) (h4 : ¬ s 4 = 4) (h2 : ro s p 2 = 0) (eb : aBeg s p = nI b) (hQ : Q ≤ 60) (eQ : aTq s (nI d) = nI Q) (hE : TE s (aT s (nI d)) p Q) {kk x y : Nat} (hk : kk < 10) (ea : aSnAt s (nI Q) = nI kk) (ex : sn s kk 0 = nI x) (ey : sn s kk 1 = nI y) (hxx : x ≤ 59) (hyy : y ≤ 53) (hn : aBites s p (nI Q)) : V l g kL_turns (T0 nT) 0 0 (qA (B + 1)) (T0 nT) I P 0 0 166 [some (.ref (g.1 + 0)), some (.int (nI d)), some (.int (nI p)), some (.int (nI b)), some (.int (ro s p 4 + ro s p 0 - nI b)), some (.int (ro s p 3)), some (.int (s 0)), some (.int (nI Q)), some (.int 1), some (.int (nI kk)), some (.int (nI (x - y))), some (.int 0), none, none, none] [] := by
  have a0 := at_0 (nT := nT)
  have hl := home_le s
  have eh : s 4 = nI (home s) := hx.2.1.2.2.2.2.2.2.2.1
  have er : aTuR s (nI d) = nI Q := by
    unfold aTuR
    rw [if_neg (fun z => z ⟨nI_le (a := 1) h1 (by omega), nI_le (b := 6) h6 (by decide)⟩), if_neg h4, eQ]
  refine V_iconst (v := 4) (by decide) dL_turns_166 rfl ?_
  refine V_aload_n (i := 0) rfl rfl dL_turns_167 rfl ?_
  refine V_iconst (v := 2) (by decide) dL_turns_168 rfl ?_
  refine V_call (n := 1) (q_ct2 hx) o_X7_count m_L_38 ⟨by decide, by decide⟩ (by assumption) rfl rfl (by first | exact Nat.le_of_ble_eq_true rfl | simp [Value.category]) (Nat.le_refl _) (Nat.le_refl _) rfl dL_turns_169 rfl (kI ?_)
  rw [eh]
  refine V_isub dL_turns_172 rfl ?_
  rw [four4 hl]
  refine V_istore (i := 12) (by decide) rfl dL_turns_173 rfl ?_
  refine V_aload_n (i := 0) rfl rfl dL_turns_175 rfl ?_
  refine V_iload_n (i := 1) rfl rfl dL_turns_176 rfl ?_
  refine V_call (n := 1) (q_turn hx (nI d)) o_X7_turn m_L_51 ⟨by decide, by decide⟩ (by assumption) rfl rfl (by first | exact Nat.le_of_ble_eq_true rfl | simp [Value.category]) (Nat.le_refl _) (Nat.le_refl _) rfl dL_turns_177 rfl (kJ ?_)
  rintro _ I1 P1 ⟨rfl, hm, -⟩
  have hw : Wd I1 P1 (aT s (nI d)) (rK k) (rH k h s) (B + 1) := by
    rcases hm with ⟨-, sx⟩ | ⟨no, -⟩
    · exact ⟨sx, (Inv_T hx.2.1 h4 h1 h6).mono (by omega) hB, J_T hx.2.1 hx.2.2 hp h2 hE⟩
    · exact absurd ⟨⟨nI_le (a := 1) h1 (by omega), nI_le (b := 6) h6 (by decide)⟩, h4⟩ no
  rw [er]
  refine V_istore (i := 13) (by decide) rfl dL_turns_180 rfl ?_
  exact lc_tB hw hE hp hQ eb eh hk ea ex ey hxx hyy hn

set_option maxHeartbeats 4000000 in
set_option maxRecDepth 100000 in
theorem lc_t109N {l : Launch} {g : fw_G} {I : fw_I} {P : fw_P} {s : Nat → Int32} {k : Nat} {h : Nat → Nat → Int32} {B d p b Q : Nat} (hx : Wd I P s k h B) (hB : B + 1 < 1000000) (h1 : 1 ≤ d) (h6 : d ≤ 6) (hp : p < 4) (em : s 1 = nI p) (h4 : ¬ s 4 = 4) (h2 : ro s p 2 = 0) (eb : aBeg s p = nI b) (hQ : Q ≤ 60) (eQ : aTq s (nI d) = nI Q) (hE : TE s (aT s (nI d)) p Q) (hbt : ¬ aBites s p (nI Q)) : V l g kL_turns (T0 nT) 0 0 (qA (B + 1)) (T0 nT) I P 0 0 109 [some (.ref (g.1 + 0)), some (.int (nI d)), some (.int (nI p)), some (.int (nI b)), some (.int (ro s p 4 + ro s p 0 - nI b)), some (.int (ro s p 3)), some (.int (s 0)), some (.int (nI Q)), some (.int 0), none, none, none, none, none, none] [] := by
  have a0 := at_0 (nT := nT)
  have hBB := hx.2.1.2.1
  by_cases ea : aSnAt s (nI Q) = -5
  · refine V_aload_n (i := 0) rfl rfl dL_turns_109 rfl ?_
    refine V_iload (i := 7) rfl dL_turns_110 rfl ?_
    refine V_iconst (v := 1) (by decide) dL_turns_112 rfl ?_
    refine V_call (n := 2) (q_sq1 hx hQ) o_X7_square m_L_26 ⟨by decide, by decide⟩ (by assumption) rfl rfl (by first | exact Nat.le_of_ble_eq_true rfl | simp [Value.category]) (Nat.le_refl _) (Nat.le_refl _) rfl dL_turns_113 rfl (kI ?_)
    rw [ea]
    refine V_istore (i := 9) (by decide) rfl dL_turns_116 rfl ?_
    refine V_iload (i := 9) rfl dL_turns_118 rfl ?_
    refine V_if_ge (tgt := 127) dL_turns_120 (by decide) rfl (fun h => absurd h (by decide)) (fun _ => ?_)
    refine V_iconst (v := 0) (by decide) dL_turns_123 rfl ?_
    refine V_goto (tgt := 142) dL_turns_124 (by decide) ?_
    refine V_istore (i := 10) (by decide) rfl dL_turns_142 rfl ?_
    refine V_iload (i := 9) rfl dL_turns_144 rfl ?_
    refine V_if_lt (tgt := 163) dL_turns_146 (by decide) rfl (fun _ => ?_) (fun h => absurd (by decide) h)
    refine V_iconst (v := 0) (by decide) dL_turns_163 rfl ?_
    refine V_istore (i := 11) (by decide) rfl dL_turns_164 rfl ?_
    exact lc_t166N hx hB h1 h6 hp em h4 h2 eb hQ eQ hE hbt _ _ _
  · obtain ⟨kk, hk, ea, h0⟩ := aSk_at ea
    obtain ⟨c1, sl, sl1, el⟩ := hx.2.1.2.2.2.2.1 kk hk
    rcases c1 with ⟨z, -⟩ | ⟨x, y, x1, x2, y1, y2, xy1, xy2, ex, ey⟩
    · rw [z] at h0; exact absurd h0 (by decide)
    by_cases hsl : sl = 0
    · subst hsl
      refine V_aload_n (i := 0) rfl rfl dL_turns_109 rfl ?_
      refine V_iload (i := 7) rfl dL_turns_110 rfl ?_
      refine V_iconst (v := 1) (by decide) dL_turns_112 rfl ?_
      refine V_call (n := 2) (q_sq1 hx hQ) o_X7_square m_L_26 ⟨by decide, by decide⟩ (by assumption) rfl rfl (by first | exact Nat.le_of_ble_eq_true rfl | simp [Value.category]) (Nat.le_refl _) (Nat.le_refl _) rfl dL_turns_113 rfl (kI ?_)
      rw [ea]
      refine V_istore (i := 9) (by decide) rfl dL_turns_116 rfl ?_
      refine V_iload (i := 9) rfl dL_turns_118 rfl ?_
      refine V_if_ge (tgt := 127) dL_turns_120 (by decide) rfl (fun _ => ?_) (fun h => absurd (nI_pos' (by omega)) h)
      refine V_aload_n (i := 0) rfl rfl dL_turns_127 rfl ?_
      refine V_iload (i := 9) rfl dL_turns_128 rfl ?_
      refine V_iconst (v := 0) (by decide) dL_turns_130 rfl ?_
      refine V_call (n := 2) (q_sn0 hx hk h0) o_X7_snakeOf m_L_48 ⟨by decide, by decide⟩ (by assumption) rfl rfl (by first | exact Nat.le_of_ble_eq_true rfl | simp [Value.category]) (Nat.le_refl _) (Nat.le_refl _) rfl dL_turns_131 rfl (kI ?_)
      rw [ex]
      refine V_aload_n (i := 0) rfl rfl dL_turns_134 rfl ?_
      refine V_iload (i := 9) rfl dL_turns_135 rfl ?_
      refine V_iconst (v := 1) (by decide) dL_turns_137 rfl ?_
      refine V_call (n := 2) (q_sn1 hx hk h0) o_X7_snakeOf m_L_48 ⟨by decide, by decide⟩ (by assumption) rfl rfl (by first | exact Nat.le_of_ble_eq_true rfl | simp [Value.category]) (Nat.le_refl _) (Nat.le_refl _) rfl dL_turns_138 rfl (kI ?_)
      rw [ey]
      refine V_isub dL_turns_141 rfl ?_
      rw [nI_sub (show y ≤ x by omega)]
      refine V_istore (i := 10) (by decide) rfl dL_turns_142 rfl ?_
      refine V_iload (i := 9) rfl dL_turns_144 rfl ?_
      refine V_if_lt (tgt := 163) dL_turns_146 (by decide) rfl (fun h => absurd h (nI_pos (by omega))) (fun _ => ?_)
      refine V_aload_n (i := 0) rfl rfl dL_turns_149 rfl ?_
      refine V_iload (i := 9) rfl dL_turns_150 rfl ?_
      refine V_iconst (v := 2) (by decide) dL_turns_152 rfl ?_
      refine V_call (n := 2) (q_sn2 hx hk h0) o_X7_snakeOf m_L_48 ⟨by decide, by decide⟩ (by assumption) rfl rfl (by first | exact Nat.le_of_ble_eq_true rfl | simp [Value.category]) (Nat.le_refl _) (Nat.le_refl _) rfl dL_turns_153 rfl (kI ?_)
      rw [el]
      refine V_if_le (tgt := 163) dL_turns_156 (by decide) rfl (fun _ => ?_) (fun h => absurd (by decide) h)
      refine V_iconst (v := 0) (by decide) dL_turns_163 rfl ?_
      refine V_istore (i := 11) (by decide) rfl dL_turns_164 rfl ?_
      exact lc_t166N hx hB h1 h6 hp em h4 h2 eb hQ eQ hE hbt _ _ _
    · refine V_aload_n (i := 0) rfl rfl dL_turns_109 rfl ?_
      refine V_iload (i := 7) rfl dL_turns_110 rfl ?_
      refine V_iconst (v := 1) (by decide) dL_turns_112 rfl ?_
      refine V_call (n := 2) (q_sq1 hx hQ) o_X7_square m_L_26 ⟨by decide, by decide⟩ (by assumption) rfl rfl (by first | exact Nat.le_of_ble_eq_true rfl | simp [Value.category]) (Nat.le_refl _) (Nat.le_refl _) rfl dL_turns_113 rfl (kI ?_)
      rw [ea]
      refine V_istore (i := 9) (by decide) rfl dL_turns_116 rfl ?_
      refine V_iload (i := 9) rfl dL_turns_118 rfl ?_
      refine V_if_ge (tgt := 127) dL_turns_120 (by decide) rfl (fun _ => ?_) (fun h => absurd (nI_pos' (by omega)) h)
      refine V_aload_n (i := 0) rfl rfl dL_turns_127 rfl ?_
      refine V_iload (i := 9) rfl dL_turns_128 rfl ?_
      refine V_iconst (v := 0) (by decide) dL_turns_130 rfl ?_
      refine V_call (n := 2) (q_sn0 hx hk h0) o_X7_snakeOf m_L_48 ⟨by decide, by decide⟩ (by assumption) rfl rfl (by first | exact Nat.le_of_ble_eq_true rfl | simp [Value.category]) (Nat.le_refl _) (Nat.le_refl _) rfl dL_turns_131 rfl (kI ?_)
      rw [ex]
      refine V_aload_n (i := 0) rfl rfl dL_turns_134 rfl ?_
      refine V_iload (i := 9) rfl dL_turns_135 rfl ?_
      refine V_iconst (v := 1) (by decide) dL_turns_137 rfl ?_
      refine V_call (n := 2) (q_sn1 hx hk h0) o_X7_snakeOf m_L_48 ⟨by decide, by decide⟩ (by assumption) rfl rfl (by first | exact Nat.le_of_ble_eq_true rfl | simp [Value.category]) (Nat.le_refl _) (Nat.le_refl _) rfl dL_turns_138 rfl (kI ?_)
      rw [ey]
      refine V_isub dL_turns_141 rfl ?_
      rw [nI_sub (show y ≤ x by omega)]
      refine V_istore (i := 10) (by decide) rfl dL_turns_142 rfl ?_
      refine V_iload (i := 9) rfl dL_turns_144 rfl ?_
      refine V_if_lt (tgt := 163) dL_turns_146 (by decide) rfl (fun h => absurd h (nI_pos (by omega))) (fun _ => ?_)
      refine V_aload_n (i := 0) rfl rfl dL_turns_149 rfl ?_
      refine V_iload (i := 9) rfl dL_turns_150 rfl ?_
      refine V_iconst (v := 2) (by decide) dL_turns_152 rfl ?_
      refine V_call (n := 2) (q_sn2 hx hk h0) o_X7_snakeOf m_L_48 ⟨by decide, by decide⟩ (by assumption) rfl rfl (by first | exact Nat.le_of_ble_eq_true rfl | simp [Value.category]) (Nat.le_refl _) (Nat.le_refl _) rfl dL_turns_153 rfl (kI ?_)
      rw [el]
      refine V_if_le (tgt := 163) dL_turns_156 (by decide) rfl (fun h => absurd h (nI_ge (a := 0) (b := sl) (by omega) (by omega))) (fun _ => ?_)
      refine V_iconst (v := 1) (by decide) dL_turns_159 rfl ?_
      refine V_goto (tgt := 164) dL_turns_160 (by decide) ?_
      refine V_istore (i := 11) (by decide) rfl dL_turns_164 rfl ?_
      exact lc_t166N hx hB h1 h6 hp em h4 h2 eb hQ eQ hE hbt _ _ _

set_option maxHeartbeats 4000000 in
set_option maxRecDepth 100000 in
theorem lc_t109B {l : Launch} {g : fw_G} {I : fw_I} {P : fw_P} {s : Nat → Int32} {k : Nat} {h : Nat → Nat → Int32} {B d p b Q : Nat} (hx : Wd I P s k h B) (hB : B + 1 < 1000000) (h1 : 1 ≤ d) (h6 : d ≤ 6) (hp : p < 4) (em : s 1 = nI p) (h4 : ¬ s 4 = 4) (h2 : ro s p 2 = 0) (eb : aBeg s p = nI b) (hQ : Q ≤ 60) (eQ : aTq s (nI d) = nI Q) (hE : TE s (aT s (nI d)) p Q) (hbt : aBites s p (nI Q)) : V l g kL_turns (T0 nT) 0 0 (qA (B + 1)) (T0 nT) I P 0 0 109 [some (.ref (g.1 + 0)), some (.int (nI d)), some (.int (nI p)), some (.int (nI b)), some (.int (ro s p 4 + ro s p 0 - nI b)), some (.int (ro s p 3)), some (.int (s 0)), some (.int (nI Q)), some (.int 1), none, none, none, none, none, none] [] := by
  have a0 := at_0 (nT := nT)
  obtain ⟨kk, hk, ea, h0⟩ := aSk_at hbt.1
  have el : sn s kk 2 = 0 := by have := hbt.2.1; rwa [ea, nI_clamp (by omega)] at this
  rcases (hx.2.1.2.2.2.2.1 kk hk).1 with ⟨z, -⟩ | ⟨x, y, x1, x2, y1, y2, xy1, xy2, ex, ey⟩
  · rw [z] at h0; exact absurd h0 (by decide)
  refine V_aload_n (i := 0) rfl rfl dL_turns_109 rfl ?_
  refine V_iload (i := 7) rfl dL_turns_110 rfl ?_
  refine V_iconst (v := 1) (by decide) dL_turns_112 rfl ?_
  refine V_call (n := 2) (q_sq1 hx hQ) o_X7_square m_L_26 ⟨by decide, by decide⟩ (by assumption) rfl rfl (by first | exact Nat.le_of_ble_eq_true rfl | simp [Value.category]) (Nat.le_refl _) (Nat.le_refl _) rfl dL_turns_113 rfl (kI ?_)
  rw [ea]
  refine V_istore (i := 9) (by decide) rfl dL_turns_116 rfl ?_
  refine V_iload (i := 9) rfl dL_turns_118 rfl ?_
  refine V_if_ge (tgt := 127) dL_turns_120 (by decide) rfl (fun _ => ?_) (fun h => absurd (nI_pos' (by omega)) h)
  refine V_aload_n (i := 0) rfl rfl dL_turns_127 rfl ?_
  refine V_iload (i := 9) rfl dL_turns_128 rfl ?_
  refine V_iconst (v := 0) (by decide) dL_turns_130 rfl ?_
  refine V_call (n := 2) (q_sn0 hx hk h0) o_X7_snakeOf m_L_48 ⟨by decide, by decide⟩ (by assumption) rfl rfl (by first | exact Nat.le_of_ble_eq_true rfl | simp [Value.category]) (Nat.le_refl _) (Nat.le_refl _) rfl dL_turns_131 rfl (kI ?_)
  rw [ex]
  refine V_aload_n (i := 0) rfl rfl dL_turns_134 rfl ?_
  refine V_iload (i := 9) rfl dL_turns_135 rfl ?_
  refine V_iconst (v := 1) (by decide) dL_turns_137 rfl ?_
  refine V_call (n := 2) (q_sn1 hx hk h0) o_X7_snakeOf m_L_48 ⟨by decide, by decide⟩ (by assumption) rfl rfl (by first | exact Nat.le_of_ble_eq_true rfl | simp [Value.category]) (Nat.le_refl _) (Nat.le_refl _) rfl dL_turns_138 rfl (kI ?_)
  rw [ey]
  refine V_isub dL_turns_141 rfl ?_
  rw [nI_sub (show y ≤ x by omega)]
  refine V_istore (i := 10) (by decide) rfl dL_turns_142 rfl ?_
  refine V_iload (i := 9) rfl dL_turns_144 rfl ?_
  refine V_if_lt (tgt := 163) dL_turns_146 (by decide) rfl (fun h => absurd h (nI_pos (by omega))) (fun _ => ?_)
  refine V_aload_n (i := 0) rfl rfl dL_turns_149 rfl ?_
  refine V_iload (i := 9) rfl dL_turns_150 rfl ?_
  refine V_iconst (v := 2) (by decide) dL_turns_152 rfl ?_
  refine V_call (n := 2) (q_sn2 hx hk h0) o_X7_snakeOf m_L_48 ⟨by decide, by decide⟩ (by assumption) rfl rfl (by first | exact Nat.le_of_ble_eq_true rfl | simp [Value.category]) (Nat.le_refl _) (Nat.le_refl _) rfl dL_turns_153 rfl (kI ?_)
  rw [el]
  refine V_if_le (tgt := 163) dL_turns_156 (by decide) rfl (fun _ => ?_) (fun h => absurd (by decide) h)
  refine V_iconst (v := 0) (by decide) dL_turns_163 rfl ?_
  refine V_istore (i := 11) (by decide) rfl dL_turns_164 rfl ?_
  exact lc_t166B hx hB h1 h6 hp em h4 h2 eb hQ eQ hE hk ea ex ey x2 y2 hbt

set_option maxHeartbeats 4000000 in
set_option maxRecDepth 100000 in
theorem lc_t89 {l : Launch} {g : fw_G} {I : fw_I} {P : fw_P} {s : Nat → Int32} {k : Nat} {h : Nat → Nat → Int32} {B d p b Q : Nat} (hx : Wd I P s k h B) (hB : B + 1 < 1000000) (h1 : 1 ≤ d) (h6 : d ≤ 6) (hp : p < 4) (em : s 1 = nI p) (h4 : ¬ s 4 = 4) (h2 : ro s p 2 = 0) (eb : aBeg s p = nI b) (hQ : Q ≤ 60) (eQ : aTq s (nI d) = nI Q) (hE : TE s (aT s (nI d)) p Q) : V l g kL_turns (T0 nT) 0 0 (qA (B + 1)) (T0 nT) I P 0 0 89 [some (.ref (g.1 + 0)), some (.int (nI d)), some (.int (nI p)), some (.int (nI b)), some (.int (ro s p 4 + ro s p 0 - nI b)), some (.int (ro s p 3)), some (.int (s 0)), some (.int (nI Q)), none, none, none, none, none, none, none] [] := by
  have a0 := at_0 (nT := nT)
  have hD := da_bit s p h1 h6
  have e9 : aGo (aBeg s p) (nI d) = nI Q := by
    have e9 := eQ
    unfold aTq at e9
    rwa [em, nI_clamp (by omega)] at e9
  rw [e9] at hD
  by_cases hbt : aBites s p (nI Q)
  · rw [if_pos hbt] at hD
    refine V_aload_n (i := 0) rfl rfl dL_turns_89 rfl ?_
    refine V_iload_n (i := 2) rfl rfl dL_turns_90 rfl ?_
    refine V_call (n := 1) (q_da hx hp h2) o_X7_dangers m_L_41 ⟨by decide, by decide⟩ (by assumption) rfl rfl (by first | exact Nat.le_of_ble_eq_true rfl | simp [Value.category]) (Nat.le_refl _) (Nat.le_refl _) rfl dL_turns_91 rfl (kI ?_)
    refine V_iload_n (i := 1) rfl rfl dL_turns_94 rfl ?_
    refine V_ishr dL_turns_95 rfl ?_
    refine V_iconst (v := 1) (by decide) dL_turns_96 rfl ?_
    refine V_iand dL_turns_97 rfl ?_
    rw [hD]
    refine V_iconst (v := 1) (by decide) dL_turns_98 rfl ?_
    refine V_icmp_ne (tgt := 106) dL_turns_99 (by decide) rfl (fun h => absurd rfl h) (fun _ => ?_)
    refine V_iconst (v := 1) (by decide) dL_turns_102 rfl ?_
    refine V_goto (tgt := 107) dL_turns_103 (by decide) ?_
    refine V_istore (i := 8) (by decide) rfl dL_turns_107 rfl ?_
    exact lc_t109B hx hB h1 h6 hp em h4 h2 eb hQ eQ hE hbt
  · rw [if_neg hbt] at hD
    refine V_aload_n (i := 0) rfl rfl dL_turns_89 rfl ?_
    refine V_iload_n (i := 2) rfl rfl dL_turns_90 rfl ?_
    refine V_call (n := 1) (q_da hx hp h2) o_X7_dangers m_L_41 ⟨by decide, by decide⟩ (by assumption) rfl rfl (by first | exact Nat.le_of_ble_eq_true rfl | simp [Value.category]) (Nat.le_refl _) (Nat.le_refl _) rfl dL_turns_91 rfl (kI ?_)
    refine V_iload_n (i := 1) rfl rfl dL_turns_94 rfl ?_
    refine V_ishr dL_turns_95 rfl ?_
    refine V_iconst (v := 1) (by decide) dL_turns_96 rfl ?_
    refine V_iand dL_turns_97 rfl ?_
    rw [hD]
    refine V_iconst (v := 1) (by decide) dL_turns_98 rfl ?_
    refine V_icmp_ne (tgt := 106) dL_turns_99 (by decide) rfl (fun _ => ?_) (fun h => absurd h (by decide))
    refine V_iconst (v := 0) (by decide) dL_turns_106 rfl ?_
    refine V_istore (i := 8) (by decide) rfl dL_turns_107 rfl ?_
    exact lc_t109N hx hB h1 h6 hp em h4 h2 eb hQ eQ hE hbt

set_option maxHeartbeats 4000000 in
set_option maxRecDepth 100000 in
theorem sp_turns (l : Launch) (g : fw_G) {I : fw_I} {P : fw_P} {s : Nat → Int32} {k : Nat} {h : Nat → Nat → Int32} {B d : Nat} (hx : Wd I P s k h B) (hB : B + 1 < 1000000) (h1 : 1 ≤ d) (h6 : d ≤ 6) : Sp l g kL_turns (T0 nT) [.ref (g.1 + 0), .int (nI d)] I P (T0 nT) 0 0 (qA (B + 1)) := by
  have a0 := at_0 (nT := nT)
  refine Sp.of_V (L := [some (.ref (g.1 + 0)), some (.int (nI d)), none, none, none, none, none, none, none, none, none, none, none, none, none]) (by decide) (by simp [Value.category]) (Nat.le_of_ble_eq_true rfl) rfl ?_
  obtain ⟨p, hp, em, hm2, -⟩ := hx.2.1.2.2.2.2.2.2.2.2
  by_cases h4 : s 4 = 4
  · have er : aTuR s (nI d) = -4 := by
      unfold aTuR
      rw [if_neg (fun z => z ⟨nI_le (a := 1) h1 (by omega), nI_le (b := 6) h6 (by decide)⟩), if_pos h4]
    refine V_aload_n (i := 0) rfl rfl dL_turns_0 rfl ?_
    refine V_iconst (v := 1) (by decide) dL_turns_1 rfl ?_
    refine V_call (n := 1) (q_ct1 hx) o_X7_count m_L_38 ⟨by decide, by decide⟩ (by assumption) rfl rfl (by first | exact Nat.le_of_ble_eq_true rfl | simp [Value.category]) (Nat.le_refl _) (Nat.le_refl _) rfl dL_turns_2 rfl (kI ?_)
    rw [if_pos h4]
    refine V_istore_n (i := 2) rfl (by decide) rfl dL_turns_5 rfl ?_
    refine V_iload_n (i := 2) rfl rfl dL_turns_6 rfl ?_
    refine V_if_ge (tgt := 26) dL_turns_7 (by decide) rfl (fun h => absurd h (by decide)) (fun _ => ?_)
    refine V_aload_n (i := 0) rfl rfl dL_turns_10 rfl ?_
    refine V_iload_n (i := 1) rfl rfl dL_turns_11 rfl ?_
    refine V_call (n := 1) (q_turn hx (nI d)) o_X7_turn m_L_51 ⟨by decide, by decide⟩ (by assumption) rfl rfl (by first | exact Nat.le_of_ble_eq_true rfl | simp [Value.category]) (Nat.le_refl _) (Nat.le_refl _) rfl dL_turns_12 rfl (kJ ?_)
    rintro _ I1 P1 ⟨rfl, hm, -⟩
    rw [er]
    refine V_bipush (v := (-4)) (by decide) dL_turns_15 rfl ?_
    refine V_icmp_ne (tgt := 24) dL_turns_17 (by decide) rfl (fun h => absurd rfl h) (fun _ => ?_)
    refine V_iconst (v := 1) (by decide) dL_turns_20 rfl ?_
    refine V_goto (tgt := 25) dL_turns_21 (by decide) ?_
    exact V_ireturn rfl (by decide) dL_turns_25 rfl rfl rfl (⟨_, rfl, rfl, s, k, h, (hm.elim (fun z => absurd h4 z.1.2) (fun z => hx.to z.2)).mono (by omega) hB⟩)
  have h2 := hm2 h4
  obtain ⟨b, hb, eb⟩ := hx.2.1.beg hp
  obtain ⟨Q, hQ, eQ, hE⟩ := T_eff hx.2.1 h6 hp em h2
  have e9 : aGo (nI b) (nI d) = nI Q := by
    have e9 := eQ
    unfold aTq at e9
    rwa [em, nI_clamp (by omega), eb] at e9
  by_cases hbd : b + d ≤ 60
  · have eQ1 : nI b + nI d = nI Q := by
      rw [← e9]
      unfold aGo
      rw [if_pos (by rw [nI_add]; exact nI_le (b := 60) hbd (by decide))]
    refine V_aload_n (i := 0) rfl rfl dL_turns_0 rfl ?_
    refine V_iconst (v := 1) (by decide) dL_turns_1 rfl ?_
    refine V_call (n := 1) (q_ct1 hx) o_X7_count m_L_38 ⟨by decide, by decide⟩ (by assumption) rfl rfl (by first | exact Nat.le_of_ble_eq_true rfl | simp [Value.category]) (Nat.le_refl _) (Nat.le_refl _) rfl dL_turns_2 rfl (kI ?_)
    rw [if_neg h4, em]
    refine V_istore_n (i := 2) rfl (by decide) rfl dL_turns_5 rfl ?_
    refine V_iload_n (i := 2) rfl rfl dL_turns_6 rfl ?_
    refine V_if_ge (tgt := 26) dL_turns_7 (by decide) rfl (fun _ => ?_) (fun h => absurd (nI_pos' (by omega)) h)
    refine V_aload_n (i := 0) rfl rfl dL_turns_26 rfl ?_
    refine V_iload_n (i := 2) rfl rfl dL_turns_27 rfl ?_
    refine V_iconst (v := 4) (by decide) dL_turns_28 rfl ?_
    refine V_call (n := 2) (q_pl4 hx hp) o_X7_player m_L_10 ⟨by decide, by decide⟩ (by assumption) rfl rfl (by first | exact Nat.le_of_ble_eq_true rfl | simp [Value.category]) (Nat.le_refl _) (Nat.le_refl _) rfl dL_turns_29 rfl (kI ?_)
    rw [eb]
    refine V_istore_n (i := 3) rfl (by decide) rfl dL_turns_32 rfl ?_
    refine V_aload_n (i := 0) rfl rfl dL_turns_33 rfl ?_
    refine V_iload_n (i := 2) rfl rfl dL_turns_34 rfl ?_
    refine V_bipush (v := 7) (by decide) dL_turns_35 rfl ?_
    refine V_call (n := 2) (q_pl7 hx hp) o_X7_player m_L_10 ⟨by decide, by decide⟩ (by assumption) rfl rfl (by first | exact Nat.le_of_ble_eq_true rfl | simp [Value.category]) (Nat.le_refl _) (Nat.le_refl _) rfl dL_turns_37 rfl (kI ?_)
    refine V_aload_n (i := 0) rfl rfl dL_turns_40 rfl ?_
    refine V_iload_n (i := 2) rfl rfl dL_turns_41 rfl ?_
    refine V_iconst (v := 0) (by decide) dL_turns_42 rfl ?_
    refine V_call (n := 2) (q_pl0 hx hp) o_X7_player m_L_10 ⟨by decide, by decide⟩ (by assumption) rfl rfl (by first | exact Nat.le_of_ble_eq_true rfl | simp [Value.category]) (Nat.le_refl _) (Nat.le_refl _) rfl dL_turns_43 rfl (kI ?_)
    refine V_iadd dL_turns_46 rfl ?_
    refine V_iload_n (i := 3) rfl rfl dL_turns_47 rfl ?_
    refine V_isub dL_turns_48 rfl ?_
    refine V_istore (i := 4) (by decide) rfl dL_turns_49 rfl ?_
    refine V_aload_n (i := 0) rfl rfl dL_turns_51 rfl ?_
    refine V_iload_n (i := 2) rfl rfl dL_turns_52 rfl ?_
    refine V_bipush (v := 6) (by decide) dL_turns_53 rfl ?_
    refine V_call (n := 2) (q_pl6 hx hp) o_X7_player m_L_10 ⟨by decide, by decide⟩ (by assumption) rfl rfl (by first | exact Nat.le_of_ble_eq_true rfl | simp [Value.category]) (Nat.le_refl _) (Nat.le_refl _) rfl dL_turns_55 rfl (kI ?_)
    refine V_istore (i := 5) (by decide) rfl dL_turns_58 rfl ?_
    refine V_aload_n (i := 0) rfl rfl dL_turns_60 rfl ?_
    refine V_iconst (v := 0) (by decide) dL_turns_61 rfl ?_
    refine V_call (n := 1) (q_ct0 hx) o_X7_count m_L_38 ⟨by decide, by decide⟩ (by assumption) rfl rfl (by first | exact Nat.le_of_ble_eq_true rfl | simp [Value.category]) (Nat.le_refl _) (Nat.le_refl _) rfl dL_turns_62 rfl (kI ?_)
    refine V_istore (i := 6) (by decide) rfl dL_turns_65 rfl ?_
    refine V_iload_n (i := 3) rfl rfl dL_turns_67 rfl ?_
    refine V_iload_n (i := 1) rfl rfl dL_turns_68 rfl ?_
    refine V_iadd dL_turns_69 rfl ?_
    refine V_bipush (v := 60) (by decide) dL_turns_70 rfl ?_
    refine V_icmp_le (tgt := 84) dL_turns_72 (by decide) rfl (fun _ => ?_) (fun h => absurd (by rw [nI_add]; exact nI_le (b := 60) hbd (by decide)) h)
    refine V_iload_n (i := 3) rfl rfl dL_turns_84 rfl ?_
    refine V_iload_n (i := 1) rfl rfl dL_turns_85 rfl ?_
    refine V_iadd dL_turns_86 rfl ?_
    rw [eQ1]
    refine V_istore (i := 7) (by decide) rfl dL_turns_87 rfl ?_
    exact lc_t89 hx hB h1 h6 hp em h4 h2 eb hQ eQ hE
  · have eQ1 : 120 - nI b - nI d = nI Q := by
      rw [← e9]
      unfold aGo
      rw [if_neg (by rw [nI_add]; exact nI_ge (a := 60) (by omega) (by omega))]
    refine V_aload_n (i := 0) rfl rfl dL_turns_0 rfl ?_
    refine V_iconst (v := 1) (by decide) dL_turns_1 rfl ?_
    refine V_call (n := 1) (q_ct1 hx) o_X7_count m_L_38 ⟨by decide, by decide⟩ (by assumption) rfl rfl (by first | exact Nat.le_of_ble_eq_true rfl | simp [Value.category]) (Nat.le_refl _) (Nat.le_refl _) rfl dL_turns_2 rfl (kI ?_)
    rw [if_neg h4, em]
    refine V_istore_n (i := 2) rfl (by decide) rfl dL_turns_5 rfl ?_
    refine V_iload_n (i := 2) rfl rfl dL_turns_6 rfl ?_
    refine V_if_ge (tgt := 26) dL_turns_7 (by decide) rfl (fun _ => ?_) (fun h => absurd (nI_pos' (by omega)) h)
    refine V_aload_n (i := 0) rfl rfl dL_turns_26 rfl ?_
    refine V_iload_n (i := 2) rfl rfl dL_turns_27 rfl ?_
    refine V_iconst (v := 4) (by decide) dL_turns_28 rfl ?_
    refine V_call (n := 2) (q_pl4 hx hp) o_X7_player m_L_10 ⟨by decide, by decide⟩ (by assumption) rfl rfl (by first | exact Nat.le_of_ble_eq_true rfl | simp [Value.category]) (Nat.le_refl _) (Nat.le_refl _) rfl dL_turns_29 rfl (kI ?_)
    rw [eb]
    refine V_istore_n (i := 3) rfl (by decide) rfl dL_turns_32 rfl ?_
    refine V_aload_n (i := 0) rfl rfl dL_turns_33 rfl ?_
    refine V_iload_n (i := 2) rfl rfl dL_turns_34 rfl ?_
    refine V_bipush (v := 7) (by decide) dL_turns_35 rfl ?_
    refine V_call (n := 2) (q_pl7 hx hp) o_X7_player m_L_10 ⟨by decide, by decide⟩ (by assumption) rfl rfl (by first | exact Nat.le_of_ble_eq_true rfl | simp [Value.category]) (Nat.le_refl _) (Nat.le_refl _) rfl dL_turns_37 rfl (kI ?_)
    refine V_aload_n (i := 0) rfl rfl dL_turns_40 rfl ?_
    refine V_iload_n (i := 2) rfl rfl dL_turns_41 rfl ?_
    refine V_iconst (v := 0) (by decide) dL_turns_42 rfl ?_
    refine V_call (n := 2) (q_pl0 hx hp) o_X7_player m_L_10 ⟨by decide, by decide⟩ (by assumption) rfl rfl (by first | exact Nat.le_of_ble_eq_true rfl | simp [Value.category]) (Nat.le_refl _) (Nat.le_refl _) rfl dL_turns_43 rfl (kI ?_)
    refine V_iadd dL_turns_46 rfl ?_
    refine V_iload_n (i := 3) rfl rfl dL_turns_47 rfl ?_
    refine V_isub dL_turns_48 rfl ?_
    refine V_istore (i := 4) (by decide) rfl dL_turns_49 rfl ?_
    refine V_aload_n (i := 0) rfl rfl dL_turns_51 rfl ?_
    refine V_iload_n (i := 2) rfl rfl dL_turns_52 rfl ?_
    refine V_bipush (v := 6) (by decide) dL_turns_53 rfl ?_
    refine V_call (n := 2) (q_pl6 hx hp) o_X7_player m_L_10 ⟨by decide, by decide⟩ (by assumption) rfl rfl (by first | exact Nat.le_of_ble_eq_true rfl | simp [Value.category]) (Nat.le_refl _) (Nat.le_refl _) rfl dL_turns_55 rfl (kI ?_)
    refine V_istore (i := 5) (by decide) rfl dL_turns_58 rfl ?_
    refine V_aload_n (i := 0) rfl rfl dL_turns_60 rfl ?_
    refine V_iconst (v := 0) (by decide) dL_turns_61 rfl ?_
    refine V_call (n := 1) (q_ct0 hx) o_X7_count m_L_38 ⟨by decide, by decide⟩ (by assumption) rfl rfl (by first | exact Nat.le_of_ble_eq_true rfl | simp [Value.category]) (Nat.le_refl _) (Nat.le_refl _) rfl dL_turns_62 rfl (kI ?_)
    refine V_istore (i := 6) (by decide) rfl dL_turns_65 rfl ?_
    refine V_iload_n (i := 3) rfl rfl dL_turns_67 rfl ?_
    refine V_iload_n (i := 1) rfl rfl dL_turns_68 rfl ?_
    refine V_iadd dL_turns_69 rfl ?_
    refine V_bipush (v := 60) (by decide) dL_turns_70 rfl ?_
    refine V_icmp_le (tgt := 84) dL_turns_72 (by decide) rfl (fun h => absurd h (by rw [nI_add]; exact nI_ge (a := 60) (by omega) (by omega))) (fun _ => ?_)
    refine V_bipush (v := 120) (by decide) dL_turns_75 rfl ?_
    refine V_iload_n (i := 3) rfl rfl dL_turns_77 rfl ?_
    refine V_isub dL_turns_78 rfl ?_
    refine V_iload_n (i := 1) rfl rfl dL_turns_79 rfl ?_
    refine V_isub dL_turns_80 rfl ?_
    refine V_goto (tgt := 87) dL_turns_81 (by decide) ?_
    rw [eQ1]
    refine V_istore (i := 7) (by decide) rfl dL_turns_87 rfl ?_
    exact lc_t89 hx hB h1 h6 hp em h4 h2 eb hQ eQ hE
