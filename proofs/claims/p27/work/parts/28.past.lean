variable {nT : Nat}
/-! the class' whole state: its references; the race, the history, the snapshot, the text -/
def CSh (P : fw_P) : Prop := (∀ ra, isRc ra → RSh P ra) ∧ P 256 0 = some 257 ∧ (∀ i, i < 5 → ∃ c, c < 5 ∧ P 257 i = some (258 + 85 * c)) ∧ (∀ i j, i < 5 → j < 5 → P 257 i = P 257 j → i = j) ∧ P 0 0 = some 1 ∧ P 0 1 = some 86 ∧ P 0 2 = some 171 ∧ P 0 3 = some 256 ∧ P 0 4 = some 683 ∧ P 0 5 = some 685 ∧ P 683 0 = some 684 ∧ P 685 0 = some 686 ∧ P 685 1 = some 687
def Hs (I : fw_I) (P : fw_P) (k : Nat) (h : Nat → Nat → Int32) : Prop := I 256 1 = nI k ∧ k ≤ 5 ∧ ∀ i, i < k → ∀ r, P 257 i = some r → RRel I P r (h i) ∧ Mv I r (h i)
def CRel (I : fw_I) (P : fw_P) (s : Nat → Int32) (k : Nat) (h : Nat → Nat → Int32) (tk : Bool) (sp : Nat → Int32) (len : Nat) (tx : Nat → Int32) : Prop :=
  (RRel I P 1 s ∧ Mv I 1 s) ∧ Hs I P k h ∧ (I 0 6 = (if tk then 1 else 0) ∧ (tk = true → RRel I P 171 sp ∧ Mv I 171 sp)) ∧ I 683 1 = nI len ∧ len ≤ 60 ∧ ∀ j, j < len → I 684 j = tx j
/-- the reference's cells are left as they are -/
def Ff (I : fw_I) (P : fw_P) (I1 : fw_I) (P1 : fw_P) : Prop := ∀ b, 688 ≤ b → I1 b = I b ∧ P1 b = P b
theorem isRc_h {c : Nat} (h : c < 5) : isRc (258 + 85 * c) := by
  rcases (show c = 0 ∨ c = 1 ∨ c = 2 ∨ c = 3 ∨ c = 4 by omega) with rfl | rfl | rfl | rfl | rfl <;> (unfold isRc; decide)
theorem isRc_1 : isRc 1 := by unfold isRc; decide
theorem isRc_86 : isRc 86 := by unfold isRc; decide
theorem isRc_171 : isRc 171 := by unfold isRc; decide
theorem isRc.lt {ra : Nat} (h : isRc ra) : 1 ≤ ra ∧ ra + 85 ≤ 683 ∧ (ra + 85 ≤ 256 ∨ 258 ≤ ra) := h.cases (p := fun ra => 1 ≤ ra ∧ ra + 85 ≤ 683 ∧ (ra + 85 ≤ 256 ∨ 258 ≤ ra)) (by decide)
theorem Mv.frame {I J : fw_I} {ra : Nat} {s : Nat → Int32} (h : Mv I ra s) (e : J ra = I ra) : Mv J ra s := by unfold Mv; rw [e]; exact h
theorem CSh.r {P : fw_P} (h : CSh P) {ra : Nat} (hr : isRc ra) : RSh P ra := h.1 ra hr
theorem wp257 {P : fw_P} (h : CSh P) : CSh (wp P 257 (rot (P 257) 0 5)) := by
  obtain ⟨h1, h2, h3, h4, h5⟩ := h
  refine ⟨fun ra hr => (h1 ra hr).frame (fun b b1 b2 => wp_ne _ _ (by have := hr.lt; omega)), by rw [wp_ne _ _ (by decide)]; exact h2, fun i hi => ?_, fun i j hi hj e => ?_, ?_⟩
  · rw [wp_at, rot_I]; exact h3 _ (by unfold rotI; split <;> (try split) <;> omega)
  · rw [wp_at, rot_I, rot_I] at e
    exact rotI_inj (k := 0) (N := 5) (by decide) (h4 _ _ (by unfold rotI; split <;> (try split) <;> omega) (by unfold rotI; split <;> (try split) <;> omega) e)
  · obtain ⟨a, b, c, d, e, f, g, i, j⟩ := h5
    exact ⟨by rw [wp_ne _ _ (by decide)]; exact a, by rw [wp_ne _ _ (by decide)]; exact b, by rw [wp_ne _ _ (by decide)]; exact c, by rw [wp_ne _ _ (by decide)]; exact d, by rw [wp_ne _ _ (by decide)]; exact e, by rw [wp_ne _ _ (by decide)]; exact f, by rw [wp_ne _ _ (by decide)]; exact g, by rw [wp_ne _ _ (by decide)]; exact i, by rw [wp_ne _ _ (by decide)]; exact j⟩
/-- a race's cells move with their own -/
theorem RM {I J : fw_I} {P Q : fw_P} {ra : Nat} {s : Nat → Int32} (hS : RSh P ra) (h : RRel I P ra s ∧ Mv I ra s) (e : ∀ b, ra ≤ b → b < ra + 85 → J b = I b ∧ Q b = P b) : RRel J Q ra s ∧ Mv J ra s := ⟨h.1.frame hS e, h.2.frame (e ra (Nat.le_refl _) (by omega)).1⟩
theorem rK_lt {k : Nat} (h : k < 5) : rK k = k + 1 := if_neg (by omega)
theorem rH_n {k : Nat} (hk : k < 5) {h : Nat → Nat → Int32} {s : Nat → Int32} : rH k h s k = s := by unfold rH; rw [rK_lt hk, if_pos rfl]
theorem rH_i {k i : Nat} (hk : k < 5) (hi : i < k) {h : Nat → Nat → Int32} {s : Nat → Int32} : rH k h s i = h i := by unfold rH; rw [rK_lt hk, if_neg (by omega), if_neg (by omega)]
/-- the race remembered: r took its row, the k-th place of the history is r -/
theorem CRel.rec {I J : fw_I} {P Q : fw_P} {s : Nat → Int32} {k : Nat} {h : Nat → Nat → Int32} {tk : Bool} {sp : Nat → Int32} {len : Nat} {tx : Nat → Int32} (hS : CSh P) (hC : CRel I P s k h tk sp len tx) {n c : Nat} (hn : n < 5) (hc : c < 5) (hQ : Q 257 n = some (258 + 85 * c)) (hSQ : CSh Q) (hPQ : ∀ b, b ≠ 257 → Q b = P b)
    (hJ : ∀ b, ¬ (258 + 85 * c ≤ b ∧ b < 343 + 85 * c) → b ≠ 256 → J b = I b) (hk : J 256 1 = nI (n + 1)) (hr : RRel J Q (258 + 85 * c) s ∧ Mv J (258 + 85 * c) s) (h2 : Nat → Nat → Int32) (h2n : h2 n = s) (h2i : ∀ i, i < n → ∃ i', i' < k ∧ Q 257 i = P 257 i' ∧ h2 i = h i') : CRel J Q s (n + 1) h2 tk sp len tx := by
  obtain ⟨a1, ⟨b1, b2, b3⟩, ⟨c1, c2⟩, d1, d2, d3⟩ := hC
  refine ⟨RM (hS.r isRc_1) a1 (fun b x y => ⟨hJ b (by omega) (by omega), hPQ b (by omega)⟩), ⟨hk, by omega, fun i hi r hr' => ?_⟩, ⟨by rw [hJ 0 (by omega) (by omega)]; exact c1, fun t => RM (hS.r isRc_171) (c2 t) (fun b x y => ⟨hJ b (by omega) (by omega), hPQ b (by omega)⟩)⟩, by rw [hJ 683 (by omega) (by omega)]; exact d1, d2, by rw [hJ 684 (by omega) (by omega)]; exact d3⟩
  by_cases e : i = n
  · subst e
    rw [hQ] at hr'
    rw [← Option.some.inj hr', h2n]
    exact hr
  · obtain ⟨i', hi', e1, e2⟩ := h2i i (by omega)
    obtain ⟨c', hc', e3⟩ := hSQ.2.2.1 i (by omega)
    rw [hr'] at e3
    obtain rfl := Option.some.inj e3
    have hne : c' ≠ c := fun q => e (hSQ.2.2.2.1 i n (by omega) hn (by rw [hr', hQ, q]))
    rw [e2]
    exact RM (hS.r (isRc_h hc')) (b3 i' hi' _ (by rw [← e1]; exact hr')) (fun b x y => ⟨hJ b (by omega) (by omega), hPQ b (by omega)⟩)
theorem nI_m {k : Nat} (h : 0 < k) : nI k - 1 = nI (k - 1) := by
  obtain ⟨j, rfl⟩ : ∃ j, k = j + 1 := ⟨k - 1, by omega⟩
  exact nI_pred j
theorem CRel.back {I J : fw_I} {P : fw_P} {s : Nat → Int32} {k : Nat} {h : Nat → Nat → Int32} {tk : Bool} {sp : Nat → Int32} {len : Nat} {tx : Nat → Int32} (hC : CRel I P s k h tk sp len tx) (hS : CSh P) (hk : 0 < k) (hJ : Rt I P 1 (h (k - 1)) J) {c : Nat} (hc5 : c < 5) (hc : P 257 (k - 1) = some (258 + 85 * c)) : CRel (up2 J 256 1 (nI (k - 1))) P (h (k - 1)) (k - 1) h tk sp len tx := by
  obtain ⟨a1, ⟨b1, b2, b3⟩, ⟨c1, c2⟩, d1, d2, d3⟩ := hC
  have hn : ∀ b, 86 ≤ b → b ≠ 256 → (up2 J 256 1 (nI (k - 1))) b = I b := fun b h1 h2 => by rw [up2_ne _ _ _ h2]; exact hJ.2.2 b (by omega)
  have h0 : (up2 J 256 1 (nI (k - 1))) 0 = I 0 := by rw [up2_ne _ _ _ (by decide)]; exact hJ.2.2 0 (by decide)
  refine ⟨RM (I := J) (hS.r isRc_1) ⟨hJ.1, hJ.2.1⟩ (fun b x y => ⟨up2_ne _ _ _ (by omega), rfl⟩), ⟨up2_same _ _ _ _, by omega, fun i hi r hr => ?_⟩, ⟨by rw [h0]; exact c1, fun t => RM (hS.r isRc_171) (c2 t) (fun b x y => ⟨hn b (by omega) (by omega), rfl⟩)⟩, by rw [hn 683 (by decide) (by decide)]; exact d1, d2, by rw [hn 684 (by decide) (by decide)]; exact d3⟩
  obtain ⟨c', hc', e3⟩ := hS.2.2.1 i (by omega)
  rw [hr] at e3
  obtain rfl := Option.some.inj e3
  exact RM (hS.r (isRc_h hc')) (b3 i (by omega) _ hr) (fun b x y => ⟨hn b (by omega) (by omega), rfl⟩)
set_option maxHeartbeats 4000000 in
set_option maxRecDepth 100000 in
theorem sp_stateAt (l : Launch) (g : fw_G) {I : fw_I} {P : fw_P} (hS : CSh P) (x : Int32) : Sp l g kX1_stateAt (T0 nT) [.ref (g.1 + 256), .int x] I P (T0 nT) 0 0 (qR g (btR P 257 5 x) I P) := by
  have a256 := (at_256 (nT := nT))
  have a257 := (at_257 (nT := nT))
  have h256 := hS.2.1
  refine Sp.of_V (L := [some (.ref (g.1 + 256)), some (.int x)]) (by decide) (by simp [Value.category]) (Nat.le_of_ble_eq_true rfl) rfl ?_
  refine V_iload_n (i := 1) rfl rfl dX1_stateAt_0 rfl ?_
  refine V_if_lt (tgt := 22) dX1_stateAt_1 (by decide) rfl (fun h_1 => ?_) (fun h_1 => ?_)
  · refine V_null dX1_stateAt_22 rfl ?_
    exact V_areturn (r := _) rfl dX1_stateAt_23 rfl rfl rfl (qR.of (by first | exact (btR_nI P hk5 (by decide)).symm | exact (if_neg (fun h => absurd h.1 (Int32.not_le.mpr h_1))).symm | exact (if_neg (fun h => absurd h.2 (Int32.not_lt.mpr h_10))).symm))
  · refine V_iload_n (i := 1) rfl rfl dX1_stateAt_4 rfl ?_
    refine V_aload_n (i := 0) rfl rfl dX1_stateAt_5 rfl ?_
    refine V_getr (kf := 0) C1 (by decide) l_X1_11 (by assumption) rfl (by assumption) dX1_stateAt_6 rfl ?_
    refine V_alen (kd := 11) (by decide) (by assumption) dX1_stateAt_9 rfl ?_
    refine V_icmp_ge (tgt := 22) dX1_stateAt_10 (by decide) rfl (fun h_10 => ?_) (fun h_10 => ?_)
    · refine V_null dX1_stateAt_22 rfl ?_
      exact V_areturn (r := _) rfl dX1_stateAt_23 rfl rfl rfl (qR.of (by first | exact (btR_nI P hk5 (by decide)).symm | exact (if_neg (fun h => absurd h.1 (Int32.not_le.mpr h_1))).symm | exact (if_neg (fun h => absurd h.2 (Int32.not_lt.mpr h_10))).symm))
    · obtain ⟨k, hk, rfl⟩ := nI_of h_1
      have hk5 := (nI_ltI hk (by decide)).mp (Int32.not_le.mp h_10)
      refine V_aload_n (i := 0) rfl rfl dX1_stateAt_13 rfl ?_
      refine V_getr (kf := 0) C1 (by decide) l_X1_11 (by assumption) rfl (by assumption) dX1_stateAt_14 rfl ?_
      refine V_iload_n (i := 1) rfl rfl dX1_stateAt_17 rfl ?_
      refine V_aald el11 (by assumption) (fw_ix_nI hk5 (by decide)) dX1_stateAt_18 rfl ?_
      refine V_goto (tgt := 23) dX1_stateAt_19 (by decide) ?_
      exact V_areturn (r := _) rfl dX1_stateAt_23 rfl rfl rfl (qR.of (by first | exact (btR_nI P hk5 (by decide)).symm | exact (if_neg (fun h => absurd h.1 (Int32.not_le.mpr h_1))).symm | exact (if_neg (fun h => absurd h.2 (Int32.not_lt.mpr h_10))).symm))

set_option maxHeartbeats 4000000 in
set_option maxRecDepth 100000 in
theorem lp_drop (l : Launch) (g : fw_G) {I : fw_I} {P : fw_P} (hS : CSh P) {b0 : Nat} (hb0 : P 257 0 = some b0) (hb0a : fw_at (T0 nT) b0 3 0) : ∀ (m j : Nat), j + m = 4 → V l g kX1_dropOldest (T0 nT) 0 0 (qV (fun I1 P1 => I1 = up2 I 256 1 (nI 4) ∧ P1 = wp P 257 (rot (P 257) 0 5))) (T0 nT) I (wp P 257 (rotm (P 257) 0 j)) 0 0 25 [some (.ref (g.1 + 256)), some (.ref (g.1 + b0)), some (.int (nI 4)), some (.int (nI j))] [] := by
  have a256 := (at_256 (nT := nT))
  have a257 := (at_257 (nT := nT))
  have h256 := hS.2.1
  intro m
  induction m with
  | zero =>
    intro j hj
    obtain rfl : j = 4 := by omega
    have hpb2 : wp P 257 (rotm (P 257) 0 4) 256 0 = some 257 := by rw [wp_ne _ _ (by decide)]; exact h256
    refine V_iload_n (i := 3) rfl rfl dX1_dropOldest_25 rfl ?_
    refine V_iload_n (i := 2) rfl rfl dX1_dropOldest_26 rfl ?_
    refine V_icmp_ge (tgt := 50) dX1_dropOldest_27 (by decide) rfl (fun _ => ?_) (fun h => absurd (by decide) h)
    refine V_aload_n (i := 0) rfl rfl dX1_dropOldest_50 rfl ?_
    refine V_getr (kf := 0) C1 (by decide) l_X1_11 (by assumption) rfl (by assumption) dX1_dropOldest_51 rfl ?_
    refine V_iload_n (i := 2) rfl rfl dX1_dropOldest_54 rfl ?_
    refine V_aload_n (i := 1) rfl rfl dX1_dropOldest_55 rfl ?_
    refine V_aast el11 (by assumption) hb0a (fw_ix_nI (j := 4) (by decide) (by decide)) dX1_dropOldest_56 rfl ?_
    refine V_aload_n (i := 0) rfl rfl dX1_dropOldest_57 rfl ?_
    refine V_iload_n (i := 2) rfl rfl dX1_dropOldest_58 rfl ?_
    refine V_puti (kf := 1) C1 (by decide) rfl l_X1_18 rfl rfl rfl rfl (by assumption) dX1_dropOldest_59 rfl ?_
    exact V_return rfl dX1_dropOldest_62 rfl rfl rfl (⟨rfl, rfl, by rw [up2_wp, ← rotm_end (P 257) (k := 0) (m := 4) (by decide), hb0]⟩)
  | succ m ih =>
    intro j hj
    have hpb2 : wp P 257 (rotm (P 257) 0 j) 256 0 = some 257 := by rw [wp_ne _ _ (by decide)]; exact h256
    obtain ⟨c, hc, hb1⟩ := hS.2.2.1 (j + 1) (by omega)
    have hb1a := at_race (nT := nT) (isRc_h hc)
    have hb12 : wp P 257 (rotm (P 257) 0 j) 257 (j + 1) = some (258 + 85 * c) := by rw [wp_at]; unfold rotm; rw [if_neg (by omega)]; exact hb1
    refine V_iload_n (i := 3) rfl rfl dX1_dropOldest_25 rfl ?_
    refine V_iload_n (i := 2) rfl rfl dX1_dropOldest_26 rfl ?_
    refine V_icmp_ge (tgt := 50) dX1_dropOldest_27 (by decide) rfl (fun h => absurd h (nI_ge (by omega) (by decide))) (fun _ => ?_)
    refine V_aload_n (i := 0) rfl rfl dX1_dropOldest_30 rfl ?_
    refine V_getr (kf := 0) C1 (by decide) l_X1_11 (by assumption) rfl (by assumption) dX1_dropOldest_31 rfl ?_
    refine V_iload_n (i := 3) rfl rfl dX1_dropOldest_34 rfl ?_
    refine V_aload_n (i := 0) rfl rfl dX1_dropOldest_35 rfl ?_
    refine V_getr (kf := 0) C1 (by decide) l_X1_11 (by assumption) rfl (by assumption) dX1_dropOldest_36 rfl ?_
    refine V_iload_n (i := 3) rfl rfl dX1_dropOldest_39 rfl ?_
    refine V_iconst (v := 1) (by decide) dX1_dropOldest_40 rfl ?_
    refine V_iadd dX1_dropOldest_41 rfl ?_
    rw [nI_1]
    refine V_aaldr el11 (by assumption) (fw_ix_nI (j := j + 1) (by omega) (by decide)) (by assumption) dX1_dropOldest_42 rfl ?_
    refine V_aast el11 (by assumption) hb1a (fw_ix_nI (j := j) (by omega) (by decide)) dX1_dropOldest_43 rfl ?_
    refine V_iinc1 (i := 3) rfl (by decide) rfl dX1_dropOldest_44 rfl ?_
    refine V_goto (tgt := 25) dX1_dropOldest_47 (by decide) ?_
    have h9 := ih (j + 1) (by omega)
    rw [← nI_1 j, ← rotm_succ _ (Nat.zero_le j), hb1] at h9
    refine V_memP (up2_wp _ _ _ _ _) ?_
    exact h9

set_option maxHeartbeats 4000000 in
set_option maxRecDepth 100000 in
theorem sp_dropOldest (l : Launch) (g : fw_G) {I : fw_I} {P : fw_P} (hS : CSh P) : Sp l g kX1_dropOldest (T0 nT) [.ref (g.1 + 256)] I P (T0 nT) 0 0 (qV (fun I1 P1 => I1 = up2 I 256 1 (nI 4) ∧ P1 = wp P 257 (rot (P 257) 0 5))) := by
  have a256 := (at_256 (nT := nT))
  have a257 := (at_257 (nT := nT))
  have h256 := hS.2.1
  obtain ⟨c0, hc0, hb0⟩ := hS.2.2.1 0 (by decide)
  refine Sp.of_V (L := [some (.ref (g.1 + 256)), none, none, none]) (by decide) (by simp [Value.category]) (Nat.le_of_ble_eq_true rfl) rfl ?_
  refine V_aload_n (i := 0) rfl rfl dX1_dropOldest_0 rfl ?_
  refine V_iconst (v := 0) (by decide) dX1_dropOldest_1 rfl ?_
  refine V_call (n := 1) (sp_stateAt l g hS (nI 0)) o_X1_stateAt m_X1_25 ⟨by decide, by decide⟩ (by assumption) rfl rfl (by first | exact Nat.le_of_ble_eq_true rfl | simp [Value.category]) (Nat.le_refl _) (Nat.le_refl _) rfl dX1_dropOldest_2 rfl (kR ?_)
  rw [btR_nI P (show 0 < 5 by decide) (by decide), hb0]
  refine V_astore_n (i := 1) rfl (by decide) rfl dX1_dropOldest_5 rfl ?_
  refine V_aload_n (i := 0) rfl rfl dX1_dropOldest_6 rfl ?_
  refine V_getr (kf := 0) C1 (by decide) l_X1_11 (by assumption) rfl (by assumption) dX1_dropOldest_7 rfl ?_
  refine V_alen (kd := 11) (by decide) (by assumption) dX1_dropOldest_10 rfl ?_
  refine V_iconst (v := 1) (by decide) dX1_dropOldest_11 rfl ?_
  refine V_isub dX1_dropOldest_12 rfl ?_
  rw [show nI 5 - 1 = nI 4 from rfl]
  refine V_istore_n (i := 2) rfl (by decide) rfl dX1_dropOldest_13 rfl ?_
  refine V_aload_n (i := 1) rfl rfl dX1_dropOldest_14 rfl ?_
  refine V_ifnull_s dX1_dropOldest_15 rfl ?_
  refine V_iload_n (i := 2) rfl rfl dX1_dropOldest_18 rfl ?_
  refine V_if_ge (tgt := 23) dX1_dropOldest_19 (by decide) rfl (fun _ => ?_) (fun h => absurd (by decide) h)
  refine V_iconst (v := 0) (by decide) dX1_dropOldest_23 rfl ?_
  refine V_istore_n (i := 3) rfl (by decide) rfl dX1_dropOldest_24 rfl ?_
  refine V_memP (P' := wp P 257 (rotm (P 257) 0 0)) (by rw [rotm_0, wp_self]) ?_
  exact lp_drop l g hS hb0 (at_race (nT := nT) (isRc_h hc0)) 4 0 rfl

set_option maxHeartbeats 4000000 in
set_option maxRecDepth 100000 in
theorem sp_remember_lt (l : Launch) (g : fw_G) {I : fw_I} {P : fw_P} {s : Nat → Int32} {k : Nat} {h : Nat → Nat → Int32} {tk : Bool} {sp : Nat → Int32} {len : Nat} {tx : Nat → Int32} (hS : CSh P) (hC : CRel I P s k h tk sp len tx) (hm : mOf s) (hk : k < 5) : Sp l g kX1_remember (T0 nT) [.ref (g.1 + 256), .ref (g.1 + 1)] I P (T0 nT) 0 0 (qV (fun I1 P1 => (CSh P1 ∧ CRel I1 P1 s (rK k) (rH k h s) tk sp len tx) ∧ Ff I P I1 P1)) := by
  have a256 := (at_256 (nT := nT))
  have a257 := (at_257 (nT := nT))
  have h256 := hS.2.1
  have a1 := at_race (nT := nT) isRc_1
  obtain ⟨c, hc5, hc⟩ := hS.2.2.1 k hk
  have a3 := at_race (nT := nT) (isRc_h hc5)
  refine Sp.of_V (L := [some (.ref (g.1 + 256)), some (.ref (g.1 + 1)), none]) (by decide) (by simp [Value.category]) (Nat.le_of_ble_eq_true rfl) rfl ?_
  refine V_aload_n (i := 0) rfl rfl dX1_remember_0 rfl ?_
  refine V_get (kf := 1) C1 (by decide) l_X1_18 (by assumption) rfl dX1_remember_1 rfl ?_
  rw [hC.2.1.1]
  refine V_aload_n (i := 0) rfl rfl dX1_remember_4 rfl ?_
  refine V_getr (kf := 0) C1 (by decide) l_X1_11 (by assumption) rfl (by assumption) dX1_remember_5 rfl ?_
  refine V_alen (kd := 11) (by decide) (by assumption) dX1_remember_8 rfl ?_
  refine V_icmp_lt (tgt := 16) dX1_remember_9 (by decide) rfl (fun _ => ?_) (fun h => absurd (nI_lt hk (by decide)) h)
  refine V_aload_n (i := 0) rfl rfl dX1_remember_16 rfl ?_
  refine V_aload_n (i := 0) rfl rfl dX1_remember_17 rfl ?_
  refine V_get (kf := 1) C1 (by decide) l_X1_18 (by assumption) rfl dX1_remember_18 rfl ?_
  rw [hC.2.1.1]
  refine V_call (n := 1) (sp_stateAt l g hS (nI k)) o_X1_stateAt m_X1_25 ⟨by decide, by decide⟩ (by assumption) rfl rfl (by first | exact Nat.le_of_ble_eq_true rfl | simp [Value.category]) (Nat.le_refl _) (Nat.le_refl _) rfl dX1_remember_21 rfl (kR ?_)
  rw [btR_nI P hk (by decide), hc]
  refine V_astore_n (i := 2) rfl (by decide) rfl dX1_remember_24 rfl ?_
  refine V_aload_n (i := 2) rfl rfl dX1_remember_25 rfl ?_
  refine V_ifnull_s dX1_remember_26 rfl ?_
  refine V_aload_n (i := 2) rfl rfl dX1_remember_29 rfl ?_
  refine V_aload_n (i := 1) rfl rfl dX1_remember_30 rfl ?_
  refine V_call (n := 1) (sp_copyFrom l g (isRc_h hc5) isRc_1 (by omega) (hS.r (isRc_h hc5)) (hS.r isRc_1) hC.1.1 hm hC.1.2) o_X3_copyFrom m_X1_29 ⟨by decide, by decide⟩ (by assumption) rfl rfl (by first | exact Nat.le_of_ble_eq_true rfl | simp [Value.category]) (Nat.le_refl _) (Nat.le_refl _) rfl dX1_remember_31 rfl (kQ ?_)
  intro J hJ
  refine V_aload_n (i := 0) rfl rfl dX1_remember_34 rfl ?_
  refine V_dup (by first | rfl | simp [Value.category]) dX1_remember_35 rfl ?_
  refine V_get (kf := 1) C1 (by decide) l_X1_18 (by assumption) rfl dX1_remember_36 rfl ?_
  rw [hJ.2.2 256 (by omega), hC.2.1.1]
  refine V_iconst (v := 1) (by decide) dX1_remember_39 rfl ?_
  refine V_iadd dX1_remember_40 rfl ?_
  rw [nI_1]
  refine V_puti (kf := 1) C1 (by decide) rfl l_X1_18 rfl rfl rfl rfl (by assumption) dX1_remember_41 rfl ?_
  refine V_return rfl dX1_remember_44 rfl rfl rfl (⟨rfl, ⟨hS, ?_⟩, fun b hb => ⟨by rw [up2_ne _ _ _ (by omega)]; exact hJ.2.2 b (by omega), rfl⟩⟩)
  rw [show rK k = k + 1 from if_neg (by omega)]
  exact CRel.rec hS hC (n := k) (c := c) hk hc5 hc hS (fun _ _ => rfl) (fun b h1 h2 => by rw [up2_ne _ _ _ h2]; exact hJ.2.2 b (by omega)) (up2_same _ _ _ _) (RM (hS.r (isRc_h hc5)) (I := J) ⟨hJ.1, hJ.2.1⟩ (fun b b1 b2 => ⟨up2_ne _ _ _ (by omega), rfl⟩)) _ (rH_n hk) (fun i hi => ⟨i, hi, rfl, rH_i hk hi⟩)

set_option maxHeartbeats 4000000 in
set_option maxRecDepth 100000 in
theorem sp_remember_5 (l : Launch) (g : fw_G) {I : fw_I} {P : fw_P} {s : Nat → Int32} {k : Nat} {h : Nat → Nat → Int32} {tk : Bool} {sp : Nat → Int32} {len : Nat} {tx : Nat → Int32} (hS : CSh P) (hC : CRel I P s k h tk sp len tx) (hm : mOf s) (hk : k = 5) : Sp l g kX1_remember (T0 nT) [.ref (g.1 + 256), .ref (g.1 + 1)] I P (T0 nT) 0 0 (qV (fun I1 P1 => (CSh P1 ∧ CRel I1 P1 s (rK k) (rH k h s) tk sp len tx) ∧ Ff I P I1 P1)) := by
  have a256 := (at_256 (nT := nT))
  have a257 := (at_257 (nT := nT))
  have h256 := hS.2.1
  subst hk
  have a1 := at_race (nT := nT) isRc_1
  refine Sp.of_V (L := [some (.ref (g.1 + 256)), some (.ref (g.1 + 1)), none]) (by decide) (by simp [Value.category]) (Nat.le_of_ble_eq_true rfl) rfl ?_
  refine V_aload_n (i := 0) rfl rfl dX1_remember_0 rfl ?_
  refine V_get (kf := 1) C1 (by decide) l_X1_18 (by assumption) rfl dX1_remember_1 rfl ?_
  rw [hC.2.1.1]
  refine V_aload_n (i := 0) rfl rfl dX1_remember_4 rfl ?_
  refine V_getr (kf := 0) C1 (by decide) l_X1_11 (by assumption) rfl (by assumption) dX1_remember_5 rfl ?_
  refine V_alen (kd := 11) (by decide) (by assumption) dX1_remember_8 rfl ?_
  refine V_icmp_lt (tgt := 16) dX1_remember_9 (by decide) rfl (fun h => absurd h (by decide)) (fun _ => ?_)
  refine V_aload_n (i := 0) rfl rfl dX1_remember_12 rfl ?_
  refine V_call (n := 0) (sp_dropOldest l g hS) o_X1_dropOldest m_X1_22 ⟨by decide, by decide⟩ (by assumption) rfl rfl (by first | exact Nat.le_of_ble_eq_true rfl | simp [Value.category]) (Nat.le_refl _) (Nat.le_refl _) rfl dX1_remember_13 rfl (kV ?_)
  rintro J0 P2 ⟨hJ0, hP2⟩
  have hS2 : CSh P2 := by rw [hP2]; exact wp257 hS
  have hP2n : ∀ b, b ≠ 257 → P2 b = P b := fun b hb => by rw [hP2, wp_ne _ _ hb]
  obtain ⟨c, hc5, hc⟩ := hS2.2.2.1 4 (by decide)
  have a3 := at_race (nT := nT) (isRc_h hc5)
  have hk4 : J0 256 1 = nI 4 := by rw [hJ0, up2_same]
  have hJ0n : ∀ b, b ≠ 256 → J0 b = I b := fun b hb => by rw [hJ0, up2_ne _ _ _ hb]
  have hr1 := RM (J := J0) (Q := P2) (hS.r isRc_1) hC.1 (fun b b1 b2 => ⟨hJ0n b (by omega), hP2n b (by omega)⟩)
  have h2562 : P2 256 0 = some 257 := hS2.2.1
  refine V_aload_n (i := 0) rfl rfl dX1_remember_16 rfl ?_
  refine V_aload_n (i := 0) rfl rfl dX1_remember_17 rfl ?_
  refine V_get (kf := 1) C1 (by decide) l_X1_18 (by assumption) rfl dX1_remember_18 rfl ?_
  rw [hk4]
  refine V_call (n := 1) (sp_stateAt l g hS2 (nI 4)) o_X1_stateAt m_X1_25 ⟨by decide, by decide⟩ (by assumption) rfl rfl (by first | exact Nat.le_of_ble_eq_true rfl | simp [Value.category]) (Nat.le_refl _) (Nat.le_refl _) rfl dX1_remember_21 rfl (kR ?_)
  rw [btR_nI P2 (show 4 < 5 by decide) (by decide), hc]
  refine V_astore_n (i := 2) rfl (by decide) rfl dX1_remember_24 rfl ?_
  refine V_aload_n (i := 2) rfl rfl dX1_remember_25 rfl ?_
  refine V_ifnull_s dX1_remember_26 rfl ?_
  refine V_aload_n (i := 2) rfl rfl dX1_remember_29 rfl ?_
  refine V_aload_n (i := 1) rfl rfl dX1_remember_30 rfl ?_
  refine V_call (n := 1) (sp_copyFrom l g (isRc_h hc5) isRc_1 (by omega) (hS2.r (isRc_h hc5)) (hS2.r isRc_1) hr1.1 hm hr1.2) o_X3_copyFrom m_X1_29 ⟨by decide, by decide⟩ (by assumption) rfl rfl (by first | exact Nat.le_of_ble_eq_true rfl | simp [Value.category]) (Nat.le_refl _) (Nat.le_refl _) rfl dX1_remember_31 rfl (kQ ?_)
  intro J hJ
  refine V_aload_n (i := 0) rfl rfl dX1_remember_34 rfl ?_
  refine V_dup (by first | rfl | simp [Value.category]) dX1_remember_35 rfl ?_
  refine V_get (kf := 1) C1 (by decide) l_X1_18 (by assumption) rfl dX1_remember_36 rfl ?_
  rw [hJ.2.2 256 (by omega), hk4]
  refine V_iconst (v := 1) (by decide) dX1_remember_39 rfl ?_
  refine V_iadd dX1_remember_40 rfl ?_
  rw [nI_1]
  refine V_puti (kf := 1) C1 (by decide) rfl l_X1_18 rfl rfl rfl rfl (by assumption) dX1_remember_41 rfl ?_
  refine V_return rfl dX1_remember_44 rfl rfl rfl (⟨rfl, ⟨hS2, ?_⟩, fun b hb => ⟨by rw [up2_ne _ _ _ (by omega), hJ.2.2 b (by omega)]; exact hJ0n b (by omega), hP2n b (by omega)⟩⟩)
  rw [show rK 5 = 4 + 1 from rfl]
  exact CRel.rec hS hC (n := 4) (c := c) (by decide) hc5 hc hS2 hP2n (fun b h1 h2 => by rw [up2_ne _ _ _ h2]; exact (hJ.2.2 b (by omega)).trans (hJ0n b h2)) (up2_same _ _ _ _) (RM (hS2.r (isRc_h hc5)) (I := J) ⟨hJ.1, hJ.2.1⟩ (fun b b1 b2 => ⟨up2_ne _ _ _ (by omega), rfl⟩)) _ rfl (fun i hi => ⟨i + 1, by omega, by rw [hP2, wp_at]; unfold rot; rw [if_pos (by omega)], by unfold rH; rw [show rK 5 = 5 from rfl, if_neg (by omega), if_pos rfl]⟩)

theorem sp_remember (l : Launch) (g : fw_G) {I : fw_I} {P : fw_P} {s : Nat → Int32} {k : Nat} {h : Nat → Nat → Int32} {tk : Bool} {sp : Nat → Int32} {len : Nat} {tx : Nat → Int32} (hS : CSh P) (hC : CRel I P s k h tk sp len tx) (hm : mOf s) : Sp l g kX1_remember (T0 nT) [.ref (g.1 + 256), .ref (g.1 + 1)] I P (T0 nT) 0 0 (qV (fun I1 P1 => (CSh P1 ∧ CRel I1 P1 s (rK k) (rH k h s) tk sp len tx) ∧ Ff I P I1 P1)) := by
  by_cases hk : k = 5
  · exact sp_remember_5 l g hS hC hm hk
  · exact sp_remember_lt l g hS hC hm (by have := hC.2.1.2.1; omega)

set_option maxHeartbeats 4000000 in
set_option maxRecDepth 100000 in
theorem sp_bringBack (l : Launch) (g : fw_G) {I : fw_I} {P : fw_P} {s : Nat → Int32} {k : Nat} {h : Nat → Nat → Int32} {tk : Bool} {sp : Nat → Int32} {len : Nat} {tx : Nat → Int32} (hS : CSh P) (hC : CRel I P s k h tk sp len tx) (hk : 0 < k) (hm : mOf (h (k - 1))) : Sp l g kX1_bringBack (T0 nT) [.ref (g.1 + 256), .ref (g.1 + 1)] I P (T0 nT) 0 0 (qJ (fun r I1 P1 => (r = nI (k - 1) ∧ CRel I1 P1 (h (k - 1)) (k - 1) h tk sp len tx ∧ ∀ b, 688 ≤ b → I1 b = I b) ∧ P1 = P)) := by
  have a256 := (at_256 (nT := nT))
  have a257 := (at_257 (nT := nT))
  have h256 := hS.2.1
  have a1 := at_race (nT := nT) isRc_1
  have hk5 : k - 1 < 5 := by have := hC.2.1.2.1; omega
  obtain ⟨c, hc5, hc⟩ := hS.2.2.1 (k - 1) hk5
  have a3 := at_race (nT := nT) (isRc_h hc5)
  have hr1 := hC.2.1.2.2 (k - 1) (by omega) _ hc
  refine Sp.of_V (L := [some (.ref (g.1 + 256)), some (.ref (g.1 + 1)), none]) (by decide) (by simp [Value.category]) (Nat.le_of_ble_eq_true rfl) rfl ?_
  refine V_aload_n (i := 0) rfl rfl dX1_bringBack_0 rfl ?_
  refine V_aload_n (i := 0) rfl rfl dX1_bringBack_1 rfl ?_
  refine V_get (kf := 1) C1 (by decide) l_X1_18 (by assumption) rfl dX1_bringBack_2 rfl ?_
  rw [hC.2.1.1]
  refine V_iconst (v := 1) (by decide) dX1_bringBack_5 rfl ?_
  refine V_isub dX1_bringBack_6 rfl ?_
  rw [nI_m hk]
  refine V_call (n := 1) (sp_stateAt l g hS (nI (k - 1))) o_X1_stateAt m_X1_25 ⟨by decide, by decide⟩ (by assumption) rfl rfl (by first | exact Nat.le_of_ble_eq_true rfl | simp [Value.category]) (Nat.le_refl _) (Nat.le_refl _) rfl dX1_bringBack_7 rfl (kR ?_)
  rw [btR_nI P hk5 (by decide), hc]
  refine V_astore_n (i := 2) rfl (by decide) rfl dX1_bringBack_10 rfl ?_
  refine V_aload_n (i := 2) rfl rfl dX1_bringBack_11 rfl ?_
  refine V_ifnonnull_s (tgt := 18) dX1_bringBack_12 (by decide) ?_
  refine V_aload_n (i := 1) rfl rfl dX1_bringBack_18 rfl ?_
  refine V_aload_n (i := 2) rfl rfl dX1_bringBack_19 rfl ?_
  refine V_call (n := 1) (sp_copyFrom l g isRc_1 (isRc_h hc5) (by omega) (hS.r isRc_1) (hS.r (isRc_h hc5)) hr1.1 hm hr1.2) o_X3_copyFrom m_X1_29 ⟨by decide, by decide⟩ (by assumption) rfl rfl (by first | exact Nat.le_of_ble_eq_true rfl | simp [Value.category]) (Nat.le_refl _) (Nat.le_refl _) rfl dX1_bringBack_20 rfl (kQ ?_)
  intro J hJ
  refine V_aload_n (i := 0) rfl rfl dX1_bringBack_23 rfl ?_
  refine V_dup (by first | rfl | simp [Value.category]) dX1_bringBack_24 rfl ?_
  refine V_get (kf := 1) C1 (by decide) l_X1_18 (by assumption) rfl dX1_bringBack_25 rfl ?_
  rw [hJ.2.2 256 (by omega), hC.2.1.1]
  refine V_iconst (v := 1) (by decide) dX1_bringBack_28 rfl ?_
  refine V_isub dX1_bringBack_29 rfl ?_
  rw [nI_m hk]
  refine V_puti (kf := 1) C1 (by decide) rfl l_X1_18 rfl rfl rfl rfl (by assumption) dX1_bringBack_30 rfl ?_
  refine V_aload_n (i := 0) rfl rfl dX1_bringBack_33 rfl ?_
  refine V_get (kf := 1) C1 (by decide) l_X1_18 (by assumption) rfl dX1_bringBack_34 rfl ?_
  rw [up2_same]
  exact V_ireturn rfl rfl dX1_bringBack_37 rfl rfl rfl (⟨_, rfl, ⟨rfl, hC.back hS hk hJ hc5 hc, fun b hb => by rw [up2_ne _ _ _ (by omega)]; exact hJ.2.2 b (by omega)⟩, rfl⟩)

set_option maxHeartbeats 4000000 in
set_option maxRecDepth 100000 in
theorem sp_bringBack_0 (l : Launch) (g : fw_G) {I : fw_I} {P : fw_P} (hS : CSh P) (hk : I 256 1 = 0) : Sp l g kX1_bringBack (T0 nT) [.ref (g.1 + 256), .ref (g.1 + 1)] I P (T0 nT) 0 0 (qI (-5) I P) := by
  have a256 := (at_256 (nT := nT))
  have a257 := (at_257 (nT := nT))
  have h256 := hS.2.1
  refine Sp.of_V (L := [some (.ref (g.1 + 256)), some (.ref (g.1 + 1)), none]) (by decide) (by simp [Value.category]) (Nat.le_of_ble_eq_true rfl) rfl ?_
  refine V_aload_n (i := 0) rfl rfl dX1_bringBack_0 rfl ?_
  refine V_aload_n (i := 0) rfl rfl dX1_bringBack_1 rfl ?_
  refine V_get (kf := 1) C1 (by decide) l_X1_18 (by assumption) rfl dX1_bringBack_2 rfl ?_
  rw [hk]
  refine V_iconst (v := 1) (by decide) dX1_bringBack_5 rfl ?_
  refine V_isub dX1_bringBack_6 rfl ?_
  rw [show (0 : Int32) - 1 = -1 from rfl]
  refine V_call (n := 1) (sp_stateAt l g hS (-1)) o_X1_stateAt m_X1_25 ⟨by decide, by decide⟩ (by assumption) rfl rfl (by first | exact Nat.le_of_ble_eq_true rfl | simp [Value.category]) (Nat.le_refl _) (Nat.le_refl _) rfl dX1_bringBack_7 rfl (kR ?_)
  rw [show btR P 257 5 (-1) = none from if_neg (fun z => absurd z.1 (by decide))]
  refine V_astore_nr (i := 2) rfl (by decide) rfl dX1_bringBack_10 rfl ?_
  refine V_aload_nr (i := 2) rfl rfl dX1_bringBack_11 rfl ?_
  refine V_ifnonnull_n dX1_bringBack_12 rfl ?_
  refine V_bipush (v := (-5)) (by decide) dX1_bringBack_15 rfl ?_
  exact V_ireturn rfl rfl dX1_bringBack_17 rfl rfl rfl (qI.of rfl)
