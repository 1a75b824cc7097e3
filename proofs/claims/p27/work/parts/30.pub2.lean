variable {nT : Nat}
theorem CSh.set {P P' : fw_P} (hS : CSh P) (h1 : RSh P' 1) (e : ∀ b, (b < 1 ∨ 86 ≤ b) → P' b = P b) : CSh P' := by
  obtain ⟨h, h2, h3, h4, a, b, c, d, f, g, i, j, k⟩ := hS
  refine ⟨fun ra hr => ?_, by rw [e _ (by omega)]; exact h2, fun i hi => by rw [e _ (by omega)]; exact h3 i hi, fun i j hi hj q => by rw [e _ (by omega)] at q; exact h4 i j hi hj q, by rw [e _ (by omega)]; exact a, by rw [e _ (by omega)]; exact b, by rw [e _ (by omega)]; exact c, by rw [e _ (by omega)]; exact d, by rw [e _ (by omega)]; exact f, by rw [e _ (by omega)]; exact g, by rw [e _ (by omega)]; exact i, by rw [e _ (by omega)]; exact j, by rw [e _ (by omega)]; exact k⟩
  by_cases q : ra = 1
  · rw [q]; exact h1
  · exact (h ra hr).frame (fun b b1 b2 => e b (by have := hr.apart isRc_1 q; have := hr.lt; omega))
section CREL
variable {I J : fw_I} {P P' : fw_P} {s t : Nat → Int32} {k : Nat} {h : Nat → Nat → Int32} {tk : Bool} {sp : Nat → Int32} {len : Nat} {tx : Nat → Int32}
/-- the race's own cells have changed -/
theorem CRel.set (hS : CSh P) (hC : CRel I P s k h tk sp len tx) (hr : RRel J P' 1 t ∧ Mv J 1 t) (e : ∀ b, (b < 1 ∨ 86 ≤ b) → J b = I b ∧ P' b = P b) : CRel J P' t k h tk sp len tx := by
  obtain ⟨a1, ⟨b1, b2, b3⟩, ⟨c1, c2⟩, d1, d2, d3⟩ := hC
  refine ⟨hr, ⟨by rw [(e 256 (by omega)).1]; exact b1, b2, fun i hi r hr' => ?_⟩, ⟨by rw [(e 0 (by omega)).1]; exact c1, fun t => RM (hS.r isRc_171) (c2 t) (fun b x y => e b (by omega))⟩, by rw [(e 683 (by omega)).1]; exact d1, d2, by rw [(e 684 (by omega)).1]; exact d3⟩
  rw [(e 257 (by omega)).2] at hr'
  obtain ⟨c', hc', e3⟩ := hS.2.2.1 i (by omega)
  rw [hr'] at e3
  obtain rfl := Option.some.inj e3
  exact RM (hS.r (isRc_h hc')) (b3 i hi _ hr') (fun b x y => e b (by omega))
theorem CRel.rt (hS : CSh P) (hC : CRel I P s k h tk sp len tx) (hr : Rt I P 1 t J) : CRel J P t k h tk sp len tx := hC.set hS ⟨hr.1, hr.2.1⟩ (fun b hb => ⟨hr.2.2 b (by omega), rfl⟩)
/-- a mutator's end -/
def CM (I : fw_I) (P : fw_P) (s : Nat → Int32) (k : Nat) (h : Nat → Nat → Int32) (tk : Bool) (sp : Nat → Int32) (len : Nat) (tx : Nat → Int32) (ok : Prop) (F : Nat → Int32) (I1 : fw_I) (P1 : fw_P) : Prop := CSh P1 ∧ ((ok ∧ CRel I1 P1 F (rK k) (rH k h s) tk sp len tx) ∨ (¬ ok ∧ CRel I1 P1 s k h tk sp len tx)) ∧ Ff I P I1 P1
theorem CM.no (hS : CSh P) (hC : CRel I P s k h tk sp len tx) {ok : Prop} (hn : ¬ ok) {F : Nat → Int32} : CM I P s k h tk sp len tx ok F I P := ⟨hS, Or.inr ⟨hn, hC⟩, fun _ _ => ⟨rfl, rfl⟩⟩
theorem CM.yes {PJ : fw_P} {I1 : fw_I} {P1 : fw_P} (hS : CSh PJ) (hC : CRel J PJ s (rK k) (rH k h s) tk sp len tx) (hF : Ff I P J PJ) {ok : Prop} (ho : ok) {F : Nat → Int32} (h1 : RSh P1 1) (hr : RRel I1 P1 1 F ∧ Mv I1 1 F) (e : ∀ b, (b < 1 ∨ 86 ≤ b) → I1 b = J b ∧ P1 b = PJ b) : CM I P s k h tk sp len tx ok F I1 P1 :=
  ⟨hS.set h1 (fun b hb => (e b hb).2), Or.inl ⟨ho, hC.set hS hr e⟩, fun b hb => ⟨(e b (by omega)).1.trans (hF b hb).1, (e b (by omega)).2.trans (hF b hb).2⟩⟩
theorem RRel.van {ra : Nat} (hS : RSh P ra) (h : RRel I P ra s) {i : Nat} (hi : i < 10) : RRel (b4 I (ra + 75 + i) 0 0 0 0) P ra (upd (upd s (352 + 4 * i + 2) 0) (352 + 4 * i + 0) 0) := by
  refine h.rest hS (fun b hb => b4_ne _ _ _ _ _ (hb i hi)) (fun j hj => by rw [upd_ne _ (by omega), upd_ne _ (by omega)]) (fun i' hi' => ?_)
  obtain ⟨a0, a2, a13⟩ := h.2.2.1 i' hi'
  unfold sn
  by_cases e : i' = i
  · subst e
    obtain ⟨c0, c1, c2, c3⟩ := b4_at I (ra + 75 + i') 0 0 0 0
    rw [c0, c2]
    simp (disch := omega) only [upd_eq, upd_ne]
    exact ⟨trivial, trivial, fun z => absurd trivial z⟩
  · rw [b4_ne _ _ _ _ _ (by omega)]
    simp (disch := omega) only [upd_ne]
    exact ⟨a0, a2, a13⟩
end CREL
theorem Mv.of {I J : fw_I} {ra : Nat} {s t : Nat → Int32} (h : Mv I ra s) (e : J ra 5 = I ra 5) (e4 : t 4 = s 4) (e1 : t 1 = s 1) : Mv J ra t := by unfold Mv; rw [e, e4, e1]; exact h
theorem aFr_le (s : Nat → Int32) : ∀ n j, aFrF s n j ≤ j + n
  | 0, j => Nat.le_refl _
  | n + 1, j => by
    unfold aFrF
    by_cases h : 0 < sn s j 0
    · rw [if_pos h]; have := aFr_le s n (j + 1); omega
    · rw [if_neg h]; omega
theorem frX_some {s : Nat → Int32} {b ra : Nat} (h : plR ra (frX s) = some b) : ¬ aCntF s 10 = 10 ∧ aFrF s 10 0 < 10 ∧ b = ra + 75 + aFrF s 10 0 := by
  by_cases q : aCntF s 10 = 10
  · unfold frX at h
    rw [if_pos q] at h
    cases h
  · unfold frX at h
    rw [if_neg q] at h
    obtain ⟨k, hk, e, e2⟩ := plR_some h
    have := nI_inj (by have := aFr_le s 10 0; omega) (by omega) e
    exact ⟨q, by omega, by rw [this]; exact e2⟩
theorem frX_none {s : Nat → Int32} {ra : Nat} (h : plR ra (frX s) = none) : aCntF s 10 = 10 := by
  refine Decidable.not_not.mp (fun q => ?_)
  obtain ⟨c, h1, h2, h3⟩ := aCnt_le s 10
  have : ∃ i, i < 10 ∧ ¬ 0 < sn s i 0 := by
    refine Decidable.byContradiction (fun z => q ?_)
    exact aCnt_all 10 (fun i hi => Decidable.not_not.mp (fun w => z ⟨i, hi, w⟩))
  obtain ⟨i, hi, hn⟩ := this
  have hfr : ∃ k, k < 10 ∧ aFrF s 10 0 = k := by
    have : ∀ n j, j ≤ i → i < j + n → aFrF s n j ≤ i := fun n => by
      induction n with
      | zero => intro j a b; omega
      | succ n ih =>
        intro j a b
        unfold aFrF
        by_cases e : j = i
        · rw [e, if_neg hn]; omega
        · by_cases w : 0 < sn s j 0
          · rw [if_pos w]; exact ih (j + 1) (by omega) (by omega)
          · rw [if_neg w]; exact a
    exact ⟨_, Nat.lt_of_le_of_lt (this 10 0 (Nat.zero_le _) (by omega)) hi, rfl⟩
  obtain ⟨k, hk, e⟩ := hfr
  unfold frX at h
  rw [if_neg q, e, plR_nI ra hk] at h
  cases h
theorem why_ok {s : Nat → Int32} {x y z c : Int32} : aWhy s x y z c = 0 ↔ aSelOk s x y z c := by
  unfold aWhy
  rcases aSeE_cases s x y z c with ⟨h, h2⟩ | ⟨h, h2⟩
  · rw [if_pos h]
    exact ⟨fun e => absurd h (by rw [e]; decide), fun e => e.1⟩
  · rw [h, if_neg (by decide)]
    exact ⟨fun e => ⟨h, e⟩, fun e => e.2⟩
theorem why_sel {s : Nat → Int32} {x y z c : Int32} (hn : ¬ aWhy s x y z c = 0) : (if aWhy s x y z c < 0 then aWhy s x y z c else -10 - aWhy s x y z c) = aSelR s x y z c := by
  unfold aWhy at hn ⊢
  unfold aSelR
  by_cases h : aSeE s x y z c < 0
  · rw [if_pos h, if_pos h, if_pos h]
  · rw [if_neg h] at hn ⊢
    rw [if_neg h]
    rcases aRea_cases s x.toNatClampNeg y.toNatClampNeg z.toNatClampNeg c with e | e
    · exact absurd e hn
    · rw [if_neg (Int32.not_lt.mpr (Int32.le_of_lt e)), if_pos e]
theorem aChaF_y {s : Nat → Int32} {i : Nat} {t : Int32} (h : t = 10) : upd (upd s (352 + 4 * i + 2) 0) (352 + 4 * i + 0) 0 = aChaF s i t := by
  show _ = upd (upd s (352 + 4 * i + 2) (if t = 10 then 0 else s (352 + 4 * i + 2) + t)) (352 + 4 * i + 0) (if t = 10 then 0 else upd s (352 + 4 * i + 2) (if t = 10 then 0 else s (352 + 4 * i + 2) + t) (352 + 4 * i + 0))
  rw [if_pos h, if_pos h]
theorem aChaF_n {s : Nat → Int32} {i : Nat} {t : Int32} (h : ¬ t = 10) (j : Nat) (_ : j < 392) : aChaF s i t j = upd s (352 + 4 * i + 2) (sn s i 2 + t) j := by
  unfold aChaF
  rw [if_neg h, if_neg h]
  show upd (upd s (352 + 4 * i + 2) (sn s i 2 + t)) (352 + 4 * i + 0) (upd s (352 + 4 * i + 2) (sn s i 2 + t) (352 + 4 * i + 0)) j = _
  by_cases e : j = 352 + 4 * i + 0
  · rw [upd_eq _ e, e]
  · rw [upd_ne _ e]
theorem set_R {I : fw_I} {P : fw_P} {s : Nat → Int32} (hS : RSh P 1) (hR : RRel I P 1 s) (hv : Mv I 1 s) {i : Nat} (hi : i ≤ 2) (v : Int32) : RRel (up2 I 1 (stC (nI i)) v) P 1 (aSetF s (nI i) v) ∧ Mv (up2 I 1 (stC (nI i)) v) 1 (aSetF s (nI i) v) := by
  rcases (show i = 0 ∨ i = 1 ∨ i = 2 by omega) with rfl | rfl | rfl
  · exact ⟨hR.urc hS (j := 5) (by decide) (by decide) v, hv.of (by rw [up2_at, if_neg (fun z => absurd z.2 (by decide))]) (upd_ne (i := 5) v (by decide)) (upd_ne (i := 5) v (by decide))⟩
  · exact ⟨hR.urc hS (j := 6) (by decide) (by decide) v, hv.of (by rw [up2_at, if_neg (fun z => absurd z.2 (by decide))]) (upd_ne (i := 6) v (by decide)) (upd_ne (i := 6) v (by decide))⟩
  · exact ⟨hR.urc hS (j := 7) (by decide) (by decide) v, hv.of (by rw [up2_at, if_neg (fun z => absurd z.2 (by decide))]) (upd_ne (i := 7) v (by decide)) (upd_ne (i := 7) v (by decide))⟩
set_option maxHeartbeats 4000000 in
set_option maxRecDepth 100000 in
theorem sp_isSnakeForm (l : Launch) (g : fw_G) {I : fw_I} {P : fw_P} (a b : Int32) : Sp l g kX7_isSnakeForm (T0 nT) [.int a, .int b] I P (T0 nT) 0 0 (qI (bI (aFm a b)) I P) := by
  refine Sp.of_V (L := [some (.int a), some (.int b)]) (by decide) (by simp [Value.category]) (Nat.le_of_ble_eq_true rfl) rfl ?_
  refine V_iload_n (i := 0) rfl rfl dX7_isSnakeForm_0 rfl ?_
  refine V_bipush (v := 7) (by decide) dX7_isSnakeForm_1 rfl ?_
  refine V_icmp_lt (tgt := 43) dX7_isSnakeForm_3 (by decide) rfl (fun h_3 => ?_) (fun h_3 => ?_)
  · refine V_iconst (v := 0) (by decide) dX7_isSnakeForm_43 rfl ?_
    exact V_ireturn rfl (by decide) dX7_isSnakeForm_44 rfl rfl rfl (qI.of (by first | exact (bI_t ⟨⟨Int32.not_lt.mp h_3, Int32.not_lt.mp h_9⟩, ⟨Int32.not_lt.mp h_14, Int32.not_lt.mp h_20⟩, ⟨Int32.not_lt.mp h_28, Int32.not_lt.mp h_36⟩⟩).symm | exact (bI_f (fun z => absurd z.1.1 (Int32.not_le.mpr h_3))).symm | exact (bI_f (fun z => absurd z.1.2 (Int32.not_le.mpr h_9))).symm | exact (bI_f (fun z => absurd z.2.1.1 (Int32.not_le.mpr h_14))).symm | exact (bI_f (fun z => absurd z.2.1.2 (Int32.not_le.mpr h_20))).symm | exact (bI_f (fun z => absurd z.2.2.1 (Int32.not_le.mpr h_28))).symm | exact (bI_f (fun z => absurd z.2.2.2 (Int32.not_le.mpr h_36))).symm))
  · refine V_iload_n (i := 0) rfl rfl dX7_isSnakeForm_6 rfl ?_
    refine V_bipush (v := 59) (by decide) dX7_isSnakeForm_7 rfl ?_
    refine V_icmp_gt (tgt := 43) dX7_isSnakeForm_9 (by decide) rfl (fun h_9 => ?_) (fun h_9 => ?_)
    · refine V_iconst (v := 0) (by decide) dX7_isSnakeForm_43 rfl ?_
      exact V_ireturn rfl (by decide) dX7_isSnakeForm_44 rfl rfl rfl (qI.of (by first | exact (bI_t ⟨⟨Int32.not_lt.mp h_3, Int32.not_lt.mp h_9⟩, ⟨Int32.not_lt.mp h_14, Int32.not_lt.mp h_20⟩, ⟨Int32.not_lt.mp h_28, Int32.not_lt.mp h_36⟩⟩).symm | exact (bI_f (fun z => absurd z.1.1 (Int32.not_le.mpr h_3))).symm | exact (bI_f (fun z => absurd z.1.2 (Int32.not_le.mpr h_9))).symm | exact (bI_f (fun z => absurd z.2.1.1 (Int32.not_le.mpr h_14))).symm | exact (bI_f (fun z => absurd z.2.1.2 (Int32.not_le.mpr h_20))).symm | exact (bI_f (fun z => absurd z.2.2.1 (Int32.not_le.mpr h_28))).symm | exact (bI_f (fun z => absurd z.2.2.2 (Int32.not_le.mpr h_36))).symm))
    · refine V_iload_n (i := 1) rfl rfl dX7_isSnakeForm_12 rfl ?_
      refine V_iconst (v := 1) (by decide) dX7_isSnakeForm_13 rfl ?_
      refine V_icmp_lt (tgt := 43) dX7_isSnakeForm_14 (by decide) rfl (fun h_14 => ?_) (fun h_14 => ?_)
      · refine V_iconst (v := 0) (by decide) dX7_isSnakeForm_43 rfl ?_
        exact V_ireturn rfl (by decide) dX7_isSnakeForm_44 rfl rfl rfl (qI.of (by first | exact (bI_t ⟨⟨Int32.not_lt.mp h_3, Int32.not_lt.mp h_9⟩, ⟨Int32.not_lt.mp h_14, Int32.not_lt.mp h_20⟩, ⟨Int32.not_lt.mp h_28, Int32.not_lt.mp h_36⟩⟩).symm | exact (bI_f (fun z => absurd z.1.1 (Int32.not_le.mpr h_3))).symm | exact (bI_f (fun z => absurd z.1.2 (Int32.not_le.mpr h_9))).symm | exact (bI_f (fun z => absurd z.2.1.1 (Int32.not_le.mpr h_14))).symm | exact (bI_f (fun z => absurd z.2.1.2 (Int32.not_le.mpr h_20))).symm | exact (bI_f (fun z => absurd z.2.2.1 (Int32.not_le.mpr h_28))).symm | exact (bI_f (fun z => absurd z.2.2.2 (Int32.not_le.mpr h_36))).symm))
      · refine V_iload_n (i := 1) rfl rfl dX7_isSnakeForm_17 rfl ?_
        refine V_bipush (v := 53) (by decide) dX7_isSnakeForm_18 rfl ?_
        refine V_icmp_gt (tgt := 43) dX7_isSnakeForm_20 (by decide) rfl (fun h_20 => ?_) (fun h_20 => ?_)
        · refine V_iconst (v := 0) (by decide) dX7_isSnakeForm_43 rfl ?_
          exact V_ireturn rfl (by decide) dX7_isSnakeForm_44 rfl rfl rfl (qI.of (by first | exact (bI_t ⟨⟨Int32.not_lt.mp h_3, Int32.not_lt.mp h_9⟩, ⟨Int32.not_lt.mp h_14, Int32.not_lt.mp h_20⟩, ⟨Int32.not_lt.mp h_28, Int32.not_lt.mp h_36⟩⟩).symm | exact (bI_f (fun z => absurd z.1.1 (Int32.not_le.mpr h_3))).symm | exact (bI_f (fun z => absurd z.1.2 (Int32.not_le.mpr h_9))).symm | exact (bI_f (fun z => absurd z.2.1.1 (Int32.not_le.mpr h_14))).symm | exact (bI_f (fun z => absurd z.2.1.2 (Int32.not_le.mpr h_20))).symm | exact (bI_f (fun z => absurd z.2.2.1 (Int32.not_le.mpr h_28))).symm | exact (bI_f (fun z => absurd z.2.2.2 (Int32.not_le.mpr h_36))).symm))
        · refine V_iload_n (i := 0) rfl rfl dX7_isSnakeForm_23 rfl ?_
          refine V_iload_n (i := 1) rfl rfl dX7_isSnakeForm_24 rfl ?_
          refine V_isub dX7_isSnakeForm_25 rfl ?_
          refine V_bipush (v := 6) (by decide) dX7_isSnakeForm_26 rfl ?_
          refine V_icmp_lt (tgt := 43) dX7_isSnakeForm_28 (by decide) rfl (fun h_28 => ?_) (fun h_28 => ?_)
          · refine V_iconst (v := 0) (by decide) dX7_isSnakeForm_43 rfl ?_
            exact V_ireturn rfl (by decide) dX7_isSnakeForm_44 rfl rfl rfl (qI.of (by first | exact (bI_t ⟨⟨Int32.not_lt.mp h_3, Int32.not_lt.mp h_9⟩, ⟨Int32.not_lt.mp h_14, Int32.not_lt.mp h_20⟩, ⟨Int32.not_lt.mp h_28, Int32.not_lt.mp h_36⟩⟩).symm | exact (bI_f (fun z => absurd z.1.1 (Int32.not_le.mpr h_3))).symm | exact (bI_f (fun z => absurd z.1.2 (Int32.not_le.mpr h_9))).symm | exact (bI_f (fun z => absurd z.2.1.1 (Int32.not_le.mpr h_14))).symm | exact (bI_f (fun z => absurd z.2.1.2 (Int32.not_le.mpr h_20))).symm | exact (bI_f (fun z => absurd z.2.2.1 (Int32.not_le.mpr h_28))).symm | exact (bI_f (fun z => absurd z.2.2.2 (Int32.not_le.mpr h_36))).symm))
          · refine V_iload_n (i := 0) rfl rfl dX7_isSnakeForm_31 rfl ?_
            refine V_iload_n (i := 1) rfl rfl dX7_isSnakeForm_32 rfl ?_
            refine V_isub dX7_isSnakeForm_33 rfl ?_
            refine V_bipush (v := 40) (by decide) dX7_isSnakeForm_34 rfl ?_
            refine V_icmp_gt (tgt := 43) dX7_isSnakeForm_36 (by decide) rfl (fun h_36 => ?_) (fun h_36 => ?_)
            · refine V_iconst (v := 0) (by decide) dX7_isSnakeForm_43 rfl ?_
              exact V_ireturn rfl (by decide) dX7_isSnakeForm_44 rfl rfl rfl (qI.of (by first | exact (bI_t ⟨⟨Int32.not_lt.mp h_3, Int32.not_lt.mp h_9⟩, ⟨Int32.not_lt.mp h_14, Int32.not_lt.mp h_20⟩, ⟨Int32.not_lt.mp h_28, Int32.not_lt.mp h_36⟩⟩).symm | exact (bI_f (fun z => absurd z.1.1 (Int32.not_le.mpr h_3))).symm | exact (bI_f (fun z => absurd z.1.2 (Int32.not_le.mpr h_9))).symm | exact (bI_f (fun z => absurd z.2.1.1 (Int32.not_le.mpr h_14))).symm | exact (bI_f (fun z => absurd z.2.1.2 (Int32.not_le.mpr h_20))).symm | exact (bI_f (fun z => absurd z.2.2.1 (Int32.not_le.mpr h_28))).symm | exact (bI_f (fun z => absurd z.2.2.2 (Int32.not_le.mpr h_36))).symm))
            · refine V_iconst (v := 1) (by decide) dX7_isSnakeForm_39 rfl ?_
              refine V_goto (tgt := 44) dX7_isSnakeForm_40 (by decide) ?_
              exact V_ireturn rfl (by decide) dX7_isSnakeForm_44 rfl rfl rfl (qI.of (by first | exact (bI_t ⟨⟨Int32.not_lt.mp h_3, Int32.not_lt.mp h_9⟩, ⟨Int32.not_lt.mp h_14, Int32.not_lt.mp h_20⟩, ⟨Int32.not_lt.mp h_28, Int32.not_lt.mp h_36⟩⟩).symm | exact (bI_f (fun z => absurd z.1.1 (Int32.not_le.mpr h_3))).symm | exact (bI_f (fun z => absurd z.1.2 (Int32.not_le.mpr h_9))).symm | exact (bI_f (fun z => absurd z.2.1.1 (Int32.not_le.mpr h_14))).symm | exact (bI_f (fun z => absurd z.2.1.2 (Int32.not_le.mpr h_20))).symm | exact (bI_f (fun z => absurd z.2.2.1 (Int32.not_le.mpr h_28))).symm | exact (bI_f (fun z => absurd z.2.2.2 (Int32.not_le.mpr h_36))).symm))

set_option maxHeartbeats 4000000 in
set_option maxRecDepth 100000 in
theorem sp_isDraw (l : Launch) (g : fw_G) {I : fw_I} {P : fw_P} (x : Int32) : Sp l g kX7_isDraw (T0 nT) [.int x] I P (T0 nT) 0 0 (qI (bI (0 ≤ x ∧ x ≤ 65535)) I P) := by
  refine Sp.of_V (L := [some (.int x)]) (by decide) (by simp [Value.category]) (Nat.le_of_ble_eq_true rfl) rfl ?_
  refine V_iload_n (i := 0) rfl rfl dX7_isDraw_0 rfl ?_
  refine V_if_lt (tgt := 14) dX7_isDraw_1 (by decide) rfl (fun h_1 => ?_) (fun h_1 => ?_)
  · refine V_iconst (v := 0) (by decide) dX7_isDraw_14 rfl ?_
    exact V_ireturn rfl (by decide) dX7_isDraw_15 rfl rfl rfl (qI.of (by first | exact (bI_t ⟨Int32.not_lt.mp h_1, Int32.not_lt.mp h_7⟩).symm | exact (bI_f (fun z => absurd z.1 (Int32.not_le.mpr h_1))).symm | exact (bI_f (fun z => absurd z.2 (Int32.not_le.mpr h_7))).symm))
  · refine V_iload_n (i := 0) rfl rfl dX7_isDraw_4 rfl ?_
    refine V_ldc cst_X7_250 dX7_isDraw_5 rfl ?_
    refine V_icmp_gt (tgt := 14) dX7_isDraw_7 (by decide) rfl (fun h_7 => ?_) (fun h_7 => ?_)
    · refine V_iconst (v := 0) (by decide) dX7_isDraw_14 rfl ?_
      exact V_ireturn rfl (by decide) dX7_isDraw_15 rfl rfl rfl (qI.of (by first | exact (bI_t ⟨Int32.not_lt.mp h_1, Int32.not_lt.mp h_7⟩).symm | exact (bI_f (fun z => absurd z.1 (Int32.not_le.mpr h_1))).symm | exact (bI_f (fun z => absurd z.2 (Int32.not_le.mpr h_7))).symm))
    · refine V_iconst (v := 1) (by decide) dX7_isDraw_10 rfl ?_
      refine V_goto (tgt := 15) dX7_isDraw_11 (by decide) ?_
      exact V_ireturn rfl (by decide) dX7_isDraw_15 rfl rfl rfl (qI.of (by first | exact (bI_t ⟨Int32.not_lt.mp h_1, Int32.not_lt.mp h_7⟩).symm | exact (bI_f (fun z => absurd z.1 (Int32.not_le.mpr h_1))).symm | exact (bI_f (fun z => absurd z.2 (Int32.not_le.mpr h_7))).symm))

set_option maxHeartbeats 4000000 in
set_option maxRecDepth 100000 in
theorem sp_drawAfter (l : Launch) (g : fw_G) {I : fw_I} {P : fw_P} (x : Int32) : Sp l g kX7_drawAfter (T0 nT) [.int x] I P (T0 nT) 0 0 (qI (aDraw x) I P) := by
  refine Sp.of_V (L := [some (.int x)]) (by decide) (by simp [Value.category]) (Nat.le_of_ble_eq_true rfl) rfl ?_
  refine V_sipush (v := 25173) (by decide) dX7_drawAfter_0 rfl ?_
  refine V_iload_n (i := 0) rfl rfl dX7_drawAfter_3 rfl ?_
  refine V_imul dX7_drawAfter_4 rfl ?_
  refine V_sipush (v := 13849) (by decide) dX7_drawAfter_5 rfl ?_
  refine V_iadd dX7_drawAfter_8 rfl ?_
  refine V_ldc cst_X7_251 dX7_drawAfter_9 rfl ?_
  refine V_irem (by decide) dX7_drawAfter_11 rfl ?_
  exact V_ireturn rfl rfl dX7_drawAfter_12 rfl rfl rfl (qI.of rfl)

set_option maxHeartbeats 4000000 in
set_option maxRecDepth 100000 in
theorem sp_throwOf (l : Launch) (g : fw_G) {I : fw_I} {P : fw_P} (x : Int32) : Sp l g kX7_throwOf (T0 nT) [.int x] I P (T0 nT) 0 0 (qI (aDice x) I P) := by
  refine Sp.of_V (L := [some (.int x)]) (by decide) (by simp [Value.category]) (Nat.le_of_ble_eq_true rfl) rfl ?_
  refine V_iconst (v := 1) (by decide) dX7_throwOf_0 rfl ?_
  refine V_iload_n (i := 0) rfl rfl dX7_throwOf_1 rfl ?_
  refine V_sipush (v := 10923) (by decide) dX7_throwOf_2 rfl ?_
  refine V_idiv (by decide) dX7_throwOf_5 rfl ?_
  refine V_iadd dX7_throwOf_6 rfl ?_
  exact V_ireturn rfl rfl dX7_throwOf_7 rfl rfl rfl (qI.of rfl)

set_option maxHeartbeats 4000000 in
set_option maxRecDepth 100000 in
theorem sp_leastValue (l : Launch) (g : fw_G) {I : fw_I} {P : fw_P} (x : Int32) : Sp l g kX7_leastValue (T0 nT) [.int x] I P (T0 nT) 0 0 (qI (if x = 2 then 1 else 0) I P) := by
  refine Sp.of_V (L := [some (.int x)]) (by decide) (by simp [Value.category]) (Nat.le_of_ble_eq_true rfl) rfl ?_
  refine V_iload_n (i := 0) rfl rfl dX7_leastValue_0 rfl ?_
  refine V_iconst (v := 2) (by decide) dX7_leastValue_1 rfl ?_
  refine V_icmp_ne (tgt := 9) dX7_leastValue_2 (by decide) rfl (fun h_2 => ?_) (fun h_2 => ?_)
  · refine V_iconst (v := 0) (by decide) dX7_leastValue_9 rfl ?_
    exact V_ireturn rfl rfl dX7_leastValue_10 rfl rfl rfl (qI.of (by first | exact (if_neg h_2).symm | exact (if_pos h_2).symm))
  · refine V_iconst (v := 1) (by decide) dX7_leastValue_5 rfl ?_
    refine V_goto (tgt := 10) dX7_leastValue_6 (by decide) ?_
    exact V_ireturn rfl rfl dX7_leastValue_10 rfl rfl rfl (qI.of (by first | exact (if_neg h_2).symm | exact (if_pos h_2).symm))

set_option maxHeartbeats 4000000 in
set_option maxRecDepth 100000 in
theorem sp_highestValue (l : Launch) (g : fw_G) {I : fw_I} {P : fw_P} (x : Int32) : Sp l g kX7_highestValue (T0 nT) [.int x] I P (T0 nT) 0 0 (qI (if x = 0 then 9 else if x = 1 then 50 else 3) I P) := by
  refine Sp.of_V (L := [some (.int x)]) (by decide) (by simp [Value.category]) (Nat.le_of_ble_eq_true rfl) rfl ?_
  refine V_iload_n (i := 0) rfl rfl dX7_highestValue_0 rfl ?_
  by_cases h_1_0 : x = 0
  · refine V_lookup (off := 27) (tgt := 28) dX7_highestValue_1 (by decide) (by rw [h_1_0]; rfl) (by decide) ?_
    refine V_bipush (v := 9) (by decide) dX7_highestValue_28 rfl ?_
    exact V_ireturn rfl rfl dX7_highestValue_30 rfl rfl rfl (qI.of (by first | exact (if_pos h_1_0).symm | exact ((if_neg h_1_0).trans (if_pos h_1_1)).symm | exact ((if_neg h_1_0).trans (if_neg h_1_1)).symm))
  · by_cases h_1_1 : x = 1
    · refine V_lookup (off := 30) (tgt := 31) dX7_highestValue_1 (by decide) (by rw [h_1_1]; rfl) (by decide) ?_
      refine V_bipush (v := 50) (by decide) dX7_highestValue_31 rfl ?_
      exact V_ireturn rfl rfl dX7_highestValue_33 rfl rfl rfl (qI.of (by first | exact (if_pos h_1_0).symm | exact ((if_neg h_1_0).trans (if_pos h_1_1)).symm | exact ((if_neg h_1_0).trans (if_neg h_1_1)).symm))
    · refine V_lookup (off := 33) (tgt := 34) dX7_highestValue_1 (by decide) (lk2 h_1_0 h_1_1) (by decide) ?_
      refine V_iconst (v := 3) (by decide) dX7_highestValue_34 rfl ?_
      exact V_ireturn rfl rfl dX7_highestValue_35 rfl rfl rfl (qI.of (by first | exact (if_pos h_1_0).symm | exact ((if_neg h_1_0).trans (if_pos h_1_1)).symm | exact ((if_neg h_1_0).trans (if_neg h_1_1)).symm))

set_option maxHeartbeats 4000000 in
set_option maxRecDepth 100000 in
theorem sm_snake (l : Launch) (g : fw_G) {I : fw_I} {P : fw_P} {s : Nat → Int32} {k : Nat} {h : Nat → Nat → Int32} {tk : Bool} {sp : Nat → Int32} {len : Nat} {tx : Nat → Int32} (hS : CSh P) (hC : CRel I P s k h tk sp len tx) {B : Nat} (hI : Inv B s) (a b : Int32) : Sp l g kX7_snake (T0 nT) [.ref (g.1 + 0), .int a, .int b] I P (T0 nT) 0 0 (qJ (fun r I1 P1 => r = aSnkR s a b ∧ CM I P s k h tk sp len tx (aSnkOk s a b) (aSnkF s a b) I1 P1)) := by
  have a0 := (at_0 (nT := nT))
  have a1 := at_race (nT := nT) isRc_1
  have a256 := (at_256 (nT := nT))
  have a683 := (at_683 (nT := nT))
  have r1 := isRc_1
  have hS1 := hS.r isRc_1
  have hR := hC.1.1
  have hv := hC.1.2
  have q0 : P 0 0 = some 1 := hS.2.2.2.2.1
  have q1 : P 0 1 = some 86 := hS.2.2.2.2.2.1
  have q2 : P 0 2 = some 171 := hS.2.2.2.2.2.2.1
  have q3 : P 0 3 = some 256 := hS.2.2.2.2.2.2.2.1
  have q4 : P 0 4 = some 683 := hS.2.2.2.2.2.2.2.2.1
  have q5 : P 0 5 = some 685 := hS.2.2.2.2.2.2.2.2.2.1
  refine Sp.of_V (L := [some (.ref (g.1 + 0)), some (.int a), some (.int b), none, none]) (by decide) (by simp [Value.category]) (Nat.le_of_ble_eq_true rfl) rfl ?_
  refine V_iload_n (i := 1) rfl rfl dX7_snake_0 rfl ?_
  refine V_iload_n (i := 2) rfl rfl dX7_snake_1 rfl ?_
  refine V_callS (n := 2) (sp_isSnakeForm l g a b) o_X7_isSnakeForm m_X7_47 ⟨by decide, by decide⟩ rfl rfl (by first | exact Nat.le_of_ble_eq_true rfl | simp [Value.category]) (Nat.le_refl _) (Nat.le_refl _) rfl dX7_snake_2 rfl (kI ?_)
  refine V_if_ne (tgt := 11) dX7_snake_5 (by decide) rfl (fun h_5 => ?_) (fun h_5 => ?_)
  · refine V_aload_n (i := 0) rfl rfl dX7_snake_11 rfl ?_
    refine V_getr (kf := 0) C7 (by decide) l_X7_12 (by assumption) rfl (by assumption) dX7_snake_12 rfl ?_
    refine V_iload_n (i := 1) rfl rfl dX7_snake_15 rfl ?_
    refine V_call (n := 1) (sp_headOn l g r1 hS1 hR hI.iHd a) o_X3_numberOfHeadOn m_X7_51 ⟨by decide, by decide⟩ (by assumption) rfl rfl (by first | exact Nat.le_of_ble_eq_true rfl | simp [Value.category]) (Nat.le_refl _) (Nat.le_refl _) rfl dX7_snake_16 rfl (kI ?_)
    refine V_bipush (v := (-5)) (by decide) dX7_snake_19 rfl ?_
    refine V_icmp_eq (tgt := 27) dX7_snake_21 (by decide) rfl (fun h_21 => ?_) (fun h_21 => ?_)
    · refine V_aload_n (i := 0) rfl rfl dX7_snake_27 rfl ?_
      refine V_getr (kf := 0) C7 (by decide) l_X7_12 (by assumption) rfl (by assumption) dX7_snake_28 rfl ?_
      refine V_call (n := 0) (sp_freeNumber l g r1 hS1 hR) o_X3_freeNumber m_X7_55 ⟨by decide, by decide⟩ (by assumption) rfl rfl (by first | exact Nat.le_of_ble_eq_true rfl | simp [Value.category]) (Nat.le_refl _) (Nat.le_refl _) rfl dX7_snake_31 rfl (kI ?_)
      refine V_istore_n (i := 3) rfl (by decide) rfl dX7_snake_34 rfl ?_
      refine V_aload_n (i := 0) rfl rfl dX7_snake_35 rfl ?_
      refine V_getr (kf := 0) C7 (by decide) l_X7_12 (by assumption) rfl (by assumption) dX7_snake_36 rfl ?_
      refine V_iload_n (i := 3) rfl rfl dX7_snake_39 rfl ?_
      refine V_call (n := 1) (sp_placeOfSnake l g r1 hS1 (frX s)) o_X3_placeOfSnake m_X7_59 ⟨by decide, by decide⟩ (by assumption) rfl rfl (by first | exact Nat.le_of_ble_eq_true rfl | simp [Value.category]) (Nat.le_refl _) (Nat.le_refl _) rfl dX7_snake_40 rfl (kR ?_)
      refine V_astore_r (i := 4) (by decide) rfl dX7_snake_43 rfl ?_
      refine V_aload_r (i := 4) rfl dX7_snake_45 rfl ?_
      refine V_ifnonnull (tgt := 53) dX7_snake_47 (by decide) rfl (fun b_47 h_47 => ?_) (fun h_47 => ?_)
      · obtain ⟨hcn, hfr, rfl⟩ := frX_some h_47
        have hak := at_snake (nT := nT) r1 hfr
        rw [h_47]
        refine V_aload_n (i := 0) rfl rfl dX7_snake_53 rfl ?_
        refine V_getr (kf := 3) C7 (by decide) l_X7_25 (by assumption) rfl (by assumption) dX7_snake_54 rfl ?_
        refine V_aload_n (i := 0) rfl rfl dX7_snake_57 rfl ?_
        refine V_getr (kf := 0) C7 (by decide) l_X7_12 (by assumption) rfl (by assumption) dX7_snake_58 rfl ?_
        refine V_call (n := 1) (sp_remember l g hS hC hI.mOf) o_X1_remember m_X7_63 ⟨by decide, by decide⟩ (by assumption) rfl rfl (by first | exact Nat.le_of_ble_eq_true rfl | simp [Value.category]) (Nat.le_refl _) (Nat.le_refl _) rfl dX7_snake_61 rfl (kV ?_)
        rintro J PJ ⟨⟨hS2, hC2⟩, hF⟩
        have hS3 := hS2.r isRc_1
        have hR2 := hC2.1.1
        have hv2 := hC2.1.2
        have w0 : PJ 0 0 = some 1 := hS2.2.2.2.2.1
        have w1 : PJ 0 1 = some 86 := hS2.2.2.2.2.2.1
        have w2 : PJ 0 2 = some 171 := hS2.2.2.2.2.2.2.1
        have w3 : PJ 0 3 = some 256 := hS2.2.2.2.2.2.2.2.1
        have w4 : PJ 0 4 = some 683 := hS2.2.2.2.2.2.2.2.2.1
        have w5 : PJ 0 5 = some 685 := hS2.2.2.2.2.2.2.2.2.2.1
        refine V_aload_r (i := 4) rfl dX7_snake_64 rfl ?_
        refine V_iload_n (i := 1) rfl rfl dX7_snake_66 rfl ?_
        refine V_iload_n (i := 2) rfl rfl dX7_snake_67 rfl ?_
        refine V_call (n := 2) (sp_Snake_appear l g hak a b) o_X6_appear m_X7_67 ⟨by decide, by decide⟩ (by assumption) rfl rfl (by first | exact Nat.le_of_ble_eq_true rfl | simp [Value.category]) (Nat.le_refl _) (Nat.le_refl _) rfl dX7_snake_68 rfl (kW ?_)
        refine V_iload_n (i := 3) rfl rfl dX7_snake_71 rfl ?_
        exact V_ireturn rfl rfl dX7_snake_72 rfl rfl rfl (⟨_, rfl, (by unfold aSnkR; rw [if_neg (fun z => z (bI_nz h_5)), if_neg (fun z => z h_21), if_neg hcn]; exact if_neg hcn), CM.yes hS2 hC2 hF ⟨bI_nz h_5, h_21, hcn⟩ hS3 ⟨hR2.usn4 hS3 hfr a b 0 0, hv2.of (by rw [b4_ne _ _ _ _ _ (by omega)]) (by unfold aSnkF; simp (disch := omega) only [upd_ne]) (by unfold aSnkF; simp (disch := omega) only [upd_ne])⟩ (fun x hx => ⟨b4_ne _ _ _ _ _ (by omega), rfl⟩)⟩)
      · refine V_bipush (v := (-3)) (by decide) dX7_snake_50 rfl ?_
        exact V_ireturn rfl rfl dX7_snake_52 rfl rfl rfl (⟨_, rfl, (by unfold aSnkR; rw [if_neg (fun z => z (bI_nz h_5)), if_neg (fun z => z h_21), if_pos (frX_none h_47)]), CM.no hS hC (fun z => z.2.2 (frX_none h_47))⟩)
    · refine V_bipush (v := (-4)) (by decide) dX7_snake_24 rfl ?_
      exact V_ireturn rfl rfl dX7_snake_26 rfl rfl rfl (⟨_, rfl, (by unfold aSnkR; rw [if_neg (fun z => z (bI_nz h_5)), if_pos h_21]), CM.no hS hC (fun z => h_21 z.2.1)⟩)
  · refine V_bipush (v := (-2)) (by decide) dX7_snake_8 rfl ?_
    exact V_ireturn rfl rfl dX7_snake_10 rfl rfl rfl (⟨_, rfl, ((if_pos (bI_z h_5)).symm), CM.no hS hC (fun z => bI_z h_5 z.1)⟩)

set_option maxHeartbeats 4000000 in
set_option maxRecDepth 100000 in
theorem sm_charm (l : Launch) (g : fw_G) {I : fw_I} {P : fw_P} {s : Nat → Int32} {k : Nat} {h : Nat → Nat → Int32} {tk : Bool} {sp : Nat → Int32} {len : Nat} {tx : Nat → Int32} (hS : CSh P) (hC : CRel I P s k h tk sp len tx) {B : Nat} (hI : Inv B s) (x t : Int32) : Sp l g kX7_charm (T0 nT) [.ref (g.1 + 0), .int x, .int t] I P (T0 nT) 0 0 (qJ (fun r I1 P1 => r = aChaR s x t ∧ CM I P s k h tk sp len tx (aChaOk s x t) (aChaF s x.toNatClampNeg t) I1 P1)) := by
  have a0 := (at_0 (nT := nT))
  have a1 := at_race (nT := nT) isRc_1
  have a256 := (at_256 (nT := nT))
  have a683 := (at_683 (nT := nT))
  have r1 := isRc_1
  have hS1 := hS.r isRc_1
  have hR := hC.1.1
  have hv := hC.1.2
  have q0 : P 0 0 = some 1 := hS.2.2.2.2.1
  have q1 : P 0 1 = some 86 := hS.2.2.2.2.2.1
  have q2 : P 0 2 = some 171 := hS.2.2.2.2.2.2.1
  have q3 : P 0 3 = some 256 := hS.2.2.2.2.2.2.2.1
  have q4 : P 0 4 = some 683 := hS.2.2.2.2.2.2.2.2.1
  have q5 : P 0 5 = some 685 := hS.2.2.2.2.2.2.2.2.2.1
  refine Sp.of_V (L := [some (.ref (g.1 + 0)), some (.int x), some (.int t), none, none]) (by decide) (by simp [Value.category]) (Nat.le_of_ble_eq_true rfl) rfl ?_
  refine V_aload_n (i := 0) rfl rfl dX7_charm_0 rfl ?_
  refine V_getr (kf := 0) C7 (by decide) l_X7_12 (by assumption) rfl (by assumption) dX7_charm_1 rfl ?_
  refine V_iload_n (i := 1) rfl rfl dX7_charm_4 rfl ?_
  refine V_call (n := 1) (sp_snakeNumbered l g r1 hS1 hR x) o_X3_snakeNumbered m_X7_73 ⟨by decide, by decide⟩ (by assumption) rfl rfl (by first | exact Nat.le_of_ble_eq_true rfl | simp [Value.category]) (Nat.le_refl _) (Nat.le_refl _) rfl dX7_charm_5 rfl (kR ?_)
  refine V_astore_nr (i := 3) rfl (by decide) rfl dX7_charm_8 rfl ?_
  refine V_aload_nr (i := 3) rfl rfl dX7_charm_9 rfl ?_
  refine V_ifnonnull (tgt := 15) dX7_charm_10 (by decide) rfl (fun b_10 h_10 => ?_) (fun h_10 => ?_)
  · obtain ⟨i, hi, rfl, hps, rfl⟩ := snR_x h_10
    have hck : (nI i).toNatClampNeg = i := nI_clamp (by omega)
    have hak := at_snake (nT := nT) r1 hi
    have hsk : aSk s (nI i) := ⟨le9 hi, by rw [hck]; exact hps⟩
    rw [h_10]
    refine V_iload_n (i := 2) rfl rfl dX7_charm_15 rfl ?_
    refine V_iconst (v := 1) (by decide) dX7_charm_16 rfl ?_
    refine V_icmp_lt (tgt := 26) dX7_charm_17 (by decide) rfl (fun h_17 => ?_) (fun h_17 => ?_)
    · refine V_bipush (v := (-2)) (by decide) dX7_charm_26 rfl ?_
      exact V_ireturn rfl rfl dX7_charm_28 rfl rfl rfl (⟨_, rfl, (by unfold aChaR; rw [if_neg (fun z => z hsk)]; first | exact (if_pos (fun z => absurd z.1 (Int32.not_le.mpr h_17))).symm | exact (if_pos (fun z => absurd z.2 (Int32.not_le.mpr h_23))).symm | exact (if_pos (fun z => h_23 z.2)).symm), CM.no hS hC (by first | exact fun z => absurd z.2.1 (Int32.not_le.mpr h_17) | exact fun z => absurd z.2.2 (Int32.not_le.mpr h_23) | exact fun z => h_23 z.2.2)⟩)
    · refine V_iload_n (i := 2) rfl rfl dX7_charm_20 rfl ?_
      refine V_bipush (v := 10) (by decide) dX7_charm_21 rfl ?_
      refine V_icmp_le (tgt := 29) dX7_charm_23 (by decide) rfl (fun h_23 => ?_) (fun h_23 => ?_)
      · refine V_aload_n (i := 0) rfl rfl dX7_charm_29 rfl ?_
        refine V_getr (kf := 3) C7 (by decide) l_X7_25 (by assumption) rfl (by assumption) dX7_charm_30 rfl ?_
        refine V_aload_n (i := 0) rfl rfl dX7_charm_33 rfl ?_
        refine V_getr (kf := 0) C7 (by decide) l_X7_12 (by assumption) rfl (by assumption) dX7_charm_34 rfl ?_
        refine V_call (n := 1) (sp_remember l g hS hC hI.mOf) o_X1_remember m_X7_63 ⟨by decide, by decide⟩ (by assumption) rfl rfl (by first | exact Nat.le_of_ble_eq_true rfl | simp [Value.category]) (Nat.le_refl _) (Nat.le_refl _) rfl dX7_charm_37 rfl (kV ?_)
        rintro J PJ ⟨⟨hS2, hC2⟩, hF⟩
        have hS3 := hS2.r isRc_1
        have hR2 := hC2.1.1
        have hv2 := hC2.1.2
        have w0 : PJ 0 0 = some 1 := hS2.2.2.2.2.1
        have w1 : PJ 0 1 = some 86 := hS2.2.2.2.2.2.1
        have w2 : PJ 0 2 = some 171 := hS2.2.2.2.2.2.2.1
        have w3 : PJ 0 3 = some 256 := hS2.2.2.2.2.2.2.2.1
        have w4 : PJ 0 4 = some 683 := hS2.2.2.2.2.2.2.2.2.1
        have w5 : PJ 0 5 = some 685 := hS2.2.2.2.2.2.2.2.2.2.1
        refine V_aload_n (i := 3) rfl rfl dX7_charm_40 rfl ?_
        refine V_get (kf := 2) C6 (by decide) l_X7_76 (by assumption) rfl dX7_charm_41 rfl ?_
        rw [hR2.s2 hi]
        refine V_istore (i := 4) (by decide) rfl dX7_charm_44 rfl ?_
        refine V_iload_n (i := 2) rfl rfl dX7_charm_46 rfl ?_
        refine V_bipush (v := 10) (by decide) dX7_charm_47 rfl ?_
        refine V_icmp_ne (tgt := 59) dX7_charm_49 (by decide) rfl (fun h_49 => ?_) (fun h_49 => ?_)
        · refine V_aload_n (i := 3) rfl rfl dX7_charm_59 rfl ?_
          refine V_dup (by first | rfl | simp [Value.category]) dX7_charm_60 rfl ?_
          refine V_get (kf := 2) C6 (by decide) l_X7_76 (by assumption) rfl dX7_charm_61 rfl ?_
          rw [hR2.s2 hi]
          refine V_iload_n (i := 2) rfl rfl dX7_charm_64 rfl ?_
          refine V_iadd dX7_charm_65 rfl ?_
          refine V_puti (kf := 2) C6 (by decide) rfl l_X7_76 rfl rfl rfl rfl (by assumption) dX7_charm_66 rfl ?_
          refine V_iload (i := 4) rfl dX7_charm_69 rfl ?_
          exact V_ireturn rfl rfl dX7_charm_71 rfl rfl rfl (⟨_, rfl, (by unfold aChaR; rw [if_neg (fun z => z hsk), if_neg (fun z => z ⟨Int32.not_lt.mp h_17, h_23⟩), hck]), by rw [hck]; first | exact CM.yes hS2 hC2 hF ⟨hsk, Int32.not_lt.mp h_17, h_23⟩ hS3 ⟨aChaF_y h_49 ▸ hR2.van hS3 hi, hv2.of (by rw [b4_ne _ _ _ _ _ (by omega)]) (by unfold aChaF; simp (disch := omega) only [upd_ne]) (by unfold aChaF; simp (disch := omega) only [upd_ne])⟩ (fun x hx => ⟨b4_ne _ _ _ _ _ (by omega), rfl⟩) | exact CM.yes hS2 hC2 hF ⟨hsk, Int32.not_lt.mp h_17, h_23⟩ hS3 ⟨(hR2.usn hS3 hi (w := 2) (by decide) _ (fun z => absurd z (by decide))).congr hS3 (aChaF_n h_49), hv2.of (by rw [up2_ne _ _ _ (by omega)]) (by unfold aChaF; simp (disch := omega) only [upd_ne]) (by unfold aChaF; simp (disch := omega) only [upd_ne])⟩ (fun x hx => ⟨up2_ne _ _ _ (by omega), rfl⟩)⟩)
        · refine V_aload_n (i := 3) rfl rfl dX7_charm_52 rfl ?_
          refine V_call (n := 0) (sp_Snake_vanish l g hak) o_X6_vanish m_X7_80 ⟨by decide, by decide⟩ (by assumption) rfl rfl (by first | exact Nat.le_of_ble_eq_true rfl | simp [Value.category]) (Nat.le_refl _) (Nat.le_refl _) rfl dX7_charm_53 rfl (kW ?_)
          refine V_goto (tgt := 69) dX7_charm_56 (by decide) ?_
          refine V_iload (i := 4) rfl dX7_charm_69 rfl ?_
          exact V_ireturn rfl rfl dX7_charm_71 rfl rfl rfl (⟨_, rfl, (by unfold aChaR; rw [if_neg (fun z => z hsk), if_neg (fun z => z ⟨Int32.not_lt.mp h_17, h_23⟩), hck]), by rw [hck]; first | exact CM.yes hS2 hC2 hF ⟨hsk, Int32.not_lt.mp h_17, h_23⟩ hS3 ⟨aChaF_y h_49 ▸ hR2.van hS3 hi, hv2.of (by rw [b4_ne _ _ _ _ _ (by omega)]) (by unfold aChaF; simp (disch := omega) only [upd_ne]) (by unfold aChaF; simp (disch := omega) only [upd_ne])⟩ (fun x hx => ⟨b4_ne _ _ _ _ _ (by omega), rfl⟩) | exact CM.yes hS2 hC2 hF ⟨hsk, Int32.not_lt.mp h_17, h_23⟩ hS3 ⟨(hR2.usn hS3 hi (w := 2) (by decide) _ (fun z => absurd z (by decide))).congr hS3 (aChaF_n h_49), hv2.of (by rw [up2_ne _ _ _ (by omega)]) (by unfold aChaF; simp (disch := omega) only [upd_ne]) (by unfold aChaF; simp (disch := omega) only [upd_ne])⟩ (fun x hx => ⟨up2_ne _ _ _ (by omega), rfl⟩)⟩)
      · refine V_bipush (v := (-2)) (by decide) dX7_charm_26 rfl ?_
        exact V_ireturn rfl rfl dX7_charm_28 rfl rfl rfl (⟨_, rfl, (by unfold aChaR; rw [if_neg (fun z => z hsk)]; first | exact (if_pos (fun z => absurd z.1 (Int32.not_le.mpr h_17))).symm | exact (if_pos (fun z => absurd z.2 (Int32.not_le.mpr h_23))).symm | exact (if_pos (fun z => h_23 z.2)).symm), CM.no hS hC (by first | exact fun z => absurd z.2.1 (Int32.not_le.mpr h_17) | exact fun z => absurd z.2.2 (Int32.not_le.mpr h_23) | exact fun z => h_23 z.2.2)⟩)
  · refine V_iconst (v := (-1)) (by decide) dX7_charm_13 rfl ?_
    exact V_ireturn rfl rfl dX7_charm_14 rfl rfl rfl (⟨_, rfl, ((if_pos (snR_xn h_10)).symm), CM.no hS hC (fun z => snR_xn h_10 z.1)⟩)

set_option maxHeartbeats 4000000 in
set_option maxRecDepth 100000 in
theorem sm_turn (l : Launch) (g : fw_G) {I : fw_I} {P : fw_P} {s : Nat → Int32} {k : Nat} {h : Nat → Nat → Int32} {tk : Bool} {sp : Nat → Int32} {len : Nat} {tx : Nat → Int32} (hS : CSh P) (hC : CRel I P s k h tk sp len tx) {B : Nat} (hI : Inv B s) (d : Int32) : Sp l g kX7_turn (T0 nT) [.ref (g.1 + 0), .int d] I P (T0 nT) 0 0 (qJ (fun r I1 P1 => r = aTuR s d ∧ CM I P s k h tk sp len tx (aTuOk s d) (aT s d) I1 P1)) := by
  have a0 := (at_0 (nT := nT))
  have a1 := at_race (nT := nT) isRc_1
  have a256 := (at_256 (nT := nT))
  have a683 := (at_683 (nT := nT))
  have r1 := isRc_1
  have hS1 := hS.r isRc_1
  have hR := hC.1.1
  have hv := hC.1.2
  have q0 : P 0 0 = some 1 := hS.2.2.2.2.1
  have q1 : P 0 1 = some 86 := hS.2.2.2.2.2.1
  have q2 : P 0 2 = some 171 := hS.2.2.2.2.2.2.1
  have q3 : P 0 3 = some 256 := hS.2.2.2.2.2.2.2.1
  have q4 : P 0 4 = some 683 := hS.2.2.2.2.2.2.2.2.1
  have q5 : P 0 5 = some 685 := hS.2.2.2.2.2.2.2.2.2.1
  refine Sp.of_V (L := [some (.ref (g.1 + 0)), some (.int d)]) (by decide) (by simp [Value.category]) (Nat.le_of_ble_eq_true rfl) rfl ?_
  refine V_iload_n (i := 1) rfl rfl dX7_turn_0 rfl ?_
  refine V_iconst (v := 1) (by decide) dX7_turn_1 rfl ?_
  refine V_icmp_lt (tgt := 11) dX7_turn_2 (by decide) rfl (fun h_2 => ?_) (fun h_2 => ?_)
  · refine V_bipush (v := (-2)) (by decide) dX7_turn_11 rfl ?_
    exact V_ireturn rfl rfl dX7_turn_13 rfl rfl rfl (⟨_, rfl, (by first | exact (if_pos (fun z => absurd z.1 (Int32.not_le.mpr h_2))).symm | exact (if_pos (fun z => h_8 z.2)).symm), CM.no hS hC (by first | exact fun z => absurd z.1.1 (Int32.not_le.mpr h_2) | exact fun z => h_8 z.1.2)⟩)
  · refine V_iload_n (i := 1) rfl rfl dX7_turn_5 rfl ?_
    refine V_bipush (v := 6) (by decide) dX7_turn_6 rfl ?_
    refine V_icmp_le (tgt := 14) dX7_turn_8 (by decide) rfl (fun h_8 => ?_) (fun h_8 => ?_)
    · refine V_aload_n (i := 0) rfl rfl dX7_turn_14 rfl ?_
      refine V_getr (kf := 0) C7 (by decide) l_X7_12 (by assumption) rfl (by assumption) dX7_turn_15 rfl ?_
      refine V_call (n := 0) (sp_isOverC l g r1 hS1 hR hv hI.now) o_X3_isOver m_X7_83 ⟨by decide, by decide⟩ (by assumption) rfl rfl (by first | exact Nat.le_of_ble_eq_true rfl | simp [Value.category]) (Nat.le_refl _) (Nat.le_refl _) rfl dX7_turn_18 rfl (kI ?_)
      refine V_if_eq (tgt := 27) dX7_turn_21 (by decide) rfl (fun h_21 => ?_) (fun h_21 => ?_)
      · refine V_aload_n (i := 0) rfl rfl dX7_turn_27 rfl ?_
        refine V_getr (kf := 3) C7 (by decide) l_X7_25 (by assumption) rfl (by assumption) dX7_turn_28 rfl ?_
        refine V_aload_n (i := 0) rfl rfl dX7_turn_31 rfl ?_
        refine V_getr (kf := 0) C7 (by decide) l_X7_12 (by assumption) rfl (by assumption) dX7_turn_32 rfl ?_
        refine V_call (n := 1) (sp_remember l g hS hC hI.mOf) o_X1_remember m_X7_63 ⟨by decide, by decide⟩ (by assumption) rfl rfl (by first | exact Nat.le_of_ble_eq_true rfl | simp [Value.category]) (Nat.le_refl _) (Nat.le_refl _) rfl dX7_turn_35 rfl (kV ?_)
        rintro J PJ ⟨⟨hS2, hC2⟩, hF⟩
        have hS3 := hS2.r isRc_1
        have hR2 := hC2.1.1
        have hv2 := hC2.1.2
        have w0 : PJ 0 0 = some 1 := hS2.2.2.2.2.1
        have w1 : PJ 0 1 = some 86 := hS2.2.2.2.2.2.1
        have w2 : PJ 0 2 = some 171 := hS2.2.2.2.2.2.2.1
        have w3 : PJ 0 3 = some 256 := hS2.2.2.2.2.2.2.2.1
        have w4 : PJ 0 4 = some 683 := hS2.2.2.2.2.2.2.2.2.1
        have w5 : PJ 0 5 = some 685 := hS2.2.2.2.2.2.2.2.2.2.1
        have hdi : aDi d := ⟨Int32.not_lt.mp h_2, h_8⟩
        have h4 := bI_z h_21
        obtain ⟨p, hp, hs1, hh2, -⟩ := hI.2.2.2.2.2.2.2.2
        refine V_aload_n (i := 0) rfl rfl dX7_turn_38 rfl ?_
        refine V_getr (kf := 0) C7 (by decide) l_X7_12 (by assumption) rfl (by assumption) dX7_turn_39 rfl ?_
        refine V_iload_n (i := 1) rfl rfl dX7_turn_42 rfl ?_
        refine V_call (n := 1) (sp_makeTurn l g r1 hS3 hR2 hI hp hs1 h4 (hh2 h4) hv2 d (B1 := B) (by obtain ⟨n, n1, n6, rfl⟩ := hdi.nat; exact Inv_T hI h4 n1 n6)) o_X3_makeTurn m_X7_87 ⟨by decide, by decide⟩ (by assumption) rfl rfl (by first | exact Nat.le_of_ble_eq_true rfl | simp [Value.category]) (Nat.le_refl _) (Nat.le_refl _) rfl dX7_turn_43 rfl (kJQ ?_)
        intro K hK
        exact V_ireturn rfl rfl dX7_turn_46 rfl rfl rfl (⟨_, rfl, (by unfold aTuR; rw [if_neg (fun z => z hdi), if_neg h4]), CM.yes hS2 hC2 hF ⟨hdi, h4⟩ hS3 ⟨hK.1, hK.2.1⟩ (fun x hx => ⟨hK.2.2 x (by omega), rfl⟩)⟩)
      · refine V_bipush (v := (-4)) (by decide) dX7_turn_24 rfl ?_
        exact V_ireturn rfl rfl dX7_turn_26 rfl rfl rfl (⟨_, rfl, (by unfold aTuR; rw [if_neg (fun z => z ⟨Int32.not_lt.mp h_2, h_8⟩), if_pos (bI_nz h_21)]), CM.no hS hC (fun z => z.2 (bI_nz h_21))⟩)
    · refine V_bipush (v := (-2)) (by decide) dX7_turn_11 rfl ?_
      exact V_ireturn rfl rfl dX7_turn_13 rfl rfl rfl (⟨_, rfl, (by first | exact (if_pos (fun z => absurd z.1 (Int32.not_le.mpr h_2))).symm | exact (if_pos (fun z => h_8 z.2)).symm), CM.no hS hC (by first | exact fun z => absurd z.1.1 (Int32.not_le.mpr h_2) | exact fun z => h_8 z.1.2)⟩)

set_option maxHeartbeats 4000000 in
set_option maxRecDepth 100000 in
theorem sm_sell_p (l : Launch) (g : fw_G) {I : fw_I} {P : fw_P} {s : Nat → Int32} {k : Nat} {h : Nat → Nat → Int32} {tk : Bool} {sp : Nat → Int32} {len : Nat} {tx : Nat → Int32} (hS : CSh P) (hC : CRel I P s k h tk sp len tx) {B : Nat} (hI : Inv B s) {p k2 b : Nat} (hp : p < 4) (hk2 : k2 < aMany s p) (hb : b < 4) {c : Int32} (hw : aWhy s (nI p) (nI k2) (nI b) c = 0) : Sp l g kX7_sell (T0 nT) [.ref (g.1 + 0), .int (nI p), .int (nI k2), .int (nI b), .int c] I P (T0 nT) 0 0 (qJ (fun r I1 P1 => r = aSelR s (nI p) (nI k2) (nI b) c ∧ CM I P s k h tk sp len tx (aSelOk s (nI p) (nI k2) (nI b) c) (aSelF s (nI p) (nI k2) (nI b) c) I1 P1)) := by
  have a0 := (at_0 (nT := nT))
  have a1 := at_race (nT := nT) isRc_1
  have a256 := (at_256 (nT := nT))
  have a683 := (at_683 (nT := nT))
  have r1 := isRc_1
  have hS1 := hS.r isRc_1
  have hR := hC.1.1
  have hv := hC.1.2
  have q0 : P 0 0 = some 1 := hS.2.2.2.2.1
  have q1 : P 0 1 = some 86 := hS.2.2.2.2.2.1
  have q2 : P 0 2 = some 171 := hS.2.2.2.2.2.2.1
  have q3 : P 0 3 = some 256 := hS.2.2.2.2.2.2.2.1
  have q4 : P 0 4 = some 683 := hS.2.2.2.2.2.2.2.2.1
  have q5 : P 0 5 = some 685 := hS.2.2.2.2.2.2.2.2.2.1
  have hok := why_ok.mp hw
  obtain ⟨hse, hre⟩ := id hok
  obtain ⟨-, -, hcc, hxz⟩ := (aSeE_cases s (nI p) (nI k2) (nI b) c).elim (fun w => absurd w.1 (by rw [hse]; decide)) id
  have hk20 : k2 < 20 := by have := (hI.many hp).2; omega
  have hcp : (nI p).toNatClampNeg = p := nI_clamp (by omega)
  have hck : (nI k2).toNatClampNeg = k2 := nI_clamp (by omega)
  have hcb : (nI b).toNatClampNeg = b := nI_clamp (by omega)
  have hpb : ¬ p = b := fun e => hxz (by rw [e])
  rw [hcp, hck, hcb] at hre
  refine Sp.of_V (L := [some (.ref (g.1 + 0)), some (.int (nI p)), some (.int (nI k2)), some (.int (nI b)), some (.int c)]) (by decide) (by simp [Value.category]) (Nat.le_of_ble_eq_true rfl) rfl ?_
  refine V_aload_n (i := 0) rfl rfl dX7_sell_0 rfl ?_
  refine V_getr (kf := 0) C7 (by decide) l_X7_12 (by assumption) rfl (by assumption) dX7_sell_1 rfl ?_
  refine V_iload_n (i := 1) rfl rfl dX7_sell_4 rfl ?_
  refine V_iload_n (i := 2) rfl rfl dX7_sell_5 rfl ?_
  refine V_iload_n (i := 3) rfl rfl dX7_sell_6 rfl ?_
  refine V_iload (i := 4) rfl dX7_sell_7 rfl ?_
  refine V_call (n := 4) (sp_obstacle l g r1 hS1 hR hI (nI p) (nI k2) (nI b) c) o_X3_obstacle m_X7_100 ⟨by decide, by decide⟩ (by assumption) rfl rfl (by first | exact Nat.le_of_ble_eq_true rfl | simp [Value.category]) (Nat.le_refl _) (Nat.le_refl _) rfl dX7_sell_9 rfl (kI ?_)
  rw [hw]
  refine V_if_ne (tgt := 26) dX7_sell_12 (by decide) rfl (fun h => absurd rfl h) (fun _ => ?_)
  refine V_aload_n (i := 0) rfl rfl dX7_sell_15 rfl ?_
  refine V_getr (kf := 3) C7 (by decide) l_X7_25 (by assumption) rfl (by assumption) dX7_sell_16 rfl ?_
  refine V_aload_n (i := 0) rfl rfl dX7_sell_19 rfl ?_
  refine V_getr (kf := 0) C7 (by decide) l_X7_12 (by assumption) rfl (by assumption) dX7_sell_20 rfl ?_
  refine V_call (n := 1) (sp_remember l g hS hC hI.mOf) o_X1_remember m_X7_63 ⟨by decide, by decide⟩ (by assumption) rfl rfl (by first | exact Nat.le_of_ble_eq_true rfl | simp [Value.category]) (Nat.le_refl _) (Nat.le_refl _) rfl dX7_sell_23 rfl (kV ?_)
  rintro J PJ ⟨⟨hS2, hC2⟩, hF⟩
  have hS3 := hS2.r isRc_1
  have hR2 := hC2.1.1
  have hv2 := hC2.1.2
  have w0 : PJ 0 0 = some 1 := hS2.2.2.2.2.1
  have w1 : PJ 0 1 = some 86 := hS2.2.2.2.2.2.1
  have w2 : PJ 0 2 = some 171 := hS2.2.2.2.2.2.2.1
  have w3 : PJ 0 3 = some 256 := hS2.2.2.2.2.2.2.2.1
  have w4 : PJ 0 4 = some 683 := hS2.2.2.2.2.2.2.2.2.1
  have w5 : PJ 0 5 = some 685 := hS2.2.2.2.2.2.2.2.2.2.1
  refine V_aload_n (i := 0) rfl rfl dX7_sell_26 rfl ?_
  refine V_getr (kf := 0) C7 (by decide) l_X7_12 (by assumption) rfl (by assumption) dX7_sell_27 rfl ?_
  refine V_iload_n (i := 1) rfl rfl dX7_sell_30 rfl ?_
  refine V_iload_n (i := 2) rfl rfl dX7_sell_31 rfl ?_
  refine V_iload_n (i := 3) rfl rfl dX7_sell_32 rfl ?_
  refine V_iload (i := 4) rfl dX7_sell_33 rfl ?_
  refine V_call (n := 4) (sp_trade_ok l g r1 hS3 hR2 hI hv2 hp hb hpb (n := aMany s p - 1) (k := k2) (by omega) (by omega) rfl c hw) o_X3_trade m_X7_104 ⟨by decide, by decide⟩ (by assumption) rfl rfl (by first | exact Nat.le_of_ble_eq_true rfl | simp [Value.category]) (Nat.le_refl _) (Nat.le_refl _) rfl dX7_sell_35 rfl (kJP ?_)
  intro K PK hK
  exact V_ireturn rfl rfl dX7_sell_38 rfl rfl rfl (⟨_, rfl, (by unfold aSelR; rw [hse, if_neg (by decide), hcp, hck, hcb, hre, if_neg (by decide)]), CM.yes hS2 hC2 hF hok hK.1 ⟨by unfold aSelF; rw [hcp, hck, hcb]; exact hK.2.1, by unfold aSelF; rw [hcp, hck, hcb]; exact hK.2.2.1⟩ (fun x hx => hK.2.2.2 x (by omega))⟩)

theorem sm_sell_ok (l : Launch) (g : fw_G) {I : fw_I} {P : fw_P} {s : Nat → Int32} {k : Nat} {h : Nat → Nat → Int32} {tk : Bool} {sp : Nat → Int32} {len : Nat} {tx : Nat → Int32} (hS : CSh P) (hC : CRel I P s k h tk sp len tx) {B : Nat} (hI : Inv B s) {x y z c : Int32} (hw : aWhy s x y z c = 0) : Sp l g kX7_sell (T0 nT) [.ref (g.1 + 0), .int x, .int y, .int z, .int c] I P (T0 nT) 0 0 (qJ (fun r I1 P1 => r = aSelR s x y z c ∧ CM I P s k h tk sp len tx (aSelOk s x y z c) (aSelF s x y z c) I1 P1)) := by
  obtain ⟨hse, hre⟩ := why_ok.mp hw
  obtain ⟨-, ⟨hbt, hpl⟩, hcc, hxz⟩ := (aSeE_cases s x y z c).elim (fun w => absurd w.1 (by rw [hse]; decide)) id
  obtain ⟨p, k2, hp, rfl, hk2, rfl, hk20⟩ := aBt.nat hI.mOk hbt
  obtain ⟨b, hb, rfl⟩ := hpl.nat
  exact sm_sell_p l g hS hC hI hp hk2 hb hw

set_option maxHeartbeats 4000000 in
set_option maxRecDepth 100000 in
theorem sm_sell_no (l : Launch) (g : fw_G) {I : fw_I} {P : fw_P} {s : Nat → Int32} {k : Nat} {h : Nat → Nat → Int32} {tk : Bool} {sp : Nat → Int32} {len : Nat} {tx : Nat → Int32} (hS : CSh P) (hC : CRel I P s k h tk sp len tx) {B : Nat} (hI : Inv B s) {x y z c : Int32} (hw : ¬ aWhy s x y z c = 0) : Sp l g kX7_sell (T0 nT) [.ref (g.1 + 0), .int x, .int y, .int z, .int c] I P (T0 nT) 0 0 (qJ (fun r I1 P1 => r = aSelR s x y z c ∧ CM I P s k h tk sp len tx (aSelOk s x y z c) (aSelF s x y z c) I1 P1)) := by
  have a0 := (at_0 (nT := nT))
  have a1 := at_race (nT := nT) isRc_1
  have a256 := (at_256 (nT := nT))
  have a683 := (at_683 (nT := nT))
  have r1 := isRc_1
  have hS1 := hS.r isRc_1
  have hR := hC.1.1
  have hv := hC.1.2
  have q0 : P 0 0 = some 1 := hS.2.2.2.2.1
  have q1 : P 0 1 = some 86 := hS.2.2.2.2.2.1
  have q2 : P 0 2 = some 171 := hS.2.2.2.2.2.2.1
  have q3 : P 0 3 = some 256 := hS.2.2.2.2.2.2.2.1
  have q4 : P 0 4 = some 683 := hS.2.2.2.2.2.2.2.2.1
  have q5 : P 0 5 = some 685 := hS.2.2.2.2.2.2.2.2.2.1
  refine Sp.of_V (L := [some (.ref (g.1 + 0)), some (.int x), some (.int y), some (.int z), some (.int c)]) (by decide) (by simp [Value.category]) (Nat.le_of_ble_eq_true rfl) rfl ?_
  refine V_aload_n (i := 0) rfl rfl dX7_sell_0 rfl ?_
  refine V_getr (kf := 0) C7 (by decide) l_X7_12 (by assumption) rfl (by assumption) dX7_sell_1 rfl ?_
  refine V_iload_n (i := 1) rfl rfl dX7_sell_4 rfl ?_
  refine V_iload_n (i := 2) rfl rfl dX7_sell_5 rfl ?_
  refine V_iload_n (i := 3) rfl rfl dX7_sell_6 rfl ?_
  refine V_iload (i := 4) rfl dX7_sell_7 rfl ?_
  refine V_call (n := 4) (sp_obstacle l g r1 hS1 hR hI x y z c) o_X3_obstacle m_X7_100 ⟨by decide, by decide⟩ (by assumption) rfl rfl (by first | exact Nat.le_of_ble_eq_true rfl | simp [Value.category]) (Nat.le_refl _) (Nat.le_refl _) rfl dX7_sell_9 rfl (kI ?_)
  refine V_if_ne (tgt := 26) dX7_sell_12 (by decide) rfl (fun _ => ?_) (fun h => absurd h hw)
  refine V_aload_n (i := 0) rfl rfl dX7_sell_26 rfl ?_
  refine V_getr (kf := 0) C7 (by decide) l_X7_12 (by assumption) rfl (by assumption) dX7_sell_27 rfl ?_
  refine V_iload_n (i := 1) rfl rfl dX7_sell_30 rfl ?_
  refine V_iload_n (i := 2) rfl rfl dX7_sell_31 rfl ?_
  refine V_iload_n (i := 3) rfl rfl dX7_sell_32 rfl ?_
  refine V_iload (i := 4) rfl dX7_sell_33 rfl ?_
  refine V_call (n := 4) (sp_trade_no l g r1 hS1 hR hI x y z c hw) o_X3_trade m_X7_104 ⟨by decide, by decide⟩ (by assumption) rfl rfl (by first | exact Nat.le_of_ble_eq_true rfl | simp [Value.category]) (Nat.le_refl _) (Nat.le_refl _) rfl dX7_sell_35 rfl (kI ?_)
  exact V_ireturn rfl rfl dX7_sell_38 rfl rfl rfl (⟨_, rfl, why_sel hw, CM.no hS hC (fun q => hw (why_ok.mpr q))⟩)

theorem sm_sell (l : Launch) (g : fw_G) {I : fw_I} {P : fw_P} {s : Nat → Int32} {k : Nat} {h : Nat → Nat → Int32} {tk : Bool} {sp : Nat → Int32} {len : Nat} {tx : Nat → Int32} (hS : CSh P) (hC : CRel I P s k h tk sp len tx) {B : Nat} (hI : Inv B s) (x y z c : Int32) : Sp l g kX7_sell (T0 nT) [.ref (g.1 + 0), .int x, .int y, .int z, .int c] I P (T0 nT) 0 0 (qJ (fun r I1 P1 => r = aSelR s x y z c ∧ CM I P s k h tk sp len tx (aSelOk s x y z c) (aSelF s x y z c) I1 P1)) := by
  by_cases hw : aWhy s x y z c = 0
  · exact sm_sell_ok l g hS hC hI hw
  · exact sm_sell_no l g hS hC hI hw

set_option maxHeartbeats 4000000 in
set_option maxRecDepth 100000 in
theorem sm_set (l : Launch) (g : fw_G) {I : fw_I} {P : fw_P} {s : Nat → Int32} {k : Nat} {h : Nat → Nat → Int32} {tk : Bool} {sp : Nat → Int32} {len : Nat} {tx : Nat → Int32} (hS : CSh P) (hC : CRel I P s k h tk sp len tx) {B : Nat} (hI : Inv B s) (x v : Int32) : Sp l g kX7_set (T0 nT) [.ref (g.1 + 0), .int x, .int v] I P (T0 nT) 0 0 (qJ (fun r I1 P1 => r = aSetR s x v ∧ CM I P s k h tk sp len tx (aSetOk x v) (aSetF s x v) I1 P1)) := by
  have a0 := (at_0 (nT := nT))
  have a1 := at_race (nT := nT) isRc_1
  have a256 := (at_256 (nT := nT))
  have a683 := (at_683 (nT := nT))
  have r1 := isRc_1
  have hS1 := hS.r isRc_1
  have hR := hC.1.1
  have hv := hC.1.2
  have q0 : P 0 0 = some 1 := hS.2.2.2.2.1
  have q1 : P 0 1 = some 86 := hS.2.2.2.2.2.1
  have q2 : P 0 2 = some 171 := hS.2.2.2.2.2.2.1
  have q3 : P 0 3 = some 256 := hS.2.2.2.2.2.2.2.1
  have q4 : P 0 4 = some 683 := hS.2.2.2.2.2.2.2.2.1
  have q5 : P 0 5 = some 685 := hS.2.2.2.2.2.2.2.2.2.1
  refine Sp.of_V (L := [some (.ref (g.1 + 0)), some (.int x), some (.int v), none]) (by decide) (by simp [Value.category]) (Nat.le_of_ble_eq_true rfl) rfl ?_
  refine V_iload_n (i := 1) rfl rfl dX7_set_0 rfl ?_
  refine V_if_lt (tgt := 9) dX7_set_1 (by decide) rfl (fun h_1 => ?_) (fun h_1 => ?_)
  · refine V_iconst (v := (-1)) (by decide) dX7_set_9 rfl ?_
    exact V_ireturn rfl rfl dX7_set_10 rfl rfl rfl (⟨_, rfl, (by first | exact (if_pos (fun z => absurd z.1 (Int32.not_le.mpr h_1))).symm | exact (if_pos (fun z => h_6 z.2)).symm), CM.no hS hC (by first | exact fun z => absurd z.1.1 (Int32.not_le.mpr h_1) | exact fun z => h_6 z.1.2)⟩)
  · refine V_iload_n (i := 1) rfl rfl dX7_set_4 rfl ?_
    refine V_iconst (v := 2) (by decide) dX7_set_5 rfl ?_
    refine V_icmp_le (tgt := 11) dX7_set_6 (by decide) rfl (fun h_6 => ?_) (fun h_6 => ?_)
    · refine V_iload_n (i := 2) rfl rfl dX7_set_11 rfl ?_
      refine V_iload_n (i := 1) rfl rfl dX7_set_12 rfl ?_
      refine V_callS (n := 1) (sp_leastValue l g x) o_X7_leastValue m_X7_107 ⟨by decide, by decide⟩ rfl rfl (by first | exact Nat.le_of_ble_eq_true rfl | simp [Value.category]) (Nat.le_refl _) (Nat.le_refl _) rfl dX7_set_13 rfl (kI ?_)
      refine V_icmp_lt (tgt := 27) dX7_set_16 (by decide) rfl (fun h_16 => ?_) (fun h_16 => ?_)
      · refine V_bipush (v := (-2)) (by decide) dX7_set_27 rfl ?_
        exact V_ireturn rfl rfl dX7_set_29 rfl rfl rfl (⟨_, rfl, (by unfold aSetR; rw [if_neg (fun z => z ⟨Int32.not_lt.mp h_1, h_6⟩)]; first | exact (if_pos (fun z => absurd z.1 (Int32.not_le.mpr h_16))).symm | exact (if_pos (fun z => h_24 z.2)).symm), CM.no hS hC (by first | exact fun z => absurd z.2.1 (Int32.not_le.mpr h_16) | exact fun z => h_24 z.2.2)⟩)
      · refine V_iload_n (i := 2) rfl rfl dX7_set_19 rfl ?_
        refine V_iload_n (i := 1) rfl rfl dX7_set_20 rfl ?_
        refine V_callS (n := 1) (sp_highestValue l g x) o_X7_highestValue m_X7_110 ⟨by decide, by decide⟩ rfl rfl (by first | exact Nat.le_of_ble_eq_true rfl | simp [Value.category]) (Nat.le_refl _) (Nat.le_refl _) rfl dX7_set_21 rfl (kI ?_)
        refine V_icmp_le (tgt := 30) dX7_set_24 (by decide) rfl (fun h_24 => ?_) (fun h_24 => ?_)
        · refine V_aload_n (i := 0) rfl rfl dX7_set_30 rfl ?_
          refine V_getr (kf := 3) C7 (by decide) l_X7_25 (by assumption) rfl (by assumption) dX7_set_31 rfl ?_
          refine V_aload_n (i := 0) rfl rfl dX7_set_34 rfl ?_
          refine V_getr (kf := 0) C7 (by decide) l_X7_12 (by assumption) rfl (by assumption) dX7_set_35 rfl ?_
          refine V_call (n := 1) (sp_remember l g hS hC hI.mOf) o_X1_remember m_X7_63 ⟨by decide, by decide⟩ (by assumption) rfl rfl (by first | exact Nat.le_of_ble_eq_true rfl | simp [Value.category]) (Nat.le_refl _) (Nat.le_refl _) rfl dX7_set_38 rfl (kV ?_)
          rintro J PJ ⟨⟨hS2, hC2⟩, hF⟩
          have hS3 := hS2.r isRc_1
          have hR2 := hC2.1.1
          have hv2 := hC2.1.2
          have w0 : PJ 0 0 = some 1 := hS2.2.2.2.2.1
          have w1 : PJ 0 1 = some 86 := hS2.2.2.2.2.2.1
          have w2 : PJ 0 2 = some 171 := hS2.2.2.2.2.2.2.1
          have w3 : PJ 0 3 = some 256 := hS2.2.2.2.2.2.2.2.1
          have w4 : PJ 0 4 = some 683 := hS2.2.2.2.2.2.2.2.2.1
          have w5 : PJ 0 5 = some 685 := hS2.2.2.2.2.2.2.2.2.2.1
          have h3 : aSt3 x := ⟨Int32.not_lt.mp h_1, h_6⟩
          obtain ⟨i, hi, rfl⟩ := h3.nat
          refine V_aload_n (i := 0) rfl rfl dX7_set_41 rfl ?_
          refine V_getr (kf := 0) C7 (by decide) l_X7_12 (by assumption) rfl (by assumption) dX7_set_42 rfl ?_
          refine V_iload_n (i := 1) rfl rfl dX7_set_45 rfl ?_
          refine V_call (n := 1) (sp_settingOf l g r1 hS3 hR2 (nI i)) o_X3_settingOf m_X7_113 ⟨by decide, by decide⟩ (by assumption) rfl rfl (by first | exact Nat.le_of_ble_eq_true rfl | simp [Value.category]) (Nat.le_refl _) (Nat.le_refl _) rfl dX7_set_46 rfl (kI ?_)
          rw [m_stX i hi]
          refine V_istore_n (i := 3) rfl (by decide) rfl dX7_set_49 rfl ?_
          refine V_aload_n (i := 0) rfl rfl dX7_set_50 rfl ?_
          refine V_getr (kf := 0) C7 (by decide) l_X7_12 (by assumption) rfl (by assumption) dX7_set_51 rfl ?_
          refine V_iload_n (i := 1) rfl rfl dX7_set_54 rfl ?_
          refine V_iload_n (i := 2) rfl rfl dX7_set_55 rfl ?_
          refine V_call (n := 2) (sp_changeSetting l g r1 hS3 (nI i) v) o_X3_changeSetting m_X7_116 ⟨by decide, by decide⟩ (by assumption) rfl rfl (by first | exact Nat.le_of_ble_eq_true rfl | simp [Value.category]) (Nat.le_refl _) (Nat.le_refl _) rfl dX7_set_56 rfl (kW ?_)
          refine V_iload_n (i := 3) rfl rfl dX7_set_59 rfl ?_
          exact V_ireturn rfl rfl dX7_set_60 rfl rfl rfl (⟨_, rfl, (by unfold aSetR; rw [if_neg (fun z => z h3), if_neg (fun z => z ⟨Int32.not_lt.mp h_16, h_24⟩), nI_clamp (by omega)]), CM.yes hS2 hC2 hF ⟨h3, Int32.not_lt.mp h_16, h_24⟩ hS3 (set_R hS3 hR2 hv2 hi v) (fun x hx => ⟨up2_ne _ _ _ (by omega), rfl⟩)⟩)
        · refine V_bipush (v := (-2)) (by decide) dX7_set_27 rfl ?_
          exact V_ireturn rfl rfl dX7_set_29 rfl rfl rfl (⟨_, rfl, (by unfold aSetR; rw [if_neg (fun z => z ⟨Int32.not_lt.mp h_1, h_6⟩)]; first | exact (if_pos (fun z => absurd z.1 (Int32.not_le.mpr h_16))).symm | exact (if_pos (fun z => h_24 z.2)).symm), CM.no hS hC (by first | exact fun z => absurd z.2.1 (Int32.not_le.mpr h_16) | exact fun z => h_24 z.2.2)⟩)
    · refine V_iconst (v := (-1)) (by decide) dX7_set_9 rfl ?_
      exact V_ireturn rfl rfl dX7_set_10 rfl rfl rfl (⟨_, rfl, (by first | exact (if_pos (fun z => absurd z.1 (Int32.not_le.mpr h_1))).symm | exact (if_pos (fun z => h_6 z.2)).symm), CM.no hS hC (by first | exact fun z => absurd z.1.1 (Int32.not_le.mpr h_1) | exact fun z => h_6 z.1.2)⟩)
