variable {nT : Nat}
/-! what holds after each act -/
def plF (s : Nat → Int32) : Nat → Int32
  | 0 => 0
  | p + 1 => plF s p ||| (if ro s p 2 = 0 then (0 : Int32) else (1 : Int32) <<< (ro s p 2 &&& 31))
def gbI (s : Nat → Int32) : Nat → Int32
  | 0 => 0
  | i + 1 => gbI s i + (if 0 < sn s i 0 then sn s i 3 else 0)
theorem gbI_n {s : Nat → Int32} (h : ∀ i, i < 10 → ∃ f, f < 2 ^ 31 ∧ sn s i 3 = nI f) : ∀ n, n ≤ 10 → gbI s n = nI (sumN (gB s) n)
  | 0, _ => rfl
  | n + 1, hn => by
    show gbI s n + (if 0 < sn s n 0 then sn s n 3 else 0) = nI (sumN (gB s) n + gB s n)
    rw [gbI_n h n (by omega), ← nI_add]
    congr 1
    obtain ⟨f, f1, f2⟩ := h n (by omega)
    unfold gB
    by_cases q : 0 < sn s n 0
    · rw [if_pos q, if_pos q, f2, nI_clamp f1]
    · rw [if_neg q, if_neg q]; rfl
theorem aSnF_has {s : Nat → Int32} {q : Int32} (hq : 0 < q) : ∀ n, n ≤ 10 → ∀ i, i < n → sn s i 0 = q → ¬ aSnF s q n = -5
  | 0, _, i, h, _ => absurd h (Nat.not_lt_zero i)
  | n + 1, hn, i, h, e => by
    unfold aSnF
    by_cases z : sn s n 0 = q ∧ 0 < q
    · rw [if_pos z]
      exact nI_ne5 (by omega)
    · rw [if_neg z]
      by_cases hin : i = n
      · exact absurd ⟨by rw [← hin]; exact e, hq⟩ z
      · exact aSnF_has hq n (by omega) i (by omega) e
theorem aSnAt_is {B : Nat} {s : Nat → Int32} (hI : Inv B s) {i : Nat} (hi : i < 10) (h0 : 0 < sn s i 0) : aSnAt s (sn s i 0) = nI i := by
  obtain ⟨k, hk, e, ek, -⟩ := aSnAt_nat (aSnF_has h0 10 (Nat.le_refl _) i hi rfl)
  by_cases q : k = i
  · rw [e, q]
  · have := hI.2.2.2.2.2.1 k i hk hi q ek
    rw [ek] at this
    rw [this] at h0
    exact absurd h0 (by decide)
theorem aTaF_ge {s : Nat → Int32} {q : Int32} : ∀ n, n ≤ 10 → ∃ c, c ≤ n ∧ aTaF s q n = nI c ∧ ∀ i, i < n → 0 < sn s i 0 → sn s i 1 = q → 1 ≤ c
  | 0, _ => ⟨0, Nat.le_refl _, rfl, fun i h => absurd h (Nat.not_lt_zero i)⟩
  | n + 1, hn => by
    obtain ⟨c, h1, h2, h3⟩ := aTaF_ge (s := s) (q := q) n (by omega)
    show ∃ c, c ≤ n + 1 ∧ aTaF s q n + bI (0 < sn s n 0 ∧ sn s n 1 = q) = nI c ∧ _
    by_cases z : 0 < sn s n 0 ∧ sn s n 1 = q
    · rw [bI_t z, h2, nI_1]
      exact ⟨c + 1, by omega, rfl, fun _ _ _ _ => by omega⟩
    · rw [bI_f z, h2, Int32.add_zero]
      refine ⟨c, by omega, rfl, fun i hi a b => ?_⟩
      by_cases q : i = n
      · subst q; exact absurd ⟨a, b⟩ z
      · exact h3 i (by omega) a b
theorem add_sm {x y : Int32} (hx : -10000 ≤ x.toInt ∧ x.toInt ≤ 10000) (hy : -10000 ≤ y.toInt ∧ y.toInt ≤ 10000) : (x + y).toInt = x.toInt + y.toInt := by
  rw [Int32.toInt_add]
  exact Int.bmod_eq_of_le (by omega) (by omega)
theorem coins40 {s : Nat → Int32} (h : jC s) : aSuF s 1 4 = 40 := by
  have hb := h.bd
  have b0 := hb 0 (by decide)
  have b1 := hb 1 (by decide)
  have b2 := hb 2 (by decide)
  have b3 := hb 3 (by decide)
  have hs := h.2
  apply Int32.toInt_inj.mp
  rw [aSuF_4, Int32.zero_add]
  have e1 := add_sm (x := ro s 0 1) (y := ro s 1 1) (by omega) (by omega)
  have e2 := add_sm (x := ro s 0 1 + ro s 1 1) (y := ro s 2 1) (by omega) (by omega)
  have e3 := add_sm (x := ro s 0 1 + ro s 1 1 + ro s 2 1) (y := ro s 3 1) (by omega) (by omega)
  rw [e3, e2, e1, show (40 : Int32).toInt = 40 from by decide]
  omega
theorem held_n {B : Nat} {s : Nat → Int32} (hI : Inv B s) : aSuF s 5 4 = nI (aMany s 0 + aMany s 1 + aMany s 2 + aMany s 3) := by
  rw [aSuF_4, Int32.zero_add, (hI.many (p := 0) (by decide)).1, (hI.many (p := 1) (by decide)).1, (hI.many (p := 2) (by decide)).1, (hI.many (p := 3) (by decide)).1, nI_add, nI_add, nI_add]
def plN (a b c d : Nat) : Int32 := ((((0 : Int32) ||| (if nI a = 0 then (0 : Int32) else (1 : Int32) <<< (nI a &&& 31))) ||| (if nI b = 0 then (0 : Int32) else (1 : Int32) <<< (nI b &&& 31))) ||| (if nI c = 0 then (0 : Int32) else (1 : Int32) <<< (nI c &&& 31))) ||| (if nI d = 0 then (0 : Int32) else (1 : Int32) <<< (nI d &&& 31))
def plC (h a b c d : Nat) : Bool := (!(List.range h).all (fun v => a == v + 1 || b == v + 1 || c == v + 1 || d == v + 1)) || decide (plN a b c d = (1 : Int32) <<< (nI (h + 1) &&& 31) - 2)
theorem plC_ok : ((List.range 5).all fun h => (List.range (h + 1)).all fun a => (List.range (h + 1)).all fun b => (List.range (h + 1)).all fun c => (List.range (h + 1)).all fun d => plC h a b c d) = true := by decide +kernel
theorem plN_ok (h : Nat) (hh : h < 5) (a : Nat) (ha : a < h + 1) (b : Nat) (hb : b < h + 1) (c : Nat) (hc : c < h + 1) (d : Nat) (hd : d < h + 1) (hv : ∀ v, v < h → a = v + 1 ∨ b = v + 1 ∨ c = v + 1 ∨ d = v + 1) : plN a b c d = (1 : Int32) <<< (nI (h + 1) &&& 31) - 2 := by
  have h1 := List.all_eq_true.mp (List.all_eq_true.mp (List.all_eq_true.mp (List.all_eq_true.mp (List.all_eq_true.mp plC_ok h (List.mem_range.mpr hh)) a (List.mem_range.mpr ha)) b (List.mem_range.mpr hb)) c (List.mem_range.mpr hc)) d (List.mem_range.mpr hd)
  unfold plC at h1
  rcases Bool.or_eq_true _ _ ▸ h1 with h2 | h2
  · have h3 : (List.range h).all (fun v => a == v + 1 || b == v + 1 || c == v + 1 || d == v + 1) = true := List.all_eq_true.mpr (fun v hm => by
      have := hv v (List.mem_range.mp hm)
      simp only [Bool.or_eq_true, beq_iff_eq]
      rcases this with z | z | z | z
      · exact Or.inl (Or.inl (Or.inl z))
      · exact Or.inl (Or.inl (Or.inr z))
      · exact Or.inl (Or.inr z)
      · exact Or.inr z)
    rw [h3] at h2
    exact absurd h2 (by decide)
  · exact of_decide_eq_true h2
theorem places_ok {s : Nat → Int32} (h : jP s) : plF s 4 = (1 : Int32) <<< (nI (home s + 1) &&& 31) - 2 := by
  obtain ⟨pl, h1, h2⟩ := h
  have e : plF s 4 = plN (pl 0) (pl 1) (pl 2) (pl 3) := by
    show ((((0 : Int32) ||| _) ||| _) ||| _) ||| _ = _
    unfold plN
    rw [(h1 0 (by decide)).1, (h1 1 (by decide)).1, (h1 2 (by decide)).1, (h1 3 (by decide)).1]
  rw [e]
  have hl := home_le s
  refine plN_ok (home s) (by omega) _ (by have := (h1 0 (by decide)).2; omega) _ (by have := (h1 1 (by decide)).2; omega) _ (by have := (h1 2 (by decide)).2; omega) _ (by have := (h1 3 (by decide)).2; omega) (fun v hv => ?_)
  obtain ⟨p, hp, ep⟩ := h2 (v + 1) (by omega) (by omega)
  rcases (show p = 0 ∨ p = 1 ∨ p = 2 ∨ p = 3 by omega) with rfl | rfl | rfl | rfl
  · exact Or.inl ep
  · exact Or.inr (Or.inl ep)
  · exact Or.inr (Or.inr (Or.inl ep))
  · exact Or.inr (Or.inr (Or.inr ep))
theorem five4 {n : Nat} (h : n ≤ 4) : (5 : Int32) - (4 - nI n) = nI (n + 1) ∧ (¬ n = 4 → ¬ (4 : Int32) - nI n = 0) ∧ (4 : Int32) - nI 4 = 0 := by
  rcases (show n = 0 ∨ n = 1 ∨ n = 2 ∨ n = 3 ∨ n = 4 by omega) with rfl | rfl | rfl | rfl | rfl <;> decide
theorem sub_sub_nI {x y : Nat} (h : y ≤ x) : nI x - nI (x - y) = nI y := by
  rw [nI_sub (by omega)]
  congr 1
  omega

set_option maxHeartbeats 4000000 in
set_option maxRecDepth 100000 in
theorem lp_h1 {l : Launch} {g : fw_G} {s : Nat → Int32} {k : Nat} {h : Nat → Nat → Int32} {B : Nat} {Q : Option Value → fw_I → fw_P → Prop} (hk : ∀ I P, Wd I P s k h B → V l g kL_holds (T0 nT) 0 0 (Q) (T0 nT) I P 0 0 104 [some (.ref (g.1 + 0)), some (.int (aSuF s 5 4)), some (.int (aSuF s 1 4)), some (.int (aSuF s 3 4)), some (.int 0), some (.int 0), some (.int (plF s 4)), some (.int (nI 4)), none, none] []) : ∀ (m j : Nat) (I : fw_I) (P : fw_P), j + m = 4 → Wd I P s k h B → V l g kL_holds (T0 nT) 0 0 (Q) (T0 nT) I P 0 0 18 [some (.ref (g.1 + 0)), some (.int (aSuF s 5 j)), some (.int (aSuF s 1 j)), some (.int (aSuF s 3 j)), some (.int 0), some (.int 0), some (.int (plF s j)), some (.int (nI j)), none, none] [] := by
  have a0 := at_0 (nT := nT)
  intro m
  induction m with
  | zero =>
    intro j I P hj hx
    obtain rfl : j = 4 := by omega
    refine V_iload (i := 7) rfl dL_holds_18 rfl ?_
    refine V_iconst (v := 4) (by decide) dL_holds_20 rfl ?_
    refine V_icmp_ge (tgt := 104) dL_holds_21 (by decide) rfl (fun _ => ?_) (fun h => absurd (by decide) h)
    exact hk I P hx
  | succ m ih =>
    intro j I P hjm hx
    have hj : j < 4 := by omega
    obtain ⟨pl, pl1, -⟩ := hx.2.2.2.2.2.2
    obtain ⟨ev, pv2⟩ := pl1 j hj
    have hl := home_le s
    by_cases hz : ro s j 2 = 0
    · refine V_iload (i := 7) rfl dL_holds_18 rfl ?_
      refine V_iconst (v := 4) (by decide) dL_holds_20 rfl ?_
      refine V_icmp_ge (tgt := 104) dL_holds_21 (by decide) rfl (fun h => absurd h (nI_ge (b := 4) hj (by decide))) (fun _ => ?_)
      refine V_iload_n (i := 1) rfl rfl dL_holds_24 rfl ?_
      refine V_aload_n (i := 0) rfl rfl dL_holds_25 rfl ?_
      refine V_iload (i := 7) rfl dL_holds_26 rfl ?_
      refine V_iconst (v := 2) (by decide) dL_holds_28 rfl ?_
      refine V_call (n := 2) (q_pl2 hx hj) o_X7_player m_L_10 ⟨by decide, by decide⟩ (by assumption) rfl rfl (by first | exact Nat.le_of_ble_eq_true rfl | simp [Value.category]) (Nat.le_refl _) (Nat.le_refl _) rfl dL_holds_29 rfl (kI ?_)
      refine V_iadd dL_holds_32 rfl ?_
      refine V_istore_n (i := 1) rfl (by decide) rfl dL_holds_33 rfl ?_
      refine V_iload_n (i := 2) rfl rfl dL_holds_34 rfl ?_
      refine V_aload_n (i := 0) rfl rfl dL_holds_35 rfl ?_
      refine V_iload (i := 7) rfl dL_holds_36 rfl ?_
      refine V_iconst (v := 1) (by decide) dL_holds_38 rfl ?_
      refine V_call (n := 2) (q_pl1 hx hj) o_X7_player m_L_10 ⟨by decide, by decide⟩ (by assumption) rfl rfl (by first | exact Nat.le_of_ble_eq_true rfl | simp [Value.category]) (Nat.le_refl _) (Nat.le_refl _) rfl dL_holds_39 rfl (kI ?_)
      refine V_sipush (v := 1000) (by decide) dL_holds_42 rfl ?_
      refine V_isub dL_holds_45 rfl ?_
      refine V_iadd dL_holds_46 rfl ?_
      rw [Int32.add_sub_cancel]
      refine V_istore_n (i := 2) rfl (by decide) rfl dL_holds_47 rfl ?_
      refine V_iload_n (i := 3) rfl rfl dL_holds_48 rfl ?_
      refine V_aload_n (i := 0) rfl rfl dL_holds_49 rfl ?_
      refine V_iload (i := 7) rfl dL_holds_50 rfl ?_
      refine V_bipush (v := 6) (by decide) dL_holds_52 rfl ?_
      refine V_call (n := 2) (q_pl6 hx hj) o_X7_player m_L_10 ⟨by decide, by decide⟩ (by assumption) rfl rfl (by first | exact Nat.le_of_ble_eq_true rfl | simp [Value.category]) (Nat.le_refl _) (Nat.le_refl _) rfl dL_holds_54 rfl (kI ?_)
      refine V_iadd dL_holds_57 rfl ?_
      refine V_istore_n (i := 3) rfl (by decide) rfl dL_holds_58 rfl ?_
      refine V_iload (i := 6) rfl dL_holds_59 rfl ?_
      refine V_aload_n (i := 0) rfl rfl dL_holds_61 rfl ?_
      refine V_iload (i := 7) rfl dL_holds_62 rfl ?_
      refine V_iconst (v := 5) (by decide) dL_holds_64 rfl ?_
      refine V_call (n := 2) (q_pl5 hx hj) o_X7_player m_L_10 ⟨by decide, by decide⟩ (by assumption) rfl rfl (by first | exact Nat.le_of_ble_eq_true rfl | simp [Value.category]) (Nat.le_refl _) (Nat.le_refl _) rfl dL_holds_65 rfl (kI ?_)
      rw [if_pos hz]
      refine V_if_le (tgt := 83) dL_holds_68 (by decide) rfl (fun _ => ?_) (fun h => absurd (by decide) h)
      refine V_iconst (v := 0) (by decide) dL_holds_83 rfl ?_
      refine V_ior dL_holds_84 rfl ?_
      rw [show plF s j ||| 0 = plF s (j + 1) from by show _ = plF s j ||| (if ro s j 2 = 0 then (0 : Int32) else (1 : Int32) <<< (ro s j 2 &&& 31)); rw [if_pos hz]]
      refine V_istore (i := 6) (by decide) rfl dL_holds_85 rfl ?_
      refine V_aload_n (i := 0) rfl rfl dL_holds_87 rfl ?_
      refine V_iload (i := 7) rfl dL_holds_88 rfl ?_
      refine V_callS (n := 2) (sp_isP l g hx hj) o_L_isPlayer m_L_44 ⟨by decide, by decide⟩ rfl rfl (by first | exact Nat.le_of_ble_eq_true rfl | simp [Value.category]) (Nat.le_refl _) (Nat.le_refl _) rfl dL_holds_90 rfl (kJ ?_)
      rintro _ I1 P1 ⟨rfl, hx1⟩
      refine V_if_ne (tgt := 98) dL_holds_93 (by decide) rfl (fun _ => ?_) (fun h => absurd h (by decide))
      refine V_iinc1 (i := 7) rfl (by decide) rfl dL_holds_98 rfl ?_
      refine V_goto (tgt := 18) dL_holds_101 (by decide) ?_
      rw [nI_1]
      exact ih (j + 1) I1 P1 (by omega) (hx.to hx1)
    · have pv1 : 0 < pl j := Nat.pos_of_ne_zero (fun z => hz (by rw [ev, z]; rfl))
      refine V_iload (i := 7) rfl dL_holds_18 rfl ?_
      refine V_iconst (v := 4) (by decide) dL_holds_20 rfl ?_
      refine V_icmp_ge (tgt := 104) dL_holds_21 (by decide) rfl (fun h => absurd h (nI_ge (b := 4) hj (by decide))) (fun _ => ?_)
      refine V_iload_n (i := 1) rfl rfl dL_holds_24 rfl ?_
      refine V_aload_n (i := 0) rfl rfl dL_holds_25 rfl ?_
      refine V_iload (i := 7) rfl dL_holds_26 rfl ?_
      refine V_iconst (v := 2) (by decide) dL_holds_28 rfl ?_
      refine V_call (n := 2) (q_pl2 hx hj) o_X7_player m_L_10 ⟨by decide, by decide⟩ (by assumption) rfl rfl (by first | exact Nat.le_of_ble_eq_true rfl | simp [Value.category]) (Nat.le_refl _) (Nat.le_refl _) rfl dL_holds_29 rfl (kI ?_)
      refine V_iadd dL_holds_32 rfl ?_
      refine V_istore_n (i := 1) rfl (by decide) rfl dL_holds_33 rfl ?_
      refine V_iload_n (i := 2) rfl rfl dL_holds_34 rfl ?_
      refine V_aload_n (i := 0) rfl rfl dL_holds_35 rfl ?_
      refine V_iload (i := 7) rfl dL_holds_36 rfl ?_
      refine V_iconst (v := 1) (by decide) dL_holds_38 rfl ?_
      refine V_call (n := 2) (q_pl1 hx hj) o_X7_player m_L_10 ⟨by decide, by decide⟩ (by assumption) rfl rfl (by first | exact Nat.le_of_ble_eq_true rfl | simp [Value.category]) (Nat.le_refl _) (Nat.le_refl _) rfl dL_holds_39 rfl (kI ?_)
      refine V_sipush (v := 1000) (by decide) dL_holds_42 rfl ?_
      refine V_isub dL_holds_45 rfl ?_
      refine V_iadd dL_holds_46 rfl ?_
      rw [Int32.add_sub_cancel]
      refine V_istore_n (i := 2) rfl (by decide) rfl dL_holds_47 rfl ?_
      refine V_iload_n (i := 3) rfl rfl dL_holds_48 rfl ?_
      refine V_aload_n (i := 0) rfl rfl dL_holds_49 rfl ?_
      refine V_iload (i := 7) rfl dL_holds_50 rfl ?_
      refine V_bipush (v := 6) (by decide) dL_holds_52 rfl ?_
      refine V_call (n := 2) (q_pl6 hx hj) o_X7_player m_L_10 ⟨by decide, by decide⟩ (by assumption) rfl rfl (by first | exact Nat.le_of_ble_eq_true rfl | simp [Value.category]) (Nat.le_refl _) (Nat.le_refl _) rfl dL_holds_54 rfl (kI ?_)
      refine V_iadd dL_holds_57 rfl ?_
      refine V_istore_n (i := 3) rfl (by decide) rfl dL_holds_58 rfl ?_
      refine V_iload (i := 6) rfl dL_holds_59 rfl ?_
      refine V_aload_n (i := 0) rfl rfl dL_holds_61 rfl ?_
      refine V_iload (i := 7) rfl dL_holds_62 rfl ?_
      refine V_iconst (v := 5) (by decide) dL_holds_64 rfl ?_
      refine V_call (n := 2) (q_pl5 hx hj) o_X7_player m_L_10 ⟨by decide, by decide⟩ (by assumption) rfl rfl (by first | exact Nat.le_of_ble_eq_true rfl | simp [Value.category]) (Nat.le_refl _) (Nat.le_refl _) rfl dL_holds_65 rfl (kI ?_)
      rw [if_neg hz, ev]
      refine V_if_le (tgt := 83) dL_holds_68 (by decide) rfl (fun h => absurd h (nI_ge (a := 0) (b := pl j) pv1 (by omega))) (fun _ => ?_)
      refine V_iconst (v := 1) (by decide) dL_holds_71 rfl ?_
      refine V_aload_n (i := 0) rfl rfl dL_holds_72 rfl ?_
      refine V_iload (i := 7) rfl dL_holds_73 rfl ?_
      refine V_iconst (v := 5) (by decide) dL_holds_75 rfl ?_
      refine V_call (n := 2) (q_pl5 hx hj) o_X7_player m_L_10 ⟨by decide, by decide⟩ (by assumption) rfl rfl (by first | exact Nat.le_of_ble_eq_true rfl | simp [Value.category]) (Nat.le_refl _) (Nat.le_refl _) rfl dL_holds_76 rfl (kI ?_)
      rw [if_neg hz]
      refine V_ishl dL_holds_79 rfl ?_
      refine V_goto (tgt := 84) dL_holds_80 (by decide) ?_
      refine V_ior dL_holds_84 rfl ?_
      rw [show plF s j ||| 1 <<< (ro s j 2 &&& 31) = plF s (j + 1) from by show _ = plF s j ||| (if ro s j 2 = 0 then (0 : Int32) else (1 : Int32) <<< (ro s j 2 &&& 31)); rw [if_neg hz]]
      refine V_istore (i := 6) (by decide) rfl dL_holds_85 rfl ?_
      refine V_aload_n (i := 0) rfl rfl dL_holds_87 rfl ?_
      refine V_iload (i := 7) rfl dL_holds_88 rfl ?_
      refine V_callS (n := 2) (sp_isP l g hx hj) o_L_isPlayer m_L_44 ⟨by decide, by decide⟩ rfl rfl (by first | exact Nat.le_of_ble_eq_true rfl | simp [Value.category]) (Nat.le_refl _) (Nat.le_refl _) rfl dL_holds_90 rfl (kJ ?_)
      rintro _ I1 P1 ⟨rfl, hx1⟩
      refine V_if_ne (tgt := 98) dL_holds_93 (by decide) rfl (fun _ => ?_) (fun h => absurd h (by decide))
      refine V_iinc1 (i := 7) rfl (by decide) rfl dL_holds_98 rfl ?_
      refine V_goto (tgt := 18) dL_holds_101 (by decide) ?_
      rw [nI_1]
      exact ih (j + 1) I1 P1 (by omega) (hx.to hx1)

set_option maxHeartbeats 4000000 in
set_option maxRecDepth 100000 in
theorem lp_h2 {l : Launch} {g : fw_G} {I : fw_I} {P : fw_P} {s : Nat → Int32} {k : Nat} {h : Nat → Nat → Int32} {B : Nat} (hx : Wd I P s k h B) {Q : Option Value → fw_I → fw_P → Prop} (hk : V l g kL_holds (T0 nT) 0 0 (Q) (T0 nT) I P 0 0 213 [some (.ref (g.1 + 0)), some (.int (aSuF s 5 4)), some (.int (aSuF s 1 4)), some (.int (aSuF s 3 4)), some (.int (aCntF s 10)), some (.int (gbI s 10)), some (.int (plF s 4)), some (.int (nI 10)), none, none] []) : ∀ (m i : Nat), i + m = 10 → V l g kL_holds (T0 nT) 0 0 (Q) (T0 nT) I P 0 0 107 [some (.ref (g.1 + 0)), some (.int (aSuF s 5 4)), some (.int (aSuF s 1 4)), some (.int (aSuF s 3 4)), some (.int (aCntF s i)), some (.int (gbI s i)), some (.int (plF s 4)), some (.int (nI i)), none, none] [] := by
  have a0 := at_0 (nT := nT)
  intro m
  induction m with
  | zero =>
    intro i hi
    obtain rfl : i = 10 := by omega
    refine V_iload (i := 7) rfl dL_holds_107 rfl ?_
    refine V_bipush (v := 10) (by decide) dL_holds_109 rfl ?_
    refine V_icmp_ge (tgt := 213) dL_holds_111 (by decide) rfl (fun _ => ?_) (fun h => absurd (by decide) h)
    exact hk
  | succ m ih =>
    intro i him
    have hi : i < 10 := by omega
    by_cases h0 : 0 < sn s i 0
    · have ec : aCntF s (i + 1) = aCntF s i + 1 := by show aCntF s i + bI (0 < sn s i 0) = _; rw [bI_t h0]
      have eb : gbI s (i + 1) = gbI s i + sn s i 3 := by show gbI s i + (if 0 < sn s i 0 then sn s i 3 else 0) = _; rw [if_pos h0]
      obtain ⟨c1, sl, sl1, el⟩ := hx.2.1.2.2.2.2.1 i hi
      have hB := hx.2.1.2.1
      have es := aSnAt_is hx.2.1 hi h0
      rcases c1 with ⟨z, -⟩ | ⟨x, y, x1, x2, y1, y2, xy1, xy2, ex, ey⟩
      · rw [z] at h0; exact absurd h0 (by decide)
      obtain ⟨c, hc, et, hc1'⟩ := aTaF_ge (s := s) (q := nI y) 10 (Nat.le_refl _)
      have hc1 := hc1' i hi h0 ey
      rw [ex] at es
      refine V_iload (i := 7) rfl dL_holds_107 rfl ?_
      refine V_bipush (v := 10) (by decide) dL_holds_109 rfl ?_
      refine V_icmp_ge (tgt := 213) dL_holds_111 (by decide) rfl (fun h => absurd h (nI_ge (b := 10) hi (by decide))) (fun _ => ?_)
      refine V_aload_n (i := 0) rfl rfl dL_holds_114 rfl ?_
      refine V_iload (i := 7) rfl dL_holds_115 rfl ?_
      refine V_iconst (v := 0) (by decide) dL_holds_117 rfl ?_
      refine V_call (n := 2) (q_sn0 hx hi h0) o_X7_snakeOf m_L_48 ⟨by decide, by decide⟩ (by assumption) rfl rfl (by first | exact Nat.le_of_ble_eq_true rfl | simp [Value.category]) (Nat.le_refl _) (Nat.le_refl _) rfl dL_holds_118 rfl (kI ?_)
      rw [ex]
      refine V_istore (i := 8) (by decide) rfl dL_holds_121 rfl ?_
      refine V_iload (i := 8) rfl dL_holds_123 rfl ?_
      refine V_if_le (tgt := 207) dL_holds_125 (by decide) rfl (fun h => absurd h (nI_ge (a := 0) (b := x) (by omega) (by omega))) (fun _ => ?_)
      refine V_iload (i := 8) rfl dL_holds_128 rfl ?_
      refine V_aload_n (i := 0) rfl rfl dL_holds_130 rfl ?_
      refine V_iload (i := 7) rfl dL_holds_131 rfl ?_
      refine V_iconst (v := 1) (by decide) dL_holds_133 rfl ?_
      refine V_call (n := 2) (q_sn1 hx hi h0) o_X7_snakeOf m_L_48 ⟨by decide, by decide⟩ (by assumption) rfl rfl (by first | exact Nat.le_of_ble_eq_true rfl | simp [Value.category]) (Nat.le_refl _) (Nat.le_refl _) rfl dL_holds_134 rfl (kI ?_)
      rw [ey]
      refine V_isub dL_holds_137 rfl ?_
      rw [nI_sub (show y ≤ x by omega)]
      refine V_istore (i := 9) (by decide) rfl dL_holds_138 rfl ?_
      refine V_iinc1 (i := 4) rfl (by decide) rfl dL_holds_140 rfl ?_
      refine V_iload (i := 5) rfl dL_holds_143 rfl ?_
      refine V_aload_n (i := 0) rfl rfl dL_holds_145 rfl ?_
      refine V_iload (i := 7) rfl dL_holds_146 rfl ?_
      refine V_iconst (v := 3) (by decide) dL_holds_148 rfl ?_
      refine V_call (n := 2) (q_sn3 hx hi h0) o_X7_snakeOf m_L_48 ⟨by decide, by decide⟩ (by assumption) rfl rfl (by first | exact Nat.le_of_ble_eq_true rfl | simp [Value.category]) (Nat.le_refl _) (Nat.le_refl _) rfl dL_holds_149 rfl (kI ?_)
      refine V_iadd dL_holds_152 rfl ?_
      refine V_istore (i := 5) (by decide) rfl dL_holds_153 rfl ?_
      refine V_aload_n (i := 0) rfl rfl dL_holds_155 rfl ?_
      refine V_iload (i := 8) rfl dL_holds_156 rfl ?_
      refine V_iconst (v := 1) (by decide) dL_holds_158 rfl ?_
      refine V_call (n := 2) (q_sq1 hx (q := x) (by omega)) o_X7_square m_L_26 ⟨by decide, by decide⟩ (by assumption) rfl rfl (by first | exact Nat.le_of_ble_eq_true rfl | simp [Value.category]) (Nat.le_refl _) (Nat.le_refl _) rfl dL_holds_159 rfl (kI ?_)
      rw [es]
      refine V_iload (i := 7) rfl dL_holds_162 rfl ?_
      refine V_icmp_ne (tgt := 205) dL_holds_164 (by decide) rfl (fun h => absurd rfl h) (fun _ => ?_)
      refine V_iload (i := 9) rfl dL_holds_167 rfl ?_
      refine V_bipush (v := 6) (by decide) dL_holds_169 rfl ?_
      refine V_icmp_lt (tgt := 205) dL_holds_171 (by decide) rfl (fun h => absurd h (six_lt (by omega) (by omega))) (fun _ => ?_)
      refine V_iload (i := 9) rfl dL_holds_174 rfl ?_
      refine V_bipush (v := 40) (by decide) dL_holds_176 rfl ?_
      refine V_icmp_gt (tgt := 205) dL_holds_178 (by decide) rfl (fun h => absurd h (Int32.not_lt.mpr (nI_le (b := 40) (by omega) (by decide)))) (fun _ => ?_)
      refine V_aload_n (i := 0) rfl rfl dL_holds_181 rfl ?_
      refine V_iload (i := 7) rfl dL_holds_182 rfl ?_
      refine V_iconst (v := 2) (by decide) dL_holds_184 rfl ?_
      refine V_call (n := 2) (q_sn2 hx hi h0) o_X7_snakeOf m_L_48 ⟨by decide, by decide⟩ (by assumption) rfl rfl (by first | exact Nat.le_of_ble_eq_true rfl | simp [Value.category]) (Nat.le_refl _) (Nat.le_refl _) rfl dL_holds_185 rfl (kI ?_)
      rw [el]
      refine V_if_lt (tgt := 205) dL_holds_188 (by decide) rfl (fun h => absurd h (nI_pos (by omega))) (fun _ => ?_)
      refine V_aload_n (i := 0) rfl rfl dL_holds_191 rfl ?_
      refine V_iload (i := 8) rfl dL_holds_192 rfl ?_
      refine V_iload (i := 9) rfl dL_holds_194 rfl ?_
      refine V_isub dL_holds_196 rfl ?_
      rw [sub_sub_nI (show y ≤ x by omega)]
      refine V_iconst (v := 2) (by decide) dL_holds_197 rfl ?_
      refine V_call (n := 2) (q_sq2 hx (q := y) (by omega)) o_X7_square m_L_26 ⟨by decide, by decide⟩ (by assumption) rfl rfl (by first | exact Nat.le_of_ble_eq_true rfl | simp [Value.category]) (Nat.le_refl _) (Nat.le_refl _) rfl dL_holds_198 rfl (kI ?_)
      rw [et]
      refine V_iconst (v := 1) (by decide) dL_holds_201 rfl ?_
      refine V_icmp_ge (tgt := 207) dL_holds_202 (by decide) rfl (fun _ => ?_) (fun h => absurd (nI_le (a := 1) hc1 (by omega)) h)
      refine V_iinc1 (i := 7) rfl (by decide) rfl dL_holds_207 rfl ?_
      refine V_goto (tgt := 107) dL_holds_210 (by decide) ?_
      refine V_forget 8 rfl ?_
      refine V_forget 9 rfl ?_
      rw [nI_1]
      have h9 := ih (i + 1) (by omega)
      rw [ec, eb] at h9
      exact h9
    · have ec : aCntF s (i + 1) = aCntF s i := by show aCntF s i + bI (0 < sn s i 0) = _; rw [bI_f h0, Int32.add_zero]
      have eb : gbI s (i + 1) = gbI s i := by show gbI s i + (if 0 < sn s i 0 then sn s i 3 else 0) = _; rw [if_neg h0, Int32.add_zero]
      refine V_iload (i := 7) rfl dL_holds_107 rfl ?_
      refine V_bipush (v := 10) (by decide) dL_holds_109 rfl ?_
      refine V_icmp_ge (tgt := 213) dL_holds_111 (by decide) rfl (fun h => absurd h (nI_ge (b := 10) hi (by decide))) (fun _ => ?_)
      refine V_aload_n (i := 0) rfl rfl dL_holds_114 rfl ?_
      refine V_iload (i := 7) rfl dL_holds_115 rfl ?_
      refine V_iconst (v := 0) (by decide) dL_holds_117 rfl ?_
      refine V_call (n := 2) (q_sn0n hx hi h0) o_X7_snakeOf m_L_48 ⟨by decide, by decide⟩ (by assumption) rfl rfl (by first | exact Nat.le_of_ble_eq_true rfl | simp [Value.category]) (Nat.le_refl _) (Nat.le_refl _) rfl dL_holds_118 rfl (kI ?_)
      refine V_istore (i := 8) (by decide) rfl dL_holds_121 rfl ?_
      refine V_iload (i := 8) rfl dL_holds_123 rfl ?_
      refine V_if_le (tgt := 207) dL_holds_125 (by decide) rfl (fun _ => ?_) (fun h => absurd (by decide) h)
      refine V_iinc1 (i := 7) rfl (by decide) rfl dL_holds_207 rfl ?_
      refine V_goto (tgt := 107) dL_holds_210 (by decide) ?_
      refine V_forget 8 rfl ?_
      rw [nI_1]
      have h9 := ih (i + 1) (by omega)
      rw [ec, eb] at h9
      exact h9

set_option maxHeartbeats 4000000 in
set_option maxRecDepth 100000 in
theorem lc_h3 {l : Launch} {g : fw_G} {I : fw_I} {P : fw_P} {s : Nat → Int32} {k : Nat} {h : Nat → Nat → Int32} {B : Nat} (hx : Wd I P s k h B) : V l g kL_holds (T0 nT) 0 0 (qJ (fun r I1 P1 => r = 1 ∧ Sx I1 P1 s k h)) (T0 nT) I P 0 0 213 [some (.ref (g.1 + 0)), some (.int (aSuF s 5 4)), some (.int (aSuF s 1 4)), some (.int (aSuF s 3 4)), some (.int (aCntF s 10)), some (.int (gbI s 10)), some (.int (plF s 4)), some (.int (nI 10)), none, none] [] := by
  have a0 := at_0 (nT := nT)
  have e40 := coins40 hx.2.2.2.1
  have eb5 := hx.2.2.2.2.1.2
  obtain ⟨b, b1, b2, b3, b4, b5⟩ := hx.2.2.1
  have hB := hx.2.1.2.1
  have hb1 : ¬ aSuF s 3 4 < gbI s 10 := by
    rw [eb5, b2, gbI_n (fun i hi => (b4 i hi).elim fun f z => ⟨f, by omega, z.2⟩) 10 (Nat.le_refl _)]
    exact Int32.not_lt.mpr (nI_le b5 (by omega))
  have hb2 : ¬ aSuF s 3 4 < aSuF s 5 4 := by
    rw [eb5, b2, held_n hx.2.1]
    exact Int32.not_lt.mpr (nI_le b3 (by omega))
  have eh : s 4 = nI (home s) := hx.2.1.2.2.2.2.2.2.2.1
  have hl := home_le s
  obtain ⟨f1, f2, f3⟩ := five4 hl
  have epl : plF s 4 = (1 : Int32) <<< ((5 - (4 - s 4)) &&& 31) - 2 := by rw [places_ok hx.2.2.2.2.2.2, eh, f1]
  obtain ⟨m, hm, em, hm2, -⟩ := hx.2.1.2.2.2.2.2.2.2.2
  by_cases h4 : s 4 = 4
  · have e40z : (4 : Int32) - s 4 = 0 := by rw [h4]; decide
    refine V_aload_n (i := 0) rfl rfl dL_holds_213 rfl ?_
    refine V_iconst (v := 1) (by decide) dL_holds_214 rfl ?_
    refine V_call (n := 1) (q_ct1 hx) o_X7_count m_L_38 ⟨by decide, by decide⟩ (by assumption) rfl rfl (by first | exact Nat.le_of_ble_eq_true rfl | simp [Value.category]) (Nat.le_refl _) (Nat.le_refl _) rfl dL_holds_215 rfl (kI ?_)
    rw [if_pos h4]
    refine V_istore (i := 7) (by decide) rfl dL_holds_218 rfl ?_
    refine V_aload_n (i := 0) rfl rfl dL_holds_220 rfl ?_
    refine V_iconst (v := 2) (by decide) dL_holds_221 rfl ?_
    refine V_call (n := 1) (q_ct2 hx) o_X7_count m_L_38 ⟨by decide, by decide⟩ (by assumption) rfl rfl (by first | exact Nat.le_of_ble_eq_true rfl | simp [Value.category]) (Nat.le_refl _) (Nat.le_refl _) rfl dL_holds_222 rfl (kI ?_)
    refine V_istore (i := 8) (by decide) rfl dL_holds_225 rfl ?_
    refine V_aload_n (i := 0) rfl rfl dL_holds_227 rfl ?_
    refine V_bipush (v := 7) (by decide) dL_holds_228 rfl ?_
    refine V_call (n := 1) (q_ct7 hx) o_X7_count m_L_38 ⟨by decide, by decide⟩ (by assumption) rfl rfl (by first | exact Nat.le_of_ble_eq_true rfl | simp [Value.category]) (Nat.le_refl _) (Nat.le_refl _) rfl dL_holds_230 rfl (kI ?_)
    rw [e40]
    refine V_bipush (v := 40) (by decide) dL_holds_233 rfl ?_
    refine V_icmp_ne (tgt := 342) dL_holds_235 (by decide) rfl (fun h => absurd rfl h) (fun _ => ?_)
    refine V_iload_n (i := 2) rfl rfl dL_holds_238 rfl ?_
    refine V_bipush (v := 40) (by decide) dL_holds_239 rfl ?_
    refine V_icmp_ne (tgt := 342) dL_holds_241 (by decide) rfl (fun h => absurd rfl h) (fun _ => ?_)
    refine V_aload_n (i := 0) rfl rfl dL_holds_244 rfl ?_
    refine V_iconst (v := 4) (by decide) dL_holds_245 rfl ?_
    refine V_call (n := 1) (q_ct4 hx) o_X7_count m_L_38 ⟨by decide, by decide⟩ (by assumption) rfl rfl (by first | exact Nat.le_of_ble_eq_true rfl | simp [Value.category]) (Nat.le_refl _) (Nat.le_refl _) rfl dL_holds_246 rfl (kI ?_)
    refine V_iload_n (i := 1) rfl rfl dL_holds_249 rfl ?_
    refine V_icmp_ne (tgt := 342) dL_holds_250 (by decide) rfl (fun h => absurd rfl h) (fun _ => ?_)
    refine V_aload_n (i := 0) rfl rfl dL_holds_253 rfl ?_
    refine V_iconst (v := 5) (by decide) dL_holds_254 rfl ?_
    refine V_call (n := 1) (q_ct5 hx) o_X7_count m_L_38 ⟨by decide, by decide⟩ (by assumption) rfl rfl (by first | exact Nat.le_of_ble_eq_true rfl | simp [Value.category]) (Nat.le_refl _) (Nat.le_refl _) rfl dL_holds_255 rfl (kI ?_)
    refine V_iload_n (i := 3) rfl rfl dL_holds_258 rfl ?_
    refine V_icmp_ne (tgt := 342) dL_holds_259 (by decide) rfl (fun h => absurd eb5.symm h) (fun _ => ?_)
    refine V_iload (i := 5) rfl dL_holds_262 rfl ?_
    refine V_iload_n (i := 3) rfl rfl dL_holds_264 rfl ?_
    refine V_icmp_gt (tgt := 342) dL_holds_265 (by decide) rfl (fun h => absurd h hb1) (fun _ => ?_)
    refine V_iload_n (i := 1) rfl rfl dL_holds_268 rfl ?_
    refine V_iload_n (i := 3) rfl rfl dL_holds_269 rfl ?_
    refine V_icmp_gt (tgt := 342) dL_holds_270 (by decide) rfl (fun h => absurd h hb2) (fun _ => ?_)
    refine V_aload_n (i := 0) rfl rfl dL_holds_273 rfl ?_
    refine V_iconst (v := 3) (by decide) dL_holds_274 rfl ?_
    refine V_call (n := 1) (q_ct3 hx) o_X7_count m_L_38 ⟨by decide, by decide⟩ (by assumption) rfl rfl (by first | exact Nat.le_of_ble_eq_true rfl | simp [Value.category]) (Nat.le_refl _) (Nat.le_refl _) rfl dL_holds_275 rfl (kI ?_)
    refine V_iload (i := 4) rfl dL_holds_278 rfl ?_
    refine V_icmp_ne (tgt := 342) dL_holds_280 (by decide) rfl (fun h => absurd rfl h) (fun _ => ?_)
    refine V_iload (i := 7) rfl dL_holds_283 rfl ?_
    refine V_bipush (v := (-5)) (by decide) dL_holds_285 rfl ?_
    refine V_icmp_ne (tgt := 294) dL_holds_287 (by decide) rfl (fun h => absurd rfl h) (fun _ => ?_)
    refine V_iconst (v := 1) (by decide) dL_holds_290 rfl ?_
    refine V_goto (tgt := 295) dL_holds_291 (by decide) ?_
    refine V_iload (i := 8) rfl dL_holds_295 rfl ?_
    refine V_if_ne (tgt := 304) dL_holds_297 (by decide) rfl (fun h => absurd e40z h) (fun _ => ?_)
    refine V_iconst (v := 1) (by decide) dL_holds_300 rfl ?_
    refine V_goto (tgt := 305) dL_holds_301 (by decide) ?_
    refine V_icmp_ne (tgt := 342) dL_holds_305 (by decide) rfl (fun h => absurd rfl h) (fun _ => ?_)
    refine V_iload (i := 7) rfl dL_holds_308 rfl ?_
    refine V_if_lt (tgt := 325) dL_holds_310 (by decide) rfl (fun _ => ?_) (fun h => absurd (by decide) h)
    refine V_iload (i := 6) rfl dL_holds_325 rfl ?_
    refine V_iconst (v := 1) (by decide) dL_holds_327 rfl ?_
    refine V_iconst (v := 5) (by decide) dL_holds_328 rfl ?_
    refine V_iload (i := 8) rfl dL_holds_329 rfl ?_
    refine V_isub dL_holds_331 rfl ?_
    refine V_ishl dL_holds_332 rfl ?_
    refine V_iconst (v := 2) (by decide) dL_holds_333 rfl ?_
    refine V_isub dL_holds_334 rfl ?_
    refine V_icmp_ne (tgt := 342) dL_holds_335 (by decide) rfl (fun h => absurd epl h) (fun _ => ?_)
    refine V_iconst (v := 1) (by decide) dL_holds_338 rfl ?_
    refine V_goto (tgt := 343) dL_holds_339 (by decide) ?_
    exact V_ireturn rfl (by decide) dL_holds_343 rfl rfl rfl (⟨_, rfl, rfl, hx.1⟩)
  · have n40z : ¬ s 4 = 4 → ¬ (4 : Int32) - s 4 = 0 := fun z => by
      rw [eh]
      exact f2 (fun w => z (by rw [eh, w]; rfl))
    refine V_aload_n (i := 0) rfl rfl dL_holds_213 rfl ?_
    refine V_iconst (v := 1) (by decide) dL_holds_214 rfl ?_
    refine V_call (n := 1) (q_ct1 hx) o_X7_count m_L_38 ⟨by decide, by decide⟩ (by assumption) rfl rfl (by first | exact Nat.le_of_ble_eq_true rfl | simp [Value.category]) (Nat.le_refl _) (Nat.le_refl _) rfl dL_holds_215 rfl (kI ?_)
    rw [if_neg h4, em]
    refine V_istore (i := 7) (by decide) rfl dL_holds_218 rfl ?_
    refine V_aload_n (i := 0) rfl rfl dL_holds_220 rfl ?_
    refine V_iconst (v := 2) (by decide) dL_holds_221 rfl ?_
    refine V_call (n := 1) (q_ct2 hx) o_X7_count m_L_38 ⟨by decide, by decide⟩ (by assumption) rfl rfl (by first | exact Nat.le_of_ble_eq_true rfl | simp [Value.category]) (Nat.le_refl _) (Nat.le_refl _) rfl dL_holds_222 rfl (kI ?_)
    refine V_istore (i := 8) (by decide) rfl dL_holds_225 rfl ?_
    refine V_aload_n (i := 0) rfl rfl dL_holds_227 rfl ?_
    refine V_bipush (v := 7) (by decide) dL_holds_228 rfl ?_
    refine V_call (n := 1) (q_ct7 hx) o_X7_count m_L_38 ⟨by decide, by decide⟩ (by assumption) rfl rfl (by first | exact Nat.le_of_ble_eq_true rfl | simp [Value.category]) (Nat.le_refl _) (Nat.le_refl _) rfl dL_holds_230 rfl (kI ?_)
    rw [e40]
    refine V_bipush (v := 40) (by decide) dL_holds_233 rfl ?_
    refine V_icmp_ne (tgt := 342) dL_holds_235 (by decide) rfl (fun h => absurd rfl h) (fun _ => ?_)
    refine V_iload_n (i := 2) rfl rfl dL_holds_238 rfl ?_
    refine V_bipush (v := 40) (by decide) dL_holds_239 rfl ?_
    refine V_icmp_ne (tgt := 342) dL_holds_241 (by decide) rfl (fun h => absurd rfl h) (fun _ => ?_)
    refine V_aload_n (i := 0) rfl rfl dL_holds_244 rfl ?_
    refine V_iconst (v := 4) (by decide) dL_holds_245 rfl ?_
    refine V_call (n := 1) (q_ct4 hx) o_X7_count m_L_38 ⟨by decide, by decide⟩ (by assumption) rfl rfl (by first | exact Nat.le_of_ble_eq_true rfl | simp [Value.category]) (Nat.le_refl _) (Nat.le_refl _) rfl dL_holds_246 rfl (kI ?_)
    refine V_iload_n (i := 1) rfl rfl dL_holds_249 rfl ?_
    refine V_icmp_ne (tgt := 342) dL_holds_250 (by decide) rfl (fun h => absurd rfl h) (fun _ => ?_)
    refine V_aload_n (i := 0) rfl rfl dL_holds_253 rfl ?_
    refine V_iconst (v := 5) (by decide) dL_holds_254 rfl ?_
    refine V_call (n := 1) (q_ct5 hx) o_X7_count m_L_38 ⟨by decide, by decide⟩ (by assumption) rfl rfl (by first | exact Nat.le_of_ble_eq_true rfl | simp [Value.category]) (Nat.le_refl _) (Nat.le_refl _) rfl dL_holds_255 rfl (kI ?_)
    refine V_iload_n (i := 3) rfl rfl dL_holds_258 rfl ?_
    refine V_icmp_ne (tgt := 342) dL_holds_259 (by decide) rfl (fun h => absurd eb5.symm h) (fun _ => ?_)
    refine V_iload (i := 5) rfl dL_holds_262 rfl ?_
    refine V_iload_n (i := 3) rfl rfl dL_holds_264 rfl ?_
    refine V_icmp_gt (tgt := 342) dL_holds_265 (by decide) rfl (fun h => absurd h hb1) (fun _ => ?_)
    refine V_iload_n (i := 1) rfl rfl dL_holds_268 rfl ?_
    refine V_iload_n (i := 3) rfl rfl dL_holds_269 rfl ?_
    refine V_icmp_gt (tgt := 342) dL_holds_270 (by decide) rfl (fun h => absurd h hb2) (fun _ => ?_)
    refine V_aload_n (i := 0) rfl rfl dL_holds_273 rfl ?_
    refine V_iconst (v := 3) (by decide) dL_holds_274 rfl ?_
    refine V_call (n := 1) (q_ct3 hx) o_X7_count m_L_38 ⟨by decide, by decide⟩ (by assumption) rfl rfl (by first | exact Nat.le_of_ble_eq_true rfl | simp [Value.category]) (Nat.le_refl _) (Nat.le_refl _) rfl dL_holds_275 rfl (kI ?_)
    refine V_iload (i := 4) rfl dL_holds_278 rfl ?_
    refine V_icmp_ne (tgt := 342) dL_holds_280 (by decide) rfl (fun h => absurd rfl h) (fun _ => ?_)
    refine V_iload (i := 7) rfl dL_holds_283 rfl ?_
    refine V_bipush (v := (-5)) (by decide) dL_holds_285 rfl ?_
    refine V_icmp_ne (tgt := 294) dL_holds_287 (by decide) rfl (fun _ => ?_) (fun h => absurd h (nI_ne5 (by omega)))
    refine V_iconst (v := 0) (by decide) dL_holds_294 rfl ?_
    refine V_iload (i := 8) rfl dL_holds_295 rfl ?_
    refine V_if_ne (tgt := 304) dL_holds_297 (by decide) rfl (fun _ => ?_) (fun h => absurd h (n40z h4))
    refine V_iconst (v := 0) (by decide) dL_holds_304 rfl ?_
    refine V_icmp_ne (tgt := 342) dL_holds_305 (by decide) rfl (fun h => absurd rfl h) (fun _ => ?_)
    refine V_iload (i := 7) rfl dL_holds_308 rfl ?_
    refine V_if_lt (tgt := 325) dL_holds_310 (by decide) rfl (fun h => absurd h (nI_pos (by omega))) (fun _ => ?_)
    refine V_aload_n (i := 0) rfl rfl dL_holds_313 rfl ?_
    refine V_iload (i := 7) rfl dL_holds_314 rfl ?_
    refine V_iconst (v := 5) (by decide) dL_holds_316 rfl ?_
    refine V_call (n := 2) (q_pl5 hx hm) o_X7_player m_L_10 ⟨by decide, by decide⟩ (by assumption) rfl rfl (by first | exact Nat.le_of_ble_eq_true rfl | simp [Value.category]) (Nat.le_refl _) (Nat.le_refl _) rfl dL_holds_317 rfl (kI ?_)
    rw [if_pos (hm2 h4)]
    refine V_bipush (v := (-5)) (by decide) dL_holds_320 rfl ?_
    refine V_icmp_ne (tgt := 342) dL_holds_322 (by decide) rfl (fun h => absurd rfl h) (fun _ => ?_)
    refine V_iload (i := 6) rfl dL_holds_325 rfl ?_
    refine V_iconst (v := 1) (by decide) dL_holds_327 rfl ?_
    refine V_iconst (v := 5) (by decide) dL_holds_328 rfl ?_
    refine V_iload (i := 8) rfl dL_holds_329 rfl ?_
    refine V_isub dL_holds_331 rfl ?_
    refine V_ishl dL_holds_332 rfl ?_
    refine V_iconst (v := 2) (by decide) dL_holds_333 rfl ?_
    refine V_isub dL_holds_334 rfl ?_
    refine V_icmp_ne (tgt := 342) dL_holds_335 (by decide) rfl (fun h => absurd epl h) (fun _ => ?_)
    refine V_iconst (v := 1) (by decide) dL_holds_338 rfl ?_
    refine V_goto (tgt := 343) dL_holds_339 (by decide) ?_
    exact V_ireturn rfl (by decide) dL_holds_343 rfl rfl rfl (⟨_, rfl, rfl, hx.1⟩)

set_option maxHeartbeats 4000000 in
set_option maxRecDepth 100000 in
theorem sp_holds (l : Launch) (g : fw_G) {I : fw_I} {P : fw_P} {s : Nat → Int32} {k : Nat} {h : Nat → Nat → Int32} {B : Nat} (hx : Wd I P s k h B) : Sp l g kL_holds (T0 nT) [.ref (g.1 + 0)] I P (T0 nT) 0 0 (qJ (fun r I1 P1 => r = 1 ∧ Sx I1 P1 s k h)) := by
  have a0 := at_0 (nT := nT)
  refine Sp.of_V (L := [some (.ref (g.1 + 0)), none, none, none, none, none, none, none, none, none]) (by decide) (by simp [Value.category]) (Nat.le_of_ble_eq_true rfl) rfl ?_
  have K104 : ∀ I P, Wd I P s k h B → V l g kL_holds (T0 nT) 0 0 (qJ (fun r I1 P1 => r = 1 ∧ Sx I1 P1 s k h)) (T0 nT) I P 0 0 104 [some (.ref (g.1 + 0)), some (.int (aSuF s 5 4)), some (.int (aSuF s 1 4)), some (.int (aSuF s 3 4)), some (.int 0), some (.int 0), some (.int (plF s 4)), some (.int (nI 4)), none, none] [] := by
    intro I P hx
    refine V_iconst (v := 0) (by decide) dL_holds_104 rfl ?_
    refine V_istore (i := 7) (by decide) rfl dL_holds_105 rfl ?_
    exact lp_h2 hx (lc_h3 hx) 10 0 rfl
  refine V_iconst (v := 0) (by decide) dL_holds_0 rfl ?_
  refine V_istore_n (i := 1) rfl (by decide) rfl dL_holds_1 rfl ?_
  refine V_iconst (v := 0) (by decide) dL_holds_2 rfl ?_
  refine V_istore_n (i := 2) rfl (by decide) rfl dL_holds_3 rfl ?_
  refine V_iconst (v := 0) (by decide) dL_holds_4 rfl ?_
  refine V_istore_n (i := 3) rfl (by decide) rfl dL_holds_5 rfl ?_
  refine V_iconst (v := 0) (by decide) dL_holds_6 rfl ?_
  refine V_istore (i := 4) (by decide) rfl dL_holds_7 rfl ?_
  refine V_iconst (v := 0) (by decide) dL_holds_9 rfl ?_
  refine V_istore (i := 5) (by decide) rfl dL_holds_10 rfl ?_
  refine V_iconst (v := 0) (by decide) dL_holds_12 rfl ?_
  refine V_istore (i := 6) (by decide) rfl dL_holds_13 rfl ?_
  refine V_iconst (v := 0) (by decide) dL_holds_15 rfl ?_
  refine V_istore (i := 7) (by decide) rfl dL_holds_16 rfl ?_
  exact lp_h1 (fun I2 P2 hx2 => K104 I2 P2 hx2) 4 0 I P rfl hx
