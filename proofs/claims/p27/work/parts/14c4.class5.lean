variable {nT : Nat}
theorem St.add {I J : fw_I} {P : fw_P} {ra : Nat} {s : Nat → Int32} (hS : RSh P ra) (h : St I P ra s J) {p n b : Nat} (hp : p < 4) (hn : aMany s p = n) (hn16 : n < 16) (hb : P (ra + 3 + 18 * p) n = some b) (x y z w : Int32) : St I P ra (upd (bt4 s (wi p n) x y z w) (8 + 6 * p + 5) (nI (n + 1))) (b4 (up2 J (ra + 2 + 18 * p) 1 (nI (n + 1))) b x y z w) := by
  obtain ⟨c, hc, e⟩ := hS.bt hp hn16 hb
  exact ⟨h.1.add hS hp hn hn16 hb x y z w, by rw [b4_ne _ _ _ _ _ (by omega), up2_ne _ _ _ (by omega)]; exact h.2.1, fun b' hb' => by rw [b4_ne _ _ _ _ _ (by omega), up2_ne _ _ _ (by omega)]; exact h.2.2 b' hb'⟩
def bitR1 (s : Nat → Int32) (p k n : Nat) : Nat → Int32 := upd (bt4 s (wi p n) (sn s k 0 - sn s k 1) 0 (nI p) (1 <<< (nI p &&& 31))) (8 + 6 * p + 5) (nI (n + 1))
def bitR2 (s : Nat → Int32) (p k n : Nat) : Nat → Int32 := upd (bitR1 s p k n) (352 + 4 * k + 3) (sn (bitR1 s p k n) k 3 + 1)
def bitR3 (s : Nat → Int32) (p k n : Nat) : Nat → Int32 := upd (bitR2 s p k n) (352 + 4 * k + 2) (bitR2 s p k n 5 + 1)
def bitR4 (s : Nat → Int32) (p k n : Nat) : Nat → Int32 := upd (bitR3 s p k n) (8 + 6 * p + 3) (ro (bitR3 s p k n) p 3 + 1)
def bitR (s : Nat → Int32) (p k n : Nat) : Nat → Int32 := upd (bitR4 s p k n) 2 (bitR4 s p k n 2 + 1)
theorem bitR1_s {s : Nat → Int32} {p n k : Nat} (hp : p < 4) (hn : n < 16) (hk : k < 10) (h : 0 < sn s k 0) : 0 < sn (bitR1 s p k n) k 0 := by
  have hwi := wi_lt (p := p) (k := n) hp (by omega)
  unfold sn bitR1
  simp (disch := omega) only [upd_ne, bt4_ne]
  exact h
/-- in whatever order the row is written -/
theorem bitR_eq {s : Nat → Int32} {p n k : Nat} {q : Int32} (hp : p < 4) (hn : n < 16) (hk : k < 10) (hm : aMany s p = n) (h5 : ro s p 5 = nI n) (hq : aSnAt s q = nI k) (j : Nat) : aBit s p q j = bitR s p k n j := by
  have hwi := wi_lt (p := p) (k := n) hp (by omega)
  have h32 : 32 ≤ wi p n := by unfold wi; omega
  have e5 : s (8 + 6 * p + 5) = nI n := h5
  unfold aBit aGet bitR bitR4 bitR3 bitR2 bitR1 bt4 aAdd ro sn
  rw [hq, nI_clamp (by omega), hm]
  rcases (show j = 2 ∨ j = 8 + 6 * p + 3 ∨ j = 8 + 6 * p + 5 ∨ j = 352 + 4 * k + 2 ∨ j = 352 + 4 * k + 3 ∨ (¬ j = 2 ∧ ¬ j = 8 + 6 * p + 3 ∧ ¬ j = 8 + 6 * p + 5 ∧ ¬ j = 352 + 4 * k + 2 ∧ ¬ j = 352 + 4 * k + 3) by omega) with rfl | rfl | rfl | rfl | rfl | ⟨g1, g2, g3, g4, g5⟩
  all_goals simp (disch := omega) only [upd_ne, upd_eq]
  rw [e5, nI_1]
theorem aT3_many {s : Nat → Int32} {p : Nat} (q : Int32) : aMany (aT3 s p q) p = 0 := by
  unfold aMany
  rw [aT3_ro s q (by decide), if_pos rfl, if_neg (by decide), if_neg (by decide), if_pos rfl]
  rfl
theorem aT3_hi (s : Nat → Int32) {p : Nat} (q : Int32) {j : Nat} (hp : p < 4) (h : 32 ≤ j) : aT3 s p q j = s j := by
  unfold aT3 aT2 aT1
  rw [aAdd_hi _ _ hp (by decide) h, aAdd_hi _ _ hp (by decide) h, aAdd_hi _ _ hp (by decide) h]
theorem St.hurt {I : fw_I} {P : fw_P} {ra : Nat} {s : Nat → Int32} (hS : RSh P ra) (h : RRel I P ra s) {p : Nat} (hp : p < 4) (q : Int32) (x : Int32) : St I P ra (aT3 s p q) (up2 (up2 (up2 (up2 I (ra + 2 + 18 * p) 6 (ro s p 4 + (ro s p 0 - aBeg s p))) (ra + 2 + 18 * p) 2 x) (ra + 2 + 18 * p) 1 0) (ra + 2 + 18 * p) 2 q) := by
  have hne : ∀ b, b ≠ ra + 2 + 18 * p → (up2 (up2 (up2 (up2 I (ra + 2 + 18 * p) 6 (ro s p 4 + (ro s p 0 - aBeg s p))) (ra + 2 + 18 * p) 2 x) (ra + 2 + 18 * p) 1 0) (ra + 2 + 18 * p) 2 q) b = I b := fun b hb => by rw [up2_ne _ _ _ hb, up2_ne _ _ _ hb, up2_ne _ _ _ hb, up2_ne _ _ _ hb]
  refine ⟨RRel.of hS h (fun p' hp' f a b => ?_) (fun p' hp' k hk hm => ?_) (fun i hi => ?_) (fun f a b c => ?_), ?_, fun b hb => hne b (by omega)⟩
  · by_cases e : p' = p
    · subst e
      unfold pcv
      rw [aT3_ro s q (by decide), aT3_ro s q (by decide), aT3_ro s q (by decide), aT3_ro s q (by decide), aT3_ro s q (by decide), aT3_ro s q (by decide)]
      simp only [if_true]
      rcases (show f = 1 ∨ f = 2 ∨ f = 3 ∨ f = 4 ∨ f = 5 ∨ f = 6 by omega) with rfl | rfl | rfl | rfl | rfl | rfl <;> simp [up2_at, h.p3 hp, h.p4 hp, h.p5 hp]
    · rw [hne _ (by omega), h.1 p' hp' f a b]
      exact (pcv_eq (fun w hw => by rw [aT3_ro s q hw, if_neg e])).symm
  · by_cases e : p' = p
    · subst e; rw [aT3_many] at hm; omega
    · rw [aMany_eq (s := s) (by rw [aT3_ro s q (by decide), if_neg e])] at hm
      have := wi_lt (p := p') (k := k) hp' (by omega)
      exact ⟨hm, fun c hc f hf => by rw [hne _ (by omega)], fun f hf => aT3_hi s q hp (by unfold wi; omega)⟩
  · unfold sn
    rw [hne _ (by omega), aT3_hi s q hp (by omega), aT3_hi s q hp (by omega), aT3_hi s q hp (by omega), aT3_hi s q hp (by omega)]
    exact h.2.2.1 i hi
  · rw [hne _ (by omega), h.2.2.2 f a b c]
    exact (rcv_eq (fun j hj _ => aT3_lo s p q hj)).symm
  · rw [hne _ (by omega)]
/-- snakes that are away don't sleep -/
def iSz (s : Nat → Int32) : Prop := ∀ i, i < 10 → ¬ 0 < sn s i 0 → sn s i 2 = 0
theorem Inv.iSz {B : Nat} {s : Nat → Int32} (h : Inv B s) : iSz s := fun i hi hn => by
  rcases (h.2.2.2.2.1 i hi).1 with ⟨-, e⟩ | ⟨h', t, h1, h2, -, -, -, -, e, -⟩
  · exact e
  · exact absurd (by rw [e]; exact nI_lt (a := 0) (by omega) (by omega)) hn
theorem aSlF_s (s : Nat → Int32) {i f : Nat} (hf : f < 4) : ∀ n, (n ≤ i ∨ ¬ f = 2) → sn (aSlF s n) i f = sn s i f
  | 0, _ => rfl
  | n + 1, h => by
    rw [← aSlF_s s hf n (by omega)]
    show upd (aSlF s n) (352 + 4 * n + 2) _ (352 + 4 * i + f) = aSlF s n (352 + 4 * i + f)
    exact upd_ne (i := 352 + 4 * n + 2) (j := 352 + 4 * i + f) _ (by omega)
theorem St.sl {I J : fw_I} {P : fw_P} {ra : Nat} {s : Nat → Int32} (hS : RSh P ra) {j : Nat} (hj : j < 10) (h : St I P ra (aSlF s j) J) (h0 : ¬ 0 < sn (aSlF s j) j 2) : St I P ra (aSlF s (j + 1)) J := by
  refine h.cg hS (fun i _ => ?_)
  show upd (aSlF s j) (352 + 4 * j + 2) _ i = _
  rw [bI_f h0, Int32.sub_zero, upd_at]
  by_cases e : i = 352 + 4 * j + 2
  · rw [if_pos e, e]
  · rw [if_neg e]
/-- the next in the race behind p; -5 if there is none -/
def mvX (s : Nat → Int32) (p : Nat) : Int32 := if ¬ ro s ((p + 1) % 4) 0 = 60 then nI ((p + 1) % 4) else if ¬ ro s ((p + 2) % 4) 0 = 60 then nI ((p + 2) % 4) else if ¬ ro s ((p + 3) % 4) 0 = 60 then nI ((p + 3) % 4) else if ¬ ro s ((p + 4) % 4) 0 = 60 then nI ((p + 4) % 4) else -5
theorem mvX_at {s : Nat → Int32} {p j : Nat} (h1 : 1 ≤ j) (h4 : j ≤ 4) (h : ∀ i, 1 ≤ i → i < j → ro s ((p + i) % 4) 0 = 60) (hj : ¬ ro s ((p + j) % 4) 0 = 60) : mvX s p = nI ((p + j) % 4) := by
  unfold mvX
  rcases (show j = 1 ∨ j = 2 ∨ j = 3 ∨ j = 4 by omega) with rfl | rfl | rfl | rfl
  · rw [if_pos hj]
  · rw [if_neg (fun z => z (h 1 (by decide) (by decide))), if_pos hj]
  · rw [if_neg (fun z => z (h 1 (by decide) (by decide))), if_neg (fun z => z (h 2 (by decide) (by decide))), if_pos hj]
  · rw [if_neg (fun z => z (h 1 (by decide) (by decide))), if_neg (fun z => z (h 2 (by decide) (by decide))), if_neg (fun z => z (h 3 (by decide) (by decide))), if_pos hj]
theorem mvX_no {s : Nat → Int32} {p : Nat} (h : ∀ i, 1 ≤ i → i < 5 → ro s ((p + i) % 4) 0 = 60) : mvX s p = -5 := by
  unfold mvX
  rw [if_neg (fun z => z (h 1 (by decide) (by decide))), if_neg (fun z => z (h 2 (by decide) (by decide))), if_neg (fun z => z (h 3 (by decide) (by decide))), if_neg (fun z => z (h 4 (by decide) (by decide)))]
theorem rem4 : ∀ p, p < 4 → ∀ j, j < 5 → nI (p + j) - nI (p + j) / 4 * 4 = nI ((p + j) % 4) := by decide +kernel
set_option maxHeartbeats 4000000 in
set_option maxRecDepth 100000 in
theorem sp_biteWith (l : Launch) (g : fw_G) {I : fw_I} {P : fw_P} {ra : Nat} {s : Nat → Int32} (hr : isRc ra) (hS : RSh P ra) (hR : RRel I P ra s) {p n k : Nat} (hp : p < 4) (hm : aMany s p = n) (hn : ro s p 5 = nI n) (hn16 : n < 16) (hk : k < 10) (hps : 0 < sn s k 0) : Sp l g kX3_biteWith (T0 nT) [.ref (g.1 + ra), .ref (g.1 + (ra + 75 + k)), .ref (g.1 + (ra + 2 + 18 * p)), .int (nI p)] I P (T0 nT) 0 0 (qV (fun I1 P1 => St I P ra (bitR s p k n) I1 ∧ P1 = P)) := by
  have ara := at_race (nT := nT) hr
  have apc := at_pieces (nT := nT) hr
  have asn := at_snakes (nT := nT) hr
  obtain ⟨h0, h1, hpp, hpb, hbb, hinj, hsn⟩ := id hS
  have hap := at_piece (nT := nT) hr hp
  have hab := at_bites (nT := nT) hr hp
  have hask := at_snake (nT := nT) hr hk
  obtain ⟨b, hb, hat⟩ := RSh.BtS (nT := nT) hr hS hp n hn16
  refine Sp.of_V (L := [some (.ref (g.1 + ra)), some (.ref (g.1 + (ra + 75 + k))), some (.ref (g.1 + (ra + 2 + 18 * p))), some (.int (nI p)), none]) (by decide) (by simp [Value.category]) (Nat.le_of_ble_eq_true rfl) rfl ?_
  refine V_aload_n (i := 2) rfl rfl dX3_biteWith_0 rfl ?_
  refine V_call (n := 0) (sp_Piece_newLast l g hap hab (hpb p hp) (by rw [hR.p1 hp]; exact hn) hn16) o_X2_newLast m_X3_131 ⟨by decide, by decide⟩ (by assumption) rfl rfl (by first | exact Nat.le_of_ble_eq_true rfl | simp [Value.category]) (Nat.le_refl _) (Nat.le_refl _) rfl dX3_biteWith_1 rfl (kS ?_)
  rintro _ _ _ ⟨rfl, rfl, hP⟩
  rw [hP, hb]
  refine V_astore (i := 4) (by decide) rfl dX3_biteWith_4 rfl ?_
  refine V_aload (i := 4) rfl dX3_biteWith_6 rfl ?_
  refine V_ifnull_s dX3_biteWith_8 rfl ?_
  refine V_aload (i := 4) rfl dX3_biteWith_11 rfl ?_
  refine V_aload_n (i := 1) rfl rfl dX3_biteWith_13 rfl ?_
  refine V_get (kf := 0) C6 (by decide) l_X3_76 (by assumption) rfl dX3_biteWith_14 rfl ?_
  rw [up2_ne (b := ra + 75 + k) _ _ _ (by omega), hR.s0 hk]
  refine V_aload_n (i := 1) rfl rfl dX3_biteWith_17 rfl ?_
  refine V_get (kf := 1) C6 (by decide) l_X3_79 (by assumption) rfl dX3_biteWith_18 rfl ?_
  rw [up2_ne (b := ra + 75 + k) _ _ _ (by omega), hR.s1 hk hps]
  refine V_isub dX3_biteWith_21 rfl ?_
  refine V_iload_n (i := 3) rfl rfl dX3_biteWith_22 rfl ?_
  refine V_call (n := 2) (sp_Bite_begin l g hat _ _) o_X0_begin m_X3_135 ⟨by decide, by decide⟩ (by assumption) rfl rfl (by first | exact Nat.le_of_ble_eq_true rfl | simp [Value.category]) (Nat.le_refl _) (Nat.le_refl _) rfl dX3_biteWith_23 rfl (kW ?_)
  refine V_gen (A := St I P ra (bitR1 s p k n)) (St.add hS (St.refl hR) hp hm hn16 hb _ _ _ _) ?_
  intro J1 hJ1
  refine V_aload_n (i := 1) rfl rfl dX3_biteWith_26 rfl ?_
  refine V_dup (by first | rfl | simp [Value.category]) dX3_biteWith_27 rfl ?_
  refine V_get (kf := 3) C6 (by decide) l_X3_141 (by assumption) rfl dX3_biteWith_28 rfl ?_
  rw [hJ1.1.s3 hk (bitR1_s hp hn16 hk hps)]
  refine V_iconst (v := 1) (by decide) dX3_biteWith_31 rfl ?_
  refine V_iadd dX3_biteWith_32 rfl ?_
  refine V_puti (kf := 3) C6 (by decide) rfl l_X3_141 rfl rfl rfl rfl (by assumption) dX3_biteWith_33 rfl ?_
  refine V_gen (A := St I P ra (bitR2 s p k n)) (hJ1.usn hS hk (w := 3) (by decide) _ (fun z => absurd z (by decide))) ?_
  intro J2 hJ2
  refine V_aload_n (i := 1) rfl rfl dX3_biteWith_36 rfl ?_
  refine V_aload_n (i := 0) rfl rfl dX3_biteWith_37 rfl ?_
  refine V_get (kf := 2) C3 (by decide) l_X3_25 (by assumption) rfl dX3_biteWith_38 rfl ?_
  rw [hJ2.1.r2]
  refine V_iconst (v := 1) (by decide) dX3_biteWith_41 rfl ?_
  refine V_iadd dX3_biteWith_42 rfl ?_
  refine V_puti (kf := 2) C6 (by decide) rfl l_X3_125 rfl rfl rfl rfl (by assumption) dX3_biteWith_43 rfl ?_
  refine V_gen (A := St I P ra (bitR3 s p k n)) (hJ2.usn hS hk (w := 2) (by decide) _ (fun z => absurd z (by decide))) ?_
  intro J3 hJ3
  refine V_aload_n (i := 2) rfl rfl dX3_biteWith_46 rfl ?_
  refine V_dup (by first | rfl | simp [Value.category]) dX3_biteWith_47 rfl ?_
  refine V_get (kf := 5) C2 (by decide) l_X3_144 (by assumption) rfl dX3_biteWith_48 rfl ?_
  rw [hJ3.1.p5 hp]
  refine V_iconst (v := 1) (by decide) dX3_biteWith_51 rfl ?_
  refine V_iadd dX3_biteWith_52 rfl ?_
  refine V_puti (kf := 5) C2 (by decide) rfl l_X3_144 rfl rfl rfl rfl (by assumption) dX3_biteWith_53 rfl ?_
  refine V_gen (A := St I P ra (bitR4 s p k n)) (hJ3.p5 hS hp _) ?_
  intro J4 hJ4
  refine V_aload_n (i := 0) rfl rfl dX3_biteWith_56 rfl ?_
  refine V_dup (by first | rfl | simp [Value.category]) dX3_biteWith_57 rfl ?_
  refine V_get (kf := 8) C3 (by decide) l_X3_59 (by assumption) rfl dX3_biteWith_58 rfl ?_
  rw [hJ4.1.r8]
  refine V_iconst (v := 1) (by decide) dX3_biteWith_61 rfl ?_
  refine V_iadd dX3_biteWith_62 rfl ?_
  refine V_puti (kf := 8) C3 (by decide) rfl l_X3_59 rfl rfl rfl rfl (by assumption) dX3_biteWith_63 rfl ?_
  refine V_gen (A := St I P ra (bitR s p k n)) (hJ4.r8 hS _) ?_
  intro J5 hJ5
  exact V_return rfl dX3_biteWith_66 rfl rfl rfl (⟨rfl, hJ5, rfl⟩)

set_option maxHeartbeats 4000000 in
set_option maxRecDepth 100000 in
theorem lp_sleeps (l : Launch) (g : fw_G) {I : fw_I} {P : fw_P} {ra : Nat} {s : Nat → Int32} (hr : isRc ra) (hS : RSh P ra) (hz : iSz s) (hl : iSl s) : ∀ (m j : Nat), j + m = 10 → ∀ J, St I P ra (aSlF s j) J → V l g kX3_shortenSleeps (T0 nT) 0 0 (qV (fun I1 P1 => St I P ra (aSlF s 10) I1 ∧ P1 = P)) (T0 nT) J P 0 0 2 [some (.ref (g.1 + ra)), some (.int (nI j)), none] [] := by
  have ara := at_race (nT := nT) hr
  have apc := at_pieces (nT := nT) hr
  have asn := at_snakes (nT := nT) hr
  obtain ⟨h0, h1, hpp, hpb, hbb, hinj, hsn⟩ := id hS
  intro m
  induction m with
  | zero =>
    intro j hj J hJ
    obtain rfl : j = 10 := by omega
    refine V_iload_n (i := 1) rfl rfl dX3_shortenSleeps_2 rfl ?_
    refine V_bipush (v := 10) (by decide) dX3_shortenSleeps_3 rfl ?_
    refine V_icmp_ge (tgt := 41) dX3_shortenSleeps_5 (by decide) rfl (fun _ => ?_) (fun h => absurd (by decide) h)
    exact V_return rfl dX3_shortenSleeps_41 rfl rfl rfl (⟨rfl, hJ, rfl⟩)
  | succ m ih =>
    intro j hj J hJ
    have hjn : j < 10 := by omega
    have hak := at_snake (nT := nT) hr hjn
    refine V_iload_n (i := 1) rfl rfl dX3_shortenSleeps_2 rfl ?_
    refine V_bipush (v := 10) (by decide) dX3_shortenSleeps_3 rfl ?_
    refine V_icmp_ge (tgt := 41) dX3_shortenSleeps_5 (by decide) rfl (fun h => absurd h (nlt10 hjn)) (fun _ => ?_)
    refine V_aload_n (i := 0) rfl rfl dX3_shortenSleeps_8 rfl ?_
    refine V_iload_n (i := 1) rfl rfl dX3_shortenSleeps_9 rfl ?_
    refine V_call (n := 1) (sp_snakeNumbered l g hr hS hJ.1 (nI j)) o_X3_snakeNumbered m_X3_73 ⟨by decide, by decide⟩ (by assumption) rfl rfl (by first | exact Nat.le_of_ble_eq_true rfl | simp [Value.category]) (Nat.le_refl _) (Nat.le_refl _) rfl dX3_shortenSleeps_10 rfl (kR ?_)
    refine V_astore_nr (i := 2) rfl (by decide) rfl dX3_shortenSleeps_13 rfl ?_
    refine V_aload_nr (i := 2) rfl rfl dX3_shortenSleeps_14 rfl ?_
    refine V_ifnull (tgt := 35) dX3_shortenSleeps_15 (by decide) rfl (fun h_15 => ?_) (fun b_15 h_15 => ?_)
    · refine V_gen (A := fun J2 => St I P ra (aSlF s (j + 1)) J2) (by first | exact St.sl hS hjn hJ (fun z => by have h0 := hz j hjn (by rw [← aSlF_s s (by decide) j (Or.inr (by decide))]; exact snR_none hjn h_15); rw [aSlF_s s (by decide) j (Or.inl (Nat.le_refl _)), h0] at z; exact absurd z (by decide)) | exact St.sl hS hjn hJ (Int32.not_lt.mpr h_22) | exact (by have := hJ.usn hS hjn (w := 2) (by decide) (sn (aSlF s j) j 2 - 1) (fun z => absurd z (by decide)); rwa [show upd (aSlF s j) (352 + 4 * j + 2) (sn (aSlF s j) j 2 - 1) = aSlF s (j + 1) from by show _ = upd (aSlF s j) (352 + 4 * j + 2) (aSlF s j (352 + 4 * j + 2) - bI (0 < sn (aSlF s j) j 2)); rw [bI_t (Int32.not_le.mp h_22)]; rfl] at this)) ?_
      intro J2 hJ2
      refine V_forget 2 rfl ?_
      refine V_iinc1 (i := 1) rfl (by decide) rfl dX3_shortenSleeps_35 rfl ?_
      refine V_goto (tgt := 2) dX3_shortenSleeps_38 (by decide) ?_
      have h9 := ih (j + 1) (by omega) _ hJ2
      rw [← nI_1] at h9
      exact h9
    · obtain ⟨hps, rfl⟩ := snR_some hjn h_15
      rw [h_15]
      refine V_aload_n (i := 2) rfl rfl dX3_shortenSleeps_18 rfl ?_
      refine V_get (kf := 2) C6 (by decide) l_X3_125 (by assumption) rfl dX3_shortenSleeps_19 rfl ?_
      rw [hJ.1.s2 hjn]
      refine V_if_le (tgt := 35) dX3_shortenSleeps_22 (by decide) rfl (fun h_22 => ?_) (fun h_22 => ?_)
      · refine V_gen (A := fun J2 => St I P ra (aSlF s (j + 1)) J2) (by first | exact St.sl hS hjn hJ (fun z => by have h0 := hz j hjn (by rw [← aSlF_s s (by decide) j (Or.inr (by decide))]; exact snR_none hjn h_15); rw [aSlF_s s (by decide) j (Or.inl (Nat.le_refl _)), h0] at z; exact absurd z (by decide)) | exact St.sl hS hjn hJ (Int32.not_lt.mpr h_22) | exact (by have := hJ.usn hS hjn (w := 2) (by decide) (sn (aSlF s j) j 2 - 1) (fun z => absurd z (by decide)); rwa [show upd (aSlF s j) (352 + 4 * j + 2) (sn (aSlF s j) j 2 - 1) = aSlF s (j + 1) from by show _ = upd (aSlF s j) (352 + 4 * j + 2) (aSlF s j (352 + 4 * j + 2) - bI (0 < sn (aSlF s j) j 2)); rw [bI_t (Int32.not_le.mp h_22)]; rfl] at this)) ?_
        intro J2 hJ2
        refine V_forget 2 rfl ?_
        refine V_iinc1 (i := 1) rfl (by decide) rfl dX3_shortenSleeps_35 rfl ?_
        refine V_goto (tgt := 2) dX3_shortenSleeps_38 (by decide) ?_
        have h9 := ih (j + 1) (by omega) _ hJ2
        rw [← nI_1] at h9
        exact h9
      · refine V_aload_n (i := 2) rfl rfl dX3_shortenSleeps_25 rfl ?_
        refine V_dup (by first | rfl | simp [Value.category]) dX3_shortenSleeps_26 rfl ?_
        refine V_get (kf := 2) C6 (by decide) l_X3_125 (by assumption) rfl dX3_shortenSleeps_27 rfl ?_
        rw [hJ.1.s2 hjn]
        refine V_iconst (v := 1) (by decide) dX3_shortenSleeps_30 rfl ?_
        refine V_isub dX3_shortenSleeps_31 rfl ?_
        refine V_puti (kf := 2) C6 (by decide) rfl l_X3_125 rfl rfl rfl rfl (by assumption) dX3_shortenSleeps_32 rfl ?_
        refine V_gen (A := fun J2 => St I P ra (aSlF s (j + 1)) J2) (by first | exact St.sl hS hjn hJ (fun z => by have h0 := hz j hjn (by rw [← aSlF_s s (by decide) j (Or.inr (by decide))]; exact snR_none hjn h_15); rw [aSlF_s s (by decide) j (Or.inl (Nat.le_refl _)), h0] at z; exact absurd z (by decide)) | exact St.sl hS hjn hJ (Int32.not_lt.mpr h_22) | exact (by have := hJ.usn hS hjn (w := 2) (by decide) (sn (aSlF s j) j 2 - 1) (fun z => absurd z (by decide)); rwa [show upd (aSlF s j) (352 + 4 * j + 2) (sn (aSlF s j) j 2 - 1) = aSlF s (j + 1) from by show _ = upd (aSlF s j) (352 + 4 * j + 2) (aSlF s j (352 + 4 * j + 2) - bI (0 < sn (aSlF s j) j 2)); rw [bI_t (Int32.not_le.mp h_22)]; rfl] at this)) ?_
        intro J2 hJ2
        refine V_forget 2 rfl ?_
        refine V_iinc1 (i := 1) rfl (by decide) rfl dX3_shortenSleeps_35 rfl ?_
        refine V_goto (tgt := 2) dX3_shortenSleeps_38 (by decide) ?_
        have h9 := ih (j + 1) (by omega) _ hJ2
        rw [← nI_1] at h9
        exact h9

set_option maxHeartbeats 4000000 in
set_option maxRecDepth 100000 in
theorem sp_shortenSleeps (l : Launch) (g : fw_G) {I : fw_I} {P : fw_P} {ra : Nat} {s : Nat → Int32} (hr : isRc ra) (hS : RSh P ra) (hR : RRel I P ra s) (hz : iSz s) (hl : iSl s) : Sp l g kX3_shortenSleeps (T0 nT) [.ref (g.1 + ra)] I P (T0 nT) 0 0 (qV (fun I1 P1 => St I P ra (aSlF s 10) I1 ∧ P1 = P)) := by
  refine Sp.of_V (L := [some (.ref (g.1 + ra)), none, none]) (by decide) (by simp [Value.category]) (Nat.le_of_ble_eq_true rfl) rfl ?_
  refine V_iconst (v := 0) (by decide) dX3_shortenSleeps_0 rfl ?_
  refine V_istore_n (i := 1) rfl (by decide) rfl dX3_shortenSleeps_1 rfl ?_
  exact lp_sleeps l g hr hS hz hl 10 0 rfl I (St.refl hR)

set_option maxHeartbeats 4000000 in
set_option maxRecDepth 100000 in
theorem lp_moverAfter (l : Launch) (g : fw_G) {I : fw_I} {P : fw_P} {ra : Nat} {s : Nat → Int32} (hr : isRc ra) (hS : RSh P ra) (hR : RRel I P ra s) {p : Nat} (hp : p < 4) : ∀ (m j : Nat), j + m = 5 → 1 ≤ j → (∀ i, 1 ≤ i → i < j → ro s ((p + i) % 4) 0 = 60) → V l g kX3_moverAfter (T0 nT) 0 0 (qI (mvX s p) I P) (T0 nT) I P 0 0 2 [some (.ref (g.1 + ra)), some (.int (nI p)), some (.int (nI j)), none] [] := by
  have ara := at_race (nT := nT) hr
  have apc := at_pieces (nT := nT) hr
  have asn := at_snakes (nT := nT) hr
  obtain ⟨h0, h1, hpp, hpb, hbb, hinj, hsn⟩ := id hS
  intro m
  induction m with
  | zero =>
    intro j hj h1 hh
    obtain rfl : j = 5 := by omega
    refine V_iload_n (i := 2) rfl rfl dX3_moverAfter_2 rfl ?_
    refine V_iconst (v := 4) (by decide) dX3_moverAfter_3 rfl ?_
    refine V_icmp_gt (tgt := 29) dX3_moverAfter_4 (by decide) rfl (fun _ => ?_) (fun h => absurd (by decide) h)
    refine V_bipush (v := (-5)) (by decide) dX3_moverAfter_29 rfl ?_
    exact V_ireturn rfl rfl dX3_moverAfter_31 rfl rfl rfl (qI.of (mvX_no hh).symm)
  | succ m ih =>
    intro j hj h1 hh
    have hj5 : j < 5 := by omega
    have hpj : (p + j) % 4 < 4 := Nat.mod_lt _ (by decide)
    refine V_iload_n (i := 2) rfl rfl dX3_moverAfter_2 rfl ?_
    refine V_iconst (v := 4) (by decide) dX3_moverAfter_3 rfl ?_
    refine V_icmp_gt (tgt := 29) dX3_moverAfter_4 (by decide) rfl (fun h => absurd h (Int32.not_lt.mpr ((nI_leI (b := 4) (by omega) (by decide)).mpr (by omega)))) (fun _ => ?_)
    refine V_iload_n (i := 1) rfl rfl dX3_moverAfter_7 rfl ?_
    refine V_iload_n (i := 2) rfl rfl dX3_moverAfter_8 rfl ?_
    refine V_iadd dX3_moverAfter_9 rfl ?_
    refine V_iconst (v := 4) (by decide) dX3_moverAfter_10 rfl ?_
    refine V_irem (by decide) dX3_moverAfter_11 rfl ?_
    rw [nI_add, rem4 p hp j hj5]
    refine V_istore_n (i := 3) rfl (by decide) rfl dX3_moverAfter_12 rfl ?_
    refine V_aload_n (i := 0) rfl rfl dX3_moverAfter_13 rfl ?_
    refine V_iload_n (i := 3) rfl rfl dX3_moverAfter_14 rfl ?_
    refine V_call (n := 1) (sp_isInRace l g hr hS hR (nI ((p + j) % 4))) o_X3_isInRace m_X3_88 ⟨by decide, by decide⟩ (by assumption) rfl rfl (by first | exact Nat.le_of_ble_eq_true rfl | simp [Value.category]) (Nat.le_refl _) (Nat.le_refl _) rfl dX3_moverAfter_15 rfl (kI ?_)
    rw [bI_pl hpj]
    refine V_if_eq (tgt := 23) dX3_moverAfter_18 (by decide) rfl (fun h_18 => ?_) (fun h_18 => ?_)
    · refine V_iinc1 (i := 2) rfl (by decide) rfl dX3_moverAfter_23 rfl ?_
      refine V_goto (tgt := 2) dX3_moverAfter_26 (by decide) ?_
      refine V_forget 3 rfl ?_
      have h9 := ih (j + 1) (by omega) (by omega) (fun i h1 h2 => by
        by_cases e : i = j
        · rw [e]; exact Decidable.not_not.mp (bI_z h_18)
        · exact hh i h1 (by omega))
      rw [← nI_1] at h9
      exact h9
    · refine V_iload_n (i := 3) rfl rfl dX3_moverAfter_21 rfl ?_
      exact V_ireturn rfl rfl dX3_moverAfter_22 rfl rfl rfl (qI.of (mvX_at h1 (by omega) hh (bI_nz h_18)).symm)

set_option maxHeartbeats 4000000 in
set_option maxRecDepth 100000 in
theorem sp_moverAfter (l : Launch) (g : fw_G) {I : fw_I} {P : fw_P} {ra : Nat} {s : Nat → Int32} (hr : isRc ra) (hS : RSh P ra) (hR : RRel I P ra s) {p : Nat} (hp : p < 4) : Sp l g kX3_moverAfter (T0 nT) [.ref (g.1 + ra), .int (nI p)] I P (T0 nT) 0 0 (qI (mvX s p) I P) := by
  refine Sp.of_V (L := [some (.ref (g.1 + ra)), some (.int (nI p)), none, none]) (by decide) (by simp [Value.category]) (Nat.le_of_ble_eq_true rfl) rfl ?_
  refine V_iconst (v := 1) (by decide) dX3_moverAfter_0 rfl ?_
  refine V_istore_n (i := 2) rfl (by decide) rfl dX3_moverAfter_1 rfl ?_
  exact lp_moverAfter l g hr hS hR hp 4 1 rfl (by decide) (fun i h1 h2 => by omega)
