theorem V_forget {l : Launch} {g : fw_G} {k : fw_M} {T T' : fw_T} {mc ms : Nat} {Q : Option Value → fw_I → fw_P → Prop} {I : fw_I} {P : fw_P} {u w pc : Nat} {L L' : List (Option Value)} {st : List Value} (i : Nat) (h : L.set i none = L') (kk : V l g k T' mc ms Q T I P u w pc L' st) : V l g k T' mc ms Q T I P u w pc L st := by
  subst h
  intro p e s m args below meth c H locs ls hC hK hR hS hL
  refine kk p e s m args below meth c H locs ls hC hK hR hS ⟨hL.1, hL.2.1, fun j v hj => ?_⟩
  by_cases hji : j = i
  · subst hji
    have hlt : j < L.length := by
      have := (List.getElem?_eq_some_iff.mp hj).1
      rwa [List.length_set] at this
    rw [List.getElem?_set_self hlt] at hj
    cases hj
  · rw [List.getElem?_set_ne (fun q => hji q.symm)] at hj
    exact hL.2.2 j v hj
/-- a copy of n places -/
def cpF (src dst : Nat → Int32) (f t n : Nat) : Nat → Int32 := fun x => if t ≤ x ∧ x < t + n then src (f + (x - t)) else dst x
theorem cpF_0 (src dst : Nat → Int32) (f t : Nat) : cpF src dst f t 0 = dst := by
  funext x
  unfold cpF
  rw [if_neg (by omega)]
theorem cpF_succ (src dst : Nat → Int32) (f t n : Nat) : upd (cpF src dst f t n) (t + n) (src (f + n)) = cpF src dst f t (n + 1) := by
  funext x
  unfold cpF
  rw [upd_at]
  by_cases h : x = t + n
  · subst h
    rw [if_pos rfl, if_pos (by omega), Nat.add_sub_cancel_left]
  · rw [if_neg h]
    by_cases h2 : t ≤ x ∧ x < t + n
    · rw [if_pos h2, if_pos (by omega)]
    · rw [if_neg h2, if_neg (by omega)]
/-- a shift by 392 -/
def shF (h : Nat → Int32) (n : Nat) : Nat → Int32 := fun x => if x < n then h (392 + x) else h x
theorem shF_0 (h : Nat → Int32) : shF h 0 = h := by
  funext x
  unfold shF
  rw [if_neg (by omega)]
theorem shF_succ (h : Nat → Int32) (n : Nat) : upd (shF h n) n (shF h n (392 + n)) = shF h (n + 1) := by
  funext x
  unfold shF
  rw [upd_at]
  by_cases hx : x = n
  · subst hx
    rw [if_pos rfl, if_neg (by omega), if_pos (by omega)]
  · rw [if_neg hx]
    by_cases h2 : x < n
    · rw [if_pos h2, if_pos (by omega)]
    · rw [if_neg h2, if_neg (by omega)]
def rK (k : Nat) : Nat := if k = 5 then 5 else k + 1
def hrow (I : fw_I) (i : Nat) : Nat → Int32 := fun j => I 690 (392 * i + j)
def rH (k : Nat) (h : Nat → Nat → Int32) (s : Nat → Int32) : Nat → Nat → Int32 := fun i => if i + 1 = rK k then s else if k = 5 then h (i + 1) else h i
/-- what recording does to the reference's cells -/
def RecP (I I1 : fw_I) (k : Nat) : Prop := (∀ a, a ≠ 688 → a ≠ 690 → I1 a = I a) ∧ (∀ f, f ≠ 2 → I1 688 f = I 688 f) ∧ I1 688 2 = nI (rK k) ∧ ∀ i j, i < rK k → j < 392 → hrow I1 i j = rH k (hrow I) (I 689) i j
theorem nI_inj {a b : Nat} (ha : a < 2 ^ 31) (hb : b < 2 ^ 31) (h : nI a = nI b) : a = b := (nI_eq ha hb).mp h
set_option maxHeartbeats 4000000 in
set_option maxRecDepth 100000 in
theorem lp_copy (l : Launch) (g : fw_G) {I : fw_I} {P : fw_P} {a b f t na nb : Nat} (hab : a ≠ b) (ha : fw_at T0 a 9 na) (hb : fw_at T0 b 9 nb) (hf : f + 392 ≤ na) (ht : t + 392 ≤ nb) (hna : na < 4000) (hnb : nb < 4000) : ∀ (n j : Nat), j + n = 392 → V l g kX8_copy T0 0 0 (qV (fun I1 P1 => I1 = wr I b (cpF (I a) (I b) f t 392) ∧ P1 = P)) T0 (wr I b (cpF (I a) (I b) f t j)) P 0 0 3 [some (.ref (g.1 + a)), some (.int (nI f)), some (.ref (g.1 + b)), some (.int (nI t)), some (.int (nI j))] [] := by
  intro n
  induction n with
  | zero =>
    intro j hj
    obtain rfl : j = 392 := by omega
    refine V_iload (i := 4) rfl dX8_copy_3 rfl ?_
    refine V_sipush (v := 392) (by decide) dX8_copy_5 rfl ?_
    refine V_icmp_ge (tgt := 29) dX8_copy_8 (by decide) rfl (fun _ => ?_) (fun h => absurd (nI_le (a := 392) (b := 392) (Nat.le_refl _) (by decide)) h)
    exact V_return rfl dX8_copy_29 rfl rfl rfl (⟨rfl, rfl, rfl⟩)
  | succ n ih =>
    intro j hj
    refine V_iload (i := 4) rfl dX8_copy_3 rfl ?_
    refine V_sipush (v := 392) (by decide) dX8_copy_5 rfl ?_
    refine V_icmp_ge (tgt := 29) dX8_copy_8 (by decide) rfl (fun h => absurd h (nI_ge (b := 392) (by omega) (by decide))) (fun _ => ?_)
    refine V_aload_n (i := 2) rfl rfl dX8_copy_11 rfl ?_
    refine V_iload_n (i := 3) rfl rfl dX8_copy_12 rfl ?_
    refine V_iload (i := 4) rfl dX8_copy_13 rfl ?_
    refine V_iadd dX8_copy_15 rfl ?_
    refine V_aload_n (i := 0) rfl rfl dX8_copy_16 rfl ?_
    refine V_iload_n (i := 1) rfl rfl dX8_copy_17 rfl ?_
    refine V_iload (i := 4) rfl dX8_copy_18 rfl ?_
    refine V_iadd dX8_copy_20 rfl ?_
    refine V_iald (by assumption) (by rw [nI_add]; exact fw_ix_nI (by omega) (by omega)) dX8_copy_21 rfl ?_
    rw [wr_ne _ _ hab]
    refine V_iast9 (by assumption) (by rw [nI_add]; exact fw_ix_nI (by omega) (by omega)) dX8_copy_22 rfl ?_
    refine V_iinc1 (i := 4) rfl (by decide) rfl dX8_copy_23 rfl ?_
    refine V_goto (tgt := 3) dX8_copy_26 (by decide) ?_
    have h9 := ih (j + 1) (by omega)
    rw [← nI_1, ← cpF_succ _ _ _ _ j] at h9
    exact h9

set_option maxHeartbeats 4000000 in
set_option maxRecDepth 100000 in
theorem sp_copy (l : Launch) (g : fw_G) {I : fw_I} {P : fw_P} {a b f t na nb : Nat} (hab : a ≠ b) (ha : fw_at T0 a 9 na) (hb : fw_at T0 b 9 nb) (hf : f + 392 ≤ na) (ht : t + 392 ≤ nb) (hna : na < 4000) (hnb : nb < 4000) : Sp l g kX8_copy T0 [.ref (g.1 + a), .int (nI f), .ref (g.1 + b), .int (nI t)] I P T0 0 0 (qV (fun I1 P1 => I1 = wr I b (cpF (I a) (I b) f t 392) ∧ P1 = P)) := by
  refine Sp.of_V (L := [some (.ref (g.1 + a)), some (.int (nI f)), some (.ref (g.1 + b)), some (.int (nI t)), none]) (by decide) (by simp [Value.category]) (Nat.le_of_ble_eq_true rfl) rfl ?_
  refine V_iconst (v := 0) (by decide) dX8_copy_0 rfl ?_
  refine V_istore (i := 4) (by decide) rfl dX8_copy_1 rfl ?_
  refine V_mem (I' := wr I b (cpF (I a) (I b) f t 0)) (by rw [cpF_0, wr_self]) ?_
  exact lp_copy l g hab ha hb hf ht hna hnb 392 0 rfl

set_option maxHeartbeats 4000000 in
set_option maxRecDepth 100000 in
theorem lp_recSh (l : Launch) (g : fw_G) {I J : fw_I} {P : fw_P} (hM : MSh P) {Q : Option Value → fw_I → fw_P → Prop} (kk : V l g kX8_record T0 0 0 Q T0 (wr I 690 (shF (I 690) 1568)) P 0 0 39 [some (.ref (g.1 + 688)), some (.int (nI 1568))] []) : ∀ (n j : Nat), j + n = 1568 → V l g kX8_record T0 0 0 Q T0 (wr I 690 (shF (I 690) j)) P 0 0 10 [some (.ref (g.1 + 688)), some (.int (nI j))] [] := by
  have a688 := at_688
  have a689 := at_689
  have a690 := at_690
  obtain ⟨p0, p1, p3, p5, p6, p10, p12, p13⟩ := id hM
  intro n
  induction n with
  | zero =>
    intro j hj
    obtain rfl : j = 1568 := by omega
    refine V_iload_n (i := 1) rfl rfl dX8_record_10 rfl ?_
    refine V_sipush (v := 1568) (by decide) dX8_record_11 rfl ?_
    refine V_icmp_ge (tgt := 39) dX8_record_14 (by decide) rfl (fun _ => ?_) (fun h => absurd (nI_le (a := 1568) (b := 1568) (Nat.le_refl _) (by decide)) h)
    exact kk
  | succ n ih =>
    intro j hj
    refine V_iload_n (i := 1) rfl rfl dX8_record_10 rfl ?_
    refine V_sipush (v := 1568) (by decide) dX8_record_11 rfl ?_
    refine V_icmp_ge (tgt := 39) dX8_record_14 (by decide) rfl (fun h => absurd h (nI_ge (b := 1568) (by omega) (by decide))) (fun _ => ?_)
    refine V_aload_n (i := 0) rfl rfl dX8_record_17 rfl ?_
    refine V_getr (kf := 1) C8 (by decide) l_X8_13 (by assumption) rfl (by assumption) dX8_record_18 rfl ?_
    refine V_iload_n (i := 1) rfl rfl dX8_record_21 rfl ?_
    refine V_aload_n (i := 0) rfl rfl dX8_record_22 rfl ?_
    refine V_getr (kf := 1) C8 (by decide) l_X8_13 (by assumption) rfl (by assumption) dX8_record_23 rfl ?_
    refine V_sipush (v := 392) (by decide) dX8_record_26 rfl ?_
    refine V_iload_n (i := 1) rfl rfl dX8_record_29 rfl ?_
    refine V_iadd dX8_record_30 rfl ?_
    refine V_iald9 (by assumption) (by rw [show (392 : Int32) = nI 392 from rfl, nI_add]; exact fw_ix_nI (by omega) (by omega)) dX8_record_31 rfl ?_
    refine V_iast9 (by assumption) (fw_ix_nI (by omega) (by omega)) dX8_record_32 rfl ?_
    refine V_iinc1 (i := 1) rfl (by decide) rfl dX8_record_33 rfl ?_
    refine V_goto (tgt := 10) dX8_record_36 (by decide) ?_
    have h9 := ih (j + 1) (by omega)
    rw [← nI_1, ← shF_succ _ j] at h9
    exact h9

set_option maxHeartbeats 4000000 in
set_option maxRecDepth 100000 in
theorem lp_rec49 (l : Launch) (g : fw_G) {I J : fw_I} {P : fw_P} (hM : MSh P) {k c : Nat} (hc5 : c < 5) (hc : J 688 2 = nI c) (hI : ∀ J1, J1 = up2 (wr J 690 (cpF (J 689) (J 690) 0 (392 * c) 392)) 688 2 (nI c + 1) → RecP I J1 k) {x1 : Option Value} : V l g kX8_record T0 0 0 (qV (fun I1 P1 => RecP I I1 k ∧ P1 = P)) T0 J P 0 0 49 [some (.ref (g.1 + 688)), x1] [] := by
  have a688 := at_688
  have a689 := at_689
  have a690 := at_690
  obtain ⟨p0, p1, p3, p5, p6, p10, p12, p13⟩ := id hM
  refine V_aload_n (i := 0) rfl rfl dX8_record_49 rfl ?_
  refine V_getr (kf := 0) C8 (by decide) l_X8_7 (by assumption) rfl (by assumption) dX8_record_50 rfl ?_
  refine V_iconst (v := 0) (by decide) dX8_record_53 rfl ?_
  refine V_aload_n (i := 0) rfl rfl dX8_record_54 rfl ?_
  refine V_getr (kf := 1) C8 (by decide) l_X8_13 (by assumption) rfl (by assumption) dX8_record_55 rfl ?_
  refine V_sipush (v := 392) (by decide) dX8_record_58 rfl ?_
  refine V_aload_n (i := 0) rfl rfl dX8_record_61 rfl ?_
  refine V_get (kf := 2) C8 (by decide) l_X8_50 (by assumption) rfl dX8_record_62 rfl ?_
  rw [hc, show (392 : Int32) = nI 392 from rfl]
  refine V_imul dX8_record_65 rfl ?_
  rw [nI_mul]
  refine V_callS (n := 4) (sp_copy (f := 0) (t := 392 * c) l g (by decide : (689 : Nat) ≠ 690) at_689 at_690 (by decide) (by omega) (by decide) (by decide)) o_X8_copy m_X8_54 ⟨by decide, by decide⟩ rfl rfl (by first | exact Nat.le_of_ble_eq_true rfl | simp [Value.category]) (Nat.le_refl _) (Nat.le_refl _) rfl dX8_record_66 rfl (kW ?_)
  refine V_aload_n (i := 0) rfl rfl dX8_record_69 rfl ?_
  refine V_dup (by first | rfl | simp [Value.category]) dX8_record_70 rfl ?_
  refine V_get (kf := 2) C8 (by decide) l_X8_50 (by assumption) rfl dX8_record_71 rfl ?_
  rw [show wr J 690 (cpF (J 689) (J 690) 0 (392 * c) 392) 688 2 = nI c from hc]
  refine V_iconst (v := 1) (by decide) dX8_record_74 rfl ?_
  refine V_iadd dX8_record_75 rfl ?_
  refine V_puti (kf := 2) C8 (by decide) rfl l_X8_50 rfl rfl rfl rfl (by assumption) dX8_record_76 rfl ?_
  exact V_return rfl dX8_record_79 rfl rfl rfl (⟨rfl, hI _ rfl, rfl⟩)

theorem rec_lo {I : fw_I} {k : Nat} (hk : k < 5) : RecP I (up2 (wr I 690 (cpF (I 689) (I 690) 0 (392 * k) 392)) 688 2 (nI k + 1)) k := by
  have hr : rK k = k + 1 := if_neg (by omega)
  refine ⟨fun a h1 h2 => by rw [up2_ne _ _ _ h1, wr_ne _ _ h2], fun f hf => by rw [up2_at, if_neg (fun h => hf h.2)]; exact congrFun (wr_ne _ _ (by decide)) f, by rw [up2_same, hr, nI_1], fun i j hi hj => ?_⟩
  rw [hr] at hi
  unfold hrow rH
  rw [up2_ne _ _ _ (by decide), wr_at, hr]
  unfold cpF
  by_cases hik : i = k
  · subst hik
    rw [if_pos (by omega), if_pos rfl]
    exact congrArg (I 689) (by omega)
  · rw [if_neg (by omega), if_neg (by omega), if_neg (by omega)]
theorem rec_hi {I : fw_I} : RecP I (up2 (wr (up2 (wr I 690 (shF (I 690) 1568)) 688 2 (nI 4)) 690 (cpF (up2 (wr I 690 (shF (I 690) 1568)) 688 2 (nI 4) 689) (up2 (wr I 690 (shF (I 690) 1568)) 688 2 (nI 4) 690) 0 (392 * 4) 392)) 688 2 (nI 4 + 1)) 5 := by
  refine ⟨fun a h1 h2 => by rw [up2_ne _ _ _ h1, wr_ne _ _ h2, up2_ne _ _ _ h1, wr_ne _ _ h2], fun f hf => by rw [up2_at, if_neg (fun h => hf h.2), wr_ne _ _ (by decide), up2_at, if_neg (fun h => hf h.2)]; exact congrFun (wr_ne _ _ (by decide)) f, by rw [up2_same, nI_1]; rfl, fun i j hi hj => ?_⟩
  have hi5 : i < 5 := hi
  unfold hrow rH
  rw [up2_ne _ _ _ (by decide), wr_at, up2_ne _ _ _ (by decide), up2_ne _ _ _ (by decide), wr_at, wr_ne _ _ (by decide)]
  unfold cpF shF
  by_cases hik : i = 4
  · subst hik
    rw [if_pos (by omega), if_pos rfl]
    exact congrArg (I 689) (by omega)
  · rw [if_neg (by omega), if_pos (by omega), if_neg (by show ¬ i + 1 = 5; omega), if_pos rfl]
    exact congrArg (I 690) (by omega)

set_option maxHeartbeats 4000000 in
set_option maxRecDepth 100000 in
theorem sp_record (l : Launch) (g : fw_G) {I : fw_I} {P : fw_P} (hM : MSh P) {k : Nat} (hk5 : k ≤ 5) (hk : I 688 2 = nI k) : Sp l g kX8_record T0 [.ref (g.1 + 688)] I P T0 0 0 (qV (fun I1 P1 => RecP I I1 k ∧ P1 = P)) := by
  have a688 := at_688
  have a689 := at_689
  have a690 := at_690
  obtain ⟨p0, p1, p3, p5, p6, p10, p12, p13⟩ := id hM
  refine Sp.of_V (L := [some (.ref (g.1 + 688)), none]) (by decide) (by simp [Value.category]) (Nat.le_of_ble_eq_true rfl) rfl ?_
  refine V_aload_n (i := 0) rfl rfl dX8_record_0 rfl ?_
  refine V_get (kf := 2) C8 (by decide) l_X8_50 (by assumption) rfl dX8_record_1 rfl ?_
  rw [hk]
  refine V_iconst (v := 5) (by decide) dX8_record_4 rfl ?_
  refine V_icmp_ne (tgt := 49) dX8_record_5 (by decide) rfl (fun h_5 => ?_) (fun h_5 => ?_)
  · first
      | exact lp_rec49 (I := I) (J := I) l g hM (by have : k ≠ 5 := fun h => h_5 (by rw [h]; rfl); omega) hk (fun J1 h => h ▸ rec_lo (by have : k ≠ 5 := fun h => h_5 (by rw [h]; rfl); omega))
      | exact lp_rec49 (I := I) (c := 4) l g hM (by decide) (up2_same _ _ _ _) (fun J1 h => h ▸ rec_hi)
  · refine V_iconst (v := 0) (by decide) dX8_record_8 rfl ?_
    refine V_istore_n (i := 1) rfl (by decide) rfl dX8_record_9 rfl ?_
    obtain rfl : k = 5 := nI_inj (by omega) (by decide) h_5
    refine V_mem (I' := wr I 690 (shF (I 690) 0)) (by rw [shF_0, wr_self]) ?_
    refine lp_recSh (J := I) l g hM ?_ 1568 0 rfl
    refine V_aload_n (i := 0) rfl rfl dX8_record_39 rfl ?_
    refine V_dup (by first | rfl | simp [Value.category]) dX8_record_40 rfl ?_
    refine V_get (kf := 2) C8 (by decide) l_X8_50 (by assumption) rfl dX8_record_41 rfl ?_
    rw [show wr I 690 (shF (I 690) 1568) 688 2 = nI 5 from hk, show nI 5 = nI (4 + 1) from rfl]
    refine V_iconst (v := 1) (by decide) dX8_record_44 rfl ?_
    refine V_isub dX8_record_45 rfl ?_
    rw [nI_pred]
    refine V_puti (kf := 2) C8 (by decide) rfl l_X8_50 rfl rfl rfl rfl (by assumption) dX8_record_46 rfl ?_
    exact lp_rec49 (I := I) (c := 4) l g hM (by decide) (up2_same _ _ _ _) (fun J1 h => h ▸ rec_hi)

