variable {nT : Nat}
/-! the constructors: the cells grow along the layout tt -/
theorem push_tt {n : Nat} {kd : Nat × Nat} (h : tt n = kd) : fw_push (n, tt) kd = (n + 1, tt) := by
  unfold fw_push
  congr 1
  funext a
  by_cases e : a = n
  · subst e; rw [if_pos rfl, h]
  · rw [if_neg e]
theorem fw_z_ne {α : Type} {I : Nat → Nat → α} {n b : Nat} (x : α) (h : b ≠ n) : fw_z I n x b = I b := if_neg h
theorem fw_z_at {α : Type} (I : Nat → Nat → α) (n j : Nat) (x : α) : fw_z I n x n j = x := by unfold fw_z; rw [if_pos rfl]
theorem at_tt {a c m n : Nat} (h : fw_at (T0 nT) a c m) (hn : a < n) : fw_at (n, tt) a c m := ⟨hn, h.2⟩
section FWN
variable {l : Launch} {g : fw_G} {k : fw_M} {T' : fw_T} {mc ms : Nat} {Q : Option Value → fw_I → fw_P → Prop} {I : fw_I} {P : fw_P} {u w pc q n : Nat} {L : List (Option Value)} {st : List Value}
theorem V_cast {T T2 : fw_T} {u2 w2 : Nat} (hT : T = T2) (hu : u = u2) (hw : w = w2) (kk : V l g k T' mc ms Q T2 I P u2 w2 pc L st) : V l g k T' mc ms Q T I P u w pc L st := by subst hT hu hw; exact kk
theorem V_newT {ci idx N : Nat} {C : String} {Tt : u_T} {ty : Nat → FieldType} (ht : tt n = (ci, 0)) (hc : fw_cl ci C Tt N ty) (hdf : ∀ j, j < N → defaultValue (ty j) = vp_V (fw_fs g (fun _ _ => 0) (fun _ _ => none) n ci) j) (hl : Cond.classLink k.1.cls idx C ∈ fw_U) (hin : Cond.instantiable C N ∈ fw_U) (hini : Cond.initialized C ∈ fw_U) (hu : u + 1 ≤ mc) (hw : w + N ≤ ms) (hd : decode k.2.1 pc = .ok (.new idx, 3)) (hq : pc + 3 = q)
    (kk : V l g k T' mc ms Q (n + 1, tt) (fw_z I n 0) (fw_z P n none) (u + 1) (w + N) q L (.ref (g.1 + n) :: st)) : V l g k T' mc ms Q (n, tt) I P u w pc L st :=
  V_new (T := (n, tt)) hc hdf hl hin hini hu hw hd hq (by rw [push_tt ht]; exact kk)
theorem V_newaT {kd N : Nat} {at0 : ArrayType} {x : Int32} {ty : FieldType} (ht : tt n = (kd, N)) (hkd : kd = 9 ∧ ty = .int) (hty : newarray.typeOf at0 = ty) (hac : Cond.arrayClass ty ∈ fw_U) (hn : ¬ x < 0) (hN : x.toNatClampNeg = N) (hb : N * componentBytes ty ≤ 536870912) (hu : u + 1 ≤ mc) (hw : w + N ≤ ms) (hd : decode k.2.1 pc = .ok (.newarray at0, 2)) (hq : pc + 2 = q)
    (kk : V l g k T' mc ms Q (n + 1, tt) (fw_z I n 0) (fw_z P n none) (u + 1) (w + N) q L (.ref (g.1 + n) :: st)) : V l g k T' mc ms Q (n, tt) I P u w pc L (.int x :: st) :=
  V_newa (T := (n, tt)) hkd hty hac hn hN hb hu hw hd hq (by rw [push_tt ht]; exact kk)
theorem V_anewT {kd ce N idx : Nat} {r : vw_C} {x : Int32} (ht : tt n = (kd, N)) (he : fw_el kd ce r) (hl : Cond.classLink k.1.cls idx r.1 ∈ fw_U) (hov : r.1 ∈ fw_aos) (hn : ¬ x < 0) (hN : x.toNatClampNeg = N) (hb : N * 4 ≤ 536870912) (hu : u + 1 ≤ mc) (hw : w + N ≤ ms) (hd : decode k.2.1 pc = .ok (.anewarray idx, 3)) (hq : pc + 3 = q)
    (kk : V l g k T' mc ms Q (n + 1, tt) (fw_z I n 0) (fw_z P n none) (u + 1) (w + N) q L (.ref (g.1 + n) :: st)) : V l g k T' mc ms Q (n, tt) I P u w pc L (.int x :: st) :=
  V_anew (T := (n, tt)) he hl hov hn hN hb hu hw hd hq (by rw [push_tt ht]; exact kk)
end FWN
theorem df0 (g : fw_G) (n : Nat) : ∀ j, j < 4 → defaultValue (tyX0 j) = vp_V (fw_fs g (fun _ _ => 0) (fun _ _ => none) n 0) j := by
  intro j hj
  rcases (show j = 0 ∨ j = 1 ∨ j = 2 ∨ j = 3 by omega) with rfl | rfl | rfl | rfl <;> rfl
theorem df1 (g : fw_G) (n : Nat) : ∀ j, j < 2 → defaultValue (tyX1 j) = vp_V (fw_fs g (fun _ _ => 0) (fun _ _ => none) n 1) j := by
  intro j hj
  rcases (show j = 0 ∨ j = 1 by omega) with rfl | rfl <;> rfl
theorem df2 (g : fw_G) (n : Nat) : ∀ j, j < 7 → defaultValue (tyX2 j) = vp_V (fw_fs g (fun _ _ => 0) (fun _ _ => none) n 2) j := by
  intro j hj
  rcases (show j = 0 ∨ j = 1 ∨ j = 2 ∨ j = 3 ∨ j = 4 ∨ j = 5 ∨ j = 6 by omega) with rfl | rfl | rfl | rfl | rfl | rfl | rfl <;> rfl
theorem df3 (g : fw_G) (n : Nat) : ∀ j, j < 10 → defaultValue (tyX3 j) = vp_V (fw_fs g (fun _ _ => 0) (fun _ _ => none) n 3) j := by
  intro j hj
  rcases (show j = 0 ∨ j = 1 ∨ j = 2 ∨ j = 3 ∨ j = 4 ∨ j = 5 ∨ j = 6 ∨ j = 7 ∨ j = 8 ∨ j = 9 by omega) with rfl | rfl | rfl | rfl | rfl | rfl | rfl | rfl | rfl | rfl <;> rfl
theorem df4 (g : fw_G) (n : Nat) : ∀ j, j < 2 → defaultValue (tyX4 j) = vp_V (fw_fs g (fun _ _ => 0) (fun _ _ => none) n 4) j := by
  intro j hj
  rcases (show j = 0 ∨ j = 1 by omega) with rfl | rfl <;> rfl
theorem df5 (g : fw_G) (n : Nat) : ∀ j, j < 3 → defaultValue (tyX5 j) = vp_V (fw_fs g (fun _ _ => 0) (fun _ _ => none) n 5) j := by
  intro j hj
  rcases (show j = 0 ∨ j = 1 ∨ j = 2 by omega) with rfl | rfl | rfl <;> rfl
theorem df6 (g : fw_G) (n : Nat) : ∀ j, j < 4 → defaultValue (tyX6 j) = vp_V (fw_fs g (fun _ _ => 0) (fun _ _ => none) n 6) j := by
  intro j hj
  rcases (show j = 0 ∨ j = 1 ∨ j = 2 ∨ j = 3 by omega) with rfl | rfl | rfl | rfl <;> rfl
theorem df7 (g : fw_G) (n : Nat) : ∀ j, j < 7 → defaultValue (tyX7 j) = vp_V (fw_fs g (fun _ _ => 0) (fun _ _ => none) n 7) j := by
  intro j hj
  rcases (show j = 0 ∨ j = 1 ∨ j = 2 ∨ j = 3 ∨ j = 4 ∨ j = 5 ∨ j = 6 by omega) with rfl | rfl | rfl | rfl | rfl | rfl | rfl <;> rfl
set_option maxHeartbeats 4000000 in
set_option maxRecDepth 100000 in
theorem si_Bite (l : Launch) (g : fw_G) {I : fw_I} {P : fw_P} (T : fw_T) (b : Nat) : Sp l g kX0_init T [.ref b] I P T 0 0 (qV (fun I1 P1 => I1 = I ∧ P1 = P)) := by
  refine Sp.of_V (L := [some (.ref b)]) (by decide) (by simp [Value.category]) (Nat.le_of_ble_eq_true rfl) rfl ?_
  refine V_aload_n (i := 0) rfl rfl dX0_init_0 rfl ?_
  refine V_objInit m_X0_1 oi_1 oi_2 dX0_init_1 rfl (by decide) (by decide) ?_
  exact V_return rfl dX0_init_4 rfl rfl rfl ⟨rfl, rfl, rfl⟩
set_option maxHeartbeats 4000000 in
set_option maxRecDepth 100000 in
theorem si_Snake (l : Launch) (g : fw_G) {I : fw_I} {P : fw_P} (T : fw_T) (b : Nat) : Sp l g kX6_init T [.ref b] I P T 0 0 (qV (fun I1 P1 => I1 = I ∧ P1 = P)) := by
  refine Sp.of_V (L := [some (.ref b)]) (by decide) (by simp [Value.category]) (Nat.le_of_ble_eq_true rfl) rfl ?_
  refine V_aload_n (i := 0) rfl rfl dX6_init_0 rfl ?_
  refine V_objInit m_X6_1 oi_1 oi_2 dX6_init_1 rfl (by decide) (by decide) ?_
  exact V_return rfl dX6_init_4 rfl rfl rfl ⟨rfl, rfl, rfl⟩
/-- what lies below a is as it was -/
def Fb (I : fw_I) (P : fw_P) (a : Nat) (J : fw_I) (PJ : fw_P) : Prop := ∀ b, b < a → J b = I b ∧ PJ b = P b
theorem Fb.rf (I : fw_I) (P : fw_P) (a : Nat) : Fb I P a I P := fun _ _ => ⟨rfl, rfl⟩
theorem Fb.trans {I J K : fw_I} {P Q R : fw_P} {a a' : Nat} (h : Fb I P a J Q) (h2 : Fb J Q a' K R) (hl : a ≤ a') : Fb I P a K R := fun b hb => ⟨(h2 b (by omega)).1.trans (h b hb).1, (h2 b (by omega)).2.trans (h b hb).2⟩
/-- the loop of Piece(): i bites stand -/
def PcL (I : fw_I) (P : fw_P) (pa i : Nat) (J : fw_I) (PJ : fw_P) : Prop := Fb I P pa J PJ ∧ (∀ f, J pa f = 0) ∧ PJ pa 0 = some (pa + 1) ∧ ∀ k, k < i → PJ (pa + 1) k = some (pa + 2 + k)
/-- a new piece -/
def PcN (pa : Nat) (J : fw_I) (PJ : fw_P) : Prop := (J pa 1 = 0 ∧ J pa 2 = 0 ∧ J pa 3 = 10 ∧ J pa 4 = -5 ∧ J pa 5 = 0 ∧ J pa 6 = 0) ∧ PJ pa 0 = some (pa + 1) ∧ ∀ k, k < 16 → PJ (pa + 1) k = some (pa + 2 + k)
def isPc (pa : Nat) : Prop := tt pa = (2, 0) ∧ tt (pa + 1) = (13, 16) ∧ ∀ b, b < 16 → tt (pa + 2 + b) = (0, 0)
theorem isPc_of {ra p : Nat} (h : isRc ra) (hp : p < 4) : isPc (ra + 2 + 18 * p) := ⟨(at_piece (nT := 0) h hp).2, by rw [show ra + 2 + 18 * p + 1 = ra + 3 + 18 * p from by omega]; exact (at_bites (nT := 0) h hp).2, fun b hb => by rw [show ra + 2 + 18 * p + 2 + b = ra + 4 + 18 * p + b from by omega]; exact (at_bite (nT := 0) h hp hb).2⟩
theorem lt_16 {i : Nat} (h : i < 16) : ¬ nI 16 ≤ nI i := nI_ge h (by decide)
set_option maxHeartbeats 4000000 in
set_option maxRecDepth 100000 in
theorem li_Piece (l : Launch) (g : fw_G) {I : fw_I} {P : fw_P} {pa : Nat} (hp : isPc pa) : ∀ (m i : Nat), i + m = 16 → ∀ J PJ, PcL I P pa i J PJ → V l g kX2_init (pa + 18, tt) 17 80 (qV (fun I1 P1 => Fb I P pa I1 P1 ∧ PcN pa I1 P1)) (pa + 2 + i, tt) J PJ (1 + i) (16 + 4 * i) 15 [some (.ref (g.1 + pa)), some (.int (nI i))] [] := by
  intro m
  induction m with
  | zero =>
    intro i hi J PJ hJ
    obtain rfl : i = 16 := by omega
    obtain ⟨h1, h2, h3, h4⟩ := hJ
    have hpa : fw_at (pa + 2 + 16, tt) pa 2 0 := ⟨by show pa < pa + 2 + 16; omega, hp.1⟩
    have hba : fw_at (pa + 2 + 16, tt) (pa + 1) 13 16 := ⟨by show pa + 1 < pa + 2 + 16; omega, hp.2.1⟩
    refine V_iload_n (i := 1) rfl rfl dX2_init_15 rfl ?_
    refine V_aload_n (i := 0) rfl rfl dX2_init_16 rfl ?_
    refine V_getr (kf := 0) C2 (by decide) l_X2_11 hpa rfl h3 dX2_init_17 rfl ?_
    refine V_alen (kd := 13) (by decide) hba dX2_init_20 rfl ?_
    refine V_icmp_ge (tgt := 43) dX2_init_21 (by decide) rfl (fun _ => ?_) (fun h => absurd (Int32.le_refl _) h)
    refine V_aload_n (i := 0) rfl rfl dX2_init_43 rfl ?_
    refine V_bipush (v := 10) (by decide) dX2_init_44 rfl ?_
    refine V_puti (kf := 3) C2 (by decide) rfl l_X2_18 rfl rfl rfl rfl hpa dX2_init_46 rfl ?_
    refine V_aload_n (i := 0) rfl rfl dX2_init_49 rfl ?_
    refine V_bipush (v := -5) (by decide) dX2_init_50 rfl ?_
    refine V_puti (kf := 4) C2 (by decide) rfl l_X2_22 rfl rfl rfl rfl hpa dX2_init_52 rfl ?_
    refine V_return rfl dX2_init_55 rfl rfl rfl ⟨rfl, fun b hb => ⟨?_, (h1 b hb).2⟩, ⟨?_, ?_, ?_, ?_, ?_, ?_⟩, h3, h4⟩
    · rw [up2_ne _ _ _ (by omega), up2_ne _ _ _ (by omega)]; exact (h1 b hb).1
    all_goals simp [up2_at, h2]
  | succ m ih =>
    intro i hi J PJ hJ
    have hi16 : i < 16 := by omega
    obtain ⟨h1, h2, h3, h4⟩ := hJ
    have hpa : fw_at (pa + 2 + i, tt) pa 2 0 := ⟨by show pa < pa + 2 + i; omega, hp.1⟩
    have hba : fw_at (pa + 2 + i, tt) (pa + 1) 13 16 := ⟨by show pa + 1 < pa + 2 + i; omega, hp.2.1⟩
    refine V_iload_n (i := 1) rfl rfl dX2_init_15 rfl ?_
    refine V_aload_n (i := 0) rfl rfl dX2_init_16 rfl ?_
    refine V_getr (kf := 0) C2 (by decide) l_X2_11 hpa rfl h3 dX2_init_17 rfl ?_
    refine V_alen (kd := 13) (by decide) hba dX2_init_20 rfl ?_
    refine V_icmp_ge (tgt := 43) dX2_init_21 (by decide) rfl (fun h => absurd h (lt_16 hi16)) (fun _ => ?_)
    refine V_aload_n (i := 0) rfl rfl dX2_init_24 rfl ?_
    refine V_getr (kf := 0) C2 (by decide) l_X2_11 hpa rfl h3 dX2_init_25 rfl ?_
    refine V_iload_n (i := 1) rfl rfl dX2_init_28 rfl ?_
    refine V_newT (hp.2.2 i hi16) C0 (df0 g _) j_X2_9 in_X0 ini_X0 (by omega) (by omega) dX2_init_29 rfl ?_
    refine V_dup (by rfl) dX2_init_32 rfl ?_
    refine V_callIN (host := RX7) (n := 0) (si_Bite l g _ _) o_X0_init rfl (by decide) ⟨by decide, by decide⟩ rfl rfl (by simp [Value.category]) (by omega) (by omega) rfl dX2_init_33 rfl (kW ?_)
    refine V_aast el13 (b := pa + 2 + i) ⟨by show pa + 1 < pa + 2 + i + 1; omega, hp.2.1⟩ ⟨by show pa + 2 + i < pa + 2 + i + 1; omega, hp.2.2 i hi16⟩ (fw_ix_nI (j := i) hi16 (by decide)) dX2_init_36 rfl ?_
    refine V_iinc1 (i := 1) rfl (by decide) rfl dX2_init_37 rfl ?_
    refine V_goto (tgt := 15) dX2_init_40 (by decide) ?_
    refine V_cast (T2 := (pa + 2 + (i + 1), tt)) rfl (u2 := 1 + (i + 1)) (by omega) (w2 := 16 + 4 * (i + 1)) (by omega) ?_
    have h9 := ih (i + 1) (by omega) (fw_z J (pa + 2 + i) 0) (up2 (fw_z PJ (pa + 2 + i) none) (pa + 1) i (some (pa + 2 + i))) ⟨fun b hb => ⟨?_, ?_⟩, fun f => ?_, ?_, fun k hk => ?_⟩
    · rw [nI_1]; exact h9
    · rw [fw_z_ne _ (by omega)]; exact (h1 b hb).1
    · rw [up2_ne _ _ _ (by omega), fw_z_ne _ (by omega)]; exact (h1 b hb).2
    · rw [fw_z_ne _ (by omega)]; exact h2 f
    · rw [up2_ne _ _ _ (by omega), fw_z_ne _ (by omega)]; exact h3
    · rw [up2_at]
      by_cases e : k = i
      · rw [if_pos ⟨rfl, e⟩, e]
      · rw [if_neg (fun z => e z.2), fw_z_ne _ (by omega)]; exact h4 k (by omega)
set_option maxHeartbeats 4000000 in
set_option maxRecDepth 100000 in
theorem si_Piece (l : Launch) (g : fw_G) {I : fw_I} {P : fw_P} {pa : Nat} (hp : isPc pa) (h0 : ∀ f, I pa f = 0) : Sp l g kX2_init (pa + 1, tt) [.ref (g.1 + pa)] I P (pa + 18, tt) 17 80 (qV (fun I1 P1 => Fb I P pa I1 P1 ∧ PcN pa I1 P1)) := by
  refine Sp.of_V (L := [some (.ref (g.1 + pa)), none]) (by decide) (by simp [Value.category]) (Nat.le_of_ble_eq_true rfl) rfl ?_
  refine V_aload_n (i := 0) rfl rfl dX2_init_0 rfl ?_
  refine V_objInit m_X2_3 oi_1 oi_2 dX2_init_1 rfl (by decide) (by decide) ?_
  refine V_aload_n (i := 0) rfl rfl dX2_init_4 rfl ?_
  refine V_bipush (v := 16) (by decide) dX2_init_5 rfl ?_
  refine V_anewT hp.2.1 el13 j_X2_9 (by decide) (by decide) rfl (by decide) (by omega) (by omega) dX2_init_7 rfl ?_
  refine V_putrF (kf := 0) C2 (by decide) rfl l_X2_11 rfl rfl rfl rfl rfl ⟨by show pa < pa + 1 + 1; omega, hp.1⟩ dX2_init_10 rfl ?_
  refine V_iconst (v := 0) (by decide) dX2_init_13 rfl ?_
  refine V_istore_n (i := 1) rfl (by decide) rfl dX2_init_14 rfl ?_
  refine V_cast (T2 := (pa + 2 + 0, tt)) rfl (u2 := 1 + 0) rfl (w2 := 16 + 4 * 0) rfl ?_
  refine li_Piece l g hp 16 0 rfl _ _ ⟨fun b hb => ⟨?_, ?_⟩, fun f => ?_, ?_, fun k hk => absurd hk (Nat.not_lt_zero k)⟩
  · rw [fw_z_ne _ (by omega)]
  · rw [up2_ne _ _ _ (by omega), fw_z_ne _ (by omega)]
  · rw [fw_z_ne _ (by omega)]; exact h0 f
  · rw [up2_same]
