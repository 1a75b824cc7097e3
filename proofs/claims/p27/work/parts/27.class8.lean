variable {nT : Nat}
theorem rc_apart : ∀ a ∈ [1, 86, 171, 258, 343, 428, 513, 598], ∀ b ∈ [1, 86, 171, 258, 343, 428, 513, 598], a ≠ b → a + 85 ≤ b ∨ b + 85 ≤ a := by decide
theorem isRc.apart {ra rb : Nat} (h1 : isRc ra) (h2 : isRc rb) (h : ra ≠ rb) : ra + 85 ≤ rb ∨ rb + 85 ≤ ra := rc_apart ra h1 rb h2 h
/-- one race's cells only -/
theorem RRel.frame {I J : fw_I} {P Q : fw_P} {ra : Nat} {s : Nat → Int32} (hS : RSh P ra) (h : RRel I P ra s) (e : ∀ b, ra ≤ b → b < ra + 85 → J b = I b ∧ Q b = P b) : RRel J Q ra s := by
  refine ⟨fun p hp f a b => by rw [(e _ (by omega) (by omega)).1]; exact h.1 p hp f a b, fun p hp k hk hm b hb f hf => ?_, fun i hi => by rw [(e _ (by omega) (by omega)).1]; exact h.2.2.1 i hi, fun f a b c => by rw [(e _ (by omega) (by omega)).1]; exact h.2.2.2 f a b c⟩
  rw [(e _ (by omega) (by omega)).2] at hb
  obtain ⟨c, hc, rfl⟩ := hS.bt hp hk hb
  rw [(e _ (by omega) (by omega)).1]
  exact h.b hp hk hm hb hf
theorem RSh.frame {P Q : fw_P} {ra : Nat} (hS : RSh P ra) (e : ∀ b, ra ≤ b → b < ra + 85 → Q b = P b) : RSh Q ra := by
  obtain ⟨h0, h1, h2, h3, h4, h5, h6⟩ := hS
  exact ⟨by rw [e _ (by omega) (by omega)]; exact h0, by rw [e _ (by omega) (by omega)]; exact h1, fun p hp => by rw [e _ (by omega) (by omega)]; exact h2 p hp, fun p hp => by rw [e _ (by omega) (by omega)]; exact h3 p hp, fun p hp k hk => by rw [e _ (by omega) (by omega)]; exact h4 p hp k hk,
    fun p hp j k hj hk q => by rw [e _ (by omega) (by omega)] at q; exact h5 p hp j k hj hk q, fun i hi => by rw [e _ (by omega) (by omega)]; exact h6 i hi⟩
/-- a piece's fields so far -/
def Cf (I : fw_I) (a p : Nat) (s : Nat → Int32) (F : Nat) (J : fw_I) : Prop := (∀ f, 1 ≤ f → f ≤ F → J a f = pcv s p f) ∧ ∀ b, b ≠ a → J b = I b
theorem Cf.step {I J : fw_I} {a p F : Nat} {s : Nat → Int32} (h : Cf I a p s F J) : Cf I a p s (F + 1) (up2 J a (F + 1) (pcv s p (F + 1))) := by
  refine ⟨fun f h1 h2 => ?_, fun b hb => by rw [up2_ne _ _ _ hb]; exact h.2 b hb⟩
  rw [up2_at]
  by_cases e : f = F + 1
  · rw [if_pos ⟨rfl, e⟩, e]
  · rw [if_neg (fun z => e z.2)]; exact h.1 f h1 (by omega)
/-- a piece's bites so far -/
def Cb (I : fw_I) (P : fw_P) (ra p : Nat) (s : Nat → Int32) (j : Nat) (J : fw_I) : Prop := (∀ f, 1 ≤ f → f < 7 → J (ra + 2 + 18 * p) f = pcv s p f) ∧ (∀ k, k < 16 → k < j → ∀ b, P (ra + 3 + 18 * p) k = some b → ∀ f, f < 4 → J b f = s (wi p k + f)) ∧ ∀ b, (b < ra + 2 + 18 * p ∨ ra + 20 + 18 * p ≤ b) → J b = I b
theorem Cb.step {I J : fw_I} {P : fw_P} {ra p j b : Nat} {s : Nat → Int32} (hS : RSh P ra) (hp : p < 4) (hj : j < 16) (h : Cb I P ra p s j J) (hb : P (ra + 3 + 18 * p) j = some b) : Cb I P ra p s (j + 1) (b4 J b (s (wi p j + 0)) (s (wi p j + 1)) (s (wi p j + 2)) (s (wi p j + 3))) := by
  obtain ⟨c, hc, rfl⟩ := hS.bt hp hj hb
  refine ⟨fun f h1 h2 => by rw [b4_ne _ _ _ _ _ (by omega)]; exact h.1 f h1 h2, fun k hk hkj b' hb' f hf => ?_, fun b' hb' => by rw [b4_ne _ _ _ _ _ (by omega)]; exact h.2.2 b' hb'⟩
  by_cases e : k = j
  · subst e
    rw [hb] at hb'
    rw [← Option.some.inj hb']
    obtain ⟨c0, c1, c2, c3⟩ := b4_at J (ra + 4 + 18 * p + c) (s (wi p k + 0)) (s (wi p k + 1)) (s (wi p k + 2)) (s (wi p k + 3))
    rcases (show f = 0 ∨ f = 1 ∨ f = 2 ∨ f = 3 by omega) with rfl | rfl | rfl | rfl
    · exact c0
    · exact c1
    · exact c2
    · exact c3
  · rw [b4_ne _ _ _ _ _ (fun q => e (hS.2.2.2.2.2.1 p hp k j hk hj (by rw [hb', hb, q])))]
    exact h.2.1 k hk (by omega) b' hb' f hf
/-- a piece is copied, its cells only -/
def PcR (I : fw_I) (P : fw_P) (ra p : Nat) (s : Nat → Int32) (J : fw_I) : Prop := Cb I P ra p s (aMany s p) J
/-- the pieces before i are copied -/
def Cp (I : fw_I) (P : fw_P) (ra : Nat) (s : Nat → Int32) (i : Nat) (J : fw_I) : Prop := (∀ p, p < i → p < 4 → (∀ f, 1 ≤ f → f < 7 → J (ra + 2 + 18 * p) f = pcv s p f) ∧ ∀ k, k < 16 → k < aMany s p → ∀ b, P (ra + 3 + 18 * p) k = some b → ∀ f, f < 4 → J b f = s (wi p k + f)) ∧ ∀ b, (b < ra ∨ ra + 85 ≤ b) → J b = I b
theorem Cp.step {I J K : fw_I} {P : fw_P} {ra i : Nat} {s : Nat → Int32} (hS : RSh P ra) (hi : i < 4) (h : Cp I P ra s i J) (h2 : PcR J P ra i s K) : Cp I P ra s (i + 1) K := by
  refine ⟨fun p h1 h4 => ?_, fun b hb => by rw [h2.2.2 b (by omega)]; exact h.2 b hb⟩
  by_cases e : p = i
  · subst e; exact ⟨h2.1, h2.2.1⟩
  · obtain ⟨a, b⟩ := h.1 p (by omega) h4
    refine ⟨fun f f1 f2 => by rw [h2.2.2 _ (by omega)]; exact a f f1 f2, fun k hk hm c hc f hf => ?_⟩
    obtain ⟨d, hd, rfl⟩ := hS.bt h4 hk hc
    rw [h2.2.2 _ (by omega)]
    exact b k hk hm _ hc f hf
/-- the snakes before i too -/
def Cs (I : fw_I) (P : fw_P) (ra rb : Nat) (s : Nat → Int32) (i : Nat) (J : fw_I) : Prop := Cp I P ra s 4 J ∧ ∀ j, j < i → ∀ f, f < 4 → J (ra + 75 + j) f = I (rb + 75 + j) f
theorem Cs.step {I J : fw_I} {P : fw_P} {ra rb i : Nat} {s : Nat → Int32} (hS : RSh P ra) (hab : ra + 85 ≤ rb ∨ rb + 85 ≤ ra) (hi : i < 10) (h : Cs I P ra rb s i J) : Cs I P ra rb s (i + 1) (b4 J (ra + 75 + i) (J (rb + 75 + i) 0) (J (rb + 75 + i) 1) (J (rb + 75 + i) 2) (J (rb + 75 + i) 3)) := by
  refine ⟨⟨fun p h1 h4 => ?_, fun b hb => by rw [b4_ne _ _ _ _ _ (by omega)]; exact h.1.2 b hb⟩, fun j hj f hf => ?_⟩
  · obtain ⟨a, b⟩ := h.1.1 p h1 h4
    refine ⟨fun f f1 f2 => by rw [b4_ne _ _ _ _ _ (by omega)]; exact a f f1 f2, fun k hk hm c hc f hf => ?_⟩
    obtain ⟨d, hd, rfl⟩ := hS.bt h4 hk hc
    rw [b4_ne _ _ _ _ _ (by omega)]
    exact b k hk hm _ hc f hf
  · rw [h.1.2 (rb + 75 + i) (by omega)]
    by_cases e : j = i
    · subst e
      obtain ⟨c0, c1, c2, c3⟩ := b4_at J (ra + 75 + j) (I (rb + 75 + j) 0) (I (rb + 75 + j) 1) (I (rb + 75 + j) 2) (I (rb + 75 + j) 3)
      rcases (show f = 0 ∨ f = 1 ∨ f = 2 ∨ f = 3 by omega) with rfl | rfl | rfl | rfl
      · exact c0
      · exact c1
      · exact c2
      · exact c3
    · rw [b4_ne _ _ _ _ _ (by omega)]
      exact h.2 j (by omega) f hf
/-- the race's own ints too, from the second on -/
def Cr (I : fw_I) (P : fw_P) (ra rb : Nat) (s : Nat → Int32) (F : Nat) (J : fw_I) : Prop := Cs I P ra rb s 10 J ∧ ∀ f, 2 ≤ f → f ≤ F → J ra f = I rb f
theorem Cr.step {I J : fw_I} {P : fw_P} {ra rb F : Nat} {s : Nat → Int32} (hS : RSh P ra) (hab : ra + 85 ≤ rb ∨ rb + 85 ≤ ra) (h : Cr I P ra rb s F J) : Cr I P ra rb s (F + 1) (up2 J ra (F + 1) (J rb (F + 1))) := by
  refine ⟨⟨⟨fun p h1 h4 => ?_, fun b hb => by rw [up2_ne _ _ _ (by omega)]; exact h.1.1.2 b hb⟩, fun j hj f hf => by rw [up2_ne _ _ _ (by omega)]; exact h.1.2 j hj f hf⟩, fun f f2 fF => ?_⟩
  · obtain ⟨a, b⟩ := h.1.1.1 p h1 h4
    refine ⟨fun f f1 f2 => by rw [up2_ne _ _ _ (by omega)]; exact a f f1 f2, fun k hk hm c hc f hf => ?_⟩
    obtain ⟨d, hd, rfl⟩ := hS.bt h4 hk hc
    rw [up2_ne _ _ _ (by omega)]
    exact b k hk hm _ hc f hf
  · rw [up2_at, h.1.1.2 rb (by omega)]
    by_cases e : f = F + 1
    · rw [if_pos ⟨rfl, e⟩, e]
    · rw [if_neg (fun z => e z.2)]; exact h.2 f f2 (by omega)
theorem Cr.done {I J : fw_I} {P : fw_P} {ra rb : Nat} {s : Nat → Int32} (hR : RRel I P rb s) (hv : Mv I rb s) (h : Cr I P ra rb s 9 J) : Rt I P ra s J := by
  refine ⟨⟨fun p hp => (h.1.1.1 p hp hp).1, fun p hp => (h.1.1.1 p hp hp).2, fun i hi => ?_, fun f f2 f10 f5 => ?_⟩, ?_, h.1.1.2⟩
  · rw [h.1.2 i hi 0 (by decide), h.1.2 i hi 1 (by decide), h.1.2 i hi 2 (by decide), h.1.2 i hi 3 (by decide)]
    exact hR.2.2.1 i hi
  · rw [h.2 f f2 (by omega)]; exact hR.2.2.2 f f2 f10 f5
  · unfold Mv
    rw [h.2 5 (by decide) (by decide)]; exact hv
theorem V_genP {l : Launch} {g : fw_G} {k : fw_M} {T T' : fw_T} {mc ms : Nat} {Q : Option Value → fw_I → fw_P → Prop} {I : fw_I} {P : fw_P} {u w pc : Nat} {L : List (Option Value)} {st : List Value} {A : fw_I → fw_P → Prop} (h : A I P) (kk : ∀ J PJ, A J PJ → V l g k T' mc ms Q T J PJ u w pc L st) : V l g k T' mc ms Q T I P u w pc L st := kk I P h
set_option maxHeartbeats 4000000 in
set_option maxRecDepth 100000 in
theorem lp_Piece_copy (l : Launch) (g : fw_G) {P : fw_P} {ra rb : Nat} {s : Nat → Int32} (hr : isRc ra) (hrb : isRc rb) (hab : ra + 85 ≤ rb ∨ rb + 85 ≤ ra) (hS : RSh P ra) (hSb : RSh P rb) {I : fw_I} (hR : RRel I P rb s) (hm : mOf s) {p : Nat} (hp : p < 4) : ∀ (m j : Nat), j + m = aMany s p → ∀ J, Cb I P ra p s j J → V l g kX2_copyFrom (T0 nT) 0 0 (qV (fun I1 P1 => PcR I P ra p s I1 ∧ P1 = P)) (T0 nT) J P 0 0 50 [some (.ref (g.1 + (ra + 2 + 18 * p))), some (.ref (g.1 + (rb + 2 + 18 * p))), some (.int (nI j)), none, none] [] := by
  have hpa := at_piece (nT := nT) hr hp
  have hpo := at_piece (nT := nT) hrb hp
  have hba := at_bites (nT := nT) hr hp
  have hbo := at_bites (nT := nT) hrb hp
  have hpb := hS.2.2.2.1 p hp
  have hpbo := hSb.2.2.2.1 p hp
  have hn := hm p hp
  have hne : rb + 2 + 18 * p ≠ ra + 2 + 18 * p := by omega
  intro m
  induction m with
  | zero =>
    intro j hj J hJ
    obtain rfl : j = aMany s p := by omega
    have e1 : J (ra + 2 + 18 * p) 1 = nI (aMany s p) := by rw [hJ.1 1 (by decide) (by decide)]; exact hn.1
    refine V_iload_n (i := 2) rfl rfl dX2_copyFrom_50 rfl ?_
    refine V_aload_n (i := 0) rfl rfl dX2_copyFrom_51 rfl ?_
    refine V_get (kf := 1) C2 (by decide) l_X2_28 (by assumption) rfl dX2_copyFrom_52 rfl ?_
    rw [e1]
    refine V_icmp_ge (tgt := 92) dX2_copyFrom_55 (by decide) rfl (fun _ => ?_) (fun h => absurd (nI_le (Nat.le_refl _) (by omega)) h)
    exact V_return rfl dX2_copyFrom_92 rfl rfl rfl (⟨rfl, hJ, rfl⟩)
  | succ m ih =>
    intro j hj J hJ
    have hjn : j < aMany s p := by omega
    have e1 : J (ra + 2 + 18 * p) 1 = nI (aMany s p) := by rw [hJ.1 1 (by decide) (by decide)]; exact hn.1
    have hJb : ∀ b, rb ≤ b → b < rb + 85 → J b = I b := fun b h1 h2 => hJ.2.2 b (by omega)
    have e2 : J (rb + 2 + 18 * p) 1 = nI (aMany s p) := by rw [hJb _ (by omega) (by omega), hR.p1 hp]; exact hn.1
    obtain ⟨bm, hbm, hatm⟩ := RSh.BtS (nT := nT) hr hS hp j (by omega)
    obtain ⟨bt, hbt, hatt⟩ := RSh.BtS (nT := nT) hrb hSb hp j (by omega)
    obtain ⟨c1, hc1, q1⟩ := hS.bt hp (by omega) hbm
    obtain ⟨c2, hc2, q2⟩ := hSb.bt hp (by omega) hbt
    refine V_iload_n (i := 2) rfl rfl dX2_copyFrom_50 rfl ?_
    refine V_aload_n (i := 0) rfl rfl dX2_copyFrom_51 rfl ?_
    refine V_get (kf := 1) C2 (by decide) l_X2_28 (by assumption) rfl dX2_copyFrom_52 rfl ?_
    rw [e1]
    refine V_icmp_ge (tgt := 92) dX2_copyFrom_55 (by decide) rfl (fun h => absurd h (nI_ge hjn (by omega))) (fun _ => ?_)
    refine V_aload_n (i := 0) rfl rfl dX2_copyFrom_58 rfl ?_
    refine V_iload_n (i := 2) rfl rfl dX2_copyFrom_59 rfl ?_
    refine V_call (n := 1) (sp_Piece_biteAt l g hpa hba hpb e1 (by omega) (nI j)) o_X2_biteAt m_X2_31 ⟨by decide, by decide⟩ (by assumption) rfl rfl (by first | exact Nat.le_of_ble_eq_true rfl | simp [Value.category]) (Nat.le_refl _) (Nat.le_refl _) rfl dX2_copyFrom_60 rfl (kR ?_)
    rw [btR_nI P hjn (by omega), hbm]
    refine V_astore_n (i := 3) rfl (by decide) rfl dX2_copyFrom_63 rfl ?_
    refine V_aload_n (i := 1) rfl rfl dX2_copyFrom_64 rfl ?_
    refine V_iload_n (i := 2) rfl rfl dX2_copyFrom_65 rfl ?_
    refine V_call (n := 1) (sp_Piece_biteAt l g hpo hbo hpbo e2 (by omega) (nI j)) o_X2_biteAt m_X2_31 ⟨by decide, by decide⟩ (by assumption) rfl rfl (by first | exact Nat.le_of_ble_eq_true rfl | simp [Value.category]) (Nat.le_refl _) (Nat.le_refl _) rfl dX2_copyFrom_66 rfl (kR ?_)
    rw [btR_nI P hjn (by omega), hbt]
    refine V_astore (i := 4) (by decide) rfl dX2_copyFrom_69 rfl ?_
    refine V_aload_n (i := 3) rfl rfl dX2_copyFrom_71 rfl ?_
    refine V_ifnull_s dX2_copyFrom_72 rfl ?_
    refine V_aload (i := 4) rfl dX2_copyFrom_75 rfl ?_
    refine V_ifnull_s dX2_copyFrom_77 rfl ?_
    refine V_aload_n (i := 3) rfl rfl dX2_copyFrom_80 rfl ?_
    refine V_aload (i := 4) rfl dX2_copyFrom_81 rfl ?_
    refine V_call (n := 1) (sp_Bite_copyFrom l g hatm hatt (by omega)) o_X0_copyFrom m_X2_51 ⟨by decide, by decide⟩ (by assumption) rfl rfl (by first | exact Nat.le_of_ble_eq_true rfl | simp [Value.category]) (Nat.le_refl _) (Nat.le_refl _) rfl dX2_copyFrom_83 rfl (kW ?_)
    rw [hJb bt (by omega) (by omega), hR.b hp (by omega) hjn hbt (f := 0) (by decide), hR.b hp (by omega) hjn hbt (f := 1) (by decide), hR.b hp (by omega) hjn hbt (f := 2) (by decide), hR.b hp (by omega) hjn hbt (f := 3) (by decide)]
    refine V_gen (A := Cb I P ra p s (j + 1)) (hJ.step hS hp (by omega) hbm) ?_
    intro J2 hJ2
    refine V_iinc1 (i := 2) rfl (by decide) rfl dX2_copyFrom_86 rfl ?_
    refine V_goto (tgt := 50) dX2_copyFrom_89 (by decide) ?_
    refine V_forget 3 rfl ?_
    refine V_forget 4 rfl ?_
    have h9 := ih (j + 1) (by omega) J2 hJ2
    rw [← nI_1] at h9
    exact h9

set_option maxHeartbeats 4000000 in
set_option maxRecDepth 100000 in
theorem sp_Piece_copyFrom (l : Launch) (g : fw_G) {P : fw_P} {ra rb : Nat} {s : Nat → Int32} (hr : isRc ra) (hrb : isRc rb) (hab : ra + 85 ≤ rb ∨ rb + 85 ≤ ra) (hS : RSh P ra) (hSb : RSh P rb) {I : fw_I} (hR : RRel I P rb s) (hm : mOf s) {p : Nat} (hp : p < 4) : Sp l g kX2_copyFrom (T0 nT) [.ref (g.1 + (ra + 2 + 18 * p)), .ref (g.1 + (rb + 2 + 18 * p))] I P (T0 nT) 0 0 (qV (fun I1 P1 => PcR I P ra p s I1 ∧ P1 = P)) := by
  have hpa := at_piece (nT := nT) hr hp
  have hpo := at_piece (nT := nT) hrb hp
  have hba := at_bites (nT := nT) hr hp
  have hbo := at_bites (nT := nT) hrb hp
  have hpb := hS.2.2.2.1 p hp
  have hpbo := hSb.2.2.2.1 p hp
  have hn := hm p hp
  have hne : rb + 2 + 18 * p ≠ ra + 2 + 18 * p := by omega
  refine Sp.of_V (L := [some (.ref (g.1 + (ra + 2 + 18 * p))), some (.ref (g.1 + (rb + 2 + 18 * p))), none, none, none]) (by decide) (by simp [Value.category]) (Nat.le_of_ble_eq_true rfl) rfl ?_
  refine V_aload_n (i := 0) rfl rfl dX2_copyFrom_0 rfl ?_
  refine V_aload_n (i := 1) rfl rfl dX2_copyFrom_1 rfl ?_
  refine V_get (kf := 1) C2 (by decide) l_X2_28 (by assumption) rfl dX2_copyFrom_2 rfl ?_
  rw [hR.1 p hp 1 (by decide) (by decide)]
  refine V_puti (kf := 1) C2 (by decide) rfl l_X2_28 rfl rfl rfl rfl (by assumption) dX2_copyFrom_5 rfl ?_
  refine V_gen (A := Cf I (ra + 2 + 18 * p) p s 1) (Cf.step (F := 0) ⟨fun f h1 h2 => absurd h1 (by omega), fun _ _ => rfl⟩) ?_
  intro J1 hJ1
  refine V_aload_n (i := 0) rfl rfl dX2_copyFrom_8 rfl ?_
  refine V_aload_n (i := 1) rfl rfl dX2_copyFrom_9 rfl ?_
  refine V_get (kf := 2) C2 (by decide) l_X2_25 (by assumption) rfl dX2_copyFrom_10 rfl ?_
  rw [hJ1.2 _ hne, hR.1 p hp 2 (by decide) (by decide)]
  refine V_puti (kf := 2) C2 (by decide) rfl l_X2_25 rfl rfl rfl rfl (by assumption) dX2_copyFrom_13 rfl ?_
  refine V_gen (A := Cf I (ra + 2 + 18 * p) p s 2) (Cf.step (F := 1) hJ1) ?_
  intro J2 hJ2
  refine V_aload_n (i := 0) rfl rfl dX2_copyFrom_16 rfl ?_
  refine V_aload_n (i := 1) rfl rfl dX2_copyFrom_17 rfl ?_
  refine V_get (kf := 3) C2 (by decide) l_X2_18 (by assumption) rfl dX2_copyFrom_18 rfl ?_
  rw [hJ2.2 _ hne, hR.1 p hp 3 (by decide) (by decide)]
  refine V_puti (kf := 3) C2 (by decide) rfl l_X2_18 rfl rfl rfl rfl (by assumption) dX2_copyFrom_21 rfl ?_
  refine V_gen (A := Cf I (ra + 2 + 18 * p) p s 3) (Cf.step (F := 2) hJ2) ?_
  intro J3 hJ3
  refine V_aload_n (i := 0) rfl rfl dX2_copyFrom_24 rfl ?_
  refine V_aload_n (i := 1) rfl rfl dX2_copyFrom_25 rfl ?_
  refine V_get (kf := 4) C2 (by decide) l_X2_22 (by assumption) rfl dX2_copyFrom_26 rfl ?_
  rw [hJ3.2 _ hne, hR.1 p hp 4 (by decide) (by decide)]
  refine V_puti (kf := 4) C2 (by decide) rfl l_X2_22 rfl rfl rfl rfl (by assumption) dX2_copyFrom_29 rfl ?_
  refine V_gen (A := Cf I (ra + 2 + 18 * p) p s 4) (Cf.step (F := 3) hJ3) ?_
  intro J4 hJ4
  refine V_aload_n (i := 0) rfl rfl dX2_copyFrom_32 rfl ?_
  refine V_aload_n (i := 1) rfl rfl dX2_copyFrom_33 rfl ?_
  refine V_get (kf := 5) C2 (by decide) l_X2_48 (by assumption) rfl dX2_copyFrom_34 rfl ?_
  rw [hJ4.2 _ hne, hR.1 p hp 5 (by decide) (by decide)]
  refine V_puti (kf := 5) C2 (by decide) rfl l_X2_48 rfl rfl rfl rfl (by assumption) dX2_copyFrom_37 rfl ?_
  refine V_gen (A := Cf I (ra + 2 + 18 * p) p s 5) (Cf.step (F := 4) hJ4) ?_
  intro J5 hJ5
  refine V_aload_n (i := 0) rfl rfl dX2_copyFrom_40 rfl ?_
  refine V_aload_n (i := 1) rfl rfl dX2_copyFrom_41 rfl ?_
  refine V_get (kf := 6) C2 (by decide) l_X2_45 (by assumption) rfl dX2_copyFrom_42 rfl ?_
  rw [hJ5.2 _ hne, hR.1 p hp 6 (by decide) (by decide)]
  refine V_puti (kf := 6) C2 (by decide) rfl l_X2_45 rfl rfl rfl rfl (by assumption) dX2_copyFrom_45 rfl ?_
  refine V_gen (A := Cf I (ra + 2 + 18 * p) p s 6) (Cf.step (F := 5) hJ5) ?_
  intro J6 hJ6
  refine V_iconst (v := 0) (by decide) dX2_copyFrom_48 rfl ?_
  refine V_istore_n (i := 2) rfl (by decide) rfl dX2_copyFrom_49 rfl ?_
  exact lp_Piece_copy l g hr hrb hab hS hSb hR hm hp (aMany s p) 0 (by omega) J6 ⟨fun f h1 h2 => hJ6.1 f h1 (by omega), fun k _ h => absurd h (by omega), fun b hb => hJ6.2 b (by omega)⟩

set_option maxHeartbeats 4000000 in
set_option maxRecDepth 100000 in
theorem lp_copy83 (l : Launch) (g : fw_G) {P : fw_P} {ra rb : Nat} {s : Nat → Int32} (hr : isRc ra) (hrb : isRc rb) (hab : ra + 85 ≤ rb ∨ rb + 85 ≤ ra) (hS : RSh P ra) (hSb : RSh P rb) {I : fw_I} (hR : RRel I P rb s) (hm : mOf s) (hv : Mv I rb s) {J : fw_I} (hJ : Cr I P ra rb s 1 J) : V l g kX3_copyFrom (T0 nT) 0 0 (qV (fun I1 P1 => Rt I P ra s I1 ∧ P1 = P)) (T0 nT) J P 0 0 83 [some (.ref (g.1 + ra)), some (.ref (g.1 + rb)), none, none, none] [] := by
  have ara := at_race (nT := nT) hr
  have arb := at_race (nT := nT) hrb
  have fr : ∀ J, (∀ b, (b < ra ∨ ra + 85 ≤ b) → J b = I b) → RRel J P rb s := fun J h => hR.frame hSb (fun b h1 h2 => ⟨h b (by omega), rfl⟩)
  refine V_aload_n (i := 0) rfl rfl dX3_copyFrom_83 rfl ?_
  refine V_aload_n (i := 1) rfl rfl dX3_copyFrom_84 rfl ?_
  refine V_get (kf := 2) C3 (by decide) l_X3_25 (by assumption) rfl dX3_copyFrom_85 rfl ?_
  refine V_puti (kf := 2) C3 (by decide) rfl l_X3_25 rfl rfl rfl rfl (by assumption) dX3_copyFrom_88 rfl ?_
  refine V_gen (A := Cr I P ra rb s 2) (Cr.step (F := 1) hS hab hJ) ?_
  intro J2 hJ2
  refine V_aload_n (i := 0) rfl rfl dX3_copyFrom_91 rfl ?_
  refine V_aload_n (i := 1) rfl rfl dX3_copyFrom_92 rfl ?_
  refine V_get (kf := 3) C3 (by decide) l_X3_29 (by assumption) rfl dX3_copyFrom_93 rfl ?_
  refine V_puti (kf := 3) C3 (by decide) rfl l_X3_29 rfl rfl rfl rfl (by assumption) dX3_copyFrom_96 rfl ?_
  refine V_gen (A := Cr I P ra rb s 3) (Cr.step (F := 2) hS hab hJ2) ?_
  intro J3 hJ3
  refine V_aload_n (i := 0) rfl rfl dX3_copyFrom_99 rfl ?_
  refine V_aload_n (i := 1) rfl rfl dX3_copyFrom_100 rfl ?_
  refine V_get (kf := 4) C3 (by decide) l_X3_32 (by assumption) rfl dX3_copyFrom_101 rfl ?_
  refine V_puti (kf := 4) C3 (by decide) rfl l_X3_32 rfl rfl rfl rfl (by assumption) dX3_copyFrom_104 rfl ?_
  refine V_gen (A := Cr I P ra rb s 4) (Cr.step (F := 3) hS hab hJ3) ?_
  intro J4 hJ4
  refine V_aload_n (i := 0) rfl rfl dX3_copyFrom_107 rfl ?_
  refine V_aload_n (i := 1) rfl rfl dX3_copyFrom_108 rfl ?_
  refine V_get (kf := 5) C3 (by decide) l_X3_50 (by assumption) rfl dX3_copyFrom_109 rfl ?_
  refine V_puti (kf := 5) C3 (by decide) rfl l_X3_50 rfl rfl rfl rfl (by assumption) dX3_copyFrom_112 rfl ?_
  refine V_gen (A := Cr I P ra rb s 5) (Cr.step (F := 4) hS hab hJ4) ?_
  intro J5 hJ5
  refine V_aload_n (i := 0) rfl rfl dX3_copyFrom_115 rfl ?_
  refine V_aload_n (i := 1) rfl rfl dX3_copyFrom_116 rfl ?_
  refine V_get (kf := 6) C3 (by decide) l_X3_53 (by assumption) rfl dX3_copyFrom_117 rfl ?_
  refine V_puti (kf := 6) C3 (by decide) rfl l_X3_53 rfl rfl rfl rfl (by assumption) dX3_copyFrom_120 rfl ?_
  refine V_gen (A := Cr I P ra rb s 6) (Cr.step (F := 5) hS hab hJ5) ?_
  intro J6 hJ6
  refine V_aload_n (i := 0) rfl rfl dX3_copyFrom_123 rfl ?_
  refine V_aload_n (i := 1) rfl rfl dX3_copyFrom_124 rfl ?_
  refine V_get (kf := 7) C3 (by decide) l_X3_56 (by assumption) rfl dX3_copyFrom_125 rfl ?_
  refine V_puti (kf := 7) C3 (by decide) rfl l_X3_56 rfl rfl rfl rfl (by assumption) dX3_copyFrom_128 rfl ?_
  refine V_gen (A := Cr I P ra rb s 7) (Cr.step (F := 6) hS hab hJ6) ?_
  intro J7 hJ7
  refine V_aload_n (i := 0) rfl rfl dX3_copyFrom_131 rfl ?_
  refine V_aload_n (i := 1) rfl rfl dX3_copyFrom_132 rfl ?_
  refine V_get (kf := 8) C3 (by decide) l_X3_59 (by assumption) rfl dX3_copyFrom_133 rfl ?_
  refine V_puti (kf := 8) C3 (by decide) rfl l_X3_59 rfl rfl rfl rfl (by assumption) dX3_copyFrom_136 rfl ?_
  refine V_gen (A := Cr I P ra rb s 8) (Cr.step (F := 7) hS hab hJ7) ?_
  intro J8 hJ8
  refine V_aload_n (i := 0) rfl rfl dX3_copyFrom_139 rfl ?_
  refine V_aload_n (i := 1) rfl rfl dX3_copyFrom_140 rfl ?_
  refine V_get (kf := 9) C3 (by decide) l_X3_62 (by assumption) rfl dX3_copyFrom_141 rfl ?_
  refine V_puti (kf := 9) C3 (by decide) rfl l_X3_62 rfl rfl rfl rfl (by assumption) dX3_copyFrom_144 rfl ?_
  refine V_gen (A := Cr I P ra rb s 9) (Cr.step (F := 8) hS hab hJ8) ?_
  intro J9 hJ9
  exact V_return rfl dX3_copyFrom_147 rfl rfl rfl (⟨rfl, hJ9.done hR hv, rfl⟩)

set_option maxHeartbeats 4000000 in
set_option maxRecDepth 100000 in
theorem lp_copy43 (l : Launch) (g : fw_G) {P : fw_P} {ra rb : Nat} {s : Nat → Int32} (hr : isRc ra) (hrb : isRc rb) (hab : ra + 85 ≤ rb ∨ rb + 85 ≤ ra) (hS : RSh P ra) (hSb : RSh P rb) {I : fw_I} (hR : RRel I P rb s) (hm : mOf s) (hv : Mv I rb s) : ∀ (m j : Nat), j + m = 10 → ∀ J, Cs I P ra rb s j J → V l g kX3_copyFrom (T0 nT) 0 0 (qV (fun I1 P1 => Rt I P ra s I1 ∧ P1 = P)) (T0 nT) J P 0 0 43 [some (.ref (g.1 + ra)), some (.ref (g.1 + rb)), some (.int (nI j)), none, none] [] := by
  have ara := at_race (nT := nT) hr
  have arb := at_race (nT := nT) hrb
  have fr : ∀ J, (∀ b, (b < ra ∨ ra + 85 ≤ b) → J b = I b) → RRel J P rb s := fun J h => hR.frame hSb (fun b h1 h2 => ⟨h b (by omega), rfl⟩)
  intro m
  induction m with
  | zero =>
    intro j hj J hJ
    obtain rfl : j = 10 := by omega
    refine V_iload_n (i := 2) rfl rfl dX3_copyFrom_43 rfl ?_
    refine V_bipush (v := 10) (by decide) dX3_copyFrom_44 rfl ?_
    refine V_icmp_ge (tgt := 83) dX3_copyFrom_46 (by decide) rfl (fun _ => ?_) (fun h => absurd (by decide) h)
    refine V_forget 2 rfl ?_
    exact lp_copy83 l g hr hrb hab hS hSb hR hm hv ⟨hJ, fun f h2 h1 => absurd h1 (by omega)⟩
  | succ m ih =>
    intro j hj J hJ
    have hjn : j < 10 := by omega
    have hk1 := at_snake (nT := nT) hr hjn
    have hk2 := at_snake (nT := nT) hrb hjn
    refine V_iload_n (i := 2) rfl rfl dX3_copyFrom_43 rfl ?_
    refine V_bipush (v := 10) (by decide) dX3_copyFrom_44 rfl ?_
    refine V_icmp_ge (tgt := 83) dX3_copyFrom_46 (by decide) rfl (fun h => absurd h (nlt10 hjn)) (fun _ => ?_)
    refine V_aload_n (i := 0) rfl rfl dX3_copyFrom_49 rfl ?_
    refine V_iload_n (i := 2) rfl rfl dX3_copyFrom_50 rfl ?_
    refine V_call (n := 1) (sp_placeOfSnake l g hr hS (nI j)) o_X3_placeOfSnake m_X3_43 ⟨by decide, by decide⟩ (by assumption) rfl rfl (by first | exact Nat.le_of_ble_eq_true rfl | simp [Value.category]) (Nat.le_refl _) (Nat.le_refl _) rfl dX3_copyFrom_51 rfl (kR ?_)
    rw [plR_nI ra hjn]
    refine V_astore_n (i := 3) rfl (by decide) rfl dX3_copyFrom_54 rfl ?_
    refine V_aload_n (i := 1) rfl rfl dX3_copyFrom_55 rfl ?_
    refine V_iload_n (i := 2) rfl rfl dX3_copyFrom_56 rfl ?_
    refine V_call (n := 1) (sp_placeOfSnake l g hrb hSb (nI j)) o_X3_placeOfSnake m_X3_43 ⟨by decide, by decide⟩ (by assumption) rfl rfl (by first | exact Nat.le_of_ble_eq_true rfl | simp [Value.category]) (Nat.le_refl _) (Nat.le_refl _) rfl dX3_copyFrom_57 rfl (kR ?_)
    rw [plR_nI rb hjn]
    refine V_astore (i := 4) (by decide) rfl dX3_copyFrom_60 rfl ?_
    refine V_aload_n (i := 3) rfl rfl dX3_copyFrom_62 rfl ?_
    refine V_ifnull_s dX3_copyFrom_63 rfl ?_
    refine V_aload (i := 4) rfl dX3_copyFrom_66 rfl ?_
    refine V_ifnull_s dX3_copyFrom_68 rfl ?_
    refine V_aload_n (i := 3) rfl rfl dX3_copyFrom_71 rfl ?_
    refine V_aload (i := 4) rfl dX3_copyFrom_72 rfl ?_
    refine V_call (n := 1) (sp_Snake_copyFrom l g hk1 hk2 (by omega)) o_X6_copyFrom m_X3_47 ⟨by decide, by decide⟩ (by assumption) rfl rfl (by first | exact Nat.le_of_ble_eq_true rfl | simp [Value.category]) (Nat.le_refl _) (Nat.le_refl _) rfl dX3_copyFrom_74 rfl (kW ?_)
    refine V_gen (A := Cs I P ra rb s (j + 1)) (hJ.step hS hab hjn) ?_
    intro J2 hJ2
    refine V_iinc1 (i := 2) rfl (by decide) rfl dX3_copyFrom_77 rfl ?_
    refine V_goto (tgt := 43) dX3_copyFrom_80 (by decide) ?_
    refine V_forget 3 rfl ?_
    refine V_forget 4 rfl ?_
    have h9 := ih (j + 1) (by omega) J2 hJ2
    rw [← nI_1] at h9
    exact h9

set_option maxHeartbeats 4000000 in
set_option maxRecDepth 100000 in
theorem lp_copy2 (l : Launch) (g : fw_G) {P : fw_P} {ra rb : Nat} {s : Nat → Int32} (hr : isRc ra) (hrb : isRc rb) (hab : ra + 85 ≤ rb ∨ rb + 85 ≤ ra) (hS : RSh P ra) (hSb : RSh P rb) {I : fw_I} (hR : RRel I P rb s) (hm : mOf s) (hv : Mv I rb s) : ∀ (m j : Nat), j + m = 4 → ∀ J, Cp I P ra s j J → V l g kX3_copyFrom (T0 nT) 0 0 (qV (fun I1 P1 => Rt I P ra s I1 ∧ P1 = P)) (T0 nT) J P 0 0 2 [some (.ref (g.1 + ra)), some (.ref (g.1 + rb)), some (.int (nI j)), none, none] [] := by
  have ara := at_race (nT := nT) hr
  have arb := at_race (nT := nT) hrb
  have fr : ∀ J, (∀ b, (b < ra ∨ ra + 85 ≤ b) → J b = I b) → RRel J P rb s := fun J h => hR.frame hSb (fun b h1 h2 => ⟨h b (by omega), rfl⟩)
  intro m
  induction m with
  | zero =>
    intro j hj J hJ
    obtain rfl : j = 4 := by omega
    refine V_iload_n (i := 2) rfl rfl dX3_copyFrom_2 rfl ?_
    refine V_iconst (v := 4) (by decide) dX3_copyFrom_3 rfl ?_
    refine V_icmp_ge (tgt := 41) dX3_copyFrom_4 (by decide) rfl (fun _ => ?_) (fun h => absurd (by decide) h)
    refine V_iconst (v := 0) (by decide) dX3_copyFrom_41 rfl ?_
    refine V_istore_n (i := 2) rfl (by decide) rfl dX3_copyFrom_42 rfl ?_
    exact lp_copy43 l g hr hrb hab hS hSb hR hm hv 10 0 rfl J ⟨hJ, fun j h => absurd h (by omega)⟩
  | succ m ih =>
    intro j hj J hJ
    have hjn : j < 4 := by omega
    have hk1 := at_piece (nT := nT) hr hjn
    have hk2 := at_piece (nT := nT) hrb hjn
    refine V_iload_n (i := 2) rfl rfl dX3_copyFrom_2 rfl ?_
    refine V_iconst (v := 4) (by decide) dX3_copyFrom_3 rfl ?_
    refine V_icmp_ge (tgt := 41) dX3_copyFrom_4 (by decide) rfl (fun h => absurd h (nlt4 hjn)) (fun _ => ?_)
    refine V_aload_n (i := 0) rfl rfl dX3_copyFrom_7 rfl ?_
    refine V_iload_n (i := 2) rfl rfl dX3_copyFrom_8 rfl ?_
    refine V_call (n := 1) (sp_pieceOf l g hr hS (nI j)) o_X3_pieceOf m_X3_35 ⟨by decide, by decide⟩ (by assumption) rfl rfl (by first | exact Nat.le_of_ble_eq_true rfl | simp [Value.category]) (Nat.le_refl _) (Nat.le_refl _) rfl dX3_copyFrom_9 rfl (kR ?_)
    rw [pcR_nI ra hjn]
    refine V_astore_n (i := 3) rfl (by decide) rfl dX3_copyFrom_12 rfl ?_
    refine V_aload_n (i := 1) rfl rfl dX3_copyFrom_13 rfl ?_
    refine V_iload_n (i := 2) rfl rfl dX3_copyFrom_14 rfl ?_
    refine V_call (n := 1) (sp_pieceOf l g hrb hSb (nI j)) o_X3_pieceOf m_X3_35 ⟨by decide, by decide⟩ (by assumption) rfl rfl (by first | exact Nat.le_of_ble_eq_true rfl | simp [Value.category]) (Nat.le_refl _) (Nat.le_refl _) rfl dX3_copyFrom_15 rfl (kR ?_)
    rw [pcR_nI rb hjn]
    refine V_astore (i := 4) (by decide) rfl dX3_copyFrom_18 rfl ?_
    refine V_aload_n (i := 3) rfl rfl dX3_copyFrom_20 rfl ?_
    refine V_ifnull_s dX3_copyFrom_21 rfl ?_
    refine V_aload (i := 4) rfl dX3_copyFrom_24 rfl ?_
    refine V_ifnull_s dX3_copyFrom_26 rfl ?_
    refine V_aload_n (i := 3) rfl rfl dX3_copyFrom_29 rfl ?_
    refine V_aload (i := 4) rfl dX3_copyFrom_30 rfl ?_
    refine V_call (n := 1) (sp_Piece_copyFrom l g hr hrb hab hS hSb (fr J hJ.2) hm hjn) o_X2_copyFrom m_X3_39 ⟨by decide, by decide⟩ (by assumption) rfl rfl (by first | exact Nat.le_of_ble_eq_true rfl | simp [Value.category]) (Nat.le_refl _) (Nat.le_refl _) rfl dX3_copyFrom_32 rfl (kQ ?_)
    intro J1 hJ1
    refine V_gen (A := Cp I P ra s (j + 1)) (hJ.step hS hjn hJ1) ?_
    intro J2 hJ2
    refine V_iinc1 (i := 2) rfl (by decide) rfl dX3_copyFrom_35 rfl ?_
    refine V_goto (tgt := 2) dX3_copyFrom_38 (by decide) ?_
    refine V_forget 3 rfl ?_
    refine V_forget 4 rfl ?_
    have h9 := ih (j + 1) (by omega) J2 hJ2
    rw [← nI_1] at h9
    exact h9

set_option maxHeartbeats 4000000 in
set_option maxRecDepth 100000 in
theorem sp_copyFrom (l : Launch) (g : fw_G) {P : fw_P} {ra rb : Nat} {s : Nat → Int32} (hr : isRc ra) (hrb : isRc rb) (hab : ra + 85 ≤ rb ∨ rb + 85 ≤ ra) (hS : RSh P ra) (hSb : RSh P rb) {I : fw_I} (hR : RRel I P rb s) (hm : mOf s) (hv : Mv I rb s) : Sp l g kX3_copyFrom (T0 nT) [.ref (g.1 + ra), .ref (g.1 + rb)] I P (T0 nT) 0 0 (qV (fun I1 P1 => Rt I P ra s I1 ∧ P1 = P)) := by
  refine Sp.of_V (L := [some (.ref (g.1 + ra)), some (.ref (g.1 + rb)), none, none, none]) (by decide) (by simp [Value.category]) (Nat.le_of_ble_eq_true rfl) rfl ?_
  refine V_iconst (v := 0) (by decide) dX3_copyFrom_0 rfl ?_
  refine V_istore_n (i := 2) rfl (by decide) rfl dX3_copyFrom_1 rfl ?_
  exact lp_copy2 l g hr hrb hab hS hSb hR hm hv 4 0 rfl I ⟨fun p h => absurd h (by omega), fun _ _ => rfl⟩
