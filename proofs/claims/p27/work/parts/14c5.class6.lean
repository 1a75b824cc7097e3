variable {nT : Nat}
theorem sn_hi {s t : Nat → Int32} (h : ∀ j, 352 ≤ j → t j = s j) (i f : Nat) : sn t i f = sn s i f := h _ (by omega)
theorem sn_T3 {s : Nat → Int32} {p : Nat} (hp : p < 4) (q : Int32) (i f : Nat) : sn (aT3 s p q) i f = sn s i f := sn_hi (fun j hj => aT3_hi s q hp (by omega)) i f
theorem iHd_T3 {s : Nat → Int32} {p : Nat} (hp : p < 4) (q : Int32) (h : iHd s) : iHd (aT3 s p q) := fun i j hi hj e he => by
  rw [sn_T3 hp, sn_T3 hp] at he
  rw [sn_T3 hp]
  exact h i j hi hj e he
theorem iSl_T3 {s : Nat → Int32} {p : Nat} (hp : p < 4) (q : Int32) (h : iSl s) : iSl (aT3 s p q) := fun i hi => by rw [sn_T3 hp]; exact h i hi
theorem aT3_q (s : Nat → Int32) (p : Nat) (q : Int32) : ro (aT3 s p q) p 0 = q := by rw [aT3_ro s q (by decide), if_pos rfl, if_pos rfl]
theorem aT3_5 (s : Nat → Int32) (p : Nat) (q : Int32) : ro (aT3 s p q) p 5 = nI 0 := by rw [aT3_ro s q (by decide), if_pos rfl, if_neg (by decide), if_neg (by decide), if_pos rfl]; rfl
theorem biR_some {ra b p : Nat} {s : Nat → Int32} {q : Int32} (h : biR ra s p q = some b) : ∃ k, k < 10 ∧ aSnAt s q = nI k ∧ 0 < sn s k 0 ∧ aBites s p q ∧ b = ra + 75 + k := by
  unfold biR at h
  by_cases hb : aBites s p q
  · rw [if_pos hb] at h
    obtain ⟨k, hk, e, hp⟩ := aSk_at hb.1
    rw [e, nI_clamp (by omega)] at h
    exact ⟨k, hk, e, hp, hb, (Option.some.inj h).symm⟩
  · rw [if_neg hb] at h; cases h
theorem biR_none {ra p : Nat} {s : Nat → Int32} {q : Int32} (h : biR ra s p q = none) : ¬ aBites s p q := fun hb => by unfold biR at h; rw [if_pos hb] at h; cases h
theorem up2_h (I : fw_I) (a : Nat) (x y z : Int32) : up2 (up2 (up2 I a 6 x) a 2 y) a 1 z a 2 = y := by simp [up2_at]
/-- what a bite leaves as it was -/
theorem aBit_ro0 {s : Nat → Int32} {p n k : Nat} {q : Int32} (hp : p < 4) (hn : n < 16) (hk : k < 10) (hm : aMany s p = n) (h5 : ro s p 5 = nI n) (hq : aSnAt s q = nI k) {i f : Nat} (hi : i < 4) (hf : f < 3) : ro (aBit s p q) i f = ro s i f := by
  have h32 : 32 ≤ wi p n := by unfold wi; omega
  unfold ro
  rw [bitR_eq hp hn hk hm h5 hq]
  unfold bitR bitR4 bitR3 bitR2 bitR1
  simp (disch := omega) only [upd_ne, bt4_ne]
theorem aBit_sn {s : Nat → Int32} {p n k : Nat} {q : Int32} (hp : p < 4) (hn : n < 16) (hk : k < 10) (hm : aMany s p = n) (h5 : ro s p 5 = nI n) (hq : aSnAt s q = nI k) (i : Nat) : sn (aBit s p q) i 0 = sn s i 0 ∧ (i = k → sn (aBit s p q) i 2 = s 5 + 1) ∧ (¬ i = k → sn (aBit s p q) i 2 = sn s i 2) := by
  have h32 : 32 ≤ wi p n := by unfold wi; omega
  have hwi := wi_lt (p := p) (k := n) hp (by omega)
  unfold sn
  rw [bitR_eq hp hn hk hm h5 hq, bitR_eq hp hn hk hm h5 hq]
  unfold bitR bitR4 bitR3 bitR2 bitR1
  refine ⟨?_, fun e => ?_, fun e => ?_⟩
  · simp (disch := omega) only [upd_ne, bt4_ne]
  · subst e; simp (disch := omega) only [upd_ne, bt4_ne, upd_eq]
  · simp (disch := omega) only [upd_ne, bt4_ne]
theorem aBit_lo {s : Nat → Int32} {p n k : Nat} {q : Int32} (hp : p < 4) (hn : n < 16) (hk : k < 10) (hm : aMany s p = n) (h5 : ro s p 5 = nI n) (hq : aSnAt s q = nI k) {j : Nat} (hj : j < 8) (h2 : ¬ j = 2) : aBit s p q j = s j := by
  have h32 : 32 ≤ wi p n := by unfold wi; omega
  rw [bitR_eq hp hn hk hm h5 hq]
  unfold bitR bitR4 bitR3 bitR2 bitR1
  simp (disch := omega) only [upd_ne, bt4_ne]
theorem aT4_ro {s : Nat → Int32} {p : Nat} {q : Int32} (hp : p < 4) {i f : Nat} (hi : i < 4) (hf : f < 3) : ro (aT4 s p q) i f = ro (aT3 s p q) i f := by
  unfold aT4
  by_cases h : aBites (aT3 s p q) p q
  · rw [if_pos h]
    obtain ⟨k, hk, e, -⟩ := aSk_at h.1
    exact aBit_ro0 hp (n := 0) (by decide) hk (aT3_many q) (aT3_5 s p q) e hi hf
  · rw [if_neg h]
theorem aT4_lo {s : Nat → Int32} {p : Nat} {q : Int32} (hp : p < 4) {j : Nat} (hj : j < 8) (h2 : ¬ j = 2) : aT4 s p q j = s j := by
  unfold aT4
  by_cases h : aBites (aT3 s p q) p q
  · rw [if_pos h]
    obtain ⟨k, hk, e, -⟩ := aSk_at h.1
    rw [aBit_lo hp (n := 0) (by decide) hk (aT3_many q) (aT3_5 s p q) e hj h2, aT3_lo s p q hj]
  · rw [if_neg h, aT3_lo s p q hj]
theorem aT4_sn {s : Nat → Int32} {p : Nat} {q : Int32} (hp : p < 4) (h5 : 0 ≤ s 5 + 1) (hl : iSl s) (hz : iSz s) : iSl (aT4 s p q) ∧ iSz (aT4 s p q) := by
  unfold aT4
  by_cases h : aBites (aT3 s p q) p q
  · rw [if_pos h]
    obtain ⟨k, hk, e, hps⟩ := aSk_at h.1
    refine ⟨fun i hi => ?_, fun i hi hn => ?_⟩ <;> obtain ⟨a, b, c⟩ := aBit_sn hp (n := 0) (by decide) hk (aT3_many q) (aT3_5 s p q) e i
    · by_cases q2 : i = k
      · rw [b q2, aT3_lo s p q (by decide)]; exact h5
      · rw [c q2, sn_T3 hp]; exact hl i hi
    · by_cases q2 : i = k
      · rw [a, q2] at hn; exact absurd hps hn
      · rw [c q2, sn_T3 hp]; rw [a, sn_T3 hp] at hn; exact hz i hi hn
  · rw [if_neg h]
    exact ⟨iSl_T3 hp q hl, fun i hi hn => by rw [sn_T3 hp] at hn ⊢; exact hz i hi hn⟩
theorem aHome_hi (s : Nat → Int32) {p : Nat} (hp : p < 4) {j : Nat} (h : 32 ≤ j) : aHome s p j = s j := by
  unfold aHome
  rw [aAdd_hi _ _ hp (by decide) h, upd_ne _ (by omega)]
theorem aT5_sn {s : Nat → Int32} {p : Nat} {q : Int32} (hp : p < 4) (h5 : 0 ≤ s 5 + 1) (hl : iSl s) (hz : iSz s) : iSl (aT5 s p q) ∧ iSz (aT5 s p q) := by
  have h4 := aT4_sn (q := q) hp h5 hl hz
  unfold aT5
  by_cases h : q = 60
  · rw [if_pos h]
    have e : ∀ i f, sn (aHome (aT4 s p q) p) i f = sn (aT4 s p q) i f := sn_hi (fun j hj => aHome_hi _ hp (by omega))
    exact ⟨fun i hi => by rw [e]; exact h4.1 i hi, fun i hi hn => by rw [e] at hn ⊢; exact h4.2 i hi hn⟩
  · rw [if_neg h]; exact h4
theorem aNoF_ne {j : Nat} (hj : ¬ j = 1) : ∀ (n k : Nat) (s : Nat → Int32), aNoF n k s j = s j
  | 0, _, _ => rfl
  | n + 1, k, s => by
    unfold aNoF
    by_cases h : s 4 = 4
    · rw [if_pos h]
    · rw [if_neg h]
      by_cases h2 : k = 0 ∨ ¬ ro s (s 1).toNatClampNeg 2 = 0
      · rw [if_pos h2, aNoF_ne hj n (k + 1), upd_ne _ hj]
      · rw [if_neg h2]
theorem rem4' : ∀ m, m < 4 → aRem4 (nI m + 1) = nI ((m + 1) % 4) := by decide +kernel
theorem aNo_step (n k : Nat) {s : Nat → Int32} {m : Nat} (hm : m < 4) (h4 : ¬ s 4 = 4) (h1 : s 1 = nI m) : aNoF (n + 1) k s = if k = 0 ∨ ¬ ro s m 2 = 0 then aNoF n (k + 1) (upd s 1 (nI ((m + 1) % 4))) else s := by
  show (if s 4 = 4 then s else if k = 0 ∨ ¬ ro s (s 1).toNatClampNeg 2 = 0 then aNoF n (k + 1) (upd s 1 (aRem4 (s 1 + 1))) else s) = _
  rw [if_neg h4, h1, nI_clamp (by omega), rem4' m hm]
theorem mv_eq {t : Nat → Int32} {p : Nat} (hp : p < 4) (ht : ∀ i, i < 4 → (ro t i 2 = 0 ↔ ¬ ro t i 0 = 60)) (h4 : t 4 = nI (home t)) (h1 : t 1 = nI p) : mvX t p = if aNoF 4 0 t 4 = 4 then -5 else aNoF 4 0 t 1 := by
  have hlt : ∀ i, (p + i) % 4 < 4 := fun i => Nat.mod_lt _ (by decide)
  rw [aNoF_ne (j := 4) (by decide)]
  by_cases c : t 4 = 4
  · rw [if_pos c]
    rw [c] at h4
    have hh : home t = 4 := nI_inj (b := 4) (by unfold home; split <;> split <;> split <;> split <;> omega) (by decide) h4.symm
    have hall : ∀ i, i < 4 → ro t i 0 = 60 := fun i hi => by
      refine Decidable.not_not.mp (fun z => ?_)
      have h0 := (ht i hi).mpr z
      unfold home at hh
      rcases (show i = 0 ∨ i = 1 ∨ i = 2 ∨ i = 3 by omega) with rfl | rfl | rfl | rfl <;> rw [if_pos h0] at hh <;> revert hh <;> split <;> split <;> split <;> omega
    exact mvX_no (fun i _ _ => hall _ (hlt i))
  · rw [if_neg c]
    have hu : ∀ i, ¬ upd t 1 (nI ((p + i) % 4)) 4 = 4 := fun i => by rw [upd_ne _ (by decide)]; exact c
    have hr : ∀ (x : Int32) i, i < 4 → ro (upd t 1 x) i 2 = ro t i 2 := fun x i hi => ro_hi t x hi (by decide) (Or.inl (by decide))
    have hs : ∀ i, ((p + i) % 4 + 1) % 4 = (p + (i + 1)) % 4 := fun i => by omega
    have e1 : aNoF 4 0 t = aNoF 3 1 (upd t 1 (nI ((p + 1) % 4))) := by rw [aNo_step 3 0 hp c h1, if_pos (Or.inl rfl)]
    have e2 : ∀ n k i, ¬ k = 0 → aNoF (n + 1) k (upd t 1 (nI ((p + i) % 4))) = if ¬ ro t ((p + i) % 4) 2 = 0 then aNoF n (k + 1) (upd t 1 (nI ((p + (i + 1)) % 4))) else upd t 1 (nI ((p + i) % 4)) := fun n k i hk => by
      rw [aNo_step n k (hlt i) (hu i) (upd_eq _ rfl), hr _ _ (hlt i), upd_upd, hs]
      by_cases q : ¬ ro t ((p + i) % 4) 2 = 0
      · rw [if_pos (Or.inr q), if_pos q]
      · rw [if_neg (fun z => z.elim hk q), if_neg q]
    rw [e1, e2 2 1 1 (by decide)]
    unfold mvX
    by_cases a1 : ro t ((p + 1) % 4) 2 = 0
    · rw [if_pos ((ht _ (hlt 1)).mp a1), if_neg (fun z => z a1)]; rfl
    · rw [if_pos a1, if_neg (fun z => a1 ((ht _ (hlt 1)).mpr z)), e2 1 2 2 (by decide)]
      by_cases a2 : ro t ((p + 2) % 4) 2 = 0
      · rw [if_pos ((ht _ (hlt 2)).mp a2), if_neg (fun z => z a2)]; rfl
      · rw [if_pos a2, if_neg (fun z => a2 ((ht _ (hlt 2)).mpr z)), e2 0 3 3 (by decide)]
        by_cases a3 : ro t ((p + 3) % 4) 2 = 0
        · rw [if_pos ((ht _ (hlt 3)).mp a3), if_neg (fun z => z a3)]; rfl
        · rw [if_pos a3, if_neg (fun z => a3 ((ht _ (hlt 3)).mpr z))]
          have a4 : ro t ((p + 4) % 4) 2 = 0 := Decidable.not_not.mp (fun a4 => c (by
            rw [h4]
            have hall : ∀ i, i < 4 → ¬ ro t i 2 = 0 := fun i hi => by
              rcases (show i = (p + 1) % 4 ∨ i = (p + 2) % 4 ∨ i = (p + 3) % 4 ∨ i = (p + 4) % 4 by omega) with e | e | e | e <;> rw [e] <;> assumption
            unfold home
            rw [if_neg (hall 0 (by decide)), if_neg (hall 1 (by decide)), if_neg (hall 2 (by decide)), if_neg (hall 3 (by decide))]
            rfl))
          rw [if_pos ((ht _ (hlt 4)).mp a4)]; rfl
theorem RRel.congr1 {I : fw_I} {P : fw_P} {ra : Nat} {s t : Nat → Int32} (hS : RSh P ra) (h : RRel I P ra s) (e : ∀ j, ¬ j = 1 → t j = s j) : RRel I P ra t :=
  (h.r1 hS (t 1)).congr hS (fun j _ => by
    by_cases q : j = 1
    · rw [q, upd_eq _ rfl]
    · rw [upd_ne _ q, e j q])
/-- the race at ra is the row t, whose turn it is too; all other cells as in I -/
def Rt (I : fw_I) (P : fw_P) (ra : Nat) (t : Nat → Int32) (J : fw_I) : Prop := RRel J P ra t ∧ Mv J ra t ∧ ∀ b, (b < ra ∨ ra + 85 ≤ b) → J b = I b
theorem kJQ {l : Launch} {g : fw_G} {k : fw_M} {T T' : fw_T} {mc ms : Nat} {Q : Option Value → fw_I → fw_P → Prop} {P : fw_P} {u w q : Nat} {L : List (Option Value)} {st : List Value} {f : Int32} {A : fw_I → Prop} (h : ∀ F, A F → V l g k T' mc ms Q T F P u w q L (.int f :: st)) : ∀ (v : Option Value) (I1 : fw_I) (P1 : fw_P), qJ (fun r I1 P1 => r = f ∧ A I1 ∧ P1 = P) v I1 P1 → V l g k T' mc ms Q T I1 P1 u w q L (v.toList ++ st) := by
  rintro _ I1 _ ⟨_, rfl, rfl, ha, hP⟩
  rw [hP]
  exact h I1 ha
theorem aT7_ro0 {s : Nat → Int32} {p : Nat} {q : Int32} (hp : p < 4) {i : Nat} (hi : i < 4) : ro (aT7 s p q) i 0 = ro (aT3 s p q) i 0 := by
  have h6 : ro (aT7 s p q) i 0 = ro (aT5 s p q) i 0 := by
    unfold aT7 aT6 ro
    rw [upd_ne _ (by omega), aSlF_lo _ (by omega)]
  rw [h6]
  unfold aT5
  by_cases h : q = 60
  · rw [if_pos h]
    unfold aHome
    rw [ro_aAdd _ _ (by decide) (by decide), if_neg (fun z => absurd z.2 (by decide)), ro_hi _ _ hi (by decide) (Or.inl (by decide))]
    exact aT4_ro hp hi (by decide)
  · rw [if_neg h]; exact aT4_ro hp hi (by decide)
theorem aT7_1 {s : Nat → Int32} {p : Nat} {q : Int32} (hp : p < 4) : aT7 s p q 1 = s 1 := by
  unfold aT7 aT6
  rw [upd_ne _ (by decide), aSlF_lo _ (by decide)]
  unfold aT5
  by_cases h : q = 60
  · rw [if_pos h, aHome_1, aT4_lo hp (by decide) (by decide)]
  · rw [if_neg h, aT4_lo hp (by decide) (by decide)]
theorem St.home {I J : fw_I} {P : fw_P} {ra : Nat} {s : Nat → Int32} (hS : RSh P ra) {p : Nat} (hp : p < 4) {q : Int32} (h : St I P ra (upd (upd (aT4 s p q) 4 (aT4 s p q 4 + 1)) (8 + 6 * p + 2) (upd (aT4 s p q) 4 (aT4 s p q 4 + 1) 4)) J) (hq : q = 60) (h2 : ro s p 2 = 0) : St I P ra (aT5 s p q) J := by
  refine h.cg hS (fun j _ => ?_)
  unfold aT5
  rw [if_pos hq]
  show upd (upd (aT4 s p q) 4 (aT4 s p q 4 + 1)) (8 + 6 * p + 2) (ro (upd (aT4 s p q) 4 (aT4 s p q 4 + 1)) p 2 + upd (aT4 s p q) 4 (aT4 s p q 4 + 1) 4) j = _
  rw [ro_hi _ _ hp (by decide) (Or.inl (by decide)), aT4_ro hp hp (by decide), aT3_ro s q (by decide), if_pos rfl, if_neg (by decide), if_neg (by decide), if_neg (by decide), h2, Int32.zero_add]
theorem Inv.s5 {B : Nat} {s : Nat → Int32} (h : Inv B s) : 0 ≤ s 5 + 1 := by
  obtain ⟨a, h1, e⟩ := h.2.2.2.2.2.2.1
  rw [e, nI_1]
  exact nI_pos' (by omega)
theorem Inv.s4 {B : Nat} {s : Nat → Int32} (h : Inv B s) : ¬ s 4 + 1 = 0 := by
  rw [h.2.2.2.2.2.2.2.1, nI_1]
  intro e
  have := nI_eq0 e (by unfold home; split <;> split <;> split <;> split <;> omega)
  omega
theorem Rt.turn {I J : fw_I} {P : fw_P} {ra : Nat} {s : Nat → Int32} (hS : RSh P ra) {p : Nat} (hp : p < 4) {q : Int32} (hs1 : s 1 = nI p) {B1 : Nat} (hI1 : Inv B1 (aNoF 4 0 (aT7 s p q))) (h : St I P ra (aT7 s p q) J) : Rt I P ra (aNoF 4 0 (aT7 s p q)) (up2 J ra 5 (mvX (aT7 s p q) p)) := by
  refine ⟨(h.1.mv hS _).congr1 hS (fun j hj => aNoF_ne hj 4 0 _), ?_, fun b hb => by rw [up2_ne _ _ _ (by omega)]; exact h.2.2 b hb⟩
  unfold Mv
  rw [up2_same]
  have hro : ∀ i f, i < 4 → f < 6 → ro (aNoF 4 0 (aT7 s p q)) i f = ro (aT7 s p q) i f := fun i f hi hf => aNoF_ne (by omega) 4 0 _
  refine mv_eq hp (fun i hi => ?_) ?_ ((aT7_1 hp).trans hs1)
  · have := hI1.in hi
    rwa [hro i 2 hi (by decide), hro i 0 hi (by decide)] at this
  · have := hI1.2.2.2.2.2.2.2.1
    rw [aNoF_ne (by decide)] at this
    unfold home at this ⊢
    rwa [hro 0 2 (by decide) (by decide), hro 1 2 (by decide) (by decide), hro 2 2 (by decide) (by decide), hro 3 2 (by decide) (by decide)] at this
set_option maxHeartbeats 4000000 in
set_option maxRecDepth 100000 in
theorem lp_turn58 (l : Launch) (g : fw_G) {I : fw_I} {P : fw_P} {ra : Nat} {s : Nat → Int32} (hr : isRc ra) (hS : RSh P ra) {B : Nat} (hI : Inv B s) {p : Nat} (hp : p < 4) (hs1 : s 1 = nI p) (h4 : ¬ s 4 = 4) (h2 : ro s p 2 = 0) (q : Int32) {B1 : Nat} (hI1 : Inv B1 (aNoF 4 0 (aT7 s p q))) (d : Int32) {J : fw_I} (hJ : St I P ra (aT4 s p q) J) : V l g kX3_makeTurn (T0 nT) 0 0 (qJ (fun r I1 P1 => r = q ∧ Rt I P ra (aNoF 4 0 (aT7 s p q)) I1 ∧ P1 = P)) (T0 nT) J P 0 0 58 [some (.ref (g.1 + ra)), some (.int d), some (.int (nI p)), some (.ref (g.1 + (ra + 2 + 18 * p))), none] [] := by
  have ara := at_race (nT := nT) hr
  have apc := at_pieces (nT := nT) hr
  have asn := at_snakes (nT := nT) hr
  obtain ⟨h0, h1, hpp, hpb, hbb, hinj, hsn⟩ := id hS
  have hap := at_piece (nT := nT) hr hp
  have hq0 : ro (aT4 s p q) p 0 = q := by rw [aT4_ro hp hp (by decide), aT3_q]
  have hs5 := aT5_sn (q := q) hp hI.s5 hI.iSl hI.iSz
  refine V_aload_n (i := 3) rfl rfl dX3_makeTurn_58 rfl ?_
  refine V_call (n := 0) (sp_Piece_isInRace l g hap) o_X2_isInRace m_X3_85 ⟨by decide, by decide⟩ (by assumption) rfl rfl (by first | exact Nat.le_of_ble_eq_true rfl | simp [Value.category]) (Nat.le_refl _) (Nat.le_refl _) rfl dX3_makeTurn_59 rfl (kI ?_)
  rw [hJ.1.p2 hp, hq0]
  refine V_if_ne (tgt := 83) dX3_makeTurn_62 (by decide) rfl (fun h_62 => ?_) (fun h_62 => ?_)
  · refine V_gen (A := St I P ra (aT5 s p q)) (by first | exact (St.p4 hS hJ4 hp (by rw [upd_eq _ rfl, aT4_lo hp (by decide) (by decide)]; exact hI.s4)).home hS hp (Decidable.not_not.mp (bI_z h_62)) h2 | exact (by unfold aT5; rw [if_neg (bI_nz h_62)]; exact hJ)) ?_
    intro J5 hJ5
    refine V_aload_n (i := 0) rfl rfl dX3_makeTurn_83 rfl ?_
    refine V_call (n := 0) (sp_shortenSleeps l g hr hS hJ5.1 hs5.2 hs5.1) o_X3_shortenSleeps m_X3_115 ⟨by decide, by decide⟩ (by assumption) rfl rfl (by first | exact Nat.le_of_ble_eq_true rfl | simp [Value.category]) (Nat.le_refl _) (Nat.le_refl _) rfl dX3_makeTurn_84 rfl (kQ ?_)
    intro J6 hJ6
    have hJ6 : St I P ra (aT6 s p q) J6 := hJ5.trans hJ6
    refine V_aload_n (i := 0) rfl rfl dX3_makeTurn_87 rfl ?_
    refine V_dup (by first | rfl | simp [Value.category]) dX3_makeTurn_88 rfl ?_
    refine V_get (kf := 6) C3 (by decide) l_X3_53 (by assumption) rfl dX3_makeTurn_89 rfl ?_
    rw [hJ6.1.r6]
    refine V_iconst (v := 1) (by decide) dX3_makeTurn_92 rfl ?_
    refine V_iadd dX3_makeTurn_93 rfl ?_
    refine V_puti (kf := 6) C3 (by decide) rfl l_X3_53 rfl rfl rfl rfl (by assumption) dX3_makeTurn_94 rfl ?_
    refine V_gen (A := St I P ra (aT7 s p q)) (hJ6.r6 hS _) ?_
    intro J7 hJ7
    refine V_aload_n (i := 0) rfl rfl dX3_makeTurn_97 rfl ?_
    refine V_aload_n (i := 0) rfl rfl dX3_makeTurn_98 rfl ?_
    refine V_iload_n (i := 2) rfl rfl dX3_makeTurn_99 rfl ?_
    refine V_call (n := 1) (sp_moverAfter l g hr hS hJ7.1 hp) o_X3_moverAfter m_X3_118 ⟨by decide, by decide⟩ (by assumption) rfl rfl (by first | exact Nat.le_of_ble_eq_true rfl | simp [Value.category]) (Nat.le_refl _) (Nat.le_refl _) rfl dX3_makeTurn_100 rfl (kI ?_)
    refine V_puti (kf := 5) C3 (by decide) rfl l_X3_50 rfl rfl rfl rfl (by assumption) dX3_makeTurn_103 rfl ?_
    refine V_gen (A := Rt I P ra (aNoF 4 0 (aT7 s p q))) (Rt.turn hS hp hs1 hI1 hJ7) ?_
    intro J8 hJ8
    refine V_aload_n (i := 3) rfl rfl dX3_makeTurn_106 rfl ?_
    refine V_get (kf := 2) C2 (by decide) l_X3_82 (by assumption) rfl dX3_makeTurn_107 rfl ?_
    rw [hJ8.1.p2 hp]
    exact V_ireturn rfl rfl dX3_makeTurn_110 rfl rfl rfl (⟨_, rfl, (by show ro (aNoF 4 0 (aT7 s p q)) p 0 = q; unfold ro; rw [aNoF_ne (by omega)]; exact (aT7_ro0 hp hp).trans (aT3_q s p q)), hJ8, rfl⟩)
  · refine V_aload_n (i := 0) rfl rfl dX3_makeTurn_65 rfl ?_
    refine V_dup (by first | rfl | simp [Value.category]) dX3_makeTurn_66 rfl ?_
    refine V_get (kf := 7) C3 (by decide) l_X3_56 (by assumption) rfl dX3_makeTurn_67 rfl ?_
    rw [hJ.1.r7]
    refine V_iconst (v := 1) (by decide) dX3_makeTurn_70 rfl ?_
    refine V_iadd dX3_makeTurn_71 rfl ?_
    refine V_puti (kf := 7) C3 (by decide) rfl l_X3_56 rfl rfl rfl rfl (by assumption) dX3_makeTurn_72 rfl ?_
    refine V_gen (A := St I P ra (upd (aT4 s p q) 4 (aT4 s p q 4 + 1))) (hJ.r7 hS _) ?_
    intro J4 hJ4
    refine V_aload_n (i := 3) rfl rfl dX3_makeTurn_75 rfl ?_
    refine V_aload_n (i := 0) rfl rfl dX3_makeTurn_76 rfl ?_
    refine V_get (kf := 7) C3 (by decide) l_X3_56 (by assumption) rfl dX3_makeTurn_77 rfl ?_
    rw [hJ4.1.r7]
    refine V_puti (kf := 4) C2 (by decide) rfl l_X3_112 rfl rfl rfl rfl (by assumption) dX3_makeTurn_80 rfl ?_
    refine V_gen (A := St I P ra (aT5 s p q)) (by first | exact (St.p4 hS hJ4 hp (by rw [upd_eq _ rfl, aT4_lo hp (by decide) (by decide)]; exact hI.s4)).home hS hp (Decidable.not_not.mp (bI_z h_62)) h2 | exact (by unfold aT5; rw [if_neg (bI_nz h_62)]; exact hJ)) ?_
    intro J5 hJ5
    refine V_aload_n (i := 0) rfl rfl dX3_makeTurn_83 rfl ?_
    refine V_call (n := 0) (sp_shortenSleeps l g hr hS hJ5.1 hs5.2 hs5.1) o_X3_shortenSleeps m_X3_115 ⟨by decide, by decide⟩ (by assumption) rfl rfl (by first | exact Nat.le_of_ble_eq_true rfl | simp [Value.category]) (Nat.le_refl _) (Nat.le_refl _) rfl dX3_makeTurn_84 rfl (kQ ?_)
    intro J6 hJ6
    have hJ6 : St I P ra (aT6 s p q) J6 := hJ5.trans hJ6
    refine V_aload_n (i := 0) rfl rfl dX3_makeTurn_87 rfl ?_
    refine V_dup (by first | rfl | simp [Value.category]) dX3_makeTurn_88 rfl ?_
    refine V_get (kf := 6) C3 (by decide) l_X3_53 (by assumption) rfl dX3_makeTurn_89 rfl ?_
    rw [hJ6.1.r6]
    refine V_iconst (v := 1) (by decide) dX3_makeTurn_92 rfl ?_
    refine V_iadd dX3_makeTurn_93 rfl ?_
    refine V_puti (kf := 6) C3 (by decide) rfl l_X3_53 rfl rfl rfl rfl (by assumption) dX3_makeTurn_94 rfl ?_
    refine V_gen (A := St I P ra (aT7 s p q)) (hJ6.r6 hS _) ?_
    intro J7 hJ7
    refine V_aload_n (i := 0) rfl rfl dX3_makeTurn_97 rfl ?_
    refine V_aload_n (i := 0) rfl rfl dX3_makeTurn_98 rfl ?_
    refine V_iload_n (i := 2) rfl rfl dX3_makeTurn_99 rfl ?_
    refine V_call (n := 1) (sp_moverAfter l g hr hS hJ7.1 hp) o_X3_moverAfter m_X3_118 ⟨by decide, by decide⟩ (by assumption) rfl rfl (by first | exact Nat.le_of_ble_eq_true rfl | simp [Value.category]) (Nat.le_refl _) (Nat.le_refl _) rfl dX3_makeTurn_100 rfl (kI ?_)
    refine V_puti (kf := 5) C3 (by decide) rfl l_X3_50 rfl rfl rfl rfl (by assumption) dX3_makeTurn_103 rfl ?_
    refine V_gen (A := Rt I P ra (aNoF 4 0 (aT7 s p q))) (Rt.turn hS hp hs1 hI1 hJ7) ?_
    intro J8 hJ8
    refine V_aload_n (i := 3) rfl rfl dX3_makeTurn_106 rfl ?_
    refine V_get (kf := 2) C2 (by decide) l_X3_82 (by assumption) rfl dX3_makeTurn_107 rfl ?_
    rw [hJ8.1.p2 hp]
    exact V_ireturn rfl rfl dX3_makeTurn_110 rfl rfl rfl (⟨_, rfl, (by show ro (aNoF 4 0 (aT7 s p q)) p 0 = q; unfold ro; rw [aNoF_ne (by omega)]; exact (aT7_ro0 hp hp).trans (aT3_q s p q)), hJ8, rfl⟩)

set_option maxHeartbeats 4000000 in
set_option maxRecDepth 100000 in
theorem sp_makeTurn (l : Launch) (g : fw_G) {I : fw_I} {P : fw_P} {ra : Nat} {s : Nat → Int32} (hr : isRc ra) (hS : RSh P ra) (hR : RRel I P ra s) {B : Nat} (hI : Inv B s) {p : Nat} (hp : p < 4) (hs1 : s 1 = nI p) (h4 : ¬ s 4 = 4) (h2 : ro s p 2 = 0) (hv : Mv I ra s) (d : Int32) {B1 : Nat} (hI1 : Inv B1 (aT s d)) : Sp l g kX3_makeTurn (T0 nT) [.ref (g.1 + ra), .int d] I P (T0 nT) 0 0 (qJ (fun r I1 P1 => r = aTq s d ∧ Rt I P ra (aT s d) I1 ∧ P1 = P)) := by
  have ara := at_race (nT := nT) hr
  have apc := at_pieces (nT := nT) hr
  have asn := at_snakes (nT := nT) hr
  obtain ⟨h0, h1, hpp, hpb, hbb, hinj, hsn⟩ := id hS
  have hap := at_piece (nT := nT) hr hp
  refine Sp.of_V (L := [some (.ref (g.1 + ra)), some (.int d), none, none, none]) (by decide) (by simp [Value.category]) (Nat.le_of_ble_eq_true rfl) rfl ?_
  refine V_aload_n (i := 0) rfl rfl dX3_makeTurn_0 rfl ?_
  refine V_get (kf := 5) C3 (by decide) l_X3_50 (by assumption) rfl dX3_makeTurn_1 rfl ?_
  rw [show I ra 5 = nI p from by rw [show I ra 5 = _ from hv, if_neg h4, hs1]]
  refine V_istore_n (i := 2) rfl (by decide) rfl dX3_makeTurn_4 rfl ?_
  refine V_aload_n (i := 0) rfl rfl dX3_makeTurn_5 rfl ?_
  refine V_iload_n (i := 2) rfl rfl dX3_makeTurn_6 rfl ?_
  refine V_call (n := 1) (sp_pieceOf l g hr hS (nI p)) o_X3_pieceOf m_X3_35 ⟨by decide, by decide⟩ (by assumption) rfl rfl (by first | exact Nat.le_of_ble_eq_true rfl | simp [Value.category]) (Nat.le_refl _) (Nat.le_refl _) rfl dX3_makeTurn_7 rfl (kR ?_)
  rw [pcR_nI ra hp]
  refine V_astore_n (i := 3) rfl (by decide) rfl dX3_makeTurn_10 rfl ?_
  refine V_aload_n (i := 3) rfl rfl dX3_makeTurn_11 rfl ?_
  refine V_ifnonnull_s (tgt := 18) dX3_makeTurn_12 (by decide) ?_
  refine V_aload_n (i := 3) rfl rfl dX3_makeTurn_18 rfl ?_
  refine V_call (n := 0) (sp_Piece_hurt l g hap (at_bites (nT := nT) hr hp) (hpb p hp) (by rw [hR.p1 hp]; exact (hI.many hp).1) (by have := (hI.many hp).2; omega) (fun k hk b hb => hR.b hp (by have := (hI.many hp).2; omega) hk hb (f := 0) (by decide)) (RSh.BtS (nT := nT) hr hS hp) (hR.p2 hp) rfl) o_X2_hurt m_X3_97 ⟨by decide, by decide⟩ (by assumption) rfl rfl (by first | exact Nat.le_of_ble_eq_true rfl | simp [Value.category]) (Nat.le_refl _) (Nat.le_refl _) rfl dX3_makeTurn_19 rfl (kW ?_)
  rw [hR.p6 hp]
  refine V_aload_n (i := 3) rfl rfl dX3_makeTurn_22 rfl ?_
  refine V_aload_n (i := 3) rfl rfl dX3_makeTurn_23 rfl ?_
  refine V_get (kf := 2) C2 (by decide) l_X3_82 (by assumption) rfl dX3_makeTurn_24 rfl ?_
  rw [up2_h]
  refine V_iload_n (i := 1) rfl rfl dX3_makeTurn_27 rfl ?_
  refine V_callSN (host := RX7) (n := 2) (sp_landing l g (aBeg s p) d) o_X7_landing (by decide) ⟨by decide, by decide⟩ rfl rfl (by first | exact Nat.le_of_ble_eq_true rfl | simp [Value.category]) (Nat.le_refl _) (Nat.le_refl _) rfl dX3_makeTurn_28 rfl (kI ?_)
  refine V_puti (kf := 2) C2 (by decide) rfl l_X3_82 rfl rfl rfl rfl (by assumption) dX3_makeTurn_31 rfl ?_
  refine V_gen (A := St I P ra (aT3 s p (aGo (aBeg s p) d))) (St.hurt hS hR hp _ _) ?_
  intro J hJ
  refine V_aload_n (i := 0) rfl rfl dX3_makeTurn_34 rfl ?_
  refine V_iload_n (i := 2) rfl rfl dX3_makeTurn_35 rfl ?_
  refine V_aload_n (i := 3) rfl rfl dX3_makeTurn_36 rfl ?_
  refine V_get (kf := 2) C2 (by decide) l_X3_82 (by assumption) rfl dX3_makeTurn_37 rfl ?_
  rw [hJ.1.p2 hp, aT3_q]
  refine V_call (n := 2) (sp_biterOf l g hr hS hJ.1 (iHd_T3 hp _ hI.iHd) (iSl_T3 hp _ hI.iSl) hp (aGo (aBeg s p) d)) o_X3_biterOf m_X3_104 ⟨by decide, by decide⟩ (by assumption) rfl rfl (by first | exact Nat.le_of_ble_eq_true rfl | simp [Value.category]) (Nat.le_refl _) (Nat.le_refl _) rfl dX3_makeTurn_40 rfl (kR ?_)
  refine V_astore_r (i := 4) (by decide) rfl dX3_makeTurn_43 rfl ?_
  refine V_aload_r (i := 4) rfl dX3_makeTurn_45 rfl ?_
  refine V_ifnull (tgt := 58) dX3_makeTurn_47 (by decide) rfl (fun h_47 => ?_) (fun b_47 h_47 => ?_)
  · refine V_forget 4 rfl ?_
    refine V_gen (A := St I P ra (aT4 s p (aGo (aBeg s p) d))) (by first | exact (by unfold aT4; rw [if_neg (biR_none h_47)]; exact hJ) | exact (by unfold aT4; rw [if_pos hbt]; exact (hJ.trans hJ2).cg hS (fun j _ => bitR_eq hp (by decide) hk (aT3_many _) (aT3_5 s p _) he j))) ?_
    intro J4 hJ4
    refine V_Q ?_ (lp_turn58 l g hr hS hI hp hs1 h4 h2 (aGo (aBeg s p) d) (B1 := B1) (by have h9 := hI1; unfold aT aTq at h9; rw [hs1, nI_clamp (by omega)] at h9; exact h9) d hJ4)
    rintro v I1 P1 ⟨r, rfl, e, hj, hP⟩
    refine ⟨r, rfl, ?_, ?_, hP⟩
    · unfold aTq; rw [hs1, nI_clamp (by omega)]; exact e
    · unfold aT aTq; rw [hs1, nI_clamp (by omega)]; exact hj
  · obtain ⟨k, hk, he, hps, hbt, rfl⟩ := biR_some h_47
    have hask := at_snake (nT := nT) hr hk
    rw [h_47]
    refine V_aload_n (i := 0) rfl rfl dX3_makeTurn_50 rfl ?_
    refine V_aload (i := 4) rfl dX3_makeTurn_51 rfl ?_
    refine V_aload_n (i := 3) rfl rfl dX3_makeTurn_53 rfl ?_
    refine V_iload_n (i := 2) rfl rfl dX3_makeTurn_54 rfl ?_
    refine V_call (n := 3) (sp_biteWith l g hr hS hJ.1 hp (aT3_many _) (aT3_5 s p _) (by decide) hk hps) o_X3_biteWith m_X3_108 ⟨by decide, by decide⟩ (by assumption) rfl rfl (by first | exact Nat.le_of_ble_eq_true rfl | simp [Value.category]) (Nat.le_refl _) (Nat.le_refl _) rfl dX3_makeTurn_55 rfl (kQ ?_)
    intro J2 hJ2
    refine V_forget 4 rfl ?_
    refine V_gen (A := St I P ra (aT4 s p (aGo (aBeg s p) d))) (by first | exact (by unfold aT4; rw [if_neg (biR_none h_47)]; exact hJ) | exact (by unfold aT4; rw [if_pos hbt]; exact (hJ.trans hJ2).cg hS (fun j _ => bitR_eq hp (by decide) hk (aT3_many _) (aT3_5 s p _) he j))) ?_
    intro J4 hJ4
    refine V_Q ?_ (lp_turn58 l g hr hS hI hp hs1 h4 h2 (aGo (aBeg s p) d) (B1 := B1) (by have h9 := hI1; unfold aT aTq at h9; rw [hs1, nI_clamp (by omega)] at h9; exact h9) d hJ4)
    rintro v I1 P1 ⟨r, rfl, e, hj, hP⟩
    refine ⟨r, rfl, ?_, ?_, hP⟩
    · unfold aTq; rw [hs1, nI_clamp (by omega)]; exact e
    · unfold aT aTq; rw [hs1, nI_clamp (by omega)]; exact hj

set_option maxHeartbeats 4000000 in
set_option maxRecDepth 100000 in
theorem sp_makeTurn_over (l : Launch) (g : fw_G) {I : fw_I} {P : fw_P} {ra : Nat} (hr : isRc ra) (hS : RSh P ra) (h5 : I ra 5 = -5) (d : Int32) : Sp l g kX3_makeTurn (T0 nT) [.ref (g.1 + ra), .int d] I P (T0 nT) 0 0 (qI (-4) I P) := by
  have ara := at_race (nT := nT) hr
  have apc := at_pieces (nT := nT) hr
  have asn := at_snakes (nT := nT) hr
  obtain ⟨h0, h1, hpp, hpb, hbb, hinj, hsn⟩ := id hS
  refine Sp.of_V (L := [some (.ref (g.1 + ra)), some (.int d), none, none, none]) (by decide) (by simp [Value.category]) (Nat.le_of_ble_eq_true rfl) rfl ?_
  refine V_aload_n (i := 0) rfl rfl dX3_makeTurn_0 rfl ?_
  refine V_get (kf := 5) C3 (by decide) l_X3_50 (by assumption) rfl dX3_makeTurn_1 rfl ?_
  rw [h5]
  refine V_istore_n (i := 2) rfl (by decide) rfl dX3_makeTurn_4 rfl ?_
  refine V_aload_n (i := 0) rfl rfl dX3_makeTurn_5 rfl ?_
  refine V_iload_n (i := 2) rfl rfl dX3_makeTurn_6 rfl ?_
  refine V_call (n := 1) (sp_pieceOf l g hr hS (-5)) o_X3_pieceOf m_X3_35 ⟨by decide, by decide⟩ (by assumption) rfl rfl (by first | exact Nat.le_of_ble_eq_true rfl | simp [Value.category]) (Nat.le_refl _) (Nat.le_refl _) rfl dX3_makeTurn_7 rfl (kR ?_)
  rw [show pcR ra (-5) = none from rfl]
  refine V_astore_nr (i := 3) rfl (by decide) rfl dX3_makeTurn_10 rfl ?_
  refine V_aload_nr (i := 3) rfl rfl dX3_makeTurn_11 rfl ?_
  refine V_ifnonnull_n dX3_makeTurn_12 rfl ?_
  refine V_bipush (v := (-4)) (by decide) dX3_makeTurn_15 rfl ?_
  exact V_ireturn rfl rfl dX3_makeTurn_17 rfl rfl rfl (qI.of rfl)
