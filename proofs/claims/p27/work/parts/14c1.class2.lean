variable {nT : Nat}
/-! the class' race: its references, and the row that it holds -/
def RSh (P : fw_P) (ra : Nat) : Prop := P ra 0 = some (ra + 1) ∧ P ra 1 = some (ra + 74) ∧ (∀ p, p < 4 → P (ra + 1) p = some (ra + 2 + 18 * p)) ∧ (∀ p, p < 4 → P (ra + 2 + 18 * p) 0 = some (ra + 3 + 18 * p)) ∧ (∀ p, p < 4 → ∀ k, k < 16 → ∃ c, c < 16 ∧ P (ra + 3 + 18 * p) k = some (ra + 4 + 18 * p + c)) ∧ (∀ p, p < 4 → ∀ j k, j < 16 → k < 16 → P (ra + 3 + 18 * p) j = P (ra + 3 + 18 * p) k → j = k) ∧ (∀ i, i < 10 → P (ra + 74) i = some (ra + 75 + i))
def pcv (s : Nat → Int32) (p f : Nat) : Int32 := if f = 1 then ro s p 5 else if f = 2 then ro s p 0 else if f = 3 then ro s p 1 else if f = 4 then (if ro s p 2 = 0 then -5 else ro s p 2) else if f = 5 then ro s p 3 else ro s p 4
def rcv (s : Nat → Int32) (f : Nat) : Int32 := if f = 2 then s 5 else if f = 3 then s 6 else if f = 4 then s 7 else if f = 6 then s 0 else if f = 7 then s 4 else if f = 8 then s 2 else s 3
def RRel (I : fw_I) (P : fw_P) (ra : Nat) (s : Nat → Int32) : Prop :=
  (∀ p, p < 4 → ∀ f, 1 ≤ f → f < 7 → I (ra + 2 + 18 * p) f = pcv s p f) ∧ (∀ p, p < 4 → ∀ k, k < 16 → k < aMany s p → ∀ b, P (ra + 3 + 18 * p) k = some b → ∀ f, f < 4 → I b f = s (wi p k + f))
  ∧ (∀ i, i < 10 → I (ra + 75 + i) 0 = sn s i 0 ∧ I (ra + 75 + i) 2 = sn s i 2 ∧ (¬ sn s i 0 = 0 → I (ra + 75 + i) 1 = sn s i 1 ∧ I (ra + 75 + i) 3 = sn s i 3)) ∧ (∀ f, 2 ≤ f → f < 10 → ¬ f = 5 → I ra f = rcv s f)
/-- whose turn it is -/
def Mv (I : fw_I) (ra : Nat) (s : Nat → Int32) : Prop := I ra 5 = if s 4 = 4 then -5 else s 1
section RREL
variable {I : fw_I} {P : fw_P} {ra : Nat} {s : Nat → Int32}
theorem RRel.p1 (h : RRel I P ra s) {p : Nat} (hp : p < 4) : I (ra + 2 + 18 * p) 1 = ro s p 5 := h.1 p hp 1 (by decide) (by decide)
theorem RRel.p2 (h : RRel I P ra s) {p : Nat} (hp : p < 4) : I (ra + 2 + 18 * p) 2 = ro s p 0 := h.1 p hp 2 (by decide) (by decide)
theorem RRel.p3 (h : RRel I P ra s) {p : Nat} (hp : p < 4) : I (ra + 2 + 18 * p) 3 = ro s p 1 := h.1 p hp 3 (by decide) (by decide)
theorem RRel.p4 (h : RRel I P ra s) {p : Nat} (hp : p < 4) : I (ra + 2 + 18 * p) 4 = (if ro s p 2 = 0 then -5 else ro s p 2) := h.1 p hp 4 (by decide) (by decide)
theorem RRel.p5 (h : RRel I P ra s) {p : Nat} (hp : p < 4) : I (ra + 2 + 18 * p) 5 = ro s p 3 := h.1 p hp 5 (by decide) (by decide)
theorem RRel.p6 (h : RRel I P ra s) {p : Nat} (hp : p < 4) : I (ra + 2 + 18 * p) 6 = ro s p 4 := h.1 p hp 6 (by decide) (by decide)
theorem RRel.r2 (h : RRel I P ra s) : I ra 2 = s 5 := h.2.2.2 2 (by decide) (by decide) (by decide)
theorem RRel.r3 (h : RRel I P ra s) : I ra 3 = s 6 := h.2.2.2 3 (by decide) (by decide) (by decide)
theorem RRel.r4 (h : RRel I P ra s) : I ra 4 = s 7 := h.2.2.2 4 (by decide) (by decide) (by decide)
theorem RRel.r6 (h : RRel I P ra s) : I ra 6 = s 0 := h.2.2.2 6 (by decide) (by decide) (by decide)
theorem RRel.r7 (h : RRel I P ra s) : I ra 7 = s 4 := h.2.2.2 7 (by decide) (by decide) (by decide)
theorem RRel.r8 (h : RRel I P ra s) : I ra 8 = s 2 := h.2.2.2 8 (by decide) (by decide) (by decide)
theorem RRel.r9 (h : RRel I P ra s) : I ra 9 = s 3 := h.2.2.2 9 (by decide) (by decide) (by decide)
theorem RRel.s0 (h : RRel I P ra s) {i : Nat} (hi : i < 10) : I (ra + 75 + i) 0 = sn s i 0 := (h.2.2.1 i hi).1
theorem RRel.s2 (h : RRel I P ra s) {i : Nat} (hi : i < 10) : I (ra + 75 + i) 2 = sn s i 2 := (h.2.2.1 i hi).2.1
theorem RRel.s1 (h : RRel I P ra s) {i : Nat} (hi : i < 10) (h0 : 0 < sn s i 0) : I (ra + 75 + i) 1 = sn s i 1 := ((h.2.2.1 i hi).2.2 (fun e => by rw [e] at h0; exact absurd h0 (by decide))).1
theorem RRel.s3 (h : RRel I P ra s) {i : Nat} (hi : i < 10) (h0 : 0 < sn s i 0) : I (ra + 75 + i) 3 = sn s i 3 := ((h.2.2.1 i hi).2.2 (fun e => by rw [e] at h0; exact absurd h0 (by decide))).2
theorem RRel.b (h : RRel I P ra s) {p k : Nat} (hp : p < 4) (h16 : k < 16) (hk : k < aMany s p) {b : Nat} (hb : P (ra + 3 + 18 * p) k = some b) {f : Nat} (hf : f < 4) : I b f = s (wi p k + f) := h.2.1 p hp k h16 hk b hb f hf
end RREL
/-- no more than thirteen bites a player; heads apart -/
def mOf (s : Nat → Int32) : Prop := ∀ p, p < 4 → ro s p 5 = nI (aMany s p) ∧ aMany s p < 14
def iHd (s : Nat → Int32) : Prop := ∀ i j, i < 10 → j < 10 → i ≠ j → sn s i 0 = sn s j 0 → sn s i 0 = 0
theorem Inv.mOf {B : Nat} {s : Nat → Int32} (h : Inv B s) : mOf s := fun p hp => h.many hp
theorem Inv.iHd {B : Nat} {s : Nat → Int32} (h : Inv B s) : iHd s := h.2.2.2.2.2.1
theorem RSh.BtS {P : fw_P} {ra p : Nat} (hr : isRc ra) (h : RSh P ra) (hp : p < 4) : BtS (nT := nT) P (ra + 3 + 18 * p) := fun k hk => by
  obtain ⟨c, hc, e⟩ := h.2.2.2.2.1 p hp k hk
  exact ⟨_, e, at_bite (nT := nT) hr hp hc⟩
def pcR (ra : Nat) (x : Int32) : Option Nat := if aPl x then some (ra + 2 + 18 * x.toNatClampNeg) else none
def plR (ra : Nat) (x : Int32) : Option Nat := if 0 ≤ x ∧ x ≤ 9 then some (ra + 75 + x.toNatClampNeg) else none
def snR (ra : Nat) (s : Nat → Int32) (x : Int32) : Option Nat := if aSk s x then some (ra + 75 + x.toNatClampNeg) else none
def bR (P : fw_P) (ra : Nat) (s : Nat → Int32) (x y : Int32) : Option Nat := if aBt s x y then P (ra + 3 + 18 * x.toNatClampNeg) y.toNatClampNeg else none
theorem le3 {k : Nat} (h : k < 4) : aPl (nI k) := ⟨nI_pos' (by omega), by rw [show (3 : Int32) = nI 3 from rfl]; exact (nI_leI (by omega) (by decide)).mpr (by omega)⟩
theorem le9 {k : Nat} (h : k < 10) : 0 ≤ nI k ∧ nI k ≤ 9 := ⟨nI_pos' (by omega), by rw [show (9 : Int32) = nI 9 from rfl]; exact (nI_leI (by omega) (by decide)).mpr (by omega)⟩
theorem pcR_nI (ra : Nat) {k : Nat} (h : k < 4) : pcR ra (nI k) = some (ra + 2 + 18 * k) := by unfold pcR; rw [if_pos (le3 h), nI_clamp (by omega)]
theorem plR_nI (ra : Nat) {k : Nat} (h : k < 10) : plR ra (nI k) = some (ra + 75 + k) := by unfold plR; rw [if_pos (le9 h), nI_clamp (by omega)]
theorem pcR_some {ra b : Nat} {x : Int32} (h : pcR ra x = some b) : ∃ k, k < 4 ∧ x = nI k ∧ b = ra + 2 + 18 * k := by
  unfold pcR at h
  by_cases hx : aPl x
  · rw [if_pos hx] at h
    obtain ⟨k, hk, rfl⟩ := hx.nat
    rw [nI_clamp (by omega)] at h
    exact ⟨k, hk, rfl, (Option.some.inj h).symm⟩
  · rw [if_neg hx] at h; cases h
theorem pcR_none {ra : Nat} {x : Int32} (h : pcR ra x = none) : ¬ aPl x := fun hx => by unfold pcR at h; rw [if_pos hx] at h; cases h
theorem plR_some {ra b : Nat} {x : Int32} (h : plR ra x = some b) : ∃ k, k < 10 ∧ x = nI k ∧ b = ra + 75 + k := by
  unfold plR at h
  by_cases hx : 0 ≤ x ∧ x ≤ 9
  · rw [if_pos hx] at h
    obtain ⟨k, hk, rfl⟩ := nI_le9 hx
    rw [nI_clamp (by omega)] at h
    exact ⟨k, hk, rfl, (Option.some.inj h).symm⟩
  · rw [if_neg hx] at h; cases h
theorem snR_no {ra : Nat} (s : Nat → Int32) {x : Int32} (h : plR ra x = none) : snR ra s x = none := by
  unfold plR at h
  unfold snR
  by_cases hx : 0 ≤ x ∧ x ≤ 9
  · rw [if_pos hx] at h; cases h
  · exact if_neg (fun q => hx q.1)
theorem snR_0 (ra : Nat) {s : Nat → Int32} {k : Nat} (hk : k < 10) (h : ¬ 0 < sn s k 0) : snR ra s (nI k) = none := by
  unfold snR
  exact if_neg (fun q => h (by have := q.2; rwa [nI_clamp (by omega)] at this))
theorem snR_1 (ra : Nat) {s : Nat → Int32} {k : Nat} (hk : k < 10) (h : 0 < sn s k 0) : snR ra s (nI k) = some (ra + 75 + k) := by
  unfold snR
  rw [if_pos ⟨le9 hk, by rwa [nI_clamp (by omega)]⟩, nI_clamp (by omega)]
theorem snR_none {ra : Nat} {s : Nat → Int32} {k : Nat} (hk : k < 10) (h : snR ra s (nI k) = none) : ¬ 0 < sn s k 0 := fun q => by rw [snR_1 ra hk q] at h; cases h
theorem snR_some {ra : Nat} {s : Nat → Int32} {k b : Nat} (hk : k < 10) (h : snR ra s (nI k) = some b) : 0 < sn s k 0 ∧ b = ra + 75 + k := by
  by_cases q : 0 < sn s k 0
  · rw [snR_1 ra hk q] at h; exact ⟨q, (Option.some.inj h).symm⟩
  · rw [snR_0 ra hk q] at h; cases h
theorem snR_x {ra : Nat} {s : Nat → Int32} {x : Int32} {b : Nat} (h : snR ra s x = some b) : ∃ k, k < 10 ∧ x = nI k ∧ 0 < sn s k 0 ∧ b = ra + 75 + k := by
  by_cases q : 0 ≤ x ∧ x ≤ 9
  · obtain ⟨k, hk, rfl⟩ := nI_le9 q
    obtain ⟨h1, h2⟩ := snR_some hk h
    exact ⟨k, hk, rfl, h1, h2⟩
  · unfold snR at h
    rw [if_neg (fun z => q z.1)] at h; cases h
theorem snR_xn {ra : Nat} {s : Nat → Int32} {x : Int32} (h : snR ra s x = none) : ¬ aSk s x := fun q => by unfold snR at h; rw [if_pos q] at h; cases h
theorem all_succ {p : Nat → Prop} {n : Nat} (h : ∀ i, i < n → p i) (hn : p n) : ∀ i, i < n + 1 → p i := fun i hi => by
  by_cases e : i = n
  · subst e; exact hn
  · exact h i (by omega)
theorem all_0 {p : Nat → Prop} : ∀ i, i < 0 → p i := fun i hi => absurd hi (Nat.not_lt_zero i)
theorem aSn_no {s : Nat → Int32} {q : Int32} (h : ∀ i, i < 10 → ¬ (sn s i 0 = q ∧ 0 < q)) : aSnAt s q = -5 := by
  rcases aSnF_cases s q 10 with h1 | ⟨k, h1, h2, h3⟩
  · exact h1
  · exact absurd h3 (h k h1)
theorem nI_n5 (n : Nat) (h : n < 2 ^ 31) : ¬ nI n = -5 := fun e => by
  have h2 := congrArg Int32.toInt e
  rw [nI_toInt h, show (-5 : Int32).toInt = -5 from by decide] at h2
  omega
theorem aSn_ex {s : Nat → Int32} {q : Int32} {k : Nat} (h : sn s k 0 = q ∧ 0 < q) : ∀ n, n < 2 ^ 31 → k < n → ¬ aSnF s q n = -5
  | 0, _, hk => absurd hk (Nat.not_lt_zero k)
  | n + 1, hn, hk => by
    unfold aSnF
    by_cases h1 : sn s n 0 = q ∧ 0 < q
    · rw [if_pos h1]
      intro e
      exact absurd (show ¬ nI n = -5 from nI_n5 n (by omega)) (fun z => z e)
    · rw [if_neg h1]
      by_cases e : k = n
      · subst e; exact absurd h h1
      · exact aSn_ex h n (by omega) (by omega)
theorem aSn_at {s : Nat → Int32} {q : Int32} {k : Nat} (hd : iHd s) (hk : k < 10) (h : sn s k 0 = q) (hp : 0 < sn s k 0) : aSnAt s q = nI k := by
  rcases aSnF_cases s q 10 with h1 | ⟨j, h1, h2, h3, h4⟩
  · exact absurd h1 (aSn_ex ⟨h, by rw [← h]; exact hp⟩ 10 (by decide) hk)
  · by_cases e : j = k
    · subst e; exact h2
    · have := hd j k h1 hk e (by rw [h3, h])
      rw [h3] at this
      rw [this] at h4
      exact absurd h4 (by decide)
theorem aFr_at {s : Nat → Int32} {k : Nat} (h : ∀ i, i < k → 0 < sn s i 0) (hk : ¬ 0 < sn s k 0) : ∀ n j, j ≤ k → k < j + n → aFrF s n j = k
  | 0, j, h1, h2 => absurd h2 (by omega)
  | n + 1, j, h1, h2 => by
    unfold aFrF
    by_cases e : j = k
    · subst e; rw [if_neg hk]
    · rw [if_pos (h j (by omega))]; exact aFr_at h hk n (j + 1) (by omega) (by omega)
theorem aCnt_le (s : Nat → Int32) : ∀ n, ∃ c, c ≤ n ∧ aCntF s n = nI c ∧ ((∃ i, i < n ∧ ¬ 0 < sn s i 0) → c < n)
  | 0 => ⟨0, Nat.le_refl _, rfl, fun ⟨i, h, _⟩ => absurd h (Nat.not_lt_zero i)⟩
  | n + 1 => by
    obtain ⟨c, h1, h2, h3⟩ := aCnt_le s n
    unfold aCntF
    rw [h2]
    rcases bI_cases (0 < sn s n 0) with ⟨h, e⟩ | ⟨h, e⟩
    · rw [e]
      exact ⟨c + 1, by omega, nI_1 _, fun ⟨i, hi, hn⟩ => by
        have : c < n := h3 ⟨i, by
          by_cases q : i = n
          · subst q; exact absurd h hn
          · omega, hn⟩
        omega⟩
    · rw [e]
      exact ⟨c, by omega, by rw [Int32.add_zero], fun _ => by omega⟩
theorem nlt4 {j : Nat} (h : j < 4) : ¬ (4 : Int32) ≤ nI j := nI_ge (b := 4) h (by decide)
theorem nlt10 {j : Nat} (h : j < 10) : ¬ (10 : Int32) ≤ nI j := nI_ge (b := 10) h (by decide)
/-- the first free number; -5 if there is none -/
def frX (s : Nat → Int32) : Int32 := if aCntF s 10 = 10 then -5 else nI (aFrF s 10 0)
theorem frX_at {s : Nat → Int32} {k : Nat} (h : ∀ i, i < k → 0 < sn s i 0) (hk : ¬ 0 < sn s k 0) (h10 : k < 10) : frX s = nI k := by
  unfold frX
  obtain ⟨c, h1, h2, h3⟩ := aCnt_le s 10
  have h4 := h3 ⟨k, h10, hk⟩
  rw [if_neg (by rw [h2]; intro e; have := nI_inj (a := c) (b := 10) (by omega) (by decide) e; omega), aFr_at h hk 10 0 (by omega) (by omega)]
theorem frX_no {s : Nat → Int32} (h : ∀ i, i < 10 → 0 < sn s i 0) : frX s = -5 := by
  unfold frX
  exact if_pos (aCnt_all 10 h)
def aRcF (s : Nat → Int32) : Nat → Int32
  | 0 => 0
  | p + 1 => aRcF s p + bI (¬ ro s p 0 = 60)
theorem bI_pl {s : Nat → Int32} {j : Nat} (h : j < 4) : bI (aPl (nI j) ∧ ¬ ro s (nI j).toNatClampNeg 0 = 60) = bI (¬ ro s j 0 = 60) := bI_congr (by rw [nI_clamp (by omega)]; exact ⟨fun h => h.2, fun h2 => ⟨le3 h, h2⟩⟩)
set_option maxHeartbeats 4000000 in
set_option maxRecDepth 100000 in
theorem sp_pieceOf (l : Launch) (g : fw_G) {I : fw_I} {P : fw_P} {ra : Nat} (hr : isRc ra) (hS : RSh P ra) (x : Int32) : Sp l g kX3_pieceOf (T0 nT) [.ref (g.1 + ra), .int x] I P (T0 nT) 0 0 (qR g (pcR ra x) I P) := by
  have ara := at_race (nT := nT) hr
  have apc := at_pieces (nT := nT) hr
  have asn := at_snakes (nT := nT) hr
  obtain ⟨h0, h1, hpp, hpb, hbb, hinj, hsn⟩ := id hS
  refine Sp.of_V (L := [some (.ref (g.1 + ra)), some (.int x)]) (by decide) (by simp [Value.category]) (Nat.le_of_ble_eq_true rfl) rfl ?_
  refine V_iload_n (i := 1) rfl rfl dX3_pieceOf_0 rfl ?_
  refine V_if_lt (tgt := 22) dX3_pieceOf_1 (by decide) rfl (fun h_1 => ?_) (fun h_1 => ?_)
  · refine V_null dX3_pieceOf_22 rfl ?_
    exact V_areturn (r := _) rfl dX3_pieceOf_23 rfl rfl rfl (qR.of (by first | exact (hpp k hk4).trans (pcR_nI ra hk4).symm | exact (if_neg (fun h => absurd h.1 (Int32.not_le.mpr h_1))).symm | exact (if_neg (fun h => absurd (Int32.lt_of_le_of_lt h.2 (show (3 : Int32) < 4 by decide)) (Int32.not_lt.mpr h_10))).symm))
  · refine V_iload_n (i := 1) rfl rfl dX3_pieceOf_4 rfl ?_
    refine V_aload_n (i := 0) rfl rfl dX3_pieceOf_5 rfl ?_
    refine V_getr (kf := 0) C3 (by decide) l_X3_11 (by assumption) rfl (by assumption) dX3_pieceOf_6 rfl ?_
    refine V_alen (kd := 12) (by decide) (by assumption) dX3_pieceOf_9 rfl ?_
    refine V_icmp_ge (tgt := 22) dX3_pieceOf_10 (by decide) rfl (fun h_10 => ?_) (fun h_10 => ?_)
    · refine V_null dX3_pieceOf_22 rfl ?_
      exact V_areturn (r := _) rfl dX3_pieceOf_23 rfl rfl rfl (qR.of (by first | exact (hpp k hk4).trans (pcR_nI ra hk4).symm | exact (if_neg (fun h => absurd h.1 (Int32.not_le.mpr h_1))).symm | exact (if_neg (fun h => absurd (Int32.lt_of_le_of_lt h.2 (show (3 : Int32) < 4 by decide)) (Int32.not_lt.mpr h_10))).symm))
    · obtain ⟨k, hk, rfl⟩ := nI_of h_1
      have hk4 := (nI_ltI hk (by decide)).mp (Int32.not_le.mp h_10)
      refine V_aload_n (i := 0) rfl rfl dX3_pieceOf_13 rfl ?_
      refine V_getr (kf := 0) C3 (by decide) l_X3_11 (by assumption) rfl (by assumption) dX3_pieceOf_14 rfl ?_
      refine V_iload_n (i := 1) rfl rfl dX3_pieceOf_17 rfl ?_
      refine V_aald el12 (by assumption) (fw_ix_nI hk4 (by decide)) dX3_pieceOf_18 rfl ?_
      refine V_goto (tgt := 23) dX3_pieceOf_19 (by decide) ?_
      exact V_areturn (r := _) rfl dX3_pieceOf_23 rfl rfl rfl (qR.of (by first | exact (hpp k hk4).trans (pcR_nI ra hk4).symm | exact (if_neg (fun h => absurd h.1 (Int32.not_le.mpr h_1))).symm | exact (if_neg (fun h => absurd (Int32.lt_of_le_of_lt h.2 (show (3 : Int32) < 4 by decide)) (Int32.not_lt.mpr h_10))).symm))

set_option maxHeartbeats 4000000 in
set_option maxRecDepth 100000 in
theorem sp_placeOfSnake (l : Launch) (g : fw_G) {I : fw_I} {P : fw_P} {ra : Nat} (hr : isRc ra) (hS : RSh P ra) (x : Int32) : Sp l g kX3_placeOfSnake (T0 nT) [.ref (g.1 + ra), .int x] I P (T0 nT) 0 0 (qR g (plR ra x) I P) := by
  have ara := at_race (nT := nT) hr
  have apc := at_pieces (nT := nT) hr
  have asn := at_snakes (nT := nT) hr
  obtain ⟨h0, h1, hpp, hpb, hbb, hinj, hsn⟩ := id hS
  refine Sp.of_V (L := [some (.ref (g.1 + ra)), some (.int x)]) (by decide) (by simp [Value.category]) (Nat.le_of_ble_eq_true rfl) rfl ?_
  refine V_iload_n (i := 1) rfl rfl dX3_placeOfSnake_0 rfl ?_
  refine V_if_lt (tgt := 22) dX3_placeOfSnake_1 (by decide) rfl (fun h_1 => ?_) (fun h_1 => ?_)
  · refine V_null dX3_placeOfSnake_22 rfl ?_
    exact V_areturn (r := _) rfl dX3_placeOfSnake_23 rfl rfl rfl (qR.of (by first | exact (hsn k hk4).trans (plR_nI ra hk4).symm | exact (if_neg (fun h => absurd h.1 (Int32.not_le.mpr h_1))).symm | exact (if_neg (fun h => absurd (Int32.lt_of_le_of_lt h.2 (show (9 : Int32) < 10 by decide)) (Int32.not_lt.mpr h_10))).symm))
  · refine V_iload_n (i := 1) rfl rfl dX3_placeOfSnake_4 rfl ?_
    refine V_aload_n (i := 0) rfl rfl dX3_placeOfSnake_5 rfl ?_
    refine V_getr (kf := 1) C3 (by decide) l_X3_20 (by assumption) rfl (by assumption) dX3_placeOfSnake_6 rfl ?_
    refine V_alen (kd := 14) (by decide) (by assumption) dX3_placeOfSnake_9 rfl ?_
    refine V_icmp_ge (tgt := 22) dX3_placeOfSnake_10 (by decide) rfl (fun h_10 => ?_) (fun h_10 => ?_)
    · refine V_null dX3_placeOfSnake_22 rfl ?_
      exact V_areturn (r := _) rfl dX3_placeOfSnake_23 rfl rfl rfl (qR.of (by first | exact (hsn k hk4).trans (plR_nI ra hk4).symm | exact (if_neg (fun h => absurd h.1 (Int32.not_le.mpr h_1))).symm | exact (if_neg (fun h => absurd (Int32.lt_of_le_of_lt h.2 (show (9 : Int32) < 10 by decide)) (Int32.not_lt.mpr h_10))).symm))
    · obtain ⟨k, hk, rfl⟩ := nI_of h_1
      have hk4 := (nI_ltI hk (by decide)).mp (Int32.not_le.mp h_10)
      refine V_aload_n (i := 0) rfl rfl dX3_placeOfSnake_13 rfl ?_
      refine V_getr (kf := 1) C3 (by decide) l_X3_20 (by assumption) rfl (by assumption) dX3_placeOfSnake_14 rfl ?_
      refine V_iload_n (i := 1) rfl rfl dX3_placeOfSnake_17 rfl ?_
      refine V_aald el14 (by assumption) (fw_ix_nI hk4 (by decide)) dX3_placeOfSnake_18 rfl ?_
      refine V_goto (tgt := 23) dX3_placeOfSnake_19 (by decide) ?_
      exact V_areturn (r := _) rfl dX3_placeOfSnake_23 rfl rfl rfl (qR.of (by first | exact (hsn k hk4).trans (plR_nI ra hk4).symm | exact (if_neg (fun h => absurd h.1 (Int32.not_le.mpr h_1))).symm | exact (if_neg (fun h => absurd (Int32.lt_of_le_of_lt h.2 (show (9 : Int32) < 10 by decide)) (Int32.not_lt.mpr h_10))).symm))

set_option maxHeartbeats 4000000 in
set_option maxRecDepth 100000 in
theorem sp_snakeNumbered (l : Launch) (g : fw_G) {I : fw_I} {P : fw_P} {ra : Nat} {s : Nat → Int32} (hr : isRc ra) (hS : RSh P ra) (hR : RRel I P ra s) (x : Int32) : Sp l g kX3_snakeNumbered (T0 nT) [.ref (g.1 + ra), .int x] I P (T0 nT) 0 0 (qR g (snR ra s x) I P) := by
  have ara := at_race (nT := nT) hr
  have apc := at_pieces (nT := nT) hr
  have asn := at_snakes (nT := nT) hr
  obtain ⟨h0, h1, hpp, hpb, hbb, hinj, hsn⟩ := id hS
  refine Sp.of_V (L := [some (.ref (g.1 + ra)), some (.int x), none]) (by decide) (by simp [Value.category]) (Nat.le_of_ble_eq_true rfl) rfl ?_
  refine V_aload_n (i := 0) rfl rfl dX3_snakeNumbered_0 rfl ?_
  refine V_iload_n (i := 1) rfl rfl dX3_snakeNumbered_1 rfl ?_
  refine V_call (n := 1) (sp_placeOfSnake l g hr hS x) o_X3_placeOfSnake m_X3_43 ⟨by decide, by decide⟩ (by assumption) rfl rfl (by first | exact Nat.le_of_ble_eq_true rfl | simp [Value.category]) (Nat.le_refl _) (Nat.le_refl _) rfl dX3_snakeNumbered_2 rfl (kR ?_)
  refine V_astore_nr (i := 2) rfl (by decide) rfl dX3_snakeNumbered_5 rfl ?_
  refine V_aload_nr (i := 2) rfl rfl dX3_snakeNumbered_6 rfl ?_
  refine V_ifnull (tgt := 21) dX3_snakeNumbered_7 (by decide) rfl (fun h_7 => ?_) (fun b_7 h_7 => ?_)
  · refine V_null dX3_snakeNumbered_21 rfl ?_
    first | exact V_areturn (r := none) rfl dX3_snakeNumbered_22 rfl rfl rfl (qR.of (by first | exact (snR_no _ h_7).symm | exact (snR_0 _ hk (bI_z h_14)).symm | exact (snR_1 _ hk (bI_nz h_14)).symm)) | exact V_areturn (r := some (ra + 75 + k)) rfl dX3_snakeNumbered_22 rfl rfl rfl (qR.of (by first | exact (snR_no _ h_7).symm | exact (snR_0 _ hk (bI_z h_14)).symm | exact (snR_1 _ hk (bI_nz h_14)).symm))
  · obtain ⟨k, hk, rfl, rfl⟩ := plR_some h_7
    have hak := at_snake (nT := nT) hr hk
    rw [h_7]
    refine V_aload_n (i := 2) rfl rfl dX3_snakeNumbered_10 rfl ?_
    refine V_call (n := 0) (sp_Snake_isThere l g hak) o_X6_isThere m_X3_69 ⟨by decide, by decide⟩ (by assumption) rfl rfl (by first | exact Nat.le_of_ble_eq_true rfl | simp [Value.category]) (Nat.le_refl _) (Nat.le_refl _) rfl dX3_snakeNumbered_11 rfl (kI ?_)
    rw [hR.s0 hk]
    refine V_if_eq (tgt := 21) dX3_snakeNumbered_14 (by decide) rfl (fun h_14 => ?_) (fun h_14 => ?_)
    · refine V_null dX3_snakeNumbered_21 rfl ?_
      first | exact V_areturn (r := none) rfl dX3_snakeNumbered_22 rfl rfl rfl (qR.of (by first | exact (snR_no _ h_7).symm | exact (snR_0 _ hk (bI_z h_14)).symm | exact (snR_1 _ hk (bI_nz h_14)).symm)) | exact V_areturn (r := some (ra + 75 + k)) rfl dX3_snakeNumbered_22 rfl rfl rfl (qR.of (by first | exact (snR_no _ h_7).symm | exact (snR_0 _ hk (bI_z h_14)).symm | exact (snR_1 _ hk (bI_nz h_14)).symm))
    · refine V_aload_n (i := 2) rfl rfl dX3_snakeNumbered_17 rfl ?_
      refine V_goto (tgt := 22) dX3_snakeNumbered_18 (by decide) ?_
      first | exact V_areturn (r := none) rfl dX3_snakeNumbered_22 rfl rfl rfl (qR.of (by first | exact (snR_no _ h_7).symm | exact (snR_0 _ hk (bI_z h_14)).symm | exact (snR_1 _ hk (bI_nz h_14)).symm)) | exact V_areturn (r := some (ra + 75 + k)) rfl dX3_snakeNumbered_22 rfl rfl rfl (qR.of (by first | exact (snR_no _ h_7).symm | exact (snR_0 _ hk (bI_z h_14)).symm | exact (snR_1 _ hk (bI_nz h_14)).symm))

set_option maxHeartbeats 4000000 in
set_option maxRecDepth 100000 in
theorem lp_freeNumber (l : Launch) (g : fw_G) {I : fw_I} {P : fw_P} {ra : Nat} {s : Nat → Int32} (hr : isRc ra) (hS : RSh P ra) (hR : RRel I P ra s) : ∀ (m j : Nat), j + m = 10 → (∀ i, i < j → 0 < sn s i 0) → V l g kX3_freeNumber (T0 nT) 0 0 (qI (frX s) I P) (T0 nT) I P 0 0 2 [some (.ref (g.1 + ra)), some (.int (nI j))] [] := by
  have ara := at_race (nT := nT) hr
  have apc := at_pieces (nT := nT) hr
  have asn := at_snakes (nT := nT) hr
  obtain ⟨h0, h1, hpp, hpb, hbb, hinj, hsn⟩ := id hS
  intro m
  induction m with
  | zero =>
    intro j hj hh
    obtain rfl : j = 10 := by omega
    refine V_iload_n (i := 1) rfl rfl dX3_freeNumber_2 rfl ?_
    refine V_bipush (v := 10) (by decide) dX3_freeNumber_3 rfl ?_
    refine V_icmp_ge (tgt := 24) dX3_freeNumber_5 (by decide) rfl (fun _ => ?_) (fun h => absurd (by decide) h)
    refine V_bipush (v := (-5)) (by decide) dX3_freeNumber_24 rfl ?_
    exact V_ireturn rfl rfl dX3_freeNumber_26 rfl rfl rfl (qI.of (frX_no hh).symm)
  | succ m ih =>
    intro j hj hh
    have hjn : j < 10 := by omega
    have hak := at_snake (nT := nT) hr hjn
    refine V_iload_n (i := 1) rfl rfl dX3_freeNumber_2 rfl ?_
    refine V_bipush (v := 10) (by decide) dX3_freeNumber_3 rfl ?_
    refine V_icmp_ge (tgt := 24) dX3_freeNumber_5 (by decide) rfl (fun h => absurd h (nlt10 hjn)) (fun _ => ?_)
    refine V_aload_n (i := 0) rfl rfl dX3_freeNumber_8 rfl ?_
    refine V_iload_n (i := 1) rfl rfl dX3_freeNumber_9 rfl ?_
    refine V_call (n := 1) (sp_snakeNumbered l g hr hS hR (nI j)) o_X3_snakeNumbered m_X3_73 ⟨by decide, by decide⟩ (by assumption) rfl rfl (by first | exact Nat.le_of_ble_eq_true rfl | simp [Value.category]) (Nat.le_refl _) (Nat.le_refl _) rfl dX3_freeNumber_10 rfl (kR ?_)
    refine V_ifnonnull (tgt := 18) dX3_freeNumber_13 (by decide) rfl (fun b_13 h_13 => ?_) (fun h_13 => ?_)
    · refine V_iinc1 (i := 1) rfl (by decide) rfl dX3_freeNumber_18 rfl ?_
      refine V_goto (tgt := 2) dX3_freeNumber_21 (by decide) ?_
      have h9 := ih (j + 1) (by omega) (all_succ hh (snR_some hjn h_13).1)
      rw [← nI_1] at h9
      exact h9
    · refine V_iload_n (i := 1) rfl rfl dX3_freeNumber_16 rfl ?_
      exact V_ireturn rfl rfl dX3_freeNumber_17 rfl rfl rfl (qI.of (frX_at hh (snR_none hjn h_13) hjn).symm)

set_option maxHeartbeats 4000000 in
set_option maxRecDepth 100000 in
theorem sp_freeNumber (l : Launch) (g : fw_G) {I : fw_I} {P : fw_P} {ra : Nat} {s : Nat → Int32} (hr : isRc ra) (hS : RSh P ra) (hR : RRel I P ra s) : Sp l g kX3_freeNumber (T0 nT) [.ref (g.1 + ra)] I P (T0 nT) 0 0 (qI (frX s) I P) := by
  refine Sp.of_V (L := [some (.ref (g.1 + ra)), none]) (by decide) (by simp [Value.category]) (Nat.le_of_ble_eq_true rfl) rfl ?_
  refine V_iconst (v := 0) (by decide) dX3_freeNumber_0 rfl ?_
  refine V_istore_n (i := 1) rfl (by decide) rfl dX3_freeNumber_1 rfl ?_
  exact lp_freeNumber l g hr hS hR 10 0 rfl all_0

set_option maxHeartbeats 4000000 in
set_option maxRecDepth 100000 in
theorem lp_headOn (l : Launch) (g : fw_G) {I : fw_I} {P : fw_P} {ra : Nat} {s : Nat → Int32} (hr : isRc ra) (hS : RSh P ra) (hR : RRel I P ra s) (hd : iHd s) (q : Int32) : ∀ (m j : Nat), j + m = 10 → (∀ i, i < j → ¬ (sn s i 0 = q ∧ 0 < q)) → V l g kX3_numberOfHeadOn (T0 nT) 0 0 (qI (aSnAt s q) I P) (T0 nT) I P 0 0 2 [some (.ref (g.1 + ra)), some (.int q), some (.int (nI j)), none] [] := by
  have ara := at_race (nT := nT) hr
  have apc := at_pieces (nT := nT) hr
  have asn := at_snakes (nT := nT) hr
  obtain ⟨h0, h1, hpp, hpb, hbb, hinj, hsn⟩ := id hS
  intro m
  induction m with
  | zero =>
    intro j hj hh
    obtain rfl : j = 10 := by omega
    refine V_iload_n (i := 2) rfl rfl dX3_numberOfHeadOn_2 rfl ?_
    refine V_bipush (v := 10) (by decide) dX3_numberOfHeadOn_3 rfl ?_
    refine V_icmp_ge (tgt := 34) dX3_numberOfHeadOn_5 (by decide) rfl (fun _ => ?_) (fun h => absurd (by decide) h)
    refine V_bipush (v := (-5)) (by decide) dX3_numberOfHeadOn_34 rfl ?_
    exact V_ireturn rfl rfl dX3_numberOfHeadOn_36 rfl rfl rfl (qI.of (aSn_no hh).symm)
  | succ m ih =>
    intro j hj hh
    have hjn : j < 10 := by omega
    have hak := at_snake (nT := nT) hr hjn
    refine V_iload_n (i := 2) rfl rfl dX3_numberOfHeadOn_2 rfl ?_
    refine V_bipush (v := 10) (by decide) dX3_numberOfHeadOn_3 rfl ?_
    refine V_icmp_ge (tgt := 34) dX3_numberOfHeadOn_5 (by decide) rfl (fun h => absurd h (nlt10 hjn)) (fun _ => ?_)
    refine V_aload_n (i := 0) rfl rfl dX3_numberOfHeadOn_8 rfl ?_
    refine V_iload_n (i := 2) rfl rfl dX3_numberOfHeadOn_9 rfl ?_
    refine V_call (n := 1) (sp_snakeNumbered l g hr hS hR (nI j)) o_X3_snakeNumbered m_X3_73 ⟨by decide, by decide⟩ (by assumption) rfl rfl (by first | exact Nat.le_of_ble_eq_true rfl | simp [Value.category]) (Nat.le_refl _) (Nat.le_refl _) rfl dX3_numberOfHeadOn_10 rfl (kR ?_)
    refine V_astore_nr (i := 3) rfl (by decide) rfl dX3_numberOfHeadOn_13 rfl ?_
    refine V_aload_nr (i := 3) rfl rfl dX3_numberOfHeadOn_14 rfl ?_
    refine V_ifnull (tgt := 28) dX3_numberOfHeadOn_15 (by decide) rfl (fun h_15 => ?_) (fun b_15 h_15 => ?_)
    · refine V_iinc1 (i := 2) rfl (by decide) rfl dX3_numberOfHeadOn_28 rfl ?_
      refine V_goto (tgt := 2) dX3_numberOfHeadOn_31 (by decide) ?_
      have hno : ¬ (sn s j 0 = q ∧ 0 < q) := by first | exact fun h => snR_none hjn h_15 (by rw [h.1]; exact h.2) | exact fun h => h_23 h.1
      refine V_forget 3 rfl ?_
      have h9 := ih (j + 1) (by omega) (all_succ hh hno)
      rw [← nI_1] at h9
      exact h9
    · obtain ⟨hps, rfl⟩ := snR_some hjn h_15
      rw [h_15]
      refine V_aload_n (i := 3) rfl rfl dX3_numberOfHeadOn_18 rfl ?_
      refine V_get (kf := 0) C6 (by decide) l_X3_76 (by assumption) rfl dX3_numberOfHeadOn_19 rfl ?_
      rw [hR.s0 hjn]
      refine V_iload_n (i := 1) rfl rfl dX3_numberOfHeadOn_22 rfl ?_
      refine V_icmp_ne (tgt := 28) dX3_numberOfHeadOn_23 (by decide) rfl (fun h_23 => ?_) (fun h_23 => ?_)
      · refine V_iinc1 (i := 2) rfl (by decide) rfl dX3_numberOfHeadOn_28 rfl ?_
        refine V_goto (tgt := 2) dX3_numberOfHeadOn_31 (by decide) ?_
        have hno : ¬ (sn s j 0 = q ∧ 0 < q) := by first | exact fun h => snR_none hjn h_15 (by rw [h.1]; exact h.2) | exact fun h => h_23 h.1
        refine V_forget 3 rfl ?_
        have h9 := ih (j + 1) (by omega) (all_succ hh hno)
        rw [← nI_1] at h9
        exact h9
      · refine V_iload_n (i := 2) rfl rfl dX3_numberOfHeadOn_26 rfl ?_
        exact V_ireturn rfl rfl dX3_numberOfHeadOn_27 rfl rfl rfl (qI.of (aSn_at hd hjn h_23 hps).symm)

set_option maxHeartbeats 4000000 in
set_option maxRecDepth 100000 in
theorem sp_headOn (l : Launch) (g : fw_G) {I : fw_I} {P : fw_P} {ra : Nat} {s : Nat → Int32} (hr : isRc ra) (hS : RSh P ra) (hR : RRel I P ra s) (hd : iHd s) (q : Int32) : Sp l g kX3_numberOfHeadOn (T0 nT) [.ref (g.1 + ra), .int q] I P (T0 nT) 0 0 (qI (aSnAt s q) I P) := by
  refine Sp.of_V (L := [some (.ref (g.1 + ra)), some (.int q), none, none]) (by decide) (by simp [Value.category]) (Nat.le_of_ble_eq_true rfl) rfl ?_
  refine V_iconst (v := 0) (by decide) dX3_numberOfHeadOn_0 rfl ?_
  refine V_istore_n (i := 2) rfl (by decide) rfl dX3_numberOfHeadOn_1 rfl ?_
  exact lp_headOn l g hr hS hR hd q 10 0 rfl all_0

set_option maxHeartbeats 4000000 in
set_option maxRecDepth 100000 in
theorem lp_tailsOn (l : Launch) (g : fw_G) {I : fw_I} {P : fw_P} {ra : Nat} {s : Nat → Int32} (hr : isRc ra) (hS : RSh P ra) (hR : RRel I P ra s) (q : Int32) : ∀ (m j : Nat), j + m = 10 → V l g kX3_tailsOn (T0 nT) 0 0 (qI (aTaF s q 10) I P) (T0 nT) I P 0 0 4 [some (.ref (g.1 + ra)), some (.int q), some (.int (aTaF s q j)), some (.int (nI j)), none] [] := by
  have ara := at_race (nT := nT) hr
  have apc := at_pieces (nT := nT) hr
  have asn := at_snakes (nT := nT) hr
  obtain ⟨h0, h1, hpp, hpb, hbb, hinj, hsn⟩ := id hS
  intro m
  induction m with
  | zero =>
    intro j hj
    obtain rfl : j = 10 := by omega
    refine V_iload_n (i := 3) rfl rfl dX3_tailsOn_4 rfl ?_
    refine V_bipush (v := 10) (by decide) dX3_tailsOn_5 rfl ?_
    refine V_icmp_ge (tgt := 40) dX3_tailsOn_7 (by decide) rfl (fun _ => ?_) (fun h => absurd (by decide) h)
    refine V_iload_n (i := 2) rfl rfl dX3_tailsOn_40 rfl ?_
    exact V_ireturn rfl rfl dX3_tailsOn_41 rfl rfl rfl (qI.of rfl)
  | succ m ih =>
    intro j hj
    have hjn : j < 10 := by omega
    have hak := at_snake (nT := nT) hr hjn
    refine V_iload_n (i := 3) rfl rfl dX3_tailsOn_4 rfl ?_
    refine V_bipush (v := 10) (by decide) dX3_tailsOn_5 rfl ?_
    refine V_icmp_ge (tgt := 40) dX3_tailsOn_7 (by decide) rfl (fun h => absurd h (nlt10 hjn)) (fun _ => ?_)
    refine V_aload_n (i := 0) rfl rfl dX3_tailsOn_10 rfl ?_
    refine V_iload_n (i := 3) rfl rfl dX3_tailsOn_11 rfl ?_
    refine V_call (n := 1) (sp_snakeNumbered l g hr hS hR (nI j)) o_X3_snakeNumbered m_X3_73 ⟨by decide, by decide⟩ (by assumption) rfl rfl (by first | exact Nat.le_of_ble_eq_true rfl | simp [Value.category]) (Nat.le_refl _) (Nat.le_refl _) rfl dX3_tailsOn_12 rfl (kR ?_)
    refine V_astore_r (i := 4) (by decide) rfl dX3_tailsOn_15 rfl ?_
    refine V_aload_r (i := 4) rfl dX3_tailsOn_17 rfl ?_
    refine V_ifnull (tgt := 34) dX3_tailsOn_19 (by decide) rfl (fun h_19 => ?_) (fun b_19 h_19 => ?_)
    · refine V_iinc1 (i := 3) rfl (by decide) rfl dX3_tailsOn_34 rfl ?_
      refine V_goto (tgt := 4) dX3_tailsOn_37 (by decide) ?_
      have he : aTaF s q (j + 1) = aTaF s q j + bI (0 < sn s j 0 ∧ sn s j 1 = q) := rfl
      rw [show bI (0 < sn s j 0 ∧ sn s j 1 = q) = _ from by first | exact bI_f (fun h => snR_none hjn h_19 h.1) | exact bI_f (fun h => h_28 h.2) | exact bI_t ⟨hps, h_28⟩] at he
      first | rw [Int32.add_zero] at he | skip
      refine V_forget 4 rfl ?_
      have h9 := ih (j + 1) (by omega)
      rw [← nI_1, he] at h9
      exact h9
    · obtain ⟨hps, rfl⟩ := snR_some hjn h_19
      rw [h_19]
      refine V_aload (i := 4) rfl dX3_tailsOn_22 rfl ?_
      refine V_get (kf := 1) C6 (by decide) l_X3_79 (by assumption) rfl dX3_tailsOn_24 rfl ?_
      rw [hR.s1 hjn hps]
      refine V_iload_n (i := 1) rfl rfl dX3_tailsOn_27 rfl ?_
      refine V_icmp_ne (tgt := 34) dX3_tailsOn_28 (by decide) rfl (fun h_28 => ?_) (fun h_28 => ?_)
      · refine V_iinc1 (i := 3) rfl (by decide) rfl dX3_tailsOn_34 rfl ?_
        refine V_goto (tgt := 4) dX3_tailsOn_37 (by decide) ?_
        have he : aTaF s q (j + 1) = aTaF s q j + bI (0 < sn s j 0 ∧ sn s j 1 = q) := rfl
        rw [show bI (0 < sn s j 0 ∧ sn s j 1 = q) = _ from by first | exact bI_f (fun h => snR_none hjn h_19 h.1) | exact bI_f (fun h => h_28 h.2) | exact bI_t ⟨hps, h_28⟩] at he
        first | rw [Int32.add_zero] at he | skip
        refine V_forget 4 rfl ?_
        have h9 := ih (j + 1) (by omega)
        rw [← nI_1, he] at h9
        exact h9
      · refine V_iinc1 (i := 2) rfl (by decide) rfl dX3_tailsOn_31 rfl ?_
        refine V_iinc1 (i := 3) rfl (by decide) rfl dX3_tailsOn_34 rfl ?_
        refine V_goto (tgt := 4) dX3_tailsOn_37 (by decide) ?_
        have he : aTaF s q (j + 1) = aTaF s q j + bI (0 < sn s j 0 ∧ sn s j 1 = q) := rfl
        rw [show bI (0 < sn s j 0 ∧ sn s j 1 = q) = _ from by first | exact bI_f (fun h => snR_none hjn h_19 h.1) | exact bI_f (fun h => h_28 h.2) | exact bI_t ⟨hps, h_28⟩] at he
        first | rw [Int32.add_zero] at he | skip
        refine V_forget 4 rfl ?_
        have h9 := ih (j + 1) (by omega)
        rw [← nI_1, he] at h9
        exact h9

set_option maxHeartbeats 4000000 in
set_option maxRecDepth 100000 in
theorem sp_tailsOn (l : Launch) (g : fw_G) {I : fw_I} {P : fw_P} {ra : Nat} {s : Nat → Int32} (hr : isRc ra) (hS : RSh P ra) (hR : RRel I P ra s) (q : Int32) : Sp l g kX3_tailsOn (T0 nT) [.ref (g.1 + ra), .int q] I P (T0 nT) 0 0 (qI (aTaF s q 10) I P) := by
  refine Sp.of_V (L := [some (.ref (g.1 + ra)), some (.int q), none, none, none]) (by decide) (by simp [Value.category]) (Nat.le_of_ble_eq_true rfl) rfl ?_
  refine V_iconst (v := 0) (by decide) dX3_tailsOn_0 rfl ?_
  refine V_istore_n (i := 2) rfl (by decide) rfl dX3_tailsOn_1 rfl ?_
  refine V_iconst (v := 0) (by decide) dX3_tailsOn_2 rfl ?_
  refine V_istore_n (i := 3) rfl (by decide) rfl dX3_tailsOn_3 rfl ?_
  exact lp_tailsOn l g hr hS hR q 10 0 rfl

set_option maxHeartbeats 4000000 in
set_option maxRecDepth 100000 in
theorem lp_snakesThere (l : Launch) (g : fw_G) {I : fw_I} {P : fw_P} {ra : Nat} {s : Nat → Int32} (hr : isRc ra) (hS : RSh P ra) (hR : RRel I P ra s) : ∀ (m j : Nat), j + m = 10 → V l g kX3_snakesThere (T0 nT) 0 0 (qI (aCntF s 10) I P) (T0 nT) I P 0 0 4 [some (.ref (g.1 + ra)), some (.int (aCntF s j)), some (.int (nI j))] [] := by
  have ara := at_race (nT := nT) hr
  have apc := at_pieces (nT := nT) hr
  have asn := at_snakes (nT := nT) hr
  obtain ⟨h0, h1, hpp, hpb, hbb, hinj, hsn⟩ := id hS
  intro m
  induction m with
  | zero =>
    intro j hj
    obtain rfl : j = 10 := by omega
    refine V_iload_n (i := 2) rfl rfl dX3_snakesThere_4 rfl ?_
    refine V_bipush (v := 10) (by decide) dX3_snakesThere_5 rfl ?_
    refine V_icmp_ge (tgt := 32) dX3_snakesThere_7 (by decide) rfl (fun _ => ?_) (fun h => absurd (by decide) h)
    refine V_iload_n (i := 1) rfl rfl dX3_snakesThere_32 rfl ?_
    exact V_ireturn rfl rfl dX3_snakesThere_33 rfl rfl rfl (qI.of rfl)
  | succ m ih =>
    intro j hj
    have hjn : j < 10 := by omega
    have hak := at_snake (nT := nT) hr hjn
    refine V_iload_n (i := 2) rfl rfl dX3_snakesThere_4 rfl ?_
    refine V_bipush (v := 10) (by decide) dX3_snakesThere_5 rfl ?_
    refine V_icmp_ge (tgt := 32) dX3_snakesThere_7 (by decide) rfl (fun h => absurd h (nlt10 hjn)) (fun _ => ?_)
    refine V_iload_n (i := 1) rfl rfl dX3_snakesThere_10 rfl ?_
    refine V_aload_n (i := 0) rfl rfl dX3_snakesThere_11 rfl ?_
    refine V_iload_n (i := 2) rfl rfl dX3_snakesThere_12 rfl ?_
    refine V_call (n := 1) (sp_snakeNumbered l g hr hS hR (nI j)) o_X3_snakeNumbered m_X3_73 ⟨by decide, by decide⟩ (by assumption) rfl rfl (by first | exact Nat.le_of_ble_eq_true rfl | simp [Value.category]) (Nat.le_refl _) (Nat.le_refl _) rfl dX3_snakesThere_13 rfl (kR ?_)
    refine V_ifnonnull (tgt := 23) dX3_snakesThere_16 (by decide) rfl (fun b_16 h_16 => ?_) (fun h_16 => ?_)
    · refine V_iconst (v := 1) (by decide) dX3_snakesThere_23 rfl ?_
      refine V_iadd dX3_snakesThere_24 rfl ?_
      refine V_istore_n (i := 1) rfl (by decide) rfl dX3_snakesThere_25 rfl ?_
      refine V_iinc1 (i := 2) rfl (by decide) rfl dX3_snakesThere_26 rfl ?_
      refine V_goto (tgt := 4) dX3_snakesThere_29 (by decide) ?_
      have he : aCntF s (j + 1) = aCntF s j + bI (0 < sn s j 0) := rfl
      rw [show bI (0 < sn s j 0) = _ from by first | exact bI_f (snR_none hjn h_16) | exact bI_t (snR_some hjn h_16).1] at he
      have h9 := ih (j + 1) (by omega)
      rw [← nI_1, he] at h9
      exact h9
    · refine V_iconst (v := 0) (by decide) dX3_snakesThere_19 rfl ?_
      refine V_goto (tgt := 24) dX3_snakesThere_20 (by decide) ?_
      refine V_iadd dX3_snakesThere_24 rfl ?_
      refine V_istore_n (i := 1) rfl (by decide) rfl dX3_snakesThere_25 rfl ?_
      refine V_iinc1 (i := 2) rfl (by decide) rfl dX3_snakesThere_26 rfl ?_
      refine V_goto (tgt := 4) dX3_snakesThere_29 (by decide) ?_
      have he : aCntF s (j + 1) = aCntF s j + bI (0 < sn s j 0) := rfl
      rw [show bI (0 < sn s j 0) = _ from by first | exact bI_f (snR_none hjn h_16) | exact bI_t (snR_some hjn h_16).1] at he
      have h9 := ih (j + 1) (by omega)
      rw [← nI_1, he] at h9
      exact h9

set_option maxHeartbeats 4000000 in
set_option maxRecDepth 100000 in
theorem sp_snakesThere (l : Launch) (g : fw_G) {I : fw_I} {P : fw_P} {ra : Nat} {s : Nat → Int32} (hr : isRc ra) (hS : RSh P ra) (hR : RRel I P ra s) : Sp l g kX3_snakesThere (T0 nT) [.ref (g.1 + ra)] I P (T0 nT) 0 0 (qI (aCntF s 10) I P) := by
  refine Sp.of_V (L := [some (.ref (g.1 + ra)), none, none]) (by decide) (by simp [Value.category]) (Nat.le_of_ble_eq_true rfl) rfl ?_
  refine V_iconst (v := 0) (by decide) dX3_snakesThere_0 rfl ?_
  refine V_istore_n (i := 1) rfl (by decide) rfl dX3_snakesThere_1 rfl ?_
  refine V_iconst (v := 0) (by decide) dX3_snakesThere_2 rfl ?_
  refine V_istore_n (i := 2) rfl (by decide) rfl dX3_snakesThere_3 rfl ?_
  exact lp_snakesThere l g hr hS hR 10 0 rfl

set_option maxHeartbeats 4000000 in
set_option maxRecDepth 100000 in
theorem lp_piecesOn (l : Launch) (g : fw_G) {I : fw_I} {P : fw_P} {ra : Nat} {s : Nat → Int32} (hr : isRc ra) (hS : RSh P ra) (hR : RRel I P ra s) (q : Int32) : ∀ (m j : Nat), j + m = 4 → V l g kX3_piecesOn (T0 nT) 0 0 (qI (aPi s q) I P) (T0 nT) I P 0 0 4 [some (.ref (g.1 + ra)), some (.int q), some (.int (aPiF s q j)), some (.int (nI j)), none] [] := by
  have ara := at_race (nT := nT) hr
  have apc := at_pieces (nT := nT) hr
  have asn := at_snakes (nT := nT) hr
  obtain ⟨h0, h1, hpp, hpb, hbb, hinj, hsn⟩ := id hS
  intro m
  induction m with
  | zero =>
    intro j hj
    obtain rfl : j = 4 := by omega
    refine V_iload_n (i := 3) rfl rfl dX3_piecesOn_4 rfl ?_
    refine V_iconst (v := 4) (by decide) dX3_piecesOn_5 rfl ?_
    refine V_icmp_ge (tgt := 42) dX3_piecesOn_6 (by decide) rfl (fun _ => ?_) (fun h => absurd (by decide) h)
    refine V_iload_n (i := 2) rfl rfl dX3_piecesOn_42 rfl ?_
    exact V_ireturn rfl rfl dX3_piecesOn_43 rfl rfl rfl (qI.of rfl)
  | succ m ih =>
    intro j hj
    have hjn : j < 4 := by omega
    have hak := at_piece (nT := nT) hr hjn
    refine V_iload_n (i := 3) rfl rfl dX3_piecesOn_4 rfl ?_
    refine V_iconst (v := 4) (by decide) dX3_piecesOn_5 rfl ?_
    refine V_icmp_ge (tgt := 42) dX3_piecesOn_6 (by decide) rfl (fun h => absurd h (nlt4 hjn)) (fun _ => ?_)
    refine V_aload_n (i := 0) rfl rfl dX3_piecesOn_9 rfl ?_
    refine V_iload_n (i := 3) rfl rfl dX3_piecesOn_10 rfl ?_
    refine V_call (n := 1) (sp_pieceOf l g hr hS (nI j)) o_X3_pieceOf m_X3_35 ⟨by decide, by decide⟩ (by assumption) rfl rfl (by first | exact Nat.le_of_ble_eq_true rfl | simp [Value.category]) (Nat.le_refl _) (Nat.le_refl _) rfl dX3_piecesOn_11 rfl (kR ?_)
    rw [pcR_nI ra hjn]
    refine V_astore (i := 4) (by decide) rfl dX3_piecesOn_14 rfl ?_
    refine V_aload (i := 4) rfl dX3_piecesOn_16 rfl ?_
    refine V_ifnull_s dX3_piecesOn_18 rfl ?_
    refine V_aload (i := 4) rfl dX3_piecesOn_21 rfl ?_
    refine V_get (kf := 2) C2 (by decide) l_X3_82 (by assumption) rfl dX3_piecesOn_23 rfl ?_
    rw [hR.p2 hjn]
    refine V_iload_n (i := 1) rfl rfl dX3_piecesOn_26 rfl ?_
    refine V_icmp_ne (tgt := 36) dX3_piecesOn_27 (by decide) rfl (fun h_27 => ?_) (fun h_27 => ?_)
    · refine V_iinc1 (i := 3) rfl (by decide) rfl dX3_piecesOn_36 rfl ?_
      refine V_goto (tgt := 4) dX3_piecesOn_39 (by decide) ?_
      have he : aPiF s q (j + 1) = aPiF s q j ||| (if ro s j 0 = q then 1 <<< (nI j &&& 31) else 0) := rfl
      rw [show (if ro s j 0 = q then (1 : Int32) <<< (nI j &&& 31) else 0) = _ from by first | exact if_neg h_27 | exact if_pos h_27] at he
      first | rw [Int32.or_zero] at he | skip
      refine V_forget 4 rfl ?_
      have h9 := ih (j + 1) (by omega)
      rw [← nI_1, he] at h9
      exact h9
    · refine V_iload_n (i := 2) rfl rfl dX3_piecesOn_30 rfl ?_
      refine V_iconst (v := 1) (by decide) dX3_piecesOn_31 rfl ?_
      refine V_iload_n (i := 3) rfl rfl dX3_piecesOn_32 rfl ?_
      refine V_ishl dX3_piecesOn_33 rfl ?_
      refine V_ior dX3_piecesOn_34 rfl ?_
      refine V_istore_n (i := 2) rfl (by decide) rfl dX3_piecesOn_35 rfl ?_
      refine V_iinc1 (i := 3) rfl (by decide) rfl dX3_piecesOn_36 rfl ?_
      refine V_goto (tgt := 4) dX3_piecesOn_39 (by decide) ?_
      have he : aPiF s q (j + 1) = aPiF s q j ||| (if ro s j 0 = q then 1 <<< (nI j &&& 31) else 0) := rfl
      rw [show (if ro s j 0 = q then (1 : Int32) <<< (nI j &&& 31) else 0) = _ from by first | exact if_neg h_27 | exact if_pos h_27] at he
      first | rw [Int32.or_zero] at he | skip
      refine V_forget 4 rfl ?_
      have h9 := ih (j + 1) (by omega)
      rw [← nI_1, he] at h9
      exact h9

set_option maxHeartbeats 4000000 in
set_option maxRecDepth 100000 in
theorem sp_piecesOn (l : Launch) (g : fw_G) {I : fw_I} {P : fw_P} {ra : Nat} {s : Nat → Int32} (hr : isRc ra) (hS : RSh P ra) (hR : RRel I P ra s) (q : Int32) : Sp l g kX3_piecesOn (T0 nT) [.ref (g.1 + ra), .int q] I P (T0 nT) 0 0 (qI (aPi s q) I P) := by
  refine Sp.of_V (L := [some (.ref (g.1 + ra)), some (.int q), none, none, none]) (by decide) (by simp [Value.category]) (Nat.le_of_ble_eq_true rfl) rfl ?_
  refine V_iconst (v := 0) (by decide) dX3_piecesOn_0 rfl ?_
  refine V_istore_n (i := 2) rfl (by decide) rfl dX3_piecesOn_1 rfl ?_
  refine V_iconst (v := 0) (by decide) dX3_piecesOn_2 rfl ?_
  refine V_istore_n (i := 3) rfl (by decide) rfl dX3_piecesOn_3 rfl ?_
  exact lp_piecesOn l g hr hS hR q 4 0 rfl

set_option maxHeartbeats 4000000 in
set_option maxRecDepth 100000 in
theorem sp_isInRace (l : Launch) (g : fw_G) {I : fw_I} {P : fw_P} {ra : Nat} {s : Nat → Int32} (hr : isRc ra) (hS : RSh P ra) (hR : RRel I P ra s) (x : Int32) : Sp l g kX3_isInRace (T0 nT) [.ref (g.1 + ra), .int x] I P (T0 nT) 0 0 (qI (bI (aPl x ∧ ¬ ro s x.toNatClampNeg 0 = 60)) I P) := by
  have ara := at_race (nT := nT) hr
  have apc := at_pieces (nT := nT) hr
  have asn := at_snakes (nT := nT) hr
  obtain ⟨h0, h1, hpp, hpb, hbb, hinj, hsn⟩ := id hS
  refine Sp.of_V (L := [some (.ref (g.1 + ra)), some (.int x), none]) (by decide) (by simp [Value.category]) (Nat.le_of_ble_eq_true rfl) rfl ?_
  refine V_aload_n (i := 0) rfl rfl dX3_isInRace_0 rfl ?_
  refine V_iload_n (i := 1) rfl rfl dX3_isInRace_1 rfl ?_
  refine V_call (n := 1) (sp_pieceOf l g hr hS x) o_X3_pieceOf m_X3_35 ⟨by decide, by decide⟩ (by assumption) rfl rfl (by first | exact Nat.le_of_ble_eq_true rfl | simp [Value.category]) (Nat.le_refl _) (Nat.le_refl _) rfl dX3_isInRace_2 rfl (kR ?_)
  refine V_astore_nr (i := 2) rfl (by decide) rfl dX3_isInRace_5 rfl ?_
  refine V_aload_nr (i := 2) rfl rfl dX3_isInRace_6 rfl ?_
  refine V_ifnull (tgt := 21) dX3_isInRace_7 (by decide) rfl (fun h_7 => ?_) (fun b_7 h_7 => ?_)
  · refine V_iconst (v := 0) (by decide) dX3_isInRace_21 rfl ?_
    exact V_ireturn rfl (by decide) dX3_isInRace_22 rfl rfl rfl (qI.of (by first | exact (bI_f (fun h => pcR_none h_7 h.1)).symm | exact (bI_f (fun h => bI_z h_14 (by have := h.2; rwa [nI_clamp (by omega)] at this))).symm | exact (bI_t ⟨le3 hk, by rw [nI_clamp (by omega)]; exact bI_nz h_14⟩).symm))
  · obtain ⟨k, hk, rfl, rfl⟩ := pcR_some h_7
    have hak := at_piece (nT := nT) hr hk
    rw [h_7]
    refine V_aload_n (i := 2) rfl rfl dX3_isInRace_10 rfl ?_
    refine V_call (n := 0) (sp_Piece_isInRace l g hak) o_X2_isInRace m_X3_85 ⟨by decide, by decide⟩ (by assumption) rfl rfl (by first | exact Nat.le_of_ble_eq_true rfl | simp [Value.category]) (Nat.le_refl _) (Nat.le_refl _) rfl dX3_isInRace_11 rfl (kI ?_)
    rw [hR.p2 hk]
    refine V_if_eq (tgt := 21) dX3_isInRace_14 (by decide) rfl (fun h_14 => ?_) (fun h_14 => ?_)
    · refine V_iconst (v := 0) (by decide) dX3_isInRace_21 rfl ?_
      exact V_ireturn rfl (by decide) dX3_isInRace_22 rfl rfl rfl (qI.of (by first | exact (bI_f (fun h => pcR_none h_7 h.1)).symm | exact (bI_f (fun h => bI_z h_14 (by have := h.2; rwa [nI_clamp (by omega)] at this))).symm | exact (bI_t ⟨le3 hk, by rw [nI_clamp (by omega)]; exact bI_nz h_14⟩).symm))
    · refine V_iconst (v := 1) (by decide) dX3_isInRace_17 rfl ?_
      refine V_goto (tgt := 22) dX3_isInRace_18 (by decide) ?_
      exact V_ireturn rfl (by decide) dX3_isInRace_22 rfl rfl rfl (qI.of (by first | exact (bI_f (fun h => pcR_none h_7 h.1)).symm | exact (bI_f (fun h => bI_z h_14 (by have := h.2; rwa [nI_clamp (by omega)] at this))).symm | exact (bI_t ⟨le3 hk, by rw [nI_clamp (by omega)]; exact bI_nz h_14⟩).symm))

set_option maxHeartbeats 4000000 in
set_option maxRecDepth 100000 in
theorem lp_bitesHeld (l : Launch) (g : fw_G) {I : fw_I} {P : fw_P} {ra : Nat} {s : Nat → Int32} (hr : isRc ra) (hS : RSh P ra) (hR : RRel I P ra s) : ∀ (m j : Nat), j + m = 4 → V l g kX3_bitesHeld (T0 nT) 0 0 (qI (aSuF s 5 4) I P) (T0 nT) I P 0 0 4 [some (.ref (g.1 + ra)), some (.int (aSuF s 5 j)), some (.int (nI j)), none] [] := by
  have ara := at_race (nT := nT) hr
  have apc := at_pieces (nT := nT) hr
  have asn := at_snakes (nT := nT) hr
  obtain ⟨h0, h1, hpp, hpb, hbb, hinj, hsn⟩ := id hS
  intro m
  induction m with
  | zero =>
    intro j hj
    obtain rfl : j = 4 := by omega
    refine V_iload_n (i := 2) rfl rfl dX3_bitesHeld_4 rfl ?_
    refine V_iconst (v := 4) (by decide) dX3_bitesHeld_5 rfl ?_
    refine V_icmp_ge (tgt := 36) dX3_bitesHeld_6 (by decide) rfl (fun _ => ?_) (fun h => absurd (by decide) h)
    refine V_iload_n (i := 1) rfl rfl dX3_bitesHeld_36 rfl ?_
    exact V_ireturn rfl rfl dX3_bitesHeld_37 rfl rfl rfl (qI.of rfl)
  | succ m ih =>
    intro j hj
    have hjn : j < 4 := by omega
    have hak := at_piece (nT := nT) hr hjn
    refine V_iload_n (i := 2) rfl rfl dX3_bitesHeld_4 rfl ?_
    refine V_iconst (v := 4) (by decide) dX3_bitesHeld_5 rfl ?_
    refine V_icmp_ge (tgt := 36) dX3_bitesHeld_6 (by decide) rfl (fun h => absurd h (nlt4 hjn)) (fun _ => ?_)
    refine V_aload_n (i := 0) rfl rfl dX3_bitesHeld_9 rfl ?_
    refine V_iload_n (i := 2) rfl rfl dX3_bitesHeld_10 rfl ?_
    refine V_call (n := 1) (sp_pieceOf l g hr hS (nI j)) o_X3_pieceOf m_X3_35 ⟨by decide, by decide⟩ (by assumption) rfl rfl (by first | exact Nat.le_of_ble_eq_true rfl | simp [Value.category]) (Nat.le_refl _) (Nat.le_refl _) rfl dX3_bitesHeld_11 rfl (kR ?_)
    rw [pcR_nI ra hjn]
    refine V_astore_n (i := 3) rfl (by decide) rfl dX3_bitesHeld_14 rfl ?_
    refine V_iload_n (i := 1) rfl rfl dX3_bitesHeld_15 rfl ?_
    refine V_aload_n (i := 3) rfl rfl dX3_bitesHeld_16 rfl ?_
    refine V_ifnonnull_s (tgt := 24) dX3_bitesHeld_17 (by decide) ?_
    refine V_aload_n (i := 3) rfl rfl dX3_bitesHeld_24 rfl ?_
    refine V_get (kf := 1) C2 (by decide) l_X3_91 (by assumption) rfl dX3_bitesHeld_25 rfl ?_
    rw [hR.p1 hjn]
    refine V_iadd dX3_bitesHeld_28 rfl ?_
    refine V_istore_n (i := 1) rfl (by decide) rfl dX3_bitesHeld_29 rfl ?_
    refine V_iinc1 (i := 2) rfl (by decide) rfl dX3_bitesHeld_30 rfl ?_
    refine V_goto (tgt := 4) dX3_bitesHeld_33 (by decide) ?_
    refine V_forget 3 rfl ?_
    have h9 := ih (j + 1) (by omega)
    rw [← nI_1] at h9
    exact h9

set_option maxHeartbeats 4000000 in
set_option maxRecDepth 100000 in
theorem sp_bitesHeld (l : Launch) (g : fw_G) {I : fw_I} {P : fw_P} {ra : Nat} {s : Nat → Int32} (hr : isRc ra) (hS : RSh P ra) (hR : RRel I P ra s) : Sp l g kX3_bitesHeld (T0 nT) [.ref (g.1 + ra)] I P (T0 nT) 0 0 (qI (aSuF s 5 4) I P) := by
  refine Sp.of_V (L := [some (.ref (g.1 + ra)), none, none, none]) (by decide) (by simp [Value.category]) (Nat.le_of_ble_eq_true rfl) rfl ?_
  refine V_iconst (v := 0) (by decide) dX3_bitesHeld_0 rfl ?_
  refine V_istore_n (i := 1) rfl (by decide) rfl dX3_bitesHeld_1 rfl ?_
  refine V_iconst (v := 0) (by decide) dX3_bitesHeld_2 rfl ?_
  refine V_istore_n (i := 2) rfl (by decide) rfl dX3_bitesHeld_3 rfl ?_
  exact lp_bitesHeld l g hr hS hR 4 0 rfl

set_option maxHeartbeats 4000000 in
set_option maxRecDepth 100000 in
theorem lp_coinsOfAll (l : Launch) (g : fw_G) {I : fw_I} {P : fw_P} {ra : Nat} {s : Nat → Int32} (hr : isRc ra) (hS : RSh P ra) (hR : RRel I P ra s) : ∀ (m j : Nat), j + m = 4 → V l g kX3_coinsOfAll (T0 nT) 0 0 (qI (aSuF s 1 4) I P) (T0 nT) I P 0 0 4 [some (.ref (g.1 + ra)), some (.int (aSuF s 1 j)), some (.int (nI j)), none] [] := by
  have ara := at_race (nT := nT) hr
  have apc := at_pieces (nT := nT) hr
  have asn := at_snakes (nT := nT) hr
  obtain ⟨h0, h1, hpp, hpb, hbb, hinj, hsn⟩ := id hS
  intro m
  induction m with
  | zero =>
    intro j hj
    obtain rfl : j = 4 := by omega
    refine V_iload_n (i := 2) rfl rfl dX3_coinsOfAll_4 rfl ?_
    refine V_iconst (v := 4) (by decide) dX3_coinsOfAll_5 rfl ?_
    refine V_icmp_ge (tgt := 36) dX3_coinsOfAll_6 (by decide) rfl (fun _ => ?_) (fun h => absurd (by decide) h)
    refine V_iload_n (i := 1) rfl rfl dX3_coinsOfAll_36 rfl ?_
    exact V_ireturn rfl rfl dX3_coinsOfAll_37 rfl rfl rfl (qI.of rfl)
  | succ m ih =>
    intro j hj
    have hjn : j < 4 := by omega
    have hak := at_piece (nT := nT) hr hjn
    refine V_iload_n (i := 2) rfl rfl dX3_coinsOfAll_4 rfl ?_
    refine V_iconst (v := 4) (by decide) dX3_coinsOfAll_5 rfl ?_
    refine V_icmp_ge (tgt := 36) dX3_coinsOfAll_6 (by decide) rfl (fun h => absurd h (nlt4 hjn)) (fun _ => ?_)
    refine V_aload_n (i := 0) rfl rfl dX3_coinsOfAll_9 rfl ?_
    refine V_iload_n (i := 2) rfl rfl dX3_coinsOfAll_10 rfl ?_
    refine V_call (n := 1) (sp_pieceOf l g hr hS (nI j)) o_X3_pieceOf m_X3_35 ⟨by decide, by decide⟩ (by assumption) rfl rfl (by first | exact Nat.le_of_ble_eq_true rfl | simp [Value.category]) (Nat.le_refl _) (Nat.le_refl _) rfl dX3_coinsOfAll_11 rfl (kR ?_)
    rw [pcR_nI ra hjn]
    refine V_astore_n (i := 3) rfl (by decide) rfl dX3_coinsOfAll_14 rfl ?_
    refine V_iload_n (i := 1) rfl rfl dX3_coinsOfAll_15 rfl ?_
    refine V_aload_n (i := 3) rfl rfl dX3_coinsOfAll_16 rfl ?_
    refine V_ifnonnull_s (tgt := 24) dX3_coinsOfAll_17 (by decide) ?_
    refine V_aload_n (i := 3) rfl rfl dX3_coinsOfAll_24 rfl ?_
    refine V_get (kf := 3) C2 (by decide) l_X3_94 (by assumption) rfl dX3_coinsOfAll_25 rfl ?_
    rw [hR.p3 hjn]
    refine V_iadd dX3_coinsOfAll_28 rfl ?_
    refine V_istore_n (i := 1) rfl (by decide) rfl dX3_coinsOfAll_29 rfl ?_
    refine V_iinc1 (i := 2) rfl (by decide) rfl dX3_coinsOfAll_30 rfl ?_
    refine V_goto (tgt := 4) dX3_coinsOfAll_33 (by decide) ?_
    refine V_forget 3 rfl ?_
    have h9 := ih (j + 1) (by omega)
    rw [← nI_1] at h9
    exact h9

set_option maxHeartbeats 4000000 in
set_option maxRecDepth 100000 in
theorem sp_coinsOfAll (l : Launch) (g : fw_G) {I : fw_I} {P : fw_P} {ra : Nat} {s : Nat → Int32} (hr : isRc ra) (hS : RSh P ra) (hR : RRel I P ra s) : Sp l g kX3_coinsOfAll (T0 nT) [.ref (g.1 + ra)] I P (T0 nT) 0 0 (qI (aSuF s 1 4) I P) := by
  refine Sp.of_V (L := [some (.ref (g.1 + ra)), none, none, none]) (by decide) (by simp [Value.category]) (Nat.le_of_ble_eq_true rfl) rfl ?_
  refine V_iconst (v := 0) (by decide) dX3_coinsOfAll_0 rfl ?_
  refine V_istore_n (i := 1) rfl (by decide) rfl dX3_coinsOfAll_1 rfl ?_
  refine V_iconst (v := 0) (by decide) dX3_coinsOfAll_2 rfl ?_
  refine V_istore_n (i := 2) rfl (by decide) rfl dX3_coinsOfAll_3 rfl ?_
  exact lp_coinsOfAll l g hr hS hR 4 0 rfl

set_option maxHeartbeats 4000000 in
set_option maxRecDepth 100000 in
theorem lp_playersInRace (l : Launch) (g : fw_G) {I : fw_I} {P : fw_P} {ra : Nat} {s : Nat → Int32} (hr : isRc ra) (hS : RSh P ra) (hR : RRel I P ra s) : ∀ (m j : Nat), j + m = 4 → V l g kX3_playersInRace (T0 nT) 0 0 (qI (aRcF s 4) I P) (T0 nT) I P 0 0 4 [some (.ref (g.1 + ra)), some (.int (aRcF s j)), some (.int (nI j))] [] := by
  have ara := at_race (nT := nT) hr
  have apc := at_pieces (nT := nT) hr
  have asn := at_snakes (nT := nT) hr
  obtain ⟨h0, h1, hpp, hpb, hbb, hinj, hsn⟩ := id hS
  intro m
  induction m with
  | zero =>
    intro j hj
    obtain rfl : j = 4 := by omega
    refine V_iload_n (i := 2) rfl rfl dX3_playersInRace_4 rfl ?_
    refine V_iconst (v := 4) (by decide) dX3_playersInRace_5 rfl ?_
    refine V_icmp_ge (tgt := 31) dX3_playersInRace_6 (by decide) rfl (fun _ => ?_) (fun h => absurd (by decide) h)
    refine V_iload_n (i := 1) rfl rfl dX3_playersInRace_31 rfl ?_
    exact V_ireturn rfl rfl dX3_playersInRace_32 rfl rfl rfl (qI.of rfl)
  | succ m ih =>
    intro j hj
    have hjn : j < 4 := by omega
    refine V_iload_n (i := 2) rfl rfl dX3_playersInRace_4 rfl ?_
    refine V_iconst (v := 4) (by decide) dX3_playersInRace_5 rfl ?_
    refine V_icmp_ge (tgt := 31) dX3_playersInRace_6 (by decide) rfl (fun h => absurd h (nlt4 hjn)) (fun _ => ?_)
    refine V_iload_n (i := 1) rfl rfl dX3_playersInRace_9 rfl ?_
    refine V_aload_n (i := 0) rfl rfl dX3_playersInRace_10 rfl ?_
    refine V_iload_n (i := 2) rfl rfl dX3_playersInRace_11 rfl ?_
    refine V_call (n := 1) (sp_isInRace l g hr hS hR (nI j)) o_X3_isInRace m_X3_88 ⟨by decide, by decide⟩ (by assumption) rfl rfl (by first | exact Nat.le_of_ble_eq_true rfl | simp [Value.category]) (Nat.le_refl _) (Nat.le_refl _) rfl dX3_playersInRace_12 rfl (kI ?_)
    rw [bI_pl hjn]
    refine V_if_eq (tgt := 22) dX3_playersInRace_15 (by decide) rfl (fun h_15 => ?_) (fun h_15 => ?_)
    · refine V_iconst (v := 0) (by decide) dX3_playersInRace_22 rfl ?_
      refine V_iadd dX3_playersInRace_23 rfl ?_
      refine V_istore_n (i := 1) rfl (by decide) rfl dX3_playersInRace_24 rfl ?_
      refine V_iinc1 (i := 2) rfl (by decide) rfl dX3_playersInRace_25 rfl ?_
      refine V_goto (tgt := 4) dX3_playersInRace_28 (by decide) ?_
      have he : aRcF s (j + 1) = aRcF s j + bI (¬ ro s j 0 = 60) := rfl
      rw [show bI (¬ ro s j 0 = 60) = _ from by first | exact h_15 | exact bI_t (bI_nz h_15)] at he
      have h9 := ih (j + 1) (by omega)
      rw [← nI_1, he] at h9
      exact h9
    · refine V_iconst (v := 1) (by decide) dX3_playersInRace_18 rfl ?_
      refine V_goto (tgt := 23) dX3_playersInRace_19 (by decide) ?_
      refine V_iadd dX3_playersInRace_23 rfl ?_
      refine V_istore_n (i := 1) rfl (by decide) rfl dX3_playersInRace_24 rfl ?_
      refine V_iinc1 (i := 2) rfl (by decide) rfl dX3_playersInRace_25 rfl ?_
      refine V_goto (tgt := 4) dX3_playersInRace_28 (by decide) ?_
      have he : aRcF s (j + 1) = aRcF s j + bI (¬ ro s j 0 = 60) := rfl
      rw [show bI (¬ ro s j 0 = 60) = _ from by first | exact h_15 | exact bI_t (bI_nz h_15)] at he
      have h9 := ih (j + 1) (by omega)
      rw [← nI_1, he] at h9
      exact h9

set_option maxHeartbeats 4000000 in
set_option maxRecDepth 100000 in
theorem sp_playersInRace (l : Launch) (g : fw_G) {I : fw_I} {P : fw_P} {ra : Nat} {s : Nat → Int32} (hr : isRc ra) (hS : RSh P ra) (hR : RRel I P ra s) : Sp l g kX3_playersInRace (T0 nT) [.ref (g.1 + ra)] I P (T0 nT) 0 0 (qI (aRcF s 4) I P) := by
  refine Sp.of_V (L := [some (.ref (g.1 + ra)), none, none]) (by decide) (by simp [Value.category]) (Nat.le_of_ble_eq_true rfl) rfl ?_
  refine V_iconst (v := 0) (by decide) dX3_playersInRace_0 rfl ?_
  refine V_istore_n (i := 1) rfl (by decide) rfl dX3_playersInRace_1 rfl ?_
  refine V_iconst (v := 0) (by decide) dX3_playersInRace_2 rfl ?_
  refine V_istore_n (i := 2) rfl (by decide) rfl dX3_playersInRace_3 rfl ?_
  exact lp_playersInRace l g hr hS hR 4 0 rfl
