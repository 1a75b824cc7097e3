variable {nT : Nat}
theorem upd_ne {s : Nat → Int32} {i j : Nat} (x : Int32) (h : j ≠ i) : upd s i x j = s j := by rw [upd_at, if_neg h]
theorem upd_eq {s : Nat → Int32} {i j : Nat} (x : Int32) (h : j = i) : upd s i x j = x := by rw [upd_at, if_pos h]
theorem V_gen {l : Launch} {g : fw_G} {k : fw_M} {T T' : fw_T} {mc ms : Nat} {Q : Option Value → fw_I → fw_P → Prop} {I : fw_I} {P : fw_P} {u w pc : Nat} {L : List (Option Value)} {st : List Value} {A : fw_I → Prop} (h : A I) (kk : ∀ J, A J → V l g k T' mc ms Q T J P u w pc L st) : V l g k T' mc ms Q T I P u w pc L st := kk I h
def fP (w : Nat) : Nat := if w = 0 then 2 else if w = 1 then 3 else if w = 2 then 4 else if w = 3 then 5 else if w = 4 then 6 else 1
def plv (w : Nat) (v : Int32) : Int32 := if w = 2 then (if v = 0 then -5 else v) else v
def fR (j : Nat) : Nat := if j = 0 then 6 else if j = 2 then 8 else if j = 3 then 9 else if j = 4 then 7 else if j = 5 then 2 else if j = 6 then 3 else 4
theorem ro_upd (s : Nat → Int32) {p w p' w' : Nat} (v : Int32) (hw : w < 6) (hw' : w' < 6) : ro (upd s (8 + 6 * p + w) v) p' w' = if p' = p ∧ w' = w then v else ro s p' w' := by
  unfold ro
  by_cases h : p' = p ∧ w' = w
  · rw [if_pos h, upd_eq v (by omega)]
  · rw [if_neg h, upd_ne v (by omega)]
theorem ro_hi (s : Nat → Int32) {j p w : Nat} (v : Int32) (hp : p < 4) (hw : w < 6) (h : j < 8 ∨ 32 ≤ j) : ro (upd s j v) p w = ro s p w := by
  unfold ro
  rw [upd_ne v (by omega)]
theorem pcv_eq {s t : Nat → Int32} {p f : Nat} (h : ∀ w, w < 6 → ro t p w = ro s p w) : pcv t p f = pcv s p f := by
  unfold pcv
  rw [h 5 (by decide), h 0 (by decide), h 1 (by decide), h 2 (by decide), h 3 (by decide), h 4 (by decide)]
theorem rcv_eq {s t : Nat → Int32} {f : Nat} (h : ∀ j, j < 8 → ¬ j = 1 → t j = s j) : rcv t f = rcv s f := by
  unfold rcv
  rw [h 5 (by decide) (by decide), h 6 (by decide) (by decide), h 7 (by decide) (by decide), h 0 (by decide) (by decide), h 4 (by decide) (by decide), h 2 (by decide) (by decide), h 3 (by decide) (by decide)]
theorem pcv_upd (s : Nat → Int32) {p w p' f' : Nat} (v : Int32) (hw : w < 6) (h1 : 1 ≤ f') (h7 : f' < 7) : pcv (upd s (8 + 6 * p + w) v) p' f' = if p' = p ∧ f' = fP w then plv w v else pcv s p' f' := by
  by_cases e : p' = p
  · subst e
    have e : ∀ w', w' < 6 → ro (upd s (8 + 6 * p' + w) v) p' w' = if w' = w then v else ro s p' w' := fun w' h => by
      rw [ro_upd s v hw h]
      by_cases q : w' = w
      · rw [if_pos q, if_pos ⟨rfl, q⟩]
      · rw [if_neg q, if_neg (fun z => q z.2)]
    unfold pcv
    rw [e 5 (by decide), e 0 (by decide), e 1 (by decide), e 2 (by decide), e 3 (by decide), e 4 (by decide)]
    rcases (show w = 0 ∨ w = 1 ∨ w = 2 ∨ w = 3 ∨ w = 4 ∨ w = 5 by omega) with rfl | rfl | rfl | rfl | rfl | rfl <;>
    rcases (show f' = 1 ∨ f' = 2 ∨ f' = 3 ∨ f' = 4 ∨ f' = 5 ∨ f' = 6 by omega) with rfl | rfl | rfl | rfl | rfl | rfl <;> simp [fP, plv]
  · rw [if_neg (fun h => e h.1)]
    exact pcv_eq (fun w' h => by rw [ro_upd s v hw h, if_neg (fun z => e z.1)])
theorem rcv_upd (s : Nat → Int32) {j f : Nat} (v : Int32) (hj : j < 8) (hj1 : ¬ j = 1) (h1 : 2 ≤ f) (h7 : f < 10) (h5 : ¬ f = 5) : rcv (upd s j v) f = if f = fR j then v else rcv s f := by
  rcases (show j = 0 ∨ j = 2 ∨ j = 3 ∨ j = 4 ∨ j = 5 ∨ j = 6 ∨ j = 7 by omega) with rfl | rfl | rfl | rfl | rfl | rfl | rfl <;>
  rcases (show f = 2 ∨ f = 3 ∨ f = 4 ∨ f = 6 ∨ f = 7 ∨ f = 8 ∨ f = 9 by omega) with rfl | rfl | rfl | rfl | rfl | rfl | rfl <;> simp [rcv, upd_at, fR]
theorem aMany_eq {s t : Nat → Int32} {p : Nat} (h : ro t p 5 = ro s p 5) : aMany t p = aMany s p := by unfold aMany; rw [h]
section SETS
variable {I : fw_I} {P : fw_P} {ra : Nat} {s : Nat → Int32}
theorem RSh.bt (hS : RSh P ra) {p k b : Nat} (hp : p < 4) (hk : k < 16) (hb : P (ra + 3 + 18 * p) k = some b) : ∃ c, c < 16 ∧ b = ra + 4 + 18 * p + c := by
  obtain ⟨c, hc, e⟩ := hS.2.2.2.2.1 p hp k hk
  rw [e] at hb
  exact ⟨c, hc, (Option.some.inj hb).symm⟩
/-- one relation for another row and memory: what must agree -/
theorem RRel.of {I J : fw_I} {s t : Nat → Int32} (hS : RSh P ra) (h : RRel I P ra s) (h1 : ∀ p, p < 4 → ∀ f, 1 ≤ f → f < 7 → J (ra + 2 + 18 * p) f = pcv t p f)
    (h2 : ∀ p, p < 4 → ∀ k, k < 16 → k < aMany t p → k < aMany s p ∧ (∀ c, c < 16 → ∀ f, f < 4 → J (ra + 4 + 18 * p + c) f = I (ra + 4 + 18 * p + c) f) ∧ ∀ f, f < 4 → t (wi p k + f) = s (wi p k + f))
    (h3 : ∀ i, i < 10 → J (ra + 75 + i) 0 = sn t i 0 ∧ J (ra + 75 + i) 2 = sn t i 2 ∧ (¬ sn t i 0 = 0 → J (ra + 75 + i) 1 = sn t i 1 ∧ J (ra + 75 + i) 3 = sn t i 3))
    (h4 : ∀ f, 2 ≤ f → f < 10 → ¬ f = 5 → J ra f = rcv t f) : RRel J P ra t := by
  refine ⟨h1, fun p hp k hk hm b hb f hf => ?_, h3, h4⟩
  obtain ⟨a1, a2, a3⟩ := h2 p hp k hk hm
  obtain ⟨c, hc, rfl⟩ := hS.bt hp hk hb
  rw [a2 c hc f hf, a3 f hf]
  exact h.b hp hk a1 hb hf
theorem RRel.uro (hS : RSh P ra) (h : RRel I P ra s) {p w : Nat} (hp : p < 4) (hw : w < 6) (v : Int32) (hv : w = 5 → v.toNatClampNeg ≤ aMany s p) : RRel (up2 I (ra + 2 + 18 * p) (fP w) (plv w v)) P ra (upd s (8 + 6 * p + w) v) := by
  refine RRel.of hS h (fun p' hp' f' a b => ?_) (fun p' hp' k hk hm => ⟨?_, fun c hc f hf => ?_, fun f hf => ?_⟩) (fun i hi => ?_) (fun f a b c => ?_)
  · rw [up2_at, pcv_upd s v hw a b]
    by_cases e : p' = p ∧ f' = fP w
    · rw [if_pos e, if_pos ⟨by rw [e.1], e.2⟩]
    · rw [if_neg e, if_neg (fun z => e ⟨by omega, z.2⟩), h.1 p' hp' f' a b]
  · unfold aMany at hm hv ⊢
    rw [ro_upd s v hw (by decide)] at hm
    by_cases e : p' = p ∧ 5 = w
    · rw [if_pos e] at hm
      have := hv e.2.symm
      rw [e.1]; omega
    · rw [if_neg e] at hm; exact hm
  · rw [up2_ne _ _ _ (by omega)]
  · have := wi_lt (p := p') (k := k) hp' (by omega)
    exact upd_ne v (by unfold wi; omega)
  · rw [up2_ne _ _ _ (by omega)]
    unfold sn
    rw [upd_ne v (by omega), upd_ne v (by omega), upd_ne v (by omega), upd_ne v (by omega)]
    exact h.2.2.1 i hi
  · rw [up2_ne _ _ _ (by omega), h.2.2.2 f a b c]
    exact (rcv_eq (fun j hj _ => upd_ne v (by omega))).symm
theorem RRel.urc (hS : RSh P ra) (h : RRel I P ra s) {j : Nat} (hj : j < 8) (hj1 : ¬ j = 1) (v : Int32) : RRel (up2 I ra (fR j) v) P ra (upd s j v) := by
  refine RRel.of hS h (fun p' hp' f' a b => ?_) (fun p' hp' k hk hm => ⟨?_, fun c hc f hf => ?_, fun f hf => ?_⟩) (fun i hi => ?_) (fun f a b c => ?_)
  · rw [up2_ne _ _ _ (by omega), h.1 p' hp' f' a b]
    exact (pcv_eq (fun w hw => ro_hi s v hp' hw (Or.inl hj))).symm
  · rwa [aMany_eq (ro_hi s v hp' (by decide) (Or.inl hj))] at hm
  · rw [up2_ne _ _ _ (by omega)]
  · exact upd_ne v (by unfold wi; omega)
  · rw [up2_ne _ _ _ (by omega)]
    unfold sn
    rw [upd_ne v (by omega), upd_ne v (by omega), upd_ne v (by omega), upd_ne v (by omega)]
    exact h.2.2.1 i hi
  · rw [up2_at, rcv_upd s v hj hj1 a b c]
    by_cases e : f = fR j
    · rw [if_pos e, if_pos ⟨rfl, e⟩]
    · rw [if_neg e, if_neg (fun z => e z.2), h.2.2.2 f a b c]
/-- the row's turn does not show in these cells -/
theorem RRel.r1 (hS : RSh P ra) (h : RRel I P ra s) (v : Int32) : RRel I P ra (upd s 1 v) := by
  refine RRel.of hS h (fun p' hp' f' a b => ?_) (fun p' hp' k hk hm => ⟨?_, fun c hc f hf => rfl, fun f hf => ?_⟩) (fun i hi => ?_) (fun f a b c => ?_)
  · rw [h.1 p' hp' f' a b]
    exact (pcv_eq (fun w hw => ro_hi s v hp' hw (Or.inl (by decide)))).symm
  · rwa [aMany_eq (ro_hi s v hp' (by decide) (Or.inl (by decide)))] at hm
  · exact upd_ne v (by unfold wi; omega)
  · unfold sn
    rw [upd_ne v (by omega), upd_ne v (by omega), upd_ne v (by omega), upd_ne v (by omega)]
    exact h.2.2.1 i hi
  · rw [h.2.2.2 f a b c]
    exact (rcv_eq (fun j hj h1 => upd_ne v h1)).symm
/-- whose turn it is is no part of the relation -/
theorem RRel.mv (hS : RSh P ra) (h : RRel I P ra s) (v : Int32) : RRel (up2 I ra 5 v) P ra s := by
  refine RRel.of hS h (fun p' hp' f' a b => ?_) (fun p' hp' k hk hm => ⟨hm, fun c hc f hf => ?_, fun f hf => rfl⟩) (fun i hi => ?_) (fun f a b c => ?_)
  · rw [up2_ne _ _ _ (by omega), h.1 p' hp' f' a b]
  · rw [up2_ne _ _ _ (by omega)]
  · rw [up2_ne _ _ _ (by omega)]; exact h.2.2.1 i hi
  · rw [up2_at, if_neg (fun z => c z.2)]; exact h.2.2.2 f a b c
theorem sn_upd (s : Nat → Int32) {i w i' w' : Nat} (v : Int32) (hw : w < 4) (hw' : w' < 4) : sn (upd s (352 + 4 * i + w) v) i' w' = if i' = i ∧ w' = w then v else sn s i' w' := by
  unfold sn
  by_cases h : i' = i ∧ w' = w
  · rw [if_pos h, upd_eq v (by omega)]
  · rw [if_neg h, upd_ne v (by omega)]
theorem RRel.rest (hS : RSh P ra) (h : RRel I P ra s) {J : fw_I} {t : Nat → Int32} (hI : ∀ b, (∀ i, i < 10 → b ≠ ra + 75 + i) → J b = I b) (ht : ∀ j, j < 352 → t j = s j)
    (h3 : ∀ i, i < 10 → J (ra + 75 + i) 0 = sn t i 0 ∧ J (ra + 75 + i) 2 = sn t i 2 ∧ (¬ sn t i 0 = 0 → J (ra + 75 + i) 1 = sn t i 1 ∧ J (ra + 75 + i) 3 = sn t i 3)) : RRel J P ra t := by
  refine RRel.of hS h (fun p' hp' f' a b => ?_) (fun p' hp' k hk hm => ⟨?_, fun c hc f hf => ?_, fun f hf => ?_⟩) h3 (fun f a b c => ?_)
  · rw [hI _ (by intro i hi; omega), h.1 p' hp' f' a b]
    exact (pcv_eq (fun w hw => ht _ (by omega))).symm
  · rwa [aMany_eq (s := s) (ht _ (by omega))] at hm
  · rw [hI _ (by intro i hi; omega)]
  · have := wi_lt (p := p') (k := k) hp' (by omega)
    exact ht _ (by omega)
  · rw [hI _ (by intro i hi; omega), h.2.2.2 f a b c]
    exact (rcv_eq (fun j hj _ => ht j (by omega))).symm
theorem RRel.usn (hS : RSh P ra) (h : RRel I P ra s) {i w : Nat} (hi : i < 10) (hw : w < 4) (v : Int32) (hv : w = 0 → ¬ v = 0 → ¬ sn s i 0 = 0) : RRel (up2 I (ra + 75 + i) w v) P ra (upd s (352 + 4 * i + w) v) := by
  refine h.rest hS (fun b hb => up2_ne _ _ _ (hb i hi)) (fun j hj => upd_ne v (by omega)) (fun i' hi' => ?_)
  obtain ⟨a0, a2, a13⟩ := h.2.2.1 i' hi'
  simp only [up2_at, sn_upd s v hw (w' := 0) (by decide), sn_upd s v hw (w' := 1) (by decide), sn_upd s v hw (w' := 2) (by decide), sn_upd s v hw (w' := 3) (by decide)]
  by_cases e : i' = i
  · subst e
    rcases (show w = 0 ∨ w = 1 ∨ w = 2 ∨ w = 3 by omega) with rfl | rfl | rfl | rfl <;> simp [a0, a2]
    · intro h0; exact a13 (hv rfl h0)
    · intro h0; exact (a13 h0).2
    · intro h0; exact a13 h0
    · intro h0; exact (a13 h0).1
  · have e2 : ¬ ra + 75 + i' = ra + 75 + i := by omega
    simp only [e, e2, false_and, if_false]
    exact ⟨a0, a2, a13⟩
theorem RRel.usn4 (hS : RSh P ra) (h : RRel I P ra s) {i : Nat} (hi : i < 10) (x y z w : Int32) : RRel (b4 I (ra + 75 + i) x y z w) P ra (upd (upd (upd (upd s (352 + 4 * i + 0) x) (352 + 4 * i + 1) y) (352 + 4 * i + 2) z) (352 + 4 * i + 3) w) := by
  refine h.rest hS (fun b hb => b4_ne _ _ _ _ _ (hb i hi)) (fun j hj => by rw [upd_ne _ (by omega), upd_ne _ (by omega), upd_ne _ (by omega), upd_ne _ (by omega)]) (fun i' hi' => ?_)
  obtain ⟨a0, a2, a13⟩ := h.2.2.1 i' hi'
  by_cases e : i' = i
  · subst e
    obtain ⟨c0, c1, c2, c3⟩ := b4_at I (ra + 75 + i') x y z w
    rw [c0, c1, c2, c3]
    unfold sn
    simp (disch := omega) only [upd_eq, upd_ne]
    exact ⟨trivial, trivial, fun _ => ⟨trivial, trivial⟩⟩
  · rw [b4_ne _ _ _ _ _ (by omega)]
    unfold sn
    simp (disch := omega) only [upd_ne]
    exact ⟨a0, a2, a13⟩
theorem pcv_hi (s : Nat → Int32) {j p f : Nat} (v : Int32) (hp : p < 4) (h : j < 8 ∨ 32 ≤ j) : pcv (upd s j v) p f = pcv s p f := pcv_eq (fun w hw => ro_hi s v hp hw h)
/-- the row with one bite more -/
def bt4 (s : Nat → Int32) (W : Nat) (x y z w : Int32) : Nat → Int32 := upd (upd (upd (upd s (W + 0) x) (W + 1) y) (W + 2) z) (W + 3) w
theorem bt4_ne {s : Nat → Int32} {W j : Nat} (x y z w : Int32) (h : j < W ∨ W + 4 ≤ j) : bt4 s W x y z w j = s j := by
  unfold bt4
  simp (disch := omega) only [upd_ne]
theorem bt4_at (s : Nat → Int32) (W : Nat) (x y z w : Int32) : bt4 s W x y z w (W + 0) = x ∧ bt4 s W x y z w (W + 1) = y ∧ bt4 s W x y z w (W + 2) = z ∧ bt4 s W x y z w (W + 3) = w := by
  unfold bt4
  refine ⟨?_, ?_, ?_, upd_eq _ rfl⟩ <;> simp [upd_at]
theorem RRel.add (hS : RSh P ra) (h : RRel I P ra s) {p n b : Nat} (hp : p < 4) (hn : aMany s p = n) (hn16 : n < 16) (hb : P (ra + 3 + 18 * p) n = some b) (x y z w : Int32) : RRel (b4 (up2 I (ra + 2 + 18 * p) 1 (nI (n + 1))) b x y z w) P ra (upd (bt4 s (wi p n) x y z w) (8 + 6 * p + 5) (nI (n + 1))) := by
  obtain ⟨c, hc, rfl⟩ := hS.bt hp hn16 hb
  have hwi := wi_lt (p := p) (k := n) hp (by omega)
  have h32 : 32 ≤ wi p n := by unfold wi; omega
  have hlo : ∀ j, j < 32 → bt4 s (wi p n) x y z w j = s j := fun j hj => bt4_ne _ _ _ _ (Or.inl (by omega))
  have hhi : ∀ j, 352 ≤ j → bt4 s (wi p n) x y z w j = s j := fun j hj => bt4_ne _ _ _ _ (Or.inr (by omega))
  refine ⟨fun p' hp' f' a b => ?_, fun p' hp' k hk hm b' hb' f hf => ?_, fun i hi => ?_, fun f a b c => ?_⟩
  · rw [b4_ne _ _ _ _ _ (by omega), pcv_upd _ _ (by decide) a b, up2_at]
    by_cases e : p' = p ∧ f' = fP 5
    · rw [if_pos e, if_pos ⟨by rw [e.1], e.2⟩]; rfl
    · rw [if_neg e, if_neg (fun z => e ⟨by omega, z.2⟩), h.1 p' hp' f' a b]
      exact (pcv_eq (fun w hw => hlo _ (by omega))).symm
  · obtain ⟨c', hc', rfl⟩ := hS.bt hp' hk hb'
    have hwk : 32 ≤ wi p' k := by unfold wi; omega
    rw [upd_ne _ (by omega)]
    by_cases e : p' = p ∧ k = n
    · obtain ⟨rfl, rfl⟩ := e
      rw [hb] at hb'
      rw [← Option.some.inj hb']
      obtain ⟨c0, c1, c2, c3⟩ := b4_at (up2 I (ra + 2 + 18 * p') 1 (nI (k + 1))) (ra + 4 + 18 * p' + c) x y z w
      obtain ⟨d0, d1, d2, d3⟩ := bt4_at s (wi p' k) x y z w
      rcases (show f = 0 ∨ f = 1 ∨ f = 2 ∨ f = 3 by omega) with rfl | rfl | rfl | rfl
      · rw [c0, d0]
      · rw [c1, d1]
      · rw [c2, d2]
      · rw [c3, d3]
    · have hne : ra + 4 + 18 * p' + c' ≠ ra + 4 + 18 * p + c := by
        intro q
        have hpp : p' = p := by omega
        subst hpp
        have : k = n := hS.2.2.2.2.2.1 p' hp' k n hk hn16 (by rw [hb', hb, q])
        exact e ⟨rfl, this⟩
      have hm2 : k < aMany s p' := by
        unfold aMany at hm hn ⊢
        rw [ro_upd _ _ (by decide) (by decide)] at hm
        by_cases q : p' = p
        · subst q
          rw [if_pos ⟨rfl, rfl⟩, nI_clamp (by omega)] at hm
          rw [hn]; have : ¬ k = n := fun z => e ⟨rfl, z⟩; omega
        · rw [if_neg (fun z => q z.1)] at hm
          rwa [show ro (bt4 s (wi p n) x y z w) p' 5 = ro s p' 5 from hlo _ (by omega)] at hm
      rw [b4_ne _ _ _ _ _ hne, up2_ne _ _ _ (by omega), bt4_ne _ _ _ _ (by unfold wi; omega)]
      exact h.b hp' hk hm2 hb' hf
  · rw [b4_ne _ _ _ _ _ (by omega), up2_ne _ _ _ (by omega)]
    unfold sn
    rw [upd_ne _ (by omega), upd_ne _ (by omega), upd_ne _ (by omega), upd_ne _ (by omega), hhi _ (by omega), hhi _ (by omega), hhi _ (by omega), hhi _ (by omega)]
    exact h.2.2.1 i hi
  · rw [b4_ne _ _ _ _ _ (by omega), up2_ne _ _ _ (by omega), h.2.2.2 f a b c]
    exact (rcv_eq (fun j hj _ => by rw [upd_ne _ (by omega), hlo _ (by omega)])).symm
theorem RRel.congr {t : Nat → Int32} (hS : RSh P ra) (h : RRel I P ra s) (e : ∀ j, j < 392 → t j = s j) : RRel I P ra t := by
  refine RRel.of hS h (fun p' hp' f' a b => ?_) (fun p' hp' k hk hm => ⟨?_, fun c hc f hf => rfl, fun f hf => ?_⟩) (fun i hi => ?_) (fun f a b c => ?_)
  · rw [h.1 p' hp' f' a b]
    exact (pcv_eq (fun w hw => e _ (by omega))).symm
  · rwa [aMany_eq (s := s) (e _ (by omega))] at hm
  · have := wi_lt (p := p') (k := k) hp' (by omega)
    exact e _ (by omega)
  · unfold sn
    rw [e _ (by omega), e _ (by omega), e _ (by omega), e _ (by omega)]
    exact h.2.2.1 i hi
  · rw [h.2.2.2 f a b c]
    exact (rcv_eq (fun j hj _ => e _ (by omega))).symm
/-- a race's cells hold the row t, all others are as in I; whose turn it was is kept -/
def St (I : fw_I) (P : fw_P) (ra : Nat) (t : Nat → Int32) (J : fw_I) : Prop := RRel J P ra t ∧ J ra 5 = I ra 5 ∧ ∀ b, (b < ra ∨ ra + 85 ≤ b) → J b = I b
theorem St.refl (h : RRel I P ra s) : St I P ra s I := ⟨h, rfl, fun _ _ => rfl⟩
theorem St.trans {J K : fw_I} {s t : Nat → Int32} (h : St I P ra s J) (h2 : St J P ra t K) : St I P ra t K := ⟨h2.1, h2.2.1.trans h.2.1, fun b hb => (h2.2.2 b hb).trans (h.2.2 b hb)⟩
theorem St.cg {J : fw_I} {s t : Nat → Int32} (hS : RSh P ra) (h : St I P ra s J) (e : ∀ j, j < 392 → t j = s j) : St I P ra t J := ⟨h.1.congr hS e, h.2⟩
theorem St.up {J : fw_I} {s t : Nat → Int32} {a f : Nat} {v : Int32} (h : St I P ra s J) (h2 : RRel (up2 J a f v) P ra t) (ha : ra ≤ a ∧ a < ra + 85) (hf : ¬ (a = ra ∧ f = 5)) : St I P ra t (up2 J a f v) :=
  ⟨h2, by rw [up2_at, if_neg (fun z => hf ⟨z.1.symm, z.2.symm⟩)]; exact h.2.1, fun b hb => by rw [up2_ne _ _ _ (by omega)]; exact h.2.2 b hb⟩
theorem St.ub4 {J : fw_I} {s t : Nat → Int32} {a : Nat} {x y z w : Int32} (h : St I P ra s J) (h2 : RRel (b4 J a x y z w) P ra t) (ha : ra < a ∧ a < ra + 85) : St I P ra t (b4 J a x y z w) :=
  ⟨h2, by rw [b4_ne _ _ _ _ _ (by omega)]; exact h.2.1, fun b hb => by rw [b4_ne _ _ _ _ _ (by omega)]; exact h.2.2 b hb⟩
theorem St.p2 {J : fw_I} (hS : RSh P ra) (h : St I P ra s J) {p : Nat} (hp : p < 4) (v : Int32) : St I P ra (upd s (8 + 6 * p + 0) v) (up2 J (ra + 2 + 18 * p) 2 v) := h.up (h.1.uro hS hp (w := 0) (by decide) v (fun z => absurd z (by decide))) (by omega) (by omega)
theorem St.p3 {J : fw_I} (hS : RSh P ra) (h : St I P ra s J) {p : Nat} (hp : p < 4) (v : Int32) : St I P ra (upd s (8 + 6 * p + 1) v) (up2 J (ra + 2 + 18 * p) 3 v) := h.up (h.1.uro hS hp (w := 1) (by decide) v (fun z => absurd z (by decide))) (by omega) (by omega)
theorem St.p5 {J : fw_I} (hS : RSh P ra) (h : St I P ra s J) {p : Nat} (hp : p < 4) (v : Int32) : St I P ra (upd s (8 + 6 * p + 3) v) (up2 J (ra + 2 + 18 * p) 5 v) := h.up (h.1.uro hS hp (w := 3) (by decide) v (fun z => absurd z (by decide))) (by omega) (by omega)
theorem St.p6 {J : fw_I} (hS : RSh P ra) (h : St I P ra s J) {p : Nat} (hp : p < 4) (v : Int32) : St I P ra (upd s (8 + 6 * p + 4) v) (up2 J (ra + 2 + 18 * p) 6 v) := h.up (h.1.uro hS hp (w := 4) (by decide) v (fun z => absurd z (by decide))) (by omega) (by omega)
theorem St.p4 {J : fw_I} (hS : RSh P ra) (h : St I P ra s J) {p : Nat} (hp : p < 4) {v : Int32} (hv : ¬ v = 0) : St I P ra (upd s (8 + 6 * p + 2) v) (up2 J (ra + 2 + 18 * p) 4 v) := by
  have := h.up (h.1.uro hS hp (w := 2) (by decide) v (fun z => absurd z (by decide))) (by omega) (by omega)
  rwa [show plv 2 v = v from if_neg hv] at this
theorem St.p1 {J : fw_I} (hS : RSh P ra) (h : St I P ra s J) {p : Nat} (hp : p < 4) {v : Int32} (hv : v.toNatClampNeg ≤ aMany s p) : St I P ra (upd s (8 + 6 * p + 5) v) (up2 J (ra + 2 + 18 * p) 1 v) := h.up (h.1.uro hS hp (w := 5) (by decide) v (fun _ => hv)) (by omega) (by omega)
theorem St.r6 {J : fw_I} (hS : RSh P ra) (h : St I P ra s J) (v : Int32) : St I P ra (upd s 0 v) (up2 J ra 6 v) := h.up (h.1.urc hS (j := 0) (by decide) (by decide) v) (by omega) (by omega)
theorem St.r8 {J : fw_I} (hS : RSh P ra) (h : St I P ra s J) (v : Int32) : St I P ra (upd s 2 v) (up2 J ra 8 v) := h.up (h.1.urc hS (j := 2) (by decide) (by decide) v) (by omega) (by omega)
theorem St.r9 {J : fw_I} (hS : RSh P ra) (h : St I P ra s J) (v : Int32) : St I P ra (upd s 3 v) (up2 J ra 9 v) := h.up (h.1.urc hS (j := 3) (by decide) (by decide) v) (by omega) (by omega)
theorem St.r7 {J : fw_I} (hS : RSh P ra) (h : St I P ra s J) (v : Int32) : St I P ra (upd s 4 v) (up2 J ra 7 v) := h.up (h.1.urc hS (j := 4) (by decide) (by decide) v) (by omega) (by omega)
theorem St.r2 {J : fw_I} (hS : RSh P ra) (h : St I P ra s J) (v : Int32) : St I P ra (upd s 5 v) (up2 J ra 2 v) := h.up (h.1.urc hS (j := 5) (by decide) (by decide) v) (by omega) (by omega)
theorem St.r3 {J : fw_I} (hS : RSh P ra) (h : St I P ra s J) (v : Int32) : St I P ra (upd s 6 v) (up2 J ra 3 v) := h.up (h.1.urc hS (j := 6) (by decide) (by decide) v) (by omega) (by omega)
theorem St.r4 {J : fw_I} (hS : RSh P ra) (h : St I P ra s J) (v : Int32) : St I P ra (upd s 7 v) (up2 J ra 4 v) := h.up (h.1.urc hS (j := 7) (by decide) (by decide) v) (by omega) (by omega)
theorem St.usn {J : fw_I} (hS : RSh P ra) (h : St I P ra s J) {i w : Nat} (hi : i < 10) (hw : w < 4) (v : Int32) (hv : w = 0 → ¬ v = 0 → ¬ sn s i 0 = 0) : St I P ra (upd s (352 + 4 * i + w) v) (up2 J (ra + 75 + i) w v) := h.up (h.1.usn hS hi hw v hv) (by omega) (by omega)
theorem St.usn4 {J : fw_I} (hS : RSh P ra) (h : St I P ra s J) {i : Nat} (hi : i < 10) (x y z w : Int32) : St I P ra (upd (upd (upd (upd s (352 + 4 * i + 0) x) (352 + 4 * i + 1) y) (352 + 4 * i + 2) z) (352 + 4 * i + 3) w) (b4 J (ra + 75 + i) x y z w) := h.ub4 (h.1.usn4 hS hi x y z w) (by omega)
end SETS
