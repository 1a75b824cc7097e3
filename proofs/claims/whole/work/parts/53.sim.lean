/-! the class and the reference side by side -/
theorem Mv.congr {I : fw_I} {ra : Nat} {s t : Nat → Int32} (h : Mv I ra s) (e4 : t 4 = s 4) (e1 : t 1 = s 1) : Mv I ra t := by
  unfold Mv at h ⊢
  rw [e4, e1]
  exact h
theorem CRel.congr {I J : fw_I} {P : fw_P} {s s' : Nat → Int32} {k : Nat} {h h' : Nat → Nat → Int32} {tk : Bool} {sp sp' : Nat → Int32} {len : Nat} {tx tx' : Nat → Int32} (hS : CSh P) (hC : CRel I P s k h tk sp len tx) (eI : ∀ b, b < 688 → J b = I b) (es : ∀ j, j < 392 → s' j = s j) (eh : ∀ i, i < k → ∀ j, j < 392 → h' i j = h i j) (esp : tk = true → ∀ j, j < 392 → sp' j = sp j) (et : ∀ j, j < len → tx' j = tx j) : CRel J P s' k h' tk sp' len tx' := by
  obtain ⟨a1, ⟨b1, b2, b3⟩, ⟨c1, c2⟩, d1, d2, d3⟩ := hC
  have mv : ∀ {ra : Nat} {s t : Nat → Int32}, isRc ra → RRel I P ra s ∧ Mv I ra s → (∀ j, j < 392 → t j = s j) → RRel J P ra t ∧ Mv J ra t := fun {ra s t} hr hh e => by
    have hl := hr.lt
    exact RM (hS.r hr) ⟨RRel.congr (hS.r hr) hh.1 e, hh.2.congr (e 4 (by decide)) (e 1 (by decide))⟩ (fun b x y => ⟨eI b (by omega), rfl⟩)
  refine ⟨mv isRc_1 a1 es, ⟨by rw [eI 256 (by decide)]; exact b1, b2, fun i hi r hr => ?_⟩, ⟨by rw [eI 0 (by decide)]; exact c1, fun t => mv isRc_171 (c2 t) (esp t)⟩, by rw [eI 683 (by decide)]; exact d1, d2, fun j hj => by rw [eI 684 (by decide), et j hj]; exact d3 j hj⟩
  obtain ⟨c, hc, e⟩ := hS.2.2.1 i (by omega)
  have hb := b3 i hi r hr
  rw [hr] at e
  obtain rfl := Option.some.inj e
  exact mv (isRc_h hc) hb (eh i hi)
theorem Inv.mono {B B' : Nat} {s : Nat → Int32} (h : Inv B s) (h1 : B ≤ B') (h2 : B' < 1000000) : Inv B' s := ⟨by have := h.1; omega, h2, h.2.2.1, h.2.2.2.1, fun i hi => (h.2.2.2.2.1 i hi).mono h1, h.2.2.2.2.2⟩
def Sim (I : fw_I) (P : fw_P) (k : Nat) (tk : Bool) (len B : Nat) : Prop :=
  MSh P ∧ CSh P ∧ CRel I P (I 689) k (hrow I) tk (I 691) len (I 693) ∧ (I 688 2 = nI k ∧ I 688 4 = (if tk then 1 else 0) ∧ I 688 7 = nI len) ∧ Inv B (I 689) ∧ (∀ i, i < k → Inv B (hrow I i)) ∧ (tk = true → Inv B (I 691))
def Sm (I : fw_I) (P : fw_P) (B : Nat) : Prop := ∃ k tk len, Sim I P k tk len B
theorem Sim.put {J0 J : fw_I} {P : fw_P} {s : Nat → Int32} {k : Nat} {h : Nat → Nat → Int32} {tk : Bool} {sp : Nat → Int32} {len : Nat} {tx : Nat → Int32} {B : Nat} (hM : MSh P) (hS : CSh P) (hC : CRel J0 P s k h tk sp len tx) (eI : ∀ b, b < 688 → J b = J0 b) (es : ∀ j, j < 392 → J 689 j = s j) (eh : ∀ i, i < k → ∀ j, j < 392 → hrow J i j = h i j) (esp : tk = true → ∀ j, j < 392 → J 691 j = sp j) (et : ∀ j, j < len → J 693 j = tx j)
    (e2 : J 688 2 = nI k) (e4 : J 688 4 = (if tk then 1 else 0)) (e7 : J 688 7 = nI len) (i1 : Inv B s) (i2 : ∀ i, i < k → Inv B (h i)) (i3 : tk = true → Inv B sp) : Sm J P B :=
  ⟨k, tk, len, hM, hS, hC.congr hS eI es eh esp et, ⟨e2, e4, e7⟩, Inv_congr i1 es, fun i hi => Inv_congr (i2 i hi) (eh i hi), fun t => Inv_congr (i3 t) (esp t)⟩
theorem Sm.mono {I : fw_I} {P : fw_P} {B B' : Nat} (h : Sm I P B) (h1 : B ≤ B') (h2 : B' < 1000000) : Sm I P B' := by
  obtain ⟨k, tk, len, a, b, c, d, e, f, g⟩ := h
  exact ⟨k, tk, len, a, b, c, d, e.mono h1 h2, fun i hi => (f i hi).mono h1 h2, fun t => (g t).mono h1 h2⟩
theorem MSh.ff {I J : fw_I} {P Q : fw_P} (h : MSh P) (hF : Ff I P J Q) : MSh Q := by
  unfold MSh at h ⊢
  rw [(hF 688 (by decide)).2]
  exact h
theorem mSc.rf (I : fw_I) : mSc I I := ⟨fun _ _ _ => rfl, fun _ _ _ _ => rfl⟩
theorem Sm.sc {I J : fw_I} {P : fw_P} {B : Nat} (h : Sm I P B) (hm : mSc I J) : Sm J P B := by
  obtain ⟨k, tk, len, a, b, c, ⟨d1, d2, d3⟩, e, f, g⟩ := h
  exact Sim.put a b c (fun b hb => hm.1 b (by omega) (by omega)) (fun j _ => by rw [hm.1 689 (by decide) (by decide)]) (fun i _ j _ => by unfold hrow; rw [hm.1 690 (by decide) (by decide)]) (fun _ j _ => by rw [hm.1 691 (by decide) (by decide)]) (fun j _ => by rw [hm.1 693 (by decide) (by decide)]) (by rw [hm.2 2 (by decide) (by decide) (by decide)]; exact d1) (by rw [hm.2 4 (by decide) (by decide) (by decide)]; exact d2) (by rw [hm.2 7 (by decide) (by decide) (by decide)]; exact d3) e f g
/-- one call of both: the same answer, and side by side again -/
def Pr (l : Launch) (g : fw_G) (k7 k8 : fw_M) (As : List Value) (I : fw_I) (P : fw_P) (B : Nat) : Prop :=
  ∃ (f : Int32) (M : fw_I → fw_P → Prop), Sp l g k7 T0 (.ref (g.1 + 0) :: As) I P T0 0 0 (qJ (fun r I1 P1 => r = f ∧ M I1 P1)) ∧ ∀ I1 P1, M I1 P1 → Sp l g k8 T0 (.ref (g.1 + 688) :: As) I1 P1 T0 0 0 (qJ (fun r I2 P2 => r = f ∧ Sm I2 P2 (B + 9)))
theorem Pr.ro {l : Launch} {g : fw_G} {k7 k8 : fw_M} {As : List Value} {I : fw_I} {P : fw_P} {B : Nat} {f f' : Int32} (hs : Sm I P B) (hB : B + 9 < 1000000) (h7 : Sp l g k7 T0 (.ref (g.1 + 0) :: As) I P T0 0 0 (qI f I P)) (h8 : Sp l g k8 T0 (.ref (g.1 + 688) :: As) (wr I 689 (I 689)) P T0 0 0 (qI f' (wr I 689 (I 689)) P)) (hf : f' = f) : Pr l g k7 k8 As I P B := by
  subst hf
  rw [wr_self] at h8
  refine ⟨f', fun I1 P1 => I1 = I ∧ P1 = P, h7.imp (fun v I1 P1 ⟨a, b, c⟩ => ⟨f', a, rfl, b, c⟩), ?_⟩
  rintro I1 P1 ⟨rfl, rfl⟩
  exact h8.imp (fun v I2 P2 ⟨a, b, c⟩ => ⟨f', a, rfl, by rw [b, c]; exact hs.mono (by omega) hB⟩)
theorem Pr.mus {l : Launch} {g : fw_G} {k7 k8 : fw_M} {As : List Value} {I : fw_I} {P : fw_P} {B k len : Nat} {tk : Bool} {f : Int32} {ok : Prop} {F : Nat → Int32} (hs : Sim I P k tk len B) (hB : B + 9 < 1000000)
    (h7 : Sp l g k7 T0 (.ref (g.1 + 0) :: As) I P T0 0 0 (qJ (fun r I1 P1 => r = f ∧ CM I P (I 689) k (hrow I) tk (I 691) len (I 693) ok F I1 P1)))
    (h8 : ∀ I1 P1, MSh P1 → I1 688 = I 688 → I1 689 = I 689 → I1 693 = I 693 → Sp l g k8 T0 (.ref (g.1 + 688) :: As) I1 P1 T0 0 0 (qJ (fun r I2 P2 => r = f ∧ P2 = P1 ∧ ∃ I0, mSc I1 I0 ∧ MUs I0 k ok F I2)))
    (hI : ok → Inv (B + 9) F) : Pr l g k7 k8 As I P B := by
  obtain ⟨hM, hS, hC, ⟨e2, e4, e7⟩, i1, i2, i3⟩ := hs
  refine ⟨f, fun I1 P1 => CM I P (I 689) k (hrow I) tk (I 691) len (I 693) ok F I1 P1, h7, fun I1 P1 hcm => ?_⟩
  obtain ⟨hS1, hc, hF⟩ := hcm
  have c688 := (hF 688 (by decide)).1
  have c689 := (hF 689 (by decide)).1
  have c690 := (hF 690 (by decide)).1
  have c691 := (hF 691 (by decide)).1
  have c693 := (hF 693 (by decide)).1
  have hM1 := hM.ff hF
  refine (h8 I1 P1 hM1 c688 c689 c693).imp (fun v I2 P2 ⟨r, a, b, c, I0, m0, d⟩ => ⟨r, a, b, ?_⟩)
  subst c
  have m689 : I0 689 = I 689 := (m0.1 689 (by decide) (by decide)).trans c689
  have m690 : hrow I0 = hrow I := by funext i j; unfold hrow; rw [m0.1 690 (by decide) (by decide), c690]
  have m691 : I0 691 = I 691 := (m0.1 691 (by decide) (by decide)).trans c691
  have m693 : I0 693 = I 693 := (m0.1 693 (by decide) (by decide)).trans c693
  have m688 : ∀ f, f ≠ 8 → f ≠ 9 → f ≠ 11 → I0 688 f = I 688 f := fun f f1 f2 f3 => (m0.2 f f1 f2 f3).trans (by rw [c688])
  rcases d with ⟨ho, Ix, hr, mx⟩ | ⟨ho, mx⟩
  · rcases hc with ⟨-, hc⟩ | ⟨hn, -⟩
    · have w : ∀ a, a ≠ 688 → a ≠ 694 → a ≠ 689 → I2 a = Ix a := fun a a1 a2 a3 => (mx.1 a a1 a2).trans (wr_ne _ _ a3)
      have hx : ∀ a, a ≠ 688 → a ≠ 690 → Ix a = I0 a := hr.1
      refine Sim.put hM1 hS1 hc (fun b hb => by rw [w b (by omega) (by omega) (by omega), hx b (by omega) (by omega), m0.1 b (by omega) (by omega)]) (fun j _ => by rw [mx.1 689 (by decide) (by decide), wr_at]) (fun i hi j hj => ?_) (fun _ j _ => by rw [w 691 (by decide) (by decide) (by decide), hx 691 (by decide) (by decide), m691]) (fun j _ => by rw [w 693 (by decide) (by decide) (by decide), hx 693 (by decide) (by decide), m693]) ?_ ?_ ?_ (hI ho) (fun i hi => ?_) (fun t => (i3 t).mono (by omega) hB)
      · have := hr.2.2.2 i j hi hj
        rw [m690, m689] at this
        rw [← this]
        unfold hrow
        rw [w 690 (by decide) (by decide) (by decide)]
      · rw [mx.2 2 (by decide) (by decide) (by decide), wr_ne _ _ (by decide)]; exact hr.2.2.1
      · rw [mx.2 4 (by decide) (by decide) (by decide), wr_ne _ _ (by decide), hr.2.1 4 (by decide), m688 4 (by decide) (by decide) (by decide)]; exact e4
      · rw [mx.2 7 (by decide) (by decide) (by decide), wr_ne _ _ (by decide), hr.2.1 7 (by decide), m688 7 (by decide) (by decide) (by decide)]; exact e7
      · unfold rH
        by_cases q : i + 1 = rK k
        · rw [if_pos q]; exact i1.mono (by omega) hB
        · rw [if_neg q]
          unfold rK at hi q
          by_cases q5 : k = 5
          · rw [if_pos q5] at hi q ⊢
            exact (i2 (i + 1) (by omega)).mono (by omega) hB
          · rw [if_neg q5] at hi q ⊢
            exact (i2 i (by omega)).mono (by omega) hB
    · exact absurd ho hn
  · rcases hc with ⟨hn, -⟩ | ⟨-, hc⟩
    · exact absurd hn ho
    · have w : ∀ a, a ≠ 688 → a ≠ 694 → I2 a = I0 a := mx.1
      refine Sim.put hM1 hS1 hc (fun b hb => by rw [w b (by omega) (by omega), m0.1 b (by omega) (by omega)]) (fun j _ => by rw [w 689 (by decide) (by decide), m689]) (fun i hi j hj => ?_) (fun _ j _ => by rw [w 691 (by decide) (by decide), m691]) (fun j _ => by rw [w 693 (by decide) (by decide), m693]) ?_ ?_ ?_ (i1.mono (by omega) hB) (fun i hi => (i2 i hi).mono (by omega) hB) (fun t => (i3 t).mono (by omega) hB)
      · rw [← m690]; unfold hrow; rw [w 690 (by decide) (by decide)]
      · rw [mx.2 2 (by decide) (by decide) (by decide), m688 2 (by decide) (by decide) (by decide)]; exact e2
      · rw [mx.2 4 (by decide) (by decide) (by decide), m688 4 (by decide) (by decide) (by decide)]; exact e4
      · rw [mx.2 7 (by decide) (by decide) (by decide), m688 7 (by decide) (by decide) (by decide)]; exact e7
theorem MU.s {I0 : fw_I} {k : Nat} {ok : Prop} {F : Nat → Int32} {I2 : fw_I} (h : MU I0 k ok F I2) : MUs I0 k ok F I2 := by
  rcases h with ⟨a, I1, b, c⟩ | ⟨a, c⟩
  · exact Or.inl ⟨a, I1, b, by rw [c]; exact mSc.rf _⟩
  · exact Or.inr ⟨a, by rw [c]; exact mSc.rf _⟩
theorem Pr.mu {l : Launch} {g : fw_G} {k7 k8 : fw_M} {As : List Value} {I : fw_I} {P : fw_P} {B k len : Nat} {tk : Bool} {f : Int32} {ok : Prop} {F : Nat → Int32} (hs : Sim I P k tk len B) (hB : B + 9 < 1000000)
    (h7 : Sp l g k7 T0 (.ref (g.1 + 0) :: As) I P T0 0 0 (qJ (fun r I1 P1 => r = f ∧ CM I P (I 689) k (hrow I) tk (I 691) len (I 693) ok F I1 P1)))
    (h8 : ∀ I1 P1, MSh P1 → I1 688 2 = nI k → Sp l g k8 T0 (.ref (g.1 + 688) :: As) (wr I1 689 (I 689)) P1 T0 0 0 (qJ (fun r I2 P2 => r = f ∧ P2 = P1 ∧ MU (wr I1 689 (I 689)) k ok F I2)))
    (hI : ok → Inv (B + 9) F) : Pr l g k7 k8 As I P B :=
  Pr.mus hs hB h7 (fun I1 P1 a b c _ => by
    have h := h8 I1 P1 a (by rw [b]; exact hs.2.2.2.1.1)
    rw [← c, wr_self] at h
    exact h.imp (fun v I2 P2 ⟨r, x, y, z, w⟩ => ⟨r, x, y, z, I1, mSc.rf I1, w.s⟩)) hI
