variable {nT : Nat}
/-! the class and the reference side by side -/
theorem Mv.congr {I : fw_I} {ra : Nat} {s t : Nat → Int32} (h : Mv I ra s) (e4 : t 4 = s 4) (e1 : t 1 = s 1) : Mv I ra t := by
  unfold Mv at h ⊢
  rw [e4, e1]
  exact h
theorem CRel.congr {I J : fw_I} {P : fw_P} {s s' : Nat → Int32} {k : Nat} {h h' : Nat → Nat → Int32} {tk : Bool} {sp sp' : Nat → Int32} {len : Nat} {tx tx' : Nat → Int32} (hS : CSh P) (hC : CRel I P s k h tk sp len tx) (eI : ∀ b, b < 688 → J b = I b) (es : ∀ j, j < 392 → s' j = s j) (eh : ∀ i, i < k → ∀ j, j < 392 → h' i j = h i j) (esp : tk = true → ∀ j, j < 392 → sp' j = sp j) (et : ∀ j, j < len → tx' j = tx j) : CRel J P s' k h' tk sp' len tx' := by
  obtain ⟨a1, ⟨b1, b2, b3⟩, ⟨c1, c2⟩, d1, d2, d3⟩ := hC
  have mv : ∀ {ra : Nat} {s t : Nat → Int32}, isRc ra → RRel I P ra s ∧ Mv I ra s → (∀ j, j < 392 → t j = s j) → RRel J P ra t ∧ Mv J ra t := fun {ra s t} hr hh e => by
    have hl := hr.lt
    exact RM (hS.r hr) ⟨RRel.congr (hS.r hr) hh.1 e, hh.2.congr (e 4 (by decide)) (e 1 (by decide))⟩ (fun b x y => ⟨eI b (by omega), rfl⟩)
  refine ⟨mv isRc_1 a1 es, ⟨by rw [eI 256 (by decide)]; exact b1, b2, fun i hi r hr => ?_⟩, ⟨by rw [eI 0 (by decide)]; exact c1, fun t => mv isRc_171 (c2 t) (esp t)⟩, by rw [eI 683 (by decide)]; exact d1, d2, fun j hj => by rw [eI 684 (by decide), et j hj]; exact d3 j hj⟩
  obtain ⟨c, hc, e⟩ := hS.2.2.1 i (by omega)
  have hb := b3 i hi r hr
  rw [hr] at e
  obtain rfl := Option.some.inj e
  exact mv (isRc_h hc) hb (eh i hi)
theorem Inv.mono {B B' : Nat} {s : Nat → Int32} (h : Inv B s) (h1 : B ≤ B') (h2 : B' < 1000000) : Inv B' s := ⟨by have := h.1; omega, h2, h.2.2.1, h.2.2.2.1, fun i hi => (h.2.2.2.2.1 i hi).mono h1, h.2.2.2.2.2⟩
theorem mSc.rf (I : fw_I) : mSc I I := ⟨fun _ _ _ => rfl, fun _ _ _ _ => rfl⟩
theorem MU.s {I0 : fw_I} {k : Nat} {ok : Prop} {F : Nat → Int32} {I2 : fw_I} (h : MU I0 k ok F I2) : MUs I0 k ok F I2 := by
  rcases h with ⟨a, I1, b, c⟩ | ⟨a, c⟩
  · exact Or.inl ⟨a, I1, b, by rw [c]; exact mSc.rf _⟩
  · exact Or.inr ⟨a, by rw [c]; exact mSc.rf _⟩
