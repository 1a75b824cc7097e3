variable {nT : Nat}
/-! the law from its entry -/
theorem CSh.fr {P Q : fw_P} (h : CSh P) (e : ∀ b, b < 688 → Q b = P b) : CSh Q := by
  obtain ⟨h1, h2, h3, h4, h5⟩ := h
  have e0 := e 0 (by decide)
  have e1 := e 256 (by decide)
  have e2 := e 257 (by decide)
  have e3 := e 683 (by decide)
  have e4 := e 685 (by decide)
  exact ⟨fun ra hr => (h1 ra hr).frame (fun b x y => e b (by have := hr.lt; omega)), by rw [e1]; exact h2, by rw [e2]; exact h3, by rw [e2]; exact h4, by rw [e0, e3, e4]; exact h5⟩
theorem CRel.fr {I J : fw_I} {P Q : fw_P} {s : Nat → Int32} {k : Nat} {h : Nat → Nat → Int32} {tk : Bool} {sp : Nat → Int32} {len : Nat} {tx : Nat → Int32} (hS : CSh P) (hC : CRel I P s k h tk sp len tx) (e : ∀ b, b < 688 → J b = I b ∧ Q b = P b) : CRel J Q s k h tk sp len tx := by
  obtain ⟨a1, ⟨b1, b2, b3⟩, ⟨c1, c2⟩, d1, d2, d3⟩ := hC
  refine ⟨RM (hS.r isRc_1) a1 (fun b x y => e b (by omega)), ⟨by rw [(e 256 (by decide)).1]; exact b1, b2, fun i hi r hr => ?_⟩, ⟨by rw [(e 0 (by decide)).1]; exact c1, fun t => RM (hS.r isRc_171) (c2 t) (fun b x y => e b (by omega))⟩, by rw [(e 683 (by decide)).1]; exact d1, d2, by rw [(e 684 (by decide)).1]; exact d3⟩
  rw [(e 257 (by decide)).2] at hr
  obtain ⟨c, hc, e'⟩ := hS.2.2.1 i (by omega)
  have hb := b3 i hi r hr
  rw [hr] at e'
  obtain rfl := Option.some.inj e'
  exact RM (hS.r (isRc_h hc)) hb (fun b x y => e b (by have := (isRc_h hc).lt; omega))
