variable {nT : Nat}
/-! more rows; the layout of the two objects' cells; kinds of ends -/
section FWM
variable {l : Launch} {g : fw_G} {k : fw_M} {T T' : fw_T} {mc ms : Nat} {Q : Option Value → fw_I → fw_P → Prop} {I : fw_I} {P : fw_P} {u w pc q : Nat} {L L' : List (Option Value)} {st : List Value}
theorem V_getr {ci kf idx a N b : Nat} {C : String} {Tt : u_T} {ty : Nat → FieldType} {r : Option Nat} (hc : fw_cl ci C Tt N ty) (hk : kf < N) (hl : Cond.fieldLink k.1.cls idx (Tt kf).1 (Tt kf).2.1 (Tt kf).2.2.1 ∈ fw_U) (hT : fw_at T a ci 0) (hv : (fw_fs g I P a ci)[kf]? = some (fw_rf g r)) (hr : r = some b) (hd : decode k.2.1 pc = .ok (.getfield idx, 3)) (hq : pc + 3 = q) (kk : V l g k T' mc ms Q T I P u w q L (.ref (g.1 + b) :: st)) : V l g k T' mc ms Q T I P u w pc L (.ref (g.1 + a) :: st) := by
  subst hr
  exact V_get hc hk hl hT hv hd hq kk
theorem V_aaldr {kd ce a n j b : Nat} {r : vw_C} {i : Int32} (he : fw_el kd ce r) (hT : fw_at T a kd n) (hi : fw_ix i j n) (hr : P a j = some b) (hd : decode k.2.1 pc = .ok (.aaload, 1)) (hq : pc + 1 = q) (kk : V l g k T' mc ms Q T I P u w q L (.ref (g.1 + b) :: st)) : V l g k T' mc ms Q T I P u w pc L (.int i :: .ref (g.1 + a) :: st) := by
  refine V_aald he hT hi hd hq ?_
  rw [hr]
  exact kk
theorem V_iinc1 {i : Nat} {x : Int32} (hl : L[i]? = some (some (.int x))) (hn : i < k.2.2.1) (hL' : L.set i (some (.int (x + 1))) = L') (hd : decode k.2.1 pc = .ok (.iinc i 1, 3)) (hq : pc + 3 = q) (kk : V l g k T' mc ms Q T I P u w q L' st) : V l g k T' mc ms Q T I P u w pc L st := V_iinc (n := 1) (v := x + 1) hl rfl hn hL' hd hq kk
theorem V_iincm {i : Nat} {x : Int32} (hl : L[i]? = some (some (.int x))) (hn : i < k.2.2.1) (hL' : L.set i (some (.int (x + -1))) = L') (hd : decode k.2.1 pc = .ok (.iinc i (-1), 3)) (hq : pc + 3 = q) (kk : V l g k T' mc ms Q T I P u w q L' st) : V l g k T' mc ms Q T I P u w pc L st := V_iinc (n := -1) (v := x + -1) hl (by rfl) hn hL' hd hq kk
/-- ends: an int and nothing changed; an int; nothing; a reference and nothing changed -/
def qI (f : Int32) (I : fw_I) (P : fw_P) : Option Value → fw_I → fw_P → Prop := fun v I1 P1 => v = some (.int f) ∧ I1 = I ∧ P1 = P
def qJ (post : Int32 → fw_I → fw_P → Prop) : Option Value → fw_I → fw_P → Prop := fun v I1 P1 => ∃ r : Int32, v = some (.int r) ∧ post r I1 P1
def qV (post : fw_I → fw_P → Prop) : Option Value → fw_I → fw_P → Prop := fun v I1 P1 => v = none ∧ post I1 P1
def qR (g : fw_G) (r : Option Nat) (I : fw_I) (P : fw_P) : Option Value → fw_I → fw_P → Prop := fun v I1 P1 => v = some (fw_rf g r) ∧ I1 = I ∧ P1 = P
def qS (g : fw_G) (post : Option Nat → fw_I → fw_P → Prop) : Option Value → fw_I → fw_P → Prop := fun v I1 P1 => ∃ r : Option Nat, v = some (fw_rf g r) ∧ post r I1 P1
theorem kI {f : Int32} (h : V l g k T' mc ms Q T I P u w q L (.int f :: st)) : ∀ (v : Option Value) (I1 : fw_I) (P1 : fw_P), qI f I P v I1 P1 → V l g k T' mc ms Q T I1 P1 u w q L (v.toList ++ st) := by
  rintro _ _ _ ⟨rfl, rfl, rfl⟩
  exact h
theorem kJ {post : Int32 → fw_I → fw_P → Prop} (h : ∀ (r : Int32) (I1 : fw_I) (P1 : fw_P), post r I1 P1 → V l g k T' mc ms Q T I1 P1 u w q L (.int r :: st)) : ∀ (v : Option Value) (I1 : fw_I) (P1 : fw_P), qJ post v I1 P1 → V l g k T' mc ms Q T I1 P1 u w q L (v.toList ++ st) := by
  rintro _ I1 P1 ⟨r, rfl, hp⟩
  exact h r I1 P1 hp
theorem kV {post : fw_I → fw_P → Prop} (h : ∀ (I1 : fw_I) (P1 : fw_P), post I1 P1 → V l g k T' mc ms Q T I1 P1 u w q L st) : ∀ (v : Option Value) (I1 : fw_I) (P1 : fw_P), qV post v I1 P1 → V l g k T' mc ms Q T I1 P1 u w q L (v.toList ++ st) := by
  rintro _ I1 P1 ⟨rfl, hp⟩
  exact h I1 P1 hp
theorem kR {r : Option Nat} (h : V l g k T' mc ms Q T I P u w q L (fw_rf g r :: st)) : ∀ (v : Option Value) (I1 : fw_I) (P1 : fw_P), qR g r I P v I1 P1 → V l g k T' mc ms Q T I1 P1 u w q L (v.toList ++ st) := by
  rintro _ _ _ ⟨rfl, rfl, rfl⟩
  exact h
theorem kS {post : Option Nat → fw_I → fw_P → Prop} (h : ∀ (r : Option Nat) (I1 : fw_I) (P1 : fw_P), post r I1 P1 → V l g k T' mc ms Q T I1 P1 u w q L (fw_rf g r :: st)) : ∀ (v : Option Value) (I1 : fw_I) (P1 : fw_P), qS g post v I1 P1 → V l g k T' mc ms Q T I1 P1 u w q L (v.toList ++ st) := by
  rintro _ I1 P1 ⟨r, rfl, hp⟩
  exact h r I1 P1 hp
theorem qI.of {f x : Int32} {I : fw_I} {P : fw_P} (h : x = f) : qI f I P (some (.int x)) I P := ⟨by rw [h], rfl, rfl⟩
end FWM
/-! the cells: 0 the class' object; races at 1, 86, 171 (race, trial, snapshot), the history at 256, its races at 258 + 85 i; script 683, 684; search 685 to 687; the reference's object at 688, its arrays 689 to 696 -/
def tt_p (x : Nat) : Nat × Nat := if x = 0 then (2, 0) else if x = 1 then (13, 16) else (0, 0)
def tt_r (x : Nat) : Nat × Nat := if x = 0 then (3, 0) else if x = 1 then (12, 4) else if x < 74 then tt_p ((x - 2) % 18) else if x = 74 then (14, 10) else (6, 0)
def tt (a : Nat) : Nat × Nat :=
  if a = 0 then (7, 0) else if a < 256 then tt_r ((a - 1) % 85) else if a = 256 then (1, 0) else if a = 257 then (11, 5) else if a < 683 then tt_r ((a - 258) % 85)
  else if a = 683 then (4, 0) else if a = 684 then (9, 60) else if a = 685 then (5, 0) else if a = 686 then (9, 61) else if a = 687 then (9, 61)
  else (9, 4)
def T0 (n : Nat) : fw_T := (688 + n, tt)
theorem at_mk {nT a c n : Nat} (h : a < 688 ∧ tt a = (c, n)) : fw_at (T0 nT) a c n := ⟨by have := h.1; show a < 688 + nT; omega, h.2⟩
def isRc (ra : Nat) : Prop := ra ∈ [1, 86, 171, 258, 343, 428, 513, 598]
theorem isRc.cases {p : Nat → Prop} {ra : Nat} (h : isRc ra) (h0 : ∀ x ∈ [1, 86, 171, 258, 343, 428, 513, 598], p x) : p ra := h0 ra h
theorem at_race {nT : Nat} {ra : Nat} (h : isRc ra) : fw_at (T0 nT) ra 3 0 := at_mk (h.cases (p := fun ra => (ra < 688 ∧ tt (ra) = (3, 0))) (by decide +kernel))
theorem at_pieces {nT : Nat} {ra : Nat} (h : isRc ra) : fw_at (T0 nT) (ra + 1) 12 4 := at_mk (h.cases (p := fun ra => ((ra + 1) < 688 ∧ tt ((ra + 1)) = (12, 4))) (by decide +kernel))
theorem at_piece {nT : Nat} {ra p : Nat} (h : isRc ra) (hp : p < 4) : fw_at (T0 nT) (ra + 2 + 18 * p) 2 0 := at_mk (h.cases (p := fun ra => ∀ p, p < 4 → ((ra + 2 + 18 * p) < 688 ∧ tt ((ra + 2 + 18 * p)) = (2, 0))) (by decide +kernel) p hp)
theorem at_bites {nT : Nat} {ra p : Nat} (h : isRc ra) (hp : p < 4) : fw_at (T0 nT) (ra + 3 + 18 * p) 13 16 := at_mk (h.cases (p := fun ra => ∀ p, p < 4 → ((ra + 3 + 18 * p) < 688 ∧ tt ((ra + 3 + 18 * p)) = (13, 16))) (by decide +kernel) p hp)
theorem at_bite {nT : Nat} {ra p b : Nat} (h : isRc ra) (hp : p < 4) (hb : b < 16) : fw_at (T0 nT) (ra + 4 + 18 * p + b) 0 0 := at_mk (h.cases (p := fun ra => ∀ p, p < 4 → ∀ b, b < 16 → ((ra + 4 + 18 * p + b) < 688 ∧ tt ((ra + 4 + 18 * p + b)) = (0, 0))) (by decide +kernel) p hp b hb)
theorem at_snakes {nT : Nat} {ra : Nat} (h : isRc ra) : fw_at (T0 nT) (ra + 74) 14 10 := at_mk (h.cases (p := fun ra => ((ra + 74) < 688 ∧ tt ((ra + 74)) = (14, 10))) (by decide +kernel))
theorem at_snake {nT : Nat} {ra i : Nat} (h : isRc ra) (hi : i < 10) : fw_at (T0 nT) (ra + 75 + i) 6 0 := at_mk (h.cases (p := fun ra => ∀ i, i < 10 → ((ra + 75 + i) < 688 ∧ tt ((ra + 75 + i)) = (6, 0))) (by decide +kernel) i hi)
theorem at_0 {nT : Nat} : fw_at (T0 nT) 0 7 0 := at_mk (by decide +kernel)
theorem at_256 {nT : Nat} : fw_at (T0 nT) 256 1 0 := at_mk (by decide +kernel)
theorem at_257 {nT : Nat} : fw_at (T0 nT) 257 11 5 := at_mk (by decide +kernel)
theorem at_683 {nT : Nat} : fw_at (T0 nT) 683 4 0 := at_mk (by decide +kernel)
theorem at_684 {nT : Nat} : fw_at (T0 nT) 684 9 60 := at_mk (by decide +kernel)
theorem at_685 {nT : Nat} : fw_at (T0 nT) 685 5 0 := at_mk (by decide +kernel)
theorem at_686 {nT : Nat} : fw_at (T0 nT) 686 9 61 := at_mk (by decide +kernel)
theorem at_687 {nT : Nat} : fw_at (T0 nT) 687 9 61 := at_mk (by decide +kernel)
/-! numbers -/
theorem nI_mul (a b : Nat) : nI a * nI b = nI (a * b) := (Int32.ofNat_mul a b).symm
theorem nI_sub {a b : Nat} (h : b ≤ a) : nI a - nI b = nI (a - b) := by
  have h1 : nI (a - b) + nI b = nI a := by rw [nI_add, Nat.sub_add_cancel h]
  rw [← h1, Int32.add_sub_cancel]
def bI (p : Prop) [Decidable p] : Int32 := if p then 1 else 0
theorem bI_t {p : Prop} [Decidable p] (h : p) : bI p = 1 := if_pos h
theorem bI_f {p : Prop} [Decidable p] (h : ¬ p) : bI p = 0 := if_neg h
theorem bI_cases (p : Prop) [Decidable p] : (p ∧ bI p = 1) ∨ (¬ p ∧ bI p = 0) := by
  by_cases h : p
  · exact Or.inl ⟨h, bI_t h⟩
  · exact Or.inr ⟨h, bI_f h⟩
theorem bI_nz {p : Prop} [Decidable p] (h : ¬ bI p = 0) : p := by
  by_cases hp : p
  · exact hp
  · exact absurd (bI_f hp) h
theorem bI_z {p : Prop} [Decidable p] (h : bI p = 0) : ¬ p := by
  intro hp
  rw [bI_t hp] at h
  cases h
theorem bI_narrow (p : Prop) [Decidable p] : narrow .boolean (.int (bI p)) = .int (bI p) := by
  by_cases h : p
  · rw [bI_t h]; rfl
  · rw [bI_f h]; rfl
theorem bI_congr {p q : Prop} [Decidable p] [Decidable q] (h : p ↔ q) : bI p = bI q := by
  by_cases hp : p
  · rw [bI_t hp, bI_t (h.mp hp)]
  · rw [bI_f hp, bI_f (fun hq => hp (h.mpr hq))]
theorem i32_le {a b : Int32} : a ≤ b ↔ a.toInt ≤ b.toInt := Int32.le_iff_toInt_le
theorem i32_lt {a b : Int32} : a < b ↔ a.toInt < b.toInt := Int32.lt_iff_toInt_lt
