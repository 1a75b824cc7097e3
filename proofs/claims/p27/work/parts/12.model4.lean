variable {nT : Nat}
theorem V_forget {l : Launch} {g : fw_G} {k : fw_M} {T T' : fw_T} {mc ms : Nat} {Q : Option Value → fw_I → fw_P → Prop} {I : fw_I} {P : fw_P} {u w pc : Nat} {L L' : List (Option Value)} {st : List Value} (i : Nat) (h : L.set i none = L') (kk : V l g k T' mc ms Q T I P u w pc L' st) : V l g k T' mc ms Q T I P u w pc L st := by
  subst h
  intro p e s m args below meth c H locs ls hC hK hR hS hL
  refine kk p e s m args below meth c H locs ls hC hK hR hS ⟨hL.1, hL.2.1, fun j v hj => ?_⟩
  by_cases hji : j = i
  · subst hji
    have hlt : j < L.length := by
      have := (List.getElem?_eq_some_iff.mp hj).1
      rwa [List.length_set] at this
    rw [List.getElem?_set_self hlt] at hj
    cases hj
  · rw [List.getElem?_set_ne (fun q => hji q.symm)] at hj
    exact hL.2.2 j v hj
/-- a copy of n places -/
def cpF (src dst : Nat → Int32) (f t n : Nat) : Nat → Int32 := fun x => if t ≤ x ∧ x < t + n then src (f + (x - t)) else dst x
theorem cpF_0 (src dst : Nat → Int32) (f t : Nat) : cpF src dst f t 0 = dst := by
  funext x
  unfold cpF
  rw [if_neg (by omega)]
theorem cpF_succ (src dst : Nat → Int32) (f t n : Nat) : upd (cpF src dst f t n) (t + n) (src (f + n)) = cpF src dst f t (n + 1) := by
  funext x
  unfold cpF
  rw [upd_at]
  by_cases h : x = t + n
  · subst h
    rw [if_pos rfl, if_pos (by omega), Nat.add_sub_cancel_left]
  · rw [if_neg h]
    by_cases h2 : t ≤ x ∧ x < t + n
    · rw [if_pos h2, if_pos (by omega)]
    · rw [if_neg h2, if_neg (by omega)]
/-- a shift by 392 -/
def shF (h : Nat → Int32) (n : Nat) : Nat → Int32 := fun x => if x < n then h (392 + x) else h x
theorem shF_0 (h : Nat → Int32) : shF h 0 = h := by
  funext x
  unfold shF
  rw [if_neg (by omega)]
theorem shF_succ (h : Nat → Int32) (n : Nat) : upd (shF h n) n (shF h n (392 + n)) = shF h (n + 1) := by
  funext x
  unfold shF
  rw [upd_at]
  by_cases hx : x = n
  · subst hx
    rw [if_pos rfl, if_neg (by omega), if_pos (by omega)]
  · rw [if_neg hx]
    by_cases h2 : x < n
    · rw [if_pos h2, if_pos (by omega)]
    · rw [if_neg h2, if_neg (by omega)]
def rK (k : Nat) : Nat := if k = 5 then 5 else k + 1
def hrow (I : fw_I) (i : Nat) : Nat → Int32 := fun j => I 690 (392 * i + j)
def rH (k : Nat) (h : Nat → Nat → Int32) (s : Nat → Int32) : Nat → Nat → Int32 := fun i => if i + 1 = rK k then s else if k = 5 then h (i + 1) else h i
/-- what recording does to the reference's cells -/
def RecP (I I1 : fw_I) (k : Nat) : Prop := (∀ a, a ≠ 688 → a ≠ 690 → I1 a = I a) ∧ (∀ f, f ≠ 2 → I1 688 f = I 688 f) ∧ I1 688 2 = nI (rK k) ∧ ∀ i j, i < rK k → j < 392 → hrow I1 i j = rH k (hrow I) (I 689) i j
theorem nI_inj {a b : Nat} (ha : a < 2 ^ 31) (hb : b < 2 ^ 31) (h : nI a = nI b) : a = b := (nI_eq ha hb).mp h
theorem rec_lo {I : fw_I} {k : Nat} (hk : k < 5) : RecP I (up2 (wr I 690 (cpF (I 689) (I 690) 0 (392 * k) 392)) 688 2 (nI k + 1)) k := by
  have hr : rK k = k + 1 := if_neg (by omega)
  refine ⟨fun a h1 h2 => by rw [up2_ne _ _ _ h1, wr_ne _ _ h2], fun f hf => by rw [up2_at, if_neg (fun h => hf h.2)]; exact congrFun (wr_ne _ _ (by decide)) f, by rw [up2_same, hr, nI_1], fun i j hi hj => ?_⟩
  rw [hr] at hi
  unfold hrow rH
  rw [up2_ne _ _ _ (by decide), wr_at, hr]
  unfold cpF
  by_cases hik : i = k
  · subst hik
    rw [if_pos (by omega), if_pos rfl]
    exact congrArg (I 689) (by omega)
  · rw [if_neg (by omega), if_neg (by omega), if_neg (by omega)]
theorem rec_hi {I : fw_I} : RecP I (up2 (wr (up2 (wr I 690 (shF (I 690) 1568)) 688 2 (nI 4)) 690 (cpF (up2 (wr I 690 (shF (I 690) 1568)) 688 2 (nI 4) 689) (up2 (wr I 690 (shF (I 690) 1568)) 688 2 (nI 4) 690) 0 (392 * 4) 392)) 688 2 (nI 4 + 1)) 5 := by
  refine ⟨fun a h1 h2 => by rw [up2_ne _ _ _ h1, wr_ne _ _ h2, up2_ne _ _ _ h1, wr_ne _ _ h2], fun f hf => by rw [up2_at, if_neg (fun h => hf h.2), wr_ne _ _ (by decide), up2_at, if_neg (fun h => hf h.2)]; exact congrFun (wr_ne _ _ (by decide)) f, by rw [up2_same, nI_1]; rfl, fun i j hi hj => ?_⟩
  have hi5 : i < 5 := hi
  unfold hrow rH
  rw [up2_ne _ _ _ (by decide), wr_at, up2_ne _ _ _ (by decide), up2_ne _ _ _ (by decide), wr_at, wr_ne _ _ (by decide)]
  unfold cpF shF
  by_cases hik : i = 4
  · subst hik
    rw [if_pos (by omega), if_pos rfl]
    exact congrArg (I 689) (by omega)
  · rw [if_neg (by omega), if_pos (by omega), if_neg (by show ¬ i + 1 = 5; omega), if_pos rfl]
    exact congrArg (I 690) (by omega)
