variable {nT : Nat}
/-! a search breadth first, of the class' kind: throws to each square (-1: not seen), the queue, how many are queued -/
theorem cnt_lt {f : Nat → Bool} {x : Nat} (hx : f x = false) : ∀ N, x < N → cnt f N < N
  | 0, h => by omega
  | N + 1, h => by
    have hle : ∀ M, cnt f M ≤ M := fun M => by
      induction M with
      | zero => exact Nat.le_refl _
      | succ M ih => show cnt f M + (if f M = true then 1 else 0) ≤ _; split <;> omega
    show cnt f N + (if f N = true then 1 else 0) < N + 1
    by_cases q : x = N
    · rw [← q, hx, if_neg (by decide), q]
      have := hle N
      omega
    · have := cnt_lt hx N (by omega)
      split <;> omega
theorem cnt_up {f g : Nat → Bool} {x : Nat} (hx : f x = false) (gx : g x = true) (h : ∀ y, ¬ y = x → g y = f y) : ∀ N, x < N → cnt g N = cnt f N + 1
  | 0, q => by omega
  | N + 1, q => by
    show cnt g N + (if g N = true then 1 else 0) = cnt f N + (if f N = true then 1 else 0) + 1
    by_cases e : x = N
    · rw [cnt_cg (g := f) N (fun y hy => h y (by omega)), ← e, gx, hx]
      rfl
    · rw [cnt_up hx gx h N (by omega), h N (by omega)]
      omega
theorem nI_m1' {m : Nat} (h : m < 2 ^ 31) : ¬ nI m = -1 := fun e => by
  have h2 := congrArg Int32.toInt e
  rw [nI_toInt h, show (-1 : Int32).toInt = -1 from by decide] at h2
  omega
def sv (σ : sT) (j : Nat) : Nat := (σ.2.1 j).toNatClampNeg
def sd (σ : sT) (x : Nat) : Nat := (σ.1 x).toNatClampNeg
def Sq (R : Nat → Nat → Prop) (D : Nat) (σ : sT) : Prop :=
  σ.2.2 = cnt (fun x => decide (¬ σ.1 x = -1)) 61 ∧
  (∀ j, j < σ.2.2 → sv σ j ≤ 60 ∧ σ.2.1 j = nI (sv σ j) ∧ σ.1 (sv σ j) = nI (sd σ (sv σ j)) ∧ sd σ (sv σ j) ≤ D + 1 ∧ sd σ (sv σ j) ≤ j ∧ R (sd σ (sv σ j)) (sv σ j)) ∧
  (∀ x, x ≤ 60 → ¬ σ.1 x = -1 → ∃ j, j < σ.2.2 ∧ sv σ j = x) ∧
  ∀ i j, i < j → j < σ.2.2 → ¬ sv σ i = sv σ j ∧ sd σ (sv σ i) ≤ sd σ (sv σ j)
def Ext (σ τ : sT) : Prop := σ.2.2 ≤ τ.2.2 ∧ ∀ j, j < σ.2.2 → sv τ j = sv σ j ∧ sd τ (sv σ j) = sd σ (sv σ j)
theorem Ext.rf (σ : sT) : Ext σ σ := ⟨Nat.le_refl _, fun _ _ => ⟨rfl, rfl⟩⟩
theorem Ext.trans {σ τ ρ : sT} (h : Ext σ τ) (h2 : Ext τ ρ) : Ext σ ρ := ⟨Nat.le_trans h.1 h2.1, fun j hj => by
  obtain ⟨a, b⟩ := h.2 j hj
  obtain ⟨c, d⟩ := h2.2 j (Nat.lt_of_lt_of_le hj h.1)
  rw [a] at c d
  exact ⟨c, d.trans b⟩⟩
def Sn (σ : sT) (x : Nat) : Prop := ∃ j, j < σ.2.2 ∧ sv σ j = x
theorem Sn.ext {σ τ : sT} (h : Ext σ τ) {x : Nat} (hs : Sn σ x) : Sn τ x := by
  obtain ⟨j, hj, e⟩ := hs
  exact ⟨j, Nat.lt_of_lt_of_le hj h.1, by rw [(h.2 j hj).1, e]⟩
theorem Sq.le {R : Nat → Nat → Prop} {D : Nat} {σ : sT} (h : Sq R D σ) : σ.2.2 ≤ 61 := by
  rw [h.1]
  have hle : ∀ (f : Nat → Bool) M, cnt f M ≤ M := fun f M => by
    induction M with
    | zero => exact Nat.le_refl _
    | succ M ih => show cnt f M + (if f M = true then 1 else 0) ≤ _; split <;> omega
  exact hle _ _
theorem Sq.mono {R : Nat → Nat → Prop} {D D' : Nat} {σ : sT} (h : Sq R D σ) (hD : D ≤ D') : Sq R D' σ := ⟨h.1, fun j hj => by
  obtain ⟨a, b, c, d, e, f⟩ := h.2.1 j hj
  exact ⟨a, b, c, by omega, e, f⟩, h.2.2⟩
theorem in61 {x : Nat} (h : x ≤ 60) : (0 : Int32) ≤ nI x ∧ nI x < 61 := ⟨nI_pos' (by omega), by rw [show (61 : Int32) = nI 61 from rfl]; exact nI_lt (by omega) (by decide)⟩
theorem of61 {y : Int32} (h : 0 ≤ y ∧ y < 61) : ∃ x, x ≤ 60 ∧ y = nI x := by
  obtain ⟨j, hj, rfl⟩ := nI_of (Int32.not_lt.mpr h.1)
  refine ⟨j, ?_, rfl⟩
  rcases Nat.lt_or_ge j 61 with q | q
  · omega
  · exact absurd h.2 (Int32.not_lt.mpr (nI_le (a := 61) q hj))
theorem Sq.see {R : Nat → Nat → Prop} {D : Nat} {σ : sT} (h : Sq R D σ) {x : Nat} (hx : x ≤ 60) (hD : D + 1 ≤ σ.2.2) (hR : σ.1 x = -1 → R (D + 1) x) : Sq R D (seF σ (nI x) (nI (D + 1))) ∧ Ext σ (seF σ (nI x) (nI (D + 1))) ∧ Sn (seF σ (nI x) (nI (D + 1))) x := by
  have h61 := h.le
  unfold seF
  rw [nI_clamp (n := x) (by omega)]
  by_cases ht : σ.1 x = -1
  · have hlt : σ.2.2 < 61 := by
      rw [h.1]
      exact cnt_lt (x := x) (by show decide (¬ σ.1 x = -1) = false; exact decide_eq_false (fun z => z ht)) 61 (by omega)
    rw [if_pos ⟨in61 hx, ht⟩, if_pos hlt]
    obtain ⟨h1, h2, h3, h4⟩ := h
    have hne : ∀ j, j < σ.2.2 → ¬ sv σ j = x := fun j hj e => by
      obtain ⟨-, -, c, -, e2, -⟩ := h2 j hj
      rw [e] at c
      exact nI_m1' (by rw [e] at e2; omega) (c.symm.trans ht)
    have v1 : ∀ j, j < σ.2.2 → sv (upd σ.1 x (nI (D + 1)), upd σ.2.1 σ.2.2 (nI x), σ.2.2 + 1) j = sv σ j := fun j hj => by
      have e : upd σ.2.1 σ.2.2 (nI x) j = σ.2.1 j := upd_ne _ (by omega)
      exact congrArg Int32.toNatClampNeg e
    have v2 : sv (upd σ.1 x (nI (D + 1)), upd σ.2.1 σ.2.2 (nI x), σ.2.2 + 1) σ.2.2 = x := by
      have e : upd σ.2.1 σ.2.2 (nI x) σ.2.2 = nI x := upd_eq _ rfl
      exact (congrArg Int32.toNatClampNeg e).trans (nI_clamp (by omega))
    have d1 : ∀ y, ¬ y = x → sd (upd σ.1 x (nI (D + 1)), upd σ.2.1 σ.2.2 (nI x), σ.2.2 + 1) y = sd σ y := fun y hy => by
      have e : upd σ.1 x (nI (D + 1)) y = σ.1 y := upd_ne _ hy
      exact congrArg Int32.toNatClampNeg e
    have d2 : sd (upd σ.1 x (nI (D + 1)), upd σ.2.1 σ.2.2 (nI x), σ.2.2 + 1) x = D + 1 := by
      have e : upd σ.1 x (nI (D + 1)) x = nI (D + 1) := upd_eq _ rfl
      exact (congrArg Int32.toNatClampNeg e).trans (nI_clamp (by omega))
    refine ⟨⟨?_, fun j hj => ?_, fun y hy hn => ?_, fun i j hij hj => ?_⟩, ⟨Nat.le_succ _, fun j hj => ⟨v1 j hj, d1 _ (hne j hj)⟩⟩, σ.2.2, Nat.lt_succ_self _, v2⟩
    · show σ.2.2 + 1 = cnt (fun y => decide (¬ upd σ.1 x (nI (D + 1)) y = -1)) 61
      rw [cnt_up (f := fun y => decide (¬ σ.1 y = -1)) (x := x) (decide_eq_false (fun z => z ht)) (decide_eq_true (by rw [upd_eq _ rfl]; exact nI_m1' (by omega))) (fun y hy => by
        show decide _ = decide _
        rw [upd_ne _ hy]) 61 (by omega), ← h1]
    · have hj' : j < σ.2.2 + 1 := hj
      by_cases q : j = σ.2.2
      · subst q
        rw [v2, d2]
        refine ⟨hx, upd_eq _ rfl, upd_eq _ rfl, Nat.le_refl _, hD, hR ht⟩
      · have hjl : j < σ.2.2 := by omega
        rw [v1 j hjl, d1 _ (hne j hjl)]
        obtain ⟨a, b, c, d, e, f⟩ := h2 j hjl
        exact ⟨a, (upd_ne (i := σ.2.2) (j := j) _ q).trans b, (upd_ne (i := x) _ (hne j hjl)).trans c, d, e, f⟩
    · by_cases q : y = x
      · exact ⟨σ.2.2, Nat.lt_succ_self _, by rw [v2, q]⟩
      · have hn' : ¬ upd σ.1 x (nI (D + 1)) y = -1 := hn
        rw [upd_ne _ q] at hn'
        obtain ⟨j, hj, e⟩ := h3 y hy hn'
        exact ⟨j, Nat.lt_succ_of_lt hj, by rw [v1 j hj, e]⟩
    · have hj' : j < σ.2.2 + 1 := hj
      by_cases q : j = σ.2.2
      · subst q
        rw [v2, v1 i hij, d2, d1 _ (hne i hij)]
        exact ⟨hne i hij, (h2 i hij).2.2.2.1⟩
      · have hjl : j < σ.2.2 := by omega
        rw [v1 j hjl, v1 i (by omega), d1 _ (hne j hjl), d1 _ (hne i (by omega))]
        exact h4 i j hij hjl
  · rw [if_neg (fun z => ht z.2)]
    exact ⟨h, Ext.rf σ, h.2.2.1 x hx ht⟩
/-- from σ0 on, σ has seen all of A -/
def Gs (R : Nat → Nat → Prop) (D : Nat) (σ0 σ : sT) (A : Nat → Prop) : Prop := Sq R D σ ∧ Ext σ0 σ ∧ ∀ x, A x → x ≤ 60 → Sn σ x
theorem Gs.rf {R : Nat → Nat → Prop} {D : Nat} {σ : sT} (h : Sq R D σ) : Gs R D σ σ (fun _ => False) := ⟨h, Ext.rf σ, fun _ q => q.elim⟩
theorem Gs.see {R : Nat → Nat → Prop} {D : Nat} {σ0 σ : sT} {A : Nat → Prop} (h : Gs R D σ0 σ A) (hD : D + 1 ≤ σ0.2.2) (y : Int32) (hR : ∀ x, x ≤ 60 → y = nI x → σ.1 x = -1 → R (D + 1) x) : Gs R D σ0 (seF σ y (nI (D + 1))) (fun x => A x ∨ y = nI x) := by
  by_cases hy : 0 ≤ y ∧ y < 61
  · obtain ⟨x, hx, rfl⟩ := of61 hy
    obtain ⟨a, b, c⟩ := h.1.see hx (Nat.le_trans hD h.2.1.1) (hR x hx rfl)
    exact ⟨a, h.2.1.trans b, fun x' hx' hl => hx'.elim (fun q => (h.2.2 x' q hl).ext b) (fun q => by
      rw [← nI_inj (by omega) (by omega) q]; exact c)⟩
  · have : seF σ y (nI (D + 1)) = σ := by unfold seF; rw [if_neg (fun z => hy z.1)]
    rw [this]
    exact ⟨h.1, h.2.1, fun x' hx' hl => hx'.elim (fun q => h.2.2 x' q hl) (fun q => absurd (by rw [q]; exact in61 hl) hy)⟩
theorem Gs.imp {R : Nat → Nat → Prop} {D : Nat} {σ0 σ : sT} {A A' : Nat → Prop} (h : Gs R D σ0 σ A) (hA : ∀ x, A' x → A x) : Gs R D σ0 σ A' := ⟨h.1, h.2.1, fun x q => h.2.2 x (hA x q)⟩
/-- the loop's state at the queue's place i -/
def Lp (R E : Nat → Nat → Prop) (st tg : Nat) (σ : sT) (i : Nat) : Prop :=
  i ≤ σ.2.2 ∧ 0 < σ.2.2 ∧ sv σ 0 = st ∧ (∀ j, j < i → ¬ sv σ j = tg) ∧ (∃ D, Sq R D σ ∧ (i < σ.2.2 → D ≤ sd σ (sv σ i))) ∧
  ∀ j, j < i → ∀ x, E (sv σ j) x → Sn σ x ∧ sd σ x ≤ sd σ (sv σ j) + 1
def Res (R : Nat → Nat → Prop) (tg : Nat) (r : Int32) : Prop := (∃ k, r = nI k ∧ k ≤ 60 ∧ R k tg ∧ ∀ k', k' < k → ¬ R k' tg) ∨ (r = -5 ∧ ∀ k, ¬ R k tg)
theorem Lp.near {R E : Nat → Nat → Prop} {st tg i : Nat} {σ : sT} (h : Lp R E st tg σ i) (hR0 : ∀ x, R 0 x → x = st) (hRS : ∀ k x, R (k + 1) x → ∃ y, R k y ∧ E y x) {K : Nat} (hK : ∀ j, j < σ.2.2 → sd σ (sv σ j) < K → j < i) : ∀ k x, k ≤ K → R k x → Sn σ x ∧ sd σ x ≤ k := by
  obtain ⟨-, h0, hs, -, ⟨D, hq, -⟩, hc⟩ := h
  intro k
  induction k with
  | zero =>
    intro x _ hx
    have e := hR0 x hx
    obtain ⟨-, -, -, -, b, -⟩ := hq.2.1 0 h0
    rw [hs] at b
    exact ⟨⟨0, h0, hs.trans e.symm⟩, by rw [e]; exact b⟩
  | succ k ih =>
    intro x hk hx
    obtain ⟨y, hy, he⟩ := hRS k x hx
    obtain ⟨⟨j, hj, ej⟩, hd⟩ := ih y (by omega) hy
    have := hc j (hK j hj (by rw [ej]; omega)) x (by rw [ej]; exact he)
    exact ⟨this.1, by rw [ej] at this; omega⟩
theorem Lp.hit {R E : Nat → Nat → Prop} {st tg i : Nat} {σ : sT} (h : Lp R E st tg σ i) (hR0 : ∀ x, R 0 x → x = st) (hRS : ∀ k x, R (k + 1) x → ∃ y, R k y ∧ E y x) (hi : i < σ.2.2) (ht : sv σ i = tg) : Res R tg (σ.1 tg) := by
  have hn := h.near hR0 hRS (K := sd σ (sv σ i)) (fun j hj q => by
    obtain ⟨-, -, -, -, ⟨D, hq, -⟩, -⟩ := h
    rcases Nat.lt_or_ge j i with z | z
    · exact z
    · rcases Nat.lt_or_ge i j with w | w
      · have := (hq.2.2.2 i j w hj).2; omega
      · rw [show j = i from by omega] at q; omega)
  obtain ⟨-, -, -, -, ⟨D, hq, -⟩, -⟩ := h
  obtain ⟨-, -, c, -, e, f⟩ := hq.2.1 i hi
  have h61 := hq.le
  rw [ht] at c f e hn
  refine Or.inl ⟨sd σ tg, c, by omega, f, fun k' hk' hR => ?_⟩
  have := (hn k' tg (by omega) hR).2
  omega
theorem Lp.out {R E : Nat → Nat → Prop} {st tg i : Nat} {σ : sT} (h : Lp R E st tg σ i) (hR0 : ∀ x, R 0 x → x = st) (hRS : ∀ k x, R (k + 1) x → ∃ y, R k y ∧ E y x) (hi : ¬ i < σ.2.2) : Res R tg (-5) := by
  refine Or.inr ⟨rfl, fun k hR => ?_⟩
  obtain ⟨⟨j, hj, e⟩, -⟩ := h.near hR0 hRS (K := k) (fun j hj _ => by omega) k tg (Nat.le_refl _) hR
  exact h.2.2.2.1 j (by omega) e
/-- one more of the queue is done -/
theorem Lp.step {R E : Nat → Nat → Prop} {st tg i : Nat} {σ τ : sT} (h : Lp R E st tg σ i) (hi : i < σ.2.2) (ht : ¬ sv σ i = tg) (hE : ∀ y x, y ≤ 60 → E y x → x ≤ 60) (hg : Gs R (sd σ (sv σ i)) σ τ (E (sv σ i))) : Lp R E st tg τ (i + 1) := by
  obtain ⟨h1, h2, h3, h4, ⟨D, hq, hD⟩, hc⟩ := h
  obtain ⟨g1, g2, g3⟩ := hg
  have hvi := g2.2 i hi
  refine ⟨Nat.le_trans hi g2.1, Nat.lt_of_lt_of_le h2 g2.1, (g2.2 0 h2).1.trans h3, fun j hj => ?_, ⟨sd σ (sv σ i), g1, fun q => ?_⟩, fun j hj x hx => ?_⟩
  · rw [(g2.2 j (by omega)).1]
    by_cases q : j = i
    · rw [q]; exact ht
    · exact h4 j (by omega)
  · have := (g1.2.2.2 i (i + 1) (by omega) q).2
    rw [hvi.1, hvi.2] at this
    exact this
  · have hv := g2.2 j (by omega)
    rw [hv.1] at hx
    rw [hv.1, hv.2]
    by_cases q : j = i
    · subst q
      have hs := g3 x hx (hE _ x (hq.2.1 j hi).1 hx)
      obtain ⟨j', hj', e⟩ := hs
      have := (g1.2.1 j' hj').2.2.2.1
      rw [e] at this
      exact ⟨⟨j', hj', e⟩, this⟩
    · obtain ⟨a, b⟩ := hc j (by omega) x hx
      refine ⟨a.ext g2, ?_⟩
      obtain ⟨j', hj', e⟩ := a
      have := (g2.2 j' hj').2
      rw [e] at this
      rw [this]
      exact b
theorem Lp.start {R E : Nat → Nat → Prop} {st tg : Nat} (σ : sT) (hs : st ≤ 60) (hR : R 0 st) : Lp R E st tg (stF σ (nI st)) 0 := by
  have e : stF σ (nI st) = (upd (flF σ.1 61) st 0, upd σ.2.1 0 (nI st), 1) := by
    unfold stF seF
    rw [nI_clamp (n := st) (by omega), if_pos ⟨in61 hs, by show flF σ.1 61 st = -1; unfold flF; rw [if_pos (by omega)]⟩, if_pos (by show 0 < 61; decide)]
  rw [e]
  have v0 : sv (upd (flF σ.1 61) st 0, upd σ.2.1 0 (nI st), 1) 0 = st := by
    have e : upd σ.2.1 0 (nI st) 0 = nI st := upd_eq _ rfl
    exact (congrArg Int32.toNatClampNeg e).trans (nI_clamp (by omega))
  have d0 : sd (upd (flF σ.1 61) st 0, upd σ.2.1 0 (nI st), 1) st = 0 := by
    have e : upd (flF σ.1 61) st 0 st = 0 := upd_eq _ rfl
    exact congrArg Int32.toNatClampNeg e
  refine ⟨Nat.zero_le _, by show 0 < 1; decide, v0, fun j hj => absurd hj (Nat.not_lt_zero j), ⟨0, ⟨?_, fun j hj => ?_, fun x hx hn => ?_, fun i j hij hj => ?_⟩, fun _ => Nat.zero_le _⟩, fun j hj => absurd hj (Nat.not_lt_zero j)⟩
  · show 1 = cnt (fun x => decide (¬ upd (flF σ.1 61) st 0 x = -1)) 61
    have hc0 : ∀ N, N ≤ 61 → cnt (fun x => decide (¬ flF σ.1 61 x = -1)) N = 0 := fun N => by
      induction N with
      | zero => intro _; rfl
      | succ N ih =>
        intro hN
        show cnt _ N + (if decide (¬ flF σ.1 61 N = -1) = true then 1 else 0) = 0
        rw [ih (by omega), if_neg]
        intro z
        refine of_decide_eq_true z ?_
        unfold flF
        rw [if_pos (by omega)]
    rw [cnt_up (f := fun x => decide (¬ flF σ.1 61 x = -1)) (x := st) (decide_eq_false (fun z => z (by unfold flF; rw [if_pos (by omega)]))) (decide_eq_true (by rw [upd_eq _ rfl]; decide)) (fun y hy => by
      show decide _ = decide _
      rw [upd_ne _ hy]) 61 (by omega), hc0 61 (Nat.le_refl _)]
  · have hj1 : j < 1 := hj
    obtain rfl : j = 0 := by omega
    rw [v0, d0]
    have e1 : upd σ.2.1 0 (nI st) 0 = nI st := upd_eq _ rfl
    have e2 : upd (flF σ.1 61) st 0 st = 0 := upd_eq _ rfl
    exact ⟨hs, e1, e2, Nat.zero_le _, Nat.le_refl _, hR⟩
  · have hn' : ¬ upd (flF σ.1 61) st 0 x = -1 := hn
    by_cases q : x = st
    · exact ⟨0, by show 0 < 1; decide, v0.trans q.symm⟩
    · rw [upd_ne _ q] at hn'
      unfold flF at hn'
      rw [if_pos (by omega)] at hn'
      exact absurd rfl hn'
  · have hj1 : j < 1 := hj
    omega
