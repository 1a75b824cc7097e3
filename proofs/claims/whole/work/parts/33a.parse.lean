/-! the class reads a text as the reference does -/
theorem eq_btw {c a : Int32} : c = a ↔ a ≤ c ∧ c ≤ a := ⟨fun e => by rw [e]; exact ⟨Int32.le_refl a, Int32.le_refl a⟩, fun h => Int32.toInt_inj.mp (Int.le_antisymm (i32_le.mp h.2) (i32_le.mp h.1))⟩
theorem ffs {tx : Nat → Int32} {ln i r : Nat} (hi : i < ln) : ffF tx ln (ln - i) i r = if rdN r (tx i) = 0 then nI i else ffF tx ln (ln - (i + 1)) (i + 1) (rdN r (tx i)) := by
  obtain ⟨n, hn⟩ : ∃ n, ln - i = n + 1 := ⟨ln - i - 1, by omega⟩
  rw [hn, show ln - (i + 1) = n by omega]
  rfl
theorem ffe {tx : Nat → Int32} {ln r : Nat} (hr : ¬ r = 1) : ffF tx ln (ln - ln) ln r = nI ln := by
  rw [Nat.sub_self]
  exact if_neg (fun z => hr z.1)
theorem ffR {tx : Nat → Int32} {ln i r r' : Nat} {lo hi : Int32} (hr1 : ¬ r = 1) (hr' : ¬ r' = 0) (hi' : i ≤ ln) (h : ∀ c, rdN r c = if lo ≤ c ∧ c ≤ hi then r' else 0) : ffF tx ln (ln - i) i r = if isN tx ln i lo hi then ffF tx ln (ln - (i + 1)) (i + 1) r' else nI i := by
  by_cases e : i = ln
  · subst e
    rw [ffe hr1, if_neg (fun z => Nat.lt_irrefl _ z.1)]
  · rw [ffs (by omega), h]
    by_cases q : lo ≤ tx i ∧ tx i ≤ hi
    · rw [if_pos q, if_neg hr', if_pos ⟨by omega, q⟩]
    · rw [if_neg q, if_pos rfl, if_neg (fun z => q z.2)]
theorem rd9 (c : Int32) : rdN 9 c = if 41 ≤ c ∧ c ≤ 41 then 1 else 0 := by rw [rd_9]; exact ite_congr (propext eq_btw) (fun _ => rfl) (fun _ => rfl)
theorem rd4 (c : Int32) : rdN 4 c = if 62 ≤ c ∧ c ≤ 62 then 5 else 0 := by rw [rd_4]; exact ite_congr (propext eq_btw) (fun _ => rfl) (fun _ => rfl)
theorem rd6 (c : Int32) : rdN 6 c = if 36 ≤ c ∧ c ≤ 36 then 7 else 0 := by rw [rd_6]; exact ite_congr (propext eq_btw) (fun _ => rfl) (fun _ => rfl)
theorem pos48 {c : Int32} (h : 49 ≤ c ∧ c ≤ 57) : 0 < c - 48 := by
  obtain ⟨a, a1, a2, rfl⟩ := i32_btw 49 57 (by decide) h (by decide)
  rw [show (48 : Int32) = nI 48 from rfl, nI_sub (by omega)]
  exact nI_lt (a := 0) (by omega) (by omega)
theorem ff7 {tx : Nat → Int32} {ln i : Nat} (hi : i ≤ ln) : ffF tx ln (ln - i) i 7 = if ¬ isN tx ln i 48 57 then nI i else if isN tx ln (cpl tx ln i) 41 41 then ffF tx ln (ln - (cpl tx ln i + 1)) (cpl tx ln i + 1) 1 else nI (cpl tx ln i) := by
  by_cases e : i = ln
  · subst e
    rw [ffe (by decide), if_pos (fun z => Nat.lt_irrefl _ z.1)]
  · have hil : i < ln := by omega
    rw [ffs hil, rd_7]
    by_cases h48 : tx i = 48
    · have hc : cpl tx ln i = i + 1 := if_neg (fun z => by have := z.1; rw [h48] at this; exact absurd this (by decide))
      rw [if_pos h48, if_neg (by decide), hc, ffR (by decide) (by decide) (by omega) rd9, if_neg (show ¬ ¬ isN tx ln i 48 57 from fun z => z ⟨hil, by rw [h48]; decide⟩)]
    · rw [if_neg h48]
      by_cases h49 : 49 ≤ tx i ∧ tx i ≤ 57
      · have hN : isN tx ln i 48 57 := ⟨hil, Int32.le_trans (by decide) h49.1, h49.2⟩
        have hp := pos48 h49
        rw [if_pos h49, if_neg (by decide), if_neg (fun z => z hN)]
        by_cases e1 : i + 1 = ln
        · have hc : cpl tx ln i = i + 1 := if_neg (fun z => by have := z.2.1; omega)
          rw [hc, if_neg (fun z => by have := z.1; omega), e1, ffe (by decide)]
        · have hi1 : i + 1 < ln := by omega
          rw [ffs hi1, rd_8]
          by_cases h41 : tx (i + 1) = 41
          · have hc : cpl tx ln i = i + 1 := if_neg (fun z => by have := z.2.2.1; rw [h41] at this; exact absurd this (by decide))
            rw [if_pos h41, if_neg (by decide), hc, if_pos ⟨hi1, by rw [h41]; decide⟩]
          · rw [if_neg h41]
            by_cases h57 : 48 ≤ tx (i + 1) ∧ tx (i + 1) ≤ 57
            · have hc : cpl tx ln i = i + 2 := if_pos ⟨hp, hi1, h57⟩
              rw [if_pos h57, if_neg (by decide), hc, ffR (by decide) (by decide) (by omega) rd9]
            · have hc : cpl tx ln i = i + 1 := if_neg (fun z => h57 z.2.2)
              rw [if_neg h57, if_pos rfl, hc, if_neg (fun z => h41 (eq_btw.mpr z.2))]
      · rw [if_neg h49, if_pos rfl, if_pos (fun z => by
          obtain ⟨a, a1, a2, ea⟩ := i32_btw 48 57 (by decide) z.2 (by decide)
          by_cases q : a = 48
          · exact h48 (by rw [ea, q]; rfl)
          · exact h49 (by rw [ea]; exact ⟨(nI_leI (a := 49) (by decide) (by omega)).mpr (by omega), (nI_leI (b := 57) (by omega) (by decide)).mpr (by omega)⟩))]
theorem ff_ord {tx : Nat → Int32} {ln : Nat} : ∀ (m pl : Nat), pl < ln → ln < m + pl → (fau tx ln m pl = none → ffF tx ln (ln - pl) pl 1 = -5) ∧ ∀ f, fau tx ln m pl = some f → ffF tx ln (ln - pl) pl 1 = nI f ∧ f ≤ ln
  | 0, pl, h, h2 => absurd h2 (by omega)
  | m + 1, pl, h, h2 => by
    have hF : fau tx ln (m + 1) pl = if odC tx ln pl then (if odN tx ln pl = ln then none else fau tx ln m (odN tx ln pl)) else some (fpl tx ln pl) := rfl
    have next : odC tx ln pl → ffF tx ln (ln - pl) pl 1 = ffF tx ln (ln - odN tx ln pl) (odN tx ln pl) 1 → (fau tx ln (m + 1) pl = none → ffF tx ln (ln - pl) pl 1 = -5) ∧ ∀ f, fau tx ln (m + 1) pl = some f → ffF tx ln (ln - pl) pl 1 = nI f ∧ f ≤ ln := by
      intro hod he
      have hle := odN_le hod
      rw [hF, if_pos hod, he]
      by_cases q : odN tx ln pl = ln
      · rw [if_pos q, q, Nat.sub_self]
        exact ⟨fun _ => if_pos ⟨rfl, by omega⟩, fun f z => (by cases z)⟩
      · rw [if_neg q]
        exact ff_ord m (odN tx ln pl) (by omega) (by omega)
    have stop : ¬ odC tx ln pl → ffF tx ln (ln - pl) pl 1 = nI (fpl tx ln pl) → fpl tx ln pl ≤ ln → (fau tx ln (m + 1) pl = none → ffF tx ln (ln - pl) pl 1 = -5) ∧ ∀ f, fau tx ln (m + 1) pl = some f → ffF tx ln (ln - pl) pl 1 = nI f ∧ f ≤ ln := by
      intro hod he hl
      rw [hF, if_neg hod]
      exact ⟨fun z => (by cases z), fun f z => by rw [← Option.some.inj z]; exact ⟨he, hl⟩⟩
    by_cases h40 : tx pl = 40
    · have t0 : isN tx ln pl 40 40 := ⟨h, eq_btw.mp h40⟩
      have hN : ¬ isN tx ln pl 49 54 := fun z => by have := z.2.1; rw [h40] at this; exact absurd this (by decide)
      have e0 : ffF tx ln (ln - pl) pl 1 = ffF tx ln (ln - (pl + 1)) (pl + 1) 2 := by rw [ffs h, rd_1, if_pos h40, if_neg (by decide)]
      have e1 := ffR (tx := tx) (ln := ln) (i := pl + 1) (r := 2) (r' := 3) (by decide) (by decide) (by omega) rd_2
      by_cases t1 : isN tx ln (pl + 1) 48 51
      · have e2 := ffR (tx := tx) (ln := ln) (i := pl + 2) (r := 3) (r' := 4) (by decide) (by decide) (by have := t1.1; omega) rd_3
        rw [if_pos t1] at e1
        by_cases t2 : isN tx ln (pl + 2) 97 104
        · have e3 := ffR (tx := tx) (ln := ln) (i := pl + 3) (r := 4) (r' := 5) (by decide) (by decide) (by have := t2.1; omega) rd4
          rw [if_pos t2] at e2
          by_cases t3 : isN tx ln (pl + 3) 62 62
          · have e4 := ffR (tx := tx) (ln := ln) (i := pl + 4) (r := 5) (r' := 6) (by decide) (by decide) (by have := t3.1; omega) rd_5
            rw [if_pos t3] at e3
            by_cases t4 : isN tx ln (pl + 4) 48 51
            · have e5 := ffR (tx := tx) (ln := ln) (i := pl + 5) (r := 6) (r' := 7) (by decide) (by decide) (by have := t4.1; omega) rd6
              rw [if_pos t4] at e4
              by_cases t5 : isN tx ln (pl + 5) 36 36
              · have e6 := ff7 (tx := tx) (ln := ln) (i := pl + 6) (by have := t5.1; omega)
                rw [if_pos t5] at e5
                by_cases t6 : isN tx ln (pl + 6) 48 57
                · have hcl : cpl tx ln (pl + 6) ≤ ln := by
                    unfold cpl
                    by_cases q : cpC tx ln (pl + 6)
                    · rw [if_pos q]; have := q.2.1; omega
                    · rw [if_neg q]; have := t6.1; omega
                  rw [if_neg (fun z => z t6)] at e6
                  by_cases t7 : isN tx ln (cpl tx ln (pl + 6)) 41 41
                  · rw [if_pos t7] at e6
                    exact next (Or.inr ⟨t0, t1, t2, t3, t4, t5, t6, t7⟩) (by rw [e0, e1, e2, e3, e4, e5, e6]; unfold odN; rw [if_neg hN])
                  · rw [if_neg t7] at e6
                    have hf : fpl tx ln pl = cpl tx ln (pl + 6) := by unfold fpl; rw [if_neg (fun z => z t0), if_neg (fun z => z t1), if_neg (fun z => z t2), if_neg (fun z => z t3), if_neg (fun z => z t4), if_neg (fun z => z t5), if_neg (fun z => z t6)]
                    exact stop (fun z => z.elim hN (fun w => t7 w.2.2.2.2.2.2.2)) (by rw [hf, e0, e1, e2, e3, e4, e5, e6]) (by rw [hf]; exact hcl)
                · rw [if_pos t6] at e6
                  have hf : fpl tx ln pl = pl + 6 := by unfold fpl; rw [if_neg (fun z => z t0), if_neg (fun z => z t1), if_neg (fun z => z t2), if_neg (fun z => z t3), if_neg (fun z => z t4), if_neg (fun z => z t5), if_pos t6]
                  exact stop (fun z => z.elim hN (fun w => t6 w.2.2.2.2.2.2.1)) (by rw [hf, e0, e1, e2, e3, e4, e5, e6]) (by rw [hf]; have := t5.1; omega)
              · rw [if_neg t5] at e5
                have hf : fpl tx ln pl = pl + 5 := by unfold fpl; rw [if_neg (fun z => z t0), if_neg (fun z => z t1), if_neg (fun z => z t2), if_neg (fun z => z t3), if_neg (fun z => z t4), if_pos t5]
                exact stop (fun z => z.elim hN (fun w => t5 w.2.2.2.2.2.1)) (by rw [hf, e0, e1, e2, e3, e4, e5]) (by rw [hf]; have := t4.1; omega)
            · rw [if_neg t4] at e4
              have hf : fpl tx ln pl = pl + 4 := by unfold fpl; rw [if_neg (fun z => z t0), if_neg (fun z => z t1), if_neg (fun z => z t2), if_neg (fun z => z t3), if_pos t4]
              exact stop (fun z => z.elim hN (fun w => t4 w.2.2.2.2.1)) (by rw [hf, e0, e1, e2, e3, e4]) (by rw [hf]; have := t3.1; omega)
          · rw [if_neg t3] at e3
            have hf : fpl tx ln pl = pl + 3 := by unfold fpl; rw [if_neg (fun z => z t0), if_neg (fun z => z t1), if_neg (fun z => z t2), if_pos t3]
            exact stop (fun z => z.elim hN (fun w => t3 w.2.2.2.1)) (by rw [hf, e0, e1, e2, e3]) (by rw [hf]; have := t2.1; omega)
        · rw [if_neg t2] at e2
          have hf : fpl tx ln pl = pl + 2 := by unfold fpl; rw [if_neg (fun z => z t0), if_neg (fun z => z t1), if_pos t2]
          exact stop (fun z => z.elim hN (fun w => t2 w.2.2.1)) (by rw [hf, e0, e1, e2]) (by rw [hf]; have := t1.1; omega)
      · rw [if_neg t1] at e1
        have hf : fpl tx ln pl = pl + 1 := by unfold fpl; rw [if_neg (fun z => z t0), if_pos t1]
        exact stop (fun z => z.elim hN (fun w => t1 w.2.1)) (by rw [hf, e0, e1]) (by rw [hf]; omega)
    · have t0 : ¬ isN tx ln pl 40 40 := fun z => h40 (eq_btw.mpr z.2)
      by_cases hN : isN tx ln pl 49 54
      · exact next (Or.inl hN) (by rw [ffs h, rd_1, if_neg h40, if_pos hN.2, if_neg (by decide)]; unfold odN; rw [if_pos hN])
      · have hf : fpl tx ln pl = pl := by unfold fpl; rw [if_pos t0]
        exact stop (fun z => z.elim hN (fun w => t0 w.1)) (by rw [hf, ffs h, rd_1, if_neg h40, if_neg (fun z => hN ⟨h, z⟩), if_pos rfl]) (by rw [hf]; omega)
/-- the class finds the reference's fault -/
theorem ff_eq (tx : Nat → Int32) (ln : Nat) (hl : ln ≤ 60) : (fau tx ln (ln + 1) 0 = none → ffF tx ln ln 0 1 = -5) ∧ ∀ f, fau tx ln (ln + 1) 0 = some f → ffF tx ln ln 0 1 = nI f ∧ f ≤ ln := by
  by_cases e : ln = 0
  · subst e
    have hod : ¬ odC tx 0 0 := fun z => z.elim (fun w => absurd w.1 (by decide)) (fun w => absurd w.1.1 (by decide))
    have hF : fau tx 0 (0 + 1) 0 = some (fpl tx 0 0) := if_neg hod
    have hf : fpl tx 0 0 = 0 := by unfold fpl; rw [if_pos (fun w => absurd w.1 (by decide))]
    rw [hF, hf]
    exact ⟨fun z => (by cases z), fun f z => by rw [← Option.some.inj z]; exact ⟨if_neg (fun w => absurd w.2 (by decide)), Nat.le_refl _⟩⟩
  · have := ff_ord (tx := tx) (ln := ln) (ln + 1) 0 (by omega) (by omega)
    rwa [Nat.sub_zero] at this
