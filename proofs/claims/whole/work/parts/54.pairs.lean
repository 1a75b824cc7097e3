/-! a lemma a method: one call of both -/
section
variable {l : Launch} {g : fw_G} {I : fw_I} {P : fw_P} {B : Nat}
theorem Sm.i {I : fw_I} {P : fw_P} {B : Nat} (hs : Sm I P B) : MSh P ∧ Inv B (I 689) ∧ mOk (I 689) := by
  obtain ⟨k, tk, len, hM, -, -, -, hI, -⟩ := hs
  exact ⟨hM, hI, hI.mOk⟩
theorem pr_player (hs : Sm I P B) (hB : B + 9 < 1000000) (x w : Int32) : Pr l g kX7_player kX8_player [.int x, .int w] I P B := by
  obtain ⟨k, tk, len, hM, hS, hC, -, hI, -⟩ := id hs
  exact Pr.ro hs hB (sc_player l g hS hC hI x w) (sp_player l g hM hI.mOk x w) rfl
theorem pr_bite (hs : Sm I P B) (hB : B + 9 < 1000000) (x y w : Int32) : Pr l g kX7_bite kX8_bite [.int x, .int y, .int w] I P B := by
  obtain ⟨k, tk, len, hM, hS, hC, -, hI, -⟩ := id hs
  exact Pr.ro hs hB (sc_bite l g hS hC hI x y w) (sp_bite l g hM hI.mOk x y w) rfl
theorem pr_snakeOf (hs : Sm I P B) (hB : B + 9 < 1000000) (x w : Int32) : Pr l g kX7_snakeOf kX8_snakeOf [.int x, .int w] I P B := by
  obtain ⟨k, tk, len, hM, hS, hC, -, hI, -⟩ := id hs
  exact Pr.ro hs hB (sc_snakeOf l g hS hC hI x w) (sp_snakeOf l g hM x w) rfl
theorem pr_square (hs : Sm I P B) (hB : B + 9 < 1000000) (x w : Int32) : Pr l g kX7_square kX8_square [.int x, .int w] I P B := by
  obtain ⟨k, tk, len, hM, hS, hC, -, hI, -⟩ := id hs
  exact Pr.ro hs hB (sc_square l g hS hC hI x w) (sp_square l g hM x w) rfl
theorem pr_count (hs : Sm I P B) (hB : B + 9 < 1000000) (w : Int32) : Pr l g kX7_count kX8_count [.int w] I P B := by
  obtain ⟨k, tk, len, hM, hS, hC, ⟨e2, -, e7⟩, hI, -⟩ := id hs
  exact Pr.ro hs hB (sc_count l g hS hC hI w) (sp_count l g hM w) (by rw [e2, e7])
theorem pr_why (hs : Sm I P B) (hB : B + 9 < 1000000) (x y z c : Int32) : Pr l g kX7_why kX8_why [.int x, .int y, .int z, .int c] I P B := by
  obtain ⟨k, tk, len, hM, hS, hC, -, hI, -⟩ := id hs
  exact Pr.ro hs hB (sc_why l g hS hC hI x y z c) (sp_why l g hM hI.mOk x y z c) rfl
theorem pr_cheapest (hs : Sm I P B) (hB : B + 9 < 1000000) (x y : Int32) : Pr l g kX7_cheapest kX8_cheapest [.int x, .int y] I P B := by
  obtain ⟨k, tk, len, hM, hS, hC, -, hI, -⟩ := id hs
  exact Pr.ro hs hB (sc_cheapest l g hS hC hI x y) (sp_cheapest l g hM hI.mOk x y) (che_eq hI x y).symm
theorem pr_dangers (hs : Sm I P B) (hB : B + 9 < 1000000) (x : Int32) : Pr l g kX7_dangers kX8_dangers [.int x] I P B := by
  obtain ⟨k, tk, len, hM, hS, hC, -, hI, -⟩ := id hs
  exact Pr.ro hs hB (sc_dangers l g hS hC hI x) (sp_dangers l g hM hI.mOk x) rfl
theorem pr_snake (hs : Sm I P B) (hB : B + 9 < 1000000) (x y : Int32) : Pr l g kX7_snake kX8_snake [.int x, .int y] I P B := by
  obtain ⟨k, tk, len, hM, hS, hC, h2, hI, h3⟩ := hs
  exact Pr.mu ⟨hM, hS, hC, h2, hI, h3⟩ hB (sm_snake l g hS hC hI x y) (fun I1 P1 a b => sp_snake l g a hC.2.1.2.1 b x y) (fun ho => (Inv_snake hI ho).mono (by omega) hB)
theorem pr_charm (hs : Sm I P B) (hB : B + 9 < 1000000) (x t : Int32) : Pr l g kX7_charm kX8_charm [.int x, .int t] I P B := by
  obtain ⟨k, tk, len, hM, hS, hC, h2, hI, h3⟩ := hs
  refine Pr.mu ⟨hM, hS, hC, h2, hI, h3⟩ hB (sm_charm l g hS hC hI x t) (fun I1 P1 a b => sp_charm l g a hC.2.1.2.1 b x t) (fun ho => ?_)
  obtain ⟨⟨h9, h0⟩, ht⟩ := ho
  obtain ⟨i, hi, rfl⟩ := nI_le9 h9
  rw [nI_clamp (by omega)] at h0 ⊢
  exact Inv_cha hI hB hi ht h0
theorem pr_turn (hs : Sm I P B) (hB : B + 9 < 1000000) (d : Int32) : Pr l g kX7_turn kX8_turn [.int d] I P B := by
  obtain ⟨k, tk, len, hM, hS, hC, h2, hI, h3⟩ := hs
  refine Pr.mu ⟨hM, hS, hC, h2, hI, h3⟩ hB (sm_turn l g hS hC hI d) (fun I1 P1 a b => sp_turn l g a hC.2.1.2.1 b hI.mOk hI.now d) (fun ho => ?_)
  obtain ⟨n, n1, n6, rfl⟩ := ho.1.nat
  exact (Inv_T hI ho.2 n1 n6).mono (by omega) hB
theorem Inv_Py {B : Nat} : ∀ (n : Nat) (x : Int32) (s : Nat → Int32), Inv B s → (0 ≤ x ∧ x ≤ 65535) → Inv B (aPyF n x s).2
  | 0, _, _, h, _ => h
  | n + 1, x, s, h, hx => by
    show Inv B (if s 4 = 4 then (0, s) else _).2
    by_cases h4 : s 4 = 4
    · rw [if_pos h4]; exact h
    · rw [if_neg h4]
      have hx1 := aDraw_in hx
      obtain ⟨d, d1, d6, e⟩ := (aDice_in hx1).nat
      exact Inv_Py n (aDraw x) _ (by rw [e]; exact Inv_T h h4 d1 d6) hx1
theorem pr_play (hs : Sm I P B) (hB : B + 9 < 1000000) (x m : Int32) : Pr l g kX7_play kX8_play [.int x, .int m] I P B := by
  obtain ⟨k, tk, len, hM, hS, hC, h2, hI, h3⟩ := hs
  exact Pr.mu ⟨hM, hS, hC, h2, hI, h3⟩ hB (sm_play l g hS hC hI x m) (fun I1 P1 a b => sp_play l g a hC.2.1.2.1 b hI x m) (fun ho => (Inv_Py _ _ _ hI ho.1.1).mono (by omega) hB)
theorem pr_sell (hs : Sm I P B) (hB : B + 9 < 1000000) (x y z c : Int32) : Pr l g kX7_sell kX8_sell [.int x, .int y, .int z, .int c] I P B := by
  obtain ⟨k, tk, len, hM, hS, hC, h2, hI, h3⟩ := hs
  exact Pr.mu ⟨hM, hS, hC, h2, hI, h3⟩ hB (sm_sell l g hS hC hI x y z c) (fun I1 P1 a b => sp_sell l g a hC.2.1.2.1 b hI.mOk x y z c) (fun ho => (Inv_Sel hI ho).mono (by omega) hB)
theorem pr_set (hs : Sm I P B) (hB : B + 9 < 1000000) (x v : Int32) : Pr l g kX7_set kX8_set [.int x, .int v] I P B := by
  obtain ⟨k, tk, len, hM, hS, hC, h2, hI, h3⟩ := hs
  exact Pr.mu ⟨hM, hS, hC, h2, hI, h3⟩ hB (sm_set l g hS hC hI x v) (fun I1 P1 a b => sp_set l g a hC.2.1.2.1 b x v) (fun ho => (Inv_set hI ho).mono (by omega) hB)
theorem Inv_rn {B : Nat} {tx : Nat → Int32} {ln : Nat} : ∀ (n pl k : Nat) (s : Nat → Int32), Inv B s → Inv B (rnF tx ln n pl k s).2
  | 0, _, _, _, h => h
  | n + 1, pl, k, s, h => by
    have hd := Inv_ds h tx ln pl
    by_cases q : dsB tx ln pl s = true
    · by_cases e : odN tx ln pl = ln
      · rw [rnF_e q e]; exact hd
      · rw [rnF_s q e]; exact Inv_rn n _ _ _ hd
    · rw [rnF_n q]; exact hd
theorem pr_run (hs : Sm I P B) (hB : B + 9 < 1000000) : Pr l g kX7_run kX8_run [] I P B := by
  obtain ⟨k, tk, len, hM, hS, hC, h2, hI, h3⟩ := hs
  refine Pr.mus ⟨hM, hS, hC, h2, hI, h3⟩ hB (sm_run l g hS hC hI) (fun I1 P1 a b c d => ?_) (fun _ => (Inv_rn _ _ _ _ hI).mono (by omega) hB)
  have := sp_run l g (I := I1) a (ln := len) (by rw [b]; exact h2.2.2) hC.2.2.2.2.1 (B := B) (k := k) (by rw [c]; exact hI) hC.2.1.2.1 (by rw [b]; exact h2.1)
  rw [c, d] at this
  exact this
theorem pr_fault (hs : Sm I P B) (hB : B + 9 < 1000000) : Pr l g kX7_fault kX8_fault [] I P B := by
  obtain ⟨k, tk, len, hM, hS, hC, ⟨e2, e4, e7⟩, hI, -⟩ := id hs
  have hf : fauX (I 693) len = ffF (I 693) len len 0 1 := by
    have h := ff_eq (I 693) len hC.2.2.2.2.1
    unfold fauX
    cases e : fau (I 693) len (len + 1) 0 with
    | none => exact (h.1 e).symm
    | some f => exact (h.2 f e).1.symm
  refine ⟨ffF (I 693) len len 0 1, fun I1 P1 => I1 = I ∧ P1 = P, (sc_fault l g hS hC hI).imp (fun v I1 P1 ⟨a, b, c⟩ => ⟨_, a, rfl, b, c⟩), ?_⟩
  rintro I1 P1 ⟨rfl, rfl⟩
  refine (sp_fault l g hM e7 hC.2.2.2.2.1).imp ?_
  rintro v I2 P2 ⟨r, a, b, c, d⟩
  exact ⟨r, a, b.trans hf, by rw [c]; exact (hs.sc d).mono (by omega) hB⟩
theorem pr_append (hs : Sm I P B) (hB : B + 9 < 1000000) (c : Int32) : Pr l g kX7_append kX8_append [.int c] I P B := by
  obtain ⟨k, tk, len, hM, hS, hC, ⟨e2, e4, e7⟩, hI, i2, i3⟩ := hs
  refine ⟨_, _, (sm_append l g hS hC hI c), ?_⟩
  rintro I1 P1 ⟨hS1, hc, hF⟩
  have hM1 := hM.ff hF
  have c688 := (hF 688 (by decide)).1
  have c689 := (hF 689 (by decide)).1
  have c690 := (hF 690 (by decide)).1
  have c691 := (hF 691 (by decide)).1
  have c693 := (hF 693 (by decide)).1
  refine (sp_append l g hM1 (len := len) (by rw [c688]; exact e7) hC.2.2.2.2.1 c).imp ?_
  rintro v I2 P2 ⟨r, a, b, rfl, d⟩
  refine ⟨r, a, b, ?_⟩
  rcases d with ⟨ho, rfl⟩ | ⟨ho, rfl⟩
  · rcases hc with ⟨-, hc⟩ | ⟨hn, -⟩
    · have w : ∀ a, a ≠ 688 → a ≠ 693 → up2 (up2 I1 693 len c) 688 7 (nI (len + 1)) a = I1 a := fun a a1 a2 => by rw [up2_ne _ _ _ a1, up2_ne _ _ _ a2]
      refine Sim.put hM1 hS1 hc (fun b hb => w b (by omega) (by omega)) (fun j _ => by rw [w 689 (by decide) (by decide), c689]) (fun i hi j hj => by unfold hrow; rw [w 690 (by decide) (by decide), c690]) (fun _ j _ => by rw [w 691 (by decide) (by decide), c691]) (fun j hj => ?_) ?_ ?_ (up2_same _ _ _ _) (hI.mono (by omega) hB) (fun i hi => (i2 i hi).mono (by omega) hB) (fun t => (i3 t).mono (by omega) hB)
      · rw [up2_ne _ _ _ (by decide), up2_row, upd_at, c693]
      · rw [up2_at, if_neg (by decide), up2_ne _ _ _ (by decide), c688]; exact e2
      · rw [up2_at, if_neg (by decide), up2_ne _ _ _ (by decide), c688]; exact e4
    · exact absurd ho hn
  · rcases hc with ⟨hn, -⟩ | ⟨-, hc⟩
    · exact absurd hn ho
    · exact Sim.put hM1 hS1 hc (fun _ _ => rfl) (fun j _ => by rw [c689]) (fun i hi j hj => by unfold hrow; rw [c690]) (fun _ j _ => by rw [c691]) (fun j hj => by rw [c693]) (by rw [c688]; exact e2) (by rw [c688]; exact e4) (by rw [c688]; exact e7) (hI.mono (by omega) hB) (fun i hi => (i2 i hi).mono (by omega) hB) (fun t => (i3 t).mono (by omega) hB)
theorem pr_clearText (hs : Sm I P B) (hB : B + 9 < 1000000) : Pr l g kX7_clearText kX8_clearText [] I P B := by
  obtain ⟨k, tk, len, hM, hS, hC, ⟨e2, e4, e7⟩, hI, i2, i3⟩ := hs
  refine ⟨_, _, (sm_clearText l g hS hC hI), ?_⟩
  rintro I1 P1 ⟨hS1, hc, hF⟩
  have hM1 := hM.ff hF
  have c688 := (hF 688 (by decide)).1
  have c689 := (hF 689 (by decide)).1
  have c690 := (hF 690 (by decide)).1
  have c691 := (hF 691 (by decide)).1
  refine (sp_clearText l g hM1).imp ?_
  rintro v I2 P2 ⟨r, a, b, rfl, rfl⟩
  refine ⟨r, a, b.trans (by rw [c688]; exact e7), ?_⟩
  have w : ∀ a, a ≠ 688 → up2 I1 688 7 0 a = I1 a := fun a a1 => up2_ne _ _ _ a1
  refine Sim.put hM1 hS1 hc (fun b hb => w b (by omega)) (fun j _ => by rw [w 689 (by decide), c689]) (fun i hi j hj => by unfold hrow; rw [w 690 (by decide), c690]) (fun _ j _ => by rw [w 691 (by decide), c691]) (fun j hj => absurd hj (Nat.not_lt_zero j)) ?_ ?_ (up2_same _ _ _ _) (hI.mono (by omega) hB) (fun i hi => (i2 i hi).mono (by omega) hB) (fun t => (i3 t).mono (by omega) hB)
  · rw [up2_at, if_neg (by decide), c688]; exact e2
  · rw [up2_at, if_neg (by decide), c688]; exact e4
theorem pr_undo (hs : Sm I P B) (hB : B + 9 < 1000000) : Pr l g kX7_undo kX8_undo [] I P B := by
  obtain ⟨k, tk, len, hM, hS, hC, ⟨e2, e4, e7⟩, hI, i2, i3⟩ := hs
  have hk5 := hC.2.1.2.1
  by_cases hk : k = 0
  · refine ⟨_, _, (sm_undo_0 l g hS hC hI hk), ?_⟩
    rintro I1 P1 ⟨hS1, hc, hF⟩
    have hM1 := hM.ff hF
    have c688 := (hF 688 (by decide)).1
    have c689 := (hF 689 (by decide)).1
    have c690 := (hF 690 (by decide)).1
    have c691 := (hF 691 (by decide)).1
    have c693 := (hF 693 (by decide)).1
    refine (sp_undo0 l g hM1 (by rw [c688, e2, hk]; rfl)).imp ?_
    rintro v I2 P2 ⟨r, a, rfl, b, rfl⟩
    exact ⟨r, a, b, Sim.put hM1 hS1 hc (fun _ _ => rfl) (fun j _ => by rw [c689]) (fun i hi j hj => by unfold hrow; rw [c690]) (fun _ j _ => by rw [c691]) (fun j hj => by rw [c693]) (by rw [c688]; exact e2) (by rw [c688]; exact e4) (by rw [c688]; exact e7) (hI.mono (by omega) hB) (fun i hi => (i2 i hi).mono (by omega) hB) (fun t => (i3 t).mono (by omega) hB)⟩
  · have ik := i2 (k - 1) (by omega)
    refine ⟨_, _, (sm_undo_1 l g hS hC hI (by omega) ik.mOf), ?_⟩
    rintro I1 P1 ⟨hS1, hc, hF⟩
    have hM1 := hM.ff hF
    have c688 := (hF 688 (by decide)).1
    have c689 := (hF 689 (by decide)).1
    have c690 := (hF 690 (by decide)).1
    have c691 := (hF 691 (by decide)).1
    have c693 := (hF 693 (by decide)).1
    refine (sp_undo1 l g hM1 (k := k - 1) (by omega) (by rw [c688, e2, Nat.sub_add_cancel (by omega)])).imp ?_
    rintro v I2 P2 ⟨r, a, rfl, b, rfl⟩
    refine ⟨r, a, b, ?_⟩
    have w : ∀ a, a ≠ 688 → a ≠ 689 → wr (up2 I1 688 2 (nI (k - 1))) 689 (cpF (I1 690) (I1 689) (392 * (k - 1)) 0 392) a = I1 a := fun a a1 a2 => by rw [wr_ne _ _ a2, up2_ne _ _ _ a1]
    refine Sim.put hM1 hS1 hc (fun b hb => w b (by omega) (by omega)) (fun j hj => ?_) (fun i hi j hj => by unfold hrow; rw [w 690 (by decide) (by decide), c690]) (fun _ j _ => by rw [w 691 (by decide) (by decide), c691]) (fun j hj => by rw [w 693 (by decide) (by decide), c693]) ?_ ?_ ?_ (ik.mono (by omega) hB) (fun i hi => (i2 i (by omega)).mono (by omega) hB) (fun t => (i3 t).mono (by omega) hB)
    · rw [wr_at]
      unfold cpF hrow
      rw [if_pos ⟨Nat.zero_le _, by omega⟩, c690]
      rfl
    · rw [wr_ne _ _ (by decide), up2_same]
    · rw [wr_ne _ _ (by decide), up2_at, if_neg (by decide), c688]; exact e4
    · rw [wr_ne _ _ (by decide), up2_at, if_neg (by decide), c688]; exact e7
theorem pr_save (hs : Sm I P B) (hB : B + 9 < 1000000) : Pr l g kX7_save kX8_save [] I P B := by
  obtain ⟨k, tk, len, hM, hS, hC, ⟨e2, e4, e7⟩, hI, i2, i3⟩ := hs
  refine ⟨_, _, (sm_save l g hS hC hI), ?_⟩
  rintro I1 P1 ⟨hS1, hc, hF⟩
  have hM1 := hM.ff hF
  have c688 := (hF 688 (by decide)).1
  have c689 := (hF 689 (by decide)).1
  have c690 := (hF 690 (by decide)).1
  have c693 := (hF 693 (by decide)).1
  refine (sp_save l g hM1).imp ?_
  rintro v I2 P2 ⟨r, a, b, rfl, rfl⟩
  refine ⟨r, a, b.trans (by rw [c689]), ?_⟩
  have w : ∀ a, a ≠ 688 → a ≠ 691 → up2 (wr I1 691 (cpF (I1 689) (I1 691) 0 0 392)) 688 4 1 a = I1 a := fun a a1 a2 => by rw [up2_ne _ _ _ a1, wr_ne _ _ a2]
  refine Sim.put hM1 hS1 hc (fun b hb => w b (by omega) (by omega)) (fun j _ => by rw [w 689 (by decide) (by decide), c689]) (fun i hi j hj => by unfold hrow; rw [w 690 (by decide) (by decide), c690]) (fun _ j hj => ?_) (fun j hj => by rw [w 693 (by decide) (by decide), c693]) ?_ (up2_same _ _ _ _) ?_ (hI.mono (by omega) hB) (fun i hi => (i2 i hi).mono (by omega) hB) (fun _ => hI.mono (by omega) hB)
  · rw [up2_ne _ _ _ (by decide), wr_at]
    unfold cpF
    rw [if_pos ⟨Nat.zero_le _, by omega⟩, c689, Nat.sub_zero, Nat.zero_add]
  · rw [up2_at, if_neg (by decide), wr_ne _ _ (by decide), c688]; exact e2
  · rw [up2_at, if_neg (by decide), wr_ne _ _ (by decide), c688]; exact e7
theorem pr_restore (hs : Sm I P B) (hB : B + 9 < 1000000) : Pr l g kX7_restore kX8_restore [] I P B := by
  obtain ⟨k, tk, len, hM, hS, hC, ⟨e2, e4, e7⟩, hI, i2, i3⟩ := hs
  have hk5 := hC.2.1.2.1
  cases tk with
  | false =>
    refine ⟨_, _, (sm_restore_0 l g hS hC hI rfl), ?_⟩
    rintro I1 P1 ⟨hS1, hc, hF⟩
    have hM1 := hM.ff hF
    have c688 := (hF 688 (by decide)).1
    have c689 := (hF 689 (by decide)).1
    have c690 := (hF 690 (by decide)).1
    have c691 := (hF 691 (by decide)).1
    have c693 := (hF 693 (by decide)).1
    have e4' : I1 688 4 = 0 := by rw [c688]; exact e4
    refine (sp_restore l g hM1 hk5 (by rw [c688]; exact e2)).imp ?_
    rintro v I2 P2 ⟨r, a, rfl, d⟩
    rcases d with ⟨-, b, rfl⟩ | ⟨hn, -⟩
    · exact ⟨r, a, b, Sim.put hM1 hS1 hc (fun _ _ => rfl) (fun j _ => by rw [c689]) (fun i hi j hj => by unfold hrow; rw [c690]) (fun _ j _ => by rw [c691]) (fun j hj => by rw [c693]) (by rw [c688]; exact e2) (by rw [c688]; exact e4) (by rw [c688]; exact e7) (hI.mono (by omega) hB) (fun i hi => (i2 i hi).mono (by omega) hB) (fun t => (i3 t).mono (by omega) hB)⟩
    · exact absurd e4' hn
  | true =>
    have ip := i3 rfl
    refine ⟨_, _, (sm_restore_1 l g hS hC hI rfl ip.mOf), ?_⟩
    rintro I1 P1 ⟨hS1, hc, hF⟩
    have hM1 := hM.ff hF
    have c688 := (hF 688 (by decide)).1
    have c689 := (hF 689 (by decide)).1
    have c690 := (hF 690 (by decide)).1
    have c691 := (hF 691 (by decide)).1
    have c693 := (hF 693 (by decide)).1
    have e4' : I1 688 4 = 1 := by rw [c688]; exact e4
    refine (sp_restore l g hM1 hk5 (by rw [c688]; exact e2)).imp ?_
    rintro v I2 P2 ⟨r, a, rfl, d⟩
    rcases d with ⟨h0, -⟩ | ⟨-, b, Ix, hr, rfl⟩
    · rw [e4'] at h0; exact absurd h0 (by decide)
    · refine ⟨r, a, b.trans (by rw [c691]), ?_⟩
      have hx : ∀ a, a ≠ 688 → a ≠ 690 → Ix a = I1 a := hr.1
      have w : ∀ a, a ≠ 688 → a ≠ 690 → a ≠ 689 → wr Ix 689 (cpF (I1 691) (I1 689) 0 0 392) a = I1 a := fun a a1 a2 a3 => (wr_ne _ _ a3).trans (hx a a1 a2)
      have m690 : hrow I1 = hrow I := by funext i j; unfold hrow; rw [c690]
      refine Sim.put hM1 hS1 hc (fun b hb => w b (by omega) (by omega) (by omega)) (fun j hj => ?_) (fun i hi j hj => ?_) (fun _ j _ => by rw [w 691 (by decide) (by decide) (by decide), c691]) (fun j hj => by rw [w 693 (by decide) (by decide) (by decide), c693]) ?_ ?_ ?_ (ip.mono (by omega) hB) (fun i hi => ?_) (fun t => (i3 t).mono (by omega) hB)
      · rw [wr_at]
        unfold cpF
        rw [if_pos ⟨Nat.zero_le _, by omega⟩, c691, Nat.sub_zero, Nat.zero_add]
      · have := hr.2.2.2 i j hi hj
        rw [m690, c689] at this
        rw [← this]
        unfold hrow
        rw [wr_ne _ _ (by decide)]
      · rw [wr_ne _ _ (by decide)]; exact hr.2.2.1
      · rw [wr_ne _ _ (by decide), hr.2.1 4 (by decide)]; exact e4'
      · rw [wr_ne _ _ (by decide), hr.2.1 7 (by decide), c688]; exact e7
      · unfold rH
        by_cases q : i + 1 = rK k
        · rw [if_pos q]; exact hI.mono (by omega) hB
        · rw [if_neg q]
          unfold rK at hi q
          by_cases q5 : k = 5
          · rw [if_pos q5] at hi q ⊢
            exact (i2 (i + 1) (by omega)).mono (by omega) hB
          · rw [if_neg q5] at hi q ⊢
            exact (i2 i (by omega)).mono (by omega) hB
theorem pr_fewest (hs : Sm I P B) (hB : B + 9 < 1000000) (x w : Int32) : Pr l g kX7_fewest kX8_fewest [.int x, .int w] I P B := by
  obtain ⟨k, tk, len, hM, hS, hC, ⟨e2, e4, e7⟩, hI, i2, i3⟩ := hs
  refine ⟨_, _, (sm_fewest l g hS hC hI x w), ?_⟩
  rintro I1 P1 ⟨hS1, hc, hF⟩
  have hM1 := hM.ff hF
  have c688 := (hF 688 (by decide)).1
  have c689 := (hF 689 (by decide)).1
  have c690 := (hF 690 (by decide)).1
  have c691 := (hF 691 (by decide)).1
  have c693 := (hF 693 (by decide)).1
  have h8 := sp_fewest l g (I := I1) (s := I1 689) (b := I1 695) (c := I1 696) (B := B) hM1 (by rw [c689]; exact hI) x w
  rw [mB_self] at h8
  refine h8.imp ?_
  rintro v I2 P2 ⟨r, a, b, rfl, b1, c1, rfl⟩
  refine ⟨r, a, b.trans (by rw [c689]; exact (few_eq hI x w (s0 I) _ _).symm), ?_⟩
  have w : ∀ a, a ≠ 695 → a ≠ 696 → mB I1 b1 c1 (I1 689) a = I1 a := fun a a1 a2 => by
    unfold mB
    by_cases h : a = 689
    · subst h; rw [wr_at]
    · rw [wr_ne _ _ h, wr_ne _ _ a2, wr_ne _ _ a1]
  exact Sim.put hM1 hS1 hc (fun b hb => w b (by omega) (by omega)) (fun j _ => by rw [w 689 (by decide) (by decide), c689]) (fun i hi j hj => by unfold hrow; rw [w 690 (by decide) (by decide), c690]) (fun _ j _ => by rw [w 691 (by decide) (by decide), c691]) (fun j hj => by rw [w 693 (by decide) (by decide), c693]) (by rw [w 688 (by decide) (by decide), c688]; exact e2) (by rw [w 688 (by decide) (by decide), c688]; exact e4) (by rw [w 688 (by decide) (by decide), c688]; exact e7) (hI.mono (by omega) hB) (fun i hi => (i2 i hi).mono (by omega) hB) (fun t => (i3 t).mono (by omega) hB)
theorem pr_nextHome (hs : Sm I P B) (hB : B + 9 < 1000000) (x : Int32) : Pr l g kX7_nextHome kX8_nextHome [.int x] I P B := by
  obtain ⟨k, tk, len, hM, hS, hC, ⟨e2, e4, e7⟩, hI, i2, i3⟩ := hs
  refine ⟨_, _, (sm_nextHome l g hS hC hI x), ?_⟩
  rintro I1 P1 ⟨hS1, hc, hF⟩
  have hM1 := hM.ff hF
  have c688 := (hF 688 (by decide)).1
  have c689 := (hF 689 (by decide)).1
  have c690 := (hF 690 (by decide)).1
  have c691 := (hF 691 (by decide)).1
  have c693 := (hF 693 (by decide)).1
  refine (sp_nextHome l g (I := I1) hM1 (B := B) (by rw [c689]; exact hI) x).imp ?_
  rintro v I2 P2 ⟨r, a, b, rfl, t, b1, et, rfl⟩
  refine ⟨r, a, b.trans (by rw [c689]), ?_⟩
  have w : ∀ a, a ≠ 692 → a ≠ 689 → wr (wr I1 692 b1) 689 t a = I1 a := fun a a1 a2 => by rw [wr_ne _ _ a2, wr_ne _ _ a1]
  exact Sim.put hM1 hS1 hc (fun b hb => w b (by omega) (by omega)) (fun j hj => by rw [wr_at, et j hj, c689]) (fun i hi j hj => by unfold hrow; rw [w 690 (by decide) (by decide), c690]) (fun _ j _ => by rw [w 691 (by decide) (by decide), c691]) (fun j hj => by rw [w 693 (by decide) (by decide), c693]) (by rw [w 688 (by decide) (by decide), c688]; exact e2) (by rw [w 688 (by decide) (by decide), c688]; exact e4) (by rw [w 688 (by decide) (by decide), c688]; exact e7) (hI.mono (by omega) hB) (fun i hi => (i2 i hi).mono (by omega) hB) (fun t => (i3 t).mono (by omega) hB)
end
