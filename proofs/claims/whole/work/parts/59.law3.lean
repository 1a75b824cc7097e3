/-! progress; the law's loop; the law -/
section LAWE
variable {p : Program} {l : Launch} {e : Env} {s : State} {m : MethodId} {below : List Frame} {meth : Method} {c : Code} {b Ln : Nat} {xs : Nat → Int32} {g : fw_G} {I : fw_I} {P : fw_P} {T : fw_T} {w i B : Nat}
theorem LL.has {ls : Array Slot} (h : fw_L2 ls 8 (LL b g i)) : lv_has ls 8 [(0, .ref b), (1, .ref (g.1 + 0)), (2, .ref (g.1 + 688)), (3, .int (nI i))] := ⟨h.1, h.2.1, fun q hq => by
  simp only [List.mem_cons, List.not_mem_nil, or_false] at hq
  rcases hq with rfl | rfl | rfl | rfl
  · exact h.2.2 0 _ rfl
  · exact h.2.2 1 _ rfl
  · exact h.2.2 2 _ rfl
  · exact h.2.2 3 _ rfl⟩
theorem LL.cat : ∀ v, some v ∈ LL b g i → v.category = 1 := by
  intro v hv
  simp only [List.mem_cons, List.not_mem_nil, or_false, Option.some.injEq, reduceCtorEq] at hv
  rcases hv with rfl | rfl | rfl | rfl <;> rfl
set_option maxHeartbeats 4000000 in
set_option maxRecDepth 100000 in
theorem lk_progress (C : LC p s m meth c b Ln xs g) (hi : i + 5 ≤ Ln) (hw : w ≤ 7302250) (hB : B + 9 < 1000000) (hs : Sm I P B) (hk : ∀ I2 P2, Sm I2 P2 (B + 9) → VL p l e s m below meth c b g T0 I2 P2 w 834 (LL b g i) []) : VL p l e s m below meth c b g T0 I P w 783 (LL b g i) [] := by
  obtain ⟨k, tk, len, hM, hS0, hC, -, hI, -⟩ := id hs
  have h7 := sc_progress l g hS0 hC hI (xs (i + 1))
  have h8 := sp_progress l g (I := I) (P := P) (s := I 689) hM hI (xs (i + 1))
  have hcmp := pr_cmp hI (xs (i + 1))
  rw [wr_self] at h8
  generalize prX (I 689) (xs (i + 1)) = v at h7 h8 hcmp
  refine L_aload_n C (i := 1) rfl rfl dL_law_783 rfl ?_
  refine L_arg C (i := i) (n := 1) (by decide) rfl rfl (by omega) dL_law_784 dL_law_785 dL_law_786 dL_law_787 dL_law_788 rfl ?_
  refine L_call C (n := 1) h7 o_X7_progress m_L_110 ⟨by decide, by decide⟩ at_0 rfl rfl (by first | exact Nat.le_of_ble_eq_true rfl | simp [Value.category]) (Nat.le_of_ble_eq_true rfl) hw rfl dL_law_789 rfl ?_
  rintro _ I1 P1 ⟨rfl, e1, e2⟩
  rw [e1, e2]
  suffices K : VL p l e s m below meth c b g T0 I P (w + 0) 794 [some (.ref b), some (.ref (g.1 + 0)), some (.ref (g.1 + 688)), some (.int (nI i)), some (.double v), none, none, none] [] by
    intro H locs ls hR hS hL2
    refine lv_dstore (lv' := [(4, .double v), (0, .ref b), (1, .ref (g.1 + 0)), (2, .ref (g.1 + 688)), (3, .int (nI i))]) C.1.1 C.1.2.1 dL_law_792 (LL.has hL2) (by decide) rfl (fun ls' hl' => ?_)
    refine K H locs ls' hR hS (fw_L2.of hl' (fun j u hj => ?_))
    match j, hj with
    | 0, hj => cases hj; simp
    | 1, hj => cases hj; simp
    | 2, hj => cases hj; simp
    | 3, hj => cases hj; simp
    | 4, hj => cases hj; simp
    | 5, hj => simp at hj
    | 6, hj => simp at hj
    | 7, hj => simp at hj
    | j + 8, hj => simp at hj
  refine L_aload_n C (i := 2) rfl rfl dL_law_794 rfl ?_
  refine L_arg C (i := i) (n := 1) (by decide) rfl rfl (by omega) dL_law_795 dL_law_796 dL_law_797 dL_law_798 dL_law_799 rfl ?_
  refine L_call C (n := 1) h8 o_X8_progress m_L_114 ⟨by decide, by decide⟩ at_688 rfl rfl (by first | exact Nat.le_of_ble_eq_true rfl | simp [Value.category]) (Nat.le_of_ble_eq_true rfl) hw rfl dL_law_800 rfl ?_
  rintro _ I2 P2 ⟨rfl, e3, e4⟩
  rw [e3, e4]
  have K := hk I P (hs.mono (by omega) hB)
  intro H locs ls hR hS hL2
  have hl : lv_has ls 8 [(4, .double v), (0, .ref b), (1, .ref (g.1 + 0)), (2, .ref (g.1 + 688)), (3, .int (nI i))] := ⟨hL2.1, hL2.2.1, fun q hq => by
    simp only [List.mem_cons, List.not_mem_nil, or_false] at hq
    rcases hq with rfl | rfl | rfl | rfl | rfl
    · exact hL2.2.2 4 _ rfl
    · exact hL2.2.2 0 _ rfl
    · exact hL2.2.2 1 _ rfl
    · exact hL2.2.2 2 _ rfl
    · exact hL2.2.2 3 _ rfl⟩
  refine lv_dstore (lv' := [(6, .double v), (4, .double v), (0, .ref b), (1, .ref (g.1 + 0)), (2, .ref (g.1 + 688)), (3, .int (nI i))]) C.1.1 C.1.2.1 dL_law_803 hl (by decide) rfl (fun ls' hl' => ?_)
  refine lv_dload C.1.1 C.1.2.1 dL_law_805 (lv_at hl' 1 rfl) ?_
  refine lv_dload C.1.1 C.1.2.1 dL_law_807 (lv_at hl' 0 rfl) ?_
  refine lv_dcmp C.1.1 C.1.2.1 dL_law_809 ?_
  rw [hcmp]
  refine lv_if_eq (tgt := 831) C.1.1 C.1.2.1 dL_law_810 (by decide) (fun _ => ?_) (fun h => absurd rfl h)
  refine lv_goto (tgt := 834) C.1.1 C.1.2.1 dL_law_831 (by decide) ?_
  refine K H locs ls' hR hS (fw_L2.of hl' (fun j u hj => ?_))
  match j, hj with
  | 0, hj => cases hj; simp
  | 1, hj => cases hj; simp
  | 2, hj => cases hj; simp
  | 3, hj => cases hj; simp
  | 4, hj => simp at hj
  | 5, hj => simp at hj
  | 6, hj => simp at hj
  | 7, hj => simp at hj
  | j + 8, hj => simp at hj
theorem ln_le {Ln j : Nat} (hL : Ln ≤ 2560) (hj : j ≤ 2560) (h : ¬ nI Ln - 5 < nI j) : j + 5 ≤ Ln := by
  refine Decidable.not_not.mp fun q => h ?_
  rw [i32_lt, show (5 : Int32) = nI 5 from rfl, Int32.toInt_sub, nI_toInt (by omega), nI_toInt (by omega), nI_toInt (by omega), Int.bmod_eq_of_le (by omega) (by omega)]
  omega
set_option maxHeartbeats 4000000 in
set_option maxRecDepth 100000 in
theorem law_loop (C : LC p s m meth c b Ln xs g) (hw : w ≤ 7302250) : ∀ (n j : Nat) (I : fw_I) (P : fw_P), j + n = 513 → j ≤ 512 → Sm I P (10 + 9 * j) → VL p l e s m below meth c b g T0 I P w 18 (LL b g (5 * j)) [] := by
  intro n
  induction n with
  | zero => intro j I P h1 h2; omega
  | succ n ih =>
    intro j I P hn hj5 hs
    have hL := C.2.2.2
    refine L_iload_n C (i := 3) rfl rfl dL_law_18 rfl ?_
    refine L_aload_n C (i := 0) rfl rfl dL_law_19 rfl ?_
    refine L_alen C dL_law_20 rfl ?_
    refine L_iconst C (v := 5) (by decide) dL_law_21 rfl ?_
    refine L_isub C dL_law_22 rfl ?_
    refine L_icmp_gt C (tgt := 840) dL_law_23 (by decide) rfl (fun _ => L_true C (Nat.le_of_ble_eq_true rfl) hw) (fun hgt => ?_)
    have hj : 5 * j + 5 ≤ Ln := ln_le hL (by omega) hgt
    have hB : 10 + 9 * j + 9 < 1000000 := by omega
    have hk : ∀ I2 P2, Sm I2 P2 (10 + 9 * j + 9) → VL p l e s m below meth c b g T0 I2 P2 w 834 (LL b g (5 * j)) [] := fun I2 P2 h2 => by
      refine L_iinc C (i := 3) (x := nI (5 * j)) (v := nI (5 * (j + 1))) (L' := LL b g (5 * (j + 1))) rfl ?_ (by decide) LL.cat rfl dL_law_834 rfl ?_
      · rw [show Int32.ofInt 5 = nI 5 from rfl, nI_add]
        rfl
      · refine L_goto C (tgt := 18) dL_law_837 (by decide) ?_
        exact ih (j + 1) I2 P2 (by omega) (by omega) (by rw [show 10 + 9 * (j + 1) = 10 + 9 * j + 9 from by omega]; exact h2)
    refine L_aload_n C (i := 0) rfl rfl dL_law_26 rfl ?_
    refine L_iload_n C (i := 3) rfl rfl dL_law_27 rfl ?_
    refine L_iald C (j := 5 * j) rfl (by omega) dL_law_28 rfl ?_
    refine L_bipush C (v := 31) (by decide) dL_law_29 rfl ?_
    refine L_iand C dL_law_31 rfl ?_
    generalize xs (5 * j) &&& 31 = x
    rcases (show x.toInt = 0 ∨ x.toInt = 1 ∨ x.toInt = 2 ∨ x.toInt = 3 ∨ x.toInt = 4 ∨ x.toInt = 5 ∨ x.toInt = 6 ∨ x.toInt = 7 ∨ x.toInt = 8 ∨ x.toInt = 9 ∨ x.toInt = 10 ∨ x.toInt = 11 ∨ x.toInt = 12 ∨ x.toInt = 13 ∨ x.toInt = 14 ∨ x.toInt = 15 ∨ x.toInt = 16 ∨ x.toInt = 17 ∨ x.toInt = 18 ∨ x.toInt = 19 ∨ x.toInt = 20 ∨ x.toInt = 21 ∨ x.toInt = 22 ∨ x.toInt = 23 ∨ x.toInt < 0 ∨ (23 : Int) < x.toInt by omega) with hx | hx | hx | hx | hx | hx | hx | hx | hx | hx | hx | hx | hx | hx | hx | hx | hx | hx | hx | hx | hx | hx | hx | hx | hx | hx
    · exact L_tableIn C (off := 112) (tgt := 144) dL_law_32 (by omega) (by omega) (by rw [hx]; rfl) (by decide) (lk_snake C hj hw hB hs hk)
    · exact L_tableIn C (off := 145) (tgt := 177) dL_law_32 (by omega) (by omega) (by rw [hx]; rfl) (by decide) (lk_charm C hj hw hB hs hk)
    · exact L_tableIn C (off := 178) (tgt := 210) dL_law_32 (by omega) (by omega) (by rw [hx]; rfl) (by decide) (lk_turn C hj hw hB hs hk)
    · exact L_tableIn C (off := 201) (tgt := 233) dL_law_32 (by omega) (by omega) (by rw [hx]; rfl) (by decide) (lk_play C hj hw hB hs hk)
    · exact L_tableIn C (off := 234) (tgt := 266) dL_law_32 (by omega) (by omega) (by rw [hx]; rfl) (by decide) (lk_sell C hj hw hB hs hk)
    · exact L_tableIn C (off := 287) (tgt := 319) dL_law_32 (by omega) (by omega) (by rw [hx]; rfl) (by decide) (lk_set C hj hw hB hs hk)
    · exact L_tableIn C (off := 320) (tgt := 352) dL_law_32 (by omega) (by omega) (by rw [hx]; rfl) (by decide) (lk_append C hj hw hB hs hk)
    · exact L_tableIn C (off := 343) (tgt := 375) dL_law_32 (by omega) (by omega) (by rw [hx]; rfl) (by decide) (lk_clearText C hj hw hB hs hk)
    · exact L_tableIn C (off := 356) (tgt := 388) dL_law_32 (by omega) (by omega) (by rw [hx]; rfl) (by decide) (lk_fault C hj hw hB hs hk)
    · exact L_tableIn C (off := 369) (tgt := 401) dL_law_32 (by omega) (by omega) (by rw [hx]; rfl) (by decide) (lk_run C hj hw hB hs hk)
    · exact L_tableIn C (off := 382) (tgt := 414) dL_law_32 (by omega) (by omega) (by rw [hx]; rfl) (by decide) (lk_undo C hj hw hB hs hk)
    · exact L_tableIn C (off := 395) (tgt := 427) dL_law_32 (by omega) (by omega) (by rw [hx]; rfl) (by decide) (lk_save C hj hw hB hs hk)
    · exact L_tableIn C (off := 408) (tgt := 440) dL_law_32 (by omega) (by omega) (by rw [hx]; rfl) (by decide) (lk_restore C hj hw hB hs hk)
    · exact L_tableIn C (off := 421) (tgt := 453) dL_law_32 (by omega) (by omega) (by rw [hx]; rfl) (by decide) (lk_player C hj hw hB hs hk)
    · exact L_tableIn C (off := 454) (tgt := 486) dL_law_32 (by omega) (by omega) (by rw [hx]; rfl) (by decide) (lk_bite C hj hw hB hs hk)
    · exact L_tableIn C (off := 497) (tgt := 529) dL_law_32 (by omega) (by omega) (by rw [hx]; rfl) (by decide) (lk_snakeOf C hj hw hB hs hk)
    · exact L_tableIn C (off := 530) (tgt := 562) dL_law_32 (by omega) (by omega) (by rw [hx]; rfl) (by decide) (lk_square C hj hw hB hs hk)
    · exact L_tableIn C (off := 563) (tgt := 595) dL_law_32 (by omega) (by omega) (by rw [hx]; rfl) (by decide) (lk_count C hj hw hB hs hk)
    · exact L_tableIn C (off := 586) (tgt := 618) dL_law_32 (by omega) (by omega) (by rw [hx]; rfl) (by decide) (lk_why C hj hw hB hs hk)
    · exact L_tableIn C (off := 639) (tgt := 671) dL_law_32 (by omega) (by omega) (by rw [hx]; rfl) (by decide) (lk_cheapest C hj hw hB hs hk)
    · exact L_tableIn C (off := 672) (tgt := 704) dL_law_32 (by omega) (by omega) (by rw [hx]; rfl) (by decide) (lk_dangers C hj hw hB hs hk)
    · exact L_tableIn C (off := 695) (tgt := 727) dL_law_32 (by omega) (by omega) (by rw [hx]; rfl) (by decide) (lk_fewest C hj hw hB hs hk)
    · exact L_tableIn C (off := 728) (tgt := 760) dL_law_32 (by omega) (by omega) (by rw [hx]; rfl) (by decide) (lk_nextHome C hj hw hB hs hk)
    · exact L_tableIn C (off := 751) (tgt := 783) dL_law_32 (by omega) (by omega) (by rw [hx]; rfl) (by decide) (lk_progress C hj hw hB hs hk)
    · exact L_tableOut C (tgt := 834) dL_law_32 (Or.inl hx) (by decide) (hk I P (hs.mono (by omega) hB))
    · exact L_tableOut C (tgt := 834) dL_law_32 (Or.inr hx) (by decide) (hk I P (hs.mono (by omega) hB))
end LAWE
