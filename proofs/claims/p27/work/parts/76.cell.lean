variable {nT : Nat}
/-! the script, read by the law's own small method -/
def cellP (g : fw_G) (T : fw_T) (I : fw_I) (P : fw_P) (b Ln : Nat) (xs : Nat → Int32) (j : Nat) : Array Value → State → Prop := fun v U => fw_Pc g T I P [.ref b, .int (nI j)] v U ∧ (b < g.1 ∧ va_X b Ln xs U U.heap)
theorem cell_blind (g : fw_G) (T : fw_T) (I : fw_I) (P : fw_P) (b Ln : Nat) (xs : Nat → Int32) (j : Nat) : FrameBlind (cellP g T I P b Ln xs j) := fun a U f mk h => ⟨fw_blind g T I P _ a U f mk h.1, h.2.1, va_X.moved (u := U) (U := U.calling f mk a) (Vm.Alike.refl U.vm) h.2.2⟩
set_option maxHeartbeats 4000000 in
set_option maxRecDepth 100000 in
theorem sp_cell (l : Launch) (g : fw_G) {T : fw_T} {I : fw_I} {P : fw_P} {b Ln : Nat} {xs : Nat → Int32} {j : Nat} (hj : j < 2 ^ 31) (hLn : Ln < 2 ^ 31) : Met l kL_cell.1 (fw_wsk kL_cell) (fw_rm kL_cell 0 0) (cellP g T I P b Ln xs j) (fw_post g T (qJ (fun _ I1 P1 => I1 = I ∧ P1 = P))) 0 0 (fw_A g) := by
  refine Met.ofW (cc := cL_cell) (maxL := 2) (ret := some .int) (by decide) rfl ?_
  intro p e s m args below meth c s₁ B hml hv
  obtain ⟨⟨rfl, ⟨hz, hR⟩, hK⟩, hbg, hX⟩ := hv
  have hts0 := atoms_spec (ws := fw_wsk kL_cell) B.pre
  have hts : ∀ w ∈ fw_U, w.before #[Value.ref b, Value.int (nI j)] s = true := fun w hw => hts0 w (List.mem_cons_of_mem _ hw)
  have hown := findClass_of_methodNamed B.named
  have hx := B.exec
  have hb := B.bytes
  have hl := lv_entry ([.ref b, .int (nI j)]) (n := 2) (Nat.le_of_ble_eq_true rfl)
  rw [lg_entry_eq]
  generalize (lg_sl ([.ref b, .int (nI j)]) ++ List.replicate (2 - (lg_sl ([.ref b, .int (nI j)])).length) Slot.unset).toArray = ls at hl ⊢
  have hl : lv_has ls 2 [(0, .ref b), (1, .int (nI j))] := hl
  have hbl : b < s.heap.size := by rw [hz]; omega
  have hnA : ¬ fw_A g b := fun h => by have h1 : g.1 ≤ b := h; omega
  have hS : va_S (fw_A g) s.heap s.heap [] := va_S.rf
  refine lv_iload_n hx hb dL_cell_0 rfl (lv_at hl 1 rfl) ?_
  refine lv_aload_n hx hb dL_cell_1 rfl (lv_at hl 0 rfl) ?_
  refine va_slen hx hb hX hbl hnA hS dL_cell_2 ?_
  refine lv_icmp_ge (tgt := 12) hx hb dL_cell_3 (by decide) (fun h => ?_) (fun h => ?_)
  · refine lv_ldc hx hb hown (hts _ cst_L_7) dL_cell_12 ?_
    refine lv_iload_n hx hb dL_cell_14 rfl (lv_at hl 1 rfl) ?_
    refine lv_iconst (v := 5) hx hb dL_cell_15 (by decide) ?_
    refine lv_iadd hx hb dL_cell_16 ?_
    refine lv_imul hx hb dL_cell_17 ?_
    refine lv_ldc hx hb hown (hts _ cst_L_8) dL_cell_18 ?_
    refine lv_iadd hx hb dL_cell_20 ?_
    exact W.zret hx hb B.returns rfl (fun t ht hW => ⟨⟨_, I, P, rfl, ⟨_, rfl, rfl, rfl⟩, by rw [ht]; exact hR⟩, hS.F ht⟩) hS.2.2 dL_cell_21 B.notSynchronized
  · have hjl : j < Ln := Nat.lt_of_not_le (fun z => h (nI_le z hj))
    refine lv_aload_n hx hb dL_cell_6 rfl (lv_at hl 0 rfl) ?_
    refine lv_iload_n hx hb dL_cell_7 rfl (lv_at hl 1 rfl) ?_
    refine va_sld hx hb hX hbl hnA hS (vp_in_nI hjl (by omega)) dL_cell_8 ?_
    refine lv_goto (tgt := 21) hx hb dL_cell_9 (by decide) ?_
    exact W.zret hx hb B.returns rfl (fun t ht hW => ⟨⟨_, I, P, rfl, ⟨_, rfl, rfl, rfl⟩, by rw [ht]; exact hR⟩, hS.F ht⟩) hS.2.2 dL_cell_21 B.notSynchronized
