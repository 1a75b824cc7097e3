variable {nT : Nat}
/-! turns by drawn throws, as the law looks at them -/
theorem Sx.fr {I J0 : fw_I} {P Q : fw_P} {s : Nat → Int32} {k : Nat} {h : Nat → Nat → Int32} (hx : Sx I P s k h) (e : ∀ b, b < 688 → J0 b = I b ∧ Q b = P b) : Sx J0 Q s k h := ⟨hx.1.fr (fun b hb => (e b hb).2), CRel.fr hx.1 hx.2 e⟩
def p5 (s : Nat → Int32) (i : Nat) : Int32 := if ro s i 2 = 0 then -5 else ro s i 2
theorem at_had : fw_at (T0 (nT + 1)) (688 + nT) 9 4 := by
  refine ⟨by show 688 + nT < 688 + (nT + 1); omega, ?_⟩
  show tt (688 + nT) = (9, 4)
  unfold tt
  rw [if_neg (by omega), if_neg (by omega), if_neg (by omega), if_neg (by omega), if_neg (by omega), if_neg (by omega), if_neg (by omega), if_neg (by omega), if_neg (by omega), if_neg (by omega)]
theorem rH_top {k : Nat} (h : Nat → Nat → Int32) (s : Nat → Int32) : rH k h s (rK k - 1) = s := by
  have : 0 < rK k := by unfold rK; split <;> omega
  unfold rH
  rw [if_pos (by omega)]
theorem add_ne {x : Int32} {n : Nat} (h0 : 0 < n) (hn : n < 2 ^ 31) : ¬ x + nI n = x := fun h => by
  have e := Int32.add_sub_cancel (nI n) x
  rw [Int32.add_comm, h, Int32.sub_self] at e
  have := nI_eq0 e.symm hn
  omega
theorem pyR_n {s : Nat → Int32} (h4 : ¬ s 4 = 4) {x : Int32} (hx : 0 ≤ x ∧ x ≤ 65535) {m : Nat} (h1 : 1 ≤ m) (h5 : m ≤ 50) : aPyC x (nI m) ∧ aPyR s x (nI m) = nI (aPyF m x s).1 ∧ (nI m).toNatClampNeg = m := by
  have hc : aPyC x (nI m) := ⟨hx, nI_le (a := 1) h1 (by omega), nI_le (b := 50) h5 (by decide)⟩
  have e : (nI m).toNatClampNeg = m := nI_clamp (by omega)
  refine ⟨hc, ?_, e⟩
  unfold aPyR
  rw [if_neg (fun z => z hc), if_neg h4, e]
theorem pyR_o {s : Nat → Int32} (h4 : s 4 = 4) {x : Int32} (hx : 0 ≤ x ∧ x ≤ 65535) {m : Nat} (h1 : 1 ≤ m) (h5 : m ≤ 50) : aPyR s x (nI m) = -4 := by
  unfold aPyR
  rw [if_neg (fun z => z ⟨hx, nI_le (a := 1) h1 (by omega), nI_le (b := 50) h5 (by decide)⟩), if_pos h4]

set_option maxHeartbeats 4000000 in
set_option maxRecDepth 100000 in
theorem lp_p1 {l : Launch} {g : fw_G} {s : Nat → Int32} {k : Nat} {h : Nat → Nat → Int32} {B x m : Nat} (v3 v5 : Int32) {Q : Option Value → fw_I → fw_P → Prop} (hk : ∀ I P, Wd I P s k h B → (∀ i, i < 4 → I (688 + nT) i = p5 s i) → V l g kL_plays (T0 (nT + 1)) 1 4 (Q) (T0 (nT + 1)) I P 1 4 45 [some (.ref (g.1 + 0)), some (.int (nI x)), some (.int (nI m)), some (.int v3), some (.ref (g.1 + (688 + nT))), some (.int v5), some (.int (nI 4)), none, none, none] []) : ∀ (n j : Nat) (I : fw_I) (P : fw_P), j + n = 4 → Wd I P s k h B → (∀ i, i < j → I (688 + nT) i = p5 s i) → V l g kL_plays (T0 (nT + 1)) 1 4 (Q) (T0 (nT + 1)) I P 1 4 21 [some (.ref (g.1 + 0)), some (.int (nI x)), some (.int (nI m)), some (.int v3), some (.ref (g.1 + (688 + nT))), some (.int v5), some (.int (nI j)), none, none, none] [] := by
  have a0 := at_0 (nT := nT + 1)
  intro n
  induction n with
  | zero =>
    intro j I P hj hx hr
    obtain rfl : j = 4 := by omega
    refine V_iload (i := 6) rfl dL_plays_21 rfl ?_
    refine V_iconst (v := 4) (by decide) dL_plays_23 rfl ?_
    refine V_icmp_ge (tgt := 45) dL_plays_24 (by decide) rfl (fun _ => ?_) (fun h => absurd (by decide) h)
    exact hk I P hx hr
  | succ n ih =>
    intro j I P hjm hx hr
    have hj : j < 4 := by omega
    refine V_iload (i := 6) rfl dL_plays_21 rfl ?_
    refine V_iconst (v := 4) (by decide) dL_plays_23 rfl ?_
    refine V_icmp_ge (tgt := 45) dL_plays_24 (by decide) rfl (fun h => absurd h (nI_ge (b := 4) hj (by decide))) (fun _ => ?_)
    refine V_aload (i := 4) rfl dL_plays_27 rfl ?_
    refine V_iload (i := 6) rfl dL_plays_29 rfl ?_
    refine V_aload_n (i := 0) rfl rfl dL_plays_31 rfl ?_
    refine V_iload (i := 6) rfl dL_plays_32 rfl ?_
    refine V_iconst (v := 5) (by decide) dL_plays_34 rfl ?_
    refine V_call (n := 2) (q_pl5 hx hj) o_X7_player m_L_10 ⟨by decide, by decide⟩ (by assumption) rfl rfl (by first | exact Nat.le_of_ble_eq_true rfl | simp [Value.category]) (by decide) (by decide) rfl dL_plays_35 rfl (kI ?_)
    refine V_iast at_had (fw_ix_nI hj (by decide)) dL_plays_38 rfl ?_
    refine V_iinc1 (i := 6) rfl (by decide) rfl dL_plays_39 rfl ?_
    refine V_goto (tgt := 21) dL_plays_42 (by decide) ?_
    rw [nI_1]
    refine ih (j + 1) _ P (by omega) (hx.to (hx.1.fr (fun b hb => ⟨up2_ne _ _ _ (by omega), rfl⟩))) (fun i hi => ?_)
    rw [up2_at]
    by_cases q : i = j
    · rw [if_pos ⟨rfl, q⟩, q]; rfl
    · rw [if_neg (fun z => q z.2)]; exact hr i (by omega)

set_option maxHeartbeats 4000000 in
set_option maxRecDepth 100000 in
theorem lp_p2 {l : Launch} {g : fw_G} {I : fw_I} {P : fw_P} {s t : Nat → Int32} {k : Nat} {h : Nat → Nat → Int32} {B x m : Nat} (hw : Wd I P t k h B) (hp : jP s) (hr : ∀ i, i < 4 → I (688 + nT) i = p5 s i) (hv : ∀ i, i < 4 → ro s i 2 = 0 → ¬ ro t i 2 = 0 → ∃ v, ro t i 2 = nI v ∧ 1 ≤ v ∧ v ≤ 4) (v3 v5 v6 : Int32) {Q : Option Value → fw_I → fw_P → Prop} (hk : V l g kL_plays (T0 (nT + 1)) 1 4 (Q) (T0 (nT + 1)) I P 1 4 153 [some (.ref (g.1 + 0)), some (.int (nI x)), some (.int (nI m)), some (.int v3), some (.ref (g.1 + (688 + nT))), some (.int v5), some (.int v6), some (.int (bsF s t 4)), some (.int (nI 4)), none] []) : ∀ (n j : Nat), j + n = 4 → V l g kL_plays (T0 (nT + 1)) 1 4 (Q) (T0 (nT + 1)) I P 1 4 90 [some (.ref (g.1 + 0)), some (.int (nI x)), some (.int (nI m)), some (.int v3), some (.ref (g.1 + (688 + nT))), some (.int v5), some (.int v6), some (.int (bsF s t j)), some (.int (nI j)), none] [] := by
  have a0 := at_0 (nT := nT + 1)
  intro n
  induction n with
  | zero =>
    intro j hj
    obtain rfl : j = 4 := by omega
    refine V_iload (i := 8) rfl dL_plays_90 rfl ?_
    refine V_iconst (v := 4) (by decide) dL_plays_92 rfl ?_
    refine V_icmp_ge (tgt := 153) dL_plays_93 (by decide) rfl (fun _ => ?_) (fun h => absurd (by decide) h)
    exact hk
  | succ n ih =>
    intro j hjm
    have hj : j < 4 := by omega
    have ebs : bsF s t (j + 1) = if ro s j 2 = 0 ∧ ¬ ro t j 2 = 0 ∧ (bsF s t j < 0 ∨ ro t j 2 < ro t (bsF s t j).toNatClampNeg 2) then nI j else bsF s t j := rfl
    by_cases hs : ro s j 2 = 0
    · have hs5 : p5 s j = -5 := if_pos hs
      by_cases ht : ro t j 2 = 0
      · have eb : bsF s t (j + 1) = bsF s t j := by rw [ebs, if_neg (fun z => z.2.1 ht)]
        refine V_iload (i := 8) rfl dL_plays_90 rfl ?_
        refine V_iconst (v := 4) (by decide) dL_plays_92 rfl ?_
        refine V_icmp_ge (tgt := 153) dL_plays_93 (by decide) rfl (fun h => absurd h (nI_ge (b := 4) hj (by decide))) (fun _ => ?_)
        refine V_aload (i := 4) rfl dL_plays_96 rfl ?_
        refine V_iload (i := 8) rfl dL_plays_98 rfl ?_
        refine V_iald at_had (fw_ix_nI hj (by decide)) dL_plays_100 rfl ?_
        rw [hr j hj]
        refine V_bipush (v := (-5)) (by decide) dL_plays_101 rfl ?_
        refine V_icmp_ne (tgt := 143) dL_plays_103 (by decide) rfl (fun h => absurd hs5 h) (fun _ => ?_)
        refine V_aload_n (i := 0) rfl rfl dL_plays_106 rfl ?_
        refine V_iload (i := 8) rfl dL_plays_107 rfl ?_
        refine V_iconst (v := 5) (by decide) dL_plays_109 rfl ?_
        refine V_call (n := 2) (q_pl5 hw hj) o_X7_player m_L_10 ⟨by decide, by decide⟩ (by assumption) rfl rfl (by first | exact Nat.le_of_ble_eq_true rfl | simp [Value.category]) (by decide) (by decide) rfl dL_plays_110 rfl (kI ?_)
        rw [if_pos ht]
        refine V_if_le (tgt := 143) dL_plays_113 (by decide) rfl (fun _ => ?_) (fun h => absurd (by decide) h)
        refine V_iload (i := 7) rfl dL_plays_143 rfl ?_
        refine V_istore (i := 7) (by decide) rfl dL_plays_145 rfl ?_
        refine V_iinc1 (i := 8) rfl (by decide) rfl dL_plays_147 rfl ?_
        refine V_goto (tgt := 90) dL_plays_150 (by decide) ?_
        have h9 := ih (j + 1) (by omega)
        rw [eb] at h9
        rw [nI_1]
        exact h9
      · obtain ⟨v, hvv, v1, v4⟩ := hv j hj hs ht
        rcases bs_min hv j (by omega) with ⟨ei, -⟩ | ⟨i, hij, ei, i3, -⟩
        · have eb : bsF s t (j + 1) = nI j := by rw [ebs, if_pos ⟨hs, ht, Or.inl (by rw [ei]; decide)⟩]
          rw [ei]
          refine V_iload (i := 8) rfl dL_plays_90 rfl ?_
          refine V_iconst (v := 4) (by decide) dL_plays_92 rfl ?_
          refine V_icmp_ge (tgt := 153) dL_plays_93 (by decide) rfl (fun h => absurd h (nI_ge (b := 4) hj (by decide))) (fun _ => ?_)
          refine V_aload (i := 4) rfl dL_plays_96 rfl ?_
          refine V_iload (i := 8) rfl dL_plays_98 rfl ?_
          refine V_iald at_had (fw_ix_nI hj (by decide)) dL_plays_100 rfl ?_
          rw [hr j hj]
          refine V_bipush (v := (-5)) (by decide) dL_plays_101 rfl ?_
          refine V_icmp_ne (tgt := 143) dL_plays_103 (by decide) rfl (fun h => absurd hs5 h) (fun _ => ?_)
          refine V_aload_n (i := 0) rfl rfl dL_plays_106 rfl ?_
          refine V_iload (i := 8) rfl dL_plays_107 rfl ?_
          refine V_iconst (v := 5) (by decide) dL_plays_109 rfl ?_
          refine V_call (n := 2) (q_pl5 hw hj) o_X7_player m_L_10 ⟨by decide, by decide⟩ (by assumption) rfl rfl (by first | exact Nat.le_of_ble_eq_true rfl | simp [Value.category]) (by decide) (by decide) rfl dL_plays_110 rfl (kI ?_)
          rw [if_neg ht, hvv]
          refine V_if_le (tgt := 143) dL_plays_113 (by decide) rfl (fun h => absurd h (nI_ge (a := 0) (b := v) (by omega) (by omega))) (fun _ => ?_)
          refine V_iload (i := 7) rfl dL_plays_116 rfl ?_
          refine V_if_lt (tgt := 138) dL_plays_118 (by decide) rfl (fun _ => ?_) (fun h => absurd (by decide) h)
          refine V_iload (i := 8) rfl dL_plays_138 rfl ?_
          refine V_goto (tgt := 145) dL_plays_140 (by decide) ?_
          refine V_istore (i := 7) (by decide) rfl dL_plays_145 rfl ?_
          refine V_iinc1 (i := 8) rfl (by decide) rfl dL_plays_147 rfl ?_
          refine V_goto (tgt := 90) dL_plays_150 (by decide) ?_
          have h9 := ih (j + 1) (by omega)
          rw [eb] at h9
          rw [nI_1]
          exact h9
        · obtain ⟨w, w1, w2, w3⟩ := hv i (by omega) i3.1 i3.2
          rw [ei]
          by_cases hvw : v < w
          · have eb : bsF s t (j + 1) = nI j := by rw [ebs, ei, nI_clamp (by omega), w1, hvv, if_pos ⟨hs, by rw [← hvv]; exact ht, Or.inr (nI_lt hvw (by omega))⟩]
            refine V_iload (i := 8) rfl dL_plays_90 rfl ?_
            refine V_iconst (v := 4) (by decide) dL_plays_92 rfl ?_
            refine V_icmp_ge (tgt := 153) dL_plays_93 (by decide) rfl (fun h => absurd h (nI_ge (b := 4) hj (by decide))) (fun _ => ?_)
            refine V_aload (i := 4) rfl dL_plays_96 rfl ?_
            refine V_iload (i := 8) rfl dL_plays_98 rfl ?_
            refine V_iald at_had (fw_ix_nI hj (by decide)) dL_plays_100 rfl ?_
            rw [hr j hj]
            refine V_bipush (v := (-5)) (by decide) dL_plays_101 rfl ?_
            refine V_icmp_ne (tgt := 143) dL_plays_103 (by decide) rfl (fun h => absurd hs5 h) (fun _ => ?_)
            refine V_aload_n (i := 0) rfl rfl dL_plays_106 rfl ?_
            refine V_iload (i := 8) rfl dL_plays_107 rfl ?_
            refine V_iconst (v := 5) (by decide) dL_plays_109 rfl ?_
            refine V_call (n := 2) (q_pl5 hw hj) o_X7_player m_L_10 ⟨by decide, by decide⟩ (by assumption) rfl rfl (by first | exact Nat.le_of_ble_eq_true rfl | simp [Value.category]) (by decide) (by decide) rfl dL_plays_110 rfl (kI ?_)
            rw [if_neg ht, hvv]
            refine V_if_le (tgt := 143) dL_plays_113 (by decide) rfl (fun h => absurd h (nI_ge (a := 0) (b := v) (by omega) (by omega))) (fun _ => ?_)
            refine V_iload (i := 7) rfl dL_plays_116 rfl ?_
            refine V_if_lt (tgt := 138) dL_plays_118 (by decide) rfl (fun h => absurd h (nI_pos (by omega))) (fun _ => ?_)
            refine V_aload_n (i := 0) rfl rfl dL_plays_121 rfl ?_
            refine V_iload (i := 8) rfl dL_plays_122 rfl ?_
            refine V_iconst (v := 5) (by decide) dL_plays_124 rfl ?_
            refine V_call (n := 2) (q_pl5 hw hj) o_X7_player m_L_10 ⟨by decide, by decide⟩ (by assumption) rfl rfl (by first | exact Nat.le_of_ble_eq_true rfl | simp [Value.category]) (by decide) (by decide) rfl dL_plays_125 rfl (kI ?_)
            rw [if_neg ht, hvv]
            refine V_aload_n (i := 0) rfl rfl dL_plays_128 rfl ?_
            refine V_iload (i := 7) rfl dL_plays_129 rfl ?_
            refine V_iconst (v := 5) (by decide) dL_plays_131 rfl ?_
            refine V_call (n := 2) (q_pl5 hw (show i < 4 by omega)) o_X7_player m_L_10 ⟨by decide, by decide⟩ (by assumption) rfl rfl (by first | exact Nat.le_of_ble_eq_true rfl | simp [Value.category]) (by decide) (by decide) rfl dL_plays_132 rfl (kI ?_)
            rw [if_neg i3.2, w1]
            refine V_icmp_ge (tgt := 143) dL_plays_135 (by decide) rfl (fun h => absurd h (nI_ge hvw (by omega))) (fun _ => ?_)
            refine V_iload (i := 8) rfl dL_plays_138 rfl ?_
            refine V_goto (tgt := 145) dL_plays_140 (by decide) ?_
            refine V_istore (i := 7) (by decide) rfl dL_plays_145 rfl ?_
            refine V_iinc1 (i := 8) rfl (by decide) rfl dL_plays_147 rfl ?_
            refine V_goto (tgt := 90) dL_plays_150 (by decide) ?_
            have h9 := ih (j + 1) (by omega)
            rw [eb] at h9
            rw [nI_1]
            exact h9
          · have eb : bsF s t (j + 1) = nI i := by rw [ebs, ei, nI_clamp (by omega), w1, hvv, if_neg (fun z => z.2.2.elim (fun z1 => absurd z1 (nI_pos (by omega))) (fun z1 => hvw ((nI_ltI (by omega) (by omega)).mp z1)))]
            refine V_iload (i := 8) rfl dL_plays_90 rfl ?_
            refine V_iconst (v := 4) (by decide) dL_plays_92 rfl ?_
            refine V_icmp_ge (tgt := 153) dL_plays_93 (by decide) rfl (fun h => absurd h (nI_ge (b := 4) hj (by decide))) (fun _ => ?_)
            refine V_aload (i := 4) rfl dL_plays_96 rfl ?_
            refine V_iload (i := 8) rfl dL_plays_98 rfl ?_
            refine V_iald at_had (fw_ix_nI hj (by decide)) dL_plays_100 rfl ?_
            rw [hr j hj]
            refine V_bipush (v := (-5)) (by decide) dL_plays_101 rfl ?_
            refine V_icmp_ne (tgt := 143) dL_plays_103 (by decide) rfl (fun h => absurd hs5 h) (fun _ => ?_)
            refine V_aload_n (i := 0) rfl rfl dL_plays_106 rfl ?_
            refine V_iload (i := 8) rfl dL_plays_107 rfl ?_
            refine V_iconst (v := 5) (by decide) dL_plays_109 rfl ?_
            refine V_call (n := 2) (q_pl5 hw hj) o_X7_player m_L_10 ⟨by decide, by decide⟩ (by assumption) rfl rfl (by first | exact Nat.le_of_ble_eq_true rfl | simp [Value.category]) (by decide) (by decide) rfl dL_plays_110 rfl (kI ?_)
            rw [if_neg ht, hvv]
            refine V_if_le (tgt := 143) dL_plays_113 (by decide) rfl (fun h => absurd h (nI_ge (a := 0) (b := v) (by omega) (by omega))) (fun _ => ?_)
            refine V_iload (i := 7) rfl dL_plays_116 rfl ?_
            refine V_if_lt (tgt := 138) dL_plays_118 (by decide) rfl (fun h => absurd h (nI_pos (by omega))) (fun _ => ?_)
            refine V_aload_n (i := 0) rfl rfl dL_plays_121 rfl ?_
            refine V_iload (i := 8) rfl dL_plays_122 rfl ?_
            refine V_iconst (v := 5) (by decide) dL_plays_124 rfl ?_
            refine V_call (n := 2) (q_pl5 hw hj) o_X7_player m_L_10 ⟨by decide, by decide⟩ (by assumption) rfl rfl (by first | exact Nat.le_of_ble_eq_true rfl | simp [Value.category]) (by decide) (by decide) rfl dL_plays_125 rfl (kI ?_)
            rw [if_neg ht, hvv]
            refine V_aload_n (i := 0) rfl rfl dL_plays_128 rfl ?_
            refine V_iload (i := 7) rfl dL_plays_129 rfl ?_
            refine V_iconst (v := 5) (by decide) dL_plays_131 rfl ?_
            refine V_call (n := 2) (q_pl5 hw (show i < 4 by omega)) o_X7_player m_L_10 ⟨by decide, by decide⟩ (by assumption) rfl rfl (by first | exact Nat.le_of_ble_eq_true rfl | simp [Value.category]) (by decide) (by decide) rfl dL_plays_132 rfl (kI ?_)
            rw [if_neg i3.2, w1]
            refine V_icmp_ge (tgt := 143) dL_plays_135 (by decide) rfl (fun _ => ?_) (fun h => absurd (nI_le (Nat.le_of_not_lt hvw) (by omega)) h)
            refine V_iload (i := 7) rfl dL_plays_143 rfl ?_
            refine V_istore (i := 7) (by decide) rfl dL_plays_145 rfl ?_
            refine V_iinc1 (i := 8) rfl (by decide) rfl dL_plays_147 rfl ?_
            refine V_goto (tgt := 90) dL_plays_150 (by decide) ?_
            have h9 := ih (j + 1) (by omega)
            rw [eb] at h9
            rw [nI_1]
            exact h9
    · have hs5 : ¬ p5 s j = -5 := by
        obtain ⟨pl, pl1, -⟩ := hp
        unfold p5
        rw [if_neg hs, (pl1 j hj).1]
        exact nI_ne5 (by have := (pl1 j hj).2; have := home_le s; omega)
      have eb : bsF s t (j + 1) = bsF s t j := by rw [ebs, if_neg (fun z => hs z.1)]
      refine V_iload (i := 8) rfl dL_plays_90 rfl ?_
      refine V_iconst (v := 4) (by decide) dL_plays_92 rfl ?_
      refine V_icmp_ge (tgt := 153) dL_plays_93 (by decide) rfl (fun h => absurd h (nI_ge (b := 4) hj (by decide))) (fun _ => ?_)
      refine V_aload (i := 4) rfl dL_plays_96 rfl ?_
      refine V_iload (i := 8) rfl dL_plays_98 rfl ?_
      refine V_iald at_had (fw_ix_nI hj (by decide)) dL_plays_100 rfl ?_
      rw [hr j hj]
      refine V_bipush (v := (-5)) (by decide) dL_plays_101 rfl ?_
      refine V_icmp_ne (tgt := 143) dL_plays_103 (by decide) rfl (fun _ => ?_) (fun h => absurd h hs5)
      refine V_iload (i := 7) rfl dL_plays_143 rfl ?_
      refine V_istore (i := 7) (by decide) rfl dL_plays_145 rfl ?_
      refine V_iinc1 (i := 8) rfl (by decide) rfl dL_plays_147 rfl ?_
      refine V_goto (tgt := 90) dL_plays_150 (by decide) ?_
      have h9 := ih (j + 1) (by omega)
      rw [eb] at h9
      rw [nI_1]
      exact h9

set_option maxHeartbeats 4000000 in
set_option maxRecDepth 100000 in
theorem lc_p153 {l : Launch} {g : fw_G} {I : fw_I} {P : fw_P} {s : Nat → Int32} {k : Nat} {h : Nat → Nat → Int32} {B x m : Nat} (hB : B + 100 < 1000000) (hI : Inv B s) (hJ : J B s) (h4 : ¬ s 4 = 4) (hx6 : (0 : Int32) ≤ nI x ∧ nI x ≤ 65535) (h1 : 1 ≤ m) (h50 : m ≤ 50) (hw : Wd I P (aPyF 50 (nI x) s).2 (rK k) (rH k h s) (B + 50)) : V l g kL_plays (T0 (nT + 1)) 1 4 (qA (B + 100)) (T0 (nT + 1)) I P 1 4 153 [some (.ref (g.1 + 0)), some (.int (nI x)), some (.int (nI m)), some (.int (aNxR s (nI x))), some (.ref (g.1 + (688 + nT))), some (.int (s 0)), some (.int (nI (aPyF 50 (nI x) s).1)), some (.int (bsF s (aPyF 50 (nI x) s).2 4)), some (.int (nI 4)), none] [] := by
  have a0 := at_0 (nT := nT + 1)
  have hk5 : rK k ≤ 5 := hw.1.2.2.1.2.1
  have hk0 : 0 < rK k := by unfold rK; split <;> omega
  have hmo : mOf (rH k h s (rK k - 1)) := by rw [rH_top]; exact hI.mOf
  obtain ⟨hpc, epm, hcl⟩ := pyR_n h4 hx6 h1 h50
  obtain ⟨b1, b2, b3, b4, b5, b6⟩ := py_base m (nI x) s B (by omega) hI hJ hx6
  have b7 := (py_base 50 (nI x) s B (by omega) hI hJ hx6).1
  have mm := py_mono m 50 h50 (nI x) s
  have m1 := b6 (by omega) h4
  rcases bs_first (n := 50) hI h4 hx6 (by decide) with eq | ⟨q, q4, eq, eq2⟩
  · rw [eq]
    refine V_iload (i := 7) rfl dL_plays_153 rfl ?_
    refine V_if_lt (tgt := 164) dL_plays_155 (by decide) rfl (fun _ => ?_) (fun h => absurd (by decide) h)
    refine V_aload_n (i := 0) rfl rfl dL_plays_164 rfl ?_
    refine V_call (n := 0) (q_undo hw.1 hw.2.1 hk0 hmo) o_X7_undo m_L_60 ⟨by decide, by decide⟩ (by assumption) rfl rfl (by first | exact Nat.le_of_ble_eq_true rfl | simp [Value.category]) (by decide) (by decide) rfl dL_plays_165 rfl (kJ ?_)
    rintro _ I1 P1 ⟨rfl, sx, -⟩
    rw [rH_top] at sx
    have hx1 : Wd I1 P1 s (rK k - 1) (rH k h s) B := ⟨sx, hI, hJ⟩
    refine V_if_lt (tgt := 185) dL_plays_168 (by decide) rfl (fun h => absurd h (nI_pos (by omega))) (fun _ => ?_)
    refine V_aload_n (i := 0) rfl rfl dL_plays_171 rfl ?_
    refine V_iconst (v := 0) (by decide) dL_plays_172 rfl ?_
    refine V_call (n := 1) (q_ct0 hx1) o_X7_count m_L_38 ⟨by decide, by decide⟩ (by assumption) rfl rfl (by first | exact Nat.le_of_ble_eq_true rfl | simp [Value.category]) (by decide) (by decide) rfl dL_plays_173 rfl (kI ?_)
    refine V_iload (i := 5) rfl dL_plays_176 rfl ?_
    refine V_icmp_ne (tgt := 185) dL_plays_178 (by decide) rfl (fun h => absurd rfl h) (fun _ => ?_)
    refine V_iconst (v := 1) (by decide) dL_plays_181 rfl ?_
    refine V_goto (tgt := 186) dL_plays_182 (by decide) ?_
    refine V_istore (i := 8) (by decide) rfl dL_plays_186 rfl ?_
    refine V_aload_n (i := 0) rfl rfl dL_plays_188 rfl ?_
    refine V_iload_n (i := 1) rfl rfl dL_plays_189 rfl ?_
    refine V_iload_n (i := 2) rfl rfl dL_plays_190 rfl ?_
    refine V_call (n := 2) (q_play hx1 (nI x) (nI m)) o_X7_play m_L_57 ⟨by decide, by decide⟩ (by assumption) rfl rfl (by first | exact Nat.le_of_ble_eq_true rfl | simp [Value.category]) (by decide) (by decide) rfl dL_plays_191 rfl (kJ ?_)
    rintro _ I2 P2 ⟨rfl, hm, -⟩
    have hu : Wd I2 P2 (aPyF m (nI x) s).2 (rK (rK k - 1)) (rH (rK k - 1) (rH k h s) s) (B + m) := by
      rcases hm with ⟨-, sx⟩ | ⟨no, -⟩
      · rw [hcl] at sx
        exact ⟨sx, b2, b3⟩
      · exact absurd ⟨hpc, h4⟩ no
    rw [epm]
    refine V_istore (i := 9) (by decide) rfl dL_plays_194 rfl ?_
    refine V_iload (i := 8) rfl dL_plays_196 rfl ?_
    refine V_if_eq (tgt := 253) dL_plays_198 (by decide) rfl (fun h => absurd h (by decide)) (fun _ => ?_)
    refine V_iload (i := 9) rfl dL_plays_201 rfl ?_
    refine V_iload (i := 6) rfl dL_plays_203 rfl ?_
    refine V_icmp_gt (tgt := 253) dL_plays_205 (by decide) rfl (fun h => absurd h (Int32.not_lt.mpr (nI_le mm (by omega)))) (fun _ => ?_)
    refine V_iload (i := 9) rfl dL_plays_208 rfl ?_
    refine V_iconst (v := 1) (by decide) dL_plays_210 rfl ?_
    refine V_icmp_lt (tgt := 253) dL_plays_211 (by decide) rfl (fun h => absurd h (Int32.not_lt.mpr (nI_le (a := 1) m1 (by omega)))) (fun _ => ?_)
    refine V_iload (i := 9) rfl dL_plays_214 rfl ?_
    refine V_iload_n (i := 2) rfl rfl dL_plays_216 rfl ?_
    refine V_icmp_gt (tgt := 253) dL_plays_217 (by decide) rfl (fun h => absurd h (Int32.not_lt.mpr (nI_le b1 (by omega)))) (fun _ => ?_)
    refine V_aload_n (i := 0) rfl rfl dL_plays_220 rfl ?_
    refine V_iconst (v := 0) (by decide) dL_plays_221 rfl ?_
    refine V_call (n := 1) (q_ct0 hu) o_X7_count m_L_38 ⟨by decide, by decide⟩ (by assumption) rfl rfl (by first | exact Nat.le_of_ble_eq_true rfl | simp [Value.category]) (by decide) (by decide) rfl dL_plays_222 rfl (kI ?_)
    rw [b4]
    refine V_iload (i := 5) rfl dL_plays_225 rfl ?_
    refine V_iload (i := 9) rfl dL_plays_227 rfl ?_
    refine V_iadd dL_plays_229 rfl ?_
    refine V_icmp_ne (tgt := 253) dL_plays_230 (by decide) rfl (fun h => absurd rfl h) (fun _ => ?_)
    refine V_iload (i := 9) rfl dL_plays_233 rfl ?_
    refine V_iload_n (i := 2) rfl rfl dL_plays_235 rfl ?_
    refine V_icmp_eq (tgt := 249) dL_plays_236 (by decide) rfl (fun h_236 => ?_) (fun h_236 => ?_)
    · refine V_iconst (v := 1) (by decide) dL_plays_249 rfl ?_
      refine V_goto (tgt := 254) dL_plays_250 (by decide) ?_
      exact V_ireturn rfl (by decide) dL_plays_254 rfl rfl rfl (⟨_, rfl, rfl, _, _, _, hu.mono (by omega) hB⟩)
    · refine V_aload_n (i := 0) rfl rfl dL_plays_239 rfl ?_
      refine V_iconst (v := 1) (by decide) dL_plays_240 rfl ?_
      refine V_call (n := 1) (q_ct1 hu) o_X7_count m_L_38 ⟨by decide, by decide⟩ (by assumption) rfl rfl (by first | exact Nat.le_of_ble_eq_true rfl | simp [Value.category]) (by decide) (by decide) rfl dL_plays_241 rfl (kI ?_)
      rw [if_pos (b5.resolve_left (fun z => h_236 (congrArg nI z)))]
      refine V_bipush (v := (-5)) (by decide) dL_plays_244 rfl ?_
      refine V_icmp_ne (tgt := 253) dL_plays_246 (by decide) rfl (fun h => absurd rfl h) (fun _ => ?_)
      refine V_iconst (v := 1) (by decide) dL_plays_249 rfl ?_
      refine V_goto (tgt := 254) dL_plays_250 (by decide) ?_
      exact V_ireturn rfl (by decide) dL_plays_254 rfl rfl rfl (⟨_, rfl, rfl, _, _, _, hu.mono (by omega) hB⟩)
  · rw [eq, eq2]
    refine V_iload (i := 7) rfl dL_plays_153 rfl ?_
    refine V_if_lt (tgt := 164) dL_plays_155 (by decide) rfl (fun h => absurd h (nI_pos (by omega))) (fun _ => ?_)
    refine V_iload (i := 7) rfl dL_plays_158 rfl ?_
    refine V_iload_n (i := 3) rfl rfl dL_plays_160 rfl ?_
    refine V_icmp_ne (tgt := 185) dL_plays_161 (by decide) rfl (fun h => absurd rfl h) (fun _ => ?_)
    refine V_aload_n (i := 0) rfl rfl dL_plays_164 rfl ?_
    refine V_call (n := 0) (q_undo hw.1 hw.2.1 hk0 hmo) o_X7_undo m_L_60 ⟨by decide, by decide⟩ (by assumption) rfl rfl (by first | exact Nat.le_of_ble_eq_true rfl | simp [Value.category]) (by decide) (by decide) rfl dL_plays_165 rfl (kJ ?_)
    rintro _ I1 P1 ⟨rfl, sx, -⟩
    rw [rH_top] at sx
    have hx1 : Wd I1 P1 s (rK k - 1) (rH k h s) B := ⟨sx, hI, hJ⟩
    refine V_if_lt (tgt := 185) dL_plays_168 (by decide) rfl (fun h => absurd h (nI_pos (by omega))) (fun _ => ?_)
    refine V_aload_n (i := 0) rfl rfl dL_plays_171 rfl ?_
    refine V_iconst (v := 0) (by decide) dL_plays_172 rfl ?_
    refine V_call (n := 1) (q_ct0 hx1) o_X7_count m_L_38 ⟨by decide, by decide⟩ (by assumption) rfl rfl (by first | exact Nat.le_of_ble_eq_true rfl | simp [Value.category]) (by decide) (by decide) rfl dL_plays_173 rfl (kI ?_)
    refine V_iload (i := 5) rfl dL_plays_176 rfl ?_
    refine V_icmp_ne (tgt := 185) dL_plays_178 (by decide) rfl (fun h => absurd rfl h) (fun _ => ?_)
    refine V_iconst (v := 1) (by decide) dL_plays_181 rfl ?_
    refine V_goto (tgt := 186) dL_plays_182 (by decide) ?_
    refine V_istore (i := 8) (by decide) rfl dL_plays_186 rfl ?_
    refine V_aload_n (i := 0) rfl rfl dL_plays_188 rfl ?_
    refine V_iload_n (i := 1) rfl rfl dL_plays_189 rfl ?_
    refine V_iload_n (i := 2) rfl rfl dL_plays_190 rfl ?_
    refine V_call (n := 2) (q_play hx1 (nI x) (nI m)) o_X7_play m_L_57 ⟨by decide, by decide⟩ (by assumption) rfl rfl (by first | exact Nat.le_of_ble_eq_true rfl | simp [Value.category]) (by decide) (by decide) rfl dL_plays_191 rfl (kJ ?_)
    rintro _ I2 P2 ⟨rfl, hm, -⟩
    have hu : Wd I2 P2 (aPyF m (nI x) s).2 (rK (rK k - 1)) (rH (rK k - 1) (rH k h s) s) (B + m) := by
      rcases hm with ⟨-, sx⟩ | ⟨no, -⟩
      · rw [hcl] at sx
        exact ⟨sx, b2, b3⟩
      · exact absurd ⟨hpc, h4⟩ no
    rw [epm]
    refine V_istore (i := 9) (by decide) rfl dL_plays_194 rfl ?_
    refine V_iload (i := 8) rfl dL_plays_196 rfl ?_
    refine V_if_eq (tgt := 253) dL_plays_198 (by decide) rfl (fun h => absurd h (by decide)) (fun _ => ?_)
    refine V_iload (i := 9) rfl dL_plays_201 rfl ?_
    refine V_iload (i := 6) rfl dL_plays_203 rfl ?_
    refine V_icmp_gt (tgt := 253) dL_plays_205 (by decide) rfl (fun h => absurd h (Int32.not_lt.mpr (nI_le mm (by omega)))) (fun _ => ?_)
    refine V_iload (i := 9) rfl dL_plays_208 rfl ?_
    refine V_iconst (v := 1) (by decide) dL_plays_210 rfl ?_
    refine V_icmp_lt (tgt := 253) dL_plays_211 (by decide) rfl (fun h => absurd h (Int32.not_lt.mpr (nI_le (a := 1) m1 (by omega)))) (fun _ => ?_)
    refine V_iload (i := 9) rfl dL_plays_214 rfl ?_
    refine V_iload_n (i := 2) rfl rfl dL_plays_216 rfl ?_
    refine V_icmp_gt (tgt := 253) dL_plays_217 (by decide) rfl (fun h => absurd h (Int32.not_lt.mpr (nI_le b1 (by omega)))) (fun _ => ?_)
    refine V_aload_n (i := 0) rfl rfl dL_plays_220 rfl ?_
    refine V_iconst (v := 0) (by decide) dL_plays_221 rfl ?_
    refine V_call (n := 1) (q_ct0 hu) o_X7_count m_L_38 ⟨by decide, by decide⟩ (by assumption) rfl rfl (by first | exact Nat.le_of_ble_eq_true rfl | simp [Value.category]) (by decide) (by decide) rfl dL_plays_222 rfl (kI ?_)
    rw [b4]
    refine V_iload (i := 5) rfl dL_plays_225 rfl ?_
    refine V_iload (i := 9) rfl dL_plays_227 rfl ?_
    refine V_iadd dL_plays_229 rfl ?_
    refine V_icmp_ne (tgt := 253) dL_plays_230 (by decide) rfl (fun h => absurd rfl h) (fun _ => ?_)
    refine V_iload (i := 9) rfl dL_plays_233 rfl ?_
    refine V_iload_n (i := 2) rfl rfl dL_plays_235 rfl ?_
    refine V_icmp_eq (tgt := 249) dL_plays_236 (by decide) rfl (fun h_236 => ?_) (fun h_236 => ?_)
    · refine V_iconst (v := 1) (by decide) dL_plays_249 rfl ?_
      refine V_goto (tgt := 254) dL_plays_250 (by decide) ?_
      exact V_ireturn rfl (by decide) dL_plays_254 rfl rfl rfl (⟨_, rfl, rfl, _, _, _, hu.mono (by omega) hB⟩)
    · refine V_aload_n (i := 0) rfl rfl dL_plays_239 rfl ?_
      refine V_iconst (v := 1) (by decide) dL_plays_240 rfl ?_
      refine V_call (n := 1) (q_ct1 hu) o_X7_count m_L_38 ⟨by decide, by decide⟩ (by assumption) rfl rfl (by first | exact Nat.le_of_ble_eq_true rfl | simp [Value.category]) (by decide) (by decide) rfl dL_plays_241 rfl (kI ?_)
      rw [if_pos (b5.resolve_left (fun z => h_236 (congrArg nI z)))]
      refine V_bipush (v := (-5)) (by decide) dL_plays_244 rfl ?_
      refine V_icmp_ne (tgt := 253) dL_plays_246 (by decide) rfl (fun h => absurd rfl h) (fun _ => ?_)
      refine V_iconst (v := 1) (by decide) dL_plays_249 rfl ?_
      refine V_goto (tgt := 254) dL_plays_250 (by decide) ?_
      exact V_ireturn rfl (by decide) dL_plays_254 rfl rfl rfl (⟨_, rfl, rfl, _, _, _, hu.mono (by omega) hB⟩)

set_option maxHeartbeats 4000000 in
set_option maxRecDepth 100000 in
theorem lc_p45 {l : Launch} {g : fw_G} {I : fw_I} {P : fw_P} {s : Nat → Int32} {k : Nat} {h : Nat → Nat → Int32} {B x m : Nat} (hx : Wd I P s k h B) (hB : B + 100 < 1000000) (hx6 : (0 : Int32) ≤ nI x ∧ nI x ≤ 65535) (h1 : 1 ≤ m) (h50 : m ≤ 50) (hr : ∀ i, i < 4 → I (688 + nT) i = p5 s i) : V l g kL_plays (T0 (nT + 1)) 1 4 (qA (B + 100)) (T0 (nT + 1)) I P 1 4 45 [some (.ref (g.1 + 0)), some (.int (nI x)), some (.int (nI m)), some (.int (aNxR s (nI x))), some (.ref (g.1 + (688 + nT))), some (.int (s 0)), some (.int (nI 4)), none, none, none] [] := by
  have a0 := at_0 (nT := nT + 1)
  by_cases h4 : s 4 = 4
  · have e50 : aPyR s (nI x) 50 = -4 := pyR_o (m := 50) h4 hx6 (by decide) (by decide)
    have enx : aNxR s (nI x) = -4 := by unfold aNxR; rw [if_neg (fun z => z hx6), if_pos h4]
    refine V_aload_n (i := 0) rfl rfl dL_plays_45 rfl ?_
    refine V_iload_n (i := 1) rfl rfl dL_plays_46 rfl ?_
    refine V_bipush (v := 50) (by decide) dL_plays_47 rfl ?_
    refine V_call (n := 2) (q_play hx (nI x) 50) o_X7_play m_L_57 ⟨by decide, by decide⟩ (by assumption) rfl rfl (by first | exact Nat.le_of_ble_eq_true rfl | simp [Value.category]) (by decide) (by decide) rfl dL_plays_49 rfl (kJ ?_)
    rintro _ I1 P1 ⟨rfl, hm, -⟩
    have hx1 : Wd I1 P1 s k h B := hm.elim (fun z => absurd h4 z.1.2) (fun z => hx.to z.2)
    rw [e50]
    refine V_istore (i := 6) (by decide) rfl dL_plays_52 rfl ?_
    refine V_aload_n (i := 0) rfl rfl dL_plays_54 rfl ?_
    refine V_iconst (v := 0) (by decide) dL_plays_55 rfl ?_
    refine V_call (n := 1) (q_ct0 hx1) o_X7_count m_L_38 ⟨by decide, by decide⟩ (by assumption) rfl rfl (by first | exact Nat.le_of_ble_eq_true rfl | simp [Value.category]) (by decide) (by decide) rfl dL_plays_56 rfl (kI ?_)
    refine V_iload (i := 5) rfl dL_plays_59 rfl ?_
    refine V_icmp_ne (tgt := 83) dL_plays_61 (by decide) rfl (fun h => absurd rfl h) (fun _ => ?_)
    refine V_iload (i := 6) rfl dL_plays_64 rfl ?_
    refine V_bipush (v := (-4)) (by decide) dL_plays_66 rfl ?_
    refine V_icmp_ne (tgt := 81) dL_plays_68 (by decide) rfl (fun h => absurd rfl h) (fun _ => ?_)
    refine V_iload_n (i := 3) rfl rfl dL_plays_71 rfl ?_
    refine V_bipush (v := (-4)) (by decide) dL_plays_72 rfl ?_
    refine V_icmp_ne (tgt := 81) dL_plays_74 (by decide) rfl (fun h => absurd enx h) (fun _ => ?_)
    refine V_iconst (v := 1) (by decide) dL_plays_77 rfl ?_
    refine V_goto (tgt := 82) dL_plays_78 (by decide) ?_
    exact V_ireturn rfl (by decide) dL_plays_82 rfl rfl rfl (⟨_, rfl, rfl, s, k, h, hx1.mono (by omega) hB⟩)
  · obtain ⟨hpc, epm, -⟩ := pyR_n (m := 50) h4 hx6 (by decide) (by decide)
    obtain ⟨b1, b2, b3, b4, -, b6⟩ := py_base 50 (nI x) s B (by omega) hx.2.1 hx.2.2 hx6
    have b6 := b6 (by decide) h4
    have hv : ∀ i, i < 4 → ro s i 2 = 0 → ¬ ro (aPyF 50 (nI x) s).2 i 2 = 0 → ∃ v, ro (aPyF 50 (nI x) s).2 i 2 = nI v ∧ 1 ≤ v ∧ v ≤ 4 := fun i hi a b => by
      rcases (py_places 50 (nI x) s B hx.2.1 hx6 i hi).2 a with z | ⟨v, v1, v2, v3⟩
      · exact absurd z b
      · exact ⟨v, v1, by omega, v3⟩
    refine V_aload_n (i := 0) rfl rfl dL_plays_45 rfl ?_
    refine V_iload_n (i := 1) rfl rfl dL_plays_46 rfl ?_
    refine V_bipush (v := 50) (by decide) dL_plays_47 rfl ?_
    refine V_call (n := 2) (q_play hx (nI x) 50) o_X7_play m_L_57 ⟨by decide, by decide⟩ (by assumption) rfl rfl (by first | exact Nat.le_of_ble_eq_true rfl | simp [Value.category]) (by decide) (by decide) rfl dL_plays_49 rfl (kJ ?_)
    rintro _ I1 P1 ⟨rfl, hm, hF⟩
    have hw : Wd I1 P1 (aPyF 50 (nI x) s).2 (rK k) (rH k h s) (B + 50) := by
      rcases hm with ⟨-, sx⟩ | ⟨no, -⟩
      · exact ⟨sx, b2, b3⟩
      · exact absurd ⟨hpc, h4⟩ no
    have hr1 : ∀ i, i < 4 → I1 (688 + nT) i = p5 s i := fun i hi => by rw [(hF (688 + nT) (by omega)).1]; exact hr i hi
    rw [show aPyR s (nI x) 50 = nI (aPyF 50 (nI x) s).1 from epm]
    refine V_istore (i := 6) (by decide) rfl dL_plays_52 rfl ?_
    refine V_aload_n (i := 0) rfl rfl dL_plays_54 rfl ?_
    refine V_iconst (v := 0) (by decide) dL_plays_55 rfl ?_
    refine V_call (n := 1) (q_ct0 hw) o_X7_count m_L_38 ⟨by decide, by decide⟩ (by assumption) rfl rfl (by first | exact Nat.le_of_ble_eq_true rfl | simp [Value.category]) (by decide) (by decide) rfl dL_plays_56 rfl (kI ?_)
    rw [b4]
    refine V_iload (i := 5) rfl dL_plays_59 rfl ?_
    refine V_icmp_ne (tgt := 83) dL_plays_61 (by decide) rfl (fun _ => ?_) (fun h => absurd h (add_ne (by omega) (by omega)))
    refine V_bipush (v := (-5)) (by decide) dL_plays_83 rfl ?_
    refine V_istore (i := 7) (by decide) rfl dL_plays_85 rfl ?_
    refine V_iconst (v := 0) (by decide) dL_plays_87 rfl ?_
    refine V_istore (i := 8) (by decide) rfl dL_plays_88 rfl ?_
    exact lp_p2 hw hx.2.2.2.2.2.2 hr1 hv _ _ _ (lc_p153 hB hx.2.1 hx.2.2 h4 hx6 h1 h50 hw) 4 0 rfl

set_option maxHeartbeats 4000000 in
set_option maxRecDepth 100000 in
theorem sp_plays (l : Launch) (g : fw_G) {I : fw_I} {P : fw_P} {s : Nat → Int32} {k : Nat} {h : Nat → Nat → Int32} {B x m : Nat} (hx : Wd I P s k h B) (hB : B + 100 < 1000000) (hxl : x ≤ 65535) (h1 : 1 ≤ m) (h50 : m ≤ 50) : Sp l g kL_plays (T0 nT) [.ref (g.1 + 0), .int (nI x), .int (nI m)] I P (T0 (nT + 1)) 1 4 (qA (B + 100)) := by
  have a0 := at_0 (nT := nT)
  have hx6 : (0 : Int32) ≤ nI x ∧ nI x ≤ 65535 := ⟨nI_pos' (by omega), nI_le (b := 65535) hxl (by decide)⟩
  refine Sp.of_V (L := [some (.ref (g.1 + 0)), some (.int (nI x)), some (.int (nI m)), none, none, none, none, none, none, none]) (by decide) (by simp [Value.category]) (Nat.le_of_ble_eq_true rfl) rfl ?_
  refine V_aload_n (i := 0) rfl rfl dL_plays_0 rfl ?_
  refine V_iload_n (i := 1) rfl rfl dL_plays_1 rfl ?_
  refine V_call (n := 1) (q_next hx (nI x)) o_X7_nextHome m_L_54 ⟨by decide, by decide⟩ (by assumption) rfl rfl (by first | exact Nat.le_of_ble_eq_true rfl | simp [Value.category]) (by decide) (by decide) rfl dL_plays_2 rfl (kJ ?_)
  rintro _ I1 P1 ⟨rfl, sx, -⟩
  refine V_istore_n (i := 3) rfl (by decide) rfl dL_plays_5 rfl ?_
  refine V_iconst (v := 4) (by decide) dL_plays_6 rfl ?_
  refine V_new4 (by decide) (by decide) dL_plays_7 rfl ?_
  have hx1 : Wd (fw_z I1 (688 + nT) 0) (fw_z P1 (688 + nT) none) s k h B := hx.to (sx.fr (fun b hb => ⟨fw_z_ne _ (by omega), fw_z_ne _ (by omega)⟩))
  have a1 := at_0 (nT := nT + 1)
  refine V_astore (i := 4) (by decide) rfl dL_plays_9 rfl ?_
  refine V_aload_n (i := 0) rfl rfl dL_plays_11 rfl ?_
  refine V_iconst (v := 0) (by decide) dL_plays_12 rfl ?_
  refine V_call (n := 1) (q_ct0 hx1) o_X7_count m_L_38 ⟨by decide, by decide⟩ (by assumption) rfl rfl (by first | exact Nat.le_of_ble_eq_true rfl | simp [Value.category]) (by decide) (by decide) rfl dL_plays_13 rfl (kI ?_)
  refine V_istore (i := 5) (by decide) rfl dL_plays_16 rfl ?_
  refine V_iconst (v := 0) (by decide) dL_plays_18 rfl ?_
  refine V_istore (i := 6) (by decide) rfl dL_plays_19 rfl ?_
  exact lp_p1 _ _ (fun I2 P2 hx2 hr2 => lc_p45 hx2 hB hx6 h1 h50 hr2) 4 0 _ _ rfl hx1 (fun i hi => absurd hi (Nat.not_lt_zero i))
