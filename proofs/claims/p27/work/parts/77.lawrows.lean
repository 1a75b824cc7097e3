variable {nT : Nat}
/-! the walk of the law's body: rows over flat memory, at the law's own start -/
abbrev kL : fw_M := (yL_law, cL_law, 3, ret, 10, 394)
def fw_L2 (ls : Array Slot) (n : Nat) (L : List (Option Value)) : Prop := ls.size = n ∧ lv_wf ls ∧ ∀ (j : Nat) (v : Value), L[j]? = some (some v) → ls[j]? = some (.val v)
theorem fw_L.two {ls : Array Slot} {n : Nat} {L : List (Option Value)} (h : fw_L ls n L) : fw_L2 ls n L := ⟨h.1, h.2.1, fun j v q => (h.2.2 j v q).2⟩
theorem fw_L2.one {ls : Array Slot} {n : Nat} {L : List (Option Value)} (h : fw_L2 ls n L) (hc : ∀ v, some v ∈ L → v.category = 1) : fw_L ls n L := ⟨h.1, h.2.1, fun j v q => ⟨hc v (List.mem_of_getElem? q), h.2.2 j v q⟩⟩
theorem fw_L2.of {ls : Array Slot} {n : Nat} {L : List (Option Value)} {l : List (Nat × Value)} (h : lv_has ls n l) (hl : ∀ (j : Nat) (v : Value), L[j]? = some (some v) → (j, v) ∈ l) : fw_L2 ls n L := ⟨h.1, h.2.1, fun j v q => h.2.2 (j, v) (hl j v q)⟩
def LC (p : Program) (s : State) (m : MethodId) (meth : Method) (c : Code) (b Ln : Nat) (xs : Nat → Int32) (g : fw_G) : Prop := lw_At p s m meth c b Ln xs ∧ g.1 = s.heap.size ∧ fw_K g s ∧ Ln ≤ 260
def VL (p : Program) (l : Launch) (e : Env) (s : State) (m : MethodId) (below : List Frame) (meth : Method) (c : Code) (b : Nat) (g : fw_G) (T : fw_T) (I : fw_I) (P : fw_P) (w pc : Nat) (L : List (Option Value)) (st : List Value) : Prop :=
  ∀ (H : Heap) (locs : List Loc) (ls : Array Slot), fw_R g T I P H → va_S (fw_A g) s.heap H locs → fw_L2 ls 3 L → W p l e room_1 s m #[Value.ref b] below meth c H locs T.1 w (lw_Z below #[Value.ref b] s) (F0 m pc ls st)
section LAWR
variable {p : Program} {l : Launch} {e : Env} {s : State} {m : MethodId} {below : List Frame} {meth : Method} {c : Code} {b Ln : Nat} {xs : Nat → Int32} {g : fw_G} {T : fw_T} {I : fw_I} {P : fw_P} {w pc q : Nat} {L L' : List (Option Value)} {st : List Value}
theorem LC.hts (C : LC p s m meth c b Ln xs g) : ∀ w ∈ fw_U, w.before #[Value.ref b] s = true := fun w h => C.1.2.2.2.2.2.1 w (List.mem_filter.mp h).1
theorem LC.fix (C : LC p s m meth c b Ln xs g) : CallFix p m c cL_law 3 s #[Value.ref b] fw_U RL := ⟨C.1.1, C.1.2.1, C.1.2.2.2.1, C.1.2.2.2.2.1, C.hts⟩
theorem LC.nA (C : LC p s m meth c b Ln xs g) : ¬ fw_A g b := fun h => by
  have h1 : g.1 ≤ b := h
  have h2 := C.1.2.2.2.2.2.2.2.1
  have h3 := C.2.1
  omega
theorem L_iconst (C : LC p s m meth c b Ln xs g) {n : Int} {v : Int32} (hv : Int32.ofInt n = v) (hd : decode cL_law pc = .ok (.iconst n, 1)) (hq : pc + 1 = q) (kk : VL p l e s m below meth c b g T I P w q L (.int v :: st)) : VL p l e s m below meth c b g T I P w pc L st := by
  subst hq
  intro H locs ls hR hS hL
  exact lv_iconst C.1.1 C.1.2.1 hd hv (kk H locs ls hR hS hL)
theorem L_bipush (C : LC p s m meth c b Ln xs g) {n : Int} {v : Int32} (hv : (Int8.ofInt n).toInt32 = v) (hd : decode cL_law pc = .ok (.bipush n, 2)) (hq : pc + 2 = q) (kk : VL p l e s m below meth c b g T I P w q L (.int v :: st)) : VL p l e s m below meth c b g T I P w pc L st := by
  subst hq
  intro H locs ls hR hS hL
  exact lv_bipush C.1.1 C.1.2.1 hd hv (kk H locs ls hR hS hL)
theorem L_isub (C : LC p s m meth c b Ln xs g) {x y : Int32} (hd : decode cL_law pc = .ok (.isub, 1)) (hq : pc + 1 = q) (kk : VL p l e s m below meth c b g T I P w q L (.int (x - y) :: st)) : VL p l e s m below meth c b g T I P w pc L (.int y :: .int x :: st) := by
  subst hq
  intro H locs ls hR hS hL
  exact lv_isub C.1.1 C.1.2.1 hd (kk H locs ls hR hS hL)
theorem L_iand (C : LC p s m meth c b Ln xs g) {x y : Int32} (hd : decode cL_law pc = .ok (.iand, 1)) (hq : pc + 1 = q) (kk : VL p l e s m below meth c b g T I P w q L (.int (x &&& y) :: st)) : VL p l e s m below meth c b g T I P w pc L (.int y :: .int x :: st) := by
  subst hq
  intro H locs ls hR hS hL
  exact lv_iand C.1.1 C.1.2.1 hd (kk H locs ls hR hS hL)
theorem L_dup (C : LC p s m meth c b Ln xs g) {v : Value} (hc : v.category = 1) (hd : decode cL_law pc = .ok (.dup, 1)) (hq : pc + 1 = q) (kk : VL p l e s m below meth c b g T I P w q L (v :: v :: st)) : VL p l e s m below meth c b g T I P w pc L (v :: st) := by
  subst hq
  intro H locs ls hR hS hL
  exact lv_dup C.1.1 C.1.2.1 hd hc (kk H locs ls hR hS hL)
theorem L_iload_n (C : LC p s m meth c b Ln xs g) {n : Fin 4} {i : Nat} {x : Int32} (hi : (n : Nat) = i) (hl : L[i]? = some (some (.int x))) (hd : decode cL_law pc = .ok (.iload_n n, 1)) (hq : pc + 1 = q) (kk : VL p l e s m below meth c b g T I P w q L (.int x :: st)) : VL p l e s m below meth c b g T I P w pc L st := by
  subst hq
  intro H locs ls hR hS hL
  exact lv_iload_n C.1.1 C.1.2.1 hd hi (hL.2.2 _ _ hl) (kk H locs ls hR hS hL)
theorem L_aload_n (C : LC p s m meth c b Ln xs g) {n : Fin 4} {i a : Nat} (hi : (n : Nat) = i) (hl : L[i]? = some (some (.ref a))) (hd : decode cL_law pc = .ok (.aload_n n, 1)) (hq : pc + 1 = q) (kk : VL p l e s m below meth c b g T I P w q L (.ref a :: st)) : VL p l e s m below meth c b g T I P w pc L st := by
  subst hq
  intro H locs ls hR hS hL
  exact lv_aload_n C.1.1 C.1.2.1 hd hi (hL.2.2 _ _ hl) (kk H locs ls hR hS hL)
theorem L_istore_n (C : LC p s m meth c b Ln xs g) {n : Fin 4} {i : Nat} {x : Int32} (hi : (n : Nat) = i) (hn : i < 3) (hcat : ∀ v, some v ∈ L → v.category = 1) (hL' : L.set i (some (.int x)) = L') (hd : decode cL_law pc = .ok (.istore_n n, 1)) (hq : pc + 1 = q) (kk : VL p l e s m below meth c b g T I P w q L' st) : VL p l e s m below meth c b g T I P w pc L ((.int x) :: st) := by
  subst hq
  subst hL'
  subst hi
  intro H locs ls hR hS hL2
  have hL := hL2.one hcat
  obtain ⟨ls', e', h'⟩ := lv_store1 (v := (.int x)) hL.has hn rfl
  have kk := kk H locs ls' hR hS (hL.set hn rfl e').two
  intro T0 hT X
  obtain ⟨t, a1, b1⟩ := kk T0 hT X
  refine ⟨t, ?_, b1⟩
  jvm_step X.here [X.here.top, ↓top_set X.here.top, C.1.1, C.1.2.1, hd, e', Value.isRef]
  exact a1
theorem L_astore_n (C : LC p s m meth c b Ln xs g) {n : Fin 4} {i a : Nat} (hi : (n : Nat) = i) (hn : i < 3) (hcat : ∀ v, some v ∈ L → v.category = 1) (hL' : L.set i (some (.ref a)) = L') (hd : decode cL_law pc = .ok (.astore_n n, 1)) (hq : pc + 1 = q) (kk : VL p l e s m below meth c b g T I P w q L' st) : VL p l e s m below meth c b g T I P w pc L ((.ref a) :: st) := by
  subst hq
  subst hL'
  subst hi
  intro H locs ls hR hS hL2
  have hL := hL2.one hcat
  obtain ⟨ls', e', h'⟩ := lv_store1 (v := (.ref a)) hL.has hn rfl
  have kk := kk H locs ls' hR hS (hL.set hn rfl e').two
  intro T0 hT X
  obtain ⟨t, a1, b1⟩ := kk T0 hT X
  refine ⟨t, ?_, b1⟩
  jvm_step X.here [X.here.top, ↓top_set X.here.top, C.1.1, C.1.2.1, hd, e', Value.isRef]
  exact a1
theorem L_iinc (C : LC p s m meth c b Ln xs g) {i : Nat} {n : Int} {x v : Int32} (hl : L[i]? = some (some (.int x))) (hv : x + Int32.ofInt n = v) (hn : i < 3) (hcat : ∀ v, some v ∈ L → v.category = 1) (hL' : L.set i (some (.int v)) = L') (hd : decode cL_law pc = .ok (.iinc i n, 3)) (hq : pc + 3 = q) (kk : VL p l e s m below meth c b g T I P w q L' st) : VL p l e s m below meth c b g T I P w pc L st := by
  subst hq
  subst hL'
  subst hv
  intro H locs ls hR hS hL2
  have hL := hL2.one hcat
  obtain ⟨ls', e', h'⟩ := lv_store1 (v := .int (x + Int32.ofInt n)) hL.has hn rfl
  have hg := hL2.2.2 _ _ hl
  have kk := kk H locs ls' hR hS (hL.set hn rfl e').two
  intro T0 hT X
  obtain ⟨t, a1, b1⟩ := kk T0 hT X
  refine ⟨t, ?_, b1⟩
  jvm_step X.here [X.here.top, ↓top_set X.here.top, C.1.1, C.1.2.1, hd, hg, e']
  exact a1
theorem L_icmp_eq (C : LC p s m meth c b Ln xs g) {x y : Int32} {off : Int} {tgt : Nat} (hd : decode cL_law pc = .ok (.if_icmp .eq off, 3)) (ht : (pc : Int) + off = (tgt : Int)) (h : x = y) (kt : VL p l e s m below meth c b g T I P w tgt L st) : VL p l e s m below meth c b g T I P w pc L (.int y :: .int x :: st) := by
  intro H locs ls hR hS hL
  exact lv_icmp_eq C.1.1 C.1.2.1 hd ht (fun _ => kt H locs ls hR hS hL) (fun z => absurd h z)
theorem L_goto (C : LC p s m meth c b Ln xs g) {off : Int} {tgt : Nat} (hd : decode cL_law pc = .ok (.goto off, 3)) (ht : (pc : Int) + off = (tgt : Int)) (kk : VL p l e s m below meth c b g T I P w tgt L st) : VL p l e s m below meth c b g T I P w pc L st := by
  intro H locs ls hR hS hL
  exact lv_goto C.1.1 C.1.2.1 hd ht (kk H locs ls hR hS hL)
theorem L_iadd (C : LC p s m meth c b Ln xs g) {x y : Int32} (hd : decode cL_law pc = .ok (.iadd, 1)) (hq : pc + 1 = q) (kk : VL p l e s m below meth c b g T I P w q L (.int (x + y) :: st)) : VL p l e s m below meth c b g T I P w pc L (.int y :: .int x :: st) := by
  subst hq
  intro H locs ls hR hS hL
  exact lv_iadd C.1.1 C.1.2.1 hd (kk H locs ls hR hS hL)
theorem L_call (C : LC p s m meth c b Ln xs g) {k0 : fw_M} {ci n idx a mc0 ms0 : Nat} {As S0 : List Value} {T1 : fw_T} {Q0 : Option Value → fw_I → fw_P → Prop} (hsp : Sp l g k0 T (.ref (g.1 + a) :: As) I P T1 mc0 ms0 Q0) (hk : fw_kv k0 ci n) (hm : Cond.methodLink RL idx k0.1 ∈ fw_U) (hf : fw_fit kL k0) (hT : fw_at T a ci 0) (hn : As.length = n) (hst : S0 = As.reverse ++ .ref (g.1 + a) :: st) (hcs : (st.map fun v => v.category).sum ≤ 8) (hu : T.1 + mc0 ≤ 698861) (hw : w + ms0 ≤ 7005664) (h0 : T1.1 = T.1 + mc0) (hd : decode cL_law pc = .ok (.invokevirtual idx, 3)) (hq : pc + 3 = q)
    (kk : ∀ (v : Option Value) (I1 : fw_I) (P1 : fw_P), Q0 v I1 P1 → VL p l e s m below meth c b g T1 I1 P1 (w + ms0) q L (v.toList ++ st)) : VL p l e s m below meth c b g T I P w pc L S0 := by
  subst hq
  intro H locs ls hR hS hL
  have hg := C.2.1
  refine fw_sized (u := T.1) (by omega) (by omega) hS hR (fun hz => ?_)
  obtain ⟨r, hr1, hr2⟩ := hk.2.2.2.2
  have hrec := va_recv (q0 := a) C.2.2.1.1 hR hr1 (hT.get hk.2.2.2.1 g I P)
  rw [hr2] at hrec
  have hcb : CallB room_1 s #[Value.ref b] RL idx k0.1 k0.2.1 k0.2.2.1 k0.2.2.2.1 (fw_wsk k0) (fw_rm k0 mc0 ms0) mc0 ms0 n := callB_of n C.hts (fw_wsk_good hk.1.1) rfl rfl rfl (C.hts _ hk.1.2.1) (C.hts _ hm) ⟨hk.1.2.2.1, hk.1.2.2.2.1, hk.1.2.2.2.2⟩ hf
  refine fw_go (va_runV (C := k0.1.cls) (b := g.1 + a) (As := As) (rest := st) C.fix hsp ⟨hcb, C.hts _ hk.2.1, C.hts _ hk.2.2.1⟩ ⟨fw_blind _ _ _ _ _, hrec, fun U hU hW => ⟨rfl, ⟨by rw [hU]; exact hz, by rw [hU]; exact hR⟩, C.2.2.1.warm hW⟩⟩ rfl hn hL.1 hst (by show 2 * (F0 m pc ls S0).monitorRoom + _ ≤ 8; rw [show (F0 m pc ls S0).monitorRoom = 0 from rfl]; simpa using hcs) hd ⟨hu, hw⟩) hS (fun v I1 P1 H1 locs1 hQ0 hR1 hS1 => ?_)
  have h9 := kk v I1 P1 hQ0 H1 locs1 ls hR1 hS1 hL
  rw [h0] at h9
  exact h9
theorem L_callI (C : LC p s m meth c b Ln xs g) {k0 : fw_M} {n idx a mc0 ms0 : Nat} {As S0 : List Value} {T1 : fw_T} {Q0 : Option Value → fw_I → fw_P → Prop} (hsp : Sp l g k0 T (.ref a :: As) I P T1 mc0 ms0 Q0) (hk : fw_ki k0 n) (hret : k0.2.2.2.1 = none) (hm : Cond.methodLink RL idx k0.1 ∈ fw_U) (hf : fw_fit kL k0) (hn : As.length = n) (hst : S0 = As.reverse ++ .ref a :: st) (hcs : (st.map fun v => v.category).sum ≤ 8) (hu : T.1 + mc0 ≤ 698861) (hw : w + ms0 ≤ 7005664) (h0 : T1.1 = T.1 + mc0) (hd : decode cL_law pc = .ok (.invokespecial idx, 3)) (hq : pc + 3 = q)
    (kk : ∀ (v : Option Value) (I1 : fw_I) (P1 : fw_P), Q0 v I1 P1 → VL p l e s m below meth c b g T1 I1 P1 (w + ms0) q L (v.toList ++ st)) : VL p l e s m below meth c b g T I P w pc L S0 := by
  subst hq
  intro H locs ls hR hS hL
  have hg := C.2.1
  refine fw_sized (u := T.1) (by omega) (by omega) hS hR (fun hz => ?_)
  have hcb : CallB room_1 s #[Value.ref b] RL idx k0.1 k0.2.1 k0.2.2.1 k0.2.2.2.1 (fw_wsk k0) (fw_rm k0 mc0 ms0) mc0 ms0 n := callB_of n C.hts (fw_wsk_good hk.1.1) rfl rfl rfl (C.hts _ hk.1.2.1) (C.hts _ hm) ⟨hk.1.2.2.1, hk.1.2.2.2.1, hk.1.2.2.2.2⟩ hf
  rw [hret] at hcb
  refine fw_go (va_runI (b := a) (As := As) (rest := st) C.fix hsp ⟨hcb, hk.2.2, C.hts _ hk.2.1⟩ ⟨fw_blind _ _ _ _ _, fun U hU hW => ⟨rfl, ⟨by rw [hU]; exact hz, by rw [hU]; exact hR⟩, C.2.2.1.warm hW⟩⟩ rfl hn hL.1 hst (by show 2 * (F0 m pc ls S0).monitorRoom + _ ≤ 8; rw [show (F0 m pc ls S0).monitorRoom = 0 from rfl]; simpa using hcs) hd ⟨hu, hw⟩) hS (fun v I1 P1 H1 locs1 hQ0 hR1 hS1 => ?_)
  have h9 := kk v I1 P1 hQ0 H1 locs1 ls hR1 hS1 hL
  rw [h0] at h9
  exact h9
theorem L_new (C : LC p s m meth c b Ln xs g) {ci idx N n : Nat} {Cn : String} {Tt : u_T} {ty : Nat → FieldType} (ht : tt n = (ci, 0)) (hc : fw_cl ci Cn Tt N ty) (hdf : ∀ j, j < N → defaultValue (ty j) = vp_V (fw_fs g (fun _ _ => 0) (fun _ _ => none) n ci) j) (hl : Cond.classLink RL idx Cn ∈ fw_U) (hin : Cond.instantiable Cn N ∈ fw_U) (hini : Cond.initialized Cn ∈ fw_U) (hu : n + 1 ≤ 698861) (hw : w + N ≤ 7005664) (hd : decode cL_law pc = .ok (.new idx, 3)) (hq : pc + 3 = q)
    (kk : VL p l e s m below meth c b g (n + 1, tt) (fw_z I n 0) (fw_z P n none) (w + N) q L (.ref (g.1 + n) :: st)) : VL p l e s m below meth c b g (n, tt) I P w pc L st := by
  subst hq
  intro H locs ls hR hS hL
  have hg := C.2.1
  refine fw_sized (u := n) (T := (n, tt)) (by show _ = g.1 + n; omega) (by omega) hS hR (fun hz => ?_)
  have hcl := C.hts
  refine W.newcK C.1.1 C.1.2.1 C.1.2.2.2.2.1 (hcl _ hl) (hcl _ hin) (hcl _ hini) rfl hd hu hw (C.2.2.1.1.1 ci _ hc.1).2.1 rfl (fun H1 kC hkC e1 z1 o1 => ?_)
  have hk : ∀ (k0 : Nat) (x : Nat × va_E), (fw_ws g (n, tt) I P)[k0]? = some x → H1[x.1]? = H[x.1]? := fun k0 x hx => o1 x.1 ((hR k0 x hx).lt)
  have hS1 : va_S (fw_A g) s.heap H1 locs := ⟨Nat.le_trans hS.1 (by omega), fun x h1 h2 => (o1 x (Nat.lt_of_lt_of_le h1 hS.1)).trans (hS.2.1 x h1 h2), hS.2.2⟩
  have hP1 : va_P g.2.1 vwCl (fw_ws g (n, tt) I P ++ [(H.size, .inr (ci, fw_fs g (fun _ _ => 0) (fun _ _ => none) n ci))]) H1 := by
    refine (va_P.kept hR hk).app (fun k0 x hx => ?_)
    have hz0 : k0 < 1 := (List.getElem?_eq_some_iff.mp hx).1
    rw [show k0 = 0 by omega] at hx
    cases hx
    exact ⟨_, hc.1, (u_born ty hcl hc.2.2.1 (C.2.2.1.1.1 ci _ hc.1) hkC e1 hc.2.2.2.1).to hdf⟩
  have hz' : H.size = g.1 + (n, tt).1 := hz
  rw [hz', ← fw_ent_ob g (fun _ _ => 0) (fun _ _ => none) (n, tt).1 0 hc.2.1, ← fw_ws_push, push_tt ht] at hP1
  rw [hz']
  exact kk H1 locs ls hP1 hS1 hL
theorem L_imul (C : LC p s m meth c b Ln xs g) {x y : Int32} (hd : decode cL_law pc = .ok (.imul, 1)) (hq : pc + 1 = q) (kk : VL p l e s m below meth c b g T I P w q L (.int (x * y) :: st)) : VL p l e s m below meth c b g T I P w pc L (.int y :: .int x :: st) := by
  subst hq
  intro H locs ls hR hS hL
  exact lv_imul C.1.1 C.1.2.1 hd (kk H locs ls hR hS hL)
theorem L_ishr (C : LC p s m meth c b Ln xs g) {x y : Int32} (hd : decode cL_law pc = .ok (.ishr, 1)) (hq : pc + 1 = q) (kk : VL p l e s m below meth c b g T I P w q L (.int (x >>> (y &&& 31)) :: st)) : VL p l e s m below meth c b g T I P w pc L (.int y :: .int x :: st) := by
  subst hq
  intro H locs ls hR hS hL
  exact lv_ishr C.1.1 C.1.2.1 hd (kk H locs ls hR hS hL)
theorem L_ldc (C : LC p s m meth c b Ln xs g) {i : Nat} {v : Int32} (hw : Cond.constant RL i v ∈ fw_U) (hd : decode cL_law pc = .ok (.ldc i, 2)) (hq : pc + 2 = q) (kk : VL p l e s m below meth c b g T I P w q L (.int v :: st)) : VL p l e s m below meth c b g T I P w pc L st := by
  subst hq
  intro H locs ls hR hS hL
  exact lv_ldc C.1.1 C.1.2.1 C.1.2.2.2.2.1 (C.hts _ hw) hd (kk H locs ls hR hS hL)
theorem L_if_eq (C : LC p s m meth c b Ln xs g) {x : Int32} {off : Int} {tgt : Nat} (hd : decode cL_law pc = .ok (.ifCond .eq off, 3)) (ht : (pc : Int) + off = (tgt : Int)) (hq : pc + 3 = q) (kt : x = 0 → VL p l e s m below meth c b g T I P w tgt L st) (kf : ¬ x = 0 → VL p l e s m below meth c b g T I P w q L st) : VL p l e s m below meth c b g T I P w pc L (.int x :: st) := by
  subst hq
  intro H locs ls hR hS hL
  exact lv_if_eq C.1.1 C.1.2.1 hd ht (fun h => kt h H locs ls hR hS hL) (fun h => kf h H locs ls hR hS hL)
theorem L_if_ne (C : LC p s m meth c b Ln xs g) {x : Int32} {off : Int} {tgt : Nat} (hd : decode cL_law pc = .ok (.ifCond .ne off, 3)) (ht : (pc : Int) + off = (tgt : Int)) (hq : pc + 3 = q) (kt : ¬ x = 0 → VL p l e s m below meth c b g T I P w tgt L st) (kf : ¬ ¬ x = 0 → VL p l e s m below meth c b g T I P w q L st) : VL p l e s m below meth c b g T I P w pc L (.int x :: st) := by
  subst hq
  intro H locs ls hR hS hL
  exact lv_if_ne C.1.1 C.1.2.1 hd ht (fun h => kt h H locs ls hR hS hL) (fun h => kf (fun z => z h) H locs ls hR hS hL)
theorem L_icmp_ge (C : LC p s m meth c b Ln xs g) {x y : Int32} {off : Int} {tgt : Nat} (hd : decode cL_law pc = .ok (.if_icmp .ge off, 3)) (ht : (pc : Int) + off = (tgt : Int)) (hq : pc + 3 = q) (kt : y ≤ x → VL p l e s m below meth c b g T I P w tgt L st) (kf : ¬ y ≤ x → VL p l e s m below meth c b g T I P w q L st) : VL p l e s m below meth c b g T I P w pc L (.int y :: .int x :: st) := by
  subst hq
  intro H locs ls hR hS hL
  exact lv_icmp_ge C.1.1 C.1.2.1 hd ht (fun h => kt h H locs ls hR hS hL) (fun h => kf h H locs ls hR hS hL)
theorem L_callS (C : LC p s m meth c b Ln xs g) {k0 : fw_M} {n idx mc0 ms0 : Nat} {As S0 : List Value} {T1 : fw_T} {Q0 : Option Value → fw_I → fw_P → Prop} (hsp : Sp l g k0 T As I P T1 mc0 ms0 Q0) (hk : fw_ks k0 n) (hm : Cond.methodLink RL idx k0.1 ∈ fw_U) (hf : fw_fit kL k0) (hn : As.length = n) (hst : S0 = As.reverse ++ st) (hcs : (st.map fun v => v.category).sum ≤ 8) (hu : T.1 + mc0 ≤ 698861) (hw : w + ms0 ≤ 7005664) (h0 : T1.1 = T.1 + mc0) (hd : decode cL_law pc = .ok (.invokestatic idx, 3)) (hq : pc + 3 = q)
    (kk : ∀ (v : Option Value) (I1 : fw_I) (P1 : fw_P), Q0 v I1 P1 → VL p l e s m below meth c b g T1 I1 P1 (w + ms0) q L (v.toList ++ st)) : VL p l e s m below meth c b g T I P w pc L S0 := by
  subst hq
  intro H locs ls hR hS hL
  have hg := C.2.1
  refine fw_sized (u := T.1) (by omega) (by omega) hS hR (fun hz => ?_)
  have hcb : CallB room_1 s #[Value.ref b] RL idx k0.1 k0.2.1 k0.2.2.1 k0.2.2.2.1 (fw_wsk k0) (fw_rm k0 mc0 ms0) mc0 ms0 n := callB_of n C.hts (fw_wsk_good hk.1.1) rfl rfl rfl (C.hts _ hk.1.2.1) (C.hts _ hm) ⟨hk.1.2.2.1, hk.1.2.2.2.1, hk.1.2.2.2.2⟩ hf
  refine fw_go (va_runS (As := As) (rest := st) C.fix hsp ⟨hcb, C.hts _ hk.2⟩ ⟨fw_blind _ _ _ _ _, fun U hU hW => ⟨rfl, ⟨by rw [hU]; exact hz, by rw [hU]; exact hR⟩, C.2.2.1.warm hW⟩⟩ rfl hn hL.1 hst (by show 2 * (F0 m pc ls S0).monitorRoom + _ ≤ 8; rw [show (F0 m pc ls S0).monitorRoom = 0 from rfl]; simpa using hcs) hd ⟨hu, hw⟩) hS (fun v I1 P1 H1 locs1 hQ0 hR1 hS1 => ?_)
  have h9 := kk v I1 P1 hQ0 H1 locs1 ls hR1 hS1 hL
  rw [h0] at h9
  exact h9
/-- the script's int at a place, whatever it is -/
theorem L_cell (C : LC p s m meth c b Ln xs g) {idx j : Nat} (hj : j < 2 ^ 31) (hm : Cond.methodLink RL idx kL_cell.1 ∈ fw_U) (hcs : (st.map fun v => v.category).sum ≤ 8) (hu : T.1 ≤ 698861) (hw : w ≤ 7005664) (hd : decode cL_law pc = .ok (.invokestatic idx, 3)) (hq : pc + 3 = q)
    (kk : ∀ r : Int32, VL p l e s m below meth c b g T I P w q L (.int r :: st)) : VL p l e s m below meth c b g T I P w pc L (.int (nI j) :: .ref b :: st) := by
  subst hq
  intro H locs ls hR hS hL
  have hg := C.2.1
  have h26 := C.2.2.2
  have hbl := C.1.2.2.2.2.2.2.2.1
  refine fw_sized (u := T.1) (by omega) (by omega) hS hR (fun hz => ?_)
  have hk := o_L_cell
  have hcb : CallB room_1 s #[Value.ref b] RL idx kL_cell.1 kL_cell.2.1 kL_cell.2.2.1 kL_cell.2.2.2.1 (fw_wsk kL_cell) (fw_rm kL_cell 0 0) 0 0 2 := callB_of 2 C.hts (fw_wsk_good hk.1.1) rfl rfl rfl (C.hts _ hk.1.2.1) (C.hts _ hm) ⟨hk.1.2.2.1, hk.1.2.2.2.1, hk.1.2.2.2.2⟩ ⟨by decide, by decide⟩
  have hX : va_X b Ln xs s H := C.1.2.2.2.2.2.2.1.kept (hS.2.1 b hbl C.nA)
  refine fw_go (va_runS (As := [.ref b, .int (nI j)]) (rest := st) C.fix (sp_cell l g (T := T) (I := I) (P := P) (xs := xs) hj (show Ln < 2 ^ 31 by omega)) ⟨hcb, C.hts _ hk.2⟩ ⟨cell_blind _ _ _ _ _ _ _ _, fun U hU hW => ⟨⟨rfl, ⟨by rw [hU]; exact hz, by rw [hU]; exact hR⟩, C.2.2.1.warm hW⟩, by omega, by rw [hU]; exact hX.moved hW.alike⟩⟩ rfl rfl hL.1 rfl (by show 2 * (F0 m pc ls (.int (nI j) :: .ref b :: st)).monitorRoom + _ ≤ 8; rw [show (F0 m pc ls (.int (nI j) :: .ref b :: st)).monitorRoom = 0 from rfl]; simpa using hcs) hd ⟨hu, hw⟩) hS (fun v I1 P1 H1 locs1 hQ0 hR1 hS1 => ?_)
  obtain ⟨r, rfl, rfl, rfl⟩ := hQ0
  exact kk r H1 locs1 ls hR1 hS1 hL
/-- the law's end, with true -/
theorem L_ret (C : LC p s m meth c b Ln xs g) (hu : T.1 ≤ 698861) (hw : w ≤ 7005664) : VL p l e s m below meth c b g T I P w 149 L [.int 1] := by
  intro H locs ls hR hS hL
  have hg := C.2.1
  refine W.base ?_
  refine va_forget (fun q hq => by have := hS.2.2 q hq; have h2 : g.1 ≤ q.base := this; show s.heap.size ≤ q.base; omega) ?_
  refine W.widen (k := 698861) (n := 7005664) hu hw ?_
  exact lw_ret (Drawn.sameBut.refl s.drawn lw_cs) C.1.1 C.1.2.1 C.1.2.2.1 C.1.2.2.2.2.2.2.2.2.1 dL_law_149
end LAWR
