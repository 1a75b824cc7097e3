/-! FLAT MEMORY: every cell from a base on, by its kind. Kinds 0 to 8: an object of that class of vwCl; 9 int[], 10 boolean[], 11 Race[], 12 Piece[], 13 Bite[], 14 Snake[] (with the length). Ints in I (address, place), references in P (addresses counted from the base). -/
abbrev fw_T : Type := Nat × (Nat → Nat × Nat)
abbrev fw_G : Type := Nat × va_G × (Nat → ClassId)
abbrev fw_I : Type := Nat → Nat → Int32
abbrev fw_P : Type := Nat → Nat → Option Nat
/-- a method: name, code, locals, answer, frames and words of room below it -/
abbrev fw_M : Type := MethodName × ByteArray × Nat × Option FieldType × Nat × Nat
def fw_rf (g : fw_G) : Option Nat → Value
  | none => .null
  | some a => .ref (g.1 + a)
theorem fw_rf_map (g : fw_G) (r : Option Nat) : va_rf (r.map fun b => g.1 + b) = fw_rf g r := by cases r <;> rfl
def fw_fs (g : fw_G) (I : fw_I) (P : fw_P) (a : Nat) : Nat → List Value
  | 0 => [.int (I a 0), .int (I a 1), .int (I a 2), .int (I a 3)]
  | 1 => [fw_rf g (P a 0), .int (I a 1)]
  | 2 => [fw_rf g (P a 0), .int (I a 1), .int (I a 2), .int (I a 3), .int (I a 4), .int (I a 5), .int (I a 6)]
  | 3 => [fw_rf g (P a 0), fw_rf g (P a 1), .int (I a 2), .int (I a 3), .int (I a 4), .int (I a 5), .int (I a 6), .int (I a 7), .int (I a 8), .int (I a 9)]
  | 4 => [fw_rf g (P a 0), .int (I a 1)]
  | 5 => [fw_rf g (P a 0), fw_rf g (P a 1), .int (I a 2)]
  | 6 => [.int (I a 0), .int (I a 1), .int (I a 2), .int (I a 3)]
  | 7 => [fw_rf g (P a 0), fw_rf g (P a 1), fw_rf g (P a 2), fw_rf g (P a 3), fw_rf g (P a 4), fw_rf g (P a 5), .int (I a 6)]
  | _ => [fw_rf g (P a 0), fw_rf g (P a 1), .int (I a 2), fw_rf g (P a 3), .int (I a 4), fw_rf g (P a 5), fw_rf g (P a 6), .int (I a 7), .int (I a 8), .int (I a 9), fw_rf g (P a 10), .int (I a 11), fw_rf g (P a 12), fw_rf g (P a 13)]
/-- which fields are ints -/
def fw_int : Nat → Nat → Bool
  | 0, k => decide (k < 4)
  | 1, k => decide (k = 1)
  | 2, k => decide (1 ≤ k ∧ k < 7)
  | 3, k => decide (2 ≤ k ∧ k < 10)
  | 4, k => decide (k = 1)
  | 5, k => decide (k = 2)
  | 6, k => decide (k < 4)
  | 7, k => decide (k = 6)
  | 8, k => decide (k = 2 ∨ k = 4 ∨ k = 7 ∨ k = 8 ∨ k = 9 ∨ k = 11)
  | _, _ => false
def fw_refs : Nat → Nat → Bool
  | 1, k => decide (k = 0)
  | 2, k => decide (k = 0)
  | 3, k => decide (k < 2)
  | 4, k => decide (k = 0)
  | 5, k => decide (k < 2)
  | 7, k => decide (k < 6)
  | 8, k => decide (k = 0 ∨ k = 1 ∨ k = 3 ∨ k = 5 ∨ k = 6 ∨ k = 10 ∨ k = 12 ∨ k = 13)
  | _, _ => false
def fw_ent (g : fw_G) (I : fw_I) (P : fw_P) (a : Nat) : Nat × Nat → va_E
  | (9, n) => .inl (g.2.2 9, n, .inl (I a))
  | (10, n) => .inl (g.2.2 10, n, .inl (I a))
  | (11, n) => .inl (g.2.2 11, n, .inr (.inr (.inr (.inr (fun j => (P a j).map fun b => g.1 + b)))))
  | (12, n) => .inl (g.2.2 12, n, .inr (.inr (.inr (.inr (fun j => (P a j).map fun b => g.1 + b)))))
  | (13, n) => .inl (g.2.2 13, n, .inr (.inr (.inr (.inr (fun j => (P a j).map fun b => g.1 + b)))))
  | (14, n) => .inl (g.2.2 14, n, .inr (.inr (.inr (.inr (fun j => (P a j).map fun b => g.1 + b)))))
  | (c, _) => .inr (c, fw_fs g I P a c)
theorem fw_ent_ob (g : fw_G) (I : fw_I) (P : fw_P) (a n : Nat) {c : Nat} (h : c < 9) : fw_ent g I P a (c, n) = .inr (c, fw_fs g I P a c) := by
  match c, h with
  | 0, _ => rfl
  | 1, _ => rfl
  | 2, _ => rfl
  | 3, _ => rfl
  | 4, _ => rfl
  | 5, _ => rfl
  | 6, _ => rfl
  | 7, _ => rfl
  | 8, _ => rfl
def up2 {α : Type} (I : Nat → Nat → α) (a k : Nat) (x : α) : Nat → Nat → α := fun b => if b = a then (fun j => if j = k then x else I a j) else I b
theorem up2_same {α : Type} (I : Nat → Nat → α) (a k : Nat) (x : α) : up2 I a k x a k = x := by simp [up2]
theorem up2_row {α : Type} (I : Nat → Nat → α) (a k : Nat) (x : α) : up2 I a k x a = fun j => if j = k then x else I a j := by simp [up2]
theorem up2_ne {α : Type} (I : Nat → Nat → α) {a b : Nat} (k : Nat) (x : α) (h : b ≠ a) : up2 I a k x b = I b := by simp [up2, h]
theorem up2_at {α : Type} (I : Nat → Nat → α) (a k : Nat) (x : α) (b j : Nat) : up2 I a k x b j = if b = a ∧ j = k then x else I b j := by
  unfold up2
  by_cases h : b = a
  · subst h; by_cases h2 : j = k <;> simp [h2]
  · simp [h]
theorem fw_seti (g : fw_G) (I : fw_I) (P : fw_P) (a : Nat) (x : Int32) : ∀ (c k : Nat), fw_int c k = true → (fw_fs g I P a c).set k (.int x) = fw_fs g (up2 I a k x) P a c := by
  intro c k h
  match c, h with
  | 0, h => match k, h with
    | 0, _ => simp [fw_fs, up2]
    | 1, _ => simp [fw_fs, up2]
    | 2, _ => simp [fw_fs, up2]
    | 3, _ => simp [fw_fs, up2]
    | k + 4, h => (simp [fw_int] at h <;> omega)
  | 1, h => match k, h with
    | 1, _ => simp [fw_fs, up2]
    | 0, h => (simp [fw_int] at h <;> omega)
    | k + 2, h => (simp [fw_int] at h <;> omega)
  | 2, h => match k, h with
    | 0, h => (simp [fw_int] at h <;> omega)
    | 1, _ => simp [fw_fs, up2]
    | 2, _ => simp [fw_fs, up2]
    | 3, _ => simp [fw_fs, up2]
    | 4, _ => simp [fw_fs, up2]
    | 5, _ => simp [fw_fs, up2]
    | 6, _ => simp [fw_fs, up2]
    | k + 7, h => (simp [fw_int] at h <;> omega)
  | 3, h => match k, h with
    | 0, h => (simp [fw_int] at h <;> omega)
    | 1, h => (simp [fw_int] at h <;> omega)
    | 2, _ => simp [fw_fs, up2]
    | 3, _ => simp [fw_fs, up2]
    | 4, _ => simp [fw_fs, up2]
    | 5, _ => simp [fw_fs, up2]
    | 6, _ => simp [fw_fs, up2]
    | 7, _ => simp [fw_fs, up2]
    | 8, _ => simp [fw_fs, up2]
    | 9, _ => simp [fw_fs, up2]
    | k + 10, h => (simp [fw_int] at h <;> omega)
  | 4, h => match k, h with
    | 1, _ => simp [fw_fs, up2]
    | 0, h => (simp [fw_int] at h <;> omega)
    | k + 2, h => (simp [fw_int] at h <;> omega)
  | 5, h => match k, h with
    | 2, _ => simp [fw_fs, up2]
    | 0, h => (simp [fw_int] at h <;> omega)
    | 1, h => (simp [fw_int] at h <;> omega)
    | k + 3, h => (simp [fw_int] at h <;> omega)
  | 6, h => match k, h with
    | 0, _ => simp [fw_fs, up2]
    | 1, _ => simp [fw_fs, up2]
    | 2, _ => simp [fw_fs, up2]
    | 3, _ => simp [fw_fs, up2]
    | k + 4, h => (simp [fw_int] at h <;> omega)
  | 7, h => match k, h with
    | 6, _ => simp [fw_fs, up2]
    | 0, h => (simp [fw_int] at h <;> omega)
    | 1, h => (simp [fw_int] at h <;> omega)
    | 2, h => (simp [fw_int] at h <;> omega)
    | 3, h => (simp [fw_int] at h <;> omega)
    | 4, h => (simp [fw_int] at h <;> omega)
    | 5, h => (simp [fw_int] at h <;> omega)
    | k + 7, h => (simp [fw_int] at h <;> omega)
  | 8, h => match k, h with
    | 2, _ => simp [fw_fs, up2]
    | 4, _ => simp [fw_fs, up2]
    | 7, _ => simp [fw_fs, up2]
    | 8, _ => simp [fw_fs, up2]
    | 9, _ => simp [fw_fs, up2]
    | 11, _ => simp [fw_fs, up2]
    | 0, h => (simp [fw_int] at h <;> omega)
    | 1, h => (simp [fw_int] at h <;> omega)
    | 3, h => (simp [fw_int] at h <;> omega)
    | 5, h => (simp [fw_int] at h <;> omega)
    | 6, h => (simp [fw_int] at h <;> omega)
    | 10, h => (simp [fw_int] at h <;> omega)
    | k + 12, h => (simp [fw_int] at h <;> omega)
  | c + 9, h => (simp [fw_int] at h <;> omega)
theorem fw_setr (g : fw_G) (I : fw_I) (P : fw_P) (a : Nat) (r : Option Nat) : ∀ (c k : Nat), fw_refs c k = true → (fw_fs g I P a c).set k (fw_rf g r) = fw_fs g I (up2 P a k r) a c := by
  intro c k h
  match c, h with
  | 0, h => (simp [fw_refs] at h <;> omega)
  | 1, h => match k, h with
    | 0, _ => simp [fw_fs, up2]
    | k + 1, h => (simp [fw_refs] at h <;> omega)
  | 2, h => match k, h with
    | 0, _ => simp [fw_fs, up2]
    | k + 1, h => (simp [fw_refs] at h <;> omega)
  | 3, h => match k, h with
    | 0, _ => simp [fw_fs, up2]
    | 1, _ => simp [fw_fs, up2]
    | k + 2, h => (simp [fw_refs] at h <;> omega)
  | 4, h => match k, h with
    | 0, _ => simp [fw_fs, up2]
    | k + 1, h => (simp [fw_refs] at h <;> omega)
  | 5, h => match k, h with
    | 0, _ => simp [fw_fs, up2]
    | 1, _ => simp [fw_fs, up2]
    | k + 2, h => (simp [fw_refs] at h <;> omega)
  | 6, h => (simp [fw_refs] at h <;> omega)
  | 7, h => match k, h with
    | 0, _ => simp [fw_fs, up2]
    | 1, _ => simp [fw_fs, up2]
    | 2, _ => simp [fw_fs, up2]
    | 3, _ => simp [fw_fs, up2]
    | 4, _ => simp [fw_fs, up2]
    | 5, _ => simp [fw_fs, up2]
    | k + 6, h => (simp [fw_refs] at h <;> omega)
  | 8, h => match k, h with
    | 0, _ => simp [fw_fs, up2]
    | 1, _ => simp [fw_fs, up2]
    | 3, _ => simp [fw_fs, up2]
    | 5, _ => simp [fw_fs, up2]
    | 6, _ => simp [fw_fs, up2]
    | 10, _ => simp [fw_fs, up2]
    | 12, _ => simp [fw_fs, up2]
    | 13, _ => simp [fw_fs, up2]
    | 2, h => (simp [fw_refs] at h <;> omega)
    | 4, h => (simp [fw_refs] at h <;> omega)
    | 7, h => (simp [fw_refs] at h <;> omega)
    | 8, h => (simp [fw_refs] at h <;> omega)
    | 9, h => (simp [fw_refs] at h <;> omega)
    | 11, h => (simp [fw_refs] at h <;> omega)
    | k + 14, h => (simp [fw_refs] at h <;> omega)
  | c + 9, h => (simp [fw_refs] at h <;> omega)
def fw_ws (g : fw_G) (T : fw_T) (I : fw_I) (P : fw_P) : va_W := (List.range T.1).map fun a => (g.1 + a, fw_ent g I P a (T.2 a))
theorem fw_ws_get (g : fw_G) (T : fw_T) (I : fw_I) (P : fw_P) {a : Nat} (h : a < T.1) : (fw_ws g T I P)[a]? = some (g.1 + a, fw_ent g I P a (T.2 a)) := by
  simp [fw_ws, h]
theorem fw_ws_len (g : fw_G) (T : fw_T) (I : fw_I) (P : fw_P) : (fw_ws g T I P).length = T.1 := by simp [fw_ws]
def fw_A (g : fw_G) : Nat → Prop := fun q => g.1 ≤ q
theorem fw_D (g : fw_G) (T : fw_T) (I : fw_I) (P : fw_P) : va_D (fw_A g) (fw_ws g T I P) := by
  have key : ∀ (k : Nat) (q : Nat × va_E), (fw_ws g T I P)[k]? = some q → q.1 = g.1 + k := by
    intro k q h
    have hk : k < T.1 := by
      have := (List.getElem?_eq_some_iff.mp h).1
      rwa [fw_ws_len] at this
    rw [fw_ws_get g T I P hk] at h
    cases h
    rfl
  refine ⟨fun i j p q hi hj h => ?_, fun k q h => ?_⟩
  · have := key i p hi
    have := key j q hj
    omega
  · show g.1 ≤ q.1
    rw [key k q h]
    omega
theorem fw_ws_set (g : fw_G) (T : fw_T) (I I' : fw_I) (P P' : fw_P) {a : Nat} {e : va_E} (h : a < T.1) (he : fw_ent g I' P' a (T.2 a) = e) (hI : ∀ b, b ≠ a → I' b = I b) (hP : ∀ b, b ≠ a → P' b = P b) : (fw_ws g T I P).set a (g.1 + a, e) = fw_ws g T I' P' := by
  apply List.ext_getElem?
  intro j
  by_cases hj : j < T.1
  · rw [fw_ws_get g T I' P' hj]
    by_cases hja : j = a
    · subst hja
      rw [List.getElem?_set_self (by rw [fw_ws_len]; exact hj), he]
    · rw [List.getElem?_set_ne (fun q => hja q.symm), fw_ws_get g T I P hj]
      have e1 := hI j hja
      have e2 := hP j hja
      have : fw_ent g I P j (T.2 j) = fw_ent g I' P' j (T.2 j) := by
        unfold fw_ent fw_fs
        rw [e1, e2]
      rw [this]
  · rw [List.getElem?_eq_none (by rw [List.length_set, fw_ws_len]; omega), List.getElem?_eq_none (by rw [fw_ws_len]; omega)]
def fw_tys (g : fw_G) : List (ClassId × FieldType) := [(g.2.2 9, .int), (g.2.2 10, .int), (g.2.2 11, .object RX3), (g.2.2 12, .object RX2), (g.2.2 13, .object RX0), (g.2.2 14, .object RX6)]
def fw_nests : List (String × Nat × MethodName × String) := [(RX2, 17, yX0_init, RX7), (RX3, 24, yX6_init, RX7), (RX3, 100, yX7_landing, RX7), (RX5, 30, yX7_landing, RX7)]
def fw_aos : List String := [RX0, RX2, RX3, RX6]
def fw_K (g : fw_G) (U : State) : Prop := va_K g.2.1 vwCl (fw_tys g) U ∧ (∀ q ∈ fw_nests, va_Nw (.methodLinkNest q.1 q.2.1 q.2.2.1 q.2.2.2) U) ∧ ∀ q ∈ fw_aos, va_AO q U
theorem fw_K.warm {g : fw_G} {s U : State} (hW : s.WarmedH U.vm) (h : fw_K g s) : fw_K g U := ⟨va_K.moved hW.alike h.1, fun q hq => va_Nw.warmM hW (h.2.1 q hq), fun q hq => va_AO.moved hW.alike (h.2.2 q hq)⟩
theorem fw_K.blind {g : fw_G} {U : State} (f : JFrame) (mk : MethodId) (a : Array Value) (h : fw_K g U) : fw_K g (U.calling f mk a) := ⟨va_K.moved (u := U) (U := U.calling f mk a) (Vm.Alike.refl U.vm) h.1, fun q hq => va_Nw.same (u := U) rfl rfl (h.2.1 q hq), fun q hq => va_AO.moved (u := U) (U := U.calling f mk a) (Vm.Alike.refl U.vm) (h.2.2 q hq)⟩
def fw_U : List Cond := lw_tbl.filter goodWord
def fw_wsk (k : fw_M) : List Cond := .code k.1 k.2.1 k.2.2.1 k.2.2.2.1 :: fw_U
def fw_rm (k : fw_M) (mc ms : Nat) : Room := { frames := k.2.2.2.2.1, cells := mc, slots := ms, locals := k.2.2.2.2.2 }
theorem fw_U_good : GoodIn fw_U fw_U := fun w h => ⟨h, good_of_word (List.mem_filter.mp h).2⟩
theorem fw_wsk_good {k : fw_M} (h : Cond.code k.1 k.2.1 k.2.2.1 k.2.2.2.1 ∈ fw_U) : GoodIn fw_U (fw_wsk k) := fun w hw => by
  rcases List.mem_cons.mp hw with rfl | hw
  · exact fw_U_good _ h
  · exact fw_U_good _ hw
def fw_R (g : fw_G) (T : fw_T) (I : fw_I) (P : fw_P) (H : Heap) : Prop := va_P g.2.1 vwCl (fw_ws g T I P) H
def fw_post (g : fw_G) (T' : fw_T) (Q : Option Value → fw_I → fw_P → Prop) : Array Value → State → Outcome → State → Prop := fun _ st oc t =>
  (∃ (v : Option Value) (I : fw_I) (P : fw_P), oc = .returned v ∧ Q v I P ∧ fw_R g T' I P t.heap) ∧ va_F (fw_A g) st t
def fw_Pc (g : fw_G) (T : fw_T) (I : fw_I) (P : fw_P) (args : List Value) : Array Value → State → Prop := fun v U => v = args.toArray ∧ (U.heap.size = g.1 + T.1 ∧ fw_R g T I P U.heap) ∧ fw_K g U
theorem fw_blind (g : fw_G) (T : fw_T) (I : fw_I) (P : fw_P) (args : List Value) : FrameBlind (fw_Pc g T I P args) := fun a U f mk h => ⟨h.1, h.2.1, h.2.2.blind f mk a⟩
/-- a method's contract over flat memory -/
def Sp (l : Launch) (g : fw_G) (k : fw_M) (T : fw_T) (args : List Value) (I : fw_I) (P : fw_P) (T' : fw_T) (mc ms : Nat) (Q : Option Value → fw_I → fw_P → Prop) : Prop :=
  Met l k.1 (fw_wsk k) (fw_rm k mc ms) (fw_Pc g T I P args) (fw_post g T' Q) mc ms (fw_A g)
def fw_C (g : fw_G) (k : fw_M) (p : Program) (s : State) (m : MethodId) (args : Array Value) (meth : Method) (c : Code) : Prop :=
  CallFix p m c k.2.1 k.2.2.1 s args fw_U k.1.cls ∧ meth.sig.returnType = k.2.2.2.1 ∧ meth.locks = false ∧ meth.name = k.1.name ∧ g.1 ≤ s.heap.size
def fw_L (ls : Array Slot) (n : Nat) (L : List (Option Value)) : Prop := ls.size = n ∧ lv_wf ls ∧ ∀ (j : Nat) (v : Value), L[j]? = some (some v) → v.category = 1 ∧ ls[j]? = some (.val v)
theorem fw_L.has {ls : Array Slot} {n : Nat} {L : List (Option Value)} (h : fw_L ls n L) : lv_has ls n [] := ⟨h.1, h.2.1, fun q hq => absurd hq List.not_mem_nil⟩
theorem fw_L.set {ls ls' : Array Slot} {n i : Nat} {v : Value} {L : List (Option Value)} (h : fw_L ls n L) (hi : i < n) (hc : v.category = 1) (e : storeLocals ls i v = some ls') : fw_L ls' n (L.set i (some v)) := by
  have one : ∀ (j : Nat) (w : Value), w.category = 1 → ls[j]? = some (.val w) → lv_has ls' n ((i, v) :: [(j, w)].filter (fun q => !(q.1 == i) && !(q.1 + 1 == i && q.2.category == 2))) := by
    intro j w hw hj
    obtain ⟨l2, e2, h2⟩ := lv_store1 (v := v) (l := [(j, w)]) (ls := ls) (nL := n) ⟨h.1, h.2.1, fun q hq => by rw [List.mem_singleton.mp hq]; exact hj⟩ hi hc
    rw [e] at e2
    cases e2
    exact h2
  obtain ⟨l2, e2, h2⟩ := lv_store1 (v := v) h.has hi hc
  rw [e] at e2
  cases e2
  refine ⟨h2.1, h2.2.1, fun j w hj => ?_⟩
  by_cases hji : j = i
  · subst hji
    have hlt : j < L.length := by
      have := (List.getElem?_eq_some_iff.mp hj).1
      rwa [List.length_set] at this
    rw [List.getElem?_set_self hlt] at hj
    cases hj
    exact ⟨hc, h2.2.2 (j, v) List.mem_cons_self⟩
  · rw [List.getElem?_set_ne (fun q => hji q.symm)] at hj
    obtain ⟨a, b⟩ := h.2.2 j w hj
    refine ⟨a, (one j w a b).2.2 (j, w) (List.mem_cons_of_mem _ (List.mem_filter.mpr ⟨List.mem_cons_self, ?_⟩))⟩
    simp [hji, a]
/-- the walk: from this point of method k, over any heap that holds the memory, the method comes to its end as Q says -/
def V (l : Launch) (g : fw_G) (k : fw_M) (T' : fw_T) (mc ms : Nat) (Q : Option Value → fw_I → fw_P → Prop) (T : fw_T) (I : fw_I) (P : fw_P) (u w : Nat) (pc : Nat) (L : List (Option Value)) (st : List Value) : Prop :=
  ∀ (p : Program) (e : Env) (s : State) (m : MethodId) (args : Array Value) (below : List Frame) (meth : Method) (c : Code) (H : Heap) (locs : List Loc) (ls : Array Slot),
    (fw_C g k p s m args meth c ∧ s.heap.size + u = g.1 + T.1) → fw_K g s → fw_R g T I P H → va_S (fw_A g) s.heap H locs → fw_L ls k.2.2.1 L →
      W p l e (fw_rm k mc ms) s m args below meth c H locs u w (MQ below (fw_post g T' Q) args s mc ms (fw_A g)) (F0 m pc ls st)
theorem Sp.of_V {l : Launch} {g : fw_G} {k : fw_M} {T T' : fw_T} {as : List Value} {I : fw_I} {P : fw_P} {mc ms : Nat} {Q : Option Value → fw_I → fw_P → Prop} {L : List (Option Value)} (hy : plainName k.1.cls = true) (hcat : ∀ v ∈ as, v.category = 1) (hn : as.length ≤ k.2.2.1) (hL : as.map some ++ List.replicate (k.2.2.1 - as.length) none = L)
    (h : V l g k T' mc ms Q T I P 0 0 0 L []) : Sp l g k T as I P T' mc ms Q := by
  refine Met.ofW (cc := k.2.1) (maxL := k.2.2.1) (ret := k.2.2.2.1) hy rfl ?_
  intro p e s m args below meth c s₁ B hml hv
  obtain ⟨rfl, ⟨hz, hR⟩, hK⟩ := hv
  have hts := atoms_spec (ws := fw_wsk k) B.pre
  have hsl : lg_sl as = as.map Slot.val := by
    clear hL hn h hz hR hK hts B
    induction as with
    | nil => rfl
    | cons v t ih =>
      have h1 : v.category = 1 := hcat v List.mem_cons_self
      have h2 := ih (fun w hw => hcat w (List.mem_cons_of_mem _ hw))
      simp only [lg_sl, List.flatMap_cons, h1, List.map_cons] at h2 ⊢
      rw [h2]
      rfl
  have hle : (lg_sl as).length ≤ k.2.2.1 := by rw [hsl, List.length_map]; exact hn
  have hl := lv_entry as (n := k.2.2.1) hle
  rw [lg_entry_eq]
  refine h p e s m _ below meth c s.heap [] _ ⟨⟨⟨B.exec, B.bytes, hml, findClass_of_methodNamed B.named, fun w hw => hts w (List.mem_cons_of_mem _ hw)⟩, B.returns, B.notSynchronized, (name_of_methodNamed B.named B.method).1, by omega⟩, hz⟩ hK hR va_S.rf ⟨hl.1, hl.2.1, fun j v hj => ?_⟩
  rw [← hL] at hj
  have hjl : j < as.length := by
    rcases Nat.lt_or_ge j as.length with q | q
    · exact q
    · rw [List.getElem?_append_right (by simpa using q)] at hj
      have := List.eq_of_mem_replicate (List.mem_of_getElem? hj)
      cases this
  rw [List.getElem?_append_left (by simpa using hjl), List.getElem?_map] at hj
  cases ha : as[j]? with
  | none => rw [ha] at hj; cases hj
  | some v' =>
    rw [ha] at hj
    cases hj
    refine ⟨hcat _ (List.mem_of_getElem? ha), ?_⟩
    rw [hsl, List.getElem?_toArray, List.getElem?_append_left (by simpa using hjl), List.getElem?_map, ha]
    rfl
