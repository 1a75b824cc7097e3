variable {nT : Nat}
/-! the class' calls, as the property's law makes them -/
def z1 : Nat → Int32 := fun _ => 0
/-- the class' cells hold the row s, k states behind it -/
def Sx (I : fw_I) (P : fw_P) (s : Nat → Int32) (k : Nat) (h : Nat → Nat → Int32) : Prop := CSh P ∧ CRel I P s k h false z1 0 z1
def Wd (I : fw_I) (P : fw_P) (s : Nat → Int32) (k : Nat) (h : Nat → Nat → Int32) (B : Nat) : Prop := Sx I P s k h ∧ Inv B s ∧ J B s
theorem Wd.x {I : fw_I} {P : fw_P} {s : Nat → Int32} {k : Nat} {h : Nat → Nat → Int32} {B : Nat} (hx : Wd I P s k h B) : Sx I P s k h := hx.1
theorem Wd.to {I J0 : fw_I} {P Q : fw_P} {s : Nat → Int32} {k : Nat} {h : Nat → Nat → Int32} {B : Nat} (hx : Wd I P s k h B) (h1 : Sx J0 Q s k h) : Wd J0 Q s k h B := ⟨h1, hx.2⟩
theorem Sp.imp {l : Launch} {g : fw_G} {k : fw_M} {T T' : fw_T} {as : List Value} {I : fw_I} {P : fw_P} {mc ms : Nat} {Q Q' : Option Value → fw_I → fw_P → Prop} (h : Sp l g k T as I P T' mc ms Q) (hi : ∀ v I1 P1, Q v I1 P1 → Q' v I1 P1) : Sp l g k T as I P T' mc ms Q' := fun p e a1 a2 a3 s m args below b1 b2 b3 b4 => by
  obtain ⟨n, o, c1, c2, c3, ⟨⟨⟨v, I1, P1, e1, e2, e3⟩, e4⟩, L⟩⟩ := h p e a1 a2 a3 s m args below b1 b2 b3 b4
  exact ⟨n, o, c1, c2, c3, ⟨⟨v, I1, P1, e1, hi v I1 P1 e2, e3⟩, e4⟩, L⟩
theorem aBt_p {B : Nat} {s : Nat → Int32} (hI : Inv B s) {p j : Nat} (hp : p < 4) (hj : j < aMany s p) : aBt s (nI p) (nI j) := by
  have hm := hI.many hp
  refine ⟨le3 hp, nI_pos' (by omega), ?_⟩
  rw [nI_clamp (by omega), hm.1, show (1 : Int32) = nI 1 from rfl, nI_sub (by omega)]
  exact nI_le (by omega) (by omega)
section CALLS
variable {l : Launch} {g : fw_G} {I : fw_I} {P : fw_P} {s : Nat → Int32} {k : Nat} {h : Nat → Nat → Int32} {B : Nat}
theorem q_pl0 (hx : Wd I P s k h B) {p : Nat} (hp : p < 4) : Sp l g kX7_player (T0 nT) [.ref (g.1 + 0), .int (nI p), .int 0] I P (T0 nT) 0 0 (qI (ro s p 0) I P) := by
  have h9 := sc_player (nT := nT) l g hx.1.1 hx.1.2 hx.2.1 (nI p) 0
  have e : aPlrX s (nI p) 0 = ro s p 0 := by
    unfold aPlrX
    rw [if_pos (le3 hp), nI_clamp (by omega)]
    unfold aPlr
    rw [if_pos (show (0 : Int32) = nI 0 from rfl)]
  rwa [e] at h9
theorem q_pl1 (hx : Wd I P s k h B) {p : Nat} (hp : p < 4) : Sp l g kX7_player (T0 nT) [.ref (g.1 + 0), .int (nI p), .int 1] I P (T0 nT) 0 0 (qI (ro s p 1 + 1000) I P) := by
  have h9 := sc_player (nT := nT) l g hx.1.1 hx.1.2 hx.2.1 (nI p) 1
  have e : aPlrX s (nI p) 1 = ro s p 1 + 1000 := by
    unfold aPlrX
    rw [if_pos (le3 hp), nI_clamp (by omega)]
    unfold aPlr
    rw [if_neg (show ¬ (1 : Int32) = nI 0 from by decide), if_pos (show (1 : Int32) = nI 1 from rfl)]
  rwa [e] at h9
theorem q_pl2 (hx : Wd I P s k h B) {p : Nat} (hp : p < 4) : Sp l g kX7_player (T0 nT) [.ref (g.1 + 0), .int (nI p), .int 2] I P (T0 nT) 0 0 (qI (ro s p 5) I P) := by
  have h9 := sc_player (nT := nT) l g hx.1.1 hx.1.2 hx.2.1 (nI p) 2
  have e : aPlrX s (nI p) 2 = ro s p 5 := by
    unfold aPlrX
    rw [if_pos (le3 hp), nI_clamp (by omega)]
    unfold aPlr
    rw [if_neg (show ¬ (2 : Int32) = nI 0 from by decide), if_neg (show ¬ (2 : Int32) = nI 1 from by decide), if_pos (show (2 : Int32) = nI 2 from rfl)]
  rwa [e] at h9
theorem q_pl3 (hx : Wd I P s k h B) {p : Nat} (hp : p < 4) : Sp l g kX7_player (T0 nT) [.ref (g.1 + 0), .int (nI p), .int 3] I P (T0 nT) 0 0 (qI (aHu s p) I P) := by
  have h9 := sc_player (nT := nT) l g hx.1.1 hx.1.2 hx.2.1 (nI p) 3
  have e : aPlrX s (nI p) 3 = aHu s p := by
    unfold aPlrX
    rw [if_pos (le3 hp), nI_clamp (by omega)]
    unfold aPlr
    rw [if_neg (show ¬ (3 : Int32) = nI 0 from by decide), if_neg (show ¬ (3 : Int32) = nI 1 from by decide), if_neg (show ¬ (3 : Int32) = nI 2 from by decide), if_pos (show (3 : Int32) = nI 3 from rfl)]
  rwa [e] at h9
theorem q_pl4 (hx : Wd I P s k h B) {p : Nat} (hp : p < 4) : Sp l g kX7_player (T0 nT) [.ref (g.1 + 0), .int (nI p), .int 4] I P (T0 nT) 0 0 (qI (aBeg s p) I P) := by
  have h9 := sc_player (nT := nT) l g hx.1.1 hx.1.2 hx.2.1 (nI p) 4
  have e : aPlrX s (nI p) 4 = aBeg s p := by
    unfold aPlrX
    rw [if_pos (le3 hp), nI_clamp (by omega)]
    unfold aPlr
    rw [if_neg (show ¬ (4 : Int32) = nI 0 from by decide), if_neg (show ¬ (4 : Int32) = nI 1 from by decide), if_neg (show ¬ (4 : Int32) = nI 2 from by decide), if_neg (show ¬ (4 : Int32) = nI 3 from by decide), if_pos (show (4 : Int32) = nI 4 from rfl)]
  rwa [e] at h9
theorem q_pl5 (hx : Wd I P s k h B) {p : Nat} (hp : p < 4) : Sp l g kX7_player (T0 nT) [.ref (g.1 + 0), .int (nI p), .int 5] I P (T0 nT) 0 0 (qI ((if ro s p 2 = 0 then -5 else ro s p 2)) I P) := by
  have h9 := sc_player (nT := nT) l g hx.1.1 hx.1.2 hx.2.1 (nI p) 5
  have e : aPlrX s (nI p) 5 = (if ro s p 2 = 0 then -5 else ro s p 2) := by
    unfold aPlrX
    rw [if_pos (le3 hp), nI_clamp (by omega)]
    unfold aPlr
    rw [if_neg (show ¬ (5 : Int32) = nI 0 from by decide), if_neg (show ¬ (5 : Int32) = nI 1 from by decide), if_neg (show ¬ (5 : Int32) = nI 2 from by decide), if_neg (show ¬ (5 : Int32) = nI 3 from by decide), if_neg (show ¬ (5 : Int32) = nI 4 from by decide), if_pos (show (5 : Int32) = nI 5 from rfl)]
  rwa [e] at h9
theorem q_pl6 (hx : Wd I P s k h B) {p : Nat} (hp : p < 4) : Sp l g kX7_player (T0 nT) [.ref (g.1 + 0), .int (nI p), .int 6] I P (T0 nT) 0 0 (qI (ro s p 3) I P) := by
  have h9 := sc_player (nT := nT) l g hx.1.1 hx.1.2 hx.2.1 (nI p) 6
  have e : aPlrX s (nI p) 6 = ro s p 3 := by
    unfold aPlrX
    rw [if_pos (le3 hp), nI_clamp (by omega)]
    unfold aPlr
    rw [if_neg (show ¬ (6 : Int32) = nI 0 from by decide), if_neg (show ¬ (6 : Int32) = nI 1 from by decide), if_neg (show ¬ (6 : Int32) = nI 2 from by decide), if_neg (show ¬ (6 : Int32) = nI 3 from by decide), if_neg (show ¬ (6 : Int32) = nI 4 from by decide), if_neg (show ¬ (6 : Int32) = nI 5 from by decide), if_pos (show (6 : Int32) = nI 6 from rfl)]
  rwa [e] at h9
theorem q_pl7 (hx : Wd I P s k h B) {p : Nat} (hp : p < 4) : Sp l g kX7_player (T0 nT) [.ref (g.1 + 0), .int (nI p), .int 7] I P (T0 nT) 0 0 (qI (ro s p 4) I P) := by
  have h9 := sc_player (nT := nT) l g hx.1.1 hx.1.2 hx.2.1 (nI p) 7
  have e : aPlrX s (nI p) 7 = ro s p 4 := by
    unfold aPlrX
    rw [if_pos (le3 hp), nI_clamp (by omega)]
    unfold aPlr
    rw [if_neg (show ¬ (7 : Int32) = nI 0 from by decide), if_neg (show ¬ (7 : Int32) = nI 1 from by decide), if_neg (show ¬ (7 : Int32) = nI 2 from by decide), if_neg (show ¬ (7 : Int32) = nI 3 from by decide), if_neg (show ¬ (7 : Int32) = nI 4 from by decide), if_neg (show ¬ (7 : Int32) = nI 5 from by decide), if_neg (show ¬ (7 : Int32) = nI 6 from by decide), if_pos (show (7 : Int32) = nI 7 from rfl)]
  rwa [e] at h9
theorem q_bt0 (hx : Wd I P s k h B) {p j : Nat} (hp : p < 4) (hj : j < aMany s p) : Sp l g kX7_bite (T0 nT) [.ref (g.1 + 0), .int (nI p), .int (nI j), .int 0] I P (T0 nT) 0 0 (qI (s (wi p j + 0)) I P) := by
  have h9 := sc_bite (nT := nT) l g hx.1.1 hx.1.2 hx.2.1 (nI p) (nI j) 0
  have hm := hx.2.1.many hp
  have e : aBitX s (nI p) (nI j) 0 = s (wi p j + 0) := by
    unfold aBitX
    rw [if_pos (aBt_p hx.2.1 hp hj), if_pos (by decide), nI_clamp (by omega), nI_clamp (by omega)]
    rfl
  rwa [e] at h9
theorem q_bt1 (hx : Wd I P s k h B) {p j : Nat} (hp : p < 4) (hj : j < aMany s p) : Sp l g kX7_bite (T0 nT) [.ref (g.1 + 0), .int (nI p), .int (nI j), .int 1] I P (T0 nT) 0 0 (qI (s (wi p j + 1)) I P) := by
  have h9 := sc_bite (nT := nT) l g hx.1.1 hx.1.2 hx.2.1 (nI p) (nI j) 1
  have hm := hx.2.1.many hp
  have e : aBitX s (nI p) (nI j) 1 = s (wi p j + 1) := by
    unfold aBitX
    rw [if_pos (aBt_p hx.2.1 hp hj), if_pos (by decide), nI_clamp (by omega), nI_clamp (by omega)]
    rfl
  rwa [e] at h9
theorem q_bt2 (hx : Wd I P s k h B) {p j : Nat} (hp : p < 4) (hj : j < aMany s p) : Sp l g kX7_bite (T0 nT) [.ref (g.1 + 0), .int (nI p), .int (nI j), .int 2] I P (T0 nT) 0 0 (qI (s (wi p j + 2)) I P) := by
  have h9 := sc_bite (nT := nT) l g hx.1.1 hx.1.2 hx.2.1 (nI p) (nI j) 2
  have hm := hx.2.1.many hp
  have e : aBitX s (nI p) (nI j) 2 = s (wi p j + 2) := by
    unfold aBitX
    rw [if_pos (aBt_p hx.2.1 hp hj), if_pos (by decide), nI_clamp (by omega), nI_clamp (by omega)]
    rfl
  rwa [e] at h9
theorem q_bt3 (hx : Wd I P s k h B) {p j : Nat} (hp : p < 4) (hj : j < aMany s p) : Sp l g kX7_bite (T0 nT) [.ref (g.1 + 0), .int (nI p), .int (nI j), .int 3] I P (T0 nT) 0 0 (qI (s (wi p j + 3)) I P) := by
  have h9 := sc_bite (nT := nT) l g hx.1.1 hx.1.2 hx.2.1 (nI p) (nI j) 3
  have hm := hx.2.1.many hp
  have e : aBitX s (nI p) (nI j) 3 = s (wi p j + 3) := by
    unfold aBitX
    rw [if_pos (aBt_p hx.2.1 hp hj), if_pos (by decide), nI_clamp (by omega), nI_clamp (by omega)]
    rfl
  rwa [e] at h9
theorem q_sn0 (hx : Wd I P s k h B) {i : Nat} (hi : i < 10) (h0 : 0 < sn s i 0) : Sp l g kX7_snakeOf (T0 nT) [.ref (g.1 + 0), .int (nI i), .int 0] I P (T0 nT) 0 0 (qI (sn s i 0) I P) := by
  have h9 := sc_snakeOf (nT := nT) l g hx.1.1 hx.1.2 hx.2.1 (nI i) 0
  have e : aSnkX s (nI i) 0 = sn s i 0 := by
    unfold aSnkX
    rw [if_pos ⟨le9 hi, by rw [nI_clamp (by omega)]; exact h0⟩, if_pos (by decide), nI_clamp (by omega)]
    rfl
  rwa [e] at h9
theorem q_sn0n (hx : Wd I P s k h B) {i : Nat} (hi : i < 10) (h0 : ¬ 0 < sn s i 0) : Sp l g kX7_snakeOf (T0 nT) [.ref (g.1 + 0), .int (nI i), .int 0] I P (T0 nT) 0 0 (qI (-1) I P) := by
  have h9 := sc_snakeOf (nT := nT) l g hx.1.1 hx.1.2 hx.2.1 (nI i) 0
  have e : aSnkX s (nI i) 0 = -1 := by
    unfold aSnkX
    rw [if_neg (fun z => h0 (by have := z.2; rwa [nI_clamp (by omega)] at this))]
  rwa [e] at h9
theorem q_sn1 (hx : Wd I P s k h B) {i : Nat} (hi : i < 10) (h0 : 0 < sn s i 0) : Sp l g kX7_snakeOf (T0 nT) [.ref (g.1 + 0), .int (nI i), .int 1] I P (T0 nT) 0 0 (qI (sn s i 1) I P) := by
  have h9 := sc_snakeOf (nT := nT) l g hx.1.1 hx.1.2 hx.2.1 (nI i) 1
  have e : aSnkX s (nI i) 1 = sn s i 1 := by
    unfold aSnkX
    rw [if_pos ⟨le9 hi, by rw [nI_clamp (by omega)]; exact h0⟩, if_pos (by decide), nI_clamp (by omega)]
    rfl
  rwa [e] at h9
theorem q_sn1n (hx : Wd I P s k h B) {i : Nat} (hi : i < 10) (h0 : ¬ 0 < sn s i 0) : Sp l g kX7_snakeOf (T0 nT) [.ref (g.1 + 0), .int (nI i), .int 1] I P (T0 nT) 0 0 (qI (-1) I P) := by
  have h9 := sc_snakeOf (nT := nT) l g hx.1.1 hx.1.2 hx.2.1 (nI i) 1
  have e : aSnkX s (nI i) 1 = -1 := by
    unfold aSnkX
    rw [if_neg (fun z => h0 (by have := z.2; rwa [nI_clamp (by omega)] at this))]
  rwa [e] at h9
theorem q_sn2 (hx : Wd I P s k h B) {i : Nat} (hi : i < 10) (h0 : 0 < sn s i 0) : Sp l g kX7_snakeOf (T0 nT) [.ref (g.1 + 0), .int (nI i), .int 2] I P (T0 nT) 0 0 (qI (sn s i 2) I P) := by
  have h9 := sc_snakeOf (nT := nT) l g hx.1.1 hx.1.2 hx.2.1 (nI i) 2
  have e : aSnkX s (nI i) 2 = sn s i 2 := by
    unfold aSnkX
    rw [if_pos ⟨le9 hi, by rw [nI_clamp (by omega)]; exact h0⟩, if_pos (by decide), nI_clamp (by omega)]
    rfl
  rwa [e] at h9
theorem q_sn2n (hx : Wd I P s k h B) {i : Nat} (hi : i < 10) (h0 : ¬ 0 < sn s i 0) : Sp l g kX7_snakeOf (T0 nT) [.ref (g.1 + 0), .int (nI i), .int 2] I P (T0 nT) 0 0 (qI (-1) I P) := by
  have h9 := sc_snakeOf (nT := nT) l g hx.1.1 hx.1.2 hx.2.1 (nI i) 2
  have e : aSnkX s (nI i) 2 = -1 := by
    unfold aSnkX
    rw [if_neg (fun z => h0 (by have := z.2; rwa [nI_clamp (by omega)] at this))]
  rwa [e] at h9
theorem q_sn3 (hx : Wd I P s k h B) {i : Nat} (hi : i < 10) (h0 : 0 < sn s i 0) : Sp l g kX7_snakeOf (T0 nT) [.ref (g.1 + 0), .int (nI i), .int 3] I P (T0 nT) 0 0 (qI (sn s i 3) I P) := by
  have h9 := sc_snakeOf (nT := nT) l g hx.1.1 hx.1.2 hx.2.1 (nI i) 3
  have e : aSnkX s (nI i) 3 = sn s i 3 := by
    unfold aSnkX
    rw [if_pos ⟨le9 hi, by rw [nI_clamp (by omega)]; exact h0⟩, if_pos (by decide), nI_clamp (by omega)]
    rfl
  rwa [e] at h9
theorem q_sn3n (hx : Wd I P s k h B) {i : Nat} (hi : i < 10) (h0 : ¬ 0 < sn s i 0) : Sp l g kX7_snakeOf (T0 nT) [.ref (g.1 + 0), .int (nI i), .int 3] I P (T0 nT) 0 0 (qI (-1) I P) := by
  have h9 := sc_snakeOf (nT := nT) l g hx.1.1 hx.1.2 hx.2.1 (nI i) 3
  have e : aSnkX s (nI i) 3 = -1 := by
    unfold aSnkX
    rw [if_neg (fun z => h0 (by have := z.2; rwa [nI_clamp (by omega)] at this))]
  rwa [e] at h9
theorem q_sq0 (hx : Wd I P s k h B) {q : Nat} (hq : q ≤ 60) : Sp l g kX7_square (T0 nT) [.ref (g.1 + 0), .int (nI q), .int 0] I P (T0 nT) 0 0 (qI (aPi s (nI q)) I P) := by
  have h9 := sc_square (nT := nT) l g hx.1.1 hx.1.2 hx.2.1 (nI q) 0
  have e : aSqX s (nI q) 0 = aPi s (nI q) := by
    unfold aSqX
    rw [if_pos ⟨⟨nI_pos' (by omega), by rw [show (60 : Int32) = nI 60 from rfl]; exact nI_le hq (by decide)⟩, by decide⟩]
    rw [if_pos rfl]
  rwa [e] at h9
theorem q_sq1 (hx : Wd I P s k h B) {q : Nat} (hq : q ≤ 60) : Sp l g kX7_square (T0 nT) [.ref (g.1 + 0), .int (nI q), .int 1] I P (T0 nT) 0 0 (qI (aSnAt s (nI q)) I P) := by
  have h9 := sc_square (nT := nT) l g hx.1.1 hx.1.2 hx.2.1 (nI q) 1
  have e : aSqX s (nI q) 1 = aSnAt s (nI q) := by
    unfold aSqX
    rw [if_pos ⟨⟨nI_pos' (by omega), by rw [show (60 : Int32) = nI 60 from rfl]; exact nI_le hq (by decide)⟩, by decide⟩]
    rw [if_neg (by decide), if_pos rfl]
  rwa [e] at h9
theorem q_sq2 (hx : Wd I P s k h B) {q : Nat} (hq : q ≤ 60) : Sp l g kX7_square (T0 nT) [.ref (g.1 + 0), .int (nI q), .int 2] I P (T0 nT) 0 0 (qI (aTaF s (nI q) 10) I P) := by
  have h9 := sc_square (nT := nT) l g hx.1.1 hx.1.2 hx.2.1 (nI q) 2
  have e : aSqX s (nI q) 2 = aTaF s (nI q) 10 := by
    unfold aSqX
    rw [if_pos ⟨⟨nI_pos' (by omega), by rw [show (60 : Int32) = nI 60 from rfl]; exact nI_le hq (by decide)⟩, by decide⟩]
    rw [if_neg (by decide), if_neg (by decide)]
  rwa [e] at h9
theorem q_ct0 (hx : Wd I P s k h B) : Sp l g kX7_count (T0 nT) [.ref (g.1 + 0), .int 0] I P (T0 nT) 0 0 (qI (s 0) I P) := by
  have h9 := sc_count (nT := nT) l g hx.1.1 hx.1.2 hx.2.1 0
  have e : aCntX s (nI k) (nI 0) 0 = s 0 := by
    unfold aCntX
    rw [if_pos (show (0 : Int32) = nI 0 from rfl)]
  rwa [e] at h9
theorem q_ct1 (hx : Wd I P s k h B) : Sp l g kX7_count (T0 nT) [.ref (g.1 + 0), .int 1] I P (T0 nT) 0 0 (qI ((if s 4 = 4 then -5 else s 1)) I P) := by
  have h9 := sc_count (nT := nT) l g hx.1.1 hx.1.2 hx.2.1 1
  have e : aCntX s (nI k) (nI 0) 1 = (if s 4 = 4 then -5 else s 1) := by
    unfold aCntX
    rw [if_neg (show ¬ (1 : Int32) = nI 0 from by decide), if_pos (show (1 : Int32) = nI 1 from rfl)]
  rwa [e] at h9
theorem q_ct2 (hx : Wd I P s k h B) : Sp l g kX7_count (T0 nT) [.ref (g.1 + 0), .int 2] I P (T0 nT) 0 0 (qI (4 - s 4) I P) := by
  have h9 := sc_count (nT := nT) l g hx.1.1 hx.1.2 hx.2.1 2
  have e : aCntX s (nI k) (nI 0) 2 = 4 - s 4 := by
    unfold aCntX
    rw [if_neg (show ¬ (2 : Int32) = nI 0 from by decide), if_neg (show ¬ (2 : Int32) = nI 1 from by decide), if_pos (show (2 : Int32) = nI 2 from rfl)]
  rwa [e] at h9
theorem q_ct3 (hx : Wd I P s k h B) : Sp l g kX7_count (T0 nT) [.ref (g.1 + 0), .int 3] I P (T0 nT) 0 0 (qI (aCntF s 10) I P) := by
  have h9 := sc_count (nT := nT) l g hx.1.1 hx.1.2 hx.2.1 3
  have e : aCntX s (nI k) (nI 0) 3 = aCntF s 10 := by
    unfold aCntX
    rw [if_neg (show ¬ (3 : Int32) = nI 0 from by decide), if_neg (show ¬ (3 : Int32) = nI 1 from by decide), if_neg (show ¬ (3 : Int32) = nI 2 from by decide), if_pos (show (3 : Int32) = nI 3 from rfl)]
  rwa [e] at h9
theorem q_ct4 (hx : Wd I P s k h B) : Sp l g kX7_count (T0 nT) [.ref (g.1 + 0), .int 4] I P (T0 nT) 0 0 (qI (aSuF s 5 4) I P) := by
  have h9 := sc_count (nT := nT) l g hx.1.1 hx.1.2 hx.2.1 4
  have e : aCntX s (nI k) (nI 0) 4 = aSuF s 5 4 := by
    unfold aCntX
    rw [if_neg (show ¬ (4 : Int32) = nI 0 from by decide), if_neg (show ¬ (4 : Int32) = nI 1 from by decide), if_neg (show ¬ (4 : Int32) = nI 2 from by decide), if_neg (show ¬ (4 : Int32) = nI 3 from by decide), if_pos (show (4 : Int32) = nI 4 from rfl)]
  rwa [e] at h9
theorem q_ct5 (hx : Wd I P s k h B) : Sp l g kX7_count (T0 nT) [.ref (g.1 + 0), .int 5] I P (T0 nT) 0 0 (qI (s 2) I P) := by
  have h9 := sc_count (nT := nT) l g hx.1.1 hx.1.2 hx.2.1 5
  have e : aCntX s (nI k) (nI 0) 5 = s 2 := by
    unfold aCntX
    rw [if_neg (show ¬ (5 : Int32) = nI 0 from by decide), if_neg (show ¬ (5 : Int32) = nI 1 from by decide), if_neg (show ¬ (5 : Int32) = nI 2 from by decide), if_neg (show ¬ (5 : Int32) = nI 3 from by decide), if_neg (show ¬ (5 : Int32) = nI 4 from by decide), if_pos (show (5 : Int32) = nI 5 from rfl)]
  rwa [e] at h9
theorem q_ct6 (hx : Wd I P s k h B) : Sp l g kX7_count (T0 nT) [.ref (g.1 + 0), .int 6] I P (T0 nT) 0 0 (qI (s 3) I P) := by
  have h9 := sc_count (nT := nT) l g hx.1.1 hx.1.2 hx.2.1 6
  have e : aCntX s (nI k) (nI 0) 6 = s 3 := by
    unfold aCntX
    rw [if_neg (show ¬ (6 : Int32) = nI 0 from by decide), if_neg (show ¬ (6 : Int32) = nI 1 from by decide), if_neg (show ¬ (6 : Int32) = nI 2 from by decide), if_neg (show ¬ (6 : Int32) = nI 3 from by decide), if_neg (show ¬ (6 : Int32) = nI 4 from by decide), if_neg (show ¬ (6 : Int32) = nI 5 from by decide), if_pos (show (6 : Int32) = nI 6 from rfl)]
  rwa [e] at h9
theorem q_ct7 (hx : Wd I P s k h B) : Sp l g kX7_count (T0 nT) [.ref (g.1 + 0), .int 7] I P (T0 nT) 0 0 (qI (aSuF s 1 4) I P) := by
  have h9 := sc_count (nT := nT) l g hx.1.1 hx.1.2 hx.2.1 7
  have e : aCntX s (nI k) (nI 0) 7 = aSuF s 1 4 := by
    unfold aCntX
    rw [if_neg (show ¬ (7 : Int32) = nI 0 from by decide), if_neg (show ¬ (7 : Int32) = nI 1 from by decide), if_neg (show ¬ (7 : Int32) = nI 2 from by decide), if_neg (show ¬ (7 : Int32) = nI 3 from by decide), if_neg (show ¬ (7 : Int32) = nI 4 from by decide), if_neg (show ¬ (7 : Int32) = nI 5 from by decide), if_neg (show ¬ (7 : Int32) = nI 6 from by decide), if_pos (show (7 : Int32) = nI 7 from rfl)]
  rwa [e] at h9
theorem q_ct8 (hx : Wd I P s k h B) : Sp l g kX7_count (T0 nT) [.ref (g.1 + 0), .int 8] I P (T0 nT) 0 0 (qI (s 5) I P) := by
  have h9 := sc_count (nT := nT) l g hx.1.1 hx.1.2 hx.2.1 8
  have e : aCntX s (nI k) (nI 0) 8 = s 5 := by
    unfold aCntX
    rw [if_neg (show ¬ (8 : Int32) = nI 0 from by decide), if_neg (show ¬ (8 : Int32) = nI 1 from by decide), if_neg (show ¬ (8 : Int32) = nI 2 from by decide), if_neg (show ¬ (8 : Int32) = nI 3 from by decide), if_neg (show ¬ (8 : Int32) = nI 4 from by decide), if_neg (show ¬ (8 : Int32) = nI 5 from by decide), if_neg (show ¬ (8 : Int32) = nI 6 from by decide), if_neg (show ¬ (8 : Int32) = nI 7 from by decide), if_pos (show (8 : Int32) = nI 8 from rfl)]
  rwa [e] at h9
theorem q_ct9 (hx : Wd I P s k h B) : Sp l g kX7_count (T0 nT) [.ref (g.1 + 0), .int 9] I P (T0 nT) 0 0 (qI (s 6) I P) := by
  have h9 := sc_count (nT := nT) l g hx.1.1 hx.1.2 hx.2.1 9
  have e : aCntX s (nI k) (nI 0) 9 = s 6 := by
    unfold aCntX
    rw [if_neg (show ¬ (9 : Int32) = nI 0 from by decide), if_neg (show ¬ (9 : Int32) = nI 1 from by decide), if_neg (show ¬ (9 : Int32) = nI 2 from by decide), if_neg (show ¬ (9 : Int32) = nI 3 from by decide), if_neg (show ¬ (9 : Int32) = nI 4 from by decide), if_neg (show ¬ (9 : Int32) = nI 5 from by decide), if_neg (show ¬ (9 : Int32) = nI 6 from by decide), if_neg (show ¬ (9 : Int32) = nI 7 from by decide), if_neg (show ¬ (9 : Int32) = nI 8 from by decide), if_pos (show (9 : Int32) = nI 9 from rfl)]
  rwa [e] at h9
theorem q_ct10 (hx : Wd I P s k h B) : Sp l g kX7_count (T0 nT) [.ref (g.1 + 0), .int 10] I P (T0 nT) 0 0 (qI (s 7) I P) := by
  have h9 := sc_count (nT := nT) l g hx.1.1 hx.1.2 hx.2.1 10
  have e : aCntX s (nI k) (nI 0) 10 = s 7 := by
    unfold aCntX
    rw [if_neg (show ¬ (10 : Int32) = nI 0 from by decide), if_neg (show ¬ (10 : Int32) = nI 1 from by decide), if_neg (show ¬ (10 : Int32) = nI 2 from by decide), if_neg (show ¬ (10 : Int32) = nI 3 from by decide), if_neg (show ¬ (10 : Int32) = nI 4 from by decide), if_neg (show ¬ (10 : Int32) = nI 5 from by decide), if_neg (show ¬ (10 : Int32) = nI 6 from by decide), if_neg (show ¬ (10 : Int32) = nI 7 from by decide), if_neg (show ¬ (10 : Int32) = nI 8 from by decide), if_neg (show ¬ (10 : Int32) = nI 9 from by decide), if_pos (show (10 : Int32) = nI 10 from rfl)]
  rwa [e] at h9
theorem q_pr (hx : Wd I P s k h B) {p : Nat} (hp : p < 4) : Sp l g kX7_progress (T0 nT) [.ref (g.1 + 0), .int (nI p)] I P (T0 nT) 0 0 (qD (FP.ddiv (FP.i2d (aBeg s p)) 4633641066610819072) I P) := by
  have h9 := sc_progress (nT := nT) l g hx.1.1 hx.1.2 hx.2.1 (nI p)
  have e : prX s (nI p) = FP.ddiv (FP.i2d (aBeg s p)) 4633641066610819072 := by
    unfold prX
    rw [if_pos (le3 hp), nI_clamp (by omega)]
  rwa [e] at h9
theorem q_da (hx : Wd I P s k h B) {p : Nat} (hp : p < 4) (h2 : ro s p 2 = 0) : Sp l g kX7_dangers (T0 nT) [.ref (g.1 + 0), .int (nI p)] I P (T0 nT) 0 0 (qI (aDaF s p 6) I P) := by
  have h9 := sc_dangers (nT := nT) l g hx.1.1 hx.1.2 hx.2.1 (nI p)
  have e : aDanX s (nI p) = aDaF s p 6 := by
    unfold aDanX
    rw [if_pos (le3 hp), nI_clamp (by omega), if_pos h2]
  rwa [e] at h9
theorem q_dan (hx : Wd I P s k h B) {p : Nat} (hp : p < 4) (h2 : ¬ ro s p 2 = 0) : Sp l g kX7_dangers (T0 nT) [.ref (g.1 + 0), .int (nI p)] I P (T0 nT) 0 0 (qI (-4) I P) := by
  have h9 := sc_dangers (nT := nT) l g hx.1.1 hx.1.2 hx.2.1 (nI p)
  have e : aDanX s (nI p) = -4 := by
    unfold aDanX
    rw [if_pos (le3 hp), nI_clamp (by omega), if_neg h2]
  rwa [e] at h9
theorem q_fw0 (hx : Wd I P s k h B) {p : Nat} {r : Int32} (hr : ∀ σ, fewR s (nI p) 0 σ = r ∧ fewR s (nI p) 1 σ = r) : Sp l g kX7_fewest (T0 nT) [.ref (g.1 + 0), .int (nI p), .int 0] I P (T0 nT) 0 0 (qJ (fun r' I1 P1 => r' = r ∧ Sx I1 P1 s k h)) :=
  (sm_fewest (nT := nT) l g hx.1.1 hx.1.2 hx.2.1 (nI p) 0).imp (fun v I1 P1 ⟨r', e, e2, a, b, _⟩ => ⟨r', e, e2.trans (hr _).1, a, b⟩)
theorem q_fw1 (hx : Wd I P s k h B) {p : Nat} {r : Int32} (hr : ∀ σ, fewR s (nI p) 0 σ = r ∧ fewR s (nI p) 1 σ = r) : Sp l g kX7_fewest (T0 nT) [.ref (g.1 + 0), .int (nI p), .int 1] I P (T0 nT) 0 0 (qJ (fun r' I1 P1 => r' = r ∧ Sx I1 P1 s k h)) :=
  (sm_fewest (nT := nT) l g hx.1.1 hx.1.2 hx.2.1 (nI p) 1).imp (fun v I1 P1 ⟨r', e, e2, a, b, _⟩ => ⟨r', e, e2.trans (hr _).2, a, b⟩)
/-- what a call that changes the race leaves -/
def Mx (I : fw_I) (P : fw_P) (s : Nat → Int32) (k : Nat) (h : Nat → Nat → Int32) (ok : Prop) (F : Nat → Int32) (I1 : fw_I) (P1 : fw_P) : Prop := ((ok ∧ Sx I1 P1 F (rK k) (rH k h s)) ∨ (¬ ok ∧ Sx I1 P1 s k h)) ∧ Ff I P I1 P1
theorem CM.mx {ok : Prop} {F : Nat → Int32} {I1 : fw_I} {P1 : fw_P} (hm : CM I P s k h false z1 0 z1 ok F I1 P1) : Mx I P s k h ok F I1 P1 := by
  obtain ⟨a, b, c⟩ := hm
  refine ⟨?_, c⟩
  rcases b with ⟨o, b⟩ | ⟨o, b⟩
  · exact Or.inl ⟨o, a, b⟩
  · exact Or.inr ⟨o, a, b⟩
theorem q_snake (hx : Wd I P s k h B) (a b : Int32) : Sp l g kX7_snake (T0 nT) [.ref (g.1 + 0), .int a, .int b] I P (T0 nT) 0 0 (qJ (fun r I1 P1 => r = aSnkR s a b ∧ Mx I P s k h (aSnkOk s a b) (aSnkF s a b) I1 P1)) :=
  (sm_snake (nT := nT) l g hx.1.1 hx.1.2 hx.2.1 a b).imp (fun v I1 P1 ⟨r', e, e2, a⟩ => ⟨r', e, e2, CM.mx a⟩)
theorem q_charm (hx : Wd I P s k h B) (x t : Int32) : Sp l g kX7_charm (T0 nT) [.ref (g.1 + 0), .int x, .int t] I P (T0 nT) 0 0 (qJ (fun r I1 P1 => r = aChaR s x t ∧ Mx I P s k h (aChaOk s x t) (aChaF s x.toNatClampNeg t) I1 P1)) :=
  (sm_charm (nT := nT) l g hx.1.1 hx.1.2 hx.2.1 x t).imp (fun v I1 P1 ⟨r', e, e2, a⟩ => ⟨r', e, e2, CM.mx a⟩)
theorem q_turn (hx : Wd I P s k h B) (d : Int32) : Sp l g kX7_turn (T0 nT) [.ref (g.1 + 0), .int d] I P (T0 nT) 0 0 (qJ (fun r I1 P1 => r = aTuR s d ∧ Mx I P s k h (aTuOk s d) (aT s d) I1 P1)) :=
  (sm_turn (nT := nT) l g hx.1.1 hx.1.2 hx.2.1 d).imp (fun v I1 P1 ⟨r', e, e2, a⟩ => ⟨r', e, e2, CM.mx a⟩)
theorem q_play (hx : Wd I P s k h B) (x y : Int32) : Sp l g kX7_play (T0 nT) [.ref (g.1 + 0), .int x, .int y] I P (T0 nT) 0 0 (qJ (fun r I1 P1 => r = aPyR s x y ∧ Mx I P s k h (aPyOk s x y) ((aPyF y.toNatClampNeg x s).2) I1 P1)) :=
  (sm_play (nT := nT) l g hx.1.1 hx.1.2 hx.2.1 x y).imp (fun v I1 P1 ⟨r', e, e2, a⟩ => ⟨r', e, e2, CM.mx a⟩)
theorem q_sell (hx : Wd I P s k h B) (x y z c : Int32) : Sp l g kX7_sell (T0 nT) [.ref (g.1 + 0), .int x, .int y, .int z, .int c] I P (T0 nT) 0 0 (qJ (fun r I1 P1 => r = aSelR s x y z c ∧ Mx I P s k h (aSelOk s x y z c) (aSelF s x y z c) I1 P1)) :=
  (sm_sell (nT := nT) l g hx.1.1 hx.1.2 hx.2.1 x y z c).imp (fun v I1 P1 ⟨r', e, e2, a⟩ => ⟨r', e, e2, CM.mx a⟩)
theorem q_set (hx : Wd I P s k h B) (x v : Int32) : Sp l g kX7_set (T0 nT) [.ref (g.1 + 0), .int x, .int v] I P (T0 nT) 0 0 (qJ (fun r I1 P1 => r = aSetR s x v ∧ Mx I P s k h (aSetOk x v) (aSetF s x v) I1 P1)) :=
  (sm_set (nT := nT) l g hx.1.1 hx.1.2 hx.2.1 x v).imp (fun v I1 P1 ⟨r', e, e2, a⟩ => ⟨r', e, e2, CM.mx a⟩)
theorem q_next (hx : Wd I P s k h B) (x : Int32) : Sp l g kX7_nextHome (T0 nT) [.ref (g.1 + 0), .int x] I P (T0 nT) 0 0 (qJ (fun r I1 P1 => r = aNxR s x ∧ Sx I1 P1 s k h ∧ Ff I P I1 P1)) :=
  (sm_nextHome (nT := nT) l g hx.1.1 hx.1.2 hx.2.1 x).imp (fun v I1 P1 ⟨r', e, e2, a, b, c⟩ => ⟨r', e, e2, ⟨a, b⟩, c⟩)
theorem q_undo (hx : Sx I P s k h) (hI : Inv B s) (hk : 0 < k) (hm : mOf (h (k - 1))) : Sp l g kX7_undo (T0 nT) [.ref (g.1 + 0)] I P (T0 nT) 0 0 (qJ (fun r I1 P1 => r = nI (k - 1) ∧ Sx I1 P1 (h (k - 1)) (k - 1) h ∧ Ff I P I1 P1)) :=
  (sm_undo_1 (nT := nT) l g hx.1 hx.2 hI hk hm).imp (fun v I1 P1 ⟨r', e, e2, a, b, c⟩ => ⟨r', e, e2, ⟨a, b⟩, c⟩)
theorem q_why (hx : Wd I P s k h B) (x y z c : Int32) : Sp l g kX7_why (T0 nT) [.ref (g.1 + 0), .int x, .int y, .int z, .int c] I P (T0 nT) 0 0 (qI (aWhy s x y z c) I P) := sc_why (nT := nT) l g hx.1.1 hx.1.2 hx.2.1 x y z c
theorem q_che (hx : Wd I P s k h B) (x y : Int32) : Sp l g kX7_cheapest (T0 nT) [.ref (g.1 + 0), .int x, .int y] I P (T0 nT) 0 0 (qI (cheR s x y) I P) := sc_cheapest (nT := nT) l g hx.1.1 hx.1.2 hx.2.1 x y
end CALLS
