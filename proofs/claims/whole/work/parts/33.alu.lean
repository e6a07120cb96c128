/-! the desk's arithmetic -/
theorem nge0 {a b : Nat} (ha : a < 1073741824) (hb : b < 1073741824) : (0 ≤ nI a - nI b) ↔ b ≤ a := by
  rw [Int32.le_iff_toInt_le, pk_sub_toInt ha hb, Int32.toInt_zero]; omega
theorem nlt0 {a b : Nat} (ha : a < 1073741824) (hb : b < 1073741824) : (nI a - nI b < 0) ↔ a < b := by
  rw [Int32.lt_iff_toInt_lt, pk_sub_toInt ha hb, Int32.toInt_zero]; omega
theorem nmod {x y : Nat} (h : x % 4294967296 = y % 4294967296) : nI x = nI y := by rw [← nw_ x, ← nw_ y, h]
theorem nss (a b m : Nat) (hb : b < 1073741824) (hm : m < 1073741824) : nI a - nI b - nI m = nI a - nI (b + m) := by
  rw [nsub a b (by omega), nsub _ m (by omega), nsub a (b + m) (by omega)]
  exact nmod (by omega)
theorem sp_N_difference {rg : Nat → Int32} {z n h c : Int32} {a b m : Nat} (ha : a < 256) (hb : b < 256) (hm : m ≤ 1) (hr : rg 7 = nI a) {P : Int32 → Int32 → Int32 → Int32 → Int32 → Prop}
    (hP : P (nI (xdif a b m)) (bI (decide (xdif a b m = 0))) (bI true) (bI (decide (a % 16 < b % 16 + m))) (bI (decide (a < b + m)))) : wp_N_difference rg z n h c (nI b) (nI m) P := by
  intro z1' e1 z2 e2 z3 e3
  rw [s7, hr] at e1
  subst e1
  rw [nss _ _ _ (by omega) (by omega)] at e2
  rw [n15, n15, nss _ _ _ (by omega) (by omega)] at e3
  subst e2 e3
  unfold xdif at hP
  have e255 : (nI a - nI (b + m)) &&& (255 : Int32) = nI ((a + 512 - b - m) % 256) := by
    rw [nsub _ _ (by omega), n255]; congr 1; omega
  have c1 : ((nI a - nI (b + m)) &&& (255 : Int32) = 0) ↔ (a + 512 - b - m) % 256 = 0 := by rw [e255]; exact eqN rfl (by omega) (by omega)
  have c2 := nge0 (a := a % 16) (b := b % 16 + m) (by omega) (by omega)
  have c3 := nge0 (a := a) (b := b + m) (by omega) (by omega)
  refine bN2 c1 (fun g1 => bI2 c2 (fun g2 => bI2 c3 (fun g3 => ?_) (fun g3 => ?_)) (fun g2 => bI2 c3 (fun g3 => ?_) (fun g3 => ?_))) (fun g1 => bI2 c2 (fun g2 => bI2 c3 (fun g3 => ?_) (fun g3 => ?_)) (fun g2 => bI2 c3 (fun g3 => ?_) (fun g3 => ?_))) <;>
  · refine sp_N_setFlags (by decide) (by decide) (by decide) (by decide) ?_
    rw [e255]
    refine Eq.mp ?_ hP
    congr 1 <;> first | rfl | exact bd0 (by omega) | exact bd1 (by omega)
theorem sp_N_oneMore {z n h : Int32} {c : Bool} {v : Nat} (hv : v < 256) {P : Int32 → Int32 → Int32 → Int32 → Int32 → Prop}
    (hP : P (nI (xinc v)) (bI (decide (xinc v = 0))) (bI false) (bI (decide (v % 16 = 15))) (bI c)) : wp_N_oneMore z n h (bI c) (nI v) P := by
  intro z1' e1
  rw [nI_1, n255] at e1
  subst e1
  unfold xinc at hP
  have c1 := eqN (n := (v + 1) % 256) (k := 0) (x := 0) rfl (by omega) (by omega)
  have c2 : (nI ((v + 1) % 256) &&& (15 : Int32) = 0) ↔ (v + 1) % 256 % 16 = 0 := by rw [n15]; exact eqN rfl (by omega) (by omega)
  refine bN2 c1 (fun g1 => bN2 c2 (fun g2 => ?_) (fun g2 => ?_)) (fun g1 => bN2 c2 (fun g2 => ?_) (fun g2 => ?_)) <;>
  · refine sp_N_setFlags (by decide) (by decide) (by decide) (bI_ok c) ?_
    refine Eq.mp ?_ hP
    congr 1 <;> first | rfl | exact bd0 (by omega) | exact bd1 (by omega)
theorem sp_N_oneLess {z n h : Int32} {c : Bool} {v : Nat} (hv : v < 256) {P : Int32 → Int32 → Int32 → Int32 → Int32 → Prop}
    (hP : P (nI (xdec v)) (bI (decide (xdec v = 0))) (bI true) (bI (decide (v % 16 = 0))) (bI c)) : wp_N_oneLess z n h (bI c) (nI v) P := by
  intro z1' e1
  have e2 : z1' = nI ((v + 255) % 256) := by
    rw [e1, li_1, nsub _ _ (by omega), n255]; congr 1; omega
  subst e2
  unfold xdec at hP
  have c1 := eqN (n := (v + 255) % 256) (k := 0) (x := 0) rfl (by omega) (by omega)
  have c2 : (nI v &&& (15 : Int32) = 0) ↔ v % 16 = 0 := by rw [n15]; exact eqN rfl (by omega) (by omega)
  refine bN2 c1 (fun g1 => bN2 c2 (fun g2 => ?_) (fun g2 => ?_)) (fun g1 => bN2 c2 (fun g2 => ?_) (fun g2 => ?_)) <;>
  · refine sp_N_setFlags (by decide) (by decide) (by decide) (bI_ok c) ?_
    refine Eq.mp ?_ hP
    congr 1 <;> first | rfl | exact bd0 (by omega) | exact bd1 (by omega)
theorem xswp_ok : ∀ v, v < 256 → ((nI v <<< ((4 : Int32) &&& 31)) &&& (240 : Int32)) ||| (nI v >>> ((4 : Int32) &&& 31)) = nI (xswp v) := by decide +kernel
theorem sp_N_exchanged {z n h c : Int32} {v : Nat} (hv : v < 256) {P : Int32 → Int32 → Int32 → Int32 → Int32 → Prop}
    (hP : P (nI (xswp v)) (bI (decide (v = 0))) (bI false) (bI false) (bI false)) : wp_N_exchanged z n h c (nI v) P := by
  have c1 := eqN (n := v) (k := 0) (x := 0) rfl (by omega) (by omega)
  refine bN2 c1 (fun g1 => ?_) (fun g1 => ?_) <;>
  · refine sp_N_setFlags (by decide) (by decide) (by decide) (by decide) ?_
    rw [xswp_ok v hv]
    refine Eq.mp ?_ hP
    congr 1 <;> first | rfl | exact bd0 (by omega) | exact bd1 (by omega)
theorem sp_N_carryBit {c : Bool} {P : Int32 → Prop} (hP : P (nI (bN c))) : wp_N_carryBit (bI c) P := by
  cases c
  · exact ⟨fun _ => hP, fun g => absurd rfl g⟩
  · exact ⟨fun g => absurd g (by decide), fun _ => hP⟩
theorem shr7_ok : ∀ v, v < 256 → nI v >>> ((7 : Int32) &&& 31) = nI (v / 128) := by decide +kernel
theorem shr1_ok : ∀ v, v < 256 → ∀ w, w < 2 → (nI v >>> ((1 : Int32) &&& 31)) ||| (nI w <<< ((7 : Int32) &&& 31)) = nI (v / 2 + 128 * w) := by decide +kernel
theorem shl1_ok : ∀ v, v < 256 → ∀ w, w < 2 → ((nI v <<< ((1 : Int32) &&& 31)) &&& (255 : Int32)) ||| nI w = nI (v * 2 % 256 + w) := by decide +kernel
def xinB (c : Bool) (k v : Nat) : Nat := if k < 2 then xout k v else if k < 4 then bN c else if k = 5 then v / 128 else 0
def xshfB (c : Bool) (k v : Nat) : Nat := if k = 0 ∨ k = 2 ∨ k = 4 then v * 2 % 256 + xinB c k v else v / 2 + 128 * xinB c k v
theorem xinB_lt (c : Bool) (k v : Nat) (hv : v < 256) : xinB c k v < 2 := by
  have := bN_le c
  unfold xinB xout
  repeat' split
  all_goals omega
theorem sp_N_comesIn {c : Bool} {k v : Nat} (hk : k < 7) (hv : v < 256) {P : Int32 → Prop} (hP : P (nI (xinB c k v))) : wp_N_comesIn (bI c) (nI k) (nI v) (nI (xout k v)) P := by
  unfold wp_N_comesIn
  have e : ∀ j : Nat, j < 7 → ∀ x : Int32, x = nI j → (nI k = x ↔ k = j) := fun j hj x hx => eqN hx (by omega) (by omega)
  rw [e 0 (by omega) 0 rfl, e 1 (by omega) 1 rfl, e 2 (by omega) 2 rfl, e 3 (by omega) 3 rfl, e 4 (by omega) 4 rfl, e 5 (by omega) 5 rfl, shr7_ok v hv]
  refine ⟨fun h => ?_, fun h => ?_, fun h => ?_, fun h => ?_, fun h => ?_, fun h => ?_, fun h0 h1 h2 h3 h4 h5 => ?_⟩
  · subst h; exact hP
  · subst h; exact hP
  · subst h; exact sp_N_carryBit hP
  · subst h; exact sp_N_carryBit hP
  · subst h; exact hP
  · subst h; exact hP
  · have : k = 6 := by omega
    subst this; exact hP
theorem sp_N_shifted {z n h : Int32} {c : Bool} {k v : Nat} (hk : k < 7) (hv : v < 256) {P : Int32 → Int32 → Int32 → Int32 → Int32 → Prop}
    (hP : P (nI (xshfB c k v)) (bI (decide (xshfB c k v = 0))) (bI false) (bI false) (bI (decide (xout k v = 1)))) : wp_N_shifted z n h (bI c) (nI k) (nI v) P := by
  have hin := xinB_lt c k v hv
  have e : ∀ j : Nat, j < 7 → ∀ x : Int32, x = nI j → (nI k = x ↔ k = j) := fun j hj x hx => eqN hx (by omega) (by omega)
  have fin : ∀ w : Nat, w < 256 → xshfB c k v = w → wp_N_shifted_85 P z n h (bI c) (nI (xout k v)) (nI w) (bI (decide (w = 0))) := by
    intro w hw ew
    subst ew
    have ho : xout k v < 256 := by unfold xout; split <;> omega
    have c1 := eqN (n := xout k v) (k := 1) (x := 1) rfl (by omega) (by omega)
    refine bN2 c1 (fun g1 => ?_) (fun g1 => ?_) <;>
    · refine sp_N_setFlags (bI_ok _) (by decide) (by decide) (by decide) ?_
      refine Eq.mp ?_ hP
      congr 1 <;> first | rfl | exact bd0 (by omega) | exact bd1 (by omega)
  have two : ∀ w : Nat, w < 256 → xshfB c k v = w → ((¬ nI w = 0 → wp_N_shifted_85 P z n h (bI c) (nI (xout k v)) (nI w) 0) ∧ (nI w = 0 → wp_N_shifted_85 P z n h (bI c) (nI (xout k v)) (nI w) 1)) := by
    intro w hw ew
    have f := fin w hw ew
    have c1 := eqN (n := w) (k := 0) (x := 0) rfl (by omega) (by omega)
    refine bN2 c1 (fun g => ?_) (fun g => ?_)
    · rw [bd0 g] at f; exact f
    · rw [bd1 g] at f; exact f
  have left : (k = 0 ∨ k = 2 ∨ k = 4) → wp_N_shifted_34 P z n h (bI c) (nI k) (nI v) 1 (nI v >>> ((7 : Int32) &&& 31)) := by
    intro hl
    have eo : xout k v = v / 128 := by unfold xout; rw [if_pos hl]
    rw [shr7_ok v hv, ← eo]
    refine sp_N_comesIn hk hv ⟨fun g => absurd g (by decide), fun _ z3 e3 => ?_⟩
    rw [shl1_ok v hv _ hin] at e3
    subst e3
    exact two _ (by omega) (by unfold xshfB; rw [if_pos hl])
  have right : ¬ (k = 0 ∨ k = 2 ∨ k = 4) → wp_N_shifted_34 P z n h (bI c) (nI k) (nI v) 0 (nI v &&& (1 : Int32)) := by
    intro hl
    have eo : xout k v = v % 2 := by unfold xout; rw [if_neg hl]
    rw [n1, ← eo]
    refine sp_N_comesIn hk hv ⟨fun _ z3 e3 => ?_, fun g => absurd rfl g⟩
    rw [shr1_ok v hv _ hin] at e3
    subst e3
    exact two _ (by omega) (by unfold xshfB; rw [if_neg hl])
  refine bI2 (e 0 (by omega) 0 rfl) (fun g => left (Or.inl g)) (fun g0 => bI2 (e 2 (by omega) 2 rfl) (fun g => left (Or.inr (Or.inl g))) (fun g2 => bN2 (e 4 (by omega) 4 rfl) (fun g4 => right (by omega)) (fun g => left (Or.inr (Or.inr g)))))
