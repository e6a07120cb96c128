/-! conditions on small numbers -/
theorem s7 : (7 : Int32).toNatClampNeg = 7 := by decide
theorem s5 : (5 : Int32).toNatClampNeg = 5 := by decide
theorem eqN {n k : Nat} {x : Int32} (hx : x = nI k) (h : n < 2147483648) (hk : k < 2147483648) : (nI n = x) ↔ n = k := by rw [hx]; exact nI_eq h hk
theorem leN {n k : Nat} {x : Int32} (hx : x = nI k) (h : n < 2147483648) (hk : k < 2147483648) : (nI n ≤ x) ↔ n ≤ k := by rw [hx]; exact nI_leI h hk
theorem geN {n k : Nat} {x : Int32} (hx : x = nI k) (h : n < 2147483648) (hk : k < 2147483648) : (x ≤ nI n) ↔ k ≤ n := by rw [hx]; exact nI_leI hk h
theorem ltN {n k : Nat} {x : Int32} (hx : x = nI k) (h : n < 2147483648) (hk : k < 2147483648) : (nI n < x) ↔ n < k := by rw [hx]; exact nI_ltI h hk
theorem gtN {n k : Nat} {x : Int32} (hx : x = nI k) (h : n < 2147483648) (hk : k < 2147483648) : (x < nI n) ↔ k < n := by rw [hx]; exact nI_ltI hk h
theorem bd0 {c : Prop} [Decidable c] (h : ¬ c) : bI (decide c) = 0 := by rw [decide_eq_false h]; rfl
theorem bd1 {c : Prop} [Decidable c] (h : c) : bI (decide c) = 1 := by rw [decide_eq_true h]; rfl
/-- a branch by what its condition says of naturals -/
theorem bI2 {c d A B : Prop} (e : c ↔ d) (f : d → A) (g : ¬ d → B) : (c → A) ∧ (¬ c → B) := ⟨fun h => f (e.mp h), fun h => g (fun k => h (e.mpr k))⟩
theorem bN2 {c d A B : Prop} (e : c ↔ d) (f : ¬ d → A) (g : d → B) : (¬ c → A) ∧ (c → B) := ⟨fun h => f (fun k => h (e.mpr k)), fun h => g (e.mp h)⟩
theorem sp_N_setFlags {z n h c a1 a2 a3 a4 : Int32} {P : Int32 → Int32 → Int32 → Int32 → Prop} (h1 : a1 = 0 ∨ a1 = 1) (h2 : a2 = 0 ∨ a2 = 1) (h3 : a3 = 0 ∨ a3 = 1) (h4 : a4 = 0 ∨ a4 = 1) (hP : P a1 a2 a3 a4) : wp_N_setFlags z n h c a1 a2 a3 a4 P := ⟨h1, h2, h3, h4, hP⟩
theorem z0 : (0 : Int32) = 0 ∨ (0 : Int32) = 1 := Or.inl rfl
theorem z1 : (1 : Int32) = 0 ∨ (1 : Int32) = 1 := Or.inr rfl
theorem sp_N_sum {rg : Nat → Int32} {z n h c : Int32} {a b m : Nat} (ha : a < 256) (hb : b < 256) (hm : m ≤ 1) (hr : rg 7 = nI a) {P : Int32 → Int32 → Int32 → Int32 → Int32 → Prop}
    (hP : P (nI (xsum a b m)) (bI (decide (xsum a b m = 0))) (bI false) (bI (decide (15 < a % 16 + b % 16 + m))) (bI (decide (255 < a + b + m)))) : wp_N_sum rg z n h c (nI b) (nI m) P := by
  intro z1' e1 z2 e2 z3 e3
  rw [s7, hr] at e1
  subst e1
  rw [nI_add, nI_add] at e2
  rw [n15, n15, nI_add, nI_add] at e3
  subst e2 e3
  unfold xsum at hP
  have c1 : (nI (a + b + m) &&& (255 : Int32) = 0) ↔ (a + b + m) % 256 = 0 := by rw [n255]; exact eqN rfl (by omega) (by omega)
  have c2 := leN (n := a % 16 + b % 16 + m) (k := 15) (x := 15) rfl (by omega) (by omega)
  have c3 := leN (n := a + b + m) (k := 255) (x := 255) rfl (by omega) (by omega)
  refine bN2 c1 (fun g1 => bI2 c2 (fun g2 => bI2 c3 (fun g3 => ?_) (fun g3 => ?_)) (fun g2 => bI2 c3 (fun g3 => ?_) (fun g3 => ?_))) (fun g1 => bI2 c2 (fun g2 => bI2 c3 (fun g3 => ?_) (fun g3 => ?_)) (fun g2 => bI2 c3 (fun g3 => ?_) (fun g3 => ?_))) <;>
  · refine sp_N_setFlags (by decide) (by decide) (by decide) (by decide) ?_
    rw [n255]
    refine Eq.mp ?_ hP
    congr 1 <;> first | rfl | exact bd0 (by omega) | exact bd1 (by omega)
