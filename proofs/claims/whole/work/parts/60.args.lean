/-! arguments, and what the law asks of answers -/
theorem nti {k : Nat} (h : k < 2147483648) : (nI k).toInt = (k : Int) := nI_toInt h
theorem exN {a : Int32} {N : Nat} (h0 : ¬ a < 0) (h : a < nI N) (hN : N < 2147483648) : ∃ n, n < N ∧ a = nI n := by
  rw [Int32.lt_iff_toInt_lt] at h0 h
  rw [nti hN] at h
  have e0 : (0 : Int32).toInt = 0 := rfl
  rw [e0] at h0
  refine ⟨a.toInt.toNat, by omega, ?_⟩
  apply Int32.toInt_inj.mp
  rw [nti (by omega)]
  omega
theorem lt_le {a x y : Int32} {k : Nat} (hx : x = nI (k + 1)) (hy : y = nI k) (hk : k < 1073741824) : (a < x) ↔ (a ≤ y) := by
  rw [Int32.lt_iff_toInt_lt, Int32.le_iff_toInt_le, hx, hy, nti (by omega), nti (by omega)]
  omega
theorem cmp_same (o : Nat → Int64) (r : Int32) : lg_cmp ((vp_updL o (0 : Int32).toNatClampNeg r.toInt64) (0 : Int32).toNatClampNeg) r.toInt64 = 0 := by
  have e : (vp_updL o (0 : Int32).toNatClampNeg r.toInt64) (0 : Int32).toNatClampNeg = r.toInt64 := if_pos rfl
  rw [e]
  unfold lg_cmp
  rw [if_neg Int64.lt_irrefl, if_pos rfl]
def pI (n : Nat) : Int32 := if n = 8 then -1 else nI n
theorem pI_8 : pI 8 = -1 := rfl
theorem pI_n {n : Nat} (h : n < 8) : pI n = nI n := by unfold pI; rw [if_neg (by omega)]
theorem pI_m {n : Nat} (h : n ≤ 8) : pI n = -1 ↔ n = 8 := by
  by_cases g : n = 8
  · subst g; exact ⟨fun _ => rfl, fun _ => rfl⟩
  · rw [pI_n (by omega)]
    refine ⟨fun k => ?_, fun k => absurd k g⟩
    have h2 := congrArg Int32.toInt k
    rw [nti (by omega), show (-1 : Int32).toInt = -1 from rfl] at h2
    omega
theorem exP {a : Int32} (h0 : ¬ a < (-1 : Int32)) (h : a < (8 : Int32)) : ∃ n, n ≤ 8 ∧ a = pI n := by
  by_cases g : a < 0
  · refine ⟨8, by omega, ?_⟩
    rw [pI_8]
    rw [Int32.lt_iff_toInt_lt] at h0 g
    rw [show (-1 : Int32).toInt = -1 from rfl] at h0
    rw [show (0 : Int32).toInt = 0 from rfl] at g
    apply Int32.toInt_inj.mp
    rw [show (-1 : Int32).toInt = -1 from rfl]
    omega
  · obtain ⟨n, hn, e⟩ := exN g (N := 8) h (by omega)
    exact ⟨n, by omega, by rw [e, pI_n hn]⟩
theorem up_pI (f : Nat → Nat) (k x : Nat) : upd (fun j => pI (f j)) k (pI x) = fun j => pI (fu f k x j) := by
  funext j
  unfold upd fu
  split <;> rfl
