/-! numbers: Int32 by naturals -/
theorem li_0 : (0 : Int32) = nI 0 := rfl
theorem li_1 : (1 : Int32) = nI 1 := rfl
theorem nw_ (n : Nat) : nI (n % 4294967296) = nI n := by
  unfold nI
  apply Int32.toBitVec_inj.mp
  show BitVec.ofNat 32 (n % 4294967296) = BitVec.ofNat 32 n
  apply BitVec.eq_of_toNat_eq
  simp
theorem na_ (n k : Nat) {m : Int32} (hk : k ≤ 32) (hm : m.toBitVec.toNat = 2 ^ k - 1) : nI n &&& m = nI (n % 2 ^ k) := by
  have h := pk_and (nI n) k hm
  rw [h]
  have e : (nI n).toBitVec.toNat = n % 4294967296 := by
    unfold nI
    show (BitVec.ofNat 32 n).toNat = _
    simp
  rw [e]
  congr 1
  have : (2 ^ k) ∣ 4294967296 := by
    have h2 : (4294967296 : Nat) = 2 ^ 32 := by decide
    rw [h2]
    exact Nat.pow_dvd_pow 2 hk
  exact Nat.mod_mod_of_dvd n this
theorem n255 (n : Nat) : nI n &&& (255 : Int32) = nI (n % 256) := na_ n 8 (by decide) (by decide)
theorem n15 (n : Nat) : nI n &&& (15 : Int32) = nI (n % 16) := na_ n 4 (by decide) (by decide)
theorem n7 (n : Nat) : nI n &&& (7 : Int32) = nI (n % 8) := na_ n 3 (by decide) (by decide)
theorem n3 (n : Nat) : nI n &&& (3 : Int32) = nI (n % 4) := na_ n 2 (by decide) (by decide)
theorem n1 (n : Nat) : nI n &&& (1 : Int32) = nI (n % 2) := na_ n 1 (by decide) (by decide)
theorem n65535 (n : Nat) : nI n &&& (65535 : Int32) = nI (n % 65536) := na_ n 16 (by decide) (by decide)
theorem n31 (n : Nat) : nI n &&& (31 : Int32) = nI (n % 32) := na_ n 5 (by decide) (by decide)
theorem nsub (a b : Nat) (h : b ≤ 4294967296) : nI a - nI b = nI (a + 4294967296 - b) := by
  have h1 : nI (a + 4294967296 - b) + nI b = nI a := by
    rw [nI_add, show a + 4294967296 - b + b = a + 4294967296 by omega, ← nw_ (a + 4294967296), Nat.add_mod_right, nw_]
  rw [← h1, Int32.add_sub_cancel]
theorem nsub' {a b : Nat} (h : b ≤ a) : nI a - nI b = nI (a - b) := pk_sub h
theorem bI_t : bI true = 1 := rfl
theorem bI_f : bI false = 0 := rfl
theorem bI_z (b : Bool) : (bI b = 0) ↔ b = false := by cases b <;> decide
theorem bI_1 (b : Bool) : (bI b = 1) ↔ b = true := by cases b <;> decide
theorem bI_ok (b : Bool) : bI b = 0 ∨ bI b = 1 := by cases b <;> decide
theorem bI_N (b : Bool) : bI b = nI (bN b) := by cases b <;> rfl
theorem bN_le (b : Bool) : bN b ≤ 1 := by cases b <;> decide
theorem clN {n : Nat} (h : n < 2147483648) : (nI n).toNatClampNeg = n := nI_clamp h
theorem vin {n N : Nat} (h : n < N) (hN : N < 2147483648) : vp_in (nI n) N := vp_in_nI h hN
theorem up_nI (f : Nat → Nat) (k x : Nat) : upd (fun j => nI (f j)) k (nI x) = fun j => nI (fu f k x j) := by
  funext j
  unfold upd fu
  split <;> rfl
