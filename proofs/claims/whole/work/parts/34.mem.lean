/-! the desk's memory -/
def okS (S : St) : Prop := (∀ j, im_ S j < 256) ∧ (∀ j, ra_ S j < 256) ∧ (∀ j, up_ S j < 256) ∧ (∀ j, rg_ S j < 256) ∧ lo_ S < 4 ∧ hi_ S < 2 ∧ mo_ S < 2 ∧ ma_ S < 16 ∧ li_ S < 16 ∧ st_ S < 256 ∧ pl_ S < 256 ∧ co_ S < 4
def lnk (S : St) : Prop := bk_ S = 2 ∨ bk_ S = 4 ∨ bk_ S = 8
theorem at_ok : ∀ b, (b = 2 ∨ b = 4 ∨ b = 8) → ∀ k, k < 8 → (nI k &&& (nI b - (1 : Int32))) &&& (7 : Int32) = nI (k % b) := by
  intro b hb k hk
  rcases hb with rfl | rfl | rfl <;> revert k <;> decide +kernel
theorem sp_K_at {ce : Nat → Nat} {b k a : Nat} (hb : b = 2 ∨ b = 4 ∨ b = 8) (hk : k < 8) (ha : a < 64) {P : Int32 → Prop} (hP : P (nI (ce (64 * (k % b) + a)))) : wp_K_at (fun j => nI (ce j)) (nI b) (nI k) (nI a) P := by
  have hm : k % b < 8 := by rcases hb with rfl | rfl | rfl <;> omega
  have e : (((nI k &&& (nI b - (1 : Int32))) &&& (7 : Int32)) * (64 : Int32)) + nI a = nI (64 * (k % b) + a) := by
    rw [at_ok b hb k hk, show (64 : Int32) = nI 64 from rfl, pk_mul, nI_add, Nat.mul_comm]
  unfold wp_K_at
  rw [e, clN (by omega)]
  exact ⟨vin (by omega) (by omega), hP⟩
theorem sp_M_ramPlace {h m a : Nat} (hh : h < 2) (hm : m < 2) (ha : 128 ≤ a) (ha2 : a < 192) {P : Int32 → Prop} (hP : P (nI ((if m = 1 then 64 * h else 0) + (a - 128)))) : wp_M_ramPlace (nI h) (nI m) (nI a) P := by
  refine bN2 (eqN (k := 1) rfl (by omega) (by omega)) (fun g => ?_) (fun g => ?_)
  · rw [if_neg g] at hP
    rw [li_0, nI_add, show (128 : Int32) = nI 128 from rfl, nsub' (by omega), show 0 + a - 128 = 0 + (a - 128) by omega]
    exact hP
  · rw [if_pos g] at hP
    rw [show (64 : Int32) = nI 64 from rfl, show (128 : Int32) = nI 128 from rfl, pk_mul, nI_add, nsub' (by omega)]
    rw [show h * 64 + a - 128 = 64 * h + (a - 128) by omega]
    exact hP
theorem sp_M_read {S : St} (hS : okS S) (hL : lnk S) {a : Nat} (ha : a < 256) {P : Int32 → Prop} (hP : P (nI (xrd S a))) : wp_M_read (e_k_ce S) (e_k_bc S) (e_m_ra S) (e_m_up S) (e_m_on S) (e_m_lo S) (e_m_hi S) (e_m_mo S) (e_m_ma S) (e_m_li S) (nI a) P := by
  obtain ⟨h1, h2, h3, h4, h5, h6, h7, h8, h9, h10, h11, h12⟩ := hS
  unfold xrd at hP
  unfold e_k_ce e_k_bc e_m_ra e_m_up e_m_on e_m_lo e_m_hi e_m_mo e_m_ma e_m_li
  refine bI2 (geN (k := 64) rfl (by omega) (by omega)) (fun g1 => ?_) (fun g1 => ?_)
  · rw [if_neg (by omega)] at hP
    refine bI2 (geN (k := 128) rfl (by omega) (by omega)) (fun g2 => ?_) (fun g2 => ?_)
    · rw [if_neg (by omega)] at hP
      refine bI2 (geN (k := 192) rfl (by omega) (by omega)) (fun g3 => ?_) (fun g3 => ?_)
      · rw [if_neg (by omega)] at hP
        refine bI2 (geN (k := 254) rfl (by omega) (by omega)) (fun g4 => ?_) (fun g4 => ?_)
        · rw [if_neg (by omega)] at hP
          refine bN2 (eqN (k := 254) rfl (by omega) (by omega)) (fun g5 => ?_) (fun g5 => ?_)
          · rw [if_neg g5] at hP; exact hP
          · rw [if_pos g5] at hP; exact hP
        · rw [if_pos (by omega)] at hP
          rw [show (192 : Int32) = nI 192 from rfl, nsub' (by omega), clN (by omega)]
          exact ⟨vin (by omega) (by omega), hP⟩
      · rw [if_pos (by omega)] at hP
        refine bI2 (bI_z _) (fun g4 => ?_) (fun g4 => ?_)
        · rw [g4] at hP; exact hP
        · have g5 : on_ S = true := by cases h : on_ S <;> simp_all
          rw [g5, if_pos rfl] at hP
          refine sp_M_ramPlace h6 h7 (by omega) (by omega) ?_
          have hb : (if mo_ S = 1 then 64 * hi_ S else 0) ≤ 64 := by split <;> omega
          rw [clN (by omega)]
          exact ⟨vin (by omega) (by omega), hP⟩
    · rw [if_pos (by omega)] at hP
      rw [show (64 : Int32) = nI 64 from rfl, show (4 : Int32) = nI 4 from rfl, pk_mul, nI_add, nsub' (by omega)]
      exact sp_K_at hL (by omega) (by omega) hP
  · rw [if_pos (by omega)] at hP
    refine bN2 (eqN (k := 1) rfl (by omega) (by omega)) (fun g2 => ?_) (fun g2 => ?_)
    · rw [if_neg g2] at hP
      exact sp_K_at (k := 0) hL (by omega) (by omega) hP
    · rw [if_pos g2] at hP
      rw [show (4 : Int32) = nI 4 from rfl, pk_mul]
      exact sp_K_at hL (by omega) (by omega) hP
theorem e_ra (S : St) (k x : Nat) : upd (e_m_ra S) k (nI x) = e_m_ra (s_ra S (fu (ra_ S) k x)) := up_nI (ra_ S) k x
theorem e_up (S : St) (k x : Nat) : upd (e_m_up S) k (nI x) = e_m_up (s_up S (fu (up_ S) k x)) := up_nI (up_ S) k x
theorem e_rg (S : St) (k x : Nat) : upd (e_n_rg S) k (nI x) = e_n_rg (s_rg S (fu (rg_ S) k x)) := up_nI (rg_ S) k x
theorem sp_M_write {S : St} (hS : okS S) {a b : Nat} (ha : a < 256) (hb : b < 256) {P : (Nat → Int32) → (Nat → Int32) → Int32 → Int32 → Int32 → Int32 → Int32 → Int32 → Prop}
    (hP : P (e_m_ra (xwr S a b)) (e_m_up (xwr S a b)) (e_m_on (xwr S a b)) (e_m_lo (xwr S a b)) (e_m_hi (xwr S a b)) (e_m_mo (xwr S a b)) (e_m_ma (xwr S a b)) (e_m_li (xwr S a b))) : wp_M_write (e_m_ra S) (e_m_up S) (e_m_on S) (e_m_lo S) (e_m_hi S) (e_m_mo S) (e_m_ma S) (e_m_li S) (nI a) (nI b) P := by
  obtain ⟨h1, h2, h3, h4, h5, h6, h7, h8, h9, h10, h11, h12⟩ := hS
  unfold xwr at hP
  refine bI2 (geN (k := 128) rfl (by omega) (by omega)) (fun g1 => ?_) (fun g1 => ?_)
  · rw [if_neg (by omega), if_neg (by omega), if_neg (by omega), if_neg (by omega)] at hP
    refine bI2 (geN (k := 192) rfl (by omega) (by omega)) (fun g2 => ?_) (fun g2 => ?_)
    · rw [if_neg (by omega)] at hP
      refine bI2 (geN (k := 254) rfl (by omega) (by omega)) (fun g3 => ?_) (fun g3 => ?_)
      · rw [if_neg (by omega)] at hP
        rw [n15]
        refine bN2 (eqN (k := 254) rfl (by omega) (by omega)) (fun g4 => ?_) (fun g4 => ?_)
        · rw [if_neg g4] at hP; exact hP
        · rw [if_pos g4] at hP; exact hP
      · rw [if_pos (by omega)] at hP
        rw [show (192 : Int32) = nI 192 from rfl, nsub' (by omega), clN (by omega), e_up]
        exact ⟨vin (by omega) (by omega), hP⟩
    · rw [if_pos (by omega)] at hP
      refine bI2 (bI_z _) (fun g3 => ?_) (fun g3 => ?_)
      · rw [g3] at hP; exact hP
      · have g5 : on_ S = true := by cases h : on_ S <;> simp_all
        rw [g5, if_pos rfl] at hP
        refine sp_M_ramPlace h6 h7 (by omega) (by omega) ?_
        have hb : (if mo_ S = 1 then 64 * hi_ S else 0) ≤ 64 := by split <;> omega
        rw [clN (by omega), e_ra]
        exact ⟨vin (by omega) (by omega), hP⟩
  · have e32 : nI a / (32 : Int32) = nI (a / 32) := pk_div (a := a) (d := 32) (by omega) (by decide) (by decide)
    rw [e32]
    unfold wp_M_turnSwitch
    rw [n15, n3, n1]
    have c1 : ∀ j : Nat, j < 4 → ∀ x : Int32, x = nI j → (nI (a / 32) = x ↔ a / 32 = j) := fun j hj x hx => eqN hx (by omega) (by omega)
    rw [c1 0 (by omega) 0 rfl, c1 1 (by omega) 1 rfl, c1 2 (by omega) 2 rfl]
    refine ⟨fun g => ?_, fun g => ?_, fun g => ?_, fun g2 g3 g4 => ?_⟩
    · rw [if_pos (by omega)] at hP
      refine bN2 (eqN (k := 10) rfl (by omega) (by omega)) (fun g2 => ?_) (fun g2 => ?_)
      · refine Eq.mp ?_ hP
        congr 1 <;> first | rfl | exact bd0 g2
      · refine Eq.mp ?_ hP
        congr 1 <;> first | rfl | exact bd1 g2
    · rw [if_neg (by omega), if_pos (by omega)] at hP
      refine bN2 (eqN (k := 0) rfl (by omega) (by omega)) (fun g2 => ?_) (fun g2 => ?_)
      · rw [if_neg g2] at hP; exact hP
      · rw [if_pos g2] at hP; exact hP
    · rw [if_neg (by omega), if_neg (by omega), if_pos (by omega)] at hP; exact hP
    · rw [if_neg (by omega), if_neg (by omega), if_neg (by omega), if_pos (by omega)] at hP; exact hP
