/-! registers; running -/
theorem sp_N_shown' {S : St} (hS : okS S) {k : Nat} (hL : k = 6 → lnk S) (hk : k < 13) {P : Int32 → Prop} (hP : P (nI (xshow S k))) : wp_N_shown (e_k_ce S) (e_k_bc S) (e_m_ra S) (e_m_up S) (e_m_on S) (e_m_lo S) (e_m_hi S) (e_m_mo S) (e_m_ma S) (e_m_li S) (e_n_rg S) (e_n_st S) (e_n_pl S) (e_n_z S) (e_n_n S) (e_n_h S) (e_n_c S) (e_n_en S) (nI k) P := by
  by_cases h6 : k = 6
  · exact sp_N_shown hS (hL h6) hk hP
  have e : ∀ j : Nat, j < 16 → ∀ x : Int32, x = nI j → (nI k = x ↔ k = j) := fun j hj x hx => eqN hx (by omega) (by omega)
  by_cases h8 : k < 8
  · have hx : xshow S k = rg_ S k := by
      unfold xshow xget
      rw [if_neg (by omega), if_neg (by omega), if_neg (by omega), if_neg (by omega), if_neg (by omega), Nat.mod_eq_of_lt h8, if_neg h6]
    rw [hx] at hP
    unfold wp_N_shown
    rw [e 8 (by omega) 8 rfl, e 9 (by omega) 9 rfl, e 10 (by omega) 10 rfl, e 11 (by omega) 11 rfl, e 12 (by omega) 12 rfl, n7, Nat.mod_eq_of_lt h8]
    refine ⟨fun h => by omega, fun h => by omega, fun h => by omega, fun h => by omega, fun h => by omega, fun _ _ _ _ _ => ⟨fun _ => ⟨vin h8 (by omega), ?_⟩, fun h => absurd ((e 6 (by omega) 6 rfl).mp h) h6⟩⟩
    rw [clN (by omega)]
    exact hP
  unfold wp_N_shown
  rw [e 8 (by omega) 8 rfl, e 9 (by omega) 9 rfl, e 10 (by omega) 10 rfl, e 11 (by omega) 11 rfl, e 12 (by omega) 12 rfl]
  refine ⟨fun h => ?_, fun h => ?_, fun h => ?_, fun h => ?_, fun h => ?_, fun h0 h1 h2 h3 h4 => by omega⟩
  · subst h; rw [show xshow S 8 = st_ S from (by unfold xshow; rw [if_pos rfl])] at hP; exact hP
  · subst h; rw [show xshow S 9 = pl_ S from (by unfold xshow; rw [if_neg (by decide), if_pos rfl])] at hP; exact hP
  · subst h
    rw [show xshow S 10 = 8 * bN (zf_ S) + 4 * bN (nf_ S) + 2 * bN (hf_ S) + bN (cf_ S) from (by unfold xshow; rw [if_neg (by decide), if_neg (by decide), if_pos rfl])] at hP
    unfold wp_N_shown_71
    refine bI2 (bI_z (zf_ S)) (fun g1 => bI2 (bI_z (nf_ S)) (fun g2 => bI2 (bI_z (hf_ S)) (fun g3 => sp_N_carryBit ?_) (fun g3 => sp_N_carryBit ?_)) (fun g2 => bI2 (bI_z (hf_ S)) (fun g3 => sp_N_carryBit ?_) (fun g3 => sp_N_carryBit ?_))) (fun g1 => bI2 (bI_z (nf_ S)) (fun g2 => bI2 (bI_z (hf_ S)) (fun g3 => sp_N_carryBit ?_) (fun g3 => sp_N_carryBit ?_)) (fun g2 => bI2 (bI_z (hf_ S)) (fun g3 => sp_N_carryBit ?_) (fun g3 => sp_N_carryBit ?_))) <;>
    · first | rw [g1] at hP | rw [bT g1] at hP
      first | rw [g2] at hP | rw [bT g2] at hP
      first | rw [g3] at hP | rw [bT g3] at hP
      generalize cf_ S = c at hP ⊢
      cases c <;> exact hP
  · subst h; rw [show xshow S 11 = xsw S from (by unfold xshow; rw [if_neg (by decide), if_neg (by decide), if_neg (by decide), if_pos rfl])] at hP; exact sp_M_switches hP
  · subst h
    rw [show xshow S 12 = bN (en_ S) from (by unfold xshow; rw [if_neg (by decide), if_neg (by decide), if_neg (by decide), if_neg (by decide), if_pos rfl])] at hP
    refine bI2 (bI_z (en_ S)) (fun g => ?_) (fun g => ?_)
    · rw [g] at hP; exact hP
    · rw [bT g] at hP; exact hP
theorem q_r29 {S : St} (hS : okS S) {k : Nat} (hL : k = 6 → lnk S) (hk : k < 13) {l qc : Int32} {P : Int32 → Int32 → Prop} (hP : P (nI (xshow S k)) 0) : wp_Q_register_29 l (e_q_banks S) (e_q_memory S) (e_q_register S) (e_q_stack S) (e_q_place S) (e_q_zero S) (e_q_less S) (e_q_half S) (e_q_carry S) (e_q_enabled S) (e_q_ram S) (e_q_low S) (e_q_top S) (e_q_mode S) P qc (nI k) := by
  have e : ∀ j : Nat, j < 16 → ∀ x : Int32, x = nI j → (nI k = x ↔ k = j) := fun j hj x hx => eqN hx (by omega) (by omega)
  have r121 : 10 ≤ k → ∀ y0 y1 : Int32, y1 + y0 = nI (8 * bN (zf_ S) + 4 * bN (nf_ S) + 2 * bN (hf_ S) + bN (cf_ S)) → wp_Q_register_121 l (e_q_banks S) (e_q_memory S) (e_q_register S) (e_q_stack S) (e_q_place S) (e_q_zero S) (e_q_less S) (e_q_half S) (e_q_carry S) (e_q_enabled S) (e_q_ram S) (e_q_low S) (e_q_top S) (e_q_mode S) P 0 (nI k) y0 y1 := by
    intro h10 y0 y1 hy z7 e7
    rw [hy] at e7
    subst e7
    rw [e 10 (by omega) 10 rfl, e 11 (by omega) 11 rfl]
    refine ⟨fun g10 => ⟨fun g11 => ?_, fun g11 => ?_⟩, fun g10 => ?_⟩
    · have h12 : k = 12 := by omega
      subst h12
      rw [show xshow S 12 = bN (en_ S) from (by unfold xshow; rw [if_neg (by decide), if_neg (by decide), if_neg (by decide), if_neg (by decide), if_pos rfl])] at hP
      refine bI2 (bI_z (en_ S)) (fun g => ?_) (fun g => ?_)
      · rw [g] at hP; exact hP
      · rw [bT g] at hP; exact hP
    · subst g11
      rw [show xshow S 11 = xsw S from (by unfold xshow; rw [if_neg (by decide), if_neg (by decide), if_neg (by decide), if_pos rfl])] at hP
      unfold xsw at hP
      unfold wp_Q_register_152
      rw [show e_q_low S = nI (lo_ S) from rfl, show e_q_top S = nI (hi_ S) from rfl, show e_q_mode S = nI (mo_ S) from rfl, show (4 : Int32) = nI 4 from rfl, show (2 : Int32) = nI 2 from rfl, pk_mul, pk_mul]
      refine bI2 (bI_z (on_ S)) (fun g => ?_) (fun g => ?_)
      · rw [g] at hP
        rw [show (0 : Int32) = nI 0 from rfl, nI_add, nI_add, nI_add]; exact hP
      · rw [bT g] at hP
        rw [show (16 : Int32) = nI 16 from rfl, nI_add, nI_add, nI_add]; exact hP
    · subst g10
      rw [show xshow S 10 = 8 * bN (zf_ S) + 4 * bN (nf_ S) + 2 * bN (hf_ S) + bN (cf_ S) from (by unfold xshow; rw [if_neg (by decide), if_neg (by decide), if_pos rfl])] at hP
      exact hP
  have r95 : 10 ≤ k → ∀ y0 y1 : Int32, y1 + y0 = nI (8 * bN (zf_ S) + 4 * bN (nf_ S)) → wp_Q_register_95 l (e_q_banks S) (e_q_memory S) (e_q_register S) (e_q_stack S) (e_q_place S) (e_q_zero S) (e_q_less S) (e_q_half S) (e_q_carry S) (e_q_enabled S) (e_q_ram S) (e_q_low S) (e_q_top S) (e_q_mode S) P 0 (nI k) y0 y1 := by
    intro h10 y0 y1 hy
    unfold wp_Q_register_95
    rw [hy]
    refine bI2 (bI_z (hf_ S)) (fun g1 => bI2 (bI_z (cf_ S)) (fun g2 => ?_) (fun g2 => ?_)) (fun g1 => bI2 (bI_z (cf_ S)) (fun g2 => ?_) (fun g2 => ?_)) <;>
    · refine r121 h10 _ _ ?_
      first | rw [g1] | rw [bT g1]
      first | rw [g2] | rw [bT g2]
      generalize 8 * bN (zf_ S) + 4 * bN (nf_ S) = w
      first
        | exact show nI w + nI 0 + nI 0 = nI (w + 2 * 0 + 0) by rw [nI_add, nI_add]
        | exact show nI w + nI 0 + nI 1 = nI (w + 2 * 0 + 1) by rw [nI_add, nI_add]
        | exact show nI w + nI 2 + nI 0 = nI (w + 2 * 1 + 0) by rw [nI_add, nI_add]
        | exact show nI w + nI 2 + nI 1 = nI (w + 2 * 1 + 1) by rw [nI_add, nI_add]
  unfold wp_Q_register_29
  refine bI2 (geN (k := 8) rfl (by omega) (by omega)) (fun g8 => bI2 (geN (k := 10) rfl (by omega) (by omega)) (fun g10 => ?_) (fun g10 => bN2 (e 8 (by omega) 8 rfl) (fun g => ?_) (fun g => ?_))) (fun g8 => ?_)
  · refine bI2 (bI_z (zf_ S)) (fun g1 => bI2 (bI_z (nf_ S)) (fun g2 => r95 g10 _ _ ?_) (fun g2 => r95 g10 _ _ ?_)) (fun g1 => bI2 (bI_z (nf_ S)) (fun g2 => r95 g10 _ _ ?_) (fun g2 => r95 g10 _ _ ?_)) <;>
    · first | rw [g1] | rw [bT g1]
      first | rw [g2] | rw [bT g2]
      rfl
  · have h9 : k = 9 := by omega
    subst h9
    rw [show xshow S 9 = pl_ S from (by unfold xshow; rw [if_neg (by decide), if_pos rfl])] at hP; exact hP
  · subst g
    rw [show xshow S 8 = st_ S from (by unfold xshow; rw [if_pos rfl])] at hP; exact hP
  · have hx : xshow S k = xget S k := by
      unfold xshow
      rw [if_neg (by omega), if_neg (by omega), if_neg (by omega), if_neg (by omega), if_neg (by omega), Nat.mod_eq_of_lt (by omega)]
    rw [hx] at hP
    by_cases h6 : k = 6
    · exact sp_Q_get hS (hL h6) (by omega) hP
    · unfold xget at hP
      rw [if_neg h6] at hP
      refine ⟨fun _ => ⟨vin (by omega) (by omega), ?_⟩, fun h => absurd ((e 6 (by omega) 6 rfl).mp h) h6⟩
      rw [clN (by omega)]
      exact hP
theorem pr_register {S : St} {A : Prop} {qc : Int32} {o : Nat → Int64} (hS : okS S) (hb : bk_ S ≤ 8) (hL : ¬ bk_ S = 0 → lnk S) {lk : Nat} (hlk : lk ≤ 10) (hz : lk = 0 ↔ bk_ S = 0) (hA : A) {a : Int32} {K : Int32 → (Nat → Int64) → Int32 → Int32 → Prop}
    (hK : ∀ (r rq : Int32) (o' : Nat → Int64), (r = 0 → lg_cmp (o' (0 : Int32).toNatClampNeg) rq.toInt64 = 0) → K r o' rq r) :
    wp_L_register (e_k_ce S) (e_k_bc S) (e_m_ra S) (e_m_up S) (e_m_on S) (e_m_lo S) (e_m_hi S) (e_m_mo S) (e_m_ma S) (e_m_li S) (e_n_rg S) (e_n_st S) (e_n_pl S) (e_n_z S) (e_n_n S) (e_n_h S) (e_n_c S) (e_n_en S) a o (fun r1 o5 => A ∧ wp_Q_register qc (nI lk) (e_q_banks S) (e_q_memory S) (e_q_register S) (e_q_stack S) (e_q_place S) (e_q_zero S) (e_q_less S) (e_q_half S) (e_q_carry S) (e_q_enabled S) (e_q_ram S) (e_q_low S) (e_q_top S) (e_q_mode S) a (fun r6 w7 => K r1 o5 r6 w7)) := by
  have bad : K 1 o 0 1 := hK 1 0 o (fun h => absurd h (by decide))
  have e0 := eqN (n := lk) (k := 0) (x := 0) rfl (by omega) (by omega)
  have h12 : (¬ (12 : Int32) < a) ↔ (a ≤ (12 : Int32)) := by rw [Int32.lt_iff_toInt_lt, Int32.le_iff_toInt_le]; omega
  have one : (a < 0 ∨ ¬ a ≤ (12 : Int32) ∨ (a = 6 ∧ bk_ S = 0)) → wp_Q_register qc (nI lk) (e_q_banks S) (e_q_memory S) (e_q_register S) (e_q_stack S) (e_q_place S) (e_q_zero S) (e_q_less S) (e_q_half S) (e_q_carry S) (e_q_enabled S) (e_q_ram S) (e_q_low S) (e_q_top S) (e_q_mode S) a (fun r6 w7 => K 1 o r6 w7) := by
    intro h
    refine out_ (fun _ => ⟨fun _ => bad, fun g => absurd g (by decide)⟩) (fun g1 g2 => ⟨fun g => absurd rfl g, fun _ => ?_⟩)
    rcases h with h | h | ⟨h, hb0⟩
    · exact absurd h g1
    · exact absurd g2 h
    · exact ⟨fun g => absurd h g, fun _ => ⟨fun g => absurd (e0.mpr (hz.mpr hb0)) g, fun _ => bad⟩⟩
  have good : ∀ n, n < 13 → (n = 6 → ¬ bk_ S = 0) → ¬ nI n < 0 → nI n ≤ (12 : Int32) → wp_N_shown (e_k_ce S) (e_k_bc S) (e_m_ra S) (e_m_up S) (e_m_on S) (e_m_lo S) (e_m_hi S) (e_m_mo S) (e_m_ma S) (e_m_li S) (e_n_rg S) (e_n_st S) (e_n_pl S) (e_n_z S) (e_n_n S) (e_n_h S) (e_n_c S) (e_n_en S) (nI n) (fun r => A ∧ wp_Q_register qc (nI lk) (e_q_banks S) (e_q_memory S) (e_q_register S) (e_q_stack S) (e_q_place S) (e_q_zero S) (e_q_less S) (e_q_half S) (e_q_carry S) (e_q_enabled S) (e_q_ram S) (e_q_low S) (e_q_top S) (e_q_mode S) (nI n) (fun r6 w7 => K 0 (vp_updL o (0 : Int32).toNatClampNeg r.toInt64) r6 w7)) := by
    intro n hn h6 k1 k2
    have hL6 : n = 6 → lnk S := fun g => hL (h6 g)
    refine sp_N_shown' hS hL6 hn ⟨hA, out_ (fun g => ?_) (fun _ _ => ⟨fun g => absurd rfl g, fun _ => ?_⟩)⟩
    · rcases g with g | g
      · exact absurd g k1
      · exact absurd k2 g
    · have fin := q_r29 (l := nI lk) (qc := qc) hS hL6 hn (P := fun r6 w7 => K 0 (vp_updL o (0 : Int32).toNatClampNeg (nI (xshow S n)).toInt64) r6 w7) (hK 0 _ _ (fun _ => cmp_same o _))
      refine ⟨fun _ => fin, fun g => ⟨fun _ => fin, fun g2 => absurd (hz.mp (e0.mp g2)) (h6 ((eqN (k := 6) rfl (by omega) (by omega)).mp g))⟩⟩
  have key : ∀ y0 : Int32, (¬ y0 = 0 ↔ a = 6) → wp_D_register_11 (e_k_ce S) (e_k_bc S) (e_m_ra S) (e_m_up S) (e_m_on S) (e_m_lo S) (e_m_hi S) (e_m_mo S) (e_m_ma S) (e_m_li S) (e_n_rg S) (e_n_st S) (e_n_pl S) (e_n_z S) (e_n_n S) (e_n_h S) (e_n_c S) (e_n_en S) (fun r => A ∧ wp_Q_register qc (nI lk) (e_q_banks S) (e_q_memory S) (e_q_register S) (e_q_stack S) (e_q_place S) (e_q_zero S) (e_q_less S) (e_q_half S) (e_q_carry S) (e_q_enabled S) (e_q_ram S) (e_q_low S) (e_q_top S) (e_q_mode S) a (fun r6 w7 => K 0 (vp_updL o (0 : Int32).toNatClampNeg r.toInt64) r6 w7)) (fun z => z = 3 ∧ A ∧ wp_Q_register qc (nI lk) (e_q_banks S) (e_q_memory S) (e_q_register S) (e_q_stack S) (e_q_place S) (e_q_zero S) (e_q_less S) (e_q_half S) (e_q_carry S) (e_q_enabled S) (e_q_ram S) (e_q_low S) (e_q_top S) (e_q_mode S) a (fun r6 w7 => K 1 o r6 w7)) a y0 := by
    intro y0 hy
    refine ⟨fun h => ⟨rfl, hA, one (Or.inl h)⟩, fun k1 => ⟨fun h => ⟨rfl, hA, one (Or.inr (Or.inl (fun q => (h12.mpr q) h)))⟩, fun k2 => ?_⟩⟩
    have k2' := h12.mp k2
    obtain ⟨n, hn, rfl⟩ := exN k1 (N := 13) ((lt_le (k := 12) rfl rfl (by omega)).mpr k2') (by omega)
    have e6 : (nI n = 6) ↔ n = 6 := eqN rfl (by omega) (by omega)
    refine ⟨fun g => good n hn (fun q => absurd (e6.mpr q) (fun w => (hy.mpr w) g)) k1 k2', fun g => im_made hb (fun k3 => ⟨fun _ => good n hn (fun _ => k3) k1 k2', fun g => absurd g (by decide)⟩) (fun k3 => ⟨fun g => absurd rfl g, fun _ => ⟨rfl, hA, one (Or.inr (Or.inr ⟨hy.mp g, k3⟩))⟩⟩)⟩
  exact ⟨fun h => key 0 ⟨fun g => absurd rfl g, fun g => absurd g h⟩, fun h => key 1 ⟨fun _ => h, fun _ => by decide⟩⟩
