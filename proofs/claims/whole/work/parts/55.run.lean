/-! the two loops that run -/
theorem sp_D_run {S : St} {a : Int32} {P : Int32 → (Nat → Int32) → (Nat → Int32) → Int32 → Int32 → Int32 → Int32 → Int32 → Int32 → (Nat → Int32) → (Nat → Int32) → Int32 → Int32 → Int32 → Int32 → Int32 → Int32 → Int32 → Int32 → Int32 → Int32 → Prop} {PX : Nat → (Nat → Int32) → (Nat → Int32) → Int32 → Int32 → Int32 → Int32 → Int32 → Int32 → (Nat → Int32) → (Nat → Int32) → Int32 → Int32 → Int32 → Int32 → Int32 → Int32 → Int32 → Int32 → Int32 → Int32 → Prop} : ∀ (d i : Nat) (S : St), i + d = 2000 → okS S → lnk S → sc_ S + d < 1073741824 → P (nI (xr a d S i).2) (e_m_ra (xr a d S i).1) (e_m_up (xr a d S i).1) (e_m_on (xr a d S i).1) (e_m_lo (xr a d S i).1) (e_m_hi (xr a d S i).1) (e_m_mo (xr a d S i).1) (e_m_ma (xr a d S i).1) (e_m_li (xr a d S i).1) (e_n_rg (xr a d S i).1) (e_n_sb (xr a d S i).1) (e_n_st (xr a d S i).1) (e_n_pl (xr a d S i).1) (e_n_z (xr a d S i).1) (e_n_n (xr a d S i).1) (e_n_h (xr a d S i).1) (e_n_c (xr a d S i).1) (e_n_en (xr a d S i).1) (e_n_so (xr a d S i).1) (e_n_co (xr a d S i).1) (e_n_sc (xr a d S i).1) → wp_D_run_20 (e_k_ce S) (e_k_bc S) P PX (d + 1) (e_m_ra S) (e_m_up S) (e_m_on S) (e_m_lo S) (e_m_hi S) (e_m_mo S) (e_m_ma S) (e_m_li S) (e_n_rg S) (e_n_sb S) (e_n_st S) (e_n_pl S) (e_n_z S) (e_n_n S) (e_n_h S) (e_n_c S) (e_n_en S) (e_n_so S) (e_n_co S) (e_n_sc S) a (nI i) := by
  intro d
  induction d with
  | zero =>
    intro i S hi hS hL hc hP
    unfold wp_D_run_20
    exact ⟨fun _ => hP, fun _ => ⟨fun _ => hP, fun h => absurd ((geN (k := 2000) rfl (by omega) (by omega)).mpr (by omega)) h⟩⟩
  | succ d ih =>
    intro i S hi hS hL hc hP
    unfold wp_D_run_20
    unfold xr at hP
    refine ⟨fun h => ?_, fun h => ⟨fun h2 => absurd ((geN (k := 2000) rfl (by omega) (by omega)).mp h2) (by omega), fun _ => ?_⟩⟩
    · rw [if_pos h] at hP; exact hP
    · rw [if_neg h] at hP
      refine sp_N_canGo hS ?_
      refine bI2 (bI_z _) (fun g => ?_) (fun g => ?_)
      · have g2 : ¬ co_ S < 2 := fun h => by rw [decide_eq_true h] at g; exact absurd g (by decide)
        rw [if_neg g2] at hP; exact hP
      · have g2 : co_ S < 2 := of_decide_eq_true (bT g)
        rw [if_pos g2] at hP
        refine sp_N_step hS hL (by omega) ?_
        rw [nI_1]
        have hk := ih (i + 1) (xstep S) (by omega) (ok_xstep hS) (ln_ hL (kp_xstep_bk S)) (by have := sc_xstep (S := S); omega) hP
        rw [show e_k_ce (xstep S) = e_k_ce S by unfold e_k_ce; rw [kp_xstep_im], show e_k_bc (xstep S) = e_k_bc S by unfold e_k_bc; rw [kp_xstep_bk]] at hk
        exact hk
theorem sp_Q_run {l qc a : Int32} {P : Int32 → Int32 → (Nat → Int32) → (Nat → Int32) → Int32 → Int32 → Int32 → Int32 → Int32 → Int32 → Int32 → Int32 → Int32 → Int32 → Int32 → Int32 → Int32 → Int32 → (Nat → Int32) → Prop} : ∀ (d i : Nat) (S : St), i + d = 2000 → okS S → lnk S → sc_ S + d < 1073741824 → P (nI (xr a d S i).2) qc (e_q_memory (xr a d S i).1) (e_q_register (xr a d S i).1) (e_q_stack (xr a d S i).1) (e_q_place (xr a d S i).1) (e_q_zero (xr a d S i).1) (e_q_less (xr a d S i).1) (e_q_half (xr a d S i).1) (e_q_carry (xr a d S i).1) (e_q_enabled (xr a d S i).1) (e_q_soon (xr a d S i).1) (e_q_ram (xr a d S i).1) (e_q_low (xr a d S i).1) (e_q_top (xr a d S i).1) (e_q_mode (xr a d S i).1) (e_q_state (xr a d S i).1) (e_q_sent (xr a d S i).1) (e_q_out (xr a d S i).1) → wp_Q_run_20 l (e_q_banks S) P (d + 1) qc (e_q_memory S) (e_q_register S) (e_q_stack S) (e_q_place S) (e_q_zero S) (e_q_less S) (e_q_half S) (e_q_carry S) (e_q_enabled S) (e_q_soon S) (e_q_ram S) (e_q_low S) (e_q_top S) (e_q_mode S) (e_q_state S) (e_q_sent S) (e_q_out S) a (nI i) := by
  intro d
  induction d with
  | zero =>
    intro i S hi hS hL hc hP
    unfold wp_Q_run_20
    exact ⟨fun _ => hP, fun _ => ⟨fun _ => hP, fun h => absurd ((geN (k := 2000) rfl (by omega) (by omega)).mpr (by omega)) h⟩⟩
  | succ d ih =>
    intro i S hi hS hL hc hP
    unfold wp_Q_run_20
    unfold xr at hP
    refine ⟨fun h => ?_, fun h => ⟨fun h2 => absurd ((geN (k := 2000) rfl (by omega) (by omega)).mp h2) (by omega), fun _ => ?_⟩⟩
    · rw [if_pos h] at hP; exact hP
    · rw [if_neg h] at hP
      have h4 := okco hS
      refine bI2 (geN (k := 2) rfl (by omega) (by omega)) (fun g => ?_) (fun g => ?_)
      · rw [if_neg (by omega)] at hP; exact hP
      · rw [if_pos (by omega)] at hP
        refine sp_Q_step hS hL (by omega) ?_
        rw [nI_1]
        have hk := ih (i + 1) (xstep S) (by omega) (ok_xstep hS) (ln_ hL (kp_xstep_bk S)) (by have := sc_xstep (S := S); omega) hP
        rw [show e_q_banks (xstep S) = e_q_banks S by unfold e_q_banks; rw [kp_xstep_bk]] at hk
        exact hk
/-! beginning -/
def zl (f : Nat → Int32) (n : Nat) : Nat → Int32 := fun j => if j < n then 0 else f j
theorem zl_0 (f : Nat → Int32) : zl f 0 = f := by funext j; unfold zl; rw [if_neg (by omega)]
theorem zl_s (f : Nat → Int32) (n : Nat) : upd (zl f n) n 0 = zl f (n + 1) := by
  funext j
  unfold upd zl
  by_cases h : j = n
  · rw [if_pos h, if_pos (by omega)]
  · rw [if_neg h]
    by_cases h2 : j < n
    · rw [if_pos h2, if_pos (by omega)]
    · rw [if_neg h2, if_neg (by omega)]
theorem zl_f {f : Nat → Nat} {n : Nat} : (fun j => nI (if j < n then 0 else f j)) = zl (fun j => nI (f j)) n := by
  funext j
  unfold zl
  by_cases h : j < n
  · rw [if_pos h, if_pos h]; rfl
  · rw [if_neg h, if_neg h]
theorem mb26 {P : (Nat → Int32) → (Nat → Int32) → Int32 → Int32 → Int32 → Int32 → Int32 → Int32 → Prop} {ra up : Nat → Int32} {o l h m a i : Int32} (hP : P ra (zl up 62) 0 1 0 0 0 0) : ∀ d n, n + d = 62 → wp_M_begin_26 P (d + 1) ra (zl up n) o l h m a i (nI n) := by
  intro d
  induction d with
  | zero =>
    intro n hn
    have : n = 62 := by omega
    subst this
    unfold wp_M_begin_26
    exact ⟨fun _ => hP, fun h => absurd (by decide) h⟩
  | succ d ih =>
    intro n hn
    unfold wp_M_begin_26
    refine ⟨fun h => absurd ((geN (k := 62) rfl (by omega) (by omega)).mp h) (by omega), fun _ => ⟨vin (by omega) (by omega), ?_⟩⟩
    rw [clN (by omega), zl_s, nI_1]
    exact ih (n + 1) (by omega)
theorem mb2 {P : (Nat → Int32) → (Nat → Int32) → Int32 → Int32 → Int32 → Int32 → Int32 → Int32 → Prop} {ra up : Nat → Int32} {o l h m a i : Int32} (hP : P (zl ra 128) (zl up 62) 0 1 0 0 0 0) : ∀ d n, n + d = 128 → wp_M_begin_2 P (d + 1) (zl ra n) up o l h m a i (nI n) := by
  intro d
  induction d with
  | zero =>
    intro n hn
    have : n = 128 := by omega
    subst this
    unfold wp_M_begin_2
    refine ⟨fun _ => ⟨63, ?_⟩, fun h => absurd (by decide) h⟩
    have h := mb26 (o := o) (l := l) (h := h) (m := m) (a := a) (i := i) hP 62 0 (by omega)
    rw [zl_0] at h
    exact h
  | succ d ih =>
    intro n hn
    unfold wp_M_begin_2
    refine ⟨fun h => absurd ((geN (k := 128) rfl (by omega) (by omega)).mp h) (by omega), fun _ => ⟨vin (by omega) (by omega), ?_⟩⟩
    rw [clN (by omega), zl_s, nI_1]
    exact ih (n + 1) (by omega)
theorem nb2 {P : (Nat → Int32) → (Nat → Int32) → Int32 → Int32 → Int32 → Int32 → Int32 → Int32 → (Nat → Int32) → Int32 → Int32 → Int32 → Int32 → Int32 → Int32 → Int32 → Int32 → Int32 → Int32 → Prop} {m_ra : Nat → Int32} {m_up : Nat → Int32} {m_on : Int32} {m_lo : Int32} {m_hi : Int32} {m_mo : Int32} {m_ma : Int32} {m_li : Int32} {n_rg : Nat → Int32} {n_st : Int32} {n_pl : Int32} {n_z : Int32} {n_n : Int32} {n_h : Int32} {n_c : Int32} {n_en : Int32} {n_so : Int32} {n_co : Int32} {n_sc : Int32} (hP : P (zl m_ra 128) (zl m_up 62) 0 1 0 0 0 0 (zl n_rg 8) 240 0 0 0 0 0 0 0 0 0) : ∀ d n, n + d = 8 → wp_N_begin_2 P (d + 1) m_ra m_up m_on m_lo m_hi m_mo m_ma m_li (zl n_rg n) n_st n_pl n_z n_n n_h n_c n_en n_so n_co n_sc (nI n) := by
  intro d
  induction d with
  | zero =>
    intro n hn
    have : n = 8 := by omega
    subst this
    unfold wp_N_begin_2
    refine ⟨fun _ => sp_N_setFlags (by decide) (by decide) (by decide) (by decide) ⟨129, ?_⟩, fun h => absurd (by decide) h⟩
    have h := mb2 (P := fun w5 w6 w7 w8 w9 w10 w11 w12 => P w5 w6 w7 w8 w9 w10 w11 w12 (zl n_rg 8) 240 0 0 0 0 0 0 0 0 0) (o := m_on) (l := m_lo) (h := m_hi) (m := m_mo) (a := m_ma) (i := m_li) hP 128 0 (by omega)
    rw [zl_0] at h
    exact h
  | succ d ih =>
    intro n hn
    unfold wp_N_begin_2
    refine ⟨fun h => absurd ((geN (k := 8) rfl (by omega) (by omega)).mp h) (by omega), fun _ => ⟨vin (by omega) (by omega), ?_⟩⟩
    rw [clN (by omega), zl_s, nI_1]
    exact ih (n + 1) (by omega)
theorem xb_ra (S : St) : e_m_ra (xbegin S) = zl (e_m_ra S) 128 := by unfold e_m_ra xbegin ra_; exact zl_f
theorem xb_up (S : St) : e_m_up (xbegin S) = zl (e_m_up S) 62 := by unfold e_m_up xbegin up_; exact zl_f
theorem xb_rg (S : St) : e_n_rg (xbegin S) = zl (e_n_rg S) 8 := by unfold e_n_rg xbegin rg_; exact zl_f
theorem xb_qr (S : St) : e_q_register (xbegin S) = zl (e_q_register S) 8 := by unfold e_q_register xbegin rg_; exact zl_f
theorem sp_N_begin {S : St} {P : (Nat → Int32) → (Nat → Int32) → Int32 → Int32 → Int32 → Int32 → Int32 → Int32 → (Nat → Int32) → Int32 → Int32 → Int32 → Int32 → Int32 → Int32 → Int32 → Int32 → Int32 → Int32 → Prop} {m_on : Int32} {m_lo : Int32} {m_hi : Int32} {m_mo : Int32} {m_ma : Int32} {m_li : Int32} {n_st : Int32} {n_pl : Int32} {n_z : Int32} {n_n : Int32} {n_h : Int32} {n_c : Int32} {n_en : Int32} {n_so : Int32} {n_co : Int32} {n_sc : Int32} (hP : P (e_m_ra (xbegin S)) (e_m_up (xbegin S)) (e_m_on (xbegin S)) (e_m_lo (xbegin S)) (e_m_hi (xbegin S)) (e_m_mo (xbegin S)) (e_m_ma (xbegin S)) (e_m_li (xbegin S)) (e_n_rg (xbegin S)) (e_n_st (xbegin S)) (e_n_pl (xbegin S)) (e_n_z (xbegin S)) (e_n_n (xbegin S)) (e_n_h (xbegin S)) (e_n_c (xbegin S)) (e_n_en (xbegin S)) (e_n_so (xbegin S)) (e_n_co (xbegin S)) (e_n_sc (xbegin S))) : wp_N_begin (e_m_ra S) (e_m_up S) m_on m_lo m_hi m_mo m_ma m_li (e_n_rg S) n_st n_pl n_z n_n n_h n_c n_en n_so n_co n_sc P := by
  rw [xb_ra, xb_up, xb_rg] at hP
  have h := nb2 (P := P) (m_on := m_on) (m_lo := m_lo) (m_hi := m_hi) (m_mo := m_mo) (m_ma := m_ma) (m_li := m_li) (n_st := n_st) (n_pl := n_pl) (n_z := n_z) (n_n := n_n) (n_h := n_h) (n_c := n_c) (n_en := n_en) (n_so := n_so) (n_co := n_co) (n_sc := n_sc) hP 8 0 (by omega)
  rw [zl_0] at h
  exact ⟨9, h⟩
def zm (f : Nat → Int32) (i : Nat) : Nat → Int32 := fun j => if 512 ≤ j ∧ j < i then (if j = 704 then 255 else 0) else f j
theorem zm_0 (f : Nat → Int32) : zm f 512 = f := by funext j; unfold zm; rw [if_neg (by omega)]
theorem zm_s (f : Nat → Int32) {n : Nat} {x : Int32} (h5 : 512 ≤ n) (hx : x = if n = 704 then 255 else 0) : upd (zm f n) n x = zm f (n + 1) := by
  funext j
  unfold upd zm
  by_cases h : j = n
  · subst h
    rw [if_pos rfl, if_pos (by omega)]; exact hx
  · rw [if_neg h]
    by_cases h2 : 512 ≤ j ∧ j < n
    · rw [if_pos h2, if_pos (show 512 ≤ j ∧ j < n + 1 by omega)]
    · rw [if_neg h2, if_neg (show ¬ (512 ≤ j ∧ j < n + 1) by omega)]
theorem qb39 {P : (Nat → Int32) → (Nat → Int32) → Int32 → Int32 → Int32 → Int32 → Int32 → Int32 → Int32 → Int32 → Int32 → Int32 → Int32 → Int32 → Int32 → Int32 → Prop} {q_memory : Nat → Int32} {q_register : Nat → Int32} {q_stack : Int32} {q_place : Int32} {q_zero : Int32} {q_less : Int32} {q_half : Int32} {q_carry : Int32} {q_enabled : Int32} {q_soon : Int32} {q_ram : Int32} {q_low : Int32} {q_top : Int32} {q_mode : Int32} {q_state : Int32} {q_sent : Int32} (hP : P q_memory (zl q_register 8) 240 0 0 0 0 0 0 0 0 1 0 0 0 0) : ∀ d n, n + d = 8 → wp_Q_begin_39 P (d + 1) q_memory (zl q_register n) q_stack q_place q_zero q_less q_half q_carry q_enabled q_soon q_ram q_low q_top q_mode q_state q_sent (nI n) := by
  intro d
  induction d with
  | zero =>
    intro n hn
    have : n = 8 := by omega
    subst this
    unfold wp_Q_begin_39
    exact ⟨fun _ => hP, fun h => absurd (by decide) h⟩
  | succ d ih =>
    intro n hn
    unfold wp_Q_begin_39
    refine ⟨fun h => absurd ((geN (k := 8) rfl (by omega) (by omega)).mp h) (by omega), fun _ => ⟨vin (by omega) (by omega), ?_⟩⟩
    rw [clN (by omega), zl_s, nI_1]
    exact ih (n + 1) (by omega)
theorem qb4 {P : (Nat → Int32) → (Nat → Int32) → Int32 → Int32 → Int32 → Int32 → Int32 → Int32 → Int32 → Int32 → Int32 → Int32 → Int32 → Int32 → Int32 → Int32 → Prop} {q_memory : Nat → Int32} {q_register : Nat → Int32} {q_stack : Int32} {q_place : Int32} {q_zero : Int32} {q_less : Int32} {q_half : Int32} {q_carry : Int32} {q_enabled : Int32} {q_soon : Int32} {q_ram : Int32} {q_low : Int32} {q_top : Int32} {q_mode : Int32} {q_state : Int32} {q_sent : Int32} (hP : P (zm q_memory 705) (zl q_register 8) 240 0 0 0 0 0 0 0 0 1 0 0 0 0) : ∀ d n, n + d = 705 → 512 ≤ n → wp_Q_begin_4 P (d + 1) (zm q_memory n) q_register q_stack q_place q_zero q_less q_half q_carry q_enabled q_soon q_ram q_low q_top q_mode q_state q_sent (nI n) := by
  intro d
  induction d with
  | zero =>
    intro n hn h5
    have : n = 705 := by omega
    subst this
    unfold wp_Q_begin_4
    refine ⟨fun _ => ⟨9, ?_⟩, fun h => absurd (by decide) h⟩
    have h := qb39 (P := P) (q_stack := q_stack) (q_place := q_place) (q_zero := q_zero) (q_less := q_less) (q_half := q_half) (q_carry := q_carry) (q_enabled := q_enabled) (q_soon := q_soon) (q_ram := q_ram) (q_low := q_low) (q_top := q_top) (q_mode := q_mode) (q_state := q_state) (q_sent := q_sent) hP 8 0 (by omega)
    rw [zl_0] at h
    exact h
  | succ d ih =>
    intro n hn h5
    unfold wp_Q_begin_4
    refine ⟨fun h => absurd ((geN (k := 705) rfl (by omega) (by omega)).mp h) (by omega), fun _ => bN2 (eqN (k := 704) rfl (by omega) (by omega)) (fun g => ⟨vin (by omega) (by omega), ?_⟩) (fun g => ⟨vin (by omega) (by omega), ?_⟩)⟩
    · rw [clN (by omega), zm_s _ h5 (by rw [if_neg g]), nI_1]
      exact ih (n + 1) (by omega) (by omega)
    · rw [clN (by omega), zm_s _ h5 (by rw [if_pos g]), nI_1]
      exact ih (n + 1) (by omega) (by omega)
theorem xbg_im (S : St) : im_ (xbegin S) = im_ S := (rfl)
theorem xbg_bk (S : St) : bk_ (xbegin S) = bk_ S := (rfl)
theorem xbg_ra (S : St) : ra_ (xbegin S) = fun j => if j < 128 then 0 else ra_ S j := (rfl)
theorem xbg_up (S : St) : up_ (xbegin S) = fun j => if j < 62 then 0 else up_ S j := (rfl)
theorem xbg_ma (S : St) : ma_ (xbegin S) = 0 := (rfl)
theorem xbg_li (S : St) : li_ (xbegin S) = 0 := (rfl)
theorem xbg_sc (S : St) : sc_ (xbegin S) = 0 := (rfl)
theorem xbg_sb (S : St) : sb_ (xbegin S) = sb_ S := (rfl)
theorem xb_mm {S : St} {f : Nat → Int32} (hf : ∀ j, j < 512 ∨ 705 ≤ j → f j = e_q_memory S j) : e_q_memory (xbegin S) = zm f 705 := by
  funext j
  have e : e_q_memory (xbegin S) j = nI (if j < 512 then im_ S j else if j < 640 then (if j - 512 < 128 then 0 else ra_ S (j - 512)) else if j < 702 then (if j - 640 < 62 then 0 else up_ S (j - 640)) else if j = 702 then 0 else if j = 703 then 0 else if j = 704 then 255 else 0) := by
    unfold e_q_memory mm_
    rw [xbg_im, xbg_ra, xbg_up, xbg_ma, xbg_li]
  have e2 : e_q_memory S j = nI (mm_ S j) := rfl
  rw [e]
  unfold zm
  by_cases h1 : j < 512
  · rw [if_pos h1, if_neg (by omega), hf j (Or.inl h1), e2]
    unfold mm_
    rw [if_pos h1]
  · rw [if_neg h1]
    by_cases h2 : j < 640
    · rw [if_pos h2, if_pos (by omega), if_pos (by omega), if_neg (by omega)]; rfl
    · rw [if_neg h2]
      by_cases h3 : j < 702
      · rw [if_pos h3, if_pos (by omega), if_pos (by omega), if_neg (by omega)]; rfl
      · rw [if_neg h3]
        by_cases h4 : j = 702
        · rw [if_pos h4, if_pos (by omega), if_neg (by omega)]; rfl
        · rw [if_neg h4]
          by_cases h5 : j = 703
          · rw [if_pos h5, if_pos (by omega), if_neg (by omega)]; rfl
          · rw [if_neg h5]
            by_cases h6 : j = 704
            · rw [if_pos h6, if_pos (by omega), if_pos h6]; rfl
            · rw [if_neg h6, if_neg (by omega), hf j (Or.inr (by omega)), e2]
              unfold mm_
              rw [if_neg h1, if_neg h2, if_neg h3, if_neg h4, if_neg h5, if_neg h6]
theorem sp_Q_begin {S : St} {f : Nat → Int32} (hf : ∀ j, j < 512 ∨ 705 ≤ j → f j = e_q_memory S j) {P : (Nat → Int32) → (Nat → Int32) → Int32 → Int32 → Int32 → Int32 → Int32 → Int32 → Int32 → Int32 → Int32 → Int32 → Int32 → Int32 → Int32 → Int32 → Prop} {q_stack : Int32} {q_place : Int32} {q_zero : Int32} {q_less : Int32} {q_half : Int32} {q_carry : Int32} {q_enabled : Int32} {q_soon : Int32} {q_ram : Int32} {q_low : Int32} {q_top : Int32} {q_mode : Int32} {q_state : Int32} {q_sent : Int32} (hP : P (e_q_memory (xbegin S)) (e_q_register (xbegin S)) (e_q_stack (xbegin S)) (e_q_place (xbegin S)) (e_q_zero (xbegin S)) (e_q_less (xbegin S)) (e_q_half (xbegin S)) (e_q_carry (xbegin S)) (e_q_enabled (xbegin S)) (e_q_soon (xbegin S)) (e_q_ram (xbegin S)) (e_q_low (xbegin S)) (e_q_top (xbegin S)) (e_q_mode (xbegin S)) (e_q_state (xbegin S)) (e_q_sent (xbegin S))) : wp_Q_begin f (e_q_register S) q_stack q_place q_zero q_less q_half q_carry q_enabled q_soon q_ram q_low q_top q_mode q_state q_sent P := by
  rw [xb_mm hf, xb_qr] at hP
  have h := qb4 (P := P) (q_memory := f) (q_register := e_q_register S) (q_stack := q_stack) (q_place := q_place) (q_zero := q_zero) (q_less := q_less) (q_half := q_half) (q_carry := q_carry) (q_enabled := q_enabled) (q_soon := q_soon) (q_ram := q_ram) (q_low := q_low) (q_top := q_top) (q_mode := q_mode) (q_state := q_state) (q_sent := q_sent) hP 193 512 (by omega) (by omega)
  rw [zm_0] at h
  exact ⟨194, h⟩
theorem ok_xbegin {S : St} (hS : okS S) : okS (xbegin S) := by
  obtain ⟨h1, h2, h3, h4, -⟩ := hS
  refine ⟨h1, ?_, ?_, ?_, (by show 1 < 4; decide), (by show 0 < 2; decide), (by show 0 < 2; decide), (by show 0 < 16; decide), (by show 0 < 16; decide), (by show 240 < 256; decide), (by show 0 < 256; decide), (by show 0 < 4; decide)⟩
  · intro j; show (if j < 128 then 0 else ra_ S j) < 256; split
    · decide
    · exact h2 j
  · intro j; show (if j < 62 then 0 else up_ S j) < 256; split
    · decide
    · exact h3 j
  · intro j; show (if j < 8 then 0 else rg_ S j) < 256; split
    · decide
    · exact h4 j
