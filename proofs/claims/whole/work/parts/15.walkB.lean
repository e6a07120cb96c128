/-! the worlds -/
def wB (ad : Nat → Nat) (k_ce : Nat → Int32) (k_bc : Int32) (m_ra m_up : Nat → Int32) (m_on m_lo m_hi m_mo m_ma m_li : Int32) (n_rg n_sb : Nat → Int32) (n_st n_pl n_z n_n n_h n_c n_en n_so n_co n_sc : Int32) : va_W := [(ad 6, .inr (0, [.ref (ad 7), .int k_bc])), (ad 7, .inl (ad 99, 512, .inl k_ce)), (ad 8, .inr (2, [.ref (ad 6), .ref (ad 9), .ref (ad 10), .int m_on, .int m_lo, .int m_hi, .int m_mo, .int m_ma, .int m_li])), (ad 9, .inl (ad 99, 128, .inl m_ra)), (ad 10, .inl (ad 99, 62, .inl m_up)), (ad 11, .inr (1, [.ref (ad 8), .ref (ad 12), .int n_st, .int n_pl, .int n_z, .int n_n, .int n_h, .int n_c, .int n_en, .int n_so, .int n_co, .int n_sc, .ref (ad 13)])), (ad 12, .inl (ad 99, 8, .inl n_rg)), (ad 13, .inl (ad 99, 100, .inl n_sb))]
section WW
variable {G : gt_} {ad : Nat → Nat} {cc : ByteArray} {own : String} {fr lo n cells slots : Nat} {pc : Nat} {lc : List (Nat × Value)} {rest : List Value}
variable {k_ce : Nat → Int32} {k_bc : Int32} {m_ra m_up : Nat → Int32} {m_on m_lo m_hi m_mo m_ma m_li : Int32} {n_rg n_sb : Nat → Int32} {n_st n_pl n_z n_n n_h n_c n_en n_so n_co n_sc : Int32}
theorem gt_M_15B (X : cx_ G ad cc RM fr lo n) (d : decode cc pc = .ok (.getfield 15, 3)) (k : go_ G cells slots (wB ad k_ce k_bc m_ra m_up m_on m_lo m_hi m_mo m_ma m_li n_rg n_sb n_st n_pl n_z n_n n_h n_c n_en n_so n_co n_sc) (pc + 3) lc (.ref (ad 10) :: rest)) : go_ G cells slots (wB ad k_ce k_bc m_ra m_up m_on m_lo m_hi m_mo m_ma m_li n_rg n_sb n_st n_pl n_z n_n n_h n_c n_en n_so n_co n_sc) pc lc (.ref (ad 8) :: rest) := go_get X inM 2 rfl rfl 2 (by decide) (wT1 76 rfl rfl) rfl rfl d k
theorem gt_M_9B (X : cx_ G ad cc RM fr lo n) (d : decode cc pc = .ok (.getfield 9, 3)) (k : go_ G cells slots (wB ad k_ce k_bc m_ra m_up m_on m_lo m_hi m_mo m_ma m_li n_rg n_sb n_st n_pl n_z n_n n_h n_c n_en n_so n_co n_sc) (pc + 3) lc (.ref (ad 9) :: rest)) : go_ G cells slots (wB ad k_ce k_bc m_ra m_up m_on m_lo m_hi m_mo m_ma m_li n_rg n_sb n_st n_pl n_z n_n n_h n_c n_en n_so n_co n_sc) pc lc (.ref (ad 8) :: rest) := go_get X inM 2 rfl rfl 1 (by decide) (wT1 75 rfl rfl) rfl rfl d k
theorem gt_N_18B (X : cx_ G ad cc RN fr lo n) (d : decode cc pc = .ok (.getfield 18, 3)) (k : go_ G cells slots (wB ad k_ce k_bc m_ra m_up m_on m_lo m_hi m_mo m_ma m_li n_rg n_sb n_st n_pl n_z n_n n_h n_c n_en n_so n_co n_sc) (pc + 3) lc (.ref (ad 8) :: rest)) : go_ G cells slots (wB ad k_ce k_bc m_ra m_up m_on m_lo m_hi m_mo m_ma m_li n_rg n_sb n_st n_pl n_z n_n n_h n_c n_en n_so n_co n_sc) pc lc (.ref (ad 11) :: rest) := go_get X inN 5 rfl rfl 0 (by decide) (wT1 122 rfl rfl) rfl rfl d k
theorem gt_N_9B (X : cx_ G ad cc RN fr lo n) (d : decode cc pc = .ok (.getfield 9, 3)) (k : go_ G cells slots (wB ad k_ce k_bc m_ra m_up m_on m_lo m_hi m_mo m_ma m_li n_rg n_sb n_st n_pl n_z n_n n_h n_c n_en n_so n_co n_sc) (pc + 3) lc (.ref (ad 12) :: rest)) : go_ G cells slots (wB ad k_ce k_bc m_ra m_up m_on m_lo m_hi m_mo m_ma m_li n_rg n_sb n_st n_pl n_z n_n n_h n_c n_en n_so n_co n_sc) pc lc (.ref (ad 11) :: rest) := go_get X inN 5 rfl rfl 1 (by decide) (wT1 123 rfl rfl) rfl rfl d k
theorem pt_M_22B (X : cx_ G ad cc RM fr lo n) {x : Int32} (hz : x = 0 ∨ x = 1) (d : decode cc pc = .ok (.putfield 22, 3)) (k : go_ G cells slots (wB ad k_ce k_bc m_ra m_up x m_lo m_hi m_mo m_ma m_li n_rg n_sb n_st n_pl n_z n_n n_h n_c n_en n_so n_co n_sc) (pc + 3) lc rest) : go_ G cells slots (wB ad k_ce k_bc m_ra m_up m_on m_lo m_hi m_mo m_ma m_li n_rg n_sb n_st n_pl n_z n_n n_h n_c n_en n_so n_co n_sc) pc lc (.int x :: .ref (ad 8) :: rest) := go_put (ws' := (wB ad k_ce k_bc m_ra m_up x m_lo m_hi m_mo m_ma m_li n_rg n_sb n_st n_pl n_z n_n n_h n_c n_en n_so n_co n_sc)) X inM tM tM_ok nM_ok 2 rfl rfl 3 (by decide) (wT1 77 rfl rfl) rfl rfl (ty := .boolean) (by decide +kernel) (by rcases hz with rfl | rfl <;> rfl) (by rcases hz with rfl | rfl <;> rfl) (Nat.le_of_ble_eq_true rfl) rfl d k
theorem pt_M_26B (X : cx_ G ad cc RM fr lo n) {x : Int32} (d : decode cc pc = .ok (.putfield 26, 3)) (k : go_ G cells slots (wB ad k_ce k_bc m_ra m_up m_on x m_hi m_mo m_ma m_li n_rg n_sb n_st n_pl n_z n_n n_h n_c n_en n_so n_co n_sc) (pc + 3) lc rest) : go_ G cells slots (wB ad k_ce k_bc m_ra m_up m_on m_lo m_hi m_mo m_ma m_li n_rg n_sb n_st n_pl n_z n_n n_h n_c n_en n_so n_co n_sc) pc lc (.int x :: .ref (ad 8) :: rest) := go_put (ws' := (wB ad k_ce k_bc m_ra m_up m_on x m_hi m_mo m_ma m_li n_rg n_sb n_st n_pl n_z n_n n_h n_c n_en n_so n_co n_sc)) X inM tM tM_ok nM_ok 2 rfl rfl 4 (by decide) (wT1 78 rfl rfl) rfl rfl (ty := .int) (by decide +kernel) rfl rfl (Nat.le_of_ble_eq_true rfl) rfl d k
theorem pt_M_30B (X : cx_ G ad cc RM fr lo n) {x : Int32} (d : decode cc pc = .ok (.putfield 30, 3)) (k : go_ G cells slots (wB ad k_ce k_bc m_ra m_up m_on m_lo x m_mo m_ma m_li n_rg n_sb n_st n_pl n_z n_n n_h n_c n_en n_so n_co n_sc) (pc + 3) lc rest) : go_ G cells slots (wB ad k_ce k_bc m_ra m_up m_on m_lo m_hi m_mo m_ma m_li n_rg n_sb n_st n_pl n_z n_n n_h n_c n_en n_so n_co n_sc) pc lc (.int x :: .ref (ad 8) :: rest) := go_put (ws' := (wB ad k_ce k_bc m_ra m_up m_on m_lo x m_mo m_ma m_li n_rg n_sb n_st n_pl n_z n_n n_h n_c n_en n_so n_co n_sc)) X inM tM tM_ok nM_ok 2 rfl rfl 5 (by decide) (wT1 79 rfl rfl) rfl rfl (ty := .int) (by decide +kernel) rfl rfl (Nat.le_of_ble_eq_true rfl) rfl d k
theorem pt_M_33B (X : cx_ G ad cc RM fr lo n) {x : Int32} (d : decode cc pc = .ok (.putfield 33, 3)) (k : go_ G cells slots (wB ad k_ce k_bc m_ra m_up m_on m_lo m_hi x m_ma m_li n_rg n_sb n_st n_pl n_z n_n n_h n_c n_en n_so n_co n_sc) (pc + 3) lc rest) : go_ G cells slots (wB ad k_ce k_bc m_ra m_up m_on m_lo m_hi m_mo m_ma m_li n_rg n_sb n_st n_pl n_z n_n n_h n_c n_en n_so n_co n_sc) pc lc (.int x :: .ref (ad 8) :: rest) := go_put (ws' := (wB ad k_ce k_bc m_ra m_up m_on m_lo m_hi x m_ma m_li n_rg n_sb n_st n_pl n_z n_n n_h n_c n_en n_so n_co n_sc)) X inM tM tM_ok nM_ok 2 rfl rfl 6 (by decide) (wT1 80 rfl rfl) rfl rfl (ty := .int) (by decide +kernel) rfl rfl (Nat.le_of_ble_eq_true rfl) rfl d k
theorem pt_M_36B (X : cx_ G ad cc RM fr lo n) {x : Int32} (d : decode cc pc = .ok (.putfield 36, 3)) (k : go_ G cells slots (wB ad k_ce k_bc m_ra m_up m_on m_lo m_hi m_mo x m_li n_rg n_sb n_st n_pl n_z n_n n_h n_c n_en n_so n_co n_sc) (pc + 3) lc rest) : go_ G cells slots (wB ad k_ce k_bc m_ra m_up m_on m_lo m_hi m_mo m_ma m_li n_rg n_sb n_st n_pl n_z n_n n_h n_c n_en n_so n_co n_sc) pc lc (.int x :: .ref (ad 8) :: rest) := go_put (ws' := (wB ad k_ce k_bc m_ra m_up m_on m_lo m_hi m_mo x m_li n_rg n_sb n_st n_pl n_z n_n n_h n_c n_en n_so n_co n_sc)) X inM tM tM_ok nM_ok 2 rfl rfl 7 (by decide) (wT1 81 rfl rfl) rfl rfl (ty := .int) (by decide +kernel) rfl rfl (Nat.le_of_ble_eq_true rfl) rfl d k
theorem pt_M_39B (X : cx_ G ad cc RM fr lo n) {x : Int32} (d : decode cc pc = .ok (.putfield 39, 3)) (k : go_ G cells slots (wB ad k_ce k_bc m_ra m_up m_on m_lo m_hi m_mo m_ma x n_rg n_sb n_st n_pl n_z n_n n_h n_c n_en n_so n_co n_sc) (pc + 3) lc rest) : go_ G cells slots (wB ad k_ce k_bc m_ra m_up m_on m_lo m_hi m_mo m_ma m_li n_rg n_sb n_st n_pl n_z n_n n_h n_c n_en n_so n_co n_sc) pc lc (.int x :: .ref (ad 8) :: rest) := go_put (ws' := (wB ad k_ce k_bc m_ra m_up m_on m_lo m_hi m_mo m_ma x n_rg n_sb n_st n_pl n_z n_n n_h n_c n_en n_so n_co n_sc)) X inM tM tM_ok nM_ok 2 rfl rfl 8 (by decide) (wT1 82 rfl rfl) rfl rfl (ty := .int) (by decide +kernel) rfl rfl (Nat.le_of_ble_eq_true rfl) rfl d k
theorem pt_N_128B (X : cx_ G ad cc RN fr lo n) {x : Int32} (hz : x = 0 ∨ x = 1) (d : decode cc pc = .ok (.putfield 128, 3)) (k : go_ G cells slots (wB ad k_ce k_bc m_ra m_up m_on m_lo m_hi m_mo m_ma m_li n_rg n_sb n_st n_pl n_z n_n n_h x n_en n_so n_co n_sc) (pc + 3) lc rest) : go_ G cells slots (wB ad k_ce k_bc m_ra m_up m_on m_lo m_hi m_mo m_ma m_li n_rg n_sb n_st n_pl n_z n_n n_h n_c n_en n_so n_co n_sc) pc lc (.int x :: .ref (ad 11) :: rest) := go_put (ws' := (wB ad k_ce k_bc m_ra m_up m_on m_lo m_hi m_mo m_ma m_li n_rg n_sb n_st n_pl n_z n_n n_h x n_en n_so n_co n_sc)) X inN tN tN_ok nN_ok 5 rfl rfl 7 (by decide) (wT1 129 rfl rfl) rfl rfl (ty := .boolean) (by decide +kernel) (by rcases hz with rfl | rfl <;> rfl) (by rcases hz with rfl | rfl <;> rfl) (Nat.le_of_ble_eq_true rfl) rfl d k
theorem pt_N_25B (X : cx_ G ad cc RN fr lo n) {x : Int32} (d : decode cc pc = .ok (.putfield 25, 3)) (k : go_ G cells slots (wB ad k_ce k_bc m_ra m_up m_on m_lo m_hi m_mo m_ma m_li n_rg n_sb x n_pl n_z n_n n_h n_c n_en n_so n_co n_sc) (pc + 3) lc rest) : go_ G cells slots (wB ad k_ce k_bc m_ra m_up m_on m_lo m_hi m_mo m_ma m_li n_rg n_sb n_st n_pl n_z n_n n_h n_c n_en n_so n_co n_sc) pc lc (.int x :: .ref (ad 11) :: rest) := go_put (ws' := (wB ad k_ce k_bc m_ra m_up m_on m_lo m_hi m_mo m_ma m_li n_rg n_sb x n_pl n_z n_n n_h n_c n_en n_so n_co n_sc)) X inN tN tN_ok nN_ok 5 rfl rfl 2 (by decide) (wT1 124 rfl rfl) rfl rfl (ty := .int) (by decide +kernel) rfl rfl (Nat.le_of_ble_eq_true rfl) rfl d k
theorem pt_N_29B (X : cx_ G ad cc RN fr lo n) {x : Int32} (d : decode cc pc = .ok (.putfield 29, 3)) (k : go_ G cells slots (wB ad k_ce k_bc m_ra m_up m_on m_lo m_hi m_mo m_ma m_li n_rg n_sb n_st x n_z n_n n_h n_c n_en n_so n_co n_sc) (pc + 3) lc rest) : go_ G cells slots (wB ad k_ce k_bc m_ra m_up m_on m_lo m_hi m_mo m_ma m_li n_rg n_sb n_st n_pl n_z n_n n_h n_c n_en n_so n_co n_sc) pc lc (.int x :: .ref (ad 11) :: rest) := go_put (ws' := (wB ad k_ce k_bc m_ra m_up m_on m_lo m_hi m_mo m_ma m_li n_rg n_sb n_st x n_z n_n n_h n_c n_en n_so n_co n_sc)) X inN tN tN_ok nN_ok 5 rfl rfl 3 (by decide) (wT1 125 rfl rfl) rfl rfl (ty := .int) (by decide +kernel) rfl rfl (Nat.le_of_ble_eq_true rfl) rfl d k
theorem pt_N_36B (X : cx_ G ad cc RN fr lo n) {x : Int32} (hz : x = 0 ∨ x = 1) (d : decode cc pc = .ok (.putfield 36, 3)) (k : go_ G cells slots (wB ad k_ce k_bc m_ra m_up m_on m_lo m_hi m_mo m_ma m_li n_rg n_sb n_st n_pl n_z n_n n_h n_c x n_so n_co n_sc) (pc + 3) lc rest) : go_ G cells slots (wB ad k_ce k_bc m_ra m_up m_on m_lo m_hi m_mo m_ma m_li n_rg n_sb n_st n_pl n_z n_n n_h n_c n_en n_so n_co n_sc) pc lc (.int x :: .ref (ad 11) :: rest) := go_put (ws' := (wB ad k_ce k_bc m_ra m_up m_on m_lo m_hi m_mo m_ma m_li n_rg n_sb n_st n_pl n_z n_n n_h n_c x n_so n_co n_sc)) X inN tN tN_ok nN_ok 5 rfl rfl 8 (by decide) (wT1 130 rfl rfl) rfl rfl (ty := .boolean) (by decide +kernel) (by rcases hz with rfl | rfl <;> rfl) (by rcases hz with rfl | rfl <;> rfl) (Nat.le_of_ble_eq_true rfl) rfl d k
theorem pt_N_40B (X : cx_ G ad cc RN fr lo n) {x : Int32} (hz : x = 0 ∨ x = 1) (d : decode cc pc = .ok (.putfield 40, 3)) (k : go_ G cells slots (wB ad k_ce k_bc m_ra m_up m_on m_lo m_hi m_mo m_ma m_li n_rg n_sb n_st n_pl n_z n_n n_h n_c n_en x n_co n_sc) (pc + 3) lc rest) : go_ G cells slots (wB ad k_ce k_bc m_ra m_up m_on m_lo m_hi m_mo m_ma m_li n_rg n_sb n_st n_pl n_z n_n n_h n_c n_en n_so n_co n_sc) pc lc (.int x :: .ref (ad 11) :: rest) := go_put (ws' := (wB ad k_ce k_bc m_ra m_up m_on m_lo m_hi m_mo m_ma m_li n_rg n_sb n_st n_pl n_z n_n n_h n_c n_en x n_co n_sc)) X inN tN tN_ok nN_ok 5 rfl rfl 9 (by decide) (wT1 131 rfl rfl) rfl rfl (ty := .boolean) (by decide +kernel) (by rcases hz with rfl | rfl <;> rfl) (by rcases hz with rfl | rfl <;> rfl) (Nat.le_of_ble_eq_true rfl) rfl d k
theorem pt_N_43B (X : cx_ G ad cc RN fr lo n) {x : Int32} (d : decode cc pc = .ok (.putfield 43, 3)) (k : go_ G cells slots (wB ad k_ce k_bc m_ra m_up m_on m_lo m_hi m_mo m_ma m_li n_rg n_sb n_st n_pl n_z n_n n_h n_c n_en n_so x n_sc) (pc + 3) lc rest) : go_ G cells slots (wB ad k_ce k_bc m_ra m_up m_on m_lo m_hi m_mo m_ma m_li n_rg n_sb n_st n_pl n_z n_n n_h n_c n_en n_so n_co n_sc) pc lc (.int x :: .ref (ad 11) :: rest) := go_put (ws' := (wB ad k_ce k_bc m_ra m_up m_on m_lo m_hi m_mo m_ma m_li n_rg n_sb n_st n_pl n_z n_n n_h n_c n_en n_so x n_sc)) X inN tN tN_ok nN_ok 5 rfl rfl 10 (by decide) (wT1 132 rfl rfl) rfl rfl (ty := .int) (by decide +kernel) rfl rfl (Nat.le_of_ble_eq_true rfl) rfl d k
theorem pt_N_46B (X : cx_ G ad cc RN fr lo n) {x : Int32} (d : decode cc pc = .ok (.putfield 46, 3)) (k : go_ G cells slots (wB ad k_ce k_bc m_ra m_up m_on m_lo m_hi m_mo m_ma m_li n_rg n_sb n_st n_pl n_z n_n n_h n_c n_en n_so n_co x) (pc + 3) lc rest) : go_ G cells slots (wB ad k_ce k_bc m_ra m_up m_on m_lo m_hi m_mo m_ma m_li n_rg n_sb n_st n_pl n_z n_n n_h n_c n_en n_so n_co n_sc) pc lc (.int x :: .ref (ad 11) :: rest) := go_put (ws' := (wB ad k_ce k_bc m_ra m_up m_on m_lo m_hi m_mo m_ma m_li n_rg n_sb n_st n_pl n_z n_n n_h n_c n_en n_so n_co x)) X inN tN tN_ok nN_ok 5 rfl rfl 11 (by decide) (wT1 134 rfl rfl) rfl rfl (ty := .int) (by decide +kernel) rfl rfl (Nat.le_of_ble_eq_true rfl) rfl d k
theorem pt_N_58B (X : cx_ G ad cc RN fr lo n) {x : Int32} (hz : x = 0 ∨ x = 1) (d : decode cc pc = .ok (.putfield 58, 3)) (k : go_ G cells slots (wB ad k_ce k_bc m_ra m_up m_on m_lo m_hi m_mo m_ma m_li n_rg n_sb n_st n_pl x n_n n_h n_c n_en n_so n_co n_sc) (pc + 3) lc rest) : go_ G cells slots (wB ad k_ce k_bc m_ra m_up m_on m_lo m_hi m_mo m_ma m_li n_rg n_sb n_st n_pl n_z n_n n_h n_c n_en n_so n_co n_sc) pc lc (.int x :: .ref (ad 11) :: rest) := go_put (ws' := (wB ad k_ce k_bc m_ra m_up m_on m_lo m_hi m_mo m_ma m_li n_rg n_sb n_st n_pl x n_n n_h n_c n_en n_so n_co n_sc)) X inN tN tN_ok nN_ok 5 rfl rfl 4 (by decide) (wT1 126 rfl rfl) rfl rfl (ty := .boolean) (by decide +kernel) (by rcases hz with rfl | rfl <;> rfl) (by rcases hz with rfl | rfl <;> rfl) (Nat.le_of_ble_eq_true rfl) rfl d k
theorem pt_N_61B (X : cx_ G ad cc RN fr lo n) {x : Int32} (hz : x = 0 ∨ x = 1) (d : decode cc pc = .ok (.putfield 61, 3)) (k : go_ G cells slots (wB ad k_ce k_bc m_ra m_up m_on m_lo m_hi m_mo m_ma m_li n_rg n_sb n_st n_pl n_z x n_h n_c n_en n_so n_co n_sc) (pc + 3) lc rest) : go_ G cells slots (wB ad k_ce k_bc m_ra m_up m_on m_lo m_hi m_mo m_ma m_li n_rg n_sb n_st n_pl n_z n_n n_h n_c n_en n_so n_co n_sc) pc lc (.int x :: .ref (ad 11) :: rest) := go_put (ws' := (wB ad k_ce k_bc m_ra m_up m_on m_lo m_hi m_mo m_ma m_li n_rg n_sb n_st n_pl n_z x n_h n_c n_en n_so n_co n_sc)) X inN tN tN_ok nN_ok 5 rfl rfl 5 (by decide) (wT1 127 rfl rfl) rfl rfl (ty := .boolean) (by decide +kernel) (by rcases hz with rfl | rfl <;> rfl) (by rcases hz with rfl | rfl <;> rfl) (Nat.le_of_ble_eq_true rfl) rfl d k
theorem pt_N_64B (X : cx_ G ad cc RN fr lo n) {x : Int32} (hz : x = 0 ∨ x = 1) (d : decode cc pc = .ok (.putfield 64, 3)) (k : go_ G cells slots (wB ad k_ce k_bc m_ra m_up m_on m_lo m_hi m_mo m_ma m_li n_rg n_sb n_st n_pl n_z n_n x n_c n_en n_so n_co n_sc) (pc + 3) lc rest) : go_ G cells slots (wB ad k_ce k_bc m_ra m_up m_on m_lo m_hi m_mo m_ma m_li n_rg n_sb n_st n_pl n_z n_n n_h n_c n_en n_so n_co n_sc) pc lc (.int x :: .ref (ad 11) :: rest) := go_put (ws' := (wB ad k_ce k_bc m_ra m_up m_on m_lo m_hi m_mo m_ma m_li n_rg n_sb n_st n_pl n_z n_n x n_c n_en n_so n_co n_sc)) X inN tN tN_ok nN_ok 5 rfl rfl 6 (by decide) (wT1 128 rfl rfl) rfl rfl (ty := .boolean) (by decide +kernel) (by rcases hz with rfl | rfl <;> rfl) (by rcases hz with rfl | rfl <;> rfl) (Nat.le_of_ble_eq_true rfl) rfl d k
theorem ar_k_ceB (X : cx_ G ad cc own fr lo n) {i : Int32} (hin : vp_in i 512) (d : decode cc pc = .ok (.iaload, 1)) (k : go_ G cells slots (wB ad k_ce k_bc m_ra m_up m_on m_lo m_hi m_mo m_ma m_li n_rg n_sb n_st n_pl n_z n_n n_h n_c n_en n_so n_co n_sc) (pc + 1) lc (.int (k_ce i.toNatClampNeg) :: rest)) : go_ G cells slots (wB ad k_ce k_bc m_ra m_up m_on m_lo m_hi m_mo m_ma m_li n_rg n_sb n_st n_pl n_z n_n n_h n_c n_en n_so n_co n_sc) pc lc (.int i :: .ref (ad 7) :: rest) := go_iald X 1 rfl hin d k
theorem as_k_ceB (X : cx_ G ad cc own fr lo n) {i x : Int32} (hin : vp_in i 512) (d : decode cc pc = .ok (.iastore, 1)) (k : go_ G cells slots (wB ad (upd k_ce i.toNatClampNeg x) k_bc m_ra m_up m_on m_lo m_hi m_mo m_ma m_li n_rg n_sb n_st n_pl n_z n_n n_h n_c n_en n_so n_co n_sc) (pc + 1) lc rest) : go_ G cells slots (wB ad k_ce k_bc m_ra m_up m_on m_lo m_hi m_mo m_ma m_li n_rg n_sb n_st n_pl n_z n_n n_h n_c n_en n_so n_co n_sc) pc lc (.int x :: .int i :: .ref (ad 7) :: rest) := go_iast X 1 rfl hin rfl d k
theorem ar_m_raB (X : cx_ G ad cc own fr lo n) {i : Int32} (hin : vp_in i 128) (d : decode cc pc = .ok (.iaload, 1)) (k : go_ G cells slots (wB ad k_ce k_bc m_ra m_up m_on m_lo m_hi m_mo m_ma m_li n_rg n_sb n_st n_pl n_z n_n n_h n_c n_en n_so n_co n_sc) (pc + 1) lc (.int (m_ra i.toNatClampNeg) :: rest)) : go_ G cells slots (wB ad k_ce k_bc m_ra m_up m_on m_lo m_hi m_mo m_ma m_li n_rg n_sb n_st n_pl n_z n_n n_h n_c n_en n_so n_co n_sc) pc lc (.int i :: .ref (ad 9) :: rest) := go_iald X 3 rfl hin d k
theorem as_m_raB (X : cx_ G ad cc own fr lo n) {i x : Int32} (hin : vp_in i 128) (d : decode cc pc = .ok (.iastore, 1)) (k : go_ G cells slots (wB ad k_ce k_bc (upd m_ra i.toNatClampNeg x) m_up m_on m_lo m_hi m_mo m_ma m_li n_rg n_sb n_st n_pl n_z n_n n_h n_c n_en n_so n_co n_sc) (pc + 1) lc rest) : go_ G cells slots (wB ad k_ce k_bc m_ra m_up m_on m_lo m_hi m_mo m_ma m_li n_rg n_sb n_st n_pl n_z n_n n_h n_c n_en n_so n_co n_sc) pc lc (.int x :: .int i :: .ref (ad 9) :: rest) := go_iast X 3 rfl hin rfl d k
theorem ar_m_upB (X : cx_ G ad cc own fr lo n) {i : Int32} (hin : vp_in i 62) (d : decode cc pc = .ok (.iaload, 1)) (k : go_ G cells slots (wB ad k_ce k_bc m_ra m_up m_on m_lo m_hi m_mo m_ma m_li n_rg n_sb n_st n_pl n_z n_n n_h n_c n_en n_so n_co n_sc) (pc + 1) lc (.int (m_up i.toNatClampNeg) :: rest)) : go_ G cells slots (wB ad k_ce k_bc m_ra m_up m_on m_lo m_hi m_mo m_ma m_li n_rg n_sb n_st n_pl n_z n_n n_h n_c n_en n_so n_co n_sc) pc lc (.int i :: .ref (ad 10) :: rest) := go_iald X 4 rfl hin d k
theorem as_m_upB (X : cx_ G ad cc own fr lo n) {i x : Int32} (hin : vp_in i 62) (d : decode cc pc = .ok (.iastore, 1)) (k : go_ G cells slots (wB ad k_ce k_bc m_ra (upd m_up i.toNatClampNeg x) m_on m_lo m_hi m_mo m_ma m_li n_rg n_sb n_st n_pl n_z n_n n_h n_c n_en n_so n_co n_sc) (pc + 1) lc rest) : go_ G cells slots (wB ad k_ce k_bc m_ra m_up m_on m_lo m_hi m_mo m_ma m_li n_rg n_sb n_st n_pl n_z n_n n_h n_c n_en n_so n_co n_sc) pc lc (.int x :: .int i :: .ref (ad 10) :: rest) := go_iast X 4 rfl hin rfl d k
theorem ar_n_rgB (X : cx_ G ad cc own fr lo n) {i : Int32} (hin : vp_in i 8) (d : decode cc pc = .ok (.iaload, 1)) (k : go_ G cells slots (wB ad k_ce k_bc m_ra m_up m_on m_lo m_hi m_mo m_ma m_li n_rg n_sb n_st n_pl n_z n_n n_h n_c n_en n_so n_co n_sc) (pc + 1) lc (.int (n_rg i.toNatClampNeg) :: rest)) : go_ G cells slots (wB ad k_ce k_bc m_ra m_up m_on m_lo m_hi m_mo m_ma m_li n_rg n_sb n_st n_pl n_z n_n n_h n_c n_en n_so n_co n_sc) pc lc (.int i :: .ref (ad 12) :: rest) := go_iald X 6 rfl hin d k
theorem as_n_rgB (X : cx_ G ad cc own fr lo n) {i x : Int32} (hin : vp_in i 8) (d : decode cc pc = .ok (.iastore, 1)) (k : go_ G cells slots (wB ad k_ce k_bc m_ra m_up m_on m_lo m_hi m_mo m_ma m_li (upd n_rg i.toNatClampNeg x) n_sb n_st n_pl n_z n_n n_h n_c n_en n_so n_co n_sc) (pc + 1) lc rest) : go_ G cells slots (wB ad k_ce k_bc m_ra m_up m_on m_lo m_hi m_mo m_ma m_li n_rg n_sb n_st n_pl n_z n_n n_h n_c n_en n_so n_co n_sc) pc lc (.int x :: .int i :: .ref (ad 12) :: rest) := go_iast X 6 rfl hin rfl d k
theorem ar_n_sbB (X : cx_ G ad cc own fr lo n) {i : Int32} (hin : vp_in i 100) (d : decode cc pc = .ok (.iaload, 1)) (k : go_ G cells slots (wB ad k_ce k_bc m_ra m_up m_on m_lo m_hi m_mo m_ma m_li n_rg n_sb n_st n_pl n_z n_n n_h n_c n_en n_so n_co n_sc) (pc + 1) lc (.int (n_sb i.toNatClampNeg) :: rest)) : go_ G cells slots (wB ad k_ce k_bc m_ra m_up m_on m_lo m_hi m_mo m_ma m_li n_rg n_sb n_st n_pl n_z n_n n_h n_c n_en n_so n_co n_sc) pc lc (.int i :: .ref (ad 13) :: rest) := go_iald X 7 rfl hin d k
theorem as_n_sbB (X : cx_ G ad cc own fr lo n) {i x : Int32} (hin : vp_in i 100) (d : decode cc pc = .ok (.iastore, 1)) (k : go_ G cells slots (wB ad k_ce k_bc m_ra m_up m_on m_lo m_hi m_mo m_ma m_li n_rg (upd n_sb i.toNatClampNeg x) n_st n_pl n_z n_n n_h n_c n_en n_so n_co n_sc) (pc + 1) lc rest) : go_ G cells slots (wB ad k_ce k_bc m_ra m_up m_on m_lo m_hi m_mo m_ma m_li n_rg n_sb n_st n_pl n_z n_n n_h n_c n_en n_so n_co n_sc) pc lc (.int x :: .int i :: .ref (ad 13) :: rest) := go_iast X 7 rfl hin rfl d k
end WW
set_option maxRecDepth 100000 in
set_option maxHeartbeats 4000000 in
theorem c_N_setFlagsB {l : Launch} {D : va_G} {ad : Nat → Nat} {k_ce : Nat → Int32} {k_bc : Int32} {m_ra m_up : Nat → Int32} {m_on m_lo m_hi m_mo m_ma m_li : Int32} {n_rg n_sb : Nat → Int32} {n_st n_pl n_z n_n n_h n_c n_en n_so n_co n_sc : Int32} {a1 a2 a3 a4 : Int32} {P : (Int32) → (Int32) → (Int32) → (Int32) → Prop} (hw : wp_N_setFlags n_z n_n n_h n_c a1 a2 a3 a4 P) : ct_ l yN_setFlags bN_setFlags 5 none 0 0 D ad [.ref (ad 11), .int a1, .int a2, .int a3, .int a4] (wB ad k_ce k_bc m_ra m_up m_on m_lo m_hi m_mo m_ma m_li n_rg n_sb n_st n_pl n_z n_n n_h n_c n_en n_so n_co n_sc) (qv_ D (fun (u : (Int32) × (Int32) × (Int32) × (Int32)) => P u.1 u.2.1 u.2.2.1 u.2.2.2) (fun u => wB ad k_ce k_bc m_ra m_up m_on m_lo m_hi m_mo m_ma m_li n_rg n_sb n_st n_pl u.1 u.2.1 u.2.2.1 u.2.2.2 n_en n_so n_co n_sc)) := by
  refine ct_of RN (by decide) rfl (Nat.le_of_ble_eq_true rfl) (fun G hl hD X hq => ?_)
  subst hl hD
  show go_ G 0 0 (wB ad k_ce k_bc m_ra m_up m_on m_lo m_hi m_mo m_ma m_li n_rg n_sb n_st n_pl n_z n_n n_h n_c n_en n_so n_co n_sc) 0 [(0, .ref (ad 11)), (1, .int a1), (2, .int a2), (3, .int a3), (4, .int a4)] []
  refine go_aload_n X 0 dN_setFlags_0 rfl rfl ?_
  refine go_iload_n X 1 dN_setFlags_1 rfl rfl ?_
  have hz := hw.1
  have hw := hw.2
  refine pt_N_58B X hz dN_setFlags_2 ?_
  refine go_aload_n X 0 dN_setFlags_5 rfl rfl ?_
  refine go_iload_n X 2 dN_setFlags_6 rfl rfl ?_
  have hz := hw.1
  have hw := hw.2
  refine pt_N_61B X hz dN_setFlags_7 ?_
  refine go_aload_n X 0 dN_setFlags_10 rfl rfl ?_
  refine go_iload_n X 3 dN_setFlags_11 rfl rfl ?_
  have hz := hw.1
  have hw := hw.2
  refine pt_N_64B X hz dN_setFlags_12 ?_
  refine go_aload_n X 0 dN_setFlags_15 rfl rfl ?_
  refine go_iload X 4 dN_setFlags_16 rfl ?_
  have hz := hw.1
  have hw := hw.2
  refine pt_N_128B X hz dN_setFlags_18 ?_
  exact go_vreturn X hq dN_setFlags_21 (a1, a2, a3, a4) hw rfl
theorem k_N_setFlagsB {G : gt_} {ad : Nat → Nat} {cc : ByteArray} {own : String} {fr lo n cells slots pc index : Nat} {lc : List (Nat × Value)} {rest : List Value} {k_ce : Nat → Int32} {k_bc : Int32} {m_ra m_up : Nat → Int32} {m_on m_lo m_hi m_mo m_ma m_li : Int32} {n_rg n_sb : Nat → Int32} {n_st n_pl n_z n_n n_h n_c n_en n_so n_co n_sc : Int32} {a1 a2 a3 a4 : Int32} {P : (Int32) → (Int32) → (Int32) → (Int32) → Prop} (X : cx_ G ad cc own fr lo n) (hw : wp_N_setFlags n_z n_n n_h n_c a1 a2 a3 a4 P) (m1 : Cond.methodLink own index yN_setFlags ∈ wS) (hlv : 0 + 1 ≤ fr ∧ 8 + (5 + 11) + 0 ≤ lo) (hrs : (rest.map fun v => v.category).sum ≤ 8) (hcs : cells ≤ (gR_ G).cells ∧ slots ≤ (gR_ G).slots) (d : decode cc pc = .ok (.invokevirtual index, 3))
    (kk : ∀ (n_z' n_n' n_h' n_c' : Int32), P n_z' n_n' n_h' n_c' → go_ G cells slots (wB ad k_ce k_bc m_ra m_up m_on m_lo m_hi m_mo m_ma m_li n_rg n_sb n_st n_pl n_z' n_n' n_h' n_c' n_en n_so n_co n_sc) (pc + 3) lc (rest)) : go_ G cells slots (wB ad k_ce k_bc m_ra m_up m_on m_lo m_hi m_mo m_ma m_li n_rg n_sb n_st n_pl n_z n_n n_h n_c n_en n_so n_co n_sc) pc lc (.int a4 :: .int a3 :: .int a2 :: .int a1 :: .ref (ad 11) :: rest) :=
  go_cvv X (c_N_setFlagsB hw) me_N_setFlags m1 hlv 5 rfl rfl rfl hrs hcs d (fun u hp => kk u.1 u.2.1 u.2.2.1 u.2.2.2 hp)
set_option maxRecDepth 100000 in
set_option maxHeartbeats 4000000 in
theorem c_M_beginB {l : Launch} {D : va_G} {ad : Nat → Nat} {k_ce : Nat → Int32} {k_bc : Int32} {m_ra m_up : Nat → Int32} {m_on m_lo m_hi m_mo m_ma m_li : Int32} {n_rg n_sb : Nat → Int32} {n_st n_pl n_z n_n n_h n_c n_en n_so n_co n_sc : Int32}  {P : (Nat → Int32) → (Nat → Int32) → (Int32) → (Int32) → (Int32) → (Int32) → (Int32) → (Int32) → Prop} (hw : wp_M_begin m_ra m_up m_on m_lo m_hi m_mo m_ma m_li  P) : ct_ l yM_begin bM_begin 2 none 0 0 D ad [.ref (ad 8)] (wB ad k_ce k_bc m_ra m_up m_on m_lo m_hi m_mo m_ma m_li n_rg n_sb n_st n_pl n_z n_n n_h n_c n_en n_so n_co n_sc) (qv_ D (fun (u : (Nat → Int32) × (Nat → Int32) × (Int32) × (Int32) × (Int32) × (Int32) × (Int32) × (Int32)) => P u.1 u.2.1 u.2.2.1 u.2.2.2.1 u.2.2.2.2.1 u.2.2.2.2.2.1 u.2.2.2.2.2.2.1 u.2.2.2.2.2.2.2) (fun u => wB ad k_ce k_bc u.1 u.2.1 u.2.2.1 u.2.2.2.1 u.2.2.2.2.1 u.2.2.2.2.2.1 u.2.2.2.2.2.2.1 u.2.2.2.2.2.2.2 n_rg n_sb n_st n_pl n_z n_n n_h n_c n_en n_so n_co n_sc)) := by
  refine ct_of RM (by decide) rfl (Nat.le_of_ble_eq_true rfl) (fun G hl hD X hq => ?_)
  subst hl hD
  show go_ G 0 0 (wB ad k_ce k_bc m_ra m_up m_on m_lo m_hi m_mo m_ma m_li n_rg n_sb n_st n_pl n_z n_n n_h n_c n_en n_so n_co n_sc) 0 [(0, .ref (ad 8))] []
  have C26 : ∀ (n9 : Nat) (m_ra m_up : Nat → Int32) (m_on m_lo m_hi m_mo m_ma m_li x1 : Int32), wp_M_begin_26 P n9 m_ra m_up m_on m_lo m_hi m_mo m_ma m_li x1 → go_ G 0 0 (wB ad k_ce k_bc m_ra m_up m_on m_lo m_hi m_mo m_ma m_li n_rg n_sb n_st n_pl n_z n_n n_h n_c n_en n_so n_co n_sc) 26 [(0, .ref (ad 8)), (1, .int x1)] [] := by
    intro n9
    induction n9 with
    | zero =>
      intro m_ra m_up m_on m_lo m_hi m_mo m_ma m_li x1 hw
      exact False.elim hw
    | succ n9 ih =>
      intro m_ra m_up m_on m_lo m_hi m_mo m_ma m_li x1 hw
      refine go_iload_n X 1 dM_begin_26 rfl rfl ?_
      refine go_aload_n X 0 dM_begin_27 rfl rfl ?_
      refine gt_M_15B X dM_begin_28 ?_
      refine go_alen X 4 rfl al_62 dM_begin_31 ?_
      refine go_icmp_ge X dM_begin_32 rfl (fun hc => ?_) (fun hc => ?_)
      · have hw := hw.1 hc
        refine go_aload_n X 0 dM_begin_48 rfl rfl ?_
        refine go_iconst X dM_begin_49 kc_i0 ?_
        refine pt_M_22B X (Or.inl rfl) dM_begin_50 ?_
        refine go_aload_n X 0 dM_begin_53 rfl rfl ?_
        refine go_iconst X dM_begin_54 kc_i1 ?_
        refine pt_M_26B X dM_begin_55 ?_
        refine go_aload_n X 0 dM_begin_58 rfl rfl ?_
        refine go_iconst X dM_begin_59 kc_i0 ?_
        refine pt_M_30B X dM_begin_60 ?_
        refine go_aload_n X 0 dM_begin_63 rfl rfl ?_
        refine go_iconst X dM_begin_64 kc_i0 ?_
        refine pt_M_33B X dM_begin_65 ?_
        refine go_aload_n X 0 dM_begin_68 rfl rfl ?_
        refine go_iconst X dM_begin_69 kc_i0 ?_
        refine pt_M_36B X dM_begin_70 ?_
        refine go_aload_n X 0 dM_begin_73 rfl rfl ?_
        refine go_iconst X dM_begin_74 kc_i0 ?_
        refine pt_M_39B X dM_begin_75 ?_
        exact go_vreturn X hq dM_begin_78 (m_ra, m_up, (0 : Int32), (1 : Int32), (0 : Int32), (0 : Int32), (0 : Int32), (0 : Int32)) hw rfl
      · have hw := hw.2 hc
        refine go_aload_n X 0 dM_begin_35 rfl rfl ?_
        refine gt_M_15B X dM_begin_36 ?_
        refine go_iload_n X 1 dM_begin_39 rfl rfl ?_
        refine go_iconst X dM_begin_40 kc_i0 ?_
        have hz := hw.1
        have hw := hw.2
        refine as_m_upB X hz dM_begin_41 ?_
        refine go_iinc X 1 dM_begin_42 rfl (ki_1 _) (by decide) rfl ?_
        refine go_goto X dM_begin_45 rfl ?_
        refine go_lc [1, 0] rfl ?_
        exact ih _ _ _ _ _ _ _ _ _ hw
  have C2 : ∀ (n9 : Nat) (m_ra m_up : Nat → Int32) (m_on m_lo m_hi m_mo m_ma m_li x1 : Int32), wp_M_begin_2 P n9 m_ra m_up m_on m_lo m_hi m_mo m_ma m_li x1 → go_ G 0 0 (wB ad k_ce k_bc m_ra m_up m_on m_lo m_hi m_mo m_ma m_li n_rg n_sb n_st n_pl n_z n_n n_h n_c n_en n_so n_co n_sc) 2 [(0, .ref (ad 8)), (1, .int x1)] [] := by
    intro n9
    induction n9 with
    | zero =>
      intro m_ra m_up m_on m_lo m_hi m_mo m_ma m_li x1 hw
      exact False.elim hw
    | succ n9 ih =>
      intro m_ra m_up m_on m_lo m_hi m_mo m_ma m_li x1 hw
      refine go_iload_n X 1 dM_begin_2 rfl rfl ?_
      refine go_aload_n X 0 dM_begin_3 rfl rfl ?_
      refine gt_M_9B X dM_begin_4 ?_
      refine go_alen X 3 rfl al_128 dM_begin_7 ?_
      refine go_icmp_ge X dM_begin_8 rfl (fun hc => ?_) (fun hc => ?_)
      · have hw := hw.1 hc
        refine go_iconst X dM_begin_24 kc_i0 ?_
        refine go_istore_n X dM_begin_25 rfl (by decide) rfl ?_
        refine go_lc [1, 0] rfl ?_
        obtain ⟨j9, hw⟩ := hw
        exact C26 j9 _ _ _ _ _ _ _ _ _ hw
      · have hw := hw.2 hc
        refine go_aload_n X 0 dM_begin_11 rfl rfl ?_
        refine gt_M_9B X dM_begin_12 ?_
        refine go_iload_n X 1 dM_begin_15 rfl rfl ?_
        refine go_iconst X dM_begin_16 kc_i0 ?_
        have hz := hw.1
        have hw := hw.2
        refine as_m_raB X hz dM_begin_17 ?_
        refine go_iinc X 1 dM_begin_18 rfl (ki_1 _) (by decide) rfl ?_
        refine go_goto X dM_begin_21 rfl ?_
        refine go_lc [1, 0] rfl ?_
        exact ih _ _ _ _ _ _ _ _ _ hw
  refine go_iconst X dM_begin_0 kc_i0 ?_
  refine go_istore_n X dM_begin_1 rfl (by decide) rfl ?_
  refine go_lc [1, 0] rfl ?_
  obtain ⟨j9, hw⟩ := hw
  exact C2 j9 _ _ _ _ _ _ _ _ _ hw
theorem k_M_beginB {G : gt_} {ad : Nat → Nat} {cc : ByteArray} {own : String} {fr lo n cells slots pc index : Nat} {lc : List (Nat × Value)} {rest : List Value} {k_ce : Nat → Int32} {k_bc : Int32} {m_ra m_up : Nat → Int32} {m_on m_lo m_hi m_mo m_ma m_li : Int32} {n_rg n_sb : Nat → Int32} {n_st n_pl n_z n_n n_h n_c n_en n_so n_co n_sc : Int32}  {P : (Nat → Int32) → (Nat → Int32) → (Int32) → (Int32) → (Int32) → (Int32) → (Int32) → (Int32) → Prop} (X : cx_ G ad cc own fr lo n) (hw : wp_M_begin m_ra m_up m_on m_lo m_hi m_mo m_ma m_li  P) (m1 : Cond.methodLink own index yM_begin ∈ wS) (hlv : 0 + 1 ≤ fr ∧ 8 + (2 + 11) + 0 ≤ lo) (hrs : (rest.map fun v => v.category).sum ≤ 8) (hcs : cells ≤ (gR_ G).cells ∧ slots ≤ (gR_ G).slots) (d : decode cc pc = .ok (.invokevirtual index, 3))
    (kk : ∀ (m_ra' m_up' : Nat → Int32) (m_on' m_lo' m_hi' m_mo' m_ma' m_li' : Int32), P m_ra' m_up' m_on' m_lo' m_hi' m_mo' m_ma' m_li' → go_ G cells slots (wB ad k_ce k_bc m_ra' m_up' m_on' m_lo' m_hi' m_mo' m_ma' m_li' n_rg n_sb n_st n_pl n_z n_n n_h n_c n_en n_so n_co n_sc) (pc + 3) lc (rest)) : go_ G cells slots (wB ad k_ce k_bc m_ra m_up m_on m_lo m_hi m_mo m_ma m_li n_rg n_sb n_st n_pl n_z n_n n_h n_c n_en n_so n_co n_sc) pc lc (.ref (ad 8) :: rest) :=
  go_cvv X (c_M_beginB hw) me_M_begin m1 hlv 2 rfl rfl rfl hrs hcs d (fun u hp => kk u.1 u.2.1 u.2.2.1 u.2.2.2.1 u.2.2.2.2.1 u.2.2.2.2.2.1 u.2.2.2.2.2.2.1 u.2.2.2.2.2.2.2 hp)
set_option maxRecDepth 100000 in
set_option maxHeartbeats 4000000 in
theorem c_N_beginB {l : Launch} {D : va_G} {ad : Nat → Nat} {k_ce : Nat → Int32} {k_bc : Int32} {m_ra m_up : Nat → Int32} {m_on m_lo m_hi m_mo m_ma m_li : Int32} {n_rg n_sb : Nat → Int32} {n_st n_pl n_z n_n n_h n_c n_en n_so n_co n_sc : Int32}  {P : (Nat → Int32) → (Nat → Int32) → (Int32) → (Int32) → (Int32) → (Int32) → (Int32) → (Int32) → (Nat → Int32) → (Int32) → (Int32) → (Int32) → (Int32) → (Int32) → (Int32) → (Int32) → (Int32) → (Int32) → (Int32) → Prop} (hw : wp_N_begin m_ra m_up m_on m_lo m_hi m_mo m_ma m_li n_rg n_st n_pl n_z n_n n_h n_c n_en n_so n_co n_sc  P) : ct_ l yN_begin bN_begin 2 none 1 24 D ad [.ref (ad 11)] (wB ad k_ce k_bc m_ra m_up m_on m_lo m_hi m_mo m_ma m_li n_rg n_sb n_st n_pl n_z n_n n_h n_c n_en n_so n_co n_sc) (qv_ D (fun (u : (Nat → Int32) × (Nat → Int32) × (Int32) × (Int32) × (Int32) × (Int32) × (Int32) × (Int32) × (Nat → Int32) × (Int32) × (Int32) × (Int32) × (Int32) × (Int32) × (Int32) × (Int32) × (Int32) × (Int32) × (Int32)) => P u.1 u.2.1 u.2.2.1 u.2.2.2.1 u.2.2.2.2.1 u.2.2.2.2.2.1 u.2.2.2.2.2.2.1 u.2.2.2.2.2.2.2.1 u.2.2.2.2.2.2.2.2.1 u.2.2.2.2.2.2.2.2.2.1 u.2.2.2.2.2.2.2.2.2.2.1 u.2.2.2.2.2.2.2.2.2.2.2.1 u.2.2.2.2.2.2.2.2.2.2.2.2.1 u.2.2.2.2.2.2.2.2.2.2.2.2.2.1 u.2.2.2.2.2.2.2.2.2.2.2.2.2.2.1 u.2.2.2.2.2.2.2.2.2.2.2.2.2.2.2.1 u.2.2.2.2.2.2.2.2.2.2.2.2.2.2.2.2.1 u.2.2.2.2.2.2.2.2.2.2.2.2.2.2.2.2.2.1 u.2.2.2.2.2.2.2.2.2.2.2.2.2.2.2.2.2.2) (fun u => wB ad k_ce k_bc u.1 u.2.1 u.2.2.1 u.2.2.2.1 u.2.2.2.2.1 u.2.2.2.2.2.1 u.2.2.2.2.2.2.1 u.2.2.2.2.2.2.2.1 u.2.2.2.2.2.2.2.2.1 n_sb u.2.2.2.2.2.2.2.2.2.1 u.2.2.2.2.2.2.2.2.2.2.1 u.2.2.2.2.2.2.2.2.2.2.2.1 u.2.2.2.2.2.2.2.2.2.2.2.2.1 u.2.2.2.2.2.2.2.2.2.2.2.2.2.1 u.2.2.2.2.2.2.2.2.2.2.2.2.2.2.1 u.2.2.2.2.2.2.2.2.2.2.2.2.2.2.2.1 u.2.2.2.2.2.2.2.2.2.2.2.2.2.2.2.2.1 u.2.2.2.2.2.2.2.2.2.2.2.2.2.2.2.2.2.1 u.2.2.2.2.2.2.2.2.2.2.2.2.2.2.2.2.2.2)) := by
  refine ct_of RN (by decide) rfl (Nat.le_of_ble_eq_true rfl) (fun G hl hD X hq => ?_)
  subst hl hD
  show go_ G 0 0 (wB ad k_ce k_bc m_ra m_up m_on m_lo m_hi m_mo m_ma m_li n_rg n_sb n_st n_pl n_z n_n n_h n_c n_en n_so n_co n_sc) 0 [(0, .ref (ad 11))] []
  have C2 : ∀ (n9 : Nat) (m_ra m_up : Nat → Int32) (m_on m_lo m_hi m_mo m_ma m_li : Int32) (n_rg : Nat → Int32) (n_st n_pl n_z n_n n_h n_c n_en n_so n_co n_sc x1 : Int32), wp_N_begin_2 P n9 m_ra m_up m_on m_lo m_hi m_mo m_ma m_li n_rg n_st n_pl n_z n_n n_h n_c n_en n_so n_co n_sc x1 → go_ G 0 0 (wB ad k_ce k_bc m_ra m_up m_on m_lo m_hi m_mo m_ma m_li n_rg n_sb n_st n_pl n_z n_n n_h n_c n_en n_so n_co n_sc) 2 [(0, .ref (ad 11)), (1, .int x1)] [] := by
    intro n9
    induction n9 with
    | zero =>
      intro m_ra m_up m_on m_lo m_hi m_mo m_ma m_li n_rg n_st n_pl n_z n_n n_h n_c n_en n_so n_co n_sc x1 hw
      exact False.elim hw
    | succ n9 ih =>
      intro m_ra m_up m_on m_lo m_hi m_mo m_ma m_li n_rg n_st n_pl n_z n_n n_h n_c n_en n_so n_co n_sc x1 hw
      refine go_iload_n X 1 dN_begin_2 rfl rfl ?_
      refine go_aload_n X 0 dN_begin_3 rfl rfl ?_
      refine gt_N_9B X dN_begin_4 ?_
      refine go_alen X 6 rfl al_8 dN_begin_7 ?_
      refine go_icmp_ge X dN_begin_8 rfl (fun hc => ?_) (fun hc => ?_)
      · have hw := hw.1 hc
        refine go_aload_n X 0 dN_begin_24 rfl rfl ?_
        refine go_sipush X dN_begin_25 kc_s240 ?_
        refine pt_N_25B X dN_begin_28 ?_
        refine go_aload_n X 0 dN_begin_31 rfl rfl ?_
        refine go_iconst X dN_begin_32 kc_i0 ?_
        refine pt_N_29B X dN_begin_33 ?_
        refine go_aload_n X 0 dN_begin_36 rfl rfl ?_
        refine go_iconst X dN_begin_37 kc_i0 ?_
        refine go_iconst X dN_begin_38 kc_i0 ?_
        refine go_iconst X dN_begin_39 kc_i0 ?_
        refine go_iconst X dN_begin_40 kc_i0 ?_
        refine k_N_setFlagsB X hw mw_N_32 ⟨by decide, by decide⟩ (Nat.le_of_ble_eq_true rfl) ⟨Nat.zero_le _, Nat.zero_le _⟩ dN_begin_41 (fun w1 w2 w3 w4 hw => ?_)
        refine go_aload_n X 0 dN_begin_44 rfl rfl ?_
        refine go_iconst X dN_begin_45 kc_i0 ?_
        refine pt_N_36B X (Or.inl rfl) dN_begin_46 ?_
        refine go_aload_n X 0 dN_begin_49 rfl rfl ?_
        refine go_iconst X dN_begin_50 kc_i0 ?_
        refine pt_N_40B X (Or.inl rfl) dN_begin_51 ?_
        refine go_aload_n X 0 dN_begin_54 rfl rfl ?_
        refine go_iconst X dN_begin_55 kc_i0 ?_
        refine pt_N_43B X dN_begin_56 ?_
        refine go_aload_n X 0 dN_begin_59 rfl rfl ?_
        refine go_iconst X dN_begin_60 kc_i0 ?_
        refine pt_N_46B X dN_begin_61 ?_
        refine go_aload_n X 0 dN_begin_64 rfl rfl ?_
        refine gt_N_18B X dN_begin_65 ?_
        refine k_M_beginB X hw mw_N_49 ⟨by decide, by decide⟩ (Nat.le_of_ble_eq_true rfl) ⟨Nat.zero_le _, Nat.zero_le _⟩ dN_begin_68 (fun w5 w6 w7 w8 w9 w10 w11 w12 hw => ?_)
        exact go_vreturn X hq dN_begin_71 (w5, w6, w7, w8, w9, w10, w11, w12, n_rg, (240 : Int32), (0 : Int32), w1, w2, w3, w4, (0 : Int32), (0 : Int32), (0 : Int32), (0 : Int32)) hw rfl
      · have hw := hw.2 hc
        refine go_aload_n X 0 dN_begin_11 rfl rfl ?_
        refine gt_N_9B X dN_begin_12 ?_
        refine go_iload_n X 1 dN_begin_15 rfl rfl ?_
        refine go_iconst X dN_begin_16 kc_i0 ?_
        have hz := hw.1
        have hw := hw.2
        refine as_n_rgB X hz dN_begin_17 ?_
        refine go_iinc X 1 dN_begin_18 rfl (ki_1 _) (by decide) rfl ?_
        refine go_goto X dN_begin_21 rfl ?_
        refine go_lc [1, 0] rfl ?_
        exact ih _ _ _ _ _ _ _ _ _ _ _ _ _ _ _ _ _ _ _ _ hw
  refine go_iconst X dN_begin_0 kc_i0 ?_
  refine go_istore_n X dN_begin_1 rfl (by decide) rfl ?_
  refine go_lc [1, 0] rfl ?_
  obtain ⟨j9, hw⟩ := hw
  exact C2 j9 _ _ _ _ _ _ _ _ _ _ _ _ _ _ _ _ _ _ _ _ hw
theorem k_N_beginB {G : gt_} {ad : Nat → Nat} {cc : ByteArray} {own : String} {fr lo n cells slots pc index : Nat} {lc : List (Nat × Value)} {rest : List Value} {k_ce : Nat → Int32} {k_bc : Int32} {m_ra m_up : Nat → Int32} {m_on m_lo m_hi m_mo m_ma m_li : Int32} {n_rg n_sb : Nat → Int32} {n_st n_pl n_z n_n n_h n_c n_en n_so n_co n_sc : Int32}  {P : (Nat → Int32) → (Nat → Int32) → (Int32) → (Int32) → (Int32) → (Int32) → (Int32) → (Int32) → (Nat → Int32) → (Int32) → (Int32) → (Int32) → (Int32) → (Int32) → (Int32) → (Int32) → (Int32) → (Int32) → (Int32) → Prop} (X : cx_ G ad cc own fr lo n) (hw : wp_N_begin m_ra m_up m_on m_lo m_hi m_mo m_ma m_li n_rg n_st n_pl n_z n_n n_h n_c n_en n_so n_co n_sc  P) (m1 : Cond.methodLink own index yN_begin ∈ wS) (hlv : 1 + 1 ≤ fr ∧ 8 + (2 + 11) + 24 ≤ lo) (hrs : (rest.map fun v => v.category).sum ≤ 8) (hcs : cells ≤ (gR_ G).cells ∧ slots ≤ (gR_ G).slots) (d : decode cc pc = .ok (.invokevirtual index, 3))
    (kk : ∀ (m_ra' m_up' : Nat → Int32) (m_on' m_lo' m_hi' m_mo' m_ma' m_li' : Int32) (n_rg' : Nat → Int32) (n_st' n_pl' n_z' n_n' n_h' n_c' n_en' n_so' n_co' n_sc' : Int32), P m_ra' m_up' m_on' m_lo' m_hi' m_mo' m_ma' m_li' n_rg' n_st' n_pl' n_z' n_n' n_h' n_c' n_en' n_so' n_co' n_sc' → go_ G cells slots (wB ad k_ce k_bc m_ra' m_up' m_on' m_lo' m_hi' m_mo' m_ma' m_li' n_rg' n_sb n_st' n_pl' n_z' n_n' n_h' n_c' n_en' n_so' n_co' n_sc') (pc + 3) lc (rest)) : go_ G cells slots (wB ad k_ce k_bc m_ra m_up m_on m_lo m_hi m_mo m_ma m_li n_rg n_sb n_st n_pl n_z n_n n_h n_c n_en n_so n_co n_sc) pc lc (.ref (ad 11) :: rest) :=
  go_cvv X (c_N_beginB hw) me_N_begin m1 hlv 5 rfl rfl rfl hrs hcs d (fun u hp => kk u.1 u.2.1 u.2.2.1 u.2.2.2.1 u.2.2.2.2.1 u.2.2.2.2.2.1 u.2.2.2.2.2.2.1 u.2.2.2.2.2.2.2.1 u.2.2.2.2.2.2.2.2.1 u.2.2.2.2.2.2.2.2.2.1 u.2.2.2.2.2.2.2.2.2.2.1 u.2.2.2.2.2.2.2.2.2.2.2.1 u.2.2.2.2.2.2.2.2.2.2.2.2.1 u.2.2.2.2.2.2.2.2.2.2.2.2.2.1 u.2.2.2.2.2.2.2.2.2.2.2.2.2.2.1 u.2.2.2.2.2.2.2.2.2.2.2.2.2.2.2.1 u.2.2.2.2.2.2.2.2.2.2.2.2.2.2.2.2.1 u.2.2.2.2.2.2.2.2.2.2.2.2.2.2.2.2.2.1 u.2.2.2.2.2.2.2.2.2.2.2.2.2.2.2.2.2.2 hp)
