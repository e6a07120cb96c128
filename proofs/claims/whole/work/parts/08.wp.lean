def wp_D_clear (s_ct : Int32)  (P : (Int32) → Prop) : Prop := P (0 : Int32)
def wp_D_raise (m_li : Int32) (a1 : Int32) (P : (Int32) → Prop) (PX : Nat → (Int32) → Prop) : Prop := 
  (a1 < 0 → PX 1 m_li) ∧
  (¬ a1 < 0 → 
    (a1 < (4 : Int32) → P (m_li ||| ((1 : Int32) <<< (a1 &&& 31)))) ∧
    (¬ a1 < (4 : Int32) → PX 1 m_li))
def wp_D_sent (n_sc : Int32)  (P : Int32 → Prop) : Prop := P n_sc
def wp_D_state (n_co : Int32)  (P : Int32 → Prop) : Prop := P n_co
def wp_K_at (k_ce : Nat → Int32) (k_bc : Int32) (a1 a2 : Int32) (P : Int32 → Prop) : Prop := vp_in ((((a1 &&& (k_bc - (1 : Int32))) &&& (7 : Int32)) * (64 : Int32)) + a2) 512 ∧ (P (k_ce ((((a1 &&& (k_bc - (1 : Int32))) &&& (7 : Int32)) * (64 : Int32)) + a2).toNatClampNeg))
def wp_K_headCheck_4 (k_ce : Nat → Int32) (P : Int32 → Prop) : Nat → (Int32) → (Int32) → Prop
  | 0, _, _ => False
  | n9 + 1, x1, x2 => 
    ((12 : Int32) < x2 → P x1) ∧
    (¬ (12 : Int32) < x2 → vp_in x2 512 ∧ (∀ z1 : Int32, z1 = ((x1 - (k_ce x2.toNatClampNeg)) - (1 : Int32)) &&& (255 : Int32) → (wp_K_headCheck_4 k_ce P n9) z1 (x2 + (1 : Int32))))
def wp_K_headCheck (k_ce : Nat → Int32)  (P : Int32 → Prop) : Prop := ∃ j9 : Nat, wp_K_headCheck_4 k_ce P j9 (0 : Int32) (2 : Int32)
def wp_K_isMade (k_bc : Int32)  (P : Int32 → Prop) : Prop := 
  (k_bc = 0 → P (0 : Int32)) ∧
  (¬ k_bc = 0 → P (1 : Int32))
def wp_K_size (k_bc : Int32)  (P : Int32 → Prop) : Prop := P (k_bc * (64 : Int32))
def wp_K_sizeCode (k_bc : Int32)  (P : Int32 → Prop) : Prop := 
  (¬ k_bc = (8 : Int32) → 
    (¬ k_bc = (4 : Int32) → P (0 : Int32)) ∧
    (k_bc = (4 : Int32) → P (1 : Int32))) ∧
  (k_bc = (8 : Int32) → P (2 : Int32))
def wp_N_canGo (n_co : Int32)  (P : Int32 → Prop) : Prop := 
  (n_co = 0 → P (1 : Int32)) ∧
  (¬ n_co = 0 → 
    (¬ n_co = (1 : Int32) → P (0 : Int32)) ∧
    (n_co = (1 : Int32) → P (1 : Int32)))
def wp_N_carryBit (n_c : Int32)  (P : Int32 → Prop) : Prop := 
  (n_c = 0 → P (0 : Int32)) ∧
  (¬ n_c = 0 → P (1 : Int32))
def wp_N_endAs (n_pl n_co : Int32) (a1 : Int32) (P : (Int32) → (Int32) → Prop) : Prop := P ((n_pl - (1 : Int32)) &&& (255 : Int32)) a1
def wp_N_holds (n_z n_c : Int32) (a1 : Int32) (P : Int32 → Prop) : Prop := 
  (a1 = (0 : Int32) → P (1 : Int32)) ∧
  (a1 = (1 : Int32) → 
    (¬ n_z = 0 → P (0 : Int32)) ∧
    (n_z = 0 → P (1 : Int32))) ∧
  (a1 = (2 : Int32) → (n_z = 0 ∨ n_z = 1) ∧ (P n_z)) ∧
  (a1 = (3 : Int32) → 
    (¬ n_c = 0 → P (0 : Int32)) ∧
    (n_c = 0 → P (1 : Int32))) ∧
  (¬ a1 = (0 : Int32) → ¬ a1 = (1 : Int32) → ¬ a1 = (2 : Int32) → ¬ a1 = (3 : Int32) → (n_c = 0 ∨ n_c = 1) ∧ (P n_c))
def wp_N_keptCount (n_sc : Int32)  (P : Int32 → Prop) : Prop := P (if (100 : Int32) < n_sc then (100 : Int32) else n_sc)
def wp_N_send (n_sb : Nat → Int32) (n_sc : Int32) (a1 : Int32) (P : (Nat → Int32) → (Int32) → Prop) : Prop := 
  ((100 : Int32) ≤ n_sc → P n_sb (n_sc + (1 : Int32))) ∧
  (¬ (100 : Int32) ≤ n_sc → vp_in n_sc 100 ∧ (P (upd n_sb n_sc.toNatClampNeg a1) (n_sc + (1 : Int32))))
def wp_N_setFlags (n_z n_n n_h n_c : Int32) (a1 a2 a3 a4 : Int32) (P : (Int32) → (Int32) → (Int32) → (Int32) → Prop) : Prop := (a1 = 0 ∨ a1 = 1) ∧ ((a2 = 0 ∨ a2 = 1) ∧ ((a3 = 0 ∨ a3 = 1) ∧ ((a4 = 0 ∨ a4 = 1) ∧ (P a1 a2 a3 a4))))
def wp_N_wakeFor (n_pl n_co : Int32) (a1 : Int32) (P : (Int32) → (Int32) → Prop) : Prop := 
  (a1 = (-1 : Int32) → P n_pl n_co) ∧
  (¬ a1 = (-1 : Int32) → P ((n_pl + (1 : Int32)) &&& (255 : Int32)) (0 : Int32))
def wp_M_askingLine_2 (m_ma m_li : Int32) (P : Int32 → Prop) : Nat → (Int32) → Prop
  | 0, _ => False
  | n9 + 1, x1 => 
    ((4 : Int32) ≤ x1 → P (-1 : Int32)) ∧
    (¬ (4 : Int32) ≤ x1 → 
      (((m_li &&& m_ma) &&& ((1 : Int32) <<< (x1 &&& 31))) = 0 → (wp_M_askingLine_2 m_ma m_li P n9) (x1 + (1 : Int32))) ∧
      (¬ ((m_li &&& m_ma) &&& ((1 : Int32) <<< (x1 &&& 31))) = 0 → P x1))
def wp_M_askingLine (m_ma m_li : Int32)  (P : Int32 → Prop) : Prop := ∃ j9 : Nat, wp_M_askingLine_2 m_ma m_li P j9 (0 : Int32)
def wp_M_begin_26  (P : (Nat → Int32) → (Nat → Int32) → (Int32) → (Int32) → (Int32) → (Int32) → (Int32) → (Int32) → Prop) : Nat → (Nat → Int32) → (Nat → Int32) → (Int32) → (Int32) → (Int32) → (Int32) → (Int32) → (Int32) → (Int32) → Prop
  | 0, _, _, _, _, _, _, _, _, _ => False
  | n9 + 1, m_ra, m_up, m_on, m_lo, m_hi, m_mo, m_ma, m_li, x1 => 
    ((62 : Int32) ≤ x1 → P m_ra m_up (0 : Int32) (1 : Int32) (0 : Int32) (0 : Int32) (0 : Int32) (0 : Int32)) ∧
    (¬ (62 : Int32) ≤ x1 → vp_in x1 62 ∧ ((wp_M_begin_26 P n9) m_ra (upd m_up x1.toNatClampNeg (0 : Int32)) m_on m_lo m_hi m_mo m_ma m_li (x1 + (1 : Int32))))
def wp_M_begin_2  (P : (Nat → Int32) → (Nat → Int32) → (Int32) → (Int32) → (Int32) → (Int32) → (Int32) → (Int32) → Prop) : Nat → (Nat → Int32) → (Nat → Int32) → (Int32) → (Int32) → (Int32) → (Int32) → (Int32) → (Int32) → (Int32) → Prop
  | 0, _, _, _, _, _, _, _, _, _ => False
  | n9 + 1, m_ra, m_up, m_on, m_lo, m_hi, m_mo, m_ma, m_li, x1 => 
    ((128 : Int32) ≤ x1 → ∃ j9 : Nat, wp_M_begin_26 P j9 m_ra m_up m_on m_lo m_hi m_mo m_ma m_li (0 : Int32)) ∧
    (¬ (128 : Int32) ≤ x1 → vp_in x1 128 ∧ ((wp_M_begin_2 P n9) (upd m_ra x1.toNatClampNeg (0 : Int32)) m_up m_on m_lo m_hi m_mo m_ma m_li (x1 + (1 : Int32))))
def wp_M_begin (m_ra m_up : Nat → Int32) (m_on m_lo m_hi m_mo m_ma m_li : Int32)  (P : (Nat → Int32) → (Nat → Int32) → (Int32) → (Int32) → (Int32) → (Int32) → (Int32) → (Int32) → Prop) : Prop := ∃ j9 : Nat, wp_M_begin_2 P j9 m_ra m_up m_on m_lo m_hi m_mo m_ma m_li (0 : Int32)
def wp_M_ramPlace (m_hi m_mo : Int32) (a1 : Int32) (P : Int32 → Prop) : Prop := 
  (¬ m_mo = (1 : Int32) → P (((0 : Int32) + a1) - (128 : Int32))) ∧
  (m_mo = (1 : Int32) → P (((m_hi * (64 : Int32)) + a1) - (128 : Int32)))
def wp_M_switches (m_on m_lo m_hi m_mo : Int32)  (P : Int32 → Prop) : Prop := 
  (m_on = 0 → P ((((0 : Int32) + ((4 : Int32) * m_lo)) + ((2 : Int32) * m_hi)) + m_mo)) ∧
  (¬ m_on = 0 → P ((((16 : Int32) + ((4 : Int32) * m_lo)) + ((2 : Int32) * m_hi)) + m_mo))
def wp_M_turnSwitch (m_on m_lo m_hi m_mo : Int32) (a1 a2 : Int32) (P : (Int32) → (Int32) → (Int32) → (Int32) → Prop) : Prop := 
  (a1 = (0 : Int32) → 
    (¬ (a2 &&& (15 : Int32)) = (10 : Int32) → P (0 : Int32) m_lo m_hi m_mo) ∧
    ((a2 &&& (15 : Int32)) = (10 : Int32) → P (1 : Int32) m_lo m_hi m_mo)) ∧
  (a1 = (1 : Int32) → 
    (¬ (a2 &&& (3 : Int32)) = 0 → P m_on (a2 &&& (3 : Int32)) m_hi m_mo) ∧
    ((a2 &&& (3 : Int32)) = 0 → P m_on (1 : Int32) m_hi m_mo)) ∧
  (a1 = (2 : Int32) → P m_on m_lo (a2 &&& (1 : Int32)) m_mo) ∧
  (¬ a1 = (0 : Int32) → ¬ a1 = (1 : Int32) → ¬ a1 = (2 : Int32) → P m_on m_lo m_hi (a2 &&& (1 : Int32)))
def wp_P_addressOf (l_bk l_of : Nat → Int32) (a1 : Int32) (P : Int32 → Prop) : Prop := vp_in a1 10 ∧ (
  (¬ (l_bk a1.toNatClampNeg) = 0 → vp_in a1 10 ∧ (P ((64 : Int32) + (l_of a1.toNatClampNeg)))) ∧
  ((l_bk a1.toNatClampNeg) = 0 → vp_in a1 10 ∧ (P (l_of a1.toNatClampNeg))))
def wp_P_fits (t_en : Nat → Int32) (a1 a2 : Int32) (P : Int32 → Prop) : Prop := vp_in a1 8 ∧ (
  ((64 : Int32) < ((t_en a1.toNatClampNeg) + a2) → P (0 : Int32)) ∧
  (¬ (64 : Int32) < ((t_en a1.toNatClampNeg) + a2) → P (1 : Int32)))
def wp_P_put (t_bk t_of t_en : Nat → Int32) (a1 a2 a3 : Int32) (P : (Nat → Int32) → (Nat → Int32) → (Nat → Int32) → Prop) : Prop := vp_in a1 10 ∧ (vp_in a2 8 ∧ (vp_in a1 10 ∧ (vp_in a2 8 ∧ (vp_in a2 8 ∧ (P (upd t_bk a1.toNatClampNeg a2) (upd t_of a1.toNatClampNeg (t_en a2.toNatClampNeg)) (upd t_en a2.toNatClampNeg ((t_en a2.toNatClampNeg) + a3)))))))
def wp_S_append (s_ln s_kd s_vl : Nat → Int32) (s_ct : Int32) (a1 a2 : Int32) (P : (Nat → Int32) → (Nat → Int32) → (Nat → Int32) → Prop) : Prop := ∀ z1 : Int32, z1 = s_ct - (1 : Int32) → vp_in z1 10 ∧ (∀ z2 : Int32, z2 = (z1 * (48 : Int32)) + (s_ln z1.toNatClampNeg) → vp_in z2 480 ∧ (vp_in z2 480 ∧ (vp_in z1 10 ∧ (vp_in z1 10 ∧ (P (upd s_ln z1.toNatClampNeg ((s_ln z1.toNatClampNeg) + (1 : Int32))) (upd s_kd z2.toNatClampNeg a1) (upd s_vl z2.toNatClampNeg a2))))))
def wp_S_canTake (s_ln : Nat → Int32) (s_ct : Int32) (a1 : Int32) (P : Int32 → Prop) : Prop := 
  (s_ct ≤ 0 → P (0 : Int32)) ∧
  (¬ s_ct ≤ 0 → vp_in (s_ct - (1 : Int32)) 10 ∧ (
    ((48 : Int32) < ((s_ln (s_ct - (1 : Int32)).toNatClampNeg) + a1) → P (0 : Int32)) ∧
    (¬ (48 : Int32) < ((s_ln (s_ct - (1 : Int32)).toNatClampNeg) + a1) → P (1 : Int32))))
def wp_S_lacksOne_12 (s_ln s_kd s_vl : Nat → Int32) (s_ct : Int32) (K2 : Int32 → Prop) (P : Int32 → Prop) : Nat → (Int32) → (Int32) → Prop
  | 0, _, _ => False
  | n9 + 1, x1, x2 => vp_in x1 10 ∧ (
    ((s_ln x1.toNatClampNeg) ≤ x2 → K2 (x1 + (1 : Int32))) ∧
    (¬ (s_ln x1.toNatClampNeg) ≤ x2 → ∀ z1 : Int32, z1 = (x1 * (48 : Int32)) + x2 → vp_in z1 480 ∧ (
      ((s_kd z1.toNatClampNeg) = 0 → (wp_S_lacksOne_12 s_ln s_kd s_vl s_ct K2 P n9) x1 (x2 + (1 : Int32))) ∧
      (¬ (s_kd z1.toNatClampNeg) = 0 → vp_in z1 480 ∧ (
        ((s_vl z1.toNatClampNeg) < s_ct → (wp_S_lacksOne_12 s_ln s_kd s_vl s_ct K2 P n9) x1 (x2 + (1 : Int32))) ∧
        (¬ (s_vl z1.toNatClampNeg) < s_ct → P (1 : Int32)))))))
def wp_S_lacksOne_2 (s_ln s_kd s_vl : Nat → Int32) (s_ct : Int32) (P : Int32 → Prop) : Nat → (Int32) → Prop
  | 0, _ => False
  | n9 + 1, x1 => 
    (s_ct ≤ x1 → P (0 : Int32)) ∧
    (¬ s_ct ≤ x1 → ∃ j9 : Nat, wp_S_lacksOne_12 s_ln s_kd s_vl s_ct (wp_S_lacksOne_2 s_ln s_kd s_vl s_ct P n9) P j9 x1 (0 : Int32))
def wp_S_lacksOne (s_ln s_kd s_vl : Nat → Int32) (s_ct : Int32)  (P : Int32 → Prop) : Prop := ∃ j9 : Nat, wp_S_lacksOne_2 s_ln s_kd s_vl s_ct P j9 (0 : Int32)
def wp_S_open (s_bk s_ln : Nat → Int32) (s_ct : Int32) (a1 : Int32) (P : Int32 → (Nat → Int32) → (Nat → Int32) → (Int32) → Prop) : Prop := vp_in s_ct 10 ∧ (vp_in s_ct 10 ∧ (P s_ct (upd s_bk s_ct.toNatClampNeg a1) (upd s_ln s_ct.toNatClampNeg (0 : Int32)) (s_ct + (1 : Int32))))
def wp_S_total_4 (s_ln : Nat → Int32) (s_ct : Int32) (P : Int32 → Prop) : Nat → (Int32) → (Int32) → Prop
  | 0, _, _ => False
  | n9 + 1, x1, x2 => 
    (s_ct ≤ x2 → P x1) ∧
    (¬ s_ct ≤ x2 → vp_in x2 10 ∧ (∀ z1 : Int32, z1 = x1 + (s_ln x2.toNatClampNeg) → (wp_S_total_4 s_ln s_ct P n9) z1 (x2 + (1 : Int32))))
def wp_S_total (s_ln : Nat → Int32) (s_ct : Int32)  (P : Int32 → Prop) : Prop := ∃ j9 : Nat, wp_S_total_4 s_ln s_ct P j9 (0 : Int32) (0 : Int32)
def wp_Q_add_59  (P : Int32 → (Int32) → (Int32) → (Int32) → (Int32) → Prop) (q_zero q_less q_half q_carry x4 x5 y0 : Int32) : Prop := (y0 = 0 ∨ y0 = 1) ∧ (∀ z3 : Int32, z3 = ((x5 - x5 / (16 : Int32) * (16 : Int32)) * (16 : Int32)) + (x4 - x4 / (16 : Int32) * (16 : Int32)) → 
  (¬ z3 = 0 → P z3 (0 : Int32) (0 : Int32) q_half y0) ∧
  (z3 = 0 → P z3 (1 : Int32) (0 : Int32) q_half y0))
def wp_Q_add (q_zero q_less q_half q_carry : Int32) (a1 a2 a3 : Int32) (P : Int32 → (Int32) → (Int32) → (Int32) → (Int32) → Prop) : Prop := ∀ z1 : Int32, z1 = ((a1 - a1 / (16 : Int32) * (16 : Int32)) + (a2 - a2 / (16 : Int32) * (16 : Int32))) + a3 → ∀ z2 : Int32, z2 = ((a1 / (16 : Int32)) + (a2 / (16 : Int32))) + (z1 / (16 : Int32)) → 
  (z1 ≤ (15 : Int32) → 
    (z2 ≤ (15 : Int32) → wp_Q_add_59 P q_zero q_less (0 : Int32) q_carry z1 z2 (0 : Int32)) ∧
    (¬ z2 ≤ (15 : Int32) → wp_Q_add_59 P q_zero q_less (0 : Int32) q_carry z1 z2 (1 : Int32))) ∧
  (¬ z1 ≤ (15 : Int32) → 
    (z2 ≤ (15 : Int32) → wp_Q_add_59 P q_zero q_less (1 : Int32) q_carry z1 z2 (0 : Int32)) ∧
    (¬ z2 ≤ (15 : Int32) → wp_Q_add_59 P q_zero q_less (1 : Int32) q_carry z1 z2 (1 : Int32)))
def wp_Q_adjust_100 (q_less : Int32) (P : (Nat → Int32) → (Int32) → (Int32) → (Int32) → Prop) (q_register : Nat → Int32) (q_zero q_half q_carry x3 y0 y1 : Int32) : Prop := vp_in y1 8 ∧ (
  (¬ ((upd q_register y1.toNatClampNeg (y0 &&& (255 : Int32))) (7 : Int32).toNatClampNeg) = 0 → (x3 = 0 ∨ x3 = 1) ∧ (P (upd q_register y1.toNatClampNeg (y0 &&& (255 : Int32))) (0 : Int32) (0 : Int32) x3)) ∧
  (((upd q_register y1.toNatClampNeg (y0 &&& (255 : Int32))) (7 : Int32).toNatClampNeg) = 0 → (x3 = 0 ∨ x3 = 1) ∧ (P (upd q_register y1.toNatClampNeg (y0 &&& (255 : Int32))) (1 : Int32) (0 : Int32) x3)))
def wp_Q_adjust_77 (q_less : Int32) (P : (Nat → Int32) → (Int32) → (Int32) → (Int32) → Prop) (q_register : Nat → Int32) (q_zero q_half q_carry x1 x3 y0 : Int32) : Prop := 
  (q_less = 0 → wp_Q_adjust_100 q_less P q_register q_zero q_half q_carry x3 (x1 + y0) (7 : Int32)) ∧
  (¬ q_less = 0 → wp_Q_adjust_100 q_less P q_register q_zero q_half q_carry x3 (x1 - y0) (7 : Int32))
def wp_Q_adjust_37 (q_less : Int32) (P : (Nat → Int32) → (Int32) → (Int32) → (Int32) → Prop) (q_register : Nat → Int32) (q_zero q_half q_carry x1 y0 : Int32) : Prop := 
  (¬ q_carry = 0 → wp_Q_adjust_77 q_less P q_register q_zero q_half q_carry x1 (1 : Int32) (y0 + (96 : Int32))) ∧
  (q_carry = 0 → 
    (¬ q_less = 0 → wp_Q_adjust_77 q_less P q_register q_zero q_half q_carry x1 (0 : Int32) y0) ∧
    (q_less = 0 → 
      (x1 ≤ (153 : Int32) → wp_Q_adjust_77 q_less P q_register q_zero q_half q_carry x1 (0 : Int32) y0) ∧
      (¬ x1 ≤ (153 : Int32) → wp_Q_adjust_77 q_less P q_register q_zero q_half q_carry x1 (1 : Int32) (y0 + (96 : Int32)))))
def wp_Q_adjust (q_register : Nat → Int32) (q_zero q_less q_half q_carry : Int32)  (P : (Nat → Int32) → (Int32) → (Int32) → (Int32) → Prop) : Prop := ∀ z1 : Int32, z1 = q_register (7 : Int32).toNatClampNeg → 
  (¬ q_half = 0 → wp_Q_adjust_37 q_less P q_register q_zero q_half q_carry z1 (6 : Int32)) ∧
  (q_half = 0 → 
    (¬ q_less = 0 → wp_Q_adjust_37 q_less P q_register q_zero q_half q_carry z1 (0 : Int32)) ∧
    (q_less = 0 → 
      ((z1 - z1 / (16 : Int32) * (16 : Int32)) ≤ (9 : Int32) → wp_Q_adjust_37 q_less P q_register q_zero q_half q_carry z1 (0 : Int32)) ∧
      (¬ (z1 - z1 / (16 : Int32) * (16 : Int32)) ≤ (9 : Int32) → wp_Q_adjust_37 q_less P q_register q_zero q_half q_carry z1 (6 : Int32))))
def wp_Q_allKnown_17 (q_many : Int32) (q_size q_bytes q_kind : Nat → Int32) (K4 : Int32 → Int32 → Prop) (P : Int32 → Prop) : Nat → (Int32) → (Int32) → (Int32) → Prop
  | 0, _, _, _ => False
  | n9 + 1, x1, x2, x3 => vp_in x2 10 ∧ (
    ((((48 : Int32) * x2) + (q_size x2.toNatClampNeg)) ≤ x3 → K4 x1 (x2 + (1 : Int32))) ∧
    (¬ (((48 : Int32) * x2) + (q_size x2.toNatClampNeg)) ≤ x3 → 
      (x1 = 0 → (wp_Q_allKnown_17 q_many q_size q_bytes q_kind K4 P n9) (0 : Int32) x2 (x3 + (1 : Int32))) ∧
      (¬ x1 = 0 → vp_in x3 480 ∧ (
        ((q_kind x3.toNatClampNeg) = 0 → (wp_Q_allKnown_17 q_many q_size q_bytes q_kind K4 P n9) (1 : Int32) x2 (x3 + (1 : Int32))) ∧
        (¬ (q_kind x3.toNatClampNeg) = 0 → vp_in x3 480 ∧ (
          (q_many ≤ (q_bytes x3.toNatClampNeg) → (wp_Q_allKnown_17 q_many q_size q_bytes q_kind K4 P n9) (0 : Int32) x2 (x3 + (1 : Int32))) ∧
          (¬ q_many ≤ (q_bytes x3.toNatClampNeg) → (wp_Q_allKnown_17 q_many q_size q_bytes q_kind K4 P n9) (1 : Int32) x2 (x3 + (1 : Int32)))))))))
def wp_Q_allKnown_4 (q_many : Int32) (q_size q_bytes q_kind : Nat → Int32) (P : Int32 → Prop) : Nat → (Int32) → (Int32) → Prop
  | 0, _, _ => False
  | n9 + 1, x1, x2 => 
    (q_many ≤ x2 → (x1 = 0 ∨ x1 = 1) ∧ (P x1)) ∧
    (¬ q_many ≤ x2 → ∀ z1 : Int32, z1 = (48 : Int32) * x2 → ∃ j9 : Nat, wp_Q_allKnown_17 q_many q_size q_bytes q_kind (wp_Q_allKnown_4 q_many q_size q_bytes q_kind P n9) P j9 x1 x2 z1)
def wp_Q_allKnown (q_many : Int32) (q_size q_bytes q_kind : Nat → Int32)  (P : Int32 → Prop) : Prop := ∃ j9 : Nat, wp_Q_allKnown_4 q_many q_size q_bytes q_kind P j9 (1 : Int32) (0 : Int32)
def wp_Q_append (q_many : Int32) (q_size q_bytes q_kind : Nat → Int32) (a1 a2 : Int32) (P : (Nat → Int32) → (Nat → Int32) → (Nat → Int32) → Prop) : Prop := ∀ z1 : Int32, z1 = q_many - (1 : Int32) → vp_in z1 10 ∧ (vp_in (((48 : Int32) * z1) + (q_size z1.toNatClampNeg)) 480 ∧ (vp_in z1 10 ∧ (vp_in (((48 : Int32) * z1) + (q_size z1.toNatClampNeg)) 480 ∧ (vp_in z1 10 ∧ (vp_in z1 10 ∧ (P (upd q_size z1.toNatClampNeg ((q_size z1.toNatClampNeg) + (1 : Int32))) (upd q_bytes (((48 : Int32) * z1) + (q_size z1.toNatClampNeg)).toNatClampNeg (a2 &&& (255 : Int32))) (upd q_kind (((48 : Int32) * z1) + (q_size z1.toNatClampNeg)).toNatClampNeg a1)))))))
def wp_Q_begin_39  (P : (Nat → Int32) → (Nat → Int32) → (Int32) → (Int32) → (Int32) → (Int32) → (Int32) → (Int32) → (Int32) → (Int32) → (Int32) → (Int32) → (Int32) → (Int32) → (Int32) → (Int32) → Prop) : Nat → (Nat → Int32) → (Nat → Int32) → (Int32) → (Int32) → (Int32) → (Int32) → (Int32) → (Int32) → (Int32) → (Int32) → (Int32) → (Int32) → (Int32) → (Int32) → (Int32) → (Int32) → (Int32) → Prop
  | 0, _, _, _, _, _, _, _, _, _, _, _, _, _, _, _, _, _ => False
  | n9 + 1, q_memory, q_register, q_stack, q_place, q_zero, q_less, q_half, q_carry, q_enabled, q_soon, q_ram, q_low, q_top, q_mode, q_state, q_sent, x1 => 
    ((8 : Int32) ≤ x1 → P q_memory q_register (240 : Int32) (0 : Int32) (0 : Int32) (0 : Int32) (0 : Int32) (0 : Int32) (0 : Int32) (0 : Int32) (0 : Int32) (1 : Int32) (0 : Int32) (0 : Int32) (0 : Int32) (0 : Int32)) ∧
    (¬ (8 : Int32) ≤ x1 → vp_in x1 8 ∧ ((wp_Q_begin_39 P n9) q_memory (upd q_register x1.toNatClampNeg (0 : Int32)) q_stack q_place q_zero q_less q_half q_carry q_enabled q_soon q_ram q_low q_top q_mode q_state q_sent (x1 + (1 : Int32))))
def wp_Q_begin_4  (P : (Nat → Int32) → (Nat → Int32) → (Int32) → (Int32) → (Int32) → (Int32) → (Int32) → (Int32) → (Int32) → (Int32) → (Int32) → (Int32) → (Int32) → (Int32) → (Int32) → (Int32) → Prop) : Nat → (Nat → Int32) → (Nat → Int32) → (Int32) → (Int32) → (Int32) → (Int32) → (Int32) → (Int32) → (Int32) → (Int32) → (Int32) → (Int32) → (Int32) → (Int32) → (Int32) → (Int32) → (Int32) → Prop
  | 0, _, _, _, _, _, _, _, _, _, _, _, _, _, _, _, _, _ => False
  | n9 + 1, q_memory, q_register, q_stack, q_place, q_zero, q_less, q_half, q_carry, q_enabled, q_soon, q_ram, q_low, q_top, q_mode, q_state, q_sent, x1 => 
    ((705 : Int32) ≤ x1 → ∃ j9 : Nat, wp_Q_begin_39 P j9 q_memory q_register q_stack q_place q_zero q_less q_half q_carry q_enabled q_soon q_ram q_low q_top q_mode q_state q_sent (0 : Int32)) ∧
    (¬ (705 : Int32) ≤ x1 → 
      (¬ x1 = (704 : Int32) → vp_in x1 705 ∧ ((wp_Q_begin_4 P n9) (upd q_memory x1.toNatClampNeg (0 : Int32)) q_register q_stack q_place q_zero q_less q_half q_carry q_enabled q_soon q_ram q_low q_top q_mode q_state q_sent (x1 + (1 : Int32)))) ∧
      (x1 = (704 : Int32) → vp_in x1 705 ∧ ((wp_Q_begin_4 P n9) (upd q_memory x1.toNatClampNeg (255 : Int32)) q_register q_stack q_place q_zero q_less q_half q_carry q_enabled q_soon q_ram q_low q_top q_mode q_state q_sent (x1 + (1 : Int32)))))
def wp_Q_begin (q_memory q_register : Nat → Int32) (q_stack q_place q_zero q_less q_half q_carry q_enabled q_soon q_ram q_low q_top q_mode q_state q_sent : Int32)  (P : (Nat → Int32) → (Nat → Int32) → (Int32) → (Int32) → (Int32) → (Int32) → (Int32) → (Int32) → (Int32) → (Int32) → (Int32) → (Int32) → (Int32) → (Int32) → (Int32) → (Int32) → Prop) : Prop := ∃ j9 : Nat, wp_Q_begin_4 P j9 q_memory q_register q_stack q_place q_zero q_less q_half q_carry q_enabled q_soon q_ram q_low q_top q_mode q_state q_sent (512 : Int32)
def wp_Q_clear (q_code q_many : Int32)  (P : (Int32) → (Int32) → Prop) : Prop := P (0 : Int32) (0 : Int32)
def wp_Q_headCheck_4 (q_memory : Nat → Int32) (P : Int32 → Prop) : Nat → (Int32) → (Int32) → Prop
  | 0, _, _ => False
  | n9 + 1, x1, x2 => 
    ((13 : Int32) ≤ x2 → P ((-x1) &&& (255 : Int32))) ∧
    (¬ (13 : Int32) ≤ x2 → vp_in x2 705 ∧ (∀ z1 : Int32, z1 = x1 + ((q_memory x2.toNatClampNeg) + (1 : Int32)) → (wp_Q_headCheck_4 q_memory P n9) z1 (x2 + (1 : Int32))))
def wp_Q_headCheck (q_memory : Nat → Int32)  (P : Int32 → Prop) : Prop := ∃ j9 : Nat, wp_Q_headCheck_4 q_memory P j9 (0 : Int32) (2 : Int32)
def wp_Q_holds_28 (q_zero q_carry : Int32) (P : Int32 → Prop) (x1 : Int32) : Prop := 
  (¬ x1 = (3 : Int32) → 
    (¬ x1 = (4 : Int32) → P (0 : Int32)) ∧
    (x1 = (4 : Int32) → 
      (q_carry = 0 → P (0 : Int32)) ∧
      (¬ q_carry = 0 → P (1 : Int32)))) ∧
  (x1 = (3 : Int32) → 
    (q_carry = 0 → P (1 : Int32)) ∧
    (¬ q_carry = 0 → 
      (¬ x1 = (4 : Int32) → P (0 : Int32)) ∧
      (x1 = (4 : Int32) → 
        (q_carry = 0 → P (0 : Int32)) ∧
        (¬ q_carry = 0 → P (1 : Int32)))))
def wp_Q_holds (q_zero q_carry : Int32) (a1 : Int32) (P : Int32 → Prop) : Prop := 
  (a1 = 0 → P (1 : Int32)) ∧
  (¬ a1 = 0 → 
    (¬ a1 = (1 : Int32) → 
      (¬ a1 = (2 : Int32) → wp_Q_holds_28 q_zero q_carry P a1) ∧
      (a1 = (2 : Int32) → 
        (¬ q_zero = 0 → P (1 : Int32)) ∧
        (q_zero = 0 → wp_Q_holds_28 q_zero q_carry P a1))) ∧
    (a1 = (1 : Int32) → 
      (q_zero = 0 → P (1 : Int32)) ∧
      (¬ q_zero = 0 → 
        (¬ a1 = (2 : Int32) → wp_Q_holds_28 q_zero q_carry P a1) ∧
        (a1 = (2 : Int32) → 
          (¬ q_zero = 0 → P (1 : Int32)) ∧
          (q_zero = 0 → wp_Q_holds_28 q_zero q_carry P a1)))))
def wp_Q_imageCheck_19 (q_banks : Int32) (q_memory : Nat → Int32) (P : Int32 → Prop) : Nat → (Int32) → (Int32) → Prop
  | 0, _, _ => False
  | n9 + 1, x1, x2 => 
    (((64 : Int32) * q_banks) ≤ x2 → P (x1 &&& (65535 : Int32))) ∧
    (¬ ((64 : Int32) * q_banks) ≤ x2 → vp_in x2 705 ∧ (∀ z2 : Int32, z2 = x1 + (q_memory x2.toNatClampNeg) → (wp_Q_imageCheck_19 q_banks q_memory P n9) z2 (x2 + (1 : Int32))))
def wp_Q_imageCheck (q_banks : Int32) (q_memory : Nat → Int32)  (P : Int32 → Prop) : Prop := ∀ z1 : Int32, z1 = (-(q_memory (14 : Int32).toNatClampNeg)) - (q_memory (15 : Int32).toNatClampNeg) → ∃ j9 : Nat, wp_Q_imageCheck_19 q_banks q_memory P j9 z1 (0 : Int32)
def wp_Q_mark (q_banks : Int32) (a1 : Int32) (P : Int32 → Prop) : Prop := 
  (¬ a1 = (2 : Int32) → 
    (¬ a1 = (3 : Int32) → 
      (¬ a1 = (4 : Int32) → 
        (¬ a1 = (5 : Int32) → 
          (¬ q_banks = (2 : Int32) → 
            (¬ q_banks = (4 : Int32) → P (2 : Int32)) ∧
            (q_banks = (4 : Int32) → P (1 : Int32))) ∧
          (q_banks = (2 : Int32) → P (0 : Int32))) ∧
        (a1 = (5 : Int32) → P (204 : Int32))) ∧
      (a1 = (4 : Int32) → P (102 : Int32))) ∧
    (a1 = (3 : Int32) → P (237 : Int32))) ∧
  (a1 = (2 : Int32) → P (206 : Int32))
def wp_Q_outside  (a0 a1 a2 : Int32) (P : Int32 → Prop) : Prop := 
  (a0 < a1 → P (1 : Int32)) ∧
  (¬ a0 < a1 → 
    (a0 ≤ a2 → P (0 : Int32)) ∧
    (¬ a0 ≤ a2 → P (1 : Int32)))
def wp_Q_plain (q_zero q_less q_half q_carry : Int32) (a1 a2 : Int32) (P : Int32 → (Int32) → (Int32) → (Int32) → (Int32) → Prop) : Prop := 
  (¬ a1 = 0 → (a2 = 0 ∨ a2 = 1) ∧ (P a1 (0 : Int32) (0 : Int32) a2 (0 : Int32))) ∧
  (a1 = 0 → (a2 = 0 ∨ a2 = 1) ∧ (P a1 (1 : Int32) (0 : Int32) a2 (0 : Int32)))
def wp_Q_put_53 (q_size : Nat → Int32) (P : Int32 → (Nat → Int32) → (Nat → Int32) → (Nat → Int32) → Prop) (q_bank q_address q_full : Nat → Int32) (x1 x2 y0 y1 y2 : Int32) : Prop := vp_in y2 10 ∧ (vp_in x2 8 ∧ (vp_in x1 10 ∧ (vp_in x2 8 ∧ (P (1 : Int32) q_bank (upd q_address y2.toNatClampNeg (y1 + y0)) (upd q_full x2.toNatClampNeg ((q_full x2.toNatClampNeg) + (q_size x1.toNatClampNeg)))))))
def wp_Q_put (q_size q_bank q_address q_full : Nat → Int32) (a1 a2 a3 : Int32) (P : Int32 → (Nat → Int32) → (Nat → Int32) → (Nat → Int32) → Prop) : Prop := 
  (a3 ≤ a2 → P (0 : Int32) q_bank q_address q_full) ∧
  (¬ a3 ≤ a2 → vp_in a2 8 ∧ (vp_in a1 10 ∧ (
    (((q_full a2.toNatClampNeg) + (q_size a1.toNatClampNeg)) ≤ (64 : Int32) → vp_in a1 10 ∧ (vp_in a2 8 ∧ (
      (a2 ≤ 0 → wp_Q_put_53 q_size P (upd q_bank a1.toNatClampNeg a2) q_address q_full a1 a2 (0 : Int32) (q_full a2.toNatClampNeg) a1) ∧
      (¬ a2 ≤ 0 → wp_Q_put_53 q_size P (upd q_bank a1.toNatClampNeg a2) q_address q_full a1 a2 (64 : Int32) (q_full a2.toNatClampNeg) a1)))) ∧
    (¬ ((q_full a2.toNatClampNeg) + (q_size a1.toNatClampNeg)) ≤ (64 : Int32) → P (0 : Int32) q_bank q_address q_full))))
def wp_Q_refuse (q_code : Int32) (a1 : Int32) (P : Int32 → (Int32) → Prop) : Prop := P (0 : Int32) a1
def wp_Q_room (q_many : Int32) (q_size : Nat → Int32) (a1 : Int32) (P : Int32 → Prop) : Prop := 
  (q_many ≤ 0 → P (0 : Int32)) ∧
  (¬ q_many ≤ 0 → vp_in (q_many - (1 : Int32)) 10 ∧ (
    ((48 : Int32) < ((q_size (q_many - (1 : Int32)).toNatClampNeg) + a1) → P (0 : Int32)) ∧
    (¬ (48 : Int32) < ((q_size (q_many - (1 : Int32)).toNatClampNeg) + a1) → P (1 : Int32))))
def wp_Q_sent (q_code q_sent : Int32)  (P : Int32 → (Int32) → Prop) : Prop := P q_sent (0 : Int32)
def wp_Q_stand (q_place q_state : Int32) (a1 : Int32) (P : (Int32) → (Int32) → Prop) : Prop := P ((q_place + (255 : Int32)) - (q_place + (255 : Int32)) / (256 : Int32) * (256 : Int32)) a1
def wp_Q_state (q_code q_state : Int32)  (P : Int32 → (Int32) → Prop) : Prop := P q_state (0 : Int32)
def wp_Q_take_62  (P : Int32 → (Int32) → (Int32) → (Int32) → (Int32) → Prop) (q_zero q_less q_half q_carry x4 x5 y0 : Int32) : Prop := (y0 = 0 ∨ y0 = 1) ∧ (∀ z4 : Int32, z4 = (((x5 + (16 : Int32)) - (x5 + (16 : Int32)) / (16 : Int32) * (16 : Int32)) * (16 : Int32)) + ((x4 + (16 : Int32)) - (x4 + (16 : Int32)) / (16 : Int32) * (16 : Int32)) → 
  (¬ z4 = 0 → P z4 (0 : Int32) (1 : Int32) q_half y0) ∧
  (z4 = 0 → P z4 (1 : Int32) (1 : Int32) q_half y0))
def wp_Q_take_24  (P : Int32 → (Int32) → (Int32) → (Int32) → (Int32) → Prop) (q_zero q_less q_half q_carry x1 x2 x4 y0 : Int32) : Prop := (y0 = 0 ∨ y0 = 1) ∧ (
  (y0 = 0 → ∀ z2 : Int32, z2 = ((x1 / (16 : Int32)) - (x2 / (16 : Int32))) - (0 : Int32) → 
    (0 ≤ z2 → wp_Q_take_62 P q_zero q_less y0 q_carry x4 z2 (0 : Int32)) ∧
    (¬ 0 ≤ z2 → wp_Q_take_62 P q_zero q_less y0 q_carry x4 z2 (1 : Int32))) ∧
  (¬ y0 = 0 → ∀ z3 : Int32, z3 = ((x1 / (16 : Int32)) - (x2 / (16 : Int32))) - (1 : Int32) → 
    (0 ≤ z3 → wp_Q_take_62 P q_zero q_less y0 q_carry x4 z3 (0 : Int32)) ∧
    (¬ 0 ≤ z3 → wp_Q_take_62 P q_zero q_less y0 q_carry x4 z3 (1 : Int32))))
def wp_Q_take (q_zero q_less q_half q_carry : Int32) (a1 a2 a3 : Int32) (P : Int32 → (Int32) → (Int32) → (Int32) → (Int32) → Prop) : Prop := ∀ z1 : Int32, z1 = ((a1 - a1 / (16 : Int32) * (16 : Int32)) - (a2 - a2 / (16 : Int32) * (16 : Int32))) - a3 → 
  (0 ≤ z1 → wp_Q_take_24 P q_zero q_less q_half q_carry a1 a2 z1 (0 : Int32)) ∧
  (¬ 0 ≤ z1 → wp_Q_take_24 P q_zero q_less q_half q_carry a1 a2 z1 (1 : Int32))
def wp_Q_thrown (q_code : Int32)  (P : Int32 → Prop) : Prop := P q_code
def wp_Q_where (q_banks q_ram q_low q_top q_mode : Int32) (a1 : Int32) (P : Int32 → Prop) : Prop := 
  ((64 : Int32) ≤ a1 → 
    ((128 : Int32) ≤ a1 → 
      ((192 : Int32) ≤ a1 → P (((640 : Int32) + a1) - (192 : Int32))) ∧
      (¬ (192 : Int32) ≤ a1 → 
        (¬ q_ram = 0 → 
          (¬ q_mode = (1 : Int32) → P ((((512 : Int32) + a1) - (128 : Int32)) + (0 : Int32))) ∧
          (q_mode = (1 : Int32) → P ((((512 : Int32) + a1) - (128 : Int32)) + ((64 : Int32) * q_top)))) ∧
        (q_ram = 0 → P (704 : Int32)))) ∧
    (¬ (128 : Int32) ≤ a1 → ¬ q_banks = 0 ∧ (P ((((64 : Int32) * ((((4 : Int32) * q_top) + q_low) - (((4 : Int32) * q_top) + q_low) / q_banks * q_banks)) + a1) - (64 : Int32))))) ∧
  (¬ (64 : Int32) ≤ a1 → 
    (¬ q_mode = (1 : Int32) → P a1) ∧
    (q_mode = (1 : Int32) → ¬ q_banks = 0 ∧ (P (((64 : Int32) * (((4 : Int32) * q_top) - ((4 : Int32) * q_top) / q_banks * q_banks)) + a1))))
def wp_D_byteSent (n_sb : Nat → Int32) (n_sc : Int32) (a1 : Int32) (P : Int32 → Prop) (PX : Nat → Prop) : Prop := 
  (a1 < 0 → PX 3) ∧
  (¬ a1 < 0 → wp_N_keptCount n_sc (fun r1 => 
    (a1 < r1 → vp_in a1 100 ∧ (P (n_sb a1.toNatClampNeg))) ∧
    (¬ a1 < r1 → PX 3)))
def wp_D_bytes_41 (s_ct : Int32) (P : (Nat → Int32) → (Nat → Int32) → (Nat → Int32) → Prop) (PX : Nat → (Nat → Int32) → (Nat → Int32) → (Nat → Int32) → Prop) : Nat → (Nat → Int32) → (Nat → Int32) → (Nat → Int32) → (Int32) → (Int32) → Prop
  | 0, _, _, _, _, _ => False
  | n9 + 1, s_ln, s_kd, s_vl, x1, x3 => 
    (x3 < 0 → P s_ln s_kd s_vl) ∧
    (¬ x3 < 0 → wp_S_append s_ln s_kd s_vl s_ct (0 : Int32) ((x1 >>> (((8 : Int32) * x3) &&& 31)) &&& (255 : Int32)) (fun w3 w4 w5 => (wp_D_bytes_41 s_ct P PX n9) w3 w4 w5 x1 (x3 + (-1 : Int32))))
def wp_D_bytes (s_ln s_kd s_vl : Nat → Int32) (s_ct : Int32) (a1 a2 : Int32) (P : (Nat → Int32) → (Nat → Int32) → (Nat → Int32) → Prop) (PX : Nat → (Nat → Int32) → (Nat → Int32) → (Nat → Int32) → Prop) : Prop := 
  (a2 < (1 : Int32) → PX 1 s_ln s_kd s_vl) ∧
  (¬ a2 < (1 : Int32) → 
    (a2 ≤ (4 : Int32) → wp_S_canTake s_ln s_ct a2 (fun r1 => 
      (¬ r1 = 0 → ∀ z2 : Int32, z2 = a2 - (1 : Int32) → ∃ j9 : Nat, wp_D_bytes_41 s_ct P PX j9 s_ln s_kd s_vl a1 z2) ∧
      (r1 = 0 → PX 2 s_ln s_kd s_vl))) ∧
    (¬ a2 ≤ (4 : Int32) → PX 1 s_ln s_kd s_vl))
def wp_D_image (k_ce : Nat → Int32) (k_bc : Int32) (a1 : Int32) (P : Int32 → Prop) (PX : Nat → Prop) : Prop := 
  (a1 < 0 → PX 3) ∧
  (¬ a1 < 0 → wp_K_size k_bc (fun r1 => 
    (a1 < r1 → vp_in a1 512 ∧ (P (k_ce a1.toNatClampNeg))) ∧
    (¬ a1 < r1 → PX 3)))
def wp_D_mended_15 (s_ct : Int32) (P : (Nat → Int32) → (Nat → Int32) → (Nat → Int32) → Prop) (PX : Nat → (Nat → Int32) → (Nat → Int32) → (Nat → Int32) → Prop) (s_ln s_kd s_vl : Nat → Int32) (x1 x2 y0 : Int32) : Prop := 
  (y0 = 0 → PX 1 s_ln s_kd s_vl) ∧
  (¬ y0 = 0 → 
    (x2 < 0 → PX 1 s_ln s_kd s_vl) ∧
    (¬ x2 < 0 → 
      (x2 < (10 : Int32) → wp_S_canTake s_ln s_ct (1 : Int32) (fun r1 => 
        (¬ r1 = 0 → wp_S_append s_ln s_kd s_vl s_ct x1 x2 (fun w2 w3 w4 => P w2 w3 w4)) ∧
        (r1 = 0 → PX 2 s_ln s_kd s_vl))) ∧
      (¬ x2 < (10 : Int32) → PX 1 s_ln s_kd s_vl)))
def wp_D_mended (s_ln s_kd s_vl : Nat → Int32) (s_ct : Int32) (a1 a2 : Int32) (P : (Nat → Int32) → (Nat → Int32) → (Nat → Int32) → Prop) (PX : Nat → (Nat → Int32) → (Nat → Int32) → (Nat → Int32) → Prop) : Prop := 
  (a1 = (1 : Int32) → wp_D_mended_15 s_ct P PX s_ln s_kd s_vl a1 a2 (1 : Int32)) ∧
  (¬ a1 = (1 : Int32) → 
    (¬ a1 = (2 : Int32) → wp_D_mended_15 s_ct P PX s_ln s_kd s_vl a1 a2 (0 : Int32)) ∧
    (a1 = (2 : Int32) → wp_D_mended_15 s_ct P PX s_ln s_kd s_vl a1 a2 (1 : Int32)))
def wp_D_packed (l_bk l_of : Nat → Int32) (l_ct : Int32) (a1 a2 : Int32) (P : Int32 → Prop) (PX : Nat → Prop) : Prop := 
  (a1 < 0 → PX 3) ∧
  (¬ a1 < 0 → 
    (l_ct ≤ a1 → PX 3) ∧
    (¬ l_ct ≤ a1 → 
      (a2 < 0 → PX 3) ∧
      (¬ a2 < 0 → 
        (a2 ≤ (1 : Int32) → 
          (¬ a2 = 0 → wp_P_addressOf l_bk l_of a1 (fun r1 => P r1)) ∧
          (a2 = 0 → vp_in a1 10 ∧ (P (l_bk a1.toNatClampNeg)))) ∧
        (¬ a2 ≤ (1 : Int32) → PX 3))))
def wp_D_section (s_bk s_ln : Nat → Int32) (s_ct : Int32) (a1 : Int32) (P : Int32 → (Nat → Int32) → (Nat → Int32) → (Int32) → Prop) (PX : Nat → (Nat → Int32) → (Nat → Int32) → (Int32) → Prop) : Prop := 
  (a1 < (-1 : Int32) → PX 1 s_bk s_ln s_ct) ∧
  (¬ a1 < (-1 : Int32) → 
    (a1 < (8 : Int32) → 
      (s_ct < (10 : Int32) → wp_S_open s_bk s_ln s_ct a1 (fun r1 w2 w3 w4 => P r1 w2 w3 w4)) ∧
      (¬ s_ct < (10 : Int32) → PX 2 s_bk s_ln s_ct)) ∧
    (¬ a1 < (8 : Int32) → PX 1 s_bk s_ln s_ct))
def wp_D_spoil (k_ce : Nat → Int32) (k_bc : Int32) (a1 a2 : Int32) (P : (Nat → Int32) → Prop) (PX : Nat → (Nat → Int32) → Prop) : Prop := 
  (a1 < 0 → PX 3 k_ce) ∧
  (¬ a1 < 0 → wp_K_size k_bc (fun r1 => 
    (a1 < r1 → vp_in a1 512 ∧ (P (upd k_ce a1.toNatClampNeg (a2 &&& (255 : Int32))))) ∧
    (¬ a1 < r1 → PX 3 k_ce)))
def wp_K_imageCheck_4 (k_ce : Nat → Int32) (k_bc : Int32) (P : Int32 → Prop) : Nat → (Int32) → (Int32) → Prop
  | 0, _, _ => False
  | n9 + 1, x1, x2 => wp_K_size k_bc (fun r1 => 
    (r1 ≤ x2 → P (x1 &&& (65535 : Int32))) ∧
    (¬ r1 ≤ x2 → 
      (x2 = (14 : Int32) → (wp_K_imageCheck_4 k_ce k_bc P n9) x1 (x2 + (1 : Int32))) ∧
      (¬ x2 = (14 : Int32) → 
        (x2 = (15 : Int32) → (wp_K_imageCheck_4 k_ce k_bc P n9) x1 (x2 + (1 : Int32))) ∧
        (¬ x2 = (15 : Int32) → vp_in x2 512 ∧ (∀ z2 : Int32, z2 = x1 + (k_ce x2.toNatClampNeg) → (wp_K_imageCheck_4 k_ce k_bc P n9) z2 (x2 + (1 : Int32)))))))
def wp_K_imageCheck (k_ce : Nat → Int32) (k_bc : Int32)  (P : Int32 → Prop) : Prop := ∃ j9 : Nat, wp_K_imageCheck_4 k_ce k_bc P j9 (0 : Int32) (0 : Int32)
def wp_K_lay_27 (s_ln s_kd s_vl l_bk l_of : Nat → Int32) (P : (Nat → Int32) → Prop) : Nat → (Nat → Int32) → (Int32) → (Int32) → (Int32) → (Int32) → Prop
  | 0, _, _, _, _, _ => False
  | n9 + 1, k_ce, x3, x4, x5, x6 => vp_in x3 10 ∧ (
    ((s_ln x3.toNatClampNeg) ≤ x6 → P k_ce) ∧
    (¬ (s_ln x3.toNatClampNeg) ≤ x6 → vp_in (x4 + x6) 480 ∧ (∀ z3 : Int32, z3 = s_vl (x4 + x6).toNatClampNeg → vp_in (x4 + x6) 480 ∧ (∀ z4 : Int32, z4 = s_kd (x4 + x6).toNatClampNeg → 
      (¬ z4 = (1 : Int32) → 
        (¬ z4 = (2 : Int32) → vp_in (x5 + x6) 512 ∧ ((wp_K_lay_27 s_ln s_kd s_vl l_bk l_of P n9) (upd k_ce (x5 + x6).toNatClampNeg z3) x3 x4 x5 (x6 + (1 : Int32)))) ∧
        (z4 = (2 : Int32) → vp_in z3 10 ∧ (∀ z5 : Int32, z5 = l_bk z3.toNatClampNeg → vp_in (x5 + x6) 512 ∧ ((wp_K_lay_27 s_ln s_kd s_vl l_bk l_of P n9) (upd k_ce (x5 + x6).toNatClampNeg z5) x3 x4 x5 (x6 + (1 : Int32)))))) ∧
      (z4 = (1 : Int32) → wp_P_addressOf l_bk l_of z3 (fun r6 => vp_in (x5 + x6) 512 ∧ ((wp_K_lay_27 s_ln s_kd s_vl l_bk l_of P n9) (upd k_ce (x5 + x6).toNatClampNeg r6) x3 x4 x5 (x6 + (1 : Int32)))))))))
def wp_K_lay (s_ln s_kd s_vl k_ce l_bk l_of : Nat → Int32) (a3 : Int32) (P : (Nat → Int32) → Prop) : Prop := ∀ z1 : Int32, z1 = a3 * (48 : Int32) → vp_in a3 10 ∧ (vp_in a3 10 ∧ (∀ z2 : Int32, z2 = ((l_bk a3.toNatClampNeg) * (64 : Int32)) + (l_of a3.toNatClampNeg) → ∃ j9 : Nat, wp_K_lay_27 s_ln s_kd s_vl l_bk l_of P j9 k_ce a3 z1 z2 (0 : Int32)))
def wp_N_adjust_92  (P : (Nat → Int32) → (Int32) → (Int32) → (Int32) → (Int32) → Prop) (n_rg : Nat → Int32) (n_z n_n n_h n_c x2 y0 y1 : Int32) : Prop := vp_in y1 8 ∧ (
  (¬ ((upd n_rg y1.toNatClampNeg (y0 &&& (255 : Int32))) (7 : Int32).toNatClampNeg) = 0 → wp_N_setFlags n_z n_n n_h n_c (0 : Int32) n_n (0 : Int32) x2 (fun w2 w3 w4 w5 => P (upd n_rg y1.toNatClampNeg (y0 &&& (255 : Int32))) w2 w3 w4 w5)) ∧
  (((upd n_rg y1.toNatClampNeg (y0 &&& (255 : Int32))) (7 : Int32).toNatClampNeg) = 0 → wp_N_setFlags n_z n_n n_h n_c (1 : Int32) n_n (0 : Int32) x2 (fun w6 w7 w8 w9 => P (upd n_rg y1.toNatClampNeg (y0 &&& (255 : Int32))) w6 w7 w8 w9)))
def wp_N_adjust_70  (P : (Nat → Int32) → (Int32) → (Int32) → (Int32) → (Int32) → Prop) (n_rg : Nat → Int32) (n_z n_n n_h n_c x1 x2 x3 : Int32) : Prop := 
  (n_n = 0 → wp_N_adjust_92 P n_rg n_z n_n n_h n_c x2 (x1 + x3) (7 : Int32)) ∧
  (¬ n_n = 0 → wp_N_adjust_92 P n_rg n_z n_n n_h n_c x2 (x1 - x3) (7 : Int32))
def wp_N_adjust_34  (P : (Nat → Int32) → (Int32) → (Int32) → (Int32) → (Int32) → Prop) (n_rg : Nat → Int32) (n_z n_n n_h n_c x1 y0 : Int32) : Prop := 
  (¬ n_h = 0 → 
    (y0 = 0 → wp_N_adjust_70 P n_rg n_z n_n n_h n_c x1 y0 (6 : Int32)) ∧
    (¬ y0 = 0 → wp_N_adjust_70 P n_rg n_z n_n n_h n_c x1 y0 ((6 : Int32) + (96 : Int32)))) ∧
  (n_h = 0 → 
    (¬ n_n = 0 → 
      (y0 = 0 → wp_N_adjust_70 P n_rg n_z n_n n_h n_c x1 y0 (0 : Int32)) ∧
      (¬ y0 = 0 → wp_N_adjust_70 P n_rg n_z n_n n_h n_c x1 y0 ((0 : Int32) + (96 : Int32)))) ∧
    (n_n = 0 → 
      ((x1 &&& (15 : Int32)) ≤ (9 : Int32) → 
        (y0 = 0 → wp_N_adjust_70 P n_rg n_z n_n n_h n_c x1 y0 (0 : Int32)) ∧
        (¬ y0 = 0 → wp_N_adjust_70 P n_rg n_z n_n n_h n_c x1 y0 ((0 : Int32) + (96 : Int32)))) ∧
      (¬ (x1 &&& (15 : Int32)) ≤ (9 : Int32) → 
        (y0 = 0 → wp_N_adjust_70 P n_rg n_z n_n n_h n_c x1 y0 (6 : Int32)) ∧
        (¬ y0 = 0 → wp_N_adjust_70 P n_rg n_z n_n n_h n_c x1 y0 ((6 : Int32) + (96 : Int32))))))
def wp_N_adjust (n_rg : Nat → Int32) (n_z n_n n_h n_c : Int32)  (P : (Nat → Int32) → (Int32) → (Int32) → (Int32) → (Int32) → Prop) : Prop := ∀ z1 : Int32, z1 = n_rg (7 : Int32).toNatClampNeg → 
  (¬ n_c = 0 → wp_N_adjust_34 P n_rg n_z n_n n_h n_c z1 (1 : Int32)) ∧
  (n_c = 0 → 
    (¬ n_n = 0 → wp_N_adjust_34 P n_rg n_z n_n n_h n_c z1 (0 : Int32)) ∧
    (n_n = 0 → 
      (z1 ≤ (153 : Int32) → wp_N_adjust_34 P n_rg n_z n_n n_h n_c z1 (0 : Int32)) ∧
      (¬ z1 ≤ (153 : Int32) → wp_N_adjust_34 P n_rg n_z n_n n_h n_c z1 (1 : Int32))))
def wp_N_begin_2  (P : (Nat → Int32) → (Nat → Int32) → (Int32) → (Int32) → (Int32) → (Int32) → (Int32) → (Int32) → (Nat → Int32) → (Int32) → (Int32) → (Int32) → (Int32) → (Int32) → (Int32) → (Int32) → (Int32) → (Int32) → (Int32) → Prop) : Nat → (Nat → Int32) → (Nat → Int32) → (Int32) → (Int32) → (Int32) → (Int32) → (Int32) → (Int32) → (Nat → Int32) → (Int32) → (Int32) → (Int32) → (Int32) → (Int32) → (Int32) → (Int32) → (Int32) → (Int32) → (Int32) → (Int32) → Prop
  | 0, _, _, _, _, _, _, _, _, _, _, _, _, _, _, _, _, _, _, _, _ => False
  | n9 + 1, m_ra, m_up, m_on, m_lo, m_hi, m_mo, m_ma, m_li, n_rg, n_st, n_pl, n_z, n_n, n_h, n_c, n_en, n_so, n_co, n_sc, x1 => 
    ((8 : Int32) ≤ x1 → wp_N_setFlags n_z n_n n_h n_c (0 : Int32) (0 : Int32) (0 : Int32) (0 : Int32) (fun w1 w2 w3 w4 => wp_M_begin m_ra m_up m_on m_lo m_hi m_mo m_ma m_li (fun w5 w6 w7 w8 w9 w10 w11 w12 => P w5 w6 w7 w8 w9 w10 w11 w12 n_rg (240 : Int32) (0 : Int32) w1 w2 w3 w4 (0 : Int32) (0 : Int32) (0 : Int32) (0 : Int32)))) ∧
    (¬ (8 : Int32) ≤ x1 → vp_in x1 8 ∧ ((wp_N_begin_2 P n9) m_ra m_up m_on m_lo m_hi m_mo m_ma m_li (upd n_rg x1.toNatClampNeg (0 : Int32)) n_st n_pl n_z n_n n_h n_c n_en n_so n_co n_sc (x1 + (1 : Int32))))
def wp_N_begin (m_ra m_up : Nat → Int32) (m_on m_lo m_hi m_mo m_ma m_li : Int32) (n_rg : Nat → Int32) (n_st n_pl n_z n_n n_h n_c n_en n_so n_co n_sc : Int32)  (P : (Nat → Int32) → (Nat → Int32) → (Int32) → (Int32) → (Int32) → (Int32) → (Int32) → (Int32) → (Nat → Int32) → (Int32) → (Int32) → (Int32) → (Int32) → (Int32) → (Int32) → (Int32) → (Int32) → (Int32) → (Int32) → Prop) : Prop := ∃ j9 : Nat, wp_N_begin_2 P j9 m_ra m_up m_on m_lo m_hi m_mo m_ma m_li n_rg n_st n_pl n_z n_n n_h n_c n_en n_so n_co n_sc (0 : Int32)
def wp_N_comesIn (n_c : Int32) (a1 a2 a3 : Int32) (P : Int32 → Prop) : Prop := 
  (a1 = (0 : Int32) → P a3) ∧
  (a1 = (1 : Int32) → P a3) ∧
  (a1 = (2 : Int32) → wp_N_carryBit n_c (fun r1 => P r1)) ∧
  (a1 = (3 : Int32) → wp_N_carryBit n_c (fun r2 => P r2)) ∧
  (a1 = (4 : Int32) → P (0 : Int32)) ∧
  (a1 = (5 : Int32) → P (a2 >>> ((7 : Int32) &&& 31))) ∧
  (¬ a1 = (0 : Int32) → ¬ a1 = (1 : Int32) → ¬ a1 = (2 : Int32) → ¬ a1 = (3 : Int32) → ¬ a1 = (4 : Int32) → ¬ a1 = (5 : Int32) → P (0 : Int32))
def wp_N_difference_54 (n_rg : Nat → Int32) (P : Int32 → (Int32) → (Int32) → (Int32) → (Int32) → Prop) (n_z n_n n_h n_c x4 y0 y1 y2 : Int32) : Prop := 
  (0 ≤ x4 → wp_N_setFlags n_z n_n n_h n_c y2 y1 y0 (0 : Int32) (fun w4 w5 w6 w7 => P (x4 &&& (255 : Int32)) w4 w5 w6 w7)) ∧
  (¬ 0 ≤ x4 → wp_N_setFlags n_z n_n n_h n_c y2 y1 y0 (1 : Int32) (fun w8 w9 w10 w11 => P (x4 &&& (255 : Int32)) w8 w9 w10 w11))
def wp_N_difference (n_rg : Nat → Int32) (n_z n_n n_h n_c : Int32) (a1 a2 : Int32) (P : Int32 → (Int32) → (Int32) → (Int32) → (Int32) → Prop) : Prop := ∀ z1 : Int32, z1 = n_rg (7 : Int32).toNatClampNeg → ∀ z2 : Int32, z2 = (z1 - a1) - a2 → ∀ z3 : Int32, z3 = ((z1 &&& (15 : Int32)) - (a1 &&& (15 : Int32))) - a2 → 
  (¬ (z2 &&& (255 : Int32)) = 0 → 
    (0 ≤ z3 → wp_N_difference_54 n_rg P n_z n_n n_h n_c z2 (0 : Int32) (1 : Int32) (0 : Int32)) ∧
    (¬ 0 ≤ z3 → wp_N_difference_54 n_rg P n_z n_n n_h n_c z2 (1 : Int32) (1 : Int32) (0 : Int32))) ∧
  ((z2 &&& (255 : Int32)) = 0 → 
    (0 ≤ z3 → wp_N_difference_54 n_rg P n_z n_n n_h n_c z2 (0 : Int32) (1 : Int32) (1 : Int32)) ∧
    (¬ 0 ≤ z3 → wp_N_difference_54 n_rg P n_z n_n n_h n_c z2 (1 : Int32) (1 : Int32) (1 : Int32)))
def wp_N_exchanged_10  (P : Int32 → (Int32) → (Int32) → (Int32) → (Int32) → Prop) (n_z n_n n_h n_c x1 y0 : Int32) : Prop := wp_N_setFlags n_z n_n n_h n_c y0 (0 : Int32) (0 : Int32) (0 : Int32) (fun w1 w2 w3 w4 => P (((x1 <<< ((4 : Int32) &&& 31)) &&& (240 : Int32)) ||| (x1 >>> ((4 : Int32) &&& 31))) w1 w2 w3 w4)
def wp_N_exchanged (n_z n_n n_h n_c : Int32) (a1 : Int32) (P : Int32 → (Int32) → (Int32) → (Int32) → (Int32) → Prop) : Prop := 
  (¬ a1 = 0 → wp_N_exchanged_10 P n_z n_n n_h n_c a1 (0 : Int32)) ∧
  (a1 = 0 → wp_N_exchanged_10 P n_z n_n n_h n_c a1 (1 : Int32))
def wp_N_oneLess_18  (P : Int32 → (Int32) → (Int32) → (Int32) → (Int32) → Prop) (n_z n_n n_h n_c x1 x2 y0 : Int32) : Prop := 
  (¬ (x1 &&& (15 : Int32)) = 0 → wp_N_setFlags n_z n_n n_h n_c y0 (1 : Int32) (0 : Int32) n_c (fun w2 w3 w4 w5 => P x2 w2 w3 w4 w5)) ∧
  ((x1 &&& (15 : Int32)) = 0 → wp_N_setFlags n_z n_n n_h n_c y0 (1 : Int32) (1 : Int32) n_c (fun w6 w7 w8 w9 => P x2 w6 w7 w8 w9))
def wp_N_oneLess (n_z n_n n_h n_c : Int32) (a1 : Int32) (P : Int32 → (Int32) → (Int32) → (Int32) → (Int32) → Prop) : Prop := ∀ z1 : Int32, z1 = (a1 - (1 : Int32)) &&& (255 : Int32) → 
  (¬ z1 = 0 → wp_N_oneLess_18 P n_z n_n n_h n_c a1 z1 (0 : Int32)) ∧
  (z1 = 0 → wp_N_oneLess_18 P n_z n_n n_h n_c a1 z1 (1 : Int32))
def wp_N_oneMore_18  (P : Int32 → (Int32) → (Int32) → (Int32) → (Int32) → Prop) (n_z n_n n_h n_c x2 y0 : Int32) : Prop := 
  (¬ (x2 &&& (15 : Int32)) = 0 → wp_N_setFlags n_z n_n n_h n_c y0 (0 : Int32) (0 : Int32) n_c (fun w2 w3 w4 w5 => P x2 w2 w3 w4 w5)) ∧
  ((x2 &&& (15 : Int32)) = 0 → wp_N_setFlags n_z n_n n_h n_c y0 (0 : Int32) (1 : Int32) n_c (fun w6 w7 w8 w9 => P x2 w6 w7 w8 w9))
def wp_N_oneMore (n_z n_n n_h n_c : Int32) (a1 : Int32) (P : Int32 → (Int32) → (Int32) → (Int32) → (Int32) → Prop) : Prop := ∀ z1 : Int32, z1 = (a1 + (1 : Int32)) &&& (255 : Int32) → 
  (¬ z1 = 0 → wp_N_oneMore_18 P n_z n_n n_h n_c z1 (0 : Int32)) ∧
  (z1 = 0 → wp_N_oneMore_18 P n_z n_n n_h n_c z1 (1 : Int32))
def wp_N_sum_56 (n_rg : Nat → Int32) (P : Int32 → (Int32) → (Int32) → (Int32) → (Int32) → Prop) (n_z n_n n_h n_c x4 y0 y1 y2 : Int32) : Prop := 
  (x4 ≤ (255 : Int32) → wp_N_setFlags n_z n_n n_h n_c y2 y1 y0 (0 : Int32) (fun w4 w5 w6 w7 => P (x4 &&& (255 : Int32)) w4 w5 w6 w7)) ∧
  (¬ x4 ≤ (255 : Int32) → wp_N_setFlags n_z n_n n_h n_c y2 y1 y0 (1 : Int32) (fun w8 w9 w10 w11 => P (x4 &&& (255 : Int32)) w8 w9 w10 w11))
def wp_N_sum (n_rg : Nat → Int32) (n_z n_n n_h n_c : Int32) (a1 a2 : Int32) (P : Int32 → (Int32) → (Int32) → (Int32) → (Int32) → Prop) : Prop := ∀ z1 : Int32, z1 = n_rg (7 : Int32).toNatClampNeg → ∀ z2 : Int32, z2 = (z1 + a1) + a2 → ∀ z3 : Int32, z3 = ((z1 &&& (15 : Int32)) + (a1 &&& (15 : Int32))) + a2 → 
  (¬ (z2 &&& (255 : Int32)) = 0 → 
    (z3 ≤ (15 : Int32) → wp_N_sum_56 n_rg P n_z n_n n_h n_c z2 (0 : Int32) (0 : Int32) (0 : Int32)) ∧
    (¬ z3 ≤ (15 : Int32) → wp_N_sum_56 n_rg P n_z n_n n_h n_c z2 (1 : Int32) (0 : Int32) (0 : Int32))) ∧
  ((z2 &&& (255 : Int32)) = 0 → 
    (z3 ≤ (15 : Int32) → wp_N_sum_56 n_rg P n_z n_n n_h n_c z2 (0 : Int32) (0 : Int32) (1 : Int32)) ∧
    (¬ z3 ≤ (15 : Int32) → wp_N_sum_56 n_rg P n_z n_n n_h n_c z2 (1 : Int32) (0 : Int32) (1 : Int32)))
def wp_M_read (k_ce : Nat → Int32) (k_bc : Int32) (m_ra m_up : Nat → Int32) (m_on m_lo m_hi m_mo m_ma m_li : Int32) (a1 : Int32) (P : Int32 → Prop) : Prop := 
  ((64 : Int32) ≤ a1 → 
    ((128 : Int32) ≤ a1 → 
      ((192 : Int32) ≤ a1 → 
        ((254 : Int32) ≤ a1 → 
          (¬ a1 = (254 : Int32) → P m_li) ∧
          (a1 = (254 : Int32) → P m_ma)) ∧
        (¬ (254 : Int32) ≤ a1 → vp_in (a1 - (192 : Int32)) 62 ∧ (P (m_up (a1 - (192 : Int32)).toNatClampNeg)))) ∧
      (¬ (192 : Int32) ≤ a1 → 
        (m_on = 0 → P (255 : Int32)) ∧
        (¬ m_on = 0 → wp_M_ramPlace m_hi m_mo a1 (fun r1 => vp_in r1 128 ∧ (P (m_ra r1.toNatClampNeg)))))) ∧
    (¬ (128 : Int32) ≤ a1 → wp_K_at k_ce k_bc (((4 : Int32) * m_hi) + m_lo) (a1 - (64 : Int32)) (fun r2 => P r2))) ∧
  (¬ (64 : Int32) ≤ a1 → 
    (¬ m_mo = (1 : Int32) → wp_K_at k_ce k_bc (0 : Int32) a1 (fun r3 => P r3)) ∧
    (m_mo = (1 : Int32) → wp_K_at k_ce k_bc ((4 : Int32) * m_hi) a1 (fun r4 => P r4)))
def wp_M_write (m_ra m_up : Nat → Int32) (m_on m_lo m_hi m_mo m_ma m_li : Int32) (a1 a2 : Int32) (P : (Nat → Int32) → (Nat → Int32) → (Int32) → (Int32) → (Int32) → (Int32) → (Int32) → (Int32) → Prop) : Prop := 
  ((128 : Int32) ≤ a1 → 
    ((192 : Int32) ≤ a1 → 
      ((254 : Int32) ≤ a1 → 
        (¬ a1 = (254 : Int32) → P m_ra m_up m_on m_lo m_hi m_mo m_ma (a2 &&& (15 : Int32))) ∧
        (a1 = (254 : Int32) → P m_ra m_up m_on m_lo m_hi m_mo (a2 &&& (15 : Int32)) m_li)) ∧
      (¬ (254 : Int32) ≤ a1 → vp_in (a1 - (192 : Int32)) 62 ∧ (P m_ra (upd m_up (a1 - (192 : Int32)).toNatClampNeg a2) m_on m_lo m_hi m_mo m_ma m_li))) ∧
    (¬ (192 : Int32) ≤ a1 → 
      (m_on = 0 → P m_ra m_up m_on m_lo m_hi m_mo m_ma m_li) ∧
      (¬ m_on = 0 → wp_M_ramPlace m_hi m_mo a1 (fun r1 => vp_in r1 128 ∧ (P (upd m_ra r1.toNatClampNeg a2) m_up m_on m_lo m_hi m_mo m_ma m_li))))) ∧
  (¬ (128 : Int32) ≤ a1 → wp_M_turnSwitch m_on m_lo m_hi m_mo (a1 / (32 : Int32)) a2 (fun w2 w3 w4 w5 => P m_ra m_up w2 w3 w4 w5 m_ma m_li))
def wp_P_packLowest_3  (P : Int32 → (Nat → Int32) → (Nat → Int32) → (Nat → Int32) → Prop) : Nat → (Nat → Int32) → (Nat → Int32) → (Nat → Int32) → (Int32) → (Int32) → (Int32) → (Int32) → Prop
  | 0, _, _, _, _, _, _, _ => False
  | n9 + 1, t_bk, t_of, t_en, x1, x2, x3, x4 => 
    (x3 ≤ x4 → P (0 : Int32) t_bk t_of t_en) ∧
    (¬ x3 ≤ x4 → wp_P_fits t_en x4 x2 (fun r1 => 
      (r1 = 0 → (wp_P_packLowest_3 P n9) t_bk t_of t_en x1 x2 x3 (x4 + (1 : Int32))) ∧
      (¬ r1 = 0 → wp_P_put t_bk t_of t_en x1 x4 x2 (fun w2 w3 w4 => P (1 : Int32) w2 w3 w4))))
def wp_P_packLowest (t_bk t_of t_en : Nat → Int32) (a1 a2 a3 : Int32) (P : Int32 → (Nat → Int32) → (Nat → Int32) → (Nat → Int32) → Prop) : Prop := ∃ j9 : Nat, wp_P_packLowest_3 P j9 t_bk t_of t_en a1 a2 a3 (0 : Int32)
def wp_P_packPinned_2 (s_bk s_ln : Nat → Int32) (t_ct : Int32) (P : Int32 → (Nat → Int32) → (Nat → Int32) → (Nat → Int32) → Prop) : Nat → (Nat → Int32) → (Nat → Int32) → (Nat → Int32) → (Int32) → (Int32) → Prop
  | 0, _, _, _, _, _ => False
  | n9 + 1, t_bk, t_of, t_en, x2, x3 => 
    (t_ct ≤ x3 → P (1 : Int32) t_bk t_of t_en) ∧
    (¬ t_ct ≤ x3 → vp_in x3 10 ∧ (∀ z1 : Int32, z1 = s_bk x3.toNatClampNeg → 
      (¬ z1 = (-1 : Int32) → 
        (x2 ≤ z1 → P (0 : Int32) t_bk t_of t_en) ∧
        (¬ x2 ≤ z1 → vp_in x3 10 ∧ (wp_P_fits t_en z1 (s_ln x3.toNatClampNeg) (fun r2 => 
          (¬ r2 = 0 → vp_in x3 10 ∧ (wp_P_put t_bk t_of t_en x3 z1 (s_ln x3.toNatClampNeg) (fun w3 w4 w5 => (wp_P_packPinned_2 s_bk s_ln t_ct P n9) w3 w4 w5 x2 (x3 + (1 : Int32))))) ∧
          (r2 = 0 → P (0 : Int32) t_bk t_of t_en))))) ∧
      (z1 = (-1 : Int32) → (wp_P_packPinned_2 s_bk s_ln t_ct P n9) t_bk t_of t_en x2 (x3 + (1 : Int32)))))
def wp_P_packPinned (s_bk s_ln t_bk t_of t_en : Nat → Int32) (t_ct : Int32) (a2 : Int32) (P : Int32 → (Nat → Int32) → (Nat → Int32) → (Nat → Int32) → Prop) : Prop := ∃ j9 : Nat, wp_P_packPinned_2 s_bk s_ln t_ct P j9 t_bk t_of t_en a2 (0 : Int32)
def wp_Q_byteSent (q_code q_sent : Int32) (q_out : Nat → Int32) (a1 : Int32) (P : Int32 → (Int32) → Prop) : Prop := wp_Q_outside a1 (0 : Int32) (q_sent - (1 : Int32)) (fun r1 => 
  (¬ r1 = 0 → wp_Q_refuse q_code (1 : Int32) (fun r2 w3 => P r2 w3)) ∧
  (r1 = 0 → 
    (a1 ≤ (99 : Int32) → vp_in a1 100 ∧ (P (q_out a1.toNatClampNeg) (0 : Int32))) ∧
    (¬ a1 ≤ (99 : Int32) → wp_Q_refuse q_code (1 : Int32) (fun r4 w5 => P r4 w5))))
def wp_Q_bytes_34 (q_many : Int32) (P : (Int32) → (Nat → Int32) → (Nat → Int32) → (Nat → Int32) → Prop) : Nat → (Int32) → (Nat → Int32) → (Nat → Int32) → (Nat → Int32) → (Int32) → (Int32) → Prop
  | 0, _, _, _, _, _, _ => False
  | n9 + 1, q_code, q_size, q_bytes, q_kind, x1, x3 => 
    (x3 < 0 → P q_code q_size q_bytes q_kind) ∧
    (¬ x3 < 0 → 
      (¬ q_code = 0 → P q_code q_size q_bytes q_kind) ∧
      (q_code = 0 → wp_Q_append q_many q_size q_bytes q_kind (0 : Int32) (x1 >>> (((8 : Int32) * x3) &&& 31)) (fun w6 w7 w8 => (wp_Q_bytes_34 q_many P n9) q_code w6 w7 w8 x1 (x3 + (-1 : Int32)))))
def wp_Q_bytes (q_code q_many : Int32) (q_size q_bytes q_kind : Nat → Int32) (a1 a2 : Int32) (P : (Int32) → (Nat → Int32) → (Nat → Int32) → (Nat → Int32) → Prop) : Prop := wp_Q_outside a2 (1 : Int32) (4 : Int32) (fun r1 => 
  (r1 = 0 → wp_Q_room q_many q_size a2 (fun r2 => 
    (r2 = 0 → ∀ z3 : Int32, z3 = a2 - (1 : Int32) → ∃ j9 : Nat, wp_Q_bytes_34 q_many P j9 (2 : Int32) q_size q_bytes q_kind a1 z3) ∧
    (¬ r2 = 0 → ∀ z4 : Int32, z4 = a2 - (1 : Int32) → ∃ j9 : Nat, wp_Q_bytes_34 q_many P j9 (0 : Int32) q_size q_bytes q_kind a1 z4))) ∧
  (¬ r1 = 0 → ∀ z5 : Int32, z5 = a2 - (1 : Int32) → ∃ j9 : Nat, wp_Q_bytes_34 q_many P j9 (1 : Int32) q_size q_bytes q_kind a1 z5))
def wp_Q_count (q_zero q_less q_half q_carry : Int32) (a1 a2 : Int32) (P : Int32 → (Int32) → (Int32) → (Int32) → (Int32) → Prop) : Prop := 
  (a2 = 0 → wp_Q_take q_zero q_less q_half q_carry a1 (1 : Int32) (0 : Int32) (fun r1 w2 w3 w4 w5 => (q_carry = 0 ∨ q_carry = 1) ∧ (P r1 w2 w3 w4 q_carry))) ∧
  (¬ a2 = 0 → wp_Q_add q_zero q_less q_half q_carry a1 (1 : Int32) (0 : Int32) (fun r6 w7 w8 w9 w10 => (q_carry = 0 ∨ q_carry = 1) ∧ (P r6 w7 w8 w9 q_carry)))
def wp_Q_headByte (q_address : Nat → Int32) (q_banks : Int32) (a1 : Int32) (P : Int32 → Prop) : Prop := 
  ((2 : Int32) ≤ a1 → 
    ((7 : Int32) ≤ a1 → 
      ((16 : Int32) ≤ a1 → 
        (¬ (a1 - a1 / (4 : Int32) * (4 : Int32)) = 0 → 
          (¬ (a1 - a1 / (4 : Int32) * (4 : Int32)) = (1 : Int32) → P (0 : Int32)) ∧
          ((a1 - a1 / (4 : Int32) * (4 : Int32)) = (1 : Int32) → P (10 : Int32))) ∧
        ((a1 - a1 / (4 : Int32) * (4 : Int32)) = 0 → P (1 : Int32))) ∧
      (¬ (16 : Int32) ≤ a1 → P (0 : Int32))) ∧
    (¬ (7 : Int32) ≤ a1 → wp_Q_mark q_banks a1 (fun r1 => P r1))) ∧
  (¬ (2 : Int32) ≤ a1 → 
    (¬ a1 = 0 → P (q_address (0 : Int32).toNatClampNeg)) ∧
    (a1 = 0 → P (192 : Int32)))
def wp_Q_image (q_code q_banks : Int32) (q_memory : Nat → Int32) (a1 : Int32) (P : Int32 → (Int32) → Prop) : Prop := wp_Q_outside a1 (0 : Int32) (((64 : Int32) * q_banks) - (1 : Int32)) (fun r1 => 
  (r1 = 0 → vp_in a1 705 ∧ (P (q_memory a1.toNatClampNeg) (0 : Int32))) ∧
  (¬ r1 = 0 → wp_Q_refuse q_code (1 : Int32) (fun r2 w3 => P r2 w3)))
def wp_Q_mended (q_code q_many : Int32) (q_size q_bytes q_kind : Nat → Int32) (a1 a2 : Int32) (P : (Int32) → (Nat → Int32) → (Nat → Int32) → (Nat → Int32) → Prop) : Prop := wp_Q_outside a1 (1 : Int32) (2 : Int32) (fun r1 => 
  (¬ r1 = 0 → P (1 : Int32) q_size q_bytes q_kind) ∧
  (r1 = 0 → wp_Q_outside a2 (0 : Int32) (9 : Int32) (fun r2 => 
    (r2 = 0 → wp_Q_room q_many q_size (1 : Int32) (fun r3 => 
      (r3 = 0 → P (2 : Int32) q_size q_bytes q_kind) ∧
      (¬ r3 = 0 → wp_Q_append q_many q_size q_bytes q_kind a1 a2 (fun w4 w5 w6 => P (0 : Int32) w4 w5 w6)))) ∧
    (¬ r2 = 0 → P (1 : Int32) q_size q_bytes q_kind))))
def wp_Q_pack_113 (q_many : Int32) (q_pin q_size : Nat → Int32) (K76 : (Nat → Int32) → (Nat → Int32) → (Nat → Int32) → Int32 → Int32 → Prop) (K82 : (Nat → Int32) → (Nat → Int32) → (Nat → Int32) → Int32 → Int32 → Int32 → Prop) (P : Int32 → (Nat → Int32) → (Nat → Int32) → (Nat → Int32) → Prop) : Nat → (Nat → Int32) → (Nat → Int32) → (Nat → Int32) → (Int32) → (Int32) → (Int32) → (Int32) → Prop
  | 0, _, _, _, _, _, _, _ => False
  | n9 + 1, q_bank, q_address, q_full, x1, x2, x3, x4 => 
    (x1 ≤ x4 → 
      (¬ x4 = x1 → K82 q_bank q_address q_full x1 x2 (x3 + (1 : Int32))) ∧
      (x4 = x1 → P (0 : Int32) q_bank q_address q_full)) ∧
    (¬ x1 ≤ x4 → wp_Q_put q_size q_bank q_address q_full x3 x4 x1 (fun r5 w6 w7 w8 => 
      (¬ r5 = 0 → 
        (¬ x4 = x1 → K82 w6 w7 w8 x1 x2 (x3 + (1 : Int32))) ∧
        (x4 = x1 → P (0 : Int32) w6 w7 w8)) ∧
      (r5 = 0 → (wp_Q_pack_113 q_many q_pin q_size K76 K82 P n9) w6 w7 w8 x1 x2 x3 (x4 + (1 : Int32)))))
def wp_Q_pack_82 (q_many : Int32) (q_pin q_size : Nat → Int32) (K76 : (Nat → Int32) → (Nat → Int32) → (Nat → Int32) → Int32 → Int32 → Prop) (P : Int32 → (Nat → Int32) → (Nat → Int32) → (Nat → Int32) → Prop) : Nat → (Nat → Int32) → (Nat → Int32) → (Nat → Int32) → (Int32) → (Int32) → (Int32) → Prop
  | 0, _, _, _, _, _, _ => False
  | n9 + 1, q_bank, q_address, q_full, x1, x2, x3 => 
    (q_many ≤ x3 → K76 q_bank q_address q_full x1 (x2 + (-1 : Int32))) ∧
    (¬ q_many ≤ x3 → vp_in x3 10 ∧ (
      (¬ (q_pin x3.toNatClampNeg) = (-1 : Int32) → (wp_Q_pack_82 q_many q_pin q_size K76 P n9) q_bank q_address q_full x1 x2 (x3 + (1 : Int32))) ∧
      ((q_pin x3.toNatClampNeg) = (-1 : Int32) → vp_in x3 10 ∧ (
        (¬ (q_size x3.toNatClampNeg) = x2 → (wp_Q_pack_82 q_many q_pin q_size K76 P n9) q_bank q_address q_full x1 x2 (x3 + (1 : Int32))) ∧
        ((q_size x3.toNatClampNeg) = x2 → ∃ j9 : Nat, wp_Q_pack_113 q_many q_pin q_size K76 (wp_Q_pack_82 q_many q_pin q_size K76 P n9) P j9 q_bank q_address q_full x1 x2 x3 (0 : Int32))))))
def wp_Q_pack_76 (q_many : Int32) (q_pin q_size : Nat → Int32) (P : Int32 → (Nat → Int32) → (Nat → Int32) → (Nat → Int32) → Prop) : Nat → (Nat → Int32) → (Nat → Int32) → (Nat → Int32) → (Int32) → (Int32) → Prop
  | 0, _, _, _, _, _ => False
  | n9 + 1, q_bank, q_address, q_full, x1, x2 => 
    (x2 < 0 → P (1 : Int32) q_bank q_address q_full) ∧
    (¬ x2 < 0 → ∃ j9 : Nat, wp_Q_pack_82 q_many q_pin q_size (wp_Q_pack_76 q_many q_pin q_size P n9) P j9 q_bank q_address q_full x1 x2 (0 : Int32))
def wp_Q_pack_32 (q_many : Int32) (q_pin q_size : Nat → Int32) (P : Int32 → (Nat → Int32) → (Nat → Int32) → (Nat → Int32) → Prop) : Nat → (Nat → Int32) → (Nat → Int32) → (Nat → Int32) → (Int32) → (Int32) → Prop
  | 0, _, _, _, _, _ => False
  | n9 + 1, q_bank, q_address, q_full, x1, x2 => 
    (q_many ≤ x2 → ∃ j9 : Nat, wp_Q_pack_76 q_many q_pin q_size P j9 q_bank q_address q_full x1 (48 : Int32)) ∧
    (¬ q_many ≤ x2 → vp_in x2 10 ∧ (
      ((q_pin x2.toNatClampNeg) = (-1 : Int32) → (wp_Q_pack_32 q_many q_pin q_size P n9) q_bank q_address q_full x1 (x2 + (1 : Int32))) ∧
      (¬ (q_pin x2.toNatClampNeg) = (-1 : Int32) → vp_in x2 10 ∧ (wp_Q_put q_size q_bank q_address q_full x2 (q_pin x2.toNatClampNeg) x1 (fun r1 w2 w3 w4 => 
        (¬ r1 = 0 → (wp_Q_pack_32 q_many q_pin q_size P n9) w2 w3 w4 x1 (x2 + (1 : Int32))) ∧
        (r1 = 0 → P (0 : Int32) w2 w3 w4))))))
def wp_Q_pack_2 (q_many : Int32) (q_pin q_size : Nat → Int32) (P : Int32 → (Nat → Int32) → (Nat → Int32) → (Nat → Int32) → Prop) : Nat → (Nat → Int32) → (Nat → Int32) → (Nat → Int32) → (Int32) → (Int32) → Prop
  | 0, _, _, _, _, _ => False
  | n9 + 1, q_bank, q_address, q_full, x1, x2 => 
    ((8 : Int32) ≤ x2 → ∃ j9 : Nat, wp_Q_pack_32 q_many q_pin q_size P j9 q_bank q_address q_full x1 (0 : Int32)) ∧
    (¬ (8 : Int32) ≤ x2 → 
      (¬ x2 = 0 → vp_in x2 8 ∧ ((wp_Q_pack_2 q_many q_pin q_size P n9) q_bank q_address (upd q_full x2.toNatClampNeg (0 : Int32)) x1 (x2 + (1 : Int32)))) ∧
      (x2 = 0 → vp_in x2 8 ∧ ((wp_Q_pack_2 q_many q_pin q_size P n9) q_bank q_address (upd q_full x2.toNatClampNeg (32 : Int32)) x1 (x2 + (1 : Int32)))))
def wp_Q_pack (q_many : Int32) (q_pin q_size q_bank q_address q_full : Nat → Int32) (a1 : Int32) (P : Int32 → (Nat → Int32) → (Nat → Int32) → (Nat → Int32) → Prop) : Prop := ∃ j9 : Nat, wp_Q_pack_2 q_many q_pin q_size P j9 q_bank q_address q_full a1 (0 : Int32)
def wp_Q_packed (q_code q_linked : Int32) (q_packedBank q_packedAddress : Nat → Int32) (a1 a2 : Int32) (P : Int32 → (Int32) → Prop) : Prop := wp_Q_outside a1 (0 : Int32) (q_linked - (1 : Int32)) (fun r1 => 
  (¬ r1 = 0 → wp_Q_refuse q_code (1 : Int32) (fun r2 w3 => P r2 w3)) ∧
  (r1 = 0 → wp_Q_outside a2 (0 : Int32) (1 : Int32) (fun r4 => 
    (r4 = 0 → 
      (¬ a2 = 0 → vp_in a1 10 ∧ (P (q_packedAddress a1.toNatClampNeg) (0 : Int32))) ∧
      (a2 = 0 → vp_in a1 10 ∧ (P (q_packedBank a1.toNatClampNeg) (0 : Int32)))) ∧
    (¬ r4 = 0 → wp_Q_refuse q_code (1 : Int32) (fun r5 w6 => P r5 w6)))))
def wp_Q_raise_15  (P : (Int32) → (Nat → Int32) → Prop) (q_code : Int32) (q_memory : Nat → Int32) (x1 y0 : Int32) : Prop := 
  (¬ y0 = 0 → P y0 q_memory) ∧
  (y0 = 0 → P y0 (upd q_memory (703 : Int32).toNatClampNeg ((q_memory (703 : Int32).toNatClampNeg) ||| ((1 : Int32) <<< (x1 &&& 31)))))
def wp_Q_raise (q_code : Int32) (q_memory : Nat → Int32) (a1 : Int32) (P : (Int32) → (Nat → Int32) → Prop) : Prop := wp_Q_outside a1 (0 : Int32) (3 : Int32) (fun r1 => 
  (r1 = 0 → wp_Q_raise_15 P q_code q_memory a1 (0 : Int32)) ∧
  (¬ r1 = 0 → wp_Q_raise_15 P q_code q_memory a1 (1 : Int32)))
def wp_Q_read (q_banks : Int32) (q_memory : Nat → Int32) (q_ram q_low q_top q_mode : Int32) (a1 : Int32) (P : Int32 → Prop) : Prop := wp_Q_where q_banks q_ram q_low q_top q_mode a1 (fun r1 => vp_in r1 705 ∧ (P (q_memory r1.toNatClampNeg)))
def wp_Q_reckon_20  (P : (Nat → Int32) → (Int32) → (Int32) → (Int32) → (Int32) → Prop) (q_register : Nat → Int32) (q_zero q_less q_half q_carry x1 x2 x3 y0 : Int32) : Prop := 
  ((2 : Int32) ≤ x1 → 
    ((4 : Int32) ≤ x1 → 
      (¬ x1 = (4 : Int32) → 
        (¬ x1 = (5 : Int32) → 
          (¬ x1 = (6 : Int32) → wp_Q_take q_zero q_less q_half q_carry x3 x2 (0 : Int32) (fun r2 w3 w4 w5 w6 => P q_register w3 w4 w5 w6)) ∧
          (x1 = (6 : Int32) → wp_Q_plain q_zero q_less q_half q_carry (x3 ||| x2) (0 : Int32) (fun r7 w8 w9 w10 w11 => P (upd q_register (7 : Int32).toNatClampNeg r7) w8 w9 w10 w11))) ∧
        (x1 = (5 : Int32) → wp_Q_plain q_zero q_less q_half q_carry (x3 ^^^ x2) (0 : Int32) (fun r12 w13 w14 w15 w16 => P (upd q_register (7 : Int32).toNatClampNeg r12) w13 w14 w15 w16))) ∧
      (x1 = (4 : Int32) → wp_Q_plain q_zero q_less q_half q_carry (x3 &&& x2) (1 : Int32) (fun r17 w18 w19 w20 w21 => P (upd q_register (7 : Int32).toNatClampNeg r17) w18 w19 w20 w21))) ∧
    (¬ (4 : Int32) ≤ x1 → wp_Q_take q_zero q_less q_half q_carry x3 x2 ((x1 - (2 : Int32)) * y0) (fun r22 w23 w24 w25 w26 => P (upd q_register (7 : Int32).toNatClampNeg r22) w23 w24 w25 w26))) ∧
  (¬ (2 : Int32) ≤ x1 → wp_Q_add q_zero q_less q_half q_carry x3 x2 (x1 * y0) (fun r27 w28 w29 w30 w31 => P (upd q_register (7 : Int32).toNatClampNeg r27) w28 w29 w30 w31))
def wp_Q_reckon (q_register : Nat → Int32) (q_zero q_less q_half q_carry : Int32) (a1 a2 : Int32) (P : (Nat → Int32) → (Int32) → (Int32) → (Int32) → (Int32) → Prop) : Prop := ∀ z1 : Int32, z1 = q_register (7 : Int32).toNatClampNeg → 
  (q_carry = 0 → wp_Q_reckon_20 P q_register q_zero q_less q_half q_carry a1 a2 z1 (0 : Int32)) ∧
  (¬ q_carry = 0 → wp_Q_reckon_20 P q_register q_zero q_less q_half q_carry a1 a2 z1 (1 : Int32))
def wp_Q_restart (q_code : Int32) (q_memory q_register : Nat → Int32) (q_stack q_place q_zero q_less q_half q_carry q_enabled q_soon q_ram q_low q_top q_mode q_state q_sent : Int32)  (P : (Int32) → (Nat → Int32) → (Nat → Int32) → (Int32) → (Int32) → (Int32) → (Int32) → (Int32) → (Int32) → (Int32) → (Int32) → (Int32) → (Int32) → (Int32) → (Int32) → (Int32) → (Int32) → Prop) : Prop := wp_Q_begin q_memory q_register q_stack q_place q_zero q_less q_half q_carry q_enabled q_soon q_ram q_low q_top q_mode q_state q_sent (fun w1 w2 w3 w4 w5 w6 w7 w8 w9 w10 w11 w12 w13 w14 w15 w16 => P (0 : Int32) w1 w2 w3 w4 w5 w6 w7 w8 w9 w10 w11 w12 w13 w14 w15 w16)
def wp_Q_section_29  (P : Int32 → (Int32) → (Int32) → (Nat → Int32) → (Nat → Int32) → Prop) (q_code q_many : Int32) (q_pin q_size : Nat → Int32) (x1 y0 : Int32) : Prop := 
  (y0 ≤ 0 → vp_in q_many 10 ∧ (vp_in q_many 10 ∧ (P ((q_many + (1 : Int32)) - (1 : Int32)) y0 (q_many + (1 : Int32)) (upd q_pin q_many.toNatClampNeg x1) (upd q_size q_many.toNatClampNeg (0 : Int32))))) ∧
  (¬ y0 ≤ 0 → P (0 : Int32) y0 q_many q_pin q_size)
def wp_Q_section (q_code q_many : Int32) (q_pin q_size : Nat → Int32) (a1 : Int32) (P : Int32 → (Int32) → (Int32) → (Nat → Int32) → (Nat → Int32) → Prop) : Prop := wp_Q_outside a1 (-1 : Int32) (7 : Int32) (fun r1 => 
  (r1 = 0 → 
    (¬ q_many = (10 : Int32) → wp_Q_section_29 P q_code q_many q_pin q_size a1 (0 : Int32)) ∧
    (q_many = (10 : Int32) → wp_Q_section_29 P q_code q_many q_pin q_size a1 (2 : Int32))) ∧
  (¬ r1 = 0 → wp_Q_section_29 P q_code q_many q_pin q_size a1 (1 : Int32)))
def wp_Q_spoil (q_code q_banks : Int32) (q_memory : Nat → Int32) (a1 a2 : Int32) (P : (Int32) → (Nat → Int32) → Prop) : Prop := wp_Q_outside a1 (0 : Int32) (((64 : Int32) * q_banks) - (1 : Int32)) (fun r1 => 
  (r1 = 0 → vp_in a1 705 ∧ (P (0 : Int32) (upd q_memory a1.toNatClampNeg (a2 &&& (255 : Int32))))) ∧
  (¬ r1 = 0 → P (1 : Int32) q_memory))
def wp_Q_turned_109  (P : Int32 → (Int32) → (Int32) → (Int32) → (Int32) → Prop) (q_zero q_less q_half q_carry x4 y0 : Int32) : Prop := wp_Q_plain q_zero q_less q_half q_carry y0 (0 : Int32) (fun r1 w2 w3 w4 w5 => 
  (¬ x4 = (1 : Int32) → P r1 w2 w3 w4 (0 : Int32)) ∧
  (x4 = (1 : Int32) → P r1 w2 w3 w4 (1 : Int32)))
def wp_Q_turned_79  (P : Int32 → (Int32) → (Int32) → (Int32) → (Int32) → Prop) (q_zero q_less q_half q_carry x2 x3 x4 y0 : Int32) : Prop := 
  (x3 = 0 → wp_Q_turned_109 P q_zero q_less q_half q_carry x4 ((x2 / (2 : Int32)) + ((128 : Int32) * y0))) ∧
  (¬ x3 = 0 → wp_Q_turned_109 P q_zero q_less q_half q_carry x4 (((x2 * (2 : Int32)) - (x2 * (2 : Int32)) / (256 : Int32) * (256 : Int32)) + y0))
def wp_Q_turned_33  (P : Int32 → (Int32) → (Int32) → (Int32) → (Int32) → Prop) (q_zero q_less q_half q_carry x1 x2 x3 y0 : Int32) : Prop := 
  ((2 : Int32) ≤ x1 → 
    ((4 : Int32) ≤ x1 → 
      (¬ x1 = (5 : Int32) → wp_Q_turned_79 P q_zero q_less q_half q_carry x2 x3 y0 (0 : Int32)) ∧
      (x1 = (5 : Int32) → wp_Q_turned_79 P q_zero q_less q_half q_carry x2 x3 y0 (x2 / (128 : Int32)))) ∧
    (¬ (4 : Int32) ≤ x1 → 
      (q_carry = 0 → wp_Q_turned_79 P q_zero q_less q_half q_carry x2 x3 y0 (0 : Int32)) ∧
      (¬ q_carry = 0 → wp_Q_turned_79 P q_zero q_less q_half q_carry x2 x3 y0 (1 : Int32)))) ∧
  (¬ (2 : Int32) ≤ x1 → wp_Q_turned_79 P q_zero q_less q_half q_carry x2 x3 y0 y0)
def wp_Q_turned (q_zero q_less q_half q_carry : Int32) (a1 a2 : Int32) (P : Int32 → (Int32) → (Int32) → (Int32) → (Int32) → Prop) : Prop := 
  (¬ (a1 - a1 / (2 : Int32) * (2 : Int32)) = 0 → wp_Q_turned_33 P q_zero q_less q_half q_carry a1 a2 (0 : Int32) (a2 - a2 / (2 : Int32) * (2 : Int32))) ∧
  ((a1 - a1 / (2 : Int32) * (2 : Int32)) = 0 → 
    ((6 : Int32) ≤ a1 → wp_Q_turned_33 P q_zero q_less q_half q_carry a1 a2 (0 : Int32) (a2 - a2 / (2 : Int32) * (2 : Int32))) ∧
    (¬ (6 : Int32) ≤ a1 → wp_Q_turned_33 P q_zero q_less q_half q_carry a1 a2 (1 : Int32) (a2 / (128 : Int32))))
def wp_Q_valid_22 (q_linked q_banks : Int32) (q_memory : Nat → Int32) (P : Int32 → (Int32) → Prop) : Nat → (Int32) → (Int32) → (Int32) → Prop
  | 0, _, _, _ => False
  | n9 + 1, q_code, x1, x2 => 
    ((7 : Int32) ≤ x2 → 
      (¬ x1 = 0 → wp_Q_headCheck q_memory (fun r3 => 
        ((q_memory (13 : Int32).toNatClampNeg) = r3 → wp_Q_imageCheck q_banks q_memory (fun r4 => 
          ((((256 : Int32) * (q_memory (14 : Int32).toNatClampNeg)) + (q_memory (15 : Int32).toNatClampNeg)) = r4 → P (0 : Int32) q_code) ∧
          (¬ (((256 : Int32) * (q_memory (14 : Int32).toNatClampNeg)) + (q_memory (15 : Int32).toNatClampNeg)) = r4 → P (3 : Int32) q_code))) ∧
        (¬ (q_memory (13 : Int32).toNatClampNeg) = r3 → P (2 : Int32) q_code))) ∧
      (x1 = 0 → P (1 : Int32) q_code)) ∧
    (¬ (7 : Int32) ≤ x2 → 
      (x1 = 0 → (wp_Q_valid_22 q_linked q_banks q_memory P n9) q_code (0 : Int32) (x2 + (1 : Int32))) ∧
      (¬ x1 = 0 → vp_in x2 705 ∧ (wp_Q_mark q_banks x2 (fun r5 => 
        (¬ (q_memory x2.toNatClampNeg) = r5 → (wp_Q_valid_22 q_linked q_banks q_memory P n9) q_code (0 : Int32) (x2 + (1 : Int32))) ∧
        ((q_memory x2.toNatClampNeg) = r5 → (wp_Q_valid_22 q_linked q_banks q_memory P n9) q_code (1 : Int32) (x2 + (1 : Int32)))))))
def wp_Q_valid (q_code q_linked q_banks : Int32) (q_memory : Nat → Int32)  (P : Int32 → (Int32) → Prop) : Prop := 
  (¬ q_linked = 0 → ∃ j9 : Nat, wp_Q_valid_22 q_linked q_banks q_memory P j9 (0 : Int32) (1 : Int32) (2 : Int32)) ∧
  (q_linked = 0 → wp_Q_refuse q_code (1 : Int32) (fun r1 w2 => P r1 w2))
def wp_Q_write_107 (q_banks : Int32) (P : (Nat → Int32) → (Int32) → (Int32) → (Int32) → (Int32) → Prop) (q_memory : Nat → Int32) (q_ram q_low q_top q_mode x1 x2 : Int32) : Prop := wp_Q_where q_banks q_ram q_low q_top q_mode x1 (fun r1 => 
  (x1 ≤ (253 : Int32) → vp_in r1 705 ∧ (P (upd q_memory r1.toNatClampNeg x2) q_ram q_low q_top q_mode)) ∧
  (¬ x1 ≤ (253 : Int32) → vp_in r1 705 ∧ (P (upd q_memory r1.toNatClampNeg (x2 - x2 / (16 : Int32) * (16 : Int32))) q_ram q_low q_top q_mode)))
def wp_Q_write (q_banks : Int32) (q_memory : Nat → Int32) (q_ram q_low q_top q_mode : Int32) (a1 a2 : Int32) (P : (Nat → Int32) → (Int32) → (Int32) → (Int32) → (Int32) → Prop) : Prop := 
  ((32 : Int32) ≤ a1 → 
    ((64 : Int32) ≤ a1 → 
      ((96 : Int32) ≤ a1 → 
        ((128 : Int32) ≤ a1 → 
          ((192 : Int32) ≤ a1 → 
            (a1 ≤ (191 : Int32) → P q_memory q_ram q_low q_top q_mode) ∧
            (¬ a1 ≤ (191 : Int32) → wp_Q_write_107 q_banks P q_memory q_ram q_low q_top q_mode a1 a2)) ∧
          (¬ (192 : Int32) ≤ a1 → 
            (¬ q_ram = 0 → wp_Q_write_107 q_banks P q_memory q_ram q_low q_top q_mode a1 a2) ∧
            (q_ram = 0 → 
              (a1 ≤ (191 : Int32) → P q_memory q_ram q_low q_top q_mode) ∧
              (¬ a1 ≤ (191 : Int32) → wp_Q_write_107 q_banks P q_memory q_ram q_low q_top q_mode a1 a2)))) ∧
        (¬ (128 : Int32) ≤ a1 → P q_memory q_ram q_low q_top (a2 - a2 / (2 : Int32) * (2 : Int32)))) ∧
      (¬ (96 : Int32) ≤ a1 → P q_memory q_ram q_low (a2 - a2 / (2 : Int32) * (2 : Int32)) q_mode)) ∧
    (¬ (64 : Int32) ≤ a1 → 
      ((a2 - a2 / (4 : Int32) * (4 : Int32)) ≤ 0 → P q_memory q_ram (1 : Int32) q_top q_mode) ∧
      (¬ (a2 - a2 / (4 : Int32) * (4 : Int32)) ≤ 0 → P q_memory q_ram (a2 - a2 / (4 : Int32) * (4 : Int32)) q_top q_mode))) ∧
  (¬ (32 : Int32) ≤ a1 → 
    (¬ (a2 - a2 / (16 : Int32) * (16 : Int32)) = (10 : Int32) → P q_memory (0 : Int32) q_low q_top q_mode) ∧
    ((a2 - a2 / (16 : Int32) * (16 : Int32)) = (10 : Int32) → P q_memory (1 : Int32) q_low q_top q_mode))
def wp_D_peek (k_ce : Nat → Int32) (k_bc : Int32) (m_ra m_up : Nat → Int32) (m_on m_lo m_hi m_mo m_ma m_li : Int32) (a1 : Int32) (P : Int32 → Prop) (PX : Nat → Prop) : Prop := 
  (a1 < 0 → PX 3) ∧
  (¬ a1 < 0 → 
    ((255 : Int32) < a1 → PX 3) ∧
    (¬ (255 : Int32) < a1 → wp_K_isMade k_bc (fun r1 => 
      (¬ r1 = 0 → wp_M_read k_ce k_bc m_ra m_up m_on m_lo m_hi m_mo m_ma m_li a1 (fun r2 => P r2)) ∧
      (r1 = 0 → PX 3))))
def wp_D_restart (m_ra m_up : Nat → Int32) (m_on m_lo m_hi m_mo m_ma m_li : Int32) (n_rg : Nat → Int32) (n_st n_pl n_z n_n n_h n_c n_en n_so n_co n_sc : Int32)  (P : (Nat → Int32) → (Nat → Int32) → (Int32) → (Int32) → (Int32) → (Int32) → (Int32) → (Int32) → (Nat → Int32) → (Int32) → (Int32) → (Int32) → (Int32) → (Int32) → (Int32) → (Int32) → (Int32) → (Int32) → (Int32) → Prop) : Prop := wp_N_begin m_ra m_up m_on m_lo m_hi m_mo m_ma m_li n_rg n_st n_pl n_z n_n n_h n_c n_en n_so n_co n_sc (fun w1 w2 w3 w4 w5 w6 w7 w8 w9 w10 w11 w12 w13 w14 w15 w16 w17 w18 w19 => P w1 w2 w3 w4 w5 w6 w7 w8 w9 w10 w11 w12 w13 w14 w15 w16 w17 w18 w19)
def wp_K_verdict_2 (k_ce : Nat → Int32) (k_bc : Int32) (P : Int32 → Prop) : Nat → (Int32) → Prop
  | 0, _ => False
  | n9 + 1, x1 => 
    ((6 : Int32) ≤ x1 → wp_K_sizeCode k_bc (fun r1 => 
      ((k_ce (6 : Int32).toNatClampNeg) = r1 → wp_K_headCheck k_ce (fun r2 => 
        ((k_ce (13 : Int32).toNatClampNeg) = r2 → ∀ z3 : Int32, z3 = ((k_ce (14 : Int32).toNatClampNeg) * (256 : Int32)) + (k_ce (15 : Int32).toNatClampNeg) → wp_K_imageCheck k_ce k_bc (fun r4 => 
          (¬ z3 = r4 → P (3 : Int32)) ∧
          (z3 = r4 → P (0 : Int32)))) ∧
        (¬ (k_ce (13 : Int32).toNatClampNeg) = r2 → P (2 : Int32)))) ∧
      (¬ (k_ce (6 : Int32).toNatClampNeg) = r1 → P (1 : Int32)))) ∧
    (¬ (6 : Int32) ≤ x1 → vp_in x1 512 ∧ (vp_in x1 32 ∧ (
      ((k_ce x1.toNatClampNeg) = (hd_ x1.toNatClampNeg) → (wp_K_verdict_2 k_ce k_bc P n9) (x1 + (1 : Int32))) ∧
      (¬ (k_ce x1.toNatClampNeg) = (hd_ x1.toNatClampNeg) → P (1 : Int32)))))
def wp_K_verdict (k_ce : Nat → Int32) (k_bc : Int32)  (P : Int32 → Prop) : Prop := ∃ j9 : Nat, wp_K_verdict_2 k_ce k_bc P j9 (2 : Int32)
def wp_K_writeHead_2 (k_bc : Int32) (P : (Nat → Int32) → Prop) : Nat → (Nat → Int32) → (Int32) → (Int32) → Prop
  | 0, _, _, _ => False
  | n9 + 1, k_ce, x1, x2 => 
    ((32 : Int32) ≤ x2 → wp_K_sizeCode k_bc (fun r1 => wp_K_headCheck (upd (upd k_ce (1 : Int32).toNatClampNeg x1) (6 : Int32).toNatClampNeg r1) (fun r2 => wp_K_imageCheck (upd (upd (upd k_ce (1 : Int32).toNatClampNeg x1) (6 : Int32).toNatClampNeg r1) (13 : Int32).toNatClampNeg r2) k_bc (fun r3 => P (upd (upd (upd (upd (upd k_ce (1 : Int32).toNatClampNeg x1) (6 : Int32).toNatClampNeg r1) (13 : Int32).toNatClampNeg r2) (14 : Int32).toNatClampNeg (r3 >>> ((8 : Int32) &&& 31))) (15 : Int32).toNatClampNeg (r3 &&& (255 : Int32))))))) ∧
    (¬ (32 : Int32) ≤ x2 → vp_in x2 32 ∧ (vp_in x2 512 ∧ ((wp_K_writeHead_2 k_bc P n9) (upd k_ce x2.toNatClampNeg (hd_ x2.toNatClampNeg)) x1 (x2 + (1 : Int32)))))
def wp_K_writeHead (k_ce : Nat → Int32) (k_bc : Int32) (a1 : Int32) (P : (Nat → Int32) → Prop) : Prop := ∃ j9 : Nat, wp_K_writeHead_2 k_bc P j9 k_ce a1 (0 : Int32)
def wp_N_calculate (n_rg : Nat → Int32) (n_z n_n n_h n_c : Int32) (a1 a2 : Int32) (P : (Nat → Int32) → (Int32) → (Int32) → (Int32) → (Int32) → Prop) : Prop := 
  (a1 = (0 : Int32) → wp_N_sum n_rg n_z n_n n_h n_c a2 (0 : Int32) (fun r1 w2 w3 w4 w5 => P (upd n_rg (7 : Int32).toNatClampNeg r1) w2 w3 w4 w5)) ∧
  (a1 = (1 : Int32) → wp_N_carryBit n_c (fun r6 => wp_N_sum n_rg n_z n_n n_h n_c a2 r6 (fun r7 w8 w9 w10 w11 => P (upd n_rg (7 : Int32).toNatClampNeg r7) w8 w9 w10 w11))) ∧
  (a1 = (2 : Int32) → wp_N_difference n_rg n_z n_n n_h n_c a2 (0 : Int32) (fun r12 w13 w14 w15 w16 => P (upd n_rg (7 : Int32).toNatClampNeg r12) w13 w14 w15 w16)) ∧
  (a1 = (3 : Int32) → wp_N_carryBit n_c (fun r17 => wp_N_difference n_rg n_z n_n n_h n_c a2 r17 (fun r18 w19 w20 w21 w22 => P (upd n_rg (7 : Int32).toNatClampNeg r18) w19 w20 w21 w22))) ∧
  (a1 = (4 : Int32) → 
    (¬ ((upd n_rg (7 : Int32).toNatClampNeg ((n_rg (7 : Int32).toNatClampNeg) &&& a2)) (7 : Int32).toNatClampNeg) = 0 → wp_N_setFlags n_z n_n n_h n_c (0 : Int32) (0 : Int32) (1 : Int32) (0 : Int32) (fun w23 w24 w25 w26 => P (upd n_rg (7 : Int32).toNatClampNeg ((n_rg (7 : Int32).toNatClampNeg) &&& a2)) w23 w24 w25 w26)) ∧
    (((upd n_rg (7 : Int32).toNatClampNeg ((n_rg (7 : Int32).toNatClampNeg) &&& a2)) (7 : Int32).toNatClampNeg) = 0 → wp_N_setFlags n_z n_n n_h n_c (1 : Int32) (0 : Int32) (1 : Int32) (0 : Int32) (fun w27 w28 w29 w30 => P (upd n_rg (7 : Int32).toNatClampNeg ((n_rg (7 : Int32).toNatClampNeg) &&& a2)) w27 w28 w29 w30))) ∧
  (a1 = (5 : Int32) → 
    (¬ ((upd n_rg (7 : Int32).toNatClampNeg ((n_rg (7 : Int32).toNatClampNeg) ^^^ a2)) (7 : Int32).toNatClampNeg) = 0 → wp_N_setFlags n_z n_n n_h n_c (0 : Int32) (0 : Int32) (0 : Int32) (0 : Int32) (fun w31 w32 w33 w34 => P (upd n_rg (7 : Int32).toNatClampNeg ((n_rg (7 : Int32).toNatClampNeg) ^^^ a2)) w31 w32 w33 w34)) ∧
    (((upd n_rg (7 : Int32).toNatClampNeg ((n_rg (7 : Int32).toNatClampNeg) ^^^ a2)) (7 : Int32).toNatClampNeg) = 0 → wp_N_setFlags n_z n_n n_h n_c (1 : Int32) (0 : Int32) (0 : Int32) (0 : Int32) (fun w35 w36 w37 w38 => P (upd n_rg (7 : Int32).toNatClampNeg ((n_rg (7 : Int32).toNatClampNeg) ^^^ a2)) w35 w36 w37 w38))) ∧
  (a1 = (6 : Int32) → 
    (¬ ((upd n_rg (7 : Int32).toNatClampNeg ((n_rg (7 : Int32).toNatClampNeg) ||| a2)) (7 : Int32).toNatClampNeg) = 0 → wp_N_setFlags n_z n_n n_h n_c (0 : Int32) (0 : Int32) (0 : Int32) (0 : Int32) (fun w39 w40 w41 w42 => P (upd n_rg (7 : Int32).toNatClampNeg ((n_rg (7 : Int32).toNatClampNeg) ||| a2)) w39 w40 w41 w42)) ∧
    (((upd n_rg (7 : Int32).toNatClampNeg ((n_rg (7 : Int32).toNatClampNeg) ||| a2)) (7 : Int32).toNatClampNeg) = 0 → wp_N_setFlags n_z n_n n_h n_c (1 : Int32) (0 : Int32) (0 : Int32) (0 : Int32) (fun w43 w44 w45 w46 => P (upd n_rg (7 : Int32).toNatClampNeg ((n_rg (7 : Int32).toNatClampNeg) ||| a2)) w43 w44 w45 w46))) ∧
  (¬ a1 = (0 : Int32) → ¬ a1 = (1 : Int32) → ¬ a1 = (2 : Int32) → ¬ a1 = (3 : Int32) → ¬ a1 = (4 : Int32) → ¬ a1 = (5 : Int32) → ¬ a1 = (6 : Int32) → wp_N_difference n_rg n_z n_n n_h n_c a2 (0 : Int32) (fun r47 w48 w49 w50 w51 => P n_rg w48 w49 w50 w51))
def wp_N_get (k_ce : Nat → Int32) (k_bc : Int32) (m_ra m_up : Nat → Int32) (m_on m_lo m_hi m_mo m_ma m_li : Int32) (n_rg : Nat → Int32) (a1 : Int32) (P : Int32 → Prop) : Prop := 
  (¬ a1 = (6 : Int32) → vp_in a1 8 ∧ (P (n_rg a1.toNatClampNeg))) ∧
  (a1 = (6 : Int32) → wp_M_read k_ce k_bc m_ra m_up m_on m_lo m_hi m_mo m_ma m_li (n_rg (5 : Int32).toNatClampNeg) (fun r1 => P r1))
def wp_N_next (k_ce : Nat → Int32) (k_bc : Int32) (m_ra m_up : Nat → Int32) (m_on m_lo m_hi m_mo m_ma m_li n_pl : Int32)  (P : Int32 → (Int32) → Prop) : Prop := wp_M_read k_ce k_bc m_ra m_up m_on m_lo m_hi m_mo m_ma m_li n_pl (fun r1 => P r1 ((n_pl + (1 : Int32)) &&& (255 : Int32)))
def wp_N_pull (k_ce : Nat → Int32) (k_bc : Int32) (m_ra m_up : Nat → Int32) (m_on m_lo m_hi m_mo m_ma m_li n_st : Int32)  (P : Int32 → (Int32) → Prop) : Prop := wp_M_read k_ce k_bc m_ra m_up m_on m_lo m_hi m_mo m_ma m_li n_st (fun r1 => P r1 ((n_st + (1 : Int32)) &&& (255 : Int32)))
def wp_N_push (m_ra m_up : Nat → Int32) (m_on m_lo m_hi m_mo m_ma m_li n_st : Int32) (a1 : Int32) (P : (Nat → Int32) → (Nat → Int32) → (Int32) → (Int32) → (Int32) → (Int32) → (Int32) → (Int32) → (Int32) → Prop) : Prop := wp_M_write m_ra m_up m_on m_lo m_hi m_mo m_ma m_li ((n_st - (1 : Int32)) &&& (255 : Int32)) a1 (fun w1 w2 w3 w4 w5 w6 w7 w8 => P w1 w2 w3 w4 w5 w6 w7 w8 ((n_st - (1 : Int32)) &&& (255 : Int32)))
def wp_N_set (m_ra m_up : Nat → Int32) (m_on m_lo m_hi m_mo m_ma m_li : Int32) (n_rg : Nat → Int32) (a1 a2 : Int32) (P : (Nat → Int32) → (Nat → Int32) → (Int32) → (Int32) → (Int32) → (Int32) → (Int32) → (Int32) → (Nat → Int32) → Prop) : Prop := 
  (¬ a1 = (6 : Int32) → vp_in a1 8 ∧ (P m_ra m_up m_on m_lo m_hi m_mo m_ma m_li (upd n_rg a1.toNatClampNeg a2))) ∧
  (a1 = (6 : Int32) → wp_M_write m_ra m_up m_on m_lo m_hi m_mo m_ma m_li (n_rg (5 : Int32).toNatClampNeg) a2 (fun w1 w2 w3 w4 w5 w6 w7 w8 => P w1 w2 w3 w4 w5 w6 w7 w8 n_rg))
def wp_N_shifted_85  (P : Int32 → (Int32) → (Int32) → (Int32) → (Int32) → Prop) (n_z n_n n_h n_c x4 x6 y0 : Int32) : Prop := 
  (¬ x4 = (1 : Int32) → wp_N_setFlags n_z n_n n_h n_c y0 (0 : Int32) (0 : Int32) (0 : Int32) (fun w4 w5 w6 w7 => P x6 w4 w5 w6 w7)) ∧
  (x4 = (1 : Int32) → wp_N_setFlags n_z n_n n_h n_c y0 (0 : Int32) (0 : Int32) (1 : Int32) (fun w8 w9 w10 w11 => P x6 w8 w9 w10 w11))
def wp_N_shifted_34  (P : Int32 → (Int32) → (Int32) → (Int32) → (Int32) → Prop) (n_z n_n n_h n_c x1 x2 x3 y0 : Int32) : Prop := wp_N_comesIn n_c x1 x2 y0 (fun r1 => 
  (x3 = 0 → ∀ z2 : Int32, z2 = (x2 >>> ((1 : Int32) &&& 31)) ||| (r1 <<< ((7 : Int32) &&& 31)) → 
    (¬ z2 = 0 → wp_N_shifted_85 P n_z n_n n_h n_c y0 z2 (0 : Int32)) ∧
    (z2 = 0 → wp_N_shifted_85 P n_z n_n n_h n_c y0 z2 (1 : Int32))) ∧
  (¬ x3 = 0 → ∀ z3 : Int32, z3 = ((x2 <<< ((1 : Int32) &&& 31)) &&& (255 : Int32)) ||| r1 → 
    (¬ z3 = 0 → wp_N_shifted_85 P n_z n_n n_h n_c y0 z3 (0 : Int32)) ∧
    (z3 = 0 → wp_N_shifted_85 P n_z n_n n_h n_c y0 z3 (1 : Int32))))
def wp_N_shifted (n_z n_n n_h n_c : Int32) (a1 a2 : Int32) (P : Int32 → (Int32) → (Int32) → (Int32) → (Int32) → Prop) : Prop := 
  (a1 = 0 → wp_N_shifted_34 P n_z n_n n_h n_c a1 a2 (1 : Int32) (a2 >>> ((7 : Int32) &&& 31))) ∧
  (¬ a1 = 0 → 
    (a1 = (2 : Int32) → wp_N_shifted_34 P n_z n_n n_h n_c a1 a2 (1 : Int32) (a2 >>> ((7 : Int32) &&& 31))) ∧
    (¬ a1 = (2 : Int32) → 
      (¬ a1 = (4 : Int32) → wp_N_shifted_34 P n_z n_n n_h n_c a1 a2 (0 : Int32) (a2 &&& (1 : Int32))) ∧
      (a1 = (4 : Int32) → wp_N_shifted_34 P n_z n_n n_h n_c a1 a2 (1 : Int32) (a2 >>> ((7 : Int32) &&& 31)))))
def wp_P_packFloating_46 (s_bk s_ln : Nat → Int32) (t_ct : Int32) (K3 : (Nat → Int32) → (Nat → Int32) → (Nat → Int32) → Int32 → Int32 → Prop) (K10 : (Nat → Int32) → (Nat → Int32) → (Nat → Int32) → Int32 → Int32 → Int32 → Prop) (P : Int32 → (Nat → Int32) → (Nat → Int32) → (Nat → Int32) → Prop) (t_bk t_of t_en : Nat → Int32) (x2 x3 x4 y0 : Int32) : Prop := 
  (y0 = 0 → K10 t_bk t_of t_en x2 x3 (x4 + (1 : Int32))) ∧
  (¬ y0 = 0 → wp_P_packLowest t_bk t_of t_en x4 x3 x2 (fun r1 w2 w3 w4 => 
    (¬ r1 = 0 → K10 w2 w3 w4 x2 x3 (x4 + (1 : Int32))) ∧
    (r1 = 0 → P (0 : Int32) w2 w3 w4)))
def wp_P_packFloating_10 (s_bk s_ln : Nat → Int32) (t_ct : Int32) (K3 : (Nat → Int32) → (Nat → Int32) → (Nat → Int32) → Int32 → Int32 → Prop) (P : Int32 → (Nat → Int32) → (Nat → Int32) → (Nat → Int32) → Prop) : Nat → (Nat → Int32) → (Nat → Int32) → (Nat → Int32) → (Int32) → (Int32) → (Int32) → Prop
  | 0, _, _, _, _, _, _ => False
  | n9 + 1, t_bk, t_of, t_en, x2, x3, x4 => 
    (t_ct ≤ x4 → K3 t_bk t_of t_en x2 (x3 + (-1 : Int32))) ∧
    (¬ t_ct ≤ x4 → vp_in x4 10 ∧ (
      (¬ (s_bk x4.toNatClampNeg) = (-1 : Int32) → wp_P_packFloating_46 s_bk s_ln t_ct K3 (wp_P_packFloating_10 s_bk s_ln t_ct K3 P n9) P t_bk t_of t_en x2 x3 x4 (0 : Int32)) ∧
      ((s_bk x4.toNatClampNeg) = (-1 : Int32) → vp_in x4 10 ∧ (
        (¬ (s_ln x4.toNatClampNeg) = x3 → wp_P_packFloating_46 s_bk s_ln t_ct K3 (wp_P_packFloating_10 s_bk s_ln t_ct K3 P n9) P t_bk t_of t_en x2 x3 x4 (0 : Int32)) ∧
        ((s_ln x4.toNatClampNeg) = x3 → wp_P_packFloating_46 s_bk s_ln t_ct K3 (wp_P_packFloating_10 s_bk s_ln t_ct K3 P n9) P t_bk t_of t_en x2 x3 x4 (1 : Int32))))))
def wp_P_packFloating_3 (s_bk s_ln : Nat → Int32) (t_ct : Int32) (P : Int32 → (Nat → Int32) → (Nat → Int32) → (Nat → Int32) → Prop) : Nat → (Nat → Int32) → (Nat → Int32) → (Nat → Int32) → (Int32) → (Int32) → Prop
  | 0, _, _, _, _, _ => False
  | n9 + 1, t_bk, t_of, t_en, x2, x3 => 
    (x3 < 0 → P (1 : Int32) t_bk t_of t_en) ∧
    (¬ x3 < 0 → ∃ j9 : Nat, wp_P_packFloating_10 s_bk s_ln t_ct (wp_P_packFloating_3 s_bk s_ln t_ct P n9) P j9 t_bk t_of t_en x2 x3 (0 : Int32))
def wp_P_packFloating (s_bk s_ln t_bk t_of t_en : Nat → Int32) (t_ct : Int32) (a2 : Int32) (P : Int32 → (Nat → Int32) → (Nat → Int32) → (Nat → Int32) → Prop) : Prop := ∃ j9 : Nat, wp_P_packFloating_3 s_bk s_ln t_ct P j9 t_bk t_of t_en a2 (48 : Int32)
def wp_Q_build_77 (q_many : Int32) (q_size q_bytes q_kind q_bank q_address : Nat → Int32) (K46 : (Int32) → (Nat → Int32) → Int32 → Prop) (P : (Int32) → (Nat → Int32) → Prop) : Nat → (Int32) → (Nat → Int32) → (Int32) → (Int32) → (Int32) → Prop
  | 0, _, _, _, _, _ => False
  | n9 + 1, q_banks, q_memory, x2, x3, x4 => vp_in x2 10 ∧ (
    ((q_size x2.toNatClampNeg) ≤ x4 → K46 q_banks q_memory (x2 + (1 : Int32))) ∧
    (¬ (q_size x2.toNatClampNeg) ≤ x4 → vp_in (((48 : Int32) * x2) + x4) 480 ∧ (∀ z5 : Int32, z5 = q_bytes (((48 : Int32) * x2) + x4).toNatClampNeg → vp_in (((48 : Int32) * x2) + x4) 480 ∧ (∀ z6 : Int32, z6 = q_kind (((48 : Int32) * x2) + x4).toNatClampNeg → 
      (¬ z6 = 0 → 
        (¬ z6 = (1 : Int32) → vp_in z5 10 ∧ (vp_in (x3 + x4) 705 ∧ ((wp_Q_build_77 q_many q_size q_bytes q_kind q_bank q_address K46 P n9) q_banks (upd q_memory (x3 + x4).toNatClampNeg (q_bank z5.toNatClampNeg)) x2 x3 (x4 + (1 : Int32))))) ∧
        (z6 = (1 : Int32) → vp_in z5 10 ∧ (vp_in (x3 + x4) 705 ∧ ((wp_Q_build_77 q_many q_size q_bytes q_kind q_bank q_address K46 P n9) q_banks (upd q_memory (x3 + x4).toNatClampNeg (q_address z5.toNatClampNeg)) x2 x3 (x4 + (1 : Int32)))))) ∧
      (z6 = 0 → vp_in (x3 + x4) 705 ∧ ((wp_Q_build_77 q_many q_size q_bytes q_kind q_bank q_address K46 P n9) q_banks (upd q_memory (x3 + x4).toNatClampNeg z5) x2 x3 (x4 + (1 : Int32))))))))
def wp_Q_build_46 (q_many : Int32) (q_size q_bytes q_kind q_bank q_address : Nat → Int32) (P : (Int32) → (Nat → Int32) → Prop) : Nat → (Int32) → (Nat → Int32) → (Int32) → Prop
  | 0, _, _, _ => False
  | n9 + 1, q_banks, q_memory, x2 => 
    (q_many ≤ x2 → wp_Q_headCheck q_memory (fun r2 => wp_Q_imageCheck q_banks (upd q_memory (13 : Int32).toNatClampNeg r2) (fun r3 => P q_banks (upd (upd (upd q_memory (13 : Int32).toNatClampNeg r2) (14 : Int32).toNatClampNeg (r3 >>> ((8 : Int32) &&& 31))) (15 : Int32).toNatClampNeg (r3 &&& (255 : Int32)))))) ∧
    (¬ q_many ≤ x2 → vp_in x2 10 ∧ (vp_in x2 10 ∧ (∀ z4 : Int32, z4 = ((64 : Int32) * (q_bank x2.toNatClampNeg)) + ((q_address x2.toNatClampNeg) - (q_address x2.toNatClampNeg) / (64 : Int32) * (64 : Int32)) → ∃ j9 : Nat, wp_Q_build_77 q_many q_size q_bytes q_kind q_bank q_address (wp_Q_build_46 q_many q_size q_bytes q_kind q_bank q_address P n9) P j9 q_banks q_memory x2 z4 (0 : Int32))))
def wp_Q_build_7 (q_many : Int32) (q_size q_bytes q_kind q_bank q_address : Nat → Int32) (P : (Int32) → (Nat → Int32) → Prop) : Nat → (Int32) → (Nat → Int32) → (Int32) → (Int32) → Prop
  | 0, _, _, _, _ => False
  | n9 + 1, q_banks, q_memory, x1, x2 => 
    (((64 : Int32) * x1) ≤ x2 → ∃ j9 : Nat, wp_Q_build_46 q_many q_size q_bytes q_kind q_bank q_address P j9 q_banks q_memory (0 : Int32)) ∧
    (¬ ((64 : Int32) * x1) ≤ x2 → 
      ((32 : Int32) ≤ x2 → vp_in x2 705 ∧ ((wp_Q_build_7 q_many q_size q_bytes q_kind q_bank q_address P n9) q_banks (upd q_memory x2.toNatClampNeg (255 : Int32)) x1 (x2 + (1 : Int32)))) ∧
      (¬ (32 : Int32) ≤ x2 → wp_Q_headByte q_address q_banks x2 (fun r1 => vp_in x2 705 ∧ ((wp_Q_build_7 q_many q_size q_bytes q_kind q_bank q_address P n9) q_banks (upd q_memory x2.toNatClampNeg r1) x1 (x2 + (1 : Int32))))))
def wp_Q_build (q_many : Int32) (q_size q_bytes q_kind q_bank q_address : Nat → Int32) (q_banks : Int32) (q_memory : Nat → Int32) (a1 : Int32) (P : (Int32) → (Nat → Int32) → Prop) : Prop := ∃ j9 : Nat, wp_Q_build_7 q_many q_size q_bytes q_kind q_bank q_address P j9 a1 q_memory a1 (0 : Int32)
def wp_Q_get (q_banks : Int32) (q_memory q_register : Nat → Int32) (q_ram q_low q_top q_mode : Int32) (a1 : Int32) (P : Int32 → Prop) : Prop := 
  (¬ a1 = (6 : Int32) → vp_in a1 8 ∧ (P (q_register a1.toNatClampNeg))) ∧
  (a1 = (6 : Int32) → wp_Q_read q_banks q_memory q_ram q_low q_top q_mode (q_register (5 : Int32).toNatClampNeg) (fun r1 => P r1))
def wp_Q_next (q_banks : Int32) (q_memory : Nat → Int32) (q_place q_ram q_low q_top q_mode : Int32)  (P : Int32 → (Int32) → Prop) : Prop := wp_Q_read q_banks q_memory q_ram q_low q_top q_mode q_place (fun r1 => P r1 ((q_place + (1 : Int32)) - (q_place + (1 : Int32)) / (256 : Int32) * (256 : Int32)))
def wp_Q_peek (q_code q_linked q_banks : Int32) (q_memory : Nat → Int32) (q_ram q_low q_top q_mode : Int32) (a1 : Int32) (P : Int32 → (Int32) → Prop) : Prop := 
  (q_linked = 0 → wp_Q_refuse q_code (1 : Int32) (fun r1 w2 => P r1 w2)) ∧
  (¬ q_linked = 0 → wp_Q_outside a1 (0 : Int32) (255 : Int32) (fun r3 => 
    (r3 = 0 → wp_Q_read q_banks q_memory q_ram q_low q_top q_mode a1 (fun r4 => P r4 (0 : Int32))) ∧
    (¬ r3 = 0 → wp_Q_refuse q_code (1 : Int32) (fun r5 w6 => P r5 w6))))
def wp_Q_pop (q_banks : Int32) (q_memory : Nat → Int32) (q_stack q_ram q_low q_top q_mode : Int32)  (P : Int32 → (Int32) → Prop) : Prop := wp_Q_read q_banks q_memory q_ram q_low q_top q_mode q_stack (fun r1 => P r1 ((q_stack + (1 : Int32)) - (q_stack + (1 : Int32)) / (256 : Int32) * (256 : Int32)))
def wp_Q_push (q_banks : Int32) (q_memory : Nat → Int32) (q_stack q_ram q_low q_top q_mode : Int32) (a1 : Int32) (P : (Nat → Int32) → (Int32) → (Int32) → (Int32) → (Int32) → (Int32) → Prop) : Prop := wp_Q_write q_banks q_memory q_ram q_low q_top q_mode ((q_stack + (255 : Int32)) - (q_stack + (255 : Int32)) / (256 : Int32) * (256 : Int32)) a1 (fun w1 w2 w3 w4 w5 => P w1 ((q_stack + (255 : Int32)) - (q_stack + (255 : Int32)) / (256 : Int32) * (256 : Int32)) w2 w3 w4 w5)
def wp_Q_set (q_banks : Int32) (q_memory q_register : Nat → Int32) (q_ram q_low q_top q_mode : Int32) (a1 a2 : Int32) (P : (Nat → Int32) → (Nat → Int32) → (Int32) → (Int32) → (Int32) → (Int32) → Prop) : Prop := 
  (¬ a1 = (6 : Int32) → vp_in a1 8 ∧ (P q_memory (upd q_register a1.toNatClampNeg (a2 &&& (255 : Int32))) q_ram q_low q_top q_mode)) ∧
  (a1 = (6 : Int32) → wp_Q_write q_banks q_memory q_ram q_low q_top q_mode (q_register (5 : Int32).toNatClampNeg) (a2 &&& (255 : Int32)) (fun w1 w2 w3 w4 w5 => P w1 q_register w2 w3 w4 w5))
def wp_D_valid (k_ce : Nat → Int32) (k_bc : Int32)  (P : Int32 → Prop) (PX : Nat → Prop) : Prop := wp_K_isMade k_bc (fun r1 => 
  (¬ r1 = 0 → wp_K_verdict k_ce k_bc (fun r2 => P r2)) ∧
  (r1 = 0 → PX 3))
def wp_K_make_36 (s_ln s_kd s_vl : Nat → Int32) (s_ct : Int32) (l_bk l_of : Nat → Int32) (P : (Nat → Int32) → (Int32) → Prop) : Nat → (Nat → Int32) → (Int32) → (Int32) → Prop
  | 0, _, _, _ => False
  | n9 + 1, k_ce, k_bc, x4 => 
    (s_ct ≤ x4 → wp_P_addressOf l_bk l_of (0 : Int32) (fun r2 => wp_K_writeHead k_ce k_bc r2 (fun w3 => P w3 k_bc))) ∧
    (¬ s_ct ≤ x4 → wp_K_lay s_ln s_kd s_vl k_ce l_bk l_of x4 (fun w4 => (wp_K_make_36 s_ln s_kd s_vl s_ct l_bk l_of P n9) w4 k_bc (x4 + (1 : Int32))))
def wp_K_make_8 (s_ln s_kd s_vl : Nat → Int32) (s_ct : Int32) (l_bk l_of : Nat → Int32) (P : (Nat → Int32) → (Int32) → Prop) : Nat → (Nat → Int32) → (Int32) → (Int32) → Prop
  | 0, _, _, _ => False
  | n9 + 1, k_ce, k_bc, x4 => wp_K_size k_bc (fun r1 => 
    (r1 ≤ x4 → ∃ j9 : Nat, wp_K_make_36 s_ln s_kd s_vl s_ct l_bk l_of P j9 k_ce k_bc (0 : Int32)) ∧
    (¬ r1 ≤ x4 → vp_in x4 512 ∧ ((wp_K_make_8 s_ln s_kd s_vl s_ct l_bk l_of P n9) (upd k_ce x4.toNatClampNeg (255 : Int32)) k_bc (x4 + (1 : Int32)))))
def wp_K_make (s_ln s_kd s_vl : Nat → Int32) (s_ct : Int32) (k_ce : Nat → Int32) (k_bc : Int32) (l_bk l_of : Nat → Int32) (a3 : Int32) (P : (Nat → Int32) → (Int32) → Prop) : Prop := ∃ j9 : Nat, wp_K_make_8 s_ln s_kd s_vl s_ct l_bk l_of P j9 k_ce a3 (0 : Int32)
def wp_N_interruptFor (m_ra m_up : Nat → Int32) (m_on m_lo m_hi m_mo m_ma m_li n_st n_pl n_en : Int32) (a1 : Int32) (P : (Nat → Int32) → (Nat → Int32) → (Int32) → (Int32) → (Int32) → (Int32) → (Int32) → (Int32) → (Int32) → (Int32) → (Int32) → Prop) : Prop := wp_N_push m_ra m_up m_on m_lo m_hi m_mo m_ma (m_li &&& (((1 : Int32) <<< (a1 &&& 31)) ^^^ (-1 : Int32))) n_st n_pl (fun w1 w2 w3 w4 w5 w6 w7 w8 w9 => P w1 w2 w3 w4 w5 w6 w7 w8 w9 ((16 : Int32) + ((4 : Int32) * a1)) (0 : Int32))
def wp_N_obeyJump_58 (k_ce : Nat → Int32) (k_bc n_z n_c : Int32) (P : (Nat → Int32) → (Nat → Int32) → (Int32) → (Int32) → (Int32) → (Int32) → (Int32) → (Int32) → (Int32) → (Int32) → (Int32) → Prop) (m_ra m_up : Nat → Int32) (m_on m_lo m_hi m_mo m_ma m_li n_st n_pl n_co x1 x3 x4 : Int32) : Prop := 
  (x3 = 0 → 
    (¬ x1 = (3 : Int32) → P m_ra m_up m_on m_lo m_hi m_mo m_ma m_li n_st x4 n_co) ∧
    (x1 = (3 : Int32) → P m_ra m_up m_on m_lo m_hi m_mo m_ma m_li n_st ((n_pl + x4) &&& (255 : Int32)) n_co)) ∧
  (¬ x3 = 0 → wp_N_pull k_ce k_bc m_ra m_up m_on m_lo m_hi m_mo m_ma m_li n_st (fun r15 w16 => P m_ra m_up m_on m_lo m_hi m_mo m_ma m_li w16 r15 n_co))
def wp_N_obeyJump_34 (k_ce : Nat → Int32) (k_bc n_z n_c : Int32) (P : (Nat → Int32) → (Nat → Int32) → (Int32) → (Int32) → (Int32) → (Int32) → (Int32) → (Int32) → (Int32) → (Int32) → (Int32) → Prop) (m_ra m_up : Nat → Int32) (m_on m_lo m_hi m_mo m_ma m_li n_st n_pl n_co x1 x2 x3 y0 : Int32) : Prop := wp_N_holds n_z n_c x2 (fun r5 => 
  (¬ r5 = 0 → 
    (¬ x1 = (1 : Int32) → wp_N_obeyJump_58 k_ce k_bc n_z n_c P m_ra m_up m_on m_lo m_hi m_mo m_ma m_li n_st n_pl n_co x1 x3 y0) ∧
    (x1 = (1 : Int32) → wp_N_push m_ra m_up m_on m_lo m_hi m_mo m_ma m_li n_st n_pl (fun w6 w7 w8 w9 w10 w11 w12 w13 w14 => wp_N_obeyJump_58 k_ce k_bc n_z n_c P w6 w7 w8 w9 w10 w11 w12 w13 w14 n_pl n_co x1 x3 y0))) ∧
  (r5 = 0 → P m_ra m_up m_on m_lo m_hi m_mo m_ma m_li n_st n_pl n_co))
def wp_N_obeyJump (k_ce : Nat → Int32) (k_bc : Int32) (m_ra m_up : Nat → Int32) (m_on m_lo m_hi m_mo m_ma m_li n_st n_pl n_z n_c n_co : Int32) (a1 a2 : Int32) (P : (Nat → Int32) → (Nat → Int32) → (Int32) → (Int32) → (Int32) → (Int32) → (Int32) → (Int32) → (Int32) → (Int32) → (Int32) → Prop) : Prop := 
  (a2 ≤ (4 : Int32) → 
    (¬ a1 = (2 : Int32) → wp_N_next k_ce k_bc m_ra m_up m_on m_lo m_hi m_mo m_ma m_li n_pl (fun r1 w2 => wp_N_obeyJump_34 k_ce k_bc n_z n_c P m_ra m_up m_on m_lo m_hi m_mo m_ma m_li n_st w2 n_co a1 a2 (0 : Int32) r1)) ∧
    (a1 = (2 : Int32) → wp_N_obeyJump_34 k_ce k_bc n_z n_c P m_ra m_up m_on m_lo m_hi m_mo m_ma m_li n_st n_pl n_co a1 a2 (1 : Int32) (0 : Int32))) ∧
  (¬ a2 ≤ (4 : Int32) → wp_N_endAs n_pl n_co (3 : Int32) (fun w3 w4 => P m_ra m_up m_on m_lo m_hi m_mo m_ma m_li n_st w3 w4))
def wp_N_obeyOnBits (k_ce : Nat → Int32) (k_bc : Int32) (m_ra m_up : Nat → Int32) (m_on m_lo m_hi m_mo m_ma m_li : Int32) (n_rg : Nat → Int32) (n_z n_n n_h n_c : Int32) (a1 : Int32) (P : (Nat → Int32) → (Nat → Int32) → (Int32) → (Int32) → (Int32) → (Int32) → (Int32) → (Int32) → (Nat → Int32) → (Int32) → (Int32) → (Int32) → (Int32) → Prop) : Prop := ∀ z1 : Int32, z1 = a1 &&& (7 : Int32) → ∀ z2 : Int32, z2 = a1 >>> ((3 : Int32) &&& 31) → ∀ z3 : Int32, z3 = (1 : Int32) <<< ((z2 &&& (7 : Int32)) &&& 31) → 
  ((7 : Int32) ≤ z2 → 
    (z2 < (24 : Int32) → 
      (z2 < (16 : Int32) → 
        (z2 < (8 : Int32) → P m_ra m_up m_on m_lo m_hi m_mo m_ma m_li n_rg n_z n_n n_h n_c) ∧
        (¬ z2 < (8 : Int32) → wp_N_get k_ce k_bc m_ra m_up m_on m_lo m_hi m_mo m_ma m_li n_rg z1 (fun r4 => 
          (¬ (r4 &&& z3) = 0 → wp_N_setFlags n_z n_n n_h n_c (0 : Int32) (0 : Int32) (1 : Int32) n_c (fun w5 w6 w7 w8 => P m_ra m_up m_on m_lo m_hi m_mo m_ma m_li n_rg w5 w6 w7 w8)) ∧
          ((r4 &&& z3) = 0 → wp_N_setFlags n_z n_n n_h n_c (1 : Int32) (0 : Int32) (1 : Int32) n_c (fun w9 w10 w11 w12 => P m_ra m_up m_on m_lo m_hi m_mo m_ma m_li n_rg w9 w10 w11 w12))))) ∧
      (¬ z2 < (16 : Int32) → wp_N_get k_ce k_bc m_ra m_up m_on m_lo m_hi m_mo m_ma m_li n_rg z1 (fun r13 => wp_N_set m_ra m_up m_on m_lo m_hi m_mo m_ma m_li n_rg z1 (r13 &&& (z3 ^^^ (-1 : Int32))) (fun w14 w15 w16 w17 w18 w19 w20 w21 w22 => P w14 w15 w16 w17 w18 w19 w20 w21 w22 n_z n_n n_h n_c)))) ∧
    (¬ z2 < (24 : Int32) → wp_N_get k_ce k_bc m_ra m_up m_on m_lo m_hi m_mo m_ma m_li n_rg z1 (fun r23 => wp_N_set m_ra m_up m_on m_lo m_hi m_mo m_ma m_li n_rg z1 (r23 ||| z3) (fun w24 w25 w26 w27 w28 w29 w30 w31 w32 => P w24 w25 w26 w27 w28 w29 w30 w31 w32 n_z n_n n_h n_c)))) ∧
  (¬ (7 : Int32) ≤ z2 → wp_N_get k_ce k_bc m_ra m_up m_on m_lo m_hi m_mo m_ma m_li n_rg z1 (fun r33 => wp_N_shifted n_z n_n n_h n_c z2 r33 (fun r34 w35 w36 w37 w38 => wp_N_set m_ra m_up m_on m_lo m_hi m_mo m_ma m_li n_rg z1 r34 (fun w39 w40 w41 w42 w43 w44 w45 w46 w47 => P w39 w40 w41 w42 w43 w44 w45 w46 w47 w35 w36 w37 w38))))
def wp_N_obeyOnOne (k_ce : Nat → Int32) (k_bc : Int32) (m_ra m_up : Nat → Int32) (m_on m_lo m_hi m_mo m_ma m_li : Int32) (n_rg : Nat → Int32) (n_st n_pl n_z n_n n_h n_c : Int32) (a1 a2 : Int32) (P : (Nat → Int32) → (Nat → Int32) → (Int32) → (Int32) → (Int32) → (Int32) → (Int32) → (Int32) → (Nat → Int32) → (Int32) → (Int32) → (Int32) → (Int32) → (Int32) → (Int32) → Prop) : Prop := 
  (a1 = (2 : Int32) → wp_N_get k_ce k_bc m_ra m_up m_on m_lo m_hi m_mo m_ma m_li n_rg a2 (fun r1 => wp_N_oneMore n_z n_n n_h n_c r1 (fun r2 w3 w4 w5 w6 => wp_N_set m_ra m_up m_on m_lo m_hi m_mo m_ma m_li n_rg a2 r2 (fun w7 w8 w9 w10 w11 w12 w13 w14 w15 => P w7 w8 w9 w10 w11 w12 w13 w14 w15 n_st n_pl w3 w4 w5 w6)))) ∧
  (a1 = (3 : Int32) → wp_N_get k_ce k_bc m_ra m_up m_on m_lo m_hi m_mo m_ma m_li n_rg a2 (fun r16 => wp_N_oneLess n_z n_n n_h n_c r16 (fun r17 w18 w19 w20 w21 => wp_N_set m_ra m_up m_on m_lo m_hi m_mo m_ma m_li n_rg a2 r17 (fun w22 w23 w24 w25 w26 w27 w28 w29 w30 => P w22 w23 w24 w25 w26 w27 w28 w29 w30 n_st n_pl w18 w19 w20 w21)))) ∧
  (a1 = (4 : Int32) → wp_N_get k_ce k_bc m_ra m_up m_on m_lo m_hi m_mo m_ma m_li n_rg a2 (fun r31 => wp_N_push m_ra m_up m_on m_lo m_hi m_mo m_ma m_li n_st r31 (fun w32 w33 w34 w35 w36 w37 w38 w39 w40 => P w32 w33 w34 w35 w36 w37 w38 w39 n_rg w40 n_pl n_z n_n n_h n_c))) ∧
  (a1 = (5 : Int32) → wp_N_pull k_ce k_bc m_ra m_up m_on m_lo m_hi m_mo m_ma m_li n_st (fun r41 w42 => wp_N_set m_ra m_up m_on m_lo m_hi m_mo m_ma m_li n_rg a2 r41 (fun w43 w44 w45 w46 w47 w48 w49 w50 w51 => P w43 w44 w45 w46 w47 w48 w49 w50 w51 w42 n_pl n_z n_n n_h n_c))) ∧
  (a1 = (6 : Int32) → wp_N_next k_ce k_bc m_ra m_up m_on m_lo m_hi m_mo m_ma m_li n_pl (fun r52 w53 => wp_N_set m_ra m_up m_on m_lo m_hi m_mo m_ma m_li n_rg a2 r52 (fun w54 w55 w56 w57 w58 w59 w60 w61 w62 => P w54 w55 w56 w57 w58 w59 w60 w61 w62 n_st w53 n_z n_n n_h n_c))) ∧
  (¬ a1 = (2 : Int32) → ¬ a1 = (3 : Int32) → ¬ a1 = (4 : Int32) → ¬ a1 = (5 : Int32) → ¬ a1 = (6 : Int32) → wp_N_get k_ce k_bc m_ra m_up m_on m_lo m_hi m_mo m_ma m_li n_rg a2 (fun r63 => wp_N_exchanged n_z n_n n_h n_c r63 (fun r64 w65 w66 w67 w68 => wp_N_set m_ra m_up m_on m_lo m_hi m_mo m_ma m_li n_rg a2 r64 (fun w69 w70 w71 w72 w73 w74 w75 w76 w77 => P w69 w70 w71 w72 w73 w74 w75 w76 w77 n_st n_pl w65 w66 w67 w68))))
def wp_N_obeySingle (k_ce : Nat → Int32) (k_bc : Int32) (m_ra m_up : Nat → Int32) (m_on m_lo m_hi m_mo m_ma m_li : Int32) (n_rg n_sb : Nat → Int32) (n_st n_pl n_z n_n n_h n_c n_en n_so n_co n_sc : Int32) (a1 : Int32) (P : (Nat → Int32) → (Nat → Int32) → (Int32) → (Int32) → (Int32) → (Int32) → (Int32) → (Int32) → (Int32) → (Int32) → (Int32) → (Int32) → Prop) : Prop := 
  (a1 = (0 : Int32) → P n_rg n_sb n_st n_pl n_z n_n n_h n_c n_en n_so n_co n_sc) ∧
  (a1 = (1 : Int32) → wp_N_endAs n_pl n_co (1 : Int32) (fun w1 w2 => P n_rg n_sb n_st w1 n_z n_n n_h n_c n_en n_so w2 n_sc)) ∧
  (a1 = (2 : Int32) → wp_N_endAs n_pl n_co (2 : Int32) (fun w3 w4 => P n_rg n_sb n_st w3 n_z n_n n_h n_c n_en n_so w4 n_sc)) ∧
  (a1 = (3 : Int32) → P n_rg n_sb n_st n_pl n_z n_n n_h n_c (0 : Int32) n_so n_co n_sc) ∧
  (a1 = (4 : Int32) → P n_rg n_sb n_st n_pl n_z n_n n_h n_c n_en (1 : Int32) n_co n_sc) ∧
  (a1 = (5 : Int32) → wp_N_pull k_ce k_bc m_ra m_up m_on m_lo m_hi m_mo m_ma m_li n_st (fun r5 w6 => P n_rg n_sb w6 r5 n_z n_n n_h n_c (1 : Int32) n_so n_co n_sc)) ∧
  (a1 = (6 : Int32) → wp_N_adjust n_rg n_z n_n n_h n_c (fun w7 w8 w9 w10 w11 => P w7 n_sb n_st n_pl w8 w9 w10 w11 n_en n_so n_co n_sc)) ∧
  (a1 = (7 : Int32) → wp_N_setFlags n_z n_n n_h n_c n_z (1 : Int32) (1 : Int32) n_c (fun w12 w13 w14 w15 => P (upd n_rg (7 : Int32).toNatClampNeg ((n_rg (7 : Int32).toNatClampNeg) ^^^ (255 : Int32))) n_sb n_st n_pl w12 w13 w14 w15 n_en n_so n_co n_sc)) ∧
  (a1 = (8 : Int32) → wp_N_setFlags n_z n_n n_h n_c n_z (0 : Int32) (0 : Int32) (1 : Int32) (fun w16 w17 w18 w19 => P n_rg n_sb n_st n_pl w16 w17 w18 w19 n_en n_so n_co n_sc)) ∧
  (a1 = (9 : Int32) → 
    (¬ n_c = 0 → wp_N_setFlags n_z n_n n_h n_c n_z (0 : Int32) (0 : Int32) (0 : Int32) (fun w20 w21 w22 w23 => P n_rg n_sb n_st n_pl w20 w21 w22 w23 n_en n_so n_co n_sc)) ∧
    (n_c = 0 → wp_N_setFlags n_z n_n n_h n_c n_z (0 : Int32) (0 : Int32) (1 : Int32) (fun w24 w25 w26 w27 => P n_rg n_sb n_st n_pl w24 w25 w26 w27 n_en n_so n_co n_sc))) ∧
  (a1 = (10 : Int32) → wp_N_pull k_ce k_bc m_ra m_up m_on m_lo m_hi m_mo m_ma m_li n_st (fun r28 w29 => P n_rg n_sb w29 r28 n_z n_n n_h n_c n_en n_so n_co n_sc)) ∧
  (a1 = (11 : Int32) → wp_N_send n_sb n_sc (n_rg (7 : Int32).toNatClampNeg) (fun w30 w31 => P n_rg w30 n_st n_pl n_z n_n n_h n_c n_en n_so n_co w31)) ∧
  (¬ a1 = (0 : Int32) → ¬ a1 = (1 : Int32) → ¬ a1 = (2 : Int32) → ¬ a1 = (3 : Int32) → ¬ a1 = (4 : Int32) → ¬ a1 = (5 : Int32) → ¬ a1 = (6 : Int32) → ¬ a1 = (7 : Int32) → ¬ a1 = (8 : Int32) → ¬ a1 = (9 : Int32) → ¬ a1 = (10 : Int32) → ¬ a1 = (11 : Int32) → wp_N_endAs n_pl n_co (3 : Int32) (fun w32 w33 => P n_rg n_sb n_st w32 n_z n_n n_h n_c n_en n_so w33 n_sc))
def wp_N_shown_71 (k_ce : Nat → Int32) (k_bc : Int32) (m_ra m_up : Nat → Int32) (m_on m_lo m_hi m_mo m_ma m_li : Int32) (n_rg : Nat → Int32) (n_st n_pl n_z n_n n_h n_c n_en : Int32) (P : Int32 → Prop) (y0 y1 : Int32) : Prop := 
  (n_h = 0 → wp_N_carryBit n_c (fun r3 => P (((y1 + y0) + (0 : Int32)) + r3))) ∧
  (¬ n_h = 0 → wp_N_carryBit n_c (fun r4 => P (((y1 + y0) + (2 : Int32)) + r4)))
def wp_N_shown (k_ce : Nat → Int32) (k_bc : Int32) (m_ra m_up : Nat → Int32) (m_on m_lo m_hi m_mo m_ma m_li : Int32) (n_rg : Nat → Int32) (n_st n_pl n_z n_n n_h n_c n_en : Int32) (a1 : Int32) (P : Int32 → Prop) : Prop := 
  (a1 = (8 : Int32) → P n_st) ∧
  (a1 = (9 : Int32) → P n_pl) ∧
  (a1 = (10 : Int32) → 
    (n_z = 0 → 
      (n_n = 0 → wp_N_shown_71 k_ce k_bc m_ra m_up m_on m_lo m_hi m_mo m_ma m_li n_rg n_st n_pl n_z n_n n_h n_c n_en P (0 : Int32) (0 : Int32)) ∧
      (¬ n_n = 0 → wp_N_shown_71 k_ce k_bc m_ra m_up m_on m_lo m_hi m_mo m_ma m_li n_rg n_st n_pl n_z n_n n_h n_c n_en P (4 : Int32) (0 : Int32))) ∧
    (¬ n_z = 0 → 
      (n_n = 0 → wp_N_shown_71 k_ce k_bc m_ra m_up m_on m_lo m_hi m_mo m_ma m_li n_rg n_st n_pl n_z n_n n_h n_c n_en P (0 : Int32) (8 : Int32)) ∧
      (¬ n_n = 0 → wp_N_shown_71 k_ce k_bc m_ra m_up m_on m_lo m_hi m_mo m_ma m_li n_rg n_st n_pl n_z n_n n_h n_c n_en P (4 : Int32) (8 : Int32)))) ∧
  (a1 = (11 : Int32) → wp_M_switches m_on m_lo m_hi m_mo (fun r1 => P r1)) ∧
  (a1 = (12 : Int32) → 
    (n_en = 0 → P (0 : Int32)) ∧
    (¬ n_en = 0 → P (1 : Int32))) ∧
  (¬ a1 = (8 : Int32) → ¬ a1 = (9 : Int32) → ¬ a1 = (10 : Int32) → ¬ a1 = (11 : Int32) → ¬ a1 = (12 : Int32) → wp_N_get k_ce k_bc m_ra m_up m_on m_lo m_hi m_mo m_ma m_li n_rg (a1 &&& (7 : Int32)) (fun r2 => P r2))
def wp_P_pack_10 (s_bk s_ln : Nat → Int32) (s_ct : Int32) (P : Int32 → (Nat → Int32) → (Nat → Int32) → (Nat → Int32) → (Int32) → Prop) : Nat → (Nat → Int32) → (Nat → Int32) → (Nat → Int32) → (Int32) → (Int32) → (Int32) → Prop
  | 0, _, _, _, _, _, _ => False
  | n9 + 1, t_bk, t_of, t_en, t_ct, x2, x3 => 
    ((8 : Int32) ≤ x3 → wp_P_packPinned s_bk s_ln t_bk t_of t_en t_ct x2 (fun r1 w2 w3 w4 => 
      (r1 = 0 → P (0 : Int32) w2 w3 w4 t_ct) ∧
      (¬ r1 = 0 → wp_P_packFloating s_bk s_ln w2 w3 w4 t_ct x2 (fun r5 w6 w7 w8 => 
        (r5 = 0 → P (0 : Int32) w6 w7 w8 t_ct) ∧
        (¬ r5 = 0 → P (1 : Int32) w6 w7 w8 t_ct))))) ∧
    (¬ (8 : Int32) ≤ x3 → 
      (¬ x3 = 0 → vp_in x3 8 ∧ ((wp_P_pack_10 s_bk s_ln s_ct P n9) t_bk t_of (upd t_en x3.toNatClampNeg (0 : Int32)) t_ct x2 (x3 + (1 : Int32)))) ∧
      (x3 = 0 → vp_in x3 8 ∧ ((wp_P_pack_10 s_bk s_ln s_ct P n9) t_bk t_of (upd t_en x3.toNatClampNeg (32 : Int32)) t_ct x2 (x3 + (1 : Int32)))))
def wp_P_pack (s_bk s_ln : Nat → Int32) (s_ct : Int32) (t_bk t_of t_en : Nat → Int32) (t_ct : Int32) (a2 : Int32) (P : Int32 → (Nat → Int32) → (Nat → Int32) → (Nat → Int32) → (Int32) → Prop) : Prop := ∃ j9 : Nat, wp_P_pack_10 s_bk s_ln s_ct P j9 t_bk t_of t_en s_ct a2 (0 : Int32)
def wp_Q_bits (q_banks : Int32) (q_memory q_register : Nat → Int32) (q_zero q_less q_half q_carry q_ram q_low q_top q_mode : Int32) (a1 : Int32) (P : (Nat → Int32) → (Nat → Int32) → (Int32) → (Int32) → (Int32) → (Int32) → (Int32) → (Int32) → (Int32) → (Int32) → Prop) : Prop := ∀ z1 : Int32, z1 = a1 - a1 / (8 : Int32) * (8 : Int32) → ∀ z2 : Int32, z2 = a1 / (8 : Int32) → ∀ z3 : Int32, z3 = (1 : Int32) <<< ((z2 - z2 / (8 : Int32) * (8 : Int32)) &&& 31) → 
  (¬ z2 = (7 : Int32) → wp_Q_get q_banks q_memory q_register q_ram q_low q_top q_mode z1 (fun r4 => 
    ((7 : Int32) ≤ z2 → 
      ((16 : Int32) ≤ z2 → 
        ((24 : Int32) ≤ z2 → wp_Q_set q_banks q_memory q_register q_ram q_low q_top q_mode z1 (r4 ||| z3) (fun w5 w6 w7 w8 w9 w10 => P w5 w6 q_zero q_less q_half q_carry w7 w8 w9 w10)) ∧
        (¬ (24 : Int32) ≤ z2 → wp_Q_set q_banks q_memory q_register q_ram q_low q_top q_mode z1 (r4 &&& ((255 : Int32) - z3)) (fun w11 w12 w13 w14 w15 w16 => P w11 w12 q_zero q_less q_half q_carry w13 w14 w15 w16))) ∧
      (¬ (16 : Int32) ≤ z2 → 
        (¬ (r4 &&& z3) = 0 → P q_memory q_register (0 : Int32) (0 : Int32) (1 : Int32) q_carry q_ram q_low q_top q_mode) ∧
        ((r4 &&& z3) = 0 → P q_memory q_register (1 : Int32) (0 : Int32) (1 : Int32) q_carry q_ram q_low q_top q_mode))) ∧
    (¬ (7 : Int32) ≤ z2 → wp_Q_turned q_zero q_less q_half q_carry z2 r4 (fun r17 w18 w19 w20 w21 => wp_Q_set q_banks q_memory q_register q_ram q_low q_top q_mode z1 r17 (fun w22 w23 w24 w25 w26 w27 => P w22 w23 w18 w19 w20 w21 w24 w25 w26 w27))))) ∧
  (z2 = (7 : Int32) → P q_memory q_register q_zero q_less q_half q_carry q_ram q_low q_top q_mode)
def wp_Q_few_172 (q_banks : Int32) (q_memory : Nat → Int32) (q_ram q_low q_top q_mode : Int32) (P : (Nat → Int32) → (Int32) → (Int32) → (Int32) → (Int32) → (Int32) → (Int32) → (Int32) → (Int32) → (Int32) → (Int32) → (Nat → Int32) → Prop) (q_register : Nat → Int32) (q_stack q_place q_zero q_less q_half q_carry q_enabled q_soon q_state q_sent : Int32) (q_out : Nat → Int32) (x1 : Int32) : Prop := wp_Q_pop q_banks q_memory q_stack q_ram q_low q_top q_mode (fun r11 w12 => 
  (¬ q_enabled = 0 → P q_register w12 r11 q_zero q_less q_half q_carry (1 : Int32) q_soon q_state q_sent q_out) ∧
  (q_enabled = 0 → 
    (¬ x1 = (5 : Int32) → P q_register w12 r11 q_zero q_less q_half q_carry (0 : Int32) q_soon q_state q_sent q_out) ∧
    (x1 = (5 : Int32) → P q_register w12 r11 q_zero q_less q_half q_carry (1 : Int32) q_soon q_state q_sent q_out)))
def wp_Q_few_137 (q_banks : Int32) (q_memory : Nat → Int32) (q_ram q_low q_top q_mode : Int32) (P : (Nat → Int32) → (Int32) → (Int32) → (Int32) → (Int32) → (Int32) → (Int32) → (Int32) → (Int32) → (Int32) → (Int32) → (Nat → Int32) → Prop) (q_register : Nat → Int32) (q_stack q_place q_zero q_less q_half q_carry q_enabled q_soon q_state q_sent : Int32) (q_out : Nat → Int32) (x1 : Int32) : Prop := 
  (x1 = (8 : Int32) → P q_register q_stack q_place q_zero (0 : Int32) (0 : Int32) (1 : Int32) q_enabled q_soon q_state q_sent q_out) ∧
  (¬ x1 = (8 : Int32) → 
    (¬ q_carry = 0 → P q_register q_stack q_place q_zero (0 : Int32) (0 : Int32) (0 : Int32) q_enabled q_soon q_state q_sent q_out) ∧
    (q_carry = 0 → P q_register q_stack q_place q_zero (0 : Int32) (0 : Int32) (1 : Int32) q_enabled q_soon q_state q_sent q_out))
def wp_Q_few (q_banks : Int32) (q_memory q_register : Nat → Int32) (q_stack q_place q_zero q_less q_half q_carry q_enabled q_soon q_ram q_low q_top q_mode q_state q_sent : Int32) (q_out : Nat → Int32) (a1 : Int32) (P : (Nat → Int32) → (Int32) → (Int32) → (Int32) → (Int32) → (Int32) → (Int32) → (Int32) → (Int32) → (Int32) → (Int32) → (Nat → Int32) → Prop) : Prop := 
  (a1 = (0 : Int32) → P q_register q_stack q_place q_zero q_less q_half q_carry q_enabled q_soon q_state q_sent q_out) ∧
  (a1 = (1 : Int32) → wp_Q_stand q_place q_state (1 : Int32) (fun w1 w2 => P q_register q_stack w1 q_zero q_less q_half q_carry q_enabled q_soon w2 q_sent q_out)) ∧
  (a1 = (2 : Int32) → wp_Q_stand q_place q_state (2 : Int32) (fun w3 w4 => P q_register q_stack w3 q_zero q_less q_half q_carry q_enabled q_soon w4 q_sent q_out)) ∧
  (a1 = (3 : Int32) → P q_register q_stack q_place q_zero q_less q_half q_carry (0 : Int32) q_soon q_state q_sent q_out) ∧
  (a1 = (4 : Int32) → P q_register q_stack q_place q_zero q_less q_half q_carry q_enabled (1 : Int32) q_state q_sent q_out) ∧
  (a1 = (5 : Int32) → wp_Q_few_172 q_banks q_memory q_ram q_low q_top q_mode P q_register q_stack q_place q_zero q_less q_half q_carry q_enabled q_soon q_state q_sent q_out a1) ∧
  (a1 = (6 : Int32) → wp_Q_adjust q_register q_zero q_less q_half q_carry (fun w5 w6 w7 w8 => P w5 q_stack q_place w6 q_less w7 w8 q_enabled q_soon q_state q_sent q_out)) ∧
  (a1 = (7 : Int32) → P (upd q_register (7 : Int32).toNatClampNeg ((255 : Int32) - (q_register (7 : Int32).toNatClampNeg))) q_stack q_place q_zero (1 : Int32) (1 : Int32) q_carry q_enabled q_soon q_state q_sent q_out) ∧
  (a1 = (8 : Int32) → wp_Q_few_137 q_banks q_memory q_ram q_low q_top q_mode P q_register q_stack q_place q_zero q_less q_half q_carry q_enabled q_soon q_state q_sent q_out a1) ∧
  (a1 = (9 : Int32) → wp_Q_few_137 q_banks q_memory q_ram q_low q_top q_mode P q_register q_stack q_place q_zero q_less q_half q_carry q_enabled q_soon q_state q_sent q_out a1) ∧
  (a1 = (10 : Int32) → wp_Q_few_172 q_banks q_memory q_ram q_low q_top q_mode P q_register q_stack q_place q_zero q_less q_half q_carry q_enabled q_soon q_state q_sent q_out a1) ∧
  (a1 = (11 : Int32) → 
    ((100 : Int32) ≤ q_sent → P q_register q_stack q_place q_zero q_less q_half q_carry q_enabled q_soon q_state (q_sent + (1 : Int32)) q_out) ∧
    (¬ (100 : Int32) ≤ q_sent → vp_in q_sent 100 ∧ (P q_register q_stack q_place q_zero q_less q_half q_carry q_enabled q_soon q_state (q_sent + (1 : Int32)) (upd q_out q_sent.toNatClampNeg (q_register (7 : Int32).toNatClampNeg))))) ∧
  (¬ a1 = (0 : Int32) → ¬ a1 = (1 : Int32) → ¬ a1 = (2 : Int32) → ¬ a1 = (3 : Int32) → ¬ a1 = (4 : Int32) → ¬ a1 = (5 : Int32) → ¬ a1 = (6 : Int32) → ¬ a1 = (7 : Int32) → ¬ a1 = (8 : Int32) → ¬ a1 = (9 : Int32) → ¬ a1 = (10 : Int32) → ¬ a1 = (11 : Int32) → wp_Q_stand q_place q_state (3 : Int32) (fun w9 w10 => P q_register q_stack w9 q_zero q_less q_half q_carry q_enabled q_soon w10 q_sent q_out))
def wp_Q_interrupt_2 (q_banks : Int32) (P : (Nat → Int32) → (Int32) → (Int32) → (Int32) → (Int32) → (Int32) → (Int32) → (Int32) → Prop) : Nat → (Nat → Int32) → (Int32) → (Int32) → (Int32) → (Int32) → (Int32) → (Int32) → (Int32) → (Int32) → (Int32) → Prop
  | 0, _, _, _, _, _, _, _, _, _, _ => False
  | n9 + 1, q_memory, q_stack, q_place, q_enabled, q_ram, q_low, q_top, q_mode, x1, x2 => 
    (¬ ((x1 >>> (x2 &&& 31)) &&& (1 : Int32)) = 0 → wp_Q_push q_banks (upd q_memory (703 : Int32).toNatClampNeg ((q_memory (703 : Int32).toNatClampNeg) - ((1 : Int32) <<< (x2 &&& 31)))) q_stack q_ram q_low q_top q_mode q_place (fun w1 w2 w3 w4 w5 w6 => P w1 w2 ((16 : Int32) + ((4 : Int32) * x2)) (0 : Int32) w3 w4 w5 w6)) ∧
    (((x1 >>> (x2 &&& 31)) &&& (1 : Int32)) = 0 → (wp_Q_interrupt_2 q_banks P n9) q_memory q_stack q_place q_enabled q_ram q_low q_top q_mode x1 (x2 + (1 : Int32)))
def wp_Q_interrupt (q_banks : Int32) (q_memory : Nat → Int32) (q_stack q_place q_enabled q_ram q_low q_top q_mode : Int32) (a1 : Int32) (P : (Nat → Int32) → (Int32) → (Int32) → (Int32) → (Int32) → (Int32) → (Int32) → (Int32) → Prop) : Prop := ∃ j9 : Nat, wp_Q_interrupt_2 q_banks P j9 q_memory q_stack q_place q_enabled q_ram q_low q_top q_mode a1 (0 : Int32)
def wp_Q_lead_78 (q_banks q_zero q_carry : Int32) (P : (Nat → Int32) → (Int32) → (Int32) → (Int32) → (Int32) → (Int32) → (Int32) → (Int32) → Prop) (q_memory : Nat → Int32) (q_stack q_place q_ram q_low q_top q_mode q_state x3 x4 y0 : Int32) : Prop := 
  (¬ x3 = (2 : Int32) → 
    (¬ x3 = (3 : Int32) → P q_memory q_stack x4 q_ram q_low q_top q_mode q_state) ∧
    (x3 = (3 : Int32) → P q_memory q_stack (((q_place + y0) + (256 : Int32)) - ((q_place + y0) + (256 : Int32)) / (256 : Int32) * (256 : Int32)) q_ram q_low q_top q_mode q_state)) ∧
  (x3 = (2 : Int32) → wp_Q_pop q_banks q_memory q_stack q_ram q_low q_top q_mode (fun r14 w15 => P q_memory w15 r14 q_ram q_low q_top q_mode q_state))
def wp_Q_lead_36 (q_banks q_zero q_carry : Int32) (P : (Nat → Int32) → (Int32) → (Int32) → (Int32) → (Int32) → (Int32) → (Int32) → (Int32) → Prop) (q_memory : Nat → Int32) (q_stack q_place q_ram q_low q_top q_mode q_state x2 x3 y0 : Int32) : Prop := wp_Q_holds q_zero q_carry x2 (fun r7 => 
  (¬ r7 = 0 → 
    (¬ x3 = (1 : Int32) → 
      (y0 ≤ (127 : Int32) → wp_Q_lead_78 q_banks q_zero q_carry P q_memory q_stack q_place q_ram q_low q_top q_mode q_state x3 y0 y0) ∧
      (¬ y0 ≤ (127 : Int32) → wp_Q_lead_78 q_banks q_zero q_carry P q_memory q_stack q_place q_ram q_low q_top q_mode q_state x3 y0 (y0 - (256 : Int32)))) ∧
    (x3 = (1 : Int32) → wp_Q_push q_banks q_memory q_stack q_ram q_low q_top q_mode q_place (fun w8 w9 w10 w11 w12 w13 => 
      (y0 ≤ (127 : Int32) → wp_Q_lead_78 q_banks q_zero q_carry P w8 w9 q_place w10 w11 w12 w13 q_state x3 y0 y0) ∧
      (¬ y0 ≤ (127 : Int32) → wp_Q_lead_78 q_banks q_zero q_carry P w8 w9 q_place w10 w11 w12 w13 q_state x3 y0 (y0 - (256 : Int32)))))) ∧
  (r7 = 0 → P q_memory q_stack q_place q_ram q_low q_top q_mode q_state))
def wp_Q_lead (q_banks : Int32) (q_memory : Nat → Int32) (q_stack q_place q_zero q_carry q_ram q_low q_top q_mode q_state : Int32) (a1 : Int32) (P : (Nat → Int32) → (Int32) → (Int32) → (Int32) → (Int32) → (Int32) → (Int32) → (Int32) → Prop) : Prop := ∀ z1 : Int32, z1 = a1 - a1 / (8 : Int32) * (8 : Int32) → ∀ z2 : Int32, z2 = (a1 / (8 : Int32)) - (a1 / (8 : Int32)) / (4 : Int32) * (4 : Int32) → 
  (z1 ≤ (4 : Int32) → 
    (¬ z2 = (2 : Int32) → wp_Q_next q_banks q_memory q_place q_ram q_low q_top q_mode (fun r3 w4 => wp_Q_lead_36 q_banks q_zero q_carry P q_memory q_stack w4 q_ram q_low q_top q_mode q_state z1 z2 r3)) ∧
    (z2 = (2 : Int32) → wp_Q_lead_36 q_banks q_zero q_carry P q_memory q_stack q_place q_ram q_low q_top q_mode q_state z1 z2 (0 : Int32))) ∧
  (¬ z1 ≤ (4 : Int32) → wp_Q_stand q_place q_state (3 : Int32) (fun w5 w6 => P q_memory q_stack w5 q_ram q_low q_top q_mode w6))
def wp_Q_link_81 (q_many : Int32) (q_pin q_size q_bytes q_kind : Nat → Int32) (P : Int32 → (Int32) → (Nat → Int32) → (Nat → Int32) → (Nat → Int32) → (Int32) → (Nat → Int32) → (Nat → Int32) → (Int32) → (Nat → Int32) → (Nat → Int32) → (Int32) → (Int32) → (Int32) → (Int32) → (Int32) → (Int32) → (Int32) → (Int32) → (Int32) → (Int32) → (Int32) → (Int32) → (Int32) → (Int32) → Prop) : Nat → (Int32) → (Nat → Int32) → (Nat → Int32) → (Nat → Int32) → (Int32) → (Nat → Int32) → (Nat → Int32) → (Int32) → (Nat → Int32) → (Nat → Int32) → (Int32) → (Int32) → (Int32) → (Int32) → (Int32) → (Int32) → (Int32) → (Int32) → (Int32) → (Int32) → (Int32) → (Int32) → (Int32) → (Int32) → (Int32) → (Int32) → Prop
  | 0, _, _, _, _, _, _, _, _, _, _, _, _, _, _, _, _, _, _, _, _, _, _, _, _, _, _ => False
  | n9 + 1, q_code, q_bank, q_address, q_full, q_linked, q_packedBank, q_packedAddress, q_banks, q_memory, q_register, q_stack, q_place, q_zero, q_less, q_half, q_carry, q_enabled, q_soon, q_ram, q_low, q_top, q_mode, q_state, q_sent, x2, x3 => 
    (q_many ≤ x3 → wp_Q_begin q_memory q_register q_stack q_place q_zero q_less q_half q_carry q_enabled q_soon q_ram q_low q_top q_mode q_state q_sent (fun w8 w9 w10 w11 w12 w13 w14 w15 w16 w17 w18 w19 w20 w21 w22 w23 => P x2 q_code q_bank q_address q_full q_linked q_packedBank q_packedAddress q_banks w8 w9 w10 w11 w12 w13 w14 w15 w16 w17 w18 w19 w20 w21 w22 w23)) ∧
    (¬ q_many ≤ x3 → vp_in x3 10 ∧ (vp_in x3 10 ∧ (vp_in x3 10 ∧ (vp_in x3 10 ∧ (vp_in x3 10 ∧ (∀ z24 : Int32, z24 = x2 + (q_size x3.toNatClampNeg) → (wp_Q_link_81 q_many q_pin q_size q_bytes q_kind P n9) q_code q_bank q_address q_full q_linked (upd q_packedBank x3.toNatClampNeg (q_bank x3.toNatClampNeg)) (upd q_packedAddress x3.toNatClampNeg (q_address x3.toNatClampNeg)) q_banks q_memory q_register q_stack q_place q_zero q_less q_half q_carry q_enabled q_soon q_ram q_low q_top q_mode q_state q_sent z24 (x3 + (1 : Int32))))))))
def wp_Q_link_52 (q_many : Int32) (q_pin q_size q_bytes q_kind : Nat → Int32) (P : Int32 → (Int32) → (Nat → Int32) → (Nat → Int32) → (Nat → Int32) → (Int32) → (Nat → Int32) → (Nat → Int32) → (Int32) → (Nat → Int32) → (Nat → Int32) → (Int32) → (Int32) → (Int32) → (Int32) → (Int32) → (Int32) → (Int32) → (Int32) → (Int32) → (Int32) → (Int32) → (Int32) → (Int32) → (Int32) → Prop) (q_code : Int32) (q_bank q_address q_full : Nat → Int32) (q_linked : Int32) (q_packedBank q_packedAddress : Nat → Int32) (q_banks : Int32) (q_memory q_register : Nat → Int32) (q_stack q_place q_zero q_less q_half q_carry q_enabled q_soon q_ram q_low q_top q_mode q_state q_sent x1 y0 : Int32) : Prop := 
  (y0 ≤ 0 → wp_Q_build q_many q_size q_bytes q_kind q_bank q_address q_banks q_memory x1 (fun w6 w7 => ∃ j9 : Nat, wp_Q_link_81 q_many q_pin q_size q_bytes q_kind P j9 y0 q_bank q_address q_full q_many q_packedBank q_packedAddress w6 w7 q_register q_stack q_place q_zero q_less q_half q_carry q_enabled q_soon q_ram q_low q_top q_mode q_state q_sent (0 : Int32) (0 : Int32))) ∧
  (¬ y0 ≤ 0 → P (0 : Int32) y0 q_bank q_address q_full q_linked q_packedBank q_packedAddress q_banks q_memory q_register q_stack q_place q_zero q_less q_half q_carry q_enabled q_soon q_ram q_low q_top q_mode q_state q_sent)
def wp_Q_link_21 (q_many : Int32) (q_pin q_size q_bytes q_kind : Nat → Int32) (P : Int32 → (Int32) → (Nat → Int32) → (Nat → Int32) → (Nat → Int32) → (Int32) → (Nat → Int32) → (Nat → Int32) → (Int32) → (Nat → Int32) → (Nat → Int32) → (Int32) → (Int32) → (Int32) → (Int32) → (Int32) → (Int32) → (Int32) → (Int32) → (Int32) → (Int32) → (Int32) → (Int32) → (Int32) → (Int32) → Prop) (q_code : Int32) (q_bank q_address q_full : Nat → Int32) (q_linked : Int32) (q_packedBank q_packedAddress : Nat → Int32) (q_banks : Int32) (q_memory q_register : Nat → Int32) (q_stack q_place q_zero q_less q_half q_carry q_enabled q_soon q_ram q_low q_top q_mode q_state q_sent x1 : Int32) : Prop := 
  (q_many = 0 → wp_Q_link_52 q_many q_pin q_size q_bytes q_kind P q_code q_bank q_address q_full q_linked q_packedBank q_packedAddress q_banks q_memory q_register q_stack q_place q_zero q_less q_half q_carry q_enabled q_soon q_ram q_low q_top q_mode q_state q_sent x1 (2 : Int32)) ∧
  (¬ q_many = 0 → wp_Q_allKnown q_many q_size q_bytes q_kind (fun r1 => 
    (¬ r1 = 0 → wp_Q_pack q_many q_pin q_size q_bank q_address q_full x1 (fun r2 w3 w4 w5 => 
      (r2 = 0 → wp_Q_link_52 q_many q_pin q_size q_bytes q_kind P q_code w3 w4 w5 q_linked q_packedBank q_packedAddress q_banks q_memory q_register q_stack q_place q_zero q_less q_half q_carry q_enabled q_soon q_ram q_low q_top q_mode q_state q_sent x1 (3 : Int32)) ∧
      (¬ r2 = 0 → wp_Q_link_52 q_many q_pin q_size q_bytes q_kind P q_code w3 w4 w5 q_linked q_packedBank q_packedAddress q_banks q_memory q_register q_stack q_place q_zero q_less q_half q_carry q_enabled q_soon q_ram q_low q_top q_mode q_state q_sent x1 (0 : Int32)))) ∧
    (r1 = 0 → wp_Q_link_52 q_many q_pin q_size q_bytes q_kind P q_code q_bank q_address q_full q_linked q_packedBank q_packedAddress q_banks q_memory q_register q_stack q_place q_zero q_less q_half q_carry q_enabled q_soon q_ram q_low q_top q_mode q_state q_sent x1 (2 : Int32))))
def wp_Q_link (q_code q_many : Int32) (q_pin q_size q_bytes q_kind q_bank q_address q_full : Nat → Int32) (q_linked : Int32) (q_packedBank q_packedAddress : Nat → Int32) (q_banks : Int32) (q_memory q_register : Nat → Int32) (q_stack q_place q_zero q_less q_half q_carry q_enabled q_soon q_ram q_low q_top q_mode q_state q_sent : Int32) (a1 : Int32) (P : Int32 → (Int32) → (Nat → Int32) → (Nat → Int32) → (Nat → Int32) → (Int32) → (Nat → Int32) → (Nat → Int32) → (Int32) → (Nat → Int32) → (Nat → Int32) → (Int32) → (Int32) → (Int32) → (Int32) → (Int32) → (Int32) → (Int32) → (Int32) → (Int32) → (Int32) → (Int32) → (Int32) → (Int32) → (Int32) → Prop) : Prop := 
  (a1 = (2 : Int32) → wp_Q_link_21 q_many q_pin q_size q_bytes q_kind P q_code q_bank q_address q_full q_linked q_packedBank q_packedAddress q_banks q_memory q_register q_stack q_place q_zero q_less q_half q_carry q_enabled q_soon q_ram q_low q_top q_mode q_state q_sent a1) ∧
  (¬ a1 = (2 : Int32) → 
    (a1 = (4 : Int32) → wp_Q_link_21 q_many q_pin q_size q_bytes q_kind P q_code q_bank q_address q_full q_linked q_packedBank q_packedAddress q_banks q_memory q_register q_stack q_place q_zero q_less q_half q_carry q_enabled q_soon q_ram q_low q_top q_mode q_state q_sent a1) ∧
    (¬ a1 = (4 : Int32) → 
      (a1 = (8 : Int32) → wp_Q_link_21 q_many q_pin q_size q_bytes q_kind P q_code q_bank q_address q_full q_linked q_packedBank q_packedAddress q_banks q_memory q_register q_stack q_place q_zero q_less q_half q_carry q_enabled q_soon q_ram q_low q_top q_mode q_state q_sent a1) ∧
      (¬ a1 = (8 : Int32) → wp_Q_link_52 q_many q_pin q_size q_bytes q_kind P q_code q_bank q_address q_full q_linked q_packedBank q_packedAddress q_banks q_memory q_register q_stack q_place q_zero q_less q_half q_carry q_enabled q_soon q_ram q_low q_top q_mode q_state q_sent a1 (1 : Int32))))
def wp_Q_register_152 (q_linked q_banks : Int32) (q_memory q_register : Nat → Int32) (q_stack q_place q_zero q_less q_half q_carry q_enabled q_ram q_low q_top q_mode : Int32) (P : Int32 → (Int32) → Prop) (q_code y0 : Int32) : Prop := P (((y0 + ((4 : Int32) * q_low)) + ((2 : Int32) * q_top)) + q_mode) q_code
def wp_Q_register_121 (q_linked q_banks : Int32) (q_memory q_register : Nat → Int32) (q_stack q_place q_zero q_less q_half q_carry q_enabled q_ram q_low q_top q_mode : Int32) (P : Int32 → (Int32) → Prop) (q_code x1 y0 y1 : Int32) : Prop := ∀ z7 : Int32, z7 = y1 + y0 → 
  (¬ x1 = (10 : Int32) → 
    (¬ x1 = (11 : Int32) → 
      (q_enabled = 0 → P (0 : Int32) q_code) ∧
      (¬ q_enabled = 0 → P (1 : Int32) q_code)) ∧
    (x1 = (11 : Int32) → 
      (q_ram = 0 → wp_Q_register_152 q_linked q_banks q_memory q_register q_stack q_place q_zero q_less q_half q_carry q_enabled q_ram q_low q_top q_mode P q_code (0 : Int32)) ∧
      (¬ q_ram = 0 → wp_Q_register_152 q_linked q_banks q_memory q_register q_stack q_place q_zero q_less q_half q_carry q_enabled q_ram q_low q_top q_mode P q_code (16 : Int32)))) ∧
  (x1 = (10 : Int32) → P z7 q_code)
def wp_Q_register_95 (q_linked q_banks : Int32) (q_memory q_register : Nat → Int32) (q_stack q_place q_zero q_less q_half q_carry q_enabled q_ram q_low q_top q_mode : Int32) (P : Int32 → (Int32) → Prop) (q_code x1 y0 y1 : Int32) : Prop := 
  (q_half = 0 → 
    (q_carry = 0 → wp_Q_register_121 q_linked q_banks q_memory q_register q_stack q_place q_zero q_less q_half q_carry q_enabled q_ram q_low q_top q_mode P q_code x1 (0 : Int32) ((y1 + y0) + (0 : Int32))) ∧
    (¬ q_carry = 0 → wp_Q_register_121 q_linked q_banks q_memory q_register q_stack q_place q_zero q_less q_half q_carry q_enabled q_ram q_low q_top q_mode P q_code x1 (1 : Int32) ((y1 + y0) + (0 : Int32)))) ∧
  (¬ q_half = 0 → 
    (q_carry = 0 → wp_Q_register_121 q_linked q_banks q_memory q_register q_stack q_place q_zero q_less q_half q_carry q_enabled q_ram q_low q_top q_mode P q_code x1 (0 : Int32) ((y1 + y0) + (2 : Int32))) ∧
    (¬ q_carry = 0 → wp_Q_register_121 q_linked q_banks q_memory q_register q_stack q_place q_zero q_less q_half q_carry q_enabled q_ram q_low q_top q_mode P q_code x1 (1 : Int32) ((y1 + y0) + (2 : Int32))))
def wp_Q_register_29 (q_linked q_banks : Int32) (q_memory q_register : Nat → Int32) (q_stack q_place q_zero q_less q_half q_carry q_enabled q_ram q_low q_top q_mode : Int32) (P : Int32 → (Int32) → Prop) (q_code x1 : Int32) : Prop := 
  ((8 : Int32) ≤ x1 → 
    ((10 : Int32) ≤ x1 → 
      (q_zero = 0 → 
        (q_less = 0 → wp_Q_register_95 q_linked q_banks q_memory q_register q_stack q_place q_zero q_less q_half q_carry q_enabled q_ram q_low q_top q_mode P (0 : Int32) x1 (0 : Int32) (0 : Int32)) ∧
        (¬ q_less = 0 → wp_Q_register_95 q_linked q_banks q_memory q_register q_stack q_place q_zero q_less q_half q_carry q_enabled q_ram q_low q_top q_mode P (0 : Int32) x1 (4 : Int32) (0 : Int32))) ∧
      (¬ q_zero = 0 → 
        (q_less = 0 → wp_Q_register_95 q_linked q_banks q_memory q_register q_stack q_place q_zero q_less q_half q_carry q_enabled q_ram q_low q_top q_mode P (0 : Int32) x1 (0 : Int32) (8 : Int32)) ∧
        (¬ q_less = 0 → wp_Q_register_95 q_linked q_banks q_memory q_register q_stack q_place q_zero q_less q_half q_carry q_enabled q_ram q_low q_top q_mode P (0 : Int32) x1 (4 : Int32) (8 : Int32)))) ∧
    (¬ (10 : Int32) ≤ x1 → 
      (¬ x1 = (8 : Int32) → P q_place (0 : Int32)) ∧
      (x1 = (8 : Int32) → P q_stack (0 : Int32)))) ∧
  (¬ (8 : Int32) ≤ x1 → wp_Q_get q_banks q_memory q_register q_ram q_low q_top q_mode x1 (fun r6 => P r6 (0 : Int32)))
def wp_Q_register (q_code q_linked q_banks : Int32) (q_memory q_register : Nat → Int32) (q_stack q_place q_zero q_less q_half q_carry q_enabled q_ram q_low q_top q_mode : Int32) (a1 : Int32) (P : Int32 → (Int32) → Prop) : Prop := wp_Q_outside a1 (0 : Int32) (12 : Int32) (fun r1 => 
  (¬ r1 = 0 → wp_Q_refuse q_code (1 : Int32) (fun r2 w3 => P r2 w3)) ∧
  (r1 = 0 → 
    (¬ a1 = (6 : Int32) → wp_Q_register_29 q_linked q_banks q_memory q_register q_stack q_place q_zero q_less q_half q_carry q_enabled q_ram q_low q_top q_mode P q_code a1) ∧
    (a1 = (6 : Int32) → 
      (¬ q_linked = 0 → wp_Q_register_29 q_linked q_banks q_memory q_register q_stack q_place q_zero q_less q_half q_carry q_enabled q_ram q_low q_top q_mode P q_code a1) ∧
      (q_linked = 0 → wp_Q_refuse q_code (1 : Int32) (fun r4 w5 => P r4 w5)))))
def wp_Q_single_77 (q_banks : Int32) (P : (Nat → Int32) → (Nat → Int32) → (Int32) → (Int32) → (Int32) → (Int32) → (Int32) → (Int32) → (Int32) → (Int32) → (Int32) → (Int32) → Prop) (q_memory q_register : Nat → Int32) (q_stack q_place q_zero q_less q_half q_carry q_ram q_low q_top q_mode x1 x2 : Int32) : Prop := 
  (¬ x1 = (7 : Int32) → P q_memory q_register q_stack q_place q_zero q_less q_half q_carry q_ram q_low q_top q_mode) ∧
  (x1 = (7 : Int32) → wp_Q_get q_banks q_memory q_register q_ram q_low q_top q_mode x2 (fun r51 => wp_Q_plain q_zero q_less q_half q_carry (((r51 - r51 / (16 : Int32) * (16 : Int32)) * (16 : Int32)) + (r51 / (16 : Int32))) (0 : Int32) (fun r52 w53 w54 w55 w56 => wp_Q_set q_banks q_memory q_register q_ram q_low q_top q_mode x2 r52 (fun w57 w58 w59 w60 w61 w62 => P w57 w58 q_stack q_place w53 w54 w55 w56 w59 w60 w61 w62))))
def wp_Q_single_48 (q_banks : Int32) (P : (Nat → Int32) → (Nat → Int32) → (Int32) → (Int32) → (Int32) → (Int32) → (Int32) → (Int32) → (Int32) → (Int32) → (Int32) → (Int32) → Prop) (q_memory q_register : Nat → Int32) (q_stack q_place q_zero q_less q_half q_carry q_ram q_low q_top q_mode x1 x2 : Int32) : Prop := 
  (¬ x1 = (5 : Int32) → 
    (¬ x1 = (6 : Int32) → wp_Q_single_77 q_banks P q_memory q_register q_stack q_place q_zero q_less q_half q_carry q_ram q_low q_top q_mode x1 x2) ∧
    (x1 = (6 : Int32) → wp_Q_next q_banks q_memory q_place q_ram q_low q_top q_mode (fun r27 w28 => wp_Q_set q_banks q_memory q_register q_ram q_low q_top q_mode x2 r27 (fun w29 w30 w31 w32 w33 w34 => wp_Q_single_77 q_banks P w29 w30 q_stack w28 q_zero q_less q_half q_carry w31 w32 w33 w34 x1 x2)))) ∧
  (x1 = (5 : Int32) → wp_Q_pop q_banks q_memory q_stack q_ram q_low q_top q_mode (fun r35 w36 => wp_Q_set q_banks q_memory q_register q_ram q_low q_top q_mode x2 r35 (fun w37 w38 w39 w40 w41 w42 => 
    (¬ x1 = (6 : Int32) → wp_Q_single_77 q_banks P w37 w38 w36 q_place q_zero q_less q_half q_carry w39 w40 w41 w42 x1 x2) ∧
    (x1 = (6 : Int32) → wp_Q_next q_banks w37 q_place w39 w40 w41 w42 (fun r43 w44 => wp_Q_set q_banks w37 w38 w39 w40 w41 w42 x2 r43 (fun w45 w46 w47 w48 w49 w50 => wp_Q_single_77 q_banks P w45 w46 w36 w44 q_zero q_less q_half q_carry w47 w48 w49 w50 x1 x2))))))
def wp_Q_single_28 (q_banks : Int32) (P : (Nat → Int32) → (Nat → Int32) → (Int32) → (Int32) → (Int32) → (Int32) → (Int32) → (Int32) → (Int32) → (Int32) → (Int32) → (Int32) → Prop) (q_memory q_register : Nat → Int32) (q_stack q_place q_zero q_less q_half q_carry q_ram q_low q_top q_mode x1 x2 y0 y1 y3 : Int32) : Prop := wp_Q_count q_zero q_less q_half q_carry y1 y0 (fun r9 w10 w11 w12 w13 => wp_Q_set q_banks q_memory q_register q_ram q_low q_top q_mode y3 r9 (fun w14 w15 w16 w17 w18 w19 => 
  (¬ x1 = (4 : Int32) → wp_Q_single_48 q_banks P w14 w15 q_stack q_place w10 w11 w12 w13 w16 w17 w18 w19 x1 x2) ∧
  (x1 = (4 : Int32) → wp_Q_get q_banks w14 w15 w16 w17 w18 w19 x2 (fun r20 => wp_Q_push q_banks w14 q_stack w16 w17 w18 w19 r20 (fun w21 w22 w23 w24 w25 w26 => wp_Q_single_48 q_banks P w21 w15 w22 q_place w10 w11 w12 w13 w23 w24 w25 w26 x1 x2)))))
def wp_Q_single_10 (q_banks : Int32) (P : (Nat → Int32) → (Nat → Int32) → (Int32) → (Int32) → (Int32) → (Int32) → (Int32) → (Int32) → (Int32) → (Int32) → (Int32) → (Int32) → Prop) (q_memory q_register : Nat → Int32) (q_stack q_place q_zero q_less q_half q_carry q_ram q_low q_top q_mode x1 x2 : Int32) : Prop := wp_Q_get q_banks q_memory q_register q_ram q_low q_top q_mode x2 (fun r8 => 
  (¬ x1 = (2 : Int32) → wp_Q_single_28 q_banks P q_memory q_register q_stack q_place q_zero q_less q_half q_carry q_ram q_low q_top q_mode x1 x2 (0 : Int32) r8 x2) ∧
  (x1 = (2 : Int32) → wp_Q_single_28 q_banks P q_memory q_register q_stack q_place q_zero q_less q_half q_carry q_ram q_low q_top q_mode x1 x2 (1 : Int32) r8 x2))
def wp_Q_single (q_banks : Int32) (q_memory q_register : Nat → Int32) (q_stack q_place q_zero q_less q_half q_carry q_ram q_low q_top q_mode : Int32) (a1 a2 : Int32) (P : (Nat → Int32) → (Nat → Int32) → (Int32) → (Int32) → (Int32) → (Int32) → (Int32) → (Int32) → (Int32) → (Int32) → (Int32) → (Int32) → Prop) : Prop := 
  (a1 = (2 : Int32) → wp_Q_single_10 q_banks P q_memory q_register q_stack q_place q_zero q_less q_half q_carry q_ram q_low q_top q_mode a1 a2) ∧
  (¬ a1 = (2 : Int32) → 
    (¬ a1 = (3 : Int32) → 
      (¬ a1 = (4 : Int32) → wp_Q_single_48 q_banks P q_memory q_register q_stack q_place q_zero q_less q_half q_carry q_ram q_low q_top q_mode a1 a2) ∧
      (a1 = (4 : Int32) → wp_Q_get q_banks q_memory q_register q_ram q_low q_top q_mode a2 (fun r1 => wp_Q_push q_banks q_memory q_stack q_ram q_low q_top q_mode r1 (fun w2 w3 w4 w5 w6 w7 => wp_Q_single_48 q_banks P w2 q_register w3 q_place q_zero q_less q_half q_carry w4 w5 w6 w7 a1 a2)))) ∧
    (a1 = (3 : Int32) → wp_Q_single_10 q_banks P q_memory q_register q_stack q_place q_zero q_less q_half q_carry q_ram q_low q_top q_mode a1 a2))
def wp_D_link_24 (s_bk s_ln s_kd s_vl : Nat → Int32) (s_ct : Int32) (P : Int32 → (Nat → Int32) → (Int32) → (Nat → Int32) → (Nat → Int32) → (Int32) → (Int32) → (Int32) → (Int32) → (Int32) → (Int32) → (Nat → Int32) → (Int32) → (Int32) → (Int32) → (Int32) → (Int32) → (Int32) → (Int32) → (Int32) → (Int32) → (Int32) → (Nat → Int32) → (Nat → Int32) → (Nat → Int32) → (Int32) → (Nat → Int32) → (Nat → Int32) → (Nat → Int32) → (Int32) → Prop) (PX : Nat → (Nat → Int32) → (Int32) → (Nat → Int32) → (Nat → Int32) → (Int32) → (Int32) → (Int32) → (Int32) → (Int32) → (Int32) → (Nat → Int32) → (Int32) → (Int32) → (Int32) → (Int32) → (Int32) → (Int32) → (Int32) → (Int32) → (Int32) → (Int32) → (Nat → Int32) → (Nat → Int32) → (Nat → Int32) → (Int32) → (Nat → Int32) → (Nat → Int32) → (Nat → Int32) → (Int32) → Prop) (k_ce : Nat → Int32) (k_bc : Int32) (m_ra m_up : Nat → Int32) (m_on m_lo m_hi m_mo m_ma m_li : Int32) (n_rg : Nat → Int32) (n_st n_pl n_z n_n n_h n_c n_en n_so n_co n_sc : Int32) (l_bk l_of l_en : Nat → Int32) (l_ct : Int32) (t_bk t_of t_en : Nat → Int32) (t_ct x1 : Int32) : Prop := 
  (s_ct = 0 → PX 3 k_ce k_bc m_ra m_up m_on m_lo m_hi m_mo m_ma m_li n_rg n_st n_pl n_z n_n n_h n_c n_en n_so n_co n_sc l_bk l_of l_en l_ct t_bk t_of t_en t_ct) ∧
  (¬ s_ct = 0 → wp_S_lacksOne s_ln s_kd s_vl s_ct (fun r1 => 
    (r1 = 0 → wp_P_pack s_bk s_ln s_ct t_bk t_of t_en t_ct x1 (fun r2 w3 w4 w5 w6 => 
      (¬ r2 = 0 → wp_K_make s_ln s_kd s_vl s_ct k_ce k_bc w3 w4 x1 (fun w7 w8 => wp_N_begin m_ra m_up m_on m_lo m_hi m_mo m_ma m_li n_rg n_st n_pl n_z n_n n_h n_c n_en n_so n_co n_sc (fun w9 w10 w11 w12 w13 w14 w15 w16 w17 w18 w19 w20 w21 w22 w23 w24 w25 w26 w27 => wp_S_total s_ln s_ct (fun r28 => P r28 w7 w8 w9 w10 w11 w12 w13 w14 w15 w16 w17 w18 w19 w20 w21 w22 w23 w24 w25 w26 w27 w3 w4 w5 w6 l_bk l_of l_en l_ct)))) ∧
      (r2 = 0 → PX 2 k_ce k_bc m_ra m_up m_on m_lo m_hi m_mo m_ma m_li n_rg n_st n_pl n_z n_n n_h n_c n_en n_so n_co n_sc l_bk l_of l_en l_ct w3 w4 w5 w6))) ∧
    (¬ r1 = 0 → PX 3 k_ce k_bc m_ra m_up m_on m_lo m_hi m_mo m_ma m_li n_rg n_st n_pl n_z n_n n_h n_c n_en n_so n_co n_sc l_bk l_of l_en l_ct t_bk t_of t_en t_ct)))
def wp_D_link (s_bk s_ln s_kd s_vl : Nat → Int32) (s_ct : Int32) (k_ce : Nat → Int32) (k_bc : Int32) (m_ra m_up : Nat → Int32) (m_on m_lo m_hi m_mo m_ma m_li : Int32) (n_rg : Nat → Int32) (n_st n_pl n_z n_n n_h n_c n_en n_so n_co n_sc : Int32) (l_bk l_of l_en : Nat → Int32) (l_ct : Int32) (t_bk t_of t_en : Nat → Int32) (t_ct : Int32) (a1 : Int32) (P : Int32 → (Nat → Int32) → (Int32) → (Nat → Int32) → (Nat → Int32) → (Int32) → (Int32) → (Int32) → (Int32) → (Int32) → (Int32) → (Nat → Int32) → (Int32) → (Int32) → (Int32) → (Int32) → (Int32) → (Int32) → (Int32) → (Int32) → (Int32) → (Int32) → (Nat → Int32) → (Nat → Int32) → (Nat → Int32) → (Int32) → (Nat → Int32) → (Nat → Int32) → (Nat → Int32) → (Int32) → Prop) (PX : Nat → (Nat → Int32) → (Int32) → (Nat → Int32) → (Nat → Int32) → (Int32) → (Int32) → (Int32) → (Int32) → (Int32) → (Int32) → (Nat → Int32) → (Int32) → (Int32) → (Int32) → (Int32) → (Int32) → (Int32) → (Int32) → (Int32) → (Int32) → (Int32) → (Nat → Int32) → (Nat → Int32) → (Nat → Int32) → (Int32) → (Nat → Int32) → (Nat → Int32) → (Nat → Int32) → (Int32) → Prop) : Prop := 
  (a1 = (2 : Int32) → wp_D_link_24 s_bk s_ln s_kd s_vl s_ct P PX k_ce k_bc m_ra m_up m_on m_lo m_hi m_mo m_ma m_li n_rg n_st n_pl n_z n_n n_h n_c n_en n_so n_co n_sc l_bk l_of l_en l_ct t_bk t_of t_en t_ct a1) ∧
  (¬ a1 = (2 : Int32) → 
    (a1 = (4 : Int32) → wp_D_link_24 s_bk s_ln s_kd s_vl s_ct P PX k_ce k_bc m_ra m_up m_on m_lo m_hi m_mo m_ma m_li n_rg n_st n_pl n_z n_n n_h n_c n_en n_so n_co n_sc l_bk l_of l_en l_ct t_bk t_of t_en t_ct a1) ∧
    (¬ a1 = (4 : Int32) → 
      (a1 = (8 : Int32) → wp_D_link_24 s_bk s_ln s_kd s_vl s_ct P PX k_ce k_bc m_ra m_up m_on m_lo m_hi m_mo m_ma m_li n_rg n_st n_pl n_z n_n n_h n_c n_en n_so n_co n_sc l_bk l_of l_en l_ct t_bk t_of t_en t_ct a1) ∧
      (¬ a1 = (8 : Int32) → PX 1 k_ce k_bc m_ra m_up m_on m_lo m_hi m_mo m_ma m_li n_rg n_st n_pl n_z n_n n_h n_c n_en n_so n_co n_sc l_bk l_of l_en l_ct t_bk t_of t_en t_ct)))
def wp_D_register_11 (k_ce : Nat → Int32) (k_bc : Int32) (m_ra m_up : Nat → Int32) (m_on m_lo m_hi m_mo m_ma m_li : Int32) (n_rg : Nat → Int32) (n_st n_pl n_z n_n n_h n_c n_en : Int32) (P : Int32 → Prop) (PX : Nat → Prop) (x1 y0 : Int32) : Prop := 
  (x1 < 0 → PX 3) ∧
  (¬ x1 < 0 → 
    ((12 : Int32) < x1 → PX 3) ∧
    (¬ (12 : Int32) < x1 → 
      (y0 = 0 → wp_N_shown k_ce k_bc m_ra m_up m_on m_lo m_hi m_mo m_ma m_li n_rg n_st n_pl n_z n_n n_h n_c n_en x1 (fun r1 => P r1)) ∧
      (¬ y0 = 0 → wp_K_isMade k_bc (fun r2 => 
        (¬ r2 = 0 → wp_N_shown k_ce k_bc m_ra m_up m_on m_lo m_hi m_mo m_ma m_li n_rg n_st n_pl n_z n_n n_h n_c n_en x1 (fun r3 => P r3)) ∧
        (r2 = 0 → PX 3)))))
def wp_D_register (k_ce : Nat → Int32) (k_bc : Int32) (m_ra m_up : Nat → Int32) (m_on m_lo m_hi m_mo m_ma m_li : Int32) (n_rg : Nat → Int32) (n_st n_pl n_z n_n n_h n_c n_en : Int32) (a1 : Int32) (P : Int32 → Prop) (PX : Nat → Prop) : Prop := 
  (¬ a1 = (6 : Int32) → wp_D_register_11 k_ce k_bc m_ra m_up m_on m_lo m_hi m_mo m_ma m_li n_rg n_st n_pl n_z n_n n_h n_c n_en P PX a1 (0 : Int32)) ∧
  (a1 = (6 : Int32) → wp_D_register_11 k_ce k_bc m_ra m_up m_on m_lo m_hi m_mo m_ma m_li n_rg n_st n_pl n_z n_n n_h n_c n_en P PX a1 (1 : Int32))
def wp_N_obey (k_ce : Nat → Int32) (k_bc : Int32) (m_ra m_up : Nat → Int32) (m_on m_lo m_hi m_mo m_ma m_li : Int32) (n_rg n_sb : Nat → Int32) (n_st n_pl n_z n_n n_h n_c n_en n_so n_co n_sc : Int32) (a1 : Int32) (P : (Nat → Int32) → (Nat → Int32) → (Int32) → (Int32) → (Int32) → (Int32) → (Int32) → (Int32) → (Nat → Int32) → (Nat → Int32) → (Int32) → (Int32) → (Int32) → (Int32) → (Int32) → (Int32) → (Int32) → (Int32) → (Int32) → (Int32) → Prop) : Prop := ∀ z1 : Int32, z1 = a1 >>> ((3 : Int32) &&& 31) → ∀ z2 : Int32, z2 = a1 &&& (7 : Int32) → 
  ((2 : Int32) ≤ z1 → 
    ((8 : Int32) ≤ z1 → 
      ((16 : Int32) ≤ z1 → 
        ((24 : Int32) ≤ z1 → 
          ((28 : Int32) ≤ z1 → 
            (¬ z1 = (28 : Int32) → 
              (¬ a1 = (240 : Int32) → wp_N_endAs n_pl n_co (3 : Int32) (fun w3 w4 => P m_ra m_up m_on m_lo m_hi m_mo m_ma m_li n_rg n_sb n_st w3 n_z n_n n_h n_c n_en n_so w4 n_sc)) ∧
              (a1 = (240 : Int32) → wp_N_next k_ce k_bc m_ra m_up m_on m_lo m_hi m_mo m_ma m_li n_pl (fun r5 w6 => wp_N_obeyOnBits k_ce k_bc m_ra m_up m_on m_lo m_hi m_mo m_ma m_li n_rg n_z n_n n_h n_c r5 (fun w7 w8 w9 w10 w11 w12 w13 w14 w15 w16 w17 w18 w19 => P w7 w8 w9 w10 w11 w12 w13 w14 w15 n_sb n_st w6 w16 w17 w18 w19 n_en n_so n_co n_sc)))) ∧
            (z1 = (28 : Int32) → wp_N_next k_ce k_bc m_ra m_up m_on m_lo m_hi m_mo m_ma m_li n_pl (fun r20 w21 => wp_N_calculate n_rg n_z n_n n_h n_c z2 r20 (fun w22 w23 w24 w25 w26 => P m_ra m_up m_on m_lo m_hi m_mo m_ma m_li w22 n_sb n_st w21 w23 w24 w25 w26 n_en n_so n_co n_sc)))) ∧
          (¬ (28 : Int32) ≤ z1 → wp_N_obeyJump k_ce k_bc m_ra m_up m_on m_lo m_hi m_mo m_ma m_li n_st n_pl n_z n_c n_co (z1 - (24 : Int32)) z2 (fun w27 w28 w29 w30 w31 w32 w33 w34 w35 w36 w37 => P w27 w28 w29 w30 w31 w32 w33 w34 n_rg n_sb w35 w36 n_z n_n n_h n_c n_en n_so w37 n_sc))) ∧
        (¬ (24 : Int32) ≤ z1 → wp_N_get k_ce k_bc m_ra m_up m_on m_lo m_hi m_mo m_ma m_li n_rg z2 (fun r38 => wp_N_calculate n_rg n_z n_n n_h n_c (z1 - (16 : Int32)) r38 (fun w39 w40 w41 w42 w43 => P m_ra m_up m_on m_lo m_hi m_mo m_ma m_li w39 n_sb n_st n_pl w40 w41 w42 w43 n_en n_so n_co n_sc)))) ∧
      (¬ (16 : Int32) ≤ z1 → wp_N_get k_ce k_bc m_ra m_up m_on m_lo m_hi m_mo m_ma m_li n_rg z2 (fun r44 => wp_N_set m_ra m_up m_on m_lo m_hi m_mo m_ma m_li n_rg (z1 - (8 : Int32)) r44 (fun w45 w46 w47 w48 w49 w50 w51 w52 w53 => P w45 w46 w47 w48 w49 w50 w51 w52 w53 n_sb n_st n_pl n_z n_n n_h n_c n_en n_so n_co n_sc)))) ∧
    (¬ (8 : Int32) ≤ z1 → wp_N_obeyOnOne k_ce k_bc m_ra m_up m_on m_lo m_hi m_mo m_ma m_li n_rg n_st n_pl n_z n_n n_h n_c z1 z2 (fun w54 w55 w56 w57 w58 w59 w60 w61 w62 w63 w64 w65 w66 w67 w68 => P w54 w55 w56 w57 w58 w59 w60 w61 w62 n_sb w63 w64 w65 w66 w67 w68 n_en n_so n_co n_sc))) ∧
  (¬ (2 : Int32) ≤ z1 → wp_N_obeySingle k_ce k_bc m_ra m_up m_on m_lo m_hi m_mo m_ma m_li n_rg n_sb n_st n_pl n_z n_n n_h n_c n_en n_so n_co n_sc a1 (fun w69 w70 w71 w72 w73 w74 w75 w76 w77 w78 w79 w80 => P m_ra m_up m_on m_lo m_hi m_mo m_ma m_li w69 w70 w71 w72 w73 w74 w75 w76 w77 w78 w79 w80))
def wp_Q_instruction (q_banks : Int32) (q_memory q_register : Nat → Int32) (q_stack q_place q_zero q_less q_half q_carry q_enabled q_soon q_ram q_low q_top q_mode q_state q_sent : Int32) (q_out : Nat → Int32)  (P : (Nat → Int32) → (Nat → Int32) → (Int32) → (Int32) → (Int32) → (Int32) → (Int32) → (Int32) → (Int32) → (Int32) → (Int32) → (Int32) → (Int32) → (Int32) → (Int32) → (Int32) → (Nat → Int32) → Prop) : Prop := wp_Q_next q_banks q_memory q_place q_ram q_low q_top q_mode (fun r1 w2 => 
  ((16 : Int32) ≤ r1 → 
    ((64 : Int32) ≤ r1 → 
      ((128 : Int32) ≤ r1 → 
        ((192 : Int32) ≤ r1 → 
          ((224 : Int32) ≤ r1 → 
            ((232 : Int32) ≤ r1 → 
              (¬ r1 = (240 : Int32) → wp_Q_stand w2 q_state (3 : Int32) (fun w3 w4 => P q_memory q_register q_stack w3 q_zero q_less q_half q_carry q_enabled q_soon q_ram q_low q_top q_mode w4 q_sent q_out)) ∧
              (r1 = (240 : Int32) → wp_Q_next q_banks q_memory w2 q_ram q_low q_top q_mode (fun r5 w6 => wp_Q_bits q_banks q_memory q_register q_zero q_less q_half q_carry q_ram q_low q_top q_mode r5 (fun w7 w8 w9 w10 w11 w12 w13 w14 w15 w16 => P w7 w8 q_stack w6 w9 w10 w11 w12 q_enabled q_soon w13 w14 w15 w16 q_state q_sent q_out)))) ∧
            (¬ (232 : Int32) ≤ r1 → wp_Q_next q_banks q_memory w2 q_ram q_low q_top q_mode (fun r17 w18 => wp_Q_reckon q_register q_zero q_less q_half q_carry (r1 - r1 / (8 : Int32) * (8 : Int32)) r17 (fun w19 w20 w21 w22 w23 => P q_memory w19 q_stack w18 w20 w21 w22 w23 q_enabled q_soon q_ram q_low q_top q_mode q_state q_sent q_out)))) ∧
          (¬ (224 : Int32) ≤ r1 → wp_Q_lead q_banks q_memory q_stack w2 q_zero q_carry q_ram q_low q_top q_mode q_state r1 (fun w24 w25 w26 w27 w28 w29 w30 w31 => P w24 q_register w25 w26 q_zero q_less q_half q_carry q_enabled q_soon w27 w28 w29 w30 w31 q_sent q_out))) ∧
        (¬ (192 : Int32) ≤ r1 → wp_Q_get q_banks q_memory q_register q_ram q_low q_top q_mode (r1 - r1 / (8 : Int32) * (8 : Int32)) (fun r32 => wp_Q_reckon q_register q_zero q_less q_half q_carry ((r1 / (8 : Int32)) - (r1 / (8 : Int32)) / (8 : Int32) * (8 : Int32)) r32 (fun w33 w34 w35 w36 w37 => P q_memory w33 q_stack w2 w34 w35 w36 w37 q_enabled q_soon q_ram q_low q_top q_mode q_state q_sent q_out)))) ∧
      (¬ (128 : Int32) ≤ r1 → wp_Q_get q_banks q_memory q_register q_ram q_low q_top q_mode (r1 - r1 / (8 : Int32) * (8 : Int32)) (fun r38 => wp_Q_set q_banks q_memory q_register q_ram q_low q_top q_mode ((r1 / (8 : Int32)) - (r1 / (8 : Int32)) / (8 : Int32) * (8 : Int32)) r38 (fun w39 w40 w41 w42 w43 w44 => P w39 w40 q_stack w2 q_zero q_less q_half q_carry q_enabled q_soon w41 w42 w43 w44 q_state q_sent q_out)))) ∧
    (¬ (64 : Int32) ≤ r1 → wp_Q_single q_banks q_memory q_register q_stack w2 q_zero q_less q_half q_carry q_ram q_low q_top q_mode (r1 / (8 : Int32)) (r1 - r1 / (8 : Int32) * (8 : Int32)) (fun w45 w46 w47 w48 w49 w50 w51 w52 w53 w54 w55 w56 => P w45 w46 w47 w48 w49 w50 w51 w52 q_enabled q_soon w53 w54 w55 w56 q_state q_sent q_out))) ∧
  (¬ (16 : Int32) ≤ r1 → wp_Q_few q_banks q_memory q_register q_stack w2 q_zero q_less q_half q_carry q_enabled q_soon q_ram q_low q_top q_mode q_state q_sent q_out r1 (fun w57 w58 w59 w60 w61 w62 w63 w64 w65 w66 w67 w68 => P q_memory w57 w58 w59 w60 w61 w62 w63 w64 w65 q_ram q_low q_top q_mode w66 w67 w68)))
def wp_N_step_44 (k_ce : Nat → Int32) (k_bc : Int32) (P : (Nat → Int32) → (Nat → Int32) → (Int32) → (Int32) → (Int32) → (Int32) → (Int32) → (Int32) → (Nat → Int32) → (Nat → Int32) → (Int32) → (Int32) → (Int32) → (Int32) → (Int32) → (Int32) → (Int32) → (Int32) → (Int32) → (Int32) → Prop) (m_ra m_up : Nat → Int32) (m_on m_lo m_hi m_mo m_ma m_li : Int32) (n_rg n_sb : Nat → Int32) (n_st n_pl n_z n_n n_h n_c n_en n_so n_co n_sc : Int32) : Prop := wp_N_next k_ce k_bc m_ra m_up m_on m_lo m_hi m_mo m_ma m_li n_pl (fun r15 w16 => wp_N_obey k_ce k_bc m_ra m_up m_on m_lo m_hi m_mo m_ma m_li n_rg n_sb n_st w16 n_z n_n n_h n_c n_en (0 : Int32) n_co n_sc r15 (fun w17 w18 w19 w20 w21 w22 w23 w24 w25 w26 w27 w28 w29 w30 w31 w32 w33 w34 w35 w36 => 
  (¬ w33 = 0 → P w17 w18 w19 w20 w21 w22 w23 w24 w25 w26 w27 w28 w29 w30 w31 w32 (1 : Int32) w34 w35 w36) ∧
  (w33 = 0 → 
    (n_so = 0 → P w17 w18 w19 w20 w21 w22 w23 w24 w25 w26 w27 w28 w29 w30 w31 w32 (0 : Int32) w34 w35 w36) ∧
    (¬ n_so = 0 → P w17 w18 w19 w20 w21 w22 w23 w24 w25 w26 w27 w28 w29 w30 w31 w32 (1 : Int32) w34 w35 w36))))
def wp_N_step (k_ce : Nat → Int32) (k_bc : Int32) (m_ra m_up : Nat → Int32) (m_on m_lo m_hi m_mo m_ma m_li : Int32) (n_rg n_sb : Nat → Int32) (n_st n_pl n_z n_n n_h n_c n_en n_so n_co n_sc : Int32)  (P : (Nat → Int32) → (Nat → Int32) → (Int32) → (Int32) → (Int32) → (Int32) → (Int32) → (Int32) → (Nat → Int32) → (Nat → Int32) → (Int32) → (Int32) → (Int32) → (Int32) → (Int32) → (Int32) → (Int32) → (Int32) → (Int32) → (Int32) → Prop) : Prop := wp_M_askingLine m_ma m_li (fun r1 => 
  (¬ n_co = (1 : Int32) → 
    (n_en = 0 → wp_N_step_44 k_ce k_bc P m_ra m_up m_on m_lo m_hi m_mo m_ma m_li n_rg n_sb n_st n_pl n_z n_n n_h n_c n_en n_so n_co n_sc) ∧
    (¬ n_en = 0 → 
      (r1 = (-1 : Int32) → wp_N_step_44 k_ce k_bc P m_ra m_up m_on m_lo m_hi m_mo m_ma m_li n_rg n_sb n_st n_pl n_z n_n n_h n_c n_en n_so n_co n_sc) ∧
      (¬ r1 = (-1 : Int32) → wp_N_interruptFor m_ra m_up m_on m_lo m_hi m_mo m_ma m_li n_st n_pl n_en r1 (fun w2 w3 w4 w5 w6 w7 w8 w9 w10 w11 w12 => P w2 w3 w4 w5 w6 w7 w8 w9 n_rg n_sb w10 w11 n_z n_n n_h n_c w12 n_so n_co n_sc)))) ∧
  (n_co = (1 : Int32) → wp_N_wakeFor n_pl n_co r1 (fun w13 w14 => P m_ra m_up m_on m_lo m_hi m_mo m_ma m_li n_rg n_sb n_st w13 n_z n_n n_h n_c n_en n_so w14 n_sc)))
def wp_Q_step_86 (q_banks : Int32) (P : (Nat → Int32) → (Nat → Int32) → (Int32) → (Int32) → (Int32) → (Int32) → (Int32) → (Int32) → (Int32) → (Int32) → (Int32) → (Int32) → (Int32) → (Int32) → (Int32) → (Int32) → (Nat → Int32) → Prop) (q_memory q_register : Nat → Int32) (q_stack q_place q_zero q_less q_half q_carry q_enabled q_soon q_ram q_low q_top q_mode q_state q_sent : Int32) (q_out : Nat → Int32) : Prop := wp_Q_instruction q_banks q_memory q_register q_stack q_place q_zero q_less q_half q_carry q_enabled (0 : Int32) q_ram q_low q_top q_mode q_state q_sent q_out (fun w10 w11 w12 w13 w14 w15 w16 w17 w18 w19 w20 w21 w22 w23 w24 w25 w26 => 
  (¬ w18 = 0 → P w10 w11 w12 w13 w14 w15 w16 w17 (1 : Int32) w19 w20 w21 w22 w23 w24 w25 w26) ∧
  (w18 = 0 → 
    (q_soon = 0 → P w10 w11 w12 w13 w14 w15 w16 w17 (0 : Int32) w19 w20 w21 w22 w23 w24 w25 w26) ∧
    (¬ q_soon = 0 → P w10 w11 w12 w13 w14 w15 w16 w17 (1 : Int32) w19 w20 w21 w22 w23 w24 w25 w26)))
def wp_Q_step (q_banks : Int32) (q_memory q_register : Nat → Int32) (q_stack q_place q_zero q_less q_half q_carry q_enabled q_soon q_ram q_low q_top q_mode q_state q_sent : Int32) (q_out : Nat → Int32)  (P : (Nat → Int32) → (Nat → Int32) → (Int32) → (Int32) → (Int32) → (Int32) → (Int32) → (Int32) → (Int32) → (Int32) → (Int32) → (Int32) → (Int32) → (Int32) → (Int32) → (Int32) → (Nat → Int32) → Prop) : Prop := ∀ z1 : Int32, z1 = (q_memory (702 : Int32).toNatClampNeg) &&& (q_memory (703 : Int32).toNatClampNeg) → 
  (¬ q_state = (1 : Int32) → 
    (q_enabled = 0 → wp_Q_step_86 q_banks P q_memory q_register q_stack q_place q_zero q_less q_half q_carry q_enabled q_soon q_ram q_low q_top q_mode q_state q_sent q_out) ∧
    (¬ q_enabled = 0 → 
      (z1 = 0 → wp_Q_step_86 q_banks P q_memory q_register q_stack q_place q_zero q_less q_half q_carry q_enabled q_soon q_ram q_low q_top q_mode q_state q_sent q_out) ∧
      (¬ z1 = 0 → wp_Q_interrupt q_banks q_memory q_stack q_place q_enabled q_ram q_low q_top q_mode z1 (fun w2 w3 w4 w5 w6 w7 w8 w9 => P w2 q_register w3 w4 q_zero q_less q_half q_carry w5 q_soon w6 w7 w8 w9 q_state q_sent q_out)))) ∧
  (q_state = (1 : Int32) → 
    (¬ z1 = 0 → 
      (¬ z1 = 0 → P q_memory q_register q_stack ((q_place + (1 : Int32)) - (q_place + (1 : Int32)) / (256 : Int32) * (256 : Int32)) q_zero q_less q_half q_carry q_enabled q_soon q_ram q_low q_top q_mode (0 : Int32) q_sent q_out) ∧
      (z1 = 0 → P q_memory q_register q_stack ((q_place + (1 : Int32)) - (q_place + (1 : Int32)) / (256 : Int32) * (256 : Int32)) q_zero q_less q_half q_carry q_enabled q_soon q_ram q_low q_top q_mode (1 : Int32) q_sent q_out)) ∧
    (z1 = 0 → 
      (¬ z1 = 0 → P q_memory q_register q_stack q_place q_zero q_less q_half q_carry q_enabled q_soon q_ram q_low q_top q_mode (0 : Int32) q_sent q_out) ∧
      (z1 = 0 → P q_memory q_register q_stack q_place q_zero q_less q_half q_carry q_enabled q_soon q_ram q_low q_top q_mode (1 : Int32) q_sent q_out)))
def wp_D_run_20 (k_ce : Nat → Int32) (k_bc : Int32) (P : Int32 → (Nat → Int32) → (Nat → Int32) → (Int32) → (Int32) → (Int32) → (Int32) → (Int32) → (Int32) → (Nat → Int32) → (Nat → Int32) → (Int32) → (Int32) → (Int32) → (Int32) → (Int32) → (Int32) → (Int32) → (Int32) → (Int32) → (Int32) → Prop) (PX : Nat → (Nat → Int32) → (Nat → Int32) → (Int32) → (Int32) → (Int32) → (Int32) → (Int32) → (Int32) → (Nat → Int32) → (Nat → Int32) → (Int32) → (Int32) → (Int32) → (Int32) → (Int32) → (Int32) → (Int32) → (Int32) → (Int32) → (Int32) → Prop) : Nat → (Nat → Int32) → (Nat → Int32) → (Int32) → (Int32) → (Int32) → (Int32) → (Int32) → (Int32) → (Nat → Int32) → (Nat → Int32) → (Int32) → (Int32) → (Int32) → (Int32) → (Int32) → (Int32) → (Int32) → (Int32) → (Int32) → (Int32) → (Int32) → (Int32) → Prop
  | 0, _, _, _, _, _, _, _, _, _, _, _, _, _, _, _, _, _, _, _, _, _, _ => False
  | n9 + 1, m_ra, m_up, m_on, m_lo, m_hi, m_mo, m_ma, m_li, n_rg, n_sb, n_st, n_pl, n_z, n_n, n_h, n_c, n_en, n_so, n_co, n_sc, x1, x2 => 
    (x1 ≤ x2 → P x2 m_ra m_up m_on m_lo m_hi m_mo m_ma m_li n_rg n_sb n_st n_pl n_z n_n n_h n_c n_en n_so n_co n_sc) ∧
    (¬ x1 ≤ x2 → 
      ((2000 : Int32) ≤ x2 → P x2 m_ra m_up m_on m_lo m_hi m_mo m_ma m_li n_rg n_sb n_st n_pl n_z n_n n_h n_c n_en n_so n_co n_sc) ∧
      (¬ (2000 : Int32) ≤ x2 → wp_N_canGo n_co (fun r2 => 
        (r2 = 0 → P x2 m_ra m_up m_on m_lo m_hi m_mo m_ma m_li n_rg n_sb n_st n_pl n_z n_n n_h n_c n_en n_so n_co n_sc) ∧
        (¬ r2 = 0 → wp_N_step k_ce k_bc m_ra m_up m_on m_lo m_hi m_mo m_ma m_li n_rg n_sb n_st n_pl n_z n_n n_h n_c n_en n_so n_co n_sc (fun w3 w4 w5 w6 w7 w8 w9 w10 w11 w12 w13 w14 w15 w16 w17 w18 w19 w20 w21 w22 => (wp_D_run_20 k_ce k_bc P PX n9) w3 w4 w5 w6 w7 w8 w9 w10 w11 w12 w13 w14 w15 w16 w17 w18 w19 w20 w21 w22 x1 (x2 + (1 : Int32)))))))
def wp_D_run (k_ce : Nat → Int32) (k_bc : Int32) (m_ra m_up : Nat → Int32) (m_on m_lo m_hi m_mo m_ma m_li : Int32) (n_rg n_sb : Nat → Int32) (n_st n_pl n_z n_n n_h n_c n_en n_so n_co n_sc : Int32) (a1 : Int32) (P : Int32 → (Nat → Int32) → (Nat → Int32) → (Int32) → (Int32) → (Int32) → (Int32) → (Int32) → (Int32) → (Nat → Int32) → (Nat → Int32) → (Int32) → (Int32) → (Int32) → (Int32) → (Int32) → (Int32) → (Int32) → (Int32) → (Int32) → (Int32) → Prop) (PX : Nat → (Nat → Int32) → (Nat → Int32) → (Int32) → (Int32) → (Int32) → (Int32) → (Int32) → (Int32) → (Nat → Int32) → (Nat → Int32) → (Int32) → (Int32) → (Int32) → (Int32) → (Int32) → (Int32) → (Int32) → (Int32) → (Int32) → (Int32) → Prop) : Prop := wp_K_isMade k_bc (fun r1 => 
  (¬ r1 = 0 → ∃ j9 : Nat, wp_D_run_20 k_ce k_bc P PX j9 m_ra m_up m_on m_lo m_hi m_mo m_ma m_li n_rg n_sb n_st n_pl n_z n_n n_h n_c n_en n_so n_co n_sc a1 (0 : Int32)) ∧
  (r1 = 0 → PX 3 m_ra m_up m_on m_lo m_hi m_mo m_ma m_li n_rg n_sb n_st n_pl n_z n_n n_h n_c n_en n_so n_co n_sc))
def wp_Q_run_20 (q_linked q_banks : Int32) (P : Int32 → (Int32) → (Nat → Int32) → (Nat → Int32) → (Int32) → (Int32) → (Int32) → (Int32) → (Int32) → (Int32) → (Int32) → (Int32) → (Int32) → (Int32) → (Int32) → (Int32) → (Int32) → (Int32) → (Nat → Int32) → Prop) : Nat → (Int32) → (Nat → Int32) → (Nat → Int32) → (Int32) → (Int32) → (Int32) → (Int32) → (Int32) → (Int32) → (Int32) → (Int32) → (Int32) → (Int32) → (Int32) → (Int32) → (Int32) → (Int32) → (Nat → Int32) → (Int32) → (Int32) → Prop
  | 0, _, _, _, _, _, _, _, _, _, _, _, _, _, _, _, _, _, _, _, _ => False
  | n9 + 1, q_code, q_memory, q_register, q_stack, q_place, q_zero, q_less, q_half, q_carry, q_enabled, q_soon, q_ram, q_low, q_top, q_mode, q_state, q_sent, q_out, x1, x2 => 
    (x1 ≤ x2 → P x2 q_code q_memory q_register q_stack q_place q_zero q_less q_half q_carry q_enabled q_soon q_ram q_low q_top q_mode q_state q_sent q_out) ∧
    (¬ x1 ≤ x2 → 
      ((2000 : Int32) ≤ x2 → P x2 q_code q_memory q_register q_stack q_place q_zero q_less q_half q_carry q_enabled q_soon q_ram q_low q_top q_mode q_state q_sent q_out) ∧
      (¬ (2000 : Int32) ≤ x2 → 
        ((2 : Int32) ≤ q_state → P x2 q_code q_memory q_register q_stack q_place q_zero q_less q_half q_carry q_enabled q_soon q_ram q_low q_top q_mode q_state q_sent q_out) ∧
        (¬ (2 : Int32) ≤ q_state → wp_Q_step q_banks q_memory q_register q_stack q_place q_zero q_less q_half q_carry q_enabled q_soon q_ram q_low q_top q_mode q_state q_sent q_out (fun w3 w4 w5 w6 w7 w8 w9 w10 w11 w12 w13 w14 w15 w16 w17 w18 w19 => (wp_Q_run_20 q_linked q_banks P n9) q_code w3 w4 w5 w6 w7 w8 w9 w10 w11 w12 w13 w14 w15 w16 w17 w18 w19 x1 (x2 + (1 : Int32))))))
def wp_Q_run (q_code q_linked q_banks : Int32) (q_memory q_register : Nat → Int32) (q_stack q_place q_zero q_less q_half q_carry q_enabled q_soon q_ram q_low q_top q_mode q_state q_sent : Int32) (q_out : Nat → Int32) (a1 : Int32) (P : Int32 → (Int32) → (Nat → Int32) → (Nat → Int32) → (Int32) → (Int32) → (Int32) → (Int32) → (Int32) → (Int32) → (Int32) → (Int32) → (Int32) → (Int32) → (Int32) → (Int32) → (Int32) → (Int32) → (Nat → Int32) → Prop) : Prop := 
  (¬ q_linked = 0 → ∃ j9 : Nat, wp_Q_run_20 q_linked q_banks P j9 (0 : Int32) q_memory q_register q_stack q_place q_zero q_less q_half q_carry q_enabled q_soon q_ram q_low q_top q_mode q_state q_sent q_out a1 (0 : Int32)) ∧
  (q_linked = 0 → wp_Q_refuse q_code (1 : Int32) (fun r1 w2 => P r1 w2 q_memory q_register q_stack q_place q_zero q_less q_half q_carry q_enabled q_soon q_ram q_low q_top q_mode q_state q_sent q_out))
