/-! the law's loop -/
theorem ki_3 (x : Int32) : x + Int32.ofInt (3) = x + (3 : Int32) := by rw [show Int32.ofInt (3) = (3 : Int32) from by decide]
def wp_law (L : Nat) (xs : Nat → Int32) : Nat → (Nat → Int32) → (Nat → Int32) → (Nat → Int32) → (Nat → Int32) → (Int32) → (Nat → Int32) → (Int32) → (Nat → Int32) → (Nat → Int32) → (Int32) → (Int32) → (Int32) → (Int32) → (Int32) → (Int32) → (Nat → Int32) → (Nat → Int32) → (Int32) → (Int32) → (Int32) → (Int32) → (Int32) → (Int32) → (Int32) → (Int32) → (Int32) → (Int32) → (Nat → Int32) → (Nat → Int32) → (Nat → Int32) → (Int32) → (Nat → Int32) → (Nat → Int32) → (Nat → Int32) → (Int32) → (Int32) → (Int32) → (Nat → Int32) → (Nat → Int32) → (Nat → Int32) → (Nat → Int32) → (Nat → Int32) → (Nat → Int32) → (Nat → Int32) → (Int32) → (Nat → Int32) → (Nat → Int32) → (Int32) → (Nat → Int32) → (Nat → Int32) → (Int32) → (Int32) → (Int32) → (Int32) → (Int32) → (Int32) → (Int32) → (Int32) → (Int32) → (Int32) → (Int32) → (Int32) → (Int32) → (Int32) → (Nat → Int32) → (Nat → Int64) → (Int32) → Prop
  | 0, _, _, _, _, _, _, _, _, _, _, _, _, _, _, _, _, _, _, _, _, _, _, _, _, _, _, _, _, _, _, _, _, _, _, _, _, _, _, _, _, _, _, _, _, _, _, _, _, _, _, _, _, _, _, _, _, _, _, _, _, _, _, _, _, _, _, _ => False
  | n9 + 1, s_bk, s_ln, s_kd, s_vl, s_ct, k_ce, k_bc, m_ra, m_up, m_on, m_lo, m_hi, m_mo, m_ma, m_li, n_rg, n_sb, n_st, n_pl, n_z, n_n, n_h, n_c, n_en, n_so, n_co, n_sc, l_bk, l_of, l_en, l_ct, t_bk, t_of, t_en, t_ct, q_code, q_many, q_pin, q_size, q_bytes, q_kind, q_bank, q_address, q_full, q_linked, q_packedBank, q_packedAddress, q_banks, q_memory, q_register, q_stack, q_place, q_zero, q_less, q_half, q_carry, q_enabled, q_soon, q_ram, q_low, q_top, q_mode, q_state, q_sent, q_out, o, x4 => 
    (((Int32.ofNat L) - (3 : Int32)) < x4 → True) ∧
    (¬ ((Int32.ofNat L) - (3 : Int32)) < x4 → vp_in x4 L ∧ (
      (((xs x4.toNatClampNeg) &&& (31 : Int32)) = (0 : Int32) → vp_in (x4 + (1 : Int32)) L ∧ (wp_L_section s_bk s_ln s_ct (xs (x4 + (1 : Int32)).toNatClampNeg) o (fun r1 w2 w3 w4 o5 => vp_in (x4 + (1 : Int32)) L ∧ (wp_Q_section q_code q_many q_pin q_size (xs (x4 + (1 : Int32)).toNatClampNeg) (fun r6 w7 w8 w9 w10 => wp_Q_thrown w7 (fun r11 => 
        (r11 = r1 → 
          (¬ r1 = 0 → wp_law L xs n9 w2 w3 s_kd s_vl w4 k_ce k_bc m_ra m_up m_on m_lo m_hi m_mo m_ma m_li n_rg n_sb n_st n_pl n_z n_n n_h n_c n_en n_so n_co n_sc l_bk l_of l_en l_ct t_bk t_of t_en t_ct w7 w8 w9 w10 q_bytes q_kind q_bank q_address q_full q_linked q_packedBank q_packedAddress q_banks q_memory q_register q_stack q_place q_zero q_less q_half q_carry q_enabled q_soon q_ram q_low q_top q_mode q_state q_sent q_out o5 (x4 + (3 : Int32))) ∧
          (r1 = 0 → 
            ((lg_cmp (o5 (0 : Int32).toNatClampNeg) r6.toInt64) = 0 → wp_law L xs n9 w2 w3 s_kd s_vl w4 k_ce k_bc m_ra m_up m_on m_lo m_hi m_mo m_ma m_li n_rg n_sb n_st n_pl n_z n_n n_h n_c n_en n_so n_co n_sc l_bk l_of l_en l_ct t_bk t_of t_en t_ct w7 w8 w9 w10 q_bytes q_kind q_bank q_address q_full q_linked q_packedBank q_packedAddress q_banks q_memory q_register q_stack q_place q_zero q_less q_half q_carry q_enabled q_soon q_ram q_low q_top q_mode q_state q_sent q_out o5 (x4 + (3 : Int32))) ∧
            (¬ (lg_cmp (o5 (0 : Int32).toNatClampNeg) r6.toInt64) = 0 → False))) ∧
        (¬ r11 = r1 → False))))))) ∧
      (((xs x4.toNatClampNeg) &&& (31 : Int32)) = (1 : Int32) → vp_in (x4 + (1 : Int32)) L ∧ (vp_in (x4 + (2 : Int32)) L ∧ (wp_L_bytes s_ln s_kd s_vl s_ct (xs (x4 + (1 : Int32)).toNatClampNeg) (xs (x4 + (2 : Int32)).toNatClampNeg) o (fun r12 w13 w14 w15 o16 => vp_in (x4 + (1 : Int32)) L ∧ (vp_in (x4 + (2 : Int32)) L ∧ (wp_Q_bytes q_code q_many q_size q_bytes q_kind (xs (x4 + (1 : Int32)).toNatClampNeg) (xs (x4 + (2 : Int32)).toNatClampNeg) (fun w17 w18 w19 w20 => wp_Q_thrown w17 (fun r21 => 
        (r21 = r12 → wp_law L xs n9 s_bk w13 w14 w15 s_ct k_ce k_bc m_ra m_up m_on m_lo m_hi m_mo m_ma m_li n_rg n_sb n_st n_pl n_z n_n n_h n_c n_en n_so n_co n_sc l_bk l_of l_en l_ct t_bk t_of t_en t_ct w17 q_many q_pin w18 w19 w20 q_bank q_address q_full q_linked q_packedBank q_packedAddress q_banks q_memory q_register q_stack q_place q_zero q_less q_half q_carry q_enabled q_soon q_ram q_low q_top q_mode q_state q_sent q_out o16 (x4 + (3 : Int32))) ∧
        (¬ r21 = r12 → False))))))))) ∧
      (((xs x4.toNatClampNeg) &&& (31 : Int32)) = (2 : Int32) → vp_in (x4 + (1 : Int32)) L ∧ (vp_in (x4 + (2 : Int32)) L ∧ (wp_L_mended s_ln s_kd s_vl s_ct (xs (x4 + (1 : Int32)).toNatClampNeg) (xs (x4 + (2 : Int32)).toNatClampNeg) o (fun r22 w23 w24 w25 o26 => vp_in (x4 + (1 : Int32)) L ∧ (vp_in (x4 + (2 : Int32)) L ∧ (wp_Q_mended q_code q_many q_size q_bytes q_kind (xs (x4 + (1 : Int32)).toNatClampNeg) (xs (x4 + (2 : Int32)).toNatClampNeg) (fun w27 w28 w29 w30 => wp_Q_thrown w27 (fun r31 => 
        (r31 = r22 → wp_law L xs n9 s_bk w23 w24 w25 s_ct k_ce k_bc m_ra m_up m_on m_lo m_hi m_mo m_ma m_li n_rg n_sb n_st n_pl n_z n_n n_h n_c n_en n_so n_co n_sc l_bk l_of l_en l_ct t_bk t_of t_en t_ct w27 q_many q_pin w28 w29 w30 q_bank q_address q_full q_linked q_packedBank q_packedAddress q_banks q_memory q_register q_stack q_place q_zero q_less q_half q_carry q_enabled q_soon q_ram q_low q_top q_mode q_state q_sent q_out o26 (x4 + (3 : Int32))) ∧
        (¬ r31 = r22 → False))))))))) ∧
      (((xs x4.toNatClampNeg) &&& (31 : Int32)) = (3 : Int32) → wp_D_clear s_ct (fun w32 => wp_Q_clear q_code q_many (fun w33 w34 => wp_law L xs n9 s_bk s_ln s_kd s_vl w32 k_ce k_bc m_ra m_up m_on m_lo m_hi m_mo m_ma m_li n_rg n_sb n_st n_pl n_z n_n n_h n_c n_en n_so n_co n_sc l_bk l_of l_en l_ct t_bk t_of t_en t_ct w33 w34 q_pin q_size q_bytes q_kind q_bank q_address q_full q_linked q_packedBank q_packedAddress q_banks q_memory q_register q_stack q_place q_zero q_less q_half q_carry q_enabled q_soon q_ram q_low q_top q_mode q_state q_sent q_out o (x4 + (3 : Int32))))) ∧
      (((xs x4.toNatClampNeg) &&& (31 : Int32)) = (4 : Int32) → vp_in (x4 + (1 : Int32)) L ∧ (wp_L_link s_bk s_ln s_kd s_vl s_ct k_ce k_bc m_ra m_up m_on m_lo m_hi m_mo m_ma m_li n_rg n_st n_pl n_z n_n n_h n_c n_en n_so n_co n_sc l_bk l_of l_en l_ct t_bk t_of t_en t_ct (xs (x4 + (1 : Int32)).toNatClampNeg) o (fun r35 w36 w37 w38 w39 w40 w41 w42 w43 w44 w45 w46 w47 w48 w49 w50 w51 w52 w53 w54 w55 w56 w57 w58 w59 w60 w61 w62 w63 w64 o65 => vp_in (x4 + (1 : Int32)) L ∧ (wp_Q_link q_code q_many q_pin q_size q_bytes q_kind q_bank q_address q_full q_linked q_packedBank q_packedAddress q_banks q_memory q_register q_stack q_place q_zero q_less q_half q_carry q_enabled q_soon q_ram q_low q_top q_mode q_state q_sent (xs (x4 + (1 : Int32)).toNatClampNeg) (fun r66 w67 w68 w69 w70 w71 w72 w73 w74 w75 w76 w77 w78 w79 w80 w81 w82 w83 w84 w85 w86 w87 w88 w89 w90 => wp_Q_thrown w67 (fun r91 => 
        (r91 = r35 → 
          (¬ r35 = 0 → wp_law L xs n9 s_bk s_ln s_kd s_vl s_ct w36 w37 w38 w39 w40 w41 w42 w43 w44 w45 w46 n_sb w47 w48 w49 w50 w51 w52 w53 w54 w55 w56 w57 w58 w59 w60 w61 w62 w63 w64 w67 q_many q_pin q_size q_bytes q_kind w68 w69 w70 w71 w72 w73 w74 w75 w76 w77 w78 w79 w80 w81 w82 w83 w84 w85 w86 w87 w88 w89 w90 q_out o65 (x4 + (3 : Int32))) ∧
          (r35 = 0 → 
            ((lg_cmp (o65 (0 : Int32).toNatClampNeg) r66.toInt64) = 0 → wp_law L xs n9 s_bk s_ln s_kd s_vl s_ct w36 w37 w38 w39 w40 w41 w42 w43 w44 w45 w46 n_sb w47 w48 w49 w50 w51 w52 w53 w54 w55 w56 w57 w58 w59 w60 w61 w62 w63 w64 w67 q_many q_pin q_size q_bytes q_kind w68 w69 w70 w71 w72 w73 w74 w75 w76 w77 w78 w79 w80 w81 w82 w83 w84 w85 w86 w87 w88 w89 w90 q_out o65 (x4 + (3 : Int32))) ∧
            (¬ (lg_cmp (o65 (0 : Int32).toNatClampNeg) r66.toInt64) = 0 → False))) ∧
        (¬ r91 = r35 → False))))))) ∧
      (((xs x4.toNatClampNeg) &&& (31 : Int32)) = (5 : Int32) → vp_in (x4 + (1 : Int32)) L ∧ (vp_in (x4 + (2 : Int32)) L ∧ (wp_L_packed l_bk l_of l_ct (xs (x4 + (1 : Int32)).toNatClampNeg) (xs (x4 + (2 : Int32)).toNatClampNeg) o (fun r92 o93 => vp_in (x4 + (1 : Int32)) L ∧ (vp_in (x4 + (2 : Int32)) L ∧ (wp_Q_packed q_code q_linked q_packedBank q_packedAddress (xs (x4 + (1 : Int32)).toNatClampNeg) (xs (x4 + (2 : Int32)).toNatClampNeg) (fun r94 w95 => wp_Q_thrown w95 (fun r96 => 
        (r96 = r92 → 
          (¬ r92 = 0 → wp_law L xs n9 s_bk s_ln s_kd s_vl s_ct k_ce k_bc m_ra m_up m_on m_lo m_hi m_mo m_ma m_li n_rg n_sb n_st n_pl n_z n_n n_h n_c n_en n_so n_co n_sc l_bk l_of l_en l_ct t_bk t_of t_en t_ct w95 q_many q_pin q_size q_bytes q_kind q_bank q_address q_full q_linked q_packedBank q_packedAddress q_banks q_memory q_register q_stack q_place q_zero q_less q_half q_carry q_enabled q_soon q_ram q_low q_top q_mode q_state q_sent q_out o93 (x4 + (3 : Int32))) ∧
          (r92 = 0 → 
            ((lg_cmp (o93 (0 : Int32).toNatClampNeg) r94.toInt64) = 0 → wp_law L xs n9 s_bk s_ln s_kd s_vl s_ct k_ce k_bc m_ra m_up m_on m_lo m_hi m_mo m_ma m_li n_rg n_sb n_st n_pl n_z n_n n_h n_c n_en n_so n_co n_sc l_bk l_of l_en l_ct t_bk t_of t_en t_ct w95 q_many q_pin q_size q_bytes q_kind q_bank q_address q_full q_linked q_packedBank q_packedAddress q_banks q_memory q_register q_stack q_place q_zero q_less q_half q_carry q_enabled q_soon q_ram q_low q_top q_mode q_state q_sent q_out o93 (x4 + (3 : Int32))) ∧
            (¬ (lg_cmp (o93 (0 : Int32).toNatClampNeg) r94.toInt64) = 0 → False))) ∧
        (¬ r96 = r92 → False))))))))) ∧
      (((xs x4.toNatClampNeg) &&& (31 : Int32)) = (6 : Int32) → vp_in (x4 + (1 : Int32)) L ∧ (wp_L_image k_ce k_bc (xs (x4 + (1 : Int32)).toNatClampNeg) o (fun r97 o98 => vp_in (x4 + (1 : Int32)) L ∧ (wp_Q_image q_code q_banks q_memory (xs (x4 + (1 : Int32)).toNatClampNeg) (fun r99 w100 => wp_Q_thrown w100 (fun r101 => 
        (r101 = r97 → 
          (¬ r97 = 0 → wp_law L xs n9 s_bk s_ln s_kd s_vl s_ct k_ce k_bc m_ra m_up m_on m_lo m_hi m_mo m_ma m_li n_rg n_sb n_st n_pl n_z n_n n_h n_c n_en n_so n_co n_sc l_bk l_of l_en l_ct t_bk t_of t_en t_ct w100 q_many q_pin q_size q_bytes q_kind q_bank q_address q_full q_linked q_packedBank q_packedAddress q_banks q_memory q_register q_stack q_place q_zero q_less q_half q_carry q_enabled q_soon q_ram q_low q_top q_mode q_state q_sent q_out o98 (x4 + (3 : Int32))) ∧
          (r97 = 0 → 
            ((lg_cmp (o98 (0 : Int32).toNatClampNeg) r99.toInt64) = 0 → wp_law L xs n9 s_bk s_ln s_kd s_vl s_ct k_ce k_bc m_ra m_up m_on m_lo m_hi m_mo m_ma m_li n_rg n_sb n_st n_pl n_z n_n n_h n_c n_en n_so n_co n_sc l_bk l_of l_en l_ct t_bk t_of t_en t_ct w100 q_many q_pin q_size q_bytes q_kind q_bank q_address q_full q_linked q_packedBank q_packedAddress q_banks q_memory q_register q_stack q_place q_zero q_less q_half q_carry q_enabled q_soon q_ram q_low q_top q_mode q_state q_sent q_out o98 (x4 + (3 : Int32))) ∧
            (¬ (lg_cmp (o98 (0 : Int32).toNatClampNeg) r99.toInt64) = 0 → False))) ∧
        (¬ r101 = r97 → False))))))) ∧
      (((xs x4.toNatClampNeg) &&& (31 : Int32)) = (7 : Int32) → vp_in (x4 + (1 : Int32)) L ∧ (vp_in (x4 + (2 : Int32)) L ∧ (wp_L_spoil k_ce k_bc (xs (x4 + (1 : Int32)).toNatClampNeg) (xs (x4 + (2 : Int32)).toNatClampNeg) o (fun r102 w103 o104 => vp_in (x4 + (1 : Int32)) L ∧ (vp_in (x4 + (2 : Int32)) L ∧ (wp_Q_spoil q_code q_banks q_memory (xs (x4 + (1 : Int32)).toNatClampNeg) (xs (x4 + (2 : Int32)).toNatClampNeg) (fun w105 w106 => wp_Q_thrown w105 (fun r107 => 
        (r107 = r102 → wp_law L xs n9 s_bk s_ln s_kd s_vl s_ct w103 k_bc m_ra m_up m_on m_lo m_hi m_mo m_ma m_li n_rg n_sb n_st n_pl n_z n_n n_h n_c n_en n_so n_co n_sc l_bk l_of l_en l_ct t_bk t_of t_en t_ct w105 q_many q_pin q_size q_bytes q_kind q_bank q_address q_full q_linked q_packedBank q_packedAddress q_banks w106 q_register q_stack q_place q_zero q_less q_half q_carry q_enabled q_soon q_ram q_low q_top q_mode q_state q_sent q_out o104 (x4 + (3 : Int32))) ∧
        (¬ r107 = r102 → False))))))))) ∧
      (((xs x4.toNatClampNeg) &&& (31 : Int32)) = (8 : Int32) → wp_L_valid k_ce k_bc o (fun r108 o109 => wp_Q_valid q_code q_linked q_banks q_memory (fun r110 w111 => wp_Q_thrown w111 (fun r112 => 
        (r112 = r108 → 
          (¬ r108 = 0 → wp_law L xs n9 s_bk s_ln s_kd s_vl s_ct k_ce k_bc m_ra m_up m_on m_lo m_hi m_mo m_ma m_li n_rg n_sb n_st n_pl n_z n_n n_h n_c n_en n_so n_co n_sc l_bk l_of l_en l_ct t_bk t_of t_en t_ct w111 q_many q_pin q_size q_bytes q_kind q_bank q_address q_full q_linked q_packedBank q_packedAddress q_banks q_memory q_register q_stack q_place q_zero q_less q_half q_carry q_enabled q_soon q_ram q_low q_top q_mode q_state q_sent q_out o109 (x4 + (3 : Int32))) ∧
          (r108 = 0 → 
            ((lg_cmp (o109 (0 : Int32).toNatClampNeg) r110.toInt64) = 0 → wp_law L xs n9 s_bk s_ln s_kd s_vl s_ct k_ce k_bc m_ra m_up m_on m_lo m_hi m_mo m_ma m_li n_rg n_sb n_st n_pl n_z n_n n_h n_c n_en n_so n_co n_sc l_bk l_of l_en l_ct t_bk t_of t_en t_ct w111 q_many q_pin q_size q_bytes q_kind q_bank q_address q_full q_linked q_packedBank q_packedAddress q_banks q_memory q_register q_stack q_place q_zero q_less q_half q_carry q_enabled q_soon q_ram q_low q_top q_mode q_state q_sent q_out o109 (x4 + (3 : Int32))) ∧
            (¬ (lg_cmp (o109 (0 : Int32).toNatClampNeg) r110.toInt64) = 0 → False))) ∧
        (¬ r112 = r108 → False))))) ∧
      (((xs x4.toNatClampNeg) &&& (31 : Int32)) = (9 : Int32) → wp_D_restart m_ra m_up m_on m_lo m_hi m_mo m_ma m_li n_rg n_st n_pl n_z n_n n_h n_c n_en n_so n_co n_sc (fun w113 w114 w115 w116 w117 w118 w119 w120 w121 w122 w123 w124 w125 w126 w127 w128 w129 w130 w131 => wp_Q_restart q_code q_memory q_register q_stack q_place q_zero q_less q_half q_carry q_enabled q_soon q_ram q_low q_top q_mode q_state q_sent (fun w132 w133 w134 w135 w136 w137 w138 w139 w140 w141 w142 w143 w144 w145 w146 w147 w148 => wp_law L xs n9 s_bk s_ln s_kd s_vl s_ct k_ce k_bc w113 w114 w115 w116 w117 w118 w119 w120 w121 n_sb w122 w123 w124 w125 w126 w127 w128 w129 w130 w131 l_bk l_of l_en l_ct t_bk t_of t_en t_ct w132 q_many q_pin q_size q_bytes q_kind q_bank q_address q_full q_linked q_packedBank q_packedAddress q_banks w133 w134 w135 w136 w137 w138 w139 w140 w141 w142 w143 w144 w145 w146 w147 w148 q_out o (x4 + (3 : Int32))))) ∧
      (((xs x4.toNatClampNeg) &&& (31 : Int32)) = (10 : Int32) → vp_in (x4 + (1 : Int32)) L ∧ (wp_L_raise m_li (xs (x4 + (1 : Int32)).toNatClampNeg) o (fun r149 w150 o151 => vp_in (x4 + (1 : Int32)) L ∧ (wp_Q_raise q_code q_memory (xs (x4 + (1 : Int32)).toNatClampNeg) (fun w152 w153 => wp_Q_thrown w152 (fun r154 => 
        (r154 = r149 → wp_law L xs n9 s_bk s_ln s_kd s_vl s_ct k_ce k_bc m_ra m_up m_on m_lo m_hi m_mo m_ma w150 n_rg n_sb n_st n_pl n_z n_n n_h n_c n_en n_so n_co n_sc l_bk l_of l_en l_ct t_bk t_of t_en t_ct w152 q_many q_pin q_size q_bytes q_kind q_bank q_address q_full q_linked q_packedBank q_packedAddress q_banks w153 q_register q_stack q_place q_zero q_less q_half q_carry q_enabled q_soon q_ram q_low q_top q_mode q_state q_sent q_out o151 (x4 + (3 : Int32))) ∧
        (¬ r154 = r149 → False))))))) ∧
      (((xs x4.toNatClampNeg) &&& (31 : Int32)) = (11 : Int32) → vp_in (x4 + (1 : Int32)) L ∧ (wp_L_run k_ce k_bc m_ra m_up m_on m_lo m_hi m_mo m_ma m_li n_rg n_sb n_st n_pl n_z n_n n_h n_c n_en n_so n_co n_sc (xs (x4 + (1 : Int32)).toNatClampNeg) o (fun r155 w156 w157 w158 w159 w160 w161 w162 w163 w164 w165 w166 w167 w168 w169 w170 w171 w172 w173 w174 w175 o176 => vp_in (x4 + (1 : Int32)) L ∧ (wp_Q_run q_code q_linked q_banks q_memory q_register q_stack q_place q_zero q_less q_half q_carry q_enabled q_soon q_ram q_low q_top q_mode q_state q_sent q_out (xs (x4 + (1 : Int32)).toNatClampNeg) (fun r177 w178 w179 w180 w181 w182 w183 w184 w185 w186 w187 w188 w189 w190 w191 w192 w193 w194 w195 => wp_Q_thrown w178 (fun r196 => 
        (r196 = r155 → 
          (¬ r155 = 0 → wp_law L xs n9 s_bk s_ln s_kd s_vl s_ct k_ce k_bc w156 w157 w158 w159 w160 w161 w162 w163 w164 w165 w166 w167 w168 w169 w170 w171 w172 w173 w174 w175 l_bk l_of l_en l_ct t_bk t_of t_en t_ct w178 q_many q_pin q_size q_bytes q_kind q_bank q_address q_full q_linked q_packedBank q_packedAddress q_banks w179 w180 w181 w182 w183 w184 w185 w186 w187 w188 w189 w190 w191 w192 w193 w194 w195 o176 (x4 + (3 : Int32))) ∧
          (r155 = 0 → 
            ((lg_cmp (o176 (0 : Int32).toNatClampNeg) r177.toInt64) = 0 → wp_law L xs n9 s_bk s_ln s_kd s_vl s_ct k_ce k_bc w156 w157 w158 w159 w160 w161 w162 w163 w164 w165 w166 w167 w168 w169 w170 w171 w172 w173 w174 w175 l_bk l_of l_en l_ct t_bk t_of t_en t_ct w178 q_many q_pin q_size q_bytes q_kind q_bank q_address q_full q_linked q_packedBank q_packedAddress q_banks w179 w180 w181 w182 w183 w184 w185 w186 w187 w188 w189 w190 w191 w192 w193 w194 w195 o176 (x4 + (3 : Int32))) ∧
            (¬ (lg_cmp (o176 (0 : Int32).toNatClampNeg) r177.toInt64) = 0 → False))) ∧
        (¬ r196 = r155 → False))))))) ∧
      (((xs x4.toNatClampNeg) &&& (31 : Int32)) = (12 : Int32) → wp_D_state n_co (fun r197 => wp_Q_state q_code q_state (fun r198 w199 => 
        (r197 = r198 → wp_law L xs n9 s_bk s_ln s_kd s_vl s_ct k_ce k_bc m_ra m_up m_on m_lo m_hi m_mo m_ma m_li n_rg n_sb n_st n_pl n_z n_n n_h n_c n_en n_so n_co n_sc l_bk l_of l_en l_ct t_bk t_of t_en t_ct w199 q_many q_pin q_size q_bytes q_kind q_bank q_address q_full q_linked q_packedBank q_packedAddress q_banks q_memory q_register q_stack q_place q_zero q_less q_half q_carry q_enabled q_soon q_ram q_low q_top q_mode q_state q_sent q_out o (x4 + (3 : Int32))) ∧
        (¬ r197 = r198 → False)))) ∧
      (((xs x4.toNatClampNeg) &&& (31 : Int32)) = (13 : Int32) → vp_in (x4 + (1 : Int32)) L ∧ (wp_L_register k_ce k_bc m_ra m_up m_on m_lo m_hi m_mo m_ma m_li n_rg n_st n_pl n_z n_n n_h n_c n_en (xs (x4 + (1 : Int32)).toNatClampNeg) o (fun r200 o201 => vp_in (x4 + (1 : Int32)) L ∧ (wp_Q_register q_code q_linked q_banks q_memory q_register q_stack q_place q_zero q_less q_half q_carry q_enabled q_ram q_low q_top q_mode (xs (x4 + (1 : Int32)).toNatClampNeg) (fun r202 w203 => wp_Q_thrown w203 (fun r204 => 
        (r204 = r200 → 
          (¬ r200 = 0 → wp_law L xs n9 s_bk s_ln s_kd s_vl s_ct k_ce k_bc m_ra m_up m_on m_lo m_hi m_mo m_ma m_li n_rg n_sb n_st n_pl n_z n_n n_h n_c n_en n_so n_co n_sc l_bk l_of l_en l_ct t_bk t_of t_en t_ct w203 q_many q_pin q_size q_bytes q_kind q_bank q_address q_full q_linked q_packedBank q_packedAddress q_banks q_memory q_register q_stack q_place q_zero q_less q_half q_carry q_enabled q_soon q_ram q_low q_top q_mode q_state q_sent q_out o201 (x4 + (3 : Int32))) ∧
          (r200 = 0 → 
            ((lg_cmp (o201 (0 : Int32).toNatClampNeg) r202.toInt64) = 0 → wp_law L xs n9 s_bk s_ln s_kd s_vl s_ct k_ce k_bc m_ra m_up m_on m_lo m_hi m_mo m_ma m_li n_rg n_sb n_st n_pl n_z n_n n_h n_c n_en n_so n_co n_sc l_bk l_of l_en l_ct t_bk t_of t_en t_ct w203 q_many q_pin q_size q_bytes q_kind q_bank q_address q_full q_linked q_packedBank q_packedAddress q_banks q_memory q_register q_stack q_place q_zero q_less q_half q_carry q_enabled q_soon q_ram q_low q_top q_mode q_state q_sent q_out o201 (x4 + (3 : Int32))) ∧
            (¬ (lg_cmp (o201 (0 : Int32).toNatClampNeg) r202.toInt64) = 0 → False))) ∧
        (¬ r204 = r200 → False))))))) ∧
      (((xs x4.toNatClampNeg) &&& (31 : Int32)) = (14 : Int32) → vp_in (x4 + (1 : Int32)) L ∧ (wp_L_peek k_ce k_bc m_ra m_up m_on m_lo m_hi m_mo m_ma m_li (xs (x4 + (1 : Int32)).toNatClampNeg) o (fun r205 o206 => vp_in (x4 + (1 : Int32)) L ∧ (wp_Q_peek q_code q_linked q_banks q_memory q_ram q_low q_top q_mode (xs (x4 + (1 : Int32)).toNatClampNeg) (fun r207 w208 => wp_Q_thrown w208 (fun r209 => 
        (r209 = r205 → 
          (¬ r205 = 0 → wp_law L xs n9 s_bk s_ln s_kd s_vl s_ct k_ce k_bc m_ra m_up m_on m_lo m_hi m_mo m_ma m_li n_rg n_sb n_st n_pl n_z n_n n_h n_c n_en n_so n_co n_sc l_bk l_of l_en l_ct t_bk t_of t_en t_ct w208 q_many q_pin q_size q_bytes q_kind q_bank q_address q_full q_linked q_packedBank q_packedAddress q_banks q_memory q_register q_stack q_place q_zero q_less q_half q_carry q_enabled q_soon q_ram q_low q_top q_mode q_state q_sent q_out o206 (x4 + (3 : Int32))) ∧
          (r205 = 0 → 
            ((lg_cmp (o206 (0 : Int32).toNatClampNeg) r207.toInt64) = 0 → wp_law L xs n9 s_bk s_ln s_kd s_vl s_ct k_ce k_bc m_ra m_up m_on m_lo m_hi m_mo m_ma m_li n_rg n_sb n_st n_pl n_z n_n n_h n_c n_en n_so n_co n_sc l_bk l_of l_en l_ct t_bk t_of t_en t_ct w208 q_many q_pin q_size q_bytes q_kind q_bank q_address q_full q_linked q_packedBank q_packedAddress q_banks q_memory q_register q_stack q_place q_zero q_less q_half q_carry q_enabled q_soon q_ram q_low q_top q_mode q_state q_sent q_out o206 (x4 + (3 : Int32))) ∧
            (¬ (lg_cmp (o206 (0 : Int32).toNatClampNeg) r207.toInt64) = 0 → False))) ∧
        (¬ r209 = r205 → False))))))) ∧
      (((xs x4.toNatClampNeg) &&& (31 : Int32)) = (15 : Int32) → wp_D_sent n_sc (fun r210 => wp_Q_sent q_code q_sent (fun r211 w212 => 
        (r210 = r211 → wp_law L xs n9 s_bk s_ln s_kd s_vl s_ct k_ce k_bc m_ra m_up m_on m_lo m_hi m_mo m_ma m_li n_rg n_sb n_st n_pl n_z n_n n_h n_c n_en n_so n_co n_sc l_bk l_of l_en l_ct t_bk t_of t_en t_ct w212 q_many q_pin q_size q_bytes q_kind q_bank q_address q_full q_linked q_packedBank q_packedAddress q_banks q_memory q_register q_stack q_place q_zero q_less q_half q_carry q_enabled q_soon q_ram q_low q_top q_mode q_state q_sent q_out o (x4 + (3 : Int32))) ∧
        (¬ r210 = r211 → False)))) ∧
      (((xs x4.toNatClampNeg) &&& (31 : Int32)) = (16 : Int32) → vp_in (x4 + (1 : Int32)) L ∧ (wp_L_byteSent n_sb n_sc (xs (x4 + (1 : Int32)).toNatClampNeg) o (fun r213 o214 => vp_in (x4 + (1 : Int32)) L ∧ (wp_Q_byteSent q_code q_sent q_out (xs (x4 + (1 : Int32)).toNatClampNeg) (fun r215 w216 => wp_Q_thrown w216 (fun r217 => 
        (r217 = r213 → 
          (¬ r213 = 0 → wp_law L xs n9 s_bk s_ln s_kd s_vl s_ct k_ce k_bc m_ra m_up m_on m_lo m_hi m_mo m_ma m_li n_rg n_sb n_st n_pl n_z n_n n_h n_c n_en n_so n_co n_sc l_bk l_of l_en l_ct t_bk t_of t_en t_ct w216 q_many q_pin q_size q_bytes q_kind q_bank q_address q_full q_linked q_packedBank q_packedAddress q_banks q_memory q_register q_stack q_place q_zero q_less q_half q_carry q_enabled q_soon q_ram q_low q_top q_mode q_state q_sent q_out o214 (x4 + (3 : Int32))) ∧
          (r213 = 0 → 
            ((lg_cmp (o214 (0 : Int32).toNatClampNeg) r215.toInt64) = 0 → wp_law L xs n9 s_bk s_ln s_kd s_vl s_ct k_ce k_bc m_ra m_up m_on m_lo m_hi m_mo m_ma m_li n_rg n_sb n_st n_pl n_z n_n n_h n_c n_en n_so n_co n_sc l_bk l_of l_en l_ct t_bk t_of t_en t_ct w216 q_many q_pin q_size q_bytes q_kind q_bank q_address q_full q_linked q_packedBank q_packedAddress q_banks q_memory q_register q_stack q_place q_zero q_less q_half q_carry q_enabled q_soon q_ram q_low q_top q_mode q_state q_sent q_out o214 (x4 + (3 : Int32))) ∧
            (¬ (lg_cmp (o214 (0 : Int32).toNatClampNeg) r215.toInt64) = 0 → False))) ∧
        (¬ r217 = r213 → False))))))) ∧
      (¬ ((xs x4.toNatClampNeg) &&& (31 : Int32)) = (0 : Int32) → ¬ ((xs x4.toNatClampNeg) &&& (31 : Int32)) = (1 : Int32) → ¬ ((xs x4.toNatClampNeg) &&& (31 : Int32)) = (2 : Int32) → ¬ ((xs x4.toNatClampNeg) &&& (31 : Int32)) = (3 : Int32) → ¬ ((xs x4.toNatClampNeg) &&& (31 : Int32)) = (4 : Int32) → ¬ ((xs x4.toNatClampNeg) &&& (31 : Int32)) = (5 : Int32) → ¬ ((xs x4.toNatClampNeg) &&& (31 : Int32)) = (6 : Int32) → ¬ ((xs x4.toNatClampNeg) &&& (31 : Int32)) = (7 : Int32) → ¬ ((xs x4.toNatClampNeg) &&& (31 : Int32)) = (8 : Int32) → ¬ ((xs x4.toNatClampNeg) &&& (31 : Int32)) = (9 : Int32) → ¬ ((xs x4.toNatClampNeg) &&& (31 : Int32)) = (10 : Int32) → ¬ ((xs x4.toNatClampNeg) &&& (31 : Int32)) = (11 : Int32) → ¬ ((xs x4.toNatClampNeg) &&& (31 : Int32)) = (12 : Int32) → ¬ ((xs x4.toNatClampNeg) &&& (31 : Int32)) = (13 : Int32) → ¬ ((xs x4.toNatClampNeg) &&& (31 : Int32)) = (14 : Int32) → ¬ ((xs x4.toNatClampNeg) &&& (31 : Int32)) = (15 : Int32) → ¬ ((xs x4.toNatClampNeg) &&& (31 : Int32)) = (16 : Int32) → wp_law L xs n9 s_bk s_ln s_kd s_vl s_ct k_ce k_bc m_ra m_up m_on m_lo m_hi m_mo m_ma m_li n_rg n_sb n_st n_pl n_z n_n n_h n_c n_en n_so n_co n_sc l_bk l_of l_en l_ct t_bk t_of t_en t_ct q_code q_many q_pin q_size q_bytes q_kind q_bank q_address q_full q_linked q_packedBank q_packedAddress q_banks q_memory q_register q_stack q_place q_zero q_less q_half q_carry q_enabled q_soon q_ram q_low q_top q_mode q_state q_sent q_out o (x4 + (3 : Int32)))))
set_option maxRecDepth 100000 in
set_option maxHeartbeats 40000000 in
theorem law_loop {G : gt_} {b L : Nat} {xs : Nat → Int32} (hl0 : (gl_ G).stackTraces = false) (hX : sx_ G b L xs) (hq : rqL_ G b) (n9 : Nat) : ∀ {ad : Nat → Nat} (X : cx_ G ad code RL 10 366 7) (cells slots : Nat), cells + n9 ≤ 1078 → slots + 6 * n9 ≤ 12061 → ∀ (s_bk s_ln s_kd s_vl : Nat → Int32) (s_ct : Int32) (k_ce : Nat → Int32) (k_bc : Int32) (m_ra m_up : Nat → Int32) (m_on m_lo m_hi m_mo m_ma m_li : Int32) (n_rg n_sb : Nat → Int32) (n_st n_pl n_z n_n n_h n_c n_en n_so n_co n_sc : Int32) (l_bk l_of l_en : Nat → Int32) (l_ct : Int32) (t_bk t_of t_en : Nat → Int32) (t_ct q_code q_many : Int32) (q_pin q_size q_bytes q_kind q_bank q_address q_full : Nat → Int32) (q_linked : Int32) (q_packedBank q_packedAddress : Nat → Int32) (q_banks : Int32) (q_memory q_register : Nat → Int32) (q_stack q_place q_zero q_less q_half q_carry q_enabled q_soon q_ram q_low q_top q_mode q_state q_sent : Int32) (q_out : Nat → Int32) (o : Nat → Int64) (x4 : Int32), wp_law L xs n9 s_bk s_ln s_kd s_vl s_ct k_ce k_bc m_ra m_up m_on m_lo m_hi m_mo m_ma m_li n_rg n_sb n_st n_pl n_z n_n n_h n_c n_en n_so n_co n_sc l_bk l_of l_en l_ct t_bk t_of t_en t_ct q_code q_many q_pin q_size q_bytes q_kind q_bank q_address q_full q_linked q_packedBank q_packedAddress q_banks q_memory q_register q_stack q_place q_zero q_less q_half q_carry q_enabled q_soon q_ram q_low q_top q_mode q_state q_sent q_out o x4 → go_ G cells slots (wL ad o s_bk s_ln s_kd s_vl s_ct k_ce k_bc m_ra m_up m_on m_lo m_hi m_mo m_ma m_li n_rg n_sb n_st n_pl n_z n_n n_h n_c n_en n_so n_co n_sc l_bk l_of l_en l_ct t_bk t_of t_en t_ct q_code q_many q_pin q_size q_bytes q_kind q_bank q_address q_full q_linked q_packedBank q_packedAddress q_banks q_memory q_register q_stack q_place q_zero q_less q_half q_carry q_enabled q_soon q_ram q_low q_top q_mode q_state q_sent q_out) 23 [(0, .ref b), (1, .ref (ad 0)), (2, .ref (ad 30)), (3, .ref (ad 50)), (4, .int x4)] [] := by
  have hR : (gR_ G).cells = 1078 ∧ (gR_ G).slots = 12061 := by rw [hq.2.2.2.2.1]; exact ⟨rfl, rfl⟩
  induction n9 with
  | zero =>
    intro ad X cells slots hcl hsl s_bk s_ln s_kd s_vl s_ct k_ce k_bc m_ra m_up m_on m_lo m_hi m_mo m_ma m_li n_rg n_sb n_st n_pl n_z n_n n_h n_c n_en n_so n_co n_sc l_bk l_of l_en l_ct t_bk t_of t_en t_ct q_code q_many q_pin q_size q_bytes q_kind q_bank q_address q_full q_linked q_packedBank q_packedAddress q_banks q_memory q_register q_stack q_place q_zero q_less q_half q_carry q_enabled q_soon q_ram q_low q_top q_mode q_state q_sent q_out o x4 hw
    exact False.elim hw
  | succ n9 ih =>
    intro ad X cells slots hcl hsl s_bk s_ln s_kd s_vl s_ct k_ce k_bc m_ra m_up m_on m_lo m_hi m_mo m_ma m_li n_rg n_sb n_st n_pl n_z n_n n_h n_c n_en n_so n_co n_sc l_bk l_of l_en l_ct t_bk t_of t_en t_ct q_code q_many q_pin q_size q_bytes q_kind q_bank q_address q_full q_linked q_packedBank q_packedAddress q_banks q_memory q_register q_stack q_place q_zero q_less q_half q_carry q_enabled q_soon q_ram q_low q_top q_mode q_state q_sent q_out o x4 hw
    refine go_iload X 4 dL_law_23 rfl ?_
    refine go_aload_n X 0 dL_law_25 rfl rfl ?_
    refine go_slen X hX dL_law_26 ?_
    refine go_iconst X dL_law_27 kc_i3 ?_
    refine go_isub X dL_law_28 ?_
    refine go_icmp_gt X dL_law_29 rfl (fun hc => ?_) (fun hc => ?_)
    · have hw := hw.1 hc
      refine go_iconst X dL_law_858 kc_i1 ?_
      exact go_true X hq (by omega) (by omega) dL_law_859
    · have hw := hw.2 hc
      refine go_aload_n X 0 dL_law_32 rfl rfl ?_
      refine go_iload X 4 dL_law_33 rfl ?_
      have hz := hw.1
      have hw := hw.2
      refine go_sld X hX hz dL_law_35 ?_
      refine go_bipush X dL_law_36 (show _ = (31 : Int32) from by decide) ?_
      refine go_iand X dL_law_38 ?_
      by_cases h9_0 : ((xs x4.toNatClampNeg) &&& (31 : Int32)) = (0 : Int32)
      · have hw := hw.1 h9_0
        refine go_tin X (0 : Int32) dL_law_39 h9_0 (by decide) (by decide) rfl rfl ?_
        refine go_aload_n X 1 dL_law_120 rfl rfl ?_
        refine go_aload_n X 0 dL_law_121 rfl rfl ?_
        refine go_iload X 4 dL_law_122 rfl ?_
        refine go_iconst X dL_law_124 kc_i1 ?_
        refine go_iadd X dL_law_125 ?_
        have hz := hw.1
        have hw := hw.2
        refine go_sld X hX hz dL_law_126 ?_
        refine go_aload_n X 3 dL_law_127 rfl rfl ?_
        refine k_L_section X hl0 hw ⟨by decide, by decide⟩ (Nat.le_of_ble_eq_true rfl) ⟨by rw [hR.1]; omega, by rw [hR.2]; omega⟩ dL_law_128 (fun r1 w2 w3 w4 o5 hw => ?_)
        refine go_istore X dL_law_131 (by decide) rfl ?_
        refine go_aload_n X 3 dL_law_133 rfl rfl ?_
        refine go_aload_n X 1 dL_law_134 rfl rfl ?_
        refine go_iload X 5 dL_law_135 rfl ?_
        refine go_iconst X dL_law_137 kc_i1 ?_
        refine go_iadd X dL_law_138 ?_
        have hz := hw.1
        have hw := hw.2
        refine go_sld X hX hz dL_law_139 ?_
        refine kl_Q_section X hw ⟨by decide, by decide⟩ (Nat.le_of_ble_eq_true rfl) ⟨by rw [hR.1]; omega, by rw [hR.2]; omega⟩ dL_law_140 (fun r6 w7 w8 w9 w10 hw => ?_)
        refine go_istore X dL_law_143 (by decide) rfl ?_
        refine go_aload_n X 4 dL_law_145 rfl rfl ?_
        refine kl_Q_thrown X hw ⟨by decide, by decide⟩ (Nat.le_of_ble_eq_true rfl) ⟨by rw [hR.1]; omega, by rw [hR.2]; omega⟩ dL_law_146 (fun r11 hw => ?_)
        refine go_iload X 1 dL_law_149 rfl ?_
        refine go_icmp_eq X dL_law_151 rfl (fun hc => ?_) (fun hc => ?_)
        · have hw := hw.1 hc
          refine go_iload X 1 dL_law_156 rfl ?_
          refine go_if_ne X dL_law_158 rfl (fun hc => ?_) (fun hc => ?_)
          · have hw := hw.1 hc
            refine go_goto X dL_law_173 rfl ?_
            refine go_iinc X 6 dL_law_852 rfl (ki_3 _) (by decide) rfl ?_
            refine go_goto X dL_law_855 rfl ?_
            refine go_lc [3, 4, 5, 6, 0] rfl ?_
            exact ih X _ _ (by omega) (by omega) _ _ _ _ _ _ _ _ _ _ _ _ _ _ _ _ _ _ _ _ _ _ _ _ _ _ _ _ _ _ _ _ _ _ _ _ _ _ _ _ _ _ _ _ _ _ _ _ _ _ _ _ _ _ _ _ _ _ _ _ _ _ _ _ _ _ _ hw
          · have hw := hw.2 hc
            refine go_aload_n X 5 dL_law_161 rfl rfl ?_
            refine go_iconst X dL_law_162 kc_i0 ?_
            refine go_lald X 13 rfl vi_0_1 dL_law_163 ?_
            refine go_iload X 0 dL_law_164 rfl ?_
            refine go_i2l X dL_law_166 ?_
            refine go_lcmp X dL_law_167 ?_
            refine go_if_eq X dL_law_168 rfl (fun hc => ?_) (fun hc => ?_)
            · have hw := hw.1 hc
              refine go_goto X dL_law_173 rfl ?_
              refine go_iinc X 6 dL_law_852 rfl (ki_3 _) (by decide) rfl ?_
              refine go_goto X dL_law_855 rfl ?_
              refine go_lc [3, 4, 5, 6, 0] rfl ?_
              exact ih X _ _ (by omega) (by omega) _ _ _ _ _ _ _ _ _ _ _ _ _ _ _ _ _ _ _ _ _ _ _ _ _ _ _ _ _ _ _ _ _ _ _ _ _ _ _ _ _ _ _ _ _ _ _ _ _ _ _ _ _ _ _ _ _ _ _ _ _ _ _ _ _ _ _ hw
            · have hw := hw.2 hc
              refine go_iconst X dL_law_171 kc_i0 ?_
              exact False.elim hw
        · have hw := hw.2 hc
          refine go_iconst X dL_law_154 kc_i0 ?_
          exact False.elim hw
      by_cases h9_1 : ((xs x4.toNatClampNeg) &&& (31 : Int32)) = (1 : Int32)
      · have hw := hw.2.1 h9_1
        refine go_tin X (1 : Int32) dL_law_39 h9_1 (by decide) (by decide) rfl rfl ?_
        refine go_aload_n X 1 dL_law_176 rfl rfl ?_
        refine go_aload_n X 0 dL_law_177 rfl rfl ?_
        refine go_iload X 4 dL_law_178 rfl ?_
        refine go_iconst X dL_law_180 kc_i1 ?_
        refine go_iadd X dL_law_181 ?_
        have hz := hw.1
        have hw := hw.2
        refine go_sld X hX hz dL_law_182 ?_
        refine go_aload_n X 0 dL_law_183 rfl rfl ?_
        refine go_iload X 4 dL_law_184 rfl ?_
        refine go_iconst X dL_law_186 kc_i2 ?_
        refine go_iadd X dL_law_187 ?_
        have hz := hw.1
        have hw := hw.2
        refine go_sld X hX hz dL_law_188 ?_
        refine k_L_bytes X hl0 hw ⟨by decide, by decide⟩ (Nat.le_of_ble_eq_true rfl) ⟨by rw [hR.1]; omega, by rw [hR.2]; omega⟩ dL_law_189 (fun r12 w13 w14 w15 o16 hw => ?_)
        refine go_istore X dL_law_192 (by decide) rfl ?_
        refine go_aload_n X 3 dL_law_194 rfl rfl ?_
        refine go_aload_n X 1 dL_law_195 rfl rfl ?_
        refine go_iload X 5 dL_law_196 rfl ?_
        refine go_iconst X dL_law_198 kc_i1 ?_
        refine go_iadd X dL_law_199 ?_
        have hz := hw.1
        have hw := hw.2
        refine go_sld X hX hz dL_law_200 ?_
        refine go_aload_n X 1 dL_law_201 rfl rfl ?_
        refine go_iload X 5 dL_law_202 rfl ?_
        refine go_iconst X dL_law_204 kc_i2 ?_
        refine go_iadd X dL_law_205 ?_
        have hz := hw.1
        have hw := hw.2
        refine go_sld X hX hz dL_law_206 ?_
        refine kl_Q_bytes X hw ⟨by decide, by decide⟩ (Nat.le_of_ble_eq_true rfl) ⟨by rw [hR.1]; omega, by rw [hR.2]; omega⟩ dL_law_207 (fun w17 w18 w19 w20 hw => ?_)
        refine go_aload_n X 3 dL_law_210 rfl rfl ?_
        refine kl_Q_thrown X hw ⟨by decide, by decide⟩ (Nat.le_of_ble_eq_true rfl) ⟨by rw [hR.1]; omega, by rw [hR.2]; omega⟩ dL_law_211 (fun r21 hw => ?_)
        refine go_iload X 0 dL_law_214 rfl ?_
        refine go_icmp_eq X dL_law_216 rfl (fun hc => ?_) (fun hc => ?_)
        · have hw := hw.1 hc
          refine go_goto X dL_law_221 rfl ?_
          refine go_iinc X 5 dL_law_852 rfl (ki_3 _) (by decide) rfl ?_
          refine go_goto X dL_law_855 rfl ?_
          refine go_lc [2, 3, 4, 5, 0] rfl ?_
          exact ih X _ _ (by omega) (by omega) _ _ _ _ _ _ _ _ _ _ _ _ _ _ _ _ _ _ _ _ _ _ _ _ _ _ _ _ _ _ _ _ _ _ _ _ _ _ _ _ _ _ _ _ _ _ _ _ _ _ _ _ _ _ _ _ _ _ _ _ _ _ _ _ _ _ _ hw
        · have hw := hw.2 hc
          refine go_iconst X dL_law_219 kc_i0 ?_
          exact False.elim hw
      by_cases h9_2 : ((xs x4.toNatClampNeg) &&& (31 : Int32)) = (2 : Int32)
      · have hw := hw.2.2.1 h9_2
        refine go_tin X (2 : Int32) dL_law_39 h9_2 (by decide) (by decide) rfl rfl ?_
        refine go_aload_n X 1 dL_law_224 rfl rfl ?_
        refine go_aload_n X 0 dL_law_225 rfl rfl ?_
        refine go_iload X 4 dL_law_226 rfl ?_
        refine go_iconst X dL_law_228 kc_i1 ?_
        refine go_iadd X dL_law_229 ?_
        have hz := hw.1
        have hw := hw.2
        refine go_sld X hX hz dL_law_230 ?_
        refine go_aload_n X 0 dL_law_231 rfl rfl ?_
        refine go_iload X 4 dL_law_232 rfl ?_
        refine go_iconst X dL_law_234 kc_i2 ?_
        refine go_iadd X dL_law_235 ?_
        have hz := hw.1
        have hw := hw.2
        refine go_sld X hX hz dL_law_236 ?_
        refine k_L_mended X hl0 hw ⟨by decide, by decide⟩ (Nat.le_of_ble_eq_true rfl) ⟨by rw [hR.1]; omega, by rw [hR.2]; omega⟩ dL_law_237 (fun r22 w23 w24 w25 o26 hw => ?_)
        refine go_istore X dL_law_240 (by decide) rfl ?_
        refine go_aload_n X 3 dL_law_242 rfl rfl ?_
        refine go_aload_n X 1 dL_law_243 rfl rfl ?_
        refine go_iload X 5 dL_law_244 rfl ?_
        refine go_iconst X dL_law_246 kc_i1 ?_
        refine go_iadd X dL_law_247 ?_
        have hz := hw.1
        have hw := hw.2
        refine go_sld X hX hz dL_law_248 ?_
        refine go_aload_n X 1 dL_law_249 rfl rfl ?_
        refine go_iload X 5 dL_law_250 rfl ?_
        refine go_iconst X dL_law_252 kc_i2 ?_
        refine go_iadd X dL_law_253 ?_
        have hz := hw.1
        have hw := hw.2
        refine go_sld X hX hz dL_law_254 ?_
        refine kl_Q_mended X hw ⟨by decide, by decide⟩ (Nat.le_of_ble_eq_true rfl) ⟨by rw [hR.1]; omega, by rw [hR.2]; omega⟩ dL_law_255 (fun w27 w28 w29 w30 hw => ?_)
        refine go_aload_n X 3 dL_law_258 rfl rfl ?_
        refine kl_Q_thrown X hw ⟨by decide, by decide⟩ (Nat.le_of_ble_eq_true rfl) ⟨by rw [hR.1]; omega, by rw [hR.2]; omega⟩ dL_law_259 (fun r31 hw => ?_)
        refine go_iload X 0 dL_law_262 rfl ?_
        refine go_icmp_eq X dL_law_264 rfl (fun hc => ?_) (fun hc => ?_)
        · have hw := hw.1 hc
          refine go_goto X dL_law_269 rfl ?_
          refine go_iinc X 5 dL_law_852 rfl (ki_3 _) (by decide) rfl ?_
          refine go_goto X dL_law_855 rfl ?_
          refine go_lc [2, 3, 4, 5, 0] rfl ?_
          exact ih X _ _ (by omega) (by omega) _ _ _ _ _ _ _ _ _ _ _ _ _ _ _ _ _ _ _ _ _ _ _ _ _ _ _ _ _ _ _ _ _ _ _ _ _ _ _ _ _ _ _ _ _ _ _ _ _ _ _ _ _ _ _ _ _ _ _ _ _ _ _ _ _ _ _ hw
        · have hw := hw.2 hc
          refine go_iconst X dL_law_267 kc_i0 ?_
          exact False.elim hw
      by_cases h9_3 : ((xs x4.toNatClampNeg) &&& (31 : Int32)) = (3 : Int32)
      · have hw := hw.2.2.2.1 h9_3
        refine go_tin X (3 : Int32) dL_law_39 h9_3 (by decide) (by decide) rfl rfl ?_
        refine go_aload_n X 1 dL_law_272 rfl rfl ?_
        refine kl_D_clear X hw ⟨by decide, by decide⟩ (Nat.le_of_ble_eq_true rfl) ⟨by rw [hR.1]; omega, by rw [hR.2]; omega⟩ dL_law_273 (fun w32 hw => ?_)
        refine go_aload_n X 2 dL_law_276 rfl rfl ?_
        refine kl_Q_clear X hw ⟨by decide, by decide⟩ (Nat.le_of_ble_eq_true rfl) ⟨by rw [hR.1]; omega, by rw [hR.2]; omega⟩ dL_law_277 (fun w33 w34 hw => ?_)
        refine go_goto X dL_law_280 rfl ?_
        refine go_iinc X 4 dL_law_852 rfl (ki_3 _) (by decide) rfl ?_
        refine go_goto X dL_law_855 rfl ?_
        refine go_lc [1, 2, 3, 4, 0] rfl ?_
        exact ih X _ _ (by omega) (by omega) _ _ _ _ _ _ _ _ _ _ _ _ _ _ _ _ _ _ _ _ _ _ _ _ _ _ _ _ _ _ _ _ _ _ _ _ _ _ _ _ _ _ _ _ _ _ _ _ _ _ _ _ _ _ _ _ _ _ _ _ _ _ _ _ _ _ _ hw
      by_cases h9_4 : ((xs x4.toNatClampNeg) &&& (31 : Int32)) = (4 : Int32)
      · have hw := hw.2.2.2.2.1 h9_4
        refine go_tin X (4 : Int32) dL_law_39 h9_4 (by decide) (by decide) rfl rfl ?_
        refine go_aload_n X 1 dL_law_283 rfl rfl ?_
        refine go_aload_n X 0 dL_law_284 rfl rfl ?_
        refine go_iload X 4 dL_law_285 rfl ?_
        refine go_iconst X dL_law_287 kc_i1 ?_
        refine go_iadd X dL_law_288 ?_
        have hz := hw.1
        have hw := hw.2
        refine go_sld X hX hz dL_law_289 ?_
        refine go_aload_n X 3 dL_law_290 rfl rfl ?_
        refine k_L_link X hl0 hw ⟨by decide, by decide⟩ (Nat.le_of_ble_eq_true rfl) ⟨by rw [hR.1]; omega, by rw [hR.2]; omega⟩ dL_law_291 (fun r35 w36 w37 w38 w39 w40 w41 w42 w43 w44 w45 w46 w47 w48 w49 w50 w51 w52 w53 w54 w55 w56 w57 w58 w59 w60 w61 w62 w63 w64 o65 hw => ?_) (fun r35 w36 w37 w38 w39 w40 w41 w42 w43 w44 w45 w46 w47 w48 w49 w50 w51 w52 w53 w54 w55 w56 w57 w58 w59 w60 w61 w62 w63 w64 o65 hw => ?_)
        · skip
          refine go_istore X dL_law_294 (by decide) rfl ?_
          refine go_aload_n X 3 dL_law_296 rfl rfl ?_
          refine go_aload_n X 1 dL_law_297 rfl rfl ?_
          refine go_iload X 5 dL_law_298 rfl ?_
          refine go_iconst X dL_law_300 kc_i1 ?_
          refine go_iadd X dL_law_301 ?_
          have hz := hw.1
          have hw := hw.2
          refine go_sld X hX hz dL_law_302 ?_
          refine kl_Q_link X hw ⟨by decide, by decide⟩ (Nat.le_of_ble_eq_true rfl) ⟨by rw [hR.1]; omega, by rw [hR.2]; omega⟩ dL_law_303 (fun r66 w67 w68 w69 w70 w71 w72 w73 w74 w75 w76 w77 w78 w79 w80 w81 w82 w83 w84 w85 w86 w87 w88 w89 w90 hw => ?_)
          refine go_istore X dL_law_306 (by decide) rfl ?_
          refine go_aload_n X 4 dL_law_308 rfl rfl ?_
          refine kl_Q_thrown X hw ⟨by decide, by decide⟩ (Nat.le_of_ble_eq_true rfl) ⟨by rw [hR.1]; omega, by rw [hR.2]; omega⟩ dL_law_309 (fun r91 hw => ?_)
          refine go_iload X 1 dL_law_312 rfl ?_
          refine go_icmp_eq X dL_law_314 rfl (fun hc => ?_) (fun hc => ?_)
          · have hw := hw.1 hc
            refine go_iload X 1 dL_law_319 rfl ?_
            refine go_if_ne X dL_law_321 rfl (fun hc => ?_) (fun hc => ?_)
            · have hw := hw.1 hc
              refine go_goto X dL_law_336 rfl ?_
              refine go_iinc X 6 dL_law_852 rfl (ki_3 _) (by decide) rfl ?_
              refine go_goto X dL_law_855 rfl ?_
              refine go_lc [3, 4, 5, 6, 0] rfl ?_
              exact ih X _ _ (by omega) (by omega) _ _ _ _ _ _ _ _ _ _ _ _ _ _ _ _ _ _ _ _ _ _ _ _ _ _ _ _ _ _ _ _ _ _ _ _ _ _ _ _ _ _ _ _ _ _ _ _ _ _ _ _ _ _ _ _ _ _ _ _ _ _ _ _ _ _ _ hw
            · have hw := hw.2 hc
              refine go_aload_n X 5 dL_law_324 rfl rfl ?_
              refine go_iconst X dL_law_325 kc_i0 ?_
              refine go_lald X 13 rfl vi_0_1 dL_law_326 ?_
              refine go_iload X 0 dL_law_327 rfl ?_
              refine go_i2l X dL_law_329 ?_
              refine go_lcmp X dL_law_330 ?_
              refine go_if_eq X dL_law_331 rfl (fun hc => ?_) (fun hc => ?_)
              · have hw := hw.1 hc
                refine go_goto X dL_law_336 rfl ?_
                refine go_iinc X 6 dL_law_852 rfl (ki_3 _) (by decide) rfl ?_
                refine go_goto X dL_law_855 rfl ?_
                refine go_lc [3, 4, 5, 6, 0] rfl ?_
                exact ih X _ _ (by omega) (by omega) _ _ _ _ _ _ _ _ _ _ _ _ _ _ _ _ _ _ _ _ _ _ _ _ _ _ _ _ _ _ _ _ _ _ _ _ _ _ _ _ _ _ _ _ _ _ _ _ _ _ _ _ _ _ _ _ _ _ _ _ _ _ _ _ _ _ _ hw
              · have hw := hw.2 hc
                refine go_iconst X dL_law_334 kc_i0 ?_
                exact False.elim hw
          · have hw := hw.2 hc
            refine go_iconst X dL_law_317 kc_i0 ?_
            exact False.elim hw
        · have X := cx_sw X
          refine go_istore X dL_law_294 (by decide) rfl ?_
          refine go_aload_n X 3 dL_law_296 rfl rfl ?_
          refine go_aload_n X 1 dL_law_297 rfl rfl ?_
          refine go_iload X 5 dL_law_298 rfl ?_
          refine go_iconst X dL_law_300 kc_i1 ?_
          refine go_iadd X dL_law_301 ?_
          have hz := hw.1
          have hw := hw.2
          refine go_sld X hX hz dL_law_302 ?_
          refine kl_Q_link X hw ⟨by decide, by decide⟩ (Nat.le_of_ble_eq_true rfl) ⟨by rw [hR.1]; omega, by rw [hR.2]; omega⟩ dL_law_303 (fun r66 w67 w68 w69 w70 w71 w72 w73 w74 w75 w76 w77 w78 w79 w80 w81 w82 w83 w84 w85 w86 w87 w88 w89 w90 hw => ?_)
          refine go_istore X dL_law_306 (by decide) rfl ?_
          refine go_aload_n X 4 dL_law_308 rfl rfl ?_
          refine kl_Q_thrown X hw ⟨by decide, by decide⟩ (Nat.le_of_ble_eq_true rfl) ⟨by rw [hR.1]; omega, by rw [hR.2]; omega⟩ dL_law_309 (fun r91 hw => ?_)
          refine go_iload X 1 dL_law_312 rfl ?_
          refine go_icmp_eq X dL_law_314 rfl (fun hc => ?_) (fun hc => ?_)
          · have hw := hw.1 hc
            refine go_iload X 1 dL_law_319 rfl ?_
            refine go_if_ne X dL_law_321 rfl (fun hc => ?_) (fun hc => ?_)
            · have hw := hw.1 hc
              refine go_goto X dL_law_336 rfl ?_
              refine go_iinc X 6 dL_law_852 rfl (ki_3 _) (by decide) rfl ?_
              refine go_goto X dL_law_855 rfl ?_
              refine go_lc [3, 4, 5, 6, 0] rfl ?_
              exact ih X _ _ (by omega) (by omega) _ _ _ _ _ _ _ _ _ _ _ _ _ _ _ _ _ _ _ _ _ _ _ _ _ _ _ _ _ _ _ _ _ _ _ _ _ _ _ _ _ _ _ _ _ _ _ _ _ _ _ _ _ _ _ _ _ _ _ _ _ _ _ _ _ _ _ hw
            · have hw := hw.2 hc
              refine go_aload_n X 5 dL_law_324 rfl rfl ?_
              refine go_iconst X dL_law_325 kc_i0 ?_
              refine go_lald X 13 rfl vi_0_1 dL_law_326 ?_
              refine go_iload X 0 dL_law_327 rfl ?_
              refine go_i2l X dL_law_329 ?_
              refine go_lcmp X dL_law_330 ?_
              refine go_if_eq X dL_law_331 rfl (fun hc => ?_) (fun hc => ?_)
              · have hw := hw.1 hc
                refine go_goto X dL_law_336 rfl ?_
                refine go_iinc X 6 dL_law_852 rfl (ki_3 _) (by decide) rfl ?_
                refine go_goto X dL_law_855 rfl ?_
                refine go_lc [3, 4, 5, 6, 0] rfl ?_
                exact ih X _ _ (by omega) (by omega) _ _ _ _ _ _ _ _ _ _ _ _ _ _ _ _ _ _ _ _ _ _ _ _ _ _ _ _ _ _ _ _ _ _ _ _ _ _ _ _ _ _ _ _ _ _ _ _ _ _ _ _ _ _ _ _ _ _ _ _ _ _ _ _ _ _ _ hw
              · have hw := hw.2 hc
                refine go_iconst X dL_law_334 kc_i0 ?_
                exact False.elim hw
          · have hw := hw.2 hc
            refine go_iconst X dL_law_317 kc_i0 ?_
            exact False.elim hw
      by_cases h9_5 : ((xs x4.toNatClampNeg) &&& (31 : Int32)) = (5 : Int32)
      · have hw := hw.2.2.2.2.2.1 h9_5
        refine go_tin X (5 : Int32) dL_law_39 h9_5 (by decide) (by decide) rfl rfl ?_
        refine go_aload_n X 1 dL_law_339 rfl rfl ?_
        refine go_aload_n X 0 dL_law_340 rfl rfl ?_
        refine go_iload X 4 dL_law_341 rfl ?_
        refine go_iconst X dL_law_343 kc_i1 ?_
        refine go_iadd X dL_law_344 ?_
        have hz := hw.1
        have hw := hw.2
        refine go_sld X hX hz dL_law_345 ?_
        refine go_aload_n X 0 dL_law_346 rfl rfl ?_
        refine go_iload X 4 dL_law_347 rfl ?_
        refine go_iconst X dL_law_349 kc_i2 ?_
        refine go_iadd X dL_law_350 ?_
        have hz := hw.1
        have hw := hw.2
        refine go_sld X hX hz dL_law_351 ?_
        refine go_aload_n X 3 dL_law_352 rfl rfl ?_
        refine k_L_packed X hl0 hw ⟨by decide, by decide⟩ (Nat.le_of_ble_eq_true rfl) ⟨by rw [hR.1]; omega, by rw [hR.2]; omega⟩ dL_law_353 (fun r92 o93 hw => ?_)
        refine go_istore X dL_law_356 (by decide) rfl ?_
        refine go_aload_n X 3 dL_law_358 rfl rfl ?_
        refine go_aload_n X 1 dL_law_359 rfl rfl ?_
        refine go_iload X 5 dL_law_360 rfl ?_
        refine go_iconst X dL_law_362 kc_i1 ?_
        refine go_iadd X dL_law_363 ?_
        have hz := hw.1
        have hw := hw.2
        refine go_sld X hX hz dL_law_364 ?_
        refine go_aload_n X 1 dL_law_365 rfl rfl ?_
        refine go_iload X 5 dL_law_366 rfl ?_
        refine go_iconst X dL_law_368 kc_i2 ?_
        refine go_iadd X dL_law_369 ?_
        have hz := hw.1
        have hw := hw.2
        refine go_sld X hX hz dL_law_370 ?_
        refine kl_Q_packed X hw ⟨by decide, by decide⟩ (Nat.le_of_ble_eq_true rfl) ⟨by rw [hR.1]; omega, by rw [hR.2]; omega⟩ dL_law_371 (fun r94 w95 hw => ?_)
        refine go_istore X dL_law_374 (by decide) rfl ?_
        refine go_aload_n X 4 dL_law_376 rfl rfl ?_
        refine kl_Q_thrown X hw ⟨by decide, by decide⟩ (Nat.le_of_ble_eq_true rfl) ⟨by rw [hR.1]; omega, by rw [hR.2]; omega⟩ dL_law_377 (fun r96 hw => ?_)
        refine go_iload X 1 dL_law_380 rfl ?_
        refine go_icmp_eq X dL_law_382 rfl (fun hc => ?_) (fun hc => ?_)
        · have hw := hw.1 hc
          refine go_iload X 1 dL_law_387 rfl ?_
          refine go_if_ne X dL_law_389 rfl (fun hc => ?_) (fun hc => ?_)
          · have hw := hw.1 hc
            refine go_goto X dL_law_404 rfl ?_
            refine go_iinc X 6 dL_law_852 rfl (ki_3 _) (by decide) rfl ?_
            refine go_goto X dL_law_855 rfl ?_
            refine go_lc [3, 4, 5, 6, 0] rfl ?_
            exact ih X _ _ (by omega) (by omega) _ _ _ _ _ _ _ _ _ _ _ _ _ _ _ _ _ _ _ _ _ _ _ _ _ _ _ _ _ _ _ _ _ _ _ _ _ _ _ _ _ _ _ _ _ _ _ _ _ _ _ _ _ _ _ _ _ _ _ _ _ _ _ _ _ _ _ hw
          · have hw := hw.2 hc
            refine go_aload_n X 5 dL_law_392 rfl rfl ?_
            refine go_iconst X dL_law_393 kc_i0 ?_
            refine go_lald X 13 rfl vi_0_1 dL_law_394 ?_
            refine go_iload X 0 dL_law_395 rfl ?_
            refine go_i2l X dL_law_397 ?_
            refine go_lcmp X dL_law_398 ?_
            refine go_if_eq X dL_law_399 rfl (fun hc => ?_) (fun hc => ?_)
            · have hw := hw.1 hc
              refine go_goto X dL_law_404 rfl ?_
              refine go_iinc X 6 dL_law_852 rfl (ki_3 _) (by decide) rfl ?_
              refine go_goto X dL_law_855 rfl ?_
              refine go_lc [3, 4, 5, 6, 0] rfl ?_
              exact ih X _ _ (by omega) (by omega) _ _ _ _ _ _ _ _ _ _ _ _ _ _ _ _ _ _ _ _ _ _ _ _ _ _ _ _ _ _ _ _ _ _ _ _ _ _ _ _ _ _ _ _ _ _ _ _ _ _ _ _ _ _ _ _ _ _ _ _ _ _ _ _ _ _ _ hw
            · have hw := hw.2 hc
              refine go_iconst X dL_law_402 kc_i0 ?_
              exact False.elim hw
        · have hw := hw.2 hc
          refine go_iconst X dL_law_385 kc_i0 ?_
          exact False.elim hw
      by_cases h9_6 : ((xs x4.toNatClampNeg) &&& (31 : Int32)) = (6 : Int32)
      · have hw := hw.2.2.2.2.2.2.1 h9_6
        refine go_tin X (6 : Int32) dL_law_39 h9_6 (by decide) (by decide) rfl rfl ?_
        refine go_aload_n X 1 dL_law_407 rfl rfl ?_
        refine go_aload_n X 0 dL_law_408 rfl rfl ?_
        refine go_iload X 4 dL_law_409 rfl ?_
        refine go_iconst X dL_law_411 kc_i1 ?_
        refine go_iadd X dL_law_412 ?_
        have hz := hw.1
        have hw := hw.2
        refine go_sld X hX hz dL_law_413 ?_
        refine go_aload_n X 3 dL_law_414 rfl rfl ?_
        refine k_L_image X hl0 hw ⟨by decide, by decide⟩ (Nat.le_of_ble_eq_true rfl) ⟨by rw [hR.1]; omega, by rw [hR.2]; omega⟩ dL_law_415 (fun r97 o98 hw => ?_)
        refine go_istore X dL_law_418 (by decide) rfl ?_
        refine go_aload_n X 3 dL_law_420 rfl rfl ?_
        refine go_aload_n X 1 dL_law_421 rfl rfl ?_
        refine go_iload X 5 dL_law_422 rfl ?_
        refine go_iconst X dL_law_424 kc_i1 ?_
        refine go_iadd X dL_law_425 ?_
        have hz := hw.1
        have hw := hw.2
        refine go_sld X hX hz dL_law_426 ?_
        refine kl_Q_image X hw ⟨by decide, by decide⟩ (Nat.le_of_ble_eq_true rfl) ⟨by rw [hR.1]; omega, by rw [hR.2]; omega⟩ dL_law_427 (fun r99 w100 hw => ?_)
        refine go_istore X dL_law_430 (by decide) rfl ?_
        refine go_aload_n X 4 dL_law_432 rfl rfl ?_
        refine kl_Q_thrown X hw ⟨by decide, by decide⟩ (Nat.le_of_ble_eq_true rfl) ⟨by rw [hR.1]; omega, by rw [hR.2]; omega⟩ dL_law_433 (fun r101 hw => ?_)
        refine go_iload X 1 dL_law_436 rfl ?_
        refine go_icmp_eq X dL_law_438 rfl (fun hc => ?_) (fun hc => ?_)
        · have hw := hw.1 hc
          refine go_iload X 1 dL_law_443 rfl ?_
          refine go_if_ne X dL_law_445 rfl (fun hc => ?_) (fun hc => ?_)
          · have hw := hw.1 hc
            refine go_goto X dL_law_460 rfl ?_
            refine go_iinc X 6 dL_law_852 rfl (ki_3 _) (by decide) rfl ?_
            refine go_goto X dL_law_855 rfl ?_
            refine go_lc [3, 4, 5, 6, 0] rfl ?_
            exact ih X _ _ (by omega) (by omega) _ _ _ _ _ _ _ _ _ _ _ _ _ _ _ _ _ _ _ _ _ _ _ _ _ _ _ _ _ _ _ _ _ _ _ _ _ _ _ _ _ _ _ _ _ _ _ _ _ _ _ _ _ _ _ _ _ _ _ _ _ _ _ _ _ _ _ hw
          · have hw := hw.2 hc
            refine go_aload_n X 5 dL_law_448 rfl rfl ?_
            refine go_iconst X dL_law_449 kc_i0 ?_
            refine go_lald X 13 rfl vi_0_1 dL_law_450 ?_
            refine go_iload X 0 dL_law_451 rfl ?_
            refine go_i2l X dL_law_453 ?_
            refine go_lcmp X dL_law_454 ?_
            refine go_if_eq X dL_law_455 rfl (fun hc => ?_) (fun hc => ?_)
            · have hw := hw.1 hc
              refine go_goto X dL_law_460 rfl ?_
              refine go_iinc X 6 dL_law_852 rfl (ki_3 _) (by decide) rfl ?_
              refine go_goto X dL_law_855 rfl ?_
              refine go_lc [3, 4, 5, 6, 0] rfl ?_
              exact ih X _ _ (by omega) (by omega) _ _ _ _ _ _ _ _ _ _ _ _ _ _ _ _ _ _ _ _ _ _ _ _ _ _ _ _ _ _ _ _ _ _ _ _ _ _ _ _ _ _ _ _ _ _ _ _ _ _ _ _ _ _ _ _ _ _ _ _ _ _ _ _ _ _ _ hw
            · have hw := hw.2 hc
              refine go_iconst X dL_law_458 kc_i0 ?_
              exact False.elim hw
        · have hw := hw.2 hc
          refine go_iconst X dL_law_441 kc_i0 ?_
          exact False.elim hw
      by_cases h9_7 : ((xs x4.toNatClampNeg) &&& (31 : Int32)) = (7 : Int32)
      · have hw := hw.2.2.2.2.2.2.2.1 h9_7
        refine go_tin X (7 : Int32) dL_law_39 h9_7 (by decide) (by decide) rfl rfl ?_
        refine go_aload_n X 1 dL_law_463 rfl rfl ?_
        refine go_aload_n X 0 dL_law_464 rfl rfl ?_
        refine go_iload X 4 dL_law_465 rfl ?_
        refine go_iconst X dL_law_467 kc_i1 ?_
        refine go_iadd X dL_law_468 ?_
        have hz := hw.1
        have hw := hw.2
        refine go_sld X hX hz dL_law_469 ?_
        refine go_aload_n X 0 dL_law_470 rfl rfl ?_
        refine go_iload X 4 dL_law_471 rfl ?_
        refine go_iconst X dL_law_473 kc_i2 ?_
        refine go_iadd X dL_law_474 ?_
        have hz := hw.1
        have hw := hw.2
        refine go_sld X hX hz dL_law_475 ?_
        refine k_L_spoil X hl0 hw ⟨by decide, by decide⟩ (Nat.le_of_ble_eq_true rfl) ⟨by rw [hR.1]; omega, by rw [hR.2]; omega⟩ dL_law_476 (fun r102 w103 o104 hw => ?_)
        refine go_istore X dL_law_479 (by decide) rfl ?_
        refine go_aload_n X 3 dL_law_481 rfl rfl ?_
        refine go_aload_n X 1 dL_law_482 rfl rfl ?_
        refine go_iload X 5 dL_law_483 rfl ?_
        refine go_iconst X dL_law_485 kc_i1 ?_
        refine go_iadd X dL_law_486 ?_
        have hz := hw.1
        have hw := hw.2
        refine go_sld X hX hz dL_law_487 ?_
        refine go_aload_n X 1 dL_law_488 rfl rfl ?_
        refine go_iload X 5 dL_law_489 rfl ?_
        refine go_iconst X dL_law_491 kc_i2 ?_
        refine go_iadd X dL_law_492 ?_
        have hz := hw.1
        have hw := hw.2
        refine go_sld X hX hz dL_law_493 ?_
        refine kl_Q_spoil X hw ⟨by decide, by decide⟩ (Nat.le_of_ble_eq_true rfl) ⟨by rw [hR.1]; omega, by rw [hR.2]; omega⟩ dL_law_494 (fun w105 w106 hw => ?_)
        refine go_aload_n X 3 dL_law_497 rfl rfl ?_
        refine kl_Q_thrown X hw ⟨by decide, by decide⟩ (Nat.le_of_ble_eq_true rfl) ⟨by rw [hR.1]; omega, by rw [hR.2]; omega⟩ dL_law_498 (fun r107 hw => ?_)
        refine go_iload X 0 dL_law_501 rfl ?_
        refine go_icmp_eq X dL_law_503 rfl (fun hc => ?_) (fun hc => ?_)
        · have hw := hw.1 hc
          refine go_goto X dL_law_508 rfl ?_
          refine go_iinc X 5 dL_law_852 rfl (ki_3 _) (by decide) rfl ?_
          refine go_goto X dL_law_855 rfl ?_
          refine go_lc [2, 3, 4, 5, 0] rfl ?_
          exact ih X _ _ (by omega) (by omega) _ _ _ _ _ _ _ _ _ _ _ _ _ _ _ _ _ _ _ _ _ _ _ _ _ _ _ _ _ _ _ _ _ _ _ _ _ _ _ _ _ _ _ _ _ _ _ _ _ _ _ _ _ _ _ _ _ _ _ _ _ _ _ _ _ _ _ hw
        · have hw := hw.2 hc
          refine go_iconst X dL_law_506 kc_i0 ?_
          exact False.elim hw
      by_cases h9_8 : ((xs x4.toNatClampNeg) &&& (31 : Int32)) = (8 : Int32)
      · have hw := hw.2.2.2.2.2.2.2.2.1 h9_8
        refine go_tin X (8 : Int32) dL_law_39 h9_8 (by decide) (by decide) rfl rfl ?_
        refine go_aload_n X 1 dL_law_511 rfl rfl ?_
        refine go_aload_n X 3 dL_law_512 rfl rfl ?_
        refine k_L_valid X hl0 hw ⟨by decide, by decide⟩ (Nat.le_of_ble_eq_true rfl) ⟨by rw [hR.1]; omega, by rw [hR.2]; omega⟩ dL_law_513 (fun r108 o109 hw => ?_)
        refine go_istore X dL_law_516 (by decide) rfl ?_
        refine go_aload_n X 3 dL_law_518 rfl rfl ?_
        refine kl_Q_valid X hw ⟨by decide, by decide⟩ (Nat.le_of_ble_eq_true rfl) ⟨by rw [hR.1]; omega, by rw [hR.2]; omega⟩ dL_law_519 (fun r110 w111 hw => ?_)
        refine go_istore X dL_law_522 (by decide) rfl ?_
        refine go_aload_n X 4 dL_law_524 rfl rfl ?_
        refine kl_Q_thrown X hw ⟨by decide, by decide⟩ (Nat.le_of_ble_eq_true rfl) ⟨by rw [hR.1]; omega, by rw [hR.2]; omega⟩ dL_law_525 (fun r112 hw => ?_)
        refine go_iload X 1 dL_law_528 rfl ?_
        refine go_icmp_eq X dL_law_530 rfl (fun hc => ?_) (fun hc => ?_)
        · have hw := hw.1 hc
          refine go_iload X 1 dL_law_535 rfl ?_
          refine go_if_ne X dL_law_537 rfl (fun hc => ?_) (fun hc => ?_)
          · have hw := hw.1 hc
            refine go_goto X dL_law_552 rfl ?_
            refine go_iinc X 6 dL_law_852 rfl (ki_3 _) (by decide) rfl ?_
            refine go_goto X dL_law_855 rfl ?_
            refine go_lc [3, 4, 5, 6, 0] rfl ?_
            exact ih X _ _ (by omega) (by omega) _ _ _ _ _ _ _ _ _ _ _ _ _ _ _ _ _ _ _ _ _ _ _ _ _ _ _ _ _ _ _ _ _ _ _ _ _ _ _ _ _ _ _ _ _ _ _ _ _ _ _ _ _ _ _ _ _ _ _ _ _ _ _ _ _ _ _ hw
          · have hw := hw.2 hc
            refine go_aload_n X 5 dL_law_540 rfl rfl ?_
            refine go_iconst X dL_law_541 kc_i0 ?_
            refine go_lald X 13 rfl vi_0_1 dL_law_542 ?_
            refine go_iload X 0 dL_law_543 rfl ?_
            refine go_i2l X dL_law_545 ?_
            refine go_lcmp X dL_law_546 ?_
            refine go_if_eq X dL_law_547 rfl (fun hc => ?_) (fun hc => ?_)
            · have hw := hw.1 hc
              refine go_goto X dL_law_552 rfl ?_
              refine go_iinc X 6 dL_law_852 rfl (ki_3 _) (by decide) rfl ?_
              refine go_goto X dL_law_855 rfl ?_
              refine go_lc [3, 4, 5, 6, 0] rfl ?_
              exact ih X _ _ (by omega) (by omega) _ _ _ _ _ _ _ _ _ _ _ _ _ _ _ _ _ _ _ _ _ _ _ _ _ _ _ _ _ _ _ _ _ _ _ _ _ _ _ _ _ _ _ _ _ _ _ _ _ _ _ _ _ _ _ _ _ _ _ _ _ _ _ _ _ _ _ hw
            · have hw := hw.2 hc
              refine go_iconst X dL_law_550 kc_i0 ?_
              exact False.elim hw
        · have hw := hw.2 hc
          refine go_iconst X dL_law_533 kc_i0 ?_
          exact False.elim hw
      by_cases h9_9 : ((xs x4.toNatClampNeg) &&& (31 : Int32)) = (9 : Int32)
      · have hw := hw.2.2.2.2.2.2.2.2.2.1 h9_9
        refine go_tin X (9 : Int32) dL_law_39 h9_9 (by decide) (by decide) rfl rfl ?_
        refine go_aload_n X 1 dL_law_555 rfl rfl ?_
        refine kl_D_restart X hw ⟨by decide, by decide⟩ (Nat.le_of_ble_eq_true rfl) ⟨by rw [hR.1]; omega, by rw [hR.2]; omega⟩ dL_law_556 (fun w113 w114 w115 w116 w117 w118 w119 w120 w121 w122 w123 w124 w125 w126 w127 w128 w129 w130 w131 hw => ?_)
        refine go_aload_n X 2 dL_law_559 rfl rfl ?_
        refine kl_Q_restart X hw ⟨by decide, by decide⟩ (Nat.le_of_ble_eq_true rfl) ⟨by rw [hR.1]; omega, by rw [hR.2]; omega⟩ dL_law_560 (fun w132 w133 w134 w135 w136 w137 w138 w139 w140 w141 w142 w143 w144 w145 w146 w147 w148 hw => ?_)
        refine go_goto X dL_law_563 rfl ?_
        refine go_iinc X 4 dL_law_852 rfl (ki_3 _) (by decide) rfl ?_
        refine go_goto X dL_law_855 rfl ?_
        refine go_lc [1, 2, 3, 4, 0] rfl ?_
        exact ih X _ _ (by omega) (by omega) _ _ _ _ _ _ _ _ _ _ _ _ _ _ _ _ _ _ _ _ _ _ _ _ _ _ _ _ _ _ _ _ _ _ _ _ _ _ _ _ _ _ _ _ _ _ _ _ _ _ _ _ _ _ _ _ _ _ _ _ _ _ _ _ _ _ _ hw
      by_cases h9_10 : ((xs x4.toNatClampNeg) &&& (31 : Int32)) = (10 : Int32)
      · have hw := hw.2.2.2.2.2.2.2.2.2.2.1 h9_10
        refine go_tin X (10 : Int32) dL_law_39 h9_10 (by decide) (by decide) rfl rfl ?_
        refine go_aload_n X 1 dL_law_566 rfl rfl ?_
        refine go_aload_n X 0 dL_law_567 rfl rfl ?_
        refine go_iload X 4 dL_law_568 rfl ?_
        refine go_iconst X dL_law_570 kc_i1 ?_
        refine go_iadd X dL_law_571 ?_
        have hz := hw.1
        have hw := hw.2
        refine go_sld X hX hz dL_law_572 ?_
        refine k_L_raise X hl0 hw ⟨by decide, by decide⟩ (Nat.le_of_ble_eq_true rfl) ⟨by rw [hR.1]; omega, by rw [hR.2]; omega⟩ dL_law_573 (fun r149 w150 o151 hw => ?_)
        refine go_istore X dL_law_576 (by decide) rfl ?_
        refine go_aload_n X 3 dL_law_578 rfl rfl ?_
        refine go_aload_n X 1 dL_law_579 rfl rfl ?_
        refine go_iload X 5 dL_law_580 rfl ?_
        refine go_iconst X dL_law_582 kc_i1 ?_
        refine go_iadd X dL_law_583 ?_
        have hz := hw.1
        have hw := hw.2
        refine go_sld X hX hz dL_law_584 ?_
        refine kl_Q_raise X hw ⟨by decide, by decide⟩ (Nat.le_of_ble_eq_true rfl) ⟨by rw [hR.1]; omega, by rw [hR.2]; omega⟩ dL_law_585 (fun w152 w153 hw => ?_)
        refine go_aload_n X 3 dL_law_588 rfl rfl ?_
        refine kl_Q_thrown X hw ⟨by decide, by decide⟩ (Nat.le_of_ble_eq_true rfl) ⟨by rw [hR.1]; omega, by rw [hR.2]; omega⟩ dL_law_589 (fun r154 hw => ?_)
        refine go_iload X 0 dL_law_592 rfl ?_
        refine go_icmp_eq X dL_law_594 rfl (fun hc => ?_) (fun hc => ?_)
        · have hw := hw.1 hc
          refine go_goto X dL_law_599 rfl ?_
          refine go_iinc X 5 dL_law_852 rfl (ki_3 _) (by decide) rfl ?_
          refine go_goto X dL_law_855 rfl ?_
          refine go_lc [2, 3, 4, 5, 0] rfl ?_
          exact ih X _ _ (by omega) (by omega) _ _ _ _ _ _ _ _ _ _ _ _ _ _ _ _ _ _ _ _ _ _ _ _ _ _ _ _ _ _ _ _ _ _ _ _ _ _ _ _ _ _ _ _ _ _ _ _ _ _ _ _ _ _ _ _ _ _ _ _ _ _ _ _ _ _ _ hw
        · have hw := hw.2 hc
          refine go_iconst X dL_law_597 kc_i0 ?_
          exact False.elim hw
      by_cases h9_11 : ((xs x4.toNatClampNeg) &&& (31 : Int32)) = (11 : Int32)
      · have hw := hw.2.2.2.2.2.2.2.2.2.2.2.1 h9_11
        refine go_tin X (11 : Int32) dL_law_39 h9_11 (by decide) (by decide) rfl rfl ?_
        refine go_aload_n X 1 dL_law_602 rfl rfl ?_
        refine go_aload_n X 0 dL_law_603 rfl rfl ?_
        refine go_iload X 4 dL_law_604 rfl ?_
        refine go_iconst X dL_law_606 kc_i1 ?_
        refine go_iadd X dL_law_607 ?_
        have hz := hw.1
        have hw := hw.2
        refine go_sld X hX hz dL_law_608 ?_
        refine go_aload_n X 3 dL_law_609 rfl rfl ?_
        refine k_L_run X hl0 hw ⟨by decide, by decide⟩ (Nat.le_of_ble_eq_true rfl) ⟨by rw [hR.1]; omega, by rw [hR.2]; omega⟩ dL_law_610 (fun r155 w156 w157 w158 w159 w160 w161 w162 w163 w164 w165 w166 w167 w168 w169 w170 w171 w172 w173 w174 w175 o176 hw => ?_)
        refine go_istore X dL_law_613 (by decide) rfl ?_
        refine go_aload_n X 3 dL_law_615 rfl rfl ?_
        refine go_aload_n X 1 dL_law_616 rfl rfl ?_
        refine go_iload X 5 dL_law_617 rfl ?_
        refine go_iconst X dL_law_619 kc_i1 ?_
        refine go_iadd X dL_law_620 ?_
        have hz := hw.1
        have hw := hw.2
        refine go_sld X hX hz dL_law_621 ?_
        refine kl_Q_run X hw ⟨by decide, by decide⟩ (Nat.le_of_ble_eq_true rfl) ⟨by rw [hR.1]; omega, by rw [hR.2]; omega⟩ dL_law_622 (fun r177 w178 w179 w180 w181 w182 w183 w184 w185 w186 w187 w188 w189 w190 w191 w192 w193 w194 w195 hw => ?_)
        refine go_istore X dL_law_625 (by decide) rfl ?_
        refine go_aload_n X 4 dL_law_627 rfl rfl ?_
        refine kl_Q_thrown X hw ⟨by decide, by decide⟩ (Nat.le_of_ble_eq_true rfl) ⟨by rw [hR.1]; omega, by rw [hR.2]; omega⟩ dL_law_628 (fun r196 hw => ?_)
        refine go_iload X 1 dL_law_631 rfl ?_
        refine go_icmp_eq X dL_law_633 rfl (fun hc => ?_) (fun hc => ?_)
        · have hw := hw.1 hc
          refine go_iload X 1 dL_law_638 rfl ?_
          refine go_if_ne X dL_law_640 rfl (fun hc => ?_) (fun hc => ?_)
          · have hw := hw.1 hc
            refine go_goto X dL_law_655 rfl ?_
            refine go_iinc X 6 dL_law_852 rfl (ki_3 _) (by decide) rfl ?_
            refine go_goto X dL_law_855 rfl ?_
            refine go_lc [3, 4, 5, 6, 0] rfl ?_
            exact ih X _ _ (by omega) (by omega) _ _ _ _ _ _ _ _ _ _ _ _ _ _ _ _ _ _ _ _ _ _ _ _ _ _ _ _ _ _ _ _ _ _ _ _ _ _ _ _ _ _ _ _ _ _ _ _ _ _ _ _ _ _ _ _ _ _ _ _ _ _ _ _ _ _ _ hw
          · have hw := hw.2 hc
            refine go_aload_n X 5 dL_law_643 rfl rfl ?_
            refine go_iconst X dL_law_644 kc_i0 ?_
            refine go_lald X 13 rfl vi_0_1 dL_law_645 ?_
            refine go_iload X 0 dL_law_646 rfl ?_
            refine go_i2l X dL_law_648 ?_
            refine go_lcmp X dL_law_649 ?_
            refine go_if_eq X dL_law_650 rfl (fun hc => ?_) (fun hc => ?_)
            · have hw := hw.1 hc
              refine go_goto X dL_law_655 rfl ?_
              refine go_iinc X 6 dL_law_852 rfl (ki_3 _) (by decide) rfl ?_
              refine go_goto X dL_law_855 rfl ?_
              refine go_lc [3, 4, 5, 6, 0] rfl ?_
              exact ih X _ _ (by omega) (by omega) _ _ _ _ _ _ _ _ _ _ _ _ _ _ _ _ _ _ _ _ _ _ _ _ _ _ _ _ _ _ _ _ _ _ _ _ _ _ _ _ _ _ _ _ _ _ _ _ _ _ _ _ _ _ _ _ _ _ _ _ _ _ _ _ _ _ _ hw
            · have hw := hw.2 hc
              refine go_iconst X dL_law_653 kc_i0 ?_
              exact False.elim hw
        · have hw := hw.2 hc
          refine go_iconst X dL_law_636 kc_i0 ?_
          exact False.elim hw
      by_cases h9_12 : ((xs x4.toNatClampNeg) &&& (31 : Int32)) = (12 : Int32)
      · have hw := hw.2.2.2.2.2.2.2.2.2.2.2.2.1 h9_12
        refine go_tin X (12 : Int32) dL_law_39 h9_12 (by decide) (by decide) rfl rfl ?_
        refine go_aload_n X 1 dL_law_658 rfl rfl ?_
        refine kl_D_state X hw ⟨by decide, by decide⟩ (Nat.le_of_ble_eq_true rfl) ⟨by rw [hR.1]; omega, by rw [hR.2]; omega⟩ dL_law_659 (fun r197 hw => ?_)
        refine go_aload_n X 2 dL_law_662 rfl rfl ?_
        refine kl_Q_state X hw ⟨by decide, by decide⟩ (Nat.le_of_ble_eq_true rfl) ⟨by rw [hR.1]; omega, by rw [hR.2]; omega⟩ dL_law_663 (fun r198 w199 hw => ?_)
        refine go_icmp_eq X dL_law_666 rfl (fun hc => ?_) (fun hc => ?_)
        · have hw := hw.1 hc
          refine go_iinc X 4 dL_law_852 rfl (ki_3 _) (by decide) rfl ?_
          refine go_goto X dL_law_855 rfl ?_
          refine go_lc [1, 2, 3, 4, 0] rfl ?_
          exact ih X _ _ (by omega) (by omega) _ _ _ _ _ _ _ _ _ _ _ _ _ _ _ _ _ _ _ _ _ _ _ _ _ _ _ _ _ _ _ _ _ _ _ _ _ _ _ _ _ _ _ _ _ _ _ _ _ _ _ _ _ _ _ _ _ _ _ _ _ _ _ _ _ _ _ hw
        · have hw := hw.2 hc
          refine go_iconst X dL_law_669 kc_i0 ?_
          exact False.elim hw
      by_cases h9_13 : ((xs x4.toNatClampNeg) &&& (31 : Int32)) = (13 : Int32)
      · have hw := hw.2.2.2.2.2.2.2.2.2.2.2.2.2.1 h9_13
        refine go_tin X (13 : Int32) dL_law_39 h9_13 (by decide) (by decide) rfl rfl ?_
        refine go_aload_n X 1 dL_law_671 rfl rfl ?_
        refine go_aload_n X 0 dL_law_672 rfl rfl ?_
        refine go_iload X 4 dL_law_673 rfl ?_
        refine go_iconst X dL_law_675 kc_i1 ?_
        refine go_iadd X dL_law_676 ?_
        have hz := hw.1
        have hw := hw.2
        refine go_sld X hX hz dL_law_677 ?_
        refine go_aload_n X 3 dL_law_678 rfl rfl ?_
        refine k_L_register X hl0 hw ⟨by decide, by decide⟩ (Nat.le_of_ble_eq_true rfl) ⟨by rw [hR.1]; omega, by rw [hR.2]; omega⟩ dL_law_679 (fun r200 o201 hw => ?_)
        refine go_istore X dL_law_682 (by decide) rfl ?_
        refine go_aload_n X 3 dL_law_684 rfl rfl ?_
        refine go_aload_n X 1 dL_law_685 rfl rfl ?_
        refine go_iload X 5 dL_law_686 rfl ?_
        refine go_iconst X dL_law_688 kc_i1 ?_
        refine go_iadd X dL_law_689 ?_
        have hz := hw.1
        have hw := hw.2
        refine go_sld X hX hz dL_law_690 ?_
        refine kl_Q_register X hw ⟨by decide, by decide⟩ (Nat.le_of_ble_eq_true rfl) ⟨by rw [hR.1]; omega, by rw [hR.2]; omega⟩ dL_law_691 (fun r202 w203 hw => ?_)
        refine go_istore X dL_law_694 (by decide) rfl ?_
        refine go_aload_n X 4 dL_law_696 rfl rfl ?_
        refine kl_Q_thrown X hw ⟨by decide, by decide⟩ (Nat.le_of_ble_eq_true rfl) ⟨by rw [hR.1]; omega, by rw [hR.2]; omega⟩ dL_law_697 (fun r204 hw => ?_)
        refine go_iload X 1 dL_law_700 rfl ?_
        refine go_icmp_eq X dL_law_702 rfl (fun hc => ?_) (fun hc => ?_)
        · have hw := hw.1 hc
          refine go_iload X 1 dL_law_707 rfl ?_
          refine go_if_ne X dL_law_709 rfl (fun hc => ?_) (fun hc => ?_)
          · have hw := hw.1 hc
            refine go_goto X dL_law_724 rfl ?_
            refine go_iinc X 6 dL_law_852 rfl (ki_3 _) (by decide) rfl ?_
            refine go_goto X dL_law_855 rfl ?_
            refine go_lc [3, 4, 5, 6, 0] rfl ?_
            exact ih X _ _ (by omega) (by omega) _ _ _ _ _ _ _ _ _ _ _ _ _ _ _ _ _ _ _ _ _ _ _ _ _ _ _ _ _ _ _ _ _ _ _ _ _ _ _ _ _ _ _ _ _ _ _ _ _ _ _ _ _ _ _ _ _ _ _ _ _ _ _ _ _ _ _ hw
          · have hw := hw.2 hc
            refine go_aload_n X 5 dL_law_712 rfl rfl ?_
            refine go_iconst X dL_law_713 kc_i0 ?_
            refine go_lald X 13 rfl vi_0_1 dL_law_714 ?_
            refine go_iload X 0 dL_law_715 rfl ?_
            refine go_i2l X dL_law_717 ?_
            refine go_lcmp X dL_law_718 ?_
            refine go_if_eq X dL_law_719 rfl (fun hc => ?_) (fun hc => ?_)
            · have hw := hw.1 hc
              refine go_goto X dL_law_724 rfl ?_
              refine go_iinc X 6 dL_law_852 rfl (ki_3 _) (by decide) rfl ?_
              refine go_goto X dL_law_855 rfl ?_
              refine go_lc [3, 4, 5, 6, 0] rfl ?_
              exact ih X _ _ (by omega) (by omega) _ _ _ _ _ _ _ _ _ _ _ _ _ _ _ _ _ _ _ _ _ _ _ _ _ _ _ _ _ _ _ _ _ _ _ _ _ _ _ _ _ _ _ _ _ _ _ _ _ _ _ _ _ _ _ _ _ _ _ _ _ _ _ _ _ _ _ hw
            · have hw := hw.2 hc
              refine go_iconst X dL_law_722 kc_i0 ?_
              exact False.elim hw
        · have hw := hw.2 hc
          refine go_iconst X dL_law_705 kc_i0 ?_
          exact False.elim hw
      by_cases h9_14 : ((xs x4.toNatClampNeg) &&& (31 : Int32)) = (14 : Int32)
      · have hw := hw.2.2.2.2.2.2.2.2.2.2.2.2.2.2.1 h9_14
        refine go_tin X (14 : Int32) dL_law_39 h9_14 (by decide) (by decide) rfl rfl ?_
        refine go_aload_n X 1 dL_law_727 rfl rfl ?_
        refine go_aload_n X 0 dL_law_728 rfl rfl ?_
        refine go_iload X 4 dL_law_729 rfl ?_
        refine go_iconst X dL_law_731 kc_i1 ?_
        refine go_iadd X dL_law_732 ?_
        have hz := hw.1
        have hw := hw.2
        refine go_sld X hX hz dL_law_733 ?_
        refine go_aload_n X 3 dL_law_734 rfl rfl ?_
        refine k_L_peek X hl0 hw ⟨by decide, by decide⟩ (Nat.le_of_ble_eq_true rfl) ⟨by rw [hR.1]; omega, by rw [hR.2]; omega⟩ dL_law_735 (fun r205 o206 hw => ?_)
        refine go_istore X dL_law_738 (by decide) rfl ?_
        refine go_aload_n X 3 dL_law_740 rfl rfl ?_
        refine go_aload_n X 1 dL_law_741 rfl rfl ?_
        refine go_iload X 5 dL_law_742 rfl ?_
        refine go_iconst X dL_law_744 kc_i1 ?_
        refine go_iadd X dL_law_745 ?_
        have hz := hw.1
        have hw := hw.2
        refine go_sld X hX hz dL_law_746 ?_
        refine kl_Q_peek X hw ⟨by decide, by decide⟩ (Nat.le_of_ble_eq_true rfl) ⟨by rw [hR.1]; omega, by rw [hR.2]; omega⟩ dL_law_747 (fun r207 w208 hw => ?_)
        refine go_istore X dL_law_750 (by decide) rfl ?_
        refine go_aload_n X 4 dL_law_752 rfl rfl ?_
        refine kl_Q_thrown X hw ⟨by decide, by decide⟩ (Nat.le_of_ble_eq_true rfl) ⟨by rw [hR.1]; omega, by rw [hR.2]; omega⟩ dL_law_753 (fun r209 hw => ?_)
        refine go_iload X 1 dL_law_756 rfl ?_
        refine go_icmp_eq X dL_law_758 rfl (fun hc => ?_) (fun hc => ?_)
        · have hw := hw.1 hc
          refine go_iload X 1 dL_law_763 rfl ?_
          refine go_if_ne X dL_law_765 rfl (fun hc => ?_) (fun hc => ?_)
          · have hw := hw.1 hc
            refine go_goto X dL_law_780 rfl ?_
            refine go_iinc X 6 dL_law_852 rfl (ki_3 _) (by decide) rfl ?_
            refine go_goto X dL_law_855 rfl ?_
            refine go_lc [3, 4, 5, 6, 0] rfl ?_
            exact ih X _ _ (by omega) (by omega) _ _ _ _ _ _ _ _ _ _ _ _ _ _ _ _ _ _ _ _ _ _ _ _ _ _ _ _ _ _ _ _ _ _ _ _ _ _ _ _ _ _ _ _ _ _ _ _ _ _ _ _ _ _ _ _ _ _ _ _ _ _ _ _ _ _ _ hw
          · have hw := hw.2 hc
            refine go_aload_n X 5 dL_law_768 rfl rfl ?_
            refine go_iconst X dL_law_769 kc_i0 ?_
            refine go_lald X 13 rfl vi_0_1 dL_law_770 ?_
            refine go_iload X 0 dL_law_771 rfl ?_
            refine go_i2l X dL_law_773 ?_
            refine go_lcmp X dL_law_774 ?_
            refine go_if_eq X dL_law_775 rfl (fun hc => ?_) (fun hc => ?_)
            · have hw := hw.1 hc
              refine go_goto X dL_law_780 rfl ?_
              refine go_iinc X 6 dL_law_852 rfl (ki_3 _) (by decide) rfl ?_
              refine go_goto X dL_law_855 rfl ?_
              refine go_lc [3, 4, 5, 6, 0] rfl ?_
              exact ih X _ _ (by omega) (by omega) _ _ _ _ _ _ _ _ _ _ _ _ _ _ _ _ _ _ _ _ _ _ _ _ _ _ _ _ _ _ _ _ _ _ _ _ _ _ _ _ _ _ _ _ _ _ _ _ _ _ _ _ _ _ _ _ _ _ _ _ _ _ _ _ _ _ _ hw
            · have hw := hw.2 hc
              refine go_iconst X dL_law_778 kc_i0 ?_
              exact False.elim hw
        · have hw := hw.2 hc
          refine go_iconst X dL_law_761 kc_i0 ?_
          exact False.elim hw
      by_cases h9_15 : ((xs x4.toNatClampNeg) &&& (31 : Int32)) = (15 : Int32)
      · have hw := hw.2.2.2.2.2.2.2.2.2.2.2.2.2.2.2.1 h9_15
        refine go_tin X (15 : Int32) dL_law_39 h9_15 (by decide) (by decide) rfl rfl ?_
        refine go_aload_n X 1 dL_law_783 rfl rfl ?_
        refine kl_D_sent X hw ⟨by decide, by decide⟩ (Nat.le_of_ble_eq_true rfl) ⟨by rw [hR.1]; omega, by rw [hR.2]; omega⟩ dL_law_784 (fun r210 hw => ?_)
        refine go_aload_n X 2 dL_law_787 rfl rfl ?_
        refine kl_Q_sent X hw ⟨by decide, by decide⟩ (Nat.le_of_ble_eq_true rfl) ⟨by rw [hR.1]; omega, by rw [hR.2]; omega⟩ dL_law_788 (fun r211 w212 hw => ?_)
        refine go_icmp_eq X dL_law_791 rfl (fun hc => ?_) (fun hc => ?_)
        · have hw := hw.1 hc
          refine go_iinc X 4 dL_law_852 rfl (ki_3 _) (by decide) rfl ?_
          refine go_goto X dL_law_855 rfl ?_
          refine go_lc [1, 2, 3, 4, 0] rfl ?_
          exact ih X _ _ (by omega) (by omega) _ _ _ _ _ _ _ _ _ _ _ _ _ _ _ _ _ _ _ _ _ _ _ _ _ _ _ _ _ _ _ _ _ _ _ _ _ _ _ _ _ _ _ _ _ _ _ _ _ _ _ _ _ _ _ _ _ _ _ _ _ _ _ _ _ _ _ hw
        · have hw := hw.2 hc
          refine go_iconst X dL_law_794 kc_i0 ?_
          exact False.elim hw
      by_cases h9_16 : ((xs x4.toNatClampNeg) &&& (31 : Int32)) = (16 : Int32)
      · have hw := hw.2.2.2.2.2.2.2.2.2.2.2.2.2.2.2.2.1 h9_16
        refine go_tin X (16 : Int32) dL_law_39 h9_16 (by decide) (by decide) rfl rfl ?_
        refine go_aload_n X 1 dL_law_796 rfl rfl ?_
        refine go_aload_n X 0 dL_law_797 rfl rfl ?_
        refine go_iload X 4 dL_law_798 rfl ?_
        refine go_iconst X dL_law_800 kc_i1 ?_
        refine go_iadd X dL_law_801 ?_
        have hz := hw.1
        have hw := hw.2
        refine go_sld X hX hz dL_law_802 ?_
        refine go_aload_n X 3 dL_law_803 rfl rfl ?_
        refine k_L_byteSent X hl0 hw ⟨by decide, by decide⟩ (Nat.le_of_ble_eq_true rfl) ⟨by rw [hR.1]; omega, by rw [hR.2]; omega⟩ dL_law_804 (fun r213 o214 hw => ?_)
        refine go_istore X dL_law_807 (by decide) rfl ?_
        refine go_aload_n X 3 dL_law_809 rfl rfl ?_
        refine go_aload_n X 1 dL_law_810 rfl rfl ?_
        refine go_iload X 5 dL_law_811 rfl ?_
        refine go_iconst X dL_law_813 kc_i1 ?_
        refine go_iadd X dL_law_814 ?_
        have hz := hw.1
        have hw := hw.2
        refine go_sld X hX hz dL_law_815 ?_
        refine kl_Q_byteSent X hw ⟨by decide, by decide⟩ (Nat.le_of_ble_eq_true rfl) ⟨by rw [hR.1]; omega, by rw [hR.2]; omega⟩ dL_law_816 (fun r215 w216 hw => ?_)
        refine go_istore X dL_law_819 (by decide) rfl ?_
        refine go_aload_n X 4 dL_law_821 rfl rfl ?_
        refine kl_Q_thrown X hw ⟨by decide, by decide⟩ (Nat.le_of_ble_eq_true rfl) ⟨by rw [hR.1]; omega, by rw [hR.2]; omega⟩ dL_law_822 (fun r217 hw => ?_)
        refine go_iload X 1 dL_law_825 rfl ?_
        refine go_icmp_eq X dL_law_827 rfl (fun hc => ?_) (fun hc => ?_)
        · have hw := hw.1 hc
          refine go_iload X 1 dL_law_832 rfl ?_
          refine go_if_ne X dL_law_834 rfl (fun hc => ?_) (fun hc => ?_)
          · have hw := hw.1 hc
            refine go_goto X dL_law_849 rfl ?_
            refine go_iinc X 6 dL_law_852 rfl (ki_3 _) (by decide) rfl ?_
            refine go_goto X dL_law_855 rfl ?_
            refine go_lc [3, 4, 5, 6, 0] rfl ?_
            exact ih X _ _ (by omega) (by omega) _ _ _ _ _ _ _ _ _ _ _ _ _ _ _ _ _ _ _ _ _ _ _ _ _ _ _ _ _ _ _ _ _ _ _ _ _ _ _ _ _ _ _ _ _ _ _ _ _ _ _ _ _ _ _ _ _ _ _ _ _ _ _ _ _ _ _ hw
          · have hw := hw.2 hc
            refine go_aload_n X 5 dL_law_837 rfl rfl ?_
            refine go_iconst X dL_law_838 kc_i0 ?_
            refine go_lald X 13 rfl vi_0_1 dL_law_839 ?_
            refine go_iload X 0 dL_law_840 rfl ?_
            refine go_i2l X dL_law_842 ?_
            refine go_lcmp X dL_law_843 ?_
            refine go_if_eq X dL_law_844 rfl (fun hc => ?_) (fun hc => ?_)
            · have hw := hw.1 hc
              refine go_goto X dL_law_849 rfl ?_
              refine go_iinc X 6 dL_law_852 rfl (ki_3 _) (by decide) rfl ?_
              refine go_goto X dL_law_855 rfl ?_
              refine go_lc [3, 4, 5, 6, 0] rfl ?_
              exact ih X _ _ (by omega) (by omega) _ _ _ _ _ _ _ _ _ _ _ _ _ _ _ _ _ _ _ _ _ _ _ _ _ _ _ _ _ _ _ _ _ _ _ _ _ _ _ _ _ _ _ _ _ _ _ _ _ _ _ _ _ _ _ _ _ _ _ _ _ _ _ _ _ _ _ hw
            · have hw := hw.2 hc
              refine go_iconst X dL_law_847 kc_i0 ?_
              exact False.elim hw
        · have hw := hw.2 hc
          refine go_iconst X dL_law_830 kc_i0 ?_
          exact False.elim hw
      have hw := hw.2.2.2.2.2.2.2.2.2.2.2.2.2.2.2.2.2 h9_0 h9_1 h9_2 h9_3 h9_4 h9_5 h9_6 h9_7 h9_8 h9_9 h9_10 h9_11 h9_12 h9_13 h9_14 h9_15 h9_16
      have t9_0 := go_neT h9_0 (z := 0) (by decide)
      have t9_1 := go_neT h9_1 (z := 1) (by decide)
      have t9_2 := go_neT h9_2 (z := 2) (by decide)
      have t9_3 := go_neT h9_3 (z := 3) (by decide)
      have t9_4 := go_neT h9_4 (z := 4) (by decide)
      have t9_5 := go_neT h9_5 (z := 5) (by decide)
      have t9_6 := go_neT h9_6 (z := 6) (by decide)
      have t9_7 := go_neT h9_7 (z := 7) (by decide)
      have t9_8 := go_neT h9_8 (z := 8) (by decide)
      have t9_9 := go_neT h9_9 (z := 9) (by decide)
      have t9_10 := go_neT h9_10 (z := 10) (by decide)
      have t9_11 := go_neT h9_11 (z := 11) (by decide)
      have t9_12 := go_neT h9_12 (z := 12) (by decide)
      have t9_13 := go_neT h9_13 (z := 13) (by decide)
      have t9_14 := go_neT h9_14 (z := 14) (by decide)
      have t9_15 := go_neT h9_15 (z := 15) (by decide)
      have t9_16 := go_neT h9_16 (z := 16) (by decide)
      refine go_tout X dL_law_39 (by omega) rfl ?_
      refine go_iinc X 4 dL_law_852 rfl (ki_3 _) (by decide) rfl ?_
      refine go_goto X dL_law_855 rfl ?_
      refine go_lc [1, 2, 3, 4, 0] rfl ?_
      exact ih X _ _ (by omega) (by omega) _ _ _ _ _ _ _ _ _ _ _ _ _ _ _ _ _ _ _ _ _ _ _ _ _ _ _ _ _ _ _ _ _ _ _ _ _ _ _ _ _ _ _ _ _ _ _ _ _ _ _ _ _ _ _ _ _ _ _ _ _ _ _ _ _ _ _ hw
