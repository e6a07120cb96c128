set_option maxRecDepth 100000 in
set_option maxHeartbeats 4000000 in
theorem c_K_at {l : Launch} {D : va_G} {ad : Nat → Nat} {s_bk s_ln s_kd s_vl : Nat → Int32} {s_ct : Int32} {k_ce : Nat → Int32} {k_bc : Int32} {m_ra m_up : Nat → Int32} {m_on m_lo m_hi m_mo m_ma m_li : Int32} {n_rg n_sb : Nat → Int32} {n_st n_pl n_z n_n n_h n_c n_en n_so n_co n_sc : Int32} {l_bk l_of l_en : Nat → Int32} {l_ct : Int32} {t_bk t_of t_en : Nat → Int32} {t_ct : Int32} {a1 a2 : Int32} {P : Int32 → Prop} (hw : wp_K_at k_ce k_bc a1 a2 P) : ct_ l yK_at bK_at 3 (some .int) 0 0 D ad [.ref (ad 6), .int a1, .int a2] (wC ad s_bk s_ln s_kd s_vl s_ct k_ce k_bc m_ra m_up m_on m_lo m_hi m_mo m_ma m_li n_rg n_sb n_st n_pl n_z n_n n_h n_c n_en n_so n_co n_sc l_bk l_of l_en l_ct t_bk t_of t_en t_ct) (qi_ D (fun (r : Int32) (_ : Unit) => P r ) (fun _ => (wC ad s_bk s_ln s_kd s_vl s_ct k_ce k_bc m_ra m_up m_on m_lo m_hi m_mo m_ma m_li n_rg n_sb n_st n_pl n_z n_n n_h n_c n_en n_so n_co n_sc l_bk l_of l_en l_ct t_bk t_of t_en t_ct))) := by
  refine ct_of RK (by decide) rfl (Nat.le_of_ble_eq_true rfl) (fun G hl hD X hq => ?_)
  subst hl hD
  show go_ G 0 0 (wC ad s_bk s_ln s_kd s_vl s_ct k_ce k_bc m_ra m_up m_on m_lo m_hi m_mo m_ma m_li n_rg n_sb n_st n_pl n_z n_n n_h n_c n_en n_so n_co n_sc l_bk l_of l_en l_ct t_bk t_of t_en t_ct) 0 [(0, .ref (ad 6)), (1, .int a1), (2, .int a2)] []
  refine go_aload_n X 0 dK_at_0 rfl rfl ?_
  refine gt_K_9 X dK_at_1 ?_
  refine go_iload_n X 1 dK_at_4 rfl rfl ?_
  refine go_aload_n X 0 dK_at_5 rfl rfl ?_
  refine gt_K_15 X dK_at_6 ?_
  refine go_iconst X dK_at_9 kc_i1 ?_
  refine go_isub X dK_at_10 ?_
  refine go_iand X dK_at_11 ?_
  refine go_bipush X dK_at_12 kc_b7 ?_
  refine go_iand X dK_at_14 ?_
  refine go_bipush X dK_at_15 kc_b64 ?_
  refine go_imul X dK_at_17 ?_
  refine go_iload_n X 2 dK_at_18 rfl rfl ?_
  refine go_iadd X dK_at_19 ?_
  have hz := hw.1
  have hw := hw.2
  refine ar_k_ce X hz dK_at_20 ?_
  exact go_ireturn X hq dK_at_21 () hw rfl
theorem k_K_at {G : gt_} {ad : Nat → Nat} {cc : ByteArray} {own : String} {fr lo n cells slots pc index : Nat} {lc : List (Nat × Value)} {rest : List Value} {s_bk s_ln s_kd s_vl : Nat → Int32} {s_ct : Int32} {k_ce : Nat → Int32} {k_bc : Int32} {m_ra m_up : Nat → Int32} {m_on m_lo m_hi m_mo m_ma m_li : Int32} {n_rg n_sb : Nat → Int32} {n_st n_pl n_z n_n n_h n_c n_en n_so n_co n_sc : Int32} {l_bk l_of l_en : Nat → Int32} {l_ct : Int32} {t_bk t_of t_en : Nat → Int32} {t_ct : Int32} {a1 a2 : Int32} {P : Int32 → Prop} (X : cx_ G ad cc own fr lo n) (hw : wp_K_at k_ce k_bc a1 a2 P) (m1 : Cond.methodLink own index yK_at ∈ wS) (hlv : 0 + 1 ≤ fr ∧ 8 + (3 + 11) + 0 ≤ lo) (hrs : (rest.map fun v => v.category).sum ≤ 8) (hcs : cells ≤ (gR_ G).cells ∧ slots ≤ (gR_ G).slots) (d : decode cc pc = .ok (.invokevirtual index, 3))
    (kk : ∀ (r : Int32), P r → go_ G cells slots (wC ad s_bk s_ln s_kd s_vl s_ct k_ce k_bc m_ra m_up m_on m_lo m_hi m_mo m_ma m_li n_rg n_sb n_st n_pl n_z n_n n_h n_c n_en n_so n_co n_sc l_bk l_of l_en l_ct t_bk t_of t_en t_ct) (pc + 3) lc (.int r :: rest)) : go_ G cells slots (wC ad s_bk s_ln s_kd s_vl s_ct k_ce k_bc m_ra m_up m_on m_lo m_hi m_mo m_ma m_li n_rg n_sb n_st n_pl n_z n_n n_h n_c n_en n_so n_co n_sc l_bk l_of l_en l_ct t_bk t_of t_en t_ct) pc lc (.int a2 :: .int a1 :: .ref (ad 6) :: rest) :=
  go_cvi X (c_K_at hw) me_K_at m1 hlv 6 rfl rfl rfl hrs hcs d (fun r _ hp => kk r  hp)
set_option maxRecDepth 100000 in
set_option maxHeartbeats 4000000 in
theorem c_K_headCheck {l : Launch} {D : va_G} {ad : Nat → Nat} {s_bk s_ln s_kd s_vl : Nat → Int32} {s_ct : Int32} {k_ce : Nat → Int32} {k_bc : Int32} {m_ra m_up : Nat → Int32} {m_on m_lo m_hi m_mo m_ma m_li : Int32} {n_rg n_sb : Nat → Int32} {n_st n_pl n_z n_n n_h n_c n_en n_so n_co n_sc : Int32} {l_bk l_of l_en : Nat → Int32} {l_ct : Int32} {t_bk t_of t_en : Nat → Int32} {t_ct : Int32}  {P : Int32 → Prop} (hw : wp_K_headCheck k_ce  P) : ct_ l yK_headCheck bK_headCheck 3 (some .int) 0 0 D ad [.ref (ad 6)] (wC ad s_bk s_ln s_kd s_vl s_ct k_ce k_bc m_ra m_up m_on m_lo m_hi m_mo m_ma m_li n_rg n_sb n_st n_pl n_z n_n n_h n_c n_en n_so n_co n_sc l_bk l_of l_en l_ct t_bk t_of t_en t_ct) (qi_ D (fun (r : Int32) (_ : Unit) => P r ) (fun _ => (wC ad s_bk s_ln s_kd s_vl s_ct k_ce k_bc m_ra m_up m_on m_lo m_hi m_mo m_ma m_li n_rg n_sb n_st n_pl n_z n_n n_h n_c n_en n_so n_co n_sc l_bk l_of l_en l_ct t_bk t_of t_en t_ct))) := by
  refine ct_of RK (by decide) rfl (Nat.le_of_ble_eq_true rfl) (fun G hl hD X hq => ?_)
  subst hl hD
  show go_ G 0 0 (wC ad s_bk s_ln s_kd s_vl s_ct k_ce k_bc m_ra m_up m_on m_lo m_hi m_mo m_ma m_li n_rg n_sb n_st n_pl n_z n_n n_h n_c n_en n_so n_co n_sc l_bk l_of l_en l_ct t_bk t_of t_en t_ct) 0 [(0, .ref (ad 6))] []
  have C4 : ∀ (n9 : Nat) (x1 x2 : Int32), wp_K_headCheck_4 k_ce P n9 x1 x2 → go_ G 0 0 (wC ad s_bk s_ln s_kd s_vl s_ct k_ce k_bc m_ra m_up m_on m_lo m_hi m_mo m_ma m_li n_rg n_sb n_st n_pl n_z n_n n_h n_c n_en n_so n_co n_sc l_bk l_of l_en l_ct t_bk t_of t_en t_ct) 4 [(0, .ref (ad 6)), (1, .int x1), (2, .int x2)] [] := by
    intro n9
    induction n9 with
    | zero =>
      intro x1 x2 hw
      exact False.elim hw
    | succ n9 ih =>
      intro x1 x2 hw
      refine go_iload_n X 2 dK_headCheck_4 rfl rfl ?_
      refine go_bipush X dK_headCheck_5 kc_b12 ?_
      refine go_icmp_gt X dK_headCheck_7 rfl (fun hc => ?_) (fun hc => ?_)
      · have hw := hw.1 hc
        refine go_iload_n X 1 dK_headCheck_31 rfl rfl ?_
        exact go_ireturn X hq dK_headCheck_32 () hw rfl
      · have hw := hw.2 hc
        refine go_iload_n X 1 dK_headCheck_10 rfl rfl ?_
        refine go_aload_n X 0 dK_headCheck_11 rfl rfl ?_
        refine gt_K_9 X dK_headCheck_12 ?_
        refine go_iload_n X 2 dK_headCheck_15 rfl rfl ?_
        have hz := hw.1
        have hw := hw.2
        refine ar_k_ce X hz dK_headCheck_16 ?_
        refine go_isub X dK_headCheck_17 ?_
        refine go_iconst X dK_headCheck_18 kc_i1 ?_
        refine go_isub X dK_headCheck_19 ?_
        refine go_sipush X dK_headCheck_20 kc_s255 ?_
        refine go_iand X dK_headCheck_23 ?_
        refine go_nm (fun z1 ez1 => ?_)
        have hw := hw z1 ez1
        refine go_istore_n X dK_headCheck_24 rfl (by decide) rfl ?_
        refine go_iinc X 2 dK_headCheck_25 rfl (ki_1 _) (by decide) rfl ?_
        refine go_goto X dK_headCheck_28 rfl ?_
        refine go_lc [2, 1, 0] rfl ?_
        exact ih _ _ hw
  refine go_iconst X dK_headCheck_0 kc_i0 ?_
  refine go_istore_n X dK_headCheck_1 rfl (by decide) rfl ?_
  refine go_iconst X dK_headCheck_2 kc_i2 ?_
  refine go_istore_n X dK_headCheck_3 rfl (by decide) rfl ?_
  refine go_lc [2, 1, 0] rfl ?_
  obtain ⟨j9, hw⟩ := hw
  exact C4 j9 _ _ hw
theorem k_K_headCheck {G : gt_} {ad : Nat → Nat} {cc : ByteArray} {own : String} {fr lo n cells slots pc index : Nat} {lc : List (Nat × Value)} {rest : List Value} {s_bk s_ln s_kd s_vl : Nat → Int32} {s_ct : Int32} {k_ce : Nat → Int32} {k_bc : Int32} {m_ra m_up : Nat → Int32} {m_on m_lo m_hi m_mo m_ma m_li : Int32} {n_rg n_sb : Nat → Int32} {n_st n_pl n_z n_n n_h n_c n_en n_so n_co n_sc : Int32} {l_bk l_of l_en : Nat → Int32} {l_ct : Int32} {t_bk t_of t_en : Nat → Int32} {t_ct : Int32}  {P : Int32 → Prop} (X : cx_ G ad cc own fr lo n) (hw : wp_K_headCheck k_ce  P) (m1 : Cond.methodLink own index yK_headCheck ∈ wS) (hlv : 0 + 1 ≤ fr ∧ 8 + (3 + 11) + 0 ≤ lo) (hrs : (rest.map fun v => v.category).sum ≤ 8) (hcs : cells ≤ (gR_ G).cells ∧ slots ≤ (gR_ G).slots) (d : decode cc pc = .ok (.invokevirtual index, 3))
    (kk : ∀ (r : Int32), P r → go_ G cells slots (wC ad s_bk s_ln s_kd s_vl s_ct k_ce k_bc m_ra m_up m_on m_lo m_hi m_mo m_ma m_li n_rg n_sb n_st n_pl n_z n_n n_h n_c n_en n_so n_co n_sc l_bk l_of l_en l_ct t_bk t_of t_en t_ct) (pc + 3) lc (.int r :: rest)) : go_ G cells slots (wC ad s_bk s_ln s_kd s_vl s_ct k_ce k_bc m_ra m_up m_on m_lo m_hi m_mo m_ma m_li n_rg n_sb n_st n_pl n_z n_n n_h n_c n_en n_so n_co n_sc l_bk l_of l_en l_ct t_bk t_of t_en t_ct) pc lc (.ref (ad 6) :: rest) :=
  go_cvi X (c_K_headCheck hw) me_K_headCheck m1 hlv 6 rfl rfl rfl hrs hcs d (fun r _ hp => kk r  hp)
set_option maxRecDepth 100000 in
set_option maxHeartbeats 4000000 in
theorem c_K_isMade {l : Launch} {D : va_G} {ad : Nat → Nat} {s_bk s_ln s_kd s_vl : Nat → Int32} {s_ct : Int32} {k_ce : Nat → Int32} {k_bc : Int32} {m_ra m_up : Nat → Int32} {m_on m_lo m_hi m_mo m_ma m_li : Int32} {n_rg n_sb : Nat → Int32} {n_st n_pl n_z n_n n_h n_c n_en n_so n_co n_sc : Int32} {l_bk l_of l_en : Nat → Int32} {l_ct : Int32} {t_bk t_of t_en : Nat → Int32} {t_ct : Int32}  {P : Int32 → Prop} (hw : wp_K_isMade k_bc  P) : ct_ l yK_isMade bK_isMade 1 (some .boolean) 0 0 D ad [.ref (ad 6)] (wC ad s_bk s_ln s_kd s_vl s_ct k_ce k_bc m_ra m_up m_on m_lo m_hi m_mo m_ma m_li n_rg n_sb n_st n_pl n_z n_n n_h n_c n_en n_so n_co n_sc l_bk l_of l_en l_ct t_bk t_of t_en t_ct) (qi_ D (fun (r : Int32) (_ : Unit) => P r ) (fun _ => (wC ad s_bk s_ln s_kd s_vl s_ct k_ce k_bc m_ra m_up m_on m_lo m_hi m_mo m_ma m_li n_rg n_sb n_st n_pl n_z n_n n_h n_c n_en n_so n_co n_sc l_bk l_of l_en l_ct t_bk t_of t_en t_ct))) := by
  refine ct_of RK (by decide) rfl (Nat.le_of_ble_eq_true rfl) (fun G hl hD X hq => ?_)
  subst hl hD
  show go_ G 0 0 (wC ad s_bk s_ln s_kd s_vl s_ct k_ce k_bc m_ra m_up m_on m_lo m_hi m_mo m_ma m_li n_rg n_sb n_st n_pl n_z n_n n_h n_c n_en n_so n_co n_sc l_bk l_of l_en l_ct t_bk t_of t_en t_ct) 0 [(0, .ref (ad 6))] []
  refine go_aload_n X 0 dK_isMade_0 rfl rfl ?_
  refine gt_K_15 X dK_isMade_1 ?_
  refine go_if_eq X dK_isMade_4 rfl (fun hc => ?_) (fun hc => ?_)
  · have hw := hw.1 hc
    refine go_iconst X dK_isMade_11 kc_i0 ?_
    exact go_zreturn X hq dK_isMade_12 (Or.inl rfl) () hw rfl
  · have hw := hw.2 hc
    refine go_iconst X dK_isMade_7 kc_i1 ?_
    refine go_goto X dK_isMade_8 rfl ?_
    exact go_zreturn X hq dK_isMade_12 (Or.inr rfl) () hw rfl
theorem k_K_isMade {G : gt_} {ad : Nat → Nat} {cc : ByteArray} {own : String} {fr lo n cells slots pc index : Nat} {lc : List (Nat × Value)} {rest : List Value} {s_bk s_ln s_kd s_vl : Nat → Int32} {s_ct : Int32} {k_ce : Nat → Int32} {k_bc : Int32} {m_ra m_up : Nat → Int32} {m_on m_lo m_hi m_mo m_ma m_li : Int32} {n_rg n_sb : Nat → Int32} {n_st n_pl n_z n_n n_h n_c n_en n_so n_co n_sc : Int32} {l_bk l_of l_en : Nat → Int32} {l_ct : Int32} {t_bk t_of t_en : Nat → Int32} {t_ct : Int32}  {P : Int32 → Prop} (X : cx_ G ad cc own fr lo n) (hw : wp_K_isMade k_bc  P) (m1 : Cond.methodLink own index yK_isMade ∈ wS) (hlv : 0 + 1 ≤ fr ∧ 8 + (1 + 11) + 0 ≤ lo) (hrs : (rest.map fun v => v.category).sum ≤ 8) (hcs : cells ≤ (gR_ G).cells ∧ slots ≤ (gR_ G).slots) (d : decode cc pc = .ok (.invokevirtual index, 3))
    (kk : ∀ (r : Int32), P r → go_ G cells slots (wC ad s_bk s_ln s_kd s_vl s_ct k_ce k_bc m_ra m_up m_on m_lo m_hi m_mo m_ma m_li n_rg n_sb n_st n_pl n_z n_n n_h n_c n_en n_so n_co n_sc l_bk l_of l_en l_ct t_bk t_of t_en t_ct) (pc + 3) lc (.int r :: rest)) : go_ G cells slots (wC ad s_bk s_ln s_kd s_vl s_ct k_ce k_bc m_ra m_up m_on m_lo m_hi m_mo m_ma m_li n_rg n_sb n_st n_pl n_z n_n n_h n_c n_en n_so n_co n_sc l_bk l_of l_en l_ct t_bk t_of t_en t_ct) pc lc (.ref (ad 6) :: rest) :=
  go_cvi X (c_K_isMade hw) me_K_isMade m1 hlv 6 rfl rfl rfl hrs hcs d (fun r _ hp => kk r  hp)
set_option maxRecDepth 100000 in
set_option maxHeartbeats 4000000 in
theorem c_K_size {l : Launch} {D : va_G} {ad : Nat → Nat} {s_bk s_ln s_kd s_vl : Nat → Int32} {s_ct : Int32} {k_ce : Nat → Int32} {k_bc : Int32} {m_ra m_up : Nat → Int32} {m_on m_lo m_hi m_mo m_ma m_li : Int32} {n_rg n_sb : Nat → Int32} {n_st n_pl n_z n_n n_h n_c n_en n_so n_co n_sc : Int32} {l_bk l_of l_en : Nat → Int32} {l_ct : Int32} {t_bk t_of t_en : Nat → Int32} {t_ct : Int32}  {P : Int32 → Prop} (hw : wp_K_size k_bc  P) : ct_ l yK_size bK_size 1 (some .int) 0 0 D ad [.ref (ad 6)] (wC ad s_bk s_ln s_kd s_vl s_ct k_ce k_bc m_ra m_up m_on m_lo m_hi m_mo m_ma m_li n_rg n_sb n_st n_pl n_z n_n n_h n_c n_en n_so n_co n_sc l_bk l_of l_en l_ct t_bk t_of t_en t_ct) (qi_ D (fun (r : Int32) (_ : Unit) => P r ) (fun _ => (wC ad s_bk s_ln s_kd s_vl s_ct k_ce k_bc m_ra m_up m_on m_lo m_hi m_mo m_ma m_li n_rg n_sb n_st n_pl n_z n_n n_h n_c n_en n_so n_co n_sc l_bk l_of l_en l_ct t_bk t_of t_en t_ct))) := by
  refine ct_of RK (by decide) rfl (Nat.le_of_ble_eq_true rfl) (fun G hl hD X hq => ?_)
  subst hl hD
  show go_ G 0 0 (wC ad s_bk s_ln s_kd s_vl s_ct k_ce k_bc m_ra m_up m_on m_lo m_hi m_mo m_ma m_li n_rg n_sb n_st n_pl n_z n_n n_h n_c n_en n_so n_co n_sc l_bk l_of l_en l_ct t_bk t_of t_en t_ct) 0 [(0, .ref (ad 6))] []
  refine go_aload_n X 0 dK_size_0 rfl rfl ?_
  refine gt_K_15 X dK_size_1 ?_
  refine go_bipush X dK_size_4 kc_b64 ?_
  refine go_imul X dK_size_6 ?_
  exact go_ireturn X hq dK_size_7 () hw rfl
theorem k_K_size {G : gt_} {ad : Nat → Nat} {cc : ByteArray} {own : String} {fr lo n cells slots pc index : Nat} {lc : List (Nat × Value)} {rest : List Value} {s_bk s_ln s_kd s_vl : Nat → Int32} {s_ct : Int32} {k_ce : Nat → Int32} {k_bc : Int32} {m_ra m_up : Nat → Int32} {m_on m_lo m_hi m_mo m_ma m_li : Int32} {n_rg n_sb : Nat → Int32} {n_st n_pl n_z n_n n_h n_c n_en n_so n_co n_sc : Int32} {l_bk l_of l_en : Nat → Int32} {l_ct : Int32} {t_bk t_of t_en : Nat → Int32} {t_ct : Int32}  {P : Int32 → Prop} (X : cx_ G ad cc own fr lo n) (hw : wp_K_size k_bc  P) (m1 : Cond.methodLink own index yK_size ∈ wS) (hlv : 0 + 1 ≤ fr ∧ 8 + (1 + 11) + 0 ≤ lo) (hrs : (rest.map fun v => v.category).sum ≤ 8) (hcs : cells ≤ (gR_ G).cells ∧ slots ≤ (gR_ G).slots) (d : decode cc pc = .ok (.invokevirtual index, 3))
    (kk : ∀ (r : Int32), P r → go_ G cells slots (wC ad s_bk s_ln s_kd s_vl s_ct k_ce k_bc m_ra m_up m_on m_lo m_hi m_mo m_ma m_li n_rg n_sb n_st n_pl n_z n_n n_h n_c n_en n_so n_co n_sc l_bk l_of l_en l_ct t_bk t_of t_en t_ct) (pc + 3) lc (.int r :: rest)) : go_ G cells slots (wC ad s_bk s_ln s_kd s_vl s_ct k_ce k_bc m_ra m_up m_on m_lo m_hi m_mo m_ma m_li n_rg n_sb n_st n_pl n_z n_n n_h n_c n_en n_so n_co n_sc l_bk l_of l_en l_ct t_bk t_of t_en t_ct) pc lc (.ref (ad 6) :: rest) :=
  go_cvi X (c_K_size hw) me_K_size m1 hlv 6 rfl rfl rfl hrs hcs d (fun r _ hp => kk r  hp)
set_option maxRecDepth 100000 in
set_option maxHeartbeats 4000000 in
theorem c_K_sizeCode {l : Launch} {D : va_G} {ad : Nat → Nat} {s_bk s_ln s_kd s_vl : Nat → Int32} {s_ct : Int32} {k_ce : Nat → Int32} {k_bc : Int32} {m_ra m_up : Nat → Int32} {m_on m_lo m_hi m_mo m_ma m_li : Int32} {n_rg n_sb : Nat → Int32} {n_st n_pl n_z n_n n_h n_c n_en n_so n_co n_sc : Int32} {l_bk l_of l_en : Nat → Int32} {l_ct : Int32} {t_bk t_of t_en : Nat → Int32} {t_ct : Int32}  {P : Int32 → Prop} (hw : wp_K_sizeCode k_bc  P) : ct_ l yK_sizeCode bK_sizeCode 1 (some .int) 0 0 D ad [.ref (ad 6)] (wC ad s_bk s_ln s_kd s_vl s_ct k_ce k_bc m_ra m_up m_on m_lo m_hi m_mo m_ma m_li n_rg n_sb n_st n_pl n_z n_n n_h n_c n_en n_so n_co n_sc l_bk l_of l_en l_ct t_bk t_of t_en t_ct) (qi_ D (fun (r : Int32) (_ : Unit) => P r ) (fun _ => (wC ad s_bk s_ln s_kd s_vl s_ct k_ce k_bc m_ra m_up m_on m_lo m_hi m_mo m_ma m_li n_rg n_sb n_st n_pl n_z n_n n_h n_c n_en n_so n_co n_sc l_bk l_of l_en l_ct t_bk t_of t_en t_ct))) := by
  refine ct_of RK (by decide) rfl (Nat.le_of_ble_eq_true rfl) (fun G hl hD X hq => ?_)
  subst hl hD
  show go_ G 0 0 (wC ad s_bk s_ln s_kd s_vl s_ct k_ce k_bc m_ra m_up m_on m_lo m_hi m_mo m_ma m_li n_rg n_sb n_st n_pl n_z n_n n_h n_c n_en n_so n_co n_sc l_bk l_of l_en l_ct t_bk t_of t_en t_ct) 0 [(0, .ref (ad 6))] []
  refine go_aload_n X 0 dK_sizeCode_0 rfl rfl ?_
  refine gt_K_15 X dK_sizeCode_1 ?_
  refine go_bipush X dK_sizeCode_4 kc_b8 ?_
  refine go_icmp_ne X dK_sizeCode_6 rfl (fun hc => ?_) (fun hc => ?_)
  · have hw := hw.1 hc
    refine go_aload_n X 0 dK_sizeCode_11 rfl rfl ?_
    refine gt_K_15 X dK_sizeCode_12 ?_
    refine go_iconst X dK_sizeCode_15 kc_i4 ?_
    refine go_icmp_ne X dK_sizeCode_16 rfl (fun hc => ?_) (fun hc => ?_)
    · have hw := hw.1 hc
      refine go_iconst X dK_sizeCode_23 kc_i0 ?_
      exact go_ireturn X hq dK_sizeCode_24 () hw rfl
    · have hw := hw.2 hc
      refine go_iconst X dK_sizeCode_19 kc_i1 ?_
      refine go_goto X dK_sizeCode_20 rfl ?_
      exact go_ireturn X hq dK_sizeCode_24 () hw rfl
  · have hw := hw.2 hc
    refine go_iconst X dK_sizeCode_9 kc_i2 ?_
    exact go_ireturn X hq dK_sizeCode_10 () hw rfl
theorem k_K_sizeCode {G : gt_} {ad : Nat → Nat} {cc : ByteArray} {own : String} {fr lo n cells slots pc index : Nat} {lc : List (Nat × Value)} {rest : List Value} {s_bk s_ln s_kd s_vl : Nat → Int32} {s_ct : Int32} {k_ce : Nat → Int32} {k_bc : Int32} {m_ra m_up : Nat → Int32} {m_on m_lo m_hi m_mo m_ma m_li : Int32} {n_rg n_sb : Nat → Int32} {n_st n_pl n_z n_n n_h n_c n_en n_so n_co n_sc : Int32} {l_bk l_of l_en : Nat → Int32} {l_ct : Int32} {t_bk t_of t_en : Nat → Int32} {t_ct : Int32}  {P : Int32 → Prop} (X : cx_ G ad cc own fr lo n) (hw : wp_K_sizeCode k_bc  P) (m1 : Cond.methodLink own index yK_sizeCode ∈ wS) (hlv : 0 + 1 ≤ fr ∧ 8 + (1 + 11) + 0 ≤ lo) (hrs : (rest.map fun v => v.category).sum ≤ 8) (hcs : cells ≤ (gR_ G).cells ∧ slots ≤ (gR_ G).slots) (d : decode cc pc = .ok (.invokevirtual index, 3))
    (kk : ∀ (r : Int32), P r → go_ G cells slots (wC ad s_bk s_ln s_kd s_vl s_ct k_ce k_bc m_ra m_up m_on m_lo m_hi m_mo m_ma m_li n_rg n_sb n_st n_pl n_z n_n n_h n_c n_en n_so n_co n_sc l_bk l_of l_en l_ct t_bk t_of t_en t_ct) (pc + 3) lc (.int r :: rest)) : go_ G cells slots (wC ad s_bk s_ln s_kd s_vl s_ct k_ce k_bc m_ra m_up m_on m_lo m_hi m_mo m_ma m_li n_rg n_sb n_st n_pl n_z n_n n_h n_c n_en n_so n_co n_sc l_bk l_of l_en l_ct t_bk t_of t_en t_ct) pc lc (.ref (ad 6) :: rest) :=
  go_cvi X (c_K_sizeCode hw) me_K_sizeCode m1 hlv 6 rfl rfl rfl hrs hcs d (fun r _ hp => kk r  hp)
set_option maxRecDepth 100000 in
set_option maxHeartbeats 4000000 in
theorem c_M_askingLine {l : Launch} {D : va_G} {ad : Nat → Nat} {s_bk s_ln s_kd s_vl : Nat → Int32} {s_ct : Int32} {k_ce : Nat → Int32} {k_bc : Int32} {m_ra m_up : Nat → Int32} {m_on m_lo m_hi m_mo m_ma m_li : Int32} {n_rg n_sb : Nat → Int32} {n_st n_pl n_z n_n n_h n_c n_en n_so n_co n_sc : Int32} {l_bk l_of l_en : Nat → Int32} {l_ct : Int32} {t_bk t_of t_en : Nat → Int32} {t_ct : Int32}  {P : Int32 → Prop} (hw : wp_M_askingLine m_ma m_li  P) : ct_ l yM_askingLine bM_askingLine 2 (some .int) 0 0 D ad [.ref (ad 8)] (wC ad s_bk s_ln s_kd s_vl s_ct k_ce k_bc m_ra m_up m_on m_lo m_hi m_mo m_ma m_li n_rg n_sb n_st n_pl n_z n_n n_h n_c n_en n_so n_co n_sc l_bk l_of l_en l_ct t_bk t_of t_en t_ct) (qi_ D (fun (r : Int32) (_ : Unit) => P r ) (fun _ => (wC ad s_bk s_ln s_kd s_vl s_ct k_ce k_bc m_ra m_up m_on m_lo m_hi m_mo m_ma m_li n_rg n_sb n_st n_pl n_z n_n n_h n_c n_en n_so n_co n_sc l_bk l_of l_en l_ct t_bk t_of t_en t_ct))) := by
  refine ct_of RM (by decide) rfl (Nat.le_of_ble_eq_true rfl) (fun G hl hD X hq => ?_)
  subst hl hD
  show go_ G 0 0 (wC ad s_bk s_ln s_kd s_vl s_ct k_ce k_bc m_ra m_up m_on m_lo m_hi m_mo m_ma m_li n_rg n_sb n_st n_pl n_z n_n n_h n_c n_en n_so n_co n_sc l_bk l_of l_en l_ct t_bk t_of t_en t_ct) 0 [(0, .ref (ad 8))] []
  have C2 : ∀ (n9 : Nat) (x1 : Int32), wp_M_askingLine_2 m_ma m_li P n9 x1 → go_ G 0 0 (wC ad s_bk s_ln s_kd s_vl s_ct k_ce k_bc m_ra m_up m_on m_lo m_hi m_mo m_ma m_li n_rg n_sb n_st n_pl n_z n_n n_h n_c n_en n_so n_co n_sc l_bk l_of l_en l_ct t_bk t_of t_en t_ct) 2 [(0, .ref (ad 8)), (1, .int x1)] [] := by
    intro n9
    induction n9 with
    | zero =>
      intro x1 hw
      exact False.elim hw
    | succ n9 ih =>
      intro x1 hw
      refine go_iload_n X 1 dM_askingLine_2 rfl rfl ?_
      refine go_iconst X dM_askingLine_3 kc_i4 ?_
      refine go_icmp_ge X dM_askingLine_4 rfl (fun hc => ?_) (fun hc => ?_)
      · have hw := hw.1 hc
        refine go_iconst X dM_askingLine_31 kc_im1 ?_
        exact go_ireturn X hq dM_askingLine_32 () hw rfl
      · have hw := hw.2 hc
        refine go_aload_n X 0 dM_askingLine_7 rfl rfl ?_
        refine gt_M_39 X dM_askingLine_8 ?_
        refine go_aload_n X 0 dM_askingLine_11 rfl rfl ?_
        refine gt_M_36 X dM_askingLine_12 ?_
        refine go_iand X dM_askingLine_15 ?_
        refine go_iconst X dM_askingLine_16 kc_i1 ?_
        refine go_iload_n X 1 dM_askingLine_17 rfl rfl ?_
        refine go_ishl X dM_askingLine_18 ?_
        refine go_iand X dM_askingLine_19 ?_
        refine go_if_eq X dM_askingLine_20 rfl (fun hc => ?_) (fun hc => ?_)
        · have hw := hw.1 hc
          refine go_iinc X 1 dM_askingLine_25 rfl (ki_1 _) (by decide) rfl ?_
          refine go_goto X dM_askingLine_28 rfl ?_
          refine go_lc [1, 0] rfl ?_
          exact ih _ hw
        · have hw := hw.2 hc
          refine go_iload_n X 1 dM_askingLine_23 rfl rfl ?_
          exact go_ireturn X hq dM_askingLine_24 () hw rfl
  refine go_iconst X dM_askingLine_0 kc_i0 ?_
  refine go_istore_n X dM_askingLine_1 rfl (by decide) rfl ?_
  refine go_lc [1, 0] rfl ?_
  obtain ⟨j9, hw⟩ := hw
  exact C2 j9 _ hw
theorem k_M_askingLine {G : gt_} {ad : Nat → Nat} {cc : ByteArray} {own : String} {fr lo n cells slots pc index : Nat} {lc : List (Nat × Value)} {rest : List Value} {s_bk s_ln s_kd s_vl : Nat → Int32} {s_ct : Int32} {k_ce : Nat → Int32} {k_bc : Int32} {m_ra m_up : Nat → Int32} {m_on m_lo m_hi m_mo m_ma m_li : Int32} {n_rg n_sb : Nat → Int32} {n_st n_pl n_z n_n n_h n_c n_en n_so n_co n_sc : Int32} {l_bk l_of l_en : Nat → Int32} {l_ct : Int32} {t_bk t_of t_en : Nat → Int32} {t_ct : Int32}  {P : Int32 → Prop} (X : cx_ G ad cc own fr lo n) (hw : wp_M_askingLine m_ma m_li  P) (m1 : Cond.methodLink own index yM_askingLine ∈ wS) (hlv : 0 + 1 ≤ fr ∧ 8 + (2 + 11) + 0 ≤ lo) (hrs : (rest.map fun v => v.category).sum ≤ 8) (hcs : cells ≤ (gR_ G).cells ∧ slots ≤ (gR_ G).slots) (d : decode cc pc = .ok (.invokevirtual index, 3))
    (kk : ∀ (r : Int32), P r → go_ G cells slots (wC ad s_bk s_ln s_kd s_vl s_ct k_ce k_bc m_ra m_up m_on m_lo m_hi m_mo m_ma m_li n_rg n_sb n_st n_pl n_z n_n n_h n_c n_en n_so n_co n_sc l_bk l_of l_en l_ct t_bk t_of t_en t_ct) (pc + 3) lc (.int r :: rest)) : go_ G cells slots (wC ad s_bk s_ln s_kd s_vl s_ct k_ce k_bc m_ra m_up m_on m_lo m_hi m_mo m_ma m_li n_rg n_sb n_st n_pl n_z n_n n_h n_c n_en n_so n_co n_sc l_bk l_of l_en l_ct t_bk t_of t_en t_ct) pc lc (.ref (ad 8) :: rest) :=
  go_cvi X (c_M_askingLine hw) me_M_askingLine m1 hlv 8 rfl rfl rfl hrs hcs d (fun r _ hp => kk r  hp)
set_option maxRecDepth 100000 in
set_option maxHeartbeats 4000000 in
theorem c_M_begin {l : Launch} {D : va_G} {ad : Nat → Nat} {s_bk s_ln s_kd s_vl : Nat → Int32} {s_ct : Int32} {k_ce : Nat → Int32} {k_bc : Int32} {m_ra m_up : Nat → Int32} {m_on m_lo m_hi m_mo m_ma m_li : Int32} {n_rg n_sb : Nat → Int32} {n_st n_pl n_z n_n n_h n_c n_en n_so n_co n_sc : Int32} {l_bk l_of l_en : Nat → Int32} {l_ct : Int32} {t_bk t_of t_en : Nat → Int32} {t_ct : Int32}  {P : (Nat → Int32) → (Nat → Int32) → (Int32) → (Int32) → (Int32) → (Int32) → (Int32) → (Int32) → Prop} (hw : wp_M_begin m_ra m_up m_on m_lo m_hi m_mo m_ma m_li  P) : ct_ l yM_begin bM_begin 2 none 0 0 D ad [.ref (ad 8)] (wC ad s_bk s_ln s_kd s_vl s_ct k_ce k_bc m_ra m_up m_on m_lo m_hi m_mo m_ma m_li n_rg n_sb n_st n_pl n_z n_n n_h n_c n_en n_so n_co n_sc l_bk l_of l_en l_ct t_bk t_of t_en t_ct) (qv_ D (fun (u : (Nat → Int32) × (Nat → Int32) × (Int32) × (Int32) × (Int32) × (Int32) × (Int32) × (Int32)) => P u.1 u.2.1 u.2.2.1 u.2.2.2.1 u.2.2.2.2.1 u.2.2.2.2.2.1 u.2.2.2.2.2.2.1 u.2.2.2.2.2.2.2) (fun u => wC ad s_bk s_ln s_kd s_vl s_ct k_ce k_bc u.1 u.2.1 u.2.2.1 u.2.2.2.1 u.2.2.2.2.1 u.2.2.2.2.2.1 u.2.2.2.2.2.2.1 u.2.2.2.2.2.2.2 n_rg n_sb n_st n_pl n_z n_n n_h n_c n_en n_so n_co n_sc l_bk l_of l_en l_ct t_bk t_of t_en t_ct)) := by
  refine ct_of RM (by decide) rfl (Nat.le_of_ble_eq_true rfl) (fun G hl hD X hq => ?_)
  subst hl hD
  show go_ G 0 0 (wC ad s_bk s_ln s_kd s_vl s_ct k_ce k_bc m_ra m_up m_on m_lo m_hi m_mo m_ma m_li n_rg n_sb n_st n_pl n_z n_n n_h n_c n_en n_so n_co n_sc l_bk l_of l_en l_ct t_bk t_of t_en t_ct) 0 [(0, .ref (ad 8))] []
  have C26 : ∀ (n9 : Nat) (m_ra m_up : Nat → Int32) (m_on m_lo m_hi m_mo m_ma m_li x1 : Int32), wp_M_begin_26 P n9 m_ra m_up m_on m_lo m_hi m_mo m_ma m_li x1 → go_ G 0 0 (wC ad s_bk s_ln s_kd s_vl s_ct k_ce k_bc m_ra m_up m_on m_lo m_hi m_mo m_ma m_li n_rg n_sb n_st n_pl n_z n_n n_h n_c n_en n_so n_co n_sc l_bk l_of l_en l_ct t_bk t_of t_en t_ct) 26 [(0, .ref (ad 8)), (1, .int x1)] [] := by
    intro n9
    induction n9 with
    | zero =>
      intro m_ra m_up m_on m_lo m_hi m_mo m_ma m_li x1 hw
      exact False.elim hw
    | succ n9 ih =>
      intro m_ra m_up m_on m_lo m_hi m_mo m_ma m_li x1 hw
      refine go_iload_n X 1 dM_begin_26 rfl rfl ?_
      refine go_aload_n X 0 dM_begin_27 rfl rfl ?_
      refine gt_M_15 X dM_begin_28 ?_
      refine go_alen X 10 rfl al_62 dM_begin_31 ?_
      refine go_icmp_ge X dM_begin_32 rfl (fun hc => ?_) (fun hc => ?_)
      · have hw := hw.1 hc
        refine go_aload_n X 0 dM_begin_48 rfl rfl ?_
        refine go_iconst X dM_begin_49 kc_i0 ?_
        refine pt_M_22 X (Or.inl rfl) dM_begin_50 ?_
        refine go_aload_n X 0 dM_begin_53 rfl rfl ?_
        refine go_iconst X dM_begin_54 kc_i1 ?_
        refine pt_M_26 X dM_begin_55 ?_
        refine go_aload_n X 0 dM_begin_58 rfl rfl ?_
        refine go_iconst X dM_begin_59 kc_i0 ?_
        refine pt_M_30 X dM_begin_60 ?_
        refine go_aload_n X 0 dM_begin_63 rfl rfl ?_
        refine go_iconst X dM_begin_64 kc_i0 ?_
        refine pt_M_33 X dM_begin_65 ?_
        refine go_aload_n X 0 dM_begin_68 rfl rfl ?_
        refine go_iconst X dM_begin_69 kc_i0 ?_
        refine pt_M_36 X dM_begin_70 ?_
        refine go_aload_n X 0 dM_begin_73 rfl rfl ?_
        refine go_iconst X dM_begin_74 kc_i0 ?_
        refine pt_M_39 X dM_begin_75 ?_
        exact go_vreturn X hq dM_begin_78 (m_ra, m_up, (0 : Int32), (1 : Int32), (0 : Int32), (0 : Int32), (0 : Int32), (0 : Int32)) hw rfl
      · have hw := hw.2 hc
        refine go_aload_n X 0 dM_begin_35 rfl rfl ?_
        refine gt_M_15 X dM_begin_36 ?_
        refine go_iload_n X 1 dM_begin_39 rfl rfl ?_
        refine go_iconst X dM_begin_40 kc_i0 ?_
        have hz := hw.1
        have hw := hw.2
        refine as_m_up X hz dM_begin_41 ?_
        refine go_iinc X 1 dM_begin_42 rfl (ki_1 _) (by decide) rfl ?_
        refine go_goto X dM_begin_45 rfl ?_
        refine go_lc [1, 0] rfl ?_
        exact ih _ _ _ _ _ _ _ _ _ hw
  have C2 : ∀ (n9 : Nat) (m_ra m_up : Nat → Int32) (m_on m_lo m_hi m_mo m_ma m_li x1 : Int32), wp_M_begin_2 P n9 m_ra m_up m_on m_lo m_hi m_mo m_ma m_li x1 → go_ G 0 0 (wC ad s_bk s_ln s_kd s_vl s_ct k_ce k_bc m_ra m_up m_on m_lo m_hi m_mo m_ma m_li n_rg n_sb n_st n_pl n_z n_n n_h n_c n_en n_so n_co n_sc l_bk l_of l_en l_ct t_bk t_of t_en t_ct) 2 [(0, .ref (ad 8)), (1, .int x1)] [] := by
    intro n9
    induction n9 with
    | zero =>
      intro m_ra m_up m_on m_lo m_hi m_mo m_ma m_li x1 hw
      exact False.elim hw
    | succ n9 ih =>
      intro m_ra m_up m_on m_lo m_hi m_mo m_ma m_li x1 hw
      refine go_iload_n X 1 dM_begin_2 rfl rfl ?_
      refine go_aload_n X 0 dM_begin_3 rfl rfl ?_
      refine gt_M_9 X dM_begin_4 ?_
      refine go_alen X 9 rfl al_128 dM_begin_7 ?_
      refine go_icmp_ge X dM_begin_8 rfl (fun hc => ?_) (fun hc => ?_)
      · have hw := hw.1 hc
        refine go_iconst X dM_begin_24 kc_i0 ?_
        refine go_istore_n X dM_begin_25 rfl (by decide) rfl ?_
        refine go_lc [1, 0] rfl ?_
        obtain ⟨j9, hw⟩ := hw
        exact C26 j9 _ _ _ _ _ _ _ _ _ hw
      · have hw := hw.2 hc
        refine go_aload_n X 0 dM_begin_11 rfl rfl ?_
        refine gt_M_9 X dM_begin_12 ?_
        refine go_iload_n X 1 dM_begin_15 rfl rfl ?_
        refine go_iconst X dM_begin_16 kc_i0 ?_
        have hz := hw.1
        have hw := hw.2
        refine as_m_ra X hz dM_begin_17 ?_
        refine go_iinc X 1 dM_begin_18 rfl (ki_1 _) (by decide) rfl ?_
        refine go_goto X dM_begin_21 rfl ?_
        refine go_lc [1, 0] rfl ?_
        exact ih _ _ _ _ _ _ _ _ _ hw
  refine go_iconst X dM_begin_0 kc_i0 ?_
  refine go_istore_n X dM_begin_1 rfl (by decide) rfl ?_
  refine go_lc [1, 0] rfl ?_
  obtain ⟨j9, hw⟩ := hw
  exact C2 j9 _ _ _ _ _ _ _ _ _ hw
theorem k_M_begin {G : gt_} {ad : Nat → Nat} {cc : ByteArray} {own : String} {fr lo n cells slots pc index : Nat} {lc : List (Nat × Value)} {rest : List Value} {s_bk s_ln s_kd s_vl : Nat → Int32} {s_ct : Int32} {k_ce : Nat → Int32} {k_bc : Int32} {m_ra m_up : Nat → Int32} {m_on m_lo m_hi m_mo m_ma m_li : Int32} {n_rg n_sb : Nat → Int32} {n_st n_pl n_z n_n n_h n_c n_en n_so n_co n_sc : Int32} {l_bk l_of l_en : Nat → Int32} {l_ct : Int32} {t_bk t_of t_en : Nat → Int32} {t_ct : Int32}  {P : (Nat → Int32) → (Nat → Int32) → (Int32) → (Int32) → (Int32) → (Int32) → (Int32) → (Int32) → Prop} (X : cx_ G ad cc own fr lo n) (hw : wp_M_begin m_ra m_up m_on m_lo m_hi m_mo m_ma m_li  P) (m1 : Cond.methodLink own index yM_begin ∈ wS) (hlv : 0 + 1 ≤ fr ∧ 8 + (2 + 11) + 0 ≤ lo) (hrs : (rest.map fun v => v.category).sum ≤ 8) (hcs : cells ≤ (gR_ G).cells ∧ slots ≤ (gR_ G).slots) (d : decode cc pc = .ok (.invokevirtual index, 3))
    (kk : ∀ (m_ra' m_up' : Nat → Int32) (m_on' m_lo' m_hi' m_mo' m_ma' m_li' : Int32), P m_ra' m_up' m_on' m_lo' m_hi' m_mo' m_ma' m_li' → go_ G cells slots (wC ad s_bk s_ln s_kd s_vl s_ct k_ce k_bc m_ra' m_up' m_on' m_lo' m_hi' m_mo' m_ma' m_li' n_rg n_sb n_st n_pl n_z n_n n_h n_c n_en n_so n_co n_sc l_bk l_of l_en l_ct t_bk t_of t_en t_ct) (pc + 3) lc (rest)) : go_ G cells slots (wC ad s_bk s_ln s_kd s_vl s_ct k_ce k_bc m_ra m_up m_on m_lo m_hi m_mo m_ma m_li n_rg n_sb n_st n_pl n_z n_n n_h n_c n_en n_so n_co n_sc l_bk l_of l_en l_ct t_bk t_of t_en t_ct) pc lc (.ref (ad 8) :: rest) :=
  go_cvv X (c_M_begin hw) me_M_begin m1 hlv 8 rfl rfl rfl hrs hcs d (fun u hp => kk u.1 u.2.1 u.2.2.1 u.2.2.2.1 u.2.2.2.2.1 u.2.2.2.2.2.1 u.2.2.2.2.2.2.1 u.2.2.2.2.2.2.2 hp)
set_option maxRecDepth 100000 in
set_option maxHeartbeats 4000000 in
theorem c_M_ramPlace {l : Launch} {D : va_G} {ad : Nat → Nat} {s_bk s_ln s_kd s_vl : Nat → Int32} {s_ct : Int32} {k_ce : Nat → Int32} {k_bc : Int32} {m_ra m_up : Nat → Int32} {m_on m_lo m_hi m_mo m_ma m_li : Int32} {n_rg n_sb : Nat → Int32} {n_st n_pl n_z n_n n_h n_c n_en n_so n_co n_sc : Int32} {l_bk l_of l_en : Nat → Int32} {l_ct : Int32} {t_bk t_of t_en : Nat → Int32} {t_ct : Int32} {a1 : Int32} {P : Int32 → Prop} (hw : wp_M_ramPlace m_hi m_mo a1 P) : ct_ l yM_ramPlace bM_ramPlace 2 (some .int) 0 0 D ad [.ref (ad 8), .int a1] (wC ad s_bk s_ln s_kd s_vl s_ct k_ce k_bc m_ra m_up m_on m_lo m_hi m_mo m_ma m_li n_rg n_sb n_st n_pl n_z n_n n_h n_c n_en n_so n_co n_sc l_bk l_of l_en l_ct t_bk t_of t_en t_ct) (qi_ D (fun (r : Int32) (_ : Unit) => P r ) (fun _ => (wC ad s_bk s_ln s_kd s_vl s_ct k_ce k_bc m_ra m_up m_on m_lo m_hi m_mo m_ma m_li n_rg n_sb n_st n_pl n_z n_n n_h n_c n_en n_so n_co n_sc l_bk l_of l_en l_ct t_bk t_of t_en t_ct))) := by
  refine ct_of RM (by decide) rfl (Nat.le_of_ble_eq_true rfl) (fun G hl hD X hq => ?_)
  subst hl hD
  show go_ G 0 0 (wC ad s_bk s_ln s_kd s_vl s_ct k_ce k_bc m_ra m_up m_on m_lo m_hi m_mo m_ma m_li n_rg n_sb n_st n_pl n_z n_n n_h n_c n_en n_so n_co n_sc l_bk l_of l_en l_ct t_bk t_of t_en t_ct) 0 [(0, .ref (ad 8)), (1, .int a1)] []
  refine go_aload_n X 0 dM_ramPlace_0 rfl rfl ?_
  refine gt_M_33 X dM_ramPlace_1 ?_
  refine go_iconst X dM_ramPlace_4 kc_i1 ?_
  refine go_icmp_ne X dM_ramPlace_5 rfl (fun hc => ?_) (fun hc => ?_)
  · have hw := hw.1 hc
    refine go_iconst X dM_ramPlace_18 kc_i0 ?_
    refine go_iload_n X 1 dM_ramPlace_19 rfl rfl ?_
    refine go_iadd X dM_ramPlace_20 ?_
    refine go_sipush X dM_ramPlace_21 kc_s128 ?_
    refine go_isub X dM_ramPlace_24 ?_
    exact go_ireturn X hq dM_ramPlace_25 () hw rfl
  · have hw := hw.2 hc
    refine go_aload_n X 0 dM_ramPlace_8 rfl rfl ?_
    refine gt_M_30 X dM_ramPlace_9 ?_
    refine go_bipush X dM_ramPlace_12 kc_b64 ?_
    refine go_imul X dM_ramPlace_14 ?_
    refine go_goto X dM_ramPlace_15 rfl ?_
    refine go_iload_n X 1 dM_ramPlace_19 rfl rfl ?_
    refine go_iadd X dM_ramPlace_20 ?_
    refine go_sipush X dM_ramPlace_21 kc_s128 ?_
    refine go_isub X dM_ramPlace_24 ?_
    exact go_ireturn X hq dM_ramPlace_25 () hw rfl
theorem k_M_ramPlace {G : gt_} {ad : Nat → Nat} {cc : ByteArray} {own : String} {fr lo n cells slots pc index : Nat} {lc : List (Nat × Value)} {rest : List Value} {s_bk s_ln s_kd s_vl : Nat → Int32} {s_ct : Int32} {k_ce : Nat → Int32} {k_bc : Int32} {m_ra m_up : Nat → Int32} {m_on m_lo m_hi m_mo m_ma m_li : Int32} {n_rg n_sb : Nat → Int32} {n_st n_pl n_z n_n n_h n_c n_en n_so n_co n_sc : Int32} {l_bk l_of l_en : Nat → Int32} {l_ct : Int32} {t_bk t_of t_en : Nat → Int32} {t_ct : Int32} {a1 : Int32} {P : Int32 → Prop} (X : cx_ G ad cc own fr lo n) (hw : wp_M_ramPlace m_hi m_mo a1 P) (m1 : Cond.methodLink own index yM_ramPlace ∈ wS) (hlv : 0 + 1 ≤ fr ∧ 8 + (2 + 11) + 0 ≤ lo) (hrs : (rest.map fun v => v.category).sum ≤ 8) (hcs : cells ≤ (gR_ G).cells ∧ slots ≤ (gR_ G).slots) (d : decode cc pc = .ok (.invokevirtual index, 3))
    (kk : ∀ (r : Int32), P r → go_ G cells slots (wC ad s_bk s_ln s_kd s_vl s_ct k_ce k_bc m_ra m_up m_on m_lo m_hi m_mo m_ma m_li n_rg n_sb n_st n_pl n_z n_n n_h n_c n_en n_so n_co n_sc l_bk l_of l_en l_ct t_bk t_of t_en t_ct) (pc + 3) lc (.int r :: rest)) : go_ G cells slots (wC ad s_bk s_ln s_kd s_vl s_ct k_ce k_bc m_ra m_up m_on m_lo m_hi m_mo m_ma m_li n_rg n_sb n_st n_pl n_z n_n n_h n_c n_en n_so n_co n_sc l_bk l_of l_en l_ct t_bk t_of t_en t_ct) pc lc (.int a1 :: .ref (ad 8) :: rest) :=
  go_cvi X (c_M_ramPlace hw) me_M_ramPlace m1 hlv 8 rfl rfl rfl hrs hcs d (fun r _ hp => kk r  hp)
set_option maxRecDepth 100000 in
set_option maxHeartbeats 4000000 in
theorem c_M_switches {l : Launch} {D : va_G} {ad : Nat → Nat} {s_bk s_ln s_kd s_vl : Nat → Int32} {s_ct : Int32} {k_ce : Nat → Int32} {k_bc : Int32} {m_ra m_up : Nat → Int32} {m_on m_lo m_hi m_mo m_ma m_li : Int32} {n_rg n_sb : Nat → Int32} {n_st n_pl n_z n_n n_h n_c n_en n_so n_co n_sc : Int32} {l_bk l_of l_en : Nat → Int32} {l_ct : Int32} {t_bk t_of t_en : Nat → Int32} {t_ct : Int32}  {P : Int32 → Prop} (hw : wp_M_switches m_on m_lo m_hi m_mo  P) : ct_ l yM_switches bM_switches 1 (some .int) 0 0 D ad [.ref (ad 8)] (wC ad s_bk s_ln s_kd s_vl s_ct k_ce k_bc m_ra m_up m_on m_lo m_hi m_mo m_ma m_li n_rg n_sb n_st n_pl n_z n_n n_h n_c n_en n_so n_co n_sc l_bk l_of l_en l_ct t_bk t_of t_en t_ct) (qi_ D (fun (r : Int32) (_ : Unit) => P r ) (fun _ => (wC ad s_bk s_ln s_kd s_vl s_ct k_ce k_bc m_ra m_up m_on m_lo m_hi m_mo m_ma m_li n_rg n_sb n_st n_pl n_z n_n n_h n_c n_en n_so n_co n_sc l_bk l_of l_en l_ct t_bk t_of t_en t_ct))) := by
  refine ct_of RM (by decide) rfl (Nat.le_of_ble_eq_true rfl) (fun G hl hD X hq => ?_)
  subst hl hD
  show go_ G 0 0 (wC ad s_bk s_ln s_kd s_vl s_ct k_ce k_bc m_ra m_up m_on m_lo m_hi m_mo m_ma m_li n_rg n_sb n_st n_pl n_z n_n n_h n_c n_en n_so n_co n_sc l_bk l_of l_en l_ct t_bk t_of t_en t_ct) 0 [(0, .ref (ad 8))] []
  refine go_aload_n X 0 dM_switches_0 rfl rfl ?_
  refine gt_M_22 X dM_switches_1 ?_
  refine go_if_eq X dM_switches_4 rfl (fun hc => ?_) (fun hc => ?_)
  · have hw := hw.1 hc
    refine go_iconst X dM_switches_12 kc_i0 ?_
    refine go_iconst X dM_switches_13 kc_i4 ?_
    refine go_aload_n X 0 dM_switches_14 rfl rfl ?_
    refine gt_M_26 X dM_switches_15 ?_
    refine go_imul X dM_switches_18 ?_
    refine go_iadd X dM_switches_19 ?_
    refine go_iconst X dM_switches_20 kc_i2 ?_
    refine go_aload_n X 0 dM_switches_21 rfl rfl ?_
    refine gt_M_30 X dM_switches_22 ?_
    refine go_imul X dM_switches_25 ?_
    refine go_iadd X dM_switches_26 ?_
    refine go_aload_n X 0 dM_switches_27 rfl rfl ?_
    refine gt_M_33 X dM_switches_28 ?_
    refine go_iadd X dM_switches_31 ?_
    exact go_ireturn X hq dM_switches_32 () hw rfl
  · have hw := hw.2 hc
    refine go_bipush X dM_switches_7 kc_b16 ?_
    refine go_goto X dM_switches_9 rfl ?_
    refine go_iconst X dM_switches_13 kc_i4 ?_
    refine go_aload_n X 0 dM_switches_14 rfl rfl ?_
    refine gt_M_26 X dM_switches_15 ?_
    refine go_imul X dM_switches_18 ?_
    refine go_iadd X dM_switches_19 ?_
    refine go_iconst X dM_switches_20 kc_i2 ?_
    refine go_aload_n X 0 dM_switches_21 rfl rfl ?_
    refine gt_M_30 X dM_switches_22 ?_
    refine go_imul X dM_switches_25 ?_
    refine go_iadd X dM_switches_26 ?_
    refine go_aload_n X 0 dM_switches_27 rfl rfl ?_
    refine gt_M_33 X dM_switches_28 ?_
    refine go_iadd X dM_switches_31 ?_
    exact go_ireturn X hq dM_switches_32 () hw rfl
theorem k_M_switches {G : gt_} {ad : Nat → Nat} {cc : ByteArray} {own : String} {fr lo n cells slots pc index : Nat} {lc : List (Nat × Value)} {rest : List Value} {s_bk s_ln s_kd s_vl : Nat → Int32} {s_ct : Int32} {k_ce : Nat → Int32} {k_bc : Int32} {m_ra m_up : Nat → Int32} {m_on m_lo m_hi m_mo m_ma m_li : Int32} {n_rg n_sb : Nat → Int32} {n_st n_pl n_z n_n n_h n_c n_en n_so n_co n_sc : Int32} {l_bk l_of l_en : Nat → Int32} {l_ct : Int32} {t_bk t_of t_en : Nat → Int32} {t_ct : Int32}  {P : Int32 → Prop} (X : cx_ G ad cc own fr lo n) (hw : wp_M_switches m_on m_lo m_hi m_mo  P) (m1 : Cond.methodLink own index yM_switches ∈ wS) (hlv : 0 + 1 ≤ fr ∧ 8 + (1 + 11) + 0 ≤ lo) (hrs : (rest.map fun v => v.category).sum ≤ 8) (hcs : cells ≤ (gR_ G).cells ∧ slots ≤ (gR_ G).slots) (d : decode cc pc = .ok (.invokevirtual index, 3))
    (kk : ∀ (r : Int32), P r → go_ G cells slots (wC ad s_bk s_ln s_kd s_vl s_ct k_ce k_bc m_ra m_up m_on m_lo m_hi m_mo m_ma m_li n_rg n_sb n_st n_pl n_z n_n n_h n_c n_en n_so n_co n_sc l_bk l_of l_en l_ct t_bk t_of t_en t_ct) (pc + 3) lc (.int r :: rest)) : go_ G cells slots (wC ad s_bk s_ln s_kd s_vl s_ct k_ce k_bc m_ra m_up m_on m_lo m_hi m_mo m_ma m_li n_rg n_sb n_st n_pl n_z n_n n_h n_c n_en n_so n_co n_sc l_bk l_of l_en l_ct t_bk t_of t_en t_ct) pc lc (.ref (ad 8) :: rest) :=
  go_cvi X (c_M_switches hw) me_M_switches m1 hlv 8 rfl rfl rfl hrs hcs d (fun r _ hp => kk r  hp)
set_option maxRecDepth 100000 in
set_option maxHeartbeats 4000000 in
theorem c_M_turnSwitch {l : Launch} {D : va_G} {ad : Nat → Nat} {s_bk s_ln s_kd s_vl : Nat → Int32} {s_ct : Int32} {k_ce : Nat → Int32} {k_bc : Int32} {m_ra m_up : Nat → Int32} {m_on m_lo m_hi m_mo m_ma m_li : Int32} {n_rg n_sb : Nat → Int32} {n_st n_pl n_z n_n n_h n_c n_en n_so n_co n_sc : Int32} {l_bk l_of l_en : Nat → Int32} {l_ct : Int32} {t_bk t_of t_en : Nat → Int32} {t_ct : Int32} {a1 a2 : Int32} {P : (Int32) → (Int32) → (Int32) → (Int32) → Prop} (hw : wp_M_turnSwitch m_on m_lo m_hi m_mo a1 a2 P) : ct_ l yM_turnSwitch bM_turnSwitch 3 none 0 0 D ad [.ref (ad 8), .int a1, .int a2] (wC ad s_bk s_ln s_kd s_vl s_ct k_ce k_bc m_ra m_up m_on m_lo m_hi m_mo m_ma m_li n_rg n_sb n_st n_pl n_z n_n n_h n_c n_en n_so n_co n_sc l_bk l_of l_en l_ct t_bk t_of t_en t_ct) (qv_ D (fun (u : (Int32) × (Int32) × (Int32) × (Int32)) => P u.1 u.2.1 u.2.2.1 u.2.2.2) (fun u => wC ad s_bk s_ln s_kd s_vl s_ct k_ce k_bc m_ra m_up u.1 u.2.1 u.2.2.1 u.2.2.2 m_ma m_li n_rg n_sb n_st n_pl n_z n_n n_h n_c n_en n_so n_co n_sc l_bk l_of l_en l_ct t_bk t_of t_en t_ct)) := by
  refine ct_of RM (by decide) rfl (Nat.le_of_ble_eq_true rfl) (fun G hl hD X hq => ?_)
  subst hl hD
  show go_ G 0 0 (wC ad s_bk s_ln s_kd s_vl s_ct k_ce k_bc m_ra m_up m_on m_lo m_hi m_mo m_ma m_li n_rg n_sb n_st n_pl n_z n_n n_h n_c n_en n_so n_co n_sc l_bk l_of l_en l_ct t_bk t_of t_en t_ct) 0 [(0, .ref (ad 8)), (1, .int a1), (2, .int a2)] []
  refine go_iload_n X 1 dM_turnSwitch_0 rfl rfl ?_
  by_cases h9_0 : a1 = (0 : Int32)
  · have hw := hw.1 h9_0
    refine go_tin X (0 : Int32) dM_turnSwitch_1 h9_0 (by decide) (by decide) rfl rfl ?_
    refine go_aload_n X 0 dM_turnSwitch_28 rfl rfl ?_
    refine go_iload_n X 2 dM_turnSwitch_29 rfl rfl ?_
    refine go_bipush X dM_turnSwitch_30 kc_b15 ?_
    refine go_iand X dM_turnSwitch_32 ?_
    refine go_bipush X dM_turnSwitch_33 kc_b10 ?_
    refine go_icmp_ne X dM_turnSwitch_35 rfl (fun hc => ?_) (fun hc => ?_)
    · have hw := hw.1 hc
      refine go_iconst X dM_turnSwitch_42 kc_i0 ?_
      refine pt_M_22 X (Or.inl rfl) dM_turnSwitch_43 ?_
      refine go_goto X dM_turnSwitch_46 rfl ?_
      exact go_vreturn X hq dM_turnSwitch_86 ((0 : Int32), m_lo, m_hi, m_mo) hw rfl
    · have hw := hw.2 hc
      refine go_iconst X dM_turnSwitch_38 kc_i1 ?_
      refine go_goto X dM_turnSwitch_39 rfl ?_
      refine pt_M_22 X (Or.inr rfl) dM_turnSwitch_43 ?_
      refine go_goto X dM_turnSwitch_46 rfl ?_
      exact go_vreturn X hq dM_turnSwitch_86 ((1 : Int32), m_lo, m_hi, m_mo) hw rfl
  by_cases h9_1 : a1 = (1 : Int32)
  · have hw := hw.2.1 h9_1
    refine go_tin X (1 : Int32) dM_turnSwitch_1 h9_1 (by decide) (by decide) rfl rfl ?_
    refine go_aload_n X 0 dM_turnSwitch_49 rfl rfl ?_
    refine go_iload_n X 2 dM_turnSwitch_50 rfl rfl ?_
    refine go_iconst X dM_turnSwitch_51 kc_i3 ?_
    refine go_iand X dM_turnSwitch_52 ?_
    refine go_if_ne X dM_turnSwitch_53 rfl (fun hc => ?_) (fun hc => ?_)
    · have hw := hw.1 hc
      refine go_iload_n X 2 dM_turnSwitch_60 rfl rfl ?_
      refine go_iconst X dM_turnSwitch_61 kc_i3 ?_
      refine go_iand X dM_turnSwitch_62 ?_
      refine pt_M_26 X dM_turnSwitch_63 ?_
      refine go_goto X dM_turnSwitch_66 rfl ?_
      exact go_vreturn X hq dM_turnSwitch_86 (m_on, a2 &&& (3 : Int32), m_hi, m_mo) hw rfl
    · have hw := hw.2 hc
      refine go_iconst X dM_turnSwitch_56 kc_i1 ?_
      refine go_goto X dM_turnSwitch_57 rfl ?_
      refine pt_M_26 X dM_turnSwitch_63 ?_
      refine go_goto X dM_turnSwitch_66 rfl ?_
      exact go_vreturn X hq dM_turnSwitch_86 (m_on, (1 : Int32), m_hi, m_mo) hw rfl
  by_cases h9_2 : a1 = (2 : Int32)
  · have hw := hw.2.2.1 h9_2
    refine go_tin X (2 : Int32) dM_turnSwitch_1 h9_2 (by decide) (by decide) rfl rfl ?_
    refine go_aload_n X 0 dM_turnSwitch_69 rfl rfl ?_
    refine go_iload_n X 2 dM_turnSwitch_70 rfl rfl ?_
    refine go_iconst X dM_turnSwitch_71 kc_i1 ?_
    refine go_iand X dM_turnSwitch_72 ?_
    refine pt_M_30 X dM_turnSwitch_73 ?_
    refine go_goto X dM_turnSwitch_76 rfl ?_
    exact go_vreturn X hq dM_turnSwitch_86 (m_on, m_lo, a2 &&& (1 : Int32), m_mo) hw rfl
  have hw := hw.2.2.2 h9_0 h9_1 h9_2
  have t9_0 := go_neT h9_0 (z := 0) (by decide)
  have t9_1 := go_neT h9_1 (z := 1) (by decide)
  have t9_2 := go_neT h9_2 (z := 2) (by decide)
  refine go_tout X dM_turnSwitch_1 (by omega) rfl ?_
  refine go_aload_n X 0 dM_turnSwitch_79 rfl rfl ?_
  refine go_iload_n X 2 dM_turnSwitch_80 rfl rfl ?_
  refine go_iconst X dM_turnSwitch_81 kc_i1 ?_
  refine go_iand X dM_turnSwitch_82 ?_
  refine pt_M_33 X dM_turnSwitch_83 ?_
  exact go_vreturn X hq dM_turnSwitch_86 (m_on, m_lo, m_hi, a2 &&& (1 : Int32)) hw rfl
theorem k_M_turnSwitch {G : gt_} {ad : Nat → Nat} {cc : ByteArray} {own : String} {fr lo n cells slots pc index : Nat} {lc : List (Nat × Value)} {rest : List Value} {s_bk s_ln s_kd s_vl : Nat → Int32} {s_ct : Int32} {k_ce : Nat → Int32} {k_bc : Int32} {m_ra m_up : Nat → Int32} {m_on m_lo m_hi m_mo m_ma m_li : Int32} {n_rg n_sb : Nat → Int32} {n_st n_pl n_z n_n n_h n_c n_en n_so n_co n_sc : Int32} {l_bk l_of l_en : Nat → Int32} {l_ct : Int32} {t_bk t_of t_en : Nat → Int32} {t_ct : Int32} {a1 a2 : Int32} {P : (Int32) → (Int32) → (Int32) → (Int32) → Prop} (X : cx_ G ad cc own fr lo n) (hw : wp_M_turnSwitch m_on m_lo m_hi m_mo a1 a2 P) (m1 : Cond.methodLink own index yM_turnSwitch ∈ wS) (hlv : 0 + 1 ≤ fr ∧ 8 + (3 + 11) + 0 ≤ lo) (hrs : (rest.map fun v => v.category).sum ≤ 8) (hcs : cells ≤ (gR_ G).cells ∧ slots ≤ (gR_ G).slots) (d : decode cc pc = .ok (.invokevirtual index, 3))
    (kk : ∀ (m_on' m_lo' m_hi' m_mo' : Int32), P m_on' m_lo' m_hi' m_mo' → go_ G cells slots (wC ad s_bk s_ln s_kd s_vl s_ct k_ce k_bc m_ra m_up m_on' m_lo' m_hi' m_mo' m_ma m_li n_rg n_sb n_st n_pl n_z n_n n_h n_c n_en n_so n_co n_sc l_bk l_of l_en l_ct t_bk t_of t_en t_ct) (pc + 3) lc (rest)) : go_ G cells slots (wC ad s_bk s_ln s_kd s_vl s_ct k_ce k_bc m_ra m_up m_on m_lo m_hi m_mo m_ma m_li n_rg n_sb n_st n_pl n_z n_n n_h n_c n_en n_so n_co n_sc l_bk l_of l_en l_ct t_bk t_of t_en t_ct) pc lc (.int a2 :: .int a1 :: .ref (ad 8) :: rest) :=
  go_cvv X (c_M_turnSwitch hw) me_M_turnSwitch m1 hlv 8 rfl rfl rfl hrs hcs d (fun u hp => kk u.1 u.2.1 u.2.2.1 u.2.2.2 hp)
set_option maxRecDepth 100000 in
set_option maxHeartbeats 4000000 in
theorem c_P_addressOf {l : Launch} {D : va_G} {ad : Nat → Nat} {s_bk s_ln s_kd s_vl : Nat → Int32} {s_ct : Int32} {k_ce : Nat → Int32} {k_bc : Int32} {m_ra m_up : Nat → Int32} {m_on m_lo m_hi m_mo m_ma m_li : Int32} {n_rg n_sb : Nat → Int32} {n_st n_pl n_z n_n n_h n_c n_en n_so n_co n_sc : Int32} {l_bk l_of l_en : Nat → Int32} {l_ct : Int32} {t_bk t_of t_en : Nat → Int32} {t_ct : Int32} {a1 : Int32} {P : Int32 → Prop} (hw : wp_P_addressOf l_bk l_of a1 P) : ct_ l yP_addressOf bP_addressOf 2 (some .int) 0 0 D ad [.ref (ad 14), .int a1] (wC ad s_bk s_ln s_kd s_vl s_ct k_ce k_bc m_ra m_up m_on m_lo m_hi m_mo m_ma m_li n_rg n_sb n_st n_pl n_z n_n n_h n_c n_en n_so n_co n_sc l_bk l_of l_en l_ct t_bk t_of t_en t_ct) (qi_ D (fun (r : Int32) (_ : Unit) => P r ) (fun _ => (wC ad s_bk s_ln s_kd s_vl s_ct k_ce k_bc m_ra m_up m_on m_lo m_hi m_mo m_ma m_li n_rg n_sb n_st n_pl n_z n_n n_h n_c n_en n_so n_co n_sc l_bk l_of l_en l_ct t_bk t_of t_en t_ct))) := by
  refine ct_of RP (by decide) rfl (Nat.le_of_ble_eq_true rfl) (fun G hl hD X hq => ?_)
  subst hl hD
  show go_ G 0 0 (wC ad s_bk s_ln s_kd s_vl s_ct k_ce k_bc m_ra m_up m_on m_lo m_hi m_mo m_ma m_li n_rg n_sb n_st n_pl n_z n_n n_h n_c n_en n_so n_co n_sc l_bk l_of l_en l_ct t_bk t_of t_en t_ct) 0 [(0, .ref (ad 14)), (1, .int a1)] []
  refine go_aload_n X 0 dP_addressOf_0 rfl rfl ?_
  refine gt_P_9L X dP_addressOf_1 ?_
  refine go_iload_n X 1 dP_addressOf_4 rfl rfl ?_
  have hz := hw.1
  have hw := hw.2
  refine ar_l_bk X hz dP_addressOf_5 ?_
  refine go_if_ne X dP_addressOf_6 rfl (fun hc => ?_) (fun hc => ?_)
  · have hw := hw.1 hc
    refine go_bipush X dP_addressOf_18 kc_b64 ?_
    refine go_aload_n X 0 dP_addressOf_20 rfl rfl ?_
    refine gt_P_15L X dP_addressOf_21 ?_
    refine go_iload_n X 1 dP_addressOf_24 rfl rfl ?_
    have hz := hw.1
    have hw := hw.2
    refine ar_l_of X hz dP_addressOf_25 ?_
    refine go_iadd X dP_addressOf_26 ?_
    exact go_ireturn X hq dP_addressOf_27 () hw rfl
  · have hw := hw.2 hc
    refine go_aload_n X 0 dP_addressOf_9 rfl rfl ?_
    refine gt_P_15L X dP_addressOf_10 ?_
    refine go_iload_n X 1 dP_addressOf_13 rfl rfl ?_
    have hz := hw.1
    have hw := hw.2
    refine ar_l_of X hz dP_addressOf_14 ?_
    refine go_goto X dP_addressOf_15 rfl ?_
    exact go_ireturn X hq dP_addressOf_27 () hw rfl
theorem k_P_addressOf {G : gt_} {ad : Nat → Nat} {cc : ByteArray} {own : String} {fr lo n cells slots pc index : Nat} {lc : List (Nat × Value)} {rest : List Value} {s_bk s_ln s_kd s_vl : Nat → Int32} {s_ct : Int32} {k_ce : Nat → Int32} {k_bc : Int32} {m_ra m_up : Nat → Int32} {m_on m_lo m_hi m_mo m_ma m_li : Int32} {n_rg n_sb : Nat → Int32} {n_st n_pl n_z n_n n_h n_c n_en n_so n_co n_sc : Int32} {l_bk l_of l_en : Nat → Int32} {l_ct : Int32} {t_bk t_of t_en : Nat → Int32} {t_ct : Int32} {a1 : Int32} {P : Int32 → Prop} (X : cx_ G ad cc own fr lo n) (hw : wp_P_addressOf l_bk l_of a1 P) (m1 : Cond.methodLink own index yP_addressOf ∈ wS) (hlv : 0 + 1 ≤ fr ∧ 8 + (2 + 11) + 0 ≤ lo) (hrs : (rest.map fun v => v.category).sum ≤ 8) (hcs : cells ≤ (gR_ G).cells ∧ slots ≤ (gR_ G).slots) (d : decode cc pc = .ok (.invokevirtual index, 3))
    (kk : ∀ (r : Int32), P r → go_ G cells slots (wC ad s_bk s_ln s_kd s_vl s_ct k_ce k_bc m_ra m_up m_on m_lo m_hi m_mo m_ma m_li n_rg n_sb n_st n_pl n_z n_n n_h n_c n_en n_so n_co n_sc l_bk l_of l_en l_ct t_bk t_of t_en t_ct) (pc + 3) lc (.int r :: rest)) : go_ G cells slots (wC ad s_bk s_ln s_kd s_vl s_ct k_ce k_bc m_ra m_up m_on m_lo m_hi m_mo m_ma m_li n_rg n_sb n_st n_pl n_z n_n n_h n_c n_en n_so n_co n_sc l_bk l_of l_en l_ct t_bk t_of t_en t_ct) pc lc (.int a1 :: .ref (ad 14) :: rest) :=
  go_cvi X (c_P_addressOf hw) me_P_addressOf m1 hlv 14 rfl rfl rfl hrs hcs d (fun r _ hp => kk r  hp)
set_option maxRecDepth 100000 in
set_option maxHeartbeats 4000000 in
theorem c_P_fits {l : Launch} {D : va_G} {ad : Nat → Nat} {s_bk s_ln s_kd s_vl : Nat → Int32} {s_ct : Int32} {k_ce : Nat → Int32} {k_bc : Int32} {m_ra m_up : Nat → Int32} {m_on m_lo m_hi m_mo m_ma m_li : Int32} {n_rg n_sb : Nat → Int32} {n_st n_pl n_z n_n n_h n_c n_en n_so n_co n_sc : Int32} {l_bk l_of l_en : Nat → Int32} {l_ct : Int32} {t_bk t_of t_en : Nat → Int32} {t_ct : Int32} {a1 a2 : Int32} {P : Int32 → Prop} (hw : wp_P_fits t_en a1 a2 P) : ct_ l yP_fits bP_fits 3 (some .boolean) 0 0 D ad [.ref (ad 18), .int a1, .int a2] (wC ad s_bk s_ln s_kd s_vl s_ct k_ce k_bc m_ra m_up m_on m_lo m_hi m_mo m_ma m_li n_rg n_sb n_st n_pl n_z n_n n_h n_c n_en n_so n_co n_sc l_bk l_of l_en l_ct t_bk t_of t_en t_ct) (qi_ D (fun (r : Int32) (_ : Unit) => P r ) (fun _ => (wC ad s_bk s_ln s_kd s_vl s_ct k_ce k_bc m_ra m_up m_on m_lo m_hi m_mo m_ma m_li n_rg n_sb n_st n_pl n_z n_n n_h n_c n_en n_so n_co n_sc l_bk l_of l_en l_ct t_bk t_of t_en t_ct))) := by
  refine ct_of RP (by decide) rfl (Nat.le_of_ble_eq_true rfl) (fun G hl hD X hq => ?_)
  subst hl hD
  show go_ G 0 0 (wC ad s_bk s_ln s_kd s_vl s_ct k_ce k_bc m_ra m_up m_on m_lo m_hi m_mo m_ma m_li n_rg n_sb n_st n_pl n_z n_n n_h n_c n_en n_so n_co n_sc l_bk l_of l_en l_ct t_bk t_of t_en t_ct) 0 [(0, .ref (ad 18)), (1, .int a1), (2, .int a2)] []
  refine go_aload_n X 0 dP_fits_0 rfl rfl ?_
  refine gt_P_18T X dP_fits_1 ?_
  refine go_iload_n X 1 dP_fits_4 rfl rfl ?_
  have hz := hw.1
  have hw := hw.2
  refine ar_t_en X hz dP_fits_5 ?_
  refine go_iload_n X 2 dP_fits_6 rfl rfl ?_
  refine go_iadd X dP_fits_7 ?_
  refine go_bipush X dP_fits_8 kc_b64 ?_
  refine go_icmp_gt X dP_fits_10 rfl (fun hc => ?_) (fun hc => ?_)
  · have hw := hw.1 hc
    refine go_iconst X dP_fits_17 kc_i0 ?_
    exact go_zreturn X hq dP_fits_18 (Or.inl rfl) () hw rfl
  · have hw := hw.2 hc
    refine go_iconst X dP_fits_13 kc_i1 ?_
    refine go_goto X dP_fits_14 rfl ?_
    exact go_zreturn X hq dP_fits_18 (Or.inr rfl) () hw rfl
theorem k_P_fits {G : gt_} {ad : Nat → Nat} {cc : ByteArray} {own : String} {fr lo n cells slots pc index : Nat} {lc : List (Nat × Value)} {rest : List Value} {s_bk s_ln s_kd s_vl : Nat → Int32} {s_ct : Int32} {k_ce : Nat → Int32} {k_bc : Int32} {m_ra m_up : Nat → Int32} {m_on m_lo m_hi m_mo m_ma m_li : Int32} {n_rg n_sb : Nat → Int32} {n_st n_pl n_z n_n n_h n_c n_en n_so n_co n_sc : Int32} {l_bk l_of l_en : Nat → Int32} {l_ct : Int32} {t_bk t_of t_en : Nat → Int32} {t_ct : Int32} {a1 a2 : Int32} {P : Int32 → Prop} (X : cx_ G ad cc own fr lo n) (hw : wp_P_fits t_en a1 a2 P) (m1 : Cond.methodLink own index yP_fits ∈ wS) (hlv : 0 + 1 ≤ fr ∧ 8 + (3 + 11) + 0 ≤ lo) (hrs : (rest.map fun v => v.category).sum ≤ 8) (hcs : cells ≤ (gR_ G).cells ∧ slots ≤ (gR_ G).slots) (d : decode cc pc = .ok (.invokevirtual index, 3))
    (kk : ∀ (r : Int32), P r → go_ G cells slots (wC ad s_bk s_ln s_kd s_vl s_ct k_ce k_bc m_ra m_up m_on m_lo m_hi m_mo m_ma m_li n_rg n_sb n_st n_pl n_z n_n n_h n_c n_en n_so n_co n_sc l_bk l_of l_en l_ct t_bk t_of t_en t_ct) (pc + 3) lc (.int r :: rest)) : go_ G cells slots (wC ad s_bk s_ln s_kd s_vl s_ct k_ce k_bc m_ra m_up m_on m_lo m_hi m_mo m_ma m_li n_rg n_sb n_st n_pl n_z n_n n_h n_c n_en n_so n_co n_sc l_bk l_of l_en l_ct t_bk t_of t_en t_ct) pc lc (.int a2 :: .int a1 :: .ref (ad 18) :: rest) :=
  go_cvi X (c_P_fits hw) me_P_fits m1 hlv 18 rfl rfl rfl hrs hcs d (fun r _ hp => kk r  hp)
set_option maxRecDepth 100000 in
set_option maxHeartbeats 4000000 in
theorem c_P_put {l : Launch} {D : va_G} {ad : Nat → Nat} {s_bk s_ln s_kd s_vl : Nat → Int32} {s_ct : Int32} {k_ce : Nat → Int32} {k_bc : Int32} {m_ra m_up : Nat → Int32} {m_on m_lo m_hi m_mo m_ma m_li : Int32} {n_rg n_sb : Nat → Int32} {n_st n_pl n_z n_n n_h n_c n_en n_so n_co n_sc : Int32} {l_bk l_of l_en : Nat → Int32} {l_ct : Int32} {t_bk t_of t_en : Nat → Int32} {t_ct : Int32} {a1 a2 a3 : Int32} {P : (Nat → Int32) → (Nat → Int32) → (Nat → Int32) → Prop} (hw : wp_P_put t_bk t_of t_en a1 a2 a3 P) : ct_ l yP_put bP_put 4 none 0 0 D ad [.ref (ad 18), .int a1, .int a2, .int a3] (wC ad s_bk s_ln s_kd s_vl s_ct k_ce k_bc m_ra m_up m_on m_lo m_hi m_mo m_ma m_li n_rg n_sb n_st n_pl n_z n_n n_h n_c n_en n_so n_co n_sc l_bk l_of l_en l_ct t_bk t_of t_en t_ct) (qv_ D (fun (u : (Nat → Int32) × (Nat → Int32) × (Nat → Int32)) => P u.1 u.2.1 u.2.2) (fun u => wC ad s_bk s_ln s_kd s_vl s_ct k_ce k_bc m_ra m_up m_on m_lo m_hi m_mo m_ma m_li n_rg n_sb n_st n_pl n_z n_n n_h n_c n_en n_so n_co n_sc l_bk l_of l_en l_ct u.1 u.2.1 u.2.2 t_ct)) := by
  refine ct_of RP (by decide) rfl (Nat.le_of_ble_eq_true rfl) (fun G hl hD X hq => ?_)
  subst hl hD
  show go_ G 0 0 (wC ad s_bk s_ln s_kd s_vl s_ct k_ce k_bc m_ra m_up m_on m_lo m_hi m_mo m_ma m_li n_rg n_sb n_st n_pl n_z n_n n_h n_c n_en n_so n_co n_sc l_bk l_of l_en l_ct t_bk t_of t_en t_ct) 0 [(0, .ref (ad 18)), (1, .int a1), (2, .int a2), (3, .int a3)] []
  refine go_aload_n X 0 dP_put_0 rfl rfl ?_
  refine gt_P_9T X dP_put_1 ?_
  refine go_iload_n X 1 dP_put_4 rfl rfl ?_
  refine go_iload_n X 2 dP_put_5 rfl rfl ?_
  have hz := hw.1
  have hw := hw.2
  refine as_t_bk X hz dP_put_6 ?_
  refine go_aload_n X 0 dP_put_7 rfl rfl ?_
  refine gt_P_15T X dP_put_8 ?_
  refine go_iload_n X 1 dP_put_11 rfl rfl ?_
  refine go_aload_n X 0 dP_put_12 rfl rfl ?_
  refine gt_P_18T X dP_put_13 ?_
  refine go_iload_n X 2 dP_put_16 rfl rfl ?_
  have hz := hw.1
  have hw := hw.2
  refine ar_t_en X hz dP_put_17 ?_
  have hz := hw.1
  have hw := hw.2
  refine as_t_of X hz dP_put_18 ?_
  refine go_aload_n X 0 dP_put_19 rfl rfl ?_
  refine gt_P_18T X dP_put_20 ?_
  refine go_iload_n X 2 dP_put_23 rfl rfl ?_
  refine go_dup2 X dP_put_24 rfl rfl ?_
  have hz := hw.1
  have hw := hw.2
  refine ar_t_en X hz dP_put_25 ?_
  refine go_iload_n X 3 dP_put_26 rfl rfl ?_
  refine go_iadd X dP_put_27 ?_
  have hz := hw.1
  have hw := hw.2
  refine as_t_en X hz dP_put_28 ?_
  exact go_vreturn X hq dP_put_29 (upd t_bk a1.toNatClampNeg a2, upd t_of a1.toNatClampNeg (t_en a2.toNatClampNeg), upd t_en a2.toNatClampNeg ((t_en a2.toNatClampNeg) + a3)) hw rfl
theorem k_P_put {G : gt_} {ad : Nat → Nat} {cc : ByteArray} {own : String} {fr lo n cells slots pc index : Nat} {lc : List (Nat × Value)} {rest : List Value} {s_bk s_ln s_kd s_vl : Nat → Int32} {s_ct : Int32} {k_ce : Nat → Int32} {k_bc : Int32} {m_ra m_up : Nat → Int32} {m_on m_lo m_hi m_mo m_ma m_li : Int32} {n_rg n_sb : Nat → Int32} {n_st n_pl n_z n_n n_h n_c n_en n_so n_co n_sc : Int32} {l_bk l_of l_en : Nat → Int32} {l_ct : Int32} {t_bk t_of t_en : Nat → Int32} {t_ct : Int32} {a1 a2 a3 : Int32} {P : (Nat → Int32) → (Nat → Int32) → (Nat → Int32) → Prop} (X : cx_ G ad cc own fr lo n) (hw : wp_P_put t_bk t_of t_en a1 a2 a3 P) (m1 : Cond.methodLink own index yP_put ∈ wS) (hlv : 0 + 1 ≤ fr ∧ 8 + (4 + 11) + 0 ≤ lo) (hrs : (rest.map fun v => v.category).sum ≤ 8) (hcs : cells ≤ (gR_ G).cells ∧ slots ≤ (gR_ G).slots) (d : decode cc pc = .ok (.invokevirtual index, 3))
    (kk : ∀ (t_bk' t_of' t_en' : Nat → Int32), P t_bk' t_of' t_en' → go_ G cells slots (wC ad s_bk s_ln s_kd s_vl s_ct k_ce k_bc m_ra m_up m_on m_lo m_hi m_mo m_ma m_li n_rg n_sb n_st n_pl n_z n_n n_h n_c n_en n_so n_co n_sc l_bk l_of l_en l_ct t_bk' t_of' t_en' t_ct) (pc + 3) lc (rest)) : go_ G cells slots (wC ad s_bk s_ln s_kd s_vl s_ct k_ce k_bc m_ra m_up m_on m_lo m_hi m_mo m_ma m_li n_rg n_sb n_st n_pl n_z n_n n_h n_c n_en n_so n_co n_sc l_bk l_of l_en l_ct t_bk t_of t_en t_ct) pc lc (.int a3 :: .int a2 :: .int a1 :: .ref (ad 18) :: rest) :=
  go_cvv X (c_P_put hw) me_P_put m1 hlv 18 rfl rfl rfl hrs hcs d (fun u hp => kk u.1 u.2.1 u.2.2 hp)
set_option maxRecDepth 100000 in
set_option maxHeartbeats 4000000 in
theorem c_S_append {l : Launch} {D : va_G} {ad : Nat → Nat} {s_bk s_ln s_kd s_vl : Nat → Int32} {s_ct : Int32} {k_ce : Nat → Int32} {k_bc : Int32} {m_ra m_up : Nat → Int32} {m_on m_lo m_hi m_mo m_ma m_li : Int32} {n_rg n_sb : Nat → Int32} {n_st n_pl n_z n_n n_h n_c n_en n_so n_co n_sc : Int32} {l_bk l_of l_en : Nat → Int32} {l_ct : Int32} {t_bk t_of t_en : Nat → Int32} {t_ct : Int32} {a1 a2 : Int32} {P : (Nat → Int32) → (Nat → Int32) → (Nat → Int32) → Prop} (hw : wp_S_append s_ln s_kd s_vl s_ct a1 a2 P) : ct_ l yS_append bS_append 5 none 0 0 D ad [.ref (ad 1), .int a1, .int a2] (wC ad s_bk s_ln s_kd s_vl s_ct k_ce k_bc m_ra m_up m_on m_lo m_hi m_mo m_ma m_li n_rg n_sb n_st n_pl n_z n_n n_h n_c n_en n_so n_co n_sc l_bk l_of l_en l_ct t_bk t_of t_en t_ct) (qv_ D (fun (u : (Nat → Int32) × (Nat → Int32) × (Nat → Int32)) => P u.1 u.2.1 u.2.2) (fun u => wC ad s_bk u.1 u.2.1 u.2.2 s_ct k_ce k_bc m_ra m_up m_on m_lo m_hi m_mo m_ma m_li n_rg n_sb n_st n_pl n_z n_n n_h n_c n_en n_so n_co n_sc l_bk l_of l_en l_ct t_bk t_of t_en t_ct)) := by
  refine ct_of RS (by decide) rfl (Nat.le_of_ble_eq_true rfl) (fun G hl hD X hq => ?_)
  subst hl hD
  show go_ G 0 0 (wC ad s_bk s_ln s_kd s_vl s_ct k_ce k_bc m_ra m_up m_on m_lo m_hi m_mo m_ma m_li n_rg n_sb n_st n_pl n_z n_n n_h n_c n_en n_so n_co n_sc l_bk l_of l_en l_ct t_bk t_of t_en t_ct) 0 [(0, .ref (ad 1)), (1, .int a1), (2, .int a2)] []
  refine go_aload_n X 0 dS_append_0 rfl rfl ?_
  refine gt_S_24 X dS_append_1 ?_
  refine go_iconst X dS_append_4 kc_i1 ?_
  refine go_isub X dS_append_5 ?_
  refine go_nm (fun z1 ez1 => ?_)
  have hw := hw z1 ez1
  refine go_istore_n X dS_append_6 rfl (by decide) rfl ?_
  refine go_iload_n X 0 dS_append_7 rfl rfl ?_
  refine go_bipush X dS_append_8 kc_b48 ?_
  refine go_imul X dS_append_10 ?_
  refine go_aload_n X 1 dS_append_11 rfl rfl ?_
  refine gt_S_15 X dS_append_12 ?_
  refine go_iload_n X 0 dS_append_15 rfl rfl ?_
  have hz := hw.1
  have hw := hw.2
  refine ar_s_ln X hz dS_append_16 ?_
  refine go_iadd X dS_append_17 ?_
  refine go_nm (fun z2 ez2 => ?_)
  have hw := hw z2 ez2
  refine go_istore X dS_append_18 (by decide) rfl ?_
  refine go_aload_n X 2 dS_append_20 rfl rfl ?_
  refine gt_S_18 X dS_append_21 ?_
  refine go_iload X 0 dS_append_24 rfl ?_
  refine go_iload_n X 3 dS_append_26 rfl rfl ?_
  have hz := hw.1
  have hw := hw.2
  refine as_s_kd X hz dS_append_27 ?_
  refine go_aload_n X 2 dS_append_28 rfl rfl ?_
  refine gt_S_21 X dS_append_29 ?_
  refine go_iload X 0 dS_append_32 rfl ?_
  refine go_iload_n X 4 dS_append_34 rfl rfl ?_
  have hz := hw.1
  have hw := hw.2
  refine as_s_vl X hz dS_append_35 ?_
  refine go_aload_n X 2 dS_append_36 rfl rfl ?_
  refine gt_S_15 X dS_append_37 ?_
  refine go_iload_n X 1 dS_append_40 rfl rfl ?_
  refine go_dup2 X dS_append_41 rfl rfl ?_
  have hz := hw.1
  have hw := hw.2
  refine ar_s_ln X hz dS_append_42 ?_
  refine go_iconst X dS_append_43 kc_i1 ?_
  refine go_iadd X dS_append_44 ?_
  have hz := hw.1
  have hw := hw.2
  refine as_s_ln X hz dS_append_45 ?_
  exact go_vreturn X hq dS_append_46 (upd s_ln z1.toNatClampNeg ((s_ln z1.toNatClampNeg) + (1 : Int32)), upd s_kd z2.toNatClampNeg a1, upd s_vl z2.toNatClampNeg a2) hw rfl
theorem k_S_append {G : gt_} {ad : Nat → Nat} {cc : ByteArray} {own : String} {fr lo n cells slots pc index : Nat} {lc : List (Nat × Value)} {rest : List Value} {s_bk s_ln s_kd s_vl : Nat → Int32} {s_ct : Int32} {k_ce : Nat → Int32} {k_bc : Int32} {m_ra m_up : Nat → Int32} {m_on m_lo m_hi m_mo m_ma m_li : Int32} {n_rg n_sb : Nat → Int32} {n_st n_pl n_z n_n n_h n_c n_en n_so n_co n_sc : Int32} {l_bk l_of l_en : Nat → Int32} {l_ct : Int32} {t_bk t_of t_en : Nat → Int32} {t_ct : Int32} {a1 a2 : Int32} {P : (Nat → Int32) → (Nat → Int32) → (Nat → Int32) → Prop} (X : cx_ G ad cc own fr lo n) (hw : wp_S_append s_ln s_kd s_vl s_ct a1 a2 P) (m1 : Cond.methodLink own index yS_append ∈ wS) (hlv : 0 + 1 ≤ fr ∧ 8 + (5 + 11) + 0 ≤ lo) (hrs : (rest.map fun v => v.category).sum ≤ 8) (hcs : cells ≤ (gR_ G).cells ∧ slots ≤ (gR_ G).slots) (d : decode cc pc = .ok (.invokevirtual index, 3))
    (kk : ∀ (s_ln' s_kd' s_vl' : Nat → Int32), P s_ln' s_kd' s_vl' → go_ G cells slots (wC ad s_bk s_ln' s_kd' s_vl' s_ct k_ce k_bc m_ra m_up m_on m_lo m_hi m_mo m_ma m_li n_rg n_sb n_st n_pl n_z n_n n_h n_c n_en n_so n_co n_sc l_bk l_of l_en l_ct t_bk t_of t_en t_ct) (pc + 3) lc (rest)) : go_ G cells slots (wC ad s_bk s_ln s_kd s_vl s_ct k_ce k_bc m_ra m_up m_on m_lo m_hi m_mo m_ma m_li n_rg n_sb n_st n_pl n_z n_n n_h n_c n_en n_so n_co n_sc l_bk l_of l_en l_ct t_bk t_of t_en t_ct) pc lc (.int a2 :: .int a1 :: .ref (ad 1) :: rest) :=
  go_cvv X (c_S_append hw) me_S_append m1 hlv 1 rfl rfl rfl hrs hcs d (fun u hp => kk u.1 u.2.1 u.2.2 hp)
set_option maxRecDepth 100000 in
set_option maxHeartbeats 4000000 in
theorem c_S_canTake {l : Launch} {D : va_G} {ad : Nat → Nat} {s_bk s_ln s_kd s_vl : Nat → Int32} {s_ct : Int32} {k_ce : Nat → Int32} {k_bc : Int32} {m_ra m_up : Nat → Int32} {m_on m_lo m_hi m_mo m_ma m_li : Int32} {n_rg n_sb : Nat → Int32} {n_st n_pl n_z n_n n_h n_c n_en n_so n_co n_sc : Int32} {l_bk l_of l_en : Nat → Int32} {l_ct : Int32} {t_bk t_of t_en : Nat → Int32} {t_ct : Int32} {a1 : Int32} {P : Int32 → Prop} (hw : wp_S_canTake s_ln s_ct a1 P) : ct_ l yS_canTake bS_canTake 2 (some .boolean) 0 0 D ad [.ref (ad 1), .int a1] (wC ad s_bk s_ln s_kd s_vl s_ct k_ce k_bc m_ra m_up m_on m_lo m_hi m_mo m_ma m_li n_rg n_sb n_st n_pl n_z n_n n_h n_c n_en n_so n_co n_sc l_bk l_of l_en l_ct t_bk t_of t_en t_ct) (qi_ D (fun (r : Int32) (_ : Unit) => P r ) (fun _ => (wC ad s_bk s_ln s_kd s_vl s_ct k_ce k_bc m_ra m_up m_on m_lo m_hi m_mo m_ma m_li n_rg n_sb n_st n_pl n_z n_n n_h n_c n_en n_so n_co n_sc l_bk l_of l_en l_ct t_bk t_of t_en t_ct))) := by
  refine ct_of RS (by decide) rfl (Nat.le_of_ble_eq_true rfl) (fun G hl hD X hq => ?_)
  subst hl hD
  show go_ G 0 0 (wC ad s_bk s_ln s_kd s_vl s_ct k_ce k_bc m_ra m_up m_on m_lo m_hi m_mo m_ma m_li n_rg n_sb n_st n_pl n_z n_n n_h n_c n_en n_so n_co n_sc l_bk l_of l_en l_ct t_bk t_of t_en t_ct) 0 [(0, .ref (ad 1)), (1, .int a1)] []
  refine go_aload_n X 0 dS_canTake_0 rfl rfl ?_
  refine gt_S_24 X dS_canTake_1 ?_
  refine go_if_le X dS_canTake_4 rfl (fun hc => ?_) (fun hc => ?_)
  · have hw := hw.1 hc
    refine go_iconst X dS_canTake_29 kc_i0 ?_
    exact go_zreturn X hq dS_canTake_30 (Or.inl rfl) () hw rfl
  · have hw := hw.2 hc
    refine go_aload_n X 0 dS_canTake_7 rfl rfl ?_
    refine gt_S_15 X dS_canTake_8 ?_
    refine go_aload_n X 0 dS_canTake_11 rfl rfl ?_
    refine gt_S_24 X dS_canTake_12 ?_
    refine go_iconst X dS_canTake_15 kc_i1 ?_
    refine go_isub X dS_canTake_16 ?_
    have hz := hw.1
    have hw := hw.2
    refine ar_s_ln X hz dS_canTake_17 ?_
    refine go_iload_n X 1 dS_canTake_18 rfl rfl ?_
    refine go_iadd X dS_canTake_19 ?_
    refine go_bipush X dS_canTake_20 kc_b48 ?_
    refine go_icmp_gt X dS_canTake_22 rfl (fun hc => ?_) (fun hc => ?_)
    · have hw := hw.1 hc
      refine go_iconst X dS_canTake_29 kc_i0 ?_
      exact go_zreturn X hq dS_canTake_30 (Or.inl rfl) () hw rfl
    · have hw := hw.2 hc
      refine go_iconst X dS_canTake_25 kc_i1 ?_
      refine go_goto X dS_canTake_26 rfl ?_
      exact go_zreturn X hq dS_canTake_30 (Or.inr rfl) () hw rfl
theorem k_S_canTake {G : gt_} {ad : Nat → Nat} {cc : ByteArray} {own : String} {fr lo n cells slots pc index : Nat} {lc : List (Nat × Value)} {rest : List Value} {s_bk s_ln s_kd s_vl : Nat → Int32} {s_ct : Int32} {k_ce : Nat → Int32} {k_bc : Int32} {m_ra m_up : Nat → Int32} {m_on m_lo m_hi m_mo m_ma m_li : Int32} {n_rg n_sb : Nat → Int32} {n_st n_pl n_z n_n n_h n_c n_en n_so n_co n_sc : Int32} {l_bk l_of l_en : Nat → Int32} {l_ct : Int32} {t_bk t_of t_en : Nat → Int32} {t_ct : Int32} {a1 : Int32} {P : Int32 → Prop} (X : cx_ G ad cc own fr lo n) (hw : wp_S_canTake s_ln s_ct a1 P) (m1 : Cond.methodLink own index yS_canTake ∈ wS) (hlv : 0 + 1 ≤ fr ∧ 8 + (2 + 11) + 0 ≤ lo) (hrs : (rest.map fun v => v.category).sum ≤ 8) (hcs : cells ≤ (gR_ G).cells ∧ slots ≤ (gR_ G).slots) (d : decode cc pc = .ok (.invokevirtual index, 3))
    (kk : ∀ (r : Int32), P r → go_ G cells slots (wC ad s_bk s_ln s_kd s_vl s_ct k_ce k_bc m_ra m_up m_on m_lo m_hi m_mo m_ma m_li n_rg n_sb n_st n_pl n_z n_n n_h n_c n_en n_so n_co n_sc l_bk l_of l_en l_ct t_bk t_of t_en t_ct) (pc + 3) lc (.int r :: rest)) : go_ G cells slots (wC ad s_bk s_ln s_kd s_vl s_ct k_ce k_bc m_ra m_up m_on m_lo m_hi m_mo m_ma m_li n_rg n_sb n_st n_pl n_z n_n n_h n_c n_en n_so n_co n_sc l_bk l_of l_en l_ct t_bk t_of t_en t_ct) pc lc (.int a1 :: .ref (ad 1) :: rest) :=
  go_cvi X (c_S_canTake hw) me_S_canTake m1 hlv 1 rfl rfl rfl hrs hcs d (fun r _ hp => kk r  hp)
set_option maxRecDepth 100000 in
set_option maxHeartbeats 4000000 in
theorem c_S_lacksOne {l : Launch} {D : va_G} {ad : Nat → Nat} {s_bk s_ln s_kd s_vl : Nat → Int32} {s_ct : Int32} {k_ce : Nat → Int32} {k_bc : Int32} {m_ra m_up : Nat → Int32} {m_on m_lo m_hi m_mo m_ma m_li : Int32} {n_rg n_sb : Nat → Int32} {n_st n_pl n_z n_n n_h n_c n_en n_so n_co n_sc : Int32} {l_bk l_of l_en : Nat → Int32} {l_ct : Int32} {t_bk t_of t_en : Nat → Int32} {t_ct : Int32}  {P : Int32 → Prop} (hw : wp_S_lacksOne s_ln s_kd s_vl s_ct  P) : ct_ l yS_lacksOne bS_lacksOne 4 (some .boolean) 0 0 D ad [.ref (ad 1)] (wC ad s_bk s_ln s_kd s_vl s_ct k_ce k_bc m_ra m_up m_on m_lo m_hi m_mo m_ma m_li n_rg n_sb n_st n_pl n_z n_n n_h n_c n_en n_so n_co n_sc l_bk l_of l_en l_ct t_bk t_of t_en t_ct) (qi_ D (fun (r : Int32) (_ : Unit) => P r ) (fun _ => (wC ad s_bk s_ln s_kd s_vl s_ct k_ce k_bc m_ra m_up m_on m_lo m_hi m_mo m_ma m_li n_rg n_sb n_st n_pl n_z n_n n_h n_c n_en n_so n_co n_sc l_bk l_of l_en l_ct t_bk t_of t_en t_ct))) := by
  refine ct_of RS (by decide) rfl (Nat.le_of_ble_eq_true rfl) (fun G hl hD X hq => ?_)
  subst hl hD
  show go_ G 0 0 (wC ad s_bk s_ln s_kd s_vl s_ct k_ce k_bc m_ra m_up m_on m_lo m_hi m_mo m_ma m_li n_rg n_sb n_st n_pl n_z n_n n_h n_c n_en n_so n_co n_sc l_bk l_of l_en l_ct t_bk t_of t_en t_ct) 0 [(0, .ref (ad 1))] []
  have C12 : ∀ (K2 : Int32 → Prop) (hK2 : ∀ (x1 : Int32), K2 x1 → go_ G 0 0 (wC ad s_bk s_ln s_kd s_vl s_ct k_ce k_bc m_ra m_up m_on m_lo m_hi m_mo m_ma m_li n_rg n_sb n_st n_pl n_z n_n n_h n_c n_en n_so n_co n_sc l_bk l_of l_en l_ct t_bk t_of t_en t_ct) 2 [(0, .ref (ad 1)), (1, .int x1)] []) (n9 : Nat) (x1 x2 : Int32), wp_S_lacksOne_12 s_ln s_kd s_vl s_ct K2 P n9 x1 x2 → go_ G 0 0 (wC ad s_bk s_ln s_kd s_vl s_ct k_ce k_bc m_ra m_up m_on m_lo m_hi m_mo m_ma m_li n_rg n_sb n_st n_pl n_z n_n n_h n_c n_en n_so n_co n_sc l_bk l_of l_en l_ct t_bk t_of t_en t_ct) 12 [(0, .ref (ad 1)), (1, .int x1), (2, .int x2)] [] := by
    intro K2 hK2 n9
    induction n9 with
    | zero =>
      intro x1 x2 hw
      exact False.elim hw
    | succ n9 ih =>
      intro x1 x2 hw
      refine go_iload_n X 2 dS_lacksOne_12 rfl rfl ?_
      refine go_aload_n X 0 dS_lacksOne_13 rfl rfl ?_
      refine gt_S_15 X dS_lacksOne_14 ?_
      refine go_iload_n X 1 dS_lacksOne_17 rfl rfl ?_
      have hz := hw.1
      have hw := hw.2
      refine ar_s_ln X hz dS_lacksOne_18 ?_
      refine go_icmp_ge X dS_lacksOne_19 rfl (fun hc => ?_) (fun hc => ?_)
      · have hw := hw.1 hc
        refine go_iinc X 1 dS_lacksOne_59 rfl (ki_1 _) (by decide) rfl ?_
        refine go_goto X dS_lacksOne_62 rfl ?_
        refine go_lc [1, 0] rfl ?_
        exact hK2 _ hw
      · have hw := hw.2 hc
        refine go_iload_n X 1 dS_lacksOne_22 rfl rfl ?_
        refine go_bipush X dS_lacksOne_23 kc_b48 ?_
        refine go_imul X dS_lacksOne_25 ?_
        refine go_iload_n X 2 dS_lacksOne_26 rfl rfl ?_
        refine go_iadd X dS_lacksOne_27 ?_
        refine go_nm (fun z1 ez1 => ?_)
        have hw := hw z1 ez1
        refine go_istore_n X dS_lacksOne_28 rfl (by decide) rfl ?_
        refine go_aload_n X 1 dS_lacksOne_29 rfl rfl ?_
        refine gt_S_18 X dS_lacksOne_30 ?_
        refine go_iload_n X 0 dS_lacksOne_33 rfl rfl ?_
        have hz := hw.1
        have hw := hw.2
        refine ar_s_kd X hz dS_lacksOne_34 ?_
        refine go_if_eq X dS_lacksOne_35 rfl (fun hc => ?_) (fun hc => ?_)
        · have hw := hw.1 hc
          refine go_iinc X 3 dS_lacksOne_53 rfl (ki_1 _) (by decide) rfl ?_
          refine go_goto X dS_lacksOne_56 rfl ?_
          refine go_lc [2, 3, 0] rfl ?_
          exact ih _ _ hw
        · have hw := hw.2 hc
          refine go_aload_n X 1 dS_lacksOne_38 rfl rfl ?_
          refine gt_S_21 X dS_lacksOne_39 ?_
          refine go_iload_n X 0 dS_lacksOne_42 rfl rfl ?_
          have hz := hw.1
          have hw := hw.2
          refine ar_s_vl X hz dS_lacksOne_43 ?_
          refine go_aload_n X 1 dS_lacksOne_44 rfl rfl ?_
          refine gt_S_24 X dS_lacksOne_45 ?_
          refine go_icmp_lt X dS_lacksOne_48 rfl (fun hc => ?_) (fun hc => ?_)
          · have hw := hw.1 hc
            refine go_iinc X 3 dS_lacksOne_53 rfl (ki_1 _) (by decide) rfl ?_
            refine go_goto X dS_lacksOne_56 rfl ?_
            refine go_lc [2, 3, 0] rfl ?_
            exact ih _ _ hw
          · have hw := hw.2 hc
            refine go_iconst X dS_lacksOne_51 kc_i1 ?_
            exact go_zreturn X hq dS_lacksOne_52 (Or.inr rfl) () hw rfl
  have C2 : ∀ (n9 : Nat) (x1 : Int32), wp_S_lacksOne_2 s_ln s_kd s_vl s_ct P n9 x1 → go_ G 0 0 (wC ad s_bk s_ln s_kd s_vl s_ct k_ce k_bc m_ra m_up m_on m_lo m_hi m_mo m_ma m_li n_rg n_sb n_st n_pl n_z n_n n_h n_c n_en n_so n_co n_sc l_bk l_of l_en l_ct t_bk t_of t_en t_ct) 2 [(0, .ref (ad 1)), (1, .int x1)] [] := by
    intro n9
    induction n9 with
    | zero =>
      intro x1 hw
      exact False.elim hw
    | succ n9 ih =>
      intro x1 hw
      refine go_iload_n X 1 dS_lacksOne_2 rfl rfl ?_
      refine go_aload_n X 0 dS_lacksOne_3 rfl rfl ?_
      refine gt_S_24 X dS_lacksOne_4 ?_
      refine go_icmp_ge X dS_lacksOne_7 rfl (fun hc => ?_) (fun hc => ?_)
      · have hw := hw.1 hc
        refine go_iconst X dS_lacksOne_65 kc_i0 ?_
        exact go_zreturn X hq dS_lacksOne_66 (Or.inl rfl) () hw rfl
      · have hw := hw.2 hc
        refine go_iconst X dS_lacksOne_10 kc_i0 ?_
        refine go_istore_n X dS_lacksOne_11 rfl (by decide) rfl ?_
        refine go_lc [1, 2, 0] rfl ?_
        obtain ⟨j9, hw⟩ := hw
        exact C12 (wp_S_lacksOne_2 s_ln s_kd s_vl s_ct P n9) ih j9 _ _ hw
  refine go_iconst X dS_lacksOne_0 kc_i0 ?_
  refine go_istore_n X dS_lacksOne_1 rfl (by decide) rfl ?_
  refine go_lc [1, 0] rfl ?_
  obtain ⟨j9, hw⟩ := hw
  exact C2 j9 _ hw
theorem k_S_lacksOne {G : gt_} {ad : Nat → Nat} {cc : ByteArray} {own : String} {fr lo n cells slots pc index : Nat} {lc : List (Nat × Value)} {rest : List Value} {s_bk s_ln s_kd s_vl : Nat → Int32} {s_ct : Int32} {k_ce : Nat → Int32} {k_bc : Int32} {m_ra m_up : Nat → Int32} {m_on m_lo m_hi m_mo m_ma m_li : Int32} {n_rg n_sb : Nat → Int32} {n_st n_pl n_z n_n n_h n_c n_en n_so n_co n_sc : Int32} {l_bk l_of l_en : Nat → Int32} {l_ct : Int32} {t_bk t_of t_en : Nat → Int32} {t_ct : Int32}  {P : Int32 → Prop} (X : cx_ G ad cc own fr lo n) (hw : wp_S_lacksOne s_ln s_kd s_vl s_ct  P) (m1 : Cond.methodLink own index yS_lacksOne ∈ wS) (hlv : 0 + 1 ≤ fr ∧ 8 + (4 + 11) + 0 ≤ lo) (hrs : (rest.map fun v => v.category).sum ≤ 8) (hcs : cells ≤ (gR_ G).cells ∧ slots ≤ (gR_ G).slots) (d : decode cc pc = .ok (.invokevirtual index, 3))
    (kk : ∀ (r : Int32), P r → go_ G cells slots (wC ad s_bk s_ln s_kd s_vl s_ct k_ce k_bc m_ra m_up m_on m_lo m_hi m_mo m_ma m_li n_rg n_sb n_st n_pl n_z n_n n_h n_c n_en n_so n_co n_sc l_bk l_of l_en l_ct t_bk t_of t_en t_ct) (pc + 3) lc (.int r :: rest)) : go_ G cells slots (wC ad s_bk s_ln s_kd s_vl s_ct k_ce k_bc m_ra m_up m_on m_lo m_hi m_mo m_ma m_li n_rg n_sb n_st n_pl n_z n_n n_h n_c n_en n_so n_co n_sc l_bk l_of l_en l_ct t_bk t_of t_en t_ct) pc lc (.ref (ad 1) :: rest) :=
  go_cvi X (c_S_lacksOne hw) me_S_lacksOne m1 hlv 1 rfl rfl rfl hrs hcs d (fun r _ hp => kk r  hp)
set_option maxRecDepth 100000 in
set_option maxHeartbeats 4000000 in
theorem c_S_open {l : Launch} {D : va_G} {ad : Nat → Nat} {s_bk s_ln s_kd s_vl : Nat → Int32} {s_ct : Int32} {k_ce : Nat → Int32} {k_bc : Int32} {m_ra m_up : Nat → Int32} {m_on m_lo m_hi m_mo m_ma m_li : Int32} {n_rg n_sb : Nat → Int32} {n_st n_pl n_z n_n n_h n_c n_en n_so n_co n_sc : Int32} {l_bk l_of l_en : Nat → Int32} {l_ct : Int32} {t_bk t_of t_en : Nat → Int32} {t_ct : Int32} {a1 : Int32} {P : Int32 → (Nat → Int32) → (Nat → Int32) → (Int32) → Prop} (hw : wp_S_open s_bk s_ln s_ct a1 P) : ct_ l yS_open bS_open 3 (some .int) 0 0 D ad [.ref (ad 1), .int a1] (wC ad s_bk s_ln s_kd s_vl s_ct k_ce k_bc m_ra m_up m_on m_lo m_hi m_mo m_ma m_li n_rg n_sb n_st n_pl n_z n_n n_h n_c n_en n_so n_co n_sc l_bk l_of l_en l_ct t_bk t_of t_en t_ct) (qi_ D (fun (r : Int32) (u : (Nat → Int32) × (Nat → Int32) × (Int32)) => P r u.1 u.2.1 u.2.2) (fun u => wC ad u.1 u.2.1 s_kd s_vl u.2.2 k_ce k_bc m_ra m_up m_on m_lo m_hi m_mo m_ma m_li n_rg n_sb n_st n_pl n_z n_n n_h n_c n_en n_so n_co n_sc l_bk l_of l_en l_ct t_bk t_of t_en t_ct)) := by
  refine ct_of RS (by decide) rfl (Nat.le_of_ble_eq_true rfl) (fun G hl hD X hq => ?_)
  subst hl hD
  show go_ G 0 0 (wC ad s_bk s_ln s_kd s_vl s_ct k_ce k_bc m_ra m_up m_on m_lo m_hi m_mo m_ma m_li n_rg n_sb n_st n_pl n_z n_n n_h n_c n_en n_so n_co n_sc l_bk l_of l_en l_ct t_bk t_of t_en t_ct) 0 [(0, .ref (ad 1)), (1, .int a1)] []
  refine go_aload_n X 0 dS_open_0 rfl rfl ?_
  refine gt_S_24 X dS_open_1 ?_
  refine go_istore_n X dS_open_4 rfl (by decide) rfl ?_
  refine go_aload_n X 1 dS_open_5 rfl rfl ?_
  refine gt_S_9 X dS_open_6 ?_
  refine go_iload_n X 0 dS_open_9 rfl rfl ?_
  refine go_iload_n X 2 dS_open_10 rfl rfl ?_
  have hz := hw.1
  have hw := hw.2
  refine as_s_bk X hz dS_open_11 ?_
  refine go_aload_n X 1 dS_open_12 rfl rfl ?_
  refine gt_S_15 X dS_open_13 ?_
  refine go_iload_n X 0 dS_open_16 rfl rfl ?_
  refine go_iconst X dS_open_17 kc_i0 ?_
  have hz := hw.1
  have hw := hw.2
  refine as_s_ln X hz dS_open_18 ?_
  refine go_aload_n X 1 dS_open_19 rfl rfl ?_
  refine go_iload_n X 0 dS_open_20 rfl rfl ?_
  refine go_iconst X dS_open_21 kc_i1 ?_
  refine go_iadd X dS_open_22 ?_
  refine pt_S_24 X dS_open_23 ?_
  refine go_iload_n X 0 dS_open_26 rfl rfl ?_
  exact go_ireturn X hq dS_open_27 (upd s_bk s_ct.toNatClampNeg a1, upd s_ln s_ct.toNatClampNeg (0 : Int32), s_ct + (1 : Int32)) hw rfl
theorem k_S_open {G : gt_} {ad : Nat → Nat} {cc : ByteArray} {own : String} {fr lo n cells slots pc index : Nat} {lc : List (Nat × Value)} {rest : List Value} {s_bk s_ln s_kd s_vl : Nat → Int32} {s_ct : Int32} {k_ce : Nat → Int32} {k_bc : Int32} {m_ra m_up : Nat → Int32} {m_on m_lo m_hi m_mo m_ma m_li : Int32} {n_rg n_sb : Nat → Int32} {n_st n_pl n_z n_n n_h n_c n_en n_so n_co n_sc : Int32} {l_bk l_of l_en : Nat → Int32} {l_ct : Int32} {t_bk t_of t_en : Nat → Int32} {t_ct : Int32} {a1 : Int32} {P : Int32 → (Nat → Int32) → (Nat → Int32) → (Int32) → Prop} (X : cx_ G ad cc own fr lo n) (hw : wp_S_open s_bk s_ln s_ct a1 P) (m1 : Cond.methodLink own index yS_open ∈ wS) (hlv : 0 + 1 ≤ fr ∧ 8 + (3 + 11) + 0 ≤ lo) (hrs : (rest.map fun v => v.category).sum ≤ 8) (hcs : cells ≤ (gR_ G).cells ∧ slots ≤ (gR_ G).slots) (d : decode cc pc = .ok (.invokevirtual index, 3))
    (kk : ∀ (r : Int32) (s_bk' s_ln' : Nat → Int32) (s_ct' : Int32), P r s_bk' s_ln' s_ct' → go_ G cells slots (wC ad s_bk' s_ln' s_kd s_vl s_ct' k_ce k_bc m_ra m_up m_on m_lo m_hi m_mo m_ma m_li n_rg n_sb n_st n_pl n_z n_n n_h n_c n_en n_so n_co n_sc l_bk l_of l_en l_ct t_bk t_of t_en t_ct) (pc + 3) lc (.int r :: rest)) : go_ G cells slots (wC ad s_bk s_ln s_kd s_vl s_ct k_ce k_bc m_ra m_up m_on m_lo m_hi m_mo m_ma m_li n_rg n_sb n_st n_pl n_z n_n n_h n_c n_en n_so n_co n_sc l_bk l_of l_en l_ct t_bk t_of t_en t_ct) pc lc (.int a1 :: .ref (ad 1) :: rest) :=
  go_cvi X (c_S_open hw) me_S_open m1 hlv 1 rfl rfl rfl hrs hcs d (fun r u hp => kk r u.1 u.2.1 u.2.2 hp)
set_option maxRecDepth 100000 in
set_option maxHeartbeats 4000000 in
theorem c_S_total {l : Launch} {D : va_G} {ad : Nat → Nat} {s_bk s_ln s_kd s_vl : Nat → Int32} {s_ct : Int32} {k_ce : Nat → Int32} {k_bc : Int32} {m_ra m_up : Nat → Int32} {m_on m_lo m_hi m_mo m_ma m_li : Int32} {n_rg n_sb : Nat → Int32} {n_st n_pl n_z n_n n_h n_c n_en n_so n_co n_sc : Int32} {l_bk l_of l_en : Nat → Int32} {l_ct : Int32} {t_bk t_of t_en : Nat → Int32} {t_ct : Int32}  {P : Int32 → Prop} (hw : wp_S_total s_ln s_ct  P) : ct_ l yS_total bS_total 3 (some .int) 0 0 D ad [.ref (ad 1)] (wC ad s_bk s_ln s_kd s_vl s_ct k_ce k_bc m_ra m_up m_on m_lo m_hi m_mo m_ma m_li n_rg n_sb n_st n_pl n_z n_n n_h n_c n_en n_so n_co n_sc l_bk l_of l_en l_ct t_bk t_of t_en t_ct) (qi_ D (fun (r : Int32) (_ : Unit) => P r ) (fun _ => (wC ad s_bk s_ln s_kd s_vl s_ct k_ce k_bc m_ra m_up m_on m_lo m_hi m_mo m_ma m_li n_rg n_sb n_st n_pl n_z n_n n_h n_c n_en n_so n_co n_sc l_bk l_of l_en l_ct t_bk t_of t_en t_ct))) := by
  refine ct_of RS (by decide) rfl (Nat.le_of_ble_eq_true rfl) (fun G hl hD X hq => ?_)
  subst hl hD
  show go_ G 0 0 (wC ad s_bk s_ln s_kd s_vl s_ct k_ce k_bc m_ra m_up m_on m_lo m_hi m_mo m_ma m_li n_rg n_sb n_st n_pl n_z n_n n_h n_c n_en n_so n_co n_sc l_bk l_of l_en l_ct t_bk t_of t_en t_ct) 0 [(0, .ref (ad 1))] []
  have C4 : ∀ (n9 : Nat) (x1 x2 : Int32), wp_S_total_4 s_ln s_ct P n9 x1 x2 → go_ G 0 0 (wC ad s_bk s_ln s_kd s_vl s_ct k_ce k_bc m_ra m_up m_on m_lo m_hi m_mo m_ma m_li n_rg n_sb n_st n_pl n_z n_n n_h n_c n_en n_so n_co n_sc l_bk l_of l_en l_ct t_bk t_of t_en t_ct) 4 [(0, .ref (ad 1)), (1, .int x1), (2, .int x2)] [] := by
    intro n9
    induction n9 with
    | zero =>
      intro x1 x2 hw
      exact False.elim hw
    | succ n9 ih =>
      intro x1 x2 hw
      refine go_iload_n X 2 dS_total_4 rfl rfl ?_
      refine go_aload_n X 0 dS_total_5 rfl rfl ?_
      refine gt_S_24 X dS_total_6 ?_
      refine go_icmp_ge X dS_total_9 rfl (fun hc => ?_) (fun hc => ?_)
      · have hw := hw.1 hc
        refine go_iload_n X 1 dS_total_27 rfl rfl ?_
        exact go_ireturn X hq dS_total_28 () hw rfl
      · have hw := hw.2 hc
        refine go_iload_n X 1 dS_total_12 rfl rfl ?_
        refine go_aload_n X 0 dS_total_13 rfl rfl ?_
        refine gt_S_15 X dS_total_14 ?_
        refine go_iload_n X 2 dS_total_17 rfl rfl ?_
        have hz := hw.1
        have hw := hw.2
        refine ar_s_ln X hz dS_total_18 ?_
        refine go_iadd X dS_total_19 ?_
        refine go_nm (fun z1 ez1 => ?_)
        have hw := hw z1 ez1
        refine go_istore_n X dS_total_20 rfl (by decide) rfl ?_
        refine go_iinc X 2 dS_total_21 rfl (ki_1 _) (by decide) rfl ?_
        refine go_goto X dS_total_24 rfl ?_
        refine go_lc [2, 1, 0] rfl ?_
        exact ih _ _ hw
  refine go_iconst X dS_total_0 kc_i0 ?_
  refine go_istore_n X dS_total_1 rfl (by decide) rfl ?_
  refine go_iconst X dS_total_2 kc_i0 ?_
  refine go_istore_n X dS_total_3 rfl (by decide) rfl ?_
  refine go_lc [2, 1, 0] rfl ?_
  obtain ⟨j9, hw⟩ := hw
  exact C4 j9 _ _ hw
theorem k_S_total {G : gt_} {ad : Nat → Nat} {cc : ByteArray} {own : String} {fr lo n cells slots pc index : Nat} {lc : List (Nat × Value)} {rest : List Value} {s_bk s_ln s_kd s_vl : Nat → Int32} {s_ct : Int32} {k_ce : Nat → Int32} {k_bc : Int32} {m_ra m_up : Nat → Int32} {m_on m_lo m_hi m_mo m_ma m_li : Int32} {n_rg n_sb : Nat → Int32} {n_st n_pl n_z n_n n_h n_c n_en n_so n_co n_sc : Int32} {l_bk l_of l_en : Nat → Int32} {l_ct : Int32} {t_bk t_of t_en : Nat → Int32} {t_ct : Int32}  {P : Int32 → Prop} (X : cx_ G ad cc own fr lo n) (hw : wp_S_total s_ln s_ct  P) (m1 : Cond.methodLink own index yS_total ∈ wS) (hlv : 0 + 1 ≤ fr ∧ 8 + (3 + 11) + 0 ≤ lo) (hrs : (rest.map fun v => v.category).sum ≤ 8) (hcs : cells ≤ (gR_ G).cells ∧ slots ≤ (gR_ G).slots) (d : decode cc pc = .ok (.invokevirtual index, 3))
    (kk : ∀ (r : Int32), P r → go_ G cells slots (wC ad s_bk s_ln s_kd s_vl s_ct k_ce k_bc m_ra m_up m_on m_lo m_hi m_mo m_ma m_li n_rg n_sb n_st n_pl n_z n_n n_h n_c n_en n_so n_co n_sc l_bk l_of l_en l_ct t_bk t_of t_en t_ct) (pc + 3) lc (.int r :: rest)) : go_ G cells slots (wC ad s_bk s_ln s_kd s_vl s_ct k_ce k_bc m_ra m_up m_on m_lo m_hi m_mo m_ma m_li n_rg n_sb n_st n_pl n_z n_n n_h n_c n_en n_so n_co n_sc l_bk l_of l_en l_ct t_bk t_of t_en t_ct) pc lc (.ref (ad 1) :: rest) :=
  go_cvi X (c_S_total hw) me_S_total m1 hlv 1 rfl rfl rfl hrs hcs d (fun r _ hp => kk r  hp)
set_option maxRecDepth 100000 in
set_option maxHeartbeats 4000000 in
theorem c_K_imageCheck {l : Launch} {D : va_G} {ad : Nat → Nat} {s_bk s_ln s_kd s_vl : Nat → Int32} {s_ct : Int32} {k_ce : Nat → Int32} {k_bc : Int32} {m_ra m_up : Nat → Int32} {m_on m_lo m_hi m_mo m_ma m_li : Int32} {n_rg n_sb : Nat → Int32} {n_st n_pl n_z n_n n_h n_c n_en n_so n_co n_sc : Int32} {l_bk l_of l_en : Nat → Int32} {l_ct : Int32} {t_bk t_of t_en : Nat → Int32} {t_ct : Int32}  {P : Int32 → Prop} (hw : wp_K_imageCheck k_ce k_bc  P) : ct_ l yK_imageCheck bK_imageCheck 3 (some .int) 1 20 D ad [.ref (ad 6)] (wC ad s_bk s_ln s_kd s_vl s_ct k_ce k_bc m_ra m_up m_on m_lo m_hi m_mo m_ma m_li n_rg n_sb n_st n_pl n_z n_n n_h n_c n_en n_so n_co n_sc l_bk l_of l_en l_ct t_bk t_of t_en t_ct) (qi_ D (fun (r : Int32) (_ : Unit) => P r ) (fun _ => (wC ad s_bk s_ln s_kd s_vl s_ct k_ce k_bc m_ra m_up m_on m_lo m_hi m_mo m_ma m_li n_rg n_sb n_st n_pl n_z n_n n_h n_c n_en n_so n_co n_sc l_bk l_of l_en l_ct t_bk t_of t_en t_ct))) := by
  refine ct_of RK (by decide) rfl (Nat.le_of_ble_eq_true rfl) (fun G hl hD X hq => ?_)
  subst hl hD
  show go_ G 0 0 (wC ad s_bk s_ln s_kd s_vl s_ct k_ce k_bc m_ra m_up m_on m_lo m_hi m_mo m_ma m_li n_rg n_sb n_st n_pl n_z n_n n_h n_c n_en n_so n_co n_sc l_bk l_of l_en l_ct t_bk t_of t_en t_ct) 0 [(0, .ref (ad 6))] []
  have C4 : ∀ (n9 : Nat) (x1 x2 : Int32), wp_K_imageCheck_4 k_ce k_bc P n9 x1 x2 → go_ G 0 0 (wC ad s_bk s_ln s_kd s_vl s_ct k_ce k_bc m_ra m_up m_on m_lo m_hi m_mo m_ma m_li n_rg n_sb n_st n_pl n_z n_n n_h n_c n_en n_so n_co n_sc l_bk l_of l_en l_ct t_bk t_of t_en t_ct) 4 [(0, .ref (ad 6)), (1, .int x1), (2, .int x2)] [] := by
    intro n9
    induction n9 with
    | zero =>
      intro x1 x2 hw
      exact False.elim hw
    | succ n9 ih =>
      intro x1 x2 hw
      refine go_iload_n X 2 dK_imageCheck_4 rfl rfl ?_
      refine go_aload_n X 0 dK_imageCheck_5 rfl rfl ?_
      refine k_K_size X hw mw_K_19 ⟨by decide, by decide⟩ (Nat.le_of_ble_eq_true rfl) ⟨Nat.zero_le _, Nat.zero_le _⟩ dK_imageCheck_6 (fun r1 hw => ?_)
      refine go_icmp_ge X dK_imageCheck_9 rfl (fun hc => ?_) (fun hc => ?_)
      · have hw := hw.1 hc
        refine go_iload_n X 1 dK_imageCheck_39 rfl rfl ?_
        refine go_ldc X mw_K_69 dK_imageCheck_40 ?_
        refine go_iand X dK_imageCheck_42 ?_
        exact go_ireturn X hq dK_imageCheck_43 () hw rfl
      · have hw := hw.2 hc
        refine go_iload_n X 2 dK_imageCheck_12 rfl rfl ?_
        refine go_bipush X dK_imageCheck_13 kc_b14 ?_
        refine go_icmp_eq X dK_imageCheck_15 rfl (fun hc => ?_) (fun hc => ?_)
        · have hw := hw.1 hc
          refine go_iinc X 2 dK_imageCheck_33 rfl (ki_1 _) (by decide) rfl ?_
          refine go_goto X dK_imageCheck_36 rfl ?_
          refine go_lc [1, 2, 0] rfl ?_
          exact ih _ _ hw
        · have hw := hw.2 hc
          refine go_iload_n X 2 dK_imageCheck_18 rfl rfl ?_
          refine go_bipush X dK_imageCheck_19 kc_b15 ?_
          refine go_icmp_eq X dK_imageCheck_21 rfl (fun hc => ?_) (fun hc => ?_)
          · have hw := hw.1 hc
            refine go_iinc X 2 dK_imageCheck_33 rfl (ki_1 _) (by decide) rfl ?_
            refine go_goto X dK_imageCheck_36 rfl ?_
            refine go_lc [1, 2, 0] rfl ?_
            exact ih _ _ hw
          · have hw := hw.2 hc
            refine go_iload_n X 1 dK_imageCheck_24 rfl rfl ?_
            refine go_aload_n X 0 dK_imageCheck_25 rfl rfl ?_
            refine gt_K_9 X dK_imageCheck_26 ?_
            refine go_iload_n X 2 dK_imageCheck_29 rfl rfl ?_
            have hz := hw.1
            have hw := hw.2
            refine ar_k_ce X hz dK_imageCheck_30 ?_
            refine go_iadd X dK_imageCheck_31 ?_
            refine go_nm (fun z2 ez2 => ?_)
            have hw := hw z2 ez2
            refine go_istore_n X dK_imageCheck_32 rfl (by decide) rfl ?_
            refine go_iinc X 2 dK_imageCheck_33 rfl (ki_1 _) (by decide) rfl ?_
            refine go_goto X dK_imageCheck_36 rfl ?_
            refine go_lc [2, 1, 0] rfl ?_
            exact ih _ _ hw
  refine go_iconst X dK_imageCheck_0 kc_i0 ?_
  refine go_istore_n X dK_imageCheck_1 rfl (by decide) rfl ?_
  refine go_iconst X dK_imageCheck_2 kc_i0 ?_
  refine go_istore_n X dK_imageCheck_3 rfl (by decide) rfl ?_
  refine go_lc [2, 1, 0] rfl ?_
  obtain ⟨j9, hw⟩ := hw
  exact C4 j9 _ _ hw
theorem k_K_imageCheck {G : gt_} {ad : Nat → Nat} {cc : ByteArray} {own : String} {fr lo n cells slots pc index : Nat} {lc : List (Nat × Value)} {rest : List Value} {s_bk s_ln s_kd s_vl : Nat → Int32} {s_ct : Int32} {k_ce : Nat → Int32} {k_bc : Int32} {m_ra m_up : Nat → Int32} {m_on m_lo m_hi m_mo m_ma m_li : Int32} {n_rg n_sb : Nat → Int32} {n_st n_pl n_z n_n n_h n_c n_en n_so n_co n_sc : Int32} {l_bk l_of l_en : Nat → Int32} {l_ct : Int32} {t_bk t_of t_en : Nat → Int32} {t_ct : Int32}  {P : Int32 → Prop} (X : cx_ G ad cc own fr lo n) (hw : wp_K_imageCheck k_ce k_bc  P) (m1 : Cond.methodLink own index yK_imageCheck ∈ wS) (hlv : 1 + 1 ≤ fr ∧ 8 + (3 + 11) + 20 ≤ lo) (hrs : (rest.map fun v => v.category).sum ≤ 8) (hcs : cells ≤ (gR_ G).cells ∧ slots ≤ (gR_ G).slots) (d : decode cc pc = .ok (.invokevirtual index, 3))
    (kk : ∀ (r : Int32), P r → go_ G cells slots (wC ad s_bk s_ln s_kd s_vl s_ct k_ce k_bc m_ra m_up m_on m_lo m_hi m_mo m_ma m_li n_rg n_sb n_st n_pl n_z n_n n_h n_c n_en n_so n_co n_sc l_bk l_of l_en l_ct t_bk t_of t_en t_ct) (pc + 3) lc (.int r :: rest)) : go_ G cells slots (wC ad s_bk s_ln s_kd s_vl s_ct k_ce k_bc m_ra m_up m_on m_lo m_hi m_mo m_ma m_li n_rg n_sb n_st n_pl n_z n_n n_h n_c n_en n_so n_co n_sc l_bk l_of l_en l_ct t_bk t_of t_en t_ct) pc lc (.ref (ad 6) :: rest) :=
  go_cvi X (c_K_imageCheck hw) me_K_imageCheck m1 hlv 6 rfl rfl rfl hrs hcs d (fun r _ hp => kk r  hp)
set_option maxRecDepth 100000 in
set_option maxHeartbeats 4000000 in
theorem c_K_lay {l : Launch} {D : va_G} {ad : Nat → Nat} {s_bk s_ln s_kd s_vl : Nat → Int32} {s_ct : Int32} {k_ce : Nat → Int32} {k_bc : Int32} {m_ra m_up : Nat → Int32} {m_on m_lo m_hi m_mo m_ma m_li : Int32} {n_rg n_sb : Nat → Int32} {n_st n_pl n_z n_n n_h n_c n_en n_so n_co n_sc : Int32} {l_bk l_of l_en : Nat → Int32} {l_ct : Int32} {t_bk t_of t_en : Nat → Int32} {t_ct : Int32} {a3 : Int32} {P : (Nat → Int32) → Prop} (hw : wp_K_lay s_ln s_kd s_vl k_ce l_bk l_of a3 P) : ct_ l yK_lay bK_lay 9 none 1 21 D ad [.ref (ad 6), .ref (ad 1), .ref (ad 14), .int a3] (wC ad s_bk s_ln s_kd s_vl s_ct k_ce k_bc m_ra m_up m_on m_lo m_hi m_mo m_ma m_li n_rg n_sb n_st n_pl n_z n_n n_h n_c n_en n_so n_co n_sc l_bk l_of l_en l_ct t_bk t_of t_en t_ct) (qv_ D (fun (u : (Nat → Int32)) => P u) (fun u => wC ad s_bk s_ln s_kd s_vl s_ct u k_bc m_ra m_up m_on m_lo m_hi m_mo m_ma m_li n_rg n_sb n_st n_pl n_z n_n n_h n_c n_en n_so n_co n_sc l_bk l_of l_en l_ct t_bk t_of t_en t_ct)) := by
  refine ct_of RK (by decide) rfl (Nat.le_of_ble_eq_true rfl) (fun G hl hD X hq => ?_)
  subst hl hD
  show go_ G 0 0 (wC ad s_bk s_ln s_kd s_vl s_ct k_ce k_bc m_ra m_up m_on m_lo m_hi m_mo m_ma m_li n_rg n_sb n_st n_pl n_z n_n n_h n_c n_en n_so n_co n_sc l_bk l_of l_en l_ct t_bk t_of t_en t_ct) 0 [(0, .ref (ad 6)), (1, .ref (ad 1)), (2, .ref (ad 14)), (3, .int a3)] []
  have C27 : ∀ (n9 : Nat) (k_ce : Nat → Int32) (x3 x4 x5 x6 : Int32), wp_K_lay_27 s_ln s_kd s_vl l_bk l_of P n9 k_ce x3 x4 x5 x6 → go_ G 0 0 (wC ad s_bk s_ln s_kd s_vl s_ct k_ce k_bc m_ra m_up m_on m_lo m_hi m_mo m_ma m_li n_rg n_sb n_st n_pl n_z n_n n_h n_c n_en n_so n_co n_sc l_bk l_of l_en l_ct t_bk t_of t_en t_ct) 27 [(0, .ref (ad 6)), (1, .ref (ad 1)), (2, .ref (ad 14)), (3, .int x3), (4, .int x4), (5, .int x5), (6, .int x6)] [] := by
    intro n9
    induction n9 with
    | zero =>
      intro k_ce x3 x4 x5 x6 hw
      exact False.elim hw
    | succ n9 ih =>
      intro k_ce x3 x4 x5 x6 hw
      refine go_iload X 6 dK_lay_27 rfl ?_
      refine go_aload_n X 1 dK_lay_29 rfl rfl ?_
      refine gt_K_60 X dK_lay_30 ?_
      refine go_iload_n X 3 dK_lay_33 rfl rfl ?_
      have hz := hw.1
      have hw := hw.2
      refine ar_s_ln X hz dK_lay_34 ?_
      refine go_icmp_ge X dK_lay_35 rfl (fun hc => ?_) (fun hc => ?_)
      · have hw := hw.1 hc
        exact go_vreturn X hq dK_lay_112 k_ce hw rfl
      · have hw := hw.2 hc
        refine go_aload_n X 1 dK_lay_38 rfl rfl ?_
        refine gt_K_63 X dK_lay_39 ?_
        refine go_iload X 4 dK_lay_42 rfl ?_
        refine go_iload X 6 dK_lay_44 rfl ?_
        refine go_iadd X dK_lay_46 ?_
        have hz := hw.1
        have hw := hw.2
        refine ar_s_vl X hz dK_lay_47 ?_
        refine go_nm (fun z3 ez3 => ?_)
        have hw := hw z3 ez3
        refine go_istore X dK_lay_48 (by decide) rfl ?_
        refine go_aload_n X 2 dK_lay_50 rfl rfl ?_
        refine gt_K_66 X dK_lay_51 ?_
        refine go_iload X 5 dK_lay_54 rfl ?_
        refine go_iload X 7 dK_lay_56 rfl ?_
        refine go_iadd X dK_lay_58 ?_
        have hz := hw.1
        have hw := hw.2
        refine ar_s_kd X hz dK_lay_59 ?_
        refine go_nm (fun z4 ez4 => ?_)
        have hw := hw z4 ez4
        refine go_istore X dK_lay_60 (by decide) rfl ?_
        refine go_iload X 0 dK_lay_62 rfl ?_
        refine go_iconst X dK_lay_64 kc_i1 ?_
        refine go_icmp_ne X dK_lay_65 rfl (fun hc => ?_) (fun hc => ?_)
        · have hw := hw.1 hc
          refine go_iload X 0 dK_lay_79 rfl ?_
          refine go_iconst X dK_lay_81 kc_i2 ?_
          refine go_icmp_ne X dK_lay_82 rfl (fun hc => ?_) (fun hc => ?_)
          · have hw := hw.1 hc
            refine go_aload_n X 2 dK_lay_94 rfl rfl ?_
            refine gt_K_9 X dK_lay_95 ?_
            refine go_iload X 7 dK_lay_98 rfl ?_
            refine go_iload X 8 dK_lay_100 rfl ?_
            refine go_iadd X dK_lay_102 ?_
            refine go_iload X 1 dK_lay_103 rfl ?_
            have hz := hw.1
            have hw := hw.2
            refine as_k_ce X hz dK_lay_105 ?_
            refine go_iinc X 8 dK_lay_106 rfl (ki_1 _) (by decide) rfl ?_
            refine go_goto X dK_lay_109 rfl ?_
            refine go_lc [3, 4, 5, 6, 7, 8, 0] rfl ?_
            exact ih _ _ _ _ _ hw
          · have hw := hw.2 hc
            refine go_aload_n X 4 dK_lay_85 rfl rfl ?_
            refine gt_K_54L X dK_lay_86 ?_
            refine go_iload X 1 dK_lay_89 rfl ?_
            have hz := hw.1
            have hw := hw.2
            refine ar_l_bk X hz dK_lay_91 ?_
            refine go_nm (fun z5 ez5 => ?_)
            have hw := hw z5 ez5
            refine go_istore X dK_lay_92 (by decide) rfl ?_
            refine go_aload_n X 2 dK_lay_94 rfl rfl ?_
            refine gt_K_9 X dK_lay_95 ?_
            refine go_iload X 7 dK_lay_98 rfl ?_
            refine go_iload X 8 dK_lay_100 rfl ?_
            refine go_iadd X dK_lay_102 ?_
            refine go_iload X 0 dK_lay_103 rfl ?_
            have hz := hw.1
            have hw := hw.2
            refine as_k_ce X hz dK_lay_105 ?_
            refine go_iinc X 8 dK_lay_106 rfl (ki_1 _) (by decide) rfl ?_
            refine go_goto X dK_lay_109 rfl ?_
            refine go_lc [3, 4, 5, 6, 7, 8, 0] rfl ?_
            exact ih _ _ _ _ _ hw
        · have hw := hw.2 hc
          refine go_aload_n X 4 dK_lay_68 rfl rfl ?_
          refine go_iload X 1 dK_lay_69 rfl ?_
          refine k_P_addressOf X hw mw_K_32 ⟨by decide, by decide⟩ (Nat.le_of_ble_eq_true rfl) ⟨Nat.zero_le _, Nat.zero_le _⟩ dK_lay_71 (fun r6 hw => ?_)
          refine go_istore X dK_lay_74 (by decide) rfl ?_
          refine go_goto X dK_lay_76 rfl ?_
          refine go_aload_n X 2 dK_lay_94 rfl rfl ?_
          refine gt_K_9 X dK_lay_95 ?_
          refine go_iload X 7 dK_lay_98 rfl ?_
          refine go_iload X 8 dK_lay_100 rfl ?_
          refine go_iadd X dK_lay_102 ?_
          refine go_iload X 0 dK_lay_103 rfl ?_
          have hz := hw.1
          have hw := hw.2
          refine as_k_ce X hz dK_lay_105 ?_
          refine go_iinc X 8 dK_lay_106 rfl (ki_1 _) (by decide) rfl ?_
          refine go_goto X dK_lay_109 rfl ?_
          refine go_lc [3, 4, 5, 6, 7, 8, 0] rfl ?_
          exact ih _ _ _ _ _ hw
  refine go_iload_n X 3 dK_lay_0 rfl rfl ?_
  refine go_bipush X dK_lay_1 kc_b48 ?_
  refine go_imul X dK_lay_3 ?_
  refine go_nm (fun z1 ez1 => ?_)
  have hw := hw z1 ez1
  refine go_istore X dK_lay_4 (by decide) rfl ?_
  refine go_aload_n X 3 dK_lay_6 rfl rfl ?_
  refine gt_K_54L X dK_lay_7 ?_
  refine go_iload_n X 4 dK_lay_10 rfl rfl ?_
  have hz := hw.1
  have hw := hw.2
  refine ar_l_bk X hz dK_lay_11 ?_
  refine go_bipush X dK_lay_12 kc_b64 ?_
  refine go_imul X dK_lay_14 ?_
  refine go_aload_n X 3 dK_lay_15 rfl rfl ?_
  refine gt_K_57L X dK_lay_16 ?_
  refine go_iload_n X 4 dK_lay_19 rfl rfl ?_
  have hz := hw.1
  have hw := hw.2
  refine ar_l_of X hz dK_lay_20 ?_
  refine go_iadd X dK_lay_21 ?_
  refine go_nm (fun z2 ez2 => ?_)
  have hw := hw z2 ez2
  refine go_istore X dK_lay_22 (by decide) rfl ?_
  refine go_iconst X dK_lay_24 kc_i0 ?_
  refine go_istore X dK_lay_25 (by decide) rfl ?_
  refine go_lc [3, 4, 5, 6, 2, 1, 0] rfl ?_
  obtain ⟨j9, hw⟩ := hw
  exact C27 j9 _ _ _ _ _ hw
theorem k_K_lay {G : gt_} {ad : Nat → Nat} {cc : ByteArray} {own : String} {fr lo n cells slots pc index : Nat} {lc : List (Nat × Value)} {rest : List Value} {s_bk s_ln s_kd s_vl : Nat → Int32} {s_ct : Int32} {k_ce : Nat → Int32} {k_bc : Int32} {m_ra m_up : Nat → Int32} {m_on m_lo m_hi m_mo m_ma m_li : Int32} {n_rg n_sb : Nat → Int32} {n_st n_pl n_z n_n n_h n_c n_en n_so n_co n_sc : Int32} {l_bk l_of l_en : Nat → Int32} {l_ct : Int32} {t_bk t_of t_en : Nat → Int32} {t_ct : Int32} {a3 : Int32} {P : (Nat → Int32) → Prop} (X : cx_ G ad cc own fr lo n) (hw : wp_K_lay s_ln s_kd s_vl k_ce l_bk l_of a3 P) (m1 : Cond.methodLink own index yK_lay ∈ wS) (hlv : 1 + 1 ≤ fr ∧ 8 + (9 + 11) + 21 ≤ lo) (hrs : (rest.map fun v => v.category).sum ≤ 8) (hcs : cells ≤ (gR_ G).cells ∧ slots ≤ (gR_ G).slots) (d : decode cc pc = .ok (.invokevirtual index, 3))
    (kk : ∀ (k_ce' : Nat → Int32), P k_ce' → go_ G cells slots (wC ad s_bk s_ln s_kd s_vl s_ct k_ce' k_bc m_ra m_up m_on m_lo m_hi m_mo m_ma m_li n_rg n_sb n_st n_pl n_z n_n n_h n_c n_en n_so n_co n_sc l_bk l_of l_en l_ct t_bk t_of t_en t_ct) (pc + 3) lc (rest)) : go_ G cells slots (wC ad s_bk s_ln s_kd s_vl s_ct k_ce k_bc m_ra m_up m_on m_lo m_hi m_mo m_ma m_li n_rg n_sb n_st n_pl n_z n_n n_h n_c n_en n_so n_co n_sc l_bk l_of l_en l_ct t_bk t_of t_en t_ct) pc lc (.int a3 :: .ref (ad 14) :: .ref (ad 1) :: .ref (ad 6) :: rest) :=
  go_cvv X (c_K_lay hw) me_K_lay m1 hlv 6 rfl rfl rfl hrs hcs d (fun u hp => kk u hp)
set_option maxRecDepth 100000 in
set_option maxHeartbeats 4000000 in
theorem c_M_read {l : Launch} {D : va_G} {ad : Nat → Nat} {s_bk s_ln s_kd s_vl : Nat → Int32} {s_ct : Int32} {k_ce : Nat → Int32} {k_bc : Int32} {m_ra m_up : Nat → Int32} {m_on m_lo m_hi m_mo m_ma m_li : Int32} {n_rg n_sb : Nat → Int32} {n_st n_pl n_z n_n n_h n_c n_en n_so n_co n_sc : Int32} {l_bk l_of l_en : Nat → Int32} {l_ct : Int32} {t_bk t_of t_en : Nat → Int32} {t_ct : Int32} {a1 : Int32} {P : Int32 → Prop} (hw : wp_M_read k_ce k_bc m_ra m_up m_on m_lo m_hi m_mo m_ma m_li a1 P) : ct_ l yM_read bM_read 2 (some .int) 1 22 D ad [.ref (ad 8), .int a1] (wC ad s_bk s_ln s_kd s_vl s_ct k_ce k_bc m_ra m_up m_on m_lo m_hi m_mo m_ma m_li n_rg n_sb n_st n_pl n_z n_n n_h n_c n_en n_so n_co n_sc l_bk l_of l_en l_ct t_bk t_of t_en t_ct) (qi_ D (fun (r : Int32) (_ : Unit) => P r ) (fun _ => (wC ad s_bk s_ln s_kd s_vl s_ct k_ce k_bc m_ra m_up m_on m_lo m_hi m_mo m_ma m_li n_rg n_sb n_st n_pl n_z n_n n_h n_c n_en n_so n_co n_sc l_bk l_of l_en l_ct t_bk t_of t_en t_ct))) := by
  refine ct_of RM (by decide) rfl (Nat.le_of_ble_eq_true rfl) (fun G hl hD X hq => ?_)
  subst hl hD
  show go_ G 0 0 (wC ad s_bk s_ln s_kd s_vl s_ct k_ce k_bc m_ra m_up m_on m_lo m_hi m_mo m_ma m_li n_rg n_sb n_st n_pl n_z n_n n_h n_c n_en n_so n_co n_sc l_bk l_of l_en l_ct t_bk t_of t_en t_ct) 0 [(0, .ref (ad 8)), (1, .int a1)] []
  refine go_iload_n X 1 dM_read_0 rfl rfl ?_
  refine go_bipush X dM_read_1 kc_b64 ?_
  refine go_icmp_ge X dM_read_3 rfl (fun hc => ?_) (fun hc => ?_)
  · have hw := hw.1 hc
    refine go_iload_n X 1 dM_read_33 rfl rfl ?_
    refine go_sipush X dM_read_34 kc_s128 ?_
    refine go_icmp_ge X dM_read_37 rfl (fun hc => ?_) (fun hc => ?_)
    · have hw := hw.1 hc
      refine go_iload_n X 1 dM_read_63 rfl rfl ?_
      refine go_sipush X dM_read_64 kc_s192 ?_
      refine go_icmp_ge X dM_read_67 rfl (fun hc => ?_) (fun hc => ?_)
      · have hw := hw.1 hc
        refine go_iload_n X 1 dM_read_94 rfl rfl ?_
        refine go_sipush X dM_read_95 kc_s254 ?_
        refine go_icmp_ge X dM_read_98 rfl (fun hc => ?_) (fun hc => ?_)
        · have hw := hw.1 hc
          refine go_iload_n X 1 dM_read_112 rfl rfl ?_
          refine go_sipush X dM_read_113 kc_s254 ?_
          refine go_icmp_ne X dM_read_116 rfl (fun hc => ?_) (fun hc => ?_)
          · have hw := hw.1 hc
            refine go_aload_n X 0 dM_read_126 rfl rfl ?_
            refine gt_M_39 X dM_read_127 ?_
            exact go_ireturn X hq dM_read_130 () hw rfl
          · have hw := hw.2 hc
            refine go_aload_n X 0 dM_read_119 rfl rfl ?_
            refine gt_M_36 X dM_read_120 ?_
            refine go_goto X dM_read_123 rfl ?_
            exact go_ireturn X hq dM_read_130 () hw rfl
        · have hw := hw.2 hc
          refine go_aload_n X 0 dM_read_101 rfl rfl ?_
          refine gt_M_15 X dM_read_102 ?_
          refine go_iload_n X 1 dM_read_105 rfl rfl ?_
          refine go_sipush X dM_read_106 kc_s192 ?_
          refine go_isub X dM_read_109 ?_
          have hz := hw.1
          have hw := hw.2
          refine ar_m_up X hz dM_read_110 ?_
          exact go_ireturn X hq dM_read_111 () hw rfl
      · have hw := hw.2 hc
        refine go_aload_n X 0 dM_read_70 rfl rfl ?_
        refine gt_M_22 X dM_read_71 ?_
        refine go_if_eq X dM_read_74 rfl (fun hc => ?_) (fun hc => ?_)
        · have hw := hw.1 hc
          refine go_sipush X dM_read_90 kc_s255 ?_
          exact go_ireturn X hq dM_read_93 () hw rfl
        · have hw := hw.2 hc
          refine go_aload_n X 0 dM_read_77 rfl rfl ?_
          refine gt_M_9 X dM_read_78 ?_
          refine go_aload_n X 0 dM_read_81 rfl rfl ?_
          refine go_iload_n X 1 dM_read_82 rfl rfl ?_
          refine k_M_ramPlace X hw mw_M_48 ⟨by decide, by decide⟩ (Nat.le_of_ble_eq_true rfl) ⟨Nat.zero_le _, Nat.zero_le _⟩ dM_read_83 (fun r1 hw => ?_)
          have hz := hw.1
          have hw := hw.2
          refine ar_m_ra X hz dM_read_86 ?_
          refine go_goto X dM_read_87 rfl ?_
          exact go_ireturn X hq dM_read_93 () hw rfl
    · have hw := hw.2 hc
      refine go_aload_n X 0 dM_read_40 rfl rfl ?_
      refine gt_M_18 X dM_read_41 ?_
      refine go_iconst X dM_read_44 kc_i4 ?_
      refine go_aload_n X 0 dM_read_45 rfl rfl ?_
      refine gt_M_30 X dM_read_46 ?_
      refine go_imul X dM_read_49 ?_
      refine go_aload_n X 0 dM_read_50 rfl rfl ?_
      refine gt_M_26 X dM_read_51 ?_
      refine go_iadd X dM_read_54 ?_
      refine go_iload_n X 1 dM_read_55 rfl rfl ?_
      refine go_bipush X dM_read_56 kc_b64 ?_
      refine go_isub X dM_read_58 ?_
      refine k_K_at X hw mw_M_42 ⟨by decide, by decide⟩ (Nat.le_of_ble_eq_true rfl) ⟨Nat.zero_le _, Nat.zero_le _⟩ dM_read_59 (fun r2 hw => ?_)
      exact go_ireturn X hq dM_read_62 () hw rfl
  · have hw := hw.2 hc
    refine go_aload_n X 0 dM_read_6 rfl rfl ?_
    refine gt_M_18 X dM_read_7 ?_
    refine go_aload_n X 0 dM_read_10 rfl rfl ?_
    refine gt_M_33 X dM_read_11 ?_
    refine go_iconst X dM_read_14 kc_i1 ?_
    refine go_icmp_ne X dM_read_15 rfl (fun hc => ?_) (fun hc => ?_)
    · have hw := hw.1 hc
      refine go_iconst X dM_read_27 kc_i0 ?_
      refine go_iload_n X 1 dM_read_28 rfl rfl ?_
      refine k_K_at X hw mw_M_42 ⟨by decide, by decide⟩ (Nat.le_of_ble_eq_true rfl) ⟨Nat.zero_le _, Nat.zero_le _⟩ dM_read_29 (fun r3 hw => ?_)
      exact go_ireturn X hq dM_read_32 () hw rfl
    · have hw := hw.2 hc
      refine go_iconst X dM_read_18 kc_i4 ?_
      refine go_aload_n X 0 dM_read_19 rfl rfl ?_
      refine gt_M_30 X dM_read_20 ?_
      refine go_imul X dM_read_23 ?_
      refine go_goto X dM_read_24 rfl ?_
      refine go_iload_n X 1 dM_read_28 rfl rfl ?_
      refine k_K_at X hw mw_M_42 ⟨by decide, by decide⟩ (Nat.le_of_ble_eq_true rfl) ⟨Nat.zero_le _, Nat.zero_le _⟩ dM_read_29 (fun r4 hw => ?_)
      exact go_ireturn X hq dM_read_32 () hw rfl
theorem k_M_read {G : gt_} {ad : Nat → Nat} {cc : ByteArray} {own : String} {fr lo n cells slots pc index : Nat} {lc : List (Nat × Value)} {rest : List Value} {s_bk s_ln s_kd s_vl : Nat → Int32} {s_ct : Int32} {k_ce : Nat → Int32} {k_bc : Int32} {m_ra m_up : Nat → Int32} {m_on m_lo m_hi m_mo m_ma m_li : Int32} {n_rg n_sb : Nat → Int32} {n_st n_pl n_z n_n n_h n_c n_en n_so n_co n_sc : Int32} {l_bk l_of l_en : Nat → Int32} {l_ct : Int32} {t_bk t_of t_en : Nat → Int32} {t_ct : Int32} {a1 : Int32} {P : Int32 → Prop} (X : cx_ G ad cc own fr lo n) (hw : wp_M_read k_ce k_bc m_ra m_up m_on m_lo m_hi m_mo m_ma m_li a1 P) (m1 : Cond.methodLink own index yM_read ∈ wS) (hlv : 1 + 1 ≤ fr ∧ 8 + (2 + 11) + 22 ≤ lo) (hrs : (rest.map fun v => v.category).sum ≤ 8) (hcs : cells ≤ (gR_ G).cells ∧ slots ≤ (gR_ G).slots) (d : decode cc pc = .ok (.invokevirtual index, 3))
    (kk : ∀ (r : Int32), P r → go_ G cells slots (wC ad s_bk s_ln s_kd s_vl s_ct k_ce k_bc m_ra m_up m_on m_lo m_hi m_mo m_ma m_li n_rg n_sb n_st n_pl n_z n_n n_h n_c n_en n_so n_co n_sc l_bk l_of l_en l_ct t_bk t_of t_en t_ct) (pc + 3) lc (.int r :: rest)) : go_ G cells slots (wC ad s_bk s_ln s_kd s_vl s_ct k_ce k_bc m_ra m_up m_on m_lo m_hi m_mo m_ma m_li n_rg n_sb n_st n_pl n_z n_n n_h n_c n_en n_so n_co n_sc l_bk l_of l_en l_ct t_bk t_of t_en t_ct) pc lc (.int a1 :: .ref (ad 8) :: rest) :=
  go_cvi X (c_M_read hw) me_M_read m1 hlv 8 rfl rfl rfl hrs hcs d (fun r _ hp => kk r  hp)
set_option maxRecDepth 100000 in
set_option maxHeartbeats 4000000 in
theorem c_M_write {l : Launch} {D : va_G} {ad : Nat → Nat} {s_bk s_ln s_kd s_vl : Nat → Int32} {s_ct : Int32} {k_ce : Nat → Int32} {k_bc : Int32} {m_ra m_up : Nat → Int32} {m_on m_lo m_hi m_mo m_ma m_li : Int32} {n_rg n_sb : Nat → Int32} {n_st n_pl n_z n_n n_h n_c n_en n_so n_co n_sc : Int32} {l_bk l_of l_en : Nat → Int32} {l_ct : Int32} {t_bk t_of t_en : Nat → Int32} {t_ct : Int32} {a1 a2 : Int32} {P : (Nat → Int32) → (Nat → Int32) → (Int32) → (Int32) → (Int32) → (Int32) → (Int32) → (Int32) → Prop} (hw : wp_M_write m_ra m_up m_on m_lo m_hi m_mo m_ma m_li a1 a2 P) : ct_ l yM_write bM_write 3 none 1 22 D ad [.ref (ad 8), .int a1, .int a2] (wC ad s_bk s_ln s_kd s_vl s_ct k_ce k_bc m_ra m_up m_on m_lo m_hi m_mo m_ma m_li n_rg n_sb n_st n_pl n_z n_n n_h n_c n_en n_so n_co n_sc l_bk l_of l_en l_ct t_bk t_of t_en t_ct) (qv_ D (fun (u : (Nat → Int32) × (Nat → Int32) × (Int32) × (Int32) × (Int32) × (Int32) × (Int32) × (Int32)) => P u.1 u.2.1 u.2.2.1 u.2.2.2.1 u.2.2.2.2.1 u.2.2.2.2.2.1 u.2.2.2.2.2.2.1 u.2.2.2.2.2.2.2) (fun u => wC ad s_bk s_ln s_kd s_vl s_ct k_ce k_bc u.1 u.2.1 u.2.2.1 u.2.2.2.1 u.2.2.2.2.1 u.2.2.2.2.2.1 u.2.2.2.2.2.2.1 u.2.2.2.2.2.2.2 n_rg n_sb n_st n_pl n_z n_n n_h n_c n_en n_so n_co n_sc l_bk l_of l_en l_ct t_bk t_of t_en t_ct)) := by
  refine ct_of RM (by decide) rfl (Nat.le_of_ble_eq_true rfl) (fun G hl hD X hq => ?_)
  subst hl hD
  show go_ G 0 0 (wC ad s_bk s_ln s_kd s_vl s_ct k_ce k_bc m_ra m_up m_on m_lo m_hi m_mo m_ma m_li n_rg n_sb n_st n_pl n_z n_n n_h n_c n_en n_so n_co n_sc l_bk l_of l_en l_ct t_bk t_of t_en t_ct) 0 [(0, .ref (ad 8)), (1, .int a1), (2, .int a2)] []
  refine go_iload_n X 1 dM_write_0 rfl rfl ?_
  refine go_sipush X dM_write_1 kc_s128 ?_
  refine go_icmp_ge X dM_write_4 rfl (fun hc => ?_) (fun hc => ?_)
  · have hw := hw.1 hc
    refine go_iload_n X 1 dM_write_19 rfl rfl ?_
    refine go_sipush X dM_write_20 kc_s192 ?_
    refine go_icmp_ge X dM_write_23 rfl (fun hc => ?_) (fun hc => ?_)
    · have hw := hw.1 hc
      refine go_iload_n X 1 dM_write_47 rfl rfl ?_
      refine go_sipush X dM_write_48 kc_s254 ?_
      refine go_icmp_ge X dM_write_51 rfl (fun hc => ?_) (fun hc => ?_)
      · have hw := hw.1 hc
        refine go_iload_n X 1 dM_write_68 rfl rfl ?_
        refine go_sipush X dM_write_69 kc_s254 ?_
        refine go_icmp_ne X dM_write_72 rfl (fun hc => ?_) (fun hc => ?_)
        · have hw := hw.1 hc
          refine go_aload_n X 0 dM_write_86 rfl rfl ?_
          refine go_iload_n X 2 dM_write_87 rfl rfl ?_
          refine go_bipush X dM_write_88 kc_b15 ?_
          refine go_iand X dM_write_90 ?_
          refine pt_M_39 X dM_write_91 ?_
          exact go_vreturn X hq dM_write_94 (m_ra, m_up, m_on, m_lo, m_hi, m_mo, m_ma, a2 &&& (15 : Int32)) hw rfl
        · have hw := hw.2 hc
          refine go_aload_n X 0 dM_write_75 rfl rfl ?_
          refine go_iload_n X 2 dM_write_76 rfl rfl ?_
          refine go_bipush X dM_write_77 kc_b15 ?_
          refine go_iand X dM_write_79 ?_
          refine pt_M_36 X dM_write_80 ?_
          refine go_goto X dM_write_83 rfl ?_
          exact go_vreturn X hq dM_write_94 (m_ra, m_up, m_on, m_lo, m_hi, m_mo, a2 &&& (15 : Int32), m_li) hw rfl
      · have hw := hw.2 hc
        refine go_aload_n X 0 dM_write_54 rfl rfl ?_
        refine gt_M_15 X dM_write_55 ?_
        refine go_iload_n X 1 dM_write_58 rfl rfl ?_
        refine go_sipush X dM_write_59 kc_s192 ?_
        refine go_isub X dM_write_62 ?_
        refine go_iload_n X 2 dM_write_63 rfl rfl ?_
        have hz := hw.1
        have hw := hw.2
        refine as_m_up X hz dM_write_64 ?_
        refine go_goto X dM_write_65 rfl ?_
        exact go_vreturn X hq dM_write_94 (m_ra, upd m_up (a1 - (192 : Int32)).toNatClampNeg a2, m_on, m_lo, m_hi, m_mo, m_ma, m_li) hw rfl
    · have hw := hw.2 hc
      refine go_aload_n X 0 dM_write_26 rfl rfl ?_
      refine gt_M_22 X dM_write_27 ?_
      refine go_if_eq X dM_write_30 rfl (fun hc => ?_) (fun hc => ?_)
      · have hw := hw.1 hc
        exact go_vreturn X hq dM_write_94 (m_ra, m_up, m_on, m_lo, m_hi, m_mo, m_ma, m_li) hw rfl
      · have hw := hw.2 hc
        refine go_aload_n X 0 dM_write_33 rfl rfl ?_
        refine gt_M_9 X dM_write_34 ?_
        refine go_aload_n X 0 dM_write_37 rfl rfl ?_
        refine go_iload_n X 1 dM_write_38 rfl rfl ?_
        refine k_M_ramPlace X hw mw_M_48 ⟨by decide, by decide⟩ (Nat.le_of_ble_eq_true rfl) ⟨Nat.zero_le _, Nat.zero_le _⟩ dM_write_39 (fun r1 hw => ?_)
        refine go_iload_n X 2 dM_write_42 rfl rfl ?_
        have hz := hw.1
        have hw := hw.2
        refine as_m_ra X hz dM_write_43 ?_
        refine go_goto X dM_write_44 rfl ?_
        exact go_vreturn X hq dM_write_94 (upd m_ra r1.toNatClampNeg a2, m_up, m_on, m_lo, m_hi, m_mo, m_ma, m_li) hw rfl
  · have hw := hw.2 hc
    refine go_aload_n X 0 dM_write_7 rfl rfl ?_
    refine go_iload_n X 1 dM_write_8 rfl rfl ?_
    refine go_bipush X dM_write_9 kc_b32 ?_
    refine go_idiv X dM_write_11 (by decide) ?_
    refine go_iload_n X 2 dM_write_12 rfl rfl ?_
    refine k_M_turnSwitch X hw mw_M_52 ⟨by decide, by decide⟩ (Nat.le_of_ble_eq_true rfl) ⟨Nat.zero_le _, Nat.zero_le _⟩ dM_write_13 (fun w2 w3 w4 w5 hw => ?_)
    refine go_goto X dM_write_16 rfl ?_
    exact go_vreturn X hq dM_write_94 (m_ra, m_up, w2, w3, w4, w5, m_ma, m_li) hw rfl
theorem k_M_write {G : gt_} {ad : Nat → Nat} {cc : ByteArray} {own : String} {fr lo n cells slots pc index : Nat} {lc : List (Nat × Value)} {rest : List Value} {s_bk s_ln s_kd s_vl : Nat → Int32} {s_ct : Int32} {k_ce : Nat → Int32} {k_bc : Int32} {m_ra m_up : Nat → Int32} {m_on m_lo m_hi m_mo m_ma m_li : Int32} {n_rg n_sb : Nat → Int32} {n_st n_pl n_z n_n n_h n_c n_en n_so n_co n_sc : Int32} {l_bk l_of l_en : Nat → Int32} {l_ct : Int32} {t_bk t_of t_en : Nat → Int32} {t_ct : Int32} {a1 a2 : Int32} {P : (Nat → Int32) → (Nat → Int32) → (Int32) → (Int32) → (Int32) → (Int32) → (Int32) → (Int32) → Prop} (X : cx_ G ad cc own fr lo n) (hw : wp_M_write m_ra m_up m_on m_lo m_hi m_mo m_ma m_li a1 a2 P) (m1 : Cond.methodLink own index yM_write ∈ wS) (hlv : 1 + 1 ≤ fr ∧ 8 + (3 + 11) + 22 ≤ lo) (hrs : (rest.map fun v => v.category).sum ≤ 8) (hcs : cells ≤ (gR_ G).cells ∧ slots ≤ (gR_ G).slots) (d : decode cc pc = .ok (.invokevirtual index, 3))
    (kk : ∀ (m_ra' m_up' : Nat → Int32) (m_on' m_lo' m_hi' m_mo' m_ma' m_li' : Int32), P m_ra' m_up' m_on' m_lo' m_hi' m_mo' m_ma' m_li' → go_ G cells slots (wC ad s_bk s_ln s_kd s_vl s_ct k_ce k_bc m_ra' m_up' m_on' m_lo' m_hi' m_mo' m_ma' m_li' n_rg n_sb n_st n_pl n_z n_n n_h n_c n_en n_so n_co n_sc l_bk l_of l_en l_ct t_bk t_of t_en t_ct) (pc + 3) lc (rest)) : go_ G cells slots (wC ad s_bk s_ln s_kd s_vl s_ct k_ce k_bc m_ra m_up m_on m_lo m_hi m_mo m_ma m_li n_rg n_sb n_st n_pl n_z n_n n_h n_c n_en n_so n_co n_sc l_bk l_of l_en l_ct t_bk t_of t_en t_ct) pc lc (.int a2 :: .int a1 :: .ref (ad 8) :: rest) :=
  go_cvv X (c_M_write hw) me_M_write m1 hlv 8 rfl rfl rfl hrs hcs d (fun u hp => kk u.1 u.2.1 u.2.2.1 u.2.2.2.1 u.2.2.2.2.1 u.2.2.2.2.2.1 u.2.2.2.2.2.2.1 u.2.2.2.2.2.2.2 hp)
set_option maxRecDepth 100000 in
set_option maxHeartbeats 4000000 in
theorem c_P_packLowest {l : Launch} {D : va_G} {ad : Nat → Nat} {s_bk s_ln s_kd s_vl : Nat → Int32} {s_ct : Int32} {k_ce : Nat → Int32} {k_bc : Int32} {m_ra m_up : Nat → Int32} {m_on m_lo m_hi m_mo m_ma m_li : Int32} {n_rg n_sb : Nat → Int32} {n_st n_pl n_z n_n n_h n_c n_en n_so n_co n_sc : Int32} {l_bk l_of l_en : Nat → Int32} {l_ct : Int32} {t_bk t_of t_en : Nat → Int32} {t_ct : Int32} {a1 a2 a3 : Int32} {P : Int32 → (Nat → Int32) → (Nat → Int32) → (Nat → Int32) → Prop} (hw : wp_P_packLowest t_bk t_of t_en a1 a2 a3 P) : ct_ l yP_packLowest bP_packLowest 5 (some .boolean) 1 23 D ad [.ref (ad 18), .int a1, .int a2, .int a3] (wC ad s_bk s_ln s_kd s_vl s_ct k_ce k_bc m_ra m_up m_on m_lo m_hi m_mo m_ma m_li n_rg n_sb n_st n_pl n_z n_n n_h n_c n_en n_so n_co n_sc l_bk l_of l_en l_ct t_bk t_of t_en t_ct) (qi_ D (fun (r : Int32) (u : (Nat → Int32) × (Nat → Int32) × (Nat → Int32)) => P r u.1 u.2.1 u.2.2) (fun u => wC ad s_bk s_ln s_kd s_vl s_ct k_ce k_bc m_ra m_up m_on m_lo m_hi m_mo m_ma m_li n_rg n_sb n_st n_pl n_z n_n n_h n_c n_en n_so n_co n_sc l_bk l_of l_en l_ct u.1 u.2.1 u.2.2 t_ct)) := by
  refine ct_of RP (by decide) rfl (Nat.le_of_ble_eq_true rfl) (fun G hl hD X hq => ?_)
  subst hl hD
  show go_ G 0 0 (wC ad s_bk s_ln s_kd s_vl s_ct k_ce k_bc m_ra m_up m_on m_lo m_hi m_mo m_ma m_li n_rg n_sb n_st n_pl n_z n_n n_h n_c n_en n_so n_co n_sc l_bk l_of l_en l_ct t_bk t_of t_en t_ct) 0 [(0, .ref (ad 18)), (1, .int a1), (2, .int a2), (3, .int a3)] []
  have C3 : ∀ (n9 : Nat) (t_bk t_of t_en : Nat → Int32) (x1 x2 x3 x4 : Int32), wp_P_packLowest_3 P n9 t_bk t_of t_en x1 x2 x3 x4 → go_ G 0 0 (wC ad s_bk s_ln s_kd s_vl s_ct k_ce k_bc m_ra m_up m_on m_lo m_hi m_mo m_ma m_li n_rg n_sb n_st n_pl n_z n_n n_h n_c n_en n_so n_co n_sc l_bk l_of l_en l_ct t_bk t_of t_en t_ct) 3 [(0, .ref (ad 18)), (1, .int x1), (2, .int x2), (3, .int x3), (4, .int x4)] [] := by
    intro n9
    induction n9 with
    | zero =>
      intro t_bk t_of t_en x1 x2 x3 x4 hw
      exact False.elim hw
    | succ n9 ih =>
      intro t_bk t_of t_en x1 x2 x3 x4 hw
      refine go_iload X 4 dP_packLowest_3 rfl ?_
      refine go_iload_n X 3 dP_packLowest_5 rfl rfl ?_
      refine go_icmp_ge X dP_packLowest_6 rfl (fun hc => ?_) (fun hc => ?_)
      · have hw := hw.1 hc
        refine go_iconst X dP_packLowest_35 kc_i0 ?_
        exact go_zreturn X hq dP_packLowest_36 (Or.inl rfl) (t_bk, t_of, t_en) hw rfl
      · have hw := hw.2 hc
        refine go_aload_n X 0 dP_packLowest_9 rfl rfl ?_
        refine go_iload X 4 dP_packLowest_10 rfl ?_
        refine go_iload_n X 2 dP_packLowest_12 rfl rfl ?_
        refine k_P_fits X hw mw_P_39 ⟨by decide, by decide⟩ (Nat.le_of_ble_eq_true rfl) ⟨Nat.zero_le _, Nat.zero_le _⟩ dP_packLowest_13 (fun r1 hw => ?_)
        refine go_if_eq X dP_packLowest_16 rfl (fun hc => ?_) (fun hc => ?_)
        · have hw := hw.1 hc
          refine go_iinc X 4 dP_packLowest_29 rfl (ki_1 _) (by decide) rfl ?_
          refine go_goto X dP_packLowest_32 rfl ?_
          refine go_lc [1, 2, 3, 4, 0] rfl ?_
          exact ih _ _ _ _ _ _ _ hw
        · have hw := hw.2 hc
          refine go_aload_n X 0 dP_packLowest_19 rfl rfl ?_
          refine go_iload_n X 1 dP_packLowest_20 rfl rfl ?_
          refine go_iload X 4 dP_packLowest_21 rfl ?_
          refine go_iload_n X 2 dP_packLowest_23 rfl rfl ?_
          refine k_P_put X hw mw_P_43 ⟨by decide, by decide⟩ (Nat.le_of_ble_eq_true rfl) ⟨Nat.zero_le _, Nat.zero_le _⟩ dP_packLowest_24 (fun w2 w3 w4 hw => ?_)
          refine go_iconst X dP_packLowest_27 kc_i1 ?_
          exact go_zreturn X hq dP_packLowest_28 (Or.inr rfl) (w2, w3, w4) hw rfl
  refine go_iconst X dP_packLowest_0 kc_i0 ?_
  refine go_istore X dP_packLowest_1 (by decide) rfl ?_
  refine go_lc [1, 2, 3, 4, 0] rfl ?_
  obtain ⟨j9, hw⟩ := hw
  exact C3 j9 _ _ _ _ _ _ _ hw
theorem k_P_packLowest {G : gt_} {ad : Nat → Nat} {cc : ByteArray} {own : String} {fr lo n cells slots pc index : Nat} {lc : List (Nat × Value)} {rest : List Value} {s_bk s_ln s_kd s_vl : Nat → Int32} {s_ct : Int32} {k_ce : Nat → Int32} {k_bc : Int32} {m_ra m_up : Nat → Int32} {m_on m_lo m_hi m_mo m_ma m_li : Int32} {n_rg n_sb : Nat → Int32} {n_st n_pl n_z n_n n_h n_c n_en n_so n_co n_sc : Int32} {l_bk l_of l_en : Nat → Int32} {l_ct : Int32} {t_bk t_of t_en : Nat → Int32} {t_ct : Int32} {a1 a2 a3 : Int32} {P : Int32 → (Nat → Int32) → (Nat → Int32) → (Nat → Int32) → Prop} (X : cx_ G ad cc own fr lo n) (hw : wp_P_packLowest t_bk t_of t_en a1 a2 a3 P) (m1 : Cond.methodLink own index yP_packLowest ∈ wS) (hlv : 1 + 1 ≤ fr ∧ 8 + (5 + 11) + 23 ≤ lo) (hrs : (rest.map fun v => v.category).sum ≤ 8) (hcs : cells ≤ (gR_ G).cells ∧ slots ≤ (gR_ G).slots) (d : decode cc pc = .ok (.invokevirtual index, 3))
    (kk : ∀ (r : Int32) (t_bk' t_of' t_en' : Nat → Int32), P r t_bk' t_of' t_en' → go_ G cells slots (wC ad s_bk s_ln s_kd s_vl s_ct k_ce k_bc m_ra m_up m_on m_lo m_hi m_mo m_ma m_li n_rg n_sb n_st n_pl n_z n_n n_h n_c n_en n_so n_co n_sc l_bk l_of l_en l_ct t_bk' t_of' t_en' t_ct) (pc + 3) lc (.int r :: rest)) : go_ G cells slots (wC ad s_bk s_ln s_kd s_vl s_ct k_ce k_bc m_ra m_up m_on m_lo m_hi m_mo m_ma m_li n_rg n_sb n_st n_pl n_z n_n n_h n_c n_en n_so n_co n_sc l_bk l_of l_en l_ct t_bk t_of t_en t_ct) pc lc (.int a3 :: .int a2 :: .int a1 :: .ref (ad 18) :: rest) :=
  go_cvi X (c_P_packLowest hw) me_P_packLowest m1 hlv 18 rfl rfl rfl hrs hcs d (fun r u hp => kk r u.1 u.2.1 u.2.2 hp)
set_option maxRecDepth 100000 in
set_option maxHeartbeats 4000000 in
theorem c_P_packPinned {l : Launch} {D : va_G} {ad : Nat → Nat} {s_bk s_ln s_kd s_vl : Nat → Int32} {s_ct : Int32} {k_ce : Nat → Int32} {k_bc : Int32} {m_ra m_up : Nat → Int32} {m_on m_lo m_hi m_mo m_ma m_li : Int32} {n_rg n_sb : Nat → Int32} {n_st n_pl n_z n_n n_h n_c n_en n_so n_co n_sc : Int32} {l_bk l_of l_en : Nat → Int32} {l_ct : Int32} {t_bk t_of t_en : Nat → Int32} {t_ct : Int32} {a2 : Int32} {P : Int32 → (Nat → Int32) → (Nat → Int32) → (Nat → Int32) → Prop} (hw : wp_P_packPinned s_bk s_ln t_bk t_of t_en t_ct a2 P) : ct_ l yP_packPinned bP_packPinned 5 (some .boolean) 1 23 D ad [.ref (ad 18), .ref (ad 1), .int a2] (wC ad s_bk s_ln s_kd s_vl s_ct k_ce k_bc m_ra m_up m_on m_lo m_hi m_mo m_ma m_li n_rg n_sb n_st n_pl n_z n_n n_h n_c n_en n_so n_co n_sc l_bk l_of l_en l_ct t_bk t_of t_en t_ct) (qi_ D (fun (r : Int32) (u : (Nat → Int32) × (Nat → Int32) × (Nat → Int32)) => P r u.1 u.2.1 u.2.2) (fun u => wC ad s_bk s_ln s_kd s_vl s_ct k_ce k_bc m_ra m_up m_on m_lo m_hi m_mo m_ma m_li n_rg n_sb n_st n_pl n_z n_n n_h n_c n_en n_so n_co n_sc l_bk l_of l_en l_ct u.1 u.2.1 u.2.2 t_ct)) := by
  refine ct_of RP (by decide) rfl (Nat.le_of_ble_eq_true rfl) (fun G hl hD X hq => ?_)
  subst hl hD
  show go_ G 0 0 (wC ad s_bk s_ln s_kd s_vl s_ct k_ce k_bc m_ra m_up m_on m_lo m_hi m_mo m_ma m_li n_rg n_sb n_st n_pl n_z n_n n_h n_c n_en n_so n_co n_sc l_bk l_of l_en l_ct t_bk t_of t_en t_ct) 0 [(0, .ref (ad 18)), (1, .ref (ad 1)), (2, .int a2)] []
  have C2 : ∀ (n9 : Nat) (t_bk t_of t_en : Nat → Int32) (x2 x3 : Int32), wp_P_packPinned_2 s_bk s_ln t_ct P n9 t_bk t_of t_en x2 x3 → go_ G 0 0 (wC ad s_bk s_ln s_kd s_vl s_ct k_ce k_bc m_ra m_up m_on m_lo m_hi m_mo m_ma m_li n_rg n_sb n_st n_pl n_z n_n n_h n_c n_en n_so n_co n_sc l_bk l_of l_en l_ct t_bk t_of t_en t_ct) 2 [(0, .ref (ad 18)), (1, .ref (ad 1)), (2, .int x2), (3, .int x3)] [] := by
    intro n9
    induction n9 with
    | zero =>
      intro t_bk t_of t_en x2 x3 hw
      exact False.elim hw
    | succ n9 ih =>
      intro t_bk t_of t_en x2 x3 hw
      refine go_iload_n X 3 dP_packPinned_2 rfl rfl ?_
      refine go_aload_n X 0 dP_packPinned_3 rfl rfl ?_
      refine gt_P_27T X dP_packPinned_4 ?_
      refine go_icmp_ge X dP_packPinned_7 rfl (fun hc => ?_) (fun hc => ?_)
      · have hw := hw.1 hc
        refine go_iconst X dP_packPinned_69 kc_i1 ?_
        exact go_zreturn X hq dP_packPinned_70 (Or.inr rfl) (t_bk, t_of, t_en) hw rfl
      · have hw := hw.2 hc
        refine go_aload_n X 1 dP_packPinned_10 rfl rfl ?_
        refine gt_P_35 X dP_packPinned_11 ?_
        refine go_iload_n X 3 dP_packPinned_14 rfl rfl ?_
        have hz := hw.1
        have hw := hw.2
        refine ar_s_bk X hz dP_packPinned_15 ?_
        refine go_nm (fun z1 ez1 => ?_)
        have hw := hw z1 ez1
        refine go_istore X dP_packPinned_16 (by decide) rfl ?_
        refine go_iload X 0 dP_packPinned_18 rfl ?_
        refine go_iconst X dP_packPinned_20 kc_im1 ?_
        refine go_icmp_ne X dP_packPinned_21 rfl (fun hc => ?_) (fun hc => ?_)
        · have hw := hw.1 hc
          refine go_iload X 0 dP_packPinned_27 rfl ?_
          refine go_iload_n X 3 dP_packPinned_29 rfl rfl ?_
          refine go_icmp_ge X dP_packPinned_30 rfl (fun hc => ?_) (fun hc => ?_)
          · have hw := hw.1 hc
            refine go_iconst X dP_packPinned_48 kc_i0 ?_
            exact go_zreturn X hq dP_packPinned_49 (Or.inl rfl) (t_bk, t_of, t_en) hw rfl
          · have hw := hw.2 hc
            refine go_aload_n X 1 dP_packPinned_33 rfl rfl ?_
            refine go_iload X 0 dP_packPinned_34 rfl ?_
            refine go_aload_n X 2 dP_packPinned_36 rfl rfl ?_
            refine gt_P_36 X dP_packPinned_37 ?_
            refine go_iload_n X 4 dP_packPinned_40 rfl rfl ?_
            have hz := hw.1
            have hw := hw.2
            refine ar_s_ln X hz dP_packPinned_41 ?_
            refine k_P_fits X hw mw_P_39 ⟨by decide, by decide⟩ (Nat.le_of_ble_eq_true rfl) ⟨Nat.zero_le _, Nat.zero_le _⟩ dP_packPinned_42 (fun r2 hw => ?_)
            refine go_if_ne X dP_packPinned_45 rfl (fun hc => ?_) (fun hc => ?_)
            · have hw := hw.1 hc
              refine go_aload_n X 1 dP_packPinned_50 rfl rfl ?_
              refine go_iload_n X 4 dP_packPinned_51 rfl rfl ?_
              refine go_iload X 0 dP_packPinned_52 rfl ?_
              refine go_aload_n X 2 dP_packPinned_54 rfl rfl ?_
              refine gt_P_36 X dP_packPinned_55 ?_
              refine go_iload_n X 4 dP_packPinned_58 rfl rfl ?_
              have hz := hw.1
              have hw := hw.2
              refine ar_s_ln X hz dP_packPinned_59 ?_
              refine k_P_put X hw mw_P_43 ⟨by decide, by decide⟩ (Nat.le_of_ble_eq_true rfl) ⟨Nat.zero_le _, Nat.zero_le _⟩ dP_packPinned_60 (fun w3 w4 w5 hw => ?_)
              refine go_iinc X 4 dP_packPinned_63 rfl (ki_1 _) (by decide) rfl ?_
              refine go_goto X dP_packPinned_66 rfl ?_
              refine go_lc [2, 3, 4, 0] rfl ?_
              exact ih _ _ _ _ _ hw
            · have hw := hw.2 hc
              refine go_iconst X dP_packPinned_48 kc_i0 ?_
              exact go_zreturn X hq dP_packPinned_49 (Or.inl rfl) (t_bk, t_of, t_en) hw rfl
        · have hw := hw.2 hc
          refine go_goto X dP_packPinned_24 rfl ?_
          refine go_iinc X 4 dP_packPinned_63 rfl (ki_1 _) (by decide) rfl ?_
          refine go_goto X dP_packPinned_66 rfl ?_
          refine go_lc [2, 3, 4, 0] rfl ?_
          exact ih _ _ _ _ _ hw
  refine go_iconst X dP_packPinned_0 kc_i0 ?_
  refine go_istore_n X dP_packPinned_1 rfl (by decide) rfl ?_
  refine go_lc [1, 2, 3, 0] rfl ?_
  obtain ⟨j9, hw⟩ := hw
  exact C2 j9 _ _ _ _ _ hw
theorem k_P_packPinned {G : gt_} {ad : Nat → Nat} {cc : ByteArray} {own : String} {fr lo n cells slots pc index : Nat} {lc : List (Nat × Value)} {rest : List Value} {s_bk s_ln s_kd s_vl : Nat → Int32} {s_ct : Int32} {k_ce : Nat → Int32} {k_bc : Int32} {m_ra m_up : Nat → Int32} {m_on m_lo m_hi m_mo m_ma m_li : Int32} {n_rg n_sb : Nat → Int32} {n_st n_pl n_z n_n n_h n_c n_en n_so n_co n_sc : Int32} {l_bk l_of l_en : Nat → Int32} {l_ct : Int32} {t_bk t_of t_en : Nat → Int32} {t_ct : Int32} {a2 : Int32} {P : Int32 → (Nat → Int32) → (Nat → Int32) → (Nat → Int32) → Prop} (X : cx_ G ad cc own fr lo n) (hw : wp_P_packPinned s_bk s_ln t_bk t_of t_en t_ct a2 P) (m1 : Cond.methodLink own index yP_packPinned ∈ wS) (hlv : 1 + 1 ≤ fr ∧ 8 + (5 + 11) + 23 ≤ lo) (hrs : (rest.map fun v => v.category).sum ≤ 8) (hcs : cells ≤ (gR_ G).cells ∧ slots ≤ (gR_ G).slots) (d : decode cc pc = .ok (.invokevirtual index, 3))
    (kk : ∀ (r : Int32) (t_bk' t_of' t_en' : Nat → Int32), P r t_bk' t_of' t_en' → go_ G cells slots (wC ad s_bk s_ln s_kd s_vl s_ct k_ce k_bc m_ra m_up m_on m_lo m_hi m_mo m_ma m_li n_rg n_sb n_st n_pl n_z n_n n_h n_c n_en n_so n_co n_sc l_bk l_of l_en l_ct t_bk' t_of' t_en' t_ct) (pc + 3) lc (.int r :: rest)) : go_ G cells slots (wC ad s_bk s_ln s_kd s_vl s_ct k_ce k_bc m_ra m_up m_on m_lo m_hi m_mo m_ma m_li n_rg n_sb n_st n_pl n_z n_n n_h n_c n_en n_so n_co n_sc l_bk l_of l_en l_ct t_bk t_of t_en t_ct) pc lc (.int a2 :: .ref (ad 1) :: .ref (ad 18) :: rest) :=
  go_cvi X (c_P_packPinned hw) me_P_packPinned m1 hlv 18 rfl rfl rfl hrs hcs d (fun r u hp => kk r u.1 u.2.1 u.2.2 hp)
set_option maxRecDepth 100000 in
set_option maxHeartbeats 4000000 in
theorem c_K_verdict {l : Launch} {D : va_G} {ad : Nat → Nat} {s_bk s_ln s_kd s_vl : Nat → Int32} {s_ct : Int32} {k_ce : Nat → Int32} {k_bc : Int32} {m_ra m_up : Nat → Int32} {m_on m_lo m_hi m_mo m_ma m_li : Int32} {n_rg n_sb : Nat → Int32} {n_st n_pl n_z n_n n_h n_c n_en n_so n_co n_sc : Int32} {l_bk l_of l_en : Nat → Int32} {l_ct : Int32} {t_bk t_of t_en : Nat → Int32} {t_ct : Int32}  {P : Int32 → Prop} (hw : wp_K_verdict k_ce k_bc  P) : ct_ l yK_verdict bK_verdict 2 (some .int) 2 42 D ad [.ref (ad 6)] (wC ad s_bk s_ln s_kd s_vl s_ct k_ce k_bc m_ra m_up m_on m_lo m_hi m_mo m_ma m_li n_rg n_sb n_st n_pl n_z n_n n_h n_c n_en n_so n_co n_sc l_bk l_of l_en l_ct t_bk t_of t_en t_ct) (qi_ D (fun (r : Int32) (_ : Unit) => P r ) (fun _ => (wC ad s_bk s_ln s_kd s_vl s_ct k_ce k_bc m_ra m_up m_on m_lo m_hi m_mo m_ma m_li n_rg n_sb n_st n_pl n_z n_n n_h n_c n_en n_so n_co n_sc l_bk l_of l_en l_ct t_bk t_of t_en t_ct))) := by
  refine ct_of RK (by decide) rfl (Nat.le_of_ble_eq_true rfl) (fun G hl hD X hq => ?_)
  subst hl hD
  show go_ G 0 0 (wC ad s_bk s_ln s_kd s_vl s_ct k_ce k_bc m_ra m_up m_on m_lo m_hi m_mo m_ma m_li n_rg n_sb n_st n_pl n_z n_n n_h n_c n_en n_so n_co n_sc l_bk l_of l_en l_ct t_bk t_of t_en t_ct) 0 [(0, .ref (ad 6))] []
  have C2 : ∀ (n9 : Nat) (x1 : Int32), wp_K_verdict_2 k_ce k_bc P n9 x1 → go_ G 0 0 (wC ad s_bk s_ln s_kd s_vl s_ct k_ce k_bc m_ra m_up m_on m_lo m_hi m_mo m_ma m_li n_rg n_sb n_st n_pl n_z n_n n_h n_c n_en n_so n_co n_sc l_bk l_of l_en l_ct t_bk t_of t_en t_ct) 2 [(0, .ref (ad 6)), (1, .int x1)] [] := by
    intro n9
    induction n9 with
    | zero =>
      intro x1 hw
      exact False.elim hw
    | succ n9 ih =>
      intro x1 hw
      refine go_iload_n X 1 dK_verdict_2 rfl rfl ?_
      refine go_bipush X dK_verdict_3 kc_b6 ?_
      refine go_icmp_ge X dK_verdict_5 rfl (fun hc => ?_) (fun hc => ?_)
      · have hw := hw.1 hc
        refine go_aload_n X 0 dK_verdict_30 rfl rfl ?_
        refine gt_K_9 X dK_verdict_31 ?_
        refine go_bipush X dK_verdict_34 kc_b6 ?_
        refine ar_k_ce X vi_6_512 dK_verdict_36 ?_
        refine go_aload_n X 0 dK_verdict_37 rfl rfl ?_
        refine k_K_sizeCode X hw mw_K_45 ⟨by decide, by decide⟩ (Nat.le_of_ble_eq_true rfl) ⟨Nat.zero_le _, Nat.zero_le _⟩ dK_verdict_38 (fun r1 hw => ?_)
        refine go_icmp_eq X dK_verdict_41 rfl (fun hc => ?_) (fun hc => ?_)
        · have hw := hw.1 hc
          refine go_aload_n X 0 dK_verdict_46 rfl rfl ?_
          refine gt_K_9 X dK_verdict_47 ?_
          refine go_bipush X dK_verdict_50 kc_b13 ?_
          refine ar_k_ce X vi_13_512 dK_verdict_52 ?_
          refine go_aload_n X 0 dK_verdict_53 rfl rfl ?_
          refine k_K_headCheck X hw mw_K_48 ⟨by decide, by decide⟩ (Nat.le_of_ble_eq_true rfl) ⟨Nat.zero_le _, Nat.zero_le _⟩ dK_verdict_54 (fun r2 hw => ?_)
          refine go_icmp_eq X dK_verdict_57 rfl (fun hc => ?_) (fun hc => ?_)
          · have hw := hw.1 hc
            refine go_aload_n X 0 dK_verdict_62 rfl rfl ?_
            refine gt_K_9 X dK_verdict_63 ?_
            refine go_bipush X dK_verdict_66 kc_b14 ?_
            refine ar_k_ce X vi_14_512 dK_verdict_68 ?_
            refine go_sipush X dK_verdict_69 kc_s256 ?_
            refine go_imul X dK_verdict_72 ?_
            refine go_aload_n X 0 dK_verdict_73 rfl rfl ?_
            refine gt_K_9 X dK_verdict_74 ?_
            refine go_bipush X dK_verdict_77 kc_b15 ?_
            refine ar_k_ce X vi_15_512 dK_verdict_79 ?_
            refine go_iadd X dK_verdict_80 ?_
            refine go_nm (fun z3 ez3 => ?_)
            have hw := hw z3 ez3
            refine go_istore_n X dK_verdict_81 rfl (by decide) rfl ?_
            refine go_iload_n X 0 dK_verdict_82 rfl rfl ?_
            refine go_aload_n X 1 dK_verdict_83 rfl rfl ?_
            refine k_K_imageCheck X hw mw_K_51 ⟨by decide, by decide⟩ (Nat.le_of_ble_eq_true rfl) ⟨Nat.zero_le _, Nat.zero_le _⟩ dK_verdict_84 (fun r4 hw => ?_)
            refine go_icmp_ne X dK_verdict_87 rfl (fun hc => ?_) (fun hc => ?_)
            · have hw := hw.1 hc
              refine go_iconst X dK_verdict_94 kc_i3 ?_
              exact go_ireturn X hq dK_verdict_95 () hw rfl
            · have hw := hw.2 hc
              refine go_iconst X dK_verdict_90 kc_i0 ?_
              refine go_goto X dK_verdict_91 rfl ?_
              exact go_ireturn X hq dK_verdict_95 () hw rfl
          · have hw := hw.2 hc
            refine go_iconst X dK_verdict_60 kc_i2 ?_
            exact go_ireturn X hq dK_verdict_61 () hw rfl
        · have hw := hw.2 hc
          refine go_iconst X dK_verdict_44 kc_i1 ?_
          exact go_ireturn X hq dK_verdict_45 () hw rfl
      · have hw := hw.2 hc
        refine go_aload_n X 0 dK_verdict_8 rfl rfl ?_
        refine gt_K_9 X dK_verdict_9 ?_
        refine go_iload_n X 1 dK_verdict_12 rfl rfl ?_
        have hz := hw.1
        have hw := hw.2
        refine ar_k_ce X hz dK_verdict_13 ?_
        refine go_head X mw_K_42 dK_verdict_14 ?_
        refine go_iload_n X 1 dK_verdict_17 rfl rfl ?_
        have hz := hw.1
        have hw := hw.2
        refine go_hald X hz dK_verdict_18 ?_
        refine go_icmp_eq X dK_verdict_19 rfl (fun hc => ?_) (fun hc => ?_)
        · have hw := hw.1 hc
          refine go_iinc X 1 dK_verdict_24 rfl (ki_1 _) (by decide) rfl ?_
          refine go_goto X dK_verdict_27 rfl ?_
          refine go_lc [1, 0] rfl ?_
          exact ih _ hw
        · have hw := hw.2 hc
          refine go_iconst X dK_verdict_22 kc_i1 ?_
          exact go_ireturn X hq dK_verdict_23 () hw rfl
  refine go_iconst X dK_verdict_0 kc_i2 ?_
  refine go_istore_n X dK_verdict_1 rfl (by decide) rfl ?_
  refine go_lc [1, 0] rfl ?_
  obtain ⟨j9, hw⟩ := hw
  exact C2 j9 _ hw
theorem k_K_verdict {G : gt_} {ad : Nat → Nat} {cc : ByteArray} {own : String} {fr lo n cells slots pc index : Nat} {lc : List (Nat × Value)} {rest : List Value} {s_bk s_ln s_kd s_vl : Nat → Int32} {s_ct : Int32} {k_ce : Nat → Int32} {k_bc : Int32} {m_ra m_up : Nat → Int32} {m_on m_lo m_hi m_mo m_ma m_li : Int32} {n_rg n_sb : Nat → Int32} {n_st n_pl n_z n_n n_h n_c n_en n_so n_co n_sc : Int32} {l_bk l_of l_en : Nat → Int32} {l_ct : Int32} {t_bk t_of t_en : Nat → Int32} {t_ct : Int32}  {P : Int32 → Prop} (X : cx_ G ad cc own fr lo n) (hw : wp_K_verdict k_ce k_bc  P) (m1 : Cond.methodLink own index yK_verdict ∈ wS) (hlv : 2 + 1 ≤ fr ∧ 8 + (2 + 11) + 42 ≤ lo) (hrs : (rest.map fun v => v.category).sum ≤ 8) (hcs : cells ≤ (gR_ G).cells ∧ slots ≤ (gR_ G).slots) (d : decode cc pc = .ok (.invokevirtual index, 3))
    (kk : ∀ (r : Int32), P r → go_ G cells slots (wC ad s_bk s_ln s_kd s_vl s_ct k_ce k_bc m_ra m_up m_on m_lo m_hi m_mo m_ma m_li n_rg n_sb n_st n_pl n_z n_n n_h n_c n_en n_so n_co n_sc l_bk l_of l_en l_ct t_bk t_of t_en t_ct) (pc + 3) lc (.int r :: rest)) : go_ G cells slots (wC ad s_bk s_ln s_kd s_vl s_ct k_ce k_bc m_ra m_up m_on m_lo m_hi m_mo m_ma m_li n_rg n_sb n_st n_pl n_z n_n n_h n_c n_en n_so n_co n_sc l_bk l_of l_en l_ct t_bk t_of t_en t_ct) pc lc (.ref (ad 6) :: rest) :=
  go_cvi X (c_K_verdict hw) me_K_verdict m1 hlv 6 rfl rfl rfl hrs hcs d (fun r _ hp => kk r  hp)
set_option maxRecDepth 100000 in
set_option maxHeartbeats 4000000 in
theorem c_K_writeHead {l : Launch} {D : va_G} {ad : Nat → Nat} {s_bk s_ln s_kd s_vl : Nat → Int32} {s_ct : Int32} {k_ce : Nat → Int32} {k_bc : Int32} {m_ra m_up : Nat → Int32} {m_on m_lo m_hi m_mo m_ma m_li : Int32} {n_rg n_sb : Nat → Int32} {n_st n_pl n_z n_n n_h n_c n_en n_so n_co n_sc : Int32} {l_bk l_of l_en : Nat → Int32} {l_ct : Int32} {t_bk t_of t_en : Nat → Int32} {t_ct : Int32} {a1 : Int32} {P : (Nat → Int32) → Prop} (hw : wp_K_writeHead k_ce k_bc a1 P) : ct_ l yK_writeHead bK_writeHead 3 none 2 42 D ad [.ref (ad 6), .int a1] (wC ad s_bk s_ln s_kd s_vl s_ct k_ce k_bc m_ra m_up m_on m_lo m_hi m_mo m_ma m_li n_rg n_sb n_st n_pl n_z n_n n_h n_c n_en n_so n_co n_sc l_bk l_of l_en l_ct t_bk t_of t_en t_ct) (qv_ D (fun (u : (Nat → Int32)) => P u) (fun u => wC ad s_bk s_ln s_kd s_vl s_ct u k_bc m_ra m_up m_on m_lo m_hi m_mo m_ma m_li n_rg n_sb n_st n_pl n_z n_n n_h n_c n_en n_so n_co n_sc l_bk l_of l_en l_ct t_bk t_of t_en t_ct)) := by
  refine ct_of RK (by decide) rfl (Nat.le_of_ble_eq_true rfl) (fun G hl hD X hq => ?_)
  subst hl hD
  show go_ G 0 0 (wC ad s_bk s_ln s_kd s_vl s_ct k_ce k_bc m_ra m_up m_on m_lo m_hi m_mo m_ma m_li n_rg n_sb n_st n_pl n_z n_n n_h n_c n_en n_so n_co n_sc l_bk l_of l_en l_ct t_bk t_of t_en t_ct) 0 [(0, .ref (ad 6)), (1, .int a1)] []
  have C2 : ∀ (n9 : Nat) (k_ce : Nat → Int32) (x1 x2 : Int32), wp_K_writeHead_2 k_bc P n9 k_ce x1 x2 → go_ G 0 0 (wC ad s_bk s_ln s_kd s_vl s_ct k_ce k_bc m_ra m_up m_on m_lo m_hi m_mo m_ma m_li n_rg n_sb n_st n_pl n_z n_n n_h n_c n_en n_so n_co n_sc l_bk l_of l_en l_ct t_bk t_of t_en t_ct) 2 [(0, .ref (ad 6)), (1, .int x1), (2, .int x2)] [] := by
    intro n9
    induction n9 with
    | zero =>
      intro k_ce x1 x2 hw
      exact False.elim hw
    | succ n9 ih =>
      intro k_ce x1 x2 hw
      refine go_iload_n X 2 dK_writeHead_2 rfl rfl ?_
      refine go_bipush X dK_writeHead_3 kc_b32 ?_
      refine go_icmp_ge X dK_writeHead_5 rfl (fun hc => ?_) (fun hc => ?_)
      · have hw := hw.1 hc
        refine go_aload_n X 0 dK_writeHead_25 rfl rfl ?_
        refine gt_K_9 X dK_writeHead_26 ?_
        refine go_iconst X dK_writeHead_29 kc_i1 ?_
        refine go_iload_n X 1 dK_writeHead_30 rfl rfl ?_
        refine as_k_ce X vi_1_512 dK_writeHead_31 ?_
        refine go_aload_n X 0 dK_writeHead_32 rfl rfl ?_
        refine gt_K_9 X dK_writeHead_33 ?_
        refine go_bipush X dK_writeHead_36 kc_b6 ?_
        refine go_aload_n X 0 dK_writeHead_38 rfl rfl ?_
        refine k_K_sizeCode X hw mw_K_45 ⟨by decide, by decide⟩ (Nat.le_of_ble_eq_true rfl) ⟨Nat.zero_le _, Nat.zero_le _⟩ dK_writeHead_39 (fun r1 hw => ?_)
        refine as_k_ce X vi_6_512 dK_writeHead_42 ?_
        refine go_aload_n X 0 dK_writeHead_43 rfl rfl ?_
        refine gt_K_9 X dK_writeHead_44 ?_
        refine go_bipush X dK_writeHead_47 kc_b13 ?_
        refine go_aload_n X 0 dK_writeHead_49 rfl rfl ?_
        refine k_K_headCheck X hw mw_K_48 ⟨by decide, by decide⟩ (Nat.le_of_ble_eq_true rfl) ⟨Nat.zero_le _, Nat.zero_le _⟩ dK_writeHead_50 (fun r2 hw => ?_)
        refine as_k_ce X vi_13_512 dK_writeHead_53 ?_
        refine go_aload_n X 0 dK_writeHead_54 rfl rfl ?_
        refine k_K_imageCheck X hw mw_K_51 ⟨by decide, by decide⟩ (Nat.le_of_ble_eq_true rfl) ⟨Nat.zero_le _, Nat.zero_le _⟩ dK_writeHead_55 (fun r3 hw => ?_)
        refine go_istore_n X dK_writeHead_58 rfl (by decide) rfl ?_
        refine go_aload_n X 1 dK_writeHead_59 rfl rfl ?_
        refine gt_K_9 X dK_writeHead_60 ?_
        refine go_bipush X dK_writeHead_63 kc_b14 ?_
        refine go_iload_n X 0 dK_writeHead_65 rfl rfl ?_
        refine go_bipush X dK_writeHead_66 kc_b8 ?_
        refine go_ishr X dK_writeHead_68 ?_
        refine as_k_ce X vi_14_512 dK_writeHead_69 ?_
        refine go_aload_n X 1 dK_writeHead_70 rfl rfl ?_
        refine gt_K_9 X dK_writeHead_71 ?_
        refine go_bipush X dK_writeHead_74 kc_b15 ?_
        refine go_iload_n X 0 dK_writeHead_76 rfl rfl ?_
        refine go_sipush X dK_writeHead_77 kc_s255 ?_
        refine go_iand X dK_writeHead_80 ?_
        refine as_k_ce X vi_15_512 dK_writeHead_81 ?_
        exact go_vreturn X hq dK_writeHead_82 (upd (upd (upd (upd (upd k_ce (1 : Int32).toNatClampNeg x1) (6 : Int32).toNatClampNeg r1) (13 : Int32).toNatClampNeg r2) (14 : Int32).toNatClampNeg (r3 >>> ((8 : Int32) &&& 31))) (15 : Int32).toNatClampNeg (r3 &&& (255 : Int32))) hw rfl
      · have hw := hw.2 hc
        refine go_aload_n X 0 dK_writeHead_8 rfl rfl ?_
        refine gt_K_9 X dK_writeHead_9 ?_
        refine go_iload_n X 2 dK_writeHead_12 rfl rfl ?_
        refine go_head X mw_K_42 dK_writeHead_13 ?_
        refine go_iload_n X 2 dK_writeHead_16 rfl rfl ?_
        have hz := hw.1
        have hw := hw.2
        refine go_hald X hz dK_writeHead_17 ?_
        have hz := hw.1
        have hw := hw.2
        refine as_k_ce X hz dK_writeHead_18 ?_
        refine go_iinc X 2 dK_writeHead_19 rfl (ki_1 _) (by decide) rfl ?_
        refine go_goto X dK_writeHead_22 rfl ?_
        refine go_lc [1, 2, 0] rfl ?_
        exact ih _ _ _ hw
  refine go_iconst X dK_writeHead_0 kc_i0 ?_
  refine go_istore_n X dK_writeHead_1 rfl (by decide) rfl ?_
  refine go_lc [1, 2, 0] rfl ?_
  obtain ⟨j9, hw⟩ := hw
  exact C2 j9 _ _ _ hw
theorem k_K_writeHead {G : gt_} {ad : Nat → Nat} {cc : ByteArray} {own : String} {fr lo n cells slots pc index : Nat} {lc : List (Nat × Value)} {rest : List Value} {s_bk s_ln s_kd s_vl : Nat → Int32} {s_ct : Int32} {k_ce : Nat → Int32} {k_bc : Int32} {m_ra m_up : Nat → Int32} {m_on m_lo m_hi m_mo m_ma m_li : Int32} {n_rg n_sb : Nat → Int32} {n_st n_pl n_z n_n n_h n_c n_en n_so n_co n_sc : Int32} {l_bk l_of l_en : Nat → Int32} {l_ct : Int32} {t_bk t_of t_en : Nat → Int32} {t_ct : Int32} {a1 : Int32} {P : (Nat → Int32) → Prop} (X : cx_ G ad cc own fr lo n) (hw : wp_K_writeHead k_ce k_bc a1 P) (m1 : Cond.methodLink own index yK_writeHead ∈ wS) (hlv : 2 + 1 ≤ fr ∧ 8 + (3 + 11) + 42 ≤ lo) (hrs : (rest.map fun v => v.category).sum ≤ 8) (hcs : cells ≤ (gR_ G).cells ∧ slots ≤ (gR_ G).slots) (d : decode cc pc = .ok (.invokevirtual index, 3))
    (kk : ∀ (k_ce' : Nat → Int32), P k_ce' → go_ G cells slots (wC ad s_bk s_ln s_kd s_vl s_ct k_ce' k_bc m_ra m_up m_on m_lo m_hi m_mo m_ma m_li n_rg n_sb n_st n_pl n_z n_n n_h n_c n_en n_so n_co n_sc l_bk l_of l_en l_ct t_bk t_of t_en t_ct) (pc + 3) lc (rest)) : go_ G cells slots (wC ad s_bk s_ln s_kd s_vl s_ct k_ce k_bc m_ra m_up m_on m_lo m_hi m_mo m_ma m_li n_rg n_sb n_st n_pl n_z n_n n_h n_c n_en n_so n_co n_sc l_bk l_of l_en l_ct t_bk t_of t_en t_ct) pc lc (.int a1 :: .ref (ad 6) :: rest) :=
  go_cvv X (c_K_writeHead hw) me_K_writeHead m1 hlv 6 rfl rfl rfl hrs hcs d (fun u hp => kk u hp)
set_option maxRecDepth 100000 in
set_option maxHeartbeats 4000000 in
theorem c_P_packFloating {l : Launch} {D : va_G} {ad : Nat → Nat} {s_bk s_ln s_kd s_vl : Nat → Int32} {s_ct : Int32} {k_ce : Nat → Int32} {k_bc : Int32} {m_ra m_up : Nat → Int32} {m_on m_lo m_hi m_mo m_ma m_li : Int32} {n_rg n_sb : Nat → Int32} {n_st n_pl n_z n_n n_h n_c n_en n_so n_co n_sc : Int32} {l_bk l_of l_en : Nat → Int32} {l_ct : Int32} {t_bk t_of t_en : Nat → Int32} {t_ct : Int32} {a2 : Int32} {P : Int32 → (Nat → Int32) → (Nat → Int32) → (Nat → Int32) → Prop} (hw : wp_P_packFloating s_bk s_ln t_bk t_of t_en t_ct a2 P) : ct_ l yP_packFloating bP_packFloating 6 (some .boolean) 2 47 D ad [.ref (ad 18), .ref (ad 1), .int a2] (wC ad s_bk s_ln s_kd s_vl s_ct k_ce k_bc m_ra m_up m_on m_lo m_hi m_mo m_ma m_li n_rg n_sb n_st n_pl n_z n_n n_h n_c n_en n_so n_co n_sc l_bk l_of l_en l_ct t_bk t_of t_en t_ct) (qi_ D (fun (r : Int32) (u : (Nat → Int32) × (Nat → Int32) × (Nat → Int32)) => P r u.1 u.2.1 u.2.2) (fun u => wC ad s_bk s_ln s_kd s_vl s_ct k_ce k_bc m_ra m_up m_on m_lo m_hi m_mo m_ma m_li n_rg n_sb n_st n_pl n_z n_n n_h n_c n_en n_so n_co n_sc l_bk l_of l_en l_ct u.1 u.2.1 u.2.2 t_ct)) := by
  refine ct_of RP (by decide) rfl (Nat.le_of_ble_eq_true rfl) (fun G hl hD X hq => ?_)
  subst hl hD
  show go_ G 0 0 (wC ad s_bk s_ln s_kd s_vl s_ct k_ce k_bc m_ra m_up m_on m_lo m_hi m_mo m_ma m_li n_rg n_sb n_st n_pl n_z n_n n_h n_c n_en n_so n_co n_sc l_bk l_of l_en l_ct t_bk t_of t_en t_ct) 0 [(0, .ref (ad 18)), (1, .ref (ad 1)), (2, .int a2)] []
  have C46 : ∀ (K3 : (Nat → Int32) → (Nat → Int32) → (Nat → Int32) → Int32 → Int32 → Prop) (hK3 : ∀ (t_bk t_of t_en : Nat → Int32) (x2 x3 : Int32), K3 t_bk t_of t_en x2 x3 → go_ G 0 0 (wC ad s_bk s_ln s_kd s_vl s_ct k_ce k_bc m_ra m_up m_on m_lo m_hi m_mo m_ma m_li n_rg n_sb n_st n_pl n_z n_n n_h n_c n_en n_so n_co n_sc l_bk l_of l_en l_ct t_bk t_of t_en t_ct) 3 [(0, .ref (ad 18)), (1, .ref (ad 1)), (2, .int x2), (3, .int x3)] []) (K10 : (Nat → Int32) → (Nat → Int32) → (Nat → Int32) → Int32 → Int32 → Int32 → Prop) (hK10 : ∀ (t_bk t_of t_en : Nat → Int32) (x2 x3 x4 : Int32), K10 t_bk t_of t_en x2 x3 x4 → go_ G 0 0 (wC ad s_bk s_ln s_kd s_vl s_ct k_ce k_bc m_ra m_up m_on m_lo m_hi m_mo m_ma m_li n_rg n_sb n_st n_pl n_z n_n n_h n_c n_en n_so n_co n_sc l_bk l_of l_en l_ct t_bk t_of t_en t_ct) 10 [(0, .ref (ad 18)), (1, .ref (ad 1)), (2, .int x2), (3, .int x3), (4, .int x4)] []) (t_bk t_of t_en : Nat → Int32) (x2 x3 x4 y0 : Int32), wp_P_packFloating_46 s_bk s_ln t_ct K3 K10 P t_bk t_of t_en x2 x3 x4 y0 → go_ G 0 0 (wC ad s_bk s_ln s_kd s_vl s_ct k_ce k_bc m_ra m_up m_on m_lo m_hi m_mo m_ma m_li n_rg n_sb n_st n_pl n_z n_n n_h n_c n_en n_so n_co n_sc l_bk l_of l_en l_ct t_bk t_of t_en t_ct) 46 [(0, .ref (ad 18)), (1, .ref (ad 1)), (2, .int x2), (3, .int x3), (4, .int x4)] [.int y0] := by
    intro K3 hK3 K10 hK10 t_bk t_of t_en x2 x3 x4 y0 hw
    refine go_istore X dP_packFloating_46 (by decide) rfl ?_
    refine go_iload X 0 dP_packFloating_48 rfl ?_
    refine go_if_eq X dP_packFloating_50 rfl (fun hc => ?_) (fun hc => ?_)
    · have hw := hw.1 hc
      refine go_iinc X 5 dP_packFloating_66 rfl (ki_1 _) (by decide) rfl ?_
      refine go_goto X dP_packFloating_69 rfl ?_
      refine go_lc [2, 3, 4, 5, 0] rfl ?_
      exact hK10 _ _ _ _ _ _ hw
    · have hw := hw.2 hc
      refine go_aload_n X 1 dP_packFloating_53 rfl rfl ?_
      refine go_iload X 5 dP_packFloating_54 rfl ?_
      refine go_iload_n X 4 dP_packFloating_56 rfl rfl ?_
      refine go_iload_n X 3 dP_packFloating_57 rfl rfl ?_
      refine k_P_packLowest X hw mw_P_47 ⟨by decide, by decide⟩ (Nat.le_of_ble_eq_true rfl) ⟨Nat.zero_le _, Nat.zero_le _⟩ dP_packFloating_58 (fun r1 w2 w3 w4 hw => ?_)
      refine go_if_ne X dP_packFloating_61 rfl (fun hc => ?_) (fun hc => ?_)
      · have hw := hw.1 hc
        refine go_iinc X 5 dP_packFloating_66 rfl (ki_1 _) (by decide) rfl ?_
        refine go_goto X dP_packFloating_69 rfl ?_
        refine go_lc [2, 3, 4, 5, 0] rfl ?_
        exact hK10 _ _ _ _ _ _ hw
      · have hw := hw.2 hc
        refine go_iconst X dP_packFloating_64 kc_i0 ?_
        exact go_zreturn X hq dP_packFloating_65 (Or.inl rfl) (w2, w3, w4) hw rfl
  have C10 : ∀ (K3 : (Nat → Int32) → (Nat → Int32) → (Nat → Int32) → Int32 → Int32 → Prop) (hK3 : ∀ (t_bk t_of t_en : Nat → Int32) (x2 x3 : Int32), K3 t_bk t_of t_en x2 x3 → go_ G 0 0 (wC ad s_bk s_ln s_kd s_vl s_ct k_ce k_bc m_ra m_up m_on m_lo m_hi m_mo m_ma m_li n_rg n_sb n_st n_pl n_z n_n n_h n_c n_en n_so n_co n_sc l_bk l_of l_en l_ct t_bk t_of t_en t_ct) 3 [(0, .ref (ad 18)), (1, .ref (ad 1)), (2, .int x2), (3, .int x3)] []) (n9 : Nat) (t_bk t_of t_en : Nat → Int32) (x2 x3 x4 : Int32), wp_P_packFloating_10 s_bk s_ln t_ct K3 P n9 t_bk t_of t_en x2 x3 x4 → go_ G 0 0 (wC ad s_bk s_ln s_kd s_vl s_ct k_ce k_bc m_ra m_up m_on m_lo m_hi m_mo m_ma m_li n_rg n_sb n_st n_pl n_z n_n n_h n_c n_en n_so n_co n_sc l_bk l_of l_en l_ct t_bk t_of t_en t_ct) 10 [(0, .ref (ad 18)), (1, .ref (ad 1)), (2, .int x2), (3, .int x3), (4, .int x4)] [] := by
    intro K3 hK3 n9
    induction n9 with
    | zero =>
      intro t_bk t_of t_en x2 x3 x4 hw
      exact False.elim hw
    | succ n9 ih =>
      intro t_bk t_of t_en x2 x3 x4 hw
      refine go_iload X 4 dP_packFloating_10 rfl ?_
      refine go_aload_n X 0 dP_packFloating_12 rfl rfl ?_
      refine gt_P_27T X dP_packFloating_13 ?_
      refine go_icmp_ge X dP_packFloating_16 rfl (fun hc => ?_) (fun hc => ?_)
      · have hw := hw.1 hc
        refine go_iinc X 3 dP_packFloating_72 rfl (ki_m1 _) (by decide) rfl ?_
        refine go_goto X dP_packFloating_75 rfl ?_
        refine go_lc [1, 2, 3, 0] rfl ?_
        exact hK3 _ _ _ _ _ hw
      · have hw := hw.2 hc
        refine go_aload_n X 1 dP_packFloating_19 rfl rfl ?_
        refine gt_P_35 X dP_packFloating_20 ?_
        refine go_iload X 4 dP_packFloating_23 rfl ?_
        have hz := hw.1
        have hw := hw.2
        refine ar_s_bk X hz dP_packFloating_25 ?_
        refine go_iconst X dP_packFloating_26 kc_im1 ?_
        refine go_icmp_ne X dP_packFloating_27 rfl (fun hc => ?_) (fun hc => ?_)
        · have hw := hw.1 hc
          refine go_iconst X dP_packFloating_45 kc_i0 ?_
          exact C46 K3 hK3 (wp_P_packFloating_10 s_bk s_ln t_ct K3 P n9) ih _ _ _ _ _ _ _ hw
        · have hw := hw.2 hc
          refine go_aload_n X 1 dP_packFloating_30 rfl rfl ?_
          refine gt_P_36 X dP_packFloating_31 ?_
          refine go_iload X 4 dP_packFloating_34 rfl ?_
          have hz := hw.1
          have hw := hw.2
          refine ar_s_ln X hz dP_packFloating_36 ?_
          refine go_iload_n X 3 dP_packFloating_37 rfl rfl ?_
          refine go_icmp_ne X dP_packFloating_38 rfl (fun hc => ?_) (fun hc => ?_)
          · have hw := hw.1 hc
            refine go_iconst X dP_packFloating_45 kc_i0 ?_
            exact C46 K3 hK3 (wp_P_packFloating_10 s_bk s_ln t_ct K3 P n9) ih _ _ _ _ _ _ _ hw
          · have hw := hw.2 hc
            refine go_iconst X dP_packFloating_41 kc_i1 ?_
            refine go_goto X dP_packFloating_42 rfl ?_
            exact C46 K3 hK3 (wp_P_packFloating_10 s_bk s_ln t_ct K3 P n9) ih _ _ _ _ _ _ _ hw
  have C3 : ∀ (n9 : Nat) (t_bk t_of t_en : Nat → Int32) (x2 x3 : Int32), wp_P_packFloating_3 s_bk s_ln t_ct P n9 t_bk t_of t_en x2 x3 → go_ G 0 0 (wC ad s_bk s_ln s_kd s_vl s_ct k_ce k_bc m_ra m_up m_on m_lo m_hi m_mo m_ma m_li n_rg n_sb n_st n_pl n_z n_n n_h n_c n_en n_so n_co n_sc l_bk l_of l_en l_ct t_bk t_of t_en t_ct) 3 [(0, .ref (ad 18)), (1, .ref (ad 1)), (2, .int x2), (3, .int x3)] [] := by
    intro n9
    induction n9 with
    | zero =>
      intro t_bk t_of t_en x2 x3 hw
      exact False.elim hw
    | succ n9 ih =>
      intro t_bk t_of t_en x2 x3 hw
      refine go_iload_n X 3 dP_packFloating_3 rfl rfl ?_
      refine go_if_lt X dP_packFloating_4 rfl (fun hc => ?_) (fun hc => ?_)
      · have hw := hw.1 hc
        refine go_iconst X dP_packFloating_78 kc_i1 ?_
        exact go_zreturn X hq dP_packFloating_79 (Or.inr rfl) (t_bk, t_of, t_en) hw rfl
      · have hw := hw.2 hc
        refine go_iconst X dP_packFloating_7 kc_i0 ?_
        refine go_istore X dP_packFloating_8 (by decide) rfl ?_
        refine go_lc [1, 2, 3, 4, 0] rfl ?_
        obtain ⟨j9, hw⟩ := hw
        exact C10 (wp_P_packFloating_3 s_bk s_ln t_ct P n9) ih j9 _ _ _ _ _ _ hw
  refine go_bipush X dP_packFloating_0 kc_b48 ?_
  refine go_istore_n X dP_packFloating_2 rfl (by decide) rfl ?_
  refine go_lc [1, 2, 3, 0] rfl ?_
  obtain ⟨j9, hw⟩ := hw
  exact C3 j9 _ _ _ _ _ hw
theorem k_P_packFloating {G : gt_} {ad : Nat → Nat} {cc : ByteArray} {own : String} {fr lo n cells slots pc index : Nat} {lc : List (Nat × Value)} {rest : List Value} {s_bk s_ln s_kd s_vl : Nat → Int32} {s_ct : Int32} {k_ce : Nat → Int32} {k_bc : Int32} {m_ra m_up : Nat → Int32} {m_on m_lo m_hi m_mo m_ma m_li : Int32} {n_rg n_sb : Nat → Int32} {n_st n_pl n_z n_n n_h n_c n_en n_so n_co n_sc : Int32} {l_bk l_of l_en : Nat → Int32} {l_ct : Int32} {t_bk t_of t_en : Nat → Int32} {t_ct : Int32} {a2 : Int32} {P : Int32 → (Nat → Int32) → (Nat → Int32) → (Nat → Int32) → Prop} (X : cx_ G ad cc own fr lo n) (hw : wp_P_packFloating s_bk s_ln t_bk t_of t_en t_ct a2 P) (m1 : Cond.methodLink own index yP_packFloating ∈ wS) (hlv : 2 + 1 ≤ fr ∧ 8 + (6 + 11) + 47 ≤ lo) (hrs : (rest.map fun v => v.category).sum ≤ 8) (hcs : cells ≤ (gR_ G).cells ∧ slots ≤ (gR_ G).slots) (d : decode cc pc = .ok (.invokevirtual index, 3))
    (kk : ∀ (r : Int32) (t_bk' t_of' t_en' : Nat → Int32), P r t_bk' t_of' t_en' → go_ G cells slots (wC ad s_bk s_ln s_kd s_vl s_ct k_ce k_bc m_ra m_up m_on m_lo m_hi m_mo m_ma m_li n_rg n_sb n_st n_pl n_z n_n n_h n_c n_en n_so n_co n_sc l_bk l_of l_en l_ct t_bk' t_of' t_en' t_ct) (pc + 3) lc (.int r :: rest)) : go_ G cells slots (wC ad s_bk s_ln s_kd s_vl s_ct k_ce k_bc m_ra m_up m_on m_lo m_hi m_mo m_ma m_li n_rg n_sb n_st n_pl n_z n_n n_h n_c n_en n_so n_co n_sc l_bk l_of l_en l_ct t_bk t_of t_en t_ct) pc lc (.int a2 :: .ref (ad 1) :: .ref (ad 18) :: rest) :=
  go_cvi X (c_P_packFloating hw) me_P_packFloating m1 hlv 18 rfl rfl rfl hrs hcs d (fun r u hp => kk r u.1 u.2.1 u.2.2 hp)
set_option maxRecDepth 100000 in
set_option maxHeartbeats 4000000 in
theorem c_K_make {l : Launch} {D : va_G} {ad : Nat → Nat} {s_bk s_ln s_kd s_vl : Nat → Int32} {s_ct : Int32} {k_ce : Nat → Int32} {k_bc : Int32} {m_ra m_up : Nat → Int32} {m_on m_lo m_hi m_mo m_ma m_li : Int32} {n_rg n_sb : Nat → Int32} {n_st n_pl n_z n_n n_h n_c n_en n_so n_co n_sc : Int32} {l_bk l_of l_en : Nat → Int32} {l_ct : Int32} {t_bk t_of t_en : Nat → Int32} {t_ct : Int32} {a3 : Int32} {P : (Nat → Int32) → (Int32) → Prop} (hw : wp_K_make s_ln s_kd s_vl s_ct k_ce k_bc l_bk l_of a3 P) : ct_ l yK_make bK_make 5 none 3 64 D ad [.ref (ad 6), .ref (ad 1), .ref (ad 14), .int a3] (wC ad s_bk s_ln s_kd s_vl s_ct k_ce k_bc m_ra m_up m_on m_lo m_hi m_mo m_ma m_li n_rg n_sb n_st n_pl n_z n_n n_h n_c n_en n_so n_co n_sc l_bk l_of l_en l_ct t_bk t_of t_en t_ct) (qv_ D (fun (u : (Nat → Int32) × (Int32)) => P u.1 u.2) (fun u => wC ad s_bk s_ln s_kd s_vl s_ct u.1 u.2 m_ra m_up m_on m_lo m_hi m_mo m_ma m_li n_rg n_sb n_st n_pl n_z n_n n_h n_c n_en n_so n_co n_sc l_bk l_of l_en l_ct t_bk t_of t_en t_ct)) := by
  refine ct_of RK (by decide) rfl (Nat.le_of_ble_eq_true rfl) (fun G hl hD X hq => ?_)
  subst hl hD
  show go_ G 0 0 (wC ad s_bk s_ln s_kd s_vl s_ct k_ce k_bc m_ra m_up m_on m_lo m_hi m_mo m_ma m_li n_rg n_sb n_st n_pl n_z n_n n_h n_c n_en n_so n_co n_sc l_bk l_of l_en l_ct t_bk t_of t_en t_ct) 0 [(0, .ref (ad 6)), (1, .ref (ad 1)), (2, .ref (ad 14)), (3, .int a3)] []
  have C36 : ∀ (n9 : Nat) (k_ce : Nat → Int32) (k_bc x4 : Int32), wp_K_make_36 s_ln s_kd s_vl s_ct l_bk l_of P n9 k_ce k_bc x4 → go_ G 0 0 (wC ad s_bk s_ln s_kd s_vl s_ct k_ce k_bc m_ra m_up m_on m_lo m_hi m_mo m_ma m_li n_rg n_sb n_st n_pl n_z n_n n_h n_c n_en n_so n_co n_sc l_bk l_of l_en l_ct t_bk t_of t_en t_ct) 36 [(0, .ref (ad 6)), (1, .ref (ad 1)), (2, .ref (ad 14)), (4, .int x4)] [] := by
    intro n9
    induction n9 with
    | zero =>
      intro k_ce k_bc x4 hw
      exact False.elim hw
    | succ n9 ih =>
      intro k_ce k_bc x4 hw
      refine go_iload X 3 dK_make_36 rfl ?_
      refine go_aload_n X 1 dK_make_38 rfl rfl ?_
      refine gt_K_23 X dK_make_39 ?_
      refine go_icmp_ge X dK_make_42 rfl (fun hc => ?_) (fun hc => ?_)
      · have hw := hw.1 hc
        refine go_aload_n X 0 dK_make_59 rfl rfl ?_
        refine go_aload_n X 2 dK_make_60 rfl rfl ?_
        refine go_iconst X dK_make_61 kc_i0 ?_
        refine k_P_addressOf X hw mw_K_32 ⟨by decide, by decide⟩ (Nat.le_of_ble_eq_true rfl) ⟨Nat.zero_le _, Nat.zero_le _⟩ dK_make_62 (fun r2 hw => ?_)
        refine k_K_writeHead X hw mw_K_38 ⟨by decide, by decide⟩ (Nat.le_of_ble_eq_true rfl) ⟨Nat.zero_le _, Nat.zero_le _⟩ dK_make_65 (fun w3 hw => ?_)
        exact go_vreturn X hq dK_make_68 (w3, k_bc) hw rfl
      · have hw := hw.2 hc
        refine go_aload_n X 0 dK_make_45 rfl rfl ?_
        refine go_aload_n X 1 dK_make_46 rfl rfl ?_
        refine go_aload_n X 2 dK_make_47 rfl rfl ?_
        refine go_iload X 3 dK_make_48 rfl ?_
        refine k_K_lay X hw mw_K_28 ⟨by decide, by decide⟩ (Nat.le_of_ble_eq_true rfl) ⟨Nat.zero_le _, Nat.zero_le _⟩ dK_make_50 (fun w4 hw => ?_)
        refine go_iinc X 3 dK_make_53 rfl (ki_1 _) (by decide) rfl ?_
        refine go_goto X dK_make_56 rfl ?_
        refine go_lc [1, 2, 3, 0] rfl ?_
        exact ih _ _ _ hw
  have C8 : ∀ (n9 : Nat) (k_ce : Nat → Int32) (k_bc x4 : Int32), wp_K_make_8 s_ln s_kd s_vl s_ct l_bk l_of P n9 k_ce k_bc x4 → go_ G 0 0 (wC ad s_bk s_ln s_kd s_vl s_ct k_ce k_bc m_ra m_up m_on m_lo m_hi m_mo m_ma m_li n_rg n_sb n_st n_pl n_z n_n n_h n_c n_en n_so n_co n_sc l_bk l_of l_en l_ct t_bk t_of t_en t_ct) 8 [(0, .ref (ad 6)), (1, .ref (ad 1)), (2, .ref (ad 14)), (4, .int x4)] [] := by
    intro n9
    induction n9 with
    | zero =>
      intro k_ce k_bc x4 hw
      exact False.elim hw
    | succ n9 ih =>
      intro k_ce k_bc x4 hw
      refine go_iload X 3 dK_make_8 rfl ?_
      refine go_aload_n X 0 dK_make_10 rfl rfl ?_
      refine k_K_size X hw mw_K_19 ⟨by decide, by decide⟩ (Nat.le_of_ble_eq_true rfl) ⟨Nat.zero_le _, Nat.zero_le _⟩ dK_make_11 (fun r1 hw => ?_)
      refine go_icmp_ge X dK_make_14 rfl (fun hc => ?_) (fun hc => ?_)
      · have hw := hw.1 hc
        refine go_iconst X dK_make_33 kc_i0 ?_
        refine go_istore X dK_make_34 (by decide) rfl ?_
        refine go_lc [1, 2, 3, 0] rfl ?_
        obtain ⟨j9, hw⟩ := hw
        exact C36 j9 _ _ _ hw
      · have hw := hw.2 hc
        refine go_aload_n X 0 dK_make_17 rfl rfl ?_
        refine gt_K_9 X dK_make_18 ?_
        refine go_iload X 3 dK_make_21 rfl ?_
        refine go_sipush X dK_make_23 kc_s255 ?_
        have hz := hw.1
        have hw := hw.2
        refine as_k_ce X hz dK_make_26 ?_
        refine go_iinc X 3 dK_make_27 rfl (ki_1 _) (by decide) rfl ?_
        refine go_goto X dK_make_30 rfl ?_
        refine go_lc [1, 2, 3, 0] rfl ?_
        exact ih _ _ _ hw
  refine go_aload_n X 0 dK_make_0 rfl rfl ?_
  refine go_iload_n X 3 dK_make_1 rfl rfl ?_
  refine pt_K_15 X dK_make_2 ?_
  refine go_iconst X dK_make_5 kc_i0 ?_
  refine go_istore X dK_make_6 (by decide) rfl ?_
  refine go_lc [1, 2, 3, 0] rfl ?_
  obtain ⟨j9, hw⟩ := hw
  exact C8 j9 _ _ _ hw
theorem k_K_make {G : gt_} {ad : Nat → Nat} {cc : ByteArray} {own : String} {fr lo n cells slots pc index : Nat} {lc : List (Nat × Value)} {rest : List Value} {s_bk s_ln s_kd s_vl : Nat → Int32} {s_ct : Int32} {k_ce : Nat → Int32} {k_bc : Int32} {m_ra m_up : Nat → Int32} {m_on m_lo m_hi m_mo m_ma m_li : Int32} {n_rg n_sb : Nat → Int32} {n_st n_pl n_z n_n n_h n_c n_en n_so n_co n_sc : Int32} {l_bk l_of l_en : Nat → Int32} {l_ct : Int32} {t_bk t_of t_en : Nat → Int32} {t_ct : Int32} {a3 : Int32} {P : (Nat → Int32) → (Int32) → Prop} (X : cx_ G ad cc own fr lo n) (hw : wp_K_make s_ln s_kd s_vl s_ct k_ce k_bc l_bk l_of a3 P) (m1 : Cond.methodLink own index yK_make ∈ wS) (hlv : 3 + 1 ≤ fr ∧ 8 + (5 + 11) + 64 ≤ lo) (hrs : (rest.map fun v => v.category).sum ≤ 8) (hcs : cells ≤ (gR_ G).cells ∧ slots ≤ (gR_ G).slots) (d : decode cc pc = .ok (.invokevirtual index, 3))
    (kk : ∀ (k_ce' : Nat → Int32) (k_bc' : Int32), P k_ce' k_bc' → go_ G cells slots (wC ad s_bk s_ln s_kd s_vl s_ct k_ce' k_bc' m_ra m_up m_on m_lo m_hi m_mo m_ma m_li n_rg n_sb n_st n_pl n_z n_n n_h n_c n_en n_so n_co n_sc l_bk l_of l_en l_ct t_bk t_of t_en t_ct) (pc + 3) lc (rest)) : go_ G cells slots (wC ad s_bk s_ln s_kd s_vl s_ct k_ce k_bc m_ra m_up m_on m_lo m_hi m_mo m_ma m_li n_rg n_sb n_st n_pl n_z n_n n_h n_c n_en n_so n_co n_sc l_bk l_of l_en l_ct t_bk t_of t_en t_ct) pc lc (.int a3 :: .ref (ad 14) :: .ref (ad 1) :: .ref (ad 6) :: rest) :=
  go_cvv X (c_K_make hw) me_K_make m1 hlv 6 rfl rfl rfl hrs hcs d (fun u hp => kk u.1 u.2 hp)
set_option maxRecDepth 100000 in
set_option maxHeartbeats 4000000 in
theorem c_P_pack {l : Launch} {D : va_G} {ad : Nat → Nat} {s_bk s_ln s_kd s_vl : Nat → Int32} {s_ct : Int32} {k_ce : Nat → Int32} {k_bc : Int32} {m_ra m_up : Nat → Int32} {m_on m_lo m_hi m_mo m_ma m_li : Int32} {n_rg n_sb : Nat → Int32} {n_st n_pl n_z n_n n_h n_c n_en n_so n_co n_sc : Int32} {l_bk l_of l_en : Nat → Int32} {l_ct : Int32} {t_bk t_of t_en : Nat → Int32} {t_ct : Int32} {a2 : Int32} {P : Int32 → (Nat → Int32) → (Nat → Int32) → (Nat → Int32) → (Int32) → Prop} (hw : wp_P_pack s_bk s_ln s_ct t_bk t_of t_en t_ct a2 P) : ct_ l yP_pack bP_pack 4 (some .boolean) 3 72 D ad [.ref (ad 18), .ref (ad 1), .int a2] (wC ad s_bk s_ln s_kd s_vl s_ct k_ce k_bc m_ra m_up m_on m_lo m_hi m_mo m_ma m_li n_rg n_sb n_st n_pl n_z n_n n_h n_c n_en n_so n_co n_sc l_bk l_of l_en l_ct t_bk t_of t_en t_ct) (qi_ D (fun (r : Int32) (u : (Nat → Int32) × (Nat → Int32) × (Nat → Int32) × (Int32)) => P r u.1 u.2.1 u.2.2.1 u.2.2.2) (fun u => wC ad s_bk s_ln s_kd s_vl s_ct k_ce k_bc m_ra m_up m_on m_lo m_hi m_mo m_ma m_li n_rg n_sb n_st n_pl n_z n_n n_h n_c n_en n_so n_co n_sc l_bk l_of l_en l_ct u.1 u.2.1 u.2.2.1 u.2.2.2)) := by
  refine ct_of RP (by decide) rfl (Nat.le_of_ble_eq_true rfl) (fun G hl hD X hq => ?_)
  subst hl hD
  show go_ G 0 0 (wC ad s_bk s_ln s_kd s_vl s_ct k_ce k_bc m_ra m_up m_on m_lo m_hi m_mo m_ma m_li n_rg n_sb n_st n_pl n_z n_n n_h n_c n_en n_so n_co n_sc l_bk l_of l_en l_ct t_bk t_of t_en t_ct) 0 [(0, .ref (ad 18)), (1, .ref (ad 1)), (2, .int a2)] []
  have C10 : ∀ (n9 : Nat) (t_bk t_of t_en : Nat → Int32) (t_ct x2 x3 : Int32), wp_P_pack_10 s_bk s_ln s_ct P n9 t_bk t_of t_en t_ct x2 x3 → go_ G 0 0 (wC ad s_bk s_ln s_kd s_vl s_ct k_ce k_bc m_ra m_up m_on m_lo m_hi m_mo m_ma m_li n_rg n_sb n_st n_pl n_z n_n n_h n_c n_en n_so n_co n_sc l_bk l_of l_en l_ct t_bk t_of t_en t_ct) 10 [(0, .ref (ad 18)), (1, .ref (ad 1)), (2, .int x2), (3, .int x3)] [] := by
    intro n9
    induction n9 with
    | zero =>
      intro t_bk t_of t_en t_ct x2 x3 hw
      exact False.elim hw
    | succ n9 ih =>
      intro t_bk t_of t_en t_ct x2 x3 hw
      refine go_iload_n X 3 dP_pack_10 rfl rfl ?_
      refine go_bipush X dP_pack_11 kc_b8 ?_
      refine go_icmp_ge X dP_pack_13 rfl (fun hc => ?_) (fun hc => ?_)
      · have hw := hw.1 hc
        refine go_aload_n X 0 dP_pack_38 rfl rfl ?_
        refine go_aload_n X 1 dP_pack_39 rfl rfl ?_
        refine go_iload_n X 2 dP_pack_40 rfl rfl ?_
        refine k_P_packPinned X hw mw_P_28 ⟨by decide, by decide⟩ (Nat.le_of_ble_eq_true rfl) ⟨Nat.zero_le _, Nat.zero_le _⟩ dP_pack_41 (fun r1 w2 w3 w4 hw => ?_)
        refine go_if_eq X dP_pack_44 rfl (fun hc => ?_) (fun hc => ?_)
        · have hw := hw.1 hc
          refine go_iconst X dP_pack_60 kc_i0 ?_
          exact go_zreturn X hq dP_pack_61 (Or.inl rfl) (w2, w3, w4, t_ct) hw rfl
        · have hw := hw.2 hc
          refine go_aload_n X 0 dP_pack_47 rfl rfl ?_
          refine go_aload_n X 1 dP_pack_48 rfl rfl ?_
          refine go_iload_n X 2 dP_pack_49 rfl rfl ?_
          refine k_P_packFloating X hw mw_P_32 ⟨by decide, by decide⟩ (Nat.le_of_ble_eq_true rfl) ⟨Nat.zero_le _, Nat.zero_le _⟩ dP_pack_50 (fun r5 w6 w7 w8 hw => ?_)
          refine go_if_eq X dP_pack_53 rfl (fun hc => ?_) (fun hc => ?_)
          · have hw := hw.1 hc
            refine go_iconst X dP_pack_60 kc_i0 ?_
            exact go_zreturn X hq dP_pack_61 (Or.inl rfl) (w6, w7, w8, t_ct) hw rfl
          · have hw := hw.2 hc
            refine go_iconst X dP_pack_56 kc_i1 ?_
            refine go_goto X dP_pack_57 rfl ?_
            exact go_zreturn X hq dP_pack_61 (Or.inr rfl) (w6, w7, w8, t_ct) hw rfl
      · have hw := hw.2 hc
        refine go_aload_n X 0 dP_pack_16 rfl rfl ?_
        refine gt_P_18T X dP_pack_17 ?_
        refine go_iload_n X 3 dP_pack_20 rfl rfl ?_
        refine go_iload_n X 3 dP_pack_21 rfl rfl ?_
        refine go_if_ne X dP_pack_22 rfl (fun hc => ?_) (fun hc => ?_)
        · have hw := hw.1 hc
          refine go_iconst X dP_pack_30 kc_i0 ?_
          have hz := hw.1
          have hw := hw.2
          refine as_t_en X hz dP_pack_31 ?_
          refine go_iinc X 3 dP_pack_32 rfl (ki_1 _) (by decide) rfl ?_
          refine go_goto X dP_pack_35 rfl ?_
          refine go_lc [1, 2, 3, 0] rfl ?_
          exact ih _ _ _ _ _ _ hw
        · have hw := hw.2 hc
          refine go_bipush X dP_pack_25 kc_b32 ?_
          refine go_goto X dP_pack_27 rfl ?_
          have hz := hw.1
          have hw := hw.2
          refine as_t_en X hz dP_pack_31 ?_
          refine go_iinc X 3 dP_pack_32 rfl (ki_1 _) (by decide) rfl ?_
          refine go_goto X dP_pack_35 rfl ?_
          refine go_lc [1, 2, 3, 0] rfl ?_
          exact ih _ _ _ _ _ _ hw
  refine go_aload_n X 0 dP_pack_0 rfl rfl ?_
  refine go_aload_n X 1 dP_pack_1 rfl rfl ?_
  refine gt_P_21 X dP_pack_2 ?_
  refine pt_P_27T X dP_pack_5 ?_
  refine go_iconst X dP_pack_8 kc_i0 ?_
  refine go_istore_n X dP_pack_9 rfl (by decide) rfl ?_
  refine go_lc [1, 2, 3, 0] rfl ?_
  obtain ⟨j9, hw⟩ := hw
  exact C10 j9 _ _ _ _ _ _ hw
theorem k_P_pack {G : gt_} {ad : Nat → Nat} {cc : ByteArray} {own : String} {fr lo n cells slots pc index : Nat} {lc : List (Nat × Value)} {rest : List Value} {s_bk s_ln s_kd s_vl : Nat → Int32} {s_ct : Int32} {k_ce : Nat → Int32} {k_bc : Int32} {m_ra m_up : Nat → Int32} {m_on m_lo m_hi m_mo m_ma m_li : Int32} {n_rg n_sb : Nat → Int32} {n_st n_pl n_z n_n n_h n_c n_en n_so n_co n_sc : Int32} {l_bk l_of l_en : Nat → Int32} {l_ct : Int32} {t_bk t_of t_en : Nat → Int32} {t_ct : Int32} {a2 : Int32} {P : Int32 → (Nat → Int32) → (Nat → Int32) → (Nat → Int32) → (Int32) → Prop} (X : cx_ G ad cc own fr lo n) (hw : wp_P_pack s_bk s_ln s_ct t_bk t_of t_en t_ct a2 P) (m1 : Cond.methodLink own index yP_pack ∈ wS) (hlv : 3 + 1 ≤ fr ∧ 8 + (4 + 11) + 72 ≤ lo) (hrs : (rest.map fun v => v.category).sum ≤ 8) (hcs : cells ≤ (gR_ G).cells ∧ slots ≤ (gR_ G).slots) (d : decode cc pc = .ok (.invokevirtual index, 3))
    (kk : ∀ (r : Int32) (t_bk' t_of' t_en' : Nat → Int32) (t_ct' : Int32), P r t_bk' t_of' t_en' t_ct' → go_ G cells slots (wC ad s_bk s_ln s_kd s_vl s_ct k_ce k_bc m_ra m_up m_on m_lo m_hi m_mo m_ma m_li n_rg n_sb n_st n_pl n_z n_n n_h n_c n_en n_so n_co n_sc l_bk l_of l_en l_ct t_bk' t_of' t_en' t_ct') (pc + 3) lc (.int r :: rest)) : go_ G cells slots (wC ad s_bk s_ln s_kd s_vl s_ct k_ce k_bc m_ra m_up m_on m_lo m_hi m_mo m_ma m_li n_rg n_sb n_st n_pl n_z n_n n_h n_c n_en n_so n_co n_sc l_bk l_of l_en l_ct t_bk t_of t_en t_ct) pc lc (.int a2 :: .ref (ad 1) :: .ref (ad 18) :: rest) :=
  go_cvi X (c_P_pack hw) me_P_pack m1 hlv 18 rfl rfl rfl hrs hcs d (fun r u hp => kk r u.1 u.2.1 u.2.2.1 u.2.2.2 hp)
