set_option maxRecDepth 100000 in
set_option maxHeartbeats 4000000 in
theorem c_N_canGo {l : Launch} {D : va_G} {ad : Nat → Nat} {s_bk s_ln s_kd s_vl : Nat → Int32} {s_ct : Int32} {k_ce : Nat → Int32} {k_bc : Int32} {m_ra m_up : Nat → Int32} {m_on m_lo m_hi m_mo m_ma m_li : Int32} {n_rg n_sb : Nat → Int32} {n_st n_pl n_z n_n n_h n_c n_en n_so n_co n_sc : Int32} {l_bk l_of l_en : Nat → Int32} {l_ct : Int32} {t_bk t_of t_en : Nat → Int32} {t_ct : Int32}  {P : Int32 → Prop} (hw : wp_N_canGo n_co  P) : ct_ l yN_canGo bN_canGo 1 (some .boolean) 0 0 D ad [.ref (ad 11)] (wC ad s_bk s_ln s_kd s_vl s_ct k_ce k_bc m_ra m_up m_on m_lo m_hi m_mo m_ma m_li n_rg n_sb n_st n_pl n_z n_n n_h n_c n_en n_so n_co n_sc l_bk l_of l_en l_ct t_bk t_of t_en t_ct) (qi_ D (fun (r : Int32) (_ : Unit) => P r ) (fun _ => (wC ad s_bk s_ln s_kd s_vl s_ct k_ce k_bc m_ra m_up m_on m_lo m_hi m_mo m_ma m_li n_rg n_sb n_st n_pl n_z n_n n_h n_c n_en n_so n_co n_sc l_bk l_of l_en l_ct t_bk t_of t_en t_ct))) := by
  refine ct_of RN (by decide) rfl (Nat.le_of_ble_eq_true rfl) (fun G hl hD X hq => ?_)
  subst hl hD
  show go_ G 0 0 (wC ad s_bk s_ln s_kd s_vl s_ct k_ce k_bc m_ra m_up m_on m_lo m_hi m_mo m_ma m_li n_rg n_sb n_st n_pl n_z n_n n_h n_c n_en n_so n_co n_sc l_bk l_of l_en l_ct t_bk t_of t_en t_ct) 0 [(0, .ref (ad 11))] []
  refine go_aload_n X 0 dN_canGo_0 rfl rfl ?_
  refine gt_N_43 X dN_canGo_1 ?_
  refine go_if_eq X dN_canGo_4 rfl (fun hc => ?_) (fun hc => ?_)
  · have hw := hw.1 hc
    refine go_iconst X dN_canGo_15 kc_i1 ?_
    refine go_goto X dN_canGo_16 rfl ?_
    exact go_zreturn X hq dN_canGo_20 (Or.inr rfl) () hw rfl
  · have hw := hw.2 hc
    refine go_aload_n X 0 dN_canGo_7 rfl rfl ?_
    refine gt_N_43 X dN_canGo_8 ?_
    refine go_iconst X dN_canGo_11 kc_i1 ?_
    refine go_icmp_ne X dN_canGo_12 rfl (fun hc => ?_) (fun hc => ?_)
    · have hw := hw.1 hc
      refine go_iconst X dN_canGo_19 kc_i0 ?_
      exact go_zreturn X hq dN_canGo_20 (Or.inl rfl) () hw rfl
    · have hw := hw.2 hc
      refine go_iconst X dN_canGo_15 kc_i1 ?_
      refine go_goto X dN_canGo_16 rfl ?_
      exact go_zreturn X hq dN_canGo_20 (Or.inr rfl) () hw rfl
theorem k_N_canGo {G : gt_} {ad : Nat → Nat} {cc : ByteArray} {own : String} {fr lo n cells slots pc index : Nat} {lc : List (Nat × Value)} {rest : List Value} {s_bk s_ln s_kd s_vl : Nat → Int32} {s_ct : Int32} {k_ce : Nat → Int32} {k_bc : Int32} {m_ra m_up : Nat → Int32} {m_on m_lo m_hi m_mo m_ma m_li : Int32} {n_rg n_sb : Nat → Int32} {n_st n_pl n_z n_n n_h n_c n_en n_so n_co n_sc : Int32} {l_bk l_of l_en : Nat → Int32} {l_ct : Int32} {t_bk t_of t_en : Nat → Int32} {t_ct : Int32}  {P : Int32 → Prop} (X : cx_ G ad cc own fr lo n) (hw : wp_N_canGo n_co  P) (m1 : Cond.methodLink own index yN_canGo ∈ wS) (hlv : 0 + 1 ≤ fr ∧ 8 + (1 + 11) + 0 ≤ lo) (hrs : (rest.map fun v => v.category).sum ≤ 8) (hcs : cells ≤ (gR_ G).cells ∧ slots ≤ (gR_ G).slots) (d : decode cc pc = .ok (.invokevirtual index, 3))
    (kk : ∀ (r : Int32), P r → go_ G cells slots (wC ad s_bk s_ln s_kd s_vl s_ct k_ce k_bc m_ra m_up m_on m_lo m_hi m_mo m_ma m_li n_rg n_sb n_st n_pl n_z n_n n_h n_c n_en n_so n_co n_sc l_bk l_of l_en l_ct t_bk t_of t_en t_ct) (pc + 3) lc (.int r :: rest)) : go_ G cells slots (wC ad s_bk s_ln s_kd s_vl s_ct k_ce k_bc m_ra m_up m_on m_lo m_hi m_mo m_ma m_li n_rg n_sb n_st n_pl n_z n_n n_h n_c n_en n_so n_co n_sc l_bk l_of l_en l_ct t_bk t_of t_en t_ct) pc lc (.ref (ad 11) :: rest) :=
  go_cvi X (c_N_canGo hw) me_N_canGo m1 hlv 11 rfl rfl rfl hrs hcs d (fun r _ hp => kk r  hp)
set_option maxRecDepth 100000 in
set_option maxHeartbeats 4000000 in
theorem c_N_carryBit {l : Launch} {D : va_G} {ad : Nat → Nat} {s_bk s_ln s_kd s_vl : Nat → Int32} {s_ct : Int32} {k_ce : Nat → Int32} {k_bc : Int32} {m_ra m_up : Nat → Int32} {m_on m_lo m_hi m_mo m_ma m_li : Int32} {n_rg n_sb : Nat → Int32} {n_st n_pl n_z n_n n_h n_c n_en n_so n_co n_sc : Int32} {l_bk l_of l_en : Nat → Int32} {l_ct : Int32} {t_bk t_of t_en : Nat → Int32} {t_ct : Int32}  {P : Int32 → Prop} (hw : wp_N_carryBit n_c  P) : ct_ l yN_carryBit bN_carryBit 1 (some .int) 0 0 D ad [.ref (ad 11)] (wC ad s_bk s_ln s_kd s_vl s_ct k_ce k_bc m_ra m_up m_on m_lo m_hi m_mo m_ma m_li n_rg n_sb n_st n_pl n_z n_n n_h n_c n_en n_so n_co n_sc l_bk l_of l_en l_ct t_bk t_of t_en t_ct) (qi_ D (fun (r : Int32) (_ : Unit) => P r ) (fun _ => (wC ad s_bk s_ln s_kd s_vl s_ct k_ce k_bc m_ra m_up m_on m_lo m_hi m_mo m_ma m_li n_rg n_sb n_st n_pl n_z n_n n_h n_c n_en n_so n_co n_sc l_bk l_of l_en l_ct t_bk t_of t_en t_ct))) := by
  refine ct_of RN (by decide) rfl (Nat.le_of_ble_eq_true rfl) (fun G hl hD X hq => ?_)
  subst hl hD
  show go_ G 0 0 (wC ad s_bk s_ln s_kd s_vl s_ct k_ce k_bc m_ra m_up m_on m_lo m_hi m_mo m_ma m_li n_rg n_sb n_st n_pl n_z n_n n_h n_c n_en n_so n_co n_sc l_bk l_of l_en l_ct t_bk t_of t_en t_ct) 0 [(0, .ref (ad 11))] []
  refine go_aload_n X 0 dN_carryBit_0 rfl rfl ?_
  refine gt_N_128 X dN_carryBit_1 ?_
  refine go_if_eq X dN_carryBit_4 rfl (fun hc => ?_) (fun hc => ?_)
  · have hw := hw.1 hc
    refine go_iconst X dN_carryBit_11 kc_i0 ?_
    exact go_ireturn X hq dN_carryBit_12 () hw rfl
  · have hw := hw.2 hc
    refine go_iconst X dN_carryBit_7 kc_i1 ?_
    refine go_goto X dN_carryBit_8 rfl ?_
    exact go_ireturn X hq dN_carryBit_12 () hw rfl
theorem k_N_carryBit {G : gt_} {ad : Nat → Nat} {cc : ByteArray} {own : String} {fr lo n cells slots pc index : Nat} {lc : List (Nat × Value)} {rest : List Value} {s_bk s_ln s_kd s_vl : Nat → Int32} {s_ct : Int32} {k_ce : Nat → Int32} {k_bc : Int32} {m_ra m_up : Nat → Int32} {m_on m_lo m_hi m_mo m_ma m_li : Int32} {n_rg n_sb : Nat → Int32} {n_st n_pl n_z n_n n_h n_c n_en n_so n_co n_sc : Int32} {l_bk l_of l_en : Nat → Int32} {l_ct : Int32} {t_bk t_of t_en : Nat → Int32} {t_ct : Int32}  {P : Int32 → Prop} (X : cx_ G ad cc own fr lo n) (hw : wp_N_carryBit n_c  P) (m1 : Cond.methodLink own index yN_carryBit ∈ wS) (hlv : 0 + 1 ≤ fr ∧ 8 + (1 + 11) + 0 ≤ lo) (hrs : (rest.map fun v => v.category).sum ≤ 8) (hcs : cells ≤ (gR_ G).cells ∧ slots ≤ (gR_ G).slots) (d : decode cc pc = .ok (.invokevirtual index, 3))
    (kk : ∀ (r : Int32), P r → go_ G cells slots (wC ad s_bk s_ln s_kd s_vl s_ct k_ce k_bc m_ra m_up m_on m_lo m_hi m_mo m_ma m_li n_rg n_sb n_st n_pl n_z n_n n_h n_c n_en n_so n_co n_sc l_bk l_of l_en l_ct t_bk t_of t_en t_ct) (pc + 3) lc (.int r :: rest)) : go_ G cells slots (wC ad s_bk s_ln s_kd s_vl s_ct k_ce k_bc m_ra m_up m_on m_lo m_hi m_mo m_ma m_li n_rg n_sb n_st n_pl n_z n_n n_h n_c n_en n_so n_co n_sc l_bk l_of l_en l_ct t_bk t_of t_en t_ct) pc lc (.ref (ad 11) :: rest) :=
  go_cvi X (c_N_carryBit hw) me_N_carryBit m1 hlv 11 rfl rfl rfl hrs hcs d (fun r _ hp => kk r  hp)
set_option maxRecDepth 100000 in
set_option maxHeartbeats 4000000 in
theorem c_N_endAs {l : Launch} {D : va_G} {ad : Nat → Nat} {s_bk s_ln s_kd s_vl : Nat → Int32} {s_ct : Int32} {k_ce : Nat → Int32} {k_bc : Int32} {m_ra m_up : Nat → Int32} {m_on m_lo m_hi m_mo m_ma m_li : Int32} {n_rg n_sb : Nat → Int32} {n_st n_pl n_z n_n n_h n_c n_en n_so n_co n_sc : Int32} {l_bk l_of l_en : Nat → Int32} {l_ct : Int32} {t_bk t_of t_en : Nat → Int32} {t_ct : Int32} {a1 : Int32} {P : (Int32) → (Int32) → Prop} (hw : wp_N_endAs n_pl n_co a1 P) : ct_ l yN_endAs bN_endAs 2 none 0 0 D ad [.ref (ad 11), .int a1] (wC ad s_bk s_ln s_kd s_vl s_ct k_ce k_bc m_ra m_up m_on m_lo m_hi m_mo m_ma m_li n_rg n_sb n_st n_pl n_z n_n n_h n_c n_en n_so n_co n_sc l_bk l_of l_en l_ct t_bk t_of t_en t_ct) (qv_ D (fun (u : (Int32) × (Int32)) => P u.1 u.2) (fun u => wC ad s_bk s_ln s_kd s_vl s_ct k_ce k_bc m_ra m_up m_on m_lo m_hi m_mo m_ma m_li n_rg n_sb n_st u.1 n_z n_n n_h n_c n_en n_so u.2 n_sc l_bk l_of l_en l_ct t_bk t_of t_en t_ct)) := by
  refine ct_of RN (by decide) rfl (Nat.le_of_ble_eq_true rfl) (fun G hl hD X hq => ?_)
  subst hl hD
  show go_ G 0 0 (wC ad s_bk s_ln s_kd s_vl s_ct k_ce k_bc m_ra m_up m_on m_lo m_hi m_mo m_ma m_li n_rg n_sb n_st n_pl n_z n_n n_h n_c n_en n_so n_co n_sc l_bk l_of l_en l_ct t_bk t_of t_en t_ct) 0 [(0, .ref (ad 11)), (1, .int a1)] []
  refine go_aload_n X 0 dN_endAs_0 rfl rfl ?_
  refine go_iload_n X 1 dN_endAs_1 rfl rfl ?_
  refine pt_N_43 X dN_endAs_2 ?_
  refine go_aload_n X 0 dN_endAs_5 rfl rfl ?_
  refine go_aload_n X 0 dN_endAs_6 rfl rfl ?_
  refine gt_N_29 X dN_endAs_7 ?_
  refine go_iconst X dN_endAs_10 kc_i1 ?_
  refine go_isub X dN_endAs_11 ?_
  refine go_sipush X dN_endAs_12 kc_s255 ?_
  refine go_iand X dN_endAs_15 ?_
  refine pt_N_29 X dN_endAs_16 ?_
  exact go_vreturn X hq dN_endAs_19 ((n_pl - (1 : Int32)) &&& (255 : Int32), a1) hw rfl
theorem k_N_endAs {G : gt_} {ad : Nat → Nat} {cc : ByteArray} {own : String} {fr lo n cells slots pc index : Nat} {lc : List (Nat × Value)} {rest : List Value} {s_bk s_ln s_kd s_vl : Nat → Int32} {s_ct : Int32} {k_ce : Nat → Int32} {k_bc : Int32} {m_ra m_up : Nat → Int32} {m_on m_lo m_hi m_mo m_ma m_li : Int32} {n_rg n_sb : Nat → Int32} {n_st n_pl n_z n_n n_h n_c n_en n_so n_co n_sc : Int32} {l_bk l_of l_en : Nat → Int32} {l_ct : Int32} {t_bk t_of t_en : Nat → Int32} {t_ct : Int32} {a1 : Int32} {P : (Int32) → (Int32) → Prop} (X : cx_ G ad cc own fr lo n) (hw : wp_N_endAs n_pl n_co a1 P) (m1 : Cond.methodLink own index yN_endAs ∈ wS) (hlv : 0 + 1 ≤ fr ∧ 8 + (2 + 11) + 0 ≤ lo) (hrs : (rest.map fun v => v.category).sum ≤ 8) (hcs : cells ≤ (gR_ G).cells ∧ slots ≤ (gR_ G).slots) (d : decode cc pc = .ok (.invokevirtual index, 3))
    (kk : ∀ (n_pl' n_co' : Int32), P n_pl' n_co' → go_ G cells slots (wC ad s_bk s_ln s_kd s_vl s_ct k_ce k_bc m_ra m_up m_on m_lo m_hi m_mo m_ma m_li n_rg n_sb n_st n_pl' n_z n_n n_h n_c n_en n_so n_co' n_sc l_bk l_of l_en l_ct t_bk t_of t_en t_ct) (pc + 3) lc (rest)) : go_ G cells slots (wC ad s_bk s_ln s_kd s_vl s_ct k_ce k_bc m_ra m_up m_on m_lo m_hi m_mo m_ma m_li n_rg n_sb n_st n_pl n_z n_n n_h n_c n_en n_so n_co n_sc l_bk l_of l_en l_ct t_bk t_of t_en t_ct) pc lc (.int a1 :: .ref (ad 11) :: rest) :=
  go_cvv X (c_N_endAs hw) me_N_endAs m1 hlv 11 rfl rfl rfl hrs hcs d (fun u hp => kk u.1 u.2 hp)
set_option maxRecDepth 100000 in
set_option maxHeartbeats 4000000 in
theorem c_N_holds {l : Launch} {D : va_G} {ad : Nat → Nat} {s_bk s_ln s_kd s_vl : Nat → Int32} {s_ct : Int32} {k_ce : Nat → Int32} {k_bc : Int32} {m_ra m_up : Nat → Int32} {m_on m_lo m_hi m_mo m_ma m_li : Int32} {n_rg n_sb : Nat → Int32} {n_st n_pl n_z n_n n_h n_c n_en n_so n_co n_sc : Int32} {l_bk l_of l_en : Nat → Int32} {l_ct : Int32} {t_bk t_of t_en : Nat → Int32} {t_ct : Int32} {a1 : Int32} {P : Int32 → Prop} (hw : wp_N_holds n_z n_c a1 P) : ct_ l yN_holds bN_holds 2 (some .boolean) 0 0 D ad [.ref (ad 11), .int a1] (wC ad s_bk s_ln s_kd s_vl s_ct k_ce k_bc m_ra m_up m_on m_lo m_hi m_mo m_ma m_li n_rg n_sb n_st n_pl n_z n_n n_h n_c n_en n_so n_co n_sc l_bk l_of l_en l_ct t_bk t_of t_en t_ct) (qi_ D (fun (r : Int32) (_ : Unit) => P r ) (fun _ => (wC ad s_bk s_ln s_kd s_vl s_ct k_ce k_bc m_ra m_up m_on m_lo m_hi m_mo m_ma m_li n_rg n_sb n_st n_pl n_z n_n n_h n_c n_en n_so n_co n_sc l_bk l_of l_en l_ct t_bk t_of t_en t_ct))) := by
  refine ct_of RN (by decide) rfl (Nat.le_of_ble_eq_true rfl) (fun G hl hD X hq => ?_)
  subst hl hD
  show go_ G 0 0 (wC ad s_bk s_ln s_kd s_vl s_ct k_ce k_bc m_ra m_up m_on m_lo m_hi m_mo m_ma m_li n_rg n_sb n_st n_pl n_z n_n n_h n_c n_en n_so n_co n_sc l_bk l_of l_en l_ct t_bk t_of t_en t_ct) 0 [(0, .ref (ad 11)), (1, .int a1)] []
  refine go_iload_n X 1 dN_holds_0 rfl rfl ?_
  by_cases h9_0 : a1 = (0 : Int32)
  · have hw := hw.1 h9_0
    refine go_tin X (0 : Int32) dN_holds_1 h9_0 (by decide) (by decide) rfl rfl ?_
    refine go_iconst X dN_holds_32 kc_i1 ?_
    exact go_zreturn X hq dN_holds_33 (Or.inr rfl) () hw rfl
  by_cases h9_1 : a1 = (1 : Int32)
  · have hw := hw.2.1 h9_1
    refine go_tin X (1 : Int32) dN_holds_1 h9_1 (by decide) (by decide) rfl rfl ?_
    refine go_aload_n X 0 dN_holds_34 rfl rfl ?_
    refine gt_N_58 X dN_holds_35 ?_
    refine go_if_ne X dN_holds_38 rfl (fun hc => ?_) (fun hc => ?_)
    · have hw := hw.1 hc
      refine go_iconst X dN_holds_45 kc_i0 ?_
      exact go_zreturn X hq dN_holds_46 (Or.inl rfl) () hw rfl
    · have hw := hw.2 hc
      refine go_iconst X dN_holds_41 kc_i1 ?_
      refine go_goto X dN_holds_42 rfl ?_
      exact go_zreturn X hq dN_holds_46 (Or.inr rfl) () hw rfl
  by_cases h9_2 : a1 = (2 : Int32)
  · have hw := hw.2.2.1 h9_2
    refine go_tin X (2 : Int32) dN_holds_1 h9_2 (by decide) (by decide) rfl rfl ?_
    refine go_aload_n X 0 dN_holds_47 rfl rfl ?_
    refine gt_N_58 X dN_holds_48 ?_
    have hz := hw.1
    have hw := hw.2
    exact go_zreturn X hq dN_holds_51 hz () hw rfl
  by_cases h9_3 : a1 = (3 : Int32)
  · have hw := hw.2.2.2.1 h9_3
    refine go_tin X (3 : Int32) dN_holds_1 h9_3 (by decide) (by decide) rfl rfl ?_
    refine go_aload_n X 0 dN_holds_52 rfl rfl ?_
    refine gt_N_128 X dN_holds_53 ?_
    refine go_if_ne X dN_holds_56 rfl (fun hc => ?_) (fun hc => ?_)
    · have hw := hw.1 hc
      refine go_iconst X dN_holds_63 kc_i0 ?_
      exact go_zreturn X hq dN_holds_64 (Or.inl rfl) () hw rfl
    · have hw := hw.2 hc
      refine go_iconst X dN_holds_59 kc_i1 ?_
      refine go_goto X dN_holds_60 rfl ?_
      exact go_zreturn X hq dN_holds_64 (Or.inr rfl) () hw rfl
  have hw := hw.2.2.2.2 h9_0 h9_1 h9_2 h9_3
  have t9_0 := go_neT h9_0 (z := 0) (by decide)
  have t9_1 := go_neT h9_1 (z := 1) (by decide)
  have t9_2 := go_neT h9_2 (z := 2) (by decide)
  have t9_3 := go_neT h9_3 (z := 3) (by decide)
  refine go_tout X dN_holds_1 (by omega) rfl ?_
  refine go_aload_n X 0 dN_holds_65 rfl rfl ?_
  refine gt_N_128 X dN_holds_66 ?_
  have hz := hw.1
  have hw := hw.2
  exact go_zreturn X hq dN_holds_69 hz () hw rfl
theorem k_N_holds {G : gt_} {ad : Nat → Nat} {cc : ByteArray} {own : String} {fr lo n cells slots pc index : Nat} {lc : List (Nat × Value)} {rest : List Value} {s_bk s_ln s_kd s_vl : Nat → Int32} {s_ct : Int32} {k_ce : Nat → Int32} {k_bc : Int32} {m_ra m_up : Nat → Int32} {m_on m_lo m_hi m_mo m_ma m_li : Int32} {n_rg n_sb : Nat → Int32} {n_st n_pl n_z n_n n_h n_c n_en n_so n_co n_sc : Int32} {l_bk l_of l_en : Nat → Int32} {l_ct : Int32} {t_bk t_of t_en : Nat → Int32} {t_ct : Int32} {a1 : Int32} {P : Int32 → Prop} (X : cx_ G ad cc own fr lo n) (hw : wp_N_holds n_z n_c a1 P) (m1 : Cond.methodLink own index yN_holds ∈ wS) (hlv : 0 + 1 ≤ fr ∧ 8 + (2 + 11) + 0 ≤ lo) (hrs : (rest.map fun v => v.category).sum ≤ 8) (hcs : cells ≤ (gR_ G).cells ∧ slots ≤ (gR_ G).slots) (d : decode cc pc = .ok (.invokevirtual index, 3))
    (kk : ∀ (r : Int32), P r → go_ G cells slots (wC ad s_bk s_ln s_kd s_vl s_ct k_ce k_bc m_ra m_up m_on m_lo m_hi m_mo m_ma m_li n_rg n_sb n_st n_pl n_z n_n n_h n_c n_en n_so n_co n_sc l_bk l_of l_en l_ct t_bk t_of t_en t_ct) (pc + 3) lc (.int r :: rest)) : go_ G cells slots (wC ad s_bk s_ln s_kd s_vl s_ct k_ce k_bc m_ra m_up m_on m_lo m_hi m_mo m_ma m_li n_rg n_sb n_st n_pl n_z n_n n_h n_c n_en n_so n_co n_sc l_bk l_of l_en l_ct t_bk t_of t_en t_ct) pc lc (.int a1 :: .ref (ad 11) :: rest) :=
  go_cvi X (c_N_holds hw) me_N_holds m1 hlv 11 rfl rfl rfl hrs hcs d (fun r _ hp => kk r  hp)
set_option maxRecDepth 100000 in
set_option maxHeartbeats 4000000 in
theorem c_N_keptCount {l : Launch} {D : va_G} {ad : Nat → Nat} {s_bk s_ln s_kd s_vl : Nat → Int32} {s_ct : Int32} {k_ce : Nat → Int32} {k_bc : Int32} {m_ra m_up : Nat → Int32} {m_on m_lo m_hi m_mo m_ma m_li : Int32} {n_rg n_sb : Nat → Int32} {n_st n_pl n_z n_n n_h n_c n_en n_so n_co n_sc : Int32} {l_bk l_of l_en : Nat → Int32} {l_ct : Int32} {t_bk t_of t_en : Nat → Int32} {t_ct : Int32}  {P : Int32 → Prop} (hw : wp_N_keptCount n_sc  P) : ct_ l yN_keptCount bN_keptCount 1 (some .int) 1 32 D ad [.ref (ad 11)] (wC ad s_bk s_ln s_kd s_vl s_ct k_ce k_bc m_ra m_up m_on m_lo m_hi m_mo m_ma m_li n_rg n_sb n_st n_pl n_z n_n n_h n_c n_en n_so n_co n_sc l_bk l_of l_en l_ct t_bk t_of t_en t_ct) (qi_ D (fun (r : Int32) (_ : Unit) => P r ) (fun _ => (wC ad s_bk s_ln s_kd s_vl s_ct k_ce k_bc m_ra m_up m_on m_lo m_hi m_mo m_ma m_li n_rg n_sb n_st n_pl n_z n_n n_h n_c n_en n_so n_co n_sc l_bk l_of l_en l_ct t_bk t_of t_en t_ct))) := by
  refine ct_of RN (by decide) rfl (Nat.le_of_ble_eq_true rfl) (fun G hl hD X hq => ?_)
  subst hl hD
  show go_ G 0 0 (wC ad s_bk s_ln s_kd s_vl s_ct k_ce k_bc m_ra m_up m_on m_lo m_hi m_mo m_ma m_li n_rg n_sb n_st n_pl n_z n_n n_h n_c n_en n_so n_co n_sc l_bk l_of l_en l_ct t_bk t_of t_en t_ct) 0 [(0, .ref (ad 11))] []
  refine go_aload_n X 0 dN_keptCount_0 rfl rfl ?_
  refine gt_N_46 X dN_keptCount_1 ?_
  refine go_bipush X dN_keptCount_4 kc_b100 ?_
  refine go_mmin X mw_N_52 mn_s mn_i mn_c (by decide) (Nat.le_of_ble_eq_true rfl) ⟨Nat.zero_le _, Nat.zero_le _⟩ dN_keptCount_6 ?_
  exact go_ireturn X hq dN_keptCount_9 () hw rfl
theorem k_N_keptCount {G : gt_} {ad : Nat → Nat} {cc : ByteArray} {own : String} {fr lo n cells slots pc index : Nat} {lc : List (Nat × Value)} {rest : List Value} {s_bk s_ln s_kd s_vl : Nat → Int32} {s_ct : Int32} {k_ce : Nat → Int32} {k_bc : Int32} {m_ra m_up : Nat → Int32} {m_on m_lo m_hi m_mo m_ma m_li : Int32} {n_rg n_sb : Nat → Int32} {n_st n_pl n_z n_n n_h n_c n_en n_so n_co n_sc : Int32} {l_bk l_of l_en : Nat → Int32} {l_ct : Int32} {t_bk t_of t_en : Nat → Int32} {t_ct : Int32}  {P : Int32 → Prop} (X : cx_ G ad cc own fr lo n) (hw : wp_N_keptCount n_sc  P) (m1 : Cond.methodLink own index yN_keptCount ∈ wS) (hlv : 1 + 1 ≤ fr ∧ 8 + (1 + 11) + 32 ≤ lo) (hrs : (rest.map fun v => v.category).sum ≤ 8) (hcs : cells ≤ (gR_ G).cells ∧ slots ≤ (gR_ G).slots) (d : decode cc pc = .ok (.invokevirtual index, 3))
    (kk : ∀ (r : Int32), P r → go_ G cells slots (wC ad s_bk s_ln s_kd s_vl s_ct k_ce k_bc m_ra m_up m_on m_lo m_hi m_mo m_ma m_li n_rg n_sb n_st n_pl n_z n_n n_h n_c n_en n_so n_co n_sc l_bk l_of l_en l_ct t_bk t_of t_en t_ct) (pc + 3) lc (.int r :: rest)) : go_ G cells slots (wC ad s_bk s_ln s_kd s_vl s_ct k_ce k_bc m_ra m_up m_on m_lo m_hi m_mo m_ma m_li n_rg n_sb n_st n_pl n_z n_n n_h n_c n_en n_so n_co n_sc l_bk l_of l_en l_ct t_bk t_of t_en t_ct) pc lc (.ref (ad 11) :: rest) :=
  go_cvi X (c_N_keptCount hw) me_N_keptCount m1 hlv 11 rfl rfl rfl hrs hcs d (fun r _ hp => kk r  hp)
set_option maxRecDepth 100000 in
set_option maxHeartbeats 4000000 in
theorem c_N_send {l : Launch} {D : va_G} {ad : Nat → Nat} {s_bk s_ln s_kd s_vl : Nat → Int32} {s_ct : Int32} {k_ce : Nat → Int32} {k_bc : Int32} {m_ra m_up : Nat → Int32} {m_on m_lo m_hi m_mo m_ma m_li : Int32} {n_rg n_sb : Nat → Int32} {n_st n_pl n_z n_n n_h n_c n_en n_so n_co n_sc : Int32} {l_bk l_of l_en : Nat → Int32} {l_ct : Int32} {t_bk t_of t_en : Nat → Int32} {t_ct : Int32} {a1 : Int32} {P : (Nat → Int32) → (Int32) → Prop} (hw : wp_N_send n_sb n_sc a1 P) : ct_ l yN_send bN_send 2 none 0 0 D ad [.ref (ad 11), .int a1] (wC ad s_bk s_ln s_kd s_vl s_ct k_ce k_bc m_ra m_up m_on m_lo m_hi m_mo m_ma m_li n_rg n_sb n_st n_pl n_z n_n n_h n_c n_en n_so n_co n_sc l_bk l_of l_en l_ct t_bk t_of t_en t_ct) (qv_ D (fun (u : (Nat → Int32) × (Int32)) => P u.1 u.2) (fun u => wC ad s_bk s_ln s_kd s_vl s_ct k_ce k_bc m_ra m_up m_on m_lo m_hi m_mo m_ma m_li n_rg u.1 n_st n_pl n_z n_n n_h n_c n_en n_so n_co u.2 l_bk l_of l_en l_ct t_bk t_of t_en t_ct)) := by
  refine ct_of RN (by decide) rfl (Nat.le_of_ble_eq_true rfl) (fun G hl hD X hq => ?_)
  subst hl hD
  show go_ G 0 0 (wC ad s_bk s_ln s_kd s_vl s_ct k_ce k_bc m_ra m_up m_on m_lo m_hi m_mo m_ma m_li n_rg n_sb n_st n_pl n_z n_n n_h n_c n_en n_so n_co n_sc l_bk l_of l_en l_ct t_bk t_of t_en t_ct) 0 [(0, .ref (ad 11)), (1, .int a1)] []
  refine go_aload_n X 0 dN_send_0 rfl rfl ?_
  refine gt_N_46 X dN_send_1 ?_
  refine go_bipush X dN_send_4 kc_b100 ?_
  refine go_icmp_ge X dN_send_6 rfl (fun hc => ?_) (fun hc => ?_)
  · have hw := hw.1 hc
    refine go_aload_n X 0 dN_send_19 rfl rfl ?_
    refine go_dup X dN_send_20 rfl ?_
    refine gt_N_46 X dN_send_21 ?_
    refine go_iconst X dN_send_24 kc_i1 ?_
    refine go_iadd X dN_send_25 ?_
    refine pt_N_46 X dN_send_26 ?_
    exact go_vreturn X hq dN_send_29 (n_sb, n_sc + (1 : Int32)) hw rfl
  · have hw := hw.2 hc
    refine go_aload_n X 0 dN_send_9 rfl rfl ?_
    refine gt_N_15 X dN_send_10 ?_
    refine go_aload_n X 0 dN_send_13 rfl rfl ?_
    refine gt_N_46 X dN_send_14 ?_
    refine go_iload_n X 1 dN_send_17 rfl rfl ?_
    have hz := hw.1
    have hw := hw.2
    refine as_n_sb X hz dN_send_18 ?_
    refine go_aload_n X 0 dN_send_19 rfl rfl ?_
    refine go_dup X dN_send_20 rfl ?_
    refine gt_N_46 X dN_send_21 ?_
    refine go_iconst X dN_send_24 kc_i1 ?_
    refine go_iadd X dN_send_25 ?_
    refine pt_N_46 X dN_send_26 ?_
    exact go_vreturn X hq dN_send_29 (upd n_sb n_sc.toNatClampNeg a1, n_sc + (1 : Int32)) hw rfl
theorem k_N_send {G : gt_} {ad : Nat → Nat} {cc : ByteArray} {own : String} {fr lo n cells slots pc index : Nat} {lc : List (Nat × Value)} {rest : List Value} {s_bk s_ln s_kd s_vl : Nat → Int32} {s_ct : Int32} {k_ce : Nat → Int32} {k_bc : Int32} {m_ra m_up : Nat → Int32} {m_on m_lo m_hi m_mo m_ma m_li : Int32} {n_rg n_sb : Nat → Int32} {n_st n_pl n_z n_n n_h n_c n_en n_so n_co n_sc : Int32} {l_bk l_of l_en : Nat → Int32} {l_ct : Int32} {t_bk t_of t_en : Nat → Int32} {t_ct : Int32} {a1 : Int32} {P : (Nat → Int32) → (Int32) → Prop} (X : cx_ G ad cc own fr lo n) (hw : wp_N_send n_sb n_sc a1 P) (m1 : Cond.methodLink own index yN_send ∈ wS) (hlv : 0 + 1 ≤ fr ∧ 8 + (2 + 11) + 0 ≤ lo) (hrs : (rest.map fun v => v.category).sum ≤ 8) (hcs : cells ≤ (gR_ G).cells ∧ slots ≤ (gR_ G).slots) (d : decode cc pc = .ok (.invokevirtual index, 3))
    (kk : ∀ (n_sb' : Nat → Int32) (n_sc' : Int32), P n_sb' n_sc' → go_ G cells slots (wC ad s_bk s_ln s_kd s_vl s_ct k_ce k_bc m_ra m_up m_on m_lo m_hi m_mo m_ma m_li n_rg n_sb' n_st n_pl n_z n_n n_h n_c n_en n_so n_co n_sc' l_bk l_of l_en l_ct t_bk t_of t_en t_ct) (pc + 3) lc (rest)) : go_ G cells slots (wC ad s_bk s_ln s_kd s_vl s_ct k_ce k_bc m_ra m_up m_on m_lo m_hi m_mo m_ma m_li n_rg n_sb n_st n_pl n_z n_n n_h n_c n_en n_so n_co n_sc l_bk l_of l_en l_ct t_bk t_of t_en t_ct) pc lc (.int a1 :: .ref (ad 11) :: rest) :=
  go_cvv X (c_N_send hw) me_N_send m1 hlv 11 rfl rfl rfl hrs hcs d (fun u hp => kk u.1 u.2 hp)
set_option maxRecDepth 100000 in
set_option maxHeartbeats 4000000 in
theorem c_N_setFlags {l : Launch} {D : va_G} {ad : Nat → Nat} {s_bk s_ln s_kd s_vl : Nat → Int32} {s_ct : Int32} {k_ce : Nat → Int32} {k_bc : Int32} {m_ra m_up : Nat → Int32} {m_on m_lo m_hi m_mo m_ma m_li : Int32} {n_rg n_sb : Nat → Int32} {n_st n_pl n_z n_n n_h n_c n_en n_so n_co n_sc : Int32} {l_bk l_of l_en : Nat → Int32} {l_ct : Int32} {t_bk t_of t_en : Nat → Int32} {t_ct : Int32} {a1 a2 a3 a4 : Int32} {P : (Int32) → (Int32) → (Int32) → (Int32) → Prop} (hw : wp_N_setFlags n_z n_n n_h n_c a1 a2 a3 a4 P) : ct_ l yN_setFlags bN_setFlags 5 none 0 0 D ad [.ref (ad 11), .int a1, .int a2, .int a3, .int a4] (wC ad s_bk s_ln s_kd s_vl s_ct k_ce k_bc m_ra m_up m_on m_lo m_hi m_mo m_ma m_li n_rg n_sb n_st n_pl n_z n_n n_h n_c n_en n_so n_co n_sc l_bk l_of l_en l_ct t_bk t_of t_en t_ct) (qv_ D (fun (u : (Int32) × (Int32) × (Int32) × (Int32)) => P u.1 u.2.1 u.2.2.1 u.2.2.2) (fun u => wC ad s_bk s_ln s_kd s_vl s_ct k_ce k_bc m_ra m_up m_on m_lo m_hi m_mo m_ma m_li n_rg n_sb n_st n_pl u.1 u.2.1 u.2.2.1 u.2.2.2 n_en n_so n_co n_sc l_bk l_of l_en l_ct t_bk t_of t_en t_ct)) := by
  refine ct_of RN (by decide) rfl (Nat.le_of_ble_eq_true rfl) (fun G hl hD X hq => ?_)
  subst hl hD
  show go_ G 0 0 (wC ad s_bk s_ln s_kd s_vl s_ct k_ce k_bc m_ra m_up m_on m_lo m_hi m_mo m_ma m_li n_rg n_sb n_st n_pl n_z n_n n_h n_c n_en n_so n_co n_sc l_bk l_of l_en l_ct t_bk t_of t_en t_ct) 0 [(0, .ref (ad 11)), (1, .int a1), (2, .int a2), (3, .int a3), (4, .int a4)] []
  refine go_aload_n X 0 dN_setFlags_0 rfl rfl ?_
  refine go_iload_n X 1 dN_setFlags_1 rfl rfl ?_
  have hz := hw.1
  have hw := hw.2
  refine pt_N_58 X hz dN_setFlags_2 ?_
  refine go_aload_n X 0 dN_setFlags_5 rfl rfl ?_
  refine go_iload_n X 2 dN_setFlags_6 rfl rfl ?_
  have hz := hw.1
  have hw := hw.2
  refine pt_N_61 X hz dN_setFlags_7 ?_
  refine go_aload_n X 0 dN_setFlags_10 rfl rfl ?_
  refine go_iload_n X 3 dN_setFlags_11 rfl rfl ?_
  have hz := hw.1
  have hw := hw.2
  refine pt_N_64 X hz dN_setFlags_12 ?_
  refine go_aload_n X 0 dN_setFlags_15 rfl rfl ?_
  refine go_iload X 4 dN_setFlags_16 rfl ?_
  have hz := hw.1
  have hw := hw.2
  refine pt_N_128 X hz dN_setFlags_18 ?_
  exact go_vreturn X hq dN_setFlags_21 (a1, a2, a3, a4) hw rfl
theorem k_N_setFlags {G : gt_} {ad : Nat → Nat} {cc : ByteArray} {own : String} {fr lo n cells slots pc index : Nat} {lc : List (Nat × Value)} {rest : List Value} {s_bk s_ln s_kd s_vl : Nat → Int32} {s_ct : Int32} {k_ce : Nat → Int32} {k_bc : Int32} {m_ra m_up : Nat → Int32} {m_on m_lo m_hi m_mo m_ma m_li : Int32} {n_rg n_sb : Nat → Int32} {n_st n_pl n_z n_n n_h n_c n_en n_so n_co n_sc : Int32} {l_bk l_of l_en : Nat → Int32} {l_ct : Int32} {t_bk t_of t_en : Nat → Int32} {t_ct : Int32} {a1 a2 a3 a4 : Int32} {P : (Int32) → (Int32) → (Int32) → (Int32) → Prop} (X : cx_ G ad cc own fr lo n) (hw : wp_N_setFlags n_z n_n n_h n_c a1 a2 a3 a4 P) (m1 : Cond.methodLink own index yN_setFlags ∈ wS) (hlv : 0 + 1 ≤ fr ∧ 8 + (5 + 11) + 0 ≤ lo) (hrs : (rest.map fun v => v.category).sum ≤ 8) (hcs : cells ≤ (gR_ G).cells ∧ slots ≤ (gR_ G).slots) (d : decode cc pc = .ok (.invokevirtual index, 3))
    (kk : ∀ (n_z' n_n' n_h' n_c' : Int32), P n_z' n_n' n_h' n_c' → go_ G cells slots (wC ad s_bk s_ln s_kd s_vl s_ct k_ce k_bc m_ra m_up m_on m_lo m_hi m_mo m_ma m_li n_rg n_sb n_st n_pl n_z' n_n' n_h' n_c' n_en n_so n_co n_sc l_bk l_of l_en l_ct t_bk t_of t_en t_ct) (pc + 3) lc (rest)) : go_ G cells slots (wC ad s_bk s_ln s_kd s_vl s_ct k_ce k_bc m_ra m_up m_on m_lo m_hi m_mo m_ma m_li n_rg n_sb n_st n_pl n_z n_n n_h n_c n_en n_so n_co n_sc l_bk l_of l_en l_ct t_bk t_of t_en t_ct) pc lc (.int a4 :: .int a3 :: .int a2 :: .int a1 :: .ref (ad 11) :: rest) :=
  go_cvv X (c_N_setFlags hw) me_N_setFlags m1 hlv 11 rfl rfl rfl hrs hcs d (fun u hp => kk u.1 u.2.1 u.2.2.1 u.2.2.2 hp)
set_option maxRecDepth 100000 in
set_option maxHeartbeats 4000000 in
theorem c_N_wakeFor {l : Launch} {D : va_G} {ad : Nat → Nat} {s_bk s_ln s_kd s_vl : Nat → Int32} {s_ct : Int32} {k_ce : Nat → Int32} {k_bc : Int32} {m_ra m_up : Nat → Int32} {m_on m_lo m_hi m_mo m_ma m_li : Int32} {n_rg n_sb : Nat → Int32} {n_st n_pl n_z n_n n_h n_c n_en n_so n_co n_sc : Int32} {l_bk l_of l_en : Nat → Int32} {l_ct : Int32} {t_bk t_of t_en : Nat → Int32} {t_ct : Int32} {a1 : Int32} {P : (Int32) → (Int32) → Prop} (hw : wp_N_wakeFor n_pl n_co a1 P) : ct_ l yN_wakeFor bN_wakeFor 2 none 0 0 D ad [.ref (ad 11), .int a1] (wC ad s_bk s_ln s_kd s_vl s_ct k_ce k_bc m_ra m_up m_on m_lo m_hi m_mo m_ma m_li n_rg n_sb n_st n_pl n_z n_n n_h n_c n_en n_so n_co n_sc l_bk l_of l_en l_ct t_bk t_of t_en t_ct) (qv_ D (fun (u : (Int32) × (Int32)) => P u.1 u.2) (fun u => wC ad s_bk s_ln s_kd s_vl s_ct k_ce k_bc m_ra m_up m_on m_lo m_hi m_mo m_ma m_li n_rg n_sb n_st u.1 n_z n_n n_h n_c n_en n_so u.2 n_sc l_bk l_of l_en l_ct t_bk t_of t_en t_ct)) := by
  refine ct_of RN (by decide) rfl (Nat.le_of_ble_eq_true rfl) (fun G hl hD X hq => ?_)
  subst hl hD
  show go_ G 0 0 (wC ad s_bk s_ln s_kd s_vl s_ct k_ce k_bc m_ra m_up m_on m_lo m_hi m_mo m_ma m_li n_rg n_sb n_st n_pl n_z n_n n_h n_c n_en n_so n_co n_sc l_bk l_of l_en l_ct t_bk t_of t_en t_ct) 0 [(0, .ref (ad 11)), (1, .int a1)] []
  refine go_iload_n X 1 dN_wakeFor_0 rfl rfl ?_
  refine go_iconst X dN_wakeFor_1 kc_im1 ?_
  refine go_icmp_eq X dN_wakeFor_2 rfl (fun hc => ?_) (fun hc => ?_)
  · have hw := hw.1 hc
    exact go_vreturn X hq dN_wakeFor_24 (n_pl, n_co) hw rfl
  · have hw := hw.2 hc
    refine go_aload_n X 0 dN_wakeFor_5 rfl rfl ?_
    refine go_iconst X dN_wakeFor_6 kc_i0 ?_
    refine pt_N_43 X dN_wakeFor_7 ?_
    refine go_aload_n X 0 dN_wakeFor_10 rfl rfl ?_
    refine go_aload_n X 0 dN_wakeFor_11 rfl rfl ?_
    refine gt_N_29 X dN_wakeFor_12 ?_
    refine go_iconst X dN_wakeFor_15 kc_i1 ?_
    refine go_iadd X dN_wakeFor_16 ?_
    refine go_sipush X dN_wakeFor_17 kc_s255 ?_
    refine go_iand X dN_wakeFor_20 ?_
    refine pt_N_29 X dN_wakeFor_21 ?_
    exact go_vreturn X hq dN_wakeFor_24 ((n_pl + (1 : Int32)) &&& (255 : Int32), (0 : Int32)) hw rfl
theorem k_N_wakeFor {G : gt_} {ad : Nat → Nat} {cc : ByteArray} {own : String} {fr lo n cells slots pc index : Nat} {lc : List (Nat × Value)} {rest : List Value} {s_bk s_ln s_kd s_vl : Nat → Int32} {s_ct : Int32} {k_ce : Nat → Int32} {k_bc : Int32} {m_ra m_up : Nat → Int32} {m_on m_lo m_hi m_mo m_ma m_li : Int32} {n_rg n_sb : Nat → Int32} {n_st n_pl n_z n_n n_h n_c n_en n_so n_co n_sc : Int32} {l_bk l_of l_en : Nat → Int32} {l_ct : Int32} {t_bk t_of t_en : Nat → Int32} {t_ct : Int32} {a1 : Int32} {P : (Int32) → (Int32) → Prop} (X : cx_ G ad cc own fr lo n) (hw : wp_N_wakeFor n_pl n_co a1 P) (m1 : Cond.methodLink own index yN_wakeFor ∈ wS) (hlv : 0 + 1 ≤ fr ∧ 8 + (2 + 11) + 0 ≤ lo) (hrs : (rest.map fun v => v.category).sum ≤ 8) (hcs : cells ≤ (gR_ G).cells ∧ slots ≤ (gR_ G).slots) (d : decode cc pc = .ok (.invokevirtual index, 3))
    (kk : ∀ (n_pl' n_co' : Int32), P n_pl' n_co' → go_ G cells slots (wC ad s_bk s_ln s_kd s_vl s_ct k_ce k_bc m_ra m_up m_on m_lo m_hi m_mo m_ma m_li n_rg n_sb n_st n_pl' n_z n_n n_h n_c n_en n_so n_co' n_sc l_bk l_of l_en l_ct t_bk t_of t_en t_ct) (pc + 3) lc (rest)) : go_ G cells slots (wC ad s_bk s_ln s_kd s_vl s_ct k_ce k_bc m_ra m_up m_on m_lo m_hi m_mo m_ma m_li n_rg n_sb n_st n_pl n_z n_n n_h n_c n_en n_so n_co n_sc l_bk l_of l_en l_ct t_bk t_of t_en t_ct) pc lc (.int a1 :: .ref (ad 11) :: rest) :=
  go_cvv X (c_N_wakeFor hw) me_N_wakeFor m1 hlv 11 rfl rfl rfl hrs hcs d (fun u hp => kk u.1 u.2 hp)
set_option maxRecDepth 100000 in
set_option maxHeartbeats 4000000 in
theorem c_N_adjust {l : Launch} {D : va_G} {ad : Nat → Nat} {s_bk s_ln s_kd s_vl : Nat → Int32} {s_ct : Int32} {k_ce : Nat → Int32} {k_bc : Int32} {m_ra m_up : Nat → Int32} {m_on m_lo m_hi m_mo m_ma m_li : Int32} {n_rg n_sb : Nat → Int32} {n_st n_pl n_z n_n n_h n_c n_en n_so n_co n_sc : Int32} {l_bk l_of l_en : Nat → Int32} {l_ct : Int32} {t_bk t_of t_en : Nat → Int32} {t_ct : Int32}  {P : (Nat → Int32) → (Int32) → (Int32) → (Int32) → (Int32) → Prop} (hw : wp_N_adjust n_rg n_z n_n n_h n_c  P) : ct_ l yN_adjust bN_adjust 4 none 1 24 D ad [.ref (ad 11)] (wC ad s_bk s_ln s_kd s_vl s_ct k_ce k_bc m_ra m_up m_on m_lo m_hi m_mo m_ma m_li n_rg n_sb n_st n_pl n_z n_n n_h n_c n_en n_so n_co n_sc l_bk l_of l_en l_ct t_bk t_of t_en t_ct) (qv_ D (fun (u : (Nat → Int32) × (Int32) × (Int32) × (Int32) × (Int32)) => P u.1 u.2.1 u.2.2.1 u.2.2.2.1 u.2.2.2.2) (fun u => wC ad s_bk s_ln s_kd s_vl s_ct k_ce k_bc m_ra m_up m_on m_lo m_hi m_mo m_ma m_li u.1 n_sb n_st n_pl u.2.1 u.2.2.1 u.2.2.2.1 u.2.2.2.2 n_en n_so n_co n_sc l_bk l_of l_en l_ct t_bk t_of t_en t_ct)) := by
  refine ct_of RN (by decide) rfl (Nat.le_of_ble_eq_true rfl) (fun G hl hD X hq => ?_)
  subst hl hD
  show go_ G 0 0 (wC ad s_bk s_ln s_kd s_vl s_ct k_ce k_bc m_ra m_up m_on m_lo m_hi m_mo m_ma m_li n_rg n_sb n_st n_pl n_z n_n n_h n_c n_en n_so n_co n_sc l_bk l_of l_en l_ct t_bk t_of t_en t_ct) 0 [(0, .ref (ad 11))] []
  have C92 : ∀ (n_rg : Nat → Int32) (n_z n_n n_h n_c x2 y0 y1 : Int32), wp_N_adjust_92 P n_rg n_z n_n n_h n_c x2 y0 y1 → go_ G 0 0 (wC ad s_bk s_ln s_kd s_vl s_ct k_ce k_bc m_ra m_up m_on m_lo m_hi m_mo m_ma m_li n_rg n_sb n_st n_pl n_z n_n n_h n_c n_en n_so n_co n_sc l_bk l_of l_en l_ct t_bk t_of t_en t_ct) 92 [(0, .ref (ad 11)), (2, .int x2)] [.int y0, .int y1, .ref (ad 12)] := by
    intro n_rg n_z n_n n_h n_c x2 y0 y1 hw
    refine go_sipush X dN_adjust_92 kc_s255 ?_
    refine go_iand X dN_adjust_95 ?_
    have hz := hw.1
    have hw := hw.2
    refine as_n_rg X hz dN_adjust_96 ?_
    refine go_aload_n X 0 dN_adjust_97 rfl rfl ?_
    refine go_aload_n X 0 dN_adjust_98 rfl rfl ?_
    refine gt_N_9 X dN_adjust_99 ?_
    refine go_bipush X dN_adjust_102 kc_b7 ?_
    refine ar_n_rg X vi_7_8 dN_adjust_104 ?_
    refine go_if_ne X dN_adjust_105 rfl (fun hc => ?_) (fun hc => ?_)
    · have hw := hw.1 hc
      refine go_iconst X dN_adjust_112 kc_i0 ?_
      refine go_aload_n X 0 dN_adjust_113 rfl rfl ?_
      refine gt_N_61 X dN_adjust_114 ?_
      refine go_iconst X dN_adjust_117 kc_i0 ?_
      refine go_iload_n X 1 dN_adjust_118 rfl rfl ?_
      refine k_N_setFlags X hw mw_N_32 ⟨by decide, by decide⟩ (Nat.le_of_ble_eq_true rfl) ⟨Nat.zero_le _, Nat.zero_le _⟩ dN_adjust_119 (fun w2 w3 w4 w5 hw => ?_)
      exact go_vreturn X hq dN_adjust_122 (upd n_rg y1.toNatClampNeg (y0 &&& (255 : Int32)), w2, w3, w4, w5) hw rfl
    · have hw := hw.2 hc
      refine go_iconst X dN_adjust_108 kc_i1 ?_
      refine go_goto X dN_adjust_109 rfl ?_
      refine go_aload_n X 0 dN_adjust_113 rfl rfl ?_
      refine gt_N_61 X dN_adjust_114 ?_
      refine go_iconst X dN_adjust_117 kc_i0 ?_
      refine go_iload_n X 1 dN_adjust_118 rfl rfl ?_
      refine k_N_setFlags X hw mw_N_32 ⟨by decide, by decide⟩ (Nat.le_of_ble_eq_true rfl) ⟨Nat.zero_le _, Nat.zero_le _⟩ dN_adjust_119 (fun w6 w7 w8 w9 hw => ?_)
      exact go_vreturn X hq dN_adjust_122 (upd n_rg y1.toNatClampNeg (y0 &&& (255 : Int32)), w6, w7, w8, w9) hw rfl
  have C70 : ∀ (n_rg : Nat → Int32) (n_z n_n n_h n_c x1 x2 x3 : Int32), wp_N_adjust_70 P n_rg n_z n_n n_h n_c x1 x2 x3 → go_ G 0 0 (wC ad s_bk s_ln s_kd s_vl s_ct k_ce k_bc m_ra m_up m_on m_lo m_hi m_mo m_ma m_li n_rg n_sb n_st n_pl n_z n_n n_h n_c n_en n_so n_co n_sc l_bk l_of l_en l_ct t_bk t_of t_en t_ct) 70 [(0, .ref (ad 11)), (1, .int x1), (2, .int x2), (3, .int x3)] [] := by
    intro n_rg n_z n_n n_h n_c x1 x2 x3 hw
    refine go_aload_n X 0 dN_adjust_70 rfl rfl ?_
    refine gt_N_9 X dN_adjust_71 ?_
    refine go_bipush X dN_adjust_74 kc_b7 ?_
    refine go_aload_n X 0 dN_adjust_76 rfl rfl ?_
    refine gt_N_61 X dN_adjust_77 ?_
    refine go_if_eq X dN_adjust_80 rfl (fun hc => ?_) (fun hc => ?_)
    · have hw := hw.1 hc
      refine go_iload_n X 1 dN_adjust_89 rfl rfl ?_
      refine go_iload_n X 3 dN_adjust_90 rfl rfl ?_
      refine go_iadd X dN_adjust_91 ?_
      refine go_lc [0, 2] rfl ?_
      exact C92 _ _ _ _ _ _ _ _ hw
    · have hw := hw.2 hc
      refine go_iload_n X 1 dN_adjust_83 rfl rfl ?_
      refine go_iload_n X 3 dN_adjust_84 rfl rfl ?_
      refine go_isub X dN_adjust_85 ?_
      refine go_goto X dN_adjust_86 rfl ?_
      refine go_lc [0, 2] rfl ?_
      exact C92 _ _ _ _ _ _ _ _ hw
  have C34 : ∀ (n_rg : Nat → Int32) (n_z n_n n_h n_c x1 y0 : Int32), wp_N_adjust_34 P n_rg n_z n_n n_h n_c x1 y0 → go_ G 0 0 (wC ad s_bk s_ln s_kd s_vl s_ct k_ce k_bc m_ra m_up m_on m_lo m_hi m_mo m_ma m_li n_rg n_sb n_st n_pl n_z n_n n_h n_c n_en n_so n_co n_sc l_bk l_of l_en l_ct t_bk t_of t_en t_ct) 34 [(0, .ref (ad 11)), (1, .int x1)] [.int y0] := by
    intro n_rg n_z n_n n_h n_c x1 y0 hw
    refine go_istore_n X dN_adjust_34 rfl (by decide) rfl ?_
    refine go_iconst X dN_adjust_35 kc_i0 ?_
    refine go_istore_n X dN_adjust_36 rfl (by decide) rfl ?_
    refine go_aload_n X 2 dN_adjust_37 rfl rfl ?_
    refine gt_N_64 X dN_adjust_38 ?_
    refine go_if_ne X dN_adjust_41 rfl (fun hc => ?_) (fun hc => ?_)
    · have hw := hw.1 hc
      refine go_bipush X dN_adjust_60 kc_b6 ?_
      refine go_istore_n X dN_adjust_62 rfl (by decide) rfl ?_
      refine go_iload_n X 1 dN_adjust_63 rfl rfl ?_
      refine go_if_eq X dN_adjust_64 rfl (fun hc => ?_) (fun hc => ?_)
      · have hw := hw.1 hc
        refine go_lc [2, 3, 1, 0] rfl ?_
        exact C70 _ _ _ _ _ _ _ _ hw
      · have hw := hw.2 hc
        refine go_iinc X 0 dN_adjust_67 rfl (ki_96 _) (by decide) rfl ?_
        refine go_lc [2, 3, 1, 0] rfl ?_
        exact C70 _ _ _ _ _ _ _ _ hw
    · have hw := hw.2 hc
      refine go_aload_n X 2 dN_adjust_44 rfl rfl ?_
      refine gt_N_61 X dN_adjust_45 ?_
      refine go_if_ne X dN_adjust_48 rfl (fun hc => ?_) (fun hc => ?_)
      · have hw := hw.1 hc
        refine go_iload_n X 1 dN_adjust_63 rfl rfl ?_
        refine go_if_eq X dN_adjust_64 rfl (fun hc => ?_) (fun hc => ?_)
        · have hw := hw.1 hc
          refine go_lc [2, 3, 1, 0] rfl ?_
          exact C70 _ _ _ _ _ _ _ _ hw
        · have hw := hw.2 hc
          refine go_iinc X 0 dN_adjust_67 rfl (ki_96 _) (by decide) rfl ?_
          refine go_lc [2, 3, 1, 0] rfl ?_
          exact C70 _ _ _ _ _ _ _ _ hw
      · have hw := hw.2 hc
        refine go_iload_n X 3 dN_adjust_51 rfl rfl ?_
        refine go_bipush X dN_adjust_52 kc_b15 ?_
        refine go_iand X dN_adjust_54 ?_
        refine go_bipush X dN_adjust_55 kc_b9 ?_
        refine go_icmp_le X dN_adjust_57 rfl (fun hc => ?_) (fun hc => ?_)
        · have hw := hw.1 hc
          refine go_iload_n X 1 dN_adjust_63 rfl rfl ?_
          refine go_if_eq X dN_adjust_64 rfl (fun hc => ?_) (fun hc => ?_)
          · have hw := hw.1 hc
            refine go_lc [2, 3, 1, 0] rfl ?_
            exact C70 _ _ _ _ _ _ _ _ hw
          · have hw := hw.2 hc
            refine go_iinc X 0 dN_adjust_67 rfl (ki_96 _) (by decide) rfl ?_
            refine go_lc [2, 3, 1, 0] rfl ?_
            exact C70 _ _ _ _ _ _ _ _ hw
        · have hw := hw.2 hc
          refine go_bipush X dN_adjust_60 kc_b6 ?_
          refine go_istore_n X dN_adjust_62 rfl (by decide) rfl ?_
          refine go_iload_n X 1 dN_adjust_63 rfl rfl ?_
          refine go_if_eq X dN_adjust_64 rfl (fun hc => ?_) (fun hc => ?_)
          · have hw := hw.1 hc
            refine go_lc [2, 3, 1, 0] rfl ?_
            exact C70 _ _ _ _ _ _ _ _ hw
          · have hw := hw.2 hc
            refine go_iinc X 0 dN_adjust_67 rfl (ki_96 _) (by decide) rfl ?_
            refine go_lc [2, 3, 1, 0] rfl ?_
            exact C70 _ _ _ _ _ _ _ _ hw
  refine go_aload_n X 0 dN_adjust_0 rfl rfl ?_
  refine gt_N_9 X dN_adjust_1 ?_
  refine go_bipush X dN_adjust_4 kc_b7 ?_
  refine ar_n_rg X vi_7_8 dN_adjust_6 ?_
  refine go_nm (fun z1 ez1 => ?_)
  have hw := hw z1 ez1
  refine go_istore_n X dN_adjust_7 rfl (by decide) rfl ?_
  refine go_aload_n X 1 dN_adjust_8 rfl rfl ?_
  refine gt_N_128 X dN_adjust_9 ?_
  refine go_if_ne X dN_adjust_12 rfl (fun hc => ?_) (fun hc => ?_)
  · have hw := hw.1 hc
    refine go_iconst X dN_adjust_29 kc_i1 ?_
    refine go_goto X dN_adjust_30 rfl ?_
    refine go_lc [1, 0] rfl ?_
    exact C34 _ _ _ _ _ _ _ hw
  · have hw := hw.2 hc
    refine go_aload_n X 1 dN_adjust_15 rfl rfl ?_
    refine gt_N_61 X dN_adjust_16 ?_
    refine go_if_ne X dN_adjust_19 rfl (fun hc => ?_) (fun hc => ?_)
    · have hw := hw.1 hc
      refine go_iconst X dN_adjust_33 kc_i0 ?_
      refine go_lc [1, 0] rfl ?_
      exact C34 _ _ _ _ _ _ _ hw
    · have hw := hw.2 hc
      refine go_iload_n X 0 dN_adjust_22 rfl rfl ?_
      refine go_sipush X dN_adjust_23 kc_s153 ?_
      refine go_icmp_le X dN_adjust_26 rfl (fun hc => ?_) (fun hc => ?_)
      · have hw := hw.1 hc
        refine go_iconst X dN_adjust_33 kc_i0 ?_
        refine go_lc [1, 0] rfl ?_
        exact C34 _ _ _ _ _ _ _ hw
      · have hw := hw.2 hc
        refine go_iconst X dN_adjust_29 kc_i1 ?_
        refine go_goto X dN_adjust_30 rfl ?_
        refine go_lc [1, 0] rfl ?_
        exact C34 _ _ _ _ _ _ _ hw
theorem k_N_adjust {G : gt_} {ad : Nat → Nat} {cc : ByteArray} {own : String} {fr lo n cells slots pc index : Nat} {lc : List (Nat × Value)} {rest : List Value} {s_bk s_ln s_kd s_vl : Nat → Int32} {s_ct : Int32} {k_ce : Nat → Int32} {k_bc : Int32} {m_ra m_up : Nat → Int32} {m_on m_lo m_hi m_mo m_ma m_li : Int32} {n_rg n_sb : Nat → Int32} {n_st n_pl n_z n_n n_h n_c n_en n_so n_co n_sc : Int32} {l_bk l_of l_en : Nat → Int32} {l_ct : Int32} {t_bk t_of t_en : Nat → Int32} {t_ct : Int32}  {P : (Nat → Int32) → (Int32) → (Int32) → (Int32) → (Int32) → Prop} (X : cx_ G ad cc own fr lo n) (hw : wp_N_adjust n_rg n_z n_n n_h n_c  P) (m1 : Cond.methodLink own index yN_adjust ∈ wS) (hlv : 1 + 1 ≤ fr ∧ 8 + (4 + 11) + 24 ≤ lo) (hrs : (rest.map fun v => v.category).sum ≤ 8) (hcs : cells ≤ (gR_ G).cells ∧ slots ≤ (gR_ G).slots) (d : decode cc pc = .ok (.invokevirtual index, 3))
    (kk : ∀ (n_rg' : Nat → Int32) (n_z' n_n' n_h' n_c' : Int32), P n_rg' n_z' n_n' n_h' n_c' → go_ G cells slots (wC ad s_bk s_ln s_kd s_vl s_ct k_ce k_bc m_ra m_up m_on m_lo m_hi m_mo m_ma m_li n_rg' n_sb n_st n_pl n_z' n_n' n_h' n_c' n_en n_so n_co n_sc l_bk l_of l_en l_ct t_bk t_of t_en t_ct) (pc + 3) lc (rest)) : go_ G cells slots (wC ad s_bk s_ln s_kd s_vl s_ct k_ce k_bc m_ra m_up m_on m_lo m_hi m_mo m_ma m_li n_rg n_sb n_st n_pl n_z n_n n_h n_c n_en n_so n_co n_sc l_bk l_of l_en l_ct t_bk t_of t_en t_ct) pc lc (.ref (ad 11) :: rest) :=
  go_cvv X (c_N_adjust hw) me_N_adjust m1 hlv 11 rfl rfl rfl hrs hcs d (fun u hp => kk u.1 u.2.1 u.2.2.1 u.2.2.2.1 u.2.2.2.2 hp)
set_option maxRecDepth 100000 in
set_option maxHeartbeats 4000000 in
theorem c_N_begin {l : Launch} {D : va_G} {ad : Nat → Nat} {s_bk s_ln s_kd s_vl : Nat → Int32} {s_ct : Int32} {k_ce : Nat → Int32} {k_bc : Int32} {m_ra m_up : Nat → Int32} {m_on m_lo m_hi m_mo m_ma m_li : Int32} {n_rg n_sb : Nat → Int32} {n_st n_pl n_z n_n n_h n_c n_en n_so n_co n_sc : Int32} {l_bk l_of l_en : Nat → Int32} {l_ct : Int32} {t_bk t_of t_en : Nat → Int32} {t_ct : Int32}  {P : (Nat → Int32) → (Nat → Int32) → (Int32) → (Int32) → (Int32) → (Int32) → (Int32) → (Int32) → (Nat → Int32) → (Int32) → (Int32) → (Int32) → (Int32) → (Int32) → (Int32) → (Int32) → (Int32) → (Int32) → (Int32) → Prop} (hw : wp_N_begin m_ra m_up m_on m_lo m_hi m_mo m_ma m_li n_rg n_st n_pl n_z n_n n_h n_c n_en n_so n_co n_sc  P) : ct_ l yN_begin bN_begin 2 none 1 24 D ad [.ref (ad 11)] (wC ad s_bk s_ln s_kd s_vl s_ct k_ce k_bc m_ra m_up m_on m_lo m_hi m_mo m_ma m_li n_rg n_sb n_st n_pl n_z n_n n_h n_c n_en n_so n_co n_sc l_bk l_of l_en l_ct t_bk t_of t_en t_ct) (qv_ D (fun (u : (Nat → Int32) × (Nat → Int32) × (Int32) × (Int32) × (Int32) × (Int32) × (Int32) × (Int32) × (Nat → Int32) × (Int32) × (Int32) × (Int32) × (Int32) × (Int32) × (Int32) × (Int32) × (Int32) × (Int32) × (Int32)) => P u.1 u.2.1 u.2.2.1 u.2.2.2.1 u.2.2.2.2.1 u.2.2.2.2.2.1 u.2.2.2.2.2.2.1 u.2.2.2.2.2.2.2.1 u.2.2.2.2.2.2.2.2.1 u.2.2.2.2.2.2.2.2.2.1 u.2.2.2.2.2.2.2.2.2.2.1 u.2.2.2.2.2.2.2.2.2.2.2.1 u.2.2.2.2.2.2.2.2.2.2.2.2.1 u.2.2.2.2.2.2.2.2.2.2.2.2.2.1 u.2.2.2.2.2.2.2.2.2.2.2.2.2.2.1 u.2.2.2.2.2.2.2.2.2.2.2.2.2.2.2.1 u.2.2.2.2.2.2.2.2.2.2.2.2.2.2.2.2.1 u.2.2.2.2.2.2.2.2.2.2.2.2.2.2.2.2.2.1 u.2.2.2.2.2.2.2.2.2.2.2.2.2.2.2.2.2.2) (fun u => wC ad s_bk s_ln s_kd s_vl s_ct k_ce k_bc u.1 u.2.1 u.2.2.1 u.2.2.2.1 u.2.2.2.2.1 u.2.2.2.2.2.1 u.2.2.2.2.2.2.1 u.2.2.2.2.2.2.2.1 u.2.2.2.2.2.2.2.2.1 n_sb u.2.2.2.2.2.2.2.2.2.1 u.2.2.2.2.2.2.2.2.2.2.1 u.2.2.2.2.2.2.2.2.2.2.2.1 u.2.2.2.2.2.2.2.2.2.2.2.2.1 u.2.2.2.2.2.2.2.2.2.2.2.2.2.1 u.2.2.2.2.2.2.2.2.2.2.2.2.2.2.1 u.2.2.2.2.2.2.2.2.2.2.2.2.2.2.2.1 u.2.2.2.2.2.2.2.2.2.2.2.2.2.2.2.2.1 u.2.2.2.2.2.2.2.2.2.2.2.2.2.2.2.2.2.1 u.2.2.2.2.2.2.2.2.2.2.2.2.2.2.2.2.2.2 l_bk l_of l_en l_ct t_bk t_of t_en t_ct)) := by
  refine ct_of RN (by decide) rfl (Nat.le_of_ble_eq_true rfl) (fun G hl hD X hq => ?_)
  subst hl hD
  show go_ G 0 0 (wC ad s_bk s_ln s_kd s_vl s_ct k_ce k_bc m_ra m_up m_on m_lo m_hi m_mo m_ma m_li n_rg n_sb n_st n_pl n_z n_n n_h n_c n_en n_so n_co n_sc l_bk l_of l_en l_ct t_bk t_of t_en t_ct) 0 [(0, .ref (ad 11))] []
  have C2 : ∀ (n9 : Nat) (m_ra m_up : Nat → Int32) (m_on m_lo m_hi m_mo m_ma m_li : Int32) (n_rg : Nat → Int32) (n_st n_pl n_z n_n n_h n_c n_en n_so n_co n_sc x1 : Int32), wp_N_begin_2 P n9 m_ra m_up m_on m_lo m_hi m_mo m_ma m_li n_rg n_st n_pl n_z n_n n_h n_c n_en n_so n_co n_sc x1 → go_ G 0 0 (wC ad s_bk s_ln s_kd s_vl s_ct k_ce k_bc m_ra m_up m_on m_lo m_hi m_mo m_ma m_li n_rg n_sb n_st n_pl n_z n_n n_h n_c n_en n_so n_co n_sc l_bk l_of l_en l_ct t_bk t_of t_en t_ct) 2 [(0, .ref (ad 11)), (1, .int x1)] [] := by
    intro n9
    induction n9 with
    | zero =>
      intro m_ra m_up m_on m_lo m_hi m_mo m_ma m_li n_rg n_st n_pl n_z n_n n_h n_c n_en n_so n_co n_sc x1 hw
      exact False.elim hw
    | succ n9 ih =>
      intro m_ra m_up m_on m_lo m_hi m_mo m_ma m_li n_rg n_st n_pl n_z n_n n_h n_c n_en n_so n_co n_sc x1 hw
      refine go_iload_n X 1 dN_begin_2 rfl rfl ?_
      refine go_aload_n X 0 dN_begin_3 rfl rfl ?_
      refine gt_N_9 X dN_begin_4 ?_
      refine go_alen X 12 rfl al_8 dN_begin_7 ?_
      refine go_icmp_ge X dN_begin_8 rfl (fun hc => ?_) (fun hc => ?_)
      · have hw := hw.1 hc
        refine go_aload_n X 0 dN_begin_24 rfl rfl ?_
        refine go_sipush X dN_begin_25 kc_s240 ?_
        refine pt_N_25 X dN_begin_28 ?_
        refine go_aload_n X 0 dN_begin_31 rfl rfl ?_
        refine go_iconst X dN_begin_32 kc_i0 ?_
        refine pt_N_29 X dN_begin_33 ?_
        refine go_aload_n X 0 dN_begin_36 rfl rfl ?_
        refine go_iconst X dN_begin_37 kc_i0 ?_
        refine go_iconst X dN_begin_38 kc_i0 ?_
        refine go_iconst X dN_begin_39 kc_i0 ?_
        refine go_iconst X dN_begin_40 kc_i0 ?_
        refine k_N_setFlags X hw mw_N_32 ⟨by decide, by decide⟩ (Nat.le_of_ble_eq_true rfl) ⟨Nat.zero_le _, Nat.zero_le _⟩ dN_begin_41 (fun w1 w2 w3 w4 hw => ?_)
        refine go_aload_n X 0 dN_begin_44 rfl rfl ?_
        refine go_iconst X dN_begin_45 kc_i0 ?_
        refine pt_N_36 X (Or.inl rfl) dN_begin_46 ?_
        refine go_aload_n X 0 dN_begin_49 rfl rfl ?_
        refine go_iconst X dN_begin_50 kc_i0 ?_
        refine pt_N_40 X (Or.inl rfl) dN_begin_51 ?_
        refine go_aload_n X 0 dN_begin_54 rfl rfl ?_
        refine go_iconst X dN_begin_55 kc_i0 ?_
        refine pt_N_43 X dN_begin_56 ?_
        refine go_aload_n X 0 dN_begin_59 rfl rfl ?_
        refine go_iconst X dN_begin_60 kc_i0 ?_
        refine pt_N_46 X dN_begin_61 ?_
        refine go_aload_n X 0 dN_begin_64 rfl rfl ?_
        refine gt_N_18 X dN_begin_65 ?_
        refine k_M_begin X hw mw_N_49 ⟨by decide, by decide⟩ (Nat.le_of_ble_eq_true rfl) ⟨Nat.zero_le _, Nat.zero_le _⟩ dN_begin_68 (fun w5 w6 w7 w8 w9 w10 w11 w12 hw => ?_)
        exact go_vreturn X hq dN_begin_71 (w5, w6, w7, w8, w9, w10, w11, w12, n_rg, (240 : Int32), (0 : Int32), w1, w2, w3, w4, (0 : Int32), (0 : Int32), (0 : Int32), (0 : Int32)) hw rfl
      · have hw := hw.2 hc
        refine go_aload_n X 0 dN_begin_11 rfl rfl ?_
        refine gt_N_9 X dN_begin_12 ?_
        refine go_iload_n X 1 dN_begin_15 rfl rfl ?_
        refine go_iconst X dN_begin_16 kc_i0 ?_
        have hz := hw.1
        have hw := hw.2
        refine as_n_rg X hz dN_begin_17 ?_
        refine go_iinc X 1 dN_begin_18 rfl (ki_1 _) (by decide) rfl ?_
        refine go_goto X dN_begin_21 rfl ?_
        refine go_lc [1, 0] rfl ?_
        exact ih _ _ _ _ _ _ _ _ _ _ _ _ _ _ _ _ _ _ _ _ hw
  refine go_iconst X dN_begin_0 kc_i0 ?_
  refine go_istore_n X dN_begin_1 rfl (by decide) rfl ?_
  refine go_lc [1, 0] rfl ?_
  obtain ⟨j9, hw⟩ := hw
  exact C2 j9 _ _ _ _ _ _ _ _ _ _ _ _ _ _ _ _ _ _ _ _ hw
theorem k_N_begin {G : gt_} {ad : Nat → Nat} {cc : ByteArray} {own : String} {fr lo n cells slots pc index : Nat} {lc : List (Nat × Value)} {rest : List Value} {s_bk s_ln s_kd s_vl : Nat → Int32} {s_ct : Int32} {k_ce : Nat → Int32} {k_bc : Int32} {m_ra m_up : Nat → Int32} {m_on m_lo m_hi m_mo m_ma m_li : Int32} {n_rg n_sb : Nat → Int32} {n_st n_pl n_z n_n n_h n_c n_en n_so n_co n_sc : Int32} {l_bk l_of l_en : Nat → Int32} {l_ct : Int32} {t_bk t_of t_en : Nat → Int32} {t_ct : Int32}  {P : (Nat → Int32) → (Nat → Int32) → (Int32) → (Int32) → (Int32) → (Int32) → (Int32) → (Int32) → (Nat → Int32) → (Int32) → (Int32) → (Int32) → (Int32) → (Int32) → (Int32) → (Int32) → (Int32) → (Int32) → (Int32) → Prop} (X : cx_ G ad cc own fr lo n) (hw : wp_N_begin m_ra m_up m_on m_lo m_hi m_mo m_ma m_li n_rg n_st n_pl n_z n_n n_h n_c n_en n_so n_co n_sc  P) (m1 : Cond.methodLink own index yN_begin ∈ wS) (hlv : 1 + 1 ≤ fr ∧ 8 + (2 + 11) + 24 ≤ lo) (hrs : (rest.map fun v => v.category).sum ≤ 8) (hcs : cells ≤ (gR_ G).cells ∧ slots ≤ (gR_ G).slots) (d : decode cc pc = .ok (.invokevirtual index, 3))
    (kk : ∀ (m_ra' m_up' : Nat → Int32) (m_on' m_lo' m_hi' m_mo' m_ma' m_li' : Int32) (n_rg' : Nat → Int32) (n_st' n_pl' n_z' n_n' n_h' n_c' n_en' n_so' n_co' n_sc' : Int32), P m_ra' m_up' m_on' m_lo' m_hi' m_mo' m_ma' m_li' n_rg' n_st' n_pl' n_z' n_n' n_h' n_c' n_en' n_so' n_co' n_sc' → go_ G cells slots (wC ad s_bk s_ln s_kd s_vl s_ct k_ce k_bc m_ra' m_up' m_on' m_lo' m_hi' m_mo' m_ma' m_li' n_rg' n_sb n_st' n_pl' n_z' n_n' n_h' n_c' n_en' n_so' n_co' n_sc' l_bk l_of l_en l_ct t_bk t_of t_en t_ct) (pc + 3) lc (rest)) : go_ G cells slots (wC ad s_bk s_ln s_kd s_vl s_ct k_ce k_bc m_ra m_up m_on m_lo m_hi m_mo m_ma m_li n_rg n_sb n_st n_pl n_z n_n n_h n_c n_en n_so n_co n_sc l_bk l_of l_en l_ct t_bk t_of t_en t_ct) pc lc (.ref (ad 11) :: rest) :=
  go_cvv X (c_N_begin hw) me_N_begin m1 hlv 11 rfl rfl rfl hrs hcs d (fun u hp => kk u.1 u.2.1 u.2.2.1 u.2.2.2.1 u.2.2.2.2.1 u.2.2.2.2.2.1 u.2.2.2.2.2.2.1 u.2.2.2.2.2.2.2.1 u.2.2.2.2.2.2.2.2.1 u.2.2.2.2.2.2.2.2.2.1 u.2.2.2.2.2.2.2.2.2.2.1 u.2.2.2.2.2.2.2.2.2.2.2.1 u.2.2.2.2.2.2.2.2.2.2.2.2.1 u.2.2.2.2.2.2.2.2.2.2.2.2.2.1 u.2.2.2.2.2.2.2.2.2.2.2.2.2.2.1 u.2.2.2.2.2.2.2.2.2.2.2.2.2.2.2.1 u.2.2.2.2.2.2.2.2.2.2.2.2.2.2.2.2.1 u.2.2.2.2.2.2.2.2.2.2.2.2.2.2.2.2.2.1 u.2.2.2.2.2.2.2.2.2.2.2.2.2.2.2.2.2.2 hp)
set_option maxRecDepth 100000 in
set_option maxHeartbeats 4000000 in
theorem c_N_comesIn {l : Launch} {D : va_G} {ad : Nat → Nat} {s_bk s_ln s_kd s_vl : Nat → Int32} {s_ct : Int32} {k_ce : Nat → Int32} {k_bc : Int32} {m_ra m_up : Nat → Int32} {m_on m_lo m_hi m_mo m_ma m_li : Int32} {n_rg n_sb : Nat → Int32} {n_st n_pl n_z n_n n_h n_c n_en n_so n_co n_sc : Int32} {l_bk l_of l_en : Nat → Int32} {l_ct : Int32} {t_bk t_of t_en : Nat → Int32} {t_ct : Int32} {a1 a2 a3 : Int32} {P : Int32 → Prop} (hw : wp_N_comesIn n_c a1 a2 a3 P) : ct_ l yN_comesIn bN_comesIn 4 (some .int) 1 20 D ad [.ref (ad 11), .int a1, .int a2, .int a3] (wC ad s_bk s_ln s_kd s_vl s_ct k_ce k_bc m_ra m_up m_on m_lo m_hi m_mo m_ma m_li n_rg n_sb n_st n_pl n_z n_n n_h n_c n_en n_so n_co n_sc l_bk l_of l_en l_ct t_bk t_of t_en t_ct) (qi_ D (fun (r : Int32) (_ : Unit) => P r ) (fun _ => (wC ad s_bk s_ln s_kd s_vl s_ct k_ce k_bc m_ra m_up m_on m_lo m_hi m_mo m_ma m_li n_rg n_sb n_st n_pl n_z n_n n_h n_c n_en n_so n_co n_sc l_bk l_of l_en l_ct t_bk t_of t_en t_ct))) := by
  refine ct_of RN (by decide) rfl (Nat.le_of_ble_eq_true rfl) (fun G hl hD X hq => ?_)
  subst hl hD
  show go_ G 0 0 (wC ad s_bk s_ln s_kd s_vl s_ct k_ce k_bc m_ra m_up m_on m_lo m_hi m_mo m_ma m_li n_rg n_sb n_st n_pl n_z n_n n_h n_c n_en n_so n_co n_sc l_bk l_of l_en l_ct t_bk t_of t_en t_ct) 0 [(0, .ref (ad 11)), (1, .int a1), (2, .int a2), (3, .int a3)] []
  refine go_iload_n X 1 dN_comesIn_0 rfl rfl ?_
  by_cases h9_0 : a1 = (0 : Int32)
  · have hw := hw.1 h9_0
    refine go_tin X (0 : Int32) dN_comesIn_1 h9_0 (by decide) (by decide) rfl rfl ?_
    refine go_iload_n X 3 dN_comesIn_40 rfl rfl ?_
    exact go_ireturn X hq dN_comesIn_41 () hw rfl
  by_cases h9_1 : a1 = (1 : Int32)
  · have hw := hw.2.1 h9_1
    refine go_tin X (1 : Int32) dN_comesIn_1 h9_1 (by decide) (by decide) rfl rfl ?_
    refine go_iload_n X 3 dN_comesIn_40 rfl rfl ?_
    exact go_ireturn X hq dN_comesIn_41 () hw rfl
  by_cases h9_2 : a1 = (2 : Int32)
  · have hw := hw.2.2.1 h9_2
    refine go_tin X (2 : Int32) dN_comesIn_1 h9_2 (by decide) (by decide) rfl rfl ?_
    refine go_aload_n X 0 dN_comesIn_42 rfl rfl ?_
    refine k_N_carryBit X hw mw_N_67 ⟨by decide, by decide⟩ (Nat.le_of_ble_eq_true rfl) ⟨Nat.zero_le _, Nat.zero_le _⟩ dN_comesIn_43 (fun r1 hw => ?_)
    exact go_ireturn X hq dN_comesIn_46 () hw rfl
  by_cases h9_3 : a1 = (3 : Int32)
  · have hw := hw.2.2.2.1 h9_3
    refine go_tin X (3 : Int32) dN_comesIn_1 h9_3 (by decide) (by decide) rfl rfl ?_
    refine go_aload_n X 0 dN_comesIn_42 rfl rfl ?_
    refine k_N_carryBit X hw mw_N_67 ⟨by decide, by decide⟩ (Nat.le_of_ble_eq_true rfl) ⟨Nat.zero_le _, Nat.zero_le _⟩ dN_comesIn_43 (fun r2 hw => ?_)
    exact go_ireturn X hq dN_comesIn_46 () hw rfl
  by_cases h9_4 : a1 = (4 : Int32)
  · have hw := hw.2.2.2.2.1 h9_4
    refine go_tin X (4 : Int32) dN_comesIn_1 h9_4 (by decide) (by decide) rfl rfl ?_
    refine go_iconst X dN_comesIn_52 kc_i0 ?_
    exact go_ireturn X hq dN_comesIn_53 () hw rfl
  by_cases h9_5 : a1 = (5 : Int32)
  · have hw := hw.2.2.2.2.2.1 h9_5
    refine go_tin X (5 : Int32) dN_comesIn_1 h9_5 (by decide) (by decide) rfl rfl ?_
    refine go_iload_n X 2 dN_comesIn_47 rfl rfl ?_
    refine go_bipush X dN_comesIn_48 kc_b7 ?_
    refine go_ishr X dN_comesIn_50 ?_
    exact go_ireturn X hq dN_comesIn_51 () hw rfl
  have hw := hw.2.2.2.2.2.2 h9_0 h9_1 h9_2 h9_3 h9_4 h9_5
  have t9_0 := go_neT h9_0 (z := 0) (by decide)
  have t9_1 := go_neT h9_1 (z := 1) (by decide)
  have t9_2 := go_neT h9_2 (z := 2) (by decide)
  have t9_3 := go_neT h9_3 (z := 3) (by decide)
  have t9_4 := go_neT h9_4 (z := 4) (by decide)
  have t9_5 := go_neT h9_5 (z := 5) (by decide)
  refine go_tout X dN_comesIn_1 (by omega) rfl ?_
  refine go_iconst X dN_comesIn_52 kc_i0 ?_
  exact go_ireturn X hq dN_comesIn_53 () hw rfl
theorem k_N_comesIn {G : gt_} {ad : Nat → Nat} {cc : ByteArray} {own : String} {fr lo n cells slots pc index : Nat} {lc : List (Nat × Value)} {rest : List Value} {s_bk s_ln s_kd s_vl : Nat → Int32} {s_ct : Int32} {k_ce : Nat → Int32} {k_bc : Int32} {m_ra m_up : Nat → Int32} {m_on m_lo m_hi m_mo m_ma m_li : Int32} {n_rg n_sb : Nat → Int32} {n_st n_pl n_z n_n n_h n_c n_en n_so n_co n_sc : Int32} {l_bk l_of l_en : Nat → Int32} {l_ct : Int32} {t_bk t_of t_en : Nat → Int32} {t_ct : Int32} {a1 a2 a3 : Int32} {P : Int32 → Prop} (X : cx_ G ad cc own fr lo n) (hw : wp_N_comesIn n_c a1 a2 a3 P) (m1 : Cond.methodLink own index yN_comesIn ∈ wS) (hlv : 1 + 1 ≤ fr ∧ 8 + (4 + 11) + 20 ≤ lo) (hrs : (rest.map fun v => v.category).sum ≤ 8) (hcs : cells ≤ (gR_ G).cells ∧ slots ≤ (gR_ G).slots) (d : decode cc pc = .ok (.invokevirtual index, 3))
    (kk : ∀ (r : Int32), P r → go_ G cells slots (wC ad s_bk s_ln s_kd s_vl s_ct k_ce k_bc m_ra m_up m_on m_lo m_hi m_mo m_ma m_li n_rg n_sb n_st n_pl n_z n_n n_h n_c n_en n_so n_co n_sc l_bk l_of l_en l_ct t_bk t_of t_en t_ct) (pc + 3) lc (.int r :: rest)) : go_ G cells slots (wC ad s_bk s_ln s_kd s_vl s_ct k_ce k_bc m_ra m_up m_on m_lo m_hi m_mo m_ma m_li n_rg n_sb n_st n_pl n_z n_n n_h n_c n_en n_so n_co n_sc l_bk l_of l_en l_ct t_bk t_of t_en t_ct) pc lc (.int a3 :: .int a2 :: .int a1 :: .ref (ad 11) :: rest) :=
  go_cvi X (c_N_comesIn hw) me_N_comesIn m1 hlv 11 rfl rfl rfl hrs hcs d (fun r _ hp => kk r  hp)
set_option maxRecDepth 100000 in
set_option maxHeartbeats 4000000 in
theorem c_N_difference {l : Launch} {D : va_G} {ad : Nat → Nat} {s_bk s_ln s_kd s_vl : Nat → Int32} {s_ct : Int32} {k_ce : Nat → Int32} {k_bc : Int32} {m_ra m_up : Nat → Int32} {m_on m_lo m_hi m_mo m_ma m_li : Int32} {n_rg n_sb : Nat → Int32} {n_st n_pl n_z n_n n_h n_c n_en n_so n_co n_sc : Int32} {l_bk l_of l_en : Nat → Int32} {l_ct : Int32} {t_bk t_of t_en : Nat → Int32} {t_ct : Int32} {a1 a2 : Int32} {P : Int32 → (Int32) → (Int32) → (Int32) → (Int32) → Prop} (hw : wp_N_difference n_rg n_z n_n n_h n_c a1 a2 P) : ct_ l yN_difference bN_difference 6 (some .int) 1 24 D ad [.ref (ad 11), .int a1, .int a2] (wC ad s_bk s_ln s_kd s_vl s_ct k_ce k_bc m_ra m_up m_on m_lo m_hi m_mo m_ma m_li n_rg n_sb n_st n_pl n_z n_n n_h n_c n_en n_so n_co n_sc l_bk l_of l_en l_ct t_bk t_of t_en t_ct) (qi_ D (fun (r : Int32) (u : (Int32) × (Int32) × (Int32) × (Int32)) => P r u.1 u.2.1 u.2.2.1 u.2.2.2) (fun u => wC ad s_bk s_ln s_kd s_vl s_ct k_ce k_bc m_ra m_up m_on m_lo m_hi m_mo m_ma m_li n_rg n_sb n_st n_pl u.1 u.2.1 u.2.2.1 u.2.2.2 n_en n_so n_co n_sc l_bk l_of l_en l_ct t_bk t_of t_en t_ct)) := by
  refine ct_of RN (by decide) rfl (Nat.le_of_ble_eq_true rfl) (fun G hl hD X hq => ?_)
  subst hl hD
  show go_ G 0 0 (wC ad s_bk s_ln s_kd s_vl s_ct k_ce k_bc m_ra m_up m_on m_lo m_hi m_mo m_ma m_li n_rg n_sb n_st n_pl n_z n_n n_h n_c n_en n_so n_co n_sc l_bk l_of l_en l_ct t_bk t_of t_en t_ct) 0 [(0, .ref (ad 11)), (1, .int a1), (2, .int a2)] []
  have C54 : ∀ (n_z n_n n_h n_c x4 y0 y1 y2 : Int32), wp_N_difference_54 n_rg P n_z n_n n_h n_c x4 y0 y1 y2 → go_ G 0 0 (wC ad s_bk s_ln s_kd s_vl s_ct k_ce k_bc m_ra m_up m_on m_lo m_hi m_mo m_ma m_li n_rg n_sb n_st n_pl n_z n_n n_h n_c n_en n_so n_co n_sc l_bk l_of l_en l_ct t_bk t_of t_en t_ct) 54 [(4, .int x4)] [.int y0, .int y1, .int y2, .ref (ad 11)] := by
    intro n_z n_n n_h n_c x4 y0 y1 y2 hw
    refine go_iload X 0 dN_difference_54 rfl ?_
    refine go_if_ge X dN_difference_56 rfl (fun hc => ?_) (fun hc => ?_)
    · have hw := hw.1 hc
      refine go_iconst X dN_difference_63 kc_i0 ?_
      refine k_N_setFlags X hw mw_N_32 ⟨by decide, by decide⟩ (Nat.le_of_ble_eq_true rfl) ⟨Nat.zero_le _, Nat.zero_le _⟩ dN_difference_64 (fun w4 w5 w6 w7 hw => ?_)
      refine go_iload X 0 dN_difference_67 rfl ?_
      refine go_sipush X dN_difference_69 kc_s255 ?_
      refine go_iand X dN_difference_72 ?_
      exact go_ireturn X hq dN_difference_73 (w4, w5, w6, w7) hw rfl
    · have hw := hw.2 hc
      refine go_iconst X dN_difference_59 kc_i1 ?_
      refine go_goto X dN_difference_60 rfl ?_
      refine k_N_setFlags X hw mw_N_32 ⟨by decide, by decide⟩ (Nat.le_of_ble_eq_true rfl) ⟨Nat.zero_le _, Nat.zero_le _⟩ dN_difference_64 (fun w8 w9 w10 w11 hw => ?_)
      refine go_iload X 0 dN_difference_67 rfl ?_
      refine go_sipush X dN_difference_69 kc_s255 ?_
      refine go_iand X dN_difference_72 ?_
      exact go_ireturn X hq dN_difference_73 (w8, w9, w10, w11) hw rfl
  refine go_aload_n X 0 dN_difference_0 rfl rfl ?_
  refine gt_N_9 X dN_difference_1 ?_
  refine go_bipush X dN_difference_4 kc_b7 ?_
  refine ar_n_rg X vi_7_8 dN_difference_6 ?_
  refine go_nm (fun z1 ez1 => ?_)
  have hw := hw z1 ez1
  refine go_istore_n X dN_difference_7 rfl (by decide) rfl ?_
  refine go_iload_n X 0 dN_difference_8 rfl rfl ?_
  refine go_iload_n X 2 dN_difference_9 rfl rfl ?_
  refine go_isub X dN_difference_10 ?_
  refine go_iload_n X 3 dN_difference_11 rfl rfl ?_
  refine go_isub X dN_difference_12 ?_
  refine go_nm (fun z2 ez2 => ?_)
  have hw := hw z2 ez2
  refine go_istore X dN_difference_13 (by decide) rfl ?_
  refine go_iload_n X 1 dN_difference_15 rfl rfl ?_
  refine go_bipush X dN_difference_16 kc_b15 ?_
  refine go_iand X dN_difference_18 ?_
  refine go_iload_n X 3 dN_difference_19 rfl rfl ?_
  refine go_bipush X dN_difference_20 kc_b15 ?_
  refine go_iand X dN_difference_22 ?_
  refine go_isub X dN_difference_23 ?_
  refine go_iload_n X 4 dN_difference_24 rfl rfl ?_
  refine go_isub X dN_difference_25 ?_
  refine go_nm (fun z3 ez3 => ?_)
  have hw := hw z3 ez3
  refine go_istore X dN_difference_26 (by decide) rfl ?_
  refine go_aload_n X 3 dN_difference_28 rfl rfl ?_
  refine go_iload X 1 dN_difference_29 rfl ?_
  refine go_sipush X dN_difference_31 kc_s255 ?_
  refine go_iand X dN_difference_34 ?_
  refine go_if_ne X dN_difference_35 rfl (fun hc => ?_) (fun hc => ?_)
  · have hw := hw.1 hc
    refine go_iconst X dN_difference_42 kc_i0 ?_
    refine go_iconst X dN_difference_43 kc_i1 ?_
    refine go_iload X 0 dN_difference_44 rfl ?_
    refine go_if_ge X dN_difference_46 rfl (fun hc => ?_) (fun hc => ?_)
    · have hw := hw.1 hc
      refine go_iconst X dN_difference_53 kc_i0 ?_
      refine go_lc [1] rfl ?_
      exact C54 _ _ _ _ _ _ _ _ hw
    · have hw := hw.2 hc
      refine go_iconst X dN_difference_49 kc_i1 ?_
      refine go_goto X dN_difference_50 rfl ?_
      refine go_lc [1] rfl ?_
      exact C54 _ _ _ _ _ _ _ _ hw
  · have hw := hw.2 hc
    refine go_iconst X dN_difference_38 kc_i1 ?_
    refine go_goto X dN_difference_39 rfl ?_
    refine go_iconst X dN_difference_43 kc_i1 ?_
    refine go_iload X 0 dN_difference_44 rfl ?_
    refine go_if_ge X dN_difference_46 rfl (fun hc => ?_) (fun hc => ?_)
    · have hw := hw.1 hc
      refine go_iconst X dN_difference_53 kc_i0 ?_
      refine go_lc [1] rfl ?_
      exact C54 _ _ _ _ _ _ _ _ hw
    · have hw := hw.2 hc
      refine go_iconst X dN_difference_49 kc_i1 ?_
      refine go_goto X dN_difference_50 rfl ?_
      refine go_lc [1] rfl ?_
      exact C54 _ _ _ _ _ _ _ _ hw
theorem k_N_difference {G : gt_} {ad : Nat → Nat} {cc : ByteArray} {own : String} {fr lo n cells slots pc index : Nat} {lc : List (Nat × Value)} {rest : List Value} {s_bk s_ln s_kd s_vl : Nat → Int32} {s_ct : Int32} {k_ce : Nat → Int32} {k_bc : Int32} {m_ra m_up : Nat → Int32} {m_on m_lo m_hi m_mo m_ma m_li : Int32} {n_rg n_sb : Nat → Int32} {n_st n_pl n_z n_n n_h n_c n_en n_so n_co n_sc : Int32} {l_bk l_of l_en : Nat → Int32} {l_ct : Int32} {t_bk t_of t_en : Nat → Int32} {t_ct : Int32} {a1 a2 : Int32} {P : Int32 → (Int32) → (Int32) → (Int32) → (Int32) → Prop} (X : cx_ G ad cc own fr lo n) (hw : wp_N_difference n_rg n_z n_n n_h n_c a1 a2 P) (m1 : Cond.methodLink own index yN_difference ∈ wS) (hlv : 1 + 1 ≤ fr ∧ 8 + (6 + 11) + 24 ≤ lo) (hrs : (rest.map fun v => v.category).sum ≤ 8) (hcs : cells ≤ (gR_ G).cells ∧ slots ≤ (gR_ G).slots) (d : decode cc pc = .ok (.invokevirtual index, 3))
    (kk : ∀ (r n_z' n_n' n_h' n_c' : Int32), P r n_z' n_n' n_h' n_c' → go_ G cells slots (wC ad s_bk s_ln s_kd s_vl s_ct k_ce k_bc m_ra m_up m_on m_lo m_hi m_mo m_ma m_li n_rg n_sb n_st n_pl n_z' n_n' n_h' n_c' n_en n_so n_co n_sc l_bk l_of l_en l_ct t_bk t_of t_en t_ct) (pc + 3) lc (.int r :: rest)) : go_ G cells slots (wC ad s_bk s_ln s_kd s_vl s_ct k_ce k_bc m_ra m_up m_on m_lo m_hi m_mo m_ma m_li n_rg n_sb n_st n_pl n_z n_n n_h n_c n_en n_so n_co n_sc l_bk l_of l_en l_ct t_bk t_of t_en t_ct) pc lc (.int a2 :: .int a1 :: .ref (ad 11) :: rest) :=
  go_cvi X (c_N_difference hw) me_N_difference m1 hlv 11 rfl rfl rfl hrs hcs d (fun r u hp => kk r u.1 u.2.1 u.2.2.1 u.2.2.2 hp)
set_option maxRecDepth 100000 in
set_option maxHeartbeats 4000000 in
theorem c_N_exchanged {l : Launch} {D : va_G} {ad : Nat → Nat} {s_bk s_ln s_kd s_vl : Nat → Int32} {s_ct : Int32} {k_ce : Nat → Int32} {k_bc : Int32} {m_ra m_up : Nat → Int32} {m_on m_lo m_hi m_mo m_ma m_li : Int32} {n_rg n_sb : Nat → Int32} {n_st n_pl n_z n_n n_h n_c n_en n_so n_co n_sc : Int32} {l_bk l_of l_en : Nat → Int32} {l_ct : Int32} {t_bk t_of t_en : Nat → Int32} {t_ct : Int32} {a1 : Int32} {P : Int32 → (Int32) → (Int32) → (Int32) → (Int32) → Prop} (hw : wp_N_exchanged n_z n_n n_h n_c a1 P) : ct_ l yN_exchanged bN_exchanged 2 (some .int) 1 24 D ad [.ref (ad 11), .int a1] (wC ad s_bk s_ln s_kd s_vl s_ct k_ce k_bc m_ra m_up m_on m_lo m_hi m_mo m_ma m_li n_rg n_sb n_st n_pl n_z n_n n_h n_c n_en n_so n_co n_sc l_bk l_of l_en l_ct t_bk t_of t_en t_ct) (qi_ D (fun (r : Int32) (u : (Int32) × (Int32) × (Int32) × (Int32)) => P r u.1 u.2.1 u.2.2.1 u.2.2.2) (fun u => wC ad s_bk s_ln s_kd s_vl s_ct k_ce k_bc m_ra m_up m_on m_lo m_hi m_mo m_ma m_li n_rg n_sb n_st n_pl u.1 u.2.1 u.2.2.1 u.2.2.2 n_en n_so n_co n_sc l_bk l_of l_en l_ct t_bk t_of t_en t_ct)) := by
  refine ct_of RN (by decide) rfl (Nat.le_of_ble_eq_true rfl) (fun G hl hD X hq => ?_)
  subst hl hD
  show go_ G 0 0 (wC ad s_bk s_ln s_kd s_vl s_ct k_ce k_bc m_ra m_up m_on m_lo m_hi m_mo m_ma m_li n_rg n_sb n_st n_pl n_z n_n n_h n_c n_en n_so n_co n_sc l_bk l_of l_en l_ct t_bk t_of t_en t_ct) 0 [(0, .ref (ad 11)), (1, .int a1)] []
  have C10 : ∀ (n_z n_n n_h n_c x1 y0 : Int32), wp_N_exchanged_10 P n_z n_n n_h n_c x1 y0 → go_ G 0 0 (wC ad s_bk s_ln s_kd s_vl s_ct k_ce k_bc m_ra m_up m_on m_lo m_hi m_mo m_ma m_li n_rg n_sb n_st n_pl n_z n_n n_h n_c n_en n_so n_co n_sc l_bk l_of l_en l_ct t_bk t_of t_en t_ct) 10 [(1, .int x1)] [.int y0, .ref (ad 11)] := by
    intro n_z n_n n_h n_c x1 y0 hw
    refine go_iconst X dN_exchanged_10 kc_i0 ?_
    refine go_iconst X dN_exchanged_11 kc_i0 ?_
    refine go_iconst X dN_exchanged_12 kc_i0 ?_
    refine k_N_setFlags X hw mw_N_32 ⟨by decide, by decide⟩ (Nat.le_of_ble_eq_true rfl) ⟨Nat.zero_le _, Nat.zero_le _⟩ dN_exchanged_13 (fun w1 w2 w3 w4 hw => ?_)
    refine go_iload_n X 0 dN_exchanged_16 rfl rfl ?_
    refine go_iconst X dN_exchanged_17 kc_i4 ?_
    refine go_ishl X dN_exchanged_18 ?_
    refine go_sipush X dN_exchanged_19 kc_s240 ?_
    refine go_iand X dN_exchanged_22 ?_
    refine go_iload_n X 0 dN_exchanged_23 rfl rfl ?_
    refine go_iconst X dN_exchanged_24 kc_i4 ?_
    refine go_ishr X dN_exchanged_25 ?_
    refine go_ior X dN_exchanged_26 ?_
    exact go_ireturn X hq dN_exchanged_27 (w1, w2, w3, w4) hw rfl
  refine go_aload_n X 0 dN_exchanged_0 rfl rfl ?_
  refine go_iload_n X 1 dN_exchanged_1 rfl rfl ?_
  refine go_if_ne X dN_exchanged_2 rfl (fun hc => ?_) (fun hc => ?_)
  · have hw := hw.1 hc
    refine go_iconst X dN_exchanged_9 kc_i0 ?_
    refine go_lc [1] rfl ?_
    exact C10 _ _ _ _ _ _ hw
  · have hw := hw.2 hc
    refine go_iconst X dN_exchanged_5 kc_i1 ?_
    refine go_goto X dN_exchanged_6 rfl ?_
    refine go_lc [1] rfl ?_
    exact C10 _ _ _ _ _ _ hw
theorem k_N_exchanged {G : gt_} {ad : Nat → Nat} {cc : ByteArray} {own : String} {fr lo n cells slots pc index : Nat} {lc : List (Nat × Value)} {rest : List Value} {s_bk s_ln s_kd s_vl : Nat → Int32} {s_ct : Int32} {k_ce : Nat → Int32} {k_bc : Int32} {m_ra m_up : Nat → Int32} {m_on m_lo m_hi m_mo m_ma m_li : Int32} {n_rg n_sb : Nat → Int32} {n_st n_pl n_z n_n n_h n_c n_en n_so n_co n_sc : Int32} {l_bk l_of l_en : Nat → Int32} {l_ct : Int32} {t_bk t_of t_en : Nat → Int32} {t_ct : Int32} {a1 : Int32} {P : Int32 → (Int32) → (Int32) → (Int32) → (Int32) → Prop} (X : cx_ G ad cc own fr lo n) (hw : wp_N_exchanged n_z n_n n_h n_c a1 P) (m1 : Cond.methodLink own index yN_exchanged ∈ wS) (hlv : 1 + 1 ≤ fr ∧ 8 + (2 + 11) + 24 ≤ lo) (hrs : (rest.map fun v => v.category).sum ≤ 8) (hcs : cells ≤ (gR_ G).cells ∧ slots ≤ (gR_ G).slots) (d : decode cc pc = .ok (.invokevirtual index, 3))
    (kk : ∀ (r n_z' n_n' n_h' n_c' : Int32), P r n_z' n_n' n_h' n_c' → go_ G cells slots (wC ad s_bk s_ln s_kd s_vl s_ct k_ce k_bc m_ra m_up m_on m_lo m_hi m_mo m_ma m_li n_rg n_sb n_st n_pl n_z' n_n' n_h' n_c' n_en n_so n_co n_sc l_bk l_of l_en l_ct t_bk t_of t_en t_ct) (pc + 3) lc (.int r :: rest)) : go_ G cells slots (wC ad s_bk s_ln s_kd s_vl s_ct k_ce k_bc m_ra m_up m_on m_lo m_hi m_mo m_ma m_li n_rg n_sb n_st n_pl n_z n_n n_h n_c n_en n_so n_co n_sc l_bk l_of l_en l_ct t_bk t_of t_en t_ct) pc lc (.int a1 :: .ref (ad 11) :: rest) :=
  go_cvi X (c_N_exchanged hw) me_N_exchanged m1 hlv 11 rfl rfl rfl hrs hcs d (fun r u hp => kk r u.1 u.2.1 u.2.2.1 u.2.2.2 hp)
set_option maxRecDepth 100000 in
set_option maxHeartbeats 4000000 in
theorem c_N_oneLess {l : Launch} {D : va_G} {ad : Nat → Nat} {s_bk s_ln s_kd s_vl : Nat → Int32} {s_ct : Int32} {k_ce : Nat → Int32} {k_bc : Int32} {m_ra m_up : Nat → Int32} {m_on m_lo m_hi m_mo m_ma m_li : Int32} {n_rg n_sb : Nat → Int32} {n_st n_pl n_z n_n n_h n_c n_en n_so n_co n_sc : Int32} {l_bk l_of l_en : Nat → Int32} {l_ct : Int32} {t_bk t_of t_en : Nat → Int32} {t_ct : Int32} {a1 : Int32} {P : Int32 → (Int32) → (Int32) → (Int32) → (Int32) → Prop} (hw : wp_N_oneLess n_z n_n n_h n_c a1 P) : ct_ l yN_oneLess bN_oneLess 3 (some .int) 1 24 D ad [.ref (ad 11), .int a1] (wC ad s_bk s_ln s_kd s_vl s_ct k_ce k_bc m_ra m_up m_on m_lo m_hi m_mo m_ma m_li n_rg n_sb n_st n_pl n_z n_n n_h n_c n_en n_so n_co n_sc l_bk l_of l_en l_ct t_bk t_of t_en t_ct) (qi_ D (fun (r : Int32) (u : (Int32) × (Int32) × (Int32) × (Int32)) => P r u.1 u.2.1 u.2.2.1 u.2.2.2) (fun u => wC ad s_bk s_ln s_kd s_vl s_ct k_ce k_bc m_ra m_up m_on m_lo m_hi m_mo m_ma m_li n_rg n_sb n_st n_pl u.1 u.2.1 u.2.2.1 u.2.2.2 n_en n_so n_co n_sc l_bk l_of l_en l_ct t_bk t_of t_en t_ct)) := by
  refine ct_of RN (by decide) rfl (Nat.le_of_ble_eq_true rfl) (fun G hl hD X hq => ?_)
  subst hl hD
  show go_ G 0 0 (wC ad s_bk s_ln s_kd s_vl s_ct k_ce k_bc m_ra m_up m_on m_lo m_hi m_mo m_ma m_li n_rg n_sb n_st n_pl n_z n_n n_h n_c n_en n_so n_co n_sc l_bk l_of l_en l_ct t_bk t_of t_en t_ct) 0 [(0, .ref (ad 11)), (1, .int a1)] []
  have C18 : ∀ (n_z n_n n_h n_c x1 x2 y0 : Int32), wp_N_oneLess_18 P n_z n_n n_h n_c x1 x2 y0 → go_ G 0 0 (wC ad s_bk s_ln s_kd s_vl s_ct k_ce k_bc m_ra m_up m_on m_lo m_hi m_mo m_ma m_li n_rg n_sb n_st n_pl n_z n_n n_h n_c n_en n_so n_co n_sc l_bk l_of l_en l_ct t_bk t_of t_en t_ct) 18 [(0, .ref (ad 11)), (1, .int x1), (2, .int x2)] [.int y0, .ref (ad 11)] := by
    intro n_z n_n n_h n_c x1 x2 y0 hw
    refine go_iconst X dN_oneLess_18 kc_i1 ?_
    refine go_iload_n X 1 dN_oneLess_19 rfl rfl ?_
    refine go_bipush X dN_oneLess_20 kc_b15 ?_
    refine go_iand X dN_oneLess_22 ?_
    refine go_if_ne X dN_oneLess_23 rfl (fun hc => ?_) (fun hc => ?_)
    · have hw := hw.1 hc
      refine go_iconst X dN_oneLess_30 kc_i0 ?_
      refine go_aload_n X 0 dN_oneLess_31 rfl rfl ?_
      refine gt_N_128 X dN_oneLess_32 ?_
      refine k_N_setFlags X hw mw_N_32 ⟨by decide, by decide⟩ (Nat.le_of_ble_eq_true rfl) ⟨Nat.zero_le _, Nat.zero_le _⟩ dN_oneLess_35 (fun w2 w3 w4 w5 hw => ?_)
      refine go_iload_n X 2 dN_oneLess_38 rfl rfl ?_
      exact go_ireturn X hq dN_oneLess_39 (w2, w3, w4, w5) hw rfl
    · have hw := hw.2 hc
      refine go_iconst X dN_oneLess_26 kc_i1 ?_
      refine go_goto X dN_oneLess_27 rfl ?_
      refine go_aload_n X 0 dN_oneLess_31 rfl rfl ?_
      refine gt_N_128 X dN_oneLess_32 ?_
      refine k_N_setFlags X hw mw_N_32 ⟨by decide, by decide⟩ (Nat.le_of_ble_eq_true rfl) ⟨Nat.zero_le _, Nat.zero_le _⟩ dN_oneLess_35 (fun w6 w7 w8 w9 hw => ?_)
      refine go_iload_n X 2 dN_oneLess_38 rfl rfl ?_
      exact go_ireturn X hq dN_oneLess_39 (w6, w7, w8, w9) hw rfl
  refine go_iload_n X 1 dN_oneLess_0 rfl rfl ?_
  refine go_iconst X dN_oneLess_1 kc_i1 ?_
  refine go_isub X dN_oneLess_2 ?_
  refine go_sipush X dN_oneLess_3 kc_s255 ?_
  refine go_iand X dN_oneLess_6 ?_
  refine go_nm (fun z1 ez1 => ?_)
  have hw := hw z1 ez1
  refine go_istore_n X dN_oneLess_7 rfl (by decide) rfl ?_
  refine go_aload_n X 1 dN_oneLess_8 rfl rfl ?_
  refine go_iload_n X 0 dN_oneLess_9 rfl rfl ?_
  refine go_if_ne X dN_oneLess_10 rfl (fun hc => ?_) (fun hc => ?_)
  · have hw := hw.1 hc
    refine go_iconst X dN_oneLess_17 kc_i0 ?_
    refine go_lc [1, 2, 0] rfl ?_
    exact C18 _ _ _ _ _ _ _ hw
  · have hw := hw.2 hc
    refine go_iconst X dN_oneLess_13 kc_i1 ?_
    refine go_goto X dN_oneLess_14 rfl ?_
    refine go_lc [1, 2, 0] rfl ?_
    exact C18 _ _ _ _ _ _ _ hw
theorem k_N_oneLess {G : gt_} {ad : Nat → Nat} {cc : ByteArray} {own : String} {fr lo n cells slots pc index : Nat} {lc : List (Nat × Value)} {rest : List Value} {s_bk s_ln s_kd s_vl : Nat → Int32} {s_ct : Int32} {k_ce : Nat → Int32} {k_bc : Int32} {m_ra m_up : Nat → Int32} {m_on m_lo m_hi m_mo m_ma m_li : Int32} {n_rg n_sb : Nat → Int32} {n_st n_pl n_z n_n n_h n_c n_en n_so n_co n_sc : Int32} {l_bk l_of l_en : Nat → Int32} {l_ct : Int32} {t_bk t_of t_en : Nat → Int32} {t_ct : Int32} {a1 : Int32} {P : Int32 → (Int32) → (Int32) → (Int32) → (Int32) → Prop} (X : cx_ G ad cc own fr lo n) (hw : wp_N_oneLess n_z n_n n_h n_c a1 P) (m1 : Cond.methodLink own index yN_oneLess ∈ wS) (hlv : 1 + 1 ≤ fr ∧ 8 + (3 + 11) + 24 ≤ lo) (hrs : (rest.map fun v => v.category).sum ≤ 8) (hcs : cells ≤ (gR_ G).cells ∧ slots ≤ (gR_ G).slots) (d : decode cc pc = .ok (.invokevirtual index, 3))
    (kk : ∀ (r n_z' n_n' n_h' n_c' : Int32), P r n_z' n_n' n_h' n_c' → go_ G cells slots (wC ad s_bk s_ln s_kd s_vl s_ct k_ce k_bc m_ra m_up m_on m_lo m_hi m_mo m_ma m_li n_rg n_sb n_st n_pl n_z' n_n' n_h' n_c' n_en n_so n_co n_sc l_bk l_of l_en l_ct t_bk t_of t_en t_ct) (pc + 3) lc (.int r :: rest)) : go_ G cells slots (wC ad s_bk s_ln s_kd s_vl s_ct k_ce k_bc m_ra m_up m_on m_lo m_hi m_mo m_ma m_li n_rg n_sb n_st n_pl n_z n_n n_h n_c n_en n_so n_co n_sc l_bk l_of l_en l_ct t_bk t_of t_en t_ct) pc lc (.int a1 :: .ref (ad 11) :: rest) :=
  go_cvi X (c_N_oneLess hw) me_N_oneLess m1 hlv 11 rfl rfl rfl hrs hcs d (fun r u hp => kk r u.1 u.2.1 u.2.2.1 u.2.2.2 hp)
set_option maxRecDepth 100000 in
set_option maxHeartbeats 4000000 in
theorem c_N_oneMore {l : Launch} {D : va_G} {ad : Nat → Nat} {s_bk s_ln s_kd s_vl : Nat → Int32} {s_ct : Int32} {k_ce : Nat → Int32} {k_bc : Int32} {m_ra m_up : Nat → Int32} {m_on m_lo m_hi m_mo m_ma m_li : Int32} {n_rg n_sb : Nat → Int32} {n_st n_pl n_z n_n n_h n_c n_en n_so n_co n_sc : Int32} {l_bk l_of l_en : Nat → Int32} {l_ct : Int32} {t_bk t_of t_en : Nat → Int32} {t_ct : Int32} {a1 : Int32} {P : Int32 → (Int32) → (Int32) → (Int32) → (Int32) → Prop} (hw : wp_N_oneMore n_z n_n n_h n_c a1 P) : ct_ l yN_oneMore bN_oneMore 3 (some .int) 1 24 D ad [.ref (ad 11), .int a1] (wC ad s_bk s_ln s_kd s_vl s_ct k_ce k_bc m_ra m_up m_on m_lo m_hi m_mo m_ma m_li n_rg n_sb n_st n_pl n_z n_n n_h n_c n_en n_so n_co n_sc l_bk l_of l_en l_ct t_bk t_of t_en t_ct) (qi_ D (fun (r : Int32) (u : (Int32) × (Int32) × (Int32) × (Int32)) => P r u.1 u.2.1 u.2.2.1 u.2.2.2) (fun u => wC ad s_bk s_ln s_kd s_vl s_ct k_ce k_bc m_ra m_up m_on m_lo m_hi m_mo m_ma m_li n_rg n_sb n_st n_pl u.1 u.2.1 u.2.2.1 u.2.2.2 n_en n_so n_co n_sc l_bk l_of l_en l_ct t_bk t_of t_en t_ct)) := by
  refine ct_of RN (by decide) rfl (Nat.le_of_ble_eq_true rfl) (fun G hl hD X hq => ?_)
  subst hl hD
  show go_ G 0 0 (wC ad s_bk s_ln s_kd s_vl s_ct k_ce k_bc m_ra m_up m_on m_lo m_hi m_mo m_ma m_li n_rg n_sb n_st n_pl n_z n_n n_h n_c n_en n_so n_co n_sc l_bk l_of l_en l_ct t_bk t_of t_en t_ct) 0 [(0, .ref (ad 11)), (1, .int a1)] []
  have C18 : ∀ (n_z n_n n_h n_c x2 y0 : Int32), wp_N_oneMore_18 P n_z n_n n_h n_c x2 y0 → go_ G 0 0 (wC ad s_bk s_ln s_kd s_vl s_ct k_ce k_bc m_ra m_up m_on m_lo m_hi m_mo m_ma m_li n_rg n_sb n_st n_pl n_z n_n n_h n_c n_en n_so n_co n_sc l_bk l_of l_en l_ct t_bk t_of t_en t_ct) 18 [(0, .ref (ad 11)), (2, .int x2)] [.int y0, .ref (ad 11)] := by
    intro n_z n_n n_h n_c x2 y0 hw
    refine go_iconst X dN_oneMore_18 kc_i0 ?_
    refine go_iload_n X 1 dN_oneMore_19 rfl rfl ?_
    refine go_bipush X dN_oneMore_20 kc_b15 ?_
    refine go_iand X dN_oneMore_22 ?_
    refine go_if_ne X dN_oneMore_23 rfl (fun hc => ?_) (fun hc => ?_)
    · have hw := hw.1 hc
      refine go_iconst X dN_oneMore_30 kc_i0 ?_
      refine go_aload_n X 0 dN_oneMore_31 rfl rfl ?_
      refine gt_N_128 X dN_oneMore_32 ?_
      refine k_N_setFlags X hw mw_N_32 ⟨by decide, by decide⟩ (Nat.le_of_ble_eq_true rfl) ⟨Nat.zero_le _, Nat.zero_le _⟩ dN_oneMore_35 (fun w2 w3 w4 w5 hw => ?_)
      refine go_iload_n X 1 dN_oneMore_38 rfl rfl ?_
      exact go_ireturn X hq dN_oneMore_39 (w2, w3, w4, w5) hw rfl
    · have hw := hw.2 hc
      refine go_iconst X dN_oneMore_26 kc_i1 ?_
      refine go_goto X dN_oneMore_27 rfl ?_
      refine go_aload_n X 0 dN_oneMore_31 rfl rfl ?_
      refine gt_N_128 X dN_oneMore_32 ?_
      refine k_N_setFlags X hw mw_N_32 ⟨by decide, by decide⟩ (Nat.le_of_ble_eq_true rfl) ⟨Nat.zero_le _, Nat.zero_le _⟩ dN_oneMore_35 (fun w6 w7 w8 w9 hw => ?_)
      refine go_iload_n X 1 dN_oneMore_38 rfl rfl ?_
      exact go_ireturn X hq dN_oneMore_39 (w6, w7, w8, w9) hw rfl
  refine go_iload_n X 1 dN_oneMore_0 rfl rfl ?_
  refine go_iconst X dN_oneMore_1 kc_i1 ?_
  refine go_iadd X dN_oneMore_2 ?_
  refine go_sipush X dN_oneMore_3 kc_s255 ?_
  refine go_iand X dN_oneMore_6 ?_
  refine go_nm (fun z1 ez1 => ?_)
  have hw := hw z1 ez1
  refine go_istore_n X dN_oneMore_7 rfl (by decide) rfl ?_
  refine go_aload_n X 1 dN_oneMore_8 rfl rfl ?_
  refine go_iload_n X 0 dN_oneMore_9 rfl rfl ?_
  refine go_if_ne X dN_oneMore_10 rfl (fun hc => ?_) (fun hc => ?_)
  · have hw := hw.1 hc
    refine go_iconst X dN_oneMore_17 kc_i0 ?_
    refine go_lc [1, 0] rfl ?_
    exact C18 _ _ _ _ _ _ hw
  · have hw := hw.2 hc
    refine go_iconst X dN_oneMore_13 kc_i1 ?_
    refine go_goto X dN_oneMore_14 rfl ?_
    refine go_lc [1, 0] rfl ?_
    exact C18 _ _ _ _ _ _ hw
theorem k_N_oneMore {G : gt_} {ad : Nat → Nat} {cc : ByteArray} {own : String} {fr lo n cells slots pc index : Nat} {lc : List (Nat × Value)} {rest : List Value} {s_bk s_ln s_kd s_vl : Nat → Int32} {s_ct : Int32} {k_ce : Nat → Int32} {k_bc : Int32} {m_ra m_up : Nat → Int32} {m_on m_lo m_hi m_mo m_ma m_li : Int32} {n_rg n_sb : Nat → Int32} {n_st n_pl n_z n_n n_h n_c n_en n_so n_co n_sc : Int32} {l_bk l_of l_en : Nat → Int32} {l_ct : Int32} {t_bk t_of t_en : Nat → Int32} {t_ct : Int32} {a1 : Int32} {P : Int32 → (Int32) → (Int32) → (Int32) → (Int32) → Prop} (X : cx_ G ad cc own fr lo n) (hw : wp_N_oneMore n_z n_n n_h n_c a1 P) (m1 : Cond.methodLink own index yN_oneMore ∈ wS) (hlv : 1 + 1 ≤ fr ∧ 8 + (3 + 11) + 24 ≤ lo) (hrs : (rest.map fun v => v.category).sum ≤ 8) (hcs : cells ≤ (gR_ G).cells ∧ slots ≤ (gR_ G).slots) (d : decode cc pc = .ok (.invokevirtual index, 3))
    (kk : ∀ (r n_z' n_n' n_h' n_c' : Int32), P r n_z' n_n' n_h' n_c' → go_ G cells slots (wC ad s_bk s_ln s_kd s_vl s_ct k_ce k_bc m_ra m_up m_on m_lo m_hi m_mo m_ma m_li n_rg n_sb n_st n_pl n_z' n_n' n_h' n_c' n_en n_so n_co n_sc l_bk l_of l_en l_ct t_bk t_of t_en t_ct) (pc + 3) lc (.int r :: rest)) : go_ G cells slots (wC ad s_bk s_ln s_kd s_vl s_ct k_ce k_bc m_ra m_up m_on m_lo m_hi m_mo m_ma m_li n_rg n_sb n_st n_pl n_z n_n n_h n_c n_en n_so n_co n_sc l_bk l_of l_en l_ct t_bk t_of t_en t_ct) pc lc (.int a1 :: .ref (ad 11) :: rest) :=
  go_cvi X (c_N_oneMore hw) me_N_oneMore m1 hlv 11 rfl rfl rfl hrs hcs d (fun r u hp => kk r u.1 u.2.1 u.2.2.1 u.2.2.2 hp)
set_option maxRecDepth 100000 in
set_option maxHeartbeats 4000000 in
theorem c_N_sum {l : Launch} {D : va_G} {ad : Nat → Nat} {s_bk s_ln s_kd s_vl : Nat → Int32} {s_ct : Int32} {k_ce : Nat → Int32} {k_bc : Int32} {m_ra m_up : Nat → Int32} {m_on m_lo m_hi m_mo m_ma m_li : Int32} {n_rg n_sb : Nat → Int32} {n_st n_pl n_z n_n n_h n_c n_en n_so n_co n_sc : Int32} {l_bk l_of l_en : Nat → Int32} {l_ct : Int32} {t_bk t_of t_en : Nat → Int32} {t_ct : Int32} {a1 a2 : Int32} {P : Int32 → (Int32) → (Int32) → (Int32) → (Int32) → Prop} (hw : wp_N_sum n_rg n_z n_n n_h n_c a1 a2 P) : ct_ l yN_sum bN_sum 6 (some .int) 1 24 D ad [.ref (ad 11), .int a1, .int a2] (wC ad s_bk s_ln s_kd s_vl s_ct k_ce k_bc m_ra m_up m_on m_lo m_hi m_mo m_ma m_li n_rg n_sb n_st n_pl n_z n_n n_h n_c n_en n_so n_co n_sc l_bk l_of l_en l_ct t_bk t_of t_en t_ct) (qi_ D (fun (r : Int32) (u : (Int32) × (Int32) × (Int32) × (Int32)) => P r u.1 u.2.1 u.2.2.1 u.2.2.2) (fun u => wC ad s_bk s_ln s_kd s_vl s_ct k_ce k_bc m_ra m_up m_on m_lo m_hi m_mo m_ma m_li n_rg n_sb n_st n_pl u.1 u.2.1 u.2.2.1 u.2.2.2 n_en n_so n_co n_sc l_bk l_of l_en l_ct t_bk t_of t_en t_ct)) := by
  refine ct_of RN (by decide) rfl (Nat.le_of_ble_eq_true rfl) (fun G hl hD X hq => ?_)
  subst hl hD
  show go_ G 0 0 (wC ad s_bk s_ln s_kd s_vl s_ct k_ce k_bc m_ra m_up m_on m_lo m_hi m_mo m_ma m_li n_rg n_sb n_st n_pl n_z n_n n_h n_c n_en n_so n_co n_sc l_bk l_of l_en l_ct t_bk t_of t_en t_ct) 0 [(0, .ref (ad 11)), (1, .int a1), (2, .int a2)] []
  have C56 : ∀ (n_z n_n n_h n_c x4 y0 y1 y2 : Int32), wp_N_sum_56 n_rg P n_z n_n n_h n_c x4 y0 y1 y2 → go_ G 0 0 (wC ad s_bk s_ln s_kd s_vl s_ct k_ce k_bc m_ra m_up m_on m_lo m_hi m_mo m_ma m_li n_rg n_sb n_st n_pl n_z n_n n_h n_c n_en n_so n_co n_sc l_bk l_of l_en l_ct t_bk t_of t_en t_ct) 56 [(4, .int x4)] [.int y0, .int y1, .int y2, .ref (ad 11)] := by
    intro n_z n_n n_h n_c x4 y0 y1 y2 hw
    refine go_iload X 0 dN_sum_56 rfl ?_
    refine go_sipush X dN_sum_58 kc_s255 ?_
    refine go_icmp_le X dN_sum_61 rfl (fun hc => ?_) (fun hc => ?_)
    · have hw := hw.1 hc
      refine go_iconst X dN_sum_68 kc_i0 ?_
      refine k_N_setFlags X hw mw_N_32 ⟨by decide, by decide⟩ (Nat.le_of_ble_eq_true rfl) ⟨Nat.zero_le _, Nat.zero_le _⟩ dN_sum_69 (fun w4 w5 w6 w7 hw => ?_)
      refine go_iload X 0 dN_sum_72 rfl ?_
      refine go_sipush X dN_sum_74 kc_s255 ?_
      refine go_iand X dN_sum_77 ?_
      exact go_ireturn X hq dN_sum_78 (w4, w5, w6, w7) hw rfl
    · have hw := hw.2 hc
      refine go_iconst X dN_sum_64 kc_i1 ?_
      refine go_goto X dN_sum_65 rfl ?_
      refine k_N_setFlags X hw mw_N_32 ⟨by decide, by decide⟩ (Nat.le_of_ble_eq_true rfl) ⟨Nat.zero_le _, Nat.zero_le _⟩ dN_sum_69 (fun w8 w9 w10 w11 hw => ?_)
      refine go_iload X 0 dN_sum_72 rfl ?_
      refine go_sipush X dN_sum_74 kc_s255 ?_
      refine go_iand X dN_sum_77 ?_
      exact go_ireturn X hq dN_sum_78 (w8, w9, w10, w11) hw rfl
  refine go_aload_n X 0 dN_sum_0 rfl rfl ?_
  refine gt_N_9 X dN_sum_1 ?_
  refine go_bipush X dN_sum_4 kc_b7 ?_
  refine ar_n_rg X vi_7_8 dN_sum_6 ?_
  refine go_nm (fun z1 ez1 => ?_)
  have hw := hw z1 ez1
  refine go_istore_n X dN_sum_7 rfl (by decide) rfl ?_
  refine go_iload_n X 0 dN_sum_8 rfl rfl ?_
  refine go_iload_n X 2 dN_sum_9 rfl rfl ?_
  refine go_iadd X dN_sum_10 ?_
  refine go_iload_n X 3 dN_sum_11 rfl rfl ?_
  refine go_iadd X dN_sum_12 ?_
  refine go_nm (fun z2 ez2 => ?_)
  have hw := hw z2 ez2
  refine go_istore X dN_sum_13 (by decide) rfl ?_
  refine go_iload_n X 1 dN_sum_15 rfl rfl ?_
  refine go_bipush X dN_sum_16 kc_b15 ?_
  refine go_iand X dN_sum_18 ?_
  refine go_iload_n X 3 dN_sum_19 rfl rfl ?_
  refine go_bipush X dN_sum_20 kc_b15 ?_
  refine go_iand X dN_sum_22 ?_
  refine go_iadd X dN_sum_23 ?_
  refine go_iload_n X 4 dN_sum_24 rfl rfl ?_
  refine go_iadd X dN_sum_25 ?_
  refine go_nm (fun z3 ez3 => ?_)
  have hw := hw z3 ez3
  refine go_istore X dN_sum_26 (by decide) rfl ?_
  refine go_aload_n X 3 dN_sum_28 rfl rfl ?_
  refine go_iload X 1 dN_sum_29 rfl ?_
  refine go_sipush X dN_sum_31 kc_s255 ?_
  refine go_iand X dN_sum_34 ?_
  refine go_if_ne X dN_sum_35 rfl (fun hc => ?_) (fun hc => ?_)
  · have hw := hw.1 hc
    refine go_iconst X dN_sum_42 kc_i0 ?_
    refine go_iconst X dN_sum_43 kc_i0 ?_
    refine go_iload X 0 dN_sum_44 rfl ?_
    refine go_bipush X dN_sum_46 kc_b15 ?_
    refine go_icmp_le X dN_sum_48 rfl (fun hc => ?_) (fun hc => ?_)
    · have hw := hw.1 hc
      refine go_iconst X dN_sum_55 kc_i0 ?_
      refine go_lc [1] rfl ?_
      exact C56 _ _ _ _ _ _ _ _ hw
    · have hw := hw.2 hc
      refine go_iconst X dN_sum_51 kc_i1 ?_
      refine go_goto X dN_sum_52 rfl ?_
      refine go_lc [1] rfl ?_
      exact C56 _ _ _ _ _ _ _ _ hw
  · have hw := hw.2 hc
    refine go_iconst X dN_sum_38 kc_i1 ?_
    refine go_goto X dN_sum_39 rfl ?_
    refine go_iconst X dN_sum_43 kc_i0 ?_
    refine go_iload X 0 dN_sum_44 rfl ?_
    refine go_bipush X dN_sum_46 kc_b15 ?_
    refine go_icmp_le X dN_sum_48 rfl (fun hc => ?_) (fun hc => ?_)
    · have hw := hw.1 hc
      refine go_iconst X dN_sum_55 kc_i0 ?_
      refine go_lc [1] rfl ?_
      exact C56 _ _ _ _ _ _ _ _ hw
    · have hw := hw.2 hc
      refine go_iconst X dN_sum_51 kc_i1 ?_
      refine go_goto X dN_sum_52 rfl ?_
      refine go_lc [1] rfl ?_
      exact C56 _ _ _ _ _ _ _ _ hw
theorem k_N_sum {G : gt_} {ad : Nat → Nat} {cc : ByteArray} {own : String} {fr lo n cells slots pc index : Nat} {lc : List (Nat × Value)} {rest : List Value} {s_bk s_ln s_kd s_vl : Nat → Int32} {s_ct : Int32} {k_ce : Nat → Int32} {k_bc : Int32} {m_ra m_up : Nat → Int32} {m_on m_lo m_hi m_mo m_ma m_li : Int32} {n_rg n_sb : Nat → Int32} {n_st n_pl n_z n_n n_h n_c n_en n_so n_co n_sc : Int32} {l_bk l_of l_en : Nat → Int32} {l_ct : Int32} {t_bk t_of t_en : Nat → Int32} {t_ct : Int32} {a1 a2 : Int32} {P : Int32 → (Int32) → (Int32) → (Int32) → (Int32) → Prop} (X : cx_ G ad cc own fr lo n) (hw : wp_N_sum n_rg n_z n_n n_h n_c a1 a2 P) (m1 : Cond.methodLink own index yN_sum ∈ wS) (hlv : 1 + 1 ≤ fr ∧ 8 + (6 + 11) + 24 ≤ lo) (hrs : (rest.map fun v => v.category).sum ≤ 8) (hcs : cells ≤ (gR_ G).cells ∧ slots ≤ (gR_ G).slots) (d : decode cc pc = .ok (.invokevirtual index, 3))
    (kk : ∀ (r n_z' n_n' n_h' n_c' : Int32), P r n_z' n_n' n_h' n_c' → go_ G cells slots (wC ad s_bk s_ln s_kd s_vl s_ct k_ce k_bc m_ra m_up m_on m_lo m_hi m_mo m_ma m_li n_rg n_sb n_st n_pl n_z' n_n' n_h' n_c' n_en n_so n_co n_sc l_bk l_of l_en l_ct t_bk t_of t_en t_ct) (pc + 3) lc (.int r :: rest)) : go_ G cells slots (wC ad s_bk s_ln s_kd s_vl s_ct k_ce k_bc m_ra m_up m_on m_lo m_hi m_mo m_ma m_li n_rg n_sb n_st n_pl n_z n_n n_h n_c n_en n_so n_co n_sc l_bk l_of l_en l_ct t_bk t_of t_en t_ct) pc lc (.int a2 :: .int a1 :: .ref (ad 11) :: rest) :=
  go_cvi X (c_N_sum hw) me_N_sum m1 hlv 11 rfl rfl rfl hrs hcs d (fun r u hp => kk r u.1 u.2.1 u.2.2.1 u.2.2.2 hp)
set_option maxRecDepth 100000 in
set_option maxHeartbeats 4000000 in
theorem c_N_calculate {l : Launch} {D : va_G} {ad : Nat → Nat} {s_bk s_ln s_kd s_vl : Nat → Int32} {s_ct : Int32} {k_ce : Nat → Int32} {k_bc : Int32} {m_ra m_up : Nat → Int32} {m_on m_lo m_hi m_mo m_ma m_li : Int32} {n_rg n_sb : Nat → Int32} {n_st n_pl n_z n_n n_h n_c n_en n_so n_co n_sc : Int32} {l_bk l_of l_en : Nat → Int32} {l_ct : Int32} {t_bk t_of t_en : Nat → Int32} {t_ct : Int32} {a1 a2 : Int32} {P : (Nat → Int32) → (Int32) → (Int32) → (Int32) → (Int32) → Prop} (hw : wp_N_calculate n_rg n_z n_n n_h n_c a1 a2 P) : ct_ l yN_calculate bN_calculate 3 none 2 49 D ad [.ref (ad 11), .int a1, .int a2] (wC ad s_bk s_ln s_kd s_vl s_ct k_ce k_bc m_ra m_up m_on m_lo m_hi m_mo m_ma m_li n_rg n_sb n_st n_pl n_z n_n n_h n_c n_en n_so n_co n_sc l_bk l_of l_en l_ct t_bk t_of t_en t_ct) (qv_ D (fun (u : (Nat → Int32) × (Int32) × (Int32) × (Int32) × (Int32)) => P u.1 u.2.1 u.2.2.1 u.2.2.2.1 u.2.2.2.2) (fun u => wC ad s_bk s_ln s_kd s_vl s_ct k_ce k_bc m_ra m_up m_on m_lo m_hi m_mo m_ma m_li u.1 n_sb n_st n_pl u.2.1 u.2.2.1 u.2.2.2.1 u.2.2.2.2 n_en n_so n_co n_sc l_bk l_of l_en l_ct t_bk t_of t_en t_ct)) := by
  refine ct_of RN (by decide) rfl (Nat.le_of_ble_eq_true rfl) (fun G hl hD X hq => ?_)
  subst hl hD
  show go_ G 0 0 (wC ad s_bk s_ln s_kd s_vl s_ct k_ce k_bc m_ra m_up m_on m_lo m_hi m_mo m_ma m_li n_rg n_sb n_st n_pl n_z n_n n_h n_c n_en n_so n_co n_sc l_bk l_of l_en l_ct t_bk t_of t_en t_ct) 0 [(0, .ref (ad 11)), (1, .int a1), (2, .int a2)] []
  refine go_iload_n X 1 dN_calculate_0 rfl rfl ?_
  by_cases h9_0 : a1 = (0 : Int32)
  · have hw := hw.1 h9_0
    refine go_tin X (0 : Int32) dN_calculate_1 h9_0 (by decide) (by decide) rfl rfl ?_
    refine go_aload_n X 0 dN_calculate_44 rfl rfl ?_
    refine gt_N_9 X dN_calculate_45 ?_
    refine go_bipush X dN_calculate_48 kc_b7 ?_
    refine go_aload_n X 0 dN_calculate_50 rfl rfl ?_
    refine go_iload_n X 2 dN_calculate_51 rfl rfl ?_
    refine go_iconst X dN_calculate_52 kc_i0 ?_
    refine k_N_sum X hw mw_N_147 ⟨by decide, by decide⟩ (Nat.le_of_ble_eq_true rfl) ⟨Nat.zero_le _, Nat.zero_le _⟩ dN_calculate_53 (fun r1 w2 w3 w4 w5 hw => ?_)
    refine as_n_rg X vi_7_8 dN_calculate_56 ?_
    refine go_goto X dN_calculate_57 rfl ?_
    exact go_vreturn X hq dN_calculate_229 (upd n_rg (7 : Int32).toNatClampNeg r1, w2, w3, w4, w5) hw rfl
  by_cases h9_1 : a1 = (1 : Int32)
  · have hw := hw.2.1 h9_1
    refine go_tin X (1 : Int32) dN_calculate_1 h9_1 (by decide) (by decide) rfl rfl ?_
    refine go_aload_n X 0 dN_calculate_60 rfl rfl ?_
    refine gt_N_9 X dN_calculate_61 ?_
    refine go_bipush X dN_calculate_64 kc_b7 ?_
    refine go_aload_n X 0 dN_calculate_66 rfl rfl ?_
    refine go_iload_n X 2 dN_calculate_67 rfl rfl ?_
    refine go_aload_n X 0 dN_calculate_68 rfl rfl ?_
    refine k_N_carryBit X hw mw_N_67 ⟨by decide, by decide⟩ (Nat.le_of_ble_eq_true rfl) ⟨Nat.zero_le _, Nat.zero_le _⟩ dN_calculate_69 (fun r6 hw => ?_)
    refine k_N_sum X hw mw_N_147 ⟨by decide, by decide⟩ (Nat.le_of_ble_eq_true rfl) ⟨Nat.zero_le _, Nat.zero_le _⟩ dN_calculate_72 (fun r7 w8 w9 w10 w11 hw => ?_)
    refine as_n_rg X vi_7_8 dN_calculate_75 ?_
    refine go_goto X dN_calculate_76 rfl ?_
    exact go_vreturn X hq dN_calculate_229 (upd n_rg (7 : Int32).toNatClampNeg r7, w8, w9, w10, w11) hw rfl
  by_cases h9_2 : a1 = (2 : Int32)
  · have hw := hw.2.2.1 h9_2
    refine go_tin X (2 : Int32) dN_calculate_1 h9_2 (by decide) (by decide) rfl rfl ?_
    refine go_aload_n X 0 dN_calculate_79 rfl rfl ?_
    refine gt_N_9 X dN_calculate_80 ?_
    refine go_bipush X dN_calculate_83 kc_b7 ?_
    refine go_aload_n X 0 dN_calculate_85 rfl rfl ?_
    refine go_iload_n X 2 dN_calculate_86 rfl rfl ?_
    refine go_iconst X dN_calculate_87 kc_i0 ?_
    refine k_N_difference X hw mw_N_150 ⟨by decide, by decide⟩ (Nat.le_of_ble_eq_true rfl) ⟨Nat.zero_le _, Nat.zero_le _⟩ dN_calculate_88 (fun r12 w13 w14 w15 w16 hw => ?_)
    refine as_n_rg X vi_7_8 dN_calculate_91 ?_
    refine go_goto X dN_calculate_92 rfl ?_
    exact go_vreturn X hq dN_calculate_229 (upd n_rg (7 : Int32).toNatClampNeg r12, w13, w14, w15, w16) hw rfl
  by_cases h9_3 : a1 = (3 : Int32)
  · have hw := hw.2.2.2.1 h9_3
    refine go_tin X (3 : Int32) dN_calculate_1 h9_3 (by decide) (by decide) rfl rfl ?_
    refine go_aload_n X 0 dN_calculate_95 rfl rfl ?_
    refine gt_N_9 X dN_calculate_96 ?_
    refine go_bipush X dN_calculate_99 kc_b7 ?_
    refine go_aload_n X 0 dN_calculate_101 rfl rfl ?_
    refine go_iload_n X 2 dN_calculate_102 rfl rfl ?_
    refine go_aload_n X 0 dN_calculate_103 rfl rfl ?_
    refine k_N_carryBit X hw mw_N_67 ⟨by decide, by decide⟩ (Nat.le_of_ble_eq_true rfl) ⟨Nat.zero_le _, Nat.zero_le _⟩ dN_calculate_104 (fun r17 hw => ?_)
    refine k_N_difference X hw mw_N_150 ⟨by decide, by decide⟩ (Nat.le_of_ble_eq_true rfl) ⟨Nat.zero_le _, Nat.zero_le _⟩ dN_calculate_107 (fun r18 w19 w20 w21 w22 hw => ?_)
    refine as_n_rg X vi_7_8 dN_calculate_110 ?_
    refine go_goto X dN_calculate_111 rfl ?_
    exact go_vreturn X hq dN_calculate_229 (upd n_rg (7 : Int32).toNatClampNeg r18, w19, w20, w21, w22) hw rfl
  by_cases h9_4 : a1 = (4 : Int32)
  · have hw := hw.2.2.2.2.1 h9_4
    refine go_tin X (4 : Int32) dN_calculate_1 h9_4 (by decide) (by decide) rfl rfl ?_
    refine go_aload_n X 0 dN_calculate_114 rfl rfl ?_
    refine gt_N_9 X dN_calculate_115 ?_
    refine go_bipush X dN_calculate_118 kc_b7 ?_
    refine go_dup2 X dN_calculate_120 rfl rfl ?_
    refine ar_n_rg X vi_7_8 dN_calculate_121 ?_
    refine go_iload_n X 2 dN_calculate_122 rfl rfl ?_
    refine go_iand X dN_calculate_123 ?_
    refine as_n_rg X vi_7_8 dN_calculate_124 ?_
    refine go_aload_n X 0 dN_calculate_125 rfl rfl ?_
    refine go_aload_n X 0 dN_calculate_126 rfl rfl ?_
    refine gt_N_9 X dN_calculate_127 ?_
    refine go_bipush X dN_calculate_130 kc_b7 ?_
    refine ar_n_rg X vi_7_8 dN_calculate_132 ?_
    refine go_if_ne X dN_calculate_133 rfl (fun hc => ?_) (fun hc => ?_)
    · have hw := hw.1 hc
      refine go_iconst X dN_calculate_140 kc_i0 ?_
      refine go_iconst X dN_calculate_141 kc_i0 ?_
      refine go_iconst X dN_calculate_142 kc_i1 ?_
      refine go_iconst X dN_calculate_143 kc_i0 ?_
      refine k_N_setFlags X hw mw_N_32 ⟨by decide, by decide⟩ (Nat.le_of_ble_eq_true rfl) ⟨Nat.zero_le _, Nat.zero_le _⟩ dN_calculate_144 (fun w23 w24 w25 w26 hw => ?_)
      refine go_goto X dN_calculate_147 rfl ?_
      exact go_vreturn X hq dN_calculate_229 (upd n_rg (7 : Int32).toNatClampNeg ((n_rg (7 : Int32).toNatClampNeg) &&& a2), w23, w24, w25, w26) hw rfl
    · have hw := hw.2 hc
      refine go_iconst X dN_calculate_136 kc_i1 ?_
      refine go_goto X dN_calculate_137 rfl ?_
      refine go_iconst X dN_calculate_141 kc_i0 ?_
      refine go_iconst X dN_calculate_142 kc_i1 ?_
      refine go_iconst X dN_calculate_143 kc_i0 ?_
      refine k_N_setFlags X hw mw_N_32 ⟨by decide, by decide⟩ (Nat.le_of_ble_eq_true rfl) ⟨Nat.zero_le _, Nat.zero_le _⟩ dN_calculate_144 (fun w27 w28 w29 w30 hw => ?_)
      refine go_goto X dN_calculate_147 rfl ?_
      exact go_vreturn X hq dN_calculate_229 (upd n_rg (7 : Int32).toNatClampNeg ((n_rg (7 : Int32).toNatClampNeg) &&& a2), w27, w28, w29, w30) hw rfl
  by_cases h9_5 : a1 = (5 : Int32)
  · have hw := hw.2.2.2.2.2.1 h9_5
    refine go_tin X (5 : Int32) dN_calculate_1 h9_5 (by decide) (by decide) rfl rfl ?_
    refine go_aload_n X 0 dN_calculate_150 rfl rfl ?_
    refine gt_N_9 X dN_calculate_151 ?_
    refine go_bipush X dN_calculate_154 kc_b7 ?_
    refine go_dup2 X dN_calculate_156 rfl rfl ?_
    refine ar_n_rg X vi_7_8 dN_calculate_157 ?_
    refine go_iload_n X 2 dN_calculate_158 rfl rfl ?_
    refine go_ixor X dN_calculate_159 ?_
    refine as_n_rg X vi_7_8 dN_calculate_160 ?_
    refine go_aload_n X 0 dN_calculate_161 rfl rfl ?_
    refine go_aload_n X 0 dN_calculate_162 rfl rfl ?_
    refine gt_N_9 X dN_calculate_163 ?_
    refine go_bipush X dN_calculate_166 kc_b7 ?_
    refine ar_n_rg X vi_7_8 dN_calculate_168 ?_
    refine go_if_ne X dN_calculate_169 rfl (fun hc => ?_) (fun hc => ?_)
    · have hw := hw.1 hc
      refine go_iconst X dN_calculate_176 kc_i0 ?_
      refine go_iconst X dN_calculate_177 kc_i0 ?_
      refine go_iconst X dN_calculate_178 kc_i0 ?_
      refine go_iconst X dN_calculate_179 kc_i0 ?_
      refine k_N_setFlags X hw mw_N_32 ⟨by decide, by decide⟩ (Nat.le_of_ble_eq_true rfl) ⟨Nat.zero_le _, Nat.zero_le _⟩ dN_calculate_180 (fun w31 w32 w33 w34 hw => ?_)
      refine go_goto X dN_calculate_183 rfl ?_
      exact go_vreturn X hq dN_calculate_229 (upd n_rg (7 : Int32).toNatClampNeg ((n_rg (7 : Int32).toNatClampNeg) ^^^ a2), w31, w32, w33, w34) hw rfl
    · have hw := hw.2 hc
      refine go_iconst X dN_calculate_172 kc_i1 ?_
      refine go_goto X dN_calculate_173 rfl ?_
      refine go_iconst X dN_calculate_177 kc_i0 ?_
      refine go_iconst X dN_calculate_178 kc_i0 ?_
      refine go_iconst X dN_calculate_179 kc_i0 ?_
      refine k_N_setFlags X hw mw_N_32 ⟨by decide, by decide⟩ (Nat.le_of_ble_eq_true rfl) ⟨Nat.zero_le _, Nat.zero_le _⟩ dN_calculate_180 (fun w35 w36 w37 w38 hw => ?_)
      refine go_goto X dN_calculate_183 rfl ?_
      exact go_vreturn X hq dN_calculate_229 (upd n_rg (7 : Int32).toNatClampNeg ((n_rg (7 : Int32).toNatClampNeg) ^^^ a2), w35, w36, w37, w38) hw rfl
  by_cases h9_6 : a1 = (6 : Int32)
  · have hw := hw.2.2.2.2.2.2.1 h9_6
    refine go_tin X (6 : Int32) dN_calculate_1 h9_6 (by decide) (by decide) rfl rfl ?_
    refine go_aload_n X 0 dN_calculate_186 rfl rfl ?_
    refine gt_N_9 X dN_calculate_187 ?_
    refine go_bipush X dN_calculate_190 kc_b7 ?_
    refine go_dup2 X dN_calculate_192 rfl rfl ?_
    refine ar_n_rg X vi_7_8 dN_calculate_193 ?_
    refine go_iload_n X 2 dN_calculate_194 rfl rfl ?_
    refine go_ior X dN_calculate_195 ?_
    refine as_n_rg X vi_7_8 dN_calculate_196 ?_
    refine go_aload_n X 0 dN_calculate_197 rfl rfl ?_
    refine go_aload_n X 0 dN_calculate_198 rfl rfl ?_
    refine gt_N_9 X dN_calculate_199 ?_
    refine go_bipush X dN_calculate_202 kc_b7 ?_
    refine ar_n_rg X vi_7_8 dN_calculate_204 ?_
    refine go_if_ne X dN_calculate_205 rfl (fun hc => ?_) (fun hc => ?_)
    · have hw := hw.1 hc
      refine go_iconst X dN_calculate_212 kc_i0 ?_
      refine go_iconst X dN_calculate_213 kc_i0 ?_
      refine go_iconst X dN_calculate_214 kc_i0 ?_
      refine go_iconst X dN_calculate_215 kc_i0 ?_
      refine k_N_setFlags X hw mw_N_32 ⟨by decide, by decide⟩ (Nat.le_of_ble_eq_true rfl) ⟨Nat.zero_le _, Nat.zero_le _⟩ dN_calculate_216 (fun w39 w40 w41 w42 hw => ?_)
      refine go_goto X dN_calculate_219 rfl ?_
      exact go_vreturn X hq dN_calculate_229 (upd n_rg (7 : Int32).toNatClampNeg ((n_rg (7 : Int32).toNatClampNeg) ||| a2), w39, w40, w41, w42) hw rfl
    · have hw := hw.2 hc
      refine go_iconst X dN_calculate_208 kc_i1 ?_
      refine go_goto X dN_calculate_209 rfl ?_
      refine go_iconst X dN_calculate_213 kc_i0 ?_
      refine go_iconst X dN_calculate_214 kc_i0 ?_
      refine go_iconst X dN_calculate_215 kc_i0 ?_
      refine k_N_setFlags X hw mw_N_32 ⟨by decide, by decide⟩ (Nat.le_of_ble_eq_true rfl) ⟨Nat.zero_le _, Nat.zero_le _⟩ dN_calculate_216 (fun w43 w44 w45 w46 hw => ?_)
      refine go_goto X dN_calculate_219 rfl ?_
      exact go_vreturn X hq dN_calculate_229 (upd n_rg (7 : Int32).toNatClampNeg ((n_rg (7 : Int32).toNatClampNeg) ||| a2), w43, w44, w45, w46) hw rfl
  have hw := hw.2.2.2.2.2.2.2 h9_0 h9_1 h9_2 h9_3 h9_4 h9_5 h9_6
  have t9_0 := go_neT h9_0 (z := 0) (by decide)
  have t9_1 := go_neT h9_1 (z := 1) (by decide)
  have t9_2 := go_neT h9_2 (z := 2) (by decide)
  have t9_3 := go_neT h9_3 (z := 3) (by decide)
  have t9_4 := go_neT h9_4 (z := 4) (by decide)
  have t9_5 := go_neT h9_5 (z := 5) (by decide)
  have t9_6 := go_neT h9_6 (z := 6) (by decide)
  refine go_tout X dN_calculate_1 (by omega) rfl ?_
  refine go_aload_n X 0 dN_calculate_222 rfl rfl ?_
  refine go_iload_n X 2 dN_calculate_223 rfl rfl ?_
  refine go_iconst X dN_calculate_224 kc_i0 ?_
  refine k_N_difference X hw mw_N_150 ⟨by decide, by decide⟩ (Nat.le_of_ble_eq_true rfl) ⟨Nat.zero_le _, Nat.zero_le _⟩ dN_calculate_225 (fun r47 w48 w49 w50 w51 hw => ?_)
  refine go_pop X dN_calculate_228 rfl ?_
  exact go_vreturn X hq dN_calculate_229 (n_rg, w48, w49, w50, w51) hw rfl
theorem k_N_calculate {G : gt_} {ad : Nat → Nat} {cc : ByteArray} {own : String} {fr lo n cells slots pc index : Nat} {lc : List (Nat × Value)} {rest : List Value} {s_bk s_ln s_kd s_vl : Nat → Int32} {s_ct : Int32} {k_ce : Nat → Int32} {k_bc : Int32} {m_ra m_up : Nat → Int32} {m_on m_lo m_hi m_mo m_ma m_li : Int32} {n_rg n_sb : Nat → Int32} {n_st n_pl n_z n_n n_h n_c n_en n_so n_co n_sc : Int32} {l_bk l_of l_en : Nat → Int32} {l_ct : Int32} {t_bk t_of t_en : Nat → Int32} {t_ct : Int32} {a1 a2 : Int32} {P : (Nat → Int32) → (Int32) → (Int32) → (Int32) → (Int32) → Prop} (X : cx_ G ad cc own fr lo n) (hw : wp_N_calculate n_rg n_z n_n n_h n_c a1 a2 P) (m1 : Cond.methodLink own index yN_calculate ∈ wS) (hlv : 2 + 1 ≤ fr ∧ 8 + (3 + 11) + 49 ≤ lo) (hrs : (rest.map fun v => v.category).sum ≤ 8) (hcs : cells ≤ (gR_ G).cells ∧ slots ≤ (gR_ G).slots) (d : decode cc pc = .ok (.invokevirtual index, 3))
    (kk : ∀ (n_rg' : Nat → Int32) (n_z' n_n' n_h' n_c' : Int32), P n_rg' n_z' n_n' n_h' n_c' → go_ G cells slots (wC ad s_bk s_ln s_kd s_vl s_ct k_ce k_bc m_ra m_up m_on m_lo m_hi m_mo m_ma m_li n_rg' n_sb n_st n_pl n_z' n_n' n_h' n_c' n_en n_so n_co n_sc l_bk l_of l_en l_ct t_bk t_of t_en t_ct) (pc + 3) lc (rest)) : go_ G cells slots (wC ad s_bk s_ln s_kd s_vl s_ct k_ce k_bc m_ra m_up m_on m_lo m_hi m_mo m_ma m_li n_rg n_sb n_st n_pl n_z n_n n_h n_c n_en n_so n_co n_sc l_bk l_of l_en l_ct t_bk t_of t_en t_ct) pc lc (.int a2 :: .int a1 :: .ref (ad 11) :: rest) :=
  go_cvv X (c_N_calculate hw) me_N_calculate m1 hlv 11 rfl rfl rfl hrs hcs d (fun u hp => kk u.1 u.2.1 u.2.2.1 u.2.2.2.1 u.2.2.2.2 hp)
set_option maxRecDepth 100000 in
set_option maxHeartbeats 4000000 in
theorem c_N_get {l : Launch} {D : va_G} {ad : Nat → Nat} {s_bk s_ln s_kd s_vl : Nat → Int32} {s_ct : Int32} {k_ce : Nat → Int32} {k_bc : Int32} {m_ra m_up : Nat → Int32} {m_on m_lo m_hi m_mo m_ma m_li : Int32} {n_rg n_sb : Nat → Int32} {n_st n_pl n_z n_n n_h n_c n_en n_so n_co n_sc : Int32} {l_bk l_of l_en : Nat → Int32} {l_ct : Int32} {t_bk t_of t_en : Nat → Int32} {t_ct : Int32} {a1 : Int32} {P : Int32 → Prop} (hw : wp_N_get k_ce k_bc m_ra m_up m_on m_lo m_hi m_mo m_ma m_li n_rg a1 P) : ct_ l yN_get bN_get 2 (some .int) 2 43 D ad [.ref (ad 11), .int a1] (wC ad s_bk s_ln s_kd s_vl s_ct k_ce k_bc m_ra m_up m_on m_lo m_hi m_mo m_ma m_li n_rg n_sb n_st n_pl n_z n_n n_h n_c n_en n_so n_co n_sc l_bk l_of l_en l_ct t_bk t_of t_en t_ct) (qi_ D (fun (r : Int32) (_ : Unit) => P r ) (fun _ => (wC ad s_bk s_ln s_kd s_vl s_ct k_ce k_bc m_ra m_up m_on m_lo m_hi m_mo m_ma m_li n_rg n_sb n_st n_pl n_z n_n n_h n_c n_en n_so n_co n_sc l_bk l_of l_en l_ct t_bk t_of t_en t_ct))) := by
  refine ct_of RN (by decide) rfl (Nat.le_of_ble_eq_true rfl) (fun G hl hD X hq => ?_)
  subst hl hD
  show go_ G 0 0 (wC ad s_bk s_ln s_kd s_vl s_ct k_ce k_bc m_ra m_up m_on m_lo m_hi m_mo m_ma m_li n_rg n_sb n_st n_pl n_z n_n n_h n_c n_en n_so n_co n_sc l_bk l_of l_en l_ct t_bk t_of t_en t_ct) 0 [(0, .ref (ad 11)), (1, .int a1)] []
  refine go_iload_n X 1 dN_get_0 rfl rfl ?_
  refine go_bipush X dN_get_1 kc_b6 ?_
  refine go_icmp_ne X dN_get_3 rfl (fun hc => ?_) (fun hc => ?_)
  · have hw := hw.1 hc
    refine go_aload_n X 0 dN_get_22 rfl rfl ?_
    refine gt_N_9 X dN_get_23 ?_
    refine go_iload_n X 1 dN_get_26 rfl rfl ?_
    have hz := hw.1
    have hw := hw.2
    refine ar_n_rg X hz dN_get_27 ?_
    exact go_ireturn X hq dN_get_28 () hw rfl
  · have hw := hw.2 hc
    refine go_aload_n X 0 dN_get_6 rfl rfl ?_
    refine gt_N_18 X dN_get_7 ?_
    refine go_aload_n X 0 dN_get_10 rfl rfl ?_
    refine gt_N_9 X dN_get_11 ?_
    refine go_iconst X dN_get_14 kc_i5 ?_
    refine ar_n_rg X vi_5_8 dN_get_15 ?_
    refine k_M_read X hw mw_N_160 ⟨by decide, by decide⟩ (Nat.le_of_ble_eq_true rfl) ⟨Nat.zero_le _, Nat.zero_le _⟩ dN_get_16 (fun r1 hw => ?_)
    refine go_goto X dN_get_19 rfl ?_
    exact go_ireturn X hq dN_get_28 () hw rfl
theorem k_N_get {G : gt_} {ad : Nat → Nat} {cc : ByteArray} {own : String} {fr lo n cells slots pc index : Nat} {lc : List (Nat × Value)} {rest : List Value} {s_bk s_ln s_kd s_vl : Nat → Int32} {s_ct : Int32} {k_ce : Nat → Int32} {k_bc : Int32} {m_ra m_up : Nat → Int32} {m_on m_lo m_hi m_mo m_ma m_li : Int32} {n_rg n_sb : Nat → Int32} {n_st n_pl n_z n_n n_h n_c n_en n_so n_co n_sc : Int32} {l_bk l_of l_en : Nat → Int32} {l_ct : Int32} {t_bk t_of t_en : Nat → Int32} {t_ct : Int32} {a1 : Int32} {P : Int32 → Prop} (X : cx_ G ad cc own fr lo n) (hw : wp_N_get k_ce k_bc m_ra m_up m_on m_lo m_hi m_mo m_ma m_li n_rg a1 P) (m1 : Cond.methodLink own index yN_get ∈ wS) (hlv : 2 + 1 ≤ fr ∧ 8 + (2 + 11) + 43 ≤ lo) (hrs : (rest.map fun v => v.category).sum ≤ 8) (hcs : cells ≤ (gR_ G).cells ∧ slots ≤ (gR_ G).slots) (d : decode cc pc = .ok (.invokevirtual index, 3))
    (kk : ∀ (r : Int32), P r → go_ G cells slots (wC ad s_bk s_ln s_kd s_vl s_ct k_ce k_bc m_ra m_up m_on m_lo m_hi m_mo m_ma m_li n_rg n_sb n_st n_pl n_z n_n n_h n_c n_en n_so n_co n_sc l_bk l_of l_en l_ct t_bk t_of t_en t_ct) (pc + 3) lc (.int r :: rest)) : go_ G cells slots (wC ad s_bk s_ln s_kd s_vl s_ct k_ce k_bc m_ra m_up m_on m_lo m_hi m_mo m_ma m_li n_rg n_sb n_st n_pl n_z n_n n_h n_c n_en n_so n_co n_sc l_bk l_of l_en l_ct t_bk t_of t_en t_ct) pc lc (.int a1 :: .ref (ad 11) :: rest) :=
  go_cvi X (c_N_get hw) me_N_get m1 hlv 11 rfl rfl rfl hrs hcs d (fun r _ hp => kk r  hp)
set_option maxRecDepth 100000 in
set_option maxHeartbeats 4000000 in
theorem c_N_next {l : Launch} {D : va_G} {ad : Nat → Nat} {s_bk s_ln s_kd s_vl : Nat → Int32} {s_ct : Int32} {k_ce : Nat → Int32} {k_bc : Int32} {m_ra m_up : Nat → Int32} {m_on m_lo m_hi m_mo m_ma m_li : Int32} {n_rg n_sb : Nat → Int32} {n_st n_pl n_z n_n n_h n_c n_en n_so n_co n_sc : Int32} {l_bk l_of l_en : Nat → Int32} {l_ct : Int32} {t_bk t_of t_en : Nat → Int32} {t_ct : Int32}  {P : Int32 → (Int32) → Prop} (hw : wp_N_next k_ce k_bc m_ra m_up m_on m_lo m_hi m_mo m_ma m_li n_pl  P) : ct_ l yN_next bN_next 2 (some .int) 2 43 D ad [.ref (ad 11)] (wC ad s_bk s_ln s_kd s_vl s_ct k_ce k_bc m_ra m_up m_on m_lo m_hi m_mo m_ma m_li n_rg n_sb n_st n_pl n_z n_n n_h n_c n_en n_so n_co n_sc l_bk l_of l_en l_ct t_bk t_of t_en t_ct) (qi_ D (fun (r : Int32) (u : (Int32)) => P r u) (fun u => wC ad s_bk s_ln s_kd s_vl s_ct k_ce k_bc m_ra m_up m_on m_lo m_hi m_mo m_ma m_li n_rg n_sb n_st u n_z n_n n_h n_c n_en n_so n_co n_sc l_bk l_of l_en l_ct t_bk t_of t_en t_ct)) := by
  refine ct_of RN (by decide) rfl (Nat.le_of_ble_eq_true rfl) (fun G hl hD X hq => ?_)
  subst hl hD
  show go_ G 0 0 (wC ad s_bk s_ln s_kd s_vl s_ct k_ce k_bc m_ra m_up m_on m_lo m_hi m_mo m_ma m_li n_rg n_sb n_st n_pl n_z n_n n_h n_c n_en n_so n_co n_sc l_bk l_of l_en l_ct t_bk t_of t_en t_ct) 0 [(0, .ref (ad 11))] []
  refine go_aload_n X 0 dN_next_0 rfl rfl ?_
  refine gt_N_18 X dN_next_1 ?_
  refine go_aload_n X 0 dN_next_4 rfl rfl ?_
  refine gt_N_29 X dN_next_5 ?_
  refine k_M_read X hw mw_N_160 ⟨by decide, by decide⟩ (Nat.le_of_ble_eq_true rfl) ⟨Nat.zero_le _, Nat.zero_le _⟩ dN_next_8 (fun r1 hw => ?_)
  refine go_istore_n X dN_next_11 rfl (by decide) rfl ?_
  refine go_aload_n X 1 dN_next_12 rfl rfl ?_
  refine go_aload_n X 1 dN_next_13 rfl rfl ?_
  refine gt_N_29 X dN_next_14 ?_
  refine go_iconst X dN_next_17 kc_i1 ?_
  refine go_iadd X dN_next_18 ?_
  refine go_sipush X dN_next_19 kc_s255 ?_
  refine go_iand X dN_next_22 ?_
  refine pt_N_29 X dN_next_23 ?_
  refine go_iload_n X 0 dN_next_26 rfl rfl ?_
  exact go_ireturn X hq dN_next_27 ((n_pl + (1 : Int32)) &&& (255 : Int32)) hw rfl
theorem k_N_next {G : gt_} {ad : Nat → Nat} {cc : ByteArray} {own : String} {fr lo n cells slots pc index : Nat} {lc : List (Nat × Value)} {rest : List Value} {s_bk s_ln s_kd s_vl : Nat → Int32} {s_ct : Int32} {k_ce : Nat → Int32} {k_bc : Int32} {m_ra m_up : Nat → Int32} {m_on m_lo m_hi m_mo m_ma m_li : Int32} {n_rg n_sb : Nat → Int32} {n_st n_pl n_z n_n n_h n_c n_en n_so n_co n_sc : Int32} {l_bk l_of l_en : Nat → Int32} {l_ct : Int32} {t_bk t_of t_en : Nat → Int32} {t_ct : Int32}  {P : Int32 → (Int32) → Prop} (X : cx_ G ad cc own fr lo n) (hw : wp_N_next k_ce k_bc m_ra m_up m_on m_lo m_hi m_mo m_ma m_li n_pl  P) (m1 : Cond.methodLink own index yN_next ∈ wS) (hlv : 2 + 1 ≤ fr ∧ 8 + (2 + 11) + 43 ≤ lo) (hrs : (rest.map fun v => v.category).sum ≤ 8) (hcs : cells ≤ (gR_ G).cells ∧ slots ≤ (gR_ G).slots) (d : decode cc pc = .ok (.invokevirtual index, 3))
    (kk : ∀ (r n_pl' : Int32), P r n_pl' → go_ G cells slots (wC ad s_bk s_ln s_kd s_vl s_ct k_ce k_bc m_ra m_up m_on m_lo m_hi m_mo m_ma m_li n_rg n_sb n_st n_pl' n_z n_n n_h n_c n_en n_so n_co n_sc l_bk l_of l_en l_ct t_bk t_of t_en t_ct) (pc + 3) lc (.int r :: rest)) : go_ G cells slots (wC ad s_bk s_ln s_kd s_vl s_ct k_ce k_bc m_ra m_up m_on m_lo m_hi m_mo m_ma m_li n_rg n_sb n_st n_pl n_z n_n n_h n_c n_en n_so n_co n_sc l_bk l_of l_en l_ct t_bk t_of t_en t_ct) pc lc (.ref (ad 11) :: rest) :=
  go_cvi X (c_N_next hw) me_N_next m1 hlv 11 rfl rfl rfl hrs hcs d (fun r u hp => kk r u hp)
set_option maxRecDepth 100000 in
set_option maxHeartbeats 4000000 in
theorem c_N_pull {l : Launch} {D : va_G} {ad : Nat → Nat} {s_bk s_ln s_kd s_vl : Nat → Int32} {s_ct : Int32} {k_ce : Nat → Int32} {k_bc : Int32} {m_ra m_up : Nat → Int32} {m_on m_lo m_hi m_mo m_ma m_li : Int32} {n_rg n_sb : Nat → Int32} {n_st n_pl n_z n_n n_h n_c n_en n_so n_co n_sc : Int32} {l_bk l_of l_en : Nat → Int32} {l_ct : Int32} {t_bk t_of t_en : Nat → Int32} {t_ct : Int32}  {P : Int32 → (Int32) → Prop} (hw : wp_N_pull k_ce k_bc m_ra m_up m_on m_lo m_hi m_mo m_ma m_li n_st  P) : ct_ l yN_pull bN_pull 2 (some .int) 2 43 D ad [.ref (ad 11)] (wC ad s_bk s_ln s_kd s_vl s_ct k_ce k_bc m_ra m_up m_on m_lo m_hi m_mo m_ma m_li n_rg n_sb n_st n_pl n_z n_n n_h n_c n_en n_so n_co n_sc l_bk l_of l_en l_ct t_bk t_of t_en t_ct) (qi_ D (fun (r : Int32) (u : (Int32)) => P r u) (fun u => wC ad s_bk s_ln s_kd s_vl s_ct k_ce k_bc m_ra m_up m_on m_lo m_hi m_mo m_ma m_li n_rg n_sb u n_pl n_z n_n n_h n_c n_en n_so n_co n_sc l_bk l_of l_en l_ct t_bk t_of t_en t_ct)) := by
  refine ct_of RN (by decide) rfl (Nat.le_of_ble_eq_true rfl) (fun G hl hD X hq => ?_)
  subst hl hD
  show go_ G 0 0 (wC ad s_bk s_ln s_kd s_vl s_ct k_ce k_bc m_ra m_up m_on m_lo m_hi m_mo m_ma m_li n_rg n_sb n_st n_pl n_z n_n n_h n_c n_en n_so n_co n_sc l_bk l_of l_en l_ct t_bk t_of t_en t_ct) 0 [(0, .ref (ad 11))] []
  refine go_aload_n X 0 dN_pull_0 rfl rfl ?_
  refine gt_N_18 X dN_pull_1 ?_
  refine go_aload_n X 0 dN_pull_4 rfl rfl ?_
  refine gt_N_25 X dN_pull_5 ?_
  refine k_M_read X hw mw_N_160 ⟨by decide, by decide⟩ (Nat.le_of_ble_eq_true rfl) ⟨Nat.zero_le _, Nat.zero_le _⟩ dN_pull_8 (fun r1 hw => ?_)
  refine go_istore_n X dN_pull_11 rfl (by decide) rfl ?_
  refine go_aload_n X 1 dN_pull_12 rfl rfl ?_
  refine go_aload_n X 1 dN_pull_13 rfl rfl ?_
  refine gt_N_25 X dN_pull_14 ?_
  refine go_iconst X dN_pull_17 kc_i1 ?_
  refine go_iadd X dN_pull_18 ?_
  refine go_sipush X dN_pull_19 kc_s255 ?_
  refine go_iand X dN_pull_22 ?_
  refine pt_N_25 X dN_pull_23 ?_
  refine go_iload_n X 0 dN_pull_26 rfl rfl ?_
  exact go_ireturn X hq dN_pull_27 ((n_st + (1 : Int32)) &&& (255 : Int32)) hw rfl
theorem k_N_pull {G : gt_} {ad : Nat → Nat} {cc : ByteArray} {own : String} {fr lo n cells slots pc index : Nat} {lc : List (Nat × Value)} {rest : List Value} {s_bk s_ln s_kd s_vl : Nat → Int32} {s_ct : Int32} {k_ce : Nat → Int32} {k_bc : Int32} {m_ra m_up : Nat → Int32} {m_on m_lo m_hi m_mo m_ma m_li : Int32} {n_rg n_sb : Nat → Int32} {n_st n_pl n_z n_n n_h n_c n_en n_so n_co n_sc : Int32} {l_bk l_of l_en : Nat → Int32} {l_ct : Int32} {t_bk t_of t_en : Nat → Int32} {t_ct : Int32}  {P : Int32 → (Int32) → Prop} (X : cx_ G ad cc own fr lo n) (hw : wp_N_pull k_ce k_bc m_ra m_up m_on m_lo m_hi m_mo m_ma m_li n_st  P) (m1 : Cond.methodLink own index yN_pull ∈ wS) (hlv : 2 + 1 ≤ fr ∧ 8 + (2 + 11) + 43 ≤ lo) (hrs : (rest.map fun v => v.category).sum ≤ 8) (hcs : cells ≤ (gR_ G).cells ∧ slots ≤ (gR_ G).slots) (d : decode cc pc = .ok (.invokevirtual index, 3))
    (kk : ∀ (r n_st' : Int32), P r n_st' → go_ G cells slots (wC ad s_bk s_ln s_kd s_vl s_ct k_ce k_bc m_ra m_up m_on m_lo m_hi m_mo m_ma m_li n_rg n_sb n_st' n_pl n_z n_n n_h n_c n_en n_so n_co n_sc l_bk l_of l_en l_ct t_bk t_of t_en t_ct) (pc + 3) lc (.int r :: rest)) : go_ G cells slots (wC ad s_bk s_ln s_kd s_vl s_ct k_ce k_bc m_ra m_up m_on m_lo m_hi m_mo m_ma m_li n_rg n_sb n_st n_pl n_z n_n n_h n_c n_en n_so n_co n_sc l_bk l_of l_en l_ct t_bk t_of t_en t_ct) pc lc (.ref (ad 11) :: rest) :=
  go_cvi X (c_N_pull hw) me_N_pull m1 hlv 11 rfl rfl rfl hrs hcs d (fun r u hp => kk r u hp)
set_option maxRecDepth 100000 in
set_option maxHeartbeats 4000000 in
theorem c_N_push {l : Launch} {D : va_G} {ad : Nat → Nat} {s_bk s_ln s_kd s_vl : Nat → Int32} {s_ct : Int32} {k_ce : Nat → Int32} {k_bc : Int32} {m_ra m_up : Nat → Int32} {m_on m_lo m_hi m_mo m_ma m_li : Int32} {n_rg n_sb : Nat → Int32} {n_st n_pl n_z n_n n_h n_c n_en n_so n_co n_sc : Int32} {l_bk l_of l_en : Nat → Int32} {l_ct : Int32} {t_bk t_of t_en : Nat → Int32} {t_ct : Int32} {a1 : Int32} {P : (Nat → Int32) → (Nat → Int32) → (Int32) → (Int32) → (Int32) → (Int32) → (Int32) → (Int32) → (Int32) → Prop} (hw : wp_N_push m_ra m_up m_on m_lo m_hi m_mo m_ma m_li n_st a1 P) : ct_ l yN_push bN_push 2 none 2 44 D ad [.ref (ad 11), .int a1] (wC ad s_bk s_ln s_kd s_vl s_ct k_ce k_bc m_ra m_up m_on m_lo m_hi m_mo m_ma m_li n_rg n_sb n_st n_pl n_z n_n n_h n_c n_en n_so n_co n_sc l_bk l_of l_en l_ct t_bk t_of t_en t_ct) (qv_ D (fun (u : (Nat → Int32) × (Nat → Int32) × (Int32) × (Int32) × (Int32) × (Int32) × (Int32) × (Int32) × (Int32)) => P u.1 u.2.1 u.2.2.1 u.2.2.2.1 u.2.2.2.2.1 u.2.2.2.2.2.1 u.2.2.2.2.2.2.1 u.2.2.2.2.2.2.2.1 u.2.2.2.2.2.2.2.2) (fun u => wC ad s_bk s_ln s_kd s_vl s_ct k_ce k_bc u.1 u.2.1 u.2.2.1 u.2.2.2.1 u.2.2.2.2.1 u.2.2.2.2.2.1 u.2.2.2.2.2.2.1 u.2.2.2.2.2.2.2.1 n_rg n_sb u.2.2.2.2.2.2.2.2 n_pl n_z n_n n_h n_c n_en n_so n_co n_sc l_bk l_of l_en l_ct t_bk t_of t_en t_ct)) := by
  refine ct_of RN (by decide) rfl (Nat.le_of_ble_eq_true rfl) (fun G hl hD X hq => ?_)
  subst hl hD
  show go_ G 0 0 (wC ad s_bk s_ln s_kd s_vl s_ct k_ce k_bc m_ra m_up m_on m_lo m_hi m_mo m_ma m_li n_rg n_sb n_st n_pl n_z n_n n_h n_c n_en n_so n_co n_sc l_bk l_of l_en l_ct t_bk t_of t_en t_ct) 0 [(0, .ref (ad 11)), (1, .int a1)] []
  refine go_aload_n X 0 dN_push_0 rfl rfl ?_
  refine go_aload_n X 0 dN_push_1 rfl rfl ?_
  refine gt_N_25 X dN_push_2 ?_
  refine go_iconst X dN_push_5 kc_i1 ?_
  refine go_isub X dN_push_6 ?_
  refine go_sipush X dN_push_7 kc_s255 ?_
  refine go_iand X dN_push_10 ?_
  refine pt_N_25 X dN_push_11 ?_
  refine go_aload_n X 0 dN_push_14 rfl rfl ?_
  refine gt_N_18 X dN_push_15 ?_
  refine go_aload_n X 0 dN_push_18 rfl rfl ?_
  refine gt_N_25 X dN_push_19 ?_
  refine go_iload_n X 1 dN_push_22 rfl rfl ?_
  refine k_M_write X hw mw_N_163 ⟨by decide, by decide⟩ (Nat.le_of_ble_eq_true rfl) ⟨Nat.zero_le _, Nat.zero_le _⟩ dN_push_23 (fun w1 w2 w3 w4 w5 w6 w7 w8 hw => ?_)
  exact go_vreturn X hq dN_push_26 (w1, w2, w3, w4, w5, w6, w7, w8, (n_st - (1 : Int32)) &&& (255 : Int32)) hw rfl
theorem k_N_push {G : gt_} {ad : Nat → Nat} {cc : ByteArray} {own : String} {fr lo n cells slots pc index : Nat} {lc : List (Nat × Value)} {rest : List Value} {s_bk s_ln s_kd s_vl : Nat → Int32} {s_ct : Int32} {k_ce : Nat → Int32} {k_bc : Int32} {m_ra m_up : Nat → Int32} {m_on m_lo m_hi m_mo m_ma m_li : Int32} {n_rg n_sb : Nat → Int32} {n_st n_pl n_z n_n n_h n_c n_en n_so n_co n_sc : Int32} {l_bk l_of l_en : Nat → Int32} {l_ct : Int32} {t_bk t_of t_en : Nat → Int32} {t_ct : Int32} {a1 : Int32} {P : (Nat → Int32) → (Nat → Int32) → (Int32) → (Int32) → (Int32) → (Int32) → (Int32) → (Int32) → (Int32) → Prop} (X : cx_ G ad cc own fr lo n) (hw : wp_N_push m_ra m_up m_on m_lo m_hi m_mo m_ma m_li n_st a1 P) (m1 : Cond.methodLink own index yN_push ∈ wS) (hlv : 2 + 1 ≤ fr ∧ 8 + (2 + 11) + 44 ≤ lo) (hrs : (rest.map fun v => v.category).sum ≤ 8) (hcs : cells ≤ (gR_ G).cells ∧ slots ≤ (gR_ G).slots) (d : decode cc pc = .ok (.invokevirtual index, 3))
    (kk : ∀ (m_ra' m_up' : Nat → Int32) (m_on' m_lo' m_hi' m_mo' m_ma' m_li' n_st' : Int32), P m_ra' m_up' m_on' m_lo' m_hi' m_mo' m_ma' m_li' n_st' → go_ G cells slots (wC ad s_bk s_ln s_kd s_vl s_ct k_ce k_bc m_ra' m_up' m_on' m_lo' m_hi' m_mo' m_ma' m_li' n_rg n_sb n_st' n_pl n_z n_n n_h n_c n_en n_so n_co n_sc l_bk l_of l_en l_ct t_bk t_of t_en t_ct) (pc + 3) lc (rest)) : go_ G cells slots (wC ad s_bk s_ln s_kd s_vl s_ct k_ce k_bc m_ra m_up m_on m_lo m_hi m_mo m_ma m_li n_rg n_sb n_st n_pl n_z n_n n_h n_c n_en n_so n_co n_sc l_bk l_of l_en l_ct t_bk t_of t_en t_ct) pc lc (.int a1 :: .ref (ad 11) :: rest) :=
  go_cvv X (c_N_push hw) me_N_push m1 hlv 11 rfl rfl rfl hrs hcs d (fun u hp => kk u.1 u.2.1 u.2.2.1 u.2.2.2.1 u.2.2.2.2.1 u.2.2.2.2.2.1 u.2.2.2.2.2.2.1 u.2.2.2.2.2.2.2.1 u.2.2.2.2.2.2.2.2 hp)
set_option maxRecDepth 100000 in
set_option maxHeartbeats 4000000 in
theorem c_N_set {l : Launch} {D : va_G} {ad : Nat → Nat} {s_bk s_ln s_kd s_vl : Nat → Int32} {s_ct : Int32} {k_ce : Nat → Int32} {k_bc : Int32} {m_ra m_up : Nat → Int32} {m_on m_lo m_hi m_mo m_ma m_li : Int32} {n_rg n_sb : Nat → Int32} {n_st n_pl n_z n_n n_h n_c n_en n_so n_co n_sc : Int32} {l_bk l_of l_en : Nat → Int32} {l_ct : Int32} {t_bk t_of t_en : Nat → Int32} {t_ct : Int32} {a1 a2 : Int32} {P : (Nat → Int32) → (Nat → Int32) → (Int32) → (Int32) → (Int32) → (Int32) → (Int32) → (Int32) → (Nat → Int32) → Prop} (hw : wp_N_set m_ra m_up m_on m_lo m_hi m_mo m_ma m_li n_rg a1 a2 P) : ct_ l yN_set bN_set 3 none 2 44 D ad [.ref (ad 11), .int a1, .int a2] (wC ad s_bk s_ln s_kd s_vl s_ct k_ce k_bc m_ra m_up m_on m_lo m_hi m_mo m_ma m_li n_rg n_sb n_st n_pl n_z n_n n_h n_c n_en n_so n_co n_sc l_bk l_of l_en l_ct t_bk t_of t_en t_ct) (qv_ D (fun (u : (Nat → Int32) × (Nat → Int32) × (Int32) × (Int32) × (Int32) × (Int32) × (Int32) × (Int32) × (Nat → Int32)) => P u.1 u.2.1 u.2.2.1 u.2.2.2.1 u.2.2.2.2.1 u.2.2.2.2.2.1 u.2.2.2.2.2.2.1 u.2.2.2.2.2.2.2.1 u.2.2.2.2.2.2.2.2) (fun u => wC ad s_bk s_ln s_kd s_vl s_ct k_ce k_bc u.1 u.2.1 u.2.2.1 u.2.2.2.1 u.2.2.2.2.1 u.2.2.2.2.2.1 u.2.2.2.2.2.2.1 u.2.2.2.2.2.2.2.1 u.2.2.2.2.2.2.2.2 n_sb n_st n_pl n_z n_n n_h n_c n_en n_so n_co n_sc l_bk l_of l_en l_ct t_bk t_of t_en t_ct)) := by
  refine ct_of RN (by decide) rfl (Nat.le_of_ble_eq_true rfl) (fun G hl hD X hq => ?_)
  subst hl hD
  show go_ G 0 0 (wC ad s_bk s_ln s_kd s_vl s_ct k_ce k_bc m_ra m_up m_on m_lo m_hi m_mo m_ma m_li n_rg n_sb n_st n_pl n_z n_n n_h n_c n_en n_so n_co n_sc l_bk l_of l_en l_ct t_bk t_of t_en t_ct) 0 [(0, .ref (ad 11)), (1, .int a1), (2, .int a2)] []
  refine go_iload_n X 1 dN_set_0 rfl rfl ?_
  refine go_bipush X dN_set_1 kc_b6 ?_
  refine go_icmp_ne X dN_set_3 rfl (fun hc => ?_) (fun hc => ?_)
  · have hw := hw.1 hc
    refine go_aload_n X 0 dN_set_23 rfl rfl ?_
    refine gt_N_9 X dN_set_24 ?_
    refine go_iload_n X 1 dN_set_27 rfl rfl ?_
    refine go_iload_n X 2 dN_set_28 rfl rfl ?_
    have hz := hw.1
    have hw := hw.2
    refine as_n_rg X hz dN_set_29 ?_
    exact go_vreturn X hq dN_set_30 (m_ra, m_up, m_on, m_lo, m_hi, m_mo, m_ma, m_li, upd n_rg a1.toNatClampNeg a2) hw rfl
  · have hw := hw.2 hc
    refine go_aload_n X 0 dN_set_6 rfl rfl ?_
    refine gt_N_18 X dN_set_7 ?_
    refine go_aload_n X 0 dN_set_10 rfl rfl ?_
    refine gt_N_9 X dN_set_11 ?_
    refine go_iconst X dN_set_14 kc_i5 ?_
    refine ar_n_rg X vi_5_8 dN_set_15 ?_
    refine go_iload_n X 2 dN_set_16 rfl rfl ?_
    refine k_M_write X hw mw_N_163 ⟨by decide, by decide⟩ (Nat.le_of_ble_eq_true rfl) ⟨Nat.zero_le _, Nat.zero_le _⟩ dN_set_17 (fun w1 w2 w3 w4 w5 w6 w7 w8 hw => ?_)
    refine go_goto X dN_set_20 rfl ?_
    exact go_vreturn X hq dN_set_30 (w1, w2, w3, w4, w5, w6, w7, w8, n_rg) hw rfl
theorem k_N_set {G : gt_} {ad : Nat → Nat} {cc : ByteArray} {own : String} {fr lo n cells slots pc index : Nat} {lc : List (Nat × Value)} {rest : List Value} {s_bk s_ln s_kd s_vl : Nat → Int32} {s_ct : Int32} {k_ce : Nat → Int32} {k_bc : Int32} {m_ra m_up : Nat → Int32} {m_on m_lo m_hi m_mo m_ma m_li : Int32} {n_rg n_sb : Nat → Int32} {n_st n_pl n_z n_n n_h n_c n_en n_so n_co n_sc : Int32} {l_bk l_of l_en : Nat → Int32} {l_ct : Int32} {t_bk t_of t_en : Nat → Int32} {t_ct : Int32} {a1 a2 : Int32} {P : (Nat → Int32) → (Nat → Int32) → (Int32) → (Int32) → (Int32) → (Int32) → (Int32) → (Int32) → (Nat → Int32) → Prop} (X : cx_ G ad cc own fr lo n) (hw : wp_N_set m_ra m_up m_on m_lo m_hi m_mo m_ma m_li n_rg a1 a2 P) (m1 : Cond.methodLink own index yN_set ∈ wS) (hlv : 2 + 1 ≤ fr ∧ 8 + (3 + 11) + 44 ≤ lo) (hrs : (rest.map fun v => v.category).sum ≤ 8) (hcs : cells ≤ (gR_ G).cells ∧ slots ≤ (gR_ G).slots) (d : decode cc pc = .ok (.invokevirtual index, 3))
    (kk : ∀ (m_ra' m_up' : Nat → Int32) (m_on' m_lo' m_hi' m_mo' m_ma' m_li' : Int32) (n_rg' : Nat → Int32), P m_ra' m_up' m_on' m_lo' m_hi' m_mo' m_ma' m_li' n_rg' → go_ G cells slots (wC ad s_bk s_ln s_kd s_vl s_ct k_ce k_bc m_ra' m_up' m_on' m_lo' m_hi' m_mo' m_ma' m_li' n_rg' n_sb n_st n_pl n_z n_n n_h n_c n_en n_so n_co n_sc l_bk l_of l_en l_ct t_bk t_of t_en t_ct) (pc + 3) lc (rest)) : go_ G cells slots (wC ad s_bk s_ln s_kd s_vl s_ct k_ce k_bc m_ra m_up m_on m_lo m_hi m_mo m_ma m_li n_rg n_sb n_st n_pl n_z n_n n_h n_c n_en n_so n_co n_sc l_bk l_of l_en l_ct t_bk t_of t_en t_ct) pc lc (.int a2 :: .int a1 :: .ref (ad 11) :: rest) :=
  go_cvv X (c_N_set hw) me_N_set m1 hlv 11 rfl rfl rfl hrs hcs d (fun u hp => kk u.1 u.2.1 u.2.2.1 u.2.2.2.1 u.2.2.2.2.1 u.2.2.2.2.2.1 u.2.2.2.2.2.2.1 u.2.2.2.2.2.2.2.1 u.2.2.2.2.2.2.2.2 hp)
set_option maxRecDepth 100000 in
set_option maxHeartbeats 4000000 in
theorem c_N_shifted {l : Launch} {D : va_G} {ad : Nat → Nat} {s_bk s_ln s_kd s_vl : Nat → Int32} {s_ct : Int32} {k_ce : Nat → Int32} {k_bc : Int32} {m_ra m_up : Nat → Int32} {m_on m_lo m_hi m_mo m_ma m_li : Int32} {n_rg n_sb : Nat → Int32} {n_st n_pl n_z n_n n_h n_c n_en n_so n_co n_sc : Int32} {l_bk l_of l_en : Nat → Int32} {l_ct : Int32} {t_bk t_of t_en : Nat → Int32} {t_ct : Int32} {a1 a2 : Int32} {P : Int32 → (Int32) → (Int32) → (Int32) → (Int32) → Prop} (hw : wp_N_shifted n_z n_n n_h n_c a1 a2 P) : ct_ l yN_shifted bN_shifted 7 (some .int) 2 43 D ad [.ref (ad 11), .int a1, .int a2] (wC ad s_bk s_ln s_kd s_vl s_ct k_ce k_bc m_ra m_up m_on m_lo m_hi m_mo m_ma m_li n_rg n_sb n_st n_pl n_z n_n n_h n_c n_en n_so n_co n_sc l_bk l_of l_en l_ct t_bk t_of t_en t_ct) (qi_ D (fun (r : Int32) (u : (Int32) × (Int32) × (Int32) × (Int32)) => P r u.1 u.2.1 u.2.2.1 u.2.2.2) (fun u => wC ad s_bk s_ln s_kd s_vl s_ct k_ce k_bc m_ra m_up m_on m_lo m_hi m_mo m_ma m_li n_rg n_sb n_st n_pl u.1 u.2.1 u.2.2.1 u.2.2.2 n_en n_so n_co n_sc l_bk l_of l_en l_ct t_bk t_of t_en t_ct)) := by
  refine ct_of RN (by decide) rfl (Nat.le_of_ble_eq_true rfl) (fun G hl hD X hq => ?_)
  subst hl hD
  show go_ G 0 0 (wC ad s_bk s_ln s_kd s_vl s_ct k_ce k_bc m_ra m_up m_on m_lo m_hi m_mo m_ma m_li n_rg n_sb n_st n_pl n_z n_n n_h n_c n_en n_so n_co n_sc l_bk l_of l_en l_ct t_bk t_of t_en t_ct) 0 [(0, .ref (ad 11)), (1, .int a1), (2, .int a2)] []
  have C85 : ∀ (n_z n_n n_h n_c x4 x6 y0 : Int32), wp_N_shifted_85 P n_z n_n n_h n_c x4 x6 y0 → go_ G 0 0 (wC ad s_bk s_ln s_kd s_vl s_ct k_ce k_bc m_ra m_up m_on m_lo m_hi m_mo m_ma m_li n_rg n_sb n_st n_pl n_z n_n n_h n_c n_en n_so n_co n_sc l_bk l_of l_en l_ct t_bk t_of t_en t_ct) 85 [(4, .int x4), (6, .int x6)] [.int y0, .ref (ad 11)] := by
    intro n_z n_n n_h n_c x4 x6 y0 hw
    refine go_iconst X dN_shifted_85 kc_i0 ?_
    refine go_iconst X dN_shifted_86 kc_i0 ?_
    refine go_iload X 0 dN_shifted_87 rfl ?_
    refine go_iconst X dN_shifted_89 kc_i1 ?_
    refine go_icmp_ne X dN_shifted_90 rfl (fun hc => ?_) (fun hc => ?_)
    · have hw := hw.1 hc
      refine go_iconst X dN_shifted_97 kc_i0 ?_
      refine k_N_setFlags X hw mw_N_32 ⟨by decide, by decide⟩ (Nat.le_of_ble_eq_true rfl) ⟨Nat.zero_le _, Nat.zero_le _⟩ dN_shifted_98 (fun w4 w5 w6 w7 hw => ?_)
      refine go_iload X 1 dN_shifted_101 rfl ?_
      exact go_ireturn X hq dN_shifted_103 (w4, w5, w6, w7) hw rfl
    · have hw := hw.2 hc
      refine go_iconst X dN_shifted_93 kc_i1 ?_
      refine go_goto X dN_shifted_94 rfl ?_
      refine k_N_setFlags X hw mw_N_32 ⟨by decide, by decide⟩ (Nat.le_of_ble_eq_true rfl) ⟨Nat.zero_le _, Nat.zero_le _⟩ dN_shifted_98 (fun w8 w9 w10 w11 hw => ?_)
      refine go_iload X 1 dN_shifted_101 rfl ?_
      exact go_ireturn X hq dN_shifted_103 (w8, w9, w10, w11) hw rfl
  have C34 : ∀ (n_z n_n n_h n_c x1 x2 x3 y0 : Int32), wp_N_shifted_34 P n_z n_n n_h n_c x1 x2 x3 y0 → go_ G 0 0 (wC ad s_bk s_ln s_kd s_vl s_ct k_ce k_bc m_ra m_up m_on m_lo m_hi m_mo m_ma m_li n_rg n_sb n_st n_pl n_z n_n n_h n_c n_en n_so n_co n_sc l_bk l_of l_en l_ct t_bk t_of t_en t_ct) 34 [(0, .ref (ad 11)), (1, .int x1), (2, .int x2), (3, .int x3)] [.int y0] := by
    intro n_z n_n n_h n_c x1 x2 x3 y0 hw
    refine go_istore X dN_shifted_34 (by decide) rfl ?_
    refine go_aload_n X 1 dN_shifted_36 rfl rfl ?_
    refine go_iload_n X 2 dN_shifted_37 rfl rfl ?_
    refine go_iload_n X 3 dN_shifted_38 rfl rfl ?_
    refine go_iload X 0 dN_shifted_39 rfl ?_
    refine k_N_comesIn X hw mw_N_156 ⟨by decide, by decide⟩ (Nat.le_of_ble_eq_true rfl) ⟨Nat.zero_le _, Nat.zero_le _⟩ dN_shifted_41 (fun r1 hw => ?_)
    refine go_istore X dN_shifted_44 (by decide) rfl ?_
    refine go_iload_n X 5 dN_shifted_46 rfl rfl ?_
    refine go_if_eq X dN_shifted_47 rfl (fun hc => ?_) (fun hc => ?_)
    · have hw := hw.1 hc
      refine go_iload_n X 4 dN_shifted_63 rfl rfl ?_
      refine go_iconst X dN_shifted_64 kc_i1 ?_
      refine go_ishr X dN_shifted_65 ?_
      refine go_iload X 0 dN_shifted_66 rfl ?_
      refine go_bipush X dN_shifted_68 kc_b7 ?_
      refine go_ishl X dN_shifted_70 ?_
      refine go_ior X dN_shifted_71 ?_
      refine go_nm (fun z2 ez2 => ?_)
      have hw := hw z2 ez2
      refine go_istore X dN_shifted_72 (by decide) rfl ?_
      refine go_aload_n X 3 dN_shifted_74 rfl rfl ?_
      refine go_iload X 0 dN_shifted_75 rfl ?_
      refine go_if_ne X dN_shifted_77 rfl (fun hc => ?_) (fun hc => ?_)
      · have hw := hw.1 hc
        refine go_iconst X dN_shifted_84 kc_i0 ?_
        refine go_lc [2, 0] rfl ?_
        exact C85 _ _ _ _ _ _ _ hw
      · have hw := hw.2 hc
        refine go_iconst X dN_shifted_80 kc_i1 ?_
        refine go_goto X dN_shifted_81 rfl ?_
        refine go_lc [2, 0] rfl ?_
        exact C85 _ _ _ _ _ _ _ hw
    · have hw := hw.2 hc
      refine go_iload_n X 4 dN_shifted_50 rfl rfl ?_
      refine go_iconst X dN_shifted_51 kc_i1 ?_
      refine go_ishl X dN_shifted_52 ?_
      refine go_sipush X dN_shifted_53 kc_s255 ?_
      refine go_iand X dN_shifted_56 ?_
      refine go_iload X 0 dN_shifted_57 rfl ?_
      refine go_ior X dN_shifted_59 ?_
      refine go_goto X dN_shifted_60 rfl ?_
      refine go_nm (fun z3 ez3 => ?_)
      have hw := hw z3 ez3
      refine go_istore X dN_shifted_72 (by decide) rfl ?_
      refine go_aload_n X 3 dN_shifted_74 rfl rfl ?_
      refine go_iload X 0 dN_shifted_75 rfl ?_
      refine go_if_ne X dN_shifted_77 rfl (fun hc => ?_) (fun hc => ?_)
      · have hw := hw.1 hc
        refine go_iconst X dN_shifted_84 kc_i0 ?_
        refine go_lc [2, 0] rfl ?_
        exact C85 _ _ _ _ _ _ _ hw
      · have hw := hw.2 hc
        refine go_iconst X dN_shifted_80 kc_i1 ?_
        refine go_goto X dN_shifted_81 rfl ?_
        refine go_lc [2, 0] rfl ?_
        exact C85 _ _ _ _ _ _ _ hw
  refine go_iload_n X 1 dN_shifted_0 rfl rfl ?_
  refine go_if_eq X dN_shifted_1 rfl (fun hc => ?_) (fun hc => ?_)
  · have hw := hw.1 hc
    refine go_iconst X dN_shifted_14 kc_i1 ?_
    refine go_goto X dN_shifted_15 rfl ?_
    refine go_istore_n X dN_shifted_19 rfl (by decide) rfl ?_
    refine go_iload_n X 0 dN_shifted_20 rfl rfl ?_
    refine go_if_eq X dN_shifted_21 rfl (fun h9 => absurd h9 (by decide)) (fun _ => ?_)
    refine go_iload_n X 3 dN_shifted_24 rfl rfl ?_
    refine go_bipush X dN_shifted_25 kc_b7 ?_
    refine go_ishr X dN_shifted_27 ?_
    refine go_goto X dN_shifted_28 rfl ?_
    refine go_lc [1, 2, 3, 0] rfl ?_
    exact C34 _ _ _ _ _ _ _ _ hw
  · have hw := hw.2 hc
    refine go_iload_n X 1 dN_shifted_4 rfl rfl ?_
    refine go_iconst X dN_shifted_5 kc_i2 ?_
    refine go_icmp_eq X dN_shifted_6 rfl (fun hc => ?_) (fun hc => ?_)
    · have hw := hw.1 hc
      refine go_iconst X dN_shifted_14 kc_i1 ?_
      refine go_goto X dN_shifted_15 rfl ?_
      refine go_istore_n X dN_shifted_19 rfl (by decide) rfl ?_
      refine go_iload_n X 0 dN_shifted_20 rfl rfl ?_
      refine go_if_eq X dN_shifted_21 rfl (fun h9 => absurd h9 (by decide)) (fun _ => ?_)
      refine go_iload_n X 3 dN_shifted_24 rfl rfl ?_
      refine go_bipush X dN_shifted_25 kc_b7 ?_
      refine go_ishr X dN_shifted_27 ?_
      refine go_goto X dN_shifted_28 rfl ?_
      refine go_lc [1, 2, 3, 0] rfl ?_
      exact C34 _ _ _ _ _ _ _ _ hw
    · have hw := hw.2 hc
      refine go_iload_n X 1 dN_shifted_9 rfl rfl ?_
      refine go_iconst X dN_shifted_10 kc_i4 ?_
      refine go_icmp_ne X dN_shifted_11 rfl (fun hc => ?_) (fun hc => ?_)
      · have hw := hw.1 hc
        refine go_iconst X dN_shifted_18 kc_i0 ?_
        refine go_istore_n X dN_shifted_19 rfl (by decide) rfl ?_
        refine go_iload_n X 0 dN_shifted_20 rfl rfl ?_
        refine go_if_eq X dN_shifted_21 rfl (fun _ => ?_) (fun h9 => absurd h9 (by decide))
        refine go_iload_n X 3 dN_shifted_31 rfl rfl ?_
        refine go_iconst X dN_shifted_32 kc_i1 ?_
        refine go_iand X dN_shifted_33 ?_
        refine go_lc [1, 2, 3, 0] rfl ?_
        exact C34 _ _ _ _ _ _ _ _ hw
      · have hw := hw.2 hc
        refine go_iconst X dN_shifted_14 kc_i1 ?_
        refine go_goto X dN_shifted_15 rfl ?_
        refine go_istore_n X dN_shifted_19 rfl (by decide) rfl ?_
        refine go_iload_n X 0 dN_shifted_20 rfl rfl ?_
        refine go_if_eq X dN_shifted_21 rfl (fun h9 => absurd h9 (by decide)) (fun _ => ?_)
        refine go_iload_n X 3 dN_shifted_24 rfl rfl ?_
        refine go_bipush X dN_shifted_25 kc_b7 ?_
        refine go_ishr X dN_shifted_27 ?_
        refine go_goto X dN_shifted_28 rfl ?_
        refine go_lc [1, 2, 3, 0] rfl ?_
        exact C34 _ _ _ _ _ _ _ _ hw
theorem k_N_shifted {G : gt_} {ad : Nat → Nat} {cc : ByteArray} {own : String} {fr lo n cells slots pc index : Nat} {lc : List (Nat × Value)} {rest : List Value} {s_bk s_ln s_kd s_vl : Nat → Int32} {s_ct : Int32} {k_ce : Nat → Int32} {k_bc : Int32} {m_ra m_up : Nat → Int32} {m_on m_lo m_hi m_mo m_ma m_li : Int32} {n_rg n_sb : Nat → Int32} {n_st n_pl n_z n_n n_h n_c n_en n_so n_co n_sc : Int32} {l_bk l_of l_en : Nat → Int32} {l_ct : Int32} {t_bk t_of t_en : Nat → Int32} {t_ct : Int32} {a1 a2 : Int32} {P : Int32 → (Int32) → (Int32) → (Int32) → (Int32) → Prop} (X : cx_ G ad cc own fr lo n) (hw : wp_N_shifted n_z n_n n_h n_c a1 a2 P) (m1 : Cond.methodLink own index yN_shifted ∈ wS) (hlv : 2 + 1 ≤ fr ∧ 8 + (7 + 11) + 43 ≤ lo) (hrs : (rest.map fun v => v.category).sum ≤ 8) (hcs : cells ≤ (gR_ G).cells ∧ slots ≤ (gR_ G).slots) (d : decode cc pc = .ok (.invokevirtual index, 3))
    (kk : ∀ (r n_z' n_n' n_h' n_c' : Int32), P r n_z' n_n' n_h' n_c' → go_ G cells slots (wC ad s_bk s_ln s_kd s_vl s_ct k_ce k_bc m_ra m_up m_on m_lo m_hi m_mo m_ma m_li n_rg n_sb n_st n_pl n_z' n_n' n_h' n_c' n_en n_so n_co n_sc l_bk l_of l_en l_ct t_bk t_of t_en t_ct) (pc + 3) lc (.int r :: rest)) : go_ G cells slots (wC ad s_bk s_ln s_kd s_vl s_ct k_ce k_bc m_ra m_up m_on m_lo m_hi m_mo m_ma m_li n_rg n_sb n_st n_pl n_z n_n n_h n_c n_en n_so n_co n_sc l_bk l_of l_en l_ct t_bk t_of t_en t_ct) pc lc (.int a2 :: .int a1 :: .ref (ad 11) :: rest) :=
  go_cvi X (c_N_shifted hw) me_N_shifted m1 hlv 11 rfl rfl rfl hrs hcs d (fun r u hp => kk r u.1 u.2.1 u.2.2.1 u.2.2.2 hp)
set_option maxRecDepth 100000 in
set_option maxHeartbeats 4000000 in
theorem c_N_interruptFor {l : Launch} {D : va_G} {ad : Nat → Nat} {s_bk s_ln s_kd s_vl : Nat → Int32} {s_ct : Int32} {k_ce : Nat → Int32} {k_bc : Int32} {m_ra m_up : Nat → Int32} {m_on m_lo m_hi m_mo m_ma m_li : Int32} {n_rg n_sb : Nat → Int32} {n_st n_pl n_z n_n n_h n_c n_en n_so n_co n_sc : Int32} {l_bk l_of l_en : Nat → Int32} {l_ct : Int32} {t_bk t_of t_en : Nat → Int32} {t_ct : Int32} {a1 : Int32} {P : (Nat → Int32) → (Nat → Int32) → (Int32) → (Int32) → (Int32) → (Int32) → (Int32) → (Int32) → (Int32) → (Int32) → (Int32) → Prop} (hw : wp_N_interruptFor m_ra m_up m_on m_lo m_hi m_mo m_ma m_li n_st n_pl n_en a1 P) : ct_ l yN_interruptFor bN_interruptFor 2 none 3 65 D ad [.ref (ad 11), .int a1] (wC ad s_bk s_ln s_kd s_vl s_ct k_ce k_bc m_ra m_up m_on m_lo m_hi m_mo m_ma m_li n_rg n_sb n_st n_pl n_z n_n n_h n_c n_en n_so n_co n_sc l_bk l_of l_en l_ct t_bk t_of t_en t_ct) (qv_ D (fun (u : (Nat → Int32) × (Nat → Int32) × (Int32) × (Int32) × (Int32) × (Int32) × (Int32) × (Int32) × (Int32) × (Int32) × (Int32)) => P u.1 u.2.1 u.2.2.1 u.2.2.2.1 u.2.2.2.2.1 u.2.2.2.2.2.1 u.2.2.2.2.2.2.1 u.2.2.2.2.2.2.2.1 u.2.2.2.2.2.2.2.2.1 u.2.2.2.2.2.2.2.2.2.1 u.2.2.2.2.2.2.2.2.2.2) (fun u => wC ad s_bk s_ln s_kd s_vl s_ct k_ce k_bc u.1 u.2.1 u.2.2.1 u.2.2.2.1 u.2.2.2.2.1 u.2.2.2.2.2.1 u.2.2.2.2.2.2.1 u.2.2.2.2.2.2.2.1 n_rg n_sb u.2.2.2.2.2.2.2.2.1 u.2.2.2.2.2.2.2.2.2.1 n_z n_n n_h n_c u.2.2.2.2.2.2.2.2.2.2 n_so n_co n_sc l_bk l_of l_en l_ct t_bk t_of t_en t_ct)) := by
  refine ct_of RN (by decide) rfl (Nat.le_of_ble_eq_true rfl) (fun G hl hD X hq => ?_)
  subst hl hD
  show go_ G 0 0 (wC ad s_bk s_ln s_kd s_vl s_ct k_ce k_bc m_ra m_up m_on m_lo m_hi m_mo m_ma m_li n_rg n_sb n_st n_pl n_z n_n n_h n_c n_en n_so n_co n_sc l_bk l_of l_en l_ct t_bk t_of t_en t_ct) 0 [(0, .ref (ad 11)), (1, .int a1)] []
  refine go_aload_n X 0 dN_interruptFor_0 rfl rfl ?_
  refine gt_N_18 X dN_interruptFor_1 ?_
  refine go_dup X dN_interruptFor_4 rfl ?_
  refine gt_N_94 X dN_interruptFor_5 ?_
  refine go_iconst X dN_interruptFor_8 kc_i1 ?_
  refine go_iload_n X 1 dN_interruptFor_9 rfl rfl ?_
  refine go_ishl X dN_interruptFor_10 ?_
  refine go_iconst X dN_interruptFor_11 kc_im1 ?_
  refine go_ixor X dN_interruptFor_12 ?_
  refine go_iand X dN_interruptFor_13 ?_
  refine pt_N_94 X dN_interruptFor_14 ?_
  refine go_aload_n X 0 dN_interruptFor_17 rfl rfl ?_
  refine go_iconst X dN_interruptFor_18 kc_i0 ?_
  refine pt_N_36 X (Or.inl rfl) dN_interruptFor_19 ?_
  refine go_aload_n X 0 dN_interruptFor_22 rfl rfl ?_
  refine go_aload_n X 0 dN_interruptFor_23 rfl rfl ?_
  refine gt_N_29 X dN_interruptFor_24 ?_
  refine k_N_push X hw mw_N_97 ⟨by decide, by decide⟩ (Nat.le_of_ble_eq_true rfl) ⟨Nat.zero_le _, Nat.zero_le _⟩ dN_interruptFor_27 (fun w1 w2 w3 w4 w5 w6 w7 w8 w9 hw => ?_)
  refine go_aload_n X 0 dN_interruptFor_30 rfl rfl ?_
  refine go_bipush X dN_interruptFor_31 kc_b16 ?_
  refine go_iconst X dN_interruptFor_33 kc_i4 ?_
  refine go_iload_n X 1 dN_interruptFor_34 rfl rfl ?_
  refine go_imul X dN_interruptFor_35 ?_
  refine go_iadd X dN_interruptFor_36 ?_
  refine pt_N_29 X dN_interruptFor_37 ?_
  exact go_vreturn X hq dN_interruptFor_40 (w1, w2, w3, w4, w5, w6, w7, w8, w9, (16 : Int32) + ((4 : Int32) * a1), (0 : Int32)) hw rfl
theorem k_N_interruptFor {G : gt_} {ad : Nat → Nat} {cc : ByteArray} {own : String} {fr lo n cells slots pc index : Nat} {lc : List (Nat × Value)} {rest : List Value} {s_bk s_ln s_kd s_vl : Nat → Int32} {s_ct : Int32} {k_ce : Nat → Int32} {k_bc : Int32} {m_ra m_up : Nat → Int32} {m_on m_lo m_hi m_mo m_ma m_li : Int32} {n_rg n_sb : Nat → Int32} {n_st n_pl n_z n_n n_h n_c n_en n_so n_co n_sc : Int32} {l_bk l_of l_en : Nat → Int32} {l_ct : Int32} {t_bk t_of t_en : Nat → Int32} {t_ct : Int32} {a1 : Int32} {P : (Nat → Int32) → (Nat → Int32) → (Int32) → (Int32) → (Int32) → (Int32) → (Int32) → (Int32) → (Int32) → (Int32) → (Int32) → Prop} (X : cx_ G ad cc own fr lo n) (hw : wp_N_interruptFor m_ra m_up m_on m_lo m_hi m_mo m_ma m_li n_st n_pl n_en a1 P) (m1 : Cond.methodLink own index yN_interruptFor ∈ wS) (hlv : 3 + 1 ≤ fr ∧ 8 + (2 + 11) + 65 ≤ lo) (hrs : (rest.map fun v => v.category).sum ≤ 8) (hcs : cells ≤ (gR_ G).cells ∧ slots ≤ (gR_ G).slots) (d : decode cc pc = .ok (.invokevirtual index, 3))
    (kk : ∀ (m_ra' m_up' : Nat → Int32) (m_on' m_lo' m_hi' m_mo' m_ma' m_li' n_st' n_pl' n_en' : Int32), P m_ra' m_up' m_on' m_lo' m_hi' m_mo' m_ma' m_li' n_st' n_pl' n_en' → go_ G cells slots (wC ad s_bk s_ln s_kd s_vl s_ct k_ce k_bc m_ra' m_up' m_on' m_lo' m_hi' m_mo' m_ma' m_li' n_rg n_sb n_st' n_pl' n_z n_n n_h n_c n_en' n_so n_co n_sc l_bk l_of l_en l_ct t_bk t_of t_en t_ct) (pc + 3) lc (rest)) : go_ G cells slots (wC ad s_bk s_ln s_kd s_vl s_ct k_ce k_bc m_ra m_up m_on m_lo m_hi m_mo m_ma m_li n_rg n_sb n_st n_pl n_z n_n n_h n_c n_en n_so n_co n_sc l_bk l_of l_en l_ct t_bk t_of t_en t_ct) pc lc (.int a1 :: .ref (ad 11) :: rest) :=
  go_cvv X (c_N_interruptFor hw) me_N_interruptFor m1 hlv 11 rfl rfl rfl hrs hcs d (fun u hp => kk u.1 u.2.1 u.2.2.1 u.2.2.2.1 u.2.2.2.2.1 u.2.2.2.2.2.1 u.2.2.2.2.2.2.1 u.2.2.2.2.2.2.2.1 u.2.2.2.2.2.2.2.2.1 u.2.2.2.2.2.2.2.2.2.1 u.2.2.2.2.2.2.2.2.2.2 hp)
set_option maxRecDepth 100000 in
set_option maxHeartbeats 4000000 in
theorem c_N_obeyJump {l : Launch} {D : va_G} {ad : Nat → Nat} {s_bk s_ln s_kd s_vl : Nat → Int32} {s_ct : Int32} {k_ce : Nat → Int32} {k_bc : Int32} {m_ra m_up : Nat → Int32} {m_on m_lo m_hi m_mo m_ma m_li : Int32} {n_rg n_sb : Nat → Int32} {n_st n_pl n_z n_n n_h n_c n_en n_so n_co n_sc : Int32} {l_bk l_of l_en : Nat → Int32} {l_ct : Int32} {t_bk t_of t_en : Nat → Int32} {t_ct : Int32} {a1 a2 : Int32} {P : (Nat → Int32) → (Nat → Int32) → (Int32) → (Int32) → (Int32) → (Int32) → (Int32) → (Int32) → (Int32) → (Int32) → (Int32) → Prop} (hw : wp_N_obeyJump k_ce k_bc m_ra m_up m_on m_lo m_hi m_mo m_ma m_li n_st n_pl n_z n_c n_co a1 a2 P) : ct_ l yN_obeyJump bN_obeyJump 5 none 3 65 D ad [.ref (ad 11), .int a1, .int a2] (wC ad s_bk s_ln s_kd s_vl s_ct k_ce k_bc m_ra m_up m_on m_lo m_hi m_mo m_ma m_li n_rg n_sb n_st n_pl n_z n_n n_h n_c n_en n_so n_co n_sc l_bk l_of l_en l_ct t_bk t_of t_en t_ct) (qv_ D (fun (u : (Nat → Int32) × (Nat → Int32) × (Int32) × (Int32) × (Int32) × (Int32) × (Int32) × (Int32) × (Int32) × (Int32) × (Int32)) => P u.1 u.2.1 u.2.2.1 u.2.2.2.1 u.2.2.2.2.1 u.2.2.2.2.2.1 u.2.2.2.2.2.2.1 u.2.2.2.2.2.2.2.1 u.2.2.2.2.2.2.2.2.1 u.2.2.2.2.2.2.2.2.2.1 u.2.2.2.2.2.2.2.2.2.2) (fun u => wC ad s_bk s_ln s_kd s_vl s_ct k_ce k_bc u.1 u.2.1 u.2.2.1 u.2.2.2.1 u.2.2.2.2.1 u.2.2.2.2.2.1 u.2.2.2.2.2.2.1 u.2.2.2.2.2.2.2.1 n_rg n_sb u.2.2.2.2.2.2.2.2.1 u.2.2.2.2.2.2.2.2.2.1 n_z n_n n_h n_c n_en n_so u.2.2.2.2.2.2.2.2.2.2 n_sc l_bk l_of l_en l_ct t_bk t_of t_en t_ct)) := by
  refine ct_of RN (by decide) rfl (Nat.le_of_ble_eq_true rfl) (fun G hl hD X hq => ?_)
  subst hl hD
  show go_ G 0 0 (wC ad s_bk s_ln s_kd s_vl s_ct k_ce k_bc m_ra m_up m_on m_lo m_hi m_mo m_ma m_li n_rg n_sb n_st n_pl n_z n_n n_h n_c n_en n_so n_co n_sc l_bk l_of l_en l_ct t_bk t_of t_en t_ct) 0 [(0, .ref (ad 11)), (1, .int a1), (2, .int a2)] []
  have C58 : ∀ (m_ra m_up : Nat → Int32) (m_on m_lo m_hi m_mo m_ma m_li n_st n_pl n_co x1 x3 x4 : Int32), wp_N_obeyJump_58 k_ce k_bc n_z n_c P m_ra m_up m_on m_lo m_hi m_mo m_ma m_li n_st n_pl n_co x1 x3 x4 → go_ G 0 0 (wC ad s_bk s_ln s_kd s_vl s_ct k_ce k_bc m_ra m_up m_on m_lo m_hi m_mo m_ma m_li n_rg n_sb n_st n_pl n_z n_n n_h n_c n_en n_so n_co n_sc l_bk l_of l_en l_ct t_bk t_of t_en t_ct) 58 [(0, .ref (ad 11)), (1, .int x1), (3, .int x3), (4, .int x4)] [] := by
    intro m_ra m_up m_on m_lo m_hi m_mo m_ma m_li n_st n_pl n_co x1 x3 x4 hw
    refine go_iload_n X 2 dN_obeyJump_58 rfl rfl ?_
    refine go_if_eq X dN_obeyJump_59 rfl (fun hc => ?_) (fun hc => ?_)
    · have hw := hw.1 hc
      refine go_aload_n X 0 dN_obeyJump_73 rfl rfl ?_
      refine go_iload_n X 1 dN_obeyJump_74 rfl rfl ?_
      refine go_iconst X dN_obeyJump_75 kc_i3 ?_
      refine go_icmp_ne X dN_obeyJump_76 rfl (fun hc => ?_) (fun hc => ?_)
      · have hw := hw.1 hc
        refine go_iload X 3 dN_obeyJump_93 rfl ?_
        refine pt_N_29 X dN_obeyJump_95 ?_
        exact go_vreturn X hq dN_obeyJump_98 (m_ra, m_up, m_on, m_lo, m_hi, m_mo, m_ma, m_li, n_st, x4, n_co) hw rfl
      · have hw := hw.2 hc
        refine go_aload_n X 0 dN_obeyJump_79 rfl rfl ?_
        refine gt_N_29 X dN_obeyJump_80 ?_
        refine go_iload X 3 dN_obeyJump_83 rfl ?_
        refine go_iadd X dN_obeyJump_85 ?_
        refine go_sipush X dN_obeyJump_86 kc_s255 ?_
        refine go_iand X dN_obeyJump_89 ?_
        refine go_goto X dN_obeyJump_90 rfl ?_
        refine pt_N_29 X dN_obeyJump_95 ?_
        exact go_vreturn X hq dN_obeyJump_98 (m_ra, m_up, m_on, m_lo, m_hi, m_mo, m_ma, m_li, n_st, (n_pl + x4) &&& (255 : Int32), n_co) hw rfl
    · have hw := hw.2 hc
      refine go_aload_n X 0 dN_obeyJump_62 rfl rfl ?_
      refine go_aload_n X 0 dN_obeyJump_63 rfl rfl ?_
      refine k_N_pull X hw mw_N_122 ⟨by decide, by decide⟩ (Nat.le_of_ble_eq_true rfl) ⟨Nat.zero_le _, Nat.zero_le _⟩ dN_obeyJump_64 (fun r15 w16 hw => ?_)
      refine pt_N_29 X dN_obeyJump_67 ?_
      refine go_goto X dN_obeyJump_70 rfl ?_
      exact go_vreturn X hq dN_obeyJump_98 (m_ra, m_up, m_on, m_lo, m_hi, m_mo, m_ma, m_li, w16, r15, n_co) hw rfl
  have C34 : ∀ (m_ra m_up : Nat → Int32) (m_on m_lo m_hi m_mo m_ma m_li n_st n_pl n_co x1 x2 x3 y0 : Int32), wp_N_obeyJump_34 k_ce k_bc n_z n_c P m_ra m_up m_on m_lo m_hi m_mo m_ma m_li n_st n_pl n_co x1 x2 x3 y0 → go_ G 0 0 (wC ad s_bk s_ln s_kd s_vl s_ct k_ce k_bc m_ra m_up m_on m_lo m_hi m_mo m_ma m_li n_rg n_sb n_st n_pl n_z n_n n_h n_c n_en n_so n_co n_sc l_bk l_of l_en l_ct t_bk t_of t_en t_ct) 34 [(0, .ref (ad 11)), (1, .int x1), (2, .int x2), (3, .int x3)] [.int y0] := by
    intro m_ra m_up m_on m_lo m_hi m_mo m_ma m_li n_st n_pl n_co x1 x2 x3 y0 hw
    refine go_istore X dN_obeyJump_34 (by decide) rfl ?_
    refine go_aload_n X 1 dN_obeyJump_36 rfl rfl ?_
    refine go_iload_n X 3 dN_obeyJump_37 rfl rfl ?_
    refine k_N_holds X hw mw_N_143 ⟨by decide, by decide⟩ (Nat.le_of_ble_eq_true rfl) ⟨Nat.zero_le _, Nat.zero_le _⟩ dN_obeyJump_38 (fun r5 hw => ?_)
    refine go_if_ne X dN_obeyJump_41 rfl (fun hc => ?_) (fun hc => ?_)
    · have hw := hw.1 hc
      refine go_iload_n X 2 dN_obeyJump_45 rfl rfl ?_
      refine go_iconst X dN_obeyJump_46 kc_i1 ?_
      refine go_icmp_ne X dN_obeyJump_47 rfl (fun hc => ?_) (fun hc => ?_)
      · have hw := hw.1 hc
        refine go_lc [1, 2, 4, 0] rfl ?_
        exact C58 _ _ _ _ _ _ _ _ _ _ _ _ _ _ hw
      · have hw := hw.2 hc
        refine go_aload_n X 1 dN_obeyJump_50 rfl rfl ?_
        refine go_aload_n X 1 dN_obeyJump_51 rfl rfl ?_
        refine gt_N_29 X dN_obeyJump_52 ?_
        refine k_N_push X hw mw_N_97 ⟨by decide, by decide⟩ (Nat.le_of_ble_eq_true rfl) ⟨Nat.zero_le _, Nat.zero_le _⟩ dN_obeyJump_55 (fun w6 w7 w8 w9 w10 w11 w12 w13 w14 hw => ?_)
        refine go_lc [1, 2, 4, 0] rfl ?_
        exact C58 _ _ _ _ _ _ _ _ _ _ _ _ _ _ hw
    · have hw := hw.2 hc
      exact go_vreturn X hq dN_obeyJump_44 (m_ra, m_up, m_on, m_lo, m_hi, m_mo, m_ma, m_li, n_st, n_pl, n_co) hw rfl
  refine go_iload_n X 2 dN_obeyJump_0 rfl rfl ?_
  refine go_iconst X dN_obeyJump_1 kc_i4 ?_
  refine go_icmp_le X dN_obeyJump_2 rfl (fun hc => ?_) (fun hc => ?_)
  · have hw := hw.1 hc
    refine go_iload_n X 1 dN_obeyJump_11 rfl rfl ?_
    refine go_iconst X dN_obeyJump_12 kc_i2 ?_
    refine go_icmp_ne X dN_obeyJump_13 rfl (fun hc => ?_) (fun hc => ?_)
    · have hw := hw.1 hc
      refine go_iconst X dN_obeyJump_20 kc_i0 ?_
      refine go_istore_n X dN_obeyJump_21 rfl (by decide) rfl ?_
      refine go_iload_n X 0 dN_obeyJump_22 rfl rfl ?_
      refine go_if_eq X dN_obeyJump_23 rfl (fun _ => ?_) (fun h9 => absurd h9 (by decide))
      refine go_aload_n X 1 dN_obeyJump_30 rfl rfl ?_
      refine k_N_next X hw mw_N_88 ⟨by decide, by decide⟩ (Nat.le_of_ble_eq_true rfl) ⟨Nat.zero_le _, Nat.zero_le _⟩ dN_obeyJump_31 (fun r1 w2 hw => ?_)
      refine go_lc [1, 2, 3, 0] rfl ?_
      exact C34 _ _ _ _ _ _ _ _ _ _ _ _ _ _ _ hw
    · have hw := hw.2 hc
      refine go_iconst X dN_obeyJump_16 kc_i1 ?_
      refine go_goto X dN_obeyJump_17 rfl ?_
      refine go_istore_n X dN_obeyJump_21 rfl (by decide) rfl ?_
      refine go_iload_n X 0 dN_obeyJump_22 rfl rfl ?_
      refine go_if_eq X dN_obeyJump_23 rfl (fun h9 => absurd h9 (by decide)) (fun _ => ?_)
      refine go_iconst X dN_obeyJump_26 kc_i0 ?_
      refine go_goto X dN_obeyJump_27 rfl ?_
      refine go_lc [1, 2, 3, 0] rfl ?_
      exact C34 _ _ _ _ _ _ _ _ _ _ _ _ _ _ _ hw
  · have hw := hw.2 hc
    refine go_aload_n X 0 dN_obeyJump_5 rfl rfl ?_
    refine go_iconst X dN_obeyJump_6 kc_i3 ?_
    refine k_N_endAs X hw mw_N_119 ⟨by decide, by decide⟩ (Nat.le_of_ble_eq_true rfl) ⟨Nat.zero_le _, Nat.zero_le _⟩ dN_obeyJump_7 (fun w3 w4 hw => ?_)
    exact go_vreturn X hq dN_obeyJump_10 (m_ra, m_up, m_on, m_lo, m_hi, m_mo, m_ma, m_li, n_st, w3, w4) hw rfl
theorem k_N_obeyJump {G : gt_} {ad : Nat → Nat} {cc : ByteArray} {own : String} {fr lo n cells slots pc index : Nat} {lc : List (Nat × Value)} {rest : List Value} {s_bk s_ln s_kd s_vl : Nat → Int32} {s_ct : Int32} {k_ce : Nat → Int32} {k_bc : Int32} {m_ra m_up : Nat → Int32} {m_on m_lo m_hi m_mo m_ma m_li : Int32} {n_rg n_sb : Nat → Int32} {n_st n_pl n_z n_n n_h n_c n_en n_so n_co n_sc : Int32} {l_bk l_of l_en : Nat → Int32} {l_ct : Int32} {t_bk t_of t_en : Nat → Int32} {t_ct : Int32} {a1 a2 : Int32} {P : (Nat → Int32) → (Nat → Int32) → (Int32) → (Int32) → (Int32) → (Int32) → (Int32) → (Int32) → (Int32) → (Int32) → (Int32) → Prop} (X : cx_ G ad cc own fr lo n) (hw : wp_N_obeyJump k_ce k_bc m_ra m_up m_on m_lo m_hi m_mo m_ma m_li n_st n_pl n_z n_c n_co a1 a2 P) (m1 : Cond.methodLink own index yN_obeyJump ∈ wS) (hlv : 3 + 1 ≤ fr ∧ 8 + (5 + 11) + 65 ≤ lo) (hrs : (rest.map fun v => v.category).sum ≤ 8) (hcs : cells ≤ (gR_ G).cells ∧ slots ≤ (gR_ G).slots) (d : decode cc pc = .ok (.invokevirtual index, 3))
    (kk : ∀ (m_ra' m_up' : Nat → Int32) (m_on' m_lo' m_hi' m_mo' m_ma' m_li' n_st' n_pl' n_co' : Int32), P m_ra' m_up' m_on' m_lo' m_hi' m_mo' m_ma' m_li' n_st' n_pl' n_co' → go_ G cells slots (wC ad s_bk s_ln s_kd s_vl s_ct k_ce k_bc m_ra' m_up' m_on' m_lo' m_hi' m_mo' m_ma' m_li' n_rg n_sb n_st' n_pl' n_z n_n n_h n_c n_en n_so n_co' n_sc l_bk l_of l_en l_ct t_bk t_of t_en t_ct) (pc + 3) lc (rest)) : go_ G cells slots (wC ad s_bk s_ln s_kd s_vl s_ct k_ce k_bc m_ra m_up m_on m_lo m_hi m_mo m_ma m_li n_rg n_sb n_st n_pl n_z n_n n_h n_c n_en n_so n_co n_sc l_bk l_of l_en l_ct t_bk t_of t_en t_ct) pc lc (.int a2 :: .int a1 :: .ref (ad 11) :: rest) :=
  go_cvv X (c_N_obeyJump hw) me_N_obeyJump m1 hlv 11 rfl rfl rfl hrs hcs d (fun u hp => kk u.1 u.2.1 u.2.2.1 u.2.2.2.1 u.2.2.2.2.1 u.2.2.2.2.2.1 u.2.2.2.2.2.2.1 u.2.2.2.2.2.2.2.1 u.2.2.2.2.2.2.2.2.1 u.2.2.2.2.2.2.2.2.2.1 u.2.2.2.2.2.2.2.2.2.2 hp)
set_option maxRecDepth 100000 in
set_option maxHeartbeats 4000000 in
theorem c_N_obeyOnBits {l : Launch} {D : va_G} {ad : Nat → Nat} {s_bk s_ln s_kd s_vl : Nat → Int32} {s_ct : Int32} {k_ce : Nat → Int32} {k_bc : Int32} {m_ra m_up : Nat → Int32} {m_on m_lo m_hi m_mo m_ma m_li : Int32} {n_rg n_sb : Nat → Int32} {n_st n_pl n_z n_n n_h n_c n_en n_so n_co n_sc : Int32} {l_bk l_of l_en : Nat → Int32} {l_ct : Int32} {t_bk t_of t_en : Nat → Int32} {t_ct : Int32} {a1 : Int32} {P : (Nat → Int32) → (Nat → Int32) → (Int32) → (Int32) → (Int32) → (Int32) → (Int32) → (Int32) → (Nat → Int32) → (Int32) → (Int32) → (Int32) → (Int32) → Prop} (hw : wp_N_obeyOnBits k_ce k_bc m_ra m_up m_on m_lo m_hi m_mo m_ma m_li n_rg n_z n_n n_h n_c a1 P) : ct_ l yN_obeyOnBits bN_obeyOnBits 5 none 3 69 D ad [.ref (ad 11), .int a1] (wC ad s_bk s_ln s_kd s_vl s_ct k_ce k_bc m_ra m_up m_on m_lo m_hi m_mo m_ma m_li n_rg n_sb n_st n_pl n_z n_n n_h n_c n_en n_so n_co n_sc l_bk l_of l_en l_ct t_bk t_of t_en t_ct) (qv_ D (fun (u : (Nat → Int32) × (Nat → Int32) × (Int32) × (Int32) × (Int32) × (Int32) × (Int32) × (Int32) × (Nat → Int32) × (Int32) × (Int32) × (Int32) × (Int32)) => P u.1 u.2.1 u.2.2.1 u.2.2.2.1 u.2.2.2.2.1 u.2.2.2.2.2.1 u.2.2.2.2.2.2.1 u.2.2.2.2.2.2.2.1 u.2.2.2.2.2.2.2.2.1 u.2.2.2.2.2.2.2.2.2.1 u.2.2.2.2.2.2.2.2.2.2.1 u.2.2.2.2.2.2.2.2.2.2.2.1 u.2.2.2.2.2.2.2.2.2.2.2.2) (fun u => wC ad s_bk s_ln s_kd s_vl s_ct k_ce k_bc u.1 u.2.1 u.2.2.1 u.2.2.2.1 u.2.2.2.2.1 u.2.2.2.2.2.1 u.2.2.2.2.2.2.1 u.2.2.2.2.2.2.2.1 u.2.2.2.2.2.2.2.2.1 n_sb n_st n_pl u.2.2.2.2.2.2.2.2.2.1 u.2.2.2.2.2.2.2.2.2.2.1 u.2.2.2.2.2.2.2.2.2.2.2.1 u.2.2.2.2.2.2.2.2.2.2.2.2 n_en n_so n_co n_sc l_bk l_of l_en l_ct t_bk t_of t_en t_ct)) := by
  refine ct_of RN (by decide) rfl (Nat.le_of_ble_eq_true rfl) (fun G hl hD X hq => ?_)
  subst hl hD
  show go_ G 0 0 (wC ad s_bk s_ln s_kd s_vl s_ct k_ce k_bc m_ra m_up m_on m_lo m_hi m_mo m_ma m_li n_rg n_sb n_st n_pl n_z n_n n_h n_c n_en n_so n_co n_sc l_bk l_of l_en l_ct t_bk t_of t_en t_ct) 0 [(0, .ref (ad 11)), (1, .int a1)] []
  refine go_iload_n X 1 dN_obeyOnBits_0 rfl rfl ?_
  refine go_bipush X dN_obeyOnBits_1 kc_b7 ?_
  refine go_iand X dN_obeyOnBits_3 ?_
  refine go_nm (fun z1 ez1 => ?_)
  have hw := hw z1 ez1
  refine go_istore_n X dN_obeyOnBits_4 rfl (by decide) rfl ?_
  refine go_iload_n X 2 dN_obeyOnBits_5 rfl rfl ?_
  refine go_iconst X dN_obeyOnBits_6 kc_i3 ?_
  refine go_ishr X dN_obeyOnBits_7 ?_
  refine go_nm (fun z2 ez2 => ?_)
  have hw := hw z2 ez2
  refine go_istore_n X dN_obeyOnBits_8 rfl (by decide) rfl ?_
  refine go_iconst X dN_obeyOnBits_9 kc_i1 ?_
  refine go_iload_n X 0 dN_obeyOnBits_10 rfl rfl ?_
  refine go_bipush X dN_obeyOnBits_11 kc_b7 ?_
  refine go_iand X dN_obeyOnBits_13 ?_
  refine go_ishl X dN_obeyOnBits_14 ?_
  refine go_nm (fun z3 ez3 => ?_)
  have hw := hw z3 ez3
  refine go_istore X dN_obeyOnBits_15 (by decide) rfl ?_
  refine go_iload_n X 1 dN_obeyOnBits_17 rfl rfl ?_
  refine go_bipush X dN_obeyOnBits_18 kc_b7 ?_
  refine go_icmp_ge X dN_obeyOnBits_20 rfl (fun hc => ?_) (fun hc => ?_)
  · have hw := hw.1 hc
    refine go_iload_n X 1 dN_obeyOnBits_41 rfl rfl ?_
    refine go_bipush X dN_obeyOnBits_42 kc_b24 ?_
    refine go_icmp_lt X dN_obeyOnBits_44 rfl (fun hc => ?_) (fun hc => ?_)
    · have hw := hw.1 hc
      refine go_iload_n X 1 dN_obeyOnBits_63 rfl rfl ?_
      refine go_bipush X dN_obeyOnBits_64 kc_b16 ?_
      refine go_icmp_lt X dN_obeyOnBits_66 rfl (fun hc => ?_) (fun hc => ?_)
      · have hw := hw.1 hc
        refine go_iload_n X 1 dN_obeyOnBits_87 rfl rfl ?_
        refine go_bipush X dN_obeyOnBits_88 kc_b8 ?_
        refine go_icmp_lt X dN_obeyOnBits_90 rfl (fun hc => ?_) (fun hc => ?_)
        · have hw := hw.1 hc
          exact go_vreturn X hq dN_obeyOnBits_119 (m_ra, m_up, m_on, m_lo, m_hi, m_mo, m_ma, m_li, n_rg, n_z, n_n, n_h, n_c) hw rfl
        · have hw := hw.2 hc
          refine go_aload_n X 3 dN_obeyOnBits_93 rfl rfl ?_
          refine go_aload_n X 3 dN_obeyOnBits_94 rfl rfl ?_
          refine go_iload_n X 2 dN_obeyOnBits_95 rfl rfl ?_
          refine k_N_get X hw mw_N_74 ⟨by decide, by decide⟩ (Nat.le_of_ble_eq_true rfl) ⟨Nat.zero_le _, Nat.zero_le _⟩ dN_obeyOnBits_96 (fun r4 hw => ?_)
          refine go_iload X 0 dN_obeyOnBits_99 rfl ?_
          refine go_iand X dN_obeyOnBits_101 ?_
          refine go_if_ne X dN_obeyOnBits_102 rfl (fun hc => ?_) (fun hc => ?_)
          · have hw := hw.1 hc
            refine go_iconst X dN_obeyOnBits_109 kc_i0 ?_
            refine go_iconst X dN_obeyOnBits_110 kc_i0 ?_
            refine go_iconst X dN_obeyOnBits_111 kc_i1 ?_
            refine go_aload_n X 3 dN_obeyOnBits_112 rfl rfl ?_
            refine gt_N_128 X dN_obeyOnBits_113 ?_
            refine k_N_setFlags X hw mw_N_32 ⟨by decide, by decide⟩ (Nat.le_of_ble_eq_true rfl) ⟨Nat.zero_le _, Nat.zero_le _⟩ dN_obeyOnBits_116 (fun w5 w6 w7 w8 hw => ?_)
            exact go_vreturn X hq dN_obeyOnBits_119 (m_ra, m_up, m_on, m_lo, m_hi, m_mo, m_ma, m_li, n_rg, w5, w6, w7, w8) hw rfl
          · have hw := hw.2 hc
            refine go_iconst X dN_obeyOnBits_105 kc_i1 ?_
            refine go_goto X dN_obeyOnBits_106 rfl ?_
            refine go_iconst X dN_obeyOnBits_110 kc_i0 ?_
            refine go_iconst X dN_obeyOnBits_111 kc_i1 ?_
            refine go_aload_n X 3 dN_obeyOnBits_112 rfl rfl ?_
            refine gt_N_128 X dN_obeyOnBits_113 ?_
            refine k_N_setFlags X hw mw_N_32 ⟨by decide, by decide⟩ (Nat.le_of_ble_eq_true rfl) ⟨Nat.zero_le _, Nat.zero_le _⟩ dN_obeyOnBits_116 (fun w9 w10 w11 w12 hw => ?_)
            exact go_vreturn X hq dN_obeyOnBits_119 (m_ra, m_up, m_on, m_lo, m_hi, m_mo, m_ma, m_li, n_rg, w9, w10, w11, w12) hw rfl
      · have hw := hw.2 hc
        refine go_aload_n X 3 dN_obeyOnBits_69 rfl rfl ?_
        refine go_iload_n X 2 dN_obeyOnBits_70 rfl rfl ?_
        refine go_aload_n X 3 dN_obeyOnBits_71 rfl rfl ?_
        refine go_iload_n X 2 dN_obeyOnBits_72 rfl rfl ?_
        refine k_N_get X hw mw_N_74 ⟨by decide, by decide⟩ (Nat.le_of_ble_eq_true rfl) ⟨Nat.zero_le _, Nat.zero_le _⟩ dN_obeyOnBits_73 (fun r13 hw => ?_)
        refine go_iload X 0 dN_obeyOnBits_76 rfl ?_
        refine go_iconst X dN_obeyOnBits_78 kc_im1 ?_
        refine go_ixor X dN_obeyOnBits_79 ?_
        refine go_iand X dN_obeyOnBits_80 ?_
        refine k_N_set X hw mw_N_107 ⟨by decide, by decide⟩ (Nat.le_of_ble_eq_true rfl) ⟨Nat.zero_le _, Nat.zero_le _⟩ dN_obeyOnBits_81 (fun w14 w15 w16 w17 w18 w19 w20 w21 w22 hw => ?_)
        refine go_goto X dN_obeyOnBits_84 rfl ?_
        exact go_vreturn X hq dN_obeyOnBits_119 (w14, w15, w16, w17, w18, w19, w20, w21, w22, n_z, n_n, n_h, n_c) hw rfl
    · have hw := hw.2 hc
      refine go_aload_n X 3 dN_obeyOnBits_47 rfl rfl ?_
      refine go_iload_n X 2 dN_obeyOnBits_48 rfl rfl ?_
      refine go_aload_n X 3 dN_obeyOnBits_49 rfl rfl ?_
      refine go_iload_n X 2 dN_obeyOnBits_50 rfl rfl ?_
      refine k_N_get X hw mw_N_74 ⟨by decide, by decide⟩ (Nat.le_of_ble_eq_true rfl) ⟨Nat.zero_le _, Nat.zero_le _⟩ dN_obeyOnBits_51 (fun r23 hw => ?_)
      refine go_iload X 0 dN_obeyOnBits_54 rfl ?_
      refine go_ior X dN_obeyOnBits_56 ?_
      refine k_N_set X hw mw_N_107 ⟨by decide, by decide⟩ (Nat.le_of_ble_eq_true rfl) ⟨Nat.zero_le _, Nat.zero_le _⟩ dN_obeyOnBits_57 (fun w24 w25 w26 w27 w28 w29 w30 w31 w32 hw => ?_)
      refine go_goto X dN_obeyOnBits_60 rfl ?_
      exact go_vreturn X hq dN_obeyOnBits_119 (w24, w25, w26, w27, w28, w29, w30, w31, w32, n_z, n_n, n_h, n_c) hw rfl
  · have hw := hw.2 hc
    refine go_aload_n X 3 dN_obeyOnBits_23 rfl rfl ?_
    refine go_iload_n X 2 dN_obeyOnBits_24 rfl rfl ?_
    refine go_aload_n X 3 dN_obeyOnBits_25 rfl rfl ?_
    refine go_iload_n X 1 dN_obeyOnBits_26 rfl rfl ?_
    refine go_aload_n X 3 dN_obeyOnBits_27 rfl rfl ?_
    refine go_iload_n X 2 dN_obeyOnBits_28 rfl rfl ?_
    refine k_N_get X hw mw_N_74 ⟨by decide, by decide⟩ (Nat.le_of_ble_eq_true rfl) ⟨Nat.zero_le _, Nat.zero_le _⟩ dN_obeyOnBits_29 (fun r33 hw => ?_)
    refine k_N_shifted X hw mw_N_153 ⟨by decide, by decide⟩ (Nat.le_of_ble_eq_true rfl) ⟨Nat.zero_le _, Nat.zero_le _⟩ dN_obeyOnBits_32 (fun r34 w35 w36 w37 w38 hw => ?_)
    refine k_N_set X hw mw_N_107 ⟨by decide, by decide⟩ (Nat.le_of_ble_eq_true rfl) ⟨Nat.zero_le _, Nat.zero_le _⟩ dN_obeyOnBits_35 (fun w39 w40 w41 w42 w43 w44 w45 w46 w47 hw => ?_)
    refine go_goto X dN_obeyOnBits_38 rfl ?_
    exact go_vreturn X hq dN_obeyOnBits_119 (w39, w40, w41, w42, w43, w44, w45, w46, w47, w35, w36, w37, w38) hw rfl
theorem k_N_obeyOnBits {G : gt_} {ad : Nat → Nat} {cc : ByteArray} {own : String} {fr lo n cells slots pc index : Nat} {lc : List (Nat × Value)} {rest : List Value} {s_bk s_ln s_kd s_vl : Nat → Int32} {s_ct : Int32} {k_ce : Nat → Int32} {k_bc : Int32} {m_ra m_up : Nat → Int32} {m_on m_lo m_hi m_mo m_ma m_li : Int32} {n_rg n_sb : Nat → Int32} {n_st n_pl n_z n_n n_h n_c n_en n_so n_co n_sc : Int32} {l_bk l_of l_en : Nat → Int32} {l_ct : Int32} {t_bk t_of t_en : Nat → Int32} {t_ct : Int32} {a1 : Int32} {P : (Nat → Int32) → (Nat → Int32) → (Int32) → (Int32) → (Int32) → (Int32) → (Int32) → (Int32) → (Nat → Int32) → (Int32) → (Int32) → (Int32) → (Int32) → Prop} (X : cx_ G ad cc own fr lo n) (hw : wp_N_obeyOnBits k_ce k_bc m_ra m_up m_on m_lo m_hi m_mo m_ma m_li n_rg n_z n_n n_h n_c a1 P) (m1 : Cond.methodLink own index yN_obeyOnBits ∈ wS) (hlv : 3 + 1 ≤ fr ∧ 8 + (5 + 11) + 69 ≤ lo) (hrs : (rest.map fun v => v.category).sum ≤ 8) (hcs : cells ≤ (gR_ G).cells ∧ slots ≤ (gR_ G).slots) (d : decode cc pc = .ok (.invokevirtual index, 3))
    (kk : ∀ (m_ra' m_up' : Nat → Int32) (m_on' m_lo' m_hi' m_mo' m_ma' m_li' : Int32) (n_rg' : Nat → Int32) (n_z' n_n' n_h' n_c' : Int32), P m_ra' m_up' m_on' m_lo' m_hi' m_mo' m_ma' m_li' n_rg' n_z' n_n' n_h' n_c' → go_ G cells slots (wC ad s_bk s_ln s_kd s_vl s_ct k_ce k_bc m_ra' m_up' m_on' m_lo' m_hi' m_mo' m_ma' m_li' n_rg' n_sb n_st n_pl n_z' n_n' n_h' n_c' n_en n_so n_co n_sc l_bk l_of l_en l_ct t_bk t_of t_en t_ct) (pc + 3) lc (rest)) : go_ G cells slots (wC ad s_bk s_ln s_kd s_vl s_ct k_ce k_bc m_ra m_up m_on m_lo m_hi m_mo m_ma m_li n_rg n_sb n_st n_pl n_z n_n n_h n_c n_en n_so n_co n_sc l_bk l_of l_en l_ct t_bk t_of t_en t_ct) pc lc (.int a1 :: .ref (ad 11) :: rest) :=
  go_cvv X (c_N_obeyOnBits hw) me_N_obeyOnBits m1 hlv 11 rfl rfl rfl hrs hcs d (fun u hp => kk u.1 u.2.1 u.2.2.1 u.2.2.2.1 u.2.2.2.2.1 u.2.2.2.2.2.1 u.2.2.2.2.2.2.1 u.2.2.2.2.2.2.2.1 u.2.2.2.2.2.2.2.2.1 u.2.2.2.2.2.2.2.2.2.1 u.2.2.2.2.2.2.2.2.2.2.1 u.2.2.2.2.2.2.2.2.2.2.2.1 u.2.2.2.2.2.2.2.2.2.2.2.2 hp)
set_option maxRecDepth 100000 in
set_option maxHeartbeats 4000000 in
theorem c_N_obeyOnOne {l : Launch} {D : va_G} {ad : Nat → Nat} {s_bk s_ln s_kd s_vl : Nat → Int32} {s_ct : Int32} {k_ce : Nat → Int32} {k_bc : Int32} {m_ra m_up : Nat → Int32} {m_on m_lo m_hi m_mo m_ma m_li : Int32} {n_rg n_sb : Nat → Int32} {n_st n_pl n_z n_n n_h n_c n_en n_so n_co n_sc : Int32} {l_bk l_of l_en : Nat → Int32} {l_ct : Int32} {t_bk t_of t_en : Nat → Int32} {t_ct : Int32} {a1 a2 : Int32} {P : (Nat → Int32) → (Nat → Int32) → (Int32) → (Int32) → (Int32) → (Int32) → (Int32) → (Int32) → (Nat → Int32) → (Int32) → (Int32) → (Int32) → (Int32) → (Int32) → (Int32) → Prop} (hw : wp_N_obeyOnOne k_ce k_bc m_ra m_up m_on m_lo m_hi m_mo m_ma m_li n_rg n_st n_pl n_z n_n n_h n_c a1 a2 P) : ct_ l yN_obeyOnOne bN_obeyOnOne 3 none 3 66 D ad [.ref (ad 11), .int a1, .int a2] (wC ad s_bk s_ln s_kd s_vl s_ct k_ce k_bc m_ra m_up m_on m_lo m_hi m_mo m_ma m_li n_rg n_sb n_st n_pl n_z n_n n_h n_c n_en n_so n_co n_sc l_bk l_of l_en l_ct t_bk t_of t_en t_ct) (qv_ D (fun (u : (Nat → Int32) × (Nat → Int32) × (Int32) × (Int32) × (Int32) × (Int32) × (Int32) × (Int32) × (Nat → Int32) × (Int32) × (Int32) × (Int32) × (Int32) × (Int32) × (Int32)) => P u.1 u.2.1 u.2.2.1 u.2.2.2.1 u.2.2.2.2.1 u.2.2.2.2.2.1 u.2.2.2.2.2.2.1 u.2.2.2.2.2.2.2.1 u.2.2.2.2.2.2.2.2.1 u.2.2.2.2.2.2.2.2.2.1 u.2.2.2.2.2.2.2.2.2.2.1 u.2.2.2.2.2.2.2.2.2.2.2.1 u.2.2.2.2.2.2.2.2.2.2.2.2.1 u.2.2.2.2.2.2.2.2.2.2.2.2.2.1 u.2.2.2.2.2.2.2.2.2.2.2.2.2.2) (fun u => wC ad s_bk s_ln s_kd s_vl s_ct k_ce k_bc u.1 u.2.1 u.2.2.1 u.2.2.2.1 u.2.2.2.2.1 u.2.2.2.2.2.1 u.2.2.2.2.2.2.1 u.2.2.2.2.2.2.2.1 u.2.2.2.2.2.2.2.2.1 n_sb u.2.2.2.2.2.2.2.2.2.1 u.2.2.2.2.2.2.2.2.2.2.1 u.2.2.2.2.2.2.2.2.2.2.2.1 u.2.2.2.2.2.2.2.2.2.2.2.2.1 u.2.2.2.2.2.2.2.2.2.2.2.2.2.1 u.2.2.2.2.2.2.2.2.2.2.2.2.2.2 n_en n_so n_co n_sc l_bk l_of l_en l_ct t_bk t_of t_en t_ct)) := by
  refine ct_of RN (by decide) rfl (Nat.le_of_ble_eq_true rfl) (fun G hl hD X hq => ?_)
  subst hl hD
  show go_ G 0 0 (wC ad s_bk s_ln s_kd s_vl s_ct k_ce k_bc m_ra m_up m_on m_lo m_hi m_mo m_ma m_li n_rg n_sb n_st n_pl n_z n_n n_h n_c n_en n_so n_co n_sc l_bk l_of l_en l_ct t_bk t_of t_en t_ct) 0 [(0, .ref (ad 11)), (1, .int a1), (2, .int a2)] []
  refine go_iload_n X 1 dN_obeyOnOne_0 rfl rfl ?_
  by_cases h9_0 : a1 = (2 : Int32)
  · have hw := hw.1 h9_0
    refine go_tin X (2 : Int32) dN_obeyOnOne_1 h9_0 (by decide) (by decide) rfl rfl ?_
    refine go_aload_n X 0 dN_obeyOnOne_36 rfl rfl ?_
    refine go_iload_n X 2 dN_obeyOnOne_37 rfl rfl ?_
    refine go_aload_n X 0 dN_obeyOnOne_38 rfl rfl ?_
    refine go_aload_n X 0 dN_obeyOnOne_39 rfl rfl ?_
    refine go_iload_n X 2 dN_obeyOnOne_40 rfl rfl ?_
    refine k_N_get X hw mw_N_74 ⟨by decide, by decide⟩ (Nat.le_of_ble_eq_true rfl) ⟨Nat.zero_le _, Nat.zero_le _⟩ dN_obeyOnOne_41 (fun r1 hw => ?_)
    refine k_N_oneMore X hw mw_N_134 ⟨by decide, by decide⟩ (Nat.le_of_ble_eq_true rfl) ⟨Nat.zero_le _, Nat.zero_le _⟩ dN_obeyOnOne_44 (fun r2 w3 w4 w5 w6 hw => ?_)
    refine k_N_set X hw mw_N_107 ⟨by decide, by decide⟩ (Nat.le_of_ble_eq_true rfl) ⟨Nat.zero_le _, Nat.zero_le _⟩ dN_obeyOnOne_47 (fun w7 w8 w9 w10 w11 w12 w13 w14 w15 hw => ?_)
    refine go_goto X dN_obeyOnOne_50 rfl ?_
    exact go_vreturn X hq dN_obeyOnOne_120 (w7, w8, w9, w10, w11, w12, w13, w14, w15, n_st, n_pl, w3, w4, w5, w6) hw rfl
  by_cases h9_1 : a1 = (3 : Int32)
  · have hw := hw.2.1 h9_1
    refine go_tin X (3 : Int32) dN_obeyOnOne_1 h9_1 (by decide) (by decide) rfl rfl ?_
    refine go_aload_n X 0 dN_obeyOnOne_53 rfl rfl ?_
    refine go_iload_n X 2 dN_obeyOnOne_54 rfl rfl ?_
    refine go_aload_n X 0 dN_obeyOnOne_55 rfl rfl ?_
    refine go_aload_n X 0 dN_obeyOnOne_56 rfl rfl ?_
    refine go_iload_n X 2 dN_obeyOnOne_57 rfl rfl ?_
    refine k_N_get X hw mw_N_74 ⟨by decide, by decide⟩ (Nat.le_of_ble_eq_true rfl) ⟨Nat.zero_le _, Nat.zero_le _⟩ dN_obeyOnOne_58 (fun r16 hw => ?_)
    refine k_N_oneLess X hw mw_N_137 ⟨by decide, by decide⟩ (Nat.le_of_ble_eq_true rfl) ⟨Nat.zero_le _, Nat.zero_le _⟩ dN_obeyOnOne_61 (fun r17 w18 w19 w20 w21 hw => ?_)
    refine k_N_set X hw mw_N_107 ⟨by decide, by decide⟩ (Nat.le_of_ble_eq_true rfl) ⟨Nat.zero_le _, Nat.zero_le _⟩ dN_obeyOnOne_64 (fun w22 w23 w24 w25 w26 w27 w28 w29 w30 hw => ?_)
    refine go_goto X dN_obeyOnOne_67 rfl ?_
    exact go_vreturn X hq dN_obeyOnOne_120 (w22, w23, w24, w25, w26, w27, w28, w29, w30, n_st, n_pl, w18, w19, w20, w21) hw rfl
  by_cases h9_2 : a1 = (4 : Int32)
  · have hw := hw.2.2.1 h9_2
    refine go_tin X (4 : Int32) dN_obeyOnOne_1 h9_2 (by decide) (by decide) rfl rfl ?_
    refine go_aload_n X 0 dN_obeyOnOne_70 rfl rfl ?_
    refine go_aload_n X 0 dN_obeyOnOne_71 rfl rfl ?_
    refine go_iload_n X 2 dN_obeyOnOne_72 rfl rfl ?_
    refine k_N_get X hw mw_N_74 ⟨by decide, by decide⟩ (Nat.le_of_ble_eq_true rfl) ⟨Nat.zero_le _, Nat.zero_le _⟩ dN_obeyOnOne_73 (fun r31 hw => ?_)
    refine k_N_push X hw mw_N_97 ⟨by decide, by decide⟩ (Nat.le_of_ble_eq_true rfl) ⟨Nat.zero_le _, Nat.zero_le _⟩ dN_obeyOnOne_76 (fun w32 w33 w34 w35 w36 w37 w38 w39 w40 hw => ?_)
    refine go_goto X dN_obeyOnOne_79 rfl ?_
    exact go_vreturn X hq dN_obeyOnOne_120 (w32, w33, w34, w35, w36, w37, w38, w39, n_rg, w40, n_pl, n_z, n_n, n_h, n_c) hw rfl
  by_cases h9_3 : a1 = (5 : Int32)
  · have hw := hw.2.2.2.1 h9_3
    refine go_tin X (5 : Int32) dN_obeyOnOne_1 h9_3 (by decide) (by decide) rfl rfl ?_
    refine go_aload_n X 0 dN_obeyOnOne_82 rfl rfl ?_
    refine go_iload_n X 2 dN_obeyOnOne_83 rfl rfl ?_
    refine go_aload_n X 0 dN_obeyOnOne_84 rfl rfl ?_
    refine k_N_pull X hw mw_N_122 ⟨by decide, by decide⟩ (Nat.le_of_ble_eq_true rfl) ⟨Nat.zero_le _, Nat.zero_le _⟩ dN_obeyOnOne_85 (fun r41 w42 hw => ?_)
    refine k_N_set X hw mw_N_107 ⟨by decide, by decide⟩ (Nat.le_of_ble_eq_true rfl) ⟨Nat.zero_le _, Nat.zero_le _⟩ dN_obeyOnOne_88 (fun w43 w44 w45 w46 w47 w48 w49 w50 w51 hw => ?_)
    refine go_goto X dN_obeyOnOne_91 rfl ?_
    exact go_vreturn X hq dN_obeyOnOne_120 (w43, w44, w45, w46, w47, w48, w49, w50, w51, w42, n_pl, n_z, n_n, n_h, n_c) hw rfl
  by_cases h9_4 : a1 = (6 : Int32)
  · have hw := hw.2.2.2.2.1 h9_4
    refine go_tin X (6 : Int32) dN_obeyOnOne_1 h9_4 (by decide) (by decide) rfl rfl ?_
    refine go_aload_n X 0 dN_obeyOnOne_94 rfl rfl ?_
    refine go_iload_n X 2 dN_obeyOnOne_95 rfl rfl ?_
    refine go_aload_n X 0 dN_obeyOnOne_96 rfl rfl ?_
    refine k_N_next X hw mw_N_88 ⟨by decide, by decide⟩ (Nat.le_of_ble_eq_true rfl) ⟨Nat.zero_le _, Nat.zero_le _⟩ dN_obeyOnOne_97 (fun r52 w53 hw => ?_)
    refine k_N_set X hw mw_N_107 ⟨by decide, by decide⟩ (Nat.le_of_ble_eq_true rfl) ⟨Nat.zero_le _, Nat.zero_le _⟩ dN_obeyOnOne_100 (fun w54 w55 w56 w57 w58 w59 w60 w61 w62 hw => ?_)
    refine go_goto X dN_obeyOnOne_103 rfl ?_
    exact go_vreturn X hq dN_obeyOnOne_120 (w54, w55, w56, w57, w58, w59, w60, w61, w62, n_st, w53, n_z, n_n, n_h, n_c) hw rfl
  have hw := hw.2.2.2.2.2 h9_0 h9_1 h9_2 h9_3 h9_4
  have t9_0 := go_neT h9_0 (z := 2) (by decide)
  have t9_1 := go_neT h9_1 (z := 3) (by decide)
  have t9_2 := go_neT h9_2 (z := 4) (by decide)
  have t9_3 := go_neT h9_3 (z := 5) (by decide)
  have t9_4 := go_neT h9_4 (z := 6) (by decide)
  refine go_tout X dN_obeyOnOne_1 (by omega) rfl ?_
  refine go_aload_n X 0 dN_obeyOnOne_106 rfl rfl ?_
  refine go_iload_n X 2 dN_obeyOnOne_107 rfl rfl ?_
  refine go_aload_n X 0 dN_obeyOnOne_108 rfl rfl ?_
  refine go_aload_n X 0 dN_obeyOnOne_109 rfl rfl ?_
  refine go_iload_n X 2 dN_obeyOnOne_110 rfl rfl ?_
  refine k_N_get X hw mw_N_74 ⟨by decide, by decide⟩ (Nat.le_of_ble_eq_true rfl) ⟨Nat.zero_le _, Nat.zero_le _⟩ dN_obeyOnOne_111 (fun r63 hw => ?_)
  refine k_N_exchanged X hw mw_N_140 ⟨by decide, by decide⟩ (Nat.le_of_ble_eq_true rfl) ⟨Nat.zero_le _, Nat.zero_le _⟩ dN_obeyOnOne_114 (fun r64 w65 w66 w67 w68 hw => ?_)
  refine k_N_set X hw mw_N_107 ⟨by decide, by decide⟩ (Nat.le_of_ble_eq_true rfl) ⟨Nat.zero_le _, Nat.zero_le _⟩ dN_obeyOnOne_117 (fun w69 w70 w71 w72 w73 w74 w75 w76 w77 hw => ?_)
  exact go_vreturn X hq dN_obeyOnOne_120 (w69, w70, w71, w72, w73, w74, w75, w76, w77, n_st, n_pl, w65, w66, w67, w68) hw rfl
theorem k_N_obeyOnOne {G : gt_} {ad : Nat → Nat} {cc : ByteArray} {own : String} {fr lo n cells slots pc index : Nat} {lc : List (Nat × Value)} {rest : List Value} {s_bk s_ln s_kd s_vl : Nat → Int32} {s_ct : Int32} {k_ce : Nat → Int32} {k_bc : Int32} {m_ra m_up : Nat → Int32} {m_on m_lo m_hi m_mo m_ma m_li : Int32} {n_rg n_sb : Nat → Int32} {n_st n_pl n_z n_n n_h n_c n_en n_so n_co n_sc : Int32} {l_bk l_of l_en : Nat → Int32} {l_ct : Int32} {t_bk t_of t_en : Nat → Int32} {t_ct : Int32} {a1 a2 : Int32} {P : (Nat → Int32) → (Nat → Int32) → (Int32) → (Int32) → (Int32) → (Int32) → (Int32) → (Int32) → (Nat → Int32) → (Int32) → (Int32) → (Int32) → (Int32) → (Int32) → (Int32) → Prop} (X : cx_ G ad cc own fr lo n) (hw : wp_N_obeyOnOne k_ce k_bc m_ra m_up m_on m_lo m_hi m_mo m_ma m_li n_rg n_st n_pl n_z n_n n_h n_c a1 a2 P) (m1 : Cond.methodLink own index yN_obeyOnOne ∈ wS) (hlv : 3 + 1 ≤ fr ∧ 8 + (3 + 11) + 66 ≤ lo) (hrs : (rest.map fun v => v.category).sum ≤ 8) (hcs : cells ≤ (gR_ G).cells ∧ slots ≤ (gR_ G).slots) (d : decode cc pc = .ok (.invokevirtual index, 3))
    (kk : ∀ (m_ra' m_up' : Nat → Int32) (m_on' m_lo' m_hi' m_mo' m_ma' m_li' : Int32) (n_rg' : Nat → Int32) (n_st' n_pl' n_z' n_n' n_h' n_c' : Int32), P m_ra' m_up' m_on' m_lo' m_hi' m_mo' m_ma' m_li' n_rg' n_st' n_pl' n_z' n_n' n_h' n_c' → go_ G cells slots (wC ad s_bk s_ln s_kd s_vl s_ct k_ce k_bc m_ra' m_up' m_on' m_lo' m_hi' m_mo' m_ma' m_li' n_rg' n_sb n_st' n_pl' n_z' n_n' n_h' n_c' n_en n_so n_co n_sc l_bk l_of l_en l_ct t_bk t_of t_en t_ct) (pc + 3) lc (rest)) : go_ G cells slots (wC ad s_bk s_ln s_kd s_vl s_ct k_ce k_bc m_ra m_up m_on m_lo m_hi m_mo m_ma m_li n_rg n_sb n_st n_pl n_z n_n n_h n_c n_en n_so n_co n_sc l_bk l_of l_en l_ct t_bk t_of t_en t_ct) pc lc (.int a2 :: .int a1 :: .ref (ad 11) :: rest) :=
  go_cvv X (c_N_obeyOnOne hw) me_N_obeyOnOne m1 hlv 11 rfl rfl rfl hrs hcs d (fun u hp => kk u.1 u.2.1 u.2.2.1 u.2.2.2.1 u.2.2.2.2.1 u.2.2.2.2.2.1 u.2.2.2.2.2.2.1 u.2.2.2.2.2.2.2.1 u.2.2.2.2.2.2.2.2.1 u.2.2.2.2.2.2.2.2.2.1 u.2.2.2.2.2.2.2.2.2.2.1 u.2.2.2.2.2.2.2.2.2.2.2.1 u.2.2.2.2.2.2.2.2.2.2.2.2.1 u.2.2.2.2.2.2.2.2.2.2.2.2.2.1 u.2.2.2.2.2.2.2.2.2.2.2.2.2.2 hp)
set_option maxRecDepth 100000 in
set_option maxHeartbeats 4000000 in
theorem c_N_obeySingle {l : Launch} {D : va_G} {ad : Nat → Nat} {s_bk s_ln s_kd s_vl : Nat → Int32} {s_ct : Int32} {k_ce : Nat → Int32} {k_bc : Int32} {m_ra m_up : Nat → Int32} {m_on m_lo m_hi m_mo m_ma m_li : Int32} {n_rg n_sb : Nat → Int32} {n_st n_pl n_z n_n n_h n_c n_en n_so n_co n_sc : Int32} {l_bk l_of l_en : Nat → Int32} {l_ct : Int32} {t_bk t_of t_en : Nat → Int32} {t_ct : Int32} {a1 : Int32} {P : (Nat → Int32) → (Nat → Int32) → (Int32) → (Int32) → (Int32) → (Int32) → (Int32) → (Int32) → (Int32) → (Int32) → (Int32) → (Int32) → Prop} (hw : wp_N_obeySingle k_ce k_bc m_ra m_up m_on m_lo m_hi m_mo m_ma m_li n_rg n_sb n_st n_pl n_z n_n n_h n_c n_en n_so n_co n_sc a1 P) : ct_ l yN_obeySingle bN_obeySingle 2 none 3 64 D ad [.ref (ad 11), .int a1] (wC ad s_bk s_ln s_kd s_vl s_ct k_ce k_bc m_ra m_up m_on m_lo m_hi m_mo m_ma m_li n_rg n_sb n_st n_pl n_z n_n n_h n_c n_en n_so n_co n_sc l_bk l_of l_en l_ct t_bk t_of t_en t_ct) (qv_ D (fun (u : (Nat → Int32) × (Nat → Int32) × (Int32) × (Int32) × (Int32) × (Int32) × (Int32) × (Int32) × (Int32) × (Int32) × (Int32) × (Int32)) => P u.1 u.2.1 u.2.2.1 u.2.2.2.1 u.2.2.2.2.1 u.2.2.2.2.2.1 u.2.2.2.2.2.2.1 u.2.2.2.2.2.2.2.1 u.2.2.2.2.2.2.2.2.1 u.2.2.2.2.2.2.2.2.2.1 u.2.2.2.2.2.2.2.2.2.2.1 u.2.2.2.2.2.2.2.2.2.2.2) (fun u => wC ad s_bk s_ln s_kd s_vl s_ct k_ce k_bc m_ra m_up m_on m_lo m_hi m_mo m_ma m_li u.1 u.2.1 u.2.2.1 u.2.2.2.1 u.2.2.2.2.1 u.2.2.2.2.2.1 u.2.2.2.2.2.2.1 u.2.2.2.2.2.2.2.1 u.2.2.2.2.2.2.2.2.1 u.2.2.2.2.2.2.2.2.2.1 u.2.2.2.2.2.2.2.2.2.2.1 u.2.2.2.2.2.2.2.2.2.2.2 l_bk l_of l_en l_ct t_bk t_of t_en t_ct)) := by
  refine ct_of RN (by decide) rfl (Nat.le_of_ble_eq_true rfl) (fun G hl hD X hq => ?_)
  subst hl hD
  show go_ G 0 0 (wC ad s_bk s_ln s_kd s_vl s_ct k_ce k_bc m_ra m_up m_on m_lo m_hi m_mo m_ma m_li n_rg n_sb n_st n_pl n_z n_n n_h n_c n_en n_so n_co n_sc l_bk l_of l_en l_ct t_bk t_of t_en t_ct) 0 [(0, .ref (ad 11)), (1, .int a1)] []
  refine go_iload_n X 1 dN_obeySingle_0 rfl rfl ?_
  by_cases h9_0 : a1 = (0 : Int32)
  · have hw := hw.1 h9_0
    refine go_tin X (0 : Int32) dN_obeySingle_1 h9_0 (by decide) (by decide) rfl rfl ?_
    refine go_goto X dN_obeySingle_64 rfl ?_
    exact go_vreturn X hq dN_obeySingle_221 (n_rg, n_sb, n_st, n_pl, n_z, n_n, n_h, n_c, n_en, n_so, n_co, n_sc) hw rfl
  by_cases h9_1 : a1 = (1 : Int32)
  · have hw := hw.2.1 h9_1
    refine go_tin X (1 : Int32) dN_obeySingle_1 h9_1 (by decide) (by decide) rfl rfl ?_
    refine go_aload_n X 0 dN_obeySingle_67 rfl rfl ?_
    refine go_iconst X dN_obeySingle_68 kc_i1 ?_
    refine k_N_endAs X hw mw_N_119 ⟨by decide, by decide⟩ (Nat.le_of_ble_eq_true rfl) ⟨Nat.zero_le _, Nat.zero_le _⟩ dN_obeySingle_69 (fun w1 w2 hw => ?_)
    refine go_goto X dN_obeySingle_72 rfl ?_
    exact go_vreturn X hq dN_obeySingle_221 (n_rg, n_sb, n_st, w1, n_z, n_n, n_h, n_c, n_en, n_so, w2, n_sc) hw rfl
  by_cases h9_2 : a1 = (2 : Int32)
  · have hw := hw.2.2.1 h9_2
    refine go_tin X (2 : Int32) dN_obeySingle_1 h9_2 (by decide) (by decide) rfl rfl ?_
    refine go_aload_n X 0 dN_obeySingle_75 rfl rfl ?_
    refine go_iconst X dN_obeySingle_76 kc_i2 ?_
    refine k_N_endAs X hw mw_N_119 ⟨by decide, by decide⟩ (Nat.le_of_ble_eq_true rfl) ⟨Nat.zero_le _, Nat.zero_le _⟩ dN_obeySingle_77 (fun w3 w4 hw => ?_)
    refine go_goto X dN_obeySingle_80 rfl ?_
    exact go_vreturn X hq dN_obeySingle_221 (n_rg, n_sb, n_st, w3, n_z, n_n, n_h, n_c, n_en, n_so, w4, n_sc) hw rfl
  by_cases h9_3 : a1 = (3 : Int32)
  · have hw := hw.2.2.2.1 h9_3
    refine go_tin X (3 : Int32) dN_obeySingle_1 h9_3 (by decide) (by decide) rfl rfl ?_
    refine go_aload_n X 0 dN_obeySingle_83 rfl rfl ?_
    refine go_iconst X dN_obeySingle_84 kc_i0 ?_
    refine pt_N_36 X (Or.inl rfl) dN_obeySingle_85 ?_
    refine go_goto X dN_obeySingle_88 rfl ?_
    exact go_vreturn X hq dN_obeySingle_221 (n_rg, n_sb, n_st, n_pl, n_z, n_n, n_h, n_c, (0 : Int32), n_so, n_co, n_sc) hw rfl
  by_cases h9_4 : a1 = (4 : Int32)
  · have hw := hw.2.2.2.2.1 h9_4
    refine go_tin X (4 : Int32) dN_obeySingle_1 h9_4 (by decide) (by decide) rfl rfl ?_
    refine go_aload_n X 0 dN_obeySingle_91 rfl rfl ?_
    refine go_iconst X dN_obeySingle_92 kc_i1 ?_
    refine pt_N_40 X (Or.inr rfl) dN_obeySingle_93 ?_
    refine go_goto X dN_obeySingle_96 rfl ?_
    exact go_vreturn X hq dN_obeySingle_221 (n_rg, n_sb, n_st, n_pl, n_z, n_n, n_h, n_c, n_en, (1 : Int32), n_co, n_sc) hw rfl
  by_cases h9_5 : a1 = (5 : Int32)
  · have hw := hw.2.2.2.2.2.1 h9_5
    refine go_tin X (5 : Int32) dN_obeySingle_1 h9_5 (by decide) (by decide) rfl rfl ?_
    refine go_aload_n X 0 dN_obeySingle_99 rfl rfl ?_
    refine go_aload_n X 0 dN_obeySingle_100 rfl rfl ?_
    refine k_N_pull X hw mw_N_122 ⟨by decide, by decide⟩ (Nat.le_of_ble_eq_true rfl) ⟨Nat.zero_le _, Nat.zero_le _⟩ dN_obeySingle_101 (fun r5 w6 hw => ?_)
    refine pt_N_29 X dN_obeySingle_104 ?_
    refine go_aload_n X 0 dN_obeySingle_107 rfl rfl ?_
    refine go_iconst X dN_obeySingle_108 kc_i1 ?_
    refine pt_N_36 X (Or.inr rfl) dN_obeySingle_109 ?_
    refine go_goto X dN_obeySingle_112 rfl ?_
    exact go_vreturn X hq dN_obeySingle_221 (n_rg, n_sb, w6, r5, n_z, n_n, n_h, n_c, (1 : Int32), n_so, n_co, n_sc) hw rfl
  by_cases h9_6 : a1 = (6 : Int32)
  · have hw := hw.2.2.2.2.2.2.1 h9_6
    refine go_tin X (6 : Int32) dN_obeySingle_1 h9_6 (by decide) (by decide) rfl rfl ?_
    refine go_aload_n X 0 dN_obeySingle_115 rfl rfl ?_
    refine k_N_adjust X hw mw_N_125 ⟨by decide, by decide⟩ (Nat.le_of_ble_eq_true rfl) ⟨Nat.zero_le _, Nat.zero_le _⟩ dN_obeySingle_116 (fun w7 w8 w9 w10 w11 hw => ?_)
    refine go_goto X dN_obeySingle_119 rfl ?_
    exact go_vreturn X hq dN_obeySingle_221 (w7, n_sb, n_st, n_pl, w8, w9, w10, w11, n_en, n_so, n_co, n_sc) hw rfl
  by_cases h9_7 : a1 = (7 : Int32)
  · have hw := hw.2.2.2.2.2.2.2.1 h9_7
    refine go_tin X (7 : Int32) dN_obeySingle_1 h9_7 (by decide) (by decide) rfl rfl ?_
    refine go_aload_n X 0 dN_obeySingle_122 rfl rfl ?_
    refine gt_N_9 X dN_obeySingle_123 ?_
    refine go_bipush X dN_obeySingle_126 kc_b7 ?_
    refine go_dup2 X dN_obeySingle_128 rfl rfl ?_
    refine ar_n_rg X vi_7_8 dN_obeySingle_129 ?_
    refine go_sipush X dN_obeySingle_130 kc_s255 ?_
    refine go_ixor X dN_obeySingle_133 ?_
    refine as_n_rg X vi_7_8 dN_obeySingle_134 ?_
    refine go_aload_n X 0 dN_obeySingle_135 rfl rfl ?_
    refine go_aload_n X 0 dN_obeySingle_136 rfl rfl ?_
    refine gt_N_58 X dN_obeySingle_137 ?_
    refine go_iconst X dN_obeySingle_140 kc_i1 ?_
    refine go_iconst X dN_obeySingle_141 kc_i1 ?_
    refine go_aload_n X 0 dN_obeySingle_142 rfl rfl ?_
    refine gt_N_128 X dN_obeySingle_143 ?_
    refine k_N_setFlags X hw mw_N_32 ⟨by decide, by decide⟩ (Nat.le_of_ble_eq_true rfl) ⟨Nat.zero_le _, Nat.zero_le _⟩ dN_obeySingle_146 (fun w12 w13 w14 w15 hw => ?_)
    refine go_goto X dN_obeySingle_149 rfl ?_
    exact go_vreturn X hq dN_obeySingle_221 (upd n_rg (7 : Int32).toNatClampNeg ((n_rg (7 : Int32).toNatClampNeg) ^^^ (255 : Int32)), n_sb, n_st, n_pl, w12, w13, w14, w15, n_en, n_so, n_co, n_sc) hw rfl
  by_cases h9_8 : a1 = (8 : Int32)
  · have hw := hw.2.2.2.2.2.2.2.2.1 h9_8
    refine go_tin X (8 : Int32) dN_obeySingle_1 h9_8 (by decide) (by decide) rfl rfl ?_
    refine go_aload_n X 0 dN_obeySingle_152 rfl rfl ?_
    refine go_aload_n X 0 dN_obeySingle_153 rfl rfl ?_
    refine gt_N_58 X dN_obeySingle_154 ?_
    refine go_iconst X dN_obeySingle_157 kc_i0 ?_
    refine go_iconst X dN_obeySingle_158 kc_i0 ?_
    refine go_iconst X dN_obeySingle_159 kc_i1 ?_
    refine k_N_setFlags X hw mw_N_32 ⟨by decide, by decide⟩ (Nat.le_of_ble_eq_true rfl) ⟨Nat.zero_le _, Nat.zero_le _⟩ dN_obeySingle_160 (fun w16 w17 w18 w19 hw => ?_)
    refine go_goto X dN_obeySingle_163 rfl ?_
    exact go_vreturn X hq dN_obeySingle_221 (n_rg, n_sb, n_st, n_pl, w16, w17, w18, w19, n_en, n_so, n_co, n_sc) hw rfl
  by_cases h9_9 : a1 = (9 : Int32)
  · have hw := hw.2.2.2.2.2.2.2.2.2.1 h9_9
    refine go_tin X (9 : Int32) dN_obeySingle_1 h9_9 (by decide) (by decide) rfl rfl ?_
    refine go_aload_n X 0 dN_obeySingle_166 rfl rfl ?_
    refine go_aload_n X 0 dN_obeySingle_167 rfl rfl ?_
    refine gt_N_58 X dN_obeySingle_168 ?_
    refine go_iconst X dN_obeySingle_171 kc_i0 ?_
    refine go_iconst X dN_obeySingle_172 kc_i0 ?_
    refine go_aload_n X 0 dN_obeySingle_173 rfl rfl ?_
    refine gt_N_128 X dN_obeySingle_174 ?_
    refine go_if_ne X dN_obeySingle_177 rfl (fun hc => ?_) (fun hc => ?_)
    · have hw := hw.1 hc
      refine go_iconst X dN_obeySingle_184 kc_i0 ?_
      refine k_N_setFlags X hw mw_N_32 ⟨by decide, by decide⟩ (Nat.le_of_ble_eq_true rfl) ⟨Nat.zero_le _, Nat.zero_le _⟩ dN_obeySingle_185 (fun w20 w21 w22 w23 hw => ?_)
      refine go_goto X dN_obeySingle_188 rfl ?_
      exact go_vreturn X hq dN_obeySingle_221 (n_rg, n_sb, n_st, n_pl, w20, w21, w22, w23, n_en, n_so, n_co, n_sc) hw rfl
    · have hw := hw.2 hc
      refine go_iconst X dN_obeySingle_180 kc_i1 ?_
      refine go_goto X dN_obeySingle_181 rfl ?_
      refine k_N_setFlags X hw mw_N_32 ⟨by decide, by decide⟩ (Nat.le_of_ble_eq_true rfl) ⟨Nat.zero_le _, Nat.zero_le _⟩ dN_obeySingle_185 (fun w24 w25 w26 w27 hw => ?_)
      refine go_goto X dN_obeySingle_188 rfl ?_
      exact go_vreturn X hq dN_obeySingle_221 (n_rg, n_sb, n_st, n_pl, w24, w25, w26, w27, n_en, n_so, n_co, n_sc) hw rfl
  by_cases h9_10 : a1 = (10 : Int32)
  · have hw := hw.2.2.2.2.2.2.2.2.2.2.1 h9_10
    refine go_tin X (10 : Int32) dN_obeySingle_1 h9_10 (by decide) (by decide) rfl rfl ?_
    refine go_aload_n X 0 dN_obeySingle_191 rfl rfl ?_
    refine go_aload_n X 0 dN_obeySingle_192 rfl rfl ?_
    refine k_N_pull X hw mw_N_122 ⟨by decide, by decide⟩ (Nat.le_of_ble_eq_true rfl) ⟨Nat.zero_le _, Nat.zero_le _⟩ dN_obeySingle_193 (fun r28 w29 hw => ?_)
    refine pt_N_29 X dN_obeySingle_196 ?_
    refine go_goto X dN_obeySingle_199 rfl ?_
    exact go_vreturn X hq dN_obeySingle_221 (n_rg, n_sb, w29, r28, n_z, n_n, n_h, n_c, n_en, n_so, n_co, n_sc) hw rfl
  by_cases h9_11 : a1 = (11 : Int32)
  · have hw := hw.2.2.2.2.2.2.2.2.2.2.2.1 h9_11
    refine go_tin X (11 : Int32) dN_obeySingle_1 h9_11 (by decide) (by decide) rfl rfl ?_
    refine go_aload_n X 0 dN_obeySingle_202 rfl rfl ?_
    refine go_aload_n X 0 dN_obeySingle_203 rfl rfl ?_
    refine gt_N_9 X dN_obeySingle_204 ?_
    refine go_bipush X dN_obeySingle_207 kc_b7 ?_
    refine ar_n_rg X vi_7_8 dN_obeySingle_209 ?_
    refine k_N_send X hw mw_N_131 ⟨by decide, by decide⟩ (Nat.le_of_ble_eq_true rfl) ⟨Nat.zero_le _, Nat.zero_le _⟩ dN_obeySingle_210 (fun w30 w31 hw => ?_)
    refine go_goto X dN_obeySingle_213 rfl ?_
    exact go_vreturn X hq dN_obeySingle_221 (n_rg, w30, n_st, n_pl, n_z, n_n, n_h, n_c, n_en, n_so, n_co, w31) hw rfl
  have hw := hw.2.2.2.2.2.2.2.2.2.2.2.2 h9_0 h9_1 h9_2 h9_3 h9_4 h9_5 h9_6 h9_7 h9_8 h9_9 h9_10 h9_11
  have t9_0 := go_neT h9_0 (z := 0) (by decide)
  have t9_1 := go_neT h9_1 (z := 1) (by decide)
  have t9_2 := go_neT h9_2 (z := 2) (by decide)
  have t9_3 := go_neT h9_3 (z := 3) (by decide)
  have t9_4 := go_neT h9_4 (z := 4) (by decide)
  have t9_5 := go_neT h9_5 (z := 5) (by decide)
  have t9_6 := go_neT h9_6 (z := 6) (by decide)
  have t9_7 := go_neT h9_7 (z := 7) (by decide)
  have t9_8 := go_neT h9_8 (z := 8) (by decide)
  have t9_9 := go_neT h9_9 (z := 9) (by decide)
  have t9_10 := go_neT h9_10 (z := 10) (by decide)
  have t9_11 := go_neT h9_11 (z := 11) (by decide)
  refine go_tout X dN_obeySingle_1 (by omega) rfl ?_
  refine go_aload_n X 0 dN_obeySingle_216 rfl rfl ?_
  refine go_iconst X dN_obeySingle_217 kc_i3 ?_
  refine k_N_endAs X hw mw_N_119 ⟨by decide, by decide⟩ (Nat.le_of_ble_eq_true rfl) ⟨Nat.zero_le _, Nat.zero_le _⟩ dN_obeySingle_218 (fun w32 w33 hw => ?_)
  exact go_vreturn X hq dN_obeySingle_221 (n_rg, n_sb, n_st, w32, n_z, n_n, n_h, n_c, n_en, n_so, w33, n_sc) hw rfl
theorem k_N_obeySingle {G : gt_} {ad : Nat → Nat} {cc : ByteArray} {own : String} {fr lo n cells slots pc index : Nat} {lc : List (Nat × Value)} {rest : List Value} {s_bk s_ln s_kd s_vl : Nat → Int32} {s_ct : Int32} {k_ce : Nat → Int32} {k_bc : Int32} {m_ra m_up : Nat → Int32} {m_on m_lo m_hi m_mo m_ma m_li : Int32} {n_rg n_sb : Nat → Int32} {n_st n_pl n_z n_n n_h n_c n_en n_so n_co n_sc : Int32} {l_bk l_of l_en : Nat → Int32} {l_ct : Int32} {t_bk t_of t_en : Nat → Int32} {t_ct : Int32} {a1 : Int32} {P : (Nat → Int32) → (Nat → Int32) → (Int32) → (Int32) → (Int32) → (Int32) → (Int32) → (Int32) → (Int32) → (Int32) → (Int32) → (Int32) → Prop} (X : cx_ G ad cc own fr lo n) (hw : wp_N_obeySingle k_ce k_bc m_ra m_up m_on m_lo m_hi m_mo m_ma m_li n_rg n_sb n_st n_pl n_z n_n n_h n_c n_en n_so n_co n_sc a1 P) (m1 : Cond.methodLink own index yN_obeySingle ∈ wS) (hlv : 3 + 1 ≤ fr ∧ 8 + (2 + 11) + 64 ≤ lo) (hrs : (rest.map fun v => v.category).sum ≤ 8) (hcs : cells ≤ (gR_ G).cells ∧ slots ≤ (gR_ G).slots) (d : decode cc pc = .ok (.invokevirtual index, 3))
    (kk : ∀ (n_rg' n_sb' : Nat → Int32) (n_st' n_pl' n_z' n_n' n_h' n_c' n_en' n_so' n_co' n_sc' : Int32), P n_rg' n_sb' n_st' n_pl' n_z' n_n' n_h' n_c' n_en' n_so' n_co' n_sc' → go_ G cells slots (wC ad s_bk s_ln s_kd s_vl s_ct k_ce k_bc m_ra m_up m_on m_lo m_hi m_mo m_ma m_li n_rg' n_sb' n_st' n_pl' n_z' n_n' n_h' n_c' n_en' n_so' n_co' n_sc' l_bk l_of l_en l_ct t_bk t_of t_en t_ct) (pc + 3) lc (rest)) : go_ G cells slots (wC ad s_bk s_ln s_kd s_vl s_ct k_ce k_bc m_ra m_up m_on m_lo m_hi m_mo m_ma m_li n_rg n_sb n_st n_pl n_z n_n n_h n_c n_en n_so n_co n_sc l_bk l_of l_en l_ct t_bk t_of t_en t_ct) pc lc (.int a1 :: .ref (ad 11) :: rest) :=
  go_cvv X (c_N_obeySingle hw) me_N_obeySingle m1 hlv 11 rfl rfl rfl hrs hcs d (fun u hp => kk u.1 u.2.1 u.2.2.1 u.2.2.2.1 u.2.2.2.2.1 u.2.2.2.2.2.1 u.2.2.2.2.2.2.1 u.2.2.2.2.2.2.2.1 u.2.2.2.2.2.2.2.2.1 u.2.2.2.2.2.2.2.2.2.1 u.2.2.2.2.2.2.2.2.2.2.1 u.2.2.2.2.2.2.2.2.2.2.2 hp)
set_option maxRecDepth 100000 in
set_option maxHeartbeats 4000000 in
theorem c_N_shown {l : Launch} {D : va_G} {ad : Nat → Nat} {s_bk s_ln s_kd s_vl : Nat → Int32} {s_ct : Int32} {k_ce : Nat → Int32} {k_bc : Int32} {m_ra m_up : Nat → Int32} {m_on m_lo m_hi m_mo m_ma m_li : Int32} {n_rg n_sb : Nat → Int32} {n_st n_pl n_z n_n n_h n_c n_en n_so n_co n_sc : Int32} {l_bk l_of l_en : Nat → Int32} {l_ct : Int32} {t_bk t_of t_en : Nat → Int32} {t_ct : Int32} {a1 : Int32} {P : Int32 → Prop} (hw : wp_N_shown k_ce k_bc m_ra m_up m_on m_lo m_hi m_mo m_ma m_li n_rg n_st n_pl n_z n_n n_h n_c n_en a1 P) : ct_ l yN_shown bN_shown 2 (some .int) 3 64 D ad [.ref (ad 11), .int a1] (wC ad s_bk s_ln s_kd s_vl s_ct k_ce k_bc m_ra m_up m_on m_lo m_hi m_mo m_ma m_li n_rg n_sb n_st n_pl n_z n_n n_h n_c n_en n_so n_co n_sc l_bk l_of l_en l_ct t_bk t_of t_en t_ct) (qi_ D (fun (r : Int32) (_ : Unit) => P r ) (fun _ => (wC ad s_bk s_ln s_kd s_vl s_ct k_ce k_bc m_ra m_up m_on m_lo m_hi m_mo m_ma m_li n_rg n_sb n_st n_pl n_z n_n n_h n_c n_en n_so n_co n_sc l_bk l_of l_en l_ct t_bk t_of t_en t_ct))) := by
  refine ct_of RN (by decide) rfl (Nat.le_of_ble_eq_true rfl) (fun G hl hD X hq => ?_)
  subst hl hD
  show go_ G 0 0 (wC ad s_bk s_ln s_kd s_vl s_ct k_ce k_bc m_ra m_up m_on m_lo m_hi m_mo m_ma m_li n_rg n_sb n_st n_pl n_z n_n n_h n_c n_en n_so n_co n_sc l_bk l_of l_en l_ct t_bk t_of t_en t_ct) 0 [(0, .ref (ad 11)), (1, .int a1)] []
  have C71 : ∀ (y0 y1 : Int32), wp_N_shown_71 k_ce k_bc m_ra m_up m_on m_lo m_hi m_mo m_ma m_li n_rg n_st n_pl n_z n_n n_h n_c n_en P y0 y1 → go_ G 0 0 (wC ad s_bk s_ln s_kd s_vl s_ct k_ce k_bc m_ra m_up m_on m_lo m_hi m_mo m_ma m_li n_rg n_sb n_st n_pl n_z n_n n_h n_c n_en n_so n_co n_sc l_bk l_of l_en l_ct t_bk t_of t_en t_ct) 71 [(0, .ref (ad 11))] [.int y0, .int y1] := by
    intro y0 y1 hw
    refine go_iadd X dN_shown_71 ?_
    refine go_aload_n X 0 dN_shown_72 rfl rfl ?_
    refine gt_N_64 X dN_shown_73 ?_
    refine go_if_eq X dN_shown_76 rfl (fun hc => ?_) (fun hc => ?_)
    · have hw := hw.1 hc
      refine go_iconst X dN_shown_83 kc_i0 ?_
      refine go_iadd X dN_shown_84 ?_
      refine go_aload_n X 0 dN_shown_85 rfl rfl ?_
      refine k_N_carryBit X hw mw_N_67 ⟨by decide, by decide⟩ (Nat.le_of_ble_eq_true rfl) ⟨Nat.zero_le _, Nat.zero_le _⟩ dN_shown_86 (fun r3 hw => ?_)
      refine go_iadd X dN_shown_89 ?_
      exact go_ireturn X hq dN_shown_90 () hw rfl
    · have hw := hw.2 hc
      refine go_iconst X dN_shown_79 kc_i2 ?_
      refine go_goto X dN_shown_80 rfl ?_
      refine go_iadd X dN_shown_84 ?_
      refine go_aload_n X 0 dN_shown_85 rfl rfl ?_
      refine k_N_carryBit X hw mw_N_67 ⟨by decide, by decide⟩ (Nat.le_of_ble_eq_true rfl) ⟨Nat.zero_le _, Nat.zero_le _⟩ dN_shown_86 (fun r4 hw => ?_)
      refine go_iadd X dN_shown_89 ?_
      exact go_ireturn X hq dN_shown_90 () hw rfl
  refine go_iload_n X 1 dN_shown_0 rfl rfl ?_
  by_cases h9_0 : a1 = (8 : Int32)
  · have hw := hw.1 h9_0
    refine go_tin X (8 : Int32) dN_shown_1 h9_0 (by decide) (by decide) rfl rfl ?_
    refine go_aload_n X 0 dN_shown_36 rfl rfl ?_
    refine gt_N_25 X dN_shown_37 ?_
    exact go_ireturn X hq dN_shown_40 () hw rfl
  by_cases h9_1 : a1 = (9 : Int32)
  · have hw := hw.2.1 h9_1
    refine go_tin X (9 : Int32) dN_shown_1 h9_1 (by decide) (by decide) rfl rfl ?_
    refine go_aload_n X 0 dN_shown_41 rfl rfl ?_
    refine gt_N_29 X dN_shown_42 ?_
    exact go_ireturn X hq dN_shown_45 () hw rfl
  by_cases h9_2 : a1 = (10 : Int32)
  · have hw := hw.2.2.1 h9_2
    refine go_tin X (10 : Int32) dN_shown_1 h9_2 (by decide) (by decide) rfl rfl ?_
    refine go_aload_n X 0 dN_shown_46 rfl rfl ?_
    refine gt_N_58 X dN_shown_47 ?_
    refine go_if_eq X dN_shown_50 rfl (fun hc => ?_) (fun hc => ?_)
    · have hw := hw.1 hc
      refine go_iconst X dN_shown_58 kc_i0 ?_
      refine go_aload_n X 0 dN_shown_59 rfl rfl ?_
      refine gt_N_61 X dN_shown_60 ?_
      refine go_if_eq X dN_shown_63 rfl (fun hc => ?_) (fun hc => ?_)
      · have hw := hw.1 hc
        refine go_iconst X dN_shown_70 kc_i0 ?_
        refine go_lc [0] rfl ?_
        exact C71 _ _ hw
      · have hw := hw.2 hc
        refine go_iconst X dN_shown_66 kc_i4 ?_
        refine go_goto X dN_shown_67 rfl ?_
        refine go_lc [0] rfl ?_
        exact C71 _ _ hw
    · have hw := hw.2 hc
      refine go_bipush X dN_shown_53 kc_b8 ?_
      refine go_goto X dN_shown_55 rfl ?_
      refine go_aload_n X 0 dN_shown_59 rfl rfl ?_
      refine gt_N_61 X dN_shown_60 ?_
      refine go_if_eq X dN_shown_63 rfl (fun hc => ?_) (fun hc => ?_)
      · have hw := hw.1 hc
        refine go_iconst X dN_shown_70 kc_i0 ?_
        refine go_lc [0] rfl ?_
        exact C71 _ _ hw
      · have hw := hw.2 hc
        refine go_iconst X dN_shown_66 kc_i4 ?_
        refine go_goto X dN_shown_67 rfl ?_
        refine go_lc [0] rfl ?_
        exact C71 _ _ hw
  by_cases h9_3 : a1 = (11 : Int32)
  · have hw := hw.2.2.2.1 h9_3
    refine go_tin X (11 : Int32) dN_shown_1 h9_3 (by decide) (by decide) rfl rfl ?_
    refine go_aload_n X 0 dN_shown_91 rfl rfl ?_
    refine gt_N_18 X dN_shown_92 ?_
    refine k_M_switches X hw mw_N_71 ⟨by decide, by decide⟩ (Nat.le_of_ble_eq_true rfl) ⟨Nat.zero_le _, Nat.zero_le _⟩ dN_shown_95 (fun r1 hw => ?_)
    exact go_ireturn X hq dN_shown_98 () hw rfl
  by_cases h9_4 : a1 = (12 : Int32)
  · have hw := hw.2.2.2.2.1 h9_4
    refine go_tin X (12 : Int32) dN_shown_1 h9_4 (by decide) (by decide) rfl rfl ?_
    refine go_aload_n X 0 dN_shown_99 rfl rfl ?_
    refine gt_N_36 X dN_shown_100 ?_
    refine go_if_eq X dN_shown_103 rfl (fun hc => ?_) (fun hc => ?_)
    · have hw := hw.1 hc
      refine go_iconst X dN_shown_110 kc_i0 ?_
      exact go_ireturn X hq dN_shown_111 () hw rfl
    · have hw := hw.2 hc
      refine go_iconst X dN_shown_106 kc_i1 ?_
      refine go_goto X dN_shown_107 rfl ?_
      exact go_ireturn X hq dN_shown_111 () hw rfl
  have hw := hw.2.2.2.2.2 h9_0 h9_1 h9_2 h9_3 h9_4
  have t9_0 := go_neT h9_0 (z := 8) (by decide)
  have t9_1 := go_neT h9_1 (z := 9) (by decide)
  have t9_2 := go_neT h9_2 (z := 10) (by decide)
  have t9_3 := go_neT h9_3 (z := 11) (by decide)
  have t9_4 := go_neT h9_4 (z := 12) (by decide)
  refine go_tout X dN_shown_1 (by omega) rfl ?_
  refine go_aload_n X 0 dN_shown_112 rfl rfl ?_
  refine go_iload_n X 1 dN_shown_113 rfl rfl ?_
  refine go_bipush X dN_shown_114 kc_b7 ?_
  refine go_iand X dN_shown_116 ?_
  refine k_N_get X hw mw_N_74 ⟨by decide, by decide⟩ (Nat.le_of_ble_eq_true rfl) ⟨Nat.zero_le _, Nat.zero_le _⟩ dN_shown_117 (fun r2 hw => ?_)
  exact go_ireturn X hq dN_shown_120 () hw rfl
theorem k_N_shown {G : gt_} {ad : Nat → Nat} {cc : ByteArray} {own : String} {fr lo n cells slots pc index : Nat} {lc : List (Nat × Value)} {rest : List Value} {s_bk s_ln s_kd s_vl : Nat → Int32} {s_ct : Int32} {k_ce : Nat → Int32} {k_bc : Int32} {m_ra m_up : Nat → Int32} {m_on m_lo m_hi m_mo m_ma m_li : Int32} {n_rg n_sb : Nat → Int32} {n_st n_pl n_z n_n n_h n_c n_en n_so n_co n_sc : Int32} {l_bk l_of l_en : Nat → Int32} {l_ct : Int32} {t_bk t_of t_en : Nat → Int32} {t_ct : Int32} {a1 : Int32} {P : Int32 → Prop} (X : cx_ G ad cc own fr lo n) (hw : wp_N_shown k_ce k_bc m_ra m_up m_on m_lo m_hi m_mo m_ma m_li n_rg n_st n_pl n_z n_n n_h n_c n_en a1 P) (m1 : Cond.methodLink own index yN_shown ∈ wS) (hlv : 3 + 1 ≤ fr ∧ 8 + (2 + 11) + 64 ≤ lo) (hrs : (rest.map fun v => v.category).sum ≤ 8) (hcs : cells ≤ (gR_ G).cells ∧ slots ≤ (gR_ G).slots) (d : decode cc pc = .ok (.invokevirtual index, 3))
    (kk : ∀ (r : Int32), P r → go_ G cells slots (wC ad s_bk s_ln s_kd s_vl s_ct k_ce k_bc m_ra m_up m_on m_lo m_hi m_mo m_ma m_li n_rg n_sb n_st n_pl n_z n_n n_h n_c n_en n_so n_co n_sc l_bk l_of l_en l_ct t_bk t_of t_en t_ct) (pc + 3) lc (.int r :: rest)) : go_ G cells slots (wC ad s_bk s_ln s_kd s_vl s_ct k_ce k_bc m_ra m_up m_on m_lo m_hi m_mo m_ma m_li n_rg n_sb n_st n_pl n_z n_n n_h n_c n_en n_so n_co n_sc l_bk l_of l_en l_ct t_bk t_of t_en t_ct) pc lc (.int a1 :: .ref (ad 11) :: rest) :=
  go_cvi X (c_N_shown hw) me_N_shown m1 hlv 11 rfl rfl rfl hrs hcs d (fun r _ hp => kk r  hp)
set_option maxRecDepth 100000 in
set_option maxHeartbeats 4000000 in
theorem c_N_obey {l : Launch} {D : va_G} {ad : Nat → Nat} {s_bk s_ln s_kd s_vl : Nat → Int32} {s_ct : Int32} {k_ce : Nat → Int32} {k_bc : Int32} {m_ra m_up : Nat → Int32} {m_on m_lo m_hi m_mo m_ma m_li : Int32} {n_rg n_sb : Nat → Int32} {n_st n_pl n_z n_n n_h n_c n_en n_so n_co n_sc : Int32} {l_bk l_of l_en : Nat → Int32} {l_ct : Int32} {t_bk t_of t_en : Nat → Int32} {t_ct : Int32} {a1 : Int32} {P : (Nat → Int32) → (Nat → Int32) → (Int32) → (Int32) → (Int32) → (Int32) → (Int32) → (Int32) → (Nat → Int32) → (Nat → Int32) → (Int32) → (Int32) → (Int32) → (Int32) → (Int32) → (Int32) → (Int32) → (Int32) → (Int32) → (Int32) → Prop} (hw : wp_N_obey k_ce k_bc m_ra m_up m_on m_lo m_hi m_mo m_ma m_li n_rg n_sb n_st n_pl n_z n_n n_h n_c n_en n_so n_co n_sc a1 P) : ct_ l yN_obey bN_obey 4 none 4 93 D ad [.ref (ad 11), .int a1] (wC ad s_bk s_ln s_kd s_vl s_ct k_ce k_bc m_ra m_up m_on m_lo m_hi m_mo m_ma m_li n_rg n_sb n_st n_pl n_z n_n n_h n_c n_en n_so n_co n_sc l_bk l_of l_en l_ct t_bk t_of t_en t_ct) (qv_ D (fun (u : (Nat → Int32) × (Nat → Int32) × (Int32) × (Int32) × (Int32) × (Int32) × (Int32) × (Int32) × (Nat → Int32) × (Nat → Int32) × (Int32) × (Int32) × (Int32) × (Int32) × (Int32) × (Int32) × (Int32) × (Int32) × (Int32) × (Int32)) => P u.1 u.2.1 u.2.2.1 u.2.2.2.1 u.2.2.2.2.1 u.2.2.2.2.2.1 u.2.2.2.2.2.2.1 u.2.2.2.2.2.2.2.1 u.2.2.2.2.2.2.2.2.1 u.2.2.2.2.2.2.2.2.2.1 u.2.2.2.2.2.2.2.2.2.2.1 u.2.2.2.2.2.2.2.2.2.2.2.1 u.2.2.2.2.2.2.2.2.2.2.2.2.1 u.2.2.2.2.2.2.2.2.2.2.2.2.2.1 u.2.2.2.2.2.2.2.2.2.2.2.2.2.2.1 u.2.2.2.2.2.2.2.2.2.2.2.2.2.2.2.1 u.2.2.2.2.2.2.2.2.2.2.2.2.2.2.2.2.1 u.2.2.2.2.2.2.2.2.2.2.2.2.2.2.2.2.2.1 u.2.2.2.2.2.2.2.2.2.2.2.2.2.2.2.2.2.2.1 u.2.2.2.2.2.2.2.2.2.2.2.2.2.2.2.2.2.2.2) (fun u => wC ad s_bk s_ln s_kd s_vl s_ct k_ce k_bc u.1 u.2.1 u.2.2.1 u.2.2.2.1 u.2.2.2.2.1 u.2.2.2.2.2.1 u.2.2.2.2.2.2.1 u.2.2.2.2.2.2.2.1 u.2.2.2.2.2.2.2.2.1 u.2.2.2.2.2.2.2.2.2.1 u.2.2.2.2.2.2.2.2.2.2.1 u.2.2.2.2.2.2.2.2.2.2.2.1 u.2.2.2.2.2.2.2.2.2.2.2.2.1 u.2.2.2.2.2.2.2.2.2.2.2.2.2.1 u.2.2.2.2.2.2.2.2.2.2.2.2.2.2.1 u.2.2.2.2.2.2.2.2.2.2.2.2.2.2.2.1 u.2.2.2.2.2.2.2.2.2.2.2.2.2.2.2.2.1 u.2.2.2.2.2.2.2.2.2.2.2.2.2.2.2.2.2.1 u.2.2.2.2.2.2.2.2.2.2.2.2.2.2.2.2.2.2.1 u.2.2.2.2.2.2.2.2.2.2.2.2.2.2.2.2.2.2.2 l_bk l_of l_en l_ct t_bk t_of t_en t_ct)) := by
  refine ct_of RN (by decide) rfl (Nat.le_of_ble_eq_true rfl) (fun G hl hD X hq => ?_)
  subst hl hD
  show go_ G 0 0 (wC ad s_bk s_ln s_kd s_vl s_ct k_ce k_bc m_ra m_up m_on m_lo m_hi m_mo m_ma m_li n_rg n_sb n_st n_pl n_z n_n n_h n_c n_en n_so n_co n_sc l_bk l_of l_en l_ct t_bk t_of t_en t_ct) 0 [(0, .ref (ad 11)), (1, .int a1)] []
  refine go_iload_n X 1 dN_obey_0 rfl rfl ?_
  refine go_iconst X dN_obey_1 kc_i3 ?_
  refine go_ishr X dN_obey_2 ?_
  refine go_nm (fun z1 ez1 => ?_)
  have hw := hw z1 ez1
  refine go_istore_n X dN_obey_3 rfl (by decide) rfl ?_
  refine go_iload_n X 2 dN_obey_4 rfl rfl ?_
  refine go_bipush X dN_obey_5 kc_b7 ?_
  refine go_iand X dN_obey_7 ?_
  refine go_nm (fun z2 ez2 => ?_)
  have hw := hw z2 ez2
  refine go_istore_n X dN_obey_8 rfl (by decide) rfl ?_
  refine go_iload_n X 1 dN_obey_9 rfl rfl ?_
  refine go_iconst X dN_obey_10 kc_i2 ?_
  refine go_icmp_ge X dN_obey_11 rfl (fun hc => ?_) (fun hc => ?_)
  · have hw := hw.1 hc
    refine go_iload_n X 1 dN_obey_22 rfl rfl ?_
    refine go_bipush X dN_obey_23 kc_b8 ?_
    refine go_icmp_ge X dN_obey_25 rfl (fun hc => ?_) (fun hc => ?_)
    · have hw := hw.1 hc
      refine go_iload_n X 1 dN_obey_37 rfl rfl ?_
      refine go_bipush X dN_obey_38 kc_b16 ?_
      refine go_icmp_ge X dN_obey_40 rfl (fun hc => ?_) (fun hc => ?_)
      · have hw := hw.1 hc
        refine go_iload_n X 1 dN_obey_59 rfl rfl ?_
        refine go_bipush X dN_obey_60 kc_b24 ?_
        refine go_icmp_ge X dN_obey_62 rfl (fun hc => ?_) (fun hc => ?_)
        · have hw := hw.1 hc
          refine go_iload_n X 1 dN_obey_81 rfl rfl ?_
          refine go_bipush X dN_obey_82 kc_b28 ?_
          refine go_icmp_ge X dN_obey_84 rfl (fun hc => ?_) (fun hc => ?_)
          · have hw := hw.1 hc
            refine go_iload_n X 1 dN_obey_99 rfl rfl ?_
            refine go_bipush X dN_obey_100 kc_b28 ?_
            refine go_icmp_ne X dN_obey_102 rfl (fun hc => ?_) (fun hc => ?_)
            · have hw := hw.1 hc
              refine go_iload_n X 3 dN_obey_117 rfl rfl ?_
              refine go_sipush X dN_obey_118 kc_s240 ?_
              refine go_icmp_ne X dN_obey_121 rfl (fun hc => ?_) (fun hc => ?_)
              · have hw := hw.1 hc
                refine go_aload_n X 2 dN_obey_135 rfl rfl ?_
                refine go_iconst X dN_obey_136 kc_i3 ?_
                refine k_N_endAs X hw mw_N_119 ⟨by decide, by decide⟩ (Nat.le_of_ble_eq_true rfl) ⟨Nat.zero_le _, Nat.zero_le _⟩ dN_obey_137 (fun w3 w4 hw => ?_)
                exact go_vreturn X hq dN_obey_140 (m_ra, m_up, m_on, m_lo, m_hi, m_mo, m_ma, m_li, n_rg, n_sb, n_st, w3, n_z, n_n, n_h, n_c, n_en, n_so, w4, n_sc) hw rfl
              · have hw := hw.2 hc
                refine go_aload_n X 2 dN_obey_124 rfl rfl ?_
                refine go_aload_n X 2 dN_obey_125 rfl rfl ?_
                refine k_N_next X hw mw_N_88 ⟨by decide, by decide⟩ (Nat.le_of_ble_eq_true rfl) ⟨Nat.zero_le _, Nat.zero_le _⟩ dN_obey_126 (fun r5 w6 hw => ?_)
                refine k_N_obeyOnBits X hw mw_N_116 ⟨by decide, by decide⟩ (Nat.le_of_ble_eq_true rfl) ⟨Nat.zero_le _, Nat.zero_le _⟩ dN_obey_129 (fun w7 w8 w9 w10 w11 w12 w13 w14 w15 w16 w17 w18 w19 hw => ?_)
                refine go_goto X dN_obey_132 rfl ?_
                exact go_vreturn X hq dN_obey_140 (w7, w8, w9, w10, w11, w12, w13, w14, w15, n_sb, n_st, w6, w16, w17, w18, w19, n_en, n_so, n_co, n_sc) hw rfl
            · have hw := hw.2 hc
              refine go_aload_n X 2 dN_obey_105 rfl rfl ?_
              refine go_iload_n X 0 dN_obey_106 rfl rfl ?_
              refine go_aload_n X 2 dN_obey_107 rfl rfl ?_
              refine k_N_next X hw mw_N_88 ⟨by decide, by decide⟩ (Nat.le_of_ble_eq_true rfl) ⟨Nat.zero_le _, Nat.zero_le _⟩ dN_obey_108 (fun r20 w21 hw => ?_)
              refine k_N_calculate X hw mw_N_110 ⟨by decide, by decide⟩ (Nat.le_of_ble_eq_true rfl) ⟨Nat.zero_le _, Nat.zero_le _⟩ dN_obey_111 (fun w22 w23 w24 w25 w26 hw => ?_)
              refine go_goto X dN_obey_114 rfl ?_
              exact go_vreturn X hq dN_obey_140 (m_ra, m_up, m_on, m_lo, m_hi, m_mo, m_ma, m_li, w22, n_sb, n_st, w21, w23, w24, w25, w26, n_en, n_so, n_co, n_sc) hw rfl
          · have hw := hw.2 hc
            refine go_aload_n X 2 dN_obey_87 rfl rfl ?_
            refine go_iload_n X 1 dN_obey_88 rfl rfl ?_
            refine go_bipush X dN_obey_89 kc_b24 ?_
            refine go_isub X dN_obey_91 ?_
            refine go_iload_n X 0 dN_obey_92 rfl rfl ?_
            refine k_N_obeyJump X hw mw_N_113 ⟨by decide, by decide⟩ (Nat.le_of_ble_eq_true rfl) ⟨Nat.zero_le _, Nat.zero_le _⟩ dN_obey_93 (fun w27 w28 w29 w30 w31 w32 w33 w34 w35 w36 w37 hw => ?_)
            refine go_goto X dN_obey_96 rfl ?_
            exact go_vreturn X hq dN_obey_140 (w27, w28, w29, w30, w31, w32, w33, w34, n_rg, n_sb, w35, w36, n_z, n_n, n_h, n_c, n_en, n_so, w37, n_sc) hw rfl
        · have hw := hw.2 hc
          refine go_aload_n X 2 dN_obey_65 rfl rfl ?_
          refine go_iload_n X 1 dN_obey_66 rfl rfl ?_
          refine go_bipush X dN_obey_67 kc_b16 ?_
          refine go_isub X dN_obey_69 ?_
          refine go_aload_n X 2 dN_obey_70 rfl rfl ?_
          refine go_iload_n X 0 dN_obey_71 rfl rfl ?_
          refine k_N_get X hw mw_N_74 ⟨by decide, by decide⟩ (Nat.le_of_ble_eq_true rfl) ⟨Nat.zero_le _, Nat.zero_le _⟩ dN_obey_72 (fun r38 hw => ?_)
          refine k_N_calculate X hw mw_N_110 ⟨by decide, by decide⟩ (Nat.le_of_ble_eq_true rfl) ⟨Nat.zero_le _, Nat.zero_le _⟩ dN_obey_75 (fun w39 w40 w41 w42 w43 hw => ?_)
          refine go_goto X dN_obey_78 rfl ?_
          exact go_vreturn X hq dN_obey_140 (m_ra, m_up, m_on, m_lo, m_hi, m_mo, m_ma, m_li, w39, n_sb, n_st, n_pl, w40, w41, w42, w43, n_en, n_so, n_co, n_sc) hw rfl
      · have hw := hw.2 hc
        refine go_aload_n X 2 dN_obey_43 rfl rfl ?_
        refine go_iload_n X 1 dN_obey_44 rfl rfl ?_
        refine go_bipush X dN_obey_45 kc_b8 ?_
        refine go_isub X dN_obey_47 ?_
        refine go_aload_n X 2 dN_obey_48 rfl rfl ?_
        refine go_iload_n X 0 dN_obey_49 rfl rfl ?_
        refine k_N_get X hw mw_N_74 ⟨by decide, by decide⟩ (Nat.le_of_ble_eq_true rfl) ⟨Nat.zero_le _, Nat.zero_le _⟩ dN_obey_50 (fun r44 hw => ?_)
        refine k_N_set X hw mw_N_107 ⟨by decide, by decide⟩ (Nat.le_of_ble_eq_true rfl) ⟨Nat.zero_le _, Nat.zero_le _⟩ dN_obey_53 (fun w45 w46 w47 w48 w49 w50 w51 w52 w53 hw => ?_)
        refine go_goto X dN_obey_56 rfl ?_
        exact go_vreturn X hq dN_obey_140 (w45, w46, w47, w48, w49, w50, w51, w52, w53, n_sb, n_st, n_pl, n_z, n_n, n_h, n_c, n_en, n_so, n_co, n_sc) hw rfl
    · have hw := hw.2 hc
      refine go_aload_n X 2 dN_obey_28 rfl rfl ?_
      refine go_iload_n X 1 dN_obey_29 rfl rfl ?_
      refine go_iload_n X 0 dN_obey_30 rfl rfl ?_
      refine k_N_obeyOnOne X hw mw_N_103 ⟨by decide, by decide⟩ (Nat.le_of_ble_eq_true rfl) ⟨Nat.zero_le _, Nat.zero_le _⟩ dN_obey_31 (fun w54 w55 w56 w57 w58 w59 w60 w61 w62 w63 w64 w65 w66 w67 w68 hw => ?_)
      refine go_goto X dN_obey_34 rfl ?_
      exact go_vreturn X hq dN_obey_140 (w54, w55, w56, w57, w58, w59, w60, w61, w62, n_sb, w63, w64, w65, w66, w67, w68, n_en, n_so, n_co, n_sc) hw rfl
  · have hw := hw.2 hc
    refine go_aload_n X 2 dN_obey_14 rfl rfl ?_
    refine go_iload_n X 3 dN_obey_15 rfl rfl ?_
    refine k_N_obeySingle X hw mw_N_100 ⟨by decide, by decide⟩ (Nat.le_of_ble_eq_true rfl) ⟨Nat.zero_le _, Nat.zero_le _⟩ dN_obey_16 (fun w69 w70 w71 w72 w73 w74 w75 w76 w77 w78 w79 w80 hw => ?_)
    refine go_goto X dN_obey_19 rfl ?_
    exact go_vreturn X hq dN_obey_140 (m_ra, m_up, m_on, m_lo, m_hi, m_mo, m_ma, m_li, w69, w70, w71, w72, w73, w74, w75, w76, w77, w78, w79, w80) hw rfl
theorem k_N_obey {G : gt_} {ad : Nat → Nat} {cc : ByteArray} {own : String} {fr lo n cells slots pc index : Nat} {lc : List (Nat × Value)} {rest : List Value} {s_bk s_ln s_kd s_vl : Nat → Int32} {s_ct : Int32} {k_ce : Nat → Int32} {k_bc : Int32} {m_ra m_up : Nat → Int32} {m_on m_lo m_hi m_mo m_ma m_li : Int32} {n_rg n_sb : Nat → Int32} {n_st n_pl n_z n_n n_h n_c n_en n_so n_co n_sc : Int32} {l_bk l_of l_en : Nat → Int32} {l_ct : Int32} {t_bk t_of t_en : Nat → Int32} {t_ct : Int32} {a1 : Int32} {P : (Nat → Int32) → (Nat → Int32) → (Int32) → (Int32) → (Int32) → (Int32) → (Int32) → (Int32) → (Nat → Int32) → (Nat → Int32) → (Int32) → (Int32) → (Int32) → (Int32) → (Int32) → (Int32) → (Int32) → (Int32) → (Int32) → (Int32) → Prop} (X : cx_ G ad cc own fr lo n) (hw : wp_N_obey k_ce k_bc m_ra m_up m_on m_lo m_hi m_mo m_ma m_li n_rg n_sb n_st n_pl n_z n_n n_h n_c n_en n_so n_co n_sc a1 P) (m1 : Cond.methodLink own index yN_obey ∈ wS) (hlv : 4 + 1 ≤ fr ∧ 8 + (4 + 11) + 93 ≤ lo) (hrs : (rest.map fun v => v.category).sum ≤ 8) (hcs : cells ≤ (gR_ G).cells ∧ slots ≤ (gR_ G).slots) (d : decode cc pc = .ok (.invokevirtual index, 3))
    (kk : ∀ (m_ra' m_up' : Nat → Int32) (m_on' m_lo' m_hi' m_mo' m_ma' m_li' : Int32) (n_rg' n_sb' : Nat → Int32) (n_st' n_pl' n_z' n_n' n_h' n_c' n_en' n_so' n_co' n_sc' : Int32), P m_ra' m_up' m_on' m_lo' m_hi' m_mo' m_ma' m_li' n_rg' n_sb' n_st' n_pl' n_z' n_n' n_h' n_c' n_en' n_so' n_co' n_sc' → go_ G cells slots (wC ad s_bk s_ln s_kd s_vl s_ct k_ce k_bc m_ra' m_up' m_on' m_lo' m_hi' m_mo' m_ma' m_li' n_rg' n_sb' n_st' n_pl' n_z' n_n' n_h' n_c' n_en' n_so' n_co' n_sc' l_bk l_of l_en l_ct t_bk t_of t_en t_ct) (pc + 3) lc (rest)) : go_ G cells slots (wC ad s_bk s_ln s_kd s_vl s_ct k_ce k_bc m_ra m_up m_on m_lo m_hi m_mo m_ma m_li n_rg n_sb n_st n_pl n_z n_n n_h n_c n_en n_so n_co n_sc l_bk l_of l_en l_ct t_bk t_of t_en t_ct) pc lc (.int a1 :: .ref (ad 11) :: rest) :=
  go_cvv X (c_N_obey hw) me_N_obey m1 hlv 11 rfl rfl rfl hrs hcs d (fun u hp => kk u.1 u.2.1 u.2.2.1 u.2.2.2.1 u.2.2.2.2.1 u.2.2.2.2.2.1 u.2.2.2.2.2.2.1 u.2.2.2.2.2.2.2.1 u.2.2.2.2.2.2.2.2.1 u.2.2.2.2.2.2.2.2.2.1 u.2.2.2.2.2.2.2.2.2.2.1 u.2.2.2.2.2.2.2.2.2.2.2.1 u.2.2.2.2.2.2.2.2.2.2.2.2.1 u.2.2.2.2.2.2.2.2.2.2.2.2.2.1 u.2.2.2.2.2.2.2.2.2.2.2.2.2.2.1 u.2.2.2.2.2.2.2.2.2.2.2.2.2.2.2.1 u.2.2.2.2.2.2.2.2.2.2.2.2.2.2.2.2.1 u.2.2.2.2.2.2.2.2.2.2.2.2.2.2.2.2.2.1 u.2.2.2.2.2.2.2.2.2.2.2.2.2.2.2.2.2.2.1 u.2.2.2.2.2.2.2.2.2.2.2.2.2.2.2.2.2.2.2 hp)
set_option maxRecDepth 100000 in
set_option maxHeartbeats 4000000 in
theorem c_N_step {l : Launch} {D : va_G} {ad : Nat → Nat} {s_bk s_ln s_kd s_vl : Nat → Int32} {s_ct : Int32} {k_ce : Nat → Int32} {k_bc : Int32} {m_ra m_up : Nat → Int32} {m_on m_lo m_hi m_mo m_ma m_li : Int32} {n_rg n_sb : Nat → Int32} {n_st n_pl n_z n_n n_h n_c n_en n_so n_co n_sc : Int32} {l_bk l_of l_en : Nat → Int32} {l_ct : Int32} {t_bk t_of t_en : Nat → Int32} {t_ct : Int32}  {P : (Nat → Int32) → (Nat → Int32) → (Int32) → (Int32) → (Int32) → (Int32) → (Int32) → (Int32) → (Nat → Int32) → (Nat → Int32) → (Int32) → (Int32) → (Int32) → (Int32) → (Int32) → (Int32) → (Int32) → (Int32) → (Int32) → (Int32) → Prop} (hw : wp_N_step k_ce k_bc m_ra m_up m_on m_lo m_hi m_mo m_ma m_li n_rg n_sb n_st n_pl n_z n_n n_h n_c n_en n_so n_co n_sc  P) : ct_ l yN_step bN_step 3 none 5 116 D ad [.ref (ad 11)] (wC ad s_bk s_ln s_kd s_vl s_ct k_ce k_bc m_ra m_up m_on m_lo m_hi m_mo m_ma m_li n_rg n_sb n_st n_pl n_z n_n n_h n_c n_en n_so n_co n_sc l_bk l_of l_en l_ct t_bk t_of t_en t_ct) (qv_ D (fun (u : (Nat → Int32) × (Nat → Int32) × (Int32) × (Int32) × (Int32) × (Int32) × (Int32) × (Int32) × (Nat → Int32) × (Nat → Int32) × (Int32) × (Int32) × (Int32) × (Int32) × (Int32) × (Int32) × (Int32) × (Int32) × (Int32) × (Int32)) => P u.1 u.2.1 u.2.2.1 u.2.2.2.1 u.2.2.2.2.1 u.2.2.2.2.2.1 u.2.2.2.2.2.2.1 u.2.2.2.2.2.2.2.1 u.2.2.2.2.2.2.2.2.1 u.2.2.2.2.2.2.2.2.2.1 u.2.2.2.2.2.2.2.2.2.2.1 u.2.2.2.2.2.2.2.2.2.2.2.1 u.2.2.2.2.2.2.2.2.2.2.2.2.1 u.2.2.2.2.2.2.2.2.2.2.2.2.2.1 u.2.2.2.2.2.2.2.2.2.2.2.2.2.2.1 u.2.2.2.2.2.2.2.2.2.2.2.2.2.2.2.1 u.2.2.2.2.2.2.2.2.2.2.2.2.2.2.2.2.1 u.2.2.2.2.2.2.2.2.2.2.2.2.2.2.2.2.2.1 u.2.2.2.2.2.2.2.2.2.2.2.2.2.2.2.2.2.2.1 u.2.2.2.2.2.2.2.2.2.2.2.2.2.2.2.2.2.2.2) (fun u => wC ad s_bk s_ln s_kd s_vl s_ct k_ce k_bc u.1 u.2.1 u.2.2.1 u.2.2.2.1 u.2.2.2.2.1 u.2.2.2.2.2.1 u.2.2.2.2.2.2.1 u.2.2.2.2.2.2.2.1 u.2.2.2.2.2.2.2.2.1 u.2.2.2.2.2.2.2.2.2.1 u.2.2.2.2.2.2.2.2.2.2.1 u.2.2.2.2.2.2.2.2.2.2.2.1 u.2.2.2.2.2.2.2.2.2.2.2.2.1 u.2.2.2.2.2.2.2.2.2.2.2.2.2.1 u.2.2.2.2.2.2.2.2.2.2.2.2.2.2.1 u.2.2.2.2.2.2.2.2.2.2.2.2.2.2.2.1 u.2.2.2.2.2.2.2.2.2.2.2.2.2.2.2.2.1 u.2.2.2.2.2.2.2.2.2.2.2.2.2.2.2.2.2.1 u.2.2.2.2.2.2.2.2.2.2.2.2.2.2.2.2.2.2.1 u.2.2.2.2.2.2.2.2.2.2.2.2.2.2.2.2.2.2.2 l_bk l_of l_en l_ct t_bk t_of t_en t_ct)) := by
  refine ct_of RN (by decide) rfl (Nat.le_of_ble_eq_true rfl) (fun G hl hD X hq => ?_)
  subst hl hD
  show go_ G 0 0 (wC ad s_bk s_ln s_kd s_vl s_ct k_ce k_bc m_ra m_up m_on m_lo m_hi m_mo m_ma m_li n_rg n_sb n_st n_pl n_z n_n n_h n_c n_en n_so n_co n_sc l_bk l_of l_en l_ct t_bk t_of t_en t_ct) 0 [(0, .ref (ad 11))] []
  have C44 : ∀ (m_ra m_up : Nat → Int32) (m_on m_lo m_hi m_mo m_ma m_li : Int32) (n_rg n_sb : Nat → Int32) (n_st n_pl n_z n_n n_h n_c n_en n_so n_co n_sc : Int32), wp_N_step_44 k_ce k_bc P m_ra m_up m_on m_lo m_hi m_mo m_ma m_li n_rg n_sb n_st n_pl n_z n_n n_h n_c n_en n_so n_co n_sc → go_ G 0 0 (wC ad s_bk s_ln s_kd s_vl s_ct k_ce k_bc m_ra m_up m_on m_lo m_hi m_mo m_ma m_li n_rg n_sb n_st n_pl n_z n_n n_h n_c n_en n_so n_co n_sc l_bk l_of l_en l_ct t_bk t_of t_en t_ct) 44 [(0, .ref (ad 11))] [] := by
    intro m_ra m_up m_on m_lo m_hi m_mo m_ma m_li n_rg n_sb n_st n_pl n_z n_n n_h n_c n_en n_so n_co n_sc hw
    refine go_aload_n X 0 dN_step_44 rfl rfl ?_
    refine gt_N_40 X dN_step_45 ?_
    refine go_istore_n X dN_step_48 rfl (by decide) rfl ?_
    refine go_aload_n X 1 dN_step_49 rfl rfl ?_
    refine go_iconst X dN_step_50 kc_i0 ?_
    refine pt_N_40 X (Or.inl rfl) dN_step_51 ?_
    refine go_aload_n X 1 dN_step_54 rfl rfl ?_
    refine go_aload_n X 1 dN_step_55 rfl rfl ?_
    refine k_N_next X hw mw_N_88 ⟨by decide, by decide⟩ (Nat.le_of_ble_eq_true rfl) ⟨Nat.zero_le _, Nat.zero_le _⟩ dN_step_56 (fun r15 w16 hw => ?_)
    refine k_N_obey X hw mw_N_91 ⟨by decide, by decide⟩ (Nat.le_of_ble_eq_true rfl) ⟨Nat.zero_le _, Nat.zero_le _⟩ dN_step_59 (fun w17 w18 w19 w20 w21 w22 w23 w24 w25 w26 w27 w28 w29 w30 w31 w32 w33 w34 w35 w36 hw => ?_)
    refine go_aload_n X 1 dN_step_62 rfl rfl ?_
    refine go_aload_n X 1 dN_step_63 rfl rfl ?_
    refine gt_N_36 X dN_step_64 ?_
    refine go_if_ne X dN_step_67 rfl (fun hc => ?_) (fun hc => ?_)
    · have hw := hw.1 hc
      refine go_iconst X dN_step_74 kc_i1 ?_
      refine go_goto X dN_step_75 rfl ?_
      refine pt_N_36 X (Or.inr rfl) dN_step_79 ?_
      exact go_vreturn X hq dN_step_82 (w17, w18, w19, w20, w21, w22, w23, w24, w25, w26, w27, w28, w29, w30, w31, w32, (1 : Int32), w34, w35, w36) hw rfl
    · have hw := hw.2 hc
      refine go_iload_n X 0 dN_step_70 rfl rfl ?_
      refine go_if_eq X dN_step_71 rfl (fun hc => ?_) (fun hc => ?_)
      · have hw := hw.1 hc
        refine go_iconst X dN_step_78 kc_i0 ?_
        refine pt_N_36 X (Or.inl rfl) dN_step_79 ?_
        exact go_vreturn X hq dN_step_82 (w17, w18, w19, w20, w21, w22, w23, w24, w25, w26, w27, w28, w29, w30, w31, w32, (0 : Int32), w34, w35, w36) hw rfl
      · have hw := hw.2 hc
        refine go_iconst X dN_step_74 kc_i1 ?_
        refine go_goto X dN_step_75 rfl ?_
        refine pt_N_36 X (Or.inr rfl) dN_step_79 ?_
        exact go_vreturn X hq dN_step_82 (w17, w18, w19, w20, w21, w22, w23, w24, w25, w26, w27, w28, w29, w30, w31, w32, (1 : Int32), w34, w35, w36) hw rfl
  refine go_aload_n X 0 dN_step_0 rfl rfl ?_
  refine gt_N_18 X dN_step_1 ?_
  refine k_M_askingLine X hw mw_N_78 ⟨by decide, by decide⟩ (Nat.le_of_ble_eq_true rfl) ⟨Nat.zero_le _, Nat.zero_le _⟩ dN_step_4 (fun r1 hw => ?_)
  refine go_istore_n X dN_step_7 rfl (by decide) rfl ?_
  refine go_aload_n X 1 dN_step_8 rfl rfl ?_
  refine gt_N_43 X dN_step_9 ?_
  refine go_iconst X dN_step_12 kc_i1 ?_
  refine go_icmp_ne X dN_step_13 rfl (fun hc => ?_) (fun hc => ?_)
  · have hw := hw.1 hc
    refine go_aload_n X 1 dN_step_24 rfl rfl ?_
    refine gt_N_36 X dN_step_25 ?_
    refine go_if_eq X dN_step_28 rfl (fun hc => ?_) (fun hc => ?_)
    · have hw := hw.1 hc
      refine go_lc [1] rfl ?_
      exact C44 _ _ _ _ _ _ _ _ _ _ _ _ _ _ _ _ _ _ _ _ hw
    · have hw := hw.2 hc
      refine go_iload_n X 0 dN_step_31 rfl rfl ?_
      refine go_iconst X dN_step_32 kc_im1 ?_
      refine go_icmp_eq X dN_step_33 rfl (fun hc => ?_) (fun hc => ?_)
      · have hw := hw.1 hc
        refine go_lc [1] rfl ?_
        exact C44 _ _ _ _ _ _ _ _ _ _ _ _ _ _ _ _ _ _ _ _ hw
      · have hw := hw.2 hc
        refine go_aload_n X 1 dN_step_36 rfl rfl ?_
        refine go_iload_n X 0 dN_step_37 rfl rfl ?_
        refine k_N_interruptFor X hw mw_N_85 ⟨by decide, by decide⟩ (Nat.le_of_ble_eq_true rfl) ⟨Nat.zero_le _, Nat.zero_le _⟩ dN_step_38 (fun w2 w3 w4 w5 w6 w7 w8 w9 w10 w11 w12 hw => ?_)
        refine go_goto X dN_step_41 rfl ?_
        exact go_vreturn X hq dN_step_82 (w2, w3, w4, w5, w6, w7, w8, w9, n_rg, n_sb, w10, w11, n_z, n_n, n_h, n_c, w12, n_so, n_co, n_sc) hw rfl
  · have hw := hw.2 hc
    refine go_aload_n X 1 dN_step_16 rfl rfl ?_
    refine go_iload_n X 0 dN_step_17 rfl rfl ?_
    refine k_N_wakeFor X hw mw_N_81 ⟨by decide, by decide⟩ (Nat.le_of_ble_eq_true rfl) ⟨Nat.zero_le _, Nat.zero_le _⟩ dN_step_18 (fun w13 w14 hw => ?_)
    refine go_goto X dN_step_21 rfl ?_
    exact go_vreturn X hq dN_step_82 (m_ra, m_up, m_on, m_lo, m_hi, m_mo, m_ma, m_li, n_rg, n_sb, n_st, w13, n_z, n_n, n_h, n_c, n_en, n_so, w14, n_sc) hw rfl
theorem k_N_step {G : gt_} {ad : Nat → Nat} {cc : ByteArray} {own : String} {fr lo n cells slots pc index : Nat} {lc : List (Nat × Value)} {rest : List Value} {s_bk s_ln s_kd s_vl : Nat → Int32} {s_ct : Int32} {k_ce : Nat → Int32} {k_bc : Int32} {m_ra m_up : Nat → Int32} {m_on m_lo m_hi m_mo m_ma m_li : Int32} {n_rg n_sb : Nat → Int32} {n_st n_pl n_z n_n n_h n_c n_en n_so n_co n_sc : Int32} {l_bk l_of l_en : Nat → Int32} {l_ct : Int32} {t_bk t_of t_en : Nat → Int32} {t_ct : Int32}  {P : (Nat → Int32) → (Nat → Int32) → (Int32) → (Int32) → (Int32) → (Int32) → (Int32) → (Int32) → (Nat → Int32) → (Nat → Int32) → (Int32) → (Int32) → (Int32) → (Int32) → (Int32) → (Int32) → (Int32) → (Int32) → (Int32) → (Int32) → Prop} (X : cx_ G ad cc own fr lo n) (hw : wp_N_step k_ce k_bc m_ra m_up m_on m_lo m_hi m_mo m_ma m_li n_rg n_sb n_st n_pl n_z n_n n_h n_c n_en n_so n_co n_sc  P) (m1 : Cond.methodLink own index yN_step ∈ wS) (hlv : 5 + 1 ≤ fr ∧ 8 + (3 + 11) + 116 ≤ lo) (hrs : (rest.map fun v => v.category).sum ≤ 8) (hcs : cells ≤ (gR_ G).cells ∧ slots ≤ (gR_ G).slots) (d : decode cc pc = .ok (.invokevirtual index, 3))
    (kk : ∀ (m_ra' m_up' : Nat → Int32) (m_on' m_lo' m_hi' m_mo' m_ma' m_li' : Int32) (n_rg' n_sb' : Nat → Int32) (n_st' n_pl' n_z' n_n' n_h' n_c' n_en' n_so' n_co' n_sc' : Int32), P m_ra' m_up' m_on' m_lo' m_hi' m_mo' m_ma' m_li' n_rg' n_sb' n_st' n_pl' n_z' n_n' n_h' n_c' n_en' n_so' n_co' n_sc' → go_ G cells slots (wC ad s_bk s_ln s_kd s_vl s_ct k_ce k_bc m_ra' m_up' m_on' m_lo' m_hi' m_mo' m_ma' m_li' n_rg' n_sb' n_st' n_pl' n_z' n_n' n_h' n_c' n_en' n_so' n_co' n_sc' l_bk l_of l_en l_ct t_bk t_of t_en t_ct) (pc + 3) lc (rest)) : go_ G cells slots (wC ad s_bk s_ln s_kd s_vl s_ct k_ce k_bc m_ra m_up m_on m_lo m_hi m_mo m_ma m_li n_rg n_sb n_st n_pl n_z n_n n_h n_c n_en n_so n_co n_sc l_bk l_of l_en l_ct t_bk t_of t_en t_ct) pc lc (.ref (ad 11) :: rest) :=
  go_cvv X (c_N_step hw) me_N_step m1 hlv 11 rfl rfl rfl hrs hcs d (fun u hp => kk u.1 u.2.1 u.2.2.1 u.2.2.2.1 u.2.2.2.2.1 u.2.2.2.2.2.1 u.2.2.2.2.2.2.1 u.2.2.2.2.2.2.2.1 u.2.2.2.2.2.2.2.2.1 u.2.2.2.2.2.2.2.2.2.1 u.2.2.2.2.2.2.2.2.2.2.1 u.2.2.2.2.2.2.2.2.2.2.2.1 u.2.2.2.2.2.2.2.2.2.2.2.2.1 u.2.2.2.2.2.2.2.2.2.2.2.2.2.1 u.2.2.2.2.2.2.2.2.2.2.2.2.2.2.1 u.2.2.2.2.2.2.2.2.2.2.2.2.2.2.2.1 u.2.2.2.2.2.2.2.2.2.2.2.2.2.2.2.2.1 u.2.2.2.2.2.2.2.2.2.2.2.2.2.2.2.2.2.1 u.2.2.2.2.2.2.2.2.2.2.2.2.2.2.2.2.2.2.1 u.2.2.2.2.2.2.2.2.2.2.2.2.2.2.2.2.2.2.2 hp)
