set_option maxRecDepth 100000 in
set_option maxHeartbeats 4000000 in
theorem c_D_clear {l : Launch} {D : va_G} {ad : Nat → Nat} {s_bk s_ln s_kd s_vl : Nat → Int32} {s_ct : Int32} {k_ce : Nat → Int32} {k_bc : Int32} {m_ra m_up : Nat → Int32} {m_on m_lo m_hi m_mo m_ma m_li : Int32} {n_rg n_sb : Nat → Int32} {n_st n_pl n_z n_n n_h n_c n_en n_so n_co n_sc : Int32} {l_bk l_of l_en : Nat → Int32} {l_ct : Int32} {t_bk t_of t_en : Nat → Int32} {t_ct : Int32}  {P : (Int32) → Prop} (hw : wp_D_clear s_ct  P) : ct_ l yD_clear bD_clear 1 none 0 0 D ad [.ref (ad 0)] (wC ad s_bk s_ln s_kd s_vl s_ct k_ce k_bc m_ra m_up m_on m_lo m_hi m_mo m_ma m_li n_rg n_sb n_st n_pl n_z n_n n_h n_c n_en n_so n_co n_sc l_bk l_of l_en l_ct t_bk t_of t_en t_ct) (qv_ D (fun (u : (Int32)) => P u) (fun u => wC ad s_bk s_ln s_kd s_vl u k_ce k_bc m_ra m_up m_on m_lo m_hi m_mo m_ma m_li n_rg n_sb n_st n_pl n_z n_n n_h n_c n_en n_so n_co n_sc l_bk l_of l_en l_ct t_bk t_of t_en t_ct)) := by
  refine ct_of RD (by decide) rfl (Nat.le_of_ble_eq_true rfl) (fun G hl hD X hq => ?_)
  subst hl hD
  show go_ G 0 0 (wC ad s_bk s_ln s_kd s_vl s_ct k_ce k_bc m_ra m_up m_on m_lo m_hi m_mo m_ma m_li n_rg n_sb n_st n_pl n_z n_n n_h n_c n_en n_so n_co n_sc l_bk l_of l_en l_ct t_bk t_of t_en t_ct) 0 [(0, .ref (ad 0))] []
  refine go_aload_n X 0 dD_clear_0 rfl rfl ?_
  refine gt_D_10 X dD_clear_1 ?_
  refine go_iconst X dD_clear_4 kc_i0 ?_
  refine pt_D_54 X dD_clear_5 ?_
  exact go_vreturn X hq dD_clear_8 (0 : Int32) hw rfl
theorem k_D_clear {G : gt_} {ad : Nat → Nat} {cc : ByteArray} {own : String} {fr lo n cells slots pc index : Nat} {lc : List (Nat × Value)} {rest : List Value} {s_bk s_ln s_kd s_vl : Nat → Int32} {s_ct : Int32} {k_ce : Nat → Int32} {k_bc : Int32} {m_ra m_up : Nat → Int32} {m_on m_lo m_hi m_mo m_ma m_li : Int32} {n_rg n_sb : Nat → Int32} {n_st n_pl n_z n_n n_h n_c n_en n_so n_co n_sc : Int32} {l_bk l_of l_en : Nat → Int32} {l_ct : Int32} {t_bk t_of t_en : Nat → Int32} {t_ct : Int32}  {P : (Int32) → Prop} (X : cx_ G ad cc own fr lo n) (hw : wp_D_clear s_ct  P) (m1 : Cond.methodLink own index yD_clear ∈ wS) (hlv : 0 + 1 ≤ fr ∧ 8 + (1 + 11) + 0 ≤ lo) (hrs : (rest.map fun v => v.category).sum ≤ 8) (hcs : cells ≤ (gR_ G).cells ∧ slots ≤ (gR_ G).slots) (d : decode cc pc = .ok (.invokevirtual index, 3))
    (kk : ∀ (s_ct' : Int32), P s_ct' → go_ G cells slots (wC ad s_bk s_ln s_kd s_vl s_ct' k_ce k_bc m_ra m_up m_on m_lo m_hi m_mo m_ma m_li n_rg n_sb n_st n_pl n_z n_n n_h n_c n_en n_so n_co n_sc l_bk l_of l_en l_ct t_bk t_of t_en t_ct) (pc + 3) lc (rest)) : go_ G cells slots (wC ad s_bk s_ln s_kd s_vl s_ct k_ce k_bc m_ra m_up m_on m_lo m_hi m_mo m_ma m_li n_rg n_sb n_st n_pl n_z n_n n_h n_c n_en n_so n_co n_sc l_bk l_of l_en l_ct t_bk t_of t_en t_ct) pc lc (.ref (ad 0) :: rest) :=
  go_cvv X (c_D_clear hw) me_D_clear m1 hlv 0 rfl rfl rfl hrs hcs d (fun u hp => kk u hp)
set_option maxRecDepth 100000 in
set_option maxHeartbeats 4000000 in
theorem c_D_raise {l : Launch} {D : va_G} {ad : Nat → Nat} {s_bk s_ln s_kd s_vl : Nat → Int32} {s_ct : Int32} {k_ce : Nat → Int32} {k_bc : Int32} {m_ra m_up : Nat → Int32} {m_on m_lo m_hi m_mo m_ma m_li : Int32} {n_rg n_sb : Nat → Int32} {n_st n_pl n_z n_n n_h n_c n_en n_so n_co n_sc : Int32} {l_bk l_of l_en : Nat → Int32} {l_ct : Int32} {t_bk t_of t_en : Nat → Int32} {t_ct : Int32} {a1 : Int32} {P : (Int32) → Prop} {PX : Nat → (Int32) → Prop} (hl0 : l.stackTraces = false) (hw : wp_D_raise m_li a1 P PX) : ctx_ l yD_raise bD_raise 2 none 6 90 D ad [.ref (ad 0), .int a1] (wC ad s_bk s_ln s_kd s_vl s_ct k_ce k_bc m_ra m_up m_on m_lo m_hi m_mo m_ma m_li n_rg n_sb n_st n_pl n_z n_n n_h n_c n_en n_so n_co n_sc l_bk l_of l_en l_ct t_bk t_of t_en t_ct) (qv_ D (fun (u : (Int32)) => P u) (fun u => wC ad s_bk s_ln s_kd s_vl s_ct k_ce k_bc m_ra m_up m_on m_lo m_hi m_mo m_ma u n_rg n_sb n_st n_pl n_z n_n n_h n_c n_en n_so n_co n_sc l_bk l_of l_en l_ct t_bk t_of t_en t_ct)) (qx_ D (fun (z : Nat) (u : (Int32)) => PX z u) (fun u => wC ad s_bk s_ln s_kd s_vl s_ct k_ce k_bc m_ra m_up m_on m_lo m_hi m_mo m_ma u n_rg n_sb n_st n_pl n_z n_n n_h n_c n_en n_so n_co n_sc l_bk l_of l_en l_ct t_bk t_of t_en t_ct)) := by
  refine ctx_of RD (by decide) rfl (Nat.le_of_ble_eq_true rfl) (fun G hl hD X hq => ?_)
  subst hl hD
  show go_ G 0 0 (wC ad s_bk s_ln s_kd s_vl s_ct k_ce k_bc m_ra m_up m_on m_lo m_hi m_mo m_ma m_li n_rg n_sb n_st n_pl n_z n_n n_h n_c n_en n_so n_co n_sc l_bk l_of l_en l_ct t_bk t_of t_en t_ct) 0 [(0, .ref (ad 0)), (1, .int a1)] []
  refine go_iload_n X 1 dD_raise_0 rfl rfl ?_
  refine go_if_lt X dD_raise_1 rfl (fun hc => ?_) (fun hc => ?_)
  · have hw := hw.1 hc
    exact go_thr X hl0 hq 1 th_1 dD_raise_9 dD_raise_12 dD_raise_13 dD_raise_16 m_li hw rfl (by decide) (Nat.le_of_ble_eq_true rfl)
  · have hw := hw.2 hc
    refine go_iload_n X 1 dD_raise_4 rfl rfl ?_
    refine go_iconst X dD_raise_5 kc_i4 ?_
    refine go_icmp_lt X dD_raise_6 rfl (fun hc => ?_) (fun hc => ?_)
    · have hw := hw.1 hc
      refine go_aload_n X 0 dD_raise_17 rfl rfl ?_
      refine gt_D_28 X dD_raise_18 ?_
      refine go_dup X dD_raise_21 rfl ?_
      refine gt_D_118 X dD_raise_22 ?_
      refine go_iconst X dD_raise_25 kc_i1 ?_
      refine go_iload_n X 1 dD_raise_26 rfl rfl ?_
      refine go_ishl X dD_raise_27 ?_
      refine go_ior X dD_raise_28 ?_
      refine pt_D_118 X dD_raise_29 ?_
      exact go_vrx X hq dD_raise_32 (m_li ||| ((1 : Int32) <<< (a1 &&& 31))) hw rfl
    · have hw := hw.2 hc
      exact go_thr X hl0 hq 1 th_1 dD_raise_9 dD_raise_12 dD_raise_13 dD_raise_16 m_li hw rfl (by decide) (Nat.le_of_ble_eq_true rfl)
set_option maxRecDepth 100000 in
set_option maxHeartbeats 4000000 in
theorem c_D_sent {l : Launch} {D : va_G} {ad : Nat → Nat} {s_bk s_ln s_kd s_vl : Nat → Int32} {s_ct : Int32} {k_ce : Nat → Int32} {k_bc : Int32} {m_ra m_up : Nat → Int32} {m_on m_lo m_hi m_mo m_ma m_li : Int32} {n_rg n_sb : Nat → Int32} {n_st n_pl n_z n_n n_h n_c n_en n_so n_co n_sc : Int32} {l_bk l_of l_en : Nat → Int32} {l_ct : Int32} {t_bk t_of t_en : Nat → Int32} {t_ct : Int32}  {P : Int32 → Prop} (hw : wp_D_sent n_sc  P) : ct_ l yD_sent bD_sent 1 (some .int) 0 0 D ad [.ref (ad 0)] (wC ad s_bk s_ln s_kd s_vl s_ct k_ce k_bc m_ra m_up m_on m_lo m_hi m_mo m_ma m_li n_rg n_sb n_st n_pl n_z n_n n_h n_c n_en n_so n_co n_sc l_bk l_of l_en l_ct t_bk t_of t_en t_ct) (qi_ D (fun (r : Int32) (_ : Unit) => P r ) (fun _ => (wC ad s_bk s_ln s_kd s_vl s_ct k_ce k_bc m_ra m_up m_on m_lo m_hi m_mo m_ma m_li n_rg n_sb n_st n_pl n_z n_n n_h n_c n_en n_so n_co n_sc l_bk l_of l_en l_ct t_bk t_of t_en t_ct))) := by
  refine ct_of RD (by decide) rfl (Nat.le_of_ble_eq_true rfl) (fun G hl hD X hq => ?_)
  subst hl hD
  show go_ G 0 0 (wC ad s_bk s_ln s_kd s_vl s_ct k_ce k_bc m_ra m_up m_on m_lo m_hi m_mo m_ma m_li n_rg n_sb n_st n_pl n_z n_n n_h n_c n_en n_so n_co n_sc l_bk l_of l_en l_ct t_bk t_of t_en t_ct) 0 [(0, .ref (ad 0))] []
  refine go_aload_n X 0 dD_sent_0 rfl rfl ?_
  refine gt_D_37 X dD_sent_1 ?_
  refine gt_D_136 X dD_sent_4 ?_
  exact go_ireturn X hq dD_sent_7 () hw rfl
theorem k_D_sent {G : gt_} {ad : Nat → Nat} {cc : ByteArray} {own : String} {fr lo n cells slots pc index : Nat} {lc : List (Nat × Value)} {rest : List Value} {s_bk s_ln s_kd s_vl : Nat → Int32} {s_ct : Int32} {k_ce : Nat → Int32} {k_bc : Int32} {m_ra m_up : Nat → Int32} {m_on m_lo m_hi m_mo m_ma m_li : Int32} {n_rg n_sb : Nat → Int32} {n_st n_pl n_z n_n n_h n_c n_en n_so n_co n_sc : Int32} {l_bk l_of l_en : Nat → Int32} {l_ct : Int32} {t_bk t_of t_en : Nat → Int32} {t_ct : Int32}  {P : Int32 → Prop} (X : cx_ G ad cc own fr lo n) (hw : wp_D_sent n_sc  P) (m1 : Cond.methodLink own index yD_sent ∈ wS) (hlv : 0 + 1 ≤ fr ∧ 8 + (1 + 11) + 0 ≤ lo) (hrs : (rest.map fun v => v.category).sum ≤ 8) (hcs : cells ≤ (gR_ G).cells ∧ slots ≤ (gR_ G).slots) (d : decode cc pc = .ok (.invokevirtual index, 3))
    (kk : ∀ (r : Int32), P r → go_ G cells slots (wC ad s_bk s_ln s_kd s_vl s_ct k_ce k_bc m_ra m_up m_on m_lo m_hi m_mo m_ma m_li n_rg n_sb n_st n_pl n_z n_n n_h n_c n_en n_so n_co n_sc l_bk l_of l_en l_ct t_bk t_of t_en t_ct) (pc + 3) lc (.int r :: rest)) : go_ G cells slots (wC ad s_bk s_ln s_kd s_vl s_ct k_ce k_bc m_ra m_up m_on m_lo m_hi m_mo m_ma m_li n_rg n_sb n_st n_pl n_z n_n n_h n_c n_en n_so n_co n_sc l_bk l_of l_en l_ct t_bk t_of t_en t_ct) pc lc (.ref (ad 0) :: rest) :=
  go_cvi X (c_D_sent hw) me_D_sent m1 hlv 0 rfl rfl rfl hrs hcs d (fun r _ hp => kk r  hp)
set_option maxRecDepth 100000 in
set_option maxHeartbeats 4000000 in
theorem c_D_state {l : Launch} {D : va_G} {ad : Nat → Nat} {s_bk s_ln s_kd s_vl : Nat → Int32} {s_ct : Int32} {k_ce : Nat → Int32} {k_bc : Int32} {m_ra m_up : Nat → Int32} {m_on m_lo m_hi m_mo m_ma m_li : Int32} {n_rg n_sb : Nat → Int32} {n_st n_pl n_z n_n n_h n_c n_en n_so n_co n_sc : Int32} {l_bk l_of l_en : Nat → Int32} {l_ct : Int32} {t_bk t_of t_en : Nat → Int32} {t_ct : Int32}  {P : Int32 → Prop} (hw : wp_D_state n_co  P) : ct_ l yD_state bD_state 1 (some .int) 0 0 D ad [.ref (ad 0)] (wC ad s_bk s_ln s_kd s_vl s_ct k_ce k_bc m_ra m_up m_on m_lo m_hi m_mo m_ma m_li n_rg n_sb n_st n_pl n_z n_n n_h n_c n_en n_so n_co n_sc l_bk l_of l_en l_ct t_bk t_of t_en t_ct) (qi_ D (fun (r : Int32) (_ : Unit) => P r ) (fun _ => (wC ad s_bk s_ln s_kd s_vl s_ct k_ce k_bc m_ra m_up m_on m_lo m_hi m_mo m_ma m_li n_rg n_sb n_st n_pl n_z n_n n_h n_c n_en n_so n_co n_sc l_bk l_of l_en l_ct t_bk t_of t_en t_ct))) := by
  refine ct_of RD (by decide) rfl (Nat.le_of_ble_eq_true rfl) (fun G hl hD X hq => ?_)
  subst hl hD
  show go_ G 0 0 (wC ad s_bk s_ln s_kd s_vl s_ct k_ce k_bc m_ra m_up m_on m_lo m_hi m_mo m_ma m_li n_rg n_sb n_st n_pl n_z n_n n_h n_c n_en n_so n_co n_sc l_bk l_of l_en l_ct t_bk t_of t_en t_ct) 0 [(0, .ref (ad 0))] []
  refine go_aload_n X 0 dD_state_0 rfl rfl ?_
  refine gt_D_37 X dD_state_1 ?_
  refine gt_D_127 X dD_state_4 ?_
  exact go_ireturn X hq dD_state_7 () hw rfl
theorem k_D_state {G : gt_} {ad : Nat → Nat} {cc : ByteArray} {own : String} {fr lo n cells slots pc index : Nat} {lc : List (Nat × Value)} {rest : List Value} {s_bk s_ln s_kd s_vl : Nat → Int32} {s_ct : Int32} {k_ce : Nat → Int32} {k_bc : Int32} {m_ra m_up : Nat → Int32} {m_on m_lo m_hi m_mo m_ma m_li : Int32} {n_rg n_sb : Nat → Int32} {n_st n_pl n_z n_n n_h n_c n_en n_so n_co n_sc : Int32} {l_bk l_of l_en : Nat → Int32} {l_ct : Int32} {t_bk t_of t_en : Nat → Int32} {t_ct : Int32}  {P : Int32 → Prop} (X : cx_ G ad cc own fr lo n) (hw : wp_D_state n_co  P) (m1 : Cond.methodLink own index yD_state ∈ wS) (hlv : 0 + 1 ≤ fr ∧ 8 + (1 + 11) + 0 ≤ lo) (hrs : (rest.map fun v => v.category).sum ≤ 8) (hcs : cells ≤ (gR_ G).cells ∧ slots ≤ (gR_ G).slots) (d : decode cc pc = .ok (.invokevirtual index, 3))
    (kk : ∀ (r : Int32), P r → go_ G cells slots (wC ad s_bk s_ln s_kd s_vl s_ct k_ce k_bc m_ra m_up m_on m_lo m_hi m_mo m_ma m_li n_rg n_sb n_st n_pl n_z n_n n_h n_c n_en n_so n_co n_sc l_bk l_of l_en l_ct t_bk t_of t_en t_ct) (pc + 3) lc (.int r :: rest)) : go_ G cells slots (wC ad s_bk s_ln s_kd s_vl s_ct k_ce k_bc m_ra m_up m_on m_lo m_hi m_mo m_ma m_li n_rg n_sb n_st n_pl n_z n_n n_h n_c n_en n_so n_co n_sc l_bk l_of l_en l_ct t_bk t_of t_en t_ct) pc lc (.ref (ad 0) :: rest) :=
  go_cvi X (c_D_state hw) me_D_state m1 hlv 0 rfl rfl rfl hrs hcs d (fun r _ hp => kk r  hp)
set_option maxRecDepth 100000 in
set_option maxHeartbeats 4000000 in
theorem c_D_byteSent {l : Launch} {D : va_G} {ad : Nat → Nat} {s_bk s_ln s_kd s_vl : Nat → Int32} {s_ct : Int32} {k_ce : Nat → Int32} {k_bc : Int32} {m_ra m_up : Nat → Int32} {m_on m_lo m_hi m_mo m_ma m_li : Int32} {n_rg n_sb : Nat → Int32} {n_st n_pl n_z n_n n_h n_c n_en n_so n_co n_sc : Int32} {l_bk l_of l_en : Nat → Int32} {l_ct : Int32} {t_bk t_of t_en : Nat → Int32} {t_ct : Int32} {a1 : Int32} {P : Int32 → Prop} {PX : Nat → Prop} (hl0 : l.stackTraces = false) (hw : wp_D_byteSent n_sb n_sc a1 P PX) : ctx_ l yD_byteSent bD_byteSent 2 (some .int) 6 90 D ad [.ref (ad 0), .int a1] (wC ad s_bk s_ln s_kd s_vl s_ct k_ce k_bc m_ra m_up m_on m_lo m_hi m_mo m_ma m_li n_rg n_sb n_st n_pl n_z n_n n_h n_c n_en n_so n_co n_sc l_bk l_of l_en l_ct t_bk t_of t_en t_ct) (qi_ D (fun (r : Int32) (_ : Unit) => P r ) (fun _ => (wC ad s_bk s_ln s_kd s_vl s_ct k_ce k_bc m_ra m_up m_on m_lo m_hi m_mo m_ma m_li n_rg n_sb n_st n_pl n_z n_n n_h n_c n_en n_so n_co n_sc l_bk l_of l_en l_ct t_bk t_of t_en t_ct))) (qx_ D (fun (z : Nat) (_ : Unit) => PX z ) (fun _ => (wC ad s_bk s_ln s_kd s_vl s_ct k_ce k_bc m_ra m_up m_on m_lo m_hi m_mo m_ma m_li n_rg n_sb n_st n_pl n_z n_n n_h n_c n_en n_so n_co n_sc l_bk l_of l_en l_ct t_bk t_of t_en t_ct))) := by
  refine ctx_of RD (by decide) rfl (Nat.le_of_ble_eq_true rfl) (fun G hl hD X hq => ?_)
  subst hl hD
  show go_ G 0 0 (wC ad s_bk s_ln s_kd s_vl s_ct k_ce k_bc m_ra m_up m_on m_lo m_hi m_mo m_ma m_li n_rg n_sb n_st n_pl n_z n_n n_h n_c n_en n_so n_co n_sc l_bk l_of l_en l_ct t_bk t_of t_en t_ct) 0 [(0, .ref (ad 0)), (1, .int a1)] []
  refine go_iload_n X 1 dD_byteSent_0 rfl rfl ?_
  refine go_if_lt X dD_byteSent_1 rfl (fun hc => ?_) (fun hc => ?_)
  · have hw := hw.1 hc
    exact go_thr X hl0 hq 3 th_3 dD_byteSent_15 dD_byteSent_18 dD_byteSent_19 dD_byteSent_22 () hw rfl (by decide) (Nat.le_of_ble_eq_true rfl)
  · have hw := hw.2 hc
    refine go_iload_n X 1 dD_byteSent_4 rfl rfl ?_
    refine go_aload_n X 0 dD_byteSent_5 rfl rfl ?_
    refine gt_D_37 X dD_byteSent_6 ?_
    refine k_N_keptCount X hw mw_D_139 ⟨by decide, by decide⟩ (Nat.le_of_ble_eq_true rfl) ⟨Nat.zero_le _, Nat.zero_le _⟩ dD_byteSent_9 (fun r1 hw => ?_)
    refine go_icmp_lt X dD_byteSent_12 rfl (fun hc => ?_) (fun hc => ?_)
    · have hw := hw.1 hc
      refine go_aload_n X 0 dD_byteSent_23 rfl rfl ?_
      refine gt_D_37 X dD_byteSent_24 ?_
      refine gt_D_142 X dD_byteSent_27 ?_
      refine go_iload_n X 1 dD_byteSent_30 rfl rfl ?_
      have hz := hw.1
      have hw := hw.2
      refine ar_n_sb X hz dD_byteSent_31 ?_
      exact go_irx X hq dD_byteSent_32 () hw rfl
    · have hw := hw.2 hc
      exact go_thr X hl0 hq 3 th_3 dD_byteSent_15 dD_byteSent_18 dD_byteSent_19 dD_byteSent_22 () hw rfl (by decide) (Nat.le_of_ble_eq_true rfl)
set_option maxRecDepth 100000 in
set_option maxHeartbeats 4000000 in
theorem c_D_bytes {l : Launch} {D : va_G} {ad : Nat → Nat} {s_bk s_ln s_kd s_vl : Nat → Int32} {s_ct : Int32} {k_ce : Nat → Int32} {k_bc : Int32} {m_ra m_up : Nat → Int32} {m_on m_lo m_hi m_mo m_ma m_li : Int32} {n_rg n_sb : Nat → Int32} {n_st n_pl n_z n_n n_h n_c n_en n_so n_co n_sc : Int32} {l_bk l_of l_en : Nat → Int32} {l_ct : Int32} {t_bk t_of t_en : Nat → Int32} {t_ct : Int32} {a1 a2 : Int32} {P : (Nat → Int32) → (Nat → Int32) → (Nat → Int32) → Prop} {PX : Nat → (Nat → Int32) → (Nat → Int32) → (Nat → Int32) → Prop} (hl0 : l.stackTraces = false) (hw : wp_D_bytes s_ln s_kd s_vl s_ct a1 a2 P PX) : ctx_ l yD_bytes bD_bytes 4 none 6 90 D ad [.ref (ad 0), .int a1, .int a2] (wC ad s_bk s_ln s_kd s_vl s_ct k_ce k_bc m_ra m_up m_on m_lo m_hi m_mo m_ma m_li n_rg n_sb n_st n_pl n_z n_n n_h n_c n_en n_so n_co n_sc l_bk l_of l_en l_ct t_bk t_of t_en t_ct) (qv_ D (fun (u : (Nat → Int32) × (Nat → Int32) × (Nat → Int32)) => P u.1 u.2.1 u.2.2) (fun u => wC ad s_bk u.1 u.2.1 u.2.2 s_ct k_ce k_bc m_ra m_up m_on m_lo m_hi m_mo m_ma m_li n_rg n_sb n_st n_pl n_z n_n n_h n_c n_en n_so n_co n_sc l_bk l_of l_en l_ct t_bk t_of t_en t_ct)) (qx_ D (fun (z : Nat) (u : (Nat → Int32) × (Nat → Int32) × (Nat → Int32)) => PX z u.1 u.2.1 u.2.2) (fun u => wC ad s_bk u.1 u.2.1 u.2.2 s_ct k_ce k_bc m_ra m_up m_on m_lo m_hi m_mo m_ma m_li n_rg n_sb n_st n_pl n_z n_n n_h n_c n_en n_so n_co n_sc l_bk l_of l_en l_ct t_bk t_of t_en t_ct)) := by
  refine ctx_of RD (by decide) rfl (Nat.le_of_ble_eq_true rfl) (fun G hl hD X hq => ?_)
  subst hl hD
  show go_ G 0 0 (wC ad s_bk s_ln s_kd s_vl s_ct k_ce k_bc m_ra m_up m_on m_lo m_hi m_mo m_ma m_li n_rg n_sb n_st n_pl n_z n_n n_h n_c n_en n_so n_co n_sc l_bk l_of l_en l_ct t_bk t_of t_en t_ct) 0 [(0, .ref (ad 0)), (1, .int a1), (2, .int a2)] []
  have C41 : ∀ (n9 : Nat) (s_ln s_kd s_vl : Nat → Int32) (x1 x3 : Int32), wp_D_bytes_41 s_ct P PX n9 s_ln s_kd s_vl x1 x3 → go_ G 0 0 (wC ad s_bk s_ln s_kd s_vl s_ct k_ce k_bc m_ra m_up m_on m_lo m_hi m_mo m_ma m_li n_rg n_sb n_st n_pl n_z n_n n_h n_c n_en n_so n_co n_sc l_bk l_of l_en l_ct t_bk t_of t_en t_ct) 41 [(0, .ref (ad 0)), (1, .int x1), (3, .int x3)] [] := by
    intro n9
    induction n9 with
    | zero =>
      intro s_ln s_kd s_vl x1 x3 hw
      exact False.elim hw
    | succ n9 ih =>
      intro s_ln s_kd s_vl x1 x3 hw
      refine go_iload_n X 2 dD_bytes_41 rfl rfl ?_
      refine go_if_lt X dD_bytes_42 rfl (fun hc => ?_) (fun hc => ?_)
      · have hw := hw.1 hc
        exact go_vrx X hq dD_bytes_69 (s_ln, s_kd, s_vl) hw rfl
      · have hw := hw.2 hc
        refine go_aload_n X 0 dD_bytes_45 rfl rfl ?_
        refine gt_D_10 X dD_bytes_46 ?_
        refine go_iconst X dD_bytes_49 kc_i0 ?_
        refine go_iload_n X 1 dD_bytes_50 rfl rfl ?_
        refine go_bipush X dD_bytes_51 kc_b8 ?_
        refine go_iload_n X 2 dD_bytes_53 rfl rfl ?_
        refine go_imul X dD_bytes_54 ?_
        refine go_ishr X dD_bytes_55 ?_
        refine go_sipush X dD_bytes_56 kc_s255 ?_
        refine go_iand X dD_bytes_59 ?_
        refine k_S_append X hw mw_D_69 ⟨by decide, by decide⟩ (Nat.le_of_ble_eq_true rfl) ⟨Nat.zero_le _, Nat.zero_le _⟩ dD_bytes_60 (fun w3 w4 w5 hw => ?_)
        refine go_iinc X 2 dD_bytes_63 rfl (ki_m1 _) (by decide) rfl ?_
        refine go_goto X dD_bytes_66 rfl ?_
        refine go_lc [1, 2, 0] rfl ?_
        exact ih _ _ _ _ _ hw
  refine go_iload_n X 2 dD_bytes_0 rfl rfl ?_
  refine go_iconst X dD_bytes_1 kc_i1 ?_
  refine go_icmp_lt X dD_bytes_2 rfl (fun hc => ?_) (fun hc => ?_)
  · have hw := hw.1 hc
    exact go_thr X hl0 hq 1 th_1 dD_bytes_10 dD_bytes_13 dD_bytes_14 dD_bytes_17 (s_ln, s_kd, s_vl) hw rfl (by decide) (Nat.le_of_ble_eq_true rfl)
  · have hw := hw.2 hc
    refine go_iload_n X 2 dD_bytes_5 rfl rfl ?_
    refine go_iconst X dD_bytes_6 kc_i4 ?_
    refine go_icmp_le X dD_bytes_7 rfl (fun hc => ?_) (fun hc => ?_)
    · have hw := hw.1 hc
      refine go_aload_n X 0 dD_bytes_18 rfl rfl ?_
      refine gt_D_10 X dD_bytes_19 ?_
      refine go_iload_n X 2 dD_bytes_22 rfl rfl ?_
      refine k_S_canTake X hw mw_D_65 ⟨by decide, by decide⟩ (Nat.le_of_ble_eq_true rfl) ⟨Nat.zero_le _, Nat.zero_le _⟩ dD_bytes_23 (fun r1 hw => ?_)
      refine go_if_ne X dD_bytes_26 rfl (fun hc => ?_) (fun hc => ?_)
      · have hw := hw.1 hc
        refine go_iload_n X 2 dD_bytes_37 rfl rfl ?_
        refine go_iconst X dD_bytes_38 kc_i1 ?_
        refine go_isub X dD_bytes_39 ?_
        refine go_nm (fun z2 ez2 => ?_)
        have hw := hw z2 ez2
        refine go_istore_n X dD_bytes_40 rfl (by decide) rfl ?_
        refine go_lc [1, 2, 0] rfl ?_
        obtain ⟨j9, hw⟩ := hw
        exact C41 j9 _ _ _ _ _ hw
      · have hw := hw.2 hc
        exact go_thr X hl0 hq 2 th_2 dD_bytes_29 dD_bytes_32 dD_bytes_33 dD_bytes_36 (s_ln, s_kd, s_vl) hw rfl (by decide) (Nat.le_of_ble_eq_true rfl)
    · have hw := hw.2 hc
      exact go_thr X hl0 hq 1 th_1 dD_bytes_10 dD_bytes_13 dD_bytes_14 dD_bytes_17 (s_ln, s_kd, s_vl) hw rfl (by decide) (Nat.le_of_ble_eq_true rfl)
set_option maxRecDepth 100000 in
set_option maxHeartbeats 4000000 in
theorem c_D_image {l : Launch} {D : va_G} {ad : Nat → Nat} {s_bk s_ln s_kd s_vl : Nat → Int32} {s_ct : Int32} {k_ce : Nat → Int32} {k_bc : Int32} {m_ra m_up : Nat → Int32} {m_on m_lo m_hi m_mo m_ma m_li : Int32} {n_rg n_sb : Nat → Int32} {n_st n_pl n_z n_n n_h n_c n_en n_so n_co n_sc : Int32} {l_bk l_of l_en : Nat → Int32} {l_ct : Int32} {t_bk t_of t_en : Nat → Int32} {t_ct : Int32} {a1 : Int32} {P : Int32 → Prop} {PX : Nat → Prop} (hl0 : l.stackTraces = false) (hw : wp_D_image k_ce k_bc a1 P PX) : ctx_ l yD_image bD_image 2 (some .int) 6 90 D ad [.ref (ad 0), .int a1] (wC ad s_bk s_ln s_kd s_vl s_ct k_ce k_bc m_ra m_up m_on m_lo m_hi m_mo m_ma m_li n_rg n_sb n_st n_pl n_z n_n n_h n_c n_en n_so n_co n_sc l_bk l_of l_en l_ct t_bk t_of t_en t_ct) (qi_ D (fun (r : Int32) (_ : Unit) => P r ) (fun _ => (wC ad s_bk s_ln s_kd s_vl s_ct k_ce k_bc m_ra m_up m_on m_lo m_hi m_mo m_ma m_li n_rg n_sb n_st n_pl n_z n_n n_h n_c n_en n_so n_co n_sc l_bk l_of l_en l_ct t_bk t_of t_en t_ct))) (qx_ D (fun (z : Nat) (_ : Unit) => PX z ) (fun _ => (wC ad s_bk s_ln s_kd s_vl s_ct k_ce k_bc m_ra m_up m_on m_lo m_hi m_mo m_ma m_li n_rg n_sb n_st n_pl n_z n_n n_h n_c n_en n_so n_co n_sc l_bk l_of l_en l_ct t_bk t_of t_en t_ct))) := by
  refine ctx_of RD (by decide) rfl (Nat.le_of_ble_eq_true rfl) (fun G hl hD X hq => ?_)
  subst hl hD
  show go_ G 0 0 (wC ad s_bk s_ln s_kd s_vl s_ct k_ce k_bc m_ra m_up m_on m_lo m_hi m_mo m_ma m_li n_rg n_sb n_st n_pl n_z n_n n_h n_c n_en n_so n_co n_sc l_bk l_of l_en l_ct t_bk t_of t_en t_ct) 0 [(0, .ref (ad 0)), (1, .int a1)] []
  refine go_iload_n X 1 dD_image_0 rfl rfl ?_
  refine go_if_lt X dD_image_1 rfl (fun hc => ?_) (fun hc => ?_)
  · have hw := hw.1 hc
    exact go_thr X hl0 hq 3 th_3 dD_image_15 dD_image_18 dD_image_19 dD_image_22 () hw rfl (by decide) (Nat.le_of_ble_eq_true rfl)
  · have hw := hw.2 hc
    refine go_iload_n X 1 dD_image_4 rfl rfl ?_
    refine go_aload_n X 0 dD_image_5 rfl rfl ?_
    refine gt_D_19 X dD_image_6 ?_
    refine k_K_size X hw mw_D_106 ⟨by decide, by decide⟩ (Nat.le_of_ble_eq_true rfl) ⟨Nat.zero_le _, Nat.zero_le _⟩ dD_image_9 (fun r1 hw => ?_)
    refine go_icmp_lt X dD_image_12 rfl (fun hc => ?_) (fun hc => ?_)
    · have hw := hw.1 hc
      refine go_aload_n X 0 dD_image_23 rfl rfl ?_
      refine gt_D_19 X dD_image_24 ?_
      refine gt_D_109 X dD_image_27 ?_
      refine go_iload_n X 1 dD_image_30 rfl rfl ?_
      have hz := hw.1
      have hw := hw.2
      refine ar_k_ce X hz dD_image_31 ?_
      exact go_irx X hq dD_image_32 () hw rfl
    · have hw := hw.2 hc
      exact go_thr X hl0 hq 3 th_3 dD_image_15 dD_image_18 dD_image_19 dD_image_22 () hw rfl (by decide) (Nat.le_of_ble_eq_true rfl)
set_option maxRecDepth 100000 in
set_option maxHeartbeats 4000000 in
theorem c_D_mended {l : Launch} {D : va_G} {ad : Nat → Nat} {s_bk s_ln s_kd s_vl : Nat → Int32} {s_ct : Int32} {k_ce : Nat → Int32} {k_bc : Int32} {m_ra m_up : Nat → Int32} {m_on m_lo m_hi m_mo m_ma m_li : Int32} {n_rg n_sb : Nat → Int32} {n_st n_pl n_z n_n n_h n_c n_en n_so n_co n_sc : Int32} {l_bk l_of l_en : Nat → Int32} {l_ct : Int32} {t_bk t_of t_en : Nat → Int32} {t_ct : Int32} {a1 a2 : Int32} {P : (Nat → Int32) → (Nat → Int32) → (Nat → Int32) → Prop} {PX : Nat → (Nat → Int32) → (Nat → Int32) → (Nat → Int32) → Prop} (hl0 : l.stackTraces = false) (hw : wp_D_mended s_ln s_kd s_vl s_ct a1 a2 P PX) : ctx_ l yD_mended bD_mended 4 none 6 90 D ad [.ref (ad 0), .int a1, .int a2] (wC ad s_bk s_ln s_kd s_vl s_ct k_ce k_bc m_ra m_up m_on m_lo m_hi m_mo m_ma m_li n_rg n_sb n_st n_pl n_z n_n n_h n_c n_en n_so n_co n_sc l_bk l_of l_en l_ct t_bk t_of t_en t_ct) (qv_ D (fun (u : (Nat → Int32) × (Nat → Int32) × (Nat → Int32)) => P u.1 u.2.1 u.2.2) (fun u => wC ad s_bk u.1 u.2.1 u.2.2 s_ct k_ce k_bc m_ra m_up m_on m_lo m_hi m_mo m_ma m_li n_rg n_sb n_st n_pl n_z n_n n_h n_c n_en n_so n_co n_sc l_bk l_of l_en l_ct t_bk t_of t_en t_ct)) (qx_ D (fun (z : Nat) (u : (Nat → Int32) × (Nat → Int32) × (Nat → Int32)) => PX z u.1 u.2.1 u.2.2) (fun u => wC ad s_bk u.1 u.2.1 u.2.2 s_ct k_ce k_bc m_ra m_up m_on m_lo m_hi m_mo m_ma m_li n_rg n_sb n_st n_pl n_z n_n n_h n_c n_en n_so n_co n_sc l_bk l_of l_en l_ct t_bk t_of t_en t_ct)) := by
  refine ctx_of RD (by decide) rfl (Nat.le_of_ble_eq_true rfl) (fun G hl hD X hq => ?_)
  subst hl hD
  show go_ G 0 0 (wC ad s_bk s_ln s_kd s_vl s_ct k_ce k_bc m_ra m_up m_on m_lo m_hi m_mo m_ma m_li n_rg n_sb n_st n_pl n_z n_n n_h n_c n_en n_so n_co n_sc l_bk l_of l_en l_ct t_bk t_of t_en t_ct) 0 [(0, .ref (ad 0)), (1, .int a1), (2, .int a2)] []
  have C15 : ∀ (s_ln s_kd s_vl : Nat → Int32) (x1 x2 y0 : Int32), wp_D_mended_15 s_ct P PX s_ln s_kd s_vl x1 x2 y0 → go_ G 0 0 (wC ad s_bk s_ln s_kd s_vl s_ct k_ce k_bc m_ra m_up m_on m_lo m_hi m_mo m_ma m_li n_rg n_sb n_st n_pl n_z n_n n_h n_c n_en n_so n_co n_sc l_bk l_of l_en l_ct t_bk t_of t_en t_ct) 15 [(0, .ref (ad 0)), (1, .int x1), (2, .int x2)] [.int y0] := by
    intro s_ln s_kd s_vl x1 x2 y0 hw
    refine go_istore_n X dD_mended_15 rfl (by decide) rfl ?_
    refine go_iload_n X 0 dD_mended_16 rfl rfl ?_
    refine go_if_eq X dD_mended_17 rfl (fun hc => ?_) (fun hc => ?_)
    · have hw := hw.1 hc
      exact go_thr X hl0 hq 1 th_1 dD_mended_30 dD_mended_33 dD_mended_34 dD_mended_37 (s_ln, s_kd, s_vl) hw rfl (by decide) (Nat.le_of_ble_eq_true rfl)
    · have hw := hw.2 hc
      refine go_iload_n X 3 dD_mended_20 rfl rfl ?_
      refine go_if_lt X dD_mended_21 rfl (fun hc => ?_) (fun hc => ?_)
      · have hw := hw.1 hc
        exact go_thr X hl0 hq 1 th_1 dD_mended_30 dD_mended_33 dD_mended_34 dD_mended_37 (s_ln, s_kd, s_vl) hw rfl (by decide) (Nat.le_of_ble_eq_true rfl)
      · have hw := hw.2 hc
        refine go_iload_n X 3 dD_mended_24 rfl rfl ?_
        refine go_bipush X dD_mended_25 kc_b10 ?_
        refine go_icmp_lt X dD_mended_27 rfl (fun hc => ?_) (fun hc => ?_)
        · have hw := hw.1 hc
          refine go_aload_n X 1 dD_mended_38 rfl rfl ?_
          refine gt_D_10 X dD_mended_39 ?_
          refine go_iconst X dD_mended_42 kc_i1 ?_
          refine k_S_canTake X hw mw_D_65 ⟨by decide, by decide⟩ (Nat.le_of_ble_eq_true rfl) ⟨Nat.zero_le _, Nat.zero_le _⟩ dD_mended_43 (fun r1 hw => ?_)
          refine go_if_ne X dD_mended_46 rfl (fun hc => ?_) (fun hc => ?_)
          · have hw := hw.1 hc
            refine go_aload_n X 1 dD_mended_57 rfl rfl ?_
            refine gt_D_10 X dD_mended_58 ?_
            refine go_iload_n X 2 dD_mended_61 rfl rfl ?_
            refine go_iload_n X 3 dD_mended_62 rfl rfl ?_
            refine k_S_append X hw mw_D_69 ⟨by decide, by decide⟩ (Nat.le_of_ble_eq_true rfl) ⟨Nat.zero_le _, Nat.zero_le _⟩ dD_mended_63 (fun w2 w3 w4 hw => ?_)
            exact go_vrx X hq dD_mended_66 (w2, w3, w4) hw rfl
          · have hw := hw.2 hc
            exact go_thr X hl0 hq 2 th_2 dD_mended_49 dD_mended_52 dD_mended_53 dD_mended_56 (s_ln, s_kd, s_vl) hw rfl (by decide) (Nat.le_of_ble_eq_true rfl)
        · have hw := hw.2 hc
          exact go_thr X hl0 hq 1 th_1 dD_mended_30 dD_mended_33 dD_mended_34 dD_mended_37 (s_ln, s_kd, s_vl) hw rfl (by decide) (Nat.le_of_ble_eq_true rfl)
  refine go_iload_n X 1 dD_mended_0 rfl rfl ?_
  refine go_iconst X dD_mended_1 kc_i1 ?_
  refine go_icmp_eq X dD_mended_2 rfl (fun hc => ?_) (fun hc => ?_)
  · have hw := hw.1 hc
    refine go_iconst X dD_mended_10 kc_i1 ?_
    refine go_goto X dD_mended_11 rfl ?_
    exact C15 _ _ _ _ _ _ hw
  · have hw := hw.2 hc
    refine go_iload_n X 1 dD_mended_5 rfl rfl ?_
    refine go_iconst X dD_mended_6 kc_i2 ?_
    refine go_icmp_ne X dD_mended_7 rfl (fun hc => ?_) (fun hc => ?_)
    · have hw := hw.1 hc
      refine go_iconst X dD_mended_14 kc_i0 ?_
      exact C15 _ _ _ _ _ _ hw
    · have hw := hw.2 hc
      refine go_iconst X dD_mended_10 kc_i1 ?_
      refine go_goto X dD_mended_11 rfl ?_
      exact C15 _ _ _ _ _ _ hw
set_option maxRecDepth 100000 in
set_option maxHeartbeats 4000000 in
theorem c_D_packed {l : Launch} {D : va_G} {ad : Nat → Nat} {s_bk s_ln s_kd s_vl : Nat → Int32} {s_ct : Int32} {k_ce : Nat → Int32} {k_bc : Int32} {m_ra m_up : Nat → Int32} {m_on m_lo m_hi m_mo m_ma m_li : Int32} {n_rg n_sb : Nat → Int32} {n_st n_pl n_z n_n n_h n_c n_en n_so n_co n_sc : Int32} {l_bk l_of l_en : Nat → Int32} {l_ct : Int32} {t_bk t_of t_en : Nat → Int32} {t_ct : Int32} {a1 a2 : Int32} {P : Int32 → Prop} {PX : Nat → Prop} (hl0 : l.stackTraces = false) (hw : wp_D_packed l_bk l_of l_ct a1 a2 P PX) : ctx_ l yD_packed bD_packed 3 (some .int) 6 90 D ad [.ref (ad 0), .int a1, .int a2] (wC ad s_bk s_ln s_kd s_vl s_ct k_ce k_bc m_ra m_up m_on m_lo m_hi m_mo m_ma m_li n_rg n_sb n_st n_pl n_z n_n n_h n_c n_en n_so n_co n_sc l_bk l_of l_en l_ct t_bk t_of t_en t_ct) (qi_ D (fun (r : Int32) (_ : Unit) => P r ) (fun _ => (wC ad s_bk s_ln s_kd s_vl s_ct k_ce k_bc m_ra m_up m_on m_lo m_hi m_mo m_ma m_li n_rg n_sb n_st n_pl n_z n_n n_h n_c n_en n_so n_co n_sc l_bk l_of l_en l_ct t_bk t_of t_en t_ct))) (qx_ D (fun (z : Nat) (_ : Unit) => PX z ) (fun _ => (wC ad s_bk s_ln s_kd s_vl s_ct k_ce k_bc m_ra m_up m_on m_lo m_hi m_mo m_ma m_li n_rg n_sb n_st n_pl n_z n_n n_h n_c n_en n_so n_co n_sc l_bk l_of l_en l_ct t_bk t_of t_en t_ct))) := by
  refine ctx_of RD (by decide) rfl (Nat.le_of_ble_eq_true rfl) (fun G hl hD X hq => ?_)
  subst hl hD
  show go_ G 0 0 (wC ad s_bk s_ln s_kd s_vl s_ct k_ce k_bc m_ra m_up m_on m_lo m_hi m_mo m_ma m_li n_rg n_sb n_st n_pl n_z n_n n_h n_c n_en n_so n_co n_sc l_bk l_of l_en l_ct t_bk t_of t_en t_ct) 0 [(0, .ref (ad 0)), (1, .int a1), (2, .int a2)] []
  refine go_iload_n X 1 dD_packed_0 rfl rfl ?_
  refine go_if_lt X dD_packed_1 rfl (fun hc => ?_) (fun hc => ?_)
  · have hw := hw.1 hc
    exact go_thr X hl0 hq 3 th_3 dD_packed_24 dD_packed_27 dD_packed_28 dD_packed_31 () hw rfl (by decide) (Nat.le_of_ble_eq_true rfl)
  · have hw := hw.2 hc
    refine go_iload_n X 1 dD_packed_4 rfl rfl ?_
    refine go_aload_n X 0 dD_packed_5 rfl rfl ?_
    refine gt_D_44 X dD_packed_6 ?_
    refine gt_D_98L X dD_packed_9 ?_
    refine go_icmp_ge X dD_packed_12 rfl (fun hc => ?_) (fun hc => ?_)
    · have hw := hw.1 hc
      exact go_thr X hl0 hq 3 th_3 dD_packed_24 dD_packed_27 dD_packed_28 dD_packed_31 () hw rfl (by decide) (Nat.le_of_ble_eq_true rfl)
    · have hw := hw.2 hc
      refine go_iload_n X 2 dD_packed_15 rfl rfl ?_
      refine go_if_lt X dD_packed_16 rfl (fun hc => ?_) (fun hc => ?_)
      · have hw := hw.1 hc
        exact go_thr X hl0 hq 3 th_3 dD_packed_24 dD_packed_27 dD_packed_28 dD_packed_31 () hw rfl (by decide) (Nat.le_of_ble_eq_true rfl)
      · have hw := hw.2 hc
        refine go_iload_n X 2 dD_packed_19 rfl rfl ?_
        refine go_iconst X dD_packed_20 kc_i1 ?_
        refine go_icmp_le X dD_packed_21 rfl (fun hc => ?_) (fun hc => ?_)
        · have hw := hw.1 hc
          refine go_iload_n X 2 dD_packed_32 rfl rfl ?_
          refine go_if_ne X dD_packed_33 rfl (fun hc => ?_) (fun hc => ?_)
          · have hw := hw.1 hc
            refine go_aload_n X 0 dD_packed_48 rfl rfl ?_
            refine gt_D_44 X dD_packed_49 ?_
            refine go_iload_n X 1 dD_packed_52 rfl rfl ?_
            refine k_P_addressOf X hw mw_D_103 ⟨by decide, by decide⟩ (Nat.le_of_ble_eq_true rfl) ⟨Nat.zero_le _, Nat.zero_le _⟩ dD_packed_53 (fun r1 hw => ?_)
            exact go_irx X hq dD_packed_56 () hw rfl
          · have hw := hw.2 hc
            refine go_aload_n X 0 dD_packed_36 rfl rfl ?_
            refine gt_D_44 X dD_packed_37 ?_
            refine gt_D_99L X dD_packed_40 ?_
            refine go_iload_n X 1 dD_packed_43 rfl rfl ?_
            have hz := hw.1
            have hw := hw.2
            refine ar_l_bk X hz dD_packed_44 ?_
            refine go_goto X dD_packed_45 rfl ?_
            exact go_irx X hq dD_packed_56 () hw rfl
        · have hw := hw.2 hc
          exact go_thr X hl0 hq 3 th_3 dD_packed_24 dD_packed_27 dD_packed_28 dD_packed_31 () hw rfl (by decide) (Nat.le_of_ble_eq_true rfl)
set_option maxRecDepth 100000 in
set_option maxHeartbeats 4000000 in
theorem c_D_section {l : Launch} {D : va_G} {ad : Nat → Nat} {s_bk s_ln s_kd s_vl : Nat → Int32} {s_ct : Int32} {k_ce : Nat → Int32} {k_bc : Int32} {m_ra m_up : Nat → Int32} {m_on m_lo m_hi m_mo m_ma m_li : Int32} {n_rg n_sb : Nat → Int32} {n_st n_pl n_z n_n n_h n_c n_en n_so n_co n_sc : Int32} {l_bk l_of l_en : Nat → Int32} {l_ct : Int32} {t_bk t_of t_en : Nat → Int32} {t_ct : Int32} {a1 : Int32} {P : Int32 → (Nat → Int32) → (Nat → Int32) → (Int32) → Prop} {PX : Nat → (Nat → Int32) → (Nat → Int32) → (Int32) → Prop} (hl0 : l.stackTraces = false) (hw : wp_D_section s_bk s_ln s_ct a1 P PX) : ctx_ l yD_section bD_section 2 (some .int) 6 90 D ad [.ref (ad 0), .int a1] (wC ad s_bk s_ln s_kd s_vl s_ct k_ce k_bc m_ra m_up m_on m_lo m_hi m_mo m_ma m_li n_rg n_sb n_st n_pl n_z n_n n_h n_c n_en n_so n_co n_sc l_bk l_of l_en l_ct t_bk t_of t_en t_ct) (qi_ D (fun (r : Int32) (u : (Nat → Int32) × (Nat → Int32) × (Int32)) => P r u.1 u.2.1 u.2.2) (fun u => wC ad u.1 u.2.1 s_kd s_vl u.2.2 k_ce k_bc m_ra m_up m_on m_lo m_hi m_mo m_ma m_li n_rg n_sb n_st n_pl n_z n_n n_h n_c n_en n_so n_co n_sc l_bk l_of l_en l_ct t_bk t_of t_en t_ct)) (qx_ D (fun (z : Nat) (u : (Nat → Int32) × (Nat → Int32) × (Int32)) => PX z u.1 u.2.1 u.2.2) (fun u => wC ad u.1 u.2.1 s_kd s_vl u.2.2 k_ce k_bc m_ra m_up m_on m_lo m_hi m_mo m_ma m_li n_rg n_sb n_st n_pl n_z n_n n_h n_c n_en n_so n_co n_sc l_bk l_of l_en l_ct t_bk t_of t_en t_ct)) := by
  refine ctx_of RD (by decide) rfl (Nat.le_of_ble_eq_true rfl) (fun G hl hD X hq => ?_)
  subst hl hD
  show go_ G 0 0 (wC ad s_bk s_ln s_kd s_vl s_ct k_ce k_bc m_ra m_up m_on m_lo m_hi m_mo m_ma m_li n_rg n_sb n_st n_pl n_z n_n n_h n_c n_en n_so n_co n_sc l_bk l_of l_en l_ct t_bk t_of t_en t_ct) 0 [(0, .ref (ad 0)), (1, .int a1)] []
  refine go_iload_n X 1 dD_section_0 rfl rfl ?_
  refine go_iconst X dD_section_1 kc_im1 ?_
  refine go_icmp_lt X dD_section_2 rfl (fun hc => ?_) (fun hc => ?_)
  · have hw := hw.1 hc
    exact go_thr X hl0 hq 1 th_1 dD_section_11 dD_section_14 dD_section_15 dD_section_18 (s_bk, s_ln, s_ct) hw rfl (by decide) (Nat.le_of_ble_eq_true rfl)
  · have hw := hw.2 hc
    refine go_iload_n X 1 dD_section_5 rfl rfl ?_
    refine go_bipush X dD_section_6 kc_b8 ?_
    refine go_icmp_lt X dD_section_8 rfl (fun hc => ?_) (fun hc => ?_)
    · have hw := hw.1 hc
      refine go_aload_n X 0 dD_section_19 rfl rfl ?_
      refine gt_D_10 X dD_section_20 ?_
      refine gt_D_54 X dD_section_23 ?_
      refine go_bipush X dD_section_26 kc_b10 ?_
      refine go_icmp_lt X dD_section_28 rfl (fun hc => ?_) (fun hc => ?_)
      · have hw := hw.1 hc
        refine go_aload_n X 0 dD_section_39 rfl rfl ?_
        refine gt_D_10 X dD_section_40 ?_
        refine go_iload_n X 1 dD_section_43 rfl rfl ?_
        refine k_S_open X hw mw_D_61 ⟨by decide, by decide⟩ (Nat.le_of_ble_eq_true rfl) ⟨Nat.zero_le _, Nat.zero_le _⟩ dD_section_44 (fun r1 w2 w3 w4 hw => ?_)
        exact go_irx X hq dD_section_47 (w2, w3, w4) hw rfl
      · have hw := hw.2 hc
        exact go_thr X hl0 hq 2 th_2 dD_section_31 dD_section_34 dD_section_35 dD_section_38 (s_bk, s_ln, s_ct) hw rfl (by decide) (Nat.le_of_ble_eq_true rfl)
    · have hw := hw.2 hc
      exact go_thr X hl0 hq 1 th_1 dD_section_11 dD_section_14 dD_section_15 dD_section_18 (s_bk, s_ln, s_ct) hw rfl (by decide) (Nat.le_of_ble_eq_true rfl)
set_option maxRecDepth 100000 in
set_option maxHeartbeats 4000000 in
theorem c_D_spoil {l : Launch} {D : va_G} {ad : Nat → Nat} {s_bk s_ln s_kd s_vl : Nat → Int32} {s_ct : Int32} {k_ce : Nat → Int32} {k_bc : Int32} {m_ra m_up : Nat → Int32} {m_on m_lo m_hi m_mo m_ma m_li : Int32} {n_rg n_sb : Nat → Int32} {n_st n_pl n_z n_n n_h n_c n_en n_so n_co n_sc : Int32} {l_bk l_of l_en : Nat → Int32} {l_ct : Int32} {t_bk t_of t_en : Nat → Int32} {t_ct : Int32} {a1 a2 : Int32} {P : (Nat → Int32) → Prop} {PX : Nat → (Nat → Int32) → Prop} (hl0 : l.stackTraces = false) (hw : wp_D_spoil k_ce k_bc a1 a2 P PX) : ctx_ l yD_spoil bD_spoil 3 none 6 90 D ad [.ref (ad 0), .int a1, .int a2] (wC ad s_bk s_ln s_kd s_vl s_ct k_ce k_bc m_ra m_up m_on m_lo m_hi m_mo m_ma m_li n_rg n_sb n_st n_pl n_z n_n n_h n_c n_en n_so n_co n_sc l_bk l_of l_en l_ct t_bk t_of t_en t_ct) (qv_ D (fun (u : (Nat → Int32)) => P u) (fun u => wC ad s_bk s_ln s_kd s_vl s_ct u k_bc m_ra m_up m_on m_lo m_hi m_mo m_ma m_li n_rg n_sb n_st n_pl n_z n_n n_h n_c n_en n_so n_co n_sc l_bk l_of l_en l_ct t_bk t_of t_en t_ct)) (qx_ D (fun (z : Nat) (u : (Nat → Int32)) => PX z u) (fun u => wC ad s_bk s_ln s_kd s_vl s_ct u k_bc m_ra m_up m_on m_lo m_hi m_mo m_ma m_li n_rg n_sb n_st n_pl n_z n_n n_h n_c n_en n_so n_co n_sc l_bk l_of l_en l_ct t_bk t_of t_en t_ct)) := by
  refine ctx_of RD (by decide) rfl (Nat.le_of_ble_eq_true rfl) (fun G hl hD X hq => ?_)
  subst hl hD
  show go_ G 0 0 (wC ad s_bk s_ln s_kd s_vl s_ct k_ce k_bc m_ra m_up m_on m_lo m_hi m_mo m_ma m_li n_rg n_sb n_st n_pl n_z n_n n_h n_c n_en n_so n_co n_sc l_bk l_of l_en l_ct t_bk t_of t_en t_ct) 0 [(0, .ref (ad 0)), (1, .int a1), (2, .int a2)] []
  refine go_iload_n X 1 dD_spoil_0 rfl rfl ?_
  refine go_if_lt X dD_spoil_1 rfl (fun hc => ?_) (fun hc => ?_)
  · have hw := hw.1 hc
    exact go_thr X hl0 hq 3 th_3 dD_spoil_15 dD_spoil_18 dD_spoil_19 dD_spoil_22 k_ce hw rfl (by decide) (Nat.le_of_ble_eq_true rfl)
  · have hw := hw.2 hc
    refine go_iload_n X 1 dD_spoil_4 rfl rfl ?_
    refine go_aload_n X 0 dD_spoil_5 rfl rfl ?_
    refine gt_D_19 X dD_spoil_6 ?_
    refine k_K_size X hw mw_D_106 ⟨by decide, by decide⟩ (Nat.le_of_ble_eq_true rfl) ⟨Nat.zero_le _, Nat.zero_le _⟩ dD_spoil_9 (fun r1 hw => ?_)
    refine go_icmp_lt X dD_spoil_12 rfl (fun hc => ?_) (fun hc => ?_)
    · have hw := hw.1 hc
      refine go_aload_n X 0 dD_spoil_23 rfl rfl ?_
      refine gt_D_19 X dD_spoil_24 ?_
      refine gt_D_109 X dD_spoil_27 ?_
      refine go_iload_n X 1 dD_spoil_30 rfl rfl ?_
      refine go_iload_n X 2 dD_spoil_31 rfl rfl ?_
      refine go_sipush X dD_spoil_32 kc_s255 ?_
      refine go_iand X dD_spoil_35 ?_
      have hz := hw.1
      have hw := hw.2
      refine as_k_ce X hz dD_spoil_36 ?_
      exact go_vrx X hq dD_spoil_37 (upd k_ce a1.toNatClampNeg (a2 &&& (255 : Int32))) hw rfl
    · have hw := hw.2 hc
      exact go_thr X hl0 hq 3 th_3 dD_spoil_15 dD_spoil_18 dD_spoil_19 dD_spoil_22 k_ce hw rfl (by decide) (Nat.le_of_ble_eq_true rfl)
set_option maxRecDepth 100000 in
set_option maxHeartbeats 4000000 in
theorem c_D_peek {l : Launch} {D : va_G} {ad : Nat → Nat} {s_bk s_ln s_kd s_vl : Nat → Int32} {s_ct : Int32} {k_ce : Nat → Int32} {k_bc : Int32} {m_ra m_up : Nat → Int32} {m_on m_lo m_hi m_mo m_ma m_li : Int32} {n_rg n_sb : Nat → Int32} {n_st n_pl n_z n_n n_h n_c n_en n_so n_co n_sc : Int32} {l_bk l_of l_en : Nat → Int32} {l_ct : Int32} {t_bk t_of t_en : Nat → Int32} {t_ct : Int32} {a1 : Int32} {P : Int32 → Prop} {PX : Nat → Prop} (hl0 : l.stackTraces = false) (hw : wp_D_peek k_ce k_bc m_ra m_up m_on m_lo m_hi m_mo m_ma m_li a1 P PX) : ctx_ l yD_peek bD_peek 2 (some .int) 6 90 D ad [.ref (ad 0), .int a1] (wC ad s_bk s_ln s_kd s_vl s_ct k_ce k_bc m_ra m_up m_on m_lo m_hi m_mo m_ma m_li n_rg n_sb n_st n_pl n_z n_n n_h n_c n_en n_so n_co n_sc l_bk l_of l_en l_ct t_bk t_of t_en t_ct) (qi_ D (fun (r : Int32) (_ : Unit) => P r ) (fun _ => (wC ad s_bk s_ln s_kd s_vl s_ct k_ce k_bc m_ra m_up m_on m_lo m_hi m_mo m_ma m_li n_rg n_sb n_st n_pl n_z n_n n_h n_c n_en n_so n_co n_sc l_bk l_of l_en l_ct t_bk t_of t_en t_ct))) (qx_ D (fun (z : Nat) (_ : Unit) => PX z ) (fun _ => (wC ad s_bk s_ln s_kd s_vl s_ct k_ce k_bc m_ra m_up m_on m_lo m_hi m_mo m_ma m_li n_rg n_sb n_st n_pl n_z n_n n_h n_c n_en n_so n_co n_sc l_bk l_of l_en l_ct t_bk t_of t_en t_ct))) := by
  refine ctx_of RD (by decide) rfl (Nat.le_of_ble_eq_true rfl) (fun G hl hD X hq => ?_)
  subst hl hD
  show go_ G 0 0 (wC ad s_bk s_ln s_kd s_vl s_ct k_ce k_bc m_ra m_up m_on m_lo m_hi m_mo m_ma m_li n_rg n_sb n_st n_pl n_z n_n n_h n_c n_en n_so n_co n_sc l_bk l_of l_en l_ct t_bk t_of t_en t_ct) 0 [(0, .ref (ad 0)), (1, .int a1)] []
  refine go_iload_n X 1 dD_peek_0 rfl rfl ?_
  refine go_if_lt X dD_peek_1 rfl (fun hc => ?_) (fun hc => ?_)
  · have hw := hw.1 hc
    exact go_thr X hl0 hq 3 th_3 dD_peek_21 dD_peek_24 dD_peek_25 dD_peek_28 () hw rfl (by decide) (Nat.le_of_ble_eq_true rfl)
  · have hw := hw.2 hc
    refine go_iload_n X 1 dD_peek_4 rfl rfl ?_
    refine go_sipush X dD_peek_5 kc_s255 ?_
    refine go_icmp_gt X dD_peek_8 rfl (fun hc => ?_) (fun hc => ?_)
    · have hw := hw.1 hc
      exact go_thr X hl0 hq 3 th_3 dD_peek_21 dD_peek_24 dD_peek_25 dD_peek_28 () hw rfl (by decide) (Nat.le_of_ble_eq_true rfl)
    · have hw := hw.2 hc
      refine go_aload_n X 0 dD_peek_11 rfl rfl ?_
      refine gt_D_19 X dD_peek_12 ?_
      refine k_K_isMade X hw mw_D_112 ⟨by decide, by decide⟩ (Nat.le_of_ble_eq_true rfl) ⟨Nat.zero_le _, Nat.zero_le _⟩ dD_peek_15 (fun r1 hw => ?_)
      refine go_if_ne X dD_peek_18 rfl (fun hc => ?_) (fun hc => ?_)
      · have hw := hw.1 hc
        refine go_aload_n X 0 dD_peek_29 rfl rfl ?_
        refine gt_D_28 X dD_peek_30 ?_
        refine go_iload_n X 1 dD_peek_33 rfl rfl ?_
        refine k_M_read X hw mw_D_133 ⟨by decide, by decide⟩ (Nat.le_of_ble_eq_true rfl) ⟨Nat.zero_le _, Nat.zero_le _⟩ dD_peek_34 (fun r2 hw => ?_)
        exact go_irx X hq dD_peek_37 () hw rfl
      · have hw := hw.2 hc
        exact go_thr X hl0 hq 3 th_3 dD_peek_21 dD_peek_24 dD_peek_25 dD_peek_28 () hw rfl (by decide) (Nat.le_of_ble_eq_true rfl)
set_option maxRecDepth 100000 in
set_option maxHeartbeats 4000000 in
theorem c_D_restart {l : Launch} {D : va_G} {ad : Nat → Nat} {s_bk s_ln s_kd s_vl : Nat → Int32} {s_ct : Int32} {k_ce : Nat → Int32} {k_bc : Int32} {m_ra m_up : Nat → Int32} {m_on m_lo m_hi m_mo m_ma m_li : Int32} {n_rg n_sb : Nat → Int32} {n_st n_pl n_z n_n n_h n_c n_en n_so n_co n_sc : Int32} {l_bk l_of l_en : Nat → Int32} {l_ct : Int32} {t_bk t_of t_en : Nat → Int32} {t_ct : Int32}  {P : (Nat → Int32) → (Nat → Int32) → (Int32) → (Int32) → (Int32) → (Int32) → (Int32) → (Int32) → (Nat → Int32) → (Int32) → (Int32) → (Int32) → (Int32) → (Int32) → (Int32) → (Int32) → (Int32) → (Int32) → (Int32) → Prop} (hw : wp_D_restart m_ra m_up m_on m_lo m_hi m_mo m_ma m_li n_rg n_st n_pl n_z n_n n_h n_c n_en n_so n_co n_sc  P) : ct_ l yD_restart bD_restart 1 none 2 45 D ad [.ref (ad 0)] (wC ad s_bk s_ln s_kd s_vl s_ct k_ce k_bc m_ra m_up m_on m_lo m_hi m_mo m_ma m_li n_rg n_sb n_st n_pl n_z n_n n_h n_c n_en n_so n_co n_sc l_bk l_of l_en l_ct t_bk t_of t_en t_ct) (qv_ D (fun (u : (Nat → Int32) × (Nat → Int32) × (Int32) × (Int32) × (Int32) × (Int32) × (Int32) × (Int32) × (Nat → Int32) × (Int32) × (Int32) × (Int32) × (Int32) × (Int32) × (Int32) × (Int32) × (Int32) × (Int32) × (Int32)) => P u.1 u.2.1 u.2.2.1 u.2.2.2.1 u.2.2.2.2.1 u.2.2.2.2.2.1 u.2.2.2.2.2.2.1 u.2.2.2.2.2.2.2.1 u.2.2.2.2.2.2.2.2.1 u.2.2.2.2.2.2.2.2.2.1 u.2.2.2.2.2.2.2.2.2.2.1 u.2.2.2.2.2.2.2.2.2.2.2.1 u.2.2.2.2.2.2.2.2.2.2.2.2.1 u.2.2.2.2.2.2.2.2.2.2.2.2.2.1 u.2.2.2.2.2.2.2.2.2.2.2.2.2.2.1 u.2.2.2.2.2.2.2.2.2.2.2.2.2.2.2.1 u.2.2.2.2.2.2.2.2.2.2.2.2.2.2.2.2.1 u.2.2.2.2.2.2.2.2.2.2.2.2.2.2.2.2.2.1 u.2.2.2.2.2.2.2.2.2.2.2.2.2.2.2.2.2.2) (fun u => wC ad s_bk s_ln s_kd s_vl s_ct k_ce k_bc u.1 u.2.1 u.2.2.1 u.2.2.2.1 u.2.2.2.2.1 u.2.2.2.2.2.1 u.2.2.2.2.2.2.1 u.2.2.2.2.2.2.2.1 u.2.2.2.2.2.2.2.2.1 n_sb u.2.2.2.2.2.2.2.2.2.1 u.2.2.2.2.2.2.2.2.2.2.1 u.2.2.2.2.2.2.2.2.2.2.2.1 u.2.2.2.2.2.2.2.2.2.2.2.2.1 u.2.2.2.2.2.2.2.2.2.2.2.2.2.1 u.2.2.2.2.2.2.2.2.2.2.2.2.2.2.1 u.2.2.2.2.2.2.2.2.2.2.2.2.2.2.2.1 u.2.2.2.2.2.2.2.2.2.2.2.2.2.2.2.2.1 u.2.2.2.2.2.2.2.2.2.2.2.2.2.2.2.2.2.1 u.2.2.2.2.2.2.2.2.2.2.2.2.2.2.2.2.2.2 l_bk l_of l_en l_ct t_bk t_of t_en t_ct)) := by
  refine ct_of RD (by decide) rfl (Nat.le_of_ble_eq_true rfl) (fun G hl hD X hq => ?_)
  subst hl hD
  show go_ G 0 0 (wC ad s_bk s_ln s_kd s_vl s_ct k_ce k_bc m_ra m_up m_on m_lo m_hi m_mo m_ma m_li n_rg n_sb n_st n_pl n_z n_n n_h n_c n_en n_so n_co n_sc l_bk l_of l_en l_ct t_bk t_of t_en t_ct) 0 [(0, .ref (ad 0))] []
  refine go_aload_n X 0 dD_restart_0 rfl rfl ?_
  refine gt_D_37 X dD_restart_1 ?_
  refine k_N_begin X hw mw_D_91 ⟨by decide, by decide⟩ (Nat.le_of_ble_eq_true rfl) ⟨Nat.zero_le _, Nat.zero_le _⟩ dD_restart_4 (fun w1 w2 w3 w4 w5 w6 w7 w8 w9 w10 w11 w12 w13 w14 w15 w16 w17 w18 w19 hw => ?_)
  exact go_vreturn X hq dD_restart_7 (w1, w2, w3, w4, w5, w6, w7, w8, w9, w10, w11, w12, w13, w14, w15, w16, w17, w18, w19) hw rfl
theorem k_D_restart {G : gt_} {ad : Nat → Nat} {cc : ByteArray} {own : String} {fr lo n cells slots pc index : Nat} {lc : List (Nat × Value)} {rest : List Value} {s_bk s_ln s_kd s_vl : Nat → Int32} {s_ct : Int32} {k_ce : Nat → Int32} {k_bc : Int32} {m_ra m_up : Nat → Int32} {m_on m_lo m_hi m_mo m_ma m_li : Int32} {n_rg n_sb : Nat → Int32} {n_st n_pl n_z n_n n_h n_c n_en n_so n_co n_sc : Int32} {l_bk l_of l_en : Nat → Int32} {l_ct : Int32} {t_bk t_of t_en : Nat → Int32} {t_ct : Int32}  {P : (Nat → Int32) → (Nat → Int32) → (Int32) → (Int32) → (Int32) → (Int32) → (Int32) → (Int32) → (Nat → Int32) → (Int32) → (Int32) → (Int32) → (Int32) → (Int32) → (Int32) → (Int32) → (Int32) → (Int32) → (Int32) → Prop} (X : cx_ G ad cc own fr lo n) (hw : wp_D_restart m_ra m_up m_on m_lo m_hi m_mo m_ma m_li n_rg n_st n_pl n_z n_n n_h n_c n_en n_so n_co n_sc  P) (m1 : Cond.methodLink own index yD_restart ∈ wS) (hlv : 2 + 1 ≤ fr ∧ 8 + (1 + 11) + 45 ≤ lo) (hrs : (rest.map fun v => v.category).sum ≤ 8) (hcs : cells ≤ (gR_ G).cells ∧ slots ≤ (gR_ G).slots) (d : decode cc pc = .ok (.invokevirtual index, 3))
    (kk : ∀ (m_ra' m_up' : Nat → Int32) (m_on' m_lo' m_hi' m_mo' m_ma' m_li' : Int32) (n_rg' : Nat → Int32) (n_st' n_pl' n_z' n_n' n_h' n_c' n_en' n_so' n_co' n_sc' : Int32), P m_ra' m_up' m_on' m_lo' m_hi' m_mo' m_ma' m_li' n_rg' n_st' n_pl' n_z' n_n' n_h' n_c' n_en' n_so' n_co' n_sc' → go_ G cells slots (wC ad s_bk s_ln s_kd s_vl s_ct k_ce k_bc m_ra' m_up' m_on' m_lo' m_hi' m_mo' m_ma' m_li' n_rg' n_sb n_st' n_pl' n_z' n_n' n_h' n_c' n_en' n_so' n_co' n_sc' l_bk l_of l_en l_ct t_bk t_of t_en t_ct) (pc + 3) lc (rest)) : go_ G cells slots (wC ad s_bk s_ln s_kd s_vl s_ct k_ce k_bc m_ra m_up m_on m_lo m_hi m_mo m_ma m_li n_rg n_sb n_st n_pl n_z n_n n_h n_c n_en n_so n_co n_sc l_bk l_of l_en l_ct t_bk t_of t_en t_ct) pc lc (.ref (ad 0) :: rest) :=
  go_cvv X (c_D_restart hw) me_D_restart m1 hlv 0 rfl rfl rfl hrs hcs d (fun u hp => kk u.1 u.2.1 u.2.2.1 u.2.2.2.1 u.2.2.2.2.1 u.2.2.2.2.2.1 u.2.2.2.2.2.2.1 u.2.2.2.2.2.2.2.1 u.2.2.2.2.2.2.2.2.1 u.2.2.2.2.2.2.2.2.2.1 u.2.2.2.2.2.2.2.2.2.2.1 u.2.2.2.2.2.2.2.2.2.2.2.1 u.2.2.2.2.2.2.2.2.2.2.2.2.1 u.2.2.2.2.2.2.2.2.2.2.2.2.2.1 u.2.2.2.2.2.2.2.2.2.2.2.2.2.2.1 u.2.2.2.2.2.2.2.2.2.2.2.2.2.2.2.1 u.2.2.2.2.2.2.2.2.2.2.2.2.2.2.2.2.1 u.2.2.2.2.2.2.2.2.2.2.2.2.2.2.2.2.2.1 u.2.2.2.2.2.2.2.2.2.2.2.2.2.2.2.2.2.2 hp)
set_option maxRecDepth 100000 in
set_option maxHeartbeats 4000000 in
theorem c_D_valid {l : Launch} {D : va_G} {ad : Nat → Nat} {s_bk s_ln s_kd s_vl : Nat → Int32} {s_ct : Int32} {k_ce : Nat → Int32} {k_bc : Int32} {m_ra m_up : Nat → Int32} {m_on m_lo m_hi m_mo m_ma m_li : Int32} {n_rg n_sb : Nat → Int32} {n_st n_pl n_z n_n n_h n_c n_en n_so n_co n_sc : Int32} {l_bk l_of l_en : Nat → Int32} {l_ct : Int32} {t_bk t_of t_en : Nat → Int32} {t_ct : Int32}  {P : Int32 → Prop} {PX : Nat → Prop} (hl0 : l.stackTraces = false) (hw : wp_D_valid k_ce k_bc  P PX) : ctx_ l yD_valid bD_valid 1 (some .int) 6 90 D ad [.ref (ad 0)] (wC ad s_bk s_ln s_kd s_vl s_ct k_ce k_bc m_ra m_up m_on m_lo m_hi m_mo m_ma m_li n_rg n_sb n_st n_pl n_z n_n n_h n_c n_en n_so n_co n_sc l_bk l_of l_en l_ct t_bk t_of t_en t_ct) (qi_ D (fun (r : Int32) (_ : Unit) => P r ) (fun _ => (wC ad s_bk s_ln s_kd s_vl s_ct k_ce k_bc m_ra m_up m_on m_lo m_hi m_mo m_ma m_li n_rg n_sb n_st n_pl n_z n_n n_h n_c n_en n_so n_co n_sc l_bk l_of l_en l_ct t_bk t_of t_en t_ct))) (qx_ D (fun (z : Nat) (_ : Unit) => PX z ) (fun _ => (wC ad s_bk s_ln s_kd s_vl s_ct k_ce k_bc m_ra m_up m_on m_lo m_hi m_mo m_ma m_li n_rg n_sb n_st n_pl n_z n_n n_h n_c n_en n_so n_co n_sc l_bk l_of l_en l_ct t_bk t_of t_en t_ct))) := by
  refine ctx_of RD (by decide) rfl (Nat.le_of_ble_eq_true rfl) (fun G hl hD X hq => ?_)
  subst hl hD
  show go_ G 0 0 (wC ad s_bk s_ln s_kd s_vl s_ct k_ce k_bc m_ra m_up m_on m_lo m_hi m_mo m_ma m_li n_rg n_sb n_st n_pl n_z n_n n_h n_c n_en n_so n_co n_sc l_bk l_of l_en l_ct t_bk t_of t_en t_ct) 0 [(0, .ref (ad 0))] []
  refine go_aload_n X 0 dD_valid_0 rfl rfl ?_
  refine gt_D_19 X dD_valid_1 ?_
  refine k_K_isMade X hw mw_D_112 ⟨by decide, by decide⟩ (Nat.le_of_ble_eq_true rfl) ⟨Nat.zero_le _, Nat.zero_le _⟩ dD_valid_4 (fun r1 hw => ?_)
  refine go_if_ne X dD_valid_7 rfl (fun hc => ?_) (fun hc => ?_)
  · have hw := hw.1 hc
    refine go_aload_n X 0 dD_valid_18 rfl rfl ?_
    refine gt_D_19 X dD_valid_19 ?_
    refine k_K_verdict X hw mw_D_115 ⟨by decide, by decide⟩ (Nat.le_of_ble_eq_true rfl) ⟨Nat.zero_le _, Nat.zero_le _⟩ dD_valid_22 (fun r2 hw => ?_)
    exact go_irx X hq dD_valid_25 () hw rfl
  · have hw := hw.2 hc
    exact go_thr X hl0 hq 3 th_3 dD_valid_10 dD_valid_13 dD_valid_14 dD_valid_17 () hw rfl (by decide) (Nat.le_of_ble_eq_true rfl)
set_option maxRecDepth 100000 in
set_option maxHeartbeats 4000000 in
theorem c_D_link {l : Launch} {D : va_G} {ad : Nat → Nat} {s_bk s_ln s_kd s_vl : Nat → Int32} {s_ct : Int32} {k_ce : Nat → Int32} {k_bc : Int32} {m_ra m_up : Nat → Int32} {m_on m_lo m_hi m_mo m_ma m_li : Int32} {n_rg n_sb : Nat → Int32} {n_st n_pl n_z n_n n_h n_c n_en n_so n_co n_sc : Int32} {l_bk l_of l_en : Nat → Int32} {l_ct : Int32} {t_bk t_of t_en : Nat → Int32} {t_ct : Int32} {a1 : Int32} {P : Int32 → (Nat → Int32) → (Int32) → (Nat → Int32) → (Nat → Int32) → (Int32) → (Int32) → (Int32) → (Int32) → (Int32) → (Int32) → (Nat → Int32) → (Int32) → (Int32) → (Int32) → (Int32) → (Int32) → (Int32) → (Int32) → (Int32) → (Int32) → (Int32) → (Nat → Int32) → (Nat → Int32) → (Nat → Int32) → (Int32) → (Nat → Int32) → (Nat → Int32) → (Nat → Int32) → (Int32) → Prop} {PX : Nat → (Nat → Int32) → (Int32) → (Nat → Int32) → (Nat → Int32) → (Int32) → (Int32) → (Int32) → (Int32) → (Int32) → (Int32) → (Nat → Int32) → (Int32) → (Int32) → (Int32) → (Int32) → (Int32) → (Int32) → (Int32) → (Int32) → (Int32) → (Int32) → (Nat → Int32) → (Nat → Int32) → (Nat → Int32) → (Int32) → (Nat → Int32) → (Nat → Int32) → (Nat → Int32) → (Int32) → Prop} (hl0 : l.stackTraces = false) (hw : wp_D_link s_bk s_ln s_kd s_vl s_ct k_ce k_bc m_ra m_up m_on m_lo m_hi m_mo m_ma m_li n_rg n_st n_pl n_z n_n n_h n_c n_en n_so n_co n_sc l_bk l_of l_en l_ct t_bk t_of t_en t_ct a1 P PX) : ctx_ l yD_link bD_link 2 (some .int) 6 95 D ad [.ref (ad 0), .int a1] (wC ad s_bk s_ln s_kd s_vl s_ct k_ce k_bc m_ra m_up m_on m_lo m_hi m_mo m_ma m_li n_rg n_sb n_st n_pl n_z n_n n_h n_c n_en n_so n_co n_sc l_bk l_of l_en l_ct t_bk t_of t_en t_ct) (qi_ D (fun (r : Int32) (u : (Nat → Int32) × (Int32) × (Nat → Int32) × (Nat → Int32) × (Int32) × (Int32) × (Int32) × (Int32) × (Int32) × (Int32) × (Nat → Int32) × (Int32) × (Int32) × (Int32) × (Int32) × (Int32) × (Int32) × (Int32) × (Int32) × (Int32) × (Int32) × (Nat → Int32) × (Nat → Int32) × (Nat → Int32) × (Int32) × (Nat → Int32) × (Nat → Int32) × (Nat → Int32) × (Int32)) => P r u.1 u.2.1 u.2.2.1 u.2.2.2.1 u.2.2.2.2.1 u.2.2.2.2.2.1 u.2.2.2.2.2.2.1 u.2.2.2.2.2.2.2.1 u.2.2.2.2.2.2.2.2.1 u.2.2.2.2.2.2.2.2.2.1 u.2.2.2.2.2.2.2.2.2.2.1 u.2.2.2.2.2.2.2.2.2.2.2.1 u.2.2.2.2.2.2.2.2.2.2.2.2.1 u.2.2.2.2.2.2.2.2.2.2.2.2.2.1 u.2.2.2.2.2.2.2.2.2.2.2.2.2.2.1 u.2.2.2.2.2.2.2.2.2.2.2.2.2.2.2.1 u.2.2.2.2.2.2.2.2.2.2.2.2.2.2.2.2.1 u.2.2.2.2.2.2.2.2.2.2.2.2.2.2.2.2.2.1 u.2.2.2.2.2.2.2.2.2.2.2.2.2.2.2.2.2.2.1 u.2.2.2.2.2.2.2.2.2.2.2.2.2.2.2.2.2.2.2.1 u.2.2.2.2.2.2.2.2.2.2.2.2.2.2.2.2.2.2.2.2.1 u.2.2.2.2.2.2.2.2.2.2.2.2.2.2.2.2.2.2.2.2.2.1 u.2.2.2.2.2.2.2.2.2.2.2.2.2.2.2.2.2.2.2.2.2.2.1 u.2.2.2.2.2.2.2.2.2.2.2.2.2.2.2.2.2.2.2.2.2.2.2.1 u.2.2.2.2.2.2.2.2.2.2.2.2.2.2.2.2.2.2.2.2.2.2.2.2.1 u.2.2.2.2.2.2.2.2.2.2.2.2.2.2.2.2.2.2.2.2.2.2.2.2.2.1 u.2.2.2.2.2.2.2.2.2.2.2.2.2.2.2.2.2.2.2.2.2.2.2.2.2.2.1 u.2.2.2.2.2.2.2.2.2.2.2.2.2.2.2.2.2.2.2.2.2.2.2.2.2.2.2.1 u.2.2.2.2.2.2.2.2.2.2.2.2.2.2.2.2.2.2.2.2.2.2.2.2.2.2.2.2) (fun u => wC (sw_ ad) s_bk s_ln s_kd s_vl s_ct u.1 u.2.1 u.2.2.1 u.2.2.2.1 u.2.2.2.2.1 u.2.2.2.2.2.1 u.2.2.2.2.2.2.1 u.2.2.2.2.2.2.2.1 u.2.2.2.2.2.2.2.2.1 u.2.2.2.2.2.2.2.2.2.1 u.2.2.2.2.2.2.2.2.2.2.1 n_sb u.2.2.2.2.2.2.2.2.2.2.2.1 u.2.2.2.2.2.2.2.2.2.2.2.2.1 u.2.2.2.2.2.2.2.2.2.2.2.2.2.1 u.2.2.2.2.2.2.2.2.2.2.2.2.2.2.1 u.2.2.2.2.2.2.2.2.2.2.2.2.2.2.2.1 u.2.2.2.2.2.2.2.2.2.2.2.2.2.2.2.2.1 u.2.2.2.2.2.2.2.2.2.2.2.2.2.2.2.2.2.1 u.2.2.2.2.2.2.2.2.2.2.2.2.2.2.2.2.2.2.1 u.2.2.2.2.2.2.2.2.2.2.2.2.2.2.2.2.2.2.2.1 u.2.2.2.2.2.2.2.2.2.2.2.2.2.2.2.2.2.2.2.2.1 u.2.2.2.2.2.2.2.2.2.2.2.2.2.2.2.2.2.2.2.2.2.1 u.2.2.2.2.2.2.2.2.2.2.2.2.2.2.2.2.2.2.2.2.2.2.1 u.2.2.2.2.2.2.2.2.2.2.2.2.2.2.2.2.2.2.2.2.2.2.2.1 u.2.2.2.2.2.2.2.2.2.2.2.2.2.2.2.2.2.2.2.2.2.2.2.2.1 u.2.2.2.2.2.2.2.2.2.2.2.2.2.2.2.2.2.2.2.2.2.2.2.2.2.1 u.2.2.2.2.2.2.2.2.2.2.2.2.2.2.2.2.2.2.2.2.2.2.2.2.2.2.1 u.2.2.2.2.2.2.2.2.2.2.2.2.2.2.2.2.2.2.2.2.2.2.2.2.2.2.2.1 u.2.2.2.2.2.2.2.2.2.2.2.2.2.2.2.2.2.2.2.2.2.2.2.2.2.2.2.2)) (qx_ D (fun (z : Nat) (u : (Nat → Int32) × (Int32) × (Nat → Int32) × (Nat → Int32) × (Int32) × (Int32) × (Int32) × (Int32) × (Int32) × (Int32) × (Nat → Int32) × (Int32) × (Int32) × (Int32) × (Int32) × (Int32) × (Int32) × (Int32) × (Int32) × (Int32) × (Int32) × (Nat → Int32) × (Nat → Int32) × (Nat → Int32) × (Int32) × (Nat → Int32) × (Nat → Int32) × (Nat → Int32) × (Int32)) => PX z u.1 u.2.1 u.2.2.1 u.2.2.2.1 u.2.2.2.2.1 u.2.2.2.2.2.1 u.2.2.2.2.2.2.1 u.2.2.2.2.2.2.2.1 u.2.2.2.2.2.2.2.2.1 u.2.2.2.2.2.2.2.2.2.1 u.2.2.2.2.2.2.2.2.2.2.1 u.2.2.2.2.2.2.2.2.2.2.2.1 u.2.2.2.2.2.2.2.2.2.2.2.2.1 u.2.2.2.2.2.2.2.2.2.2.2.2.2.1 u.2.2.2.2.2.2.2.2.2.2.2.2.2.2.1 u.2.2.2.2.2.2.2.2.2.2.2.2.2.2.2.1 u.2.2.2.2.2.2.2.2.2.2.2.2.2.2.2.2.1 u.2.2.2.2.2.2.2.2.2.2.2.2.2.2.2.2.2.1 u.2.2.2.2.2.2.2.2.2.2.2.2.2.2.2.2.2.2.1 u.2.2.2.2.2.2.2.2.2.2.2.2.2.2.2.2.2.2.2.1 u.2.2.2.2.2.2.2.2.2.2.2.2.2.2.2.2.2.2.2.2.1 u.2.2.2.2.2.2.2.2.2.2.2.2.2.2.2.2.2.2.2.2.2.1 u.2.2.2.2.2.2.2.2.2.2.2.2.2.2.2.2.2.2.2.2.2.2.1 u.2.2.2.2.2.2.2.2.2.2.2.2.2.2.2.2.2.2.2.2.2.2.2.1 u.2.2.2.2.2.2.2.2.2.2.2.2.2.2.2.2.2.2.2.2.2.2.2.2.1 u.2.2.2.2.2.2.2.2.2.2.2.2.2.2.2.2.2.2.2.2.2.2.2.2.2.1 u.2.2.2.2.2.2.2.2.2.2.2.2.2.2.2.2.2.2.2.2.2.2.2.2.2.2.1 u.2.2.2.2.2.2.2.2.2.2.2.2.2.2.2.2.2.2.2.2.2.2.2.2.2.2.2.1 u.2.2.2.2.2.2.2.2.2.2.2.2.2.2.2.2.2.2.2.2.2.2.2.2.2.2.2.2) (fun u => wC ad s_bk s_ln s_kd s_vl s_ct u.1 u.2.1 u.2.2.1 u.2.2.2.1 u.2.2.2.2.1 u.2.2.2.2.2.1 u.2.2.2.2.2.2.1 u.2.2.2.2.2.2.2.1 u.2.2.2.2.2.2.2.2.1 u.2.2.2.2.2.2.2.2.2.1 u.2.2.2.2.2.2.2.2.2.2.1 n_sb u.2.2.2.2.2.2.2.2.2.2.2.1 u.2.2.2.2.2.2.2.2.2.2.2.2.1 u.2.2.2.2.2.2.2.2.2.2.2.2.2.1 u.2.2.2.2.2.2.2.2.2.2.2.2.2.2.1 u.2.2.2.2.2.2.2.2.2.2.2.2.2.2.2.1 u.2.2.2.2.2.2.2.2.2.2.2.2.2.2.2.2.1 u.2.2.2.2.2.2.2.2.2.2.2.2.2.2.2.2.2.1 u.2.2.2.2.2.2.2.2.2.2.2.2.2.2.2.2.2.2.1 u.2.2.2.2.2.2.2.2.2.2.2.2.2.2.2.2.2.2.2.1 u.2.2.2.2.2.2.2.2.2.2.2.2.2.2.2.2.2.2.2.2.1 u.2.2.2.2.2.2.2.2.2.2.2.2.2.2.2.2.2.2.2.2.2.1 u.2.2.2.2.2.2.2.2.2.2.2.2.2.2.2.2.2.2.2.2.2.2.1 u.2.2.2.2.2.2.2.2.2.2.2.2.2.2.2.2.2.2.2.2.2.2.2.1 u.2.2.2.2.2.2.2.2.2.2.2.2.2.2.2.2.2.2.2.2.2.2.2.2.1 u.2.2.2.2.2.2.2.2.2.2.2.2.2.2.2.2.2.2.2.2.2.2.2.2.2.1 u.2.2.2.2.2.2.2.2.2.2.2.2.2.2.2.2.2.2.2.2.2.2.2.2.2.2.1 u.2.2.2.2.2.2.2.2.2.2.2.2.2.2.2.2.2.2.2.2.2.2.2.2.2.2.2.1 u.2.2.2.2.2.2.2.2.2.2.2.2.2.2.2.2.2.2.2.2.2.2.2.2.2.2.2.2)) := by
  refine ctx_of RD (by decide) rfl (Nat.le_of_ble_eq_true rfl) (fun G hl hD X hq => ?_)
  subst hl hD
  show go_ G 0 0 (wC ad s_bk s_ln s_kd s_vl s_ct k_ce k_bc m_ra m_up m_on m_lo m_hi m_mo m_ma m_li n_rg n_sb n_st n_pl n_z n_n n_h n_c n_en n_so n_co n_sc l_bk l_of l_en l_ct t_bk t_of t_en t_ct) 0 [(0, .ref (ad 0)), (1, .int a1)] []
  have C24 : ∀ (k_ce : Nat → Int32) (k_bc : Int32) (m_ra m_up : Nat → Int32) (m_on m_lo m_hi m_mo m_ma m_li : Int32) (n_rg : Nat → Int32) (n_st n_pl n_z n_n n_h n_c n_en n_so n_co n_sc : Int32) (l_bk l_of l_en : Nat → Int32) (l_ct : Int32) (t_bk t_of t_en : Nat → Int32) (t_ct x1 : Int32), wp_D_link_24 s_bk s_ln s_kd s_vl s_ct P PX k_ce k_bc m_ra m_up m_on m_lo m_hi m_mo m_ma m_li n_rg n_st n_pl n_z n_n n_h n_c n_en n_so n_co n_sc l_bk l_of l_en l_ct t_bk t_of t_en t_ct x1 → go_ G 0 0 (wC ad s_bk s_ln s_kd s_vl s_ct k_ce k_bc m_ra m_up m_on m_lo m_hi m_mo m_ma m_li n_rg n_sb n_st n_pl n_z n_n n_h n_c n_en n_so n_co n_sc l_bk l_of l_en l_ct t_bk t_of t_en t_ct) 24 [(0, .ref (ad 0)), (1, .int x1)] [] := by
    intro k_ce k_bc m_ra m_up m_on m_lo m_hi m_mo m_ma m_li n_rg n_st n_pl n_z n_n n_h n_c n_en n_so n_co n_sc l_bk l_of l_en l_ct t_bk t_of t_en t_ct x1 hw
    refine go_aload_n X 0 dD_link_24 rfl rfl ?_
    refine gt_D_10 X dD_link_25 ?_
    refine gt_D_54 X dD_link_28 ?_
    refine go_if_eq X dD_link_31 rfl (fun hc => ?_) (fun hc => ?_)
    · have hw := hw.1 hc
      exact go_thr X hl0 hq 3 th_3 dD_link_44 dD_link_47 dD_link_48 dD_link_51 (k_ce, k_bc, m_ra, m_up, m_on, m_lo, m_hi, m_mo, m_ma, m_li, n_rg, n_st, n_pl, n_z, n_n, n_h, n_c, n_en, n_so, n_co, n_sc, l_bk, l_of, l_en, l_ct, t_bk, t_of, t_en, t_ct) hw rfl (by decide) (Nat.le_of_ble_eq_true rfl)
    · have hw := hw.2 hc
      refine go_aload_n X 0 dD_link_34 rfl rfl ?_
      refine gt_D_10 X dD_link_35 ?_
      refine k_S_lacksOne X hw mw_D_73 ⟨by decide, by decide⟩ (Nat.le_of_ble_eq_true rfl) ⟨Nat.zero_le _, Nat.zero_le _⟩ dD_link_38 (fun r1 hw => ?_)
      refine go_if_eq X dD_link_41 rfl (fun hc => ?_) (fun hc => ?_)
      · have hw := hw.1 hc
        refine go_aload_n X 0 dD_link_52 rfl rfl ?_
        refine gt_D_48 X dD_link_53 ?_
        refine go_aload_n X 0 dD_link_56 rfl rfl ?_
        refine gt_D_10 X dD_link_57 ?_
        refine go_iload_n X 1 dD_link_60 rfl rfl ?_
        refine k_P_pack X hw mw_D_80 ⟨by decide, by decide⟩ (Nat.le_of_ble_eq_true rfl) ⟨Nat.zero_le _, Nat.zero_le _⟩ dD_link_61 (fun r2 w3 w4 w5 w6 hw => ?_)
        refine go_if_ne X dD_link_64 rfl (fun hc => ?_) (fun hc => ?_)
        · have hw := hw.1 hc
          refine go_aload_n X 0 dD_link_75 rfl rfl ?_
          refine k_D_keepTried X ⟨by decide, by decide⟩ (Nat.le_of_ble_eq_true rfl) ⟨Nat.zero_le _, Nat.zero_le _⟩ dD_link_76 ?_
          have X := cx_sw X
          refine go_aload_n X 0 dD_link_79 rfl rfl ?_
          refine gt_D_19 X dD_link_80 ?_
          refine go_aload_n X 0 dD_link_83 rfl rfl ?_
          refine gt_D_10 X dD_link_84 ?_
          refine go_aload_n X 0 dD_link_87 rfl rfl ?_
          refine gt_D_44 X dD_link_88 ?_
          refine go_iload_n X 1 dD_link_91 rfl rfl ?_
          refine k_K_make X hw mw_D_87 ⟨by decide, by decide⟩ (Nat.le_of_ble_eq_true rfl) ⟨Nat.zero_le _, Nat.zero_le _⟩ dD_link_92 (fun w7 w8 hw => ?_)
          refine go_aload_n X 0 dD_link_95 rfl rfl ?_
          refine gt_D_37 X dD_link_96 ?_
          refine k_N_begin X hw mw_D_91 ⟨by decide, by decide⟩ (Nat.le_of_ble_eq_true rfl) ⟨Nat.zero_le _, Nat.zero_le _⟩ dD_link_99 (fun w9 w10 w11 w12 w13 w14 w15 w16 w17 w18 w19 w20 w21 w22 w23 w24 w25 w26 w27 hw => ?_)
          refine go_aload_n X 0 dD_link_102 rfl rfl ?_
          refine gt_D_10 X dD_link_103 ?_
          refine k_S_total X hw mw_D_94 ⟨by decide, by decide⟩ (Nat.le_of_ble_eq_true rfl) ⟨Nat.zero_le _, Nat.zero_le _⟩ dD_link_106 (fun r28 hw => ?_)
          exact go_irx X hq dD_link_109 (w7, w8, w9, w10, w11, w12, w13, w14, w15, w16, w17, w18, w19, w20, w21, w22, w23, w24, w25, w26, w27, w3, w4, w5, w6, l_bk, l_of, l_en, l_ct) hw rfl
        · have hw := hw.2 hc
          exact go_thr X hl0 hq 2 th_2 dD_link_67 dD_link_70 dD_link_71 dD_link_74 (k_ce, k_bc, m_ra, m_up, m_on, m_lo, m_hi, m_mo, m_ma, m_li, n_rg, n_st, n_pl, n_z, n_n, n_h, n_c, n_en, n_so, n_co, n_sc, l_bk, l_of, l_en, l_ct, w3, w4, w5, w6) hw rfl (by decide) (Nat.le_of_ble_eq_true rfl)
      · have hw := hw.2 hc
        exact go_thr X hl0 hq 3 th_3 dD_link_44 dD_link_47 dD_link_48 dD_link_51 (k_ce, k_bc, m_ra, m_up, m_on, m_lo, m_hi, m_mo, m_ma, m_li, n_rg, n_st, n_pl, n_z, n_n, n_h, n_c, n_en, n_so, n_co, n_sc, l_bk, l_of, l_en, l_ct, t_bk, t_of, t_en, t_ct) hw rfl (by decide) (Nat.le_of_ble_eq_true rfl)
  refine go_iload_n X 1 dD_link_0 rfl rfl ?_
  refine go_iconst X dD_link_1 kc_i2 ?_
  refine go_icmp_eq X dD_link_2 rfl (fun hc => ?_) (fun hc => ?_)
  · have hw := hw.1 hc
    exact C24 _ _ _ _ _ _ _ _ _ _ _ _ _ _ _ _ _ _ _ _ _ _ _ _ _ _ _ _ _ _ hw
  · have hw := hw.2 hc
    refine go_iload_n X 1 dD_link_5 rfl rfl ?_
    refine go_iconst X dD_link_6 kc_i4 ?_
    refine go_icmp_eq X dD_link_7 rfl (fun hc => ?_) (fun hc => ?_)
    · have hw := hw.1 hc
      exact C24 _ _ _ _ _ _ _ _ _ _ _ _ _ _ _ _ _ _ _ _ _ _ _ _ _ _ _ _ _ _ hw
    · have hw := hw.2 hc
      refine go_iload_n X 1 dD_link_10 rfl rfl ?_
      refine go_bipush X dD_link_11 kc_b8 ?_
      refine go_icmp_eq X dD_link_13 rfl (fun hc => ?_) (fun hc => ?_)
      · have hw := hw.1 hc
        exact C24 _ _ _ _ _ _ _ _ _ _ _ _ _ _ _ _ _ _ _ _ _ _ _ _ _ _ _ _ _ _ hw
      · have hw := hw.2 hc
        exact go_thr X hl0 hq 1 th_1 dD_link_16 dD_link_19 dD_link_20 dD_link_23 (k_ce, k_bc, m_ra, m_up, m_on, m_lo, m_hi, m_mo, m_ma, m_li, n_rg, n_st, n_pl, n_z, n_n, n_h, n_c, n_en, n_so, n_co, n_sc, l_bk, l_of, l_en, l_ct, t_bk, t_of, t_en, t_ct) hw rfl (by decide) (Nat.le_of_ble_eq_true rfl)
set_option maxRecDepth 100000 in
set_option maxHeartbeats 4000000 in
theorem c_D_register {l : Launch} {D : va_G} {ad : Nat → Nat} {s_bk s_ln s_kd s_vl : Nat → Int32} {s_ct : Int32} {k_ce : Nat → Int32} {k_bc : Int32} {m_ra m_up : Nat → Int32} {m_on m_lo m_hi m_mo m_ma m_li : Int32} {n_rg n_sb : Nat → Int32} {n_st n_pl n_z n_n n_h n_c n_en n_so n_co n_sc : Int32} {l_bk l_of l_en : Nat → Int32} {l_ct : Int32} {t_bk t_of t_en : Nat → Int32} {t_ct : Int32} {a1 : Int32} {P : Int32 → Prop} {PX : Nat → Prop} (hl0 : l.stackTraces = false) (hw : wp_D_register k_ce k_bc m_ra m_up m_on m_lo m_hi m_mo m_ma m_li n_rg n_st n_pl n_z n_n n_h n_c n_en a1 P PX) : ctx_ l yD_register bD_register 3 (some .int) 6 90 D ad [.ref (ad 0), .int a1] (wC ad s_bk s_ln s_kd s_vl s_ct k_ce k_bc m_ra m_up m_on m_lo m_hi m_mo m_ma m_li n_rg n_sb n_st n_pl n_z n_n n_h n_c n_en n_so n_co n_sc l_bk l_of l_en l_ct t_bk t_of t_en t_ct) (qi_ D (fun (r : Int32) (_ : Unit) => P r ) (fun _ => (wC ad s_bk s_ln s_kd s_vl s_ct k_ce k_bc m_ra m_up m_on m_lo m_hi m_mo m_ma m_li n_rg n_sb n_st n_pl n_z n_n n_h n_c n_en n_so n_co n_sc l_bk l_of l_en l_ct t_bk t_of t_en t_ct))) (qx_ D (fun (z : Nat) (_ : Unit) => PX z ) (fun _ => (wC ad s_bk s_ln s_kd s_vl s_ct k_ce k_bc m_ra m_up m_on m_lo m_hi m_mo m_ma m_li n_rg n_sb n_st n_pl n_z n_n n_h n_c n_en n_so n_co n_sc l_bk l_of l_en l_ct t_bk t_of t_en t_ct))) := by
  refine ctx_of RD (by decide) rfl (Nat.le_of_ble_eq_true rfl) (fun G hl hD X hq => ?_)
  subst hl hD
  show go_ G 0 0 (wC ad s_bk s_ln s_kd s_vl s_ct k_ce k_bc m_ra m_up m_on m_lo m_hi m_mo m_ma m_li n_rg n_sb n_st n_pl n_z n_n n_h n_c n_en n_so n_co n_sc l_bk l_of l_en l_ct t_bk t_of t_en t_ct) 0 [(0, .ref (ad 0)), (1, .int a1)] []
  have C11 : ∀ (x1 y0 : Int32), wp_D_register_11 k_ce k_bc m_ra m_up m_on m_lo m_hi m_mo m_ma m_li n_rg n_st n_pl n_z n_n n_h n_c n_en P PX x1 y0 → go_ G 0 0 (wC ad s_bk s_ln s_kd s_vl s_ct k_ce k_bc m_ra m_up m_on m_lo m_hi m_mo m_ma m_li n_rg n_sb n_st n_pl n_z n_n n_h n_c n_en n_so n_co n_sc l_bk l_of l_en l_ct t_bk t_of t_en t_ct) 11 [(0, .ref (ad 0)), (1, .int x1)] [.int y0] := by
    intro x1 y0 hw
    refine go_istore_n X dD_register_11 rfl (by decide) rfl ?_
    refine go_iload_n X 2 dD_register_12 rfl rfl ?_
    refine go_if_lt X dD_register_13 rfl (fun hc => ?_) (fun hc => ?_)
    · have hw := hw.1 hc
      exact go_thr X hl0 hq 3 th_3 dD_register_36 dD_register_39 dD_register_40 dD_register_43 () hw rfl (by decide) (Nat.le_of_ble_eq_true rfl)
    · have hw := hw.2 hc
      refine go_iload_n X 2 dD_register_16 rfl rfl ?_
      refine go_bipush X dD_register_17 kc_b12 ?_
      refine go_icmp_gt X dD_register_19 rfl (fun hc => ?_) (fun hc => ?_)
      · have hw := hw.1 hc
        exact go_thr X hl0 hq 3 th_3 dD_register_36 dD_register_39 dD_register_40 dD_register_43 () hw rfl (by decide) (Nat.le_of_ble_eq_true rfl)
      · have hw := hw.2 hc
        refine go_iload_n X 0 dD_register_22 rfl rfl ?_
        refine go_if_eq X dD_register_23 rfl (fun hc => ?_) (fun hc => ?_)
        · have hw := hw.1 hc
          refine go_aload_n X 1 dD_register_44 rfl rfl ?_
          refine gt_D_37 X dD_register_45 ?_
          refine go_iload_n X 2 dD_register_48 rfl rfl ?_
          refine k_N_shown X hw mw_D_130 ⟨by decide, by decide⟩ (Nat.le_of_ble_eq_true rfl) ⟨Nat.zero_le _, Nat.zero_le _⟩ dD_register_49 (fun r1 hw => ?_)
          exact go_irx X hq dD_register_52 () hw rfl
        · have hw := hw.2 hc
          refine go_aload_n X 1 dD_register_26 rfl rfl ?_
          refine gt_D_19 X dD_register_27 ?_
          refine k_K_isMade X hw mw_D_112 ⟨by decide, by decide⟩ (Nat.le_of_ble_eq_true rfl) ⟨Nat.zero_le _, Nat.zero_le _⟩ dD_register_30 (fun r2 hw => ?_)
          refine go_if_ne X dD_register_33 rfl (fun hc => ?_) (fun hc => ?_)
          · have hw := hw.1 hc
            refine go_aload_n X 1 dD_register_44 rfl rfl ?_
            refine gt_D_37 X dD_register_45 ?_
            refine go_iload_n X 2 dD_register_48 rfl rfl ?_
            refine k_N_shown X hw mw_D_130 ⟨by decide, by decide⟩ (Nat.le_of_ble_eq_true rfl) ⟨Nat.zero_le _, Nat.zero_le _⟩ dD_register_49 (fun r3 hw => ?_)
            exact go_irx X hq dD_register_52 () hw rfl
          · have hw := hw.2 hc
            exact go_thr X hl0 hq 3 th_3 dD_register_36 dD_register_39 dD_register_40 dD_register_43 () hw rfl (by decide) (Nat.le_of_ble_eq_true rfl)
  refine go_iload_n X 1 dD_register_0 rfl rfl ?_
  refine go_bipush X dD_register_1 kc_b6 ?_
  refine go_icmp_ne X dD_register_3 rfl (fun hc => ?_) (fun hc => ?_)
  · have hw := hw.1 hc
    refine go_iconst X dD_register_10 kc_i0 ?_
    exact C11 _ _ hw
  · have hw := hw.2 hc
    refine go_iconst X dD_register_6 kc_i1 ?_
    refine go_goto X dD_register_7 rfl ?_
    exact C11 _ _ hw
set_option maxRecDepth 100000 in
set_option maxHeartbeats 4000000 in
theorem c_D_run {l : Launch} {D : va_G} {ad : Nat → Nat} {s_bk s_ln s_kd s_vl : Nat → Int32} {s_ct : Int32} {k_ce : Nat → Int32} {k_bc : Int32} {m_ra m_up : Nat → Int32} {m_on m_lo m_hi m_mo m_ma m_li : Int32} {n_rg n_sb : Nat → Int32} {n_st n_pl n_z n_n n_h n_c n_en n_so n_co n_sc : Int32} {l_bk l_of l_en : Nat → Int32} {l_ct : Int32} {t_bk t_of t_en : Nat → Int32} {t_ct : Int32} {a1 : Int32} {P : Int32 → (Nat → Int32) → (Nat → Int32) → (Int32) → (Int32) → (Int32) → (Int32) → (Int32) → (Int32) → (Nat → Int32) → (Nat → Int32) → (Int32) → (Int32) → (Int32) → (Int32) → (Int32) → (Int32) → (Int32) → (Int32) → (Int32) → (Int32) → Prop} {PX : Nat → (Nat → Int32) → (Nat → Int32) → (Int32) → (Int32) → (Int32) → (Int32) → (Int32) → (Int32) → (Nat → Int32) → (Nat → Int32) → (Int32) → (Int32) → (Int32) → (Int32) → (Int32) → (Int32) → (Int32) → (Int32) → (Int32) → (Int32) → Prop} (hl0 : l.stackTraces = false) (hw : wp_D_run k_ce k_bc m_ra m_up m_on m_lo m_hi m_mo m_ma m_li n_rg n_sb n_st n_pl n_z n_n n_h n_c n_en n_so n_co n_sc a1 P PX) : ctx_ l yD_run bD_run 3 (some .int) 6 138 D ad [.ref (ad 0), .int a1] (wC ad s_bk s_ln s_kd s_vl s_ct k_ce k_bc m_ra m_up m_on m_lo m_hi m_mo m_ma m_li n_rg n_sb n_st n_pl n_z n_n n_h n_c n_en n_so n_co n_sc l_bk l_of l_en l_ct t_bk t_of t_en t_ct) (qi_ D (fun (r : Int32) (u : (Nat → Int32) × (Nat → Int32) × (Int32) × (Int32) × (Int32) × (Int32) × (Int32) × (Int32) × (Nat → Int32) × (Nat → Int32) × (Int32) × (Int32) × (Int32) × (Int32) × (Int32) × (Int32) × (Int32) × (Int32) × (Int32) × (Int32)) => P r u.1 u.2.1 u.2.2.1 u.2.2.2.1 u.2.2.2.2.1 u.2.2.2.2.2.1 u.2.2.2.2.2.2.1 u.2.2.2.2.2.2.2.1 u.2.2.2.2.2.2.2.2.1 u.2.2.2.2.2.2.2.2.2.1 u.2.2.2.2.2.2.2.2.2.2.1 u.2.2.2.2.2.2.2.2.2.2.2.1 u.2.2.2.2.2.2.2.2.2.2.2.2.1 u.2.2.2.2.2.2.2.2.2.2.2.2.2.1 u.2.2.2.2.2.2.2.2.2.2.2.2.2.2.1 u.2.2.2.2.2.2.2.2.2.2.2.2.2.2.2.1 u.2.2.2.2.2.2.2.2.2.2.2.2.2.2.2.2.1 u.2.2.2.2.2.2.2.2.2.2.2.2.2.2.2.2.2.1 u.2.2.2.2.2.2.2.2.2.2.2.2.2.2.2.2.2.2.1 u.2.2.2.2.2.2.2.2.2.2.2.2.2.2.2.2.2.2.2) (fun u => wC ad s_bk s_ln s_kd s_vl s_ct k_ce k_bc u.1 u.2.1 u.2.2.1 u.2.2.2.1 u.2.2.2.2.1 u.2.2.2.2.2.1 u.2.2.2.2.2.2.1 u.2.2.2.2.2.2.2.1 u.2.2.2.2.2.2.2.2.1 u.2.2.2.2.2.2.2.2.2.1 u.2.2.2.2.2.2.2.2.2.2.1 u.2.2.2.2.2.2.2.2.2.2.2.1 u.2.2.2.2.2.2.2.2.2.2.2.2.1 u.2.2.2.2.2.2.2.2.2.2.2.2.2.1 u.2.2.2.2.2.2.2.2.2.2.2.2.2.2.1 u.2.2.2.2.2.2.2.2.2.2.2.2.2.2.2.1 u.2.2.2.2.2.2.2.2.2.2.2.2.2.2.2.2.1 u.2.2.2.2.2.2.2.2.2.2.2.2.2.2.2.2.2.1 u.2.2.2.2.2.2.2.2.2.2.2.2.2.2.2.2.2.2.1 u.2.2.2.2.2.2.2.2.2.2.2.2.2.2.2.2.2.2.2 l_bk l_of l_en l_ct t_bk t_of t_en t_ct)) (qx_ D (fun (z : Nat) (u : (Nat → Int32) × (Nat → Int32) × (Int32) × (Int32) × (Int32) × (Int32) × (Int32) × (Int32) × (Nat → Int32) × (Nat → Int32) × (Int32) × (Int32) × (Int32) × (Int32) × (Int32) × (Int32) × (Int32) × (Int32) × (Int32) × (Int32)) => PX z u.1 u.2.1 u.2.2.1 u.2.2.2.1 u.2.2.2.2.1 u.2.2.2.2.2.1 u.2.2.2.2.2.2.1 u.2.2.2.2.2.2.2.1 u.2.2.2.2.2.2.2.2.1 u.2.2.2.2.2.2.2.2.2.1 u.2.2.2.2.2.2.2.2.2.2.1 u.2.2.2.2.2.2.2.2.2.2.2.1 u.2.2.2.2.2.2.2.2.2.2.2.2.1 u.2.2.2.2.2.2.2.2.2.2.2.2.2.1 u.2.2.2.2.2.2.2.2.2.2.2.2.2.2.1 u.2.2.2.2.2.2.2.2.2.2.2.2.2.2.2.1 u.2.2.2.2.2.2.2.2.2.2.2.2.2.2.2.2.1 u.2.2.2.2.2.2.2.2.2.2.2.2.2.2.2.2.2.1 u.2.2.2.2.2.2.2.2.2.2.2.2.2.2.2.2.2.2.1 u.2.2.2.2.2.2.2.2.2.2.2.2.2.2.2.2.2.2.2) (fun u => wC ad s_bk s_ln s_kd s_vl s_ct k_ce k_bc u.1 u.2.1 u.2.2.1 u.2.2.2.1 u.2.2.2.2.1 u.2.2.2.2.2.1 u.2.2.2.2.2.2.1 u.2.2.2.2.2.2.2.1 u.2.2.2.2.2.2.2.2.1 u.2.2.2.2.2.2.2.2.2.1 u.2.2.2.2.2.2.2.2.2.2.1 u.2.2.2.2.2.2.2.2.2.2.2.1 u.2.2.2.2.2.2.2.2.2.2.2.2.1 u.2.2.2.2.2.2.2.2.2.2.2.2.2.1 u.2.2.2.2.2.2.2.2.2.2.2.2.2.2.1 u.2.2.2.2.2.2.2.2.2.2.2.2.2.2.2.1 u.2.2.2.2.2.2.2.2.2.2.2.2.2.2.2.2.1 u.2.2.2.2.2.2.2.2.2.2.2.2.2.2.2.2.2.1 u.2.2.2.2.2.2.2.2.2.2.2.2.2.2.2.2.2.2.1 u.2.2.2.2.2.2.2.2.2.2.2.2.2.2.2.2.2.2.2 l_bk l_of l_en l_ct t_bk t_of t_en t_ct)) := by
  refine ctx_of RD (by decide) rfl (Nat.le_of_ble_eq_true rfl) (fun G hl hD X hq => ?_)
  subst hl hD
  show go_ G 0 0 (wC ad s_bk s_ln s_kd s_vl s_ct k_ce k_bc m_ra m_up m_on m_lo m_hi m_mo m_ma m_li n_rg n_sb n_st n_pl n_z n_n n_h n_c n_en n_so n_co n_sc l_bk l_of l_en l_ct t_bk t_of t_en t_ct) 0 [(0, .ref (ad 0)), (1, .int a1)] []
  have C20 : ∀ (n9 : Nat) (m_ra m_up : Nat → Int32) (m_on m_lo m_hi m_mo m_ma m_li : Int32) (n_rg n_sb : Nat → Int32) (n_st n_pl n_z n_n n_h n_c n_en n_so n_co n_sc x1 x2 : Int32), wp_D_run_20 k_ce k_bc P PX n9 m_ra m_up m_on m_lo m_hi m_mo m_ma m_li n_rg n_sb n_st n_pl n_z n_n n_h n_c n_en n_so n_co n_sc x1 x2 → go_ G 0 0 (wC ad s_bk s_ln s_kd s_vl s_ct k_ce k_bc m_ra m_up m_on m_lo m_hi m_mo m_ma m_li n_rg n_sb n_st n_pl n_z n_n n_h n_c n_en n_so n_co n_sc l_bk l_of l_en l_ct t_bk t_of t_en t_ct) 20 [(0, .ref (ad 0)), (1, .int x1), (2, .int x2)] [] := by
    intro n9
    induction n9 with
    | zero =>
      intro m_ra m_up m_on m_lo m_hi m_mo m_ma m_li n_rg n_sb n_st n_pl n_z n_n n_h n_c n_en n_so n_co n_sc x1 x2 hw
      exact False.elim hw
    | succ n9 ih =>
      intro m_ra m_up m_on m_lo m_hi m_mo m_ma m_li n_rg n_sb n_st n_pl n_z n_n n_h n_c n_en n_so n_co n_sc x1 x2 hw
      refine go_iload_n X 2 dD_run_20 rfl rfl ?_
      refine go_iload_n X 1 dD_run_21 rfl rfl ?_
      refine go_icmp_ge X dD_run_22 rfl (fun hc => ?_) (fun hc => ?_)
      · have hw := hw.1 hc
        refine go_iload_n X 2 dD_run_55 rfl rfl ?_
        exact go_irx X hq dD_run_56 (m_ra, m_up, m_on, m_lo, m_hi, m_mo, m_ma, m_li, n_rg, n_sb, n_st, n_pl, n_z, n_n, n_h, n_c, n_en, n_so, n_co, n_sc) hw rfl
      · have hw := hw.2 hc
        refine go_iload_n X 2 dD_run_25 rfl rfl ?_
        refine go_sipush X dD_run_26 kc_s2000 ?_
        refine go_icmp_ge X dD_run_29 rfl (fun hc => ?_) (fun hc => ?_)
        · have hw := hw.1 hc
          refine go_iload_n X 2 dD_run_55 rfl rfl ?_
          exact go_irx X hq dD_run_56 (m_ra, m_up, m_on, m_lo, m_hi, m_mo, m_ma, m_li, n_rg, n_sb, n_st, n_pl, n_z, n_n, n_h, n_c, n_en, n_so, n_co, n_sc) hw rfl
        · have hw := hw.2 hc
          refine go_aload_n X 0 dD_run_32 rfl rfl ?_
          refine gt_D_37 X dD_run_33 ?_
          refine k_N_canGo X hw mw_D_121 ⟨by decide, by decide⟩ (Nat.le_of_ble_eq_true rfl) ⟨Nat.zero_le _, Nat.zero_le _⟩ dD_run_36 (fun r2 hw => ?_)
          refine go_if_eq X dD_run_39 rfl (fun hc => ?_) (fun hc => ?_)
          · have hw := hw.1 hc
            refine go_iload_n X 2 dD_run_55 rfl rfl ?_
            exact go_irx X hq dD_run_56 (m_ra, m_up, m_on, m_lo, m_hi, m_mo, m_ma, m_li, n_rg, n_sb, n_st, n_pl, n_z, n_n, n_h, n_c, n_en, n_so, n_co, n_sc) hw rfl
          · have hw := hw.2 hc
            refine go_aload_n X 0 dD_run_42 rfl rfl ?_
            refine gt_D_37 X dD_run_43 ?_
            refine k_N_step X hw mw_D_124 ⟨by decide, by decide⟩ (Nat.le_of_ble_eq_true rfl) ⟨Nat.zero_le _, Nat.zero_le _⟩ dD_run_46 (fun w3 w4 w5 w6 w7 w8 w9 w10 w11 w12 w13 w14 w15 w16 w17 w18 w19 w20 w21 w22 hw => ?_)
            refine go_iinc X 2 dD_run_49 rfl (ki_1 _) (by decide) rfl ?_
            refine go_goto X dD_run_52 rfl ?_
            refine go_lc [1, 2, 0] rfl ?_
            exact ih _ _ _ _ _ _ _ _ _ _ _ _ _ _ _ _ _ _ _ _ _ _ hw
  refine go_aload_n X 0 dD_run_0 rfl rfl ?_
  refine gt_D_19 X dD_run_1 ?_
  refine k_K_isMade X hw mw_D_112 ⟨by decide, by decide⟩ (Nat.le_of_ble_eq_true rfl) ⟨Nat.zero_le _, Nat.zero_le _⟩ dD_run_4 (fun r1 hw => ?_)
  refine go_if_ne X dD_run_7 rfl (fun hc => ?_) (fun hc => ?_)
  · have hw := hw.1 hc
    refine go_iconst X dD_run_18 kc_i0 ?_
    refine go_istore_n X dD_run_19 rfl (by decide) rfl ?_
    refine go_lc [1, 2, 0] rfl ?_
    obtain ⟨j9, hw⟩ := hw
    exact C20 j9 _ _ _ _ _ _ _ _ _ _ _ _ _ _ _ _ _ _ _ _ _ _ hw
  · have hw := hw.2 hc
    exact go_thr X hl0 hq 3 th_3 dD_run_10 dD_run_13 dD_run_14 dD_run_17 (m_ra, m_up, m_on, m_lo, m_hi, m_mo, m_ma, m_li, n_rg, n_sb, n_st, n_pl, n_z, n_n, n_h, n_c, n_en, n_so, n_co, n_sc) hw rfl (by decide) (Nat.le_of_ble_eq_true rfl)
