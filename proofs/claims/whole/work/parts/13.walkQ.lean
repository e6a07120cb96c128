set_option maxRecDepth 100000 in
set_option maxHeartbeats 4000000 in
theorem c_Q_add {l : Launch} {D : va_G} {ad : Nat → Nat} {q_code q_many : Int32} {q_pin q_size q_bytes q_kind q_bank q_address q_full : Nat → Int32} {q_linked : Int32} {q_packedBank q_packedAddress : Nat → Int32} {q_banks : Int32} {q_memory q_register : Nat → Int32} {q_stack q_place q_zero q_less q_half q_carry q_enabled q_soon q_ram q_low q_top q_mode q_state q_sent : Int32} {q_out : Nat → Int32} {a1 a2 a3 : Int32} {P : Int32 → (Int32) → (Int32) → (Int32) → (Int32) → Prop} (hw : wp_Q_add q_zero q_less q_half q_carry a1 a2 a3 P) : ct_ l yQ_add bQ_add 7 (some .int) 0 0 D ad [.ref (ad 30), .int a1, .int a2, .int a3] (wM ad q_code q_many q_pin q_size q_bytes q_kind q_bank q_address q_full q_linked q_packedBank q_packedAddress q_banks q_memory q_register q_stack q_place q_zero q_less q_half q_carry q_enabled q_soon q_ram q_low q_top q_mode q_state q_sent q_out) (qi_ D (fun (r : Int32) (u : (Int32) × (Int32) × (Int32) × (Int32)) => P r u.1 u.2.1 u.2.2.1 u.2.2.2) (fun u => wM ad q_code q_many q_pin q_size q_bytes q_kind q_bank q_address q_full q_linked q_packedBank q_packedAddress q_banks q_memory q_register q_stack q_place u.1 u.2.1 u.2.2.1 u.2.2.2 q_enabled q_soon q_ram q_low q_top q_mode q_state q_sent q_out)) := by
  refine ct_of RQ (by decide) rfl (Nat.le_of_ble_eq_true rfl) (fun G hl hD X hq => ?_)
  subst hl hD
  show go_ G 0 0 (wM ad q_code q_many q_pin q_size q_bytes q_kind q_bank q_address q_full q_linked q_packedBank q_packedAddress q_banks q_memory q_register q_stack q_place q_zero q_less q_half q_carry q_enabled q_soon q_ram q_low q_top q_mode q_state q_sent q_out) 0 [(0, .ref (ad 30)), (1, .int a1), (2, .int a2), (3, .int a3)] []
  have C59 : ∀ (q_zero q_less q_half q_carry x4 x5 y0 : Int32), wp_Q_add_59 P q_zero q_less q_half q_carry x4 x5 y0 → go_ G 0 0 (wM ad q_code q_many q_pin q_size q_bytes q_kind q_bank q_address q_full q_linked q_packedBank q_packedAddress q_banks q_memory q_register q_stack q_place q_zero q_less q_half q_carry q_enabled q_soon q_ram q_low q_top q_mode q_state q_sent q_out) 59 [(0, .ref (ad 30)), (4, .int x4), (5, .int x5)] [.int y0, .ref (ad 30)] := by
    intro q_zero q_less q_half q_carry x4 x5 y0 hw
    have hz := hw.1
    have hw := hw.2
    refine pt_Q_69 X hz dQ_add_59 ?_
    refine go_aload_n X 0 dQ_add_62 rfl rfl ?_
    refine go_iconst X dQ_add_63 kc_i0 ?_
    refine pt_Q_63 X (Or.inl rfl) dQ_add_64 ?_
    refine go_iload X 2 dQ_add_67 rfl ?_
    refine go_bipush X dQ_add_69 kc_b16 ?_
    refine go_irem X dQ_add_71 (by decide) ?_
    refine go_bipush X dQ_add_72 kc_b16 ?_
    refine go_imul X dQ_add_74 ?_
    refine go_iload X 1 dQ_add_75 rfl ?_
    refine go_bipush X dQ_add_77 kc_b16 ?_
    refine go_irem X dQ_add_79 (by decide) ?_
    refine go_iadd X dQ_add_80 ?_
    refine go_nm (fun z3 ez3 => ?_)
    have hw := hw z3 ez3
    refine go_istore X dQ_add_81 (by decide) rfl ?_
    refine go_aload_n X 1 dQ_add_83 rfl rfl ?_
    refine go_iload X 0 dQ_add_84 rfl ?_
    refine go_if_ne X dQ_add_86 rfl (fun hc => ?_) (fun hc => ?_)
    · have hw := hw.1 hc
      refine go_iconst X dQ_add_93 kc_i0 ?_
      refine pt_Q_59 X (Or.inl rfl) dQ_add_94 ?_
      refine go_iload X 0 dQ_add_97 rfl ?_
      exact go_ireturn X hq dQ_add_99 ((0 : Int32), (0 : Int32), q_half, y0) hw rfl
    · have hw := hw.2 hc
      refine go_iconst X dQ_add_89 kc_i1 ?_
      refine go_goto X dQ_add_90 rfl ?_
      refine pt_Q_59 X (Or.inr rfl) dQ_add_94 ?_
      refine go_iload X 0 dQ_add_97 rfl ?_
      exact go_ireturn X hq dQ_add_99 ((1 : Int32), (0 : Int32), q_half, y0) hw rfl
  refine go_iload_n X 1 dQ_add_0 rfl rfl ?_
  refine go_bipush X dQ_add_1 kc_b16 ?_
  refine go_irem X dQ_add_3 (by decide) ?_
  refine go_iload_n X 2 dQ_add_4 rfl rfl ?_
  refine go_bipush X dQ_add_5 kc_b16 ?_
  refine go_irem X dQ_add_7 (by decide) ?_
  refine go_iadd X dQ_add_8 ?_
  refine go_iload_n X 3 dQ_add_9 rfl rfl ?_
  refine go_iadd X dQ_add_10 ?_
  refine go_nm (fun z1 ez1 => ?_)
  have hw := hw z1 ez1
  refine go_istore X dQ_add_11 (by decide) rfl ?_
  refine go_iload_n X 2 dQ_add_13 rfl rfl ?_
  refine go_bipush X dQ_add_14 kc_b16 ?_
  refine go_idiv X dQ_add_16 (by decide) ?_
  refine go_iload_n X 3 dQ_add_17 rfl rfl ?_
  refine go_bipush X dQ_add_18 kc_b16 ?_
  refine go_idiv X dQ_add_20 (by decide) ?_
  refine go_iadd X dQ_add_21 ?_
  refine go_iload X 0 dQ_add_22 rfl ?_
  refine go_bipush X dQ_add_24 kc_b16 ?_
  refine go_idiv X dQ_add_26 (by decide) ?_
  refine go_iadd X dQ_add_27 ?_
  refine go_nm (fun z2 ez2 => ?_)
  have hw := hw z2 ez2
  refine go_istore X dQ_add_28 (by decide) rfl ?_
  refine go_aload_n X 2 dQ_add_30 rfl rfl ?_
  refine go_iload X 1 dQ_add_31 rfl ?_
  refine go_bipush X dQ_add_33 kc_b15 ?_
  refine go_icmp_le X dQ_add_35 rfl (fun hc => ?_) (fun hc => ?_)
  · have hw := hw.1 hc
    refine go_iconst X dQ_add_42 kc_i0 ?_
    refine pt_Q_66 X (Or.inl rfl) dQ_add_43 ?_
    refine go_aload_n X 2 dQ_add_46 rfl rfl ?_
    refine go_iload X 0 dQ_add_47 rfl ?_
    refine go_bipush X dQ_add_49 kc_b15 ?_
    refine go_icmp_le X dQ_add_51 rfl (fun hc => ?_) (fun hc => ?_)
    · have hw := hw.1 hc
      refine go_iconst X dQ_add_58 kc_i0 ?_
      refine go_lc [2, 1, 0] rfl ?_
      exact C59 _ _ _ _ _ _ _ hw
    · have hw := hw.2 hc
      refine go_iconst X dQ_add_54 kc_i1 ?_
      refine go_goto X dQ_add_55 rfl ?_
      refine go_lc [2, 1, 0] rfl ?_
      exact C59 _ _ _ _ _ _ _ hw
  · have hw := hw.2 hc
    refine go_iconst X dQ_add_38 kc_i1 ?_
    refine go_goto X dQ_add_39 rfl ?_
    refine pt_Q_66 X (Or.inr rfl) dQ_add_43 ?_
    refine go_aload_n X 2 dQ_add_46 rfl rfl ?_
    refine go_iload X 0 dQ_add_47 rfl ?_
    refine go_bipush X dQ_add_49 kc_b15 ?_
    refine go_icmp_le X dQ_add_51 rfl (fun hc => ?_) (fun hc => ?_)
    · have hw := hw.1 hc
      refine go_iconst X dQ_add_58 kc_i0 ?_
      refine go_lc [2, 1, 0] rfl ?_
      exact C59 _ _ _ _ _ _ _ hw
    · have hw := hw.2 hc
      refine go_iconst X dQ_add_54 kc_i1 ?_
      refine go_goto X dQ_add_55 rfl ?_
      refine go_lc [2, 1, 0] rfl ?_
      exact C59 _ _ _ _ _ _ _ hw
theorem k_Q_add {G : gt_} {ad : Nat → Nat} {cc : ByteArray} {own : String} {fr lo n cells slots pc index : Nat} {lc : List (Nat × Value)} {rest : List Value} {q_code q_many : Int32} {q_pin q_size q_bytes q_kind q_bank q_address q_full : Nat → Int32} {q_linked : Int32} {q_packedBank q_packedAddress : Nat → Int32} {q_banks : Int32} {q_memory q_register : Nat → Int32} {q_stack q_place q_zero q_less q_half q_carry q_enabled q_soon q_ram q_low q_top q_mode q_state q_sent : Int32} {q_out : Nat → Int32} {a1 a2 a3 : Int32} {P : Int32 → (Int32) → (Int32) → (Int32) → (Int32) → Prop} (X : cx_ G ad cc own fr lo n) (hw : wp_Q_add q_zero q_less q_half q_carry a1 a2 a3 P) (m1 : Cond.methodLink own index yQ_add ∈ wS) (hlv : 0 + 1 ≤ fr ∧ 8 + (7 + 11) + 0 ≤ lo) (hrs : (rest.map fun v => v.category).sum ≤ 8) (hcs : cells ≤ (gR_ G).cells ∧ slots ≤ (gR_ G).slots) (d : decode cc pc = .ok (.invokevirtual index, 3))
    (kk : ∀ (r q_zero' q_less' q_half' q_carry' : Int32), P r q_zero' q_less' q_half' q_carry' → go_ G cells slots (wM ad q_code q_many q_pin q_size q_bytes q_kind q_bank q_address q_full q_linked q_packedBank q_packedAddress q_banks q_memory q_register q_stack q_place q_zero' q_less' q_half' q_carry' q_enabled q_soon q_ram q_low q_top q_mode q_state q_sent q_out) (pc + 3) lc (.int r :: rest)) : go_ G cells slots (wM ad q_code q_many q_pin q_size q_bytes q_kind q_bank q_address q_full q_linked q_packedBank q_packedAddress q_banks q_memory q_register q_stack q_place q_zero q_less q_half q_carry q_enabled q_soon q_ram q_low q_top q_mode q_state q_sent q_out) pc lc (.int a3 :: .int a2 :: .int a1 :: .ref (ad 30) :: rest) :=
  go_cvi X (c_Q_add hw) me_Q_add m1 hlv 0 rfl rfl rfl hrs hcs d (fun r u hp => kk r u.1 u.2.1 u.2.2.1 u.2.2.2 hp)
set_option maxRecDepth 100000 in
set_option maxHeartbeats 4000000 in
theorem c_Q_adjust {l : Launch} {D : va_G} {ad : Nat → Nat} {q_code q_many : Int32} {q_pin q_size q_bytes q_kind q_bank q_address q_full : Nat → Int32} {q_linked : Int32} {q_packedBank q_packedAddress : Nat → Int32} {q_banks : Int32} {q_memory q_register : Nat → Int32} {q_stack q_place q_zero q_less q_half q_carry q_enabled q_soon q_ram q_low q_top q_mode q_state q_sent : Int32} {q_out : Nat → Int32}  {P : (Nat → Int32) → (Int32) → (Int32) → (Int32) → Prop} (hw : wp_Q_adjust q_register q_zero q_less q_half q_carry  P) : ct_ l yQ_adjust bQ_adjust 4 none 0 0 D ad [.ref (ad 30)] (wM ad q_code q_many q_pin q_size q_bytes q_kind q_bank q_address q_full q_linked q_packedBank q_packedAddress q_banks q_memory q_register q_stack q_place q_zero q_less q_half q_carry q_enabled q_soon q_ram q_low q_top q_mode q_state q_sent q_out) (qv_ D (fun (u : (Nat → Int32) × (Int32) × (Int32) × (Int32)) => P u.1 u.2.1 u.2.2.1 u.2.2.2) (fun u => wM ad q_code q_many q_pin q_size q_bytes q_kind q_bank q_address q_full q_linked q_packedBank q_packedAddress q_banks q_memory u.1 q_stack q_place u.2.1 q_less u.2.2.1 u.2.2.2 q_enabled q_soon q_ram q_low q_top q_mode q_state q_sent q_out)) := by
  refine ct_of RQ (by decide) rfl (Nat.le_of_ble_eq_true rfl) (fun G hl hD X hq => ?_)
  subst hl hD
  show go_ G 0 0 (wM ad q_code q_many q_pin q_size q_bytes q_kind q_bank q_address q_full q_linked q_packedBank q_packedAddress q_banks q_memory q_register q_stack q_place q_zero q_less q_half q_carry q_enabled q_soon q_ram q_low q_top q_mode q_state q_sent q_out) 0 [(0, .ref (ad 30))] []
  have C100 : ∀ (q_register : Nat → Int32) (q_zero q_half q_carry x3 y0 y1 : Int32), wp_Q_adjust_100 q_less P q_register q_zero q_half q_carry x3 y0 y1 → go_ G 0 0 (wM ad q_code q_many q_pin q_size q_bytes q_kind q_bank q_address q_full q_linked q_packedBank q_packedAddress q_banks q_memory q_register q_stack q_place q_zero q_less q_half q_carry q_enabled q_soon q_ram q_low q_top q_mode q_state q_sent q_out) 100 [(0, .ref (ad 30)), (3, .int x3)] [.int y0, .int y1, .ref (ad 41)] := by
    intro q_register q_zero q_half q_carry x3 y0 y1 hw
    refine go_sipush X dQ_adjust_100 kc_s255 ?_
    refine go_iand X dQ_adjust_103 ?_
    have hz := hw.1
    have hw := hw.2
    refine as_q_register X hz dQ_adjust_104 ?_
    refine go_aload_n X 0 dQ_adjust_105 rfl rfl ?_
    refine go_aload_n X 0 dQ_adjust_106 rfl rfl ?_
    refine gt_Q_40 X dQ_adjust_107 ?_
    refine go_bipush X dQ_adjust_110 kc_b7 ?_
    refine ar_q_register X vi_7_8 dQ_adjust_112 ?_
    refine go_if_ne X dQ_adjust_113 rfl (fun hc => ?_) (fun hc => ?_)
    · have hw := hw.1 hc
      refine go_iconst X dQ_adjust_120 kc_i0 ?_
      refine pt_Q_59 X (Or.inl rfl) dQ_adjust_121 ?_
      refine go_aload_n X 0 dQ_adjust_124 rfl rfl ?_
      refine go_iconst X dQ_adjust_125 kc_i0 ?_
      refine pt_Q_66 X (Or.inl rfl) dQ_adjust_126 ?_
      refine go_aload_n X 0 dQ_adjust_129 rfl rfl ?_
      refine go_iload_n X 1 dQ_adjust_130 rfl rfl ?_
      have hz := hw.1
      have hw := hw.2
      refine pt_Q_69 X hz dQ_adjust_131 ?_
      exact go_vreturn X hq dQ_adjust_134 (upd q_register y1.toNatClampNeg (y0 &&& (255 : Int32)), (0 : Int32), (0 : Int32), x3) hw rfl
    · have hw := hw.2 hc
      refine go_iconst X dQ_adjust_116 kc_i1 ?_
      refine go_goto X dQ_adjust_117 rfl ?_
      refine pt_Q_59 X (Or.inr rfl) dQ_adjust_121 ?_
      refine go_aload_n X 0 dQ_adjust_124 rfl rfl ?_
      refine go_iconst X dQ_adjust_125 kc_i0 ?_
      refine pt_Q_66 X (Or.inl rfl) dQ_adjust_126 ?_
      refine go_aload_n X 0 dQ_adjust_129 rfl rfl ?_
      refine go_iload_n X 1 dQ_adjust_130 rfl rfl ?_
      have hz := hw.1
      have hw := hw.2
      refine pt_Q_69 X hz dQ_adjust_131 ?_
      exact go_vreturn X hq dQ_adjust_134 (upd q_register y1.toNatClampNeg (y0 &&& (255 : Int32)), (1 : Int32), (0 : Int32), x3) hw rfl
  have C77 : ∀ (q_register : Nat → Int32) (q_zero q_half q_carry x1 x3 y0 : Int32), wp_Q_adjust_77 q_less P q_register q_zero q_half q_carry x1 x3 y0 → go_ G 0 0 (wM ad q_code q_many q_pin q_size q_bytes q_kind q_bank q_address q_full q_linked q_packedBank q_packedAddress q_banks q_memory q_register q_stack q_place q_zero q_less q_half q_carry q_enabled q_soon q_ram q_low q_top q_mode q_state q_sent q_out) 77 [(0, .ref (ad 30)), (1, .int x1), (3, .int x3)] [.int y0] := by
    intro q_register q_zero q_half q_carry x1 x3 y0 hw
    refine go_istore_n X dQ_adjust_77 rfl (by decide) rfl ?_
    refine go_aload_n X 1 dQ_adjust_78 rfl rfl ?_
    refine gt_Q_40 X dQ_adjust_79 ?_
    refine go_bipush X dQ_adjust_82 kc_b7 ?_
    refine go_aload_n X 1 dQ_adjust_84 rfl rfl ?_
    refine gt_Q_63 X dQ_adjust_85 ?_
    refine go_if_eq X dQ_adjust_88 rfl (fun hc => ?_) (fun hc => ?_)
    · have hw := hw.1 hc
      refine go_iload_n X 2 dQ_adjust_97 rfl rfl ?_
      refine go_iload_n X 0 dQ_adjust_98 rfl rfl ?_
      refine go_iadd X dQ_adjust_99 ?_
      refine go_lc [1, 3] rfl ?_
      exact C100 _ _ _ _ _ _ _ hw
    · have hw := hw.2 hc
      refine go_iload_n X 2 dQ_adjust_91 rfl rfl ?_
      refine go_iload_n X 0 dQ_adjust_92 rfl rfl ?_
      refine go_isub X dQ_adjust_93 ?_
      refine go_goto X dQ_adjust_94 rfl ?_
      refine go_lc [1, 3] rfl ?_
      exact C100 _ _ _ _ _ _ _ hw
  have C37 : ∀ (q_register : Nat → Int32) (q_zero q_half q_carry x1 y0 : Int32), wp_Q_adjust_37 q_less P q_register q_zero q_half q_carry x1 y0 → go_ G 0 0 (wM ad q_code q_many q_pin q_size q_bytes q_kind q_bank q_address q_full q_linked q_packedBank q_packedAddress q_banks q_memory q_register q_stack q_place q_zero q_less q_half q_carry q_enabled q_soon q_ram q_low q_top q_mode q_state q_sent q_out) 37 [(0, .ref (ad 30)), (1, .int x1)] [.int y0] := by
    intro q_register q_zero q_half q_carry x1 y0 hw
    refine go_istore_n X dQ_adjust_37 rfl (by decide) rfl ?_
    refine go_aload_n X 1 dQ_adjust_38 rfl rfl ?_
    refine gt_Q_69 X dQ_adjust_39 ?_
    refine go_if_ne X dQ_adjust_42 rfl (fun hc => ?_) (fun hc => ?_)
    · have hw := hw.1 hc
      refine go_iconst X dQ_adjust_59 kc_i1 ?_
      refine go_goto X dQ_adjust_60 rfl ?_
      refine go_istore_n X dQ_adjust_64 rfl (by decide) rfl ?_
      refine go_iload_n X 0 dQ_adjust_65 rfl rfl ?_
      refine go_if_eq X dQ_adjust_66 rfl (fun h9 => absurd h9 (by decide)) (fun _ => ?_)
      refine go_iload_n X 1 dQ_adjust_69 rfl rfl ?_
      refine go_bipush X dQ_adjust_70 kc_b96 ?_
      refine go_iadd X dQ_adjust_72 ?_
      refine go_goto X dQ_adjust_73 rfl ?_
      refine go_lc [2, 3, 0] rfl ?_
      exact C77 _ _ _ _ _ _ _ hw
    · have hw := hw.2 hc
      refine go_aload_n X 1 dQ_adjust_45 rfl rfl ?_
      refine gt_Q_63 X dQ_adjust_46 ?_
      refine go_if_ne X dQ_adjust_49 rfl (fun hc => ?_) (fun hc => ?_)
      · have hw := hw.1 hc
        refine go_iconst X dQ_adjust_63 kc_i0 ?_
        refine go_istore_n X dQ_adjust_64 rfl (by decide) rfl ?_
        refine go_iload_n X 0 dQ_adjust_65 rfl rfl ?_
        refine go_if_eq X dQ_adjust_66 rfl (fun _ => ?_) (fun h9 => absurd h9 (by decide))
        refine go_iload_n X 1 dQ_adjust_76 rfl rfl ?_
        refine go_lc [2, 3, 0] rfl ?_
        exact C77 _ _ _ _ _ _ _ hw
      · have hw := hw.2 hc
        refine go_iload_n X 2 dQ_adjust_52 rfl rfl ?_
        refine go_sipush X dQ_adjust_53 kc_s153 ?_
        refine go_icmp_le X dQ_adjust_56 rfl (fun hc => ?_) (fun hc => ?_)
        · have hw := hw.1 hc
          refine go_iconst X dQ_adjust_63 kc_i0 ?_
          refine go_istore_n X dQ_adjust_64 rfl (by decide) rfl ?_
          refine go_iload_n X 0 dQ_adjust_65 rfl rfl ?_
          refine go_if_eq X dQ_adjust_66 rfl (fun _ => ?_) (fun h9 => absurd h9 (by decide))
          refine go_iload_n X 1 dQ_adjust_76 rfl rfl ?_
          refine go_lc [2, 3, 0] rfl ?_
          exact C77 _ _ _ _ _ _ _ hw
        · have hw := hw.2 hc
          refine go_iconst X dQ_adjust_59 kc_i1 ?_
          refine go_goto X dQ_adjust_60 rfl ?_
          refine go_istore_n X dQ_adjust_64 rfl (by decide) rfl ?_
          refine go_iload_n X 0 dQ_adjust_65 rfl rfl ?_
          refine go_if_eq X dQ_adjust_66 rfl (fun h9 => absurd h9 (by decide)) (fun _ => ?_)
          refine go_iload_n X 1 dQ_adjust_69 rfl rfl ?_
          refine go_bipush X dQ_adjust_70 kc_b96 ?_
          refine go_iadd X dQ_adjust_72 ?_
          refine go_goto X dQ_adjust_73 rfl ?_
          refine go_lc [2, 3, 0] rfl ?_
          exact C77 _ _ _ _ _ _ _ hw
  refine go_aload_n X 0 dQ_adjust_0 rfl rfl ?_
  refine gt_Q_40 X dQ_adjust_1 ?_
  refine go_bipush X dQ_adjust_4 kc_b7 ?_
  refine ar_q_register X vi_7_8 dQ_adjust_6 ?_
  refine go_nm (fun z1 ez1 => ?_)
  have hw := hw z1 ez1
  refine go_istore_n X dQ_adjust_7 rfl (by decide) rfl ?_
  refine go_aload_n X 1 dQ_adjust_8 rfl rfl ?_
  refine gt_Q_66 X dQ_adjust_9 ?_
  refine go_if_ne X dQ_adjust_12 rfl (fun hc => ?_) (fun hc => ?_)
  · have hw := hw.1 hc
    refine go_bipush X dQ_adjust_31 kc_b6 ?_
    refine go_goto X dQ_adjust_33 rfl ?_
    refine go_lc [1, 0] rfl ?_
    exact C37 _ _ _ _ _ _ hw
  · have hw := hw.2 hc
    refine go_aload_n X 1 dQ_adjust_15 rfl rfl ?_
    refine gt_Q_63 X dQ_adjust_16 ?_
    refine go_if_ne X dQ_adjust_19 rfl (fun hc => ?_) (fun hc => ?_)
    · have hw := hw.1 hc
      refine go_iconst X dQ_adjust_36 kc_i0 ?_
      refine go_lc [1, 0] rfl ?_
      exact C37 _ _ _ _ _ _ hw
    · have hw := hw.2 hc
      refine go_iload_n X 0 dQ_adjust_22 rfl rfl ?_
      refine go_bipush X dQ_adjust_23 kc_b16 ?_
      refine go_irem X dQ_adjust_25 (by decide) ?_
      refine go_bipush X dQ_adjust_26 kc_b9 ?_
      refine go_icmp_le X dQ_adjust_28 rfl (fun hc => ?_) (fun hc => ?_)
      · have hw := hw.1 hc
        refine go_iconst X dQ_adjust_36 kc_i0 ?_
        refine go_lc [1, 0] rfl ?_
        exact C37 _ _ _ _ _ _ hw
      · have hw := hw.2 hc
        refine go_bipush X dQ_adjust_31 kc_b6 ?_
        refine go_goto X dQ_adjust_33 rfl ?_
        refine go_lc [1, 0] rfl ?_
        exact C37 _ _ _ _ _ _ hw
theorem k_Q_adjust {G : gt_} {ad : Nat → Nat} {cc : ByteArray} {own : String} {fr lo n cells slots pc index : Nat} {lc : List (Nat × Value)} {rest : List Value} {q_code q_many : Int32} {q_pin q_size q_bytes q_kind q_bank q_address q_full : Nat → Int32} {q_linked : Int32} {q_packedBank q_packedAddress : Nat → Int32} {q_banks : Int32} {q_memory q_register : Nat → Int32} {q_stack q_place q_zero q_less q_half q_carry q_enabled q_soon q_ram q_low q_top q_mode q_state q_sent : Int32} {q_out : Nat → Int32}  {P : (Nat → Int32) → (Int32) → (Int32) → (Int32) → Prop} (X : cx_ G ad cc own fr lo n) (hw : wp_Q_adjust q_register q_zero q_less q_half q_carry  P) (m1 : Cond.methodLink own index yQ_adjust ∈ wS) (hlv : 0 + 1 ≤ fr ∧ 8 + (4 + 11) + 0 ≤ lo) (hrs : (rest.map fun v => v.category).sum ≤ 8) (hcs : cells ≤ (gR_ G).cells ∧ slots ≤ (gR_ G).slots) (d : decode cc pc = .ok (.invokevirtual index, 3))
    (kk : ∀ (q_register' : Nat → Int32) (q_zero' q_half' q_carry' : Int32), P q_register' q_zero' q_half' q_carry' → go_ G cells slots (wM ad q_code q_many q_pin q_size q_bytes q_kind q_bank q_address q_full q_linked q_packedBank q_packedAddress q_banks q_memory q_register' q_stack q_place q_zero' q_less q_half' q_carry' q_enabled q_soon q_ram q_low q_top q_mode q_state q_sent q_out) (pc + 3) lc (rest)) : go_ G cells slots (wM ad q_code q_many q_pin q_size q_bytes q_kind q_bank q_address q_full q_linked q_packedBank q_packedAddress q_banks q_memory q_register q_stack q_place q_zero q_less q_half q_carry q_enabled q_soon q_ram q_low q_top q_mode q_state q_sent q_out) pc lc (.ref (ad 30) :: rest) :=
  go_cvv X (c_Q_adjust hw) me_Q_adjust m1 hlv 0 rfl rfl rfl hrs hcs d (fun u hp => kk u.1 u.2.1 u.2.2.1 u.2.2.2 hp)
set_option maxRecDepth 100000 in
set_option maxHeartbeats 4000000 in
theorem c_Q_allKnown {l : Launch} {D : va_G} {ad : Nat → Nat} {q_code q_many : Int32} {q_pin q_size q_bytes q_kind q_bank q_address q_full : Nat → Int32} {q_linked : Int32} {q_packedBank q_packedAddress : Nat → Int32} {q_banks : Int32} {q_memory q_register : Nat → Int32} {q_stack q_place q_zero q_less q_half q_carry q_enabled q_soon q_ram q_low q_top q_mode q_state q_sent : Int32} {q_out : Nat → Int32}  {P : Int32 → Prop} (hw : wp_Q_allKnown q_many q_size q_bytes q_kind  P) : ct_ l yQ_allKnown bQ_allKnown 4 (some .boolean) 0 0 D ad [.ref (ad 30)] (wM ad q_code q_many q_pin q_size q_bytes q_kind q_bank q_address q_full q_linked q_packedBank q_packedAddress q_banks q_memory q_register q_stack q_place q_zero q_less q_half q_carry q_enabled q_soon q_ram q_low q_top q_mode q_state q_sent q_out) (qi_ D (fun (r : Int32) (_ : Unit) => P r ) (fun _ => (wM ad q_code q_many q_pin q_size q_bytes q_kind q_bank q_address q_full q_linked q_packedBank q_packedAddress q_banks q_memory q_register q_stack q_place q_zero q_less q_half q_carry q_enabled q_soon q_ram q_low q_top q_mode q_state q_sent q_out))) := by
  refine ct_of RQ (by decide) rfl (Nat.le_of_ble_eq_true rfl) (fun G hl hD X hq => ?_)
  subst hl hD
  show go_ G 0 0 (wM ad q_code q_many q_pin q_size q_bytes q_kind q_bank q_address q_full q_linked q_packedBank q_packedAddress q_banks q_memory q_register q_stack q_place q_zero q_less q_half q_carry q_enabled q_soon q_ram q_low q_top q_mode q_state q_sent q_out) 0 [(0, .ref (ad 30))] []
  have C17 : ∀ (K4 : Int32 → Int32 → Prop) (hK4 : ∀ (x1 x2 : Int32), K4 x1 x2 → go_ G 0 0 (wM ad q_code q_many q_pin q_size q_bytes q_kind q_bank q_address q_full q_linked q_packedBank q_packedAddress q_banks q_memory q_register q_stack q_place q_zero q_less q_half q_carry q_enabled q_soon q_ram q_low q_top q_mode q_state q_sent q_out) 4 [(0, .ref (ad 30)), (1, .int x1), (2, .int x2)] []) (n9 : Nat) (x1 x2 x3 : Int32), wp_Q_allKnown_17 q_many q_size q_bytes q_kind K4 P n9 x1 x2 x3 → go_ G 0 0 (wM ad q_code q_many q_pin q_size q_bytes q_kind q_bank q_address q_full q_linked q_packedBank q_packedAddress q_banks q_memory q_register q_stack q_place q_zero q_less q_half q_carry q_enabled q_soon q_ram q_low q_top q_mode q_state q_sent q_out) 17 [(0, .ref (ad 30)), (1, .int x1), (2, .int x2), (3, .int x3)] [] := by
    intro K4 hK4 n9
    induction n9 with
    | zero =>
      intro x1 x2 x3 hw
      exact False.elim hw
    | succ n9 ih =>
      intro x1 x2 x3 hw
      refine go_iload_n X 3 dQ_allKnown_17 rfl rfl ?_
      refine go_bipush X dQ_allKnown_18 kc_b48 ?_
      refine go_iload_n X 2 dQ_allKnown_20 rfl rfl ?_
      refine go_imul X dQ_allKnown_21 ?_
      refine go_aload_n X 0 dQ_allKnown_22 rfl rfl ?_
      refine gt_Q_13 X dQ_allKnown_23 ?_
      refine go_iload_n X 2 dQ_allKnown_26 rfl rfl ?_
      have hz := hw.1
      have hw := hw.2
      refine ar_q_size X hz dQ_allKnown_27 ?_
      refine go_iadd X dQ_allKnown_28 ?_
      refine go_icmp_ge X dQ_allKnown_29 rfl (fun hc => ?_) (fun hc => ?_)
      · have hw := hw.1 hc
        refine go_iinc X 2 dQ_allKnown_70 rfl (ki_1 _) (by decide) rfl ?_
        refine go_goto X dQ_allKnown_73 rfl ?_
        refine go_lc [1, 2, 0] rfl ?_
        exact hK4 _ _ hw
      · have hw := hw.2 hc
        refine go_iload_n X 1 dQ_allKnown_32 rfl rfl ?_
        refine go_if_eq X dQ_allKnown_33 rfl (fun hc => ?_) (fun hc => ?_)
        · have hw := hw.1 hc
          refine go_iconst X dQ_allKnown_62 kc_i0 ?_
          refine go_istore_n X dQ_allKnown_63 rfl (by decide) rfl ?_
          refine go_iinc X 3 dQ_allKnown_64 rfl (ki_1 _) (by decide) rfl ?_
          refine go_goto X dQ_allKnown_67 rfl ?_
          refine go_lc [2, 1, 3, 0] rfl ?_
          exact ih _ _ _ hw
        · have hw := hw.2 hc
          refine go_aload_n X 0 dQ_allKnown_36 rfl rfl ?_
          refine gt_Q_19 X dQ_allKnown_37 ?_
          refine go_iload_n X 3 dQ_allKnown_40 rfl rfl ?_
          have hz := hw.1
          have hw := hw.2
          refine ar_q_kind X hz dQ_allKnown_41 ?_
          refine go_if_eq X dQ_allKnown_42 rfl (fun hc => ?_) (fun hc => ?_)
          · have hw := hw.1 hc
            refine go_iconst X dQ_allKnown_58 kc_i1 ?_
            refine go_goto X dQ_allKnown_59 rfl ?_
            refine go_istore_n X dQ_allKnown_63 rfl (by decide) rfl ?_
            refine go_iinc X 3 dQ_allKnown_64 rfl (ki_1 _) (by decide) rfl ?_
            refine go_goto X dQ_allKnown_67 rfl ?_
            refine go_lc [2, 1, 3, 0] rfl ?_
            exact ih _ _ _ hw
          · have hw := hw.2 hc
            refine go_aload_n X 0 dQ_allKnown_45 rfl rfl ?_
            refine gt_Q_16 X dQ_allKnown_46 ?_
            refine go_iload_n X 3 dQ_allKnown_49 rfl rfl ?_
            have hz := hw.1
            have hw := hw.2
            refine ar_q_bytes X hz dQ_allKnown_50 ?_
            refine go_aload_n X 0 dQ_allKnown_51 rfl rfl ?_
            refine gt_Q_100 X dQ_allKnown_52 ?_
            refine go_icmp_ge X dQ_allKnown_55 rfl (fun hc => ?_) (fun hc => ?_)
            · have hw := hw.1 hc
              refine go_iconst X dQ_allKnown_62 kc_i0 ?_
              refine go_istore_n X dQ_allKnown_63 rfl (by decide) rfl ?_
              refine go_iinc X 3 dQ_allKnown_64 rfl (ki_1 _) (by decide) rfl ?_
              refine go_goto X dQ_allKnown_67 rfl ?_
              refine go_lc [2, 1, 3, 0] rfl ?_
              exact ih _ _ _ hw
            · have hw := hw.2 hc
              refine go_iconst X dQ_allKnown_58 kc_i1 ?_
              refine go_goto X dQ_allKnown_59 rfl ?_
              refine go_istore_n X dQ_allKnown_63 rfl (by decide) rfl ?_
              refine go_iinc X 3 dQ_allKnown_64 rfl (ki_1 _) (by decide) rfl ?_
              refine go_goto X dQ_allKnown_67 rfl ?_
              refine go_lc [2, 1, 3, 0] rfl ?_
              exact ih _ _ _ hw
  have C4 : ∀ (n9 : Nat) (x1 x2 : Int32), wp_Q_allKnown_4 q_many q_size q_bytes q_kind P n9 x1 x2 → go_ G 0 0 (wM ad q_code q_many q_pin q_size q_bytes q_kind q_bank q_address q_full q_linked q_packedBank q_packedAddress q_banks q_memory q_register q_stack q_place q_zero q_less q_half q_carry q_enabled q_soon q_ram q_low q_top q_mode q_state q_sent q_out) 4 [(0, .ref (ad 30)), (1, .int x1), (2, .int x2)] [] := by
    intro n9
    induction n9 with
    | zero =>
      intro x1 x2 hw
      exact False.elim hw
    | succ n9 ih =>
      intro x1 x2 hw
      refine go_iload_n X 2 dQ_allKnown_4 rfl rfl ?_
      refine go_aload_n X 0 dQ_allKnown_5 rfl rfl ?_
      refine gt_Q_100 X dQ_allKnown_6 ?_
      refine go_icmp_ge X dQ_allKnown_9 rfl (fun hc => ?_) (fun hc => ?_)
      · have hw := hw.1 hc
        refine go_iload_n X 1 dQ_allKnown_76 rfl rfl ?_
        have hz := hw.1
        have hw := hw.2
        exact go_zreturn X hq dQ_allKnown_77 hz () hw rfl
      · have hw := hw.2 hc
        refine go_bipush X dQ_allKnown_12 kc_b48 ?_
        refine go_iload_n X 2 dQ_allKnown_14 rfl rfl ?_
        refine go_imul X dQ_allKnown_15 ?_
        refine go_nm (fun z1 ez1 => ?_)
        have hw := hw z1 ez1
        refine go_istore_n X dQ_allKnown_16 rfl (by decide) rfl ?_
        refine go_lc [1, 2, 3, 0] rfl ?_
        obtain ⟨j9, hw⟩ := hw
        exact C17 (wp_Q_allKnown_4 q_many q_size q_bytes q_kind P n9) ih j9 _ _ _ hw
  refine go_iconst X dQ_allKnown_0 kc_i1 ?_
  refine go_istore_n X dQ_allKnown_1 rfl (by decide) rfl ?_
  refine go_iconst X dQ_allKnown_2 kc_i0 ?_
  refine go_istore_n X dQ_allKnown_3 rfl (by decide) rfl ?_
  refine go_lc [2, 1, 0] rfl ?_
  obtain ⟨j9, hw⟩ := hw
  exact C4 j9 _ _ hw
theorem k_Q_allKnown {G : gt_} {ad : Nat → Nat} {cc : ByteArray} {own : String} {fr lo n cells slots pc index : Nat} {lc : List (Nat × Value)} {rest : List Value} {q_code q_many : Int32} {q_pin q_size q_bytes q_kind q_bank q_address q_full : Nat → Int32} {q_linked : Int32} {q_packedBank q_packedAddress : Nat → Int32} {q_banks : Int32} {q_memory q_register : Nat → Int32} {q_stack q_place q_zero q_less q_half q_carry q_enabled q_soon q_ram q_low q_top q_mode q_state q_sent : Int32} {q_out : Nat → Int32}  {P : Int32 → Prop} (X : cx_ G ad cc own fr lo n) (hw : wp_Q_allKnown q_many q_size q_bytes q_kind  P) (m1 : Cond.methodLink own index yQ_allKnown ∈ wS) (hlv : 0 + 1 ≤ fr ∧ 8 + (4 + 11) + 0 ≤ lo) (hrs : (rest.map fun v => v.category).sum ≤ 8) (hcs : cells ≤ (gR_ G).cells ∧ slots ≤ (gR_ G).slots) (d : decode cc pc = .ok (.invokevirtual index, 3))
    (kk : ∀ (r : Int32), P r → go_ G cells slots (wM ad q_code q_many q_pin q_size q_bytes q_kind q_bank q_address q_full q_linked q_packedBank q_packedAddress q_banks q_memory q_register q_stack q_place q_zero q_less q_half q_carry q_enabled q_soon q_ram q_low q_top q_mode q_state q_sent q_out) (pc + 3) lc (.int r :: rest)) : go_ G cells slots (wM ad q_code q_many q_pin q_size q_bytes q_kind q_bank q_address q_full q_linked q_packedBank q_packedAddress q_banks q_memory q_register q_stack q_place q_zero q_less q_half q_carry q_enabled q_soon q_ram q_low q_top q_mode q_state q_sent q_out) pc lc (.ref (ad 30) :: rest) :=
  go_cvi X (c_Q_allKnown hw) me_Q_allKnown m1 hlv 0 rfl rfl rfl hrs hcs d (fun r _ hp => kk r  hp)
set_option maxRecDepth 100000 in
set_option maxHeartbeats 4000000 in
theorem c_Q_append {l : Launch} {D : va_G} {ad : Nat → Nat} {q_code q_many : Int32} {q_pin q_size q_bytes q_kind q_bank q_address q_full : Nat → Int32} {q_linked : Int32} {q_packedBank q_packedAddress : Nat → Int32} {q_banks : Int32} {q_memory q_register : Nat → Int32} {q_stack q_place q_zero q_less q_half q_carry q_enabled q_soon q_ram q_low q_top q_mode q_state q_sent : Int32} {q_out : Nat → Int32} {a1 a2 : Int32} {P : (Nat → Int32) → (Nat → Int32) → (Nat → Int32) → Prop} (hw : wp_Q_append q_many q_size q_bytes q_kind a1 a2 P) : ct_ l yQ_append bQ_append 4 none 0 0 D ad [.ref (ad 30), .int a1, .int a2] (wM ad q_code q_many q_pin q_size q_bytes q_kind q_bank q_address q_full q_linked q_packedBank q_packedAddress q_banks q_memory q_register q_stack q_place q_zero q_less q_half q_carry q_enabled q_soon q_ram q_low q_top q_mode q_state q_sent q_out) (qv_ D (fun (u : (Nat → Int32) × (Nat → Int32) × (Nat → Int32)) => P u.1 u.2.1 u.2.2) (fun u => wM ad q_code q_many q_pin u.1 u.2.1 u.2.2 q_bank q_address q_full q_linked q_packedBank q_packedAddress q_banks q_memory q_register q_stack q_place q_zero q_less q_half q_carry q_enabled q_soon q_ram q_low q_top q_mode q_state q_sent q_out)) := by
  refine ct_of RQ (by decide) rfl (Nat.le_of_ble_eq_true rfl) (fun G hl hD X hq => ?_)
  subst hl hD
  show go_ G 0 0 (wM ad q_code q_many q_pin q_size q_bytes q_kind q_bank q_address q_full q_linked q_packedBank q_packedAddress q_banks q_memory q_register q_stack q_place q_zero q_less q_half q_carry q_enabled q_soon q_ram q_low q_top q_mode q_state q_sent q_out) 0 [(0, .ref (ad 30)), (1, .int a1), (2, .int a2)] []
  refine go_aload_n X 0 dQ_append_0 rfl rfl ?_
  refine gt_Q_100 X dQ_append_1 ?_
  refine go_iconst X dQ_append_4 kc_i1 ?_
  refine go_isub X dQ_append_5 ?_
  refine go_nm (fun z1 ez1 => ?_)
  have hw := hw z1 ez1
  refine go_istore_n X dQ_append_6 rfl (by decide) rfl ?_
  refine go_aload_n X 1 dQ_append_7 rfl rfl ?_
  refine gt_Q_19 X dQ_append_8 ?_
  refine go_bipush X dQ_append_11 kc_b48 ?_
  refine go_iload_n X 0 dQ_append_13 rfl rfl ?_
  refine go_imul X dQ_append_14 ?_
  refine go_aload_n X 1 dQ_append_15 rfl rfl ?_
  refine gt_Q_13 X dQ_append_16 ?_
  refine go_iload_n X 0 dQ_append_19 rfl rfl ?_
  have hz := hw.1
  have hw := hw.2
  refine ar_q_size X hz dQ_append_20 ?_
  refine go_iadd X dQ_append_21 ?_
  refine go_iload_n X 2 dQ_append_22 rfl rfl ?_
  have hz := hw.1
  have hw := hw.2
  refine as_q_kind X hz dQ_append_23 ?_
  refine go_aload_n X 1 dQ_append_24 rfl rfl ?_
  refine gt_Q_16 X dQ_append_25 ?_
  refine go_bipush X dQ_append_28 kc_b48 ?_
  refine go_iload_n X 0 dQ_append_30 rfl rfl ?_
  refine go_imul X dQ_append_31 ?_
  refine go_aload_n X 1 dQ_append_32 rfl rfl ?_
  refine gt_Q_13 X dQ_append_33 ?_
  refine go_iload_n X 0 dQ_append_36 rfl rfl ?_
  have hz := hw.1
  have hw := hw.2
  refine ar_q_size X hz dQ_append_37 ?_
  refine go_iadd X dQ_append_38 ?_
  refine go_iload_n X 3 dQ_append_39 rfl rfl ?_
  refine go_sipush X dQ_append_40 kc_s255 ?_
  refine go_iand X dQ_append_43 ?_
  have hz := hw.1
  have hw := hw.2
  refine as_q_bytes X hz dQ_append_44 ?_
  refine go_aload_n X 1 dQ_append_45 rfl rfl ?_
  refine gt_Q_13 X dQ_append_46 ?_
  refine go_iload_n X 0 dQ_append_49 rfl rfl ?_
  refine go_dup2 X dQ_append_50 rfl rfl ?_
  have hz := hw.1
  have hw := hw.2
  refine ar_q_size X hz dQ_append_51 ?_
  refine go_iconst X dQ_append_52 kc_i1 ?_
  refine go_iadd X dQ_append_53 ?_
  have hz := hw.1
  have hw := hw.2
  refine as_q_size X hz dQ_append_54 ?_
  exact go_vreturn X hq dQ_append_55 (upd q_size z1.toNatClampNeg ((q_size z1.toNatClampNeg) + (1 : Int32)), upd q_bytes (((48 : Int32) * z1) + (q_size z1.toNatClampNeg)).toNatClampNeg (a2 &&& (255 : Int32)), upd q_kind (((48 : Int32) * z1) + (q_size z1.toNatClampNeg)).toNatClampNeg a1) hw rfl
theorem k_Q_append {G : gt_} {ad : Nat → Nat} {cc : ByteArray} {own : String} {fr lo n cells slots pc index : Nat} {lc : List (Nat × Value)} {rest : List Value} {q_code q_many : Int32} {q_pin q_size q_bytes q_kind q_bank q_address q_full : Nat → Int32} {q_linked : Int32} {q_packedBank q_packedAddress : Nat → Int32} {q_banks : Int32} {q_memory q_register : Nat → Int32} {q_stack q_place q_zero q_less q_half q_carry q_enabled q_soon q_ram q_low q_top q_mode q_state q_sent : Int32} {q_out : Nat → Int32} {a1 a2 : Int32} {P : (Nat → Int32) → (Nat → Int32) → (Nat → Int32) → Prop} (X : cx_ G ad cc own fr lo n) (hw : wp_Q_append q_many q_size q_bytes q_kind a1 a2 P) (m1 : Cond.methodLink own index yQ_append ∈ wS) (hlv : 0 + 1 ≤ fr ∧ 8 + (4 + 11) + 0 ≤ lo) (hrs : (rest.map fun v => v.category).sum ≤ 8) (hcs : cells ≤ (gR_ G).cells ∧ slots ≤ (gR_ G).slots) (d : decode cc pc = .ok (.invokevirtual index, 3))
    (kk : ∀ (q_size' q_bytes' q_kind' : Nat → Int32), P q_size' q_bytes' q_kind' → go_ G cells slots (wM ad q_code q_many q_pin q_size' q_bytes' q_kind' q_bank q_address q_full q_linked q_packedBank q_packedAddress q_banks q_memory q_register q_stack q_place q_zero q_less q_half q_carry q_enabled q_soon q_ram q_low q_top q_mode q_state q_sent q_out) (pc + 3) lc (rest)) : go_ G cells slots (wM ad q_code q_many q_pin q_size q_bytes q_kind q_bank q_address q_full q_linked q_packedBank q_packedAddress q_banks q_memory q_register q_stack q_place q_zero q_less q_half q_carry q_enabled q_soon q_ram q_low q_top q_mode q_state q_sent q_out) pc lc (.int a2 :: .int a1 :: .ref (ad 30) :: rest) :=
  go_cvv X (c_Q_append hw) me_Q_append m1 hlv 0 rfl rfl rfl hrs hcs d (fun u hp => kk u.1 u.2.1 u.2.2 hp)
set_option maxRecDepth 100000 in
set_option maxHeartbeats 4000000 in
theorem c_Q_begin {l : Launch} {D : va_G} {ad : Nat → Nat} {q_code q_many : Int32} {q_pin q_size q_bytes q_kind q_bank q_address q_full : Nat → Int32} {q_linked : Int32} {q_packedBank q_packedAddress : Nat → Int32} {q_banks : Int32} {q_memory q_register : Nat → Int32} {q_stack q_place q_zero q_less q_half q_carry q_enabled q_soon q_ram q_low q_top q_mode q_state q_sent : Int32} {q_out : Nat → Int32}  {P : (Nat → Int32) → (Nat → Int32) → (Int32) → (Int32) → (Int32) → (Int32) → (Int32) → (Int32) → (Int32) → (Int32) → (Int32) → (Int32) → (Int32) → (Int32) → (Int32) → (Int32) → Prop} (hw : wp_Q_begin q_memory q_register q_stack q_place q_zero q_less q_half q_carry q_enabled q_soon q_ram q_low q_top q_mode q_state q_sent  P) : ct_ l yQ_begin bQ_begin 2 none 0 0 D ad [.ref (ad 30)] (wM ad q_code q_many q_pin q_size q_bytes q_kind q_bank q_address q_full q_linked q_packedBank q_packedAddress q_banks q_memory q_register q_stack q_place q_zero q_less q_half q_carry q_enabled q_soon q_ram q_low q_top q_mode q_state q_sent q_out) (qv_ D (fun (u : (Nat → Int32) × (Nat → Int32) × (Int32) × (Int32) × (Int32) × (Int32) × (Int32) × (Int32) × (Int32) × (Int32) × (Int32) × (Int32) × (Int32) × (Int32) × (Int32) × (Int32)) => P u.1 u.2.1 u.2.2.1 u.2.2.2.1 u.2.2.2.2.1 u.2.2.2.2.2.1 u.2.2.2.2.2.2.1 u.2.2.2.2.2.2.2.1 u.2.2.2.2.2.2.2.2.1 u.2.2.2.2.2.2.2.2.2.1 u.2.2.2.2.2.2.2.2.2.2.1 u.2.2.2.2.2.2.2.2.2.2.2.1 u.2.2.2.2.2.2.2.2.2.2.2.2.1 u.2.2.2.2.2.2.2.2.2.2.2.2.2.1 u.2.2.2.2.2.2.2.2.2.2.2.2.2.2.1 u.2.2.2.2.2.2.2.2.2.2.2.2.2.2.2) (fun u => wM ad q_code q_many q_pin q_size q_bytes q_kind q_bank q_address q_full q_linked q_packedBank q_packedAddress q_banks u.1 u.2.1 u.2.2.1 u.2.2.2.1 u.2.2.2.2.1 u.2.2.2.2.2.1 u.2.2.2.2.2.2.1 u.2.2.2.2.2.2.2.1 u.2.2.2.2.2.2.2.2.1 u.2.2.2.2.2.2.2.2.2.1 u.2.2.2.2.2.2.2.2.2.2.1 u.2.2.2.2.2.2.2.2.2.2.2.1 u.2.2.2.2.2.2.2.2.2.2.2.2.1 u.2.2.2.2.2.2.2.2.2.2.2.2.2.1 u.2.2.2.2.2.2.2.2.2.2.2.2.2.2.1 u.2.2.2.2.2.2.2.2.2.2.2.2.2.2.2 q_out)) := by
  refine ct_of RQ (by decide) rfl (Nat.le_of_ble_eq_true rfl) (fun G hl hD X hq => ?_)
  subst hl hD
  show go_ G 0 0 (wM ad q_code q_many q_pin q_size q_bytes q_kind q_bank q_address q_full q_linked q_packedBank q_packedAddress q_banks q_memory q_register q_stack q_place q_zero q_less q_half q_carry q_enabled q_soon q_ram q_low q_top q_mode q_state q_sent q_out) 0 [(0, .ref (ad 30))] []
  have C39 : ∀ (n9 : Nat) (q_memory q_register : Nat → Int32) (q_stack q_place q_zero q_less q_half q_carry q_enabled q_soon q_ram q_low q_top q_mode q_state q_sent x1 : Int32), wp_Q_begin_39 P n9 q_memory q_register q_stack q_place q_zero q_less q_half q_carry q_enabled q_soon q_ram q_low q_top q_mode q_state q_sent x1 → go_ G 0 0 (wM ad q_code q_many q_pin q_size q_bytes q_kind q_bank q_address q_full q_linked q_packedBank q_packedAddress q_banks q_memory q_register q_stack q_place q_zero q_less q_half q_carry q_enabled q_soon q_ram q_low q_top q_mode q_state q_sent q_out) 39 [(0, .ref (ad 30)), (1, .int x1)] [] := by
    intro n9
    induction n9 with
    | zero =>
      intro q_memory q_register q_stack q_place q_zero q_less q_half q_carry q_enabled q_soon q_ram q_low q_top q_mode q_state q_sent x1 hw
      exact False.elim hw
    | succ n9 ih =>
      intro q_memory q_register q_stack q_place q_zero q_less q_half q_carry q_enabled q_soon q_ram q_low q_top q_mode q_state q_sent x1 hw
      refine go_iload_n X 1 dQ_begin_39 rfl rfl ?_
      refine go_bipush X dQ_begin_40 kc_b8 ?_
      refine go_icmp_ge X dQ_begin_42 rfl (fun hc => ?_) (fun hc => ?_)
      · have hw := hw.1 hc
        refine go_aload_n X 0 dQ_begin_58 rfl rfl ?_
        refine go_sipush X dQ_begin_59 kc_s240 ?_
        refine pt_Q_53 X dQ_begin_62 ?_
        refine go_aload_n X 0 dQ_begin_65 rfl rfl ?_
        refine go_iconst X dQ_begin_66 kc_i0 ?_
        refine pt_Q_56 X dQ_begin_67 ?_
        refine go_aload_n X 0 dQ_begin_70 rfl rfl ?_
        refine go_iconst X dQ_begin_71 kc_i0 ?_
        refine pt_Q_59 X (Or.inl rfl) dQ_begin_72 ?_
        refine go_aload_n X 0 dQ_begin_75 rfl rfl ?_
        refine go_iconst X dQ_begin_76 kc_i0 ?_
        refine pt_Q_63 X (Or.inl rfl) dQ_begin_77 ?_
        refine go_aload_n X 0 dQ_begin_80 rfl rfl ?_
        refine go_iconst X dQ_begin_81 kc_i0 ?_
        refine pt_Q_66 X (Or.inl rfl) dQ_begin_82 ?_
        refine go_aload_n X 0 dQ_begin_85 rfl rfl ?_
        refine go_iconst X dQ_begin_86 kc_i0 ?_
        refine pt_Q_69 X (Or.inl rfl) dQ_begin_87 ?_
        refine go_aload_n X 0 dQ_begin_90 rfl rfl ?_
        refine go_iconst X dQ_begin_91 kc_i0 ?_
        refine pt_Q_72 X (Or.inl rfl) dQ_begin_92 ?_
        refine go_aload_n X 0 dQ_begin_95 rfl rfl ?_
        refine go_iconst X dQ_begin_96 kc_i0 ?_
        refine pt_Q_75 X (Or.inl rfl) dQ_begin_97 ?_
        refine go_aload_n X 0 dQ_begin_100 rfl rfl ?_
        refine go_iconst X dQ_begin_101 kc_i0 ?_
        refine pt_Q_78 X (Or.inl rfl) dQ_begin_102 ?_
        refine go_aload_n X 0 dQ_begin_105 rfl rfl ?_
        refine go_iconst X dQ_begin_106 kc_i1 ?_
        refine pt_Q_81 X dQ_begin_107 ?_
        refine go_aload_n X 0 dQ_begin_110 rfl rfl ?_
        refine go_iconst X dQ_begin_111 kc_i0 ?_
        refine pt_Q_84 X dQ_begin_112 ?_
        refine go_aload_n X 0 dQ_begin_115 rfl rfl ?_
        refine go_iconst X dQ_begin_116 kc_i0 ?_
        refine pt_Q_87 X dQ_begin_117 ?_
        refine go_aload_n X 0 dQ_begin_120 rfl rfl ?_
        refine go_iconst X dQ_begin_121 kc_i0 ?_
        refine pt_Q_90 X dQ_begin_122 ?_
        refine go_aload_n X 0 dQ_begin_125 rfl rfl ?_
        refine go_iconst X dQ_begin_126 kc_i0 ?_
        refine pt_Q_93 X dQ_begin_127 ?_
        exact go_vreturn X hq dQ_begin_130 (q_memory, q_register, (240 : Int32), (0 : Int32), (0 : Int32), (0 : Int32), (0 : Int32), (0 : Int32), (0 : Int32), (0 : Int32), (0 : Int32), (1 : Int32), (0 : Int32), (0 : Int32), (0 : Int32), (0 : Int32)) hw rfl
      · have hw := hw.2 hc
        refine go_aload_n X 0 dQ_begin_45 rfl rfl ?_
        refine gt_Q_40 X dQ_begin_46 ?_
        refine go_iload_n X 1 dQ_begin_49 rfl rfl ?_
        refine go_iconst X dQ_begin_50 kc_i0 ?_
        have hz := hw.1
        have hw := hw.2
        refine as_q_register X hz dQ_begin_51 ?_
        refine go_iinc X 1 dQ_begin_52 rfl (ki_1 _) (by decide) rfl ?_
        refine go_goto X dQ_begin_55 rfl ?_
        refine go_lc [1, 0] rfl ?_
        exact ih _ _ _ _ _ _ _ _ _ _ _ _ _ _ _ _ _ hw
  have C4 : ∀ (n9 : Nat) (q_memory q_register : Nat → Int32) (q_stack q_place q_zero q_less q_half q_carry q_enabled q_soon q_ram q_low q_top q_mode q_state q_sent x1 : Int32), wp_Q_begin_4 P n9 q_memory q_register q_stack q_place q_zero q_less q_half q_carry q_enabled q_soon q_ram q_low q_top q_mode q_state q_sent x1 → go_ G 0 0 (wM ad q_code q_many q_pin q_size q_bytes q_kind q_bank q_address q_full q_linked q_packedBank q_packedAddress q_banks q_memory q_register q_stack q_place q_zero q_less q_half q_carry q_enabled q_soon q_ram q_low q_top q_mode q_state q_sent q_out) 4 [(0, .ref (ad 30)), (1, .int x1)] [] := by
    intro n9
    induction n9 with
    | zero =>
      intro q_memory q_register q_stack q_place q_zero q_less q_half q_carry q_enabled q_soon q_ram q_low q_top q_mode q_state q_sent x1 hw
      exact False.elim hw
    | succ n9 ih =>
      intro q_memory q_register q_stack q_place q_zero q_less q_half q_carry q_enabled q_soon q_ram q_low q_top q_mode q_state q_sent x1 hw
      refine go_iload_n X 1 dQ_begin_4 rfl rfl ?_
      refine go_sipush X dQ_begin_5 kc_s705 ?_
      refine go_icmp_ge X dQ_begin_8 rfl (fun hc => ?_) (fun hc => ?_)
      · have hw := hw.1 hc
        refine go_iconst X dQ_begin_37 kc_i0 ?_
        refine go_istore_n X dQ_begin_38 rfl (by decide) rfl ?_
        refine go_lc [1, 0] rfl ?_
        obtain ⟨j9, hw⟩ := hw
        exact C39 j9 _ _ _ _ _ _ _ _ _ _ _ _ _ _ _ _ _ hw
      · have hw := hw.2 hc
        refine go_aload_n X 0 dQ_begin_11 rfl rfl ?_
        refine gt_Q_37 X dQ_begin_12 ?_
        refine go_iload_n X 1 dQ_begin_15 rfl rfl ?_
        refine go_iload_n X 1 dQ_begin_16 rfl rfl ?_
        refine go_sipush X dQ_begin_17 kc_s704 ?_
        refine go_icmp_ne X dQ_begin_20 rfl (fun hc => ?_) (fun hc => ?_)
        · have hw := hw.1 hc
          refine go_iconst X dQ_begin_29 kc_i0 ?_
          have hz := hw.1
          have hw := hw.2
          refine as_q_memory X hz dQ_begin_30 ?_
          refine go_iinc X 1 dQ_begin_31 rfl (ki_1 _) (by decide) rfl ?_
          refine go_goto X dQ_begin_34 rfl ?_
          refine go_lc [1, 0] rfl ?_
          exact ih _ _ _ _ _ _ _ _ _ _ _ _ _ _ _ _ _ hw
        · have hw := hw.2 hc
          refine go_sipush X dQ_begin_23 kc_s255 ?_
          refine go_goto X dQ_begin_26 rfl ?_
          have hz := hw.1
          have hw := hw.2
          refine as_q_memory X hz dQ_begin_30 ?_
          refine go_iinc X 1 dQ_begin_31 rfl (ki_1 _) (by decide) rfl ?_
          refine go_goto X dQ_begin_34 rfl ?_
          refine go_lc [1, 0] rfl ?_
          exact ih _ _ _ _ _ _ _ _ _ _ _ _ _ _ _ _ _ hw
  refine go_sipush X dQ_begin_0 kc_s512 ?_
  refine go_istore_n X dQ_begin_3 rfl (by decide) rfl ?_
  refine go_lc [1, 0] rfl ?_
  obtain ⟨j9, hw⟩ := hw
  exact C4 j9 _ _ _ _ _ _ _ _ _ _ _ _ _ _ _ _ _ hw
theorem k_Q_begin {G : gt_} {ad : Nat → Nat} {cc : ByteArray} {own : String} {fr lo n cells slots pc index : Nat} {lc : List (Nat × Value)} {rest : List Value} {q_code q_many : Int32} {q_pin q_size q_bytes q_kind q_bank q_address q_full : Nat → Int32} {q_linked : Int32} {q_packedBank q_packedAddress : Nat → Int32} {q_banks : Int32} {q_memory q_register : Nat → Int32} {q_stack q_place q_zero q_less q_half q_carry q_enabled q_soon q_ram q_low q_top q_mode q_state q_sent : Int32} {q_out : Nat → Int32}  {P : (Nat → Int32) → (Nat → Int32) → (Int32) → (Int32) → (Int32) → (Int32) → (Int32) → (Int32) → (Int32) → (Int32) → (Int32) → (Int32) → (Int32) → (Int32) → (Int32) → (Int32) → Prop} (X : cx_ G ad cc own fr lo n) (hw : wp_Q_begin q_memory q_register q_stack q_place q_zero q_less q_half q_carry q_enabled q_soon q_ram q_low q_top q_mode q_state q_sent  P) (m1 : Cond.methodLink own index yQ_begin ∈ wS) (hlv : 0 + 1 ≤ fr ∧ 8 + (2 + 11) + 0 ≤ lo) (hrs : (rest.map fun v => v.category).sum ≤ 8) (hcs : cells ≤ (gR_ G).cells ∧ slots ≤ (gR_ G).slots) (d : decode cc pc = .ok (.invokevirtual index, 3))
    (kk : ∀ (q_memory' q_register' : Nat → Int32) (q_stack' q_place' q_zero' q_less' q_half' q_carry' q_enabled' q_soon' q_ram' q_low' q_top' q_mode' q_state' q_sent' : Int32), P q_memory' q_register' q_stack' q_place' q_zero' q_less' q_half' q_carry' q_enabled' q_soon' q_ram' q_low' q_top' q_mode' q_state' q_sent' → go_ G cells slots (wM ad q_code q_many q_pin q_size q_bytes q_kind q_bank q_address q_full q_linked q_packedBank q_packedAddress q_banks q_memory' q_register' q_stack' q_place' q_zero' q_less' q_half' q_carry' q_enabled' q_soon' q_ram' q_low' q_top' q_mode' q_state' q_sent' q_out) (pc + 3) lc (rest)) : go_ G cells slots (wM ad q_code q_many q_pin q_size q_bytes q_kind q_bank q_address q_full q_linked q_packedBank q_packedAddress q_banks q_memory q_register q_stack q_place q_zero q_less q_half q_carry q_enabled q_soon q_ram q_low q_top q_mode q_state q_sent q_out) pc lc (.ref (ad 30) :: rest) :=
  go_cvv X (c_Q_begin hw) me_Q_begin m1 hlv 0 rfl rfl rfl hrs hcs d (fun u hp => kk u.1 u.2.1 u.2.2.1 u.2.2.2.1 u.2.2.2.2.1 u.2.2.2.2.2.1 u.2.2.2.2.2.2.1 u.2.2.2.2.2.2.2.1 u.2.2.2.2.2.2.2.2.1 u.2.2.2.2.2.2.2.2.2.1 u.2.2.2.2.2.2.2.2.2.2.1 u.2.2.2.2.2.2.2.2.2.2.2.1 u.2.2.2.2.2.2.2.2.2.2.2.2.1 u.2.2.2.2.2.2.2.2.2.2.2.2.2.1 u.2.2.2.2.2.2.2.2.2.2.2.2.2.2.1 u.2.2.2.2.2.2.2.2.2.2.2.2.2.2.2 hp)
set_option maxRecDepth 100000 in
set_option maxHeartbeats 4000000 in
theorem c_Q_clear {l : Launch} {D : va_G} {ad : Nat → Nat} {q_code q_many : Int32} {q_pin q_size q_bytes q_kind q_bank q_address q_full : Nat → Int32} {q_linked : Int32} {q_packedBank q_packedAddress : Nat → Int32} {q_banks : Int32} {q_memory q_register : Nat → Int32} {q_stack q_place q_zero q_less q_half q_carry q_enabled q_soon q_ram q_low q_top q_mode q_state q_sent : Int32} {q_out : Nat → Int32}  {P : (Int32) → (Int32) → Prop} (hw : wp_Q_clear q_code q_many  P) : ct_ l yQ_clear bQ_clear 1 none 0 0 D ad [.ref (ad 30)] (wM ad q_code q_many q_pin q_size q_bytes q_kind q_bank q_address q_full q_linked q_packedBank q_packedAddress q_banks q_memory q_register q_stack q_place q_zero q_less q_half q_carry q_enabled q_soon q_ram q_low q_top q_mode q_state q_sent q_out) (qv_ D (fun (u : (Int32) × (Int32)) => P u.1 u.2) (fun u => wM ad u.1 u.2 q_pin q_size q_bytes q_kind q_bank q_address q_full q_linked q_packedBank q_packedAddress q_banks q_memory q_register q_stack q_place q_zero q_less q_half q_carry q_enabled q_soon q_ram q_low q_top q_mode q_state q_sent q_out)) := by
  refine ct_of RQ (by decide) rfl (Nat.le_of_ble_eq_true rfl) (fun G hl hD X hq => ?_)
  subst hl hD
  show go_ G 0 0 (wM ad q_code q_many q_pin q_size q_bytes q_kind q_bank q_address q_full q_linked q_packedBank q_packedAddress q_banks q_memory q_register q_stack q_place q_zero q_less q_half q_carry q_enabled q_soon q_ram q_low q_top q_mode q_state q_sent q_out) 0 [(0, .ref (ad 30))] []
  refine go_aload_n X 0 dQ_clear_0 rfl rfl ?_
  refine go_iconst X dQ_clear_1 kc_i0 ?_
  refine pt_Q_49 X dQ_clear_2 ?_
  refine go_aload_n X 0 dQ_clear_5 rfl rfl ?_
  refine go_iconst X dQ_clear_6 kc_i0 ?_
  refine pt_Q_100 X dQ_clear_7 ?_
  exact go_vreturn X hq dQ_clear_10 ((0 : Int32), (0 : Int32)) hw rfl
theorem k_Q_clear {G : gt_} {ad : Nat → Nat} {cc : ByteArray} {own : String} {fr lo n cells slots pc index : Nat} {lc : List (Nat × Value)} {rest : List Value} {q_code q_many : Int32} {q_pin q_size q_bytes q_kind q_bank q_address q_full : Nat → Int32} {q_linked : Int32} {q_packedBank q_packedAddress : Nat → Int32} {q_banks : Int32} {q_memory q_register : Nat → Int32} {q_stack q_place q_zero q_less q_half q_carry q_enabled q_soon q_ram q_low q_top q_mode q_state q_sent : Int32} {q_out : Nat → Int32}  {P : (Int32) → (Int32) → Prop} (X : cx_ G ad cc own fr lo n) (hw : wp_Q_clear q_code q_many  P) (m1 : Cond.methodLink own index yQ_clear ∈ wS) (hlv : 0 + 1 ≤ fr ∧ 8 + (1 + 11) + 0 ≤ lo) (hrs : (rest.map fun v => v.category).sum ≤ 8) (hcs : cells ≤ (gR_ G).cells ∧ slots ≤ (gR_ G).slots) (d : decode cc pc = .ok (.invokevirtual index, 3))
    (kk : ∀ (q_code' q_many' : Int32), P q_code' q_many' → go_ G cells slots (wM ad q_code' q_many' q_pin q_size q_bytes q_kind q_bank q_address q_full q_linked q_packedBank q_packedAddress q_banks q_memory q_register q_stack q_place q_zero q_less q_half q_carry q_enabled q_soon q_ram q_low q_top q_mode q_state q_sent q_out) (pc + 3) lc (rest)) : go_ G cells slots (wM ad q_code q_many q_pin q_size q_bytes q_kind q_bank q_address q_full q_linked q_packedBank q_packedAddress q_banks q_memory q_register q_stack q_place q_zero q_less q_half q_carry q_enabled q_soon q_ram q_low q_top q_mode q_state q_sent q_out) pc lc (.ref (ad 30) :: rest) :=
  go_cvv X (c_Q_clear hw) me_Q_clear m1 hlv 0 rfl rfl rfl hrs hcs d (fun u hp => kk u.1 u.2 hp)
set_option maxRecDepth 100000 in
set_option maxHeartbeats 4000000 in
theorem c_Q_headCheck {l : Launch} {D : va_G} {ad : Nat → Nat} {q_code q_many : Int32} {q_pin q_size q_bytes q_kind q_bank q_address q_full : Nat → Int32} {q_linked : Int32} {q_packedBank q_packedAddress : Nat → Int32} {q_banks : Int32} {q_memory q_register : Nat → Int32} {q_stack q_place q_zero q_less q_half q_carry q_enabled q_soon q_ram q_low q_top q_mode q_state q_sent : Int32} {q_out : Nat → Int32}  {P : Int32 → Prop} (hw : wp_Q_headCheck q_memory  P) : ct_ l yQ_headCheck bQ_headCheck 3 (some .int) 0 0 D ad [.ref (ad 30)] (wM ad q_code q_many q_pin q_size q_bytes q_kind q_bank q_address q_full q_linked q_packedBank q_packedAddress q_banks q_memory q_register q_stack q_place q_zero q_less q_half q_carry q_enabled q_soon q_ram q_low q_top q_mode q_state q_sent q_out) (qi_ D (fun (r : Int32) (_ : Unit) => P r ) (fun _ => (wM ad q_code q_many q_pin q_size q_bytes q_kind q_bank q_address q_full q_linked q_packedBank q_packedAddress q_banks q_memory q_register q_stack q_place q_zero q_less q_half q_carry q_enabled q_soon q_ram q_low q_top q_mode q_state q_sent q_out))) := by
  refine ct_of RQ (by decide) rfl (Nat.le_of_ble_eq_true rfl) (fun G hl hD X hq => ?_)
  subst hl hD
  show go_ G 0 0 (wM ad q_code q_many q_pin q_size q_bytes q_kind q_bank q_address q_full q_linked q_packedBank q_packedAddress q_banks q_memory q_register q_stack q_place q_zero q_less q_half q_carry q_enabled q_soon q_ram q_low q_top q_mode q_state q_sent q_out) 0 [(0, .ref (ad 30))] []
  have C4 : ∀ (n9 : Nat) (x1 x2 : Int32), wp_Q_headCheck_4 q_memory P n9 x1 x2 → go_ G 0 0 (wM ad q_code q_many q_pin q_size q_bytes q_kind q_bank q_address q_full q_linked q_packedBank q_packedAddress q_banks q_memory q_register q_stack q_place q_zero q_less q_half q_carry q_enabled q_soon q_ram q_low q_top q_mode q_state q_sent q_out) 4 [(0, .ref (ad 30)), (1, .int x1), (2, .int x2)] [] := by
    intro n9
    induction n9 with
    | zero =>
      intro x1 x2 hw
      exact False.elim hw
    | succ n9 ih =>
      intro x1 x2 hw
      refine go_iload_n X 2 dQ_headCheck_4 rfl rfl ?_
      refine go_bipush X dQ_headCheck_5 kc_b13 ?_
      refine go_icmp_ge X dQ_headCheck_7 rfl (fun hc => ?_) (fun hc => ?_)
      · have hw := hw.1 hc
        refine go_iload_n X 1 dQ_headCheck_27 rfl rfl ?_
        refine go_ineg X dQ_headCheck_28 ?_
        refine go_sipush X dQ_headCheck_29 kc_s255 ?_
        refine go_iand X dQ_headCheck_32 ?_
        exact go_ireturn X hq dQ_headCheck_33 () hw rfl
      · have hw := hw.2 hc
        refine go_iload_n X 1 dQ_headCheck_10 rfl rfl ?_
        refine go_aload_n X 0 dQ_headCheck_11 rfl rfl ?_
        refine gt_Q_37 X dQ_headCheck_12 ?_
        refine go_iload_n X 2 dQ_headCheck_15 rfl rfl ?_
        have hz := hw.1
        have hw := hw.2
        refine ar_q_memory X hz dQ_headCheck_16 ?_
        refine go_iconst X dQ_headCheck_17 kc_i1 ?_
        refine go_iadd X dQ_headCheck_18 ?_
        refine go_iadd X dQ_headCheck_19 ?_
        refine go_nm (fun z1 ez1 => ?_)
        have hw := hw z1 ez1
        refine go_istore_n X dQ_headCheck_20 rfl (by decide) rfl ?_
        refine go_iinc X 2 dQ_headCheck_21 rfl (ki_1 _) (by decide) rfl ?_
        refine go_goto X dQ_headCheck_24 rfl ?_
        refine go_lc [2, 1, 0] rfl ?_
        exact ih _ _ hw
  refine go_iconst X dQ_headCheck_0 kc_i0 ?_
  refine go_istore_n X dQ_headCheck_1 rfl (by decide) rfl ?_
  refine go_iconst X dQ_headCheck_2 kc_i2 ?_
  refine go_istore_n X dQ_headCheck_3 rfl (by decide) rfl ?_
  refine go_lc [2, 1, 0] rfl ?_
  obtain ⟨j9, hw⟩ := hw
  exact C4 j9 _ _ hw
theorem k_Q_headCheck {G : gt_} {ad : Nat → Nat} {cc : ByteArray} {own : String} {fr lo n cells slots pc index : Nat} {lc : List (Nat × Value)} {rest : List Value} {q_code q_many : Int32} {q_pin q_size q_bytes q_kind q_bank q_address q_full : Nat → Int32} {q_linked : Int32} {q_packedBank q_packedAddress : Nat → Int32} {q_banks : Int32} {q_memory q_register : Nat → Int32} {q_stack q_place q_zero q_less q_half q_carry q_enabled q_soon q_ram q_low q_top q_mode q_state q_sent : Int32} {q_out : Nat → Int32}  {P : Int32 → Prop} (X : cx_ G ad cc own fr lo n) (hw : wp_Q_headCheck q_memory  P) (m1 : Cond.methodLink own index yQ_headCheck ∈ wS) (hlv : 0 + 1 ≤ fr ∧ 8 + (3 + 11) + 0 ≤ lo) (hrs : (rest.map fun v => v.category).sum ≤ 8) (hcs : cells ≤ (gR_ G).cells ∧ slots ≤ (gR_ G).slots) (d : decode cc pc = .ok (.invokevirtual index, 3))
    (kk : ∀ (r : Int32), P r → go_ G cells slots (wM ad q_code q_many q_pin q_size q_bytes q_kind q_bank q_address q_full q_linked q_packedBank q_packedAddress q_banks q_memory q_register q_stack q_place q_zero q_less q_half q_carry q_enabled q_soon q_ram q_low q_top q_mode q_state q_sent q_out) (pc + 3) lc (.int r :: rest)) : go_ G cells slots (wM ad q_code q_many q_pin q_size q_bytes q_kind q_bank q_address q_full q_linked q_packedBank q_packedAddress q_banks q_memory q_register q_stack q_place q_zero q_less q_half q_carry q_enabled q_soon q_ram q_low q_top q_mode q_state q_sent q_out) pc lc (.ref (ad 30) :: rest) :=
  go_cvi X (c_Q_headCheck hw) me_Q_headCheck m1 hlv 0 rfl rfl rfl hrs hcs d (fun r _ hp => kk r  hp)
set_option maxRecDepth 100000 in
set_option maxHeartbeats 4000000 in
theorem c_Q_holds {l : Launch} {D : va_G} {ad : Nat → Nat} {q_code q_many : Int32} {q_pin q_size q_bytes q_kind q_bank q_address q_full : Nat → Int32} {q_linked : Int32} {q_packedBank q_packedAddress : Nat → Int32} {q_banks : Int32} {q_memory q_register : Nat → Int32} {q_stack q_place q_zero q_less q_half q_carry q_enabled q_soon q_ram q_low q_top q_mode q_state q_sent : Int32} {q_out : Nat → Int32} {a1 : Int32} {P : Int32 → Prop} (hw : wp_Q_holds q_zero q_carry a1 P) : ct_ l yQ_holds bQ_holds 2 (some .boolean) 0 0 D ad [.ref (ad 30), .int a1] (wM ad q_code q_many q_pin q_size q_bytes q_kind q_bank q_address q_full q_linked q_packedBank q_packedAddress q_banks q_memory q_register q_stack q_place q_zero q_less q_half q_carry q_enabled q_soon q_ram q_low q_top q_mode q_state q_sent q_out) (qi_ D (fun (r : Int32) (_ : Unit) => P r ) (fun _ => (wM ad q_code q_many q_pin q_size q_bytes q_kind q_bank q_address q_full q_linked q_packedBank q_packedAddress q_banks q_memory q_register q_stack q_place q_zero q_less q_half q_carry q_enabled q_soon q_ram q_low q_top q_mode q_state q_sent q_out))) := by
  refine ct_of RQ (by decide) rfl (Nat.le_of_ble_eq_true rfl) (fun G hl hD X hq => ?_)
  subst hl hD
  show go_ G 0 0 (wM ad q_code q_many q_pin q_size q_bytes q_kind q_bank q_address q_full q_linked q_packedBank q_packedAddress q_banks q_memory q_register q_stack q_place q_zero q_less q_half q_carry q_enabled q_soon q_ram q_low q_top q_mode q_state q_sent q_out) 0 [(0, .ref (ad 30)), (1, .int a1)] []
  have C28 : ∀ (x1 : Int32), wp_Q_holds_28 q_zero q_carry P x1 → go_ G 0 0 (wM ad q_code q_many q_pin q_size q_bytes q_kind q_bank q_address q_full q_linked q_packedBank q_packedAddress q_banks q_memory q_register q_stack q_place q_zero q_less q_half q_carry q_enabled q_soon q_ram q_low q_top q_mode q_state q_sent q_out) 28 [(0, .ref (ad 30)), (1, .int x1)] [] := by
    intro x1 hw
    refine go_iload_n X 1 dQ_holds_28 rfl rfl ?_
    refine go_iconst X dQ_holds_29 kc_i3 ?_
    refine go_icmp_ne X dQ_holds_30 rfl (fun hc => ?_) (fun hc => ?_)
    · have hw := hw.1 hc
      refine go_iload_n X 1 dQ_holds_40 rfl rfl ?_
      refine go_iconst X dQ_holds_41 kc_i4 ?_
      refine go_icmp_ne X dQ_holds_42 rfl (fun hc => ?_) (fun hc => ?_)
      · have hw := hw.1 hc
        refine go_iconst X dQ_holds_56 kc_i0 ?_
        exact go_zreturn X hq dQ_holds_57 (Or.inl rfl) () hw rfl
      · have hw := hw.2 hc
        refine go_aload_n X 0 dQ_holds_45 rfl rfl ?_
        refine gt_Q_69 X dQ_holds_46 ?_
        refine go_if_eq X dQ_holds_49 rfl (fun hc => ?_) (fun hc => ?_)
        · have hw := hw.1 hc
          refine go_iconst X dQ_holds_56 kc_i0 ?_
          exact go_zreturn X hq dQ_holds_57 (Or.inl rfl) () hw rfl
        · have hw := hw.2 hc
          refine go_iconst X dQ_holds_52 kc_i1 ?_
          refine go_goto X dQ_holds_53 rfl ?_
          exact go_zreturn X hq dQ_holds_57 (Or.inr rfl) () hw rfl
    · have hw := hw.2 hc
      refine go_aload_n X 0 dQ_holds_33 rfl rfl ?_
      refine gt_Q_69 X dQ_holds_34 ?_
      refine go_if_eq X dQ_holds_37 rfl (fun hc => ?_) (fun hc => ?_)
      · have hw := hw.1 hc
        refine go_iconst X dQ_holds_52 kc_i1 ?_
        refine go_goto X dQ_holds_53 rfl ?_
        exact go_zreturn X hq dQ_holds_57 (Or.inr rfl) () hw rfl
      · have hw := hw.2 hc
        refine go_iload_n X 1 dQ_holds_40 rfl rfl ?_
        refine go_iconst X dQ_holds_41 kc_i4 ?_
        refine go_icmp_ne X dQ_holds_42 rfl (fun hc => ?_) (fun hc => ?_)
        · have hw := hw.1 hc
          refine go_iconst X dQ_holds_56 kc_i0 ?_
          exact go_zreturn X hq dQ_holds_57 (Or.inl rfl) () hw rfl
        · have hw := hw.2 hc
          refine go_aload_n X 0 dQ_holds_45 rfl rfl ?_
          refine gt_Q_69 X dQ_holds_46 ?_
          refine go_if_eq X dQ_holds_49 rfl (fun hc => ?_) (fun hc => ?_)
          · have hw := hw.1 hc
            refine go_iconst X dQ_holds_56 kc_i0 ?_
            exact go_zreturn X hq dQ_holds_57 (Or.inl rfl) () hw rfl
          · have hw := hw.2 hc
            refine go_iconst X dQ_holds_52 kc_i1 ?_
            refine go_goto X dQ_holds_53 rfl ?_
            exact go_zreturn X hq dQ_holds_57 (Or.inr rfl) () hw rfl
  refine go_iload_n X 1 dQ_holds_0 rfl rfl ?_
  refine go_if_eq X dQ_holds_1 rfl (fun hc => ?_) (fun hc => ?_)
  · have hw := hw.1 hc
    refine go_iconst X dQ_holds_52 kc_i1 ?_
    refine go_goto X dQ_holds_53 rfl ?_
    exact go_zreturn X hq dQ_holds_57 (Or.inr rfl) () hw rfl
  · have hw := hw.2 hc
    refine go_iload_n X 1 dQ_holds_4 rfl rfl ?_
    refine go_iconst X dQ_holds_5 kc_i1 ?_
    refine go_icmp_ne X dQ_holds_6 rfl (fun hc => ?_) (fun hc => ?_)
    · have hw := hw.1 hc
      refine go_iload_n X 1 dQ_holds_16 rfl rfl ?_
      refine go_iconst X dQ_holds_17 kc_i2 ?_
      refine go_icmp_ne X dQ_holds_18 rfl (fun hc => ?_) (fun hc => ?_)
      · have hw := hw.1 hc
        exact C28 _ hw
      · have hw := hw.2 hc
        refine go_aload_n X 0 dQ_holds_21 rfl rfl ?_
        refine gt_Q_59 X dQ_holds_22 ?_
        refine go_if_ne X dQ_holds_25 rfl (fun hc => ?_) (fun hc => ?_)
        · have hw := hw.1 hc
          refine go_iconst X dQ_holds_52 kc_i1 ?_
          refine go_goto X dQ_holds_53 rfl ?_
          exact go_zreturn X hq dQ_holds_57 (Or.inr rfl) () hw rfl
        · have hw := hw.2 hc
          exact C28 _ hw
    · have hw := hw.2 hc
      refine go_aload_n X 0 dQ_holds_9 rfl rfl ?_
      refine gt_Q_59 X dQ_holds_10 ?_
      refine go_if_eq X dQ_holds_13 rfl (fun hc => ?_) (fun hc => ?_)
      · have hw := hw.1 hc
        refine go_iconst X dQ_holds_52 kc_i1 ?_
        refine go_goto X dQ_holds_53 rfl ?_
        exact go_zreturn X hq dQ_holds_57 (Or.inr rfl) () hw rfl
      · have hw := hw.2 hc
        refine go_iload_n X 1 dQ_holds_16 rfl rfl ?_
        refine go_iconst X dQ_holds_17 kc_i2 ?_
        refine go_icmp_ne X dQ_holds_18 rfl (fun hc => ?_) (fun hc => ?_)
        · have hw := hw.1 hc
          exact C28 _ hw
        · have hw := hw.2 hc
          refine go_aload_n X 0 dQ_holds_21 rfl rfl ?_
          refine gt_Q_59 X dQ_holds_22 ?_
          refine go_if_ne X dQ_holds_25 rfl (fun hc => ?_) (fun hc => ?_)
          · have hw := hw.1 hc
            refine go_iconst X dQ_holds_52 kc_i1 ?_
            refine go_goto X dQ_holds_53 rfl ?_
            exact go_zreturn X hq dQ_holds_57 (Or.inr rfl) () hw rfl
          · have hw := hw.2 hc
            exact C28 _ hw
theorem k_Q_holds {G : gt_} {ad : Nat → Nat} {cc : ByteArray} {own : String} {fr lo n cells slots pc index : Nat} {lc : List (Nat × Value)} {rest : List Value} {q_code q_many : Int32} {q_pin q_size q_bytes q_kind q_bank q_address q_full : Nat → Int32} {q_linked : Int32} {q_packedBank q_packedAddress : Nat → Int32} {q_banks : Int32} {q_memory q_register : Nat → Int32} {q_stack q_place q_zero q_less q_half q_carry q_enabled q_soon q_ram q_low q_top q_mode q_state q_sent : Int32} {q_out : Nat → Int32} {a1 : Int32} {P : Int32 → Prop} (X : cx_ G ad cc own fr lo n) (hw : wp_Q_holds q_zero q_carry a1 P) (m1 : Cond.methodLink own index yQ_holds ∈ wS) (hlv : 0 + 1 ≤ fr ∧ 8 + (2 + 11) + 0 ≤ lo) (hrs : (rest.map fun v => v.category).sum ≤ 8) (hcs : cells ≤ (gR_ G).cells ∧ slots ≤ (gR_ G).slots) (d : decode cc pc = .ok (.invokevirtual index, 3))
    (kk : ∀ (r : Int32), P r → go_ G cells slots (wM ad q_code q_many q_pin q_size q_bytes q_kind q_bank q_address q_full q_linked q_packedBank q_packedAddress q_banks q_memory q_register q_stack q_place q_zero q_less q_half q_carry q_enabled q_soon q_ram q_low q_top q_mode q_state q_sent q_out) (pc + 3) lc (.int r :: rest)) : go_ G cells slots (wM ad q_code q_many q_pin q_size q_bytes q_kind q_bank q_address q_full q_linked q_packedBank q_packedAddress q_banks q_memory q_register q_stack q_place q_zero q_less q_half q_carry q_enabled q_soon q_ram q_low q_top q_mode q_state q_sent q_out) pc lc (.int a1 :: .ref (ad 30) :: rest) :=
  go_cvi X (c_Q_holds hw) me_Q_holds m1 hlv 0 rfl rfl rfl hrs hcs d (fun r _ hp => kk r  hp)
set_option maxRecDepth 100000 in
set_option maxHeartbeats 4000000 in
theorem c_Q_imageCheck {l : Launch} {D : va_G} {ad : Nat → Nat} {q_code q_many : Int32} {q_pin q_size q_bytes q_kind q_bank q_address q_full : Nat → Int32} {q_linked : Int32} {q_packedBank q_packedAddress : Nat → Int32} {q_banks : Int32} {q_memory q_register : Nat → Int32} {q_stack q_place q_zero q_less q_half q_carry q_enabled q_soon q_ram q_low q_top q_mode q_state q_sent : Int32} {q_out : Nat → Int32}  {P : Int32 → Prop} (hw : wp_Q_imageCheck q_banks q_memory  P) : ct_ l yQ_imageCheck bQ_imageCheck 3 (some .int) 0 0 D ad [.ref (ad 30)] (wM ad q_code q_many q_pin q_size q_bytes q_kind q_bank q_address q_full q_linked q_packedBank q_packedAddress q_banks q_memory q_register q_stack q_place q_zero q_less q_half q_carry q_enabled q_soon q_ram q_low q_top q_mode q_state q_sent q_out) (qi_ D (fun (r : Int32) (_ : Unit) => P r ) (fun _ => (wM ad q_code q_many q_pin q_size q_bytes q_kind q_bank q_address q_full q_linked q_packedBank q_packedAddress q_banks q_memory q_register q_stack q_place q_zero q_less q_half q_carry q_enabled q_soon q_ram q_low q_top q_mode q_state q_sent q_out))) := by
  refine ct_of RQ (by decide) rfl (Nat.le_of_ble_eq_true rfl) (fun G hl hD X hq => ?_)
  subst hl hD
  show go_ G 0 0 (wM ad q_code q_many q_pin q_size q_bytes q_kind q_bank q_address q_full q_linked q_packedBank q_packedAddress q_banks q_memory q_register q_stack q_place q_zero q_less q_half q_carry q_enabled q_soon q_ram q_low q_top q_mode q_state q_sent q_out) 0 [(0, .ref (ad 30))] []
  have C19 : ∀ (n9 : Nat) (x1 x2 : Int32), wp_Q_imageCheck_19 q_banks q_memory P n9 x1 x2 → go_ G 0 0 (wM ad q_code q_many q_pin q_size q_bytes q_kind q_bank q_address q_full q_linked q_packedBank q_packedAddress q_banks q_memory q_register q_stack q_place q_zero q_less q_half q_carry q_enabled q_soon q_ram q_low q_top q_mode q_state q_sent q_out) 19 [(0, .ref (ad 30)), (1, .int x1), (2, .int x2)] [] := by
    intro n9
    induction n9 with
    | zero =>
      intro x1 x2 hw
      exact False.elim hw
    | succ n9 ih =>
      intro x1 x2 hw
      refine go_iload_n X 2 dQ_imageCheck_19 rfl rfl ?_
      refine go_bipush X dQ_imageCheck_20 kc_b64 ?_
      refine go_aload_n X 0 dQ_imageCheck_22 rfl rfl ?_
      refine gt_Q_114 X dQ_imageCheck_23 ?_
      refine go_imul X dQ_imageCheck_26 ?_
      refine go_icmp_ge X dQ_imageCheck_27 rfl (fun hc => ?_) (fun hc => ?_)
      · have hw := hw.1 hc
        refine go_iload_n X 1 dQ_imageCheck_45 rfl rfl ?_
        refine go_ldc X mw_Q_117 dQ_imageCheck_46 ?_
        refine go_iand X dQ_imageCheck_48 ?_
        exact go_ireturn X hq dQ_imageCheck_49 () hw rfl
      · have hw := hw.2 hc
        refine go_iload_n X 1 dQ_imageCheck_30 rfl rfl ?_
        refine go_aload_n X 0 dQ_imageCheck_31 rfl rfl ?_
        refine gt_Q_37 X dQ_imageCheck_32 ?_
        refine go_iload_n X 2 dQ_imageCheck_35 rfl rfl ?_
        have hz := hw.1
        have hw := hw.2
        refine ar_q_memory X hz dQ_imageCheck_36 ?_
        refine go_iadd X dQ_imageCheck_37 ?_
        refine go_nm (fun z2 ez2 => ?_)
        have hw := hw z2 ez2
        refine go_istore_n X dQ_imageCheck_38 rfl (by decide) rfl ?_
        refine go_iinc X 2 dQ_imageCheck_39 rfl (ki_1 _) (by decide) rfl ?_
        refine go_goto X dQ_imageCheck_42 rfl ?_
        refine go_lc [2, 1, 0] rfl ?_
        exact ih _ _ hw
  refine go_aload_n X 0 dQ_imageCheck_0 rfl rfl ?_
  refine gt_Q_37 X dQ_imageCheck_1 ?_
  refine go_bipush X dQ_imageCheck_4 kc_b14 ?_
  refine ar_q_memory X vi_14_705 dQ_imageCheck_6 ?_
  refine go_ineg X dQ_imageCheck_7 ?_
  refine go_aload_n X 0 dQ_imageCheck_8 rfl rfl ?_
  refine gt_Q_37 X dQ_imageCheck_9 ?_
  refine go_bipush X dQ_imageCheck_12 kc_b15 ?_
  refine ar_q_memory X vi_15_705 dQ_imageCheck_14 ?_
  refine go_isub X dQ_imageCheck_15 ?_
  refine go_nm (fun z1 ez1 => ?_)
  have hw := hw z1 ez1
  refine go_istore_n X dQ_imageCheck_16 rfl (by decide) rfl ?_
  refine go_iconst X dQ_imageCheck_17 kc_i0 ?_
  refine go_istore_n X dQ_imageCheck_18 rfl (by decide) rfl ?_
  refine go_lc [2, 1, 0] rfl ?_
  obtain ⟨j9, hw⟩ := hw
  exact C19 j9 _ _ hw
theorem k_Q_imageCheck {G : gt_} {ad : Nat → Nat} {cc : ByteArray} {own : String} {fr lo n cells slots pc index : Nat} {lc : List (Nat × Value)} {rest : List Value} {q_code q_many : Int32} {q_pin q_size q_bytes q_kind q_bank q_address q_full : Nat → Int32} {q_linked : Int32} {q_packedBank q_packedAddress : Nat → Int32} {q_banks : Int32} {q_memory q_register : Nat → Int32} {q_stack q_place q_zero q_less q_half q_carry q_enabled q_soon q_ram q_low q_top q_mode q_state q_sent : Int32} {q_out : Nat → Int32}  {P : Int32 → Prop} (X : cx_ G ad cc own fr lo n) (hw : wp_Q_imageCheck q_banks q_memory  P) (m1 : Cond.methodLink own index yQ_imageCheck ∈ wS) (hlv : 0 + 1 ≤ fr ∧ 8 + (3 + 11) + 0 ≤ lo) (hrs : (rest.map fun v => v.category).sum ≤ 8) (hcs : cells ≤ (gR_ G).cells ∧ slots ≤ (gR_ G).slots) (d : decode cc pc = .ok (.invokevirtual index, 3))
    (kk : ∀ (r : Int32), P r → go_ G cells slots (wM ad q_code q_many q_pin q_size q_bytes q_kind q_bank q_address q_full q_linked q_packedBank q_packedAddress q_banks q_memory q_register q_stack q_place q_zero q_less q_half q_carry q_enabled q_soon q_ram q_low q_top q_mode q_state q_sent q_out) (pc + 3) lc (.int r :: rest)) : go_ G cells slots (wM ad q_code q_many q_pin q_size q_bytes q_kind q_bank q_address q_full q_linked q_packedBank q_packedAddress q_banks q_memory q_register q_stack q_place q_zero q_less q_half q_carry q_enabled q_soon q_ram q_low q_top q_mode q_state q_sent q_out) pc lc (.ref (ad 30) :: rest) :=
  go_cvi X (c_Q_imageCheck hw) me_Q_imageCheck m1 hlv 0 rfl rfl rfl hrs hcs d (fun r _ hp => kk r  hp)
set_option maxRecDepth 100000 in
set_option maxHeartbeats 4000000 in
theorem c_Q_mark {l : Launch} {D : va_G} {ad : Nat → Nat} {q_code q_many : Int32} {q_pin q_size q_bytes q_kind q_bank q_address q_full : Nat → Int32} {q_linked : Int32} {q_packedBank q_packedAddress : Nat → Int32} {q_banks : Int32} {q_memory q_register : Nat → Int32} {q_stack q_place q_zero q_less q_half q_carry q_enabled q_soon q_ram q_low q_top q_mode q_state q_sent : Int32} {q_out : Nat → Int32} {a1 : Int32} {P : Int32 → Prop} (hw : wp_Q_mark q_banks a1 P) : ct_ l yQ_mark bQ_mark 2 (some .int) 0 0 D ad [.ref (ad 30), .int a1] (wM ad q_code q_many q_pin q_size q_bytes q_kind q_bank q_address q_full q_linked q_packedBank q_packedAddress q_banks q_memory q_register q_stack q_place q_zero q_less q_half q_carry q_enabled q_soon q_ram q_low q_top q_mode q_state q_sent q_out) (qi_ D (fun (r : Int32) (_ : Unit) => P r ) (fun _ => (wM ad q_code q_many q_pin q_size q_bytes q_kind q_bank q_address q_full q_linked q_packedBank q_packedAddress q_banks q_memory q_register q_stack q_place q_zero q_less q_half q_carry q_enabled q_soon q_ram q_low q_top q_mode q_state q_sent q_out))) := by
  refine ct_of RQ (by decide) rfl (Nat.le_of_ble_eq_true rfl) (fun G hl hD X hq => ?_)
  subst hl hD
  show go_ G 0 0 (wM ad q_code q_many q_pin q_size q_bytes q_kind q_bank q_address q_full q_linked q_packedBank q_packedAddress q_banks q_memory q_register q_stack q_place q_zero q_less q_half q_carry q_enabled q_soon q_ram q_low q_top q_mode q_state q_sent q_out) 0 [(0, .ref (ad 30)), (1, .int a1)] []
  refine go_iload_n X 1 dQ_mark_0 rfl rfl ?_
  refine go_iconst X dQ_mark_1 kc_i2 ?_
  refine go_icmp_ne X dQ_mark_2 rfl (fun hc => ?_) (fun hc => ?_)
  · have hw := hw.1 hc
    refine go_iload_n X 1 dQ_mark_11 rfl rfl ?_
    refine go_iconst X dQ_mark_12 kc_i3 ?_
    refine go_icmp_ne X dQ_mark_13 rfl (fun hc => ?_) (fun hc => ?_)
    · have hw := hw.1 hc
      refine go_iload_n X 1 dQ_mark_22 rfl rfl ?_
      refine go_iconst X dQ_mark_23 kc_i4 ?_
      refine go_icmp_ne X dQ_mark_24 rfl (fun hc => ?_) (fun hc => ?_)
      · have hw := hw.1 hc
        refine go_iload_n X 1 dQ_mark_32 rfl rfl ?_
        refine go_iconst X dQ_mark_33 kc_i5 ?_
        refine go_icmp_ne X dQ_mark_34 rfl (fun hc => ?_) (fun hc => ?_)
        · have hw := hw.1 hc
          refine go_aload_n X 0 dQ_mark_43 rfl rfl ?_
          refine gt_Q_114 X dQ_mark_44 ?_
          refine go_iconst X dQ_mark_47 kc_i2 ?_
          refine go_icmp_ne X dQ_mark_48 rfl (fun hc => ?_) (fun hc => ?_)
          · have hw := hw.1 hc
            refine go_aload_n X 0 dQ_mark_55 rfl rfl ?_
            refine gt_Q_114 X dQ_mark_56 ?_
            refine go_iconst X dQ_mark_59 kc_i4 ?_
            refine go_icmp_ne X dQ_mark_60 rfl (fun hc => ?_) (fun hc => ?_)
            · have hw := hw.1 hc
              refine go_iconst X dQ_mark_67 kc_i2 ?_
              exact go_ireturn X hq dQ_mark_68 () hw rfl
            · have hw := hw.2 hc
              refine go_iconst X dQ_mark_63 kc_i1 ?_
              refine go_goto X dQ_mark_64 rfl ?_
              exact go_ireturn X hq dQ_mark_68 () hw rfl
          · have hw := hw.2 hc
            refine go_iconst X dQ_mark_51 kc_i0 ?_
            refine go_goto X dQ_mark_52 rfl ?_
            exact go_ireturn X hq dQ_mark_68 () hw rfl
        · have hw := hw.2 hc
          refine go_sipush X dQ_mark_37 kc_s204 ?_
          refine go_goto X dQ_mark_40 rfl ?_
          exact go_ireturn X hq dQ_mark_68 () hw rfl
      · have hw := hw.2 hc
        refine go_bipush X dQ_mark_27 kc_b102 ?_
        refine go_goto X dQ_mark_29 rfl ?_
        exact go_ireturn X hq dQ_mark_68 () hw rfl
    · have hw := hw.2 hc
      refine go_sipush X dQ_mark_16 kc_s237 ?_
      refine go_goto X dQ_mark_19 rfl ?_
      exact go_ireturn X hq dQ_mark_68 () hw rfl
  · have hw := hw.2 hc
    refine go_sipush X dQ_mark_5 kc_s206 ?_
    refine go_goto X dQ_mark_8 rfl ?_
    exact go_ireturn X hq dQ_mark_68 () hw rfl
theorem k_Q_mark {G : gt_} {ad : Nat → Nat} {cc : ByteArray} {own : String} {fr lo n cells slots pc index : Nat} {lc : List (Nat × Value)} {rest : List Value} {q_code q_many : Int32} {q_pin q_size q_bytes q_kind q_bank q_address q_full : Nat → Int32} {q_linked : Int32} {q_packedBank q_packedAddress : Nat → Int32} {q_banks : Int32} {q_memory q_register : Nat → Int32} {q_stack q_place q_zero q_less q_half q_carry q_enabled q_soon q_ram q_low q_top q_mode q_state q_sent : Int32} {q_out : Nat → Int32} {a1 : Int32} {P : Int32 → Prop} (X : cx_ G ad cc own fr lo n) (hw : wp_Q_mark q_banks a1 P) (m1 : Cond.methodLink own index yQ_mark ∈ wS) (hlv : 0 + 1 ≤ fr ∧ 8 + (2 + 11) + 0 ≤ lo) (hrs : (rest.map fun v => v.category).sum ≤ 8) (hcs : cells ≤ (gR_ G).cells ∧ slots ≤ (gR_ G).slots) (d : decode cc pc = .ok (.invokevirtual index, 3))
    (kk : ∀ (r : Int32), P r → go_ G cells slots (wM ad q_code q_many q_pin q_size q_bytes q_kind q_bank q_address q_full q_linked q_packedBank q_packedAddress q_banks q_memory q_register q_stack q_place q_zero q_less q_half q_carry q_enabled q_soon q_ram q_low q_top q_mode q_state q_sent q_out) (pc + 3) lc (.int r :: rest)) : go_ G cells slots (wM ad q_code q_many q_pin q_size q_bytes q_kind q_bank q_address q_full q_linked q_packedBank q_packedAddress q_banks q_memory q_register q_stack q_place q_zero q_less q_half q_carry q_enabled q_soon q_ram q_low q_top q_mode q_state q_sent q_out) pc lc (.int a1 :: .ref (ad 30) :: rest) :=
  go_cvi X (c_Q_mark hw) me_Q_mark m1 hlv 0 rfl rfl rfl hrs hcs d (fun r _ hp => kk r  hp)
set_option maxRecDepth 100000 in
set_option maxHeartbeats 4000000 in
theorem c_Q_outside {l : Launch} {D : va_G} {ad : Nat → Nat} {q_code q_many : Int32} {q_pin q_size q_bytes q_kind q_bank q_address q_full : Nat → Int32} {q_linked : Int32} {q_packedBank q_packedAddress : Nat → Int32} {q_banks : Int32} {q_memory q_register : Nat → Int32} {q_stack q_place q_zero q_less q_half q_carry q_enabled q_soon q_ram q_low q_top q_mode q_state q_sent : Int32} {q_out : Nat → Int32} {a0 a1 a2 : Int32} {P : Int32 → Prop} (hw : wp_Q_outside  a0 a1 a2 P) : ct_ l yQ_outside bQ_outside 3 (some .boolean) 0 0 D ad [.int a0, .int a1, .int a2] (wM ad q_code q_many q_pin q_size q_bytes q_kind q_bank q_address q_full q_linked q_packedBank q_packedAddress q_banks q_memory q_register q_stack q_place q_zero q_less q_half q_carry q_enabled q_soon q_ram q_low q_top q_mode q_state q_sent q_out) (qi_ D (fun (r : Int32) (_ : Unit) => P r ) (fun _ => (wM ad q_code q_many q_pin q_size q_bytes q_kind q_bank q_address q_full q_linked q_packedBank q_packedAddress q_banks q_memory q_register q_stack q_place q_zero q_less q_half q_carry q_enabled q_soon q_ram q_low q_top q_mode q_state q_sent q_out))) := by
  refine ct_of RQ (by decide) rfl (Nat.le_of_ble_eq_true rfl) (fun G hl hD X hq => ?_)
  subst hl hD
  show go_ G 0 0 (wM ad q_code q_many q_pin q_size q_bytes q_kind q_bank q_address q_full q_linked q_packedBank q_packedAddress q_banks q_memory q_register q_stack q_place q_zero q_less q_half q_carry q_enabled q_soon q_ram q_low q_top q_mode q_state q_sent q_out) 0 [(0, .int a0), (1, .int a1), (2, .int a2)] []
  refine go_iload_n X 0 dQ_outside_0 rfl rfl ?_
  refine go_iload_n X 1 dQ_outside_1 rfl rfl ?_
  refine go_icmp_lt X dQ_outside_2 rfl (fun hc => ?_) (fun hc => ?_)
  · have hw := hw.1 hc
    refine go_iconst X dQ_outside_10 kc_i1 ?_
    refine go_goto X dQ_outside_11 rfl ?_
    exact go_zreturn X hq dQ_outside_15 (Or.inr rfl) () hw rfl
  · have hw := hw.2 hc
    refine go_iload_n X 0 dQ_outside_5 rfl rfl ?_
    refine go_iload_n X 2 dQ_outside_6 rfl rfl ?_
    refine go_icmp_le X dQ_outside_7 rfl (fun hc => ?_) (fun hc => ?_)
    · have hw := hw.1 hc
      refine go_iconst X dQ_outside_14 kc_i0 ?_
      exact go_zreturn X hq dQ_outside_15 (Or.inl rfl) () hw rfl
    · have hw := hw.2 hc
      refine go_iconst X dQ_outside_10 kc_i1 ?_
      refine go_goto X dQ_outside_11 rfl ?_
      exact go_zreturn X hq dQ_outside_15 (Or.inr rfl) () hw rfl
theorem k_Q_outside {G : gt_} {ad : Nat → Nat} {cc : ByteArray} {fr lo n cells slots pc index : Nat} {lc : List (Nat × Value)} {rest : List Value} {q_code q_many : Int32} {q_pin q_size q_bytes q_kind q_bank q_address q_full : Nat → Int32} {q_linked : Int32} {q_packedBank q_packedAddress : Nat → Int32} {q_banks : Int32} {q_memory q_register : Nat → Int32} {q_stack q_place q_zero q_less q_half q_carry q_enabled q_soon q_ram q_low q_top q_mode q_state q_sent : Int32} {q_out : Nat → Int32} {a0 a1 a2 : Int32} {P : Int32 → Prop} (X : cx_ G ad cc RQ fr lo n) (hw : wp_Q_outside  a0 a1 a2 P) (m1 : Cond.methodLink RQ index yQ_outside ∈ wS) (hlv : 0 + 1 ≤ fr ∧ 8 + (3 + 11) + 0 ≤ lo) (hrs : (rest.map fun v => v.category).sum ≤ 8) (hcs : cells ≤ (gR_ G).cells ∧ slots ≤ (gR_ G).slots) (d : decode cc pc = .ok (.invokestatic index, 3))
    (kk : ∀ (r : Int32), P r → go_ G cells slots (wM ad q_code q_many q_pin q_size q_bytes q_kind q_bank q_address q_full q_linked q_packedBank q_packedAddress q_banks q_memory q_register q_stack q_place q_zero q_less q_half q_carry q_enabled q_soon q_ram q_low q_top q_mode q_state q_sent q_out) (pc + 3) lc (.int r :: rest)) : go_ G cells slots (wM ad q_code q_many q_pin q_size q_bytes q_kind q_bank q_address q_full q_linked q_packedBank q_packedAddress q_banks q_memory q_register q_stack q_place q_zero q_less q_half q_carry q_enabled q_soon q_ram q_low q_top q_mode q_state q_sent q_out) pc lc (.int a2 :: .int a1 :: .int a0 :: rest) :=
  go_csi X (c_Q_outside hw) me_Q_outside m1 hlv rfl hrs hcs d (fun r _ hp => kk r  hp)
set_option maxRecDepth 100000 in
set_option maxHeartbeats 4000000 in
theorem c_Q_plain {l : Launch} {D : va_G} {ad : Nat → Nat} {q_code q_many : Int32} {q_pin q_size q_bytes q_kind q_bank q_address q_full : Nat → Int32} {q_linked : Int32} {q_packedBank q_packedAddress : Nat → Int32} {q_banks : Int32} {q_memory q_register : Nat → Int32} {q_stack q_place q_zero q_less q_half q_carry q_enabled q_soon q_ram q_low q_top q_mode q_state q_sent : Int32} {q_out : Nat → Int32} {a1 a2 : Int32} {P : Int32 → (Int32) → (Int32) → (Int32) → (Int32) → Prop} (hw : wp_Q_plain q_zero q_less q_half q_carry a1 a2 P) : ct_ l yQ_plain bQ_plain 3 (some .int) 0 0 D ad [.ref (ad 30), .int a1, .int a2] (wM ad q_code q_many q_pin q_size q_bytes q_kind q_bank q_address q_full q_linked q_packedBank q_packedAddress q_banks q_memory q_register q_stack q_place q_zero q_less q_half q_carry q_enabled q_soon q_ram q_low q_top q_mode q_state q_sent q_out) (qi_ D (fun (r : Int32) (u : (Int32) × (Int32) × (Int32) × (Int32)) => P r u.1 u.2.1 u.2.2.1 u.2.2.2) (fun u => wM ad q_code q_many q_pin q_size q_bytes q_kind q_bank q_address q_full q_linked q_packedBank q_packedAddress q_banks q_memory q_register q_stack q_place u.1 u.2.1 u.2.2.1 u.2.2.2 q_enabled q_soon q_ram q_low q_top q_mode q_state q_sent q_out)) := by
  refine ct_of RQ (by decide) rfl (Nat.le_of_ble_eq_true rfl) (fun G hl hD X hq => ?_)
  subst hl hD
  show go_ G 0 0 (wM ad q_code q_many q_pin q_size q_bytes q_kind q_bank q_address q_full q_linked q_packedBank q_packedAddress q_banks q_memory q_register q_stack q_place q_zero q_less q_half q_carry q_enabled q_soon q_ram q_low q_top q_mode q_state q_sent q_out) 0 [(0, .ref (ad 30)), (1, .int a1), (2, .int a2)] []
  refine go_aload_n X 0 dQ_plain_0 rfl rfl ?_
  refine go_iload_n X 1 dQ_plain_1 rfl rfl ?_
  refine go_if_ne X dQ_plain_2 rfl (fun hc => ?_) (fun hc => ?_)
  · have hw := hw.1 hc
    refine go_iconst X dQ_plain_9 kc_i0 ?_
    refine pt_Q_59 X (Or.inl rfl) dQ_plain_10 ?_
    refine go_aload_n X 0 dQ_plain_13 rfl rfl ?_
    refine go_iconst X dQ_plain_14 kc_i0 ?_
    refine pt_Q_63 X (Or.inl rfl) dQ_plain_15 ?_
    refine go_aload_n X 0 dQ_plain_18 rfl rfl ?_
    refine go_iload_n X 2 dQ_plain_19 rfl rfl ?_
    have hz := hw.1
    have hw := hw.2
    refine pt_Q_66 X hz dQ_plain_20 ?_
    refine go_aload_n X 0 dQ_plain_23 rfl rfl ?_
    refine go_iconst X dQ_plain_24 kc_i0 ?_
    refine pt_Q_69 X (Or.inl rfl) dQ_plain_25 ?_
    refine go_iload_n X 1 dQ_plain_28 rfl rfl ?_
    exact go_ireturn X hq dQ_plain_29 ((0 : Int32), (0 : Int32), a2, (0 : Int32)) hw rfl
  · have hw := hw.2 hc
    refine go_iconst X dQ_plain_5 kc_i1 ?_
    refine go_goto X dQ_plain_6 rfl ?_
    refine pt_Q_59 X (Or.inr rfl) dQ_plain_10 ?_
    refine go_aload_n X 0 dQ_plain_13 rfl rfl ?_
    refine go_iconst X dQ_plain_14 kc_i0 ?_
    refine pt_Q_63 X (Or.inl rfl) dQ_plain_15 ?_
    refine go_aload_n X 0 dQ_plain_18 rfl rfl ?_
    refine go_iload_n X 2 dQ_plain_19 rfl rfl ?_
    have hz := hw.1
    have hw := hw.2
    refine pt_Q_66 X hz dQ_plain_20 ?_
    refine go_aload_n X 0 dQ_plain_23 rfl rfl ?_
    refine go_iconst X dQ_plain_24 kc_i0 ?_
    refine pt_Q_69 X (Or.inl rfl) dQ_plain_25 ?_
    refine go_iload_n X 1 dQ_plain_28 rfl rfl ?_
    exact go_ireturn X hq dQ_plain_29 ((1 : Int32), (0 : Int32), a2, (0 : Int32)) hw rfl
theorem k_Q_plain {G : gt_} {ad : Nat → Nat} {cc : ByteArray} {own : String} {fr lo n cells slots pc index : Nat} {lc : List (Nat × Value)} {rest : List Value} {q_code q_many : Int32} {q_pin q_size q_bytes q_kind q_bank q_address q_full : Nat → Int32} {q_linked : Int32} {q_packedBank q_packedAddress : Nat → Int32} {q_banks : Int32} {q_memory q_register : Nat → Int32} {q_stack q_place q_zero q_less q_half q_carry q_enabled q_soon q_ram q_low q_top q_mode q_state q_sent : Int32} {q_out : Nat → Int32} {a1 a2 : Int32} {P : Int32 → (Int32) → (Int32) → (Int32) → (Int32) → Prop} (X : cx_ G ad cc own fr lo n) (hw : wp_Q_plain q_zero q_less q_half q_carry a1 a2 P) (m1 : Cond.methodLink own index yQ_plain ∈ wS) (hlv : 0 + 1 ≤ fr ∧ 8 + (3 + 11) + 0 ≤ lo) (hrs : (rest.map fun v => v.category).sum ≤ 8) (hcs : cells ≤ (gR_ G).cells ∧ slots ≤ (gR_ G).slots) (d : decode cc pc = .ok (.invokevirtual index, 3))
    (kk : ∀ (r q_zero' q_less' q_half' q_carry' : Int32), P r q_zero' q_less' q_half' q_carry' → go_ G cells slots (wM ad q_code q_many q_pin q_size q_bytes q_kind q_bank q_address q_full q_linked q_packedBank q_packedAddress q_banks q_memory q_register q_stack q_place q_zero' q_less' q_half' q_carry' q_enabled q_soon q_ram q_low q_top q_mode q_state q_sent q_out) (pc + 3) lc (.int r :: rest)) : go_ G cells slots (wM ad q_code q_many q_pin q_size q_bytes q_kind q_bank q_address q_full q_linked q_packedBank q_packedAddress q_banks q_memory q_register q_stack q_place q_zero q_less q_half q_carry q_enabled q_soon q_ram q_low q_top q_mode q_state q_sent q_out) pc lc (.int a2 :: .int a1 :: .ref (ad 30) :: rest) :=
  go_cvi X (c_Q_plain hw) me_Q_plain m1 hlv 0 rfl rfl rfl hrs hcs d (fun r u hp => kk r u.1 u.2.1 u.2.2.1 u.2.2.2 hp)
set_option maxRecDepth 100000 in
set_option maxHeartbeats 4000000 in
theorem c_Q_put {l : Launch} {D : va_G} {ad : Nat → Nat} {q_code q_many : Int32} {q_pin q_size q_bytes q_kind q_bank q_address q_full : Nat → Int32} {q_linked : Int32} {q_packedBank q_packedAddress : Nat → Int32} {q_banks : Int32} {q_memory q_register : Nat → Int32} {q_stack q_place q_zero q_less q_half q_carry q_enabled q_soon q_ram q_low q_top q_mode q_state q_sent : Int32} {q_out : Nat → Int32} {a1 a2 a3 : Int32} {P : Int32 → (Nat → Int32) → (Nat → Int32) → (Nat → Int32) → Prop} (hw : wp_Q_put q_size q_bank q_address q_full a1 a2 a3 P) : ct_ l yQ_put bQ_put 4 (some .boolean) 0 0 D ad [.ref (ad 30), .int a1, .int a2, .int a3] (wM ad q_code q_many q_pin q_size q_bytes q_kind q_bank q_address q_full q_linked q_packedBank q_packedAddress q_banks q_memory q_register q_stack q_place q_zero q_less q_half q_carry q_enabled q_soon q_ram q_low q_top q_mode q_state q_sent q_out) (qi_ D (fun (r : Int32) (u : (Nat → Int32) × (Nat → Int32) × (Nat → Int32)) => P r u.1 u.2.1 u.2.2) (fun u => wM ad q_code q_many q_pin q_size q_bytes q_kind u.1 u.2.1 u.2.2 q_linked q_packedBank q_packedAddress q_banks q_memory q_register q_stack q_place q_zero q_less q_half q_carry q_enabled q_soon q_ram q_low q_top q_mode q_state q_sent q_out)) := by
  refine ct_of RQ (by decide) rfl (Nat.le_of_ble_eq_true rfl) (fun G hl hD X hq => ?_)
  subst hl hD
  show go_ G 0 0 (wM ad q_code q_many q_pin q_size q_bytes q_kind q_bank q_address q_full q_linked q_packedBank q_packedAddress q_banks q_memory q_register q_stack q_place q_zero q_less q_half q_carry q_enabled q_soon q_ram q_low q_top q_mode q_state q_sent q_out) 0 [(0, .ref (ad 30)), (1, .int a1), (2, .int a2), (3, .int a3)] []
  have C53 : ∀ (q_bank q_address q_full : Nat → Int32) (x1 x2 y0 y1 y2 : Int32), wp_Q_put_53 q_size P q_bank q_address q_full x1 x2 y0 y1 y2 → go_ G 0 0 (wM ad q_code q_many q_pin q_size q_bytes q_kind q_bank q_address q_full q_linked q_packedBank q_packedAddress q_banks q_memory q_register q_stack q_place q_zero q_less q_half q_carry q_enabled q_soon q_ram q_low q_top q_mode q_state q_sent q_out) 53 [(0, .ref (ad 30)), (1, .int x1), (2, .int x2)] [.int y0, .int y1, .int y2, .ref (ad 36)] := by
    intro q_bank q_address q_full x1 x2 y0 y1 y2 hw
    refine go_iadd X dQ_put_53 ?_
    have hz := hw.1
    have hw := hw.2
    refine as_q_address X hz dQ_put_54 ?_
    refine go_aload_n X 0 dQ_put_55 rfl rfl ?_
    refine gt_Q_28 X dQ_put_56 ?_
    refine go_iload_n X 2 dQ_put_59 rfl rfl ?_
    refine go_dup2 X dQ_put_60 rfl rfl ?_
    have hz := hw.1
    have hw := hw.2
    refine ar_q_full X hz dQ_put_61 ?_
    refine go_aload_n X 0 dQ_put_62 rfl rfl ?_
    refine gt_Q_13 X dQ_put_63 ?_
    refine go_iload_n X 1 dQ_put_66 rfl rfl ?_
    have hz := hw.1
    have hw := hw.2
    refine ar_q_size X hz dQ_put_67 ?_
    refine go_iadd X dQ_put_68 ?_
    have hz := hw.1
    have hw := hw.2
    refine as_q_full X hz dQ_put_69 ?_
    refine go_iconst X dQ_put_70 kc_i1 ?_
    exact go_zreturn X hq dQ_put_71 (Or.inr rfl) (q_bank, upd q_address y2.toNatClampNeg (y1 + y0), upd q_full x2.toNatClampNeg ((q_full x2.toNatClampNeg) + (q_size x1.toNatClampNeg))) hw rfl
  refine go_iload_n X 2 dQ_put_0 rfl rfl ?_
  refine go_iload_n X 3 dQ_put_1 rfl rfl ?_
  refine go_icmp_ge X dQ_put_2 rfl (fun hc => ?_) (fun hc => ?_)
  · have hw := hw.1 hc
    refine go_iconst X dQ_put_23 kc_i0 ?_
    exact go_zreturn X hq dQ_put_24 (Or.inl rfl) (q_bank, q_address, q_full) hw rfl
  · have hw := hw.2 hc
    refine go_aload_n X 0 dQ_put_5 rfl rfl ?_
    refine gt_Q_28 X dQ_put_6 ?_
    refine go_iload_n X 2 dQ_put_9 rfl rfl ?_
    have hz := hw.1
    have hw := hw.2
    refine ar_q_full X hz dQ_put_10 ?_
    refine go_aload_n X 0 dQ_put_11 rfl rfl ?_
    refine gt_Q_13 X dQ_put_12 ?_
    refine go_iload_n X 1 dQ_put_15 rfl rfl ?_
    have hz := hw.1
    have hw := hw.2
    refine ar_q_size X hz dQ_put_16 ?_
    refine go_iadd X dQ_put_17 ?_
    refine go_bipush X dQ_put_18 kc_b64 ?_
    refine go_icmp_le X dQ_put_20 rfl (fun hc => ?_) (fun hc => ?_)
    · have hw := hw.1 hc
      refine go_aload_n X 0 dQ_put_25 rfl rfl ?_
      refine gt_Q_22 X dQ_put_26 ?_
      refine go_iload_n X 1 dQ_put_29 rfl rfl ?_
      refine go_iload_n X 2 dQ_put_30 rfl rfl ?_
      have hz := hw.1
      have hw := hw.2
      refine as_q_bank X hz dQ_put_31 ?_
      refine go_aload_n X 0 dQ_put_32 rfl rfl ?_
      refine gt_Q_25 X dQ_put_33 ?_
      refine go_iload_n X 1 dQ_put_36 rfl rfl ?_
      refine go_aload_n X 0 dQ_put_37 rfl rfl ?_
      refine gt_Q_28 X dQ_put_38 ?_
      refine go_iload_n X 2 dQ_put_41 rfl rfl ?_
      have hz := hw.1
      have hw := hw.2
      refine ar_q_full X hz dQ_put_42 ?_
      refine go_iload_n X 2 dQ_put_43 rfl rfl ?_
      refine go_if_le X dQ_put_44 rfl (fun hc => ?_) (fun hc => ?_)
      · have hw := hw.1 hc
        refine go_iconst X dQ_put_52 kc_i0 ?_
        refine go_lc [0, 1, 2] rfl ?_
        exact C53 _ _ _ _ _ _ _ _ hw
      · have hw := hw.2 hc
        refine go_bipush X dQ_put_47 kc_b64 ?_
        refine go_goto X dQ_put_49 rfl ?_
        refine go_lc [0, 1, 2] rfl ?_
        exact C53 _ _ _ _ _ _ _ _ hw
    · have hw := hw.2 hc
      refine go_iconst X dQ_put_23 kc_i0 ?_
      exact go_zreturn X hq dQ_put_24 (Or.inl rfl) (q_bank, q_address, q_full) hw rfl
theorem k_Q_put {G : gt_} {ad : Nat → Nat} {cc : ByteArray} {own : String} {fr lo n cells slots pc index : Nat} {lc : List (Nat × Value)} {rest : List Value} {q_code q_many : Int32} {q_pin q_size q_bytes q_kind q_bank q_address q_full : Nat → Int32} {q_linked : Int32} {q_packedBank q_packedAddress : Nat → Int32} {q_banks : Int32} {q_memory q_register : Nat → Int32} {q_stack q_place q_zero q_less q_half q_carry q_enabled q_soon q_ram q_low q_top q_mode q_state q_sent : Int32} {q_out : Nat → Int32} {a1 a2 a3 : Int32} {P : Int32 → (Nat → Int32) → (Nat → Int32) → (Nat → Int32) → Prop} (X : cx_ G ad cc own fr lo n) (hw : wp_Q_put q_size q_bank q_address q_full a1 a2 a3 P) (m1 : Cond.methodLink own index yQ_put ∈ wS) (hlv : 0 + 1 ≤ fr ∧ 8 + (4 + 11) + 0 ≤ lo) (hrs : (rest.map fun v => v.category).sum ≤ 8) (hcs : cells ≤ (gR_ G).cells ∧ slots ≤ (gR_ G).slots) (d : decode cc pc = .ok (.invokevirtual index, 3))
    (kk : ∀ (r : Int32) (q_bank' q_address' q_full' : Nat → Int32), P r q_bank' q_address' q_full' → go_ G cells slots (wM ad q_code q_many q_pin q_size q_bytes q_kind q_bank' q_address' q_full' q_linked q_packedBank q_packedAddress q_banks q_memory q_register q_stack q_place q_zero q_less q_half q_carry q_enabled q_soon q_ram q_low q_top q_mode q_state q_sent q_out) (pc + 3) lc (.int r :: rest)) : go_ G cells slots (wM ad q_code q_many q_pin q_size q_bytes q_kind q_bank q_address q_full q_linked q_packedBank q_packedAddress q_banks q_memory q_register q_stack q_place q_zero q_less q_half q_carry q_enabled q_soon q_ram q_low q_top q_mode q_state q_sent q_out) pc lc (.int a3 :: .int a2 :: .int a1 :: .ref (ad 30) :: rest) :=
  go_cvi X (c_Q_put hw) me_Q_put m1 hlv 0 rfl rfl rfl hrs hcs d (fun r u hp => kk r u.1 u.2.1 u.2.2 hp)
set_option maxRecDepth 100000 in
set_option maxHeartbeats 4000000 in
theorem c_Q_refuse {l : Launch} {D : va_G} {ad : Nat → Nat} {q_code q_many : Int32} {q_pin q_size q_bytes q_kind q_bank q_address q_full : Nat → Int32} {q_linked : Int32} {q_packedBank q_packedAddress : Nat → Int32} {q_banks : Int32} {q_memory q_register : Nat → Int32} {q_stack q_place q_zero q_less q_half q_carry q_enabled q_soon q_ram q_low q_top q_mode q_state q_sent : Int32} {q_out : Nat → Int32} {a1 : Int32} {P : Int32 → (Int32) → Prop} (hw : wp_Q_refuse q_code a1 P) : ct_ l yQ_refuse bQ_refuse 2 (some .int) 0 0 D ad [.ref (ad 30), .int a1] (wM ad q_code q_many q_pin q_size q_bytes q_kind q_bank q_address q_full q_linked q_packedBank q_packedAddress q_banks q_memory q_register q_stack q_place q_zero q_less q_half q_carry q_enabled q_soon q_ram q_low q_top q_mode q_state q_sent q_out) (qi_ D (fun (r : Int32) (u : (Int32)) => P r u) (fun u => wM ad u q_many q_pin q_size q_bytes q_kind q_bank q_address q_full q_linked q_packedBank q_packedAddress q_banks q_memory q_register q_stack q_place q_zero q_less q_half q_carry q_enabled q_soon q_ram q_low q_top q_mode q_state q_sent q_out)) := by
  refine ct_of RQ (by decide) rfl (Nat.le_of_ble_eq_true rfl) (fun G hl hD X hq => ?_)
  subst hl hD
  show go_ G 0 0 (wM ad q_code q_many q_pin q_size q_bytes q_kind q_bank q_address q_full q_linked q_packedBank q_packedAddress q_banks q_memory q_register q_stack q_place q_zero q_less q_half q_carry q_enabled q_soon q_ram q_low q_top q_mode q_state q_sent q_out) 0 [(0, .ref (ad 30)), (1, .int a1)] []
  refine go_aload_n X 0 dQ_refuse_0 rfl rfl ?_
  refine go_iload_n X 1 dQ_refuse_1 rfl rfl ?_
  refine pt_Q_49 X dQ_refuse_2 ?_
  refine go_iconst X dQ_refuse_5 kc_i0 ?_
  exact go_ireturn X hq dQ_refuse_6 a1 hw rfl
theorem k_Q_refuse {G : gt_} {ad : Nat → Nat} {cc : ByteArray} {own : String} {fr lo n cells slots pc index : Nat} {lc : List (Nat × Value)} {rest : List Value} {q_code q_many : Int32} {q_pin q_size q_bytes q_kind q_bank q_address q_full : Nat → Int32} {q_linked : Int32} {q_packedBank q_packedAddress : Nat → Int32} {q_banks : Int32} {q_memory q_register : Nat → Int32} {q_stack q_place q_zero q_less q_half q_carry q_enabled q_soon q_ram q_low q_top q_mode q_state q_sent : Int32} {q_out : Nat → Int32} {a1 : Int32} {P : Int32 → (Int32) → Prop} (X : cx_ G ad cc own fr lo n) (hw : wp_Q_refuse q_code a1 P) (m1 : Cond.methodLink own index yQ_refuse ∈ wS) (hlv : 0 + 1 ≤ fr ∧ 8 + (2 + 11) + 0 ≤ lo) (hrs : (rest.map fun v => v.category).sum ≤ 8) (hcs : cells ≤ (gR_ G).cells ∧ slots ≤ (gR_ G).slots) (d : decode cc pc = .ok (.invokevirtual index, 3))
    (kk : ∀ (r q_code' : Int32), P r q_code' → go_ G cells slots (wM ad q_code' q_many q_pin q_size q_bytes q_kind q_bank q_address q_full q_linked q_packedBank q_packedAddress q_banks q_memory q_register q_stack q_place q_zero q_less q_half q_carry q_enabled q_soon q_ram q_low q_top q_mode q_state q_sent q_out) (pc + 3) lc (.int r :: rest)) : go_ G cells slots (wM ad q_code q_many q_pin q_size q_bytes q_kind q_bank q_address q_full q_linked q_packedBank q_packedAddress q_banks q_memory q_register q_stack q_place q_zero q_less q_half q_carry q_enabled q_soon q_ram q_low q_top q_mode q_state q_sent q_out) pc lc (.int a1 :: .ref (ad 30) :: rest) :=
  go_cvi X (c_Q_refuse hw) me_Q_refuse m1 hlv 0 rfl rfl rfl hrs hcs d (fun r u hp => kk r u hp)
set_option maxRecDepth 100000 in
set_option maxHeartbeats 4000000 in
theorem c_Q_room {l : Launch} {D : va_G} {ad : Nat → Nat} {q_code q_many : Int32} {q_pin q_size q_bytes q_kind q_bank q_address q_full : Nat → Int32} {q_linked : Int32} {q_packedBank q_packedAddress : Nat → Int32} {q_banks : Int32} {q_memory q_register : Nat → Int32} {q_stack q_place q_zero q_less q_half q_carry q_enabled q_soon q_ram q_low q_top q_mode q_state q_sent : Int32} {q_out : Nat → Int32} {a1 : Int32} {P : Int32 → Prop} (hw : wp_Q_room q_many q_size a1 P) : ct_ l yQ_room bQ_room 2 (some .boolean) 0 0 D ad [.ref (ad 30), .int a1] (wM ad q_code q_many q_pin q_size q_bytes q_kind q_bank q_address q_full q_linked q_packedBank q_packedAddress q_banks q_memory q_register q_stack q_place q_zero q_less q_half q_carry q_enabled q_soon q_ram q_low q_top q_mode q_state q_sent q_out) (qi_ D (fun (r : Int32) (_ : Unit) => P r ) (fun _ => (wM ad q_code q_many q_pin q_size q_bytes q_kind q_bank q_address q_full q_linked q_packedBank q_packedAddress q_banks q_memory q_register q_stack q_place q_zero q_less q_half q_carry q_enabled q_soon q_ram q_low q_top q_mode q_state q_sent q_out))) := by
  refine ct_of RQ (by decide) rfl (Nat.le_of_ble_eq_true rfl) (fun G hl hD X hq => ?_)
  subst hl hD
  show go_ G 0 0 (wM ad q_code q_many q_pin q_size q_bytes q_kind q_bank q_address q_full q_linked q_packedBank q_packedAddress q_banks q_memory q_register q_stack q_place q_zero q_less q_half q_carry q_enabled q_soon q_ram q_low q_top q_mode q_state q_sent q_out) 0 [(0, .ref (ad 30)), (1, .int a1)] []
  refine go_aload_n X 0 dQ_room_0 rfl rfl ?_
  refine gt_Q_100 X dQ_room_1 ?_
  refine go_if_le X dQ_room_4 rfl (fun hc => ?_) (fun hc => ?_)
  · have hw := hw.1 hc
    refine go_iconst X dQ_room_29 kc_i0 ?_
    exact go_zreturn X hq dQ_room_30 (Or.inl rfl) () hw rfl
  · have hw := hw.2 hc
    refine go_aload_n X 0 dQ_room_7 rfl rfl ?_
    refine gt_Q_13 X dQ_room_8 ?_
    refine go_aload_n X 0 dQ_room_11 rfl rfl ?_
    refine gt_Q_100 X dQ_room_12 ?_
    refine go_iconst X dQ_room_15 kc_i1 ?_
    refine go_isub X dQ_room_16 ?_
    have hz := hw.1
    have hw := hw.2
    refine ar_q_size X hz dQ_room_17 ?_
    refine go_iload_n X 1 dQ_room_18 rfl rfl ?_
    refine go_iadd X dQ_room_19 ?_
    refine go_bipush X dQ_room_20 kc_b48 ?_
    refine go_icmp_gt X dQ_room_22 rfl (fun hc => ?_) (fun hc => ?_)
    · have hw := hw.1 hc
      refine go_iconst X dQ_room_29 kc_i0 ?_
      exact go_zreturn X hq dQ_room_30 (Or.inl rfl) () hw rfl
    · have hw := hw.2 hc
      refine go_iconst X dQ_room_25 kc_i1 ?_
      refine go_goto X dQ_room_26 rfl ?_
      exact go_zreturn X hq dQ_room_30 (Or.inr rfl) () hw rfl
theorem k_Q_room {G : gt_} {ad : Nat → Nat} {cc : ByteArray} {own : String} {fr lo n cells slots pc index : Nat} {lc : List (Nat × Value)} {rest : List Value} {q_code q_many : Int32} {q_pin q_size q_bytes q_kind q_bank q_address q_full : Nat → Int32} {q_linked : Int32} {q_packedBank q_packedAddress : Nat → Int32} {q_banks : Int32} {q_memory q_register : Nat → Int32} {q_stack q_place q_zero q_less q_half q_carry q_enabled q_soon q_ram q_low q_top q_mode q_state q_sent : Int32} {q_out : Nat → Int32} {a1 : Int32} {P : Int32 → Prop} (X : cx_ G ad cc own fr lo n) (hw : wp_Q_room q_many q_size a1 P) (m1 : Cond.methodLink own index yQ_room ∈ wS) (hlv : 0 + 1 ≤ fr ∧ 8 + (2 + 11) + 0 ≤ lo) (hrs : (rest.map fun v => v.category).sum ≤ 8) (hcs : cells ≤ (gR_ G).cells ∧ slots ≤ (gR_ G).slots) (d : decode cc pc = .ok (.invokevirtual index, 3))
    (kk : ∀ (r : Int32), P r → go_ G cells slots (wM ad q_code q_many q_pin q_size q_bytes q_kind q_bank q_address q_full q_linked q_packedBank q_packedAddress q_banks q_memory q_register q_stack q_place q_zero q_less q_half q_carry q_enabled q_soon q_ram q_low q_top q_mode q_state q_sent q_out) (pc + 3) lc (.int r :: rest)) : go_ G cells slots (wM ad q_code q_many q_pin q_size q_bytes q_kind q_bank q_address q_full q_linked q_packedBank q_packedAddress q_banks q_memory q_register q_stack q_place q_zero q_less q_half q_carry q_enabled q_soon q_ram q_low q_top q_mode q_state q_sent q_out) pc lc (.int a1 :: .ref (ad 30) :: rest) :=
  go_cvi X (c_Q_room hw) me_Q_room m1 hlv 0 rfl rfl rfl hrs hcs d (fun r _ hp => kk r  hp)
set_option maxRecDepth 100000 in
set_option maxHeartbeats 4000000 in
theorem c_Q_sent {l : Launch} {D : va_G} {ad : Nat → Nat} {q_code q_many : Int32} {q_pin q_size q_bytes q_kind q_bank q_address q_full : Nat → Int32} {q_linked : Int32} {q_packedBank q_packedAddress : Nat → Int32} {q_banks : Int32} {q_memory q_register : Nat → Int32} {q_stack q_place q_zero q_less q_half q_carry q_enabled q_soon q_ram q_low q_top q_mode q_state q_sent : Int32} {q_out : Nat → Int32}  {P : Int32 → (Int32) → Prop} (hw : wp_Q_sent q_code q_sent  P) : ct_ l yQ_sent bQ_sent 1 (some .int) 0 0 D ad [.ref (ad 30)] (wM ad q_code q_many q_pin q_size q_bytes q_kind q_bank q_address q_full q_linked q_packedBank q_packedAddress q_banks q_memory q_register q_stack q_place q_zero q_less q_half q_carry q_enabled q_soon q_ram q_low q_top q_mode q_state q_sent q_out) (qi_ D (fun (r : Int32) (u : (Int32)) => P r u) (fun u => wM ad u q_many q_pin q_size q_bytes q_kind q_bank q_address q_full q_linked q_packedBank q_packedAddress q_banks q_memory q_register q_stack q_place q_zero q_less q_half q_carry q_enabled q_soon q_ram q_low q_top q_mode q_state q_sent q_out)) := by
  refine ct_of RQ (by decide) rfl (Nat.le_of_ble_eq_true rfl) (fun G hl hD X hq => ?_)
  subst hl hD
  show go_ G 0 0 (wM ad q_code q_many q_pin q_size q_bytes q_kind q_bank q_address q_full q_linked q_packedBank q_packedAddress q_banks q_memory q_register q_stack q_place q_zero q_less q_half q_carry q_enabled q_soon q_ram q_low q_top q_mode q_state q_sent q_out) 0 [(0, .ref (ad 30))] []
  refine go_aload_n X 0 dQ_sent_0 rfl rfl ?_
  refine go_iconst X dQ_sent_1 kc_i0 ?_
  refine pt_Q_49 X dQ_sent_2 ?_
  refine go_aload_n X 0 dQ_sent_5 rfl rfl ?_
  refine gt_Q_93 X dQ_sent_6 ?_
  exact go_ireturn X hq dQ_sent_9 (0 : Int32) hw rfl
theorem k_Q_sent {G : gt_} {ad : Nat → Nat} {cc : ByteArray} {own : String} {fr lo n cells slots pc index : Nat} {lc : List (Nat × Value)} {rest : List Value} {q_code q_many : Int32} {q_pin q_size q_bytes q_kind q_bank q_address q_full : Nat → Int32} {q_linked : Int32} {q_packedBank q_packedAddress : Nat → Int32} {q_banks : Int32} {q_memory q_register : Nat → Int32} {q_stack q_place q_zero q_less q_half q_carry q_enabled q_soon q_ram q_low q_top q_mode q_state q_sent : Int32} {q_out : Nat → Int32}  {P : Int32 → (Int32) → Prop} (X : cx_ G ad cc own fr lo n) (hw : wp_Q_sent q_code q_sent  P) (m1 : Cond.methodLink own index yQ_sent ∈ wS) (hlv : 0 + 1 ≤ fr ∧ 8 + (1 + 11) + 0 ≤ lo) (hrs : (rest.map fun v => v.category).sum ≤ 8) (hcs : cells ≤ (gR_ G).cells ∧ slots ≤ (gR_ G).slots) (d : decode cc pc = .ok (.invokevirtual index, 3))
    (kk : ∀ (r q_code' : Int32), P r q_code' → go_ G cells slots (wM ad q_code' q_many q_pin q_size q_bytes q_kind q_bank q_address q_full q_linked q_packedBank q_packedAddress q_banks q_memory q_register q_stack q_place q_zero q_less q_half q_carry q_enabled q_soon q_ram q_low q_top q_mode q_state q_sent q_out) (pc + 3) lc (.int r :: rest)) : go_ G cells slots (wM ad q_code q_many q_pin q_size q_bytes q_kind q_bank q_address q_full q_linked q_packedBank q_packedAddress q_banks q_memory q_register q_stack q_place q_zero q_less q_half q_carry q_enabled q_soon q_ram q_low q_top q_mode q_state q_sent q_out) pc lc (.ref (ad 30) :: rest) :=
  go_cvi X (c_Q_sent hw) me_Q_sent m1 hlv 0 rfl rfl rfl hrs hcs d (fun r u hp => kk r u hp)
set_option maxRecDepth 100000 in
set_option maxHeartbeats 4000000 in
theorem c_Q_stand {l : Launch} {D : va_G} {ad : Nat → Nat} {q_code q_many : Int32} {q_pin q_size q_bytes q_kind q_bank q_address q_full : Nat → Int32} {q_linked : Int32} {q_packedBank q_packedAddress : Nat → Int32} {q_banks : Int32} {q_memory q_register : Nat → Int32} {q_stack q_place q_zero q_less q_half q_carry q_enabled q_soon q_ram q_low q_top q_mode q_state q_sent : Int32} {q_out : Nat → Int32} {a1 : Int32} {P : (Int32) → (Int32) → Prop} (hw : wp_Q_stand q_place q_state a1 P) : ct_ l yQ_stand bQ_stand 2 none 0 0 D ad [.ref (ad 30), .int a1] (wM ad q_code q_many q_pin q_size q_bytes q_kind q_bank q_address q_full q_linked q_packedBank q_packedAddress q_banks q_memory q_register q_stack q_place q_zero q_less q_half q_carry q_enabled q_soon q_ram q_low q_top q_mode q_state q_sent q_out) (qv_ D (fun (u : (Int32) × (Int32)) => P u.1 u.2) (fun u => wM ad q_code q_many q_pin q_size q_bytes q_kind q_bank q_address q_full q_linked q_packedBank q_packedAddress q_banks q_memory q_register q_stack u.1 q_zero q_less q_half q_carry q_enabled q_soon q_ram q_low q_top q_mode u.2 q_sent q_out)) := by
  refine ct_of RQ (by decide) rfl (Nat.le_of_ble_eq_true rfl) (fun G hl hD X hq => ?_)
  subst hl hD
  show go_ G 0 0 (wM ad q_code q_many q_pin q_size q_bytes q_kind q_bank q_address q_full q_linked q_packedBank q_packedAddress q_banks q_memory q_register q_stack q_place q_zero q_less q_half q_carry q_enabled q_soon q_ram q_low q_top q_mode q_state q_sent q_out) 0 [(0, .ref (ad 30)), (1, .int a1)] []
  refine go_aload_n X 0 dQ_stand_0 rfl rfl ?_
  refine go_iload_n X 1 dQ_stand_1 rfl rfl ?_
  refine pt_Q_90 X dQ_stand_2 ?_
  refine go_aload_n X 0 dQ_stand_5 rfl rfl ?_
  refine go_aload_n X 0 dQ_stand_6 rfl rfl ?_
  refine gt_Q_56 X dQ_stand_7 ?_
  refine go_sipush X dQ_stand_10 kc_s255 ?_
  refine go_iadd X dQ_stand_13 ?_
  refine go_sipush X dQ_stand_14 kc_s256 ?_
  refine go_irem X dQ_stand_17 (by decide) ?_
  refine pt_Q_56 X dQ_stand_18 ?_
  exact go_vreturn X hq dQ_stand_21 ((q_place + (255 : Int32)) - (q_place + (255 : Int32)) / (256 : Int32) * (256 : Int32), a1) hw rfl
theorem k_Q_stand {G : gt_} {ad : Nat → Nat} {cc : ByteArray} {own : String} {fr lo n cells slots pc index : Nat} {lc : List (Nat × Value)} {rest : List Value} {q_code q_many : Int32} {q_pin q_size q_bytes q_kind q_bank q_address q_full : Nat → Int32} {q_linked : Int32} {q_packedBank q_packedAddress : Nat → Int32} {q_banks : Int32} {q_memory q_register : Nat → Int32} {q_stack q_place q_zero q_less q_half q_carry q_enabled q_soon q_ram q_low q_top q_mode q_state q_sent : Int32} {q_out : Nat → Int32} {a1 : Int32} {P : (Int32) → (Int32) → Prop} (X : cx_ G ad cc own fr lo n) (hw : wp_Q_stand q_place q_state a1 P) (m1 : Cond.methodLink own index yQ_stand ∈ wS) (hlv : 0 + 1 ≤ fr ∧ 8 + (2 + 11) + 0 ≤ lo) (hrs : (rest.map fun v => v.category).sum ≤ 8) (hcs : cells ≤ (gR_ G).cells ∧ slots ≤ (gR_ G).slots) (d : decode cc pc = .ok (.invokevirtual index, 3))
    (kk : ∀ (q_place' q_state' : Int32), P q_place' q_state' → go_ G cells slots (wM ad q_code q_many q_pin q_size q_bytes q_kind q_bank q_address q_full q_linked q_packedBank q_packedAddress q_banks q_memory q_register q_stack q_place' q_zero q_less q_half q_carry q_enabled q_soon q_ram q_low q_top q_mode q_state' q_sent q_out) (pc + 3) lc (rest)) : go_ G cells slots (wM ad q_code q_many q_pin q_size q_bytes q_kind q_bank q_address q_full q_linked q_packedBank q_packedAddress q_banks q_memory q_register q_stack q_place q_zero q_less q_half q_carry q_enabled q_soon q_ram q_low q_top q_mode q_state q_sent q_out) pc lc (.int a1 :: .ref (ad 30) :: rest) :=
  go_cvv X (c_Q_stand hw) me_Q_stand m1 hlv 0 rfl rfl rfl hrs hcs d (fun u hp => kk u.1 u.2 hp)
set_option maxRecDepth 100000 in
set_option maxHeartbeats 4000000 in
theorem c_Q_state {l : Launch} {D : va_G} {ad : Nat → Nat} {q_code q_many : Int32} {q_pin q_size q_bytes q_kind q_bank q_address q_full : Nat → Int32} {q_linked : Int32} {q_packedBank q_packedAddress : Nat → Int32} {q_banks : Int32} {q_memory q_register : Nat → Int32} {q_stack q_place q_zero q_less q_half q_carry q_enabled q_soon q_ram q_low q_top q_mode q_state q_sent : Int32} {q_out : Nat → Int32}  {P : Int32 → (Int32) → Prop} (hw : wp_Q_state q_code q_state  P) : ct_ l yQ_state bQ_state 1 (some .int) 0 0 D ad [.ref (ad 30)] (wM ad q_code q_many q_pin q_size q_bytes q_kind q_bank q_address q_full q_linked q_packedBank q_packedAddress q_banks q_memory q_register q_stack q_place q_zero q_less q_half q_carry q_enabled q_soon q_ram q_low q_top q_mode q_state q_sent q_out) (qi_ D (fun (r : Int32) (u : (Int32)) => P r u) (fun u => wM ad u q_many q_pin q_size q_bytes q_kind q_bank q_address q_full q_linked q_packedBank q_packedAddress q_banks q_memory q_register q_stack q_place q_zero q_less q_half q_carry q_enabled q_soon q_ram q_low q_top q_mode q_state q_sent q_out)) := by
  refine ct_of RQ (by decide) rfl (Nat.le_of_ble_eq_true rfl) (fun G hl hD X hq => ?_)
  subst hl hD
  show go_ G 0 0 (wM ad q_code q_many q_pin q_size q_bytes q_kind q_bank q_address q_full q_linked q_packedBank q_packedAddress q_banks q_memory q_register q_stack q_place q_zero q_less q_half q_carry q_enabled q_soon q_ram q_low q_top q_mode q_state q_sent q_out) 0 [(0, .ref (ad 30))] []
  refine go_aload_n X 0 dQ_state_0 rfl rfl ?_
  refine go_iconst X dQ_state_1 kc_i0 ?_
  refine pt_Q_49 X dQ_state_2 ?_
  refine go_aload_n X 0 dQ_state_5 rfl rfl ?_
  refine gt_Q_90 X dQ_state_6 ?_
  exact go_ireturn X hq dQ_state_9 (0 : Int32) hw rfl
theorem k_Q_state {G : gt_} {ad : Nat → Nat} {cc : ByteArray} {own : String} {fr lo n cells slots pc index : Nat} {lc : List (Nat × Value)} {rest : List Value} {q_code q_many : Int32} {q_pin q_size q_bytes q_kind q_bank q_address q_full : Nat → Int32} {q_linked : Int32} {q_packedBank q_packedAddress : Nat → Int32} {q_banks : Int32} {q_memory q_register : Nat → Int32} {q_stack q_place q_zero q_less q_half q_carry q_enabled q_soon q_ram q_low q_top q_mode q_state q_sent : Int32} {q_out : Nat → Int32}  {P : Int32 → (Int32) → Prop} (X : cx_ G ad cc own fr lo n) (hw : wp_Q_state q_code q_state  P) (m1 : Cond.methodLink own index yQ_state ∈ wS) (hlv : 0 + 1 ≤ fr ∧ 8 + (1 + 11) + 0 ≤ lo) (hrs : (rest.map fun v => v.category).sum ≤ 8) (hcs : cells ≤ (gR_ G).cells ∧ slots ≤ (gR_ G).slots) (d : decode cc pc = .ok (.invokevirtual index, 3))
    (kk : ∀ (r q_code' : Int32), P r q_code' → go_ G cells slots (wM ad q_code' q_many q_pin q_size q_bytes q_kind q_bank q_address q_full q_linked q_packedBank q_packedAddress q_banks q_memory q_register q_stack q_place q_zero q_less q_half q_carry q_enabled q_soon q_ram q_low q_top q_mode q_state q_sent q_out) (pc + 3) lc (.int r :: rest)) : go_ G cells slots (wM ad q_code q_many q_pin q_size q_bytes q_kind q_bank q_address q_full q_linked q_packedBank q_packedAddress q_banks q_memory q_register q_stack q_place q_zero q_less q_half q_carry q_enabled q_soon q_ram q_low q_top q_mode q_state q_sent q_out) pc lc (.ref (ad 30) :: rest) :=
  go_cvi X (c_Q_state hw) me_Q_state m1 hlv 0 rfl rfl rfl hrs hcs d (fun r u hp => kk r u hp)
set_option maxRecDepth 100000 in
set_option maxHeartbeats 4000000 in
theorem c_Q_take {l : Launch} {D : va_G} {ad : Nat → Nat} {q_code q_many : Int32} {q_pin q_size q_bytes q_kind q_bank q_address q_full : Nat → Int32} {q_linked : Int32} {q_packedBank q_packedAddress : Nat → Int32} {q_banks : Int32} {q_memory q_register : Nat → Int32} {q_stack q_place q_zero q_less q_half q_carry q_enabled q_soon q_ram q_low q_top q_mode q_state q_sent : Int32} {q_out : Nat → Int32} {a1 a2 a3 : Int32} {P : Int32 → (Int32) → (Int32) → (Int32) → (Int32) → Prop} (hw : wp_Q_take q_zero q_less q_half q_carry a1 a2 a3 P) : ct_ l yQ_take bQ_take 7 (some .int) 0 0 D ad [.ref (ad 30), .int a1, .int a2, .int a3] (wM ad q_code q_many q_pin q_size q_bytes q_kind q_bank q_address q_full q_linked q_packedBank q_packedAddress q_banks q_memory q_register q_stack q_place q_zero q_less q_half q_carry q_enabled q_soon q_ram q_low q_top q_mode q_state q_sent q_out) (qi_ D (fun (r : Int32) (u : (Int32) × (Int32) × (Int32) × (Int32)) => P r u.1 u.2.1 u.2.2.1 u.2.2.2) (fun u => wM ad q_code q_many q_pin q_size q_bytes q_kind q_bank q_address q_full q_linked q_packedBank q_packedAddress q_banks q_memory q_register q_stack q_place u.1 u.2.1 u.2.2.1 u.2.2.2 q_enabled q_soon q_ram q_low q_top q_mode q_state q_sent q_out)) := by
  refine ct_of RQ (by decide) rfl (Nat.le_of_ble_eq_true rfl) (fun G hl hD X hq => ?_)
  subst hl hD
  show go_ G 0 0 (wM ad q_code q_many q_pin q_size q_bytes q_kind q_bank q_address q_full q_linked q_packedBank q_packedAddress q_banks q_memory q_register q_stack q_place q_zero q_less q_half q_carry q_enabled q_soon q_ram q_low q_top q_mode q_state q_sent q_out) 0 [(0, .ref (ad 30)), (1, .int a1), (2, .int a2), (3, .int a3)] []
  have C62 : ∀ (q_zero q_less q_half q_carry x4 x5 y0 : Int32), wp_Q_take_62 P q_zero q_less q_half q_carry x4 x5 y0 → go_ G 0 0 (wM ad q_code q_many q_pin q_size q_bytes q_kind q_bank q_address q_full q_linked q_packedBank q_packedAddress q_banks q_memory q_register q_stack q_place q_zero q_less q_half q_carry q_enabled q_soon q_ram q_low q_top q_mode q_state q_sent q_out) 62 [(0, .ref (ad 30)), (4, .int x4), (5, .int x5)] [.int y0, .ref (ad 30)] := by
    intro q_zero q_less q_half q_carry x4 x5 y0 hw
    have hz := hw.1
    have hw := hw.2
    refine pt_Q_69 X hz dQ_take_62 ?_
    refine go_aload_n X 0 dQ_take_65 rfl rfl ?_
    refine go_iconst X dQ_take_66 kc_i1 ?_
    refine pt_Q_63 X (Or.inr rfl) dQ_take_67 ?_
    refine go_iload X 2 dQ_take_70 rfl ?_
    refine go_bipush X dQ_take_72 kc_b16 ?_
    refine go_iadd X dQ_take_74 ?_
    refine go_bipush X dQ_take_75 kc_b16 ?_
    refine go_irem X dQ_take_77 (by decide) ?_
    refine go_bipush X dQ_take_78 kc_b16 ?_
    refine go_imul X dQ_take_80 ?_
    refine go_iload X 1 dQ_take_81 rfl ?_
    refine go_bipush X dQ_take_83 kc_b16 ?_
    refine go_iadd X dQ_take_85 ?_
    refine go_bipush X dQ_take_86 kc_b16 ?_
    refine go_irem X dQ_take_88 (by decide) ?_
    refine go_iadd X dQ_take_89 ?_
    refine go_nm (fun z4 ez4 => ?_)
    have hw := hw z4 ez4
    refine go_istore X dQ_take_90 (by decide) rfl ?_
    refine go_aload_n X 1 dQ_take_92 rfl rfl ?_
    refine go_iload X 0 dQ_take_93 rfl ?_
    refine go_if_ne X dQ_take_95 rfl (fun hc => ?_) (fun hc => ?_)
    · have hw := hw.1 hc
      refine go_iconst X dQ_take_102 kc_i0 ?_
      refine pt_Q_59 X (Or.inl rfl) dQ_take_103 ?_
      refine go_iload X 0 dQ_take_106 rfl ?_
      exact go_ireturn X hq dQ_take_108 ((0 : Int32), (1 : Int32), q_half, y0) hw rfl
    · have hw := hw.2 hc
      refine go_iconst X dQ_take_98 kc_i1 ?_
      refine go_goto X dQ_take_99 rfl ?_
      refine pt_Q_59 X (Or.inr rfl) dQ_take_103 ?_
      refine go_iload X 0 dQ_take_106 rfl ?_
      exact go_ireturn X hq dQ_take_108 ((1 : Int32), (1 : Int32), q_half, y0) hw rfl
  have C24 : ∀ (q_zero q_less q_half q_carry x1 x2 x4 y0 : Int32), wp_Q_take_24 P q_zero q_less q_half q_carry x1 x2 x4 y0 → go_ G 0 0 (wM ad q_code q_many q_pin q_size q_bytes q_kind q_bank q_address q_full q_linked q_packedBank q_packedAddress q_banks q_memory q_register q_stack q_place q_zero q_less q_half q_carry q_enabled q_soon q_ram q_low q_top q_mode q_state q_sent q_out) 24 [(0, .ref (ad 30)), (1, .int x1), (2, .int x2), (4, .int x4)] [.int y0, .ref (ad 30)] := by
    intro q_zero q_less q_half q_carry x1 x2 x4 y0 hw
    have hz := hw.1
    have hw := hw.2
    refine pt_Q_66 X hz dQ_take_24 ?_
    refine go_iload_n X 1 dQ_take_27 rfl rfl ?_
    refine go_bipush X dQ_take_28 kc_b16 ?_
    refine go_idiv X dQ_take_30 (by decide) ?_
    refine go_iload_n X 2 dQ_take_31 rfl rfl ?_
    refine go_bipush X dQ_take_32 kc_b16 ?_
    refine go_idiv X dQ_take_34 (by decide) ?_
    refine go_isub X dQ_take_35 ?_
    refine go_aload_n X 0 dQ_take_36 rfl rfl ?_
    refine gt_Q_66 X dQ_take_37 ?_
    refine go_if_eq X dQ_take_40 rfl (fun hc => ?_) (fun hc => ?_)
    · have hw := hw.1 hc
      refine go_iconst X dQ_take_47 kc_i0 ?_
      refine go_isub X dQ_take_48 ?_
      refine go_nm (fun z2 ez2 => ?_)
      have hw := hw z2 ez2
      refine go_istore X dQ_take_49 (by decide) rfl ?_
      refine go_aload_n X 1 dQ_take_51 rfl rfl ?_
      refine go_iload X 0 dQ_take_52 rfl ?_
      refine go_if_ge X dQ_take_54 rfl (fun hc => ?_) (fun hc => ?_)
      · have hw := hw.1 hc
        refine go_iconst X dQ_take_61 kc_i0 ?_
        refine go_lc [1, 4, 0] rfl ?_
        exact C62 _ _ _ _ _ _ _ hw
      · have hw := hw.2 hc
        refine go_iconst X dQ_take_57 kc_i1 ?_
        refine go_goto X dQ_take_58 rfl ?_
        refine go_lc [1, 4, 0] rfl ?_
        exact C62 _ _ _ _ _ _ _ hw
    · have hw := hw.2 hc
      refine go_iconst X dQ_take_43 kc_i1 ?_
      refine go_goto X dQ_take_44 rfl ?_
      refine go_isub X dQ_take_48 ?_
      refine go_nm (fun z3 ez3 => ?_)
      have hw := hw z3 ez3
      refine go_istore X dQ_take_49 (by decide) rfl ?_
      refine go_aload_n X 1 dQ_take_51 rfl rfl ?_
      refine go_iload X 0 dQ_take_52 rfl ?_
      refine go_if_ge X dQ_take_54 rfl (fun hc => ?_) (fun hc => ?_)
      · have hw := hw.1 hc
        refine go_iconst X dQ_take_61 kc_i0 ?_
        refine go_lc [1, 4, 0] rfl ?_
        exact C62 _ _ _ _ _ _ _ hw
      · have hw := hw.2 hc
        refine go_iconst X dQ_take_57 kc_i1 ?_
        refine go_goto X dQ_take_58 rfl ?_
        refine go_lc [1, 4, 0] rfl ?_
        exact C62 _ _ _ _ _ _ _ hw
  refine go_iload_n X 1 dQ_take_0 rfl rfl ?_
  refine go_bipush X dQ_take_1 kc_b16 ?_
  refine go_irem X dQ_take_3 (by decide) ?_
  refine go_iload_n X 2 dQ_take_4 rfl rfl ?_
  refine go_bipush X dQ_take_5 kc_b16 ?_
  refine go_irem X dQ_take_7 (by decide) ?_
  refine go_isub X dQ_take_8 ?_
  refine go_iload_n X 3 dQ_take_9 rfl rfl ?_
  refine go_isub X dQ_take_10 ?_
  refine go_nm (fun z1 ez1 => ?_)
  have hw := hw z1 ez1
  refine go_istore X dQ_take_11 (by decide) rfl ?_
  refine go_aload_n X 1 dQ_take_13 rfl rfl ?_
  refine go_iload X 0 dQ_take_14 rfl ?_
  refine go_if_ge X dQ_take_16 rfl (fun hc => ?_) (fun hc => ?_)
  · have hw := hw.1 hc
    refine go_iconst X dQ_take_23 kc_i0 ?_
    refine go_lc [1, 2, 3, 0] rfl ?_
    exact C24 _ _ _ _ _ _ _ _ hw
  · have hw := hw.2 hc
    refine go_iconst X dQ_take_19 kc_i1 ?_
    refine go_goto X dQ_take_20 rfl ?_
    refine go_lc [1, 2, 3, 0] rfl ?_
    exact C24 _ _ _ _ _ _ _ _ hw
theorem k_Q_take {G : gt_} {ad : Nat → Nat} {cc : ByteArray} {own : String} {fr lo n cells slots pc index : Nat} {lc : List (Nat × Value)} {rest : List Value} {q_code q_many : Int32} {q_pin q_size q_bytes q_kind q_bank q_address q_full : Nat → Int32} {q_linked : Int32} {q_packedBank q_packedAddress : Nat → Int32} {q_banks : Int32} {q_memory q_register : Nat → Int32} {q_stack q_place q_zero q_less q_half q_carry q_enabled q_soon q_ram q_low q_top q_mode q_state q_sent : Int32} {q_out : Nat → Int32} {a1 a2 a3 : Int32} {P : Int32 → (Int32) → (Int32) → (Int32) → (Int32) → Prop} (X : cx_ G ad cc own fr lo n) (hw : wp_Q_take q_zero q_less q_half q_carry a1 a2 a3 P) (m1 : Cond.methodLink own index yQ_take ∈ wS) (hlv : 0 + 1 ≤ fr ∧ 8 + (7 + 11) + 0 ≤ lo) (hrs : (rest.map fun v => v.category).sum ≤ 8) (hcs : cells ≤ (gR_ G).cells ∧ slots ≤ (gR_ G).slots) (d : decode cc pc = .ok (.invokevirtual index, 3))
    (kk : ∀ (r q_zero' q_less' q_half' q_carry' : Int32), P r q_zero' q_less' q_half' q_carry' → go_ G cells slots (wM ad q_code q_many q_pin q_size q_bytes q_kind q_bank q_address q_full q_linked q_packedBank q_packedAddress q_banks q_memory q_register q_stack q_place q_zero' q_less' q_half' q_carry' q_enabled q_soon q_ram q_low q_top q_mode q_state q_sent q_out) (pc + 3) lc (.int r :: rest)) : go_ G cells slots (wM ad q_code q_many q_pin q_size q_bytes q_kind q_bank q_address q_full q_linked q_packedBank q_packedAddress q_banks q_memory q_register q_stack q_place q_zero q_less q_half q_carry q_enabled q_soon q_ram q_low q_top q_mode q_state q_sent q_out) pc lc (.int a3 :: .int a2 :: .int a1 :: .ref (ad 30) :: rest) :=
  go_cvi X (c_Q_take hw) me_Q_take m1 hlv 0 rfl rfl rfl hrs hcs d (fun r u hp => kk r u.1 u.2.1 u.2.2.1 u.2.2.2 hp)
set_option maxRecDepth 100000 in
set_option maxHeartbeats 4000000 in
theorem c_Q_thrown {l : Launch} {D : va_G} {ad : Nat → Nat} {q_code q_many : Int32} {q_pin q_size q_bytes q_kind q_bank q_address q_full : Nat → Int32} {q_linked : Int32} {q_packedBank q_packedAddress : Nat → Int32} {q_banks : Int32} {q_memory q_register : Nat → Int32} {q_stack q_place q_zero q_less q_half q_carry q_enabled q_soon q_ram q_low q_top q_mode q_state q_sent : Int32} {q_out : Nat → Int32}  {P : Int32 → Prop} (hw : wp_Q_thrown q_code  P) : ct_ l yQ_thrown bQ_thrown 1 (some .int) 0 0 D ad [.ref (ad 30)] (wM ad q_code q_many q_pin q_size q_bytes q_kind q_bank q_address q_full q_linked q_packedBank q_packedAddress q_banks q_memory q_register q_stack q_place q_zero q_less q_half q_carry q_enabled q_soon q_ram q_low q_top q_mode q_state q_sent q_out) (qi_ D (fun (r : Int32) (_ : Unit) => P r ) (fun _ => (wM ad q_code q_many q_pin q_size q_bytes q_kind q_bank q_address q_full q_linked q_packedBank q_packedAddress q_banks q_memory q_register q_stack q_place q_zero q_less q_half q_carry q_enabled q_soon q_ram q_low q_top q_mode q_state q_sent q_out))) := by
  refine ct_of RQ (by decide) rfl (Nat.le_of_ble_eq_true rfl) (fun G hl hD X hq => ?_)
  subst hl hD
  show go_ G 0 0 (wM ad q_code q_many q_pin q_size q_bytes q_kind q_bank q_address q_full q_linked q_packedBank q_packedAddress q_banks q_memory q_register q_stack q_place q_zero q_less q_half q_carry q_enabled q_soon q_ram q_low q_top q_mode q_state q_sent q_out) 0 [(0, .ref (ad 30))] []
  refine go_aload_n X 0 dQ_thrown_0 rfl rfl ?_
  refine gt_Q_49 X dQ_thrown_1 ?_
  exact go_ireturn X hq dQ_thrown_4 () hw rfl
theorem k_Q_thrown {G : gt_} {ad : Nat → Nat} {cc : ByteArray} {own : String} {fr lo n cells slots pc index : Nat} {lc : List (Nat × Value)} {rest : List Value} {q_code q_many : Int32} {q_pin q_size q_bytes q_kind q_bank q_address q_full : Nat → Int32} {q_linked : Int32} {q_packedBank q_packedAddress : Nat → Int32} {q_banks : Int32} {q_memory q_register : Nat → Int32} {q_stack q_place q_zero q_less q_half q_carry q_enabled q_soon q_ram q_low q_top q_mode q_state q_sent : Int32} {q_out : Nat → Int32}  {P : Int32 → Prop} (X : cx_ G ad cc own fr lo n) (hw : wp_Q_thrown q_code  P) (m1 : Cond.methodLink own index yQ_thrown ∈ wS) (hlv : 0 + 1 ≤ fr ∧ 8 + (1 + 11) + 0 ≤ lo) (hrs : (rest.map fun v => v.category).sum ≤ 8) (hcs : cells ≤ (gR_ G).cells ∧ slots ≤ (gR_ G).slots) (d : decode cc pc = .ok (.invokevirtual index, 3))
    (kk : ∀ (r : Int32), P r → go_ G cells slots (wM ad q_code q_many q_pin q_size q_bytes q_kind q_bank q_address q_full q_linked q_packedBank q_packedAddress q_banks q_memory q_register q_stack q_place q_zero q_less q_half q_carry q_enabled q_soon q_ram q_low q_top q_mode q_state q_sent q_out) (pc + 3) lc (.int r :: rest)) : go_ G cells slots (wM ad q_code q_many q_pin q_size q_bytes q_kind q_bank q_address q_full q_linked q_packedBank q_packedAddress q_banks q_memory q_register q_stack q_place q_zero q_less q_half q_carry q_enabled q_soon q_ram q_low q_top q_mode q_state q_sent q_out) pc lc (.ref (ad 30) :: rest) :=
  go_cvi X (c_Q_thrown hw) me_Q_thrown m1 hlv 0 rfl rfl rfl hrs hcs d (fun r _ hp => kk r  hp)
set_option maxRecDepth 100000 in
set_option maxHeartbeats 4000000 in
theorem c_Q_where {l : Launch} {D : va_G} {ad : Nat → Nat} {q_code q_many : Int32} {q_pin q_size q_bytes q_kind q_bank q_address q_full : Nat → Int32} {q_linked : Int32} {q_packedBank q_packedAddress : Nat → Int32} {q_banks : Int32} {q_memory q_register : Nat → Int32} {q_stack q_place q_zero q_less q_half q_carry q_enabled q_soon q_ram q_low q_top q_mode q_state q_sent : Int32} {q_out : Nat → Int32} {a1 : Int32} {P : Int32 → Prop} (hw : wp_Q_where q_banks q_ram q_low q_top q_mode a1 P) : ct_ l yQ_where bQ_where 2 (some .int) 0 0 D ad [.ref (ad 30), .int a1] (wM ad q_code q_many q_pin q_size q_bytes q_kind q_bank q_address q_full q_linked q_packedBank q_packedAddress q_banks q_memory q_register q_stack q_place q_zero q_less q_half q_carry q_enabled q_soon q_ram q_low q_top q_mode q_state q_sent q_out) (qi_ D (fun (r : Int32) (_ : Unit) => P r ) (fun _ => (wM ad q_code q_many q_pin q_size q_bytes q_kind q_bank q_address q_full q_linked q_packedBank q_packedAddress q_banks q_memory q_register q_stack q_place q_zero q_less q_half q_carry q_enabled q_soon q_ram q_low q_top q_mode q_state q_sent q_out))) := by
  refine ct_of RQ (by decide) rfl (Nat.le_of_ble_eq_true rfl) (fun G hl hD X hq => ?_)
  subst hl hD
  show go_ G 0 0 (wM ad q_code q_many q_pin q_size q_bytes q_kind q_bank q_address q_full q_linked q_packedBank q_packedAddress q_banks q_memory q_register q_stack q_place q_zero q_less q_half q_carry q_enabled q_soon q_ram q_low q_top q_mode q_state q_sent q_out) 0 [(0, .ref (ad 30)), (1, .int a1)] []
  refine go_iload_n X 1 dQ_where_0 rfl rfl ?_
  refine go_bipush X dQ_where_1 kc_b64 ?_
  refine go_icmp_ge X dQ_where_3 rfl (fun hc => ?_) (fun hc => ?_)
  · have hw := hw.1 hc
    refine go_iload_n X 1 dQ_where_35 rfl rfl ?_
    refine go_sipush X dQ_where_36 kc_s128 ?_
    refine go_icmp_ge X dQ_where_39 rfl (fun hc => ?_) (fun hc => ?_)
    · have hw := hw.1 hc
      refine go_iload_n X 1 dQ_where_67 rfl rfl ?_
      refine go_sipush X dQ_where_68 kc_s192 ?_
      refine go_icmp_ge X dQ_where_71 rfl (fun hc => ?_) (fun hc => ?_)
      · have hw := hw.1 hc
        refine go_sipush X dQ_where_117 kc_s640 ?_
        refine go_iload_n X 1 dQ_where_120 rfl rfl ?_
        refine go_iadd X dQ_where_121 ?_
        refine go_sipush X dQ_where_122 kc_s192 ?_
        refine go_isub X dQ_where_125 ?_
        exact go_ireturn X hq dQ_where_126 () hw rfl
      · have hw := hw.2 hc
        refine go_aload_n X 0 dQ_where_74 rfl rfl ?_
        refine gt_Q_78 X dQ_where_75 ?_
        refine go_if_ne X dQ_where_78 rfl (fun hc => ?_) (fun hc => ?_)
        · have hw := hw.1 hc
          refine go_sipush X dQ_where_87 kc_s512 ?_
          refine go_iload_n X 1 dQ_where_90 rfl rfl ?_
          refine go_iadd X dQ_where_91 ?_
          refine go_sipush X dQ_where_92 kc_s128 ?_
          refine go_isub X dQ_where_95 ?_
          refine go_aload_n X 0 dQ_where_96 rfl rfl ?_
          refine gt_Q_87 X dQ_where_97 ?_
          refine go_iconst X dQ_where_100 kc_i1 ?_
          refine go_icmp_ne X dQ_where_101 rfl (fun hc => ?_) (fun hc => ?_)
          · have hw := hw.1 hc
            refine go_iconst X dQ_where_114 kc_i0 ?_
            refine go_iadd X dQ_where_115 ?_
            exact go_ireturn X hq dQ_where_116 () hw rfl
          · have hw := hw.2 hc
            refine go_bipush X dQ_where_104 kc_b64 ?_
            refine go_aload_n X 0 dQ_where_106 rfl rfl ?_
            refine gt_Q_84 X dQ_where_107 ?_
            refine go_imul X dQ_where_110 ?_
            refine go_goto X dQ_where_111 rfl ?_
            refine go_iadd X dQ_where_115 ?_
            exact go_ireturn X hq dQ_where_116 () hw rfl
        · have hw := hw.2 hc
          refine go_sipush X dQ_where_81 kc_s704 ?_
          refine go_goto X dQ_where_84 rfl ?_
          exact go_ireturn X hq dQ_where_116 () hw rfl
    · have hw := hw.2 hc
      refine go_bipush X dQ_where_42 kc_b64 ?_
      refine go_iconst X dQ_where_44 kc_i4 ?_
      refine go_aload_n X 0 dQ_where_45 rfl rfl ?_
      refine gt_Q_84 X dQ_where_46 ?_
      refine go_imul X dQ_where_49 ?_
      refine go_aload_n X 0 dQ_where_50 rfl rfl ?_
      refine gt_Q_81 X dQ_where_51 ?_
      refine go_iadd X dQ_where_54 ?_
      refine go_aload_n X 0 dQ_where_55 rfl rfl ?_
      refine gt_Q_114 X dQ_where_56 ?_
      have hz := hw.1
      have hw := hw.2
      refine go_irem X dQ_where_59 hz ?_
      refine go_imul X dQ_where_60 ?_
      refine go_iload_n X 1 dQ_where_61 rfl rfl ?_
      refine go_iadd X dQ_where_62 ?_
      refine go_bipush X dQ_where_63 kc_b64 ?_
      refine go_isub X dQ_where_65 ?_
      exact go_ireturn X hq dQ_where_66 () hw rfl
  · have hw := hw.2 hc
    refine go_aload_n X 0 dQ_where_6 rfl rfl ?_
    refine gt_Q_87 X dQ_where_7 ?_
    refine go_iconst X dQ_where_10 kc_i1 ?_
    refine go_icmp_ne X dQ_where_11 rfl (fun hc => ?_) (fun hc => ?_)
    · have hw := hw.1 hc
      refine go_iload_n X 1 dQ_where_33 rfl rfl ?_
      exact go_ireturn X hq dQ_where_34 () hw rfl
    · have hw := hw.2 hc
      refine go_bipush X dQ_where_14 kc_b64 ?_
      refine go_iconst X dQ_where_16 kc_i4 ?_
      refine go_aload_n X 0 dQ_where_17 rfl rfl ?_
      refine gt_Q_84 X dQ_where_18 ?_
      refine go_imul X dQ_where_21 ?_
      refine go_aload_n X 0 dQ_where_22 rfl rfl ?_
      refine gt_Q_114 X dQ_where_23 ?_
      have hz := hw.1
      have hw := hw.2
      refine go_irem X dQ_where_26 hz ?_
      refine go_imul X dQ_where_27 ?_
      refine go_iload_n X 1 dQ_where_28 rfl rfl ?_
      refine go_iadd X dQ_where_29 ?_
      refine go_goto X dQ_where_30 rfl ?_
      exact go_ireturn X hq dQ_where_34 () hw rfl
theorem k_Q_where {G : gt_} {ad : Nat → Nat} {cc : ByteArray} {own : String} {fr lo n cells slots pc index : Nat} {lc : List (Nat × Value)} {rest : List Value} {q_code q_many : Int32} {q_pin q_size q_bytes q_kind q_bank q_address q_full : Nat → Int32} {q_linked : Int32} {q_packedBank q_packedAddress : Nat → Int32} {q_banks : Int32} {q_memory q_register : Nat → Int32} {q_stack q_place q_zero q_less q_half q_carry q_enabled q_soon q_ram q_low q_top q_mode q_state q_sent : Int32} {q_out : Nat → Int32} {a1 : Int32} {P : Int32 → Prop} (X : cx_ G ad cc own fr lo n) (hw : wp_Q_where q_banks q_ram q_low q_top q_mode a1 P) (m1 : Cond.methodLink own index yQ_where ∈ wS) (hlv : 0 + 1 ≤ fr ∧ 8 + (2 + 11) + 0 ≤ lo) (hrs : (rest.map fun v => v.category).sum ≤ 8) (hcs : cells ≤ (gR_ G).cells ∧ slots ≤ (gR_ G).slots) (d : decode cc pc = .ok (.invokevirtual index, 3))
    (kk : ∀ (r : Int32), P r → go_ G cells slots (wM ad q_code q_many q_pin q_size q_bytes q_kind q_bank q_address q_full q_linked q_packedBank q_packedAddress q_banks q_memory q_register q_stack q_place q_zero q_less q_half q_carry q_enabled q_soon q_ram q_low q_top q_mode q_state q_sent q_out) (pc + 3) lc (.int r :: rest)) : go_ G cells slots (wM ad q_code q_many q_pin q_size q_bytes q_kind q_bank q_address q_full q_linked q_packedBank q_packedAddress q_banks q_memory q_register q_stack q_place q_zero q_less q_half q_carry q_enabled q_soon q_ram q_low q_top q_mode q_state q_sent q_out) pc lc (.int a1 :: .ref (ad 30) :: rest) :=
  go_cvi X (c_Q_where hw) me_Q_where m1 hlv 0 rfl rfl rfl hrs hcs d (fun r _ hp => kk r  hp)
set_option maxRecDepth 100000 in
set_option maxHeartbeats 4000000 in
theorem c_Q_byteSent {l : Launch} {D : va_G} {ad : Nat → Nat} {q_code q_many : Int32} {q_pin q_size q_bytes q_kind q_bank q_address q_full : Nat → Int32} {q_linked : Int32} {q_packedBank q_packedAddress : Nat → Int32} {q_banks : Int32} {q_memory q_register : Nat → Int32} {q_stack q_place q_zero q_less q_half q_carry q_enabled q_soon q_ram q_low q_top q_mode q_state q_sent : Int32} {q_out : Nat → Int32} {a1 : Int32} {P : Int32 → (Int32) → Prop} (hw : wp_Q_byteSent q_code q_sent q_out a1 P) : ct_ l yQ_byteSent bQ_byteSent 2 (some .int) 1 22 D ad [.ref (ad 30), .int a1] (wM ad q_code q_many q_pin q_size q_bytes q_kind q_bank q_address q_full q_linked q_packedBank q_packedAddress q_banks q_memory q_register q_stack q_place q_zero q_less q_half q_carry q_enabled q_soon q_ram q_low q_top q_mode q_state q_sent q_out) (qi_ D (fun (r : Int32) (u : (Int32)) => P r u) (fun u => wM ad u q_many q_pin q_size q_bytes q_kind q_bank q_address q_full q_linked q_packedBank q_packedAddress q_banks q_memory q_register q_stack q_place q_zero q_less q_half q_carry q_enabled q_soon q_ram q_low q_top q_mode q_state q_sent q_out)) := by
  refine ct_of RQ (by decide) rfl (Nat.le_of_ble_eq_true rfl) (fun G hl hD X hq => ?_)
  subst hl hD
  show go_ G 0 0 (wM ad q_code q_many q_pin q_size q_bytes q_kind q_bank q_address q_full q_linked q_packedBank q_packedAddress q_banks q_memory q_register q_stack q_place q_zero q_less q_half q_carry q_enabled q_soon q_ram q_low q_top q_mode q_state q_sent q_out) 0 [(0, .ref (ad 30)), (1, .int a1)] []
  refine go_iload_n X 1 dQ_byteSent_0 rfl rfl ?_
  refine go_iconst X dQ_byteSent_1 kc_i0 ?_
  refine go_aload_n X 0 dQ_byteSent_2 rfl rfl ?_
  refine gt_Q_93 X dQ_byteSent_3 ?_
  refine go_iconst X dQ_byteSent_6 kc_i1 ?_
  refine go_isub X dQ_byteSent_7 ?_
  refine k_Q_outside X hw mw_Q_96 ⟨by decide, by decide⟩ (Nat.le_of_ble_eq_true rfl) ⟨Nat.zero_le _, Nat.zero_le _⟩ dQ_byteSent_8 (fun r1 hw => ?_)
  refine go_if_ne X dQ_byteSent_11 rfl (fun hc => ?_) (fun hc => ?_)
  · have hw := hw.1 hc
    refine go_aload_n X 0 dQ_byteSent_20 rfl rfl ?_
    refine go_iconst X dQ_byteSent_21 kc_i1 ?_
    refine k_Q_refuse X hw mw_Q_146 ⟨by decide, by decide⟩ (Nat.le_of_ble_eq_true rfl) ⟨Nat.zero_le _, Nat.zero_le _⟩ dQ_byteSent_22 (fun r2 w3 hw => ?_)
    exact go_ireturn X hq dQ_byteSent_25 w3 hw rfl
  · have hw := hw.2 hc
    refine go_iload_n X 1 dQ_byteSent_14 rfl rfl ?_
    refine go_bipush X dQ_byteSent_15 kc_b99 ?_
    refine go_icmp_le X dQ_byteSent_17 rfl (fun hc => ?_) (fun hc => ?_)
    · have hw := hw.1 hc
      refine go_aload_n X 0 dQ_byteSent_26 rfl rfl ?_
      refine go_iconst X dQ_byteSent_27 kc_i0 ?_
      refine pt_Q_49 X dQ_byteSent_28 ?_
      refine go_aload_n X 0 dQ_byteSent_31 rfl rfl ?_
      refine gt_Q_43 X dQ_byteSent_32 ?_
      refine go_iload_n X 1 dQ_byteSent_35 rfl rfl ?_
      have hz := hw.1
      have hw := hw.2
      refine ar_q_out X hz dQ_byteSent_36 ?_
      exact go_ireturn X hq dQ_byteSent_37 (0 : Int32) hw rfl
    · have hw := hw.2 hc
      refine go_aload_n X 0 dQ_byteSent_20 rfl rfl ?_
      refine go_iconst X dQ_byteSent_21 kc_i1 ?_
      refine k_Q_refuse X hw mw_Q_146 ⟨by decide, by decide⟩ (Nat.le_of_ble_eq_true rfl) ⟨Nat.zero_le _, Nat.zero_le _⟩ dQ_byteSent_22 (fun r4 w5 hw => ?_)
      exact go_ireturn X hq dQ_byteSent_25 w5 hw rfl
theorem k_Q_byteSent {G : gt_} {ad : Nat → Nat} {cc : ByteArray} {own : String} {fr lo n cells slots pc index : Nat} {lc : List (Nat × Value)} {rest : List Value} {q_code q_many : Int32} {q_pin q_size q_bytes q_kind q_bank q_address q_full : Nat → Int32} {q_linked : Int32} {q_packedBank q_packedAddress : Nat → Int32} {q_banks : Int32} {q_memory q_register : Nat → Int32} {q_stack q_place q_zero q_less q_half q_carry q_enabled q_soon q_ram q_low q_top q_mode q_state q_sent : Int32} {q_out : Nat → Int32} {a1 : Int32} {P : Int32 → (Int32) → Prop} (X : cx_ G ad cc own fr lo n) (hw : wp_Q_byteSent q_code q_sent q_out a1 P) (m1 : Cond.methodLink own index yQ_byteSent ∈ wS) (hlv : 1 + 1 ≤ fr ∧ 8 + (2 + 11) + 22 ≤ lo) (hrs : (rest.map fun v => v.category).sum ≤ 8) (hcs : cells ≤ (gR_ G).cells ∧ slots ≤ (gR_ G).slots) (d : decode cc pc = .ok (.invokevirtual index, 3))
    (kk : ∀ (r q_code' : Int32), P r q_code' → go_ G cells slots (wM ad q_code' q_many q_pin q_size q_bytes q_kind q_bank q_address q_full q_linked q_packedBank q_packedAddress q_banks q_memory q_register q_stack q_place q_zero q_less q_half q_carry q_enabled q_soon q_ram q_low q_top q_mode q_state q_sent q_out) (pc + 3) lc (.int r :: rest)) : go_ G cells slots (wM ad q_code q_many q_pin q_size q_bytes q_kind q_bank q_address q_full q_linked q_packedBank q_packedAddress q_banks q_memory q_register q_stack q_place q_zero q_less q_half q_carry q_enabled q_soon q_ram q_low q_top q_mode q_state q_sent q_out) pc lc (.int a1 :: .ref (ad 30) :: rest) :=
  go_cvi X (c_Q_byteSent hw) me_Q_byteSent m1 hlv 0 rfl rfl rfl hrs hcs d (fun r u hp => kk r u hp)
set_option maxRecDepth 100000 in
set_option maxHeartbeats 4000000 in
theorem c_Q_bytes {l : Launch} {D : va_G} {ad : Nat → Nat} {q_code q_many : Int32} {q_pin q_size q_bytes q_kind q_bank q_address q_full : Nat → Int32} {q_linked : Int32} {q_packedBank q_packedAddress : Nat → Int32} {q_banks : Int32} {q_memory q_register : Nat → Int32} {q_stack q_place q_zero q_less q_half q_carry q_enabled q_soon q_ram q_low q_top q_mode q_state q_sent : Int32} {q_out : Nat → Int32} {a1 a2 : Int32} {P : (Int32) → (Nat → Int32) → (Nat → Int32) → (Nat → Int32) → Prop} (hw : wp_Q_bytes q_code q_many q_size q_bytes q_kind a1 a2 P) : ct_ l yQ_bytes bQ_bytes 4 none 1 23 D ad [.ref (ad 30), .int a1, .int a2] (wM ad q_code q_many q_pin q_size q_bytes q_kind q_bank q_address q_full q_linked q_packedBank q_packedAddress q_banks q_memory q_register q_stack q_place q_zero q_less q_half q_carry q_enabled q_soon q_ram q_low q_top q_mode q_state q_sent q_out) (qv_ D (fun (u : (Int32) × (Nat → Int32) × (Nat → Int32) × (Nat → Int32)) => P u.1 u.2.1 u.2.2.1 u.2.2.2) (fun u => wM ad u.1 q_many q_pin u.2.1 u.2.2.1 u.2.2.2 q_bank q_address q_full q_linked q_packedBank q_packedAddress q_banks q_memory q_register q_stack q_place q_zero q_less q_half q_carry q_enabled q_soon q_ram q_low q_top q_mode q_state q_sent q_out)) := by
  refine ct_of RQ (by decide) rfl (Nat.le_of_ble_eq_true rfl) (fun G hl hD X hq => ?_)
  subst hl hD
  show go_ G 0 0 (wM ad q_code q_many q_pin q_size q_bytes q_kind q_bank q_address q_full q_linked q_packedBank q_packedAddress q_banks q_memory q_register q_stack q_place q_zero q_less q_half q_carry q_enabled q_soon q_ram q_low q_top q_mode q_state q_sent q_out) 0 [(0, .ref (ad 30)), (1, .int a1), (2, .int a2)] []
  have C34 : ∀ (n9 : Nat) (q_code : Int32) (q_size q_bytes q_kind : Nat → Int32) (x1 x3 : Int32), wp_Q_bytes_34 q_many P n9 q_code q_size q_bytes q_kind x1 x3 → go_ G 0 0 (wM ad q_code q_many q_pin q_size q_bytes q_kind q_bank q_address q_full q_linked q_packedBank q_packedAddress q_banks q_memory q_register q_stack q_place q_zero q_less q_half q_carry q_enabled q_soon q_ram q_low q_top q_mode q_state q_sent q_out) 34 [(0, .ref (ad 30)), (1, .int x1), (3, .int x3)] [] := by
    intro n9
    induction n9 with
    | zero =>
      intro q_code q_size q_bytes q_kind x1 x3 hw
      exact False.elim hw
    | succ n9 ih =>
      intro q_code q_size q_bytes q_kind x1 x3 hw
      refine go_iload_n X 2 dQ_bytes_34 rfl rfl ?_
      refine go_if_lt X dQ_bytes_35 rfl (fun hc => ?_) (fun hc => ?_)
      · have hw := hw.1 hc
        exact go_vreturn X hq dQ_bytes_62 (q_code, q_size, q_bytes, q_kind) hw rfl
      · have hw := hw.2 hc
        refine go_aload_n X 0 dQ_bytes_38 rfl rfl ?_
        refine gt_Q_49 X dQ_bytes_39 ?_
        refine go_if_ne X dQ_bytes_42 rfl (fun hc => ?_) (fun hc => ?_)
        · have hw := hw.1 hc
          exact go_vreturn X hq dQ_bytes_62 (q_code, q_size, q_bytes, q_kind) hw rfl
        · have hw := hw.2 hc
          refine go_aload_n X 0 dQ_bytes_45 rfl rfl ?_
          refine go_iconst X dQ_bytes_46 kc_i0 ?_
          refine go_iload_n X 1 dQ_bytes_47 rfl rfl ?_
          refine go_bipush X dQ_bytes_48 kc_b8 ?_
          refine go_iload_n X 2 dQ_bytes_50 rfl rfl ?_
          refine go_imul X dQ_bytes_51 ?_
          refine go_ishr X dQ_bytes_52 ?_
          refine k_Q_append X hw mw_Q_107 ⟨by decide, by decide⟩ (Nat.le_of_ble_eq_true rfl) ⟨Nat.zero_le _, Nat.zero_le _⟩ dQ_bytes_53 (fun w6 w7 w8 hw => ?_)
          refine go_iinc X 2 dQ_bytes_56 rfl (ki_m1 _) (by decide) rfl ?_
          refine go_goto X dQ_bytes_59 rfl ?_
          refine go_lc [1, 2, 0] rfl ?_
          exact ih _ _ _ _ _ _ hw
  refine go_aload_n X 0 dQ_bytes_0 rfl rfl ?_
  refine go_iload_n X 2 dQ_bytes_1 rfl rfl ?_
  refine go_iconst X dQ_bytes_2 kc_i1 ?_
  refine go_iconst X dQ_bytes_3 kc_i4 ?_
  refine k_Q_outside X hw mw_Q_96 ⟨by decide, by decide⟩ (Nat.le_of_ble_eq_true rfl) ⟨Nat.zero_le _, Nat.zero_le _⟩ dQ_bytes_4 (fun r1 hw => ?_)
  refine go_if_eq X dQ_bytes_7 rfl (fun hc => ?_) (fun hc => ?_)
  · have hw := hw.1 hc
    refine go_aload_n X 0 dQ_bytes_14 rfl rfl ?_
    refine go_iload_n X 2 dQ_bytes_15 rfl rfl ?_
    refine k_Q_room X hw mw_Q_103 ⟨by decide, by decide⟩ (Nat.le_of_ble_eq_true rfl) ⟨Nat.zero_le _, Nat.zero_le _⟩ dQ_bytes_16 (fun r2 hw => ?_)
    refine go_if_eq X dQ_bytes_19 rfl (fun hc => ?_) (fun hc => ?_)
    · have hw := hw.1 hc
      refine go_iconst X dQ_bytes_26 kc_i2 ?_
      refine pt_Q_49 X dQ_bytes_27 ?_
      refine go_iload_n X 2 dQ_bytes_30 rfl rfl ?_
      refine go_iconst X dQ_bytes_31 kc_i1 ?_
      refine go_isub X dQ_bytes_32 ?_
      refine go_nm (fun z3 ez3 => ?_)
      have hw := hw z3 ez3
      refine go_istore_n X dQ_bytes_33 rfl (by decide) rfl ?_
      refine go_lc [1, 2, 0] rfl ?_
      obtain ⟨j9, hw⟩ := hw
      exact C34 j9 _ _ _ _ _ _ hw
    · have hw := hw.2 hc
      refine go_iconst X dQ_bytes_22 kc_i0 ?_
      refine go_goto X dQ_bytes_23 rfl ?_
      refine pt_Q_49 X dQ_bytes_27 ?_
      refine go_iload_n X 2 dQ_bytes_30 rfl rfl ?_
      refine go_iconst X dQ_bytes_31 kc_i1 ?_
      refine go_isub X dQ_bytes_32 ?_
      refine go_nm (fun z4 ez4 => ?_)
      have hw := hw z4 ez4
      refine go_istore_n X dQ_bytes_33 rfl (by decide) rfl ?_
      refine go_lc [1, 2, 0] rfl ?_
      obtain ⟨j9, hw⟩ := hw
      exact C34 j9 _ _ _ _ _ _ hw
  · have hw := hw.2 hc
    refine go_iconst X dQ_bytes_10 kc_i1 ?_
    refine go_goto X dQ_bytes_11 rfl ?_
    refine pt_Q_49 X dQ_bytes_27 ?_
    refine go_iload_n X 2 dQ_bytes_30 rfl rfl ?_
    refine go_iconst X dQ_bytes_31 kc_i1 ?_
    refine go_isub X dQ_bytes_32 ?_
    refine go_nm (fun z5 ez5 => ?_)
    have hw := hw z5 ez5
    refine go_istore_n X dQ_bytes_33 rfl (by decide) rfl ?_
    refine go_lc [1, 2, 0] rfl ?_
    obtain ⟨j9, hw⟩ := hw
    exact C34 j9 _ _ _ _ _ _ hw
theorem k_Q_bytes {G : gt_} {ad : Nat → Nat} {cc : ByteArray} {own : String} {fr lo n cells slots pc index : Nat} {lc : List (Nat × Value)} {rest : List Value} {q_code q_many : Int32} {q_pin q_size q_bytes q_kind q_bank q_address q_full : Nat → Int32} {q_linked : Int32} {q_packedBank q_packedAddress : Nat → Int32} {q_banks : Int32} {q_memory q_register : Nat → Int32} {q_stack q_place q_zero q_less q_half q_carry q_enabled q_soon q_ram q_low q_top q_mode q_state q_sent : Int32} {q_out : Nat → Int32} {a1 a2 : Int32} {P : (Int32) → (Nat → Int32) → (Nat → Int32) → (Nat → Int32) → Prop} (X : cx_ G ad cc own fr lo n) (hw : wp_Q_bytes q_code q_many q_size q_bytes q_kind a1 a2 P) (m1 : Cond.methodLink own index yQ_bytes ∈ wS) (hlv : 1 + 1 ≤ fr ∧ 8 + (4 + 11) + 23 ≤ lo) (hrs : (rest.map fun v => v.category).sum ≤ 8) (hcs : cells ≤ (gR_ G).cells ∧ slots ≤ (gR_ G).slots) (d : decode cc pc = .ok (.invokevirtual index, 3))
    (kk : ∀ (q_code' : Int32) (q_size' q_bytes' q_kind' : Nat → Int32), P q_code' q_size' q_bytes' q_kind' → go_ G cells slots (wM ad q_code' q_many q_pin q_size' q_bytes' q_kind' q_bank q_address q_full q_linked q_packedBank q_packedAddress q_banks q_memory q_register q_stack q_place q_zero q_less q_half q_carry q_enabled q_soon q_ram q_low q_top q_mode q_state q_sent q_out) (pc + 3) lc (rest)) : go_ G cells slots (wM ad q_code q_many q_pin q_size q_bytes q_kind q_bank q_address q_full q_linked q_packedBank q_packedAddress q_banks q_memory q_register q_stack q_place q_zero q_less q_half q_carry q_enabled q_soon q_ram q_low q_top q_mode q_state q_sent q_out) pc lc (.int a2 :: .int a1 :: .ref (ad 30) :: rest) :=
  go_cvv X (c_Q_bytes hw) me_Q_bytes m1 hlv 0 rfl rfl rfl hrs hcs d (fun u hp => kk u.1 u.2.1 u.2.2.1 u.2.2.2 hp)
set_option maxRecDepth 100000 in
set_option maxHeartbeats 4000000 in
theorem c_Q_count {l : Launch} {D : va_G} {ad : Nat → Nat} {q_code q_many : Int32} {q_pin q_size q_bytes q_kind q_bank q_address q_full : Nat → Int32} {q_linked : Int32} {q_packedBank q_packedAddress : Nat → Int32} {q_banks : Int32} {q_memory q_register : Nat → Int32} {q_stack q_place q_zero q_less q_half q_carry q_enabled q_soon q_ram q_low q_top q_mode q_state q_sent : Int32} {q_out : Nat → Int32} {a1 a2 : Int32} {P : Int32 → (Int32) → (Int32) → (Int32) → (Int32) → Prop} (hw : wp_Q_count q_zero q_less q_half q_carry a1 a2 P) : ct_ l yQ_count bQ_count 5 (some .int) 1 26 D ad [.ref (ad 30), .int a1, .int a2] (wM ad q_code q_many q_pin q_size q_bytes q_kind q_bank q_address q_full q_linked q_packedBank q_packedAddress q_banks q_memory q_register q_stack q_place q_zero q_less q_half q_carry q_enabled q_soon q_ram q_low q_top q_mode q_state q_sent q_out) (qi_ D (fun (r : Int32) (u : (Int32) × (Int32) × (Int32) × (Int32)) => P r u.1 u.2.1 u.2.2.1 u.2.2.2) (fun u => wM ad q_code q_many q_pin q_size q_bytes q_kind q_bank q_address q_full q_linked q_packedBank q_packedAddress q_banks q_memory q_register q_stack q_place u.1 u.2.1 u.2.2.1 u.2.2.2 q_enabled q_soon q_ram q_low q_top q_mode q_state q_sent q_out)) := by
  refine ct_of RQ (by decide) rfl (Nat.le_of_ble_eq_true rfl) (fun G hl hD X hq => ?_)
  subst hl hD
  show go_ G 0 0 (wM ad q_code q_many q_pin q_size q_bytes q_kind q_bank q_address q_full q_linked q_packedBank q_packedAddress q_banks q_memory q_register q_stack q_place q_zero q_less q_half q_carry q_enabled q_soon q_ram q_low q_top q_mode q_state q_sent q_out) 0 [(0, .ref (ad 30)), (1, .int a1), (2, .int a2)] []
  refine go_aload_n X 0 dQ_count_0 rfl rfl ?_
  refine gt_Q_69 X dQ_count_1 ?_
  refine go_istore_n X dQ_count_4 rfl (by decide) rfl ?_
  refine go_iload_n X 3 dQ_count_5 rfl rfl ?_
  refine go_if_eq X dQ_count_6 rfl (fun hc => ?_) (fun hc => ?_)
  · have hw := hw.1 hc
    refine go_aload_n X 1 dQ_count_19 rfl rfl ?_
    refine go_iload_n X 2 dQ_count_20 rfl rfl ?_
    refine go_iconst X dQ_count_21 kc_i1 ?_
    refine go_iconst X dQ_count_22 kc_i0 ?_
    refine k_Q_take X hw mw_Q_162 ⟨by decide, by decide⟩ (Nat.le_of_ble_eq_true rfl) ⟨Nat.zero_le _, Nat.zero_le _⟩ dQ_count_23 (fun r1 w2 w3 w4 w5 hw => ?_)
    refine go_istore X dQ_count_26 (by decide) rfl ?_
    refine go_aload_n X 2 dQ_count_28 rfl rfl ?_
    refine go_iload_n X 1 dQ_count_29 rfl rfl ?_
    have hz := hw.1
    have hw := hw.2
    refine pt_Q_69 X hz dQ_count_30 ?_
    refine go_iload X 0 dQ_count_33 rfl ?_
    exact go_ireturn X hq dQ_count_35 (w2, w3, w4, q_carry) hw rfl
  · have hw := hw.2 hc
    refine go_aload_n X 1 dQ_count_9 rfl rfl ?_
    refine go_iload_n X 2 dQ_count_10 rfl rfl ?_
    refine go_iconst X dQ_count_11 kc_i1 ?_
    refine go_iconst X dQ_count_12 kc_i0 ?_
    refine k_Q_add X hw mw_Q_158 ⟨by decide, by decide⟩ (Nat.le_of_ble_eq_true rfl) ⟨Nat.zero_le _, Nat.zero_le _⟩ dQ_count_13 (fun r6 w7 w8 w9 w10 hw => ?_)
    refine go_goto X dQ_count_16 rfl ?_
    refine go_istore X dQ_count_26 (by decide) rfl ?_
    refine go_aload_n X 2 dQ_count_28 rfl rfl ?_
    refine go_iload_n X 1 dQ_count_29 rfl rfl ?_
    have hz := hw.1
    have hw := hw.2
    refine pt_Q_69 X hz dQ_count_30 ?_
    refine go_iload X 0 dQ_count_33 rfl ?_
    exact go_ireturn X hq dQ_count_35 (w7, w8, w9, q_carry) hw rfl
theorem k_Q_count {G : gt_} {ad : Nat → Nat} {cc : ByteArray} {own : String} {fr lo n cells slots pc index : Nat} {lc : List (Nat × Value)} {rest : List Value} {q_code q_many : Int32} {q_pin q_size q_bytes q_kind q_bank q_address q_full : Nat → Int32} {q_linked : Int32} {q_packedBank q_packedAddress : Nat → Int32} {q_banks : Int32} {q_memory q_register : Nat → Int32} {q_stack q_place q_zero q_less q_half q_carry q_enabled q_soon q_ram q_low q_top q_mode q_state q_sent : Int32} {q_out : Nat → Int32} {a1 a2 : Int32} {P : Int32 → (Int32) → (Int32) → (Int32) → (Int32) → Prop} (X : cx_ G ad cc own fr lo n) (hw : wp_Q_count q_zero q_less q_half q_carry a1 a2 P) (m1 : Cond.methodLink own index yQ_count ∈ wS) (hlv : 1 + 1 ≤ fr ∧ 8 + (5 + 11) + 26 ≤ lo) (hrs : (rest.map fun v => v.category).sum ≤ 8) (hcs : cells ≤ (gR_ G).cells ∧ slots ≤ (gR_ G).slots) (d : decode cc pc = .ok (.invokevirtual index, 3))
    (kk : ∀ (r q_zero' q_less' q_half' q_carry' : Int32), P r q_zero' q_less' q_half' q_carry' → go_ G cells slots (wM ad q_code q_many q_pin q_size q_bytes q_kind q_bank q_address q_full q_linked q_packedBank q_packedAddress q_banks q_memory q_register q_stack q_place q_zero' q_less' q_half' q_carry' q_enabled q_soon q_ram q_low q_top q_mode q_state q_sent q_out) (pc + 3) lc (.int r :: rest)) : go_ G cells slots (wM ad q_code q_many q_pin q_size q_bytes q_kind q_bank q_address q_full q_linked q_packedBank q_packedAddress q_banks q_memory q_register q_stack q_place q_zero q_less q_half q_carry q_enabled q_soon q_ram q_low q_top q_mode q_state q_sent q_out) pc lc (.int a2 :: .int a1 :: .ref (ad 30) :: rest) :=
  go_cvi X (c_Q_count hw) me_Q_count m1 hlv 0 rfl rfl rfl hrs hcs d (fun r u hp => kk r u.1 u.2.1 u.2.2.1 u.2.2.2 hp)
set_option maxRecDepth 100000 in
set_option maxHeartbeats 4000000 in
theorem c_Q_headByte {l : Launch} {D : va_G} {ad : Nat → Nat} {q_code q_many : Int32} {q_pin q_size q_bytes q_kind q_bank q_address q_full : Nat → Int32} {q_linked : Int32} {q_packedBank q_packedAddress : Nat → Int32} {q_banks : Int32} {q_memory q_register : Nat → Int32} {q_stack q_place q_zero q_less q_half q_carry q_enabled q_soon q_ram q_low q_top q_mode q_state q_sent : Int32} {q_out : Nat → Int32} {a1 : Int32} {P : Int32 → Prop} (hw : wp_Q_headByte q_address q_banks a1 P) : ct_ l yQ_headByte bQ_headByte 2 (some .int) 1 21 D ad [.ref (ad 30), .int a1] (wM ad q_code q_many q_pin q_size q_bytes q_kind q_bank q_address q_full q_linked q_packedBank q_packedAddress q_banks q_memory q_register q_stack q_place q_zero q_less q_half q_carry q_enabled q_soon q_ram q_low q_top q_mode q_state q_sent q_out) (qi_ D (fun (r : Int32) (_ : Unit) => P r ) (fun _ => (wM ad q_code q_many q_pin q_size q_bytes q_kind q_bank q_address q_full q_linked q_packedBank q_packedAddress q_banks q_memory q_register q_stack q_place q_zero q_less q_half q_carry q_enabled q_soon q_ram q_low q_top q_mode q_state q_sent q_out))) := by
  refine ct_of RQ (by decide) rfl (Nat.le_of_ble_eq_true rfl) (fun G hl hD X hq => ?_)
  subst hl hD
  show go_ G 0 0 (wM ad q_code q_many q_pin q_size q_bytes q_kind q_bank q_address q_full q_linked q_packedBank q_packedAddress q_banks q_memory q_register q_stack q_place q_zero q_less q_half q_carry q_enabled q_soon q_ram q_low q_top q_mode q_state q_sent q_out) 0 [(0, .ref (ad 30)), (1, .int a1)] []
  refine go_iload_n X 1 dQ_headByte_0 rfl rfl ?_
  refine go_iconst X dQ_headByte_1 kc_i2 ?_
  refine go_icmp_ge X dQ_headByte_2 rfl (fun hc => ?_) (fun hc => ?_)
  · have hw := hw.1 hc
    refine go_iload_n X 1 dQ_headByte_22 rfl rfl ?_
    refine go_bipush X dQ_headByte_23 kc_b7 ?_
    refine go_icmp_ge X dQ_headByte_25 rfl (fun hc => ?_) (fun hc => ?_)
    · have hw := hw.1 hc
      refine go_iload_n X 1 dQ_headByte_34 rfl rfl ?_
      refine go_bipush X dQ_headByte_35 kc_b16 ?_
      refine go_icmp_ge X dQ_headByte_37 rfl (fun hc => ?_) (fun hc => ?_)
      · have hw := hw.1 hc
        refine go_iload_n X 1 dQ_headByte_42 rfl rfl ?_
        refine go_iconst X dQ_headByte_43 kc_i4 ?_
        refine go_irem X dQ_headByte_44 (by decide) ?_
        refine go_if_ne X dQ_headByte_45 rfl (fun hc => ?_) (fun hc => ?_)
        · have hw := hw.1 hc
          refine go_iload_n X 1 dQ_headByte_52 rfl rfl ?_
          refine go_iconst X dQ_headByte_53 kc_i4 ?_
          refine go_irem X dQ_headByte_54 (by decide) ?_
          refine go_iconst X dQ_headByte_55 kc_i1 ?_
          refine go_icmp_ne X dQ_headByte_56 rfl (fun hc => ?_) (fun hc => ?_)
          · have hw := hw.1 hc
            refine go_iconst X dQ_headByte_64 kc_i0 ?_
            exact go_ireturn X hq dQ_headByte_65 () hw rfl
          · have hw := hw.2 hc
            refine go_bipush X dQ_headByte_59 kc_b10 ?_
            refine go_goto X dQ_headByte_61 rfl ?_
            exact go_ireturn X hq dQ_headByte_65 () hw rfl
        · have hw := hw.2 hc
          refine go_iconst X dQ_headByte_48 kc_i1 ?_
          refine go_goto X dQ_headByte_49 rfl ?_
          exact go_ireturn X hq dQ_headByte_65 () hw rfl
      · have hw := hw.2 hc
        refine go_iconst X dQ_headByte_40 kc_i0 ?_
        exact go_ireturn X hq dQ_headByte_41 () hw rfl
    · have hw := hw.2 hc
      refine go_aload_n X 0 dQ_headByte_28 rfl rfl ?_
      refine go_iload_n X 1 dQ_headByte_29 rfl rfl ?_
      refine k_Q_mark X hw mw_Q_118 ⟨by decide, by decide⟩ (Nat.le_of_ble_eq_true rfl) ⟨Nat.zero_le _, Nat.zero_le _⟩ dQ_headByte_30 (fun r1 hw => ?_)
      exact go_ireturn X hq dQ_headByte_33 () hw rfl
  · have hw := hw.2 hc
    refine go_iload_n X 1 dQ_headByte_5 rfl rfl ?_
    refine go_if_ne X dQ_headByte_6 rfl (fun hc => ?_) (fun hc => ?_)
    · have hw := hw.1 hc
      refine go_aload_n X 0 dQ_headByte_15 rfl rfl ?_
      refine gt_Q_25 X dQ_headByte_16 ?_
      refine go_iconst X dQ_headByte_19 kc_i0 ?_
      refine ar_q_address X vi_0_10 dQ_headByte_20 ?_
      exact go_ireturn X hq dQ_headByte_21 () hw rfl
    · have hw := hw.2 hc
      refine go_sipush X dQ_headByte_9 kc_s192 ?_
      refine go_goto X dQ_headByte_12 rfl ?_
      exact go_ireturn X hq dQ_headByte_21 () hw rfl
theorem k_Q_headByte {G : gt_} {ad : Nat → Nat} {cc : ByteArray} {own : String} {fr lo n cells slots pc index : Nat} {lc : List (Nat × Value)} {rest : List Value} {q_code q_many : Int32} {q_pin q_size q_bytes q_kind q_bank q_address q_full : Nat → Int32} {q_linked : Int32} {q_packedBank q_packedAddress : Nat → Int32} {q_banks : Int32} {q_memory q_register : Nat → Int32} {q_stack q_place q_zero q_less q_half q_carry q_enabled q_soon q_ram q_low q_top q_mode q_state q_sent : Int32} {q_out : Nat → Int32} {a1 : Int32} {P : Int32 → Prop} (X : cx_ G ad cc own fr lo n) (hw : wp_Q_headByte q_address q_banks a1 P) (m1 : Cond.methodLink own index yQ_headByte ∈ wS) (hlv : 1 + 1 ≤ fr ∧ 8 + (2 + 11) + 21 ≤ lo) (hrs : (rest.map fun v => v.category).sum ≤ 8) (hcs : cells ≤ (gR_ G).cells ∧ slots ≤ (gR_ G).slots) (d : decode cc pc = .ok (.invokevirtual index, 3))
    (kk : ∀ (r : Int32), P r → go_ G cells slots (wM ad q_code q_many q_pin q_size q_bytes q_kind q_bank q_address q_full q_linked q_packedBank q_packedAddress q_banks q_memory q_register q_stack q_place q_zero q_less q_half q_carry q_enabled q_soon q_ram q_low q_top q_mode q_state q_sent q_out) (pc + 3) lc (.int r :: rest)) : go_ G cells slots (wM ad q_code q_many q_pin q_size q_bytes q_kind q_bank q_address q_full q_linked q_packedBank q_packedAddress q_banks q_memory q_register q_stack q_place q_zero q_less q_half q_carry q_enabled q_soon q_ram q_low q_top q_mode q_state q_sent q_out) pc lc (.int a1 :: .ref (ad 30) :: rest) :=
  go_cvi X (c_Q_headByte hw) me_Q_headByte m1 hlv 0 rfl rfl rfl hrs hcs d (fun r _ hp => kk r  hp)
set_option maxRecDepth 100000 in
set_option maxHeartbeats 4000000 in
theorem c_Q_image {l : Launch} {D : va_G} {ad : Nat → Nat} {q_code q_many : Int32} {q_pin q_size q_bytes q_kind q_bank q_address q_full : Nat → Int32} {q_linked : Int32} {q_packedBank q_packedAddress : Nat → Int32} {q_banks : Int32} {q_memory q_register : Nat → Int32} {q_stack q_place q_zero q_less q_half q_carry q_enabled q_soon q_ram q_low q_top q_mode q_state q_sent : Int32} {q_out : Nat → Int32} {a1 : Int32} {P : Int32 → (Int32) → Prop} (hw : wp_Q_image q_code q_banks q_memory a1 P) : ct_ l yQ_image bQ_image 2 (some .int) 1 22 D ad [.ref (ad 30), .int a1] (wM ad q_code q_many q_pin q_size q_bytes q_kind q_bank q_address q_full q_linked q_packedBank q_packedAddress q_banks q_memory q_register q_stack q_place q_zero q_less q_half q_carry q_enabled q_soon q_ram q_low q_top q_mode q_state q_sent q_out) (qi_ D (fun (r : Int32) (u : (Int32)) => P r u) (fun u => wM ad u q_many q_pin q_size q_bytes q_kind q_bank q_address q_full q_linked q_packedBank q_packedAddress q_banks q_memory q_register q_stack q_place q_zero q_less q_half q_carry q_enabled q_soon q_ram q_low q_top q_mode q_state q_sent q_out)) := by
  refine ct_of RQ (by decide) rfl (Nat.le_of_ble_eq_true rfl) (fun G hl hD X hq => ?_)
  subst hl hD
  show go_ G 0 0 (wM ad q_code q_many q_pin q_size q_bytes q_kind q_bank q_address q_full q_linked q_packedBank q_packedAddress q_banks q_memory q_register q_stack q_place q_zero q_less q_half q_carry q_enabled q_soon q_ram q_low q_top q_mode q_state q_sent q_out) 0 [(0, .ref (ad 30)), (1, .int a1)] []
  refine go_iload_n X 1 dQ_image_0 rfl rfl ?_
  refine go_iconst X dQ_image_1 kc_i0 ?_
  refine go_bipush X dQ_image_2 kc_b64 ?_
  refine go_aload_n X 0 dQ_image_4 rfl rfl ?_
  refine gt_Q_114 X dQ_image_5 ?_
  refine go_imul X dQ_image_8 ?_
  refine go_iconst X dQ_image_9 kc_i1 ?_
  refine go_isub X dQ_image_10 ?_
  refine k_Q_outside X hw mw_Q_96 ⟨by decide, by decide⟩ (Nat.le_of_ble_eq_true rfl) ⟨Nat.zero_le _, Nat.zero_le _⟩ dQ_image_11 (fun r1 hw => ?_)
  refine go_if_eq X dQ_image_14 rfl (fun hc => ?_) (fun hc => ?_)
  · have hw := hw.1 hc
    refine go_aload_n X 0 dQ_image_23 rfl rfl ?_
    refine go_iconst X dQ_image_24 kc_i0 ?_
    refine pt_Q_49 X dQ_image_25 ?_
    refine go_aload_n X 0 dQ_image_28 rfl rfl ?_
    refine gt_Q_37 X dQ_image_29 ?_
    refine go_iload_n X 1 dQ_image_32 rfl rfl ?_
    have hz := hw.1
    have hw := hw.2
    refine ar_q_memory X hz dQ_image_33 ?_
    exact go_ireturn X hq dQ_image_34 (0 : Int32) hw rfl
  · have hw := hw.2 hc
    refine go_aload_n X 0 dQ_image_17 rfl rfl ?_
    refine go_iconst X dQ_image_18 kc_i1 ?_
    refine k_Q_refuse X hw mw_Q_146 ⟨by decide, by decide⟩ (Nat.le_of_ble_eq_true rfl) ⟨Nat.zero_le _, Nat.zero_le _⟩ dQ_image_19 (fun r2 w3 hw => ?_)
    exact go_ireturn X hq dQ_image_22 w3 hw rfl
theorem k_Q_image {G : gt_} {ad : Nat → Nat} {cc : ByteArray} {own : String} {fr lo n cells slots pc index : Nat} {lc : List (Nat × Value)} {rest : List Value} {q_code q_many : Int32} {q_pin q_size q_bytes q_kind q_bank q_address q_full : Nat → Int32} {q_linked : Int32} {q_packedBank q_packedAddress : Nat → Int32} {q_banks : Int32} {q_memory q_register : Nat → Int32} {q_stack q_place q_zero q_less q_half q_carry q_enabled q_soon q_ram q_low q_top q_mode q_state q_sent : Int32} {q_out : Nat → Int32} {a1 : Int32} {P : Int32 → (Int32) → Prop} (X : cx_ G ad cc own fr lo n) (hw : wp_Q_image q_code q_banks q_memory a1 P) (m1 : Cond.methodLink own index yQ_image ∈ wS) (hlv : 1 + 1 ≤ fr ∧ 8 + (2 + 11) + 22 ≤ lo) (hrs : (rest.map fun v => v.category).sum ≤ 8) (hcs : cells ≤ (gR_ G).cells ∧ slots ≤ (gR_ G).slots) (d : decode cc pc = .ok (.invokevirtual index, 3))
    (kk : ∀ (r q_code' : Int32), P r q_code' → go_ G cells slots (wM ad q_code' q_many q_pin q_size q_bytes q_kind q_bank q_address q_full q_linked q_packedBank q_packedAddress q_banks q_memory q_register q_stack q_place q_zero q_less q_half q_carry q_enabled q_soon q_ram q_low q_top q_mode q_state q_sent q_out) (pc + 3) lc (.int r :: rest)) : go_ G cells slots (wM ad q_code q_many q_pin q_size q_bytes q_kind q_bank q_address q_full q_linked q_packedBank q_packedAddress q_banks q_memory q_register q_stack q_place q_zero q_less q_half q_carry q_enabled q_soon q_ram q_low q_top q_mode q_state q_sent q_out) pc lc (.int a1 :: .ref (ad 30) :: rest) :=
  go_cvi X (c_Q_image hw) me_Q_image m1 hlv 0 rfl rfl rfl hrs hcs d (fun r u hp => kk r u hp)
set_option maxRecDepth 100000 in
set_option maxHeartbeats 4000000 in
theorem c_Q_mended {l : Launch} {D : va_G} {ad : Nat → Nat} {q_code q_many : Int32} {q_pin q_size q_bytes q_kind q_bank q_address q_full : Nat → Int32} {q_linked : Int32} {q_packedBank q_packedAddress : Nat → Int32} {q_banks : Int32} {q_memory q_register : Nat → Int32} {q_stack q_place q_zero q_less q_half q_carry q_enabled q_soon q_ram q_low q_top q_mode q_state q_sent : Int32} {q_out : Nat → Int32} {a1 a2 : Int32} {P : (Int32) → (Nat → Int32) → (Nat → Int32) → (Nat → Int32) → Prop} (hw : wp_Q_mended q_code q_many q_size q_bytes q_kind a1 a2 P) : ct_ l yQ_mended bQ_mended 3 none 1 23 D ad [.ref (ad 30), .int a1, .int a2] (wM ad q_code q_many q_pin q_size q_bytes q_kind q_bank q_address q_full q_linked q_packedBank q_packedAddress q_banks q_memory q_register q_stack q_place q_zero q_less q_half q_carry q_enabled q_soon q_ram q_low q_top q_mode q_state q_sent q_out) (qv_ D (fun (u : (Int32) × (Nat → Int32) × (Nat → Int32) × (Nat → Int32)) => P u.1 u.2.1 u.2.2.1 u.2.2.2) (fun u => wM ad u.1 q_many q_pin u.2.1 u.2.2.1 u.2.2.2 q_bank q_address q_full q_linked q_packedBank q_packedAddress q_banks q_memory q_register q_stack q_place q_zero q_less q_half q_carry q_enabled q_soon q_ram q_low q_top q_mode q_state q_sent q_out)) := by
  refine ct_of RQ (by decide) rfl (Nat.le_of_ble_eq_true rfl) (fun G hl hD X hq => ?_)
  subst hl hD
  show go_ G 0 0 (wM ad q_code q_many q_pin q_size q_bytes q_kind q_bank q_address q_full q_linked q_packedBank q_packedAddress q_banks q_memory q_register q_stack q_place q_zero q_less q_half q_carry q_enabled q_soon q_ram q_low q_top q_mode q_state q_sent q_out) 0 [(0, .ref (ad 30)), (1, .int a1), (2, .int a2)] []
  refine go_aload_n X 0 dQ_mended_0 rfl rfl ?_
  refine go_iload_n X 1 dQ_mended_1 rfl rfl ?_
  refine go_iconst X dQ_mended_2 kc_i1 ?_
  refine go_iconst X dQ_mended_3 kc_i2 ?_
  refine k_Q_outside X hw mw_Q_96 ⟨by decide, by decide⟩ (Nat.le_of_ble_eq_true rfl) ⟨Nat.zero_le _, Nat.zero_le _⟩ dQ_mended_4 (fun r1 hw => ?_)
  refine go_if_ne X dQ_mended_7 rfl (fun hc => ?_) (fun hc => ?_)
  · have hw := hw.1 hc
    refine go_iconst X dQ_mended_20 kc_i1 ?_
    refine go_goto X dQ_mended_21 rfl ?_
    refine pt_Q_49 X dQ_mended_37 ?_
    refine go_aload_n X 0 dQ_mended_40 rfl rfl ?_
    refine gt_Q_49 X dQ_mended_41 ?_
    refine go_if_ne X dQ_mended_44 rfl (fun _ => ?_) (fun h9 => absurd h9 (by decide))
    exact go_vreturn X hq dQ_mended_53 ((1 : Int32), q_size, q_bytes, q_kind) hw rfl
  · have hw := hw.2 hc
    refine go_iload_n X 2 dQ_mended_10 rfl rfl ?_
    refine go_iconst X dQ_mended_11 kc_i0 ?_
    refine go_bipush X dQ_mended_12 kc_b9 ?_
    refine k_Q_outside X hw mw_Q_96 ⟨by decide, by decide⟩ (Nat.le_of_ble_eq_true rfl) ⟨Nat.zero_le _, Nat.zero_le _⟩ dQ_mended_14 (fun r2 hw => ?_)
    refine go_if_eq X dQ_mended_17 rfl (fun hc => ?_) (fun hc => ?_)
    · have hw := hw.1 hc
      refine go_aload_n X 0 dQ_mended_24 rfl rfl ?_
      refine go_iconst X dQ_mended_25 kc_i1 ?_
      refine k_Q_room X hw mw_Q_103 ⟨by decide, by decide⟩ (Nat.le_of_ble_eq_true rfl) ⟨Nat.zero_le _, Nat.zero_le _⟩ dQ_mended_26 (fun r3 hw => ?_)
      refine go_if_eq X dQ_mended_29 rfl (fun hc => ?_) (fun hc => ?_)
      · have hw := hw.1 hc
        refine go_iconst X dQ_mended_36 kc_i2 ?_
        refine pt_Q_49 X dQ_mended_37 ?_
        refine go_aload_n X 0 dQ_mended_40 rfl rfl ?_
        refine gt_Q_49 X dQ_mended_41 ?_
        refine go_if_ne X dQ_mended_44 rfl (fun _ => ?_) (fun h9 => absurd h9 (by decide))
        exact go_vreturn X hq dQ_mended_53 ((2 : Int32), q_size, q_bytes, q_kind) hw rfl
      · have hw := hw.2 hc
        refine go_iconst X dQ_mended_32 kc_i0 ?_
        refine go_goto X dQ_mended_33 rfl ?_
        refine pt_Q_49 X dQ_mended_37 ?_
        refine go_aload_n X 0 dQ_mended_40 rfl rfl ?_
        refine gt_Q_49 X dQ_mended_41 ?_
        refine go_if_ne X dQ_mended_44 rfl (fun h9 => absurd h9 (by decide)) (fun _ => ?_)
        refine go_aload_n X 0 dQ_mended_47 rfl rfl ?_
        refine go_iload_n X 1 dQ_mended_48 rfl rfl ?_
        refine go_iload_n X 2 dQ_mended_49 rfl rfl ?_
        refine k_Q_append X hw mw_Q_107 ⟨by decide, by decide⟩ (Nat.le_of_ble_eq_true rfl) ⟨Nat.zero_le _, Nat.zero_le _⟩ dQ_mended_50 (fun w4 w5 w6 hw => ?_)
        exact go_vreturn X hq dQ_mended_53 ((0 : Int32), w4, w5, w6) hw rfl
    · have hw := hw.2 hc
      refine go_iconst X dQ_mended_20 kc_i1 ?_
      refine go_goto X dQ_mended_21 rfl ?_
      refine pt_Q_49 X dQ_mended_37 ?_
      refine go_aload_n X 0 dQ_mended_40 rfl rfl ?_
      refine gt_Q_49 X dQ_mended_41 ?_
      refine go_if_ne X dQ_mended_44 rfl (fun _ => ?_) (fun h9 => absurd h9 (by decide))
      exact go_vreturn X hq dQ_mended_53 ((1 : Int32), q_size, q_bytes, q_kind) hw rfl
theorem k_Q_mended {G : gt_} {ad : Nat → Nat} {cc : ByteArray} {own : String} {fr lo n cells slots pc index : Nat} {lc : List (Nat × Value)} {rest : List Value} {q_code q_many : Int32} {q_pin q_size q_bytes q_kind q_bank q_address q_full : Nat → Int32} {q_linked : Int32} {q_packedBank q_packedAddress : Nat → Int32} {q_banks : Int32} {q_memory q_register : Nat → Int32} {q_stack q_place q_zero q_less q_half q_carry q_enabled q_soon q_ram q_low q_top q_mode q_state q_sent : Int32} {q_out : Nat → Int32} {a1 a2 : Int32} {P : (Int32) → (Nat → Int32) → (Nat → Int32) → (Nat → Int32) → Prop} (X : cx_ G ad cc own fr lo n) (hw : wp_Q_mended q_code q_many q_size q_bytes q_kind a1 a2 P) (m1 : Cond.methodLink own index yQ_mended ∈ wS) (hlv : 1 + 1 ≤ fr ∧ 8 + (3 + 11) + 23 ≤ lo) (hrs : (rest.map fun v => v.category).sum ≤ 8) (hcs : cells ≤ (gR_ G).cells ∧ slots ≤ (gR_ G).slots) (d : decode cc pc = .ok (.invokevirtual index, 3))
    (kk : ∀ (q_code' : Int32) (q_size' q_bytes' q_kind' : Nat → Int32), P q_code' q_size' q_bytes' q_kind' → go_ G cells slots (wM ad q_code' q_many q_pin q_size' q_bytes' q_kind' q_bank q_address q_full q_linked q_packedBank q_packedAddress q_banks q_memory q_register q_stack q_place q_zero q_less q_half q_carry q_enabled q_soon q_ram q_low q_top q_mode q_state q_sent q_out) (pc + 3) lc (rest)) : go_ G cells slots (wM ad q_code q_many q_pin q_size q_bytes q_kind q_bank q_address q_full q_linked q_packedBank q_packedAddress q_banks q_memory q_register q_stack q_place q_zero q_less q_half q_carry q_enabled q_soon q_ram q_low q_top q_mode q_state q_sent q_out) pc lc (.int a2 :: .int a1 :: .ref (ad 30) :: rest) :=
  go_cvv X (c_Q_mended hw) me_Q_mended m1 hlv 0 rfl rfl rfl hrs hcs d (fun u hp => kk u.1 u.2.1 u.2.2.1 u.2.2.2 hp)
set_option maxRecDepth 100000 in
set_option maxHeartbeats 4000000 in
theorem c_Q_pack {l : Launch} {D : va_G} {ad : Nat → Nat} {q_code q_many : Int32} {q_pin q_size q_bytes q_kind q_bank q_address q_full : Nat → Int32} {q_linked : Int32} {q_packedBank q_packedAddress : Nat → Int32} {q_banks : Int32} {q_memory q_register : Nat → Int32} {q_stack q_place q_zero q_less q_half q_carry q_enabled q_soon q_ram q_low q_top q_mode q_state q_sent : Int32} {q_out : Nat → Int32} {a1 : Int32} {P : Int32 → (Nat → Int32) → (Nat → Int32) → (Nat → Int32) → Prop} (hw : wp_Q_pack q_many q_pin q_size q_bank q_address q_full a1 P) : ct_ l yQ_pack bQ_pack 5 (some .boolean) 1 23 D ad [.ref (ad 30), .int a1] (wM ad q_code q_many q_pin q_size q_bytes q_kind q_bank q_address q_full q_linked q_packedBank q_packedAddress q_banks q_memory q_register q_stack q_place q_zero q_less q_half q_carry q_enabled q_soon q_ram q_low q_top q_mode q_state q_sent q_out) (qi_ D (fun (r : Int32) (u : (Nat → Int32) × (Nat → Int32) × (Nat → Int32)) => P r u.1 u.2.1 u.2.2) (fun u => wM ad q_code q_many q_pin q_size q_bytes q_kind u.1 u.2.1 u.2.2 q_linked q_packedBank q_packedAddress q_banks q_memory q_register q_stack q_place q_zero q_less q_half q_carry q_enabled q_soon q_ram q_low q_top q_mode q_state q_sent q_out)) := by
  refine ct_of RQ (by decide) rfl (Nat.le_of_ble_eq_true rfl) (fun G hl hD X hq => ?_)
  subst hl hD
  show go_ G 0 0 (wM ad q_code q_many q_pin q_size q_bytes q_kind q_bank q_address q_full q_linked q_packedBank q_packedAddress q_banks q_memory q_register q_stack q_place q_zero q_less q_half q_carry q_enabled q_soon q_ram q_low q_top q_mode q_state q_sent q_out) 0 [(0, .ref (ad 30)), (1, .int a1)] []
  have C113 : ∀ (K76 : (Nat → Int32) → (Nat → Int32) → (Nat → Int32) → Int32 → Int32 → Prop) (hK76 : ∀ (q_bank q_address q_full : Nat → Int32) (x1 x2 : Int32), K76 q_bank q_address q_full x1 x2 → go_ G 0 0 (wM ad q_code q_many q_pin q_size q_bytes q_kind q_bank q_address q_full q_linked q_packedBank q_packedAddress q_banks q_memory q_register q_stack q_place q_zero q_less q_half q_carry q_enabled q_soon q_ram q_low q_top q_mode q_state q_sent q_out) 76 [(0, .ref (ad 30)), (1, .int x1), (2, .int x2)] []) (K82 : (Nat → Int32) → (Nat → Int32) → (Nat → Int32) → Int32 → Int32 → Int32 → Prop) (hK82 : ∀ (q_bank q_address q_full : Nat → Int32) (x1 x2 x3 : Int32), K82 q_bank q_address q_full x1 x2 x3 → go_ G 0 0 (wM ad q_code q_many q_pin q_size q_bytes q_kind q_bank q_address q_full q_linked q_packedBank q_packedAddress q_banks q_memory q_register q_stack q_place q_zero q_less q_half q_carry q_enabled q_soon q_ram q_low q_top q_mode q_state q_sent q_out) 82 [(0, .ref (ad 30)), (1, .int x1), (2, .int x2), (3, .int x3)] []) (n9 : Nat) (q_bank q_address q_full : Nat → Int32) (x1 x2 x3 x4 : Int32), wp_Q_pack_113 q_many q_pin q_size K76 K82 P n9 q_bank q_address q_full x1 x2 x3 x4 → go_ G 0 0 (wM ad q_code q_many q_pin q_size q_bytes q_kind q_bank q_address q_full q_linked q_packedBank q_packedAddress q_banks q_memory q_register q_stack q_place q_zero q_less q_half q_carry q_enabled q_soon q_ram q_low q_top q_mode q_state q_sent q_out) 113 [(0, .ref (ad 30)), (1, .int x1), (2, .int x2), (3, .int x3), (4, .int x4)] [] := by
    intro K76 hK76 K82 hK82 n9
    induction n9 with
    | zero =>
      intro q_bank q_address q_full x1 x2 x3 x4 hw
      exact False.elim hw
    | succ n9 ih =>
      intro q_bank q_address q_full x1 x2 x3 x4 hw
      refine go_iload X 4 dQ_pack_113 rfl ?_
      refine go_iload_n X 1 dQ_pack_115 rfl rfl ?_
      refine go_icmp_ge X dQ_pack_116 rfl (fun hc => ?_) (fun hc => ?_)
      · have hw := hw.1 hc
        refine go_iload X 4 dQ_pack_136 rfl ?_
        refine go_iload_n X 1 dQ_pack_138 rfl rfl ?_
        refine go_icmp_ne X dQ_pack_139 rfl (fun hc => ?_) (fun hc => ?_)
        · have hw := hw.1 hc
          refine go_iinc X 3 dQ_pack_144 rfl (ki_1 _) (by decide) rfl ?_
          refine go_goto X dQ_pack_147 rfl ?_
          refine go_lc [1, 2, 3, 0] rfl ?_
          exact hK82 _ _ _ _ _ _ hw
        · have hw := hw.2 hc
          refine go_iconst X dQ_pack_142 kc_i0 ?_
          exact go_zreturn X hq dQ_pack_143 (Or.inl rfl) (q_bank, q_address, q_full) hw rfl
      · have hw := hw.2 hc
        refine go_aload_n X 0 dQ_pack_119 rfl rfl ?_
        refine go_iload_n X 3 dQ_pack_120 rfl rfl ?_
        refine go_iload X 4 dQ_pack_121 rfl ?_
        refine go_iload_n X 1 dQ_pack_123 rfl rfl ?_
        refine k_Q_put X hw mw_Q_111 ⟨by decide, by decide⟩ (Nat.le_of_ble_eq_true rfl) ⟨Nat.zero_le _, Nat.zero_le _⟩ dQ_pack_124 (fun r5 w6 w7 w8 hw => ?_)
        refine go_if_ne X dQ_pack_127 rfl (fun hc => ?_) (fun hc => ?_)
        · have hw := hw.1 hc
          refine go_iload X 4 dQ_pack_136 rfl ?_
          refine go_iload_n X 1 dQ_pack_138 rfl rfl ?_
          refine go_icmp_ne X dQ_pack_139 rfl (fun hc => ?_) (fun hc => ?_)
          · have hw := hw.1 hc
            refine go_iinc X 3 dQ_pack_144 rfl (ki_1 _) (by decide) rfl ?_
            refine go_goto X dQ_pack_147 rfl ?_
            refine go_lc [1, 2, 3, 0] rfl ?_
            exact hK82 _ _ _ _ _ _ hw
          · have hw := hw.2 hc
            refine go_iconst X dQ_pack_142 kc_i0 ?_
            exact go_zreturn X hq dQ_pack_143 (Or.inl rfl) (w6, w7, w8) hw rfl
        · have hw := hw.2 hc
          refine go_iinc X 4 dQ_pack_130 rfl (ki_1 _) (by decide) rfl ?_
          refine go_goto X dQ_pack_133 rfl ?_
          refine go_lc [1, 2, 3, 4, 0] rfl ?_
          exact ih _ _ _ _ _ _ _ hw
  have C82 : ∀ (K76 : (Nat → Int32) → (Nat → Int32) → (Nat → Int32) → Int32 → Int32 → Prop) (hK76 : ∀ (q_bank q_address q_full : Nat → Int32) (x1 x2 : Int32), K76 q_bank q_address q_full x1 x2 → go_ G 0 0 (wM ad q_code q_many q_pin q_size q_bytes q_kind q_bank q_address q_full q_linked q_packedBank q_packedAddress q_banks q_memory q_register q_stack q_place q_zero q_less q_half q_carry q_enabled q_soon q_ram q_low q_top q_mode q_state q_sent q_out) 76 [(0, .ref (ad 30)), (1, .int x1), (2, .int x2)] []) (n9 : Nat) (q_bank q_address q_full : Nat → Int32) (x1 x2 x3 : Int32), wp_Q_pack_82 q_many q_pin q_size K76 P n9 q_bank q_address q_full x1 x2 x3 → go_ G 0 0 (wM ad q_code q_many q_pin q_size q_bytes q_kind q_bank q_address q_full q_linked q_packedBank q_packedAddress q_banks q_memory q_register q_stack q_place q_zero q_less q_half q_carry q_enabled q_soon q_ram q_low q_top q_mode q_state q_sent q_out) 82 [(0, .ref (ad 30)), (1, .int x1), (2, .int x2), (3, .int x3)] [] := by
    intro K76 hK76 n9
    induction n9 with
    | zero =>
      intro q_bank q_address q_full x1 x2 x3 hw
      exact False.elim hw
    | succ n9 ih =>
      intro q_bank q_address q_full x1 x2 x3 hw
      refine go_iload_n X 3 dQ_pack_82 rfl rfl ?_
      refine go_aload_n X 0 dQ_pack_83 rfl rfl ?_
      refine gt_Q_100 X dQ_pack_84 ?_
      refine go_icmp_ge X dQ_pack_87 rfl (fun hc => ?_) (fun hc => ?_)
      · have hw := hw.1 hc
        refine go_iinc X 2 dQ_pack_150 rfl (ki_m1 _) (by decide) rfl ?_
        refine go_goto X dQ_pack_153 rfl ?_
        refine go_lc [1, 2, 0] rfl ?_
        exact hK76 _ _ _ _ _ hw
      · have hw := hw.2 hc
        refine go_aload_n X 0 dQ_pack_90 rfl rfl ?_
        refine gt_Q_7 X dQ_pack_91 ?_
        refine go_iload_n X 3 dQ_pack_94 rfl rfl ?_
        have hz := hw.1
        have hw := hw.2
        refine ar_q_pin X hz dQ_pack_95 ?_
        refine go_iconst X dQ_pack_96 kc_im1 ?_
        refine go_icmp_ne X dQ_pack_97 rfl (fun hc => ?_) (fun hc => ?_)
        · have hw := hw.1 hc
          refine go_iinc X 3 dQ_pack_144 rfl (ki_1 _) (by decide) rfl ?_
          refine go_goto X dQ_pack_147 rfl ?_
          refine go_lc [1, 2, 3, 0] rfl ?_
          exact ih _ _ _ _ _ _ hw
        · have hw := hw.2 hc
          refine go_aload_n X 0 dQ_pack_100 rfl rfl ?_
          refine gt_Q_13 X dQ_pack_101 ?_
          refine go_iload_n X 3 dQ_pack_104 rfl rfl ?_
          have hz := hw.1
          have hw := hw.2
          refine ar_q_size X hz dQ_pack_105 ?_
          refine go_iload_n X 2 dQ_pack_106 rfl rfl ?_
          refine go_icmp_ne X dQ_pack_107 rfl (fun hc => ?_) (fun hc => ?_)
          · have hw := hw.1 hc
            refine go_iinc X 3 dQ_pack_144 rfl (ki_1 _) (by decide) rfl ?_
            refine go_goto X dQ_pack_147 rfl ?_
            refine go_lc [1, 2, 3, 0] rfl ?_
            exact ih _ _ _ _ _ _ hw
          · have hw := hw.2 hc
            refine go_iconst X dQ_pack_110 kc_i0 ?_
            refine go_istore X dQ_pack_111 (by decide) rfl ?_
            refine go_lc [1, 2, 3, 4, 0] rfl ?_
            obtain ⟨j9, hw⟩ := hw
            exact C113 K76 hK76 (wp_Q_pack_82 q_many q_pin q_size K76 P n9) ih j9 _ _ _ _ _ _ _ hw
  have C76 : ∀ (n9 : Nat) (q_bank q_address q_full : Nat → Int32) (x1 x2 : Int32), wp_Q_pack_76 q_many q_pin q_size P n9 q_bank q_address q_full x1 x2 → go_ G 0 0 (wM ad q_code q_many q_pin q_size q_bytes q_kind q_bank q_address q_full q_linked q_packedBank q_packedAddress q_banks q_memory q_register q_stack q_place q_zero q_less q_half q_carry q_enabled q_soon q_ram q_low q_top q_mode q_state q_sent q_out) 76 [(0, .ref (ad 30)), (1, .int x1), (2, .int x2)] [] := by
    intro n9
    induction n9 with
    | zero =>
      intro q_bank q_address q_full x1 x2 hw
      exact False.elim hw
    | succ n9 ih =>
      intro q_bank q_address q_full x1 x2 hw
      refine go_iload_n X 2 dQ_pack_76 rfl rfl ?_
      refine go_if_lt X dQ_pack_77 rfl (fun hc => ?_) (fun hc => ?_)
      · have hw := hw.1 hc
        refine go_iconst X dQ_pack_156 kc_i1 ?_
        exact go_zreturn X hq dQ_pack_157 (Or.inr rfl) (q_bank, q_address, q_full) hw rfl
      · have hw := hw.2 hc
        refine go_iconst X dQ_pack_80 kc_i0 ?_
        refine go_istore_n X dQ_pack_81 rfl (by decide) rfl ?_
        refine go_lc [1, 2, 3, 0] rfl ?_
        obtain ⟨j9, hw⟩ := hw
        exact C82 (wp_Q_pack_76 q_many q_pin q_size P n9) ih j9 _ _ _ _ _ _ hw
  have C32 : ∀ (n9 : Nat) (q_bank q_address q_full : Nat → Int32) (x1 x2 : Int32), wp_Q_pack_32 q_many q_pin q_size P n9 q_bank q_address q_full x1 x2 → go_ G 0 0 (wM ad q_code q_many q_pin q_size q_bytes q_kind q_bank q_address q_full q_linked q_packedBank q_packedAddress q_banks q_memory q_register q_stack q_place q_zero q_less q_half q_carry q_enabled q_soon q_ram q_low q_top q_mode q_state q_sent q_out) 32 [(0, .ref (ad 30)), (1, .int x1), (2, .int x2)] [] := by
    intro n9
    induction n9 with
    | zero =>
      intro q_bank q_address q_full x1 x2 hw
      exact False.elim hw
    | succ n9 ih =>
      intro q_bank q_address q_full x1 x2 hw
      refine go_iload_n X 2 dQ_pack_32 rfl rfl ?_
      refine go_aload_n X 0 dQ_pack_33 rfl rfl ?_
      refine gt_Q_100 X dQ_pack_34 ?_
      refine go_icmp_ge X dQ_pack_37 rfl (fun hc => ?_) (fun hc => ?_)
      · have hw := hw.1 hc
        refine go_bipush X dQ_pack_73 kc_b48 ?_
        refine go_istore_n X dQ_pack_75 rfl (by decide) rfl ?_
        refine go_lc [1, 2, 0] rfl ?_
        obtain ⟨j9, hw⟩ := hw
        exact C76 j9 _ _ _ _ _ hw
      · have hw := hw.2 hc
        refine go_aload_n X 0 dQ_pack_40 rfl rfl ?_
        refine gt_Q_7 X dQ_pack_41 ?_
        refine go_iload_n X 2 dQ_pack_44 rfl rfl ?_
        have hz := hw.1
        have hw := hw.2
        refine ar_q_pin X hz dQ_pack_45 ?_
        refine go_iconst X dQ_pack_46 kc_im1 ?_
        refine go_icmp_eq X dQ_pack_47 rfl (fun hc => ?_) (fun hc => ?_)
        · have hw := hw.1 hc
          refine go_iinc X 2 dQ_pack_67 rfl (ki_1 _) (by decide) rfl ?_
          refine go_goto X dQ_pack_70 rfl ?_
          refine go_lc [1, 2, 0] rfl ?_
          exact ih _ _ _ _ _ hw
        · have hw := hw.2 hc
          refine go_aload_n X 0 dQ_pack_50 rfl rfl ?_
          refine go_iload_n X 2 dQ_pack_51 rfl rfl ?_
          refine go_aload_n X 0 dQ_pack_52 rfl rfl ?_
          refine gt_Q_7 X dQ_pack_53 ?_
          refine go_iload_n X 2 dQ_pack_56 rfl rfl ?_
          have hz := hw.1
          have hw := hw.2
          refine ar_q_pin X hz dQ_pack_57 ?_
          refine go_iload_n X 1 dQ_pack_58 rfl rfl ?_
          refine k_Q_put X hw mw_Q_111 ⟨by decide, by decide⟩ (Nat.le_of_ble_eq_true rfl) ⟨Nat.zero_le _, Nat.zero_le _⟩ dQ_pack_59 (fun r1 w2 w3 w4 hw => ?_)
          refine go_if_ne X dQ_pack_62 rfl (fun hc => ?_) (fun hc => ?_)
          · have hw := hw.1 hc
            refine go_iinc X 2 dQ_pack_67 rfl (ki_1 _) (by decide) rfl ?_
            refine go_goto X dQ_pack_70 rfl ?_
            refine go_lc [1, 2, 0] rfl ?_
            exact ih _ _ _ _ _ hw
          · have hw := hw.2 hc
            refine go_iconst X dQ_pack_65 kc_i0 ?_
            exact go_zreturn X hq dQ_pack_66 (Or.inl rfl) (w2, w3, w4) hw rfl
  have C2 : ∀ (n9 : Nat) (q_bank q_address q_full : Nat → Int32) (x1 x2 : Int32), wp_Q_pack_2 q_many q_pin q_size P n9 q_bank q_address q_full x1 x2 → go_ G 0 0 (wM ad q_code q_many q_pin q_size q_bytes q_kind q_bank q_address q_full q_linked q_packedBank q_packedAddress q_banks q_memory q_register q_stack q_place q_zero q_less q_half q_carry q_enabled q_soon q_ram q_low q_top q_mode q_state q_sent q_out) 2 [(0, .ref (ad 30)), (1, .int x1), (2, .int x2)] [] := by
    intro n9
    induction n9 with
    | zero =>
      intro q_bank q_address q_full x1 x2 hw
      exact False.elim hw
    | succ n9 ih =>
      intro q_bank q_address q_full x1 x2 hw
      refine go_iload_n X 2 dQ_pack_2 rfl rfl ?_
      refine go_bipush X dQ_pack_3 kc_b8 ?_
      refine go_icmp_ge X dQ_pack_5 rfl (fun hc => ?_) (fun hc => ?_)
      · have hw := hw.1 hc
        refine go_iconst X dQ_pack_30 kc_i0 ?_
        refine go_istore_n X dQ_pack_31 rfl (by decide) rfl ?_
        refine go_lc [1, 2, 0] rfl ?_
        obtain ⟨j9, hw⟩ := hw
        exact C32 j9 _ _ _ _ _ hw
      · have hw := hw.2 hc
        refine go_aload_n X 0 dQ_pack_8 rfl rfl ?_
        refine gt_Q_28 X dQ_pack_9 ?_
        refine go_iload_n X 2 dQ_pack_12 rfl rfl ?_
        refine go_iload_n X 2 dQ_pack_13 rfl rfl ?_
        refine go_if_ne X dQ_pack_14 rfl (fun hc => ?_) (fun hc => ?_)
        · have hw := hw.1 hc
          refine go_iconst X dQ_pack_22 kc_i0 ?_
          have hz := hw.1
          have hw := hw.2
          refine as_q_full X hz dQ_pack_23 ?_
          refine go_iinc X 2 dQ_pack_24 rfl (ki_1 _) (by decide) rfl ?_
          refine go_goto X dQ_pack_27 rfl ?_
          refine go_lc [1, 2, 0] rfl ?_
          exact ih _ _ _ _ _ hw
        · have hw := hw.2 hc
          refine go_bipush X dQ_pack_17 kc_b32 ?_
          refine go_goto X dQ_pack_19 rfl ?_
          have hz := hw.1
          have hw := hw.2
          refine as_q_full X hz dQ_pack_23 ?_
          refine go_iinc X 2 dQ_pack_24 rfl (ki_1 _) (by decide) rfl ?_
          refine go_goto X dQ_pack_27 rfl ?_
          refine go_lc [1, 2, 0] rfl ?_
          exact ih _ _ _ _ _ hw
  refine go_iconst X dQ_pack_0 kc_i0 ?_
  refine go_istore_n X dQ_pack_1 rfl (by decide) rfl ?_
  refine go_lc [1, 2, 0] rfl ?_
  obtain ⟨j9, hw⟩ := hw
  exact C2 j9 _ _ _ _ _ hw
theorem k_Q_pack {G : gt_} {ad : Nat → Nat} {cc : ByteArray} {own : String} {fr lo n cells slots pc index : Nat} {lc : List (Nat × Value)} {rest : List Value} {q_code q_many : Int32} {q_pin q_size q_bytes q_kind q_bank q_address q_full : Nat → Int32} {q_linked : Int32} {q_packedBank q_packedAddress : Nat → Int32} {q_banks : Int32} {q_memory q_register : Nat → Int32} {q_stack q_place q_zero q_less q_half q_carry q_enabled q_soon q_ram q_low q_top q_mode q_state q_sent : Int32} {q_out : Nat → Int32} {a1 : Int32} {P : Int32 → (Nat → Int32) → (Nat → Int32) → (Nat → Int32) → Prop} (X : cx_ G ad cc own fr lo n) (hw : wp_Q_pack q_many q_pin q_size q_bank q_address q_full a1 P) (m1 : Cond.methodLink own index yQ_pack ∈ wS) (hlv : 1 + 1 ≤ fr ∧ 8 + (5 + 11) + 23 ≤ lo) (hrs : (rest.map fun v => v.category).sum ≤ 8) (hcs : cells ≤ (gR_ G).cells ∧ slots ≤ (gR_ G).slots) (d : decode cc pc = .ok (.invokevirtual index, 3))
    (kk : ∀ (r : Int32) (q_bank' q_address' q_full' : Nat → Int32), P r q_bank' q_address' q_full' → go_ G cells slots (wM ad q_code q_many q_pin q_size q_bytes q_kind q_bank' q_address' q_full' q_linked q_packedBank q_packedAddress q_banks q_memory q_register q_stack q_place q_zero q_less q_half q_carry q_enabled q_soon q_ram q_low q_top q_mode q_state q_sent q_out) (pc + 3) lc (.int r :: rest)) : go_ G cells slots (wM ad q_code q_many q_pin q_size q_bytes q_kind q_bank q_address q_full q_linked q_packedBank q_packedAddress q_banks q_memory q_register q_stack q_place q_zero q_less q_half q_carry q_enabled q_soon q_ram q_low q_top q_mode q_state q_sent q_out) pc lc (.int a1 :: .ref (ad 30) :: rest) :=
  go_cvi X (c_Q_pack hw) me_Q_pack m1 hlv 0 rfl rfl rfl hrs hcs d (fun r u hp => kk r u.1 u.2.1 u.2.2 hp)
set_option maxRecDepth 100000 in
set_option maxHeartbeats 4000000 in
theorem c_Q_packed {l : Launch} {D : va_G} {ad : Nat → Nat} {q_code q_many : Int32} {q_pin q_size q_bytes q_kind q_bank q_address q_full : Nat → Int32} {q_linked : Int32} {q_packedBank q_packedAddress : Nat → Int32} {q_banks : Int32} {q_memory q_register : Nat → Int32} {q_stack q_place q_zero q_less q_half q_carry q_enabled q_soon q_ram q_low q_top q_mode q_state q_sent : Int32} {q_out : Nat → Int32} {a1 a2 : Int32} {P : Int32 → (Int32) → Prop} (hw : wp_Q_packed q_code q_linked q_packedBank q_packedAddress a1 a2 P) : ct_ l yQ_packed bQ_packed 3 (some .int) 1 22 D ad [.ref (ad 30), .int a1, .int a2] (wM ad q_code q_many q_pin q_size q_bytes q_kind q_bank q_address q_full q_linked q_packedBank q_packedAddress q_banks q_memory q_register q_stack q_place q_zero q_less q_half q_carry q_enabled q_soon q_ram q_low q_top q_mode q_state q_sent q_out) (qi_ D (fun (r : Int32) (u : (Int32)) => P r u) (fun u => wM ad u q_many q_pin q_size q_bytes q_kind q_bank q_address q_full q_linked q_packedBank q_packedAddress q_banks q_memory q_register q_stack q_place q_zero q_less q_half q_carry q_enabled q_soon q_ram q_low q_top q_mode q_state q_sent q_out)) := by
  refine ct_of RQ (by decide) rfl (Nat.le_of_ble_eq_true rfl) (fun G hl hD X hq => ?_)
  subst hl hD
  show go_ G 0 0 (wM ad q_code q_many q_pin q_size q_bytes q_kind q_bank q_address q_full q_linked q_packedBank q_packedAddress q_banks q_memory q_register q_stack q_place q_zero q_less q_half q_carry q_enabled q_soon q_ram q_low q_top q_mode q_state q_sent q_out) 0 [(0, .ref (ad 30)), (1, .int a1), (2, .int a2)] []
  refine go_iload_n X 1 dQ_packed_0 rfl rfl ?_
  refine go_iconst X dQ_packed_1 kc_i0 ?_
  refine go_aload_n X 0 dQ_packed_2 rfl rfl ?_
  refine gt_Q_143 X dQ_packed_3 ?_
  refine go_iconst X dQ_packed_6 kc_i1 ?_
  refine go_isub X dQ_packed_7 ?_
  refine k_Q_outside X hw mw_Q_96 ⟨by decide, by decide⟩ (Nat.le_of_ble_eq_true rfl) ⟨Nat.zero_le _, Nat.zero_le _⟩ dQ_packed_8 (fun r1 hw => ?_)
  refine go_if_ne X dQ_packed_11 rfl (fun hc => ?_) (fun hc => ?_)
  · have hw := hw.1 hc
    refine go_aload_n X 0 dQ_packed_23 rfl rfl ?_
    refine go_iconst X dQ_packed_24 kc_i1 ?_
    refine k_Q_refuse X hw mw_Q_146 ⟨by decide, by decide⟩ (Nat.le_of_ble_eq_true rfl) ⟨Nat.zero_le _, Nat.zero_le _⟩ dQ_packed_25 (fun r2 w3 hw => ?_)
    exact go_ireturn X hq dQ_packed_28 w3 hw rfl
  · have hw := hw.2 hc
    refine go_iload_n X 2 dQ_packed_14 rfl rfl ?_
    refine go_iconst X dQ_packed_15 kc_i0 ?_
    refine go_iconst X dQ_packed_16 kc_i1 ?_
    refine k_Q_outside X hw mw_Q_96 ⟨by decide, by decide⟩ (Nat.le_of_ble_eq_true rfl) ⟨Nat.zero_le _, Nat.zero_le _⟩ dQ_packed_17 (fun r4 hw => ?_)
    refine go_if_eq X dQ_packed_20 rfl (fun hc => ?_) (fun hc => ?_)
    · have hw := hw.1 hc
      refine go_aload_n X 0 dQ_packed_29 rfl rfl ?_
      refine go_iconst X dQ_packed_30 kc_i0 ?_
      refine pt_Q_49 X dQ_packed_31 ?_
      refine go_iload_n X 2 dQ_packed_34 rfl rfl ?_
      refine go_if_ne X dQ_packed_35 rfl (fun hc => ?_) (fun hc => ?_)
      · have hw := hw.1 hc
        refine go_aload_n X 0 dQ_packed_47 rfl rfl ?_
        refine gt_Q_34 X dQ_packed_48 ?_
        refine go_iload_n X 1 dQ_packed_51 rfl rfl ?_
        have hz := hw.1
        have hw := hw.2
        refine ar_q_packedAddress X hz dQ_packed_52 ?_
        exact go_ireturn X hq dQ_packed_53 (0 : Int32) hw rfl
      · have hw := hw.2 hc
        refine go_aload_n X 0 dQ_packed_38 rfl rfl ?_
        refine gt_Q_31 X dQ_packed_39 ?_
        refine go_iload_n X 1 dQ_packed_42 rfl rfl ?_
        have hz := hw.1
        have hw := hw.2
        refine ar_q_packedBank X hz dQ_packed_43 ?_
        refine go_goto X dQ_packed_44 rfl ?_
        exact go_ireturn X hq dQ_packed_53 (0 : Int32) hw rfl
    · have hw := hw.2 hc
      refine go_aload_n X 0 dQ_packed_23 rfl rfl ?_
      refine go_iconst X dQ_packed_24 kc_i1 ?_
      refine k_Q_refuse X hw mw_Q_146 ⟨by decide, by decide⟩ (Nat.le_of_ble_eq_true rfl) ⟨Nat.zero_le _, Nat.zero_le _⟩ dQ_packed_25 (fun r5 w6 hw => ?_)
      exact go_ireturn X hq dQ_packed_28 w6 hw rfl
theorem k_Q_packed {G : gt_} {ad : Nat → Nat} {cc : ByteArray} {own : String} {fr lo n cells slots pc index : Nat} {lc : List (Nat × Value)} {rest : List Value} {q_code q_many : Int32} {q_pin q_size q_bytes q_kind q_bank q_address q_full : Nat → Int32} {q_linked : Int32} {q_packedBank q_packedAddress : Nat → Int32} {q_banks : Int32} {q_memory q_register : Nat → Int32} {q_stack q_place q_zero q_less q_half q_carry q_enabled q_soon q_ram q_low q_top q_mode q_state q_sent : Int32} {q_out : Nat → Int32} {a1 a2 : Int32} {P : Int32 → (Int32) → Prop} (X : cx_ G ad cc own fr lo n) (hw : wp_Q_packed q_code q_linked q_packedBank q_packedAddress a1 a2 P) (m1 : Cond.methodLink own index yQ_packed ∈ wS) (hlv : 1 + 1 ≤ fr ∧ 8 + (3 + 11) + 22 ≤ lo) (hrs : (rest.map fun v => v.category).sum ≤ 8) (hcs : cells ≤ (gR_ G).cells ∧ slots ≤ (gR_ G).slots) (d : decode cc pc = .ok (.invokevirtual index, 3))
    (kk : ∀ (r q_code' : Int32), P r q_code' → go_ G cells slots (wM ad q_code' q_many q_pin q_size q_bytes q_kind q_bank q_address q_full q_linked q_packedBank q_packedAddress q_banks q_memory q_register q_stack q_place q_zero q_less q_half q_carry q_enabled q_soon q_ram q_low q_top q_mode q_state q_sent q_out) (pc + 3) lc (.int r :: rest)) : go_ G cells slots (wM ad q_code q_many q_pin q_size q_bytes q_kind q_bank q_address q_full q_linked q_packedBank q_packedAddress q_banks q_memory q_register q_stack q_place q_zero q_less q_half q_carry q_enabled q_soon q_ram q_low q_top q_mode q_state q_sent q_out) pc lc (.int a2 :: .int a1 :: .ref (ad 30) :: rest) :=
  go_cvi X (c_Q_packed hw) me_Q_packed m1 hlv 0 rfl rfl rfl hrs hcs d (fun r u hp => kk r u hp)
set_option maxRecDepth 100000 in
set_option maxHeartbeats 4000000 in
theorem c_Q_raise {l : Launch} {D : va_G} {ad : Nat → Nat} {q_code q_many : Int32} {q_pin q_size q_bytes q_kind q_bank q_address q_full : Nat → Int32} {q_linked : Int32} {q_packedBank q_packedAddress : Nat → Int32} {q_banks : Int32} {q_memory q_register : Nat → Int32} {q_stack q_place q_zero q_less q_half q_carry q_enabled q_soon q_ram q_low q_top q_mode q_state q_sent : Int32} {q_out : Nat → Int32} {a1 : Int32} {P : (Int32) → (Nat → Int32) → Prop} (hw : wp_Q_raise q_code q_memory a1 P) : ct_ l yQ_raise bQ_raise 2 none 1 22 D ad [.ref (ad 30), .int a1] (wM ad q_code q_many q_pin q_size q_bytes q_kind q_bank q_address q_full q_linked q_packedBank q_packedAddress q_banks q_memory q_register q_stack q_place q_zero q_less q_half q_carry q_enabled q_soon q_ram q_low q_top q_mode q_state q_sent q_out) (qv_ D (fun (u : (Int32) × (Nat → Int32)) => P u.1 u.2) (fun u => wM ad u.1 q_many q_pin q_size q_bytes q_kind q_bank q_address q_full q_linked q_packedBank q_packedAddress q_banks u.2 q_register q_stack q_place q_zero q_less q_half q_carry q_enabled q_soon q_ram q_low q_top q_mode q_state q_sent q_out)) := by
  refine ct_of RQ (by decide) rfl (Nat.le_of_ble_eq_true rfl) (fun G hl hD X hq => ?_)
  subst hl hD
  show go_ G 0 0 (wM ad q_code q_many q_pin q_size q_bytes q_kind q_bank q_address q_full q_linked q_packedBank q_packedAddress q_banks q_memory q_register q_stack q_place q_zero q_less q_half q_carry q_enabled q_soon q_ram q_low q_top q_mode q_state q_sent q_out) 0 [(0, .ref (ad 30)), (1, .int a1)] []
  have C15 : ∀ (q_code : Int32) (q_memory : Nat → Int32) (x1 y0 : Int32), wp_Q_raise_15 P q_code q_memory x1 y0 → go_ G 0 0 (wM ad q_code q_many q_pin q_size q_bytes q_kind q_bank q_address q_full q_linked q_packedBank q_packedAddress q_banks q_memory q_register q_stack q_place q_zero q_less q_half q_carry q_enabled q_soon q_ram q_low q_top q_mode q_state q_sent q_out) 15 [(0, .ref (ad 30)), (1, .int x1)] [.int y0, .ref (ad 30)] := by
    intro q_code q_memory x1 y0 hw
    refine pt_Q_49 X dQ_raise_15 ?_
    refine go_aload_n X 0 dQ_raise_18 rfl rfl ?_
    refine gt_Q_49 X dQ_raise_19 ?_
    refine go_if_ne X dQ_raise_22 rfl (fun hc => ?_) (fun hc => ?_)
    · have hw := hw.1 hc
      exact go_vreturn X hq dQ_raise_39 (y0, q_memory) hw rfl
    · have hw := hw.2 hc
      refine go_aload_n X 0 dQ_raise_25 rfl rfl ?_
      refine gt_Q_37 X dQ_raise_26 ?_
      refine go_sipush X dQ_raise_29 kc_s703 ?_
      refine go_dup2 X dQ_raise_32 rfl rfl ?_
      refine ar_q_memory X vi_703_705 dQ_raise_33 ?_
      refine go_iconst X dQ_raise_34 kc_i1 ?_
      refine go_iload_n X 1 dQ_raise_35 rfl rfl ?_
      refine go_ishl X dQ_raise_36 ?_
      refine go_ior X dQ_raise_37 ?_
      refine as_q_memory X vi_703_705 dQ_raise_38 ?_
      exact go_vreturn X hq dQ_raise_39 (y0, upd q_memory (703 : Int32).toNatClampNeg ((q_memory (703 : Int32).toNatClampNeg) ||| ((1 : Int32) <<< (x1 &&& 31)))) hw rfl
  refine go_aload_n X 0 dQ_raise_0 rfl rfl ?_
  refine go_iload_n X 1 dQ_raise_1 rfl rfl ?_
  refine go_iconst X dQ_raise_2 kc_i0 ?_
  refine go_iconst X dQ_raise_3 kc_i3 ?_
  refine k_Q_outside X hw mw_Q_96 ⟨by decide, by decide⟩ (Nat.le_of_ble_eq_true rfl) ⟨Nat.zero_le _, Nat.zero_le _⟩ dQ_raise_4 (fun r1 hw => ?_)
  refine go_if_eq X dQ_raise_7 rfl (fun hc => ?_) (fun hc => ?_)
  · have hw := hw.1 hc
    refine go_iconst X dQ_raise_14 kc_i0 ?_
    exact C15 _ _ _ _ hw
  · have hw := hw.2 hc
    refine go_iconst X dQ_raise_10 kc_i1 ?_
    refine go_goto X dQ_raise_11 rfl ?_
    exact C15 _ _ _ _ hw
theorem k_Q_raise {G : gt_} {ad : Nat → Nat} {cc : ByteArray} {own : String} {fr lo n cells slots pc index : Nat} {lc : List (Nat × Value)} {rest : List Value} {q_code q_many : Int32} {q_pin q_size q_bytes q_kind q_bank q_address q_full : Nat → Int32} {q_linked : Int32} {q_packedBank q_packedAddress : Nat → Int32} {q_banks : Int32} {q_memory q_register : Nat → Int32} {q_stack q_place q_zero q_less q_half q_carry q_enabled q_soon q_ram q_low q_top q_mode q_state q_sent : Int32} {q_out : Nat → Int32} {a1 : Int32} {P : (Int32) → (Nat → Int32) → Prop} (X : cx_ G ad cc own fr lo n) (hw : wp_Q_raise q_code q_memory a1 P) (m1 : Cond.methodLink own index yQ_raise ∈ wS) (hlv : 1 + 1 ≤ fr ∧ 8 + (2 + 11) + 22 ≤ lo) (hrs : (rest.map fun v => v.category).sum ≤ 8) (hcs : cells ≤ (gR_ G).cells ∧ slots ≤ (gR_ G).slots) (d : decode cc pc = .ok (.invokevirtual index, 3))
    (kk : ∀ (q_code' : Int32) (q_memory' : Nat → Int32), P q_code' q_memory' → go_ G cells slots (wM ad q_code' q_many q_pin q_size q_bytes q_kind q_bank q_address q_full q_linked q_packedBank q_packedAddress q_banks q_memory' q_register q_stack q_place q_zero q_less q_half q_carry q_enabled q_soon q_ram q_low q_top q_mode q_state q_sent q_out) (pc + 3) lc (rest)) : go_ G cells slots (wM ad q_code q_many q_pin q_size q_bytes q_kind q_bank q_address q_full q_linked q_packedBank q_packedAddress q_banks q_memory q_register q_stack q_place q_zero q_less q_half q_carry q_enabled q_soon q_ram q_low q_top q_mode q_state q_sent q_out) pc lc (.int a1 :: .ref (ad 30) :: rest) :=
  go_cvv X (c_Q_raise hw) me_Q_raise m1 hlv 0 rfl rfl rfl hrs hcs d (fun u hp => kk u.1 u.2 hp)
set_option maxRecDepth 100000 in
set_option maxHeartbeats 4000000 in
theorem c_Q_read {l : Launch} {D : va_G} {ad : Nat → Nat} {q_code q_many : Int32} {q_pin q_size q_bytes q_kind q_bank q_address q_full : Nat → Int32} {q_linked : Int32} {q_packedBank q_packedAddress : Nat → Int32} {q_banks : Int32} {q_memory q_register : Nat → Int32} {q_stack q_place q_zero q_less q_half q_carry q_enabled q_soon q_ram q_low q_top q_mode q_state q_sent : Int32} {q_out : Nat → Int32} {a1 : Int32} {P : Int32 → Prop} (hw : wp_Q_read q_banks q_memory q_ram q_low q_top q_mode a1 P) : ct_ l yQ_read bQ_read 2 (some .int) 1 21 D ad [.ref (ad 30), .int a1] (wM ad q_code q_many q_pin q_size q_bytes q_kind q_bank q_address q_full q_linked q_packedBank q_packedAddress q_banks q_memory q_register q_stack q_place q_zero q_less q_half q_carry q_enabled q_soon q_ram q_low q_top q_mode q_state q_sent q_out) (qi_ D (fun (r : Int32) (_ : Unit) => P r ) (fun _ => (wM ad q_code q_many q_pin q_size q_bytes q_kind q_bank q_address q_full q_linked q_packedBank q_packedAddress q_banks q_memory q_register q_stack q_place q_zero q_less q_half q_carry q_enabled q_soon q_ram q_low q_top q_mode q_state q_sent q_out))) := by
  refine ct_of RQ (by decide) rfl (Nat.le_of_ble_eq_true rfl) (fun G hl hD X hq => ?_)
  subst hl hD
  show go_ G 0 0 (wM ad q_code q_many q_pin q_size q_bytes q_kind q_bank q_address q_full q_linked q_packedBank q_packedAddress q_banks q_memory q_register q_stack q_place q_zero q_less q_half q_carry q_enabled q_soon q_ram q_low q_top q_mode q_state q_sent q_out) 0 [(0, .ref (ad 30)), (1, .int a1)] []
  refine go_aload_n X 0 dQ_read_0 rfl rfl ?_
  refine gt_Q_37 X dQ_read_1 ?_
  refine go_aload_n X 0 dQ_read_4 rfl rfl ?_
  refine go_iload_n X 1 dQ_read_5 rfl rfl ?_
  refine k_Q_where X hw mw_Q_149 ⟨by decide, by decide⟩ (Nat.le_of_ble_eq_true rfl) ⟨Nat.zero_le _, Nat.zero_le _⟩ dQ_read_6 (fun r1 hw => ?_)
  have hz := hw.1
  have hw := hw.2
  refine ar_q_memory X hz dQ_read_9 ?_
  exact go_ireturn X hq dQ_read_10 () hw rfl
theorem k_Q_read {G : gt_} {ad : Nat → Nat} {cc : ByteArray} {own : String} {fr lo n cells slots pc index : Nat} {lc : List (Nat × Value)} {rest : List Value} {q_code q_many : Int32} {q_pin q_size q_bytes q_kind q_bank q_address q_full : Nat → Int32} {q_linked : Int32} {q_packedBank q_packedAddress : Nat → Int32} {q_banks : Int32} {q_memory q_register : Nat → Int32} {q_stack q_place q_zero q_less q_half q_carry q_enabled q_soon q_ram q_low q_top q_mode q_state q_sent : Int32} {q_out : Nat → Int32} {a1 : Int32} {P : Int32 → Prop} (X : cx_ G ad cc own fr lo n) (hw : wp_Q_read q_banks q_memory q_ram q_low q_top q_mode a1 P) (m1 : Cond.methodLink own index yQ_read ∈ wS) (hlv : 1 + 1 ≤ fr ∧ 8 + (2 + 11) + 21 ≤ lo) (hrs : (rest.map fun v => v.category).sum ≤ 8) (hcs : cells ≤ (gR_ G).cells ∧ slots ≤ (gR_ G).slots) (d : decode cc pc = .ok (.invokevirtual index, 3))
    (kk : ∀ (r : Int32), P r → go_ G cells slots (wM ad q_code q_many q_pin q_size q_bytes q_kind q_bank q_address q_full q_linked q_packedBank q_packedAddress q_banks q_memory q_register q_stack q_place q_zero q_less q_half q_carry q_enabled q_soon q_ram q_low q_top q_mode q_state q_sent q_out) (pc + 3) lc (.int r :: rest)) : go_ G cells slots (wM ad q_code q_many q_pin q_size q_bytes q_kind q_bank q_address q_full q_linked q_packedBank q_packedAddress q_banks q_memory q_register q_stack q_place q_zero q_less q_half q_carry q_enabled q_soon q_ram q_low q_top q_mode q_state q_sent q_out) pc lc (.int a1 :: .ref (ad 30) :: rest) :=
  go_cvi X (c_Q_read hw) me_Q_read m1 hlv 0 rfl rfl rfl hrs hcs d (fun r _ hp => kk r  hp)
set_option maxRecDepth 100000 in
set_option maxHeartbeats 4000000 in
theorem c_Q_reckon {l : Launch} {D : va_G} {ad : Nat → Nat} {q_code q_many : Int32} {q_pin q_size q_bytes q_kind q_bank q_address q_full : Nat → Int32} {q_linked : Int32} {q_packedBank q_packedAddress : Nat → Int32} {q_banks : Int32} {q_memory q_register : Nat → Int32} {q_stack q_place q_zero q_less q_half q_carry q_enabled q_soon q_ram q_low q_top q_mode q_state q_sent : Int32} {q_out : Nat → Int32} {a1 a2 : Int32} {P : (Nat → Int32) → (Int32) → (Int32) → (Int32) → (Int32) → Prop} (hw : wp_Q_reckon q_register q_zero q_less q_half q_carry a1 a2 P) : ct_ l yQ_reckon bQ_reckon 5 none 1 26 D ad [.ref (ad 30), .int a1, .int a2] (wM ad q_code q_many q_pin q_size q_bytes q_kind q_bank q_address q_full q_linked q_packedBank q_packedAddress q_banks q_memory q_register q_stack q_place q_zero q_less q_half q_carry q_enabled q_soon q_ram q_low q_top q_mode q_state q_sent q_out) (qv_ D (fun (u : (Nat → Int32) × (Int32) × (Int32) × (Int32) × (Int32)) => P u.1 u.2.1 u.2.2.1 u.2.2.2.1 u.2.2.2.2) (fun u => wM ad q_code q_many q_pin q_size q_bytes q_kind q_bank q_address q_full q_linked q_packedBank q_packedAddress q_banks q_memory u.1 q_stack q_place u.2.1 u.2.2.1 u.2.2.2.1 u.2.2.2.2 q_enabled q_soon q_ram q_low q_top q_mode q_state q_sent q_out)) := by
  refine ct_of RQ (by decide) rfl (Nat.le_of_ble_eq_true rfl) (fun G hl hD X hq => ?_)
  subst hl hD
  show go_ G 0 0 (wM ad q_code q_many q_pin q_size q_bytes q_kind q_bank q_address q_full q_linked q_packedBank q_packedAddress q_banks q_memory q_register q_stack q_place q_zero q_less q_half q_carry q_enabled q_soon q_ram q_low q_top q_mode q_state q_sent q_out) 0 [(0, .ref (ad 30)), (1, .int a1), (2, .int a2)] []
  have C20 : ∀ (q_register : Nat → Int32) (q_zero q_less q_half q_carry x1 x2 x3 y0 : Int32), wp_Q_reckon_20 P q_register q_zero q_less q_half q_carry x1 x2 x3 y0 → go_ G 0 0 (wM ad q_code q_many q_pin q_size q_bytes q_kind q_bank q_address q_full q_linked q_packedBank q_packedAddress q_banks q_memory q_register q_stack q_place q_zero q_less q_half q_carry q_enabled q_soon q_ram q_low q_top q_mode q_state q_sent q_out) 20 [(0, .ref (ad 30)), (1, .int x1), (2, .int x2), (3, .int x3)] [.int y0] := by
    intro q_register q_zero q_less q_half q_carry x1 x2 x3 y0 hw
    refine go_istore X dQ_reckon_20 (by decide) rfl ?_
    refine go_iload_n X 2 dQ_reckon_22 rfl rfl ?_
    refine go_iconst X dQ_reckon_23 kc_i2 ?_
    refine go_icmp_ge X dQ_reckon_24 rfl (fun hc => ?_) (fun hc => ?_)
    · have hw := hw.1 hc
      refine go_iload_n X 2 dQ_reckon_47 rfl rfl ?_
      refine go_iconst X dQ_reckon_48 kc_i4 ?_
      refine go_icmp_ge X dQ_reckon_49 rfl (fun hc => ?_) (fun hc => ?_)
      · have hw := hw.1 hc
        refine go_iload_n X 2 dQ_reckon_74 rfl rfl ?_
        refine go_iconst X dQ_reckon_75 kc_i4 ?_
        refine go_icmp_ne X dQ_reckon_76 rfl (fun hc => ?_) (fun hc => ?_)
        · have hw := hw.1 hc
          refine go_iload_n X 2 dQ_reckon_97 rfl rfl ?_
          refine go_iconst X dQ_reckon_98 kc_i5 ?_
          refine go_icmp_ne X dQ_reckon_99 rfl (fun hc => ?_) (fun hc => ?_)
          · have hw := hw.1 hc
            refine go_iload_n X 2 dQ_reckon_120 rfl rfl ?_
            refine go_bipush X dQ_reckon_121 kc_b6 ?_
            refine go_icmp_ne X dQ_reckon_123 rfl (fun hc => ?_) (fun hc => ?_)
            · have hw := hw.1 hc
              refine go_aload_n X 1 dQ_reckon_144 rfl rfl ?_
              refine go_iload_n X 4 dQ_reckon_145 rfl rfl ?_
              refine go_iload_n X 3 dQ_reckon_146 rfl rfl ?_
              refine go_iconst X dQ_reckon_147 kc_i0 ?_
              refine k_Q_take X hw mw_Q_162 ⟨by decide, by decide⟩ (Nat.le_of_ble_eq_true rfl) ⟨Nat.zero_le _, Nat.zero_le _⟩ dQ_reckon_148 (fun r2 w3 w4 w5 w6 hw => ?_)
              refine go_pop X dQ_reckon_151 rfl ?_
              exact go_vreturn X hq dQ_reckon_152 (q_register, w3, w4, w5, w6) hw rfl
            · have hw := hw.2 hc
              refine go_aload_n X 1 dQ_reckon_126 rfl rfl ?_
              refine gt_Q_40 X dQ_reckon_127 ?_
              refine go_bipush X dQ_reckon_130 kc_b7 ?_
              refine go_aload_n X 1 dQ_reckon_132 rfl rfl ?_
              refine go_iload_n X 4 dQ_reckon_133 rfl rfl ?_
              refine go_iload_n X 3 dQ_reckon_134 rfl rfl ?_
              refine go_ior X dQ_reckon_135 ?_
              refine go_iconst X dQ_reckon_136 kc_i0 ?_
              refine k_Q_plain X hw mw_Q_165 ⟨by decide, by decide⟩ (Nat.le_of_ble_eq_true rfl) ⟨Nat.zero_le _, Nat.zero_le _⟩ dQ_reckon_137 (fun r7 w8 w9 w10 w11 hw => ?_)
              refine as_q_register X vi_7_8 dQ_reckon_140 ?_
              refine go_goto X dQ_reckon_141 rfl ?_
              exact go_vreturn X hq dQ_reckon_152 (upd q_register (7 : Int32).toNatClampNeg r7, w8, w9, w10, w11) hw rfl
          · have hw := hw.2 hc
            refine go_aload_n X 1 dQ_reckon_102 rfl rfl ?_
            refine gt_Q_40 X dQ_reckon_103 ?_
            refine go_bipush X dQ_reckon_106 kc_b7 ?_
            refine go_aload_n X 1 dQ_reckon_108 rfl rfl ?_
            refine go_iload_n X 4 dQ_reckon_109 rfl rfl ?_
            refine go_iload_n X 3 dQ_reckon_110 rfl rfl ?_
            refine go_ixor X dQ_reckon_111 ?_
            refine go_iconst X dQ_reckon_112 kc_i0 ?_
            refine k_Q_plain X hw mw_Q_165 ⟨by decide, by decide⟩ (Nat.le_of_ble_eq_true rfl) ⟨Nat.zero_le _, Nat.zero_le _⟩ dQ_reckon_113 (fun r12 w13 w14 w15 w16 hw => ?_)
            refine as_q_register X vi_7_8 dQ_reckon_116 ?_
            refine go_goto X dQ_reckon_117 rfl ?_
            exact go_vreturn X hq dQ_reckon_152 (upd q_register (7 : Int32).toNatClampNeg r12, w13, w14, w15, w16) hw rfl
        · have hw := hw.2 hc
          refine go_aload_n X 1 dQ_reckon_79 rfl rfl ?_
          refine gt_Q_40 X dQ_reckon_80 ?_
          refine go_bipush X dQ_reckon_83 kc_b7 ?_
          refine go_aload_n X 1 dQ_reckon_85 rfl rfl ?_
          refine go_iload_n X 4 dQ_reckon_86 rfl rfl ?_
          refine go_iload_n X 3 dQ_reckon_87 rfl rfl ?_
          refine go_iand X dQ_reckon_88 ?_
          refine go_iconst X dQ_reckon_89 kc_i1 ?_
          refine k_Q_plain X hw mw_Q_165 ⟨by decide, by decide⟩ (Nat.le_of_ble_eq_true rfl) ⟨Nat.zero_le _, Nat.zero_le _⟩ dQ_reckon_90 (fun r17 w18 w19 w20 w21 hw => ?_)
          refine as_q_register X vi_7_8 dQ_reckon_93 ?_
          refine go_goto X dQ_reckon_94 rfl ?_
          exact go_vreturn X hq dQ_reckon_152 (upd q_register (7 : Int32).toNatClampNeg r17, w18, w19, w20, w21) hw rfl
      · have hw := hw.2 hc
        refine go_aload_n X 1 dQ_reckon_52 rfl rfl ?_
        refine gt_Q_40 X dQ_reckon_53 ?_
        refine go_bipush X dQ_reckon_56 kc_b7 ?_
        refine go_aload_n X 1 dQ_reckon_58 rfl rfl ?_
        refine go_iload_n X 4 dQ_reckon_59 rfl rfl ?_
        refine go_iload_n X 3 dQ_reckon_60 rfl rfl ?_
        refine go_iload_n X 2 dQ_reckon_61 rfl rfl ?_
        refine go_iconst X dQ_reckon_62 kc_i2 ?_
        refine go_isub X dQ_reckon_63 ?_
        refine go_iload X 0 dQ_reckon_64 rfl ?_
        refine go_imul X dQ_reckon_66 ?_
        refine k_Q_take X hw mw_Q_162 ⟨by decide, by decide⟩ (Nat.le_of_ble_eq_true rfl) ⟨Nat.zero_le _, Nat.zero_le _⟩ dQ_reckon_67 (fun r22 w23 w24 w25 w26 hw => ?_)
        refine as_q_register X vi_7_8 dQ_reckon_70 ?_
        refine go_goto X dQ_reckon_71 rfl ?_
        exact go_vreturn X hq dQ_reckon_152 (upd q_register (7 : Int32).toNatClampNeg r22, w23, w24, w25, w26) hw rfl
    · have hw := hw.2 hc
      refine go_aload_n X 1 dQ_reckon_27 rfl rfl ?_
      refine gt_Q_40 X dQ_reckon_28 ?_
      refine go_bipush X dQ_reckon_31 kc_b7 ?_
      refine go_aload_n X 1 dQ_reckon_33 rfl rfl ?_
      refine go_iload_n X 4 dQ_reckon_34 rfl rfl ?_
      refine go_iload_n X 3 dQ_reckon_35 rfl rfl ?_
      refine go_iload_n X 2 dQ_reckon_36 rfl rfl ?_
      refine go_iload X 0 dQ_reckon_37 rfl ?_
      refine go_imul X dQ_reckon_39 ?_
      refine k_Q_add X hw mw_Q_158 ⟨by decide, by decide⟩ (Nat.le_of_ble_eq_true rfl) ⟨Nat.zero_le _, Nat.zero_le _⟩ dQ_reckon_40 (fun r27 w28 w29 w30 w31 hw => ?_)
      refine as_q_register X vi_7_8 dQ_reckon_43 ?_
      refine go_goto X dQ_reckon_44 rfl ?_
      exact go_vreturn X hq dQ_reckon_152 (upd q_register (7 : Int32).toNatClampNeg r27, w28, w29, w30, w31) hw rfl
  refine go_aload_n X 0 dQ_reckon_0 rfl rfl ?_
  refine gt_Q_40 X dQ_reckon_1 ?_
  refine go_bipush X dQ_reckon_4 kc_b7 ?_
  refine ar_q_register X vi_7_8 dQ_reckon_6 ?_
  refine go_nm (fun z1 ez1 => ?_)
  have hw := hw z1 ez1
  refine go_istore_n X dQ_reckon_7 rfl (by decide) rfl ?_
  refine go_aload_n X 1 dQ_reckon_8 rfl rfl ?_
  refine gt_Q_69 X dQ_reckon_9 ?_
  refine go_if_eq X dQ_reckon_12 rfl (fun hc => ?_) (fun hc => ?_)
  · have hw := hw.1 hc
    refine go_iconst X dQ_reckon_19 kc_i0 ?_
    refine go_lc [1, 2, 3, 0] rfl ?_
    exact C20 _ _ _ _ _ _ _ _ _ hw
  · have hw := hw.2 hc
    refine go_iconst X dQ_reckon_15 kc_i1 ?_
    refine go_goto X dQ_reckon_16 rfl ?_
    refine go_lc [1, 2, 3, 0] rfl ?_
    exact C20 _ _ _ _ _ _ _ _ _ hw
theorem k_Q_reckon {G : gt_} {ad : Nat → Nat} {cc : ByteArray} {own : String} {fr lo n cells slots pc index : Nat} {lc : List (Nat × Value)} {rest : List Value} {q_code q_many : Int32} {q_pin q_size q_bytes q_kind q_bank q_address q_full : Nat → Int32} {q_linked : Int32} {q_packedBank q_packedAddress : Nat → Int32} {q_banks : Int32} {q_memory q_register : Nat → Int32} {q_stack q_place q_zero q_less q_half q_carry q_enabled q_soon q_ram q_low q_top q_mode q_state q_sent : Int32} {q_out : Nat → Int32} {a1 a2 : Int32} {P : (Nat → Int32) → (Int32) → (Int32) → (Int32) → (Int32) → Prop} (X : cx_ G ad cc own fr lo n) (hw : wp_Q_reckon q_register q_zero q_less q_half q_carry a1 a2 P) (m1 : Cond.methodLink own index yQ_reckon ∈ wS) (hlv : 1 + 1 ≤ fr ∧ 8 + (5 + 11) + 26 ≤ lo) (hrs : (rest.map fun v => v.category).sum ≤ 8) (hcs : cells ≤ (gR_ G).cells ∧ slots ≤ (gR_ G).slots) (d : decode cc pc = .ok (.invokevirtual index, 3))
    (kk : ∀ (q_register' : Nat → Int32) (q_zero' q_less' q_half' q_carry' : Int32), P q_register' q_zero' q_less' q_half' q_carry' → go_ G cells slots (wM ad q_code q_many q_pin q_size q_bytes q_kind q_bank q_address q_full q_linked q_packedBank q_packedAddress q_banks q_memory q_register' q_stack q_place q_zero' q_less' q_half' q_carry' q_enabled q_soon q_ram q_low q_top q_mode q_state q_sent q_out) (pc + 3) lc (rest)) : go_ G cells slots (wM ad q_code q_many q_pin q_size q_bytes q_kind q_bank q_address q_full q_linked q_packedBank q_packedAddress q_banks q_memory q_register q_stack q_place q_zero q_less q_half q_carry q_enabled q_soon q_ram q_low q_top q_mode q_state q_sent q_out) pc lc (.int a2 :: .int a1 :: .ref (ad 30) :: rest) :=
  go_cvv X (c_Q_reckon hw) me_Q_reckon m1 hlv 0 rfl rfl rfl hrs hcs d (fun u hp => kk u.1 u.2.1 u.2.2.1 u.2.2.2.1 u.2.2.2.2 hp)
set_option maxRecDepth 100000 in
set_option maxHeartbeats 4000000 in
theorem c_Q_restart {l : Launch} {D : va_G} {ad : Nat → Nat} {q_code q_many : Int32} {q_pin q_size q_bytes q_kind q_bank q_address q_full : Nat → Int32} {q_linked : Int32} {q_packedBank q_packedAddress : Nat → Int32} {q_banks : Int32} {q_memory q_register : Nat → Int32} {q_stack q_place q_zero q_less q_half q_carry q_enabled q_soon q_ram q_low q_top q_mode q_state q_sent : Int32} {q_out : Nat → Int32}  {P : (Int32) → (Nat → Int32) → (Nat → Int32) → (Int32) → (Int32) → (Int32) → (Int32) → (Int32) → (Int32) → (Int32) → (Int32) → (Int32) → (Int32) → (Int32) → (Int32) → (Int32) → (Int32) → Prop} (hw : wp_Q_restart q_code q_memory q_register q_stack q_place q_zero q_less q_half q_carry q_enabled q_soon q_ram q_low q_top q_mode q_state q_sent  P) : ct_ l yQ_restart bQ_restart 1 none 1 21 D ad [.ref (ad 30)] (wM ad q_code q_many q_pin q_size q_bytes q_kind q_bank q_address q_full q_linked q_packedBank q_packedAddress q_banks q_memory q_register q_stack q_place q_zero q_less q_half q_carry q_enabled q_soon q_ram q_low q_top q_mode q_state q_sent q_out) (qv_ D (fun (u : (Int32) × (Nat → Int32) × (Nat → Int32) × (Int32) × (Int32) × (Int32) × (Int32) × (Int32) × (Int32) × (Int32) × (Int32) × (Int32) × (Int32) × (Int32) × (Int32) × (Int32) × (Int32)) => P u.1 u.2.1 u.2.2.1 u.2.2.2.1 u.2.2.2.2.1 u.2.2.2.2.2.1 u.2.2.2.2.2.2.1 u.2.2.2.2.2.2.2.1 u.2.2.2.2.2.2.2.2.1 u.2.2.2.2.2.2.2.2.2.1 u.2.2.2.2.2.2.2.2.2.2.1 u.2.2.2.2.2.2.2.2.2.2.2.1 u.2.2.2.2.2.2.2.2.2.2.2.2.1 u.2.2.2.2.2.2.2.2.2.2.2.2.2.1 u.2.2.2.2.2.2.2.2.2.2.2.2.2.2.1 u.2.2.2.2.2.2.2.2.2.2.2.2.2.2.2.1 u.2.2.2.2.2.2.2.2.2.2.2.2.2.2.2.2) (fun u => wM ad u.1 q_many q_pin q_size q_bytes q_kind q_bank q_address q_full q_linked q_packedBank q_packedAddress q_banks u.2.1 u.2.2.1 u.2.2.2.1 u.2.2.2.2.1 u.2.2.2.2.2.1 u.2.2.2.2.2.2.1 u.2.2.2.2.2.2.2.1 u.2.2.2.2.2.2.2.2.1 u.2.2.2.2.2.2.2.2.2.1 u.2.2.2.2.2.2.2.2.2.2.1 u.2.2.2.2.2.2.2.2.2.2.2.1 u.2.2.2.2.2.2.2.2.2.2.2.2.1 u.2.2.2.2.2.2.2.2.2.2.2.2.2.1 u.2.2.2.2.2.2.2.2.2.2.2.2.2.2.1 u.2.2.2.2.2.2.2.2.2.2.2.2.2.2.2.1 u.2.2.2.2.2.2.2.2.2.2.2.2.2.2.2.2 q_out)) := by
  refine ct_of RQ (by decide) rfl (Nat.le_of_ble_eq_true rfl) (fun G hl hD X hq => ?_)
  subst hl hD
  show go_ G 0 0 (wM ad q_code q_many q_pin q_size q_bytes q_kind q_bank q_address q_full q_linked q_packedBank q_packedAddress q_banks q_memory q_register q_stack q_place q_zero q_less q_half q_carry q_enabled q_soon q_ram q_low q_top q_mode q_state q_sent q_out) 0 [(0, .ref (ad 30))] []
  refine go_aload_n X 0 dQ_restart_0 rfl rfl ?_
  refine go_iconst X dQ_restart_1 kc_i0 ?_
  refine pt_Q_49 X dQ_restart_2 ?_
  refine go_aload_n X 0 dQ_restart_5 rfl rfl ?_
  refine k_Q_begin X hw mw_Q_46 ⟨by decide, by decide⟩ (Nat.le_of_ble_eq_true rfl) ⟨Nat.zero_le _, Nat.zero_le _⟩ dQ_restart_6 (fun w1 w2 w3 w4 w5 w6 w7 w8 w9 w10 w11 w12 w13 w14 w15 w16 hw => ?_)
  exact go_vreturn X hq dQ_restart_9 ((0 : Int32), w1, w2, w3, w4, w5, w6, w7, w8, w9, w10, w11, w12, w13, w14, w15, w16) hw rfl
theorem k_Q_restart {G : gt_} {ad : Nat → Nat} {cc : ByteArray} {own : String} {fr lo n cells slots pc index : Nat} {lc : List (Nat × Value)} {rest : List Value} {q_code q_many : Int32} {q_pin q_size q_bytes q_kind q_bank q_address q_full : Nat → Int32} {q_linked : Int32} {q_packedBank q_packedAddress : Nat → Int32} {q_banks : Int32} {q_memory q_register : Nat → Int32} {q_stack q_place q_zero q_less q_half q_carry q_enabled q_soon q_ram q_low q_top q_mode q_state q_sent : Int32} {q_out : Nat → Int32}  {P : (Int32) → (Nat → Int32) → (Nat → Int32) → (Int32) → (Int32) → (Int32) → (Int32) → (Int32) → (Int32) → (Int32) → (Int32) → (Int32) → (Int32) → (Int32) → (Int32) → (Int32) → (Int32) → Prop} (X : cx_ G ad cc own fr lo n) (hw : wp_Q_restart q_code q_memory q_register q_stack q_place q_zero q_less q_half q_carry q_enabled q_soon q_ram q_low q_top q_mode q_state q_sent  P) (m1 : Cond.methodLink own index yQ_restart ∈ wS) (hlv : 1 + 1 ≤ fr ∧ 8 + (1 + 11) + 21 ≤ lo) (hrs : (rest.map fun v => v.category).sum ≤ 8) (hcs : cells ≤ (gR_ G).cells ∧ slots ≤ (gR_ G).slots) (d : decode cc pc = .ok (.invokevirtual index, 3))
    (kk : ∀ (q_code' : Int32) (q_memory' q_register' : Nat → Int32) (q_stack' q_place' q_zero' q_less' q_half' q_carry' q_enabled' q_soon' q_ram' q_low' q_top' q_mode' q_state' q_sent' : Int32), P q_code' q_memory' q_register' q_stack' q_place' q_zero' q_less' q_half' q_carry' q_enabled' q_soon' q_ram' q_low' q_top' q_mode' q_state' q_sent' → go_ G cells slots (wM ad q_code' q_many q_pin q_size q_bytes q_kind q_bank q_address q_full q_linked q_packedBank q_packedAddress q_banks q_memory' q_register' q_stack' q_place' q_zero' q_less' q_half' q_carry' q_enabled' q_soon' q_ram' q_low' q_top' q_mode' q_state' q_sent' q_out) (pc + 3) lc (rest)) : go_ G cells slots (wM ad q_code q_many q_pin q_size q_bytes q_kind q_bank q_address q_full q_linked q_packedBank q_packedAddress q_banks q_memory q_register q_stack q_place q_zero q_less q_half q_carry q_enabled q_soon q_ram q_low q_top q_mode q_state q_sent q_out) pc lc (.ref (ad 30) :: rest) :=
  go_cvv X (c_Q_restart hw) me_Q_restart m1 hlv 0 rfl rfl rfl hrs hcs d (fun u hp => kk u.1 u.2.1 u.2.2.1 u.2.2.2.1 u.2.2.2.2.1 u.2.2.2.2.2.1 u.2.2.2.2.2.2.1 u.2.2.2.2.2.2.2.1 u.2.2.2.2.2.2.2.2.1 u.2.2.2.2.2.2.2.2.2.1 u.2.2.2.2.2.2.2.2.2.2.1 u.2.2.2.2.2.2.2.2.2.2.2.1 u.2.2.2.2.2.2.2.2.2.2.2.2.1 u.2.2.2.2.2.2.2.2.2.2.2.2.2.1 u.2.2.2.2.2.2.2.2.2.2.2.2.2.2.1 u.2.2.2.2.2.2.2.2.2.2.2.2.2.2.2.1 u.2.2.2.2.2.2.2.2.2.2.2.2.2.2.2.2 hp)
set_option maxRecDepth 100000 in
set_option maxHeartbeats 4000000 in
theorem c_Q_section {l : Launch} {D : va_G} {ad : Nat → Nat} {q_code q_many : Int32} {q_pin q_size q_bytes q_kind q_bank q_address q_full : Nat → Int32} {q_linked : Int32} {q_packedBank q_packedAddress : Nat → Int32} {q_banks : Int32} {q_memory q_register : Nat → Int32} {q_stack q_place q_zero q_less q_half q_carry q_enabled q_soon q_ram q_low q_top q_mode q_state q_sent : Int32} {q_out : Nat → Int32} {a1 : Int32} {P : Int32 → (Int32) → (Int32) → (Nat → Int32) → (Nat → Int32) → Prop} (hw : wp_Q_section q_code q_many q_pin q_size a1 P) : ct_ l yQ_section bQ_section 2 (some .int) 1 22 D ad [.ref (ad 30), .int a1] (wM ad q_code q_many q_pin q_size q_bytes q_kind q_bank q_address q_full q_linked q_packedBank q_packedAddress q_banks q_memory q_register q_stack q_place q_zero q_less q_half q_carry q_enabled q_soon q_ram q_low q_top q_mode q_state q_sent q_out) (qi_ D (fun (r : Int32) (u : (Int32) × (Int32) × (Nat → Int32) × (Nat → Int32)) => P r u.1 u.2.1 u.2.2.1 u.2.2.2) (fun u => wM ad u.1 u.2.1 u.2.2.1 u.2.2.2 q_bytes q_kind q_bank q_address q_full q_linked q_packedBank q_packedAddress q_banks q_memory q_register q_stack q_place q_zero q_less q_half q_carry q_enabled q_soon q_ram q_low q_top q_mode q_state q_sent q_out)) := by
  refine ct_of RQ (by decide) rfl (Nat.le_of_ble_eq_true rfl) (fun G hl hD X hq => ?_)
  subst hl hD
  show go_ G 0 0 (wM ad q_code q_many q_pin q_size q_bytes q_kind q_bank q_address q_full q_linked q_packedBank q_packedAddress q_banks q_memory q_register q_stack q_place q_zero q_less q_half q_carry q_enabled q_soon q_ram q_low q_top q_mode q_state q_sent q_out) 0 [(0, .ref (ad 30)), (1, .int a1)] []
  have C29 : ∀ (q_code q_many : Int32) (q_pin q_size : Nat → Int32) (x1 y0 : Int32), wp_Q_section_29 P q_code q_many q_pin q_size x1 y0 → go_ G 0 0 (wM ad q_code q_many q_pin q_size q_bytes q_kind q_bank q_address q_full q_linked q_packedBank q_packedAddress q_banks q_memory q_register q_stack q_place q_zero q_less q_half q_carry q_enabled q_soon q_ram q_low q_top q_mode q_state q_sent q_out) 29 [(0, .ref (ad 30)), (1, .int x1)] [.int y0, .ref (ad 30)] := by
    intro q_code q_many q_pin q_size x1 y0 hw
    refine pt_Q_49 X dQ_section_29 ?_
    refine go_aload_n X 0 dQ_section_32 rfl rfl ?_
    refine gt_Q_49 X dQ_section_33 ?_
    refine go_if_le X dQ_section_36 rfl (fun hc => ?_) (fun hc => ?_)
    · have hw := hw.1 hc
      refine go_aload_n X 0 dQ_section_41 rfl rfl ?_
      refine gt_Q_7 X dQ_section_42 ?_
      refine go_aload_n X 0 dQ_section_45 rfl rfl ?_
      refine gt_Q_100 X dQ_section_46 ?_
      refine go_iload_n X 1 dQ_section_49 rfl rfl ?_
      have hz := hw.1
      have hw := hw.2
      refine as_q_pin X hz dQ_section_50 ?_
      refine go_aload_n X 0 dQ_section_51 rfl rfl ?_
      refine gt_Q_13 X dQ_section_52 ?_
      refine go_aload_n X 0 dQ_section_55 rfl rfl ?_
      refine gt_Q_100 X dQ_section_56 ?_
      refine go_iconst X dQ_section_59 kc_i0 ?_
      have hz := hw.1
      have hw := hw.2
      refine as_q_size X hz dQ_section_60 ?_
      refine go_aload_n X 0 dQ_section_61 rfl rfl ?_
      refine go_dup X dQ_section_62 rfl ?_
      refine gt_Q_100 X dQ_section_63 ?_
      refine go_iconst X dQ_section_66 kc_i1 ?_
      refine go_iadd X dQ_section_67 ?_
      refine pt_Q_100 X dQ_section_68 ?_
      refine go_aload_n X 0 dQ_section_71 rfl rfl ?_
      refine gt_Q_100 X dQ_section_72 ?_
      refine go_iconst X dQ_section_75 kc_i1 ?_
      refine go_isub X dQ_section_76 ?_
      exact go_ireturn X hq dQ_section_77 (y0, q_many + (1 : Int32), upd q_pin q_many.toNatClampNeg x1, upd q_size q_many.toNatClampNeg (0 : Int32)) hw rfl
    · have hw := hw.2 hc
      refine go_iconst X dQ_section_39 kc_i0 ?_
      exact go_ireturn X hq dQ_section_40 (y0, q_many, q_pin, q_size) hw rfl
  refine go_aload_n X 0 dQ_section_0 rfl rfl ?_
  refine go_iload_n X 1 dQ_section_1 rfl rfl ?_
  refine go_iconst X dQ_section_2 kc_im1 ?_
  refine go_bipush X dQ_section_3 kc_b7 ?_
  refine k_Q_outside X hw mw_Q_96 ⟨by decide, by decide⟩ (Nat.le_of_ble_eq_true rfl) ⟨Nat.zero_le _, Nat.zero_le _⟩ dQ_section_5 (fun r1 hw => ?_)
  refine go_if_eq X dQ_section_8 rfl (fun hc => ?_) (fun hc => ?_)
  · have hw := hw.1 hc
    refine go_aload_n X 0 dQ_section_15 rfl rfl ?_
    refine gt_Q_100 X dQ_section_16 ?_
    refine go_bipush X dQ_section_19 kc_b10 ?_
    refine go_icmp_ne X dQ_section_21 rfl (fun hc => ?_) (fun hc => ?_)
    · have hw := hw.1 hc
      refine go_iconst X dQ_section_28 kc_i0 ?_
      exact C29 _ _ _ _ _ _ hw
    · have hw := hw.2 hc
      refine go_iconst X dQ_section_24 kc_i2 ?_
      refine go_goto X dQ_section_25 rfl ?_
      exact C29 _ _ _ _ _ _ hw
  · have hw := hw.2 hc
    refine go_iconst X dQ_section_11 kc_i1 ?_
    refine go_goto X dQ_section_12 rfl ?_
    exact C29 _ _ _ _ _ _ hw
theorem k_Q_section {G : gt_} {ad : Nat → Nat} {cc : ByteArray} {own : String} {fr lo n cells slots pc index : Nat} {lc : List (Nat × Value)} {rest : List Value} {q_code q_many : Int32} {q_pin q_size q_bytes q_kind q_bank q_address q_full : Nat → Int32} {q_linked : Int32} {q_packedBank q_packedAddress : Nat → Int32} {q_banks : Int32} {q_memory q_register : Nat → Int32} {q_stack q_place q_zero q_less q_half q_carry q_enabled q_soon q_ram q_low q_top q_mode q_state q_sent : Int32} {q_out : Nat → Int32} {a1 : Int32} {P : Int32 → (Int32) → (Int32) → (Nat → Int32) → (Nat → Int32) → Prop} (X : cx_ G ad cc own fr lo n) (hw : wp_Q_section q_code q_many q_pin q_size a1 P) (m1 : Cond.methodLink own index yQ_section ∈ wS) (hlv : 1 + 1 ≤ fr ∧ 8 + (2 + 11) + 22 ≤ lo) (hrs : (rest.map fun v => v.category).sum ≤ 8) (hcs : cells ≤ (gR_ G).cells ∧ slots ≤ (gR_ G).slots) (d : decode cc pc = .ok (.invokevirtual index, 3))
    (kk : ∀ (r q_code' q_many' : Int32) (q_pin' q_size' : Nat → Int32), P r q_code' q_many' q_pin' q_size' → go_ G cells slots (wM ad q_code' q_many' q_pin' q_size' q_bytes q_kind q_bank q_address q_full q_linked q_packedBank q_packedAddress q_banks q_memory q_register q_stack q_place q_zero q_less q_half q_carry q_enabled q_soon q_ram q_low q_top q_mode q_state q_sent q_out) (pc + 3) lc (.int r :: rest)) : go_ G cells slots (wM ad q_code q_many q_pin q_size q_bytes q_kind q_bank q_address q_full q_linked q_packedBank q_packedAddress q_banks q_memory q_register q_stack q_place q_zero q_less q_half q_carry q_enabled q_soon q_ram q_low q_top q_mode q_state q_sent q_out) pc lc (.int a1 :: .ref (ad 30) :: rest) :=
  go_cvi X (c_Q_section hw) me_Q_section m1 hlv 0 rfl rfl rfl hrs hcs d (fun r u hp => kk r u.1 u.2.1 u.2.2.1 u.2.2.2 hp)
set_option maxRecDepth 100000 in
set_option maxHeartbeats 4000000 in
theorem c_Q_spoil {l : Launch} {D : va_G} {ad : Nat → Nat} {q_code q_many : Int32} {q_pin q_size q_bytes q_kind q_bank q_address q_full : Nat → Int32} {q_linked : Int32} {q_packedBank q_packedAddress : Nat → Int32} {q_banks : Int32} {q_memory q_register : Nat → Int32} {q_stack q_place q_zero q_less q_half q_carry q_enabled q_soon q_ram q_low q_top q_mode q_state q_sent : Int32} {q_out : Nat → Int32} {a1 a2 : Int32} {P : (Int32) → (Nat → Int32) → Prop} (hw : wp_Q_spoil q_code q_banks q_memory a1 a2 P) : ct_ l yQ_spoil bQ_spoil 3 none 1 22 D ad [.ref (ad 30), .int a1, .int a2] (wM ad q_code q_many q_pin q_size q_bytes q_kind q_bank q_address q_full q_linked q_packedBank q_packedAddress q_banks q_memory q_register q_stack q_place q_zero q_less q_half q_carry q_enabled q_soon q_ram q_low q_top q_mode q_state q_sent q_out) (qv_ D (fun (u : (Int32) × (Nat → Int32)) => P u.1 u.2) (fun u => wM ad u.1 q_many q_pin q_size q_bytes q_kind q_bank q_address q_full q_linked q_packedBank q_packedAddress q_banks u.2 q_register q_stack q_place q_zero q_less q_half q_carry q_enabled q_soon q_ram q_low q_top q_mode q_state q_sent q_out)) := by
  refine ct_of RQ (by decide) rfl (Nat.le_of_ble_eq_true rfl) (fun G hl hD X hq => ?_)
  subst hl hD
  show go_ G 0 0 (wM ad q_code q_many q_pin q_size q_bytes q_kind q_bank q_address q_full q_linked q_packedBank q_packedAddress q_banks q_memory q_register q_stack q_place q_zero q_less q_half q_carry q_enabled q_soon q_ram q_low q_top q_mode q_state q_sent q_out) 0 [(0, .ref (ad 30)), (1, .int a1), (2, .int a2)] []
  refine go_aload_n X 0 dQ_spoil_0 rfl rfl ?_
  refine go_iload_n X 1 dQ_spoil_1 rfl rfl ?_
  refine go_iconst X dQ_spoil_2 kc_i0 ?_
  refine go_bipush X dQ_spoil_3 kc_b64 ?_
  refine go_aload_n X 0 dQ_spoil_5 rfl rfl ?_
  refine gt_Q_114 X dQ_spoil_6 ?_
  refine go_imul X dQ_spoil_9 ?_
  refine go_iconst X dQ_spoil_10 kc_i1 ?_
  refine go_isub X dQ_spoil_11 ?_
  refine k_Q_outside X hw mw_Q_96 ⟨by decide, by decide⟩ (Nat.le_of_ble_eq_true rfl) ⟨Nat.zero_le _, Nat.zero_le _⟩ dQ_spoil_12 (fun r1 hw => ?_)
  refine go_if_eq X dQ_spoil_15 rfl (fun hc => ?_) (fun hc => ?_)
  · have hw := hw.1 hc
    refine go_iconst X dQ_spoil_22 kc_i0 ?_
    refine pt_Q_49 X dQ_spoil_23 ?_
    refine go_aload_n X 0 dQ_spoil_26 rfl rfl ?_
    refine gt_Q_49 X dQ_spoil_27 ?_
    refine go_if_ne X dQ_spoil_30 rfl (fun h9 => absurd h9 (by decide)) (fun _ => ?_)
    refine go_aload_n X 0 dQ_spoil_33 rfl rfl ?_
    refine gt_Q_37 X dQ_spoil_34 ?_
    refine go_iload_n X 1 dQ_spoil_37 rfl rfl ?_
    refine go_iload_n X 2 dQ_spoil_38 rfl rfl ?_
    refine go_sipush X dQ_spoil_39 kc_s255 ?_
    refine go_iand X dQ_spoil_42 ?_
    have hz := hw.1
    have hw := hw.2
    refine as_q_memory X hz dQ_spoil_43 ?_
    exact go_vreturn X hq dQ_spoil_44 ((0 : Int32), upd q_memory a1.toNatClampNeg (a2 &&& (255 : Int32))) hw rfl
  · have hw := hw.2 hc
    refine go_iconst X dQ_spoil_18 kc_i1 ?_
    refine go_goto X dQ_spoil_19 rfl ?_
    refine pt_Q_49 X dQ_spoil_23 ?_
    refine go_aload_n X 0 dQ_spoil_26 rfl rfl ?_
    refine gt_Q_49 X dQ_spoil_27 ?_
    refine go_if_ne X dQ_spoil_30 rfl (fun _ => ?_) (fun h9 => absurd h9 (by decide))
    exact go_vreturn X hq dQ_spoil_44 ((1 : Int32), q_memory) hw rfl
theorem k_Q_spoil {G : gt_} {ad : Nat → Nat} {cc : ByteArray} {own : String} {fr lo n cells slots pc index : Nat} {lc : List (Nat × Value)} {rest : List Value} {q_code q_many : Int32} {q_pin q_size q_bytes q_kind q_bank q_address q_full : Nat → Int32} {q_linked : Int32} {q_packedBank q_packedAddress : Nat → Int32} {q_banks : Int32} {q_memory q_register : Nat → Int32} {q_stack q_place q_zero q_less q_half q_carry q_enabled q_soon q_ram q_low q_top q_mode q_state q_sent : Int32} {q_out : Nat → Int32} {a1 a2 : Int32} {P : (Int32) → (Nat → Int32) → Prop} (X : cx_ G ad cc own fr lo n) (hw : wp_Q_spoil q_code q_banks q_memory a1 a2 P) (m1 : Cond.methodLink own index yQ_spoil ∈ wS) (hlv : 1 + 1 ≤ fr ∧ 8 + (3 + 11) + 22 ≤ lo) (hrs : (rest.map fun v => v.category).sum ≤ 8) (hcs : cells ≤ (gR_ G).cells ∧ slots ≤ (gR_ G).slots) (d : decode cc pc = .ok (.invokevirtual index, 3))
    (kk : ∀ (q_code' : Int32) (q_memory' : Nat → Int32), P q_code' q_memory' → go_ G cells slots (wM ad q_code' q_many q_pin q_size q_bytes q_kind q_bank q_address q_full q_linked q_packedBank q_packedAddress q_banks q_memory' q_register q_stack q_place q_zero q_less q_half q_carry q_enabled q_soon q_ram q_low q_top q_mode q_state q_sent q_out) (pc + 3) lc (rest)) : go_ G cells slots (wM ad q_code q_many q_pin q_size q_bytes q_kind q_bank q_address q_full q_linked q_packedBank q_packedAddress q_banks q_memory q_register q_stack q_place q_zero q_less q_half q_carry q_enabled q_soon q_ram q_low q_top q_mode q_state q_sent q_out) pc lc (.int a2 :: .int a1 :: .ref (ad 30) :: rest) :=
  go_cvv X (c_Q_spoil hw) me_Q_spoil m1 hlv 0 rfl rfl rfl hrs hcs d (fun u hp => kk u.1 u.2 hp)
set_option maxRecDepth 100000 in
set_option maxHeartbeats 4000000 in
theorem c_Q_turned {l : Launch} {D : va_G} {ad : Nat → Nat} {q_code q_many : Int32} {q_pin q_size q_bytes q_kind q_bank q_address q_full : Nat → Int32} {q_linked : Int32} {q_packedBank q_packedAddress : Nat → Int32} {q_banks : Int32} {q_memory q_register : Nat → Int32} {q_stack q_place q_zero q_less q_half q_carry q_enabled q_soon q_ram q_low q_top q_mode q_state q_sent : Int32} {q_out : Nat → Int32} {a1 a2 : Int32} {P : Int32 → (Int32) → (Int32) → (Int32) → (Int32) → Prop} (hw : wp_Q_turned q_zero q_less q_half q_carry a1 a2 P) : ct_ l yQ_turned bQ_turned 7 (some .int) 1 22 D ad [.ref (ad 30), .int a1, .int a2] (wM ad q_code q_many q_pin q_size q_bytes q_kind q_bank q_address q_full q_linked q_packedBank q_packedAddress q_banks q_memory q_register q_stack q_place q_zero q_less q_half q_carry q_enabled q_soon q_ram q_low q_top q_mode q_state q_sent q_out) (qi_ D (fun (r : Int32) (u : (Int32) × (Int32) × (Int32) × (Int32)) => P r u.1 u.2.1 u.2.2.1 u.2.2.2) (fun u => wM ad q_code q_many q_pin q_size q_bytes q_kind q_bank q_address q_full q_linked q_packedBank q_packedAddress q_banks q_memory q_register q_stack q_place u.1 u.2.1 u.2.2.1 u.2.2.2 q_enabled q_soon q_ram q_low q_top q_mode q_state q_sent q_out)) := by
  refine ct_of RQ (by decide) rfl (Nat.le_of_ble_eq_true rfl) (fun G hl hD X hq => ?_)
  subst hl hD
  show go_ G 0 0 (wM ad q_code q_many q_pin q_size q_bytes q_kind q_bank q_address q_full q_linked q_packedBank q_packedAddress q_banks q_memory q_register q_stack q_place q_zero q_less q_half q_carry q_enabled q_soon q_ram q_low q_top q_mode q_state q_sent q_out) 0 [(0, .ref (ad 30)), (1, .int a1), (2, .int a2)] []
  have C109 : ∀ (q_zero q_less q_half q_carry x4 y0 : Int32), wp_Q_turned_109 P q_zero q_less q_half q_carry x4 y0 → go_ G 0 0 (wM ad q_code q_many q_pin q_size q_bytes q_kind q_bank q_address q_full q_linked q_packedBank q_packedAddress q_banks q_memory q_register q_stack q_place q_zero q_less q_half q_carry q_enabled q_soon q_ram q_low q_top q_mode q_state q_sent q_out) 109 [(0, .ref (ad 30)), (4, .int x4)] [.int y0, .ref (ad 30)] := by
    intro q_zero q_less q_half q_carry x4 y0 hw
    refine go_iconst X dQ_turned_109 kc_i0 ?_
    refine k_Q_plain X hw mw_Q_165 ⟨by decide, by decide⟩ (Nat.le_of_ble_eq_true rfl) ⟨Nat.zero_le _, Nat.zero_le _⟩ dQ_turned_110 (fun r1 w2 w3 w4 w5 hw => ?_)
    refine go_istore X dQ_turned_113 (by decide) rfl ?_
    refine go_aload_n X 1 dQ_turned_115 rfl rfl ?_
    refine go_iload X 2 dQ_turned_116 rfl ?_
    refine go_iconst X dQ_turned_118 kc_i1 ?_
    refine go_icmp_ne X dQ_turned_119 rfl (fun hc => ?_) (fun hc => ?_)
    · have hw := hw.1 hc
      refine go_iconst X dQ_turned_126 kc_i0 ?_
      refine pt_Q_69 X (Or.inl rfl) dQ_turned_127 ?_
      refine go_iload X 0 dQ_turned_130 rfl ?_
      exact go_ireturn X hq dQ_turned_132 (w2, w3, w4, (0 : Int32)) hw rfl
    · have hw := hw.2 hc
      refine go_iconst X dQ_turned_122 kc_i1 ?_
      refine go_goto X dQ_turned_123 rfl ?_
      refine pt_Q_69 X (Or.inr rfl) dQ_turned_127 ?_
      refine go_iload X 0 dQ_turned_130 rfl ?_
      exact go_ireturn X hq dQ_turned_132 (w2, w3, w4, (1 : Int32)) hw rfl
  have C79 : ∀ (q_zero q_less q_half q_carry x2 x3 x4 y0 : Int32), wp_Q_turned_79 P q_zero q_less q_half q_carry x2 x3 x4 y0 → go_ G 0 0 (wM ad q_code q_many q_pin q_size q_bytes q_kind q_bank q_address q_full q_linked q_packedBank q_packedAddress q_banks q_memory q_register q_stack q_place q_zero q_less q_half q_carry q_enabled q_soon q_ram q_low q_top q_mode q_state q_sent q_out) 79 [(0, .ref (ad 30)), (2, .int x2), (3, .int x3), (4, .int x4)] [.int y0] := by
    intro q_zero q_less q_half q_carry x2 x3 x4 y0 hw
    refine go_istore X dQ_turned_79 (by decide) rfl ?_
    refine go_aload_n X 1 dQ_turned_81 rfl rfl ?_
    refine go_iload_n X 3 dQ_turned_82 rfl rfl ?_
    refine go_if_eq X dQ_turned_83 rfl (fun hc => ?_) (fun hc => ?_)
    · have hw := hw.1 hc
      refine go_iload_n X 2 dQ_turned_99 rfl rfl ?_
      refine go_iconst X dQ_turned_100 kc_i2 ?_
      refine go_idiv X dQ_turned_101 (by decide) ?_
      refine go_sipush X dQ_turned_102 kc_s128 ?_
      refine go_iload X 0 dQ_turned_105 rfl ?_
      refine go_imul X dQ_turned_107 ?_
      refine go_iadd X dQ_turned_108 ?_
      refine go_lc [1, 4] rfl ?_
      exact C109 _ _ _ _ _ _ hw
    · have hw := hw.2 hc
      refine go_iload_n X 2 dQ_turned_86 rfl rfl ?_
      refine go_iconst X dQ_turned_87 kc_i2 ?_
      refine go_imul X dQ_turned_88 ?_
      refine go_sipush X dQ_turned_89 kc_s256 ?_
      refine go_irem X dQ_turned_92 (by decide) ?_
      refine go_iload X 0 dQ_turned_93 rfl ?_
      refine go_iadd X dQ_turned_95 ?_
      refine go_goto X dQ_turned_96 rfl ?_
      refine go_lc [1, 4] rfl ?_
      exact C109 _ _ _ _ _ _ hw
  have C33 : ∀ (q_zero q_less q_half q_carry x1 x2 x3 y0 : Int32), wp_Q_turned_33 P q_zero q_less q_half q_carry x1 x2 x3 y0 → go_ G 0 0 (wM ad q_code q_many q_pin q_size q_bytes q_kind q_bank q_address q_full q_linked q_packedBank q_packedAddress q_banks q_memory q_register q_stack q_place q_zero q_less q_half q_carry q_enabled q_soon q_ram q_low q_top q_mode q_state q_sent q_out) 33 [(0, .ref (ad 30)), (1, .int x1), (2, .int x2), (3, .int x3)] [.int y0] := by
    intro q_zero q_less q_half q_carry x1 x2 x3 y0 hw
    refine go_istore X dQ_turned_33 (by decide) rfl ?_
    refine go_iload_n X 2 dQ_turned_35 rfl rfl ?_
    refine go_iconst X dQ_turned_36 kc_i2 ?_
    refine go_icmp_ge X dQ_turned_37 rfl (fun hc => ?_) (fun hc => ?_)
    · have hw := hw.1 hc
      refine go_iload_n X 2 dQ_turned_45 rfl rfl ?_
      refine go_iconst X dQ_turned_46 kc_i4 ?_
      refine go_icmp_ge X dQ_turned_47 rfl (fun hc => ?_) (fun hc => ?_)
      · have hw := hw.1 hc
        refine go_iload_n X 2 dQ_turned_65 rfl rfl ?_
        refine go_iconst X dQ_turned_66 kc_i5 ?_
        refine go_icmp_ne X dQ_turned_67 rfl (fun hc => ?_) (fun hc => ?_)
        · have hw := hw.1 hc
          refine go_iconst X dQ_turned_78 kc_i0 ?_
          refine go_lc [1, 3, 4, 0] rfl ?_
          exact C79 _ _ _ _ _ _ _ _ hw
        · have hw := hw.2 hc
          refine go_iload_n X 3 dQ_turned_70 rfl rfl ?_
          refine go_sipush X dQ_turned_71 kc_s128 ?_
          refine go_idiv X dQ_turned_74 (by decide) ?_
          refine go_goto X dQ_turned_75 rfl ?_
          refine go_lc [1, 3, 4, 0] rfl ?_
          exact C79 _ _ _ _ _ _ _ _ hw
      · have hw := hw.2 hc
        refine go_aload_n X 1 dQ_turned_50 rfl rfl ?_
        refine gt_Q_69 X dQ_turned_51 ?_
        refine go_if_eq X dQ_turned_54 rfl (fun hc => ?_) (fun hc => ?_)
        · have hw := hw.1 hc
          refine go_iconst X dQ_turned_61 kc_i0 ?_
          refine go_goto X dQ_turned_62 rfl ?_
          refine go_lc [1, 3, 4, 0] rfl ?_
          exact C79 _ _ _ _ _ _ _ _ hw
        · have hw := hw.2 hc
          refine go_iconst X dQ_turned_57 kc_i1 ?_
          refine go_goto X dQ_turned_58 rfl ?_
          refine go_lc [1, 3, 4, 0] rfl ?_
          exact C79 _ _ _ _ _ _ _ _ hw
    · have hw := hw.2 hc
      refine go_iload X 0 dQ_turned_40 rfl ?_
      refine go_goto X dQ_turned_42 rfl ?_
      refine go_lc [1, 3, 4, 0] rfl ?_
      exact C79 _ _ _ _ _ _ _ _ hw
  refine go_iload_n X 1 dQ_turned_0 rfl rfl ?_
  refine go_iconst X dQ_turned_1 kc_i2 ?_
  refine go_irem X dQ_turned_2 (by decide) ?_
  refine go_if_ne X dQ_turned_3 rfl (fun hc => ?_) (fun hc => ?_)
  · have hw := hw.1 hc
    refine go_iconst X dQ_turned_16 kc_i0 ?_
    refine go_istore_n X dQ_turned_17 rfl (by decide) rfl ?_
    refine go_iload_n X 0 dQ_turned_18 rfl rfl ?_
    refine go_if_eq X dQ_turned_19 rfl (fun _ => ?_) (fun h9 => absurd h9 (by decide))
    refine go_iload_n X 3 dQ_turned_30 rfl rfl ?_
    refine go_iconst X dQ_turned_31 kc_i2 ?_
    refine go_irem X dQ_turned_32 (by decide) ?_
    refine go_lc [1, 2, 3, 0] rfl ?_
    exact C33 _ _ _ _ _ _ _ _ hw
  · have hw := hw.2 hc
    refine go_iload_n X 1 dQ_turned_6 rfl rfl ?_
    refine go_bipush X dQ_turned_7 kc_b6 ?_
    refine go_icmp_ge X dQ_turned_9 rfl (fun hc => ?_) (fun hc => ?_)
    · have hw := hw.1 hc
      refine go_iconst X dQ_turned_16 kc_i0 ?_
      refine go_istore_n X dQ_turned_17 rfl (by decide) rfl ?_
      refine go_iload_n X 0 dQ_turned_18 rfl rfl ?_
      refine go_if_eq X dQ_turned_19 rfl (fun _ => ?_) (fun h9 => absurd h9 (by decide))
      refine go_iload_n X 3 dQ_turned_30 rfl rfl ?_
      refine go_iconst X dQ_turned_31 kc_i2 ?_
      refine go_irem X dQ_turned_32 (by decide) ?_
      refine go_lc [1, 2, 3, 0] rfl ?_
      exact C33 _ _ _ _ _ _ _ _ hw
    · have hw := hw.2 hc
      refine go_iconst X dQ_turned_12 kc_i1 ?_
      refine go_goto X dQ_turned_13 rfl ?_
      refine go_istore_n X dQ_turned_17 rfl (by decide) rfl ?_
      refine go_iload_n X 0 dQ_turned_18 rfl rfl ?_
      refine go_if_eq X dQ_turned_19 rfl (fun h9 => absurd h9 (by decide)) (fun _ => ?_)
      refine go_iload_n X 3 dQ_turned_22 rfl rfl ?_
      refine go_sipush X dQ_turned_23 kc_s128 ?_
      refine go_idiv X dQ_turned_26 (by decide) ?_
      refine go_goto X dQ_turned_27 rfl ?_
      refine go_lc [1, 2, 3, 0] rfl ?_
      exact C33 _ _ _ _ _ _ _ _ hw
theorem k_Q_turned {G : gt_} {ad : Nat → Nat} {cc : ByteArray} {own : String} {fr lo n cells slots pc index : Nat} {lc : List (Nat × Value)} {rest : List Value} {q_code q_many : Int32} {q_pin q_size q_bytes q_kind q_bank q_address q_full : Nat → Int32} {q_linked : Int32} {q_packedBank q_packedAddress : Nat → Int32} {q_banks : Int32} {q_memory q_register : Nat → Int32} {q_stack q_place q_zero q_less q_half q_carry q_enabled q_soon q_ram q_low q_top q_mode q_state q_sent : Int32} {q_out : Nat → Int32} {a1 a2 : Int32} {P : Int32 → (Int32) → (Int32) → (Int32) → (Int32) → Prop} (X : cx_ G ad cc own fr lo n) (hw : wp_Q_turned q_zero q_less q_half q_carry a1 a2 P) (m1 : Cond.methodLink own index yQ_turned ∈ wS) (hlv : 1 + 1 ≤ fr ∧ 8 + (7 + 11) + 22 ≤ lo) (hrs : (rest.map fun v => v.category).sum ≤ 8) (hcs : cells ≤ (gR_ G).cells ∧ slots ≤ (gR_ G).slots) (d : decode cc pc = .ok (.invokevirtual index, 3))
    (kk : ∀ (r q_zero' q_less' q_half' q_carry' : Int32), P r q_zero' q_less' q_half' q_carry' → go_ G cells slots (wM ad q_code q_many q_pin q_size q_bytes q_kind q_bank q_address q_full q_linked q_packedBank q_packedAddress q_banks q_memory q_register q_stack q_place q_zero' q_less' q_half' q_carry' q_enabled q_soon q_ram q_low q_top q_mode q_state q_sent q_out) (pc + 3) lc (.int r :: rest)) : go_ G cells slots (wM ad q_code q_many q_pin q_size q_bytes q_kind q_bank q_address q_full q_linked q_packedBank q_packedAddress q_banks q_memory q_register q_stack q_place q_zero q_less q_half q_carry q_enabled q_soon q_ram q_low q_top q_mode q_state q_sent q_out) pc lc (.int a2 :: .int a1 :: .ref (ad 30) :: rest) :=
  go_cvi X (c_Q_turned hw) me_Q_turned m1 hlv 0 rfl rfl rfl hrs hcs d (fun r u hp => kk r u.1 u.2.1 u.2.2.1 u.2.2.2 hp)
set_option maxRecDepth 100000 in
set_option maxHeartbeats 4000000 in
theorem c_Q_valid {l : Launch} {D : va_G} {ad : Nat → Nat} {q_code q_many : Int32} {q_pin q_size q_bytes q_kind q_bank q_address q_full : Nat → Int32} {q_linked : Int32} {q_packedBank q_packedAddress : Nat → Int32} {q_banks : Int32} {q_memory q_register : Nat → Int32} {q_stack q_place q_zero q_less q_half q_carry q_enabled q_soon q_ram q_low q_top q_mode q_state q_sent : Int32} {q_out : Nat → Int32}  {P : Int32 → (Int32) → Prop} (hw : wp_Q_valid q_code q_linked q_banks q_memory  P) : ct_ l yQ_valid bQ_valid 3 (some .int) 1 22 D ad [.ref (ad 30)] (wM ad q_code q_many q_pin q_size q_bytes q_kind q_bank q_address q_full q_linked q_packedBank q_packedAddress q_banks q_memory q_register q_stack q_place q_zero q_less q_half q_carry q_enabled q_soon q_ram q_low q_top q_mode q_state q_sent q_out) (qi_ D (fun (r : Int32) (u : (Int32)) => P r u) (fun u => wM ad u q_many q_pin q_size q_bytes q_kind q_bank q_address q_full q_linked q_packedBank q_packedAddress q_banks q_memory q_register q_stack q_place q_zero q_less q_half q_carry q_enabled q_soon q_ram q_low q_top q_mode q_state q_sent q_out)) := by
  refine ct_of RQ (by decide) rfl (Nat.le_of_ble_eq_true rfl) (fun G hl hD X hq => ?_)
  subst hl hD
  show go_ G 0 0 (wM ad q_code q_many q_pin q_size q_bytes q_kind q_bank q_address q_full q_linked q_packedBank q_packedAddress q_banks q_memory q_register q_stack q_place q_zero q_less q_half q_carry q_enabled q_soon q_ram q_low q_top q_mode q_state q_sent q_out) 0 [(0, .ref (ad 30))] []
  have C22 : ∀ (n9 : Nat) (q_code x1 x2 : Int32), wp_Q_valid_22 q_linked q_banks q_memory P n9 q_code x1 x2 → go_ G 0 0 (wM ad q_code q_many q_pin q_size q_bytes q_kind q_bank q_address q_full q_linked q_packedBank q_packedAddress q_banks q_memory q_register q_stack q_place q_zero q_less q_half q_carry q_enabled q_soon q_ram q_low q_top q_mode q_state q_sent q_out) 22 [(0, .ref (ad 30)), (1, .int x1), (2, .int x2)] [] := by
    intro n9
    induction n9 with
    | zero =>
      intro q_code x1 x2 hw
      exact False.elim hw
    | succ n9 ih =>
      intro q_code x1 x2 hw
      refine go_iload_n X 2 dQ_valid_22 rfl rfl ?_
      refine go_bipush X dQ_valid_23 kc_b7 ?_
      refine go_icmp_ge X dQ_valid_25 rfl (fun hc => ?_) (fun hc => ?_)
      · have hw := hw.1 hc
        refine go_iload_n X 1 dQ_valid_58 rfl rfl ?_
        refine go_if_ne X dQ_valid_59 rfl (fun hc => ?_) (fun hc => ?_)
        · have hw := hw.1 hc
          refine go_aload_n X 0 dQ_valid_64 rfl rfl ?_
          refine gt_Q_37 X dQ_valid_65 ?_
          refine go_bipush X dQ_valid_68 kc_b13 ?_
          refine ar_q_memory X vi_13_705 dQ_valid_70 ?_
          refine go_aload_n X 0 dQ_valid_71 rfl rfl ?_
          refine k_Q_headCheck X hw mw_Q_125 ⟨by decide, by decide⟩ (Nat.le_of_ble_eq_true rfl) ⟨Nat.zero_le _, Nat.zero_le _⟩ dQ_valid_72 (fun r3 hw => ?_)
          refine go_icmp_eq X dQ_valid_75 rfl (fun hc => ?_) (fun hc => ?_)
          · have hw := hw.1 hc
            refine go_sipush X dQ_valid_82 kc_s256 ?_
            refine go_aload_n X 0 dQ_valid_85 rfl rfl ?_
            refine gt_Q_37 X dQ_valid_86 ?_
            refine go_bipush X dQ_valid_89 kc_b14 ?_
            refine ar_q_memory X vi_14_705 dQ_valid_91 ?_
            refine go_imul X dQ_valid_92 ?_
            refine go_aload_n X 0 dQ_valid_93 rfl rfl ?_
            refine gt_Q_37 X dQ_valid_94 ?_
            refine go_bipush X dQ_valid_97 kc_b15 ?_
            refine ar_q_memory X vi_15_705 dQ_valid_99 ?_
            refine go_iadd X dQ_valid_100 ?_
            refine go_aload_n X 0 dQ_valid_101 rfl rfl ?_
            refine k_Q_imageCheck X hw mw_Q_129 ⟨by decide, by decide⟩ (Nat.le_of_ble_eq_true rfl) ⟨Nat.zero_le _, Nat.zero_le _⟩ dQ_valid_102 (fun r4 hw => ?_)
            refine go_icmp_eq X dQ_valid_105 rfl (fun hc => ?_) (fun hc => ?_)
            · have hw := hw.1 hc
              refine go_iconst X dQ_valid_112 kc_i0 ?_
              exact go_ireturn X hq dQ_valid_113 q_code hw rfl
            · have hw := hw.2 hc
              refine go_iconst X dQ_valid_108 kc_i3 ?_
              refine go_goto X dQ_valid_109 rfl ?_
              exact go_ireturn X hq dQ_valid_113 q_code hw rfl
          · have hw := hw.2 hc
            refine go_iconst X dQ_valid_78 kc_i2 ?_
            refine go_goto X dQ_valid_79 rfl ?_
            exact go_ireturn X hq dQ_valid_113 q_code hw rfl
        · have hw := hw.2 hc
          refine go_iconst X dQ_valid_62 kc_i1 ?_
          exact go_ireturn X hq dQ_valid_63 q_code hw rfl
      · have hw := hw.2 hc
        refine go_iload_n X 1 dQ_valid_28 rfl rfl ?_
        refine go_if_eq X dQ_valid_29 rfl (fun hc => ?_) (fun hc => ?_)
        · have hw := hw.1 hc
          refine go_iconst X dQ_valid_50 kc_i0 ?_
          refine go_istore_n X dQ_valid_51 rfl (by decide) rfl ?_
          refine go_iinc X 2 dQ_valid_52 rfl (ki_1 _) (by decide) rfl ?_
          refine go_goto X dQ_valid_55 rfl ?_
          refine go_lc [2, 1, 0] rfl ?_
          exact ih _ _ _ hw
        · have hw := hw.2 hc
          refine go_aload_n X 0 dQ_valid_32 rfl rfl ?_
          refine gt_Q_37 X dQ_valid_33 ?_
          refine go_iload_n X 2 dQ_valid_36 rfl rfl ?_
          have hz := hw.1
          have hw := hw.2
          refine ar_q_memory X hz dQ_valid_37 ?_
          refine go_aload_n X 0 dQ_valid_38 rfl rfl ?_
          refine go_iload_n X 2 dQ_valid_39 rfl rfl ?_
          refine k_Q_mark X hw mw_Q_118 ⟨by decide, by decide⟩ (Nat.le_of_ble_eq_true rfl) ⟨Nat.zero_le _, Nat.zero_le _⟩ dQ_valid_40 (fun r5 hw => ?_)
          refine go_icmp_ne X dQ_valid_43 rfl (fun hc => ?_) (fun hc => ?_)
          · have hw := hw.1 hc
            refine go_iconst X dQ_valid_50 kc_i0 ?_
            refine go_istore_n X dQ_valid_51 rfl (by decide) rfl ?_
            refine go_iinc X 2 dQ_valid_52 rfl (ki_1 _) (by decide) rfl ?_
            refine go_goto X dQ_valid_55 rfl ?_
            refine go_lc [2, 1, 0] rfl ?_
            exact ih _ _ _ hw
          · have hw := hw.2 hc
            refine go_iconst X dQ_valid_46 kc_i1 ?_
            refine go_goto X dQ_valid_47 rfl ?_
            refine go_istore_n X dQ_valid_51 rfl (by decide) rfl ?_
            refine go_iinc X 2 dQ_valid_52 rfl (ki_1 _) (by decide) rfl ?_
            refine go_goto X dQ_valid_55 rfl ?_
            refine go_lc [2, 1, 0] rfl ?_
            exact ih _ _ _ hw
  refine go_aload_n X 0 dQ_valid_0 rfl rfl ?_
  refine gt_Q_143 X dQ_valid_1 ?_
  refine go_if_ne X dQ_valid_4 rfl (fun hc => ?_) (fun hc => ?_)
  · have hw := hw.1 hc
    refine go_aload_n X 0 dQ_valid_13 rfl rfl ?_
    refine go_iconst X dQ_valid_14 kc_i0 ?_
    refine pt_Q_49 X dQ_valid_15 ?_
    refine go_iconst X dQ_valid_18 kc_i1 ?_
    refine go_istore_n X dQ_valid_19 rfl (by decide) rfl ?_
    refine go_iconst X dQ_valid_20 kc_i2 ?_
    refine go_istore_n X dQ_valid_21 rfl (by decide) rfl ?_
    refine go_lc [2, 1, 0] rfl ?_
    obtain ⟨j9, hw⟩ := hw
    exact C22 j9 _ _ _ hw
  · have hw := hw.2 hc
    refine go_aload_n X 0 dQ_valid_7 rfl rfl ?_
    refine go_iconst X dQ_valid_8 kc_i1 ?_
    refine k_Q_refuse X hw mw_Q_146 ⟨by decide, by decide⟩ (Nat.le_of_ble_eq_true rfl) ⟨Nat.zero_le _, Nat.zero_le _⟩ dQ_valid_9 (fun r1 w2 hw => ?_)
    exact go_ireturn X hq dQ_valid_12 w2 hw rfl
theorem k_Q_valid {G : gt_} {ad : Nat → Nat} {cc : ByteArray} {own : String} {fr lo n cells slots pc index : Nat} {lc : List (Nat × Value)} {rest : List Value} {q_code q_many : Int32} {q_pin q_size q_bytes q_kind q_bank q_address q_full : Nat → Int32} {q_linked : Int32} {q_packedBank q_packedAddress : Nat → Int32} {q_banks : Int32} {q_memory q_register : Nat → Int32} {q_stack q_place q_zero q_less q_half q_carry q_enabled q_soon q_ram q_low q_top q_mode q_state q_sent : Int32} {q_out : Nat → Int32}  {P : Int32 → (Int32) → Prop} (X : cx_ G ad cc own fr lo n) (hw : wp_Q_valid q_code q_linked q_banks q_memory  P) (m1 : Cond.methodLink own index yQ_valid ∈ wS) (hlv : 1 + 1 ≤ fr ∧ 8 + (3 + 11) + 22 ≤ lo) (hrs : (rest.map fun v => v.category).sum ≤ 8) (hcs : cells ≤ (gR_ G).cells ∧ slots ≤ (gR_ G).slots) (d : decode cc pc = .ok (.invokevirtual index, 3))
    (kk : ∀ (r q_code' : Int32), P r q_code' → go_ G cells slots (wM ad q_code' q_many q_pin q_size q_bytes q_kind q_bank q_address q_full q_linked q_packedBank q_packedAddress q_banks q_memory q_register q_stack q_place q_zero q_less q_half q_carry q_enabled q_soon q_ram q_low q_top q_mode q_state q_sent q_out) (pc + 3) lc (.int r :: rest)) : go_ G cells slots (wM ad q_code q_many q_pin q_size q_bytes q_kind q_bank q_address q_full q_linked q_packedBank q_packedAddress q_banks q_memory q_register q_stack q_place q_zero q_less q_half q_carry q_enabled q_soon q_ram q_low q_top q_mode q_state q_sent q_out) pc lc (.ref (ad 30) :: rest) :=
  go_cvi X (c_Q_valid hw) me_Q_valid m1 hlv 0 rfl rfl rfl hrs hcs d (fun r u hp => kk r u hp)
set_option maxRecDepth 100000 in
set_option maxHeartbeats 4000000 in
theorem c_Q_write {l : Launch} {D : va_G} {ad : Nat → Nat} {q_code q_many : Int32} {q_pin q_size q_bytes q_kind q_bank q_address q_full : Nat → Int32} {q_linked : Int32} {q_packedBank q_packedAddress : Nat → Int32} {q_banks : Int32} {q_memory q_register : Nat → Int32} {q_stack q_place q_zero q_less q_half q_carry q_enabled q_soon q_ram q_low q_top q_mode q_state q_sent : Int32} {q_out : Nat → Int32} {a1 a2 : Int32} {P : (Nat → Int32) → (Int32) → (Int32) → (Int32) → (Int32) → Prop} (hw : wp_Q_write q_banks q_memory q_ram q_low q_top q_mode a1 a2 P) : ct_ l yQ_write bQ_write 3 none 1 21 D ad [.ref (ad 30), .int a1, .int a2] (wM ad q_code q_many q_pin q_size q_bytes q_kind q_bank q_address q_full q_linked q_packedBank q_packedAddress q_banks q_memory q_register q_stack q_place q_zero q_less q_half q_carry q_enabled q_soon q_ram q_low q_top q_mode q_state q_sent q_out) (qv_ D (fun (u : (Nat → Int32) × (Int32) × (Int32) × (Int32) × (Int32)) => P u.1 u.2.1 u.2.2.1 u.2.2.2.1 u.2.2.2.2) (fun u => wM ad q_code q_many q_pin q_size q_bytes q_kind q_bank q_address q_full q_linked q_packedBank q_packedAddress q_banks u.1 q_register q_stack q_place q_zero q_less q_half q_carry q_enabled q_soon u.2.1 u.2.2.1 u.2.2.2.1 u.2.2.2.2 q_state q_sent q_out)) := by
  refine ct_of RQ (by decide) rfl (Nat.le_of_ble_eq_true rfl) (fun G hl hD X hq => ?_)
  subst hl hD
  show go_ G 0 0 (wM ad q_code q_many q_pin q_size q_bytes q_kind q_bank q_address q_full q_linked q_packedBank q_packedAddress q_banks q_memory q_register q_stack q_place q_zero q_less q_half q_carry q_enabled q_soon q_ram q_low q_top q_mode q_state q_sent q_out) 0 [(0, .ref (ad 30)), (1, .int a1), (2, .int a2)] []
  have C107 : ∀ (q_memory : Nat → Int32) (q_ram q_low q_top q_mode x1 x2 : Int32), wp_Q_write_107 q_banks P q_memory q_ram q_low q_top q_mode x1 x2 → go_ G 0 0 (wM ad q_code q_many q_pin q_size q_bytes q_kind q_bank q_address q_full q_linked q_packedBank q_packedAddress q_banks q_memory q_register q_stack q_place q_zero q_less q_half q_carry q_enabled q_soon q_ram q_low q_top q_mode q_state q_sent q_out) 107 [(0, .ref (ad 30)), (1, .int x1), (2, .int x2)] [] := by
    intro q_memory q_ram q_low q_top q_mode x1 x2 hw
    refine go_aload_n X 0 dQ_write_107 rfl rfl ?_
    refine gt_Q_37 X dQ_write_108 ?_
    refine go_aload_n X 0 dQ_write_111 rfl rfl ?_
    refine go_iload_n X 1 dQ_write_112 rfl rfl ?_
    refine k_Q_where X hw mw_Q_149 ⟨by decide, by decide⟩ (Nat.le_of_ble_eq_true rfl) ⟨Nat.zero_le _, Nat.zero_le _⟩ dQ_write_113 (fun r1 hw => ?_)
    refine go_iload_n X 1 dQ_write_116 rfl rfl ?_
    refine go_sipush X dQ_write_117 kc_s253 ?_
    refine go_icmp_le X dQ_write_120 rfl (fun hc => ?_) (fun hc => ?_)
    · have hw := hw.1 hc
      refine go_iload_n X 2 dQ_write_130 rfl rfl ?_
      have hz := hw.1
      have hw := hw.2
      refine as_q_memory X hz dQ_write_131 ?_
      exact go_vreturn X hq dQ_write_132 (upd q_memory r1.toNatClampNeg x2, q_ram, q_low, q_top, q_mode) hw rfl
    · have hw := hw.2 hc
      refine go_iload_n X 2 dQ_write_123 rfl rfl ?_
      refine go_bipush X dQ_write_124 kc_b16 ?_
      refine go_irem X dQ_write_126 (by decide) ?_
      refine go_goto X dQ_write_127 rfl ?_
      have hz := hw.1
      have hw := hw.2
      refine as_q_memory X hz dQ_write_131 ?_
      exact go_vreturn X hq dQ_write_132 (upd q_memory r1.toNatClampNeg (x2 - x2 / (16 : Int32) * (16 : Int32)), q_ram, q_low, q_top, q_mode) hw rfl
  refine go_iload_n X 1 dQ_write_0 rfl rfl ?_
  refine go_bipush X dQ_write_1 kc_b32 ?_
  refine go_icmp_ge X dQ_write_3 rfl (fun hc => ?_) (fun hc => ?_)
  · have hw := hw.1 hc
    refine go_iload_n X 1 dQ_write_27 rfl rfl ?_
    refine go_bipush X dQ_write_28 kc_b64 ?_
    refine go_icmp_ge X dQ_write_30 rfl (fun hc => ?_) (fun hc => ?_)
    · have hw := hw.1 hc
      refine go_iload_n X 1 dQ_write_53 rfl rfl ?_
      refine go_bipush X dQ_write_54 kc_b96 ?_
      refine go_icmp_ge X dQ_write_56 rfl (fun hc => ?_) (fun hc => ?_)
      · have hw := hw.1 hc
        refine go_iload_n X 1 dQ_write_69 rfl rfl ?_
        refine go_sipush X dQ_write_70 kc_s128 ?_
        refine go_icmp_ge X dQ_write_73 rfl (fun hc => ?_) (fun hc => ?_)
        · have hw := hw.1 hc
          refine go_iload_n X 1 dQ_write_86 rfl rfl ?_
          refine go_sipush X dQ_write_87 kc_s192 ?_
          refine go_icmp_ge X dQ_write_90 rfl (fun hc => ?_) (fun hc => ?_)
          · have hw := hw.1 hc
            refine go_iload_n X 1 dQ_write_100 rfl rfl ?_
            refine go_sipush X dQ_write_101 kc_s191 ?_
            refine go_icmp_le X dQ_write_104 rfl (fun hc => ?_) (fun hc => ?_)
            · have hw := hw.1 hc
              exact go_vreturn X hq dQ_write_132 (q_memory, q_ram, q_low, q_top, q_mode) hw rfl
            · have hw := hw.2 hc
              exact C107 _ _ _ _ _ _ _ hw
          · have hw := hw.2 hc
            refine go_aload_n X 0 dQ_write_93 rfl rfl ?_
            refine gt_Q_78 X dQ_write_94 ?_
            refine go_if_ne X dQ_write_97 rfl (fun hc => ?_) (fun hc => ?_)
            · have hw := hw.1 hc
              exact C107 _ _ _ _ _ _ _ hw
            · have hw := hw.2 hc
              refine go_iload_n X 1 dQ_write_100 rfl rfl ?_
              refine go_sipush X dQ_write_101 kc_s191 ?_
              refine go_icmp_le X dQ_write_104 rfl (fun hc => ?_) (fun hc => ?_)
              · have hw := hw.1 hc
                exact go_vreturn X hq dQ_write_132 (q_memory, q_ram, q_low, q_top, q_mode) hw rfl
              · have hw := hw.2 hc
                exact C107 _ _ _ _ _ _ _ hw
        · have hw := hw.2 hc
          refine go_aload_n X 0 dQ_write_76 rfl rfl ?_
          refine go_iload_n X 2 dQ_write_77 rfl rfl ?_
          refine go_iconst X dQ_write_78 kc_i2 ?_
          refine go_irem X dQ_write_79 (by decide) ?_
          refine pt_Q_87 X dQ_write_80 ?_
          refine go_goto X dQ_write_83 rfl ?_
          exact go_vreturn X hq dQ_write_132 (q_memory, q_ram, q_low, q_top, a2 - a2 / (2 : Int32) * (2 : Int32)) hw rfl
      · have hw := hw.2 hc
        refine go_aload_n X 0 dQ_write_59 rfl rfl ?_
        refine go_iload_n X 2 dQ_write_60 rfl rfl ?_
        refine go_iconst X dQ_write_61 kc_i2 ?_
        refine go_irem X dQ_write_62 (by decide) ?_
        refine pt_Q_84 X dQ_write_63 ?_
        refine go_goto X dQ_write_66 rfl ?_
        exact go_vreturn X hq dQ_write_132 (q_memory, q_ram, q_low, a2 - a2 / (2 : Int32) * (2 : Int32), q_mode) hw rfl
    · have hw := hw.2 hc
      refine go_aload_n X 0 dQ_write_33 rfl rfl ?_
      refine go_iload_n X 2 dQ_write_34 rfl rfl ?_
      refine go_iconst X dQ_write_35 kc_i4 ?_
      refine go_irem X dQ_write_36 (by decide) ?_
      refine go_if_le X dQ_write_37 rfl (fun hc => ?_) (fun hc => ?_)
      · have hw := hw.1 hc
        refine go_iconst X dQ_write_46 kc_i1 ?_
        refine pt_Q_81 X dQ_write_47 ?_
        refine go_goto X dQ_write_50 rfl ?_
        exact go_vreturn X hq dQ_write_132 (q_memory, q_ram, (1 : Int32), q_top, q_mode) hw rfl
      · have hw := hw.2 hc
        refine go_iload_n X 2 dQ_write_40 rfl rfl ?_
        refine go_iconst X dQ_write_41 kc_i4 ?_
        refine go_irem X dQ_write_42 (by decide) ?_
        refine go_goto X dQ_write_43 rfl ?_
        refine pt_Q_81 X dQ_write_47 ?_
        refine go_goto X dQ_write_50 rfl ?_
        exact go_vreturn X hq dQ_write_132 (q_memory, q_ram, a2 - a2 / (4 : Int32) * (4 : Int32), q_top, q_mode) hw rfl
  · have hw := hw.2 hc
    refine go_aload_n X 0 dQ_write_6 rfl rfl ?_
    refine go_iload_n X 2 dQ_write_7 rfl rfl ?_
    refine go_bipush X dQ_write_8 kc_b16 ?_
    refine go_irem X dQ_write_10 (by decide) ?_
    refine go_bipush X dQ_write_11 kc_b10 ?_
    refine go_icmp_ne X dQ_write_13 rfl (fun hc => ?_) (fun hc => ?_)
    · have hw := hw.1 hc
      refine go_iconst X dQ_write_20 kc_i0 ?_
      refine pt_Q_78 X (Or.inl rfl) dQ_write_21 ?_
      refine go_goto X dQ_write_24 rfl ?_
      exact go_vreturn X hq dQ_write_132 (q_memory, (0 : Int32), q_low, q_top, q_mode) hw rfl
    · have hw := hw.2 hc
      refine go_iconst X dQ_write_16 kc_i1 ?_
      refine go_goto X dQ_write_17 rfl ?_
      refine pt_Q_78 X (Or.inr rfl) dQ_write_21 ?_
      refine go_goto X dQ_write_24 rfl ?_
      exact go_vreturn X hq dQ_write_132 (q_memory, (1 : Int32), q_low, q_top, q_mode) hw rfl
theorem k_Q_write {G : gt_} {ad : Nat → Nat} {cc : ByteArray} {own : String} {fr lo n cells slots pc index : Nat} {lc : List (Nat × Value)} {rest : List Value} {q_code q_many : Int32} {q_pin q_size q_bytes q_kind q_bank q_address q_full : Nat → Int32} {q_linked : Int32} {q_packedBank q_packedAddress : Nat → Int32} {q_banks : Int32} {q_memory q_register : Nat → Int32} {q_stack q_place q_zero q_less q_half q_carry q_enabled q_soon q_ram q_low q_top q_mode q_state q_sent : Int32} {q_out : Nat → Int32} {a1 a2 : Int32} {P : (Nat → Int32) → (Int32) → (Int32) → (Int32) → (Int32) → Prop} (X : cx_ G ad cc own fr lo n) (hw : wp_Q_write q_banks q_memory q_ram q_low q_top q_mode a1 a2 P) (m1 : Cond.methodLink own index yQ_write ∈ wS) (hlv : 1 + 1 ≤ fr ∧ 8 + (3 + 11) + 21 ≤ lo) (hrs : (rest.map fun v => v.category).sum ≤ 8) (hcs : cells ≤ (gR_ G).cells ∧ slots ≤ (gR_ G).slots) (d : decode cc pc = .ok (.invokevirtual index, 3))
    (kk : ∀ (q_memory' : Nat → Int32) (q_ram' q_low' q_top' q_mode' : Int32), P q_memory' q_ram' q_low' q_top' q_mode' → go_ G cells slots (wM ad q_code q_many q_pin q_size q_bytes q_kind q_bank q_address q_full q_linked q_packedBank q_packedAddress q_banks q_memory' q_register q_stack q_place q_zero q_less q_half q_carry q_enabled q_soon q_ram' q_low' q_top' q_mode' q_state q_sent q_out) (pc + 3) lc (rest)) : go_ G cells slots (wM ad q_code q_many q_pin q_size q_bytes q_kind q_bank q_address q_full q_linked q_packedBank q_packedAddress q_banks q_memory q_register q_stack q_place q_zero q_less q_half q_carry q_enabled q_soon q_ram q_low q_top q_mode q_state q_sent q_out) pc lc (.int a2 :: .int a1 :: .ref (ad 30) :: rest) :=
  go_cvv X (c_Q_write hw) me_Q_write m1 hlv 0 rfl rfl rfl hrs hcs d (fun u hp => kk u.1 u.2.1 u.2.2.1 u.2.2.2.1 u.2.2.2.2 hp)
set_option maxRecDepth 100000 in
set_option maxHeartbeats 4000000 in
theorem c_Q_build {l : Launch} {D : va_G} {ad : Nat → Nat} {q_code q_many : Int32} {q_pin q_size q_bytes q_kind q_bank q_address q_full : Nat → Int32} {q_linked : Int32} {q_packedBank q_packedAddress : Nat → Int32} {q_banks : Int32} {q_memory q_register : Nat → Int32} {q_stack q_place q_zero q_less q_half q_carry q_enabled q_soon q_ram q_low q_top q_mode q_state q_sent : Int32} {q_out : Nat → Int32} {a1 : Int32} {P : (Int32) → (Nat → Int32) → Prop} (hw : wp_Q_build q_many q_size q_bytes q_kind q_bank q_address q_banks q_memory a1 P) : ct_ l yQ_build bQ_build 7 none 2 42 D ad [.ref (ad 30), .int a1] (wM ad q_code q_many q_pin q_size q_bytes q_kind q_bank q_address q_full q_linked q_packedBank q_packedAddress q_banks q_memory q_register q_stack q_place q_zero q_less q_half q_carry q_enabled q_soon q_ram q_low q_top q_mode q_state q_sent q_out) (qv_ D (fun (u : (Int32) × (Nat → Int32)) => P u.1 u.2) (fun u => wM ad q_code q_many q_pin q_size q_bytes q_kind q_bank q_address q_full q_linked q_packedBank q_packedAddress u.1 u.2 q_register q_stack q_place q_zero q_less q_half q_carry q_enabled q_soon q_ram q_low q_top q_mode q_state q_sent q_out)) := by
  refine ct_of RQ (by decide) rfl (Nat.le_of_ble_eq_true rfl) (fun G hl hD X hq => ?_)
  subst hl hD
  show go_ G 0 0 (wM ad q_code q_many q_pin q_size q_bytes q_kind q_bank q_address q_full q_linked q_packedBank q_packedAddress q_banks q_memory q_register q_stack q_place q_zero q_less q_half q_carry q_enabled q_soon q_ram q_low q_top q_mode q_state q_sent q_out) 0 [(0, .ref (ad 30)), (1, .int a1)] []
  have C77 : ∀ (K46 : (Int32) → (Nat → Int32) → Int32 → Prop) (hK46 : ∀ (q_banks : Int32) (q_memory : Nat → Int32) (x2 : Int32), K46 q_banks q_memory x2 → go_ G 0 0 (wM ad q_code q_many q_pin q_size q_bytes q_kind q_bank q_address q_full q_linked q_packedBank q_packedAddress q_banks q_memory q_register q_stack q_place q_zero q_less q_half q_carry q_enabled q_soon q_ram q_low q_top q_mode q_state q_sent q_out) 46 [(0, .ref (ad 30)), (2, .int x2)] []) (n9 : Nat) (q_banks : Int32) (q_memory : Nat → Int32) (x2 x3 x4 : Int32), wp_Q_build_77 q_many q_size q_bytes q_kind q_bank q_address K46 P n9 q_banks q_memory x2 x3 x4 → go_ G 0 0 (wM ad q_code q_many q_pin q_size q_bytes q_kind q_bank q_address q_full q_linked q_packedBank q_packedAddress q_banks q_memory q_register q_stack q_place q_zero q_less q_half q_carry q_enabled q_soon q_ram q_low q_top q_mode q_state q_sent q_out) 77 [(0, .ref (ad 30)), (2, .int x2), (3, .int x3), (4, .int x4)] [] := by
    intro K46 hK46 n9
    induction n9 with
    | zero =>
      intro q_banks q_memory x2 x3 x4 hw
      exact False.elim hw
    | succ n9 ih =>
      intro q_banks q_memory x2 x3 x4 hw
      refine go_iload X 3 dQ_build_77 rfl ?_
      refine go_aload_n X 0 dQ_build_79 rfl rfl ?_
      refine gt_Q_13 X dQ_build_80 ?_
      refine go_iload_n X 1 dQ_build_83 rfl rfl ?_
      have hz := hw.1
      have hw := hw.2
      refine ar_q_size X hz dQ_build_84 ?_
      refine go_icmp_ge X dQ_build_85 rfl (fun hc => ?_) (fun hc => ?_)
      · have hw := hw.1 hc
        refine go_iinc X 1 dQ_build_164 rfl (ki_1 _) (by decide) rfl ?_
        refine go_goto X dQ_build_167 rfl ?_
        refine go_lc [1, 0] rfl ?_
        exact hK46 _ _ _ hw
      · have hw := hw.2 hc
        refine go_aload_n X 0 dQ_build_88 rfl rfl ?_
        refine gt_Q_16 X dQ_build_89 ?_
        refine go_bipush X dQ_build_92 kc_b48 ?_
        refine go_iload_n X 1 dQ_build_94 rfl rfl ?_
        refine go_imul X dQ_build_95 ?_
        refine go_iload X 3 dQ_build_96 rfl ?_
        refine go_iadd X dQ_build_98 ?_
        have hz := hw.1
        have hw := hw.2
        refine ar_q_bytes X hz dQ_build_99 ?_
        refine go_nm (fun z5 ez5 => ?_)
        have hw := hw z5 ez5
        refine go_istore X dQ_build_100 (by decide) rfl ?_
        refine go_aload_n X 1 dQ_build_102 rfl rfl ?_
        refine gt_Q_19 X dQ_build_103 ?_
        refine go_bipush X dQ_build_106 kc_b48 ?_
        refine go_iload_n X 2 dQ_build_108 rfl rfl ?_
        refine go_imul X dQ_build_109 ?_
        refine go_iload X 4 dQ_build_110 rfl ?_
        refine go_iadd X dQ_build_112 ?_
        have hz := hw.1
        have hw := hw.2
        refine ar_q_kind X hz dQ_build_113 ?_
        refine go_nm (fun z6 ez6 => ?_)
        have hw := hw z6 ez6
        refine go_istore X dQ_build_114 (by decide) rfl ?_
        refine go_aload_n X 2 dQ_build_116 rfl rfl ?_
        refine gt_Q_37 X dQ_build_117 ?_
        refine go_iload_n X 4 dQ_build_120 rfl rfl ?_
        refine go_iload X 5 dQ_build_121 rfl ?_
        refine go_iadd X dQ_build_123 ?_
        refine go_iload X 0 dQ_build_124 rfl ?_
        refine go_if_ne X dQ_build_126 rfl (fun hc => ?_) (fun hc => ?_)
        · have hw := hw.1 hc
          refine go_iload X 0 dQ_build_134 rfl ?_
          refine go_iconst X dQ_build_136 kc_i1 ?_
          refine go_icmp_ne X dQ_build_137 rfl (fun hc => ?_) (fun hc => ?_)
          · have hw := hw.1 hc
            refine go_aload_n X 2 dQ_build_150 rfl rfl ?_
            refine gt_Q_22 X dQ_build_151 ?_
            refine go_iload X 1 dQ_build_154 rfl ?_
            have hz := hw.1
            have hw := hw.2
            refine ar_q_bank X hz dQ_build_156 ?_
            have hz := hw.1
            have hw := hw.2
            refine as_q_memory X hz dQ_build_157 ?_
            refine go_iinc X 5 dQ_build_158 rfl (ki_1 _) (by decide) rfl ?_
            refine go_goto X dQ_build_161 rfl ?_
            refine go_lc [3, 4, 5, 0] rfl ?_
            exact ih _ _ _ _ _ hw
          · have hw := hw.2 hc
            refine go_aload_n X 2 dQ_build_140 rfl rfl ?_
            refine gt_Q_25 X dQ_build_141 ?_
            refine go_iload X 1 dQ_build_144 rfl ?_
            have hz := hw.1
            have hw := hw.2
            refine ar_q_address X hz dQ_build_146 ?_
            refine go_goto X dQ_build_147 rfl ?_
            have hz := hw.1
            have hw := hw.2
            refine as_q_memory X hz dQ_build_157 ?_
            refine go_iinc X 5 dQ_build_158 rfl (ki_1 _) (by decide) rfl ?_
            refine go_goto X dQ_build_161 rfl ?_
            refine go_lc [3, 4, 5, 0] rfl ?_
            exact ih _ _ _ _ _ hw
        · have hw := hw.2 hc
          refine go_iload X 1 dQ_build_129 rfl ?_
          refine go_goto X dQ_build_131 rfl ?_
          have hz := hw.1
          have hw := hw.2
          refine as_q_memory X hz dQ_build_157 ?_
          refine go_iinc X 5 dQ_build_158 rfl (ki_1 _) (by decide) rfl ?_
          refine go_goto X dQ_build_161 rfl ?_
          refine go_lc [3, 4, 5, 0] rfl ?_
          exact ih _ _ _ _ _ hw
  have C46 : ∀ (n9 : Nat) (q_banks : Int32) (q_memory : Nat → Int32) (x2 : Int32), wp_Q_build_46 q_many q_size q_bytes q_kind q_bank q_address P n9 q_banks q_memory x2 → go_ G 0 0 (wM ad q_code q_many q_pin q_size q_bytes q_kind q_bank q_address q_full q_linked q_packedBank q_packedAddress q_banks q_memory q_register q_stack q_place q_zero q_less q_half q_carry q_enabled q_soon q_ram q_low q_top q_mode q_state q_sent q_out) 46 [(0, .ref (ad 30)), (2, .int x2)] [] := by
    intro n9
    induction n9 with
    | zero =>
      intro q_banks q_memory x2 hw
      exact False.elim hw
    | succ n9 ih =>
      intro q_banks q_memory x2 hw
      refine go_iload_n X 1 dQ_build_46 rfl rfl ?_
      refine go_aload_n X 0 dQ_build_47 rfl rfl ?_
      refine gt_Q_100 X dQ_build_48 ?_
      refine go_icmp_ge X dQ_build_51 rfl (fun hc => ?_) (fun hc => ?_)
      · have hw := hw.1 hc
        refine go_aload_n X 0 dQ_build_170 rfl rfl ?_
        refine gt_Q_37 X dQ_build_171 ?_
        refine go_bipush X dQ_build_174 kc_b13 ?_
        refine go_aload_n X 0 dQ_build_176 rfl rfl ?_
        refine k_Q_headCheck X hw mw_Q_125 ⟨by decide, by decide⟩ (Nat.le_of_ble_eq_true rfl) ⟨Nat.zero_le _, Nat.zero_le _⟩ dQ_build_177 (fun r2 hw => ?_)
        refine as_q_memory X vi_13_705 dQ_build_180 ?_
        refine go_aload_n X 0 dQ_build_181 rfl rfl ?_
        refine k_Q_imageCheck X hw mw_Q_129 ⟨by decide, by decide⟩ (Nat.le_of_ble_eq_true rfl) ⟨Nat.zero_le _, Nat.zero_le _⟩ dQ_build_182 (fun r3 hw => ?_)
        refine go_istore_n X dQ_build_185 rfl (by decide) rfl ?_
        refine go_aload_n X 1 dQ_build_186 rfl rfl ?_
        refine gt_Q_37 X dQ_build_187 ?_
        refine go_bipush X dQ_build_190 kc_b14 ?_
        refine go_iload_n X 0 dQ_build_192 rfl rfl ?_
        refine go_bipush X dQ_build_193 kc_b8 ?_
        refine go_ishr X dQ_build_195 ?_
        refine as_q_memory X vi_14_705 dQ_build_196 ?_
        refine go_aload_n X 1 dQ_build_197 rfl rfl ?_
        refine gt_Q_37 X dQ_build_198 ?_
        refine go_bipush X dQ_build_201 kc_b15 ?_
        refine go_iload_n X 0 dQ_build_203 rfl rfl ?_
        refine go_sipush X dQ_build_204 kc_s255 ?_
        refine go_iand X dQ_build_207 ?_
        refine as_q_memory X vi_15_705 dQ_build_208 ?_
        exact go_vreturn X hq dQ_build_209 (q_banks, upd (upd (upd q_memory (13 : Int32).toNatClampNeg r2) (14 : Int32).toNatClampNeg (r3 >>> ((8 : Int32) &&& 31))) (15 : Int32).toNatClampNeg (r3 &&& (255 : Int32))) hw rfl
      · have hw := hw.2 hc
        refine go_bipush X dQ_build_54 kc_b64 ?_
        refine go_aload_n X 0 dQ_build_56 rfl rfl ?_
        refine gt_Q_22 X dQ_build_57 ?_
        refine go_iload_n X 1 dQ_build_60 rfl rfl ?_
        have hz := hw.1
        have hw := hw.2
        refine ar_q_bank X hz dQ_build_61 ?_
        refine go_imul X dQ_build_62 ?_
        refine go_aload_n X 0 dQ_build_63 rfl rfl ?_
        refine gt_Q_25 X dQ_build_64 ?_
        refine go_iload_n X 1 dQ_build_67 rfl rfl ?_
        have hz := hw.1
        have hw := hw.2
        refine ar_q_address X hz dQ_build_68 ?_
        refine go_bipush X dQ_build_69 kc_b64 ?_
        refine go_irem X dQ_build_71 (by decide) ?_
        refine go_iadd X dQ_build_72 ?_
        refine go_nm (fun z4 ez4 => ?_)
        have hw := hw z4 ez4
        refine go_istore_n X dQ_build_73 rfl (by decide) rfl ?_
        refine go_iconst X dQ_build_74 kc_i0 ?_
        refine go_istore X dQ_build_75 (by decide) rfl ?_
        refine go_lc [2, 3, 1, 0] rfl ?_
        obtain ⟨j9, hw⟩ := hw
        exact C77 (wp_Q_build_46 q_many q_size q_bytes q_kind q_bank q_address P n9) ih j9 _ _ _ _ _ hw
  have C7 : ∀ (n9 : Nat) (q_banks : Int32) (q_memory : Nat → Int32) (x1 x2 : Int32), wp_Q_build_7 q_many q_size q_bytes q_kind q_bank q_address P n9 q_banks q_memory x1 x2 → go_ G 0 0 (wM ad q_code q_many q_pin q_size q_bytes q_kind q_bank q_address q_full q_linked q_packedBank q_packedAddress q_banks q_memory q_register q_stack q_place q_zero q_less q_half q_carry q_enabled q_soon q_ram q_low q_top q_mode q_state q_sent q_out) 7 [(0, .ref (ad 30)), (1, .int x1), (2, .int x2)] [] := by
    intro n9
    induction n9 with
    | zero =>
      intro q_banks q_memory x1 x2 hw
      exact False.elim hw
    | succ n9 ih =>
      intro q_banks q_memory x1 x2 hw
      refine go_iload_n X 2 dQ_build_7 rfl rfl ?_
      refine go_bipush X dQ_build_8 kc_b64 ?_
      refine go_iload_n X 1 dQ_build_10 rfl rfl ?_
      refine go_imul X dQ_build_11 ?_
      refine go_icmp_ge X dQ_build_12 rfl (fun hc => ?_) (fun hc => ?_)
      · have hw := hw.1 hc
        refine go_iconst X dQ_build_44 kc_i0 ?_
        refine go_istore_n X dQ_build_45 rfl (by decide) rfl ?_
        refine go_lc [1, 0] rfl ?_
        obtain ⟨j9, hw⟩ := hw
        exact C46 j9 _ _ _ hw
      · have hw := hw.2 hc
        refine go_aload_n X 0 dQ_build_15 rfl rfl ?_
        refine gt_Q_37 X dQ_build_16 ?_
        refine go_iload_n X 2 dQ_build_19 rfl rfl ?_
        refine go_iload_n X 2 dQ_build_20 rfl rfl ?_
        refine go_bipush X dQ_build_21 kc_b32 ?_
        refine go_icmp_ge X dQ_build_23 rfl (fun hc => ?_) (fun hc => ?_)
        · have hw := hw.1 hc
          refine go_sipush X dQ_build_34 kc_s255 ?_
          have hz := hw.1
          have hw := hw.2
          refine as_q_memory X hz dQ_build_37 ?_
          refine go_iinc X 2 dQ_build_38 rfl (ki_1 _) (by decide) rfl ?_
          refine go_goto X dQ_build_41 rfl ?_
          refine go_lc [1, 2, 0] rfl ?_
          exact ih _ _ _ _ hw
        · have hw := hw.2 hc
          refine go_aload_n X 0 dQ_build_26 rfl rfl ?_
          refine go_iload_n X 2 dQ_build_27 rfl rfl ?_
          refine k_Q_headByte X hw mw_Q_122 ⟨by decide, by decide⟩ (Nat.le_of_ble_eq_true rfl) ⟨Nat.zero_le _, Nat.zero_le _⟩ dQ_build_28 (fun r1 hw => ?_)
          refine go_goto X dQ_build_31 rfl ?_
          have hz := hw.1
          have hw := hw.2
          refine as_q_memory X hz dQ_build_37 ?_
          refine go_iinc X 2 dQ_build_38 rfl (ki_1 _) (by decide) rfl ?_
          refine go_goto X dQ_build_41 rfl ?_
          refine go_lc [1, 2, 0] rfl ?_
          exact ih _ _ _ _ hw
  refine go_aload_n X 0 dQ_build_0 rfl rfl ?_
  refine go_iload_n X 1 dQ_build_1 rfl rfl ?_
  refine pt_Q_114 X dQ_build_2 ?_
  refine go_iconst X dQ_build_5 kc_i0 ?_
  refine go_istore_n X dQ_build_6 rfl (by decide) rfl ?_
  refine go_lc [1, 2, 0] rfl ?_
  obtain ⟨j9, hw⟩ := hw
  exact C7 j9 _ _ _ _ hw
theorem k_Q_build {G : gt_} {ad : Nat → Nat} {cc : ByteArray} {own : String} {fr lo n cells slots pc index : Nat} {lc : List (Nat × Value)} {rest : List Value} {q_code q_many : Int32} {q_pin q_size q_bytes q_kind q_bank q_address q_full : Nat → Int32} {q_linked : Int32} {q_packedBank q_packedAddress : Nat → Int32} {q_banks : Int32} {q_memory q_register : Nat → Int32} {q_stack q_place q_zero q_less q_half q_carry q_enabled q_soon q_ram q_low q_top q_mode q_state q_sent : Int32} {q_out : Nat → Int32} {a1 : Int32} {P : (Int32) → (Nat → Int32) → Prop} (X : cx_ G ad cc own fr lo n) (hw : wp_Q_build q_many q_size q_bytes q_kind q_bank q_address q_banks q_memory a1 P) (m1 : Cond.methodLink own index yQ_build ∈ wS) (hlv : 2 + 1 ≤ fr ∧ 8 + (7 + 11) + 42 ≤ lo) (hrs : (rest.map fun v => v.category).sum ≤ 8) (hcs : cells ≤ (gR_ G).cells ∧ slots ≤ (gR_ G).slots) (d : decode cc pc = .ok (.invokevirtual index, 3))
    (kk : ∀ (q_banks' : Int32) (q_memory' : Nat → Int32), P q_banks' q_memory' → go_ G cells slots (wM ad q_code q_many q_pin q_size q_bytes q_kind q_bank q_address q_full q_linked q_packedBank q_packedAddress q_banks' q_memory' q_register q_stack q_place q_zero q_less q_half q_carry q_enabled q_soon q_ram q_low q_top q_mode q_state q_sent q_out) (pc + 3) lc (rest)) : go_ G cells slots (wM ad q_code q_many q_pin q_size q_bytes q_kind q_bank q_address q_full q_linked q_packedBank q_packedAddress q_banks q_memory q_register q_stack q_place q_zero q_less q_half q_carry q_enabled q_soon q_ram q_low q_top q_mode q_state q_sent q_out) pc lc (.int a1 :: .ref (ad 30) :: rest) :=
  go_cvv X (c_Q_build hw) me_Q_build m1 hlv 0 rfl rfl rfl hrs hcs d (fun u hp => kk u.1 u.2 hp)
set_option maxRecDepth 100000 in
set_option maxHeartbeats 4000000 in
theorem c_Q_get {l : Launch} {D : va_G} {ad : Nat → Nat} {q_code q_many : Int32} {q_pin q_size q_bytes q_kind q_bank q_address q_full : Nat → Int32} {q_linked : Int32} {q_packedBank q_packedAddress : Nat → Int32} {q_banks : Int32} {q_memory q_register : Nat → Int32} {q_stack q_place q_zero q_less q_half q_carry q_enabled q_soon q_ram q_low q_top q_mode q_state q_sent : Int32} {q_out : Nat → Int32} {a1 : Int32} {P : Int32 → Prop} (hw : wp_Q_get q_banks q_memory q_register q_ram q_low q_top q_mode a1 P) : ct_ l yQ_get bQ_get 2 (some .int) 2 42 D ad [.ref (ad 30), .int a1] (wM ad q_code q_many q_pin q_size q_bytes q_kind q_bank q_address q_full q_linked q_packedBank q_packedAddress q_banks q_memory q_register q_stack q_place q_zero q_less q_half q_carry q_enabled q_soon q_ram q_low q_top q_mode q_state q_sent q_out) (qi_ D (fun (r : Int32) (_ : Unit) => P r ) (fun _ => (wM ad q_code q_many q_pin q_size q_bytes q_kind q_bank q_address q_full q_linked q_packedBank q_packedAddress q_banks q_memory q_register q_stack q_place q_zero q_less q_half q_carry q_enabled q_soon q_ram q_low q_top q_mode q_state q_sent q_out))) := by
  refine ct_of RQ (by decide) rfl (Nat.le_of_ble_eq_true rfl) (fun G hl hD X hq => ?_)
  subst hl hD
  show go_ G 0 0 (wM ad q_code q_many q_pin q_size q_bytes q_kind q_bank q_address q_full q_linked q_packedBank q_packedAddress q_banks q_memory q_register q_stack q_place q_zero q_less q_half q_carry q_enabled q_soon q_ram q_low q_top q_mode q_state q_sent q_out) 0 [(0, .ref (ad 30)), (1, .int a1)] []
  refine go_iload_n X 1 dQ_get_0 rfl rfl ?_
  refine go_bipush X dQ_get_1 kc_b6 ?_
  refine go_icmp_ne X dQ_get_3 rfl (fun hc => ?_) (fun hc => ?_)
  · have hw := hw.1 hc
    refine go_aload_n X 0 dQ_get_19 rfl rfl ?_
    refine gt_Q_40 X dQ_get_20 ?_
    refine go_iload_n X 1 dQ_get_23 rfl rfl ?_
    have hz := hw.1
    have hw := hw.2
    refine ar_q_register X hz dQ_get_24 ?_
    exact go_ireturn X hq dQ_get_25 () hw rfl
  · have hw := hw.2 hc
    refine go_aload_n X 0 dQ_get_6 rfl rfl ?_
    refine go_aload_n X 0 dQ_get_7 rfl rfl ?_
    refine gt_Q_40 X dQ_get_8 ?_
    refine go_iconst X dQ_get_11 kc_i5 ?_
    refine ar_q_register X vi_5_8 dQ_get_12 ?_
    refine k_Q_read X hw mw_Q_152 ⟨by decide, by decide⟩ (Nat.le_of_ble_eq_true rfl) ⟨Nat.zero_le _, Nat.zero_le _⟩ dQ_get_13 (fun r1 hw => ?_)
    refine go_goto X dQ_get_16 rfl ?_
    exact go_ireturn X hq dQ_get_25 () hw rfl
theorem k_Q_get {G : gt_} {ad : Nat → Nat} {cc : ByteArray} {own : String} {fr lo n cells slots pc index : Nat} {lc : List (Nat × Value)} {rest : List Value} {q_code q_many : Int32} {q_pin q_size q_bytes q_kind q_bank q_address q_full : Nat → Int32} {q_linked : Int32} {q_packedBank q_packedAddress : Nat → Int32} {q_banks : Int32} {q_memory q_register : Nat → Int32} {q_stack q_place q_zero q_less q_half q_carry q_enabled q_soon q_ram q_low q_top q_mode q_state q_sent : Int32} {q_out : Nat → Int32} {a1 : Int32} {P : Int32 → Prop} (X : cx_ G ad cc own fr lo n) (hw : wp_Q_get q_banks q_memory q_register q_ram q_low q_top q_mode a1 P) (m1 : Cond.methodLink own index yQ_get ∈ wS) (hlv : 2 + 1 ≤ fr ∧ 8 + (2 + 11) + 42 ≤ lo) (hrs : (rest.map fun v => v.category).sum ≤ 8) (hcs : cells ≤ (gR_ G).cells ∧ slots ≤ (gR_ G).slots) (d : decode cc pc = .ok (.invokevirtual index, 3))
    (kk : ∀ (r : Int32), P r → go_ G cells slots (wM ad q_code q_many q_pin q_size q_bytes q_kind q_bank q_address q_full q_linked q_packedBank q_packedAddress q_banks q_memory q_register q_stack q_place q_zero q_less q_half q_carry q_enabled q_soon q_ram q_low q_top q_mode q_state q_sent q_out) (pc + 3) lc (.int r :: rest)) : go_ G cells slots (wM ad q_code q_many q_pin q_size q_bytes q_kind q_bank q_address q_full q_linked q_packedBank q_packedAddress q_banks q_memory q_register q_stack q_place q_zero q_less q_half q_carry q_enabled q_soon q_ram q_low q_top q_mode q_state q_sent q_out) pc lc (.int a1 :: .ref (ad 30) :: rest) :=
  go_cvi X (c_Q_get hw) me_Q_get m1 hlv 0 rfl rfl rfl hrs hcs d (fun r _ hp => kk r  hp)
set_option maxRecDepth 100000 in
set_option maxHeartbeats 4000000 in
theorem c_Q_next {l : Launch} {D : va_G} {ad : Nat → Nat} {q_code q_many : Int32} {q_pin q_size q_bytes q_kind q_bank q_address q_full : Nat → Int32} {q_linked : Int32} {q_packedBank q_packedAddress : Nat → Int32} {q_banks : Int32} {q_memory q_register : Nat → Int32} {q_stack q_place q_zero q_less q_half q_carry q_enabled q_soon q_ram q_low q_top q_mode q_state q_sent : Int32} {q_out : Nat → Int32}  {P : Int32 → (Int32) → Prop} (hw : wp_Q_next q_banks q_memory q_place q_ram q_low q_top q_mode  P) : ct_ l yQ_next bQ_next 2 (some .int) 2 42 D ad [.ref (ad 30)] (wM ad q_code q_many q_pin q_size q_bytes q_kind q_bank q_address q_full q_linked q_packedBank q_packedAddress q_banks q_memory q_register q_stack q_place q_zero q_less q_half q_carry q_enabled q_soon q_ram q_low q_top q_mode q_state q_sent q_out) (qi_ D (fun (r : Int32) (u : (Int32)) => P r u) (fun u => wM ad q_code q_many q_pin q_size q_bytes q_kind q_bank q_address q_full q_linked q_packedBank q_packedAddress q_banks q_memory q_register q_stack u q_zero q_less q_half q_carry q_enabled q_soon q_ram q_low q_top q_mode q_state q_sent q_out)) := by
  refine ct_of RQ (by decide) rfl (Nat.le_of_ble_eq_true rfl) (fun G hl hD X hq => ?_)
  subst hl hD
  show go_ G 0 0 (wM ad q_code q_many q_pin q_size q_bytes q_kind q_bank q_address q_full q_linked q_packedBank q_packedAddress q_banks q_memory q_register q_stack q_place q_zero q_less q_half q_carry q_enabled q_soon q_ram q_low q_top q_mode q_state q_sent q_out) 0 [(0, .ref (ad 30))] []
  refine go_aload_n X 0 dQ_next_0 rfl rfl ?_
  refine go_aload_n X 0 dQ_next_1 rfl rfl ?_
  refine gt_Q_56 X dQ_next_2 ?_
  refine k_Q_read X hw mw_Q_152 ⟨by decide, by decide⟩ (Nat.le_of_ble_eq_true rfl) ⟨Nat.zero_le _, Nat.zero_le _⟩ dQ_next_5 (fun r1 hw => ?_)
  refine go_istore_n X dQ_next_8 rfl (by decide) rfl ?_
  refine go_aload_n X 1 dQ_next_9 rfl rfl ?_
  refine go_aload_n X 1 dQ_next_10 rfl rfl ?_
  refine gt_Q_56 X dQ_next_11 ?_
  refine go_iconst X dQ_next_14 kc_i1 ?_
  refine go_iadd X dQ_next_15 ?_
  refine go_sipush X dQ_next_16 kc_s256 ?_
  refine go_irem X dQ_next_19 (by decide) ?_
  refine pt_Q_56 X dQ_next_20 ?_
  refine go_iload_n X 0 dQ_next_23 rfl rfl ?_
  exact go_ireturn X hq dQ_next_24 ((q_place + (1 : Int32)) - (q_place + (1 : Int32)) / (256 : Int32) * (256 : Int32)) hw rfl
theorem k_Q_next {G : gt_} {ad : Nat → Nat} {cc : ByteArray} {own : String} {fr lo n cells slots pc index : Nat} {lc : List (Nat × Value)} {rest : List Value} {q_code q_many : Int32} {q_pin q_size q_bytes q_kind q_bank q_address q_full : Nat → Int32} {q_linked : Int32} {q_packedBank q_packedAddress : Nat → Int32} {q_banks : Int32} {q_memory q_register : Nat → Int32} {q_stack q_place q_zero q_less q_half q_carry q_enabled q_soon q_ram q_low q_top q_mode q_state q_sent : Int32} {q_out : Nat → Int32}  {P : Int32 → (Int32) → Prop} (X : cx_ G ad cc own fr lo n) (hw : wp_Q_next q_banks q_memory q_place q_ram q_low q_top q_mode  P) (m1 : Cond.methodLink own index yQ_next ∈ wS) (hlv : 2 + 1 ≤ fr ∧ 8 + (2 + 11) + 42 ≤ lo) (hrs : (rest.map fun v => v.category).sum ≤ 8) (hcs : cells ≤ (gR_ G).cells ∧ slots ≤ (gR_ G).slots) (d : decode cc pc = .ok (.invokevirtual index, 3))
    (kk : ∀ (r q_place' : Int32), P r q_place' → go_ G cells slots (wM ad q_code q_many q_pin q_size q_bytes q_kind q_bank q_address q_full q_linked q_packedBank q_packedAddress q_banks q_memory q_register q_stack q_place' q_zero q_less q_half q_carry q_enabled q_soon q_ram q_low q_top q_mode q_state q_sent q_out) (pc + 3) lc (.int r :: rest)) : go_ G cells slots (wM ad q_code q_many q_pin q_size q_bytes q_kind q_bank q_address q_full q_linked q_packedBank q_packedAddress q_banks q_memory q_register q_stack q_place q_zero q_less q_half q_carry q_enabled q_soon q_ram q_low q_top q_mode q_state q_sent q_out) pc lc (.ref (ad 30) :: rest) :=
  go_cvi X (c_Q_next hw) me_Q_next m1 hlv 0 rfl rfl rfl hrs hcs d (fun r u hp => kk r u hp)
set_option maxRecDepth 100000 in
set_option maxHeartbeats 4000000 in
theorem c_Q_peek {l : Launch} {D : va_G} {ad : Nat → Nat} {q_code q_many : Int32} {q_pin q_size q_bytes q_kind q_bank q_address q_full : Nat → Int32} {q_linked : Int32} {q_packedBank q_packedAddress : Nat → Int32} {q_banks : Int32} {q_memory q_register : Nat → Int32} {q_stack q_place q_zero q_less q_half q_carry q_enabled q_soon q_ram q_low q_top q_mode q_state q_sent : Int32} {q_out : Nat → Int32} {a1 : Int32} {P : Int32 → (Int32) → Prop} (hw : wp_Q_peek q_code q_linked q_banks q_memory q_ram q_low q_top q_mode a1 P) : ct_ l yQ_peek bQ_peek 2 (some .int) 2 42 D ad [.ref (ad 30), .int a1] (wM ad q_code q_many q_pin q_size q_bytes q_kind q_bank q_address q_full q_linked q_packedBank q_packedAddress q_banks q_memory q_register q_stack q_place q_zero q_less q_half q_carry q_enabled q_soon q_ram q_low q_top q_mode q_state q_sent q_out) (qi_ D (fun (r : Int32) (u : (Int32)) => P r u) (fun u => wM ad u q_many q_pin q_size q_bytes q_kind q_bank q_address q_full q_linked q_packedBank q_packedAddress q_banks q_memory q_register q_stack q_place q_zero q_less q_half q_carry q_enabled q_soon q_ram q_low q_top q_mode q_state q_sent q_out)) := by
  refine ct_of RQ (by decide) rfl (Nat.le_of_ble_eq_true rfl) (fun G hl hD X hq => ?_)
  subst hl hD
  show go_ G 0 0 (wM ad q_code q_many q_pin q_size q_bytes q_kind q_bank q_address q_full q_linked q_packedBank q_packedAddress q_banks q_memory q_register q_stack q_place q_zero q_less q_half q_carry q_enabled q_soon q_ram q_low q_top q_mode q_state q_sent q_out) 0 [(0, .ref (ad 30)), (1, .int a1)] []
  refine go_aload_n X 0 dQ_peek_0 rfl rfl ?_
  refine gt_Q_143 X dQ_peek_1 ?_
  refine go_if_eq X dQ_peek_4 rfl (fun hc => ?_) (fun hc => ?_)
  · have hw := hw.1 hc
    refine go_aload_n X 0 dQ_peek_18 rfl rfl ?_
    refine go_iconst X dQ_peek_19 kc_i1 ?_
    refine k_Q_refuse X hw mw_Q_146 ⟨by decide, by decide⟩ (Nat.le_of_ble_eq_true rfl) ⟨Nat.zero_le _, Nat.zero_le _⟩ dQ_peek_20 (fun r1 w2 hw => ?_)
    exact go_ireturn X hq dQ_peek_23 w2 hw rfl
  · have hw := hw.2 hc
    refine go_iload_n X 1 dQ_peek_7 rfl rfl ?_
    refine go_iconst X dQ_peek_8 kc_i0 ?_
    refine go_sipush X dQ_peek_9 kc_s255 ?_
    refine k_Q_outside X hw mw_Q_96 ⟨by decide, by decide⟩ (Nat.le_of_ble_eq_true rfl) ⟨Nat.zero_le _, Nat.zero_le _⟩ dQ_peek_12 (fun r3 hw => ?_)
    refine go_if_eq X dQ_peek_15 rfl (fun hc => ?_) (fun hc => ?_)
    · have hw := hw.1 hc
      refine go_aload_n X 0 dQ_peek_24 rfl rfl ?_
      refine go_iconst X dQ_peek_25 kc_i0 ?_
      refine pt_Q_49 X dQ_peek_26 ?_
      refine go_aload_n X 0 dQ_peek_29 rfl rfl ?_
      refine go_iload_n X 1 dQ_peek_30 rfl rfl ?_
      refine k_Q_read X hw mw_Q_152 ⟨by decide, by decide⟩ (Nat.le_of_ble_eq_true rfl) ⟨Nat.zero_le _, Nat.zero_le _⟩ dQ_peek_31 (fun r4 hw => ?_)
      exact go_ireturn X hq dQ_peek_34 (0 : Int32) hw rfl
    · have hw := hw.2 hc
      refine go_aload_n X 0 dQ_peek_18 rfl rfl ?_
      refine go_iconst X dQ_peek_19 kc_i1 ?_
      refine k_Q_refuse X hw mw_Q_146 ⟨by decide, by decide⟩ (Nat.le_of_ble_eq_true rfl) ⟨Nat.zero_le _, Nat.zero_le _⟩ dQ_peek_20 (fun r5 w6 hw => ?_)
      exact go_ireturn X hq dQ_peek_23 w6 hw rfl
theorem k_Q_peek {G : gt_} {ad : Nat → Nat} {cc : ByteArray} {own : String} {fr lo n cells slots pc index : Nat} {lc : List (Nat × Value)} {rest : List Value} {q_code q_many : Int32} {q_pin q_size q_bytes q_kind q_bank q_address q_full : Nat → Int32} {q_linked : Int32} {q_packedBank q_packedAddress : Nat → Int32} {q_banks : Int32} {q_memory q_register : Nat → Int32} {q_stack q_place q_zero q_less q_half q_carry q_enabled q_soon q_ram q_low q_top q_mode q_state q_sent : Int32} {q_out : Nat → Int32} {a1 : Int32} {P : Int32 → (Int32) → Prop} (X : cx_ G ad cc own fr lo n) (hw : wp_Q_peek q_code q_linked q_banks q_memory q_ram q_low q_top q_mode a1 P) (m1 : Cond.methodLink own index yQ_peek ∈ wS) (hlv : 2 + 1 ≤ fr ∧ 8 + (2 + 11) + 42 ≤ lo) (hrs : (rest.map fun v => v.category).sum ≤ 8) (hcs : cells ≤ (gR_ G).cells ∧ slots ≤ (gR_ G).slots) (d : decode cc pc = .ok (.invokevirtual index, 3))
    (kk : ∀ (r q_code' : Int32), P r q_code' → go_ G cells slots (wM ad q_code' q_many q_pin q_size q_bytes q_kind q_bank q_address q_full q_linked q_packedBank q_packedAddress q_banks q_memory q_register q_stack q_place q_zero q_less q_half q_carry q_enabled q_soon q_ram q_low q_top q_mode q_state q_sent q_out) (pc + 3) lc (.int r :: rest)) : go_ G cells slots (wM ad q_code q_many q_pin q_size q_bytes q_kind q_bank q_address q_full q_linked q_packedBank q_packedAddress q_banks q_memory q_register q_stack q_place q_zero q_less q_half q_carry q_enabled q_soon q_ram q_low q_top q_mode q_state q_sent q_out) pc lc (.int a1 :: .ref (ad 30) :: rest) :=
  go_cvi X (c_Q_peek hw) me_Q_peek m1 hlv 0 rfl rfl rfl hrs hcs d (fun r u hp => kk r u hp)
set_option maxRecDepth 100000 in
set_option maxHeartbeats 4000000 in
theorem c_Q_pop {l : Launch} {D : va_G} {ad : Nat → Nat} {q_code q_many : Int32} {q_pin q_size q_bytes q_kind q_bank q_address q_full : Nat → Int32} {q_linked : Int32} {q_packedBank q_packedAddress : Nat → Int32} {q_banks : Int32} {q_memory q_register : Nat → Int32} {q_stack q_place q_zero q_less q_half q_carry q_enabled q_soon q_ram q_low q_top q_mode q_state q_sent : Int32} {q_out : Nat → Int32}  {P : Int32 → (Int32) → Prop} (hw : wp_Q_pop q_banks q_memory q_stack q_ram q_low q_top q_mode  P) : ct_ l yQ_pop bQ_pop 2 (some .int) 2 42 D ad [.ref (ad 30)] (wM ad q_code q_many q_pin q_size q_bytes q_kind q_bank q_address q_full q_linked q_packedBank q_packedAddress q_banks q_memory q_register q_stack q_place q_zero q_less q_half q_carry q_enabled q_soon q_ram q_low q_top q_mode q_state q_sent q_out) (qi_ D (fun (r : Int32) (u : (Int32)) => P r u) (fun u => wM ad q_code q_many q_pin q_size q_bytes q_kind q_bank q_address q_full q_linked q_packedBank q_packedAddress q_banks q_memory q_register u q_place q_zero q_less q_half q_carry q_enabled q_soon q_ram q_low q_top q_mode q_state q_sent q_out)) := by
  refine ct_of RQ (by decide) rfl (Nat.le_of_ble_eq_true rfl) (fun G hl hD X hq => ?_)
  subst hl hD
  show go_ G 0 0 (wM ad q_code q_many q_pin q_size q_bytes q_kind q_bank q_address q_full q_linked q_packedBank q_packedAddress q_banks q_memory q_register q_stack q_place q_zero q_less q_half q_carry q_enabled q_soon q_ram q_low q_top q_mode q_state q_sent q_out) 0 [(0, .ref (ad 30))] []
  refine go_aload_n X 0 dQ_pop_0 rfl rfl ?_
  refine go_aload_n X 0 dQ_pop_1 rfl rfl ?_
  refine gt_Q_53 X dQ_pop_2 ?_
  refine k_Q_read X hw mw_Q_152 ⟨by decide, by decide⟩ (Nat.le_of_ble_eq_true rfl) ⟨Nat.zero_le _, Nat.zero_le _⟩ dQ_pop_5 (fun r1 hw => ?_)
  refine go_istore_n X dQ_pop_8 rfl (by decide) rfl ?_
  refine go_aload_n X 1 dQ_pop_9 rfl rfl ?_
  refine go_aload_n X 1 dQ_pop_10 rfl rfl ?_
  refine gt_Q_53 X dQ_pop_11 ?_
  refine go_iconst X dQ_pop_14 kc_i1 ?_
  refine go_iadd X dQ_pop_15 ?_
  refine go_sipush X dQ_pop_16 kc_s256 ?_
  refine go_irem X dQ_pop_19 (by decide) ?_
  refine pt_Q_53 X dQ_pop_20 ?_
  refine go_iload_n X 0 dQ_pop_23 rfl rfl ?_
  exact go_ireturn X hq dQ_pop_24 ((q_stack + (1 : Int32)) - (q_stack + (1 : Int32)) / (256 : Int32) * (256 : Int32)) hw rfl
theorem k_Q_pop {G : gt_} {ad : Nat → Nat} {cc : ByteArray} {own : String} {fr lo n cells slots pc index : Nat} {lc : List (Nat × Value)} {rest : List Value} {q_code q_many : Int32} {q_pin q_size q_bytes q_kind q_bank q_address q_full : Nat → Int32} {q_linked : Int32} {q_packedBank q_packedAddress : Nat → Int32} {q_banks : Int32} {q_memory q_register : Nat → Int32} {q_stack q_place q_zero q_less q_half q_carry q_enabled q_soon q_ram q_low q_top q_mode q_state q_sent : Int32} {q_out : Nat → Int32}  {P : Int32 → (Int32) → Prop} (X : cx_ G ad cc own fr lo n) (hw : wp_Q_pop q_banks q_memory q_stack q_ram q_low q_top q_mode  P) (m1 : Cond.methodLink own index yQ_pop ∈ wS) (hlv : 2 + 1 ≤ fr ∧ 8 + (2 + 11) + 42 ≤ lo) (hrs : (rest.map fun v => v.category).sum ≤ 8) (hcs : cells ≤ (gR_ G).cells ∧ slots ≤ (gR_ G).slots) (d : decode cc pc = .ok (.invokevirtual index, 3))
    (kk : ∀ (r q_stack' : Int32), P r q_stack' → go_ G cells slots (wM ad q_code q_many q_pin q_size q_bytes q_kind q_bank q_address q_full q_linked q_packedBank q_packedAddress q_banks q_memory q_register q_stack' q_place q_zero q_less q_half q_carry q_enabled q_soon q_ram q_low q_top q_mode q_state q_sent q_out) (pc + 3) lc (.int r :: rest)) : go_ G cells slots (wM ad q_code q_many q_pin q_size q_bytes q_kind q_bank q_address q_full q_linked q_packedBank q_packedAddress q_banks q_memory q_register q_stack q_place q_zero q_less q_half q_carry q_enabled q_soon q_ram q_low q_top q_mode q_state q_sent q_out) pc lc (.ref (ad 30) :: rest) :=
  go_cvi X (c_Q_pop hw) me_Q_pop m1 hlv 0 rfl rfl rfl hrs hcs d (fun r u hp => kk r u hp)
set_option maxRecDepth 100000 in
set_option maxHeartbeats 4000000 in
theorem c_Q_push {l : Launch} {D : va_G} {ad : Nat → Nat} {q_code q_many : Int32} {q_pin q_size q_bytes q_kind q_bank q_address q_full : Nat → Int32} {q_linked : Int32} {q_packedBank q_packedAddress : Nat → Int32} {q_banks : Int32} {q_memory q_register : Nat → Int32} {q_stack q_place q_zero q_less q_half q_carry q_enabled q_soon q_ram q_low q_top q_mode q_state q_sent : Int32} {q_out : Nat → Int32} {a1 : Int32} {P : (Nat → Int32) → (Int32) → (Int32) → (Int32) → (Int32) → (Int32) → Prop} (hw : wp_Q_push q_banks q_memory q_stack q_ram q_low q_top q_mode a1 P) : ct_ l yQ_push bQ_push 2 none 2 43 D ad [.ref (ad 30), .int a1] (wM ad q_code q_many q_pin q_size q_bytes q_kind q_bank q_address q_full q_linked q_packedBank q_packedAddress q_banks q_memory q_register q_stack q_place q_zero q_less q_half q_carry q_enabled q_soon q_ram q_low q_top q_mode q_state q_sent q_out) (qv_ D (fun (u : (Nat → Int32) × (Int32) × (Int32) × (Int32) × (Int32) × (Int32)) => P u.1 u.2.1 u.2.2.1 u.2.2.2.1 u.2.2.2.2.1 u.2.2.2.2.2) (fun u => wM ad q_code q_many q_pin q_size q_bytes q_kind q_bank q_address q_full q_linked q_packedBank q_packedAddress q_banks u.1 q_register u.2.1 q_place q_zero q_less q_half q_carry q_enabled q_soon u.2.2.1 u.2.2.2.1 u.2.2.2.2.1 u.2.2.2.2.2 q_state q_sent q_out)) := by
  refine ct_of RQ (by decide) rfl (Nat.le_of_ble_eq_true rfl) (fun G hl hD X hq => ?_)
  subst hl hD
  show go_ G 0 0 (wM ad q_code q_many q_pin q_size q_bytes q_kind q_bank q_address q_full q_linked q_packedBank q_packedAddress q_banks q_memory q_register q_stack q_place q_zero q_less q_half q_carry q_enabled q_soon q_ram q_low q_top q_mode q_state q_sent q_out) 0 [(0, .ref (ad 30)), (1, .int a1)] []
  refine go_aload_n X 0 dQ_push_0 rfl rfl ?_
  refine go_aload_n X 0 dQ_push_1 rfl rfl ?_
  refine gt_Q_53 X dQ_push_2 ?_
  refine go_sipush X dQ_push_5 kc_s255 ?_
  refine go_iadd X dQ_push_8 ?_
  refine go_sipush X dQ_push_9 kc_s256 ?_
  refine go_irem X dQ_push_12 (by decide) ?_
  refine pt_Q_53 X dQ_push_13 ?_
  refine go_aload_n X 0 dQ_push_16 rfl rfl ?_
  refine go_aload_n X 0 dQ_push_17 rfl rfl ?_
  refine gt_Q_53 X dQ_push_18 ?_
  refine go_iload_n X 1 dQ_push_21 rfl rfl ?_
  refine k_Q_write X hw mw_Q_155 ⟨by decide, by decide⟩ (Nat.le_of_ble_eq_true rfl) ⟨Nat.zero_le _, Nat.zero_le _⟩ dQ_push_22 (fun w1 w2 w3 w4 w5 hw => ?_)
  exact go_vreturn X hq dQ_push_25 (w1, (q_stack + (255 : Int32)) - (q_stack + (255 : Int32)) / (256 : Int32) * (256 : Int32), w2, w3, w4, w5) hw rfl
theorem k_Q_push {G : gt_} {ad : Nat → Nat} {cc : ByteArray} {own : String} {fr lo n cells slots pc index : Nat} {lc : List (Nat × Value)} {rest : List Value} {q_code q_many : Int32} {q_pin q_size q_bytes q_kind q_bank q_address q_full : Nat → Int32} {q_linked : Int32} {q_packedBank q_packedAddress : Nat → Int32} {q_banks : Int32} {q_memory q_register : Nat → Int32} {q_stack q_place q_zero q_less q_half q_carry q_enabled q_soon q_ram q_low q_top q_mode q_state q_sent : Int32} {q_out : Nat → Int32} {a1 : Int32} {P : (Nat → Int32) → (Int32) → (Int32) → (Int32) → (Int32) → (Int32) → Prop} (X : cx_ G ad cc own fr lo n) (hw : wp_Q_push q_banks q_memory q_stack q_ram q_low q_top q_mode a1 P) (m1 : Cond.methodLink own index yQ_push ∈ wS) (hlv : 2 + 1 ≤ fr ∧ 8 + (2 + 11) + 43 ≤ lo) (hrs : (rest.map fun v => v.category).sum ≤ 8) (hcs : cells ≤ (gR_ G).cells ∧ slots ≤ (gR_ G).slots) (d : decode cc pc = .ok (.invokevirtual index, 3))
    (kk : ∀ (q_memory' : Nat → Int32) (q_stack' q_ram' q_low' q_top' q_mode' : Int32), P q_memory' q_stack' q_ram' q_low' q_top' q_mode' → go_ G cells slots (wM ad q_code q_many q_pin q_size q_bytes q_kind q_bank q_address q_full q_linked q_packedBank q_packedAddress q_banks q_memory' q_register q_stack' q_place q_zero q_less q_half q_carry q_enabled q_soon q_ram' q_low' q_top' q_mode' q_state q_sent q_out) (pc + 3) lc (rest)) : go_ G cells slots (wM ad q_code q_many q_pin q_size q_bytes q_kind q_bank q_address q_full q_linked q_packedBank q_packedAddress q_banks q_memory q_register q_stack q_place q_zero q_less q_half q_carry q_enabled q_soon q_ram q_low q_top q_mode q_state q_sent q_out) pc lc (.int a1 :: .ref (ad 30) :: rest) :=
  go_cvv X (c_Q_push hw) me_Q_push m1 hlv 0 rfl rfl rfl hrs hcs d (fun u hp => kk u.1 u.2.1 u.2.2.1 u.2.2.2.1 u.2.2.2.2.1 u.2.2.2.2.2 hp)
set_option maxRecDepth 100000 in
set_option maxHeartbeats 4000000 in
theorem c_Q_set {l : Launch} {D : va_G} {ad : Nat → Nat} {q_code q_many : Int32} {q_pin q_size q_bytes q_kind q_bank q_address q_full : Nat → Int32} {q_linked : Int32} {q_packedBank q_packedAddress : Nat → Int32} {q_banks : Int32} {q_memory q_register : Nat → Int32} {q_stack q_place q_zero q_less q_half q_carry q_enabled q_soon q_ram q_low q_top q_mode q_state q_sent : Int32} {q_out : Nat → Int32} {a1 a2 : Int32} {P : (Nat → Int32) → (Nat → Int32) → (Int32) → (Int32) → (Int32) → (Int32) → Prop} (hw : wp_Q_set q_banks q_memory q_register q_ram q_low q_top q_mode a1 a2 P) : ct_ l yQ_set bQ_set 3 none 2 43 D ad [.ref (ad 30), .int a1, .int a2] (wM ad q_code q_many q_pin q_size q_bytes q_kind q_bank q_address q_full q_linked q_packedBank q_packedAddress q_banks q_memory q_register q_stack q_place q_zero q_less q_half q_carry q_enabled q_soon q_ram q_low q_top q_mode q_state q_sent q_out) (qv_ D (fun (u : (Nat → Int32) × (Nat → Int32) × (Int32) × (Int32) × (Int32) × (Int32)) => P u.1 u.2.1 u.2.2.1 u.2.2.2.1 u.2.2.2.2.1 u.2.2.2.2.2) (fun u => wM ad q_code q_many q_pin q_size q_bytes q_kind q_bank q_address q_full q_linked q_packedBank q_packedAddress q_banks u.1 u.2.1 q_stack q_place q_zero q_less q_half q_carry q_enabled q_soon u.2.2.1 u.2.2.2.1 u.2.2.2.2.1 u.2.2.2.2.2 q_state q_sent q_out)) := by
  refine ct_of RQ (by decide) rfl (Nat.le_of_ble_eq_true rfl) (fun G hl hD X hq => ?_)
  subst hl hD
  show go_ G 0 0 (wM ad q_code q_many q_pin q_size q_bytes q_kind q_bank q_address q_full q_linked q_packedBank q_packedAddress q_banks q_memory q_register q_stack q_place q_zero q_less q_half q_carry q_enabled q_soon q_ram q_low q_top q_mode q_state q_sent q_out) 0 [(0, .ref (ad 30)), (1, .int a1), (2, .int a2)] []
  refine go_iload_n X 1 dQ_set_0 rfl rfl ?_
  refine go_bipush X dQ_set_1 kc_b6 ?_
  refine go_icmp_ne X dQ_set_3 rfl (fun hc => ?_) (fun hc => ?_)
  · have hw := hw.1 hc
    refine go_aload_n X 0 dQ_set_24 rfl rfl ?_
    refine gt_Q_40 X dQ_set_25 ?_
    refine go_iload_n X 1 dQ_set_28 rfl rfl ?_
    refine go_iload_n X 2 dQ_set_29 rfl rfl ?_
    refine go_sipush X dQ_set_30 kc_s255 ?_
    refine go_iand X dQ_set_33 ?_
    have hz := hw.1
    have hw := hw.2
    refine as_q_register X hz dQ_set_34 ?_
    exact go_vreturn X hq dQ_set_35 (q_memory, upd q_register a1.toNatClampNeg (a2 &&& (255 : Int32)), q_ram, q_low, q_top, q_mode) hw rfl
  · have hw := hw.2 hc
    refine go_aload_n X 0 dQ_set_6 rfl rfl ?_
    refine go_aload_n X 0 dQ_set_7 rfl rfl ?_
    refine gt_Q_40 X dQ_set_8 ?_
    refine go_iconst X dQ_set_11 kc_i5 ?_
    refine ar_q_register X vi_5_8 dQ_set_12 ?_
    refine go_iload_n X 2 dQ_set_13 rfl rfl ?_
    refine go_sipush X dQ_set_14 kc_s255 ?_
    refine go_iand X dQ_set_17 ?_
    refine k_Q_write X hw mw_Q_155 ⟨by decide, by decide⟩ (Nat.le_of_ble_eq_true rfl) ⟨Nat.zero_le _, Nat.zero_le _⟩ dQ_set_18 (fun w1 w2 w3 w4 w5 hw => ?_)
    refine go_goto X dQ_set_21 rfl ?_
    exact go_vreturn X hq dQ_set_35 (w1, q_register, w2, w3, w4, w5) hw rfl
theorem k_Q_set {G : gt_} {ad : Nat → Nat} {cc : ByteArray} {own : String} {fr lo n cells slots pc index : Nat} {lc : List (Nat × Value)} {rest : List Value} {q_code q_many : Int32} {q_pin q_size q_bytes q_kind q_bank q_address q_full : Nat → Int32} {q_linked : Int32} {q_packedBank q_packedAddress : Nat → Int32} {q_banks : Int32} {q_memory q_register : Nat → Int32} {q_stack q_place q_zero q_less q_half q_carry q_enabled q_soon q_ram q_low q_top q_mode q_state q_sent : Int32} {q_out : Nat → Int32} {a1 a2 : Int32} {P : (Nat → Int32) → (Nat → Int32) → (Int32) → (Int32) → (Int32) → (Int32) → Prop} (X : cx_ G ad cc own fr lo n) (hw : wp_Q_set q_banks q_memory q_register q_ram q_low q_top q_mode a1 a2 P) (m1 : Cond.methodLink own index yQ_set ∈ wS) (hlv : 2 + 1 ≤ fr ∧ 8 + (3 + 11) + 43 ≤ lo) (hrs : (rest.map fun v => v.category).sum ≤ 8) (hcs : cells ≤ (gR_ G).cells ∧ slots ≤ (gR_ G).slots) (d : decode cc pc = .ok (.invokevirtual index, 3))
    (kk : ∀ (q_memory' q_register' : Nat → Int32) (q_ram' q_low' q_top' q_mode' : Int32), P q_memory' q_register' q_ram' q_low' q_top' q_mode' → go_ G cells slots (wM ad q_code q_many q_pin q_size q_bytes q_kind q_bank q_address q_full q_linked q_packedBank q_packedAddress q_banks q_memory' q_register' q_stack q_place q_zero q_less q_half q_carry q_enabled q_soon q_ram' q_low' q_top' q_mode' q_state q_sent q_out) (pc + 3) lc (rest)) : go_ G cells slots (wM ad q_code q_many q_pin q_size q_bytes q_kind q_bank q_address q_full q_linked q_packedBank q_packedAddress q_banks q_memory q_register q_stack q_place q_zero q_less q_half q_carry q_enabled q_soon q_ram q_low q_top q_mode q_state q_sent q_out) pc lc (.int a2 :: .int a1 :: .ref (ad 30) :: rest) :=
  go_cvv X (c_Q_set hw) me_Q_set m1 hlv 0 rfl rfl rfl hrs hcs d (fun u hp => kk u.1 u.2.1 u.2.2.1 u.2.2.2.1 u.2.2.2.2.1 u.2.2.2.2.2 hp)
set_option maxRecDepth 100000 in
set_option maxHeartbeats 4000000 in
theorem c_Q_bits {l : Launch} {D : va_G} {ad : Nat → Nat} {q_code q_many : Int32} {q_pin q_size q_bytes q_kind q_bank q_address q_full : Nat → Int32} {q_linked : Int32} {q_packedBank q_packedAddress : Nat → Int32} {q_banks : Int32} {q_memory q_register : Nat → Int32} {q_stack q_place q_zero q_less q_half q_carry q_enabled q_soon q_ram q_low q_top q_mode q_state q_sent : Int32} {q_out : Nat → Int32} {a1 : Int32} {P : (Nat → Int32) → (Nat → Int32) → (Int32) → (Int32) → (Int32) → (Int32) → (Int32) → (Int32) → (Int32) → (Int32) → Prop} (hw : wp_Q_bits q_banks q_memory q_register q_zero q_less q_half q_carry q_ram q_low q_top q_mode a1 P) : ct_ l yQ_bits bQ_bits 6 none 3 65 D ad [.ref (ad 30), .int a1] (wM ad q_code q_many q_pin q_size q_bytes q_kind q_bank q_address q_full q_linked q_packedBank q_packedAddress q_banks q_memory q_register q_stack q_place q_zero q_less q_half q_carry q_enabled q_soon q_ram q_low q_top q_mode q_state q_sent q_out) (qv_ D (fun (u : (Nat → Int32) × (Nat → Int32) × (Int32) × (Int32) × (Int32) × (Int32) × (Int32) × (Int32) × (Int32) × (Int32)) => P u.1 u.2.1 u.2.2.1 u.2.2.2.1 u.2.2.2.2.1 u.2.2.2.2.2.1 u.2.2.2.2.2.2.1 u.2.2.2.2.2.2.2.1 u.2.2.2.2.2.2.2.2.1 u.2.2.2.2.2.2.2.2.2) (fun u => wM ad q_code q_many q_pin q_size q_bytes q_kind q_bank q_address q_full q_linked q_packedBank q_packedAddress q_banks u.1 u.2.1 q_stack q_place u.2.2.1 u.2.2.2.1 u.2.2.2.2.1 u.2.2.2.2.2.1 q_enabled q_soon u.2.2.2.2.2.2.1 u.2.2.2.2.2.2.2.1 u.2.2.2.2.2.2.2.2.1 u.2.2.2.2.2.2.2.2.2 q_state q_sent q_out)) := by
  refine ct_of RQ (by decide) rfl (Nat.le_of_ble_eq_true rfl) (fun G hl hD X hq => ?_)
  subst hl hD
  show go_ G 0 0 (wM ad q_code q_many q_pin q_size q_bytes q_kind q_bank q_address q_full q_linked q_packedBank q_packedAddress q_banks q_memory q_register q_stack q_place q_zero q_less q_half q_carry q_enabled q_soon q_ram q_low q_top q_mode q_state q_sent q_out) 0 [(0, .ref (ad 30)), (1, .int a1)] []
  refine go_iload_n X 1 dQ_bits_0 rfl rfl ?_
  refine go_bipush X dQ_bits_1 kc_b8 ?_
  refine go_irem X dQ_bits_3 (by decide) ?_
  refine go_nm (fun z1 ez1 => ?_)
  have hw := hw z1 ez1
  refine go_istore_n X dQ_bits_4 rfl (by decide) rfl ?_
  refine go_iload_n X 2 dQ_bits_5 rfl rfl ?_
  refine go_bipush X dQ_bits_6 kc_b8 ?_
  refine go_idiv X dQ_bits_8 (by decide) ?_
  refine go_nm (fun z2 ez2 => ?_)
  have hw := hw z2 ez2
  refine go_istore_n X dQ_bits_9 rfl (by decide) rfl ?_
  refine go_iconst X dQ_bits_10 kc_i1 ?_
  refine go_iload_n X 0 dQ_bits_11 rfl rfl ?_
  refine go_bipush X dQ_bits_12 kc_b8 ?_
  refine go_irem X dQ_bits_14 (by decide) ?_
  refine go_ishl X dQ_bits_15 ?_
  refine go_nm (fun z3 ez3 => ?_)
  have hw := hw z3 ez3
  refine go_istore X dQ_bits_16 (by decide) rfl ?_
  refine go_iload_n X 1 dQ_bits_18 rfl rfl ?_
  refine go_bipush X dQ_bits_19 kc_b7 ?_
  refine go_icmp_ne X dQ_bits_21 rfl (fun hc => ?_) (fun hc => ?_)
  · have hw := hw.1 hc
    refine go_aload_n X 3 dQ_bits_25 rfl rfl ?_
    refine go_iload_n X 2 dQ_bits_26 rfl rfl ?_
    refine k_Q_get X hw mw_Q_169 ⟨by decide, by decide⟩ (Nat.le_of_ble_eq_true rfl) ⟨Nat.zero_le _, Nat.zero_le _⟩ dQ_bits_27 (fun r4 hw => ?_)
    refine go_istore X dQ_bits_30 (by decide) rfl ?_
    refine go_iload_n X 2 dQ_bits_32 rfl rfl ?_
    refine go_bipush X dQ_bits_33 kc_b7 ?_
    refine go_icmp_ge X dQ_bits_35 rfl (fun hc => ?_) (fun hc => ?_)
    · have hw := hw.1 hc
      refine go_iload_n X 2 dQ_bits_53 rfl rfl ?_
      refine go_bipush X dQ_bits_54 kc_b16 ?_
      refine go_icmp_ge X dQ_bits_56 rfl (fun hc => ?_) (fun hc => ?_)
      · have hw := hw.1 hc
        refine go_aload_n X 4 dQ_bits_89 rfl rfl ?_
        refine go_iload_n X 3 dQ_bits_90 rfl rfl ?_
        refine go_iload_n X 2 dQ_bits_91 rfl rfl ?_
        refine go_bipush X dQ_bits_92 kc_b24 ?_
        refine go_icmp_ge X dQ_bits_94 rfl (fun hc => ?_) (fun hc => ?_)
        · have hw := hw.1 hc
          refine go_iload X 0 dQ_bits_109 rfl ?_
          refine go_iload X 1 dQ_bits_111 rfl ?_
          refine go_ior X dQ_bits_113 ?_
          refine k_Q_set X hw mw_Q_176 ⟨by decide, by decide⟩ (Nat.le_of_ble_eq_true rfl) ⟨Nat.zero_le _, Nat.zero_le _⟩ dQ_bits_114 (fun w5 w6 w7 w8 w9 w10 hw => ?_)
          exact go_vreturn X hq dQ_bits_117 (w5, w6, q_zero, q_less, q_half, q_carry, w7, w8, w9, w10) hw rfl
        · have hw := hw.2 hc
          refine go_iload X 0 dQ_bits_97 rfl ?_
          refine go_sipush X dQ_bits_99 kc_s255 ?_
          refine go_iload X 1 dQ_bits_102 rfl ?_
          refine go_isub X dQ_bits_104 ?_
          refine go_iand X dQ_bits_105 ?_
          refine go_goto X dQ_bits_106 rfl ?_
          refine k_Q_set X hw mw_Q_176 ⟨by decide, by decide⟩ (Nat.le_of_ble_eq_true rfl) ⟨Nat.zero_le _, Nat.zero_le _⟩ dQ_bits_114 (fun w11 w12 w13 w14 w15 w16 hw => ?_)
          exact go_vreturn X hq dQ_bits_117 (w11, w12, q_zero, q_less, q_half, q_carry, w13, w14, w15, w16) hw rfl
      · have hw := hw.2 hc
        refine go_aload_n X 4 dQ_bits_59 rfl rfl ?_
        refine go_iload X 0 dQ_bits_60 rfl ?_
        refine go_iload X 1 dQ_bits_62 rfl ?_
        refine go_iand X dQ_bits_64 ?_
        refine go_if_ne X dQ_bits_65 rfl (fun hc => ?_) (fun hc => ?_)
        · have hw := hw.1 hc
          refine go_iconst X dQ_bits_72 kc_i0 ?_
          refine pt_Q_59 X (Or.inl rfl) dQ_bits_73 ?_
          refine go_aload_n X 4 dQ_bits_76 rfl rfl ?_
          refine go_iconst X dQ_bits_77 kc_i0 ?_
          refine pt_Q_63 X (Or.inl rfl) dQ_bits_78 ?_
          refine go_aload_n X 4 dQ_bits_81 rfl rfl ?_
          refine go_iconst X dQ_bits_82 kc_i1 ?_
          refine pt_Q_66 X (Or.inr rfl) dQ_bits_83 ?_
          refine go_goto X dQ_bits_86 rfl ?_
          exact go_vreturn X hq dQ_bits_117 (q_memory, q_register, (0 : Int32), (0 : Int32), (1 : Int32), q_carry, q_ram, q_low, q_top, q_mode) hw rfl
        · have hw := hw.2 hc
          refine go_iconst X dQ_bits_68 kc_i1 ?_
          refine go_goto X dQ_bits_69 rfl ?_
          refine pt_Q_59 X (Or.inr rfl) dQ_bits_73 ?_
          refine go_aload_n X 4 dQ_bits_76 rfl rfl ?_
          refine go_iconst X dQ_bits_77 kc_i0 ?_
          refine pt_Q_63 X (Or.inl rfl) dQ_bits_78 ?_
          refine go_aload_n X 4 dQ_bits_81 rfl rfl ?_
          refine go_iconst X dQ_bits_82 kc_i1 ?_
          refine pt_Q_66 X (Or.inr rfl) dQ_bits_83 ?_
          refine go_goto X dQ_bits_86 rfl ?_
          exact go_vreturn X hq dQ_bits_117 (q_memory, q_register, (1 : Int32), (0 : Int32), (1 : Int32), q_carry, q_ram, q_low, q_top, q_mode) hw rfl
    · have hw := hw.2 hc
      refine go_aload_n X 4 dQ_bits_38 rfl rfl ?_
      refine go_iload_n X 3 dQ_bits_39 rfl rfl ?_
      refine go_aload_n X 4 dQ_bits_40 rfl rfl ?_
      refine go_iload_n X 2 dQ_bits_41 rfl rfl ?_
      refine go_iload X 0 dQ_bits_42 rfl ?_
      refine k_Q_turned X hw mw_Q_172 ⟨by decide, by decide⟩ (Nat.le_of_ble_eq_true rfl) ⟨Nat.zero_le _, Nat.zero_le _⟩ dQ_bits_44 (fun r17 w18 w19 w20 w21 hw => ?_)
      refine k_Q_set X hw mw_Q_176 ⟨by decide, by decide⟩ (Nat.le_of_ble_eq_true rfl) ⟨Nat.zero_le _, Nat.zero_le _⟩ dQ_bits_47 (fun w22 w23 w24 w25 w26 w27 hw => ?_)
      refine go_goto X dQ_bits_50 rfl ?_
      exact go_vreturn X hq dQ_bits_117 (w22, w23, w18, w19, w20, w21, w24, w25, w26, w27) hw rfl
  · have hw := hw.2 hc
    exact go_vreturn X hq dQ_bits_24 (q_memory, q_register, q_zero, q_less, q_half, q_carry, q_ram, q_low, q_top, q_mode) hw rfl
theorem k_Q_bits {G : gt_} {ad : Nat → Nat} {cc : ByteArray} {own : String} {fr lo n cells slots pc index : Nat} {lc : List (Nat × Value)} {rest : List Value} {q_code q_many : Int32} {q_pin q_size q_bytes q_kind q_bank q_address q_full : Nat → Int32} {q_linked : Int32} {q_packedBank q_packedAddress : Nat → Int32} {q_banks : Int32} {q_memory q_register : Nat → Int32} {q_stack q_place q_zero q_less q_half q_carry q_enabled q_soon q_ram q_low q_top q_mode q_state q_sent : Int32} {q_out : Nat → Int32} {a1 : Int32} {P : (Nat → Int32) → (Nat → Int32) → (Int32) → (Int32) → (Int32) → (Int32) → (Int32) → (Int32) → (Int32) → (Int32) → Prop} (X : cx_ G ad cc own fr lo n) (hw : wp_Q_bits q_banks q_memory q_register q_zero q_less q_half q_carry q_ram q_low q_top q_mode a1 P) (m1 : Cond.methodLink own index yQ_bits ∈ wS) (hlv : 3 + 1 ≤ fr ∧ 8 + (6 + 11) + 65 ≤ lo) (hrs : (rest.map fun v => v.category).sum ≤ 8) (hcs : cells ≤ (gR_ G).cells ∧ slots ≤ (gR_ G).slots) (d : decode cc pc = .ok (.invokevirtual index, 3))
    (kk : ∀ (q_memory' q_register' : Nat → Int32) (q_zero' q_less' q_half' q_carry' q_ram' q_low' q_top' q_mode' : Int32), P q_memory' q_register' q_zero' q_less' q_half' q_carry' q_ram' q_low' q_top' q_mode' → go_ G cells slots (wM ad q_code q_many q_pin q_size q_bytes q_kind q_bank q_address q_full q_linked q_packedBank q_packedAddress q_banks q_memory' q_register' q_stack q_place q_zero' q_less' q_half' q_carry' q_enabled q_soon q_ram' q_low' q_top' q_mode' q_state q_sent q_out) (pc + 3) lc (rest)) : go_ G cells slots (wM ad q_code q_many q_pin q_size q_bytes q_kind q_bank q_address q_full q_linked q_packedBank q_packedAddress q_banks q_memory q_register q_stack q_place q_zero q_less q_half q_carry q_enabled q_soon q_ram q_low q_top q_mode q_state q_sent q_out) pc lc (.int a1 :: .ref (ad 30) :: rest) :=
  go_cvv X (c_Q_bits hw) me_Q_bits m1 hlv 0 rfl rfl rfl hrs hcs d (fun u hp => kk u.1 u.2.1 u.2.2.1 u.2.2.2.1 u.2.2.2.2.1 u.2.2.2.2.2.1 u.2.2.2.2.2.2.1 u.2.2.2.2.2.2.2.1 u.2.2.2.2.2.2.2.2.1 u.2.2.2.2.2.2.2.2.2 hp)
set_option maxRecDepth 100000 in
set_option maxHeartbeats 4000000 in
theorem c_Q_few {l : Launch} {D : va_G} {ad : Nat → Nat} {q_code q_many : Int32} {q_pin q_size q_bytes q_kind q_bank q_address q_full : Nat → Int32} {q_linked : Int32} {q_packedBank q_packedAddress : Nat → Int32} {q_banks : Int32} {q_memory q_register : Nat → Int32} {q_stack q_place q_zero q_less q_half q_carry q_enabled q_soon q_ram q_low q_top q_mode q_state q_sent : Int32} {q_out : Nat → Int32} {a1 : Int32} {P : (Nat → Int32) → (Int32) → (Int32) → (Int32) → (Int32) → (Int32) → (Int32) → (Int32) → (Int32) → (Int32) → (Int32) → (Nat → Int32) → Prop} (hw : wp_Q_few q_banks q_memory q_register q_stack q_place q_zero q_less q_half q_carry q_enabled q_soon q_ram q_low q_top q_mode q_state q_sent q_out a1 P) : ct_ l yQ_few bQ_few 2 none 3 63 D ad [.ref (ad 30), .int a1] (wM ad q_code q_many q_pin q_size q_bytes q_kind q_bank q_address q_full q_linked q_packedBank q_packedAddress q_banks q_memory q_register q_stack q_place q_zero q_less q_half q_carry q_enabled q_soon q_ram q_low q_top q_mode q_state q_sent q_out) (qv_ D (fun (u : (Nat → Int32) × (Int32) × (Int32) × (Int32) × (Int32) × (Int32) × (Int32) × (Int32) × (Int32) × (Int32) × (Int32) × (Nat → Int32)) => P u.1 u.2.1 u.2.2.1 u.2.2.2.1 u.2.2.2.2.1 u.2.2.2.2.2.1 u.2.2.2.2.2.2.1 u.2.2.2.2.2.2.2.1 u.2.2.2.2.2.2.2.2.1 u.2.2.2.2.2.2.2.2.2.1 u.2.2.2.2.2.2.2.2.2.2.1 u.2.2.2.2.2.2.2.2.2.2.2) (fun u => wM ad q_code q_many q_pin q_size q_bytes q_kind q_bank q_address q_full q_linked q_packedBank q_packedAddress q_banks q_memory u.1 u.2.1 u.2.2.1 u.2.2.2.1 u.2.2.2.2.1 u.2.2.2.2.2.1 u.2.2.2.2.2.2.1 u.2.2.2.2.2.2.2.1 u.2.2.2.2.2.2.2.2.1 q_ram q_low q_top q_mode u.2.2.2.2.2.2.2.2.2.1 u.2.2.2.2.2.2.2.2.2.2.1 u.2.2.2.2.2.2.2.2.2.2.2)) := by
  refine ct_of RQ (by decide) rfl (Nat.le_of_ble_eq_true rfl) (fun G hl hD X hq => ?_)
  subst hl hD
  show go_ G 0 0 (wM ad q_code q_many q_pin q_size q_bytes q_kind q_bank q_address q_full q_linked q_packedBank q_packedAddress q_banks q_memory q_register q_stack q_place q_zero q_less q_half q_carry q_enabled q_soon q_ram q_low q_top q_mode q_state q_sent q_out) 0 [(0, .ref (ad 30)), (1, .int a1)] []
  have C172 : ∀ (q_register : Nat → Int32) (q_stack q_place q_zero q_less q_half q_carry q_enabled q_soon q_state q_sent : Int32) (q_out : Nat → Int32) (x1 : Int32), wp_Q_few_172 q_banks q_memory q_ram q_low q_top q_mode P q_register q_stack q_place q_zero q_less q_half q_carry q_enabled q_soon q_state q_sent q_out x1 → go_ G 0 0 (wM ad q_code q_many q_pin q_size q_bytes q_kind q_bank q_address q_full q_linked q_packedBank q_packedAddress q_banks q_memory q_register q_stack q_place q_zero q_less q_half q_carry q_enabled q_soon q_ram q_low q_top q_mode q_state q_sent q_out) 172 [(0, .ref (ad 30)), (1, .int x1)] [] := by
    intro q_register q_stack q_place q_zero q_less q_half q_carry q_enabled q_soon q_state q_sent q_out x1 hw
    refine go_aload_n X 0 dQ_few_172 rfl rfl ?_
    refine go_aload_n X 0 dQ_few_173 rfl rfl ?_
    refine k_Q_pop X hw mw_Q_185 ⟨by decide, by decide⟩ (Nat.le_of_ble_eq_true rfl) ⟨Nat.zero_le _, Nat.zero_le _⟩ dQ_few_174 (fun r11 w12 hw => ?_)
    refine pt_Q_56 X dQ_few_177 ?_
    refine go_aload_n X 0 dQ_few_180 rfl rfl ?_
    refine go_aload_n X 0 dQ_few_181 rfl rfl ?_
    refine gt_Q_72 X dQ_few_182 ?_
    refine go_if_ne X dQ_few_185 rfl (fun hc => ?_) (fun hc => ?_)
    · have hw := hw.1 hc
      refine go_iconst X dQ_few_193 kc_i1 ?_
      refine go_goto X dQ_few_194 rfl ?_
      refine pt_Q_72 X (Or.inr rfl) dQ_few_198 ?_
      refine go_goto X dQ_few_201 rfl ?_
      exact go_vreturn X hq dQ_few_247 (q_register, w12, r11, q_zero, q_less, q_half, q_carry, (1 : Int32), q_soon, q_state, q_sent, q_out) hw rfl
    · have hw := hw.2 hc
      refine go_iload_n X 1 dQ_few_188 rfl rfl ?_
      refine go_iconst X dQ_few_189 kc_i5 ?_
      refine go_icmp_ne X dQ_few_190 rfl (fun hc => ?_) (fun hc => ?_)
      · have hw := hw.1 hc
        refine go_iconst X dQ_few_197 kc_i0 ?_
        refine pt_Q_72 X (Or.inl rfl) dQ_few_198 ?_
        refine go_goto X dQ_few_201 rfl ?_
        exact go_vreturn X hq dQ_few_247 (q_register, w12, r11, q_zero, q_less, q_half, q_carry, (0 : Int32), q_soon, q_state, q_sent, q_out) hw rfl
      · have hw := hw.2 hc
        refine go_iconst X dQ_few_193 kc_i1 ?_
        refine go_goto X dQ_few_194 rfl ?_
        refine pt_Q_72 X (Or.inr rfl) dQ_few_198 ?_
        refine go_goto X dQ_few_201 rfl ?_
        exact go_vreturn X hq dQ_few_247 (q_register, w12, r11, q_zero, q_less, q_half, q_carry, (1 : Int32), q_soon, q_state, q_sent, q_out) hw rfl
  have C137 : ∀ (q_register : Nat → Int32) (q_stack q_place q_zero q_less q_half q_carry q_enabled q_soon q_state q_sent : Int32) (q_out : Nat → Int32) (x1 : Int32), wp_Q_few_137 q_banks q_memory q_ram q_low q_top q_mode P q_register q_stack q_place q_zero q_less q_half q_carry q_enabled q_soon q_state q_sent q_out x1 → go_ G 0 0 (wM ad q_code q_many q_pin q_size q_bytes q_kind q_bank q_address q_full q_linked q_packedBank q_packedAddress q_banks q_memory q_register q_stack q_place q_zero q_less q_half q_carry q_enabled q_soon q_ram q_low q_top q_mode q_state q_sent q_out) 137 [(0, .ref (ad 30)), (1, .int x1)] [] := by
    intro q_register q_stack q_place q_zero q_less q_half q_carry q_enabled q_soon q_state q_sent q_out x1 hw
    refine go_aload_n X 0 dQ_few_137 rfl rfl ?_
    refine go_iload_n X 1 dQ_few_138 rfl rfl ?_
    refine go_bipush X dQ_few_139 kc_b8 ?_
    refine go_icmp_eq X dQ_few_141 rfl (fun hc => ?_) (fun hc => ?_)
    · have hw := hw.1 hc
      refine go_iconst X dQ_few_151 kc_i1 ?_
      refine go_goto X dQ_few_152 rfl ?_
      refine pt_Q_69 X (Or.inr rfl) dQ_few_156 ?_
      refine go_aload_n X 0 dQ_few_159 rfl rfl ?_
      refine go_iconst X dQ_few_160 kc_i0 ?_
      refine pt_Q_63 X (Or.inl rfl) dQ_few_161 ?_
      refine go_aload_n X 0 dQ_few_164 rfl rfl ?_
      refine go_iconst X dQ_few_165 kc_i0 ?_
      refine pt_Q_66 X (Or.inl rfl) dQ_few_166 ?_
      refine go_goto X dQ_few_169 rfl ?_
      exact go_vreturn X hq dQ_few_247 (q_register, q_stack, q_place, q_zero, (0 : Int32), (0 : Int32), (1 : Int32), q_enabled, q_soon, q_state, q_sent, q_out) hw rfl
    · have hw := hw.2 hc
      refine go_aload_n X 0 dQ_few_144 rfl rfl ?_
      refine gt_Q_69 X dQ_few_145 ?_
      refine go_if_ne X dQ_few_148 rfl (fun hc => ?_) (fun hc => ?_)
      · have hw := hw.1 hc
        refine go_iconst X dQ_few_155 kc_i0 ?_
        refine pt_Q_69 X (Or.inl rfl) dQ_few_156 ?_
        refine go_aload_n X 0 dQ_few_159 rfl rfl ?_
        refine go_iconst X dQ_few_160 kc_i0 ?_
        refine pt_Q_63 X (Or.inl rfl) dQ_few_161 ?_
        refine go_aload_n X 0 dQ_few_164 rfl rfl ?_
        refine go_iconst X dQ_few_165 kc_i0 ?_
        refine pt_Q_66 X (Or.inl rfl) dQ_few_166 ?_
        refine go_goto X dQ_few_169 rfl ?_
        exact go_vreturn X hq dQ_few_247 (q_register, q_stack, q_place, q_zero, (0 : Int32), (0 : Int32), (0 : Int32), q_enabled, q_soon, q_state, q_sent, q_out) hw rfl
      · have hw := hw.2 hc
        refine go_iconst X dQ_few_151 kc_i1 ?_
        refine go_goto X dQ_few_152 rfl ?_
        refine pt_Q_69 X (Or.inr rfl) dQ_few_156 ?_
        refine go_aload_n X 0 dQ_few_159 rfl rfl ?_
        refine go_iconst X dQ_few_160 kc_i0 ?_
        refine pt_Q_63 X (Or.inl rfl) dQ_few_161 ?_
        refine go_aload_n X 0 dQ_few_164 rfl rfl ?_
        refine go_iconst X dQ_few_165 kc_i0 ?_
        refine pt_Q_66 X (Or.inl rfl) dQ_few_166 ?_
        refine go_goto X dQ_few_169 rfl ?_
        exact go_vreturn X hq dQ_few_247 (q_register, q_stack, q_place, q_zero, (0 : Int32), (0 : Int32), (1 : Int32), q_enabled, q_soon, q_state, q_sent, q_out) hw rfl
  refine go_iload_n X 1 dQ_few_0 rfl rfl ?_
  by_cases h9_0 : a1 = (0 : Int32)
  · have hw := hw.1 h9_0
    refine go_tin X (0 : Int32) dQ_few_1 h9_0 (by decide) (by decide) rfl rfl ?_
    refine go_goto X dQ_few_64 rfl ?_
    exact go_vreturn X hq dQ_few_247 (q_register, q_stack, q_place, q_zero, q_less, q_half, q_carry, q_enabled, q_soon, q_state, q_sent, q_out) hw rfl
  by_cases h9_1 : a1 = (1 : Int32)
  · have hw := hw.2.1 h9_1
    refine go_tin X (1 : Int32) dQ_few_1 h9_1 (by decide) (by decide) rfl rfl ?_
    refine go_aload_n X 0 dQ_few_67 rfl rfl ?_
    refine go_iconst X dQ_few_68 kc_i1 ?_
    refine k_Q_stand X hw mw_Q_179 ⟨by decide, by decide⟩ (Nat.le_of_ble_eq_true rfl) ⟨Nat.zero_le _, Nat.zero_le _⟩ dQ_few_69 (fun w1 w2 hw => ?_)
    refine go_goto X dQ_few_72 rfl ?_
    exact go_vreturn X hq dQ_few_247 (q_register, q_stack, w1, q_zero, q_less, q_half, q_carry, q_enabled, q_soon, w2, q_sent, q_out) hw rfl
  by_cases h9_2 : a1 = (2 : Int32)
  · have hw := hw.2.2.1 h9_2
    refine go_tin X (2 : Int32) dQ_few_1 h9_2 (by decide) (by decide) rfl rfl ?_
    refine go_aload_n X 0 dQ_few_75 rfl rfl ?_
    refine go_iconst X dQ_few_76 kc_i2 ?_
    refine k_Q_stand X hw mw_Q_179 ⟨by decide, by decide⟩ (Nat.le_of_ble_eq_true rfl) ⟨Nat.zero_le _, Nat.zero_le _⟩ dQ_few_77 (fun w3 w4 hw => ?_)
    refine go_goto X dQ_few_80 rfl ?_
    exact go_vreturn X hq dQ_few_247 (q_register, q_stack, w3, q_zero, q_less, q_half, q_carry, q_enabled, q_soon, w4, q_sent, q_out) hw rfl
  by_cases h9_3 : a1 = (3 : Int32)
  · have hw := hw.2.2.2.1 h9_3
    refine go_tin X (3 : Int32) dQ_few_1 h9_3 (by decide) (by decide) rfl rfl ?_
    refine go_aload_n X 0 dQ_few_83 rfl rfl ?_
    refine go_iconst X dQ_few_84 kc_i0 ?_
    refine pt_Q_72 X (Or.inl rfl) dQ_few_85 ?_
    refine go_goto X dQ_few_88 rfl ?_
    exact go_vreturn X hq dQ_few_247 (q_register, q_stack, q_place, q_zero, q_less, q_half, q_carry, (0 : Int32), q_soon, q_state, q_sent, q_out) hw rfl
  by_cases h9_4 : a1 = (4 : Int32)
  · have hw := hw.2.2.2.2.1 h9_4
    refine go_tin X (4 : Int32) dQ_few_1 h9_4 (by decide) (by decide) rfl rfl ?_
    refine go_aload_n X 0 dQ_few_91 rfl rfl ?_
    refine go_iconst X dQ_few_92 kc_i1 ?_
    refine pt_Q_75 X (Or.inr rfl) dQ_few_93 ?_
    refine go_goto X dQ_few_96 rfl ?_
    exact go_vreturn X hq dQ_few_247 (q_register, q_stack, q_place, q_zero, q_less, q_half, q_carry, q_enabled, (1 : Int32), q_state, q_sent, q_out) hw rfl
  by_cases h9_5 : a1 = (5 : Int32)
  · have hw := hw.2.2.2.2.2.1 h9_5
    refine go_tin X (5 : Int32) dQ_few_1 h9_5 (by decide) (by decide) rfl rfl ?_
    exact C172 _ _ _ _ _ _ _ _ _ _ _ _ _ hw
  by_cases h9_6 : a1 = (6 : Int32)
  · have hw := hw.2.2.2.2.2.2.1 h9_6
    refine go_tin X (6 : Int32) dQ_few_1 h9_6 (by decide) (by decide) rfl rfl ?_
    refine go_aload_n X 0 dQ_few_99 rfl rfl ?_
    refine k_Q_adjust X hw mw_Q_182 ⟨by decide, by decide⟩ (Nat.le_of_ble_eq_true rfl) ⟨Nat.zero_le _, Nat.zero_le _⟩ dQ_few_100 (fun w5 w6 w7 w8 hw => ?_)
    refine go_goto X dQ_few_103 rfl ?_
    exact go_vreturn X hq dQ_few_247 (w5, q_stack, q_place, w6, q_less, w7, w8, q_enabled, q_soon, q_state, q_sent, q_out) hw rfl
  by_cases h9_7 : a1 = (7 : Int32)
  · have hw := hw.2.2.2.2.2.2.2.1 h9_7
    refine go_tin X (7 : Int32) dQ_few_1 h9_7 (by decide) (by decide) rfl rfl ?_
    refine go_aload_n X 0 dQ_few_106 rfl rfl ?_
    refine gt_Q_40 X dQ_few_107 ?_
    refine go_bipush X dQ_few_110 kc_b7 ?_
    refine go_sipush X dQ_few_112 kc_s255 ?_
    refine go_aload_n X 0 dQ_few_115 rfl rfl ?_
    refine gt_Q_40 X dQ_few_116 ?_
    refine go_bipush X dQ_few_119 kc_b7 ?_
    refine ar_q_register X vi_7_8 dQ_few_121 ?_
    refine go_isub X dQ_few_122 ?_
    refine as_q_register X vi_7_8 dQ_few_123 ?_
    refine go_aload_n X 0 dQ_few_124 rfl rfl ?_
    refine go_iconst X dQ_few_125 kc_i1 ?_
    refine pt_Q_63 X (Or.inr rfl) dQ_few_126 ?_
    refine go_aload_n X 0 dQ_few_129 rfl rfl ?_
    refine go_iconst X dQ_few_130 kc_i1 ?_
    refine pt_Q_66 X (Or.inr rfl) dQ_few_131 ?_
    refine go_goto X dQ_few_134 rfl ?_
    exact go_vreturn X hq dQ_few_247 (upd q_register (7 : Int32).toNatClampNeg ((255 : Int32) - (q_register (7 : Int32).toNatClampNeg)), q_stack, q_place, q_zero, (1 : Int32), (1 : Int32), q_carry, q_enabled, q_soon, q_state, q_sent, q_out) hw rfl
  by_cases h9_8 : a1 = (8 : Int32)
  · have hw := hw.2.2.2.2.2.2.2.2.1 h9_8
    refine go_tin X (8 : Int32) dQ_few_1 h9_8 (by decide) (by decide) rfl rfl ?_
    exact C137 _ _ _ _ _ _ _ _ _ _ _ _ _ hw
  by_cases h9_9 : a1 = (9 : Int32)
  · have hw := hw.2.2.2.2.2.2.2.2.2.1 h9_9
    refine go_tin X (9 : Int32) dQ_few_1 h9_9 (by decide) (by decide) rfl rfl ?_
    exact C137 _ _ _ _ _ _ _ _ _ _ _ _ _ hw
  by_cases h9_10 : a1 = (10 : Int32)
  · have hw := hw.2.2.2.2.2.2.2.2.2.2.1 h9_10
    refine go_tin X (10 : Int32) dQ_few_1 h9_10 (by decide) (by decide) rfl rfl ?_
    exact C172 _ _ _ _ _ _ _ _ _ _ _ _ _ hw
  by_cases h9_11 : a1 = (11 : Int32)
  · have hw := hw.2.2.2.2.2.2.2.2.2.2.2.1 h9_11
    refine go_tin X (11 : Int32) dQ_few_1 h9_11 (by decide) (by decide) rfl rfl ?_
    refine go_aload_n X 0 dQ_few_204 rfl rfl ?_
    refine gt_Q_93 X dQ_few_205 ?_
    refine go_bipush X dQ_few_208 kc_b100 ?_
    refine go_icmp_ge X dQ_few_210 rfl (fun hc => ?_) (fun hc => ?_)
    · have hw := hw.1 hc
      refine go_aload_n X 0 dQ_few_229 rfl rfl ?_
      refine go_dup X dQ_few_230 rfl ?_
      refine gt_Q_93 X dQ_few_231 ?_
      refine go_iconst X dQ_few_234 kc_i1 ?_
      refine go_iadd X dQ_few_235 ?_
      refine pt_Q_93 X dQ_few_236 ?_
      refine go_goto X dQ_few_239 rfl ?_
      exact go_vreturn X hq dQ_few_247 (q_register, q_stack, q_place, q_zero, q_less, q_half, q_carry, q_enabled, q_soon, q_state, q_sent + (1 : Int32), q_out) hw rfl
    · have hw := hw.2 hc
      refine go_aload_n X 0 dQ_few_213 rfl rfl ?_
      refine gt_Q_43 X dQ_few_214 ?_
      refine go_aload_n X 0 dQ_few_217 rfl rfl ?_
      refine gt_Q_93 X dQ_few_218 ?_
      refine go_aload_n X 0 dQ_few_221 rfl rfl ?_
      refine gt_Q_40 X dQ_few_222 ?_
      refine go_bipush X dQ_few_225 kc_b7 ?_
      refine ar_q_register X vi_7_8 dQ_few_227 ?_
      have hz := hw.1
      have hw := hw.2
      refine as_q_out X hz dQ_few_228 ?_
      refine go_aload_n X 0 dQ_few_229 rfl rfl ?_
      refine go_dup X dQ_few_230 rfl ?_
      refine gt_Q_93 X dQ_few_231 ?_
      refine go_iconst X dQ_few_234 kc_i1 ?_
      refine go_iadd X dQ_few_235 ?_
      refine pt_Q_93 X dQ_few_236 ?_
      refine go_goto X dQ_few_239 rfl ?_
      exact go_vreturn X hq dQ_few_247 (q_register, q_stack, q_place, q_zero, q_less, q_half, q_carry, q_enabled, q_soon, q_state, q_sent + (1 : Int32), upd q_out q_sent.toNatClampNeg (q_register (7 : Int32).toNatClampNeg)) hw rfl
  have hw := hw.2.2.2.2.2.2.2.2.2.2.2.2 h9_0 h9_1 h9_2 h9_3 h9_4 h9_5 h9_6 h9_7 h9_8 h9_9 h9_10 h9_11
  have t9_0 := go_neT h9_0 (z := 0) (by decide)
  have t9_1 := go_neT h9_1 (z := 1) (by decide)
  have t9_2 := go_neT h9_2 (z := 2) (by decide)
  have t9_3 := go_neT h9_3 (z := 3) (by decide)
  have t9_4 := go_neT h9_4 (z := 4) (by decide)
  have t9_5 := go_neT h9_5 (z := 5) (by decide)
  have t9_6 := go_neT h9_6 (z := 6) (by decide)
  have t9_7 := go_neT h9_7 (z := 7) (by decide)
  have t9_8 := go_neT h9_8 (z := 8) (by decide)
  have t9_9 := go_neT h9_9 (z := 9) (by decide)
  have t9_10 := go_neT h9_10 (z := 10) (by decide)
  have t9_11 := go_neT h9_11 (z := 11) (by decide)
  refine go_tout X dQ_few_1 (by omega) rfl ?_
  refine go_aload_n X 0 dQ_few_242 rfl rfl ?_
  refine go_iconst X dQ_few_243 kc_i3 ?_
  refine k_Q_stand X hw mw_Q_179 ⟨by decide, by decide⟩ (Nat.le_of_ble_eq_true rfl) ⟨Nat.zero_le _, Nat.zero_le _⟩ dQ_few_244 (fun w9 w10 hw => ?_)
  exact go_vreturn X hq dQ_few_247 (q_register, q_stack, w9, q_zero, q_less, q_half, q_carry, q_enabled, q_soon, w10, q_sent, q_out) hw rfl
theorem k_Q_few {G : gt_} {ad : Nat → Nat} {cc : ByteArray} {own : String} {fr lo n cells slots pc index : Nat} {lc : List (Nat × Value)} {rest : List Value} {q_code q_many : Int32} {q_pin q_size q_bytes q_kind q_bank q_address q_full : Nat → Int32} {q_linked : Int32} {q_packedBank q_packedAddress : Nat → Int32} {q_banks : Int32} {q_memory q_register : Nat → Int32} {q_stack q_place q_zero q_less q_half q_carry q_enabled q_soon q_ram q_low q_top q_mode q_state q_sent : Int32} {q_out : Nat → Int32} {a1 : Int32} {P : (Nat → Int32) → (Int32) → (Int32) → (Int32) → (Int32) → (Int32) → (Int32) → (Int32) → (Int32) → (Int32) → (Int32) → (Nat → Int32) → Prop} (X : cx_ G ad cc own fr lo n) (hw : wp_Q_few q_banks q_memory q_register q_stack q_place q_zero q_less q_half q_carry q_enabled q_soon q_ram q_low q_top q_mode q_state q_sent q_out a1 P) (m1 : Cond.methodLink own index yQ_few ∈ wS) (hlv : 3 + 1 ≤ fr ∧ 8 + (2 + 11) + 63 ≤ lo) (hrs : (rest.map fun v => v.category).sum ≤ 8) (hcs : cells ≤ (gR_ G).cells ∧ slots ≤ (gR_ G).slots) (d : decode cc pc = .ok (.invokevirtual index, 3))
    (kk : ∀ (q_register' : Nat → Int32) (q_stack' q_place' q_zero' q_less' q_half' q_carry' q_enabled' q_soon' q_state' q_sent' : Int32) (q_out' : Nat → Int32), P q_register' q_stack' q_place' q_zero' q_less' q_half' q_carry' q_enabled' q_soon' q_state' q_sent' q_out' → go_ G cells slots (wM ad q_code q_many q_pin q_size q_bytes q_kind q_bank q_address q_full q_linked q_packedBank q_packedAddress q_banks q_memory q_register' q_stack' q_place' q_zero' q_less' q_half' q_carry' q_enabled' q_soon' q_ram q_low q_top q_mode q_state' q_sent' q_out') (pc + 3) lc (rest)) : go_ G cells slots (wM ad q_code q_many q_pin q_size q_bytes q_kind q_bank q_address q_full q_linked q_packedBank q_packedAddress q_banks q_memory q_register q_stack q_place q_zero q_less q_half q_carry q_enabled q_soon q_ram q_low q_top q_mode q_state q_sent q_out) pc lc (.int a1 :: .ref (ad 30) :: rest) :=
  go_cvv X (c_Q_few hw) me_Q_few m1 hlv 0 rfl rfl rfl hrs hcs d (fun u hp => kk u.1 u.2.1 u.2.2.1 u.2.2.2.1 u.2.2.2.2.1 u.2.2.2.2.2.1 u.2.2.2.2.2.2.1 u.2.2.2.2.2.2.2.1 u.2.2.2.2.2.2.2.2.1 u.2.2.2.2.2.2.2.2.2.1 u.2.2.2.2.2.2.2.2.2.2.1 u.2.2.2.2.2.2.2.2.2.2.2 hp)
set_option maxRecDepth 100000 in
set_option maxHeartbeats 4000000 in
theorem c_Q_interrupt {l : Launch} {D : va_G} {ad : Nat → Nat} {q_code q_many : Int32} {q_pin q_size q_bytes q_kind q_bank q_address q_full : Nat → Int32} {q_linked : Int32} {q_packedBank q_packedAddress : Nat → Int32} {q_banks : Int32} {q_memory q_register : Nat → Int32} {q_stack q_place q_zero q_less q_half q_carry q_enabled q_soon q_ram q_low q_top q_mode q_state q_sent : Int32} {q_out : Nat → Int32} {a1 : Int32} {P : (Nat → Int32) → (Int32) → (Int32) → (Int32) → (Int32) → (Int32) → (Int32) → (Int32) → Prop} (hw : wp_Q_interrupt q_banks q_memory q_stack q_place q_enabled q_ram q_low q_top q_mode a1 P) : ct_ l yQ_interrupt bQ_interrupt 3 none 3 64 D ad [.ref (ad 30), .int a1] (wM ad q_code q_many q_pin q_size q_bytes q_kind q_bank q_address q_full q_linked q_packedBank q_packedAddress q_banks q_memory q_register q_stack q_place q_zero q_less q_half q_carry q_enabled q_soon q_ram q_low q_top q_mode q_state q_sent q_out) (qv_ D (fun (u : (Nat → Int32) × (Int32) × (Int32) × (Int32) × (Int32) × (Int32) × (Int32) × (Int32)) => P u.1 u.2.1 u.2.2.1 u.2.2.2.1 u.2.2.2.2.1 u.2.2.2.2.2.1 u.2.2.2.2.2.2.1 u.2.2.2.2.2.2.2) (fun u => wM ad q_code q_many q_pin q_size q_bytes q_kind q_bank q_address q_full q_linked q_packedBank q_packedAddress q_banks u.1 q_register u.2.1 u.2.2.1 q_zero q_less q_half q_carry u.2.2.2.1 q_soon u.2.2.2.2.1 u.2.2.2.2.2.1 u.2.2.2.2.2.2.1 u.2.2.2.2.2.2.2 q_state q_sent q_out)) := by
  refine ct_of RQ (by decide) rfl (Nat.le_of_ble_eq_true rfl) (fun G hl hD X hq => ?_)
  subst hl hD
  show go_ G 0 0 (wM ad q_code q_many q_pin q_size q_bytes q_kind q_bank q_address q_full q_linked q_packedBank q_packedAddress q_banks q_memory q_register q_stack q_place q_zero q_less q_half q_carry q_enabled q_soon q_ram q_low q_top q_mode q_state q_sent q_out) 0 [(0, .ref (ad 30)), (1, .int a1)] []
  have C2 : ∀ (n9 : Nat) (q_memory : Nat → Int32) (q_stack q_place q_enabled q_ram q_low q_top q_mode x1 x2 : Int32), wp_Q_interrupt_2 q_banks P n9 q_memory q_stack q_place q_enabled q_ram q_low q_top q_mode x1 x2 → go_ G 0 0 (wM ad q_code q_many q_pin q_size q_bytes q_kind q_bank q_address q_full q_linked q_packedBank q_packedAddress q_banks q_memory q_register q_stack q_place q_zero q_less q_half q_carry q_enabled q_soon q_ram q_low q_top q_mode q_state q_sent q_out) 2 [(0, .ref (ad 30)), (1, .int x1), (2, .int x2)] [] := by
    intro n9
    induction n9 with
    | zero =>
      intro q_memory q_stack q_place q_enabled q_ram q_low q_top q_mode x1 x2 hw
      exact False.elim hw
    | succ n9 ih =>
      intro q_memory q_stack q_place q_enabled q_ram q_low q_top q_mode x1 x2 hw
      refine go_iload_n X 1 dQ_interrupt_2 rfl rfl ?_
      refine go_iload_n X 2 dQ_interrupt_3 rfl rfl ?_
      refine go_ishr X dQ_interrupt_4 ?_
      refine go_iconst X dQ_interrupt_5 kc_i1 ?_
      refine go_iand X dQ_interrupt_6 ?_
      refine go_if_ne X dQ_interrupt_7 rfl (fun hc => ?_) (fun hc => ?_)
      · have hw := hw.1 hc
        refine go_aload_n X 0 dQ_interrupt_16 rfl rfl ?_
        refine gt_Q_37 X dQ_interrupt_17 ?_
        refine go_sipush X dQ_interrupt_20 kc_s703 ?_
        refine go_dup2 X dQ_interrupt_23 rfl rfl ?_
        refine ar_q_memory X vi_703_705 dQ_interrupt_24 ?_
        refine go_iconst X dQ_interrupt_25 kc_i1 ?_
        refine go_iload_n X 2 dQ_interrupt_26 rfl rfl ?_
        refine go_ishl X dQ_interrupt_27 ?_
        refine go_isub X dQ_interrupt_28 ?_
        refine as_q_memory X vi_703_705 dQ_interrupt_29 ?_
        refine go_aload_n X 0 dQ_interrupt_30 rfl rfl ?_
        refine go_iconst X dQ_interrupt_31 kc_i0 ?_
        refine pt_Q_72 X (Or.inl rfl) dQ_interrupt_32 ?_
        refine go_aload_n X 0 dQ_interrupt_35 rfl rfl ?_
        refine go_aload_n X 0 dQ_interrupt_36 rfl rfl ?_
        refine gt_Q_56 X dQ_interrupt_37 ?_
        refine k_Q_push X hw mw_Q_191 ⟨by decide, by decide⟩ (Nat.le_of_ble_eq_true rfl) ⟨Nat.zero_le _, Nat.zero_le _⟩ dQ_interrupt_40 (fun w1 w2 w3 w4 w5 w6 hw => ?_)
        refine go_aload_n X 0 dQ_interrupt_43 rfl rfl ?_
        refine go_bipush X dQ_interrupt_44 kc_b16 ?_
        refine go_iconst X dQ_interrupt_46 kc_i4 ?_
        refine go_iload_n X 2 dQ_interrupt_47 rfl rfl ?_
        refine go_imul X dQ_interrupt_48 ?_
        refine go_iadd X dQ_interrupt_49 ?_
        refine pt_Q_56 X dQ_interrupt_50 ?_
        exact go_vreturn X hq dQ_interrupt_53 (w1, w2, (16 : Int32) + ((4 : Int32) * x2), (0 : Int32), w3, w4, w5, w6) hw rfl
      · have hw := hw.2 hc
        refine go_iinc X 2 dQ_interrupt_10 rfl (ki_1 _) (by decide) rfl ?_
        refine go_goto X dQ_interrupt_13 rfl ?_
        refine go_lc [1, 2, 0] rfl ?_
        exact ih _ _ _ _ _ _ _ _ _ _ hw
  refine go_iconst X dQ_interrupt_0 kc_i0 ?_
  refine go_istore_n X dQ_interrupt_1 rfl (by decide) rfl ?_
  refine go_lc [1, 2, 0] rfl ?_
  obtain ⟨j9, hw⟩ := hw
  exact C2 j9 _ _ _ _ _ _ _ _ _ _ hw
theorem k_Q_interrupt {G : gt_} {ad : Nat → Nat} {cc : ByteArray} {own : String} {fr lo n cells slots pc index : Nat} {lc : List (Nat × Value)} {rest : List Value} {q_code q_many : Int32} {q_pin q_size q_bytes q_kind q_bank q_address q_full : Nat → Int32} {q_linked : Int32} {q_packedBank q_packedAddress : Nat → Int32} {q_banks : Int32} {q_memory q_register : Nat → Int32} {q_stack q_place q_zero q_less q_half q_carry q_enabled q_soon q_ram q_low q_top q_mode q_state q_sent : Int32} {q_out : Nat → Int32} {a1 : Int32} {P : (Nat → Int32) → (Int32) → (Int32) → (Int32) → (Int32) → (Int32) → (Int32) → (Int32) → Prop} (X : cx_ G ad cc own fr lo n) (hw : wp_Q_interrupt q_banks q_memory q_stack q_place q_enabled q_ram q_low q_top q_mode a1 P) (m1 : Cond.methodLink own index yQ_interrupt ∈ wS) (hlv : 3 + 1 ≤ fr ∧ 8 + (3 + 11) + 64 ≤ lo) (hrs : (rest.map fun v => v.category).sum ≤ 8) (hcs : cells ≤ (gR_ G).cells ∧ slots ≤ (gR_ G).slots) (d : decode cc pc = .ok (.invokevirtual index, 3))
    (kk : ∀ (q_memory' : Nat → Int32) (q_stack' q_place' q_enabled' q_ram' q_low' q_top' q_mode' : Int32), P q_memory' q_stack' q_place' q_enabled' q_ram' q_low' q_top' q_mode' → go_ G cells slots (wM ad q_code q_many q_pin q_size q_bytes q_kind q_bank q_address q_full q_linked q_packedBank q_packedAddress q_banks q_memory' q_register q_stack' q_place' q_zero q_less q_half q_carry q_enabled' q_soon q_ram' q_low' q_top' q_mode' q_state q_sent q_out) (pc + 3) lc (rest)) : go_ G cells slots (wM ad q_code q_many q_pin q_size q_bytes q_kind q_bank q_address q_full q_linked q_packedBank q_packedAddress q_banks q_memory q_register q_stack q_place q_zero q_less q_half q_carry q_enabled q_soon q_ram q_low q_top q_mode q_state q_sent q_out) pc lc (.int a1 :: .ref (ad 30) :: rest) :=
  go_cvv X (c_Q_interrupt hw) me_Q_interrupt m1 hlv 0 rfl rfl rfl hrs hcs d (fun u hp => kk u.1 u.2.1 u.2.2.1 u.2.2.2.1 u.2.2.2.2.1 u.2.2.2.2.2.1 u.2.2.2.2.2.2.1 u.2.2.2.2.2.2.2 hp)
set_option maxRecDepth 100000 in
set_option maxHeartbeats 4000000 in
theorem c_Q_lead {l : Launch} {D : va_G} {ad : Nat → Nat} {q_code q_many : Int32} {q_pin q_size q_bytes q_kind q_bank q_address q_full : Nat → Int32} {q_linked : Int32} {q_packedBank q_packedAddress : Nat → Int32} {q_banks : Int32} {q_memory q_register : Nat → Int32} {q_stack q_place q_zero q_less q_half q_carry q_enabled q_soon q_ram q_low q_top q_mode q_state q_sent : Int32} {q_out : Nat → Int32} {a1 : Int32} {P : (Nat → Int32) → (Int32) → (Int32) → (Int32) → (Int32) → (Int32) → (Int32) → (Int32) → Prop} (hw : wp_Q_lead q_banks q_memory q_stack q_place q_zero q_carry q_ram q_low q_top q_mode q_state a1 P) : ct_ l yQ_lead bQ_lead 6 none 3 64 D ad [.ref (ad 30), .int a1] (wM ad q_code q_many q_pin q_size q_bytes q_kind q_bank q_address q_full q_linked q_packedBank q_packedAddress q_banks q_memory q_register q_stack q_place q_zero q_less q_half q_carry q_enabled q_soon q_ram q_low q_top q_mode q_state q_sent q_out) (qv_ D (fun (u : (Nat → Int32) × (Int32) × (Int32) × (Int32) × (Int32) × (Int32) × (Int32) × (Int32)) => P u.1 u.2.1 u.2.2.1 u.2.2.2.1 u.2.2.2.2.1 u.2.2.2.2.2.1 u.2.2.2.2.2.2.1 u.2.2.2.2.2.2.2) (fun u => wM ad q_code q_many q_pin q_size q_bytes q_kind q_bank q_address q_full q_linked q_packedBank q_packedAddress q_banks u.1 q_register u.2.1 u.2.2.1 q_zero q_less q_half q_carry q_enabled q_soon u.2.2.2.1 u.2.2.2.2.1 u.2.2.2.2.2.1 u.2.2.2.2.2.2.1 u.2.2.2.2.2.2.2 q_sent q_out)) := by
  refine ct_of RQ (by decide) rfl (Nat.le_of_ble_eq_true rfl) (fun G hl hD X hq => ?_)
  subst hl hD
  show go_ G 0 0 (wM ad q_code q_many q_pin q_size q_bytes q_kind q_bank q_address q_full q_linked q_packedBank q_packedAddress q_banks q_memory q_register q_stack q_place q_zero q_less q_half q_carry q_enabled q_soon q_ram q_low q_top q_mode q_state q_sent q_out) 0 [(0, .ref (ad 30)), (1, .int a1)] []
  have C78 : ∀ (q_memory : Nat → Int32) (q_stack q_place q_ram q_low q_top q_mode q_state x3 x4 y0 : Int32), wp_Q_lead_78 q_banks q_zero q_carry P q_memory q_stack q_place q_ram q_low q_top q_mode q_state x3 x4 y0 → go_ G 0 0 (wM ad q_code q_many q_pin q_size q_bytes q_kind q_bank q_address q_full q_linked q_packedBank q_packedAddress q_banks q_memory q_register q_stack q_place q_zero q_less q_half q_carry q_enabled q_soon q_ram q_low q_top q_mode q_state q_sent q_out) 78 [(0, .ref (ad 30)), (3, .int x3), (4, .int x4)] [.int y0] := by
    intro q_memory q_stack q_place q_ram q_low q_top q_mode q_state x3 x4 y0 hw
    refine go_istore X dQ_lead_78 (by decide) rfl ?_
    refine go_aload_n X 1 dQ_lead_80 rfl rfl ?_
    refine go_iload_n X 2 dQ_lead_81 rfl rfl ?_
    refine go_iconst X dQ_lead_82 kc_i2 ?_
    refine go_icmp_ne X dQ_lead_83 rfl (fun hc => ?_) (fun hc => ?_)
    · have hw := hw.1 hc
      refine go_iload_n X 2 dQ_lead_93 rfl rfl ?_
      refine go_iconst X dQ_lead_94 kc_i3 ?_
      refine go_icmp_ne X dQ_lead_95 rfl (fun hc => ?_) (fun hc => ?_)
      · have hw := hw.1 hc
        refine go_iload X 3 dQ_lead_116 rfl ?_
        refine pt_Q_56 X dQ_lead_118 ?_
        exact go_vreturn X hq dQ_lead_121 (q_memory, q_stack, x4, q_ram, q_low, q_top, q_mode, q_state) hw rfl
      · have hw := hw.2 hc
        refine go_aload_n X 1 dQ_lead_98 rfl rfl ?_
        refine gt_Q_56 X dQ_lead_99 ?_
        refine go_iload X 0 dQ_lead_102 rfl ?_
        refine go_iadd X dQ_lead_104 ?_
        refine go_sipush X dQ_lead_105 kc_s256 ?_
        refine go_iadd X dQ_lead_108 ?_
        refine go_sipush X dQ_lead_109 kc_s256 ?_
        refine go_irem X dQ_lead_112 (by decide) ?_
        refine go_goto X dQ_lead_113 rfl ?_
        refine pt_Q_56 X dQ_lead_118 ?_
        exact go_vreturn X hq dQ_lead_121 (q_memory, q_stack, ((q_place + y0) + (256 : Int32)) - ((q_place + y0) + (256 : Int32)) / (256 : Int32) * (256 : Int32), q_ram, q_low, q_top, q_mode, q_state) hw rfl
    · have hw := hw.2 hc
      refine go_aload_n X 1 dQ_lead_86 rfl rfl ?_
      refine k_Q_pop X hw mw_Q_185 ⟨by decide, by decide⟩ (Nat.le_of_ble_eq_true rfl) ⟨Nat.zero_le _, Nat.zero_le _⟩ dQ_lead_87 (fun r14 w15 hw => ?_)
      refine go_goto X dQ_lead_90 rfl ?_
      refine pt_Q_56 X dQ_lead_118 ?_
      exact go_vreturn X hq dQ_lead_121 (q_memory, w15, r14, q_ram, q_low, q_top, q_mode, q_state) hw rfl
  have C36 : ∀ (q_memory : Nat → Int32) (q_stack q_place q_ram q_low q_top q_mode q_state x2 x3 y0 : Int32), wp_Q_lead_36 q_banks q_zero q_carry P q_memory q_stack q_place q_ram q_low q_top q_mode q_state x2 x3 y0 → go_ G 0 0 (wM ad q_code q_many q_pin q_size q_bytes q_kind q_bank q_address q_full q_linked q_packedBank q_packedAddress q_banks q_memory q_register q_stack q_place q_zero q_less q_half q_carry q_enabled q_soon q_ram q_low q_top q_mode q_state q_sent q_out) 36 [(0, .ref (ad 30)), (2, .int x2), (3, .int x3)] [.int y0] := by
    intro q_memory q_stack q_place q_ram q_low q_top q_mode q_state x2 x3 y0 hw
    refine go_istore X dQ_lead_36 (by decide) rfl ?_
    refine go_aload_n X 1 dQ_lead_38 rfl rfl ?_
    refine go_iload_n X 2 dQ_lead_39 rfl rfl ?_
    refine k_Q_holds X hw mw_Q_197 ⟨by decide, by decide⟩ (Nat.le_of_ble_eq_true rfl) ⟨Nat.zero_le _, Nat.zero_le _⟩ dQ_lead_40 (fun r7 hw => ?_)
    refine go_if_ne X dQ_lead_43 rfl (fun hc => ?_) (fun hc => ?_)
    · have hw := hw.1 hc
      refine go_iload_n X 3 dQ_lead_47 rfl rfl ?_
      refine go_iconst X dQ_lead_48 kc_i1 ?_
      refine go_icmp_ne X dQ_lead_49 rfl (fun hc => ?_) (fun hc => ?_)
      · have hw := hw.1 hc
        refine go_iload X 0 dQ_lead_60 rfl ?_
        refine go_bipush X dQ_lead_62 kc_b127 ?_
        refine go_icmp_le X dQ_lead_64 rfl (fun hc => ?_) (fun hc => ?_)
        · have hw := hw.1 hc
          refine go_iload X 0 dQ_lead_76 rfl ?_
          refine go_lc [1, 3, 0] rfl ?_
          exact C78 _ _ _ _ _ _ _ _ _ _ _ hw
        · have hw := hw.2 hc
          refine go_iload X 0 dQ_lead_67 rfl ?_
          refine go_sipush X dQ_lead_69 kc_s256 ?_
          refine go_isub X dQ_lead_72 ?_
          refine go_goto X dQ_lead_73 rfl ?_
          refine go_lc [1, 3, 0] rfl ?_
          exact C78 _ _ _ _ _ _ _ _ _ _ _ hw
      · have hw := hw.2 hc
        refine go_aload_n X 1 dQ_lead_52 rfl rfl ?_
        refine go_aload_n X 1 dQ_lead_53 rfl rfl ?_
        refine gt_Q_56 X dQ_lead_54 ?_
        refine k_Q_push X hw mw_Q_191 ⟨by decide, by decide⟩ (Nat.le_of_ble_eq_true rfl) ⟨Nat.zero_le _, Nat.zero_le _⟩ dQ_lead_57 (fun w8 w9 w10 w11 w12 w13 hw => ?_)
        refine go_iload X 0 dQ_lead_60 rfl ?_
        refine go_bipush X dQ_lead_62 kc_b127 ?_
        refine go_icmp_le X dQ_lead_64 rfl (fun hc => ?_) (fun hc => ?_)
        · have hw := hw.1 hc
          refine go_iload X 0 dQ_lead_76 rfl ?_
          refine go_lc [1, 3, 0] rfl ?_
          exact C78 _ _ _ _ _ _ _ _ _ _ _ hw
        · have hw := hw.2 hc
          refine go_iload X 0 dQ_lead_67 rfl ?_
          refine go_sipush X dQ_lead_69 kc_s256 ?_
          refine go_isub X dQ_lead_72 ?_
          refine go_goto X dQ_lead_73 rfl ?_
          refine go_lc [1, 3, 0] rfl ?_
          exact C78 _ _ _ _ _ _ _ _ _ _ _ hw
    · have hw := hw.2 hc
      exact go_vreturn X hq dQ_lead_46 (q_memory, q_stack, q_place, q_ram, q_low, q_top, q_mode, q_state) hw rfl
  refine go_iload_n X 1 dQ_lead_0 rfl rfl ?_
  refine go_bipush X dQ_lead_1 kc_b8 ?_
  refine go_irem X dQ_lead_3 (by decide) ?_
  refine go_nm (fun z1 ez1 => ?_)
  have hw := hw z1 ez1
  refine go_istore_n X dQ_lead_4 rfl (by decide) rfl ?_
  refine go_iload_n X 2 dQ_lead_5 rfl rfl ?_
  refine go_bipush X dQ_lead_6 kc_b8 ?_
  refine go_idiv X dQ_lead_8 (by decide) ?_
  refine go_iconst X dQ_lead_9 kc_i4 ?_
  refine go_irem X dQ_lead_10 (by decide) ?_
  refine go_nm (fun z2 ez2 => ?_)
  have hw := hw z2 ez2
  refine go_istore_n X dQ_lead_11 rfl (by decide) rfl ?_
  refine go_iload_n X 1 dQ_lead_12 rfl rfl ?_
  refine go_iconst X dQ_lead_13 kc_i4 ?_
  refine go_icmp_le X dQ_lead_14 rfl (fun hc => ?_) (fun hc => ?_)
  · have hw := hw.1 hc
    refine go_iload_n X 0 dQ_lead_23 rfl rfl ?_
    refine go_iconst X dQ_lead_24 kc_i2 ?_
    refine go_icmp_ne X dQ_lead_25 rfl (fun hc => ?_) (fun hc => ?_)
    · have hw := hw.1 hc
      refine go_aload_n X 2 dQ_lead_32 rfl rfl ?_
      refine k_Q_next X hw mw_Q_194 ⟨by decide, by decide⟩ (Nat.le_of_ble_eq_true rfl) ⟨Nat.zero_le _, Nat.zero_le _⟩ dQ_lead_33 (fun r3 w4 hw => ?_)
      refine go_lc [2, 1, 0] rfl ?_
      exact C36 _ _ _ _ _ _ _ _ _ _ _ hw
    · have hw := hw.2 hc
      refine go_iconst X dQ_lead_28 kc_i0 ?_
      refine go_goto X dQ_lead_29 rfl ?_
      refine go_lc [2, 1, 0] rfl ?_
      exact C36 _ _ _ _ _ _ _ _ _ _ _ hw
  · have hw := hw.2 hc
    refine go_aload_n X 2 dQ_lead_17 rfl rfl ?_
    refine go_iconst X dQ_lead_18 kc_i3 ?_
    refine k_Q_stand X hw mw_Q_179 ⟨by decide, by decide⟩ (Nat.le_of_ble_eq_true rfl) ⟨Nat.zero_le _, Nat.zero_le _⟩ dQ_lead_19 (fun w5 w6 hw => ?_)
    exact go_vreturn X hq dQ_lead_22 (q_memory, q_stack, w5, q_ram, q_low, q_top, q_mode, w6) hw rfl
theorem k_Q_lead {G : gt_} {ad : Nat → Nat} {cc : ByteArray} {own : String} {fr lo n cells slots pc index : Nat} {lc : List (Nat × Value)} {rest : List Value} {q_code q_many : Int32} {q_pin q_size q_bytes q_kind q_bank q_address q_full : Nat → Int32} {q_linked : Int32} {q_packedBank q_packedAddress : Nat → Int32} {q_banks : Int32} {q_memory q_register : Nat → Int32} {q_stack q_place q_zero q_less q_half q_carry q_enabled q_soon q_ram q_low q_top q_mode q_state q_sent : Int32} {q_out : Nat → Int32} {a1 : Int32} {P : (Nat → Int32) → (Int32) → (Int32) → (Int32) → (Int32) → (Int32) → (Int32) → (Int32) → Prop} (X : cx_ G ad cc own fr lo n) (hw : wp_Q_lead q_banks q_memory q_stack q_place q_zero q_carry q_ram q_low q_top q_mode q_state a1 P) (m1 : Cond.methodLink own index yQ_lead ∈ wS) (hlv : 3 + 1 ≤ fr ∧ 8 + (6 + 11) + 64 ≤ lo) (hrs : (rest.map fun v => v.category).sum ≤ 8) (hcs : cells ≤ (gR_ G).cells ∧ slots ≤ (gR_ G).slots) (d : decode cc pc = .ok (.invokevirtual index, 3))
    (kk : ∀ (q_memory' : Nat → Int32) (q_stack' q_place' q_ram' q_low' q_top' q_mode' q_state' : Int32), P q_memory' q_stack' q_place' q_ram' q_low' q_top' q_mode' q_state' → go_ G cells slots (wM ad q_code q_many q_pin q_size q_bytes q_kind q_bank q_address q_full q_linked q_packedBank q_packedAddress q_banks q_memory' q_register q_stack' q_place' q_zero q_less q_half q_carry q_enabled q_soon q_ram' q_low' q_top' q_mode' q_state' q_sent q_out) (pc + 3) lc (rest)) : go_ G cells slots (wM ad q_code q_many q_pin q_size q_bytes q_kind q_bank q_address q_full q_linked q_packedBank q_packedAddress q_banks q_memory q_register q_stack q_place q_zero q_less q_half q_carry q_enabled q_soon q_ram q_low q_top q_mode q_state q_sent q_out) pc lc (.int a1 :: .ref (ad 30) :: rest) :=
  go_cvv X (c_Q_lead hw) me_Q_lead m1 hlv 0 rfl rfl rfl hrs hcs d (fun u hp => kk u.1 u.2.1 u.2.2.1 u.2.2.2.1 u.2.2.2.2.1 u.2.2.2.2.2.1 u.2.2.2.2.2.2.1 u.2.2.2.2.2.2.2 hp)
set_option maxRecDepth 100000 in
set_option maxHeartbeats 4000000 in
theorem c_Q_link {l : Launch} {D : va_G} {ad : Nat → Nat} {q_code q_many : Int32} {q_pin q_size q_bytes q_kind q_bank q_address q_full : Nat → Int32} {q_linked : Int32} {q_packedBank q_packedAddress : Nat → Int32} {q_banks : Int32} {q_memory q_register : Nat → Int32} {q_stack q_place q_zero q_less q_half q_carry q_enabled q_soon q_ram q_low q_top q_mode q_state q_sent : Int32} {q_out : Nat → Int32} {a1 : Int32} {P : Int32 → (Int32) → (Nat → Int32) → (Nat → Int32) → (Nat → Int32) → (Int32) → (Nat → Int32) → (Nat → Int32) → (Int32) → (Nat → Int32) → (Nat → Int32) → (Int32) → (Int32) → (Int32) → (Int32) → (Int32) → (Int32) → (Int32) → (Int32) → (Int32) → (Int32) → (Int32) → (Int32) → (Int32) → (Int32) → Prop} (hw : wp_Q_link q_code q_many q_pin q_size q_bytes q_kind q_bank q_address q_full q_linked q_packedBank q_packedAddress q_banks q_memory q_register q_stack q_place q_zero q_less q_half q_carry q_enabled q_soon q_ram q_low q_top q_mode q_state q_sent a1 P) : ct_ l yQ_link bQ_link 4 (some .int) 3 68 D ad [.ref (ad 30), .int a1] (wM ad q_code q_many q_pin q_size q_bytes q_kind q_bank q_address q_full q_linked q_packedBank q_packedAddress q_banks q_memory q_register q_stack q_place q_zero q_less q_half q_carry q_enabled q_soon q_ram q_low q_top q_mode q_state q_sent q_out) (qi_ D (fun (r : Int32) (u : (Int32) × (Nat → Int32) × (Nat → Int32) × (Nat → Int32) × (Int32) × (Nat → Int32) × (Nat → Int32) × (Int32) × (Nat → Int32) × (Nat → Int32) × (Int32) × (Int32) × (Int32) × (Int32) × (Int32) × (Int32) × (Int32) × (Int32) × (Int32) × (Int32) × (Int32) × (Int32) × (Int32) × (Int32)) => P r u.1 u.2.1 u.2.2.1 u.2.2.2.1 u.2.2.2.2.1 u.2.2.2.2.2.1 u.2.2.2.2.2.2.1 u.2.2.2.2.2.2.2.1 u.2.2.2.2.2.2.2.2.1 u.2.2.2.2.2.2.2.2.2.1 u.2.2.2.2.2.2.2.2.2.2.1 u.2.2.2.2.2.2.2.2.2.2.2.1 u.2.2.2.2.2.2.2.2.2.2.2.2.1 u.2.2.2.2.2.2.2.2.2.2.2.2.2.1 u.2.2.2.2.2.2.2.2.2.2.2.2.2.2.1 u.2.2.2.2.2.2.2.2.2.2.2.2.2.2.2.1 u.2.2.2.2.2.2.2.2.2.2.2.2.2.2.2.2.1 u.2.2.2.2.2.2.2.2.2.2.2.2.2.2.2.2.2.1 u.2.2.2.2.2.2.2.2.2.2.2.2.2.2.2.2.2.2.1 u.2.2.2.2.2.2.2.2.2.2.2.2.2.2.2.2.2.2.2.1 u.2.2.2.2.2.2.2.2.2.2.2.2.2.2.2.2.2.2.2.2.1 u.2.2.2.2.2.2.2.2.2.2.2.2.2.2.2.2.2.2.2.2.2.1 u.2.2.2.2.2.2.2.2.2.2.2.2.2.2.2.2.2.2.2.2.2.2.1 u.2.2.2.2.2.2.2.2.2.2.2.2.2.2.2.2.2.2.2.2.2.2.2) (fun u => wM ad u.1 q_many q_pin q_size q_bytes q_kind u.2.1 u.2.2.1 u.2.2.2.1 u.2.2.2.2.1 u.2.2.2.2.2.1 u.2.2.2.2.2.2.1 u.2.2.2.2.2.2.2.1 u.2.2.2.2.2.2.2.2.1 u.2.2.2.2.2.2.2.2.2.1 u.2.2.2.2.2.2.2.2.2.2.1 u.2.2.2.2.2.2.2.2.2.2.2.1 u.2.2.2.2.2.2.2.2.2.2.2.2.1 u.2.2.2.2.2.2.2.2.2.2.2.2.2.1 u.2.2.2.2.2.2.2.2.2.2.2.2.2.2.1 u.2.2.2.2.2.2.2.2.2.2.2.2.2.2.2.1 u.2.2.2.2.2.2.2.2.2.2.2.2.2.2.2.2.1 u.2.2.2.2.2.2.2.2.2.2.2.2.2.2.2.2.2.1 u.2.2.2.2.2.2.2.2.2.2.2.2.2.2.2.2.2.2.1 u.2.2.2.2.2.2.2.2.2.2.2.2.2.2.2.2.2.2.2.1 u.2.2.2.2.2.2.2.2.2.2.2.2.2.2.2.2.2.2.2.2.1 u.2.2.2.2.2.2.2.2.2.2.2.2.2.2.2.2.2.2.2.2.2.1 u.2.2.2.2.2.2.2.2.2.2.2.2.2.2.2.2.2.2.2.2.2.2.1 u.2.2.2.2.2.2.2.2.2.2.2.2.2.2.2.2.2.2.2.2.2.2.2 q_out)) := by
  refine ct_of RQ (by decide) rfl (Nat.le_of_ble_eq_true rfl) (fun G hl hD X hq => ?_)
  subst hl hD
  show go_ G 0 0 (wM ad q_code q_many q_pin q_size q_bytes q_kind q_bank q_address q_full q_linked q_packedBank q_packedAddress q_banks q_memory q_register q_stack q_place q_zero q_less q_half q_carry q_enabled q_soon q_ram q_low q_top q_mode q_state q_sent q_out) 0 [(0, .ref (ad 30)), (1, .int a1)] []
  have C81 : ∀ (n9 : Nat) (q_code : Int32) (q_bank q_address q_full : Nat → Int32) (q_linked : Int32) (q_packedBank q_packedAddress : Nat → Int32) (q_banks : Int32) (q_memory q_register : Nat → Int32) (q_stack q_place q_zero q_less q_half q_carry q_enabled q_soon q_ram q_low q_top q_mode q_state q_sent x2 x3 : Int32), wp_Q_link_81 q_many q_pin q_size q_bytes q_kind P n9 q_code q_bank q_address q_full q_linked q_packedBank q_packedAddress q_banks q_memory q_register q_stack q_place q_zero q_less q_half q_carry q_enabled q_soon q_ram q_low q_top q_mode q_state q_sent x2 x3 → go_ G 0 0 (wM ad q_code q_many q_pin q_size q_bytes q_kind q_bank q_address q_full q_linked q_packedBank q_packedAddress q_banks q_memory q_register q_stack q_place q_zero q_less q_half q_carry q_enabled q_soon q_ram q_low q_top q_mode q_state q_sent q_out) 81 [(0, .ref (ad 30)), (2, .int x2), (3, .int x3)] [] := by
    intro n9
    induction n9 with
    | zero =>
      intro q_code q_bank q_address q_full q_linked q_packedBank q_packedAddress q_banks q_memory q_register q_stack q_place q_zero q_less q_half q_carry q_enabled q_soon q_ram q_low q_top q_mode q_state q_sent x2 x3 hw
      exact False.elim hw
    | succ n9 ih =>
      intro q_code q_bank q_address q_full q_linked q_packedBank q_packedAddress q_banks q_memory q_register q_stack q_place q_zero q_less q_half q_carry q_enabled q_soon q_ram q_low q_top q_mode q_state q_sent x2 x3 hw
      refine go_iload_n X 2 dQ_link_81 rfl rfl ?_
      refine go_aload_n X 0 dQ_link_82 rfl rfl ?_
      refine gt_Q_100 X dQ_link_83 ?_
      refine go_icmp_ge X dQ_link_86 rfl (fun hc => ?_) (fun hc => ?_)
      · have hw := hw.1 hc
        refine go_aload_n X 0 dQ_link_128 rfl rfl ?_
        refine k_Q_begin X hw mw_Q_46 ⟨by decide, by decide⟩ (Nat.le_of_ble_eq_true rfl) ⟨Nat.zero_le _, Nat.zero_le _⟩ dQ_link_129 (fun w8 w9 w10 w11 w12 w13 w14 w15 w16 w17 w18 w19 w20 w21 w22 w23 hw => ?_)
        refine go_iload_n X 1 dQ_link_132 rfl rfl ?_
        exact go_ireturn X hq dQ_link_133 (q_code, q_bank, q_address, q_full, q_linked, q_packedBank, q_packedAddress, q_banks, w8, w9, w10, w11, w12, w13, w14, w15, w16, w17, w18, w19, w20, w21, w22, w23) hw rfl
      · have hw := hw.2 hc
        refine go_aload_n X 0 dQ_link_89 rfl rfl ?_
        refine gt_Q_31 X dQ_link_90 ?_
        refine go_iload_n X 2 dQ_link_93 rfl rfl ?_
        refine go_aload_n X 0 dQ_link_94 rfl rfl ?_
        refine gt_Q_22 X dQ_link_95 ?_
        refine go_iload_n X 2 dQ_link_98 rfl rfl ?_
        have hz := hw.1
        have hw := hw.2
        refine ar_q_bank X hz dQ_link_99 ?_
        have hz := hw.1
        have hw := hw.2
        refine as_q_packedBank X hz dQ_link_100 ?_
        refine go_aload_n X 0 dQ_link_101 rfl rfl ?_
        refine gt_Q_34 X dQ_link_102 ?_
        refine go_iload_n X 2 dQ_link_105 rfl rfl ?_
        refine go_aload_n X 0 dQ_link_106 rfl rfl ?_
        refine gt_Q_25 X dQ_link_107 ?_
        refine go_iload_n X 2 dQ_link_110 rfl rfl ?_
        have hz := hw.1
        have hw := hw.2
        refine ar_q_address X hz dQ_link_111 ?_
        have hz := hw.1
        have hw := hw.2
        refine as_q_packedAddress X hz dQ_link_112 ?_
        refine go_iload_n X 1 dQ_link_113 rfl rfl ?_
        refine go_aload_n X 0 dQ_link_114 rfl rfl ?_
        refine gt_Q_13 X dQ_link_115 ?_
        refine go_iload_n X 2 dQ_link_118 rfl rfl ?_
        have hz := hw.1
        have hw := hw.2
        refine ar_q_size X hz dQ_link_119 ?_
        refine go_iadd X dQ_link_120 ?_
        refine go_nm (fun z24 ez24 => ?_)
        have hw := hw z24 ez24
        refine go_istore_n X dQ_link_121 rfl (by decide) rfl ?_
        refine go_iinc X 2 dQ_link_122 rfl (ki_1 _) (by decide) rfl ?_
        refine go_goto X dQ_link_125 rfl ?_
        refine go_lc [2, 1, 0] rfl ?_
        exact ih _ _ _ _ _ _ _ _ _ _ _ _ _ _ _ _ _ _ _ _ _ _ _ _ _ _ hw
  have C52 : ∀ (q_code : Int32) (q_bank q_address q_full : Nat → Int32) (q_linked : Int32) (q_packedBank q_packedAddress : Nat → Int32) (q_banks : Int32) (q_memory q_register : Nat → Int32) (q_stack q_place q_zero q_less q_half q_carry q_enabled q_soon q_ram q_low q_top q_mode q_state q_sent x1 y0 : Int32), wp_Q_link_52 q_many q_pin q_size q_bytes q_kind P q_code q_bank q_address q_full q_linked q_packedBank q_packedAddress q_banks q_memory q_register q_stack q_place q_zero q_less q_half q_carry q_enabled q_soon q_ram q_low q_top q_mode q_state q_sent x1 y0 → go_ G 0 0 (wM ad q_code q_many q_pin q_size q_bytes q_kind q_bank q_address q_full q_linked q_packedBank q_packedAddress q_banks q_memory q_register q_stack q_place q_zero q_less q_half q_carry q_enabled q_soon q_ram q_low q_top q_mode q_state q_sent q_out) 52 [(0, .ref (ad 30)), (1, .int x1)] [.int y0, .ref (ad 30)] := by
    intro q_code q_bank q_address q_full q_linked q_packedBank q_packedAddress q_banks q_memory q_register q_stack q_place q_zero q_less q_half q_carry q_enabled q_soon q_ram q_low q_top q_mode q_state q_sent x1 y0 hw
    refine pt_Q_49 X dQ_link_52 ?_
    refine go_aload_n X 0 dQ_link_55 rfl rfl ?_
    refine gt_Q_49 X dQ_link_56 ?_
    refine go_if_le X dQ_link_59 rfl (fun hc => ?_) (fun hc => ?_)
    · have hw := hw.1 hc
      refine go_aload_n X 0 dQ_link_64 rfl rfl ?_
      refine go_iload_n X 1 dQ_link_65 rfl rfl ?_
      refine k_Q_build X hw mw_Q_139 ⟨by decide, by decide⟩ (Nat.le_of_ble_eq_true rfl) ⟨Nat.zero_le _, Nat.zero_le _⟩ dQ_link_66 (fun w6 w7 hw => ?_)
      refine go_aload_n X 0 dQ_link_69 rfl rfl ?_
      refine go_aload_n X 0 dQ_link_70 rfl rfl ?_
      refine gt_Q_100 X dQ_link_71 ?_
      refine pt_Q_143 X dQ_link_74 ?_
      refine go_iconst X dQ_link_77 kc_i0 ?_
      refine go_istore_n X dQ_link_78 rfl (by decide) rfl ?_
      refine go_iconst X dQ_link_79 kc_i0 ?_
      refine go_istore_n X dQ_link_80 rfl (by decide) rfl ?_
      refine go_lc [2, 1, 0] rfl ?_
      obtain ⟨j9, hw⟩ := hw
      exact C81 j9 _ _ _ _ _ _ _ _ _ _ _ _ _ _ _ _ _ _ _ _ _ _ _ _ _ _ hw
    · have hw := hw.2 hc
      refine go_iconst X dQ_link_62 kc_i0 ?_
      exact go_ireturn X hq dQ_link_63 (y0, q_bank, q_address, q_full, q_linked, q_packedBank, q_packedAddress, q_banks, q_memory, q_register, q_stack, q_place, q_zero, q_less, q_half, q_carry, q_enabled, q_soon, q_ram, q_low, q_top, q_mode, q_state, q_sent) hw rfl
  have C21 : ∀ (q_code : Int32) (q_bank q_address q_full : Nat → Int32) (q_linked : Int32) (q_packedBank q_packedAddress : Nat → Int32) (q_banks : Int32) (q_memory q_register : Nat → Int32) (q_stack q_place q_zero q_less q_half q_carry q_enabled q_soon q_ram q_low q_top q_mode q_state q_sent x1 : Int32), wp_Q_link_21 q_many q_pin q_size q_bytes q_kind P q_code q_bank q_address q_full q_linked q_packedBank q_packedAddress q_banks q_memory q_register q_stack q_place q_zero q_less q_half q_carry q_enabled q_soon q_ram q_low q_top q_mode q_state q_sent x1 → go_ G 0 0 (wM ad q_code q_many q_pin q_size q_bytes q_kind q_bank q_address q_full q_linked q_packedBank q_packedAddress q_banks q_memory q_register q_stack q_place q_zero q_less q_half q_carry q_enabled q_soon q_ram q_low q_top q_mode q_state q_sent q_out) 21 [(0, .ref (ad 30)), (1, .int x1)] [.ref (ad 30)] := by
    intro q_code q_bank q_address q_full q_linked q_packedBank q_packedAddress q_banks q_memory q_register q_stack q_place q_zero q_less q_half q_carry q_enabled q_soon q_ram q_low q_top q_mode q_state q_sent x1 hw
    refine go_aload_n X 0 dQ_link_21 rfl rfl ?_
    refine gt_Q_100 X dQ_link_22 ?_
    refine go_if_eq X dQ_link_25 rfl (fun hc => ?_) (fun hc => ?_)
    · have hw := hw.1 hc
      refine go_iconst X dQ_link_35 kc_i2 ?_
      refine go_goto X dQ_link_36 rfl ?_
      exact C52 _ _ _ _ _ _ _ _ _ _ _ _ _ _ _ _ _ _ _ _ _ _ _ _ _ _ hw
    · have hw := hw.2 hc
      refine go_aload_n X 0 dQ_link_28 rfl rfl ?_
      refine k_Q_allKnown X hw mw_Q_132 ⟨by decide, by decide⟩ (Nat.le_of_ble_eq_true rfl) ⟨Nat.zero_le _, Nat.zero_le _⟩ dQ_link_29 (fun r1 hw => ?_)
      refine go_if_ne X dQ_link_32 rfl (fun hc => ?_) (fun hc => ?_)
      · have hw := hw.1 hc
        refine go_aload_n X 0 dQ_link_39 rfl rfl ?_
        refine go_iload_n X 1 dQ_link_40 rfl rfl ?_
        refine k_Q_pack X hw mw_Q_136 ⟨by decide, by decide⟩ (Nat.le_of_ble_eq_true rfl) ⟨Nat.zero_le _, Nat.zero_le _⟩ dQ_link_41 (fun r2 w3 w4 w5 hw => ?_)
        refine go_if_eq X dQ_link_44 rfl (fun hc => ?_) (fun hc => ?_)
        · have hw := hw.1 hc
          refine go_iconst X dQ_link_51 kc_i3 ?_
          exact C52 _ _ _ _ _ _ _ _ _ _ _ _ _ _ _ _ _ _ _ _ _ _ _ _ _ _ hw
        · have hw := hw.2 hc
          refine go_iconst X dQ_link_47 kc_i0 ?_
          refine go_goto X dQ_link_48 rfl ?_
          exact C52 _ _ _ _ _ _ _ _ _ _ _ _ _ _ _ _ _ _ _ _ _ _ _ _ _ _ hw
      · have hw := hw.2 hc
        refine go_iconst X dQ_link_35 kc_i2 ?_
        refine go_goto X dQ_link_36 rfl ?_
        exact C52 _ _ _ _ _ _ _ _ _ _ _ _ _ _ _ _ _ _ _ _ _ _ _ _ _ _ hw
  refine go_aload_n X 0 dQ_link_0 rfl rfl ?_
  refine go_iload_n X 1 dQ_link_1 rfl rfl ?_
  refine go_iconst X dQ_link_2 kc_i2 ?_
  refine go_icmp_eq X dQ_link_3 rfl (fun hc => ?_) (fun hc => ?_)
  · have hw := hw.1 hc
    exact C21 _ _ _ _ _ _ _ _ _ _ _ _ _ _ _ _ _ _ _ _ _ _ _ _ _ hw
  · have hw := hw.2 hc
    refine go_iload_n X 1 dQ_link_6 rfl rfl ?_
    refine go_iconst X dQ_link_7 kc_i4 ?_
    refine go_icmp_eq X dQ_link_8 rfl (fun hc => ?_) (fun hc => ?_)
    · have hw := hw.1 hc
      exact C21 _ _ _ _ _ _ _ _ _ _ _ _ _ _ _ _ _ _ _ _ _ _ _ _ _ hw
    · have hw := hw.2 hc
      refine go_iload_n X 1 dQ_link_11 rfl rfl ?_
      refine go_bipush X dQ_link_12 kc_b8 ?_
      refine go_icmp_eq X dQ_link_14 rfl (fun hc => ?_) (fun hc => ?_)
      · have hw := hw.1 hc
        exact C21 _ _ _ _ _ _ _ _ _ _ _ _ _ _ _ _ _ _ _ _ _ _ _ _ _ hw
      · have hw := hw.2 hc
        refine go_iconst X dQ_link_17 kc_i1 ?_
        refine go_goto X dQ_link_18 rfl ?_
        exact C52 _ _ _ _ _ _ _ _ _ _ _ _ _ _ _ _ _ _ _ _ _ _ _ _ _ _ hw
theorem k_Q_link {G : gt_} {ad : Nat → Nat} {cc : ByteArray} {own : String} {fr lo n cells slots pc index : Nat} {lc : List (Nat × Value)} {rest : List Value} {q_code q_many : Int32} {q_pin q_size q_bytes q_kind q_bank q_address q_full : Nat → Int32} {q_linked : Int32} {q_packedBank q_packedAddress : Nat → Int32} {q_banks : Int32} {q_memory q_register : Nat → Int32} {q_stack q_place q_zero q_less q_half q_carry q_enabled q_soon q_ram q_low q_top q_mode q_state q_sent : Int32} {q_out : Nat → Int32} {a1 : Int32} {P : Int32 → (Int32) → (Nat → Int32) → (Nat → Int32) → (Nat → Int32) → (Int32) → (Nat → Int32) → (Nat → Int32) → (Int32) → (Nat → Int32) → (Nat → Int32) → (Int32) → (Int32) → (Int32) → (Int32) → (Int32) → (Int32) → (Int32) → (Int32) → (Int32) → (Int32) → (Int32) → (Int32) → (Int32) → (Int32) → Prop} (X : cx_ G ad cc own fr lo n) (hw : wp_Q_link q_code q_many q_pin q_size q_bytes q_kind q_bank q_address q_full q_linked q_packedBank q_packedAddress q_banks q_memory q_register q_stack q_place q_zero q_less q_half q_carry q_enabled q_soon q_ram q_low q_top q_mode q_state q_sent a1 P) (m1 : Cond.methodLink own index yQ_link ∈ wS) (hlv : 3 + 1 ≤ fr ∧ 8 + (4 + 11) + 68 ≤ lo) (hrs : (rest.map fun v => v.category).sum ≤ 8) (hcs : cells ≤ (gR_ G).cells ∧ slots ≤ (gR_ G).slots) (d : decode cc pc = .ok (.invokevirtual index, 3))
    (kk : ∀ (r q_code' : Int32) (q_bank' q_address' q_full' : Nat → Int32) (q_linked' : Int32) (q_packedBank' q_packedAddress' : Nat → Int32) (q_banks' : Int32) (q_memory' q_register' : Nat → Int32) (q_stack' q_place' q_zero' q_less' q_half' q_carry' q_enabled' q_soon' q_ram' q_low' q_top' q_mode' q_state' q_sent' : Int32), P r q_code' q_bank' q_address' q_full' q_linked' q_packedBank' q_packedAddress' q_banks' q_memory' q_register' q_stack' q_place' q_zero' q_less' q_half' q_carry' q_enabled' q_soon' q_ram' q_low' q_top' q_mode' q_state' q_sent' → go_ G cells slots (wM ad q_code' q_many q_pin q_size q_bytes q_kind q_bank' q_address' q_full' q_linked' q_packedBank' q_packedAddress' q_banks' q_memory' q_register' q_stack' q_place' q_zero' q_less' q_half' q_carry' q_enabled' q_soon' q_ram' q_low' q_top' q_mode' q_state' q_sent' q_out) (pc + 3) lc (.int r :: rest)) : go_ G cells slots (wM ad q_code q_many q_pin q_size q_bytes q_kind q_bank q_address q_full q_linked q_packedBank q_packedAddress q_banks q_memory q_register q_stack q_place q_zero q_less q_half q_carry q_enabled q_soon q_ram q_low q_top q_mode q_state q_sent q_out) pc lc (.int a1 :: .ref (ad 30) :: rest) :=
  go_cvi X (c_Q_link hw) me_Q_link m1 hlv 0 rfl rfl rfl hrs hcs d (fun r u hp => kk r u.1 u.2.1 u.2.2.1 u.2.2.2.1 u.2.2.2.2.1 u.2.2.2.2.2.1 u.2.2.2.2.2.2.1 u.2.2.2.2.2.2.2.1 u.2.2.2.2.2.2.2.2.1 u.2.2.2.2.2.2.2.2.2.1 u.2.2.2.2.2.2.2.2.2.2.1 u.2.2.2.2.2.2.2.2.2.2.2.1 u.2.2.2.2.2.2.2.2.2.2.2.2.1 u.2.2.2.2.2.2.2.2.2.2.2.2.2.1 u.2.2.2.2.2.2.2.2.2.2.2.2.2.2.1 u.2.2.2.2.2.2.2.2.2.2.2.2.2.2.2.1 u.2.2.2.2.2.2.2.2.2.2.2.2.2.2.2.2.1 u.2.2.2.2.2.2.2.2.2.2.2.2.2.2.2.2.2.1 u.2.2.2.2.2.2.2.2.2.2.2.2.2.2.2.2.2.2.1 u.2.2.2.2.2.2.2.2.2.2.2.2.2.2.2.2.2.2.2.1 u.2.2.2.2.2.2.2.2.2.2.2.2.2.2.2.2.2.2.2.2.1 u.2.2.2.2.2.2.2.2.2.2.2.2.2.2.2.2.2.2.2.2.2.1 u.2.2.2.2.2.2.2.2.2.2.2.2.2.2.2.2.2.2.2.2.2.2.1 u.2.2.2.2.2.2.2.2.2.2.2.2.2.2.2.2.2.2.2.2.2.2.2 hp)
set_option maxRecDepth 100000 in
set_option maxHeartbeats 4000000 in
theorem c_Q_register {l : Launch} {D : va_G} {ad : Nat → Nat} {q_code q_many : Int32} {q_pin q_size q_bytes q_kind q_bank q_address q_full : Nat → Int32} {q_linked : Int32} {q_packedBank q_packedAddress : Nat → Int32} {q_banks : Int32} {q_memory q_register : Nat → Int32} {q_stack q_place q_zero q_less q_half q_carry q_enabled q_soon q_ram q_low q_top q_mode q_state q_sent : Int32} {q_out : Nat → Int32} {a1 : Int32} {P : Int32 → (Int32) → Prop} (hw : wp_Q_register q_code q_linked q_banks q_memory q_register q_stack q_place q_zero q_less q_half q_carry q_enabled q_ram q_low q_top q_mode a1 P) : ct_ l yQ_register bQ_register 3 (some .int) 3 63 D ad [.ref (ad 30), .int a1] (wM ad q_code q_many q_pin q_size q_bytes q_kind q_bank q_address q_full q_linked q_packedBank q_packedAddress q_banks q_memory q_register q_stack q_place q_zero q_less q_half q_carry q_enabled q_soon q_ram q_low q_top q_mode q_state q_sent q_out) (qi_ D (fun (r : Int32) (u : (Int32)) => P r u) (fun u => wM ad u q_many q_pin q_size q_bytes q_kind q_bank q_address q_full q_linked q_packedBank q_packedAddress q_banks q_memory q_register q_stack q_place q_zero q_less q_half q_carry q_enabled q_soon q_ram q_low q_top q_mode q_state q_sent q_out)) := by
  refine ct_of RQ (by decide) rfl (Nat.le_of_ble_eq_true rfl) (fun G hl hD X hq => ?_)
  subst hl hD
  show go_ G 0 0 (wM ad q_code q_many q_pin q_size q_bytes q_kind q_bank q_address q_full q_linked q_packedBank q_packedAddress q_banks q_memory q_register q_stack q_place q_zero q_less q_half q_carry q_enabled q_soon q_ram q_low q_top q_mode q_state q_sent q_out) 0 [(0, .ref (ad 30)), (1, .int a1)] []
  have C152 : ∀ (q_code y0 : Int32), wp_Q_register_152 q_linked q_banks q_memory q_register q_stack q_place q_zero q_less q_half q_carry q_enabled q_ram q_low q_top q_mode P q_code y0 → go_ G 0 0 (wM ad q_code q_many q_pin q_size q_bytes q_kind q_bank q_address q_full q_linked q_packedBank q_packedAddress q_banks q_memory q_register q_stack q_place q_zero q_less q_half q_carry q_enabled q_soon q_ram q_low q_top q_mode q_state q_sent q_out) 152 [(0, .ref (ad 30))] [.int y0] := by
    intro q_code y0 hw
    refine go_iconst X dQ_register_152 kc_i4 ?_
    refine go_aload_n X 0 dQ_register_153 rfl rfl ?_
    refine gt_Q_81 X dQ_register_154 ?_
    refine go_imul X dQ_register_157 ?_
    refine go_iadd X dQ_register_158 ?_
    refine go_iconst X dQ_register_159 kc_i2 ?_
    refine go_aload_n X 0 dQ_register_160 rfl rfl ?_
    refine gt_Q_84 X dQ_register_161 ?_
    refine go_imul X dQ_register_164 ?_
    refine go_iadd X dQ_register_165 ?_
    refine go_aload_n X 0 dQ_register_166 rfl rfl ?_
    refine gt_Q_87 X dQ_register_167 ?_
    refine go_iadd X dQ_register_170 ?_
    refine go_goto X dQ_register_171 rfl ?_
    exact go_ireturn X hq dQ_register_186 q_code hw rfl
  have C121 : ∀ (q_code x1 y0 y1 : Int32), wp_Q_register_121 q_linked q_banks q_memory q_register q_stack q_place q_zero q_less q_half q_carry q_enabled q_ram q_low q_top q_mode P q_code x1 y0 y1 → go_ G 0 0 (wM ad q_code q_many q_pin q_size q_bytes q_kind q_bank q_address q_full q_linked q_packedBank q_packedAddress q_banks q_memory q_register q_stack q_place q_zero q_less q_half q_carry q_enabled q_soon q_ram q_low q_top q_mode q_state q_sent q_out) 121 [(0, .ref (ad 30)), (1, .int x1)] [.int y0, .int y1] := by
    intro q_code x1 y0 y1 hw
    refine go_iadd X dQ_register_121 ?_
    refine go_nm (fun z7 ez7 => ?_)
    have hw := hw z7 ez7
    refine go_istore_n X dQ_register_122 rfl (by decide) rfl ?_
    refine go_iload_n X 2 dQ_register_123 rfl rfl ?_
    refine go_bipush X dQ_register_124 kc_b10 ?_
    refine go_icmp_ne X dQ_register_126 rfl (fun hc => ?_) (fun hc => ?_)
    · have hw := hw.1 hc
      refine go_iload_n X 2 dQ_register_133 rfl rfl ?_
      refine go_bipush X dQ_register_134 kc_b11 ?_
      refine go_icmp_ne X dQ_register_136 rfl (fun hc => ?_) (fun hc => ?_)
      · have hw := hw.1 hc
        refine go_aload_n X 1 dQ_register_174 rfl rfl ?_
        refine gt_Q_72 X dQ_register_175 ?_
        refine go_if_eq X dQ_register_178 rfl (fun hc => ?_) (fun hc => ?_)
        · have hw := hw.1 hc
          refine go_iconst X dQ_register_185 kc_i0 ?_
          exact go_ireturn X hq dQ_register_186 q_code hw rfl
        · have hw := hw.2 hc
          refine go_iconst X dQ_register_181 kc_i1 ?_
          refine go_goto X dQ_register_182 rfl ?_
          exact go_ireturn X hq dQ_register_186 q_code hw rfl
      · have hw := hw.2 hc
        refine go_aload_n X 1 dQ_register_139 rfl rfl ?_
        refine gt_Q_78 X dQ_register_140 ?_
        refine go_if_eq X dQ_register_143 rfl (fun hc => ?_) (fun hc => ?_)
        · have hw := hw.1 hc
          refine go_iconst X dQ_register_151 kc_i0 ?_
          refine go_lc [1] rfl ?_
          exact C152 _ _ hw
        · have hw := hw.2 hc
          refine go_bipush X dQ_register_146 kc_b16 ?_
          refine go_goto X dQ_register_148 rfl ?_
          refine go_lc [1] rfl ?_
          exact C152 _ _ hw
    · have hw := hw.2 hc
      refine go_iload_n X 0 dQ_register_129 rfl rfl ?_
      refine go_goto X dQ_register_130 rfl ?_
      exact go_ireturn X hq dQ_register_186 q_code hw rfl
  have C95 : ∀ (q_code x1 y0 y1 : Int32), wp_Q_register_95 q_linked q_banks q_memory q_register q_stack q_place q_zero q_less q_half q_carry q_enabled q_ram q_low q_top q_mode P q_code x1 y0 y1 → go_ G 0 0 (wM ad q_code q_many q_pin q_size q_bytes q_kind q_bank q_address q_full q_linked q_packedBank q_packedAddress q_banks q_memory q_register q_stack q_place q_zero q_less q_half q_carry q_enabled q_soon q_ram q_low q_top q_mode q_state q_sent q_out) 95 [(0, .ref (ad 30)), (1, .int x1)] [.int y0, .int y1] := by
    intro q_code x1 y0 y1 hw
    refine go_iadd X dQ_register_95 ?_
    refine go_aload_n X 0 dQ_register_96 rfl rfl ?_
    refine gt_Q_66 X dQ_register_97 ?_
    refine go_if_eq X dQ_register_100 rfl (fun hc => ?_) (fun hc => ?_)
    · have hw := hw.1 hc
      refine go_iconst X dQ_register_107 kc_i0 ?_
      refine go_iadd X dQ_register_108 ?_
      refine go_aload_n X 0 dQ_register_109 rfl rfl ?_
      refine gt_Q_69 X dQ_register_110 ?_
      refine go_if_eq X dQ_register_113 rfl (fun hc => ?_) (fun hc => ?_)
      · have hw := hw.1 hc
        refine go_iconst X dQ_register_120 kc_i0 ?_
        exact C121 _ _ _ _ hw
      · have hw := hw.2 hc
        refine go_iconst X dQ_register_116 kc_i1 ?_
        refine go_goto X dQ_register_117 rfl ?_
        exact C121 _ _ _ _ hw
    · have hw := hw.2 hc
      refine go_iconst X dQ_register_103 kc_i2 ?_
      refine go_goto X dQ_register_104 rfl ?_
      refine go_iadd X dQ_register_108 ?_
      refine go_aload_n X 0 dQ_register_109 rfl rfl ?_
      refine gt_Q_69 X dQ_register_110 ?_
      refine go_if_eq X dQ_register_113 rfl (fun hc => ?_) (fun hc => ?_)
      · have hw := hw.1 hc
        refine go_iconst X dQ_register_120 kc_i0 ?_
        exact C121 _ _ _ _ hw
      · have hw := hw.2 hc
        refine go_iconst X dQ_register_116 kc_i1 ?_
        refine go_goto X dQ_register_117 rfl ?_
        exact C121 _ _ _ _ hw
  have C29 : ∀ (q_code x1 : Int32), wp_Q_register_29 q_linked q_banks q_memory q_register q_stack q_place q_zero q_less q_half q_carry q_enabled q_ram q_low q_top q_mode P q_code x1 → go_ G 0 0 (wM ad q_code q_many q_pin q_size q_bytes q_kind q_bank q_address q_full q_linked q_packedBank q_packedAddress q_banks q_memory q_register q_stack q_place q_zero q_less q_half q_carry q_enabled q_soon q_ram q_low q_top q_mode q_state q_sent q_out) 29 [(0, .ref (ad 30)), (1, .int x1)] [] := by
    intro q_code x1 hw
    refine go_aload_n X 0 dQ_register_29 rfl rfl ?_
    refine go_iconst X dQ_register_30 kc_i0 ?_
    refine pt_Q_49 X dQ_register_31 ?_
    refine go_iload_n X 1 dQ_register_34 rfl rfl ?_
    refine go_bipush X dQ_register_35 kc_b8 ?_
    refine go_icmp_ge X dQ_register_37 rfl (fun hc => ?_) (fun hc => ?_)
    · have hw := hw.1 hc
      refine go_iload_n X 1 dQ_register_46 rfl rfl ?_
      refine go_bipush X dQ_register_47 kc_b10 ?_
      refine go_icmp_ge X dQ_register_49 rfl (fun hc => ?_) (fun hc => ?_)
      · have hw := hw.1 hc
        refine go_aload_n X 0 dQ_register_70 rfl rfl ?_
        refine gt_Q_59 X dQ_register_71 ?_
        refine go_if_eq X dQ_register_74 rfl (fun hc => ?_) (fun hc => ?_)
        · have hw := hw.1 hc
          refine go_iconst X dQ_register_82 kc_i0 ?_
          refine go_aload_n X 0 dQ_register_83 rfl rfl ?_
          refine gt_Q_63 X dQ_register_84 ?_
          refine go_if_eq X dQ_register_87 rfl (fun hc => ?_) (fun hc => ?_)
          · have hw := hw.1 hc
            refine go_iconst X dQ_register_94 kc_i0 ?_
            exact C95 _ _ _ _ hw
          · have hw := hw.2 hc
            refine go_iconst X dQ_register_90 kc_i4 ?_
            refine go_goto X dQ_register_91 rfl ?_
            exact C95 _ _ _ _ hw
        · have hw := hw.2 hc
          refine go_bipush X dQ_register_77 kc_b8 ?_
          refine go_goto X dQ_register_79 rfl ?_
          refine go_aload_n X 0 dQ_register_83 rfl rfl ?_
          refine gt_Q_63 X dQ_register_84 ?_
          refine go_if_eq X dQ_register_87 rfl (fun hc => ?_) (fun hc => ?_)
          · have hw := hw.1 hc
            refine go_iconst X dQ_register_94 kc_i0 ?_
            exact C95 _ _ _ _ hw
          · have hw := hw.2 hc
            refine go_iconst X dQ_register_90 kc_i4 ?_
            refine go_goto X dQ_register_91 rfl ?_
            exact C95 _ _ _ _ hw
      · have hw := hw.2 hc
        refine go_iload_n X 1 dQ_register_52 rfl rfl ?_
        refine go_bipush X dQ_register_53 kc_b8 ?_
        refine go_icmp_ne X dQ_register_55 rfl (fun hc => ?_) (fun hc => ?_)
        · have hw := hw.1 hc
          refine go_aload_n X 0 dQ_register_65 rfl rfl ?_
          refine gt_Q_56 X dQ_register_66 ?_
          exact go_ireturn X hq dQ_register_69 (0 : Int32) hw rfl
        · have hw := hw.2 hc
          refine go_aload_n X 0 dQ_register_58 rfl rfl ?_
          refine gt_Q_53 X dQ_register_59 ?_
          refine go_goto X dQ_register_62 rfl ?_
          exact go_ireturn X hq dQ_register_69 (0 : Int32) hw rfl
    · have hw := hw.2 hc
      refine go_aload_n X 0 dQ_register_40 rfl rfl ?_
      refine go_iload_n X 1 dQ_register_41 rfl rfl ?_
      refine k_Q_get X hw mw_Q_169 ⟨by decide, by decide⟩ (Nat.le_of_ble_eq_true rfl) ⟨Nat.zero_le _, Nat.zero_le _⟩ dQ_register_42 (fun r6 hw => ?_)
      exact go_ireturn X hq dQ_register_45 (0 : Int32) hw rfl
  refine go_iload_n X 1 dQ_register_0 rfl rfl ?_
  refine go_iconst X dQ_register_1 kc_i0 ?_
  refine go_bipush X dQ_register_2 kc_b12 ?_
  refine k_Q_outside X hw mw_Q_96 ⟨by decide, by decide⟩ (Nat.le_of_ble_eq_true rfl) ⟨Nat.zero_le _, Nat.zero_le _⟩ dQ_register_4 (fun r1 hw => ?_)
  refine go_if_ne X dQ_register_7 rfl (fun hc => ?_) (fun hc => ?_)
  · have hw := hw.1 hc
    refine go_aload_n X 0 dQ_register_23 rfl rfl ?_
    refine go_iconst X dQ_register_24 kc_i1 ?_
    refine k_Q_refuse X hw mw_Q_146 ⟨by decide, by decide⟩ (Nat.le_of_ble_eq_true rfl) ⟨Nat.zero_le _, Nat.zero_le _⟩ dQ_register_25 (fun r2 w3 hw => ?_)
    exact go_ireturn X hq dQ_register_28 w3 hw rfl
  · have hw := hw.2 hc
    refine go_iload_n X 1 dQ_register_10 rfl rfl ?_
    refine go_bipush X dQ_register_11 kc_b6 ?_
    refine go_icmp_ne X dQ_register_13 rfl (fun hc => ?_) (fun hc => ?_)
    · have hw := hw.1 hc
      exact C29 _ _ hw
    · have hw := hw.2 hc
      refine go_aload_n X 0 dQ_register_16 rfl rfl ?_
      refine gt_Q_143 X dQ_register_17 ?_
      refine go_if_ne X dQ_register_20 rfl (fun hc => ?_) (fun hc => ?_)
      · have hw := hw.1 hc
        exact C29 _ _ hw
      · have hw := hw.2 hc
        refine go_aload_n X 0 dQ_register_23 rfl rfl ?_
        refine go_iconst X dQ_register_24 kc_i1 ?_
        refine k_Q_refuse X hw mw_Q_146 ⟨by decide, by decide⟩ (Nat.le_of_ble_eq_true rfl) ⟨Nat.zero_le _, Nat.zero_le _⟩ dQ_register_25 (fun r4 w5 hw => ?_)
        exact go_ireturn X hq dQ_register_28 w5 hw rfl
theorem k_Q_register {G : gt_} {ad : Nat → Nat} {cc : ByteArray} {own : String} {fr lo n cells slots pc index : Nat} {lc : List (Nat × Value)} {rest : List Value} {q_code q_many : Int32} {q_pin q_size q_bytes q_kind q_bank q_address q_full : Nat → Int32} {q_linked : Int32} {q_packedBank q_packedAddress : Nat → Int32} {q_banks : Int32} {q_memory q_register : Nat → Int32} {q_stack q_place q_zero q_less q_half q_carry q_enabled q_soon q_ram q_low q_top q_mode q_state q_sent : Int32} {q_out : Nat → Int32} {a1 : Int32} {P : Int32 → (Int32) → Prop} (X : cx_ G ad cc own fr lo n) (hw : wp_Q_register q_code q_linked q_banks q_memory q_register q_stack q_place q_zero q_less q_half q_carry q_enabled q_ram q_low q_top q_mode a1 P) (m1 : Cond.methodLink own index yQ_register ∈ wS) (hlv : 3 + 1 ≤ fr ∧ 8 + (3 + 11) + 63 ≤ lo) (hrs : (rest.map fun v => v.category).sum ≤ 8) (hcs : cells ≤ (gR_ G).cells ∧ slots ≤ (gR_ G).slots) (d : decode cc pc = .ok (.invokevirtual index, 3))
    (kk : ∀ (r q_code' : Int32), P r q_code' → go_ G cells slots (wM ad q_code' q_many q_pin q_size q_bytes q_kind q_bank q_address q_full q_linked q_packedBank q_packedAddress q_banks q_memory q_register q_stack q_place q_zero q_less q_half q_carry q_enabled q_soon q_ram q_low q_top q_mode q_state q_sent q_out) (pc + 3) lc (.int r :: rest)) : go_ G cells slots (wM ad q_code q_many q_pin q_size q_bytes q_kind q_bank q_address q_full q_linked q_packedBank q_packedAddress q_banks q_memory q_register q_stack q_place q_zero q_less q_half q_carry q_enabled q_soon q_ram q_low q_top q_mode q_state q_sent q_out) pc lc (.int a1 :: .ref (ad 30) :: rest) :=
  go_cvi X (c_Q_register hw) me_Q_register m1 hlv 0 rfl rfl rfl hrs hcs d (fun r u hp => kk r u hp)
set_option maxRecDepth 100000 in
set_option maxHeartbeats 4000000 in
theorem c_Q_single {l : Launch} {D : va_G} {ad : Nat → Nat} {q_code q_many : Int32} {q_pin q_size q_bytes q_kind q_bank q_address q_full : Nat → Int32} {q_linked : Int32} {q_packedBank q_packedAddress : Nat → Int32} {q_banks : Int32} {q_memory q_register : Nat → Int32} {q_stack q_place q_zero q_less q_half q_carry q_enabled q_soon q_ram q_low q_top q_mode q_state q_sent : Int32} {q_out : Nat → Int32} {a1 a2 : Int32} {P : (Nat → Int32) → (Nat → Int32) → (Int32) → (Int32) → (Int32) → (Int32) → (Int32) → (Int32) → (Int32) → (Int32) → (Int32) → (Int32) → Prop} (hw : wp_Q_single q_banks q_memory q_register q_stack q_place q_zero q_less q_half q_carry q_ram q_low q_top q_mode a1 a2 P) : ct_ l yQ_single bQ_single 4 none 3 65 D ad [.ref (ad 30), .int a1, .int a2] (wM ad q_code q_many q_pin q_size q_bytes q_kind q_bank q_address q_full q_linked q_packedBank q_packedAddress q_banks q_memory q_register q_stack q_place q_zero q_less q_half q_carry q_enabled q_soon q_ram q_low q_top q_mode q_state q_sent q_out) (qv_ D (fun (u : (Nat → Int32) × (Nat → Int32) × (Int32) × (Int32) × (Int32) × (Int32) × (Int32) × (Int32) × (Int32) × (Int32) × (Int32) × (Int32)) => P u.1 u.2.1 u.2.2.1 u.2.2.2.1 u.2.2.2.2.1 u.2.2.2.2.2.1 u.2.2.2.2.2.2.1 u.2.2.2.2.2.2.2.1 u.2.2.2.2.2.2.2.2.1 u.2.2.2.2.2.2.2.2.2.1 u.2.2.2.2.2.2.2.2.2.2.1 u.2.2.2.2.2.2.2.2.2.2.2) (fun u => wM ad q_code q_many q_pin q_size q_bytes q_kind q_bank q_address q_full q_linked q_packedBank q_packedAddress q_banks u.1 u.2.1 u.2.2.1 u.2.2.2.1 u.2.2.2.2.1 u.2.2.2.2.2.1 u.2.2.2.2.2.2.1 u.2.2.2.2.2.2.2.1 q_enabled q_soon u.2.2.2.2.2.2.2.2.1 u.2.2.2.2.2.2.2.2.2.1 u.2.2.2.2.2.2.2.2.2.2.1 u.2.2.2.2.2.2.2.2.2.2.2 q_state q_sent q_out)) := by
  refine ct_of RQ (by decide) rfl (Nat.le_of_ble_eq_true rfl) (fun G hl hD X hq => ?_)
  subst hl hD
  show go_ G 0 0 (wM ad q_code q_many q_pin q_size q_bytes q_kind q_bank q_address q_full q_linked q_packedBank q_packedAddress q_banks q_memory q_register q_stack q_place q_zero q_less q_half q_carry q_enabled q_soon q_ram q_low q_top q_mode q_state q_sent q_out) 0 [(0, .ref (ad 30)), (1, .int a1), (2, .int a2)] []
  have C77 : ∀ (q_memory q_register : Nat → Int32) (q_stack q_place q_zero q_less q_half q_carry q_ram q_low q_top q_mode x1 x2 : Int32), wp_Q_single_77 q_banks P q_memory q_register q_stack q_place q_zero q_less q_half q_carry q_ram q_low q_top q_mode x1 x2 → go_ G 0 0 (wM ad q_code q_many q_pin q_size q_bytes q_kind q_bank q_address q_full q_linked q_packedBank q_packedAddress q_banks q_memory q_register q_stack q_place q_zero q_less q_half q_carry q_enabled q_soon q_ram q_low q_top q_mode q_state q_sent q_out) 77 [(0, .ref (ad 30)), (1, .int x1), (2, .int x2)] [] := by
    intro q_memory q_register q_stack q_place q_zero q_less q_half q_carry q_ram q_low q_top q_mode x1 x2 hw
    refine go_iload_n X 1 dQ_single_77 rfl rfl ?_
    refine go_bipush X dQ_single_78 kc_b7 ?_
    refine go_icmp_ne X dQ_single_80 rfl (fun hc => ?_) (fun hc => ?_)
    · have hw := hw.1 hc
      exact go_vreturn X hq dQ_single_111 (q_memory, q_register, q_stack, q_place, q_zero, q_less, q_half, q_carry, q_ram, q_low, q_top, q_mode) hw rfl
    · have hw := hw.2 hc
      refine go_aload_n X 0 dQ_single_83 rfl rfl ?_
      refine go_iload_n X 2 dQ_single_84 rfl rfl ?_
      refine k_Q_get X hw mw_Q_169 ⟨by decide, by decide⟩ (Nat.le_of_ble_eq_true rfl) ⟨Nat.zero_le _, Nat.zero_le _⟩ dQ_single_85 (fun r51 hw => ?_)
      refine go_istore_n X dQ_single_88 rfl (by decide) rfl ?_
      refine go_aload_n X 1 dQ_single_89 rfl rfl ?_
      refine go_iload_n X 3 dQ_single_90 rfl rfl ?_
      refine go_aload_n X 1 dQ_single_91 rfl rfl ?_
      refine go_iload_n X 0 dQ_single_92 rfl rfl ?_
      refine go_bipush X dQ_single_93 kc_b16 ?_
      refine go_irem X dQ_single_95 (by decide) ?_
      refine go_bipush X dQ_single_96 kc_b16 ?_
      refine go_imul X dQ_single_98 ?_
      refine go_iload_n X 0 dQ_single_99 rfl rfl ?_
      refine go_bipush X dQ_single_100 kc_b16 ?_
      refine go_idiv X dQ_single_102 (by decide) ?_
      refine go_iadd X dQ_single_103 ?_
      refine go_iconst X dQ_single_104 kc_i0 ?_
      refine k_Q_plain X hw mw_Q_165 ⟨by decide, by decide⟩ (Nat.le_of_ble_eq_true rfl) ⟨Nat.zero_le _, Nat.zero_le _⟩ dQ_single_105 (fun r52 w53 w54 w55 w56 hw => ?_)
      refine k_Q_set X hw mw_Q_176 ⟨by decide, by decide⟩ (Nat.le_of_ble_eq_true rfl) ⟨Nat.zero_le _, Nat.zero_le _⟩ dQ_single_108 (fun w57 w58 w59 w60 w61 w62 hw => ?_)
      exact go_vreturn X hq dQ_single_111 (w57, w58, q_stack, q_place, w53, w54, w55, w56, w59, w60, w61, w62) hw rfl
  have C48 : ∀ (q_memory q_register : Nat → Int32) (q_stack q_place q_zero q_less q_half q_carry q_ram q_low q_top q_mode x1 x2 : Int32), wp_Q_single_48 q_banks P q_memory q_register q_stack q_place q_zero q_less q_half q_carry q_ram q_low q_top q_mode x1 x2 → go_ G 0 0 (wM ad q_code q_many q_pin q_size q_bytes q_kind q_bank q_address q_full q_linked q_packedBank q_packedAddress q_banks q_memory q_register q_stack q_place q_zero q_less q_half q_carry q_enabled q_soon q_ram q_low q_top q_mode q_state q_sent q_out) 48 [(0, .ref (ad 30)), (1, .int x1), (2, .int x2)] [] := by
    intro q_memory q_register q_stack q_place q_zero q_less q_half q_carry q_ram q_low q_top q_mode x1 x2 hw
    refine go_iload_n X 1 dQ_single_48 rfl rfl ?_
    refine go_iconst X dQ_single_49 kc_i5 ?_
    refine go_icmp_ne X dQ_single_50 rfl (fun hc => ?_) (fun hc => ?_)
    · have hw := hw.1 hc
      refine go_iload_n X 1 dQ_single_62 rfl rfl ?_
      refine go_bipush X dQ_single_63 kc_b6 ?_
      refine go_icmp_ne X dQ_single_65 rfl (fun hc => ?_) (fun hc => ?_)
      · have hw := hw.1 hc
        exact C77 _ _ _ _ _ _ _ _ _ _ _ _ _ _ hw
      · have hw := hw.2 hc
        refine go_aload_n X 0 dQ_single_68 rfl rfl ?_
        refine go_iload_n X 2 dQ_single_69 rfl rfl ?_
        refine go_aload_n X 0 dQ_single_70 rfl rfl ?_
        refine k_Q_next X hw mw_Q_194 ⟨by decide, by decide⟩ (Nat.le_of_ble_eq_true rfl) ⟨Nat.zero_le _, Nat.zero_le _⟩ dQ_single_71 (fun r27 w28 hw => ?_)
        refine k_Q_set X hw mw_Q_176 ⟨by decide, by decide⟩ (Nat.le_of_ble_eq_true rfl) ⟨Nat.zero_le _, Nat.zero_le _⟩ dQ_single_74 (fun w29 w30 w31 w32 w33 w34 hw => ?_)
        exact C77 _ _ _ _ _ _ _ _ _ _ _ _ _ _ hw
    · have hw := hw.2 hc
      refine go_aload_n X 0 dQ_single_53 rfl rfl ?_
      refine go_iload_n X 2 dQ_single_54 rfl rfl ?_
      refine go_aload_n X 0 dQ_single_55 rfl rfl ?_
      refine k_Q_pop X hw mw_Q_185 ⟨by decide, by decide⟩ (Nat.le_of_ble_eq_true rfl) ⟨Nat.zero_le _, Nat.zero_le _⟩ dQ_single_56 (fun r35 w36 hw => ?_)
      refine k_Q_set X hw mw_Q_176 ⟨by decide, by decide⟩ (Nat.le_of_ble_eq_true rfl) ⟨Nat.zero_le _, Nat.zero_le _⟩ dQ_single_59 (fun w37 w38 w39 w40 w41 w42 hw => ?_)
      refine go_iload_n X 1 dQ_single_62 rfl rfl ?_
      refine go_bipush X dQ_single_63 kc_b6 ?_
      refine go_icmp_ne X dQ_single_65 rfl (fun hc => ?_) (fun hc => ?_)
      · have hw := hw.1 hc
        exact C77 _ _ _ _ _ _ _ _ _ _ _ _ _ _ hw
      · have hw := hw.2 hc
        refine go_aload_n X 0 dQ_single_68 rfl rfl ?_
        refine go_iload_n X 2 dQ_single_69 rfl rfl ?_
        refine go_aload_n X 0 dQ_single_70 rfl rfl ?_
        refine k_Q_next X hw mw_Q_194 ⟨by decide, by decide⟩ (Nat.le_of_ble_eq_true rfl) ⟨Nat.zero_le _, Nat.zero_le _⟩ dQ_single_71 (fun r43 w44 hw => ?_)
        refine k_Q_set X hw mw_Q_176 ⟨by decide, by decide⟩ (Nat.le_of_ble_eq_true rfl) ⟨Nat.zero_le _, Nat.zero_le _⟩ dQ_single_74 (fun w45 w46 w47 w48 w49 w50 hw => ?_)
        exact C77 _ _ _ _ _ _ _ _ _ _ _ _ _ _ hw
  have C28 : ∀ (q_memory q_register : Nat → Int32) (q_stack q_place q_zero q_less q_half q_carry q_ram q_low q_top q_mode x1 x2 y0 y1 y3 : Int32), wp_Q_single_28 q_banks P q_memory q_register q_stack q_place q_zero q_less q_half q_carry q_ram q_low q_top q_mode x1 x2 y0 y1 y3 → go_ G 0 0 (wM ad q_code q_many q_pin q_size q_bytes q_kind q_bank q_address q_full q_linked q_packedBank q_packedAddress q_banks q_memory q_register q_stack q_place q_zero q_less q_half q_carry q_enabled q_soon q_ram q_low q_top q_mode q_state q_sent q_out) 28 [(0, .ref (ad 30)), (1, .int x1), (2, .int x2)] [.int y0, .int y1, .ref (ad 30), .int y3, .ref (ad 30)] := by
    intro q_memory q_register q_stack q_place q_zero q_less q_half q_carry q_ram q_low q_top q_mode x1 x2 y0 y1 y3 hw
    refine k_Q_count X hw mw_Q_188 ⟨by decide, by decide⟩ (Nat.le_of_ble_eq_true rfl) ⟨Nat.zero_le _, Nat.zero_le _⟩ dQ_single_28 (fun r9 w10 w11 w12 w13 hw => ?_)
    refine k_Q_set X hw mw_Q_176 ⟨by decide, by decide⟩ (Nat.le_of_ble_eq_true rfl) ⟨Nat.zero_le _, Nat.zero_le _⟩ dQ_single_31 (fun w14 w15 w16 w17 w18 w19 hw => ?_)
    refine go_iload_n X 1 dQ_single_34 rfl rfl ?_
    refine go_iconst X dQ_single_35 kc_i4 ?_
    refine go_icmp_ne X dQ_single_36 rfl (fun hc => ?_) (fun hc => ?_)
    · have hw := hw.1 hc
      exact C48 _ _ _ _ _ _ _ _ _ _ _ _ _ _ hw
    · have hw := hw.2 hc
      refine go_aload_n X 0 dQ_single_39 rfl rfl ?_
      refine go_aload_n X 0 dQ_single_40 rfl rfl ?_
      refine go_iload_n X 2 dQ_single_41 rfl rfl ?_
      refine k_Q_get X hw mw_Q_169 ⟨by decide, by decide⟩ (Nat.le_of_ble_eq_true rfl) ⟨Nat.zero_le _, Nat.zero_le _⟩ dQ_single_42 (fun r20 hw => ?_)
      refine k_Q_push X hw mw_Q_191 ⟨by decide, by decide⟩ (Nat.le_of_ble_eq_true rfl) ⟨Nat.zero_le _, Nat.zero_le _⟩ dQ_single_45 (fun w21 w22 w23 w24 w25 w26 hw => ?_)
      exact C48 _ _ _ _ _ _ _ _ _ _ _ _ _ _ hw
  have C10 : ∀ (q_memory q_register : Nat → Int32) (q_stack q_place q_zero q_less q_half q_carry q_ram q_low q_top q_mode x1 x2 : Int32), wp_Q_single_10 q_banks P q_memory q_register q_stack q_place q_zero q_less q_half q_carry q_ram q_low q_top q_mode x1 x2 → go_ G 0 0 (wM ad q_code q_many q_pin q_size q_bytes q_kind q_bank q_address q_full q_linked q_packedBank q_packedAddress q_banks q_memory q_register q_stack q_place q_zero q_less q_half q_carry q_enabled q_soon q_ram q_low q_top q_mode q_state q_sent q_out) 10 [(0, .ref (ad 30)), (1, .int x1), (2, .int x2)] [] := by
    intro q_memory q_register q_stack q_place q_zero q_less q_half q_carry q_ram q_low q_top q_mode x1 x2 hw
    refine go_aload_n X 0 dQ_single_10 rfl rfl ?_
    refine go_iload_n X 2 dQ_single_11 rfl rfl ?_
    refine go_aload_n X 0 dQ_single_12 rfl rfl ?_
    refine go_aload_n X 0 dQ_single_13 rfl rfl ?_
    refine go_iload_n X 2 dQ_single_14 rfl rfl ?_
    refine k_Q_get X hw mw_Q_169 ⟨by decide, by decide⟩ (Nat.le_of_ble_eq_true rfl) ⟨Nat.zero_le _, Nat.zero_le _⟩ dQ_single_15 (fun r8 hw => ?_)
    refine go_iload_n X 1 dQ_single_18 rfl rfl ?_
    refine go_iconst X dQ_single_19 kc_i2 ?_
    refine go_icmp_ne X dQ_single_20 rfl (fun hc => ?_) (fun hc => ?_)
    · have hw := hw.1 hc
      refine go_iconst X dQ_single_27 kc_i0 ?_
      exact C28 _ _ _ _ _ _ _ _ _ _ _ _ _ _ _ _ _ hw
    · have hw := hw.2 hc
      refine go_iconst X dQ_single_23 kc_i1 ?_
      refine go_goto X dQ_single_24 rfl ?_
      exact C28 _ _ _ _ _ _ _ _ _ _ _ _ _ _ _ _ _ hw
  refine go_iload_n X 1 dQ_single_0 rfl rfl ?_
  refine go_iconst X dQ_single_1 kc_i2 ?_
  refine go_icmp_eq X dQ_single_2 rfl (fun hc => ?_) (fun hc => ?_)
  · have hw := hw.1 hc
    exact C10 _ _ _ _ _ _ _ _ _ _ _ _ _ _ hw
  · have hw := hw.2 hc
    refine go_iload_n X 1 dQ_single_5 rfl rfl ?_
    refine go_iconst X dQ_single_6 kc_i3 ?_
    refine go_icmp_ne X dQ_single_7 rfl (fun hc => ?_) (fun hc => ?_)
    · have hw := hw.1 hc
      refine go_iload_n X 1 dQ_single_34 rfl rfl ?_
      refine go_iconst X dQ_single_35 kc_i4 ?_
      refine go_icmp_ne X dQ_single_36 rfl (fun hc => ?_) (fun hc => ?_)
      · have hw := hw.1 hc
        exact C48 _ _ _ _ _ _ _ _ _ _ _ _ _ _ hw
      · have hw := hw.2 hc
        refine go_aload_n X 0 dQ_single_39 rfl rfl ?_
        refine go_aload_n X 0 dQ_single_40 rfl rfl ?_
        refine go_iload_n X 2 dQ_single_41 rfl rfl ?_
        refine k_Q_get X hw mw_Q_169 ⟨by decide, by decide⟩ (Nat.le_of_ble_eq_true rfl) ⟨Nat.zero_le _, Nat.zero_le _⟩ dQ_single_42 (fun r1 hw => ?_)
        refine k_Q_push X hw mw_Q_191 ⟨by decide, by decide⟩ (Nat.le_of_ble_eq_true rfl) ⟨Nat.zero_le _, Nat.zero_le _⟩ dQ_single_45 (fun w2 w3 w4 w5 w6 w7 hw => ?_)
        exact C48 _ _ _ _ _ _ _ _ _ _ _ _ _ _ hw
    · have hw := hw.2 hc
      exact C10 _ _ _ _ _ _ _ _ _ _ _ _ _ _ hw
theorem k_Q_single {G : gt_} {ad : Nat → Nat} {cc : ByteArray} {own : String} {fr lo n cells slots pc index : Nat} {lc : List (Nat × Value)} {rest : List Value} {q_code q_many : Int32} {q_pin q_size q_bytes q_kind q_bank q_address q_full : Nat → Int32} {q_linked : Int32} {q_packedBank q_packedAddress : Nat → Int32} {q_banks : Int32} {q_memory q_register : Nat → Int32} {q_stack q_place q_zero q_less q_half q_carry q_enabled q_soon q_ram q_low q_top q_mode q_state q_sent : Int32} {q_out : Nat → Int32} {a1 a2 : Int32} {P : (Nat → Int32) → (Nat → Int32) → (Int32) → (Int32) → (Int32) → (Int32) → (Int32) → (Int32) → (Int32) → (Int32) → (Int32) → (Int32) → Prop} (X : cx_ G ad cc own fr lo n) (hw : wp_Q_single q_banks q_memory q_register q_stack q_place q_zero q_less q_half q_carry q_ram q_low q_top q_mode a1 a2 P) (m1 : Cond.methodLink own index yQ_single ∈ wS) (hlv : 3 + 1 ≤ fr ∧ 8 + (4 + 11) + 65 ≤ lo) (hrs : (rest.map fun v => v.category).sum ≤ 8) (hcs : cells ≤ (gR_ G).cells ∧ slots ≤ (gR_ G).slots) (d : decode cc pc = .ok (.invokevirtual index, 3))
    (kk : ∀ (q_memory' q_register' : Nat → Int32) (q_stack' q_place' q_zero' q_less' q_half' q_carry' q_ram' q_low' q_top' q_mode' : Int32), P q_memory' q_register' q_stack' q_place' q_zero' q_less' q_half' q_carry' q_ram' q_low' q_top' q_mode' → go_ G cells slots (wM ad q_code q_many q_pin q_size q_bytes q_kind q_bank q_address q_full q_linked q_packedBank q_packedAddress q_banks q_memory' q_register' q_stack' q_place' q_zero' q_less' q_half' q_carry' q_enabled q_soon q_ram' q_low' q_top' q_mode' q_state q_sent q_out) (pc + 3) lc (rest)) : go_ G cells slots (wM ad q_code q_many q_pin q_size q_bytes q_kind q_bank q_address q_full q_linked q_packedBank q_packedAddress q_banks q_memory q_register q_stack q_place q_zero q_less q_half q_carry q_enabled q_soon q_ram q_low q_top q_mode q_state q_sent q_out) pc lc (.int a2 :: .int a1 :: .ref (ad 30) :: rest) :=
  go_cvv X (c_Q_single hw) me_Q_single m1 hlv 0 rfl rfl rfl hrs hcs d (fun u hp => kk u.1 u.2.1 u.2.2.1 u.2.2.2.1 u.2.2.2.2.1 u.2.2.2.2.2.1 u.2.2.2.2.2.2.1 u.2.2.2.2.2.2.2.1 u.2.2.2.2.2.2.2.2.1 u.2.2.2.2.2.2.2.2.2.1 u.2.2.2.2.2.2.2.2.2.2.1 u.2.2.2.2.2.2.2.2.2.2.2 hp)
set_option maxRecDepth 100000 in
set_option maxHeartbeats 4000000 in
theorem c_Q_instruction {l : Launch} {D : va_G} {ad : Nat → Nat} {q_code q_many : Int32} {q_pin q_size q_bytes q_kind q_bank q_address q_full : Nat → Int32} {q_linked : Int32} {q_packedBank q_packedAddress : Nat → Int32} {q_banks : Int32} {q_memory q_register : Nat → Int32} {q_stack q_place q_zero q_less q_half q_carry q_enabled q_soon q_ram q_low q_top q_mode q_state q_sent : Int32} {q_out : Nat → Int32}  {P : (Nat → Int32) → (Nat → Int32) → (Int32) → (Int32) → (Int32) → (Int32) → (Int32) → (Int32) → (Int32) → (Int32) → (Int32) → (Int32) → (Int32) → (Int32) → (Int32) → (Int32) → (Nat → Int32) → Prop} (hw : wp_Q_instruction q_banks q_memory q_register q_stack q_place q_zero q_less q_half q_carry q_enabled q_soon q_ram q_low q_top q_mode q_state q_sent q_out  P) : ct_ l yQ_instruction bQ_instruction 2 none 4 90 D ad [.ref (ad 30)] (wM ad q_code q_many q_pin q_size q_bytes q_kind q_bank q_address q_full q_linked q_packedBank q_packedAddress q_banks q_memory q_register q_stack q_place q_zero q_less q_half q_carry q_enabled q_soon q_ram q_low q_top q_mode q_state q_sent q_out) (qv_ D (fun (u : (Nat → Int32) × (Nat → Int32) × (Int32) × (Int32) × (Int32) × (Int32) × (Int32) × (Int32) × (Int32) × (Int32) × (Int32) × (Int32) × (Int32) × (Int32) × (Int32) × (Int32) × (Nat → Int32)) => P u.1 u.2.1 u.2.2.1 u.2.2.2.1 u.2.2.2.2.1 u.2.2.2.2.2.1 u.2.2.2.2.2.2.1 u.2.2.2.2.2.2.2.1 u.2.2.2.2.2.2.2.2.1 u.2.2.2.2.2.2.2.2.2.1 u.2.2.2.2.2.2.2.2.2.2.1 u.2.2.2.2.2.2.2.2.2.2.2.1 u.2.2.2.2.2.2.2.2.2.2.2.2.1 u.2.2.2.2.2.2.2.2.2.2.2.2.2.1 u.2.2.2.2.2.2.2.2.2.2.2.2.2.2.1 u.2.2.2.2.2.2.2.2.2.2.2.2.2.2.2.1 u.2.2.2.2.2.2.2.2.2.2.2.2.2.2.2.2) (fun u => wM ad q_code q_many q_pin q_size q_bytes q_kind q_bank q_address q_full q_linked q_packedBank q_packedAddress q_banks u.1 u.2.1 u.2.2.1 u.2.2.2.1 u.2.2.2.2.1 u.2.2.2.2.2.1 u.2.2.2.2.2.2.1 u.2.2.2.2.2.2.2.1 u.2.2.2.2.2.2.2.2.1 u.2.2.2.2.2.2.2.2.2.1 u.2.2.2.2.2.2.2.2.2.2.1 u.2.2.2.2.2.2.2.2.2.2.2.1 u.2.2.2.2.2.2.2.2.2.2.2.2.1 u.2.2.2.2.2.2.2.2.2.2.2.2.2.1 u.2.2.2.2.2.2.2.2.2.2.2.2.2.2.1 u.2.2.2.2.2.2.2.2.2.2.2.2.2.2.2.1 u.2.2.2.2.2.2.2.2.2.2.2.2.2.2.2.2)) := by
  refine ct_of RQ (by decide) rfl (Nat.le_of_ble_eq_true rfl) (fun G hl hD X hq => ?_)
  subst hl hD
  show go_ G 0 0 (wM ad q_code q_many q_pin q_size q_bytes q_kind q_bank q_address q_full q_linked q_packedBank q_packedAddress q_banks q_memory q_register q_stack q_place q_zero q_less q_half q_carry q_enabled q_soon q_ram q_low q_top q_mode q_state q_sent q_out) 0 [(0, .ref (ad 30))] []
  refine go_aload_n X 0 dQ_instruction_0 rfl rfl ?_
  refine k_Q_next X hw mw_Q_194 ⟨by decide, by decide⟩ (Nat.le_of_ble_eq_true rfl) ⟨Nat.zero_le _, Nat.zero_le _⟩ dQ_instruction_1 (fun r1 w2 hw => ?_)
  refine go_istore_n X dQ_instruction_4 rfl (by decide) rfl ?_
  refine go_iload_n X 0 dQ_instruction_5 rfl rfl ?_
  refine go_bipush X dQ_instruction_6 kc_b16 ?_
  refine go_icmp_ge X dQ_instruction_8 rfl (fun hc => ?_) (fun hc => ?_)
  · have hw := hw.1 hc
    refine go_iload_n X 0 dQ_instruction_19 rfl rfl ?_
    refine go_bipush X dQ_instruction_20 kc_b64 ?_
    refine go_icmp_ge X dQ_instruction_22 rfl (fun hc => ?_) (fun hc => ?_)
    · have hw := hw.1 hc
      refine go_iload_n X 0 dQ_instruction_40 rfl rfl ?_
      refine go_sipush X dQ_instruction_41 kc_s128 ?_
      refine go_icmp_ge X dQ_instruction_44 rfl (fun hc => ?_) (fun hc => ?_)
      · have hw := hw.1 hc
        refine go_iload_n X 0 dQ_instruction_69 rfl rfl ?_
        refine go_sipush X dQ_instruction_70 kc_s192 ?_
        refine go_icmp_ge X dQ_instruction_73 rfl (fun hc => ?_) (fun hc => ?_)
        · have hw := hw.1 hc
          refine go_iload_n X 0 dQ_instruction_98 rfl rfl ?_
          refine go_sipush X dQ_instruction_99 kc_s224 ?_
          refine go_icmp_ge X dQ_instruction_102 rfl (fun hc => ?_) (fun hc => ?_)
          · have hw := hw.1 hc
            refine go_iload_n X 0 dQ_instruction_113 rfl rfl ?_
            refine go_sipush X dQ_instruction_114 kc_s232 ?_
            refine go_icmp_ge X dQ_instruction_117 rfl (fun hc => ?_) (fun hc => ?_)
            · have hw := hw.1 hc
              refine go_iload_n X 0 dQ_instruction_135 rfl rfl ?_
              refine go_sipush X dQ_instruction_136 kc_s240 ?_
              refine go_icmp_ne X dQ_instruction_139 rfl (fun hc => ?_) (fun hc => ?_)
              · have hw := hw.1 hc
                refine go_aload_n X 1 dQ_instruction_153 rfl rfl ?_
                refine go_iconst X dQ_instruction_154 kc_i3 ?_
                refine k_Q_stand X hw mw_Q_179 ⟨by decide, by decide⟩ (Nat.le_of_ble_eq_true rfl) ⟨Nat.zero_le _, Nat.zero_le _⟩ dQ_instruction_155 (fun w3 w4 hw => ?_)
                exact go_vreturn X hq dQ_instruction_158 (q_memory, q_register, q_stack, w3, q_zero, q_less, q_half, q_carry, q_enabled, q_soon, q_ram, q_low, q_top, q_mode, w4, q_sent, q_out) hw rfl
              · have hw := hw.2 hc
                refine go_aload_n X 1 dQ_instruction_142 rfl rfl ?_
                refine go_aload_n X 1 dQ_instruction_143 rfl rfl ?_
                refine k_Q_next X hw mw_Q_194 ⟨by decide, by decide⟩ (Nat.le_of_ble_eq_true rfl) ⟨Nat.zero_le _, Nat.zero_le _⟩ dQ_instruction_144 (fun r5 w6 hw => ?_)
                refine k_Q_bits X hw mw_Q_212 ⟨by decide, by decide⟩ (Nat.le_of_ble_eq_true rfl) ⟨Nat.zero_le _, Nat.zero_le _⟩ dQ_instruction_147 (fun w7 w8 w9 w10 w11 w12 w13 w14 w15 w16 hw => ?_)
                refine go_goto X dQ_instruction_150 rfl ?_
                exact go_vreturn X hq dQ_instruction_158 (w7, w8, q_stack, w6, w9, w10, w11, w12, q_enabled, q_soon, w13, w14, w15, w16, q_state, q_sent, q_out) hw rfl
            · have hw := hw.2 hc
              refine go_aload_n X 1 dQ_instruction_120 rfl rfl ?_
              refine go_iload_n X 0 dQ_instruction_121 rfl rfl ?_
              refine go_bipush X dQ_instruction_122 kc_b8 ?_
              refine go_irem X dQ_instruction_124 (by decide) ?_
              refine go_aload_n X 1 dQ_instruction_125 rfl rfl ?_
              refine k_Q_next X hw mw_Q_194 ⟨by decide, by decide⟩ (Nat.le_of_ble_eq_true rfl) ⟨Nat.zero_le _, Nat.zero_le _⟩ dQ_instruction_126 (fun r17 w18 hw => ?_)
              refine k_Q_reckon X hw mw_Q_206 ⟨by decide, by decide⟩ (Nat.le_of_ble_eq_true rfl) ⟨Nat.zero_le _, Nat.zero_le _⟩ dQ_instruction_129 (fun w19 w20 w21 w22 w23 hw => ?_)
              refine go_goto X dQ_instruction_132 rfl ?_
              exact go_vreturn X hq dQ_instruction_158 (q_memory, w19, q_stack, w18, w20, w21, w22, w23, q_enabled, q_soon, q_ram, q_low, q_top, q_mode, q_state, q_sent, q_out) hw rfl
          · have hw := hw.2 hc
            refine go_aload_n X 1 dQ_instruction_105 rfl rfl ?_
            refine go_iload_n X 0 dQ_instruction_106 rfl rfl ?_
            refine k_Q_lead X hw mw_Q_209 ⟨by decide, by decide⟩ (Nat.le_of_ble_eq_true rfl) ⟨Nat.zero_le _, Nat.zero_le _⟩ dQ_instruction_107 (fun w24 w25 w26 w27 w28 w29 w30 w31 hw => ?_)
            refine go_goto X dQ_instruction_110 rfl ?_
            exact go_vreturn X hq dQ_instruction_158 (w24, q_register, w25, w26, q_zero, q_less, q_half, q_carry, q_enabled, q_soon, w27, w28, w29, w30, w31, q_sent, q_out) hw rfl
        · have hw := hw.2 hc
          refine go_aload_n X 1 dQ_instruction_76 rfl rfl ?_
          refine go_iload_n X 0 dQ_instruction_77 rfl rfl ?_
          refine go_bipush X dQ_instruction_78 kc_b8 ?_
          refine go_idiv X dQ_instruction_80 (by decide) ?_
          refine go_bipush X dQ_instruction_81 kc_b8 ?_
          refine go_irem X dQ_instruction_83 (by decide) ?_
          refine go_aload_n X 1 dQ_instruction_84 rfl rfl ?_
          refine go_iload_n X 0 dQ_instruction_85 rfl rfl ?_
          refine go_bipush X dQ_instruction_86 kc_b8 ?_
          refine go_irem X dQ_instruction_88 (by decide) ?_
          refine k_Q_get X hw mw_Q_169 ⟨by decide, by decide⟩ (Nat.le_of_ble_eq_true rfl) ⟨Nat.zero_le _, Nat.zero_le _⟩ dQ_instruction_89 (fun r32 hw => ?_)
          refine k_Q_reckon X hw mw_Q_206 ⟨by decide, by decide⟩ (Nat.le_of_ble_eq_true rfl) ⟨Nat.zero_le _, Nat.zero_le _⟩ dQ_instruction_92 (fun w33 w34 w35 w36 w37 hw => ?_)
          refine go_goto X dQ_instruction_95 rfl ?_
          exact go_vreturn X hq dQ_instruction_158 (q_memory, w33, q_stack, w2, w34, w35, w36, w37, q_enabled, q_soon, q_ram, q_low, q_top, q_mode, q_state, q_sent, q_out) hw rfl
      · have hw := hw.2 hc
        refine go_aload_n X 1 dQ_instruction_47 rfl rfl ?_
        refine go_iload_n X 0 dQ_instruction_48 rfl rfl ?_
        refine go_bipush X dQ_instruction_49 kc_b8 ?_
        refine go_idiv X dQ_instruction_51 (by decide) ?_
        refine go_bipush X dQ_instruction_52 kc_b8 ?_
        refine go_irem X dQ_instruction_54 (by decide) ?_
        refine go_aload_n X 1 dQ_instruction_55 rfl rfl ?_
        refine go_iload_n X 0 dQ_instruction_56 rfl rfl ?_
        refine go_bipush X dQ_instruction_57 kc_b8 ?_
        refine go_irem X dQ_instruction_59 (by decide) ?_
        refine k_Q_get X hw mw_Q_169 ⟨by decide, by decide⟩ (Nat.le_of_ble_eq_true rfl) ⟨Nat.zero_le _, Nat.zero_le _⟩ dQ_instruction_60 (fun r38 hw => ?_)
        refine k_Q_set X hw mw_Q_176 ⟨by decide, by decide⟩ (Nat.le_of_ble_eq_true rfl) ⟨Nat.zero_le _, Nat.zero_le _⟩ dQ_instruction_63 (fun w39 w40 w41 w42 w43 w44 hw => ?_)
        refine go_goto X dQ_instruction_66 rfl ?_
        exact go_vreturn X hq dQ_instruction_158 (w39, w40, q_stack, w2, q_zero, q_less, q_half, q_carry, q_enabled, q_soon, w41, w42, w43, w44, q_state, q_sent, q_out) hw rfl
    · have hw := hw.2 hc
      refine go_aload_n X 1 dQ_instruction_25 rfl rfl ?_
      refine go_iload_n X 0 dQ_instruction_26 rfl rfl ?_
      refine go_bipush X dQ_instruction_27 kc_b8 ?_
      refine go_idiv X dQ_instruction_29 (by decide) ?_
      refine go_iload_n X 0 dQ_instruction_30 rfl rfl ?_
      refine go_bipush X dQ_instruction_31 kc_b8 ?_
      refine go_irem X dQ_instruction_33 (by decide) ?_
      refine k_Q_single X hw mw_Q_203 ⟨by decide, by decide⟩ (Nat.le_of_ble_eq_true rfl) ⟨Nat.zero_le _, Nat.zero_le _⟩ dQ_instruction_34 (fun w45 w46 w47 w48 w49 w50 w51 w52 w53 w54 w55 w56 hw => ?_)
      refine go_goto X dQ_instruction_37 rfl ?_
      exact go_vreturn X hq dQ_instruction_158 (w45, w46, w47, w48, w49, w50, w51, w52, q_enabled, q_soon, w53, w54, w55, w56, q_state, q_sent, q_out) hw rfl
  · have hw := hw.2 hc
    refine go_aload_n X 1 dQ_instruction_11 rfl rfl ?_
    refine go_iload_n X 0 dQ_instruction_12 rfl rfl ?_
    refine k_Q_few X hw mw_Q_200 ⟨by decide, by decide⟩ (Nat.le_of_ble_eq_true rfl) ⟨Nat.zero_le _, Nat.zero_le _⟩ dQ_instruction_13 (fun w57 w58 w59 w60 w61 w62 w63 w64 w65 w66 w67 w68 hw => ?_)
    refine go_goto X dQ_instruction_16 rfl ?_
    exact go_vreturn X hq dQ_instruction_158 (q_memory, w57, w58, w59, w60, w61, w62, w63, w64, w65, q_ram, q_low, q_top, q_mode, w66, w67, w68) hw rfl
theorem k_Q_instruction {G : gt_} {ad : Nat → Nat} {cc : ByteArray} {own : String} {fr lo n cells slots pc index : Nat} {lc : List (Nat × Value)} {rest : List Value} {q_code q_many : Int32} {q_pin q_size q_bytes q_kind q_bank q_address q_full : Nat → Int32} {q_linked : Int32} {q_packedBank q_packedAddress : Nat → Int32} {q_banks : Int32} {q_memory q_register : Nat → Int32} {q_stack q_place q_zero q_less q_half q_carry q_enabled q_soon q_ram q_low q_top q_mode q_state q_sent : Int32} {q_out : Nat → Int32}  {P : (Nat → Int32) → (Nat → Int32) → (Int32) → (Int32) → (Int32) → (Int32) → (Int32) → (Int32) → (Int32) → (Int32) → (Int32) → (Int32) → (Int32) → (Int32) → (Int32) → (Int32) → (Nat → Int32) → Prop} (X : cx_ G ad cc own fr lo n) (hw : wp_Q_instruction q_banks q_memory q_register q_stack q_place q_zero q_less q_half q_carry q_enabled q_soon q_ram q_low q_top q_mode q_state q_sent q_out  P) (m1 : Cond.methodLink own index yQ_instruction ∈ wS) (hlv : 4 + 1 ≤ fr ∧ 8 + (2 + 11) + 90 ≤ lo) (hrs : (rest.map fun v => v.category).sum ≤ 8) (hcs : cells ≤ (gR_ G).cells ∧ slots ≤ (gR_ G).slots) (d : decode cc pc = .ok (.invokevirtual index, 3))
    (kk : ∀ (q_memory' q_register' : Nat → Int32) (q_stack' q_place' q_zero' q_less' q_half' q_carry' q_enabled' q_soon' q_ram' q_low' q_top' q_mode' q_state' q_sent' : Int32) (q_out' : Nat → Int32), P q_memory' q_register' q_stack' q_place' q_zero' q_less' q_half' q_carry' q_enabled' q_soon' q_ram' q_low' q_top' q_mode' q_state' q_sent' q_out' → go_ G cells slots (wM ad q_code q_many q_pin q_size q_bytes q_kind q_bank q_address q_full q_linked q_packedBank q_packedAddress q_banks q_memory' q_register' q_stack' q_place' q_zero' q_less' q_half' q_carry' q_enabled' q_soon' q_ram' q_low' q_top' q_mode' q_state' q_sent' q_out') (pc + 3) lc (rest)) : go_ G cells slots (wM ad q_code q_many q_pin q_size q_bytes q_kind q_bank q_address q_full q_linked q_packedBank q_packedAddress q_banks q_memory q_register q_stack q_place q_zero q_less q_half q_carry q_enabled q_soon q_ram q_low q_top q_mode q_state q_sent q_out) pc lc (.ref (ad 30) :: rest) :=
  go_cvv X (c_Q_instruction hw) me_Q_instruction m1 hlv 0 rfl rfl rfl hrs hcs d (fun u hp => kk u.1 u.2.1 u.2.2.1 u.2.2.2.1 u.2.2.2.2.1 u.2.2.2.2.2.1 u.2.2.2.2.2.2.1 u.2.2.2.2.2.2.2.1 u.2.2.2.2.2.2.2.2.1 u.2.2.2.2.2.2.2.2.2.1 u.2.2.2.2.2.2.2.2.2.2.1 u.2.2.2.2.2.2.2.2.2.2.2.1 u.2.2.2.2.2.2.2.2.2.2.2.2.1 u.2.2.2.2.2.2.2.2.2.2.2.2.2.1 u.2.2.2.2.2.2.2.2.2.2.2.2.2.2.1 u.2.2.2.2.2.2.2.2.2.2.2.2.2.2.2.1 u.2.2.2.2.2.2.2.2.2.2.2.2.2.2.2.2 hp)
set_option maxRecDepth 100000 in
set_option maxHeartbeats 4000000 in
theorem c_Q_step {l : Launch} {D : va_G} {ad : Nat → Nat} {q_code q_many : Int32} {q_pin q_size q_bytes q_kind q_bank q_address q_full : Nat → Int32} {q_linked : Int32} {q_packedBank q_packedAddress : Nat → Int32} {q_banks : Int32} {q_memory q_register : Nat → Int32} {q_stack q_place q_zero q_less q_half q_carry q_enabled q_soon q_ram q_low q_top q_mode q_state q_sent : Int32} {q_out : Nat → Int32}  {P : (Nat → Int32) → (Nat → Int32) → (Int32) → (Int32) → (Int32) → (Int32) → (Int32) → (Int32) → (Int32) → (Int32) → (Int32) → (Int32) → (Int32) → (Int32) → (Int32) → (Int32) → (Nat → Int32) → Prop} (hw : wp_Q_step q_banks q_memory q_register q_stack q_place q_zero q_less q_half q_carry q_enabled q_soon q_ram q_low q_top q_mode q_state q_sent q_out  P) : ct_ l yQ_step bQ_step 3 none 5 111 D ad [.ref (ad 30)] (wM ad q_code q_many q_pin q_size q_bytes q_kind q_bank q_address q_full q_linked q_packedBank q_packedAddress q_banks q_memory q_register q_stack q_place q_zero q_less q_half q_carry q_enabled q_soon q_ram q_low q_top q_mode q_state q_sent q_out) (qv_ D (fun (u : (Nat → Int32) × (Nat → Int32) × (Int32) × (Int32) × (Int32) × (Int32) × (Int32) × (Int32) × (Int32) × (Int32) × (Int32) × (Int32) × (Int32) × (Int32) × (Int32) × (Int32) × (Nat → Int32)) => P u.1 u.2.1 u.2.2.1 u.2.2.2.1 u.2.2.2.2.1 u.2.2.2.2.2.1 u.2.2.2.2.2.2.1 u.2.2.2.2.2.2.2.1 u.2.2.2.2.2.2.2.2.1 u.2.2.2.2.2.2.2.2.2.1 u.2.2.2.2.2.2.2.2.2.2.1 u.2.2.2.2.2.2.2.2.2.2.2.1 u.2.2.2.2.2.2.2.2.2.2.2.2.1 u.2.2.2.2.2.2.2.2.2.2.2.2.2.1 u.2.2.2.2.2.2.2.2.2.2.2.2.2.2.1 u.2.2.2.2.2.2.2.2.2.2.2.2.2.2.2.1 u.2.2.2.2.2.2.2.2.2.2.2.2.2.2.2.2) (fun u => wM ad q_code q_many q_pin q_size q_bytes q_kind q_bank q_address q_full q_linked q_packedBank q_packedAddress q_banks u.1 u.2.1 u.2.2.1 u.2.2.2.1 u.2.2.2.2.1 u.2.2.2.2.2.1 u.2.2.2.2.2.2.1 u.2.2.2.2.2.2.2.1 u.2.2.2.2.2.2.2.2.1 u.2.2.2.2.2.2.2.2.2.1 u.2.2.2.2.2.2.2.2.2.2.1 u.2.2.2.2.2.2.2.2.2.2.2.1 u.2.2.2.2.2.2.2.2.2.2.2.2.1 u.2.2.2.2.2.2.2.2.2.2.2.2.2.1 u.2.2.2.2.2.2.2.2.2.2.2.2.2.2.1 u.2.2.2.2.2.2.2.2.2.2.2.2.2.2.2.1 u.2.2.2.2.2.2.2.2.2.2.2.2.2.2.2.2)) := by
  refine ct_of RQ (by decide) rfl (Nat.le_of_ble_eq_true rfl) (fun G hl hD X hq => ?_)
  subst hl hD
  show go_ G 0 0 (wM ad q_code q_many q_pin q_size q_bytes q_kind q_bank q_address q_full q_linked q_packedBank q_packedAddress q_banks q_memory q_register q_stack q_place q_zero q_less q_half q_carry q_enabled q_soon q_ram q_low q_top q_mode q_state q_sent q_out) 0 [(0, .ref (ad 30))] []
  have C86 : ∀ (q_memory q_register : Nat → Int32) (q_stack q_place q_zero q_less q_half q_carry q_enabled q_soon q_ram q_low q_top q_mode q_state q_sent : Int32) (q_out : Nat → Int32), wp_Q_step_86 q_banks P q_memory q_register q_stack q_place q_zero q_less q_half q_carry q_enabled q_soon q_ram q_low q_top q_mode q_state q_sent q_out → go_ G 0 0 (wM ad q_code q_many q_pin q_size q_bytes q_kind q_bank q_address q_full q_linked q_packedBank q_packedAddress q_banks q_memory q_register q_stack q_place q_zero q_less q_half q_carry q_enabled q_soon q_ram q_low q_top q_mode q_state q_sent q_out) 86 [(0, .ref (ad 30))] [] := by
    intro q_memory q_register q_stack q_place q_zero q_less q_half q_carry q_enabled q_soon q_ram q_low q_top q_mode q_state q_sent q_out hw
    refine go_aload_n X 0 dQ_step_86 rfl rfl ?_
    refine gt_Q_75 X dQ_step_87 ?_
    refine go_istore_n X dQ_step_90 rfl (by decide) rfl ?_
    refine go_aload_n X 1 dQ_step_91 rfl rfl ?_
    refine go_iconst X dQ_step_92 kc_i0 ?_
    refine pt_Q_75 X (Or.inl rfl) dQ_step_93 ?_
    refine go_aload_n X 1 dQ_step_96 rfl rfl ?_
    refine k_Q_instruction X hw mw_Q_218 ⟨by decide, by decide⟩ (Nat.le_of_ble_eq_true rfl) ⟨Nat.zero_le _, Nat.zero_le _⟩ dQ_step_97 (fun w10 w11 w12 w13 w14 w15 w16 w17 w18 w19 w20 w21 w22 w23 w24 w25 w26 hw => ?_)
    refine go_aload_n X 1 dQ_step_100 rfl rfl ?_
    refine go_aload_n X 1 dQ_step_101 rfl rfl ?_
    refine gt_Q_72 X dQ_step_102 ?_
    refine go_if_ne X dQ_step_105 rfl (fun hc => ?_) (fun hc => ?_)
    · have hw := hw.1 hc
      refine go_iconst X dQ_step_112 kc_i1 ?_
      refine go_goto X dQ_step_113 rfl ?_
      refine pt_Q_72 X (Or.inr rfl) dQ_step_117 ?_
      exact go_vreturn X hq dQ_step_120 (w10, w11, w12, w13, w14, w15, w16, w17, (1 : Int32), w19, w20, w21, w22, w23, w24, w25, w26) hw rfl
    · have hw := hw.2 hc
      refine go_iload_n X 0 dQ_step_108 rfl rfl ?_
      refine go_if_eq X dQ_step_109 rfl (fun hc => ?_) (fun hc => ?_)
      · have hw := hw.1 hc
        refine go_iconst X dQ_step_116 kc_i0 ?_
        refine pt_Q_72 X (Or.inl rfl) dQ_step_117 ?_
        exact go_vreturn X hq dQ_step_120 (w10, w11, w12, w13, w14, w15, w16, w17, (0 : Int32), w19, w20, w21, w22, w23, w24, w25, w26) hw rfl
      · have hw := hw.2 hc
        refine go_iconst X dQ_step_112 kc_i1 ?_
        refine go_goto X dQ_step_113 rfl ?_
        refine pt_Q_72 X (Or.inr rfl) dQ_step_117 ?_
        exact go_vreturn X hq dQ_step_120 (w10, w11, w12, w13, w14, w15, w16, w17, (1 : Int32), w19, w20, w21, w22, w23, w24, w25, w26) hw rfl
  refine go_aload_n X 0 dQ_step_0 rfl rfl ?_
  refine gt_Q_37 X dQ_step_1 ?_
  refine go_sipush X dQ_step_4 kc_s702 ?_
  refine ar_q_memory X vi_702_705 dQ_step_7 ?_
  refine go_aload_n X 0 dQ_step_8 rfl rfl ?_
  refine gt_Q_37 X dQ_step_9 ?_
  refine go_sipush X dQ_step_12 kc_s703 ?_
  refine ar_q_memory X vi_703_705 dQ_step_15 ?_
  refine go_iand X dQ_step_16 ?_
  refine go_nm (fun z1 ez1 => ?_)
  have hw := hw z1 ez1
  refine go_istore_n X dQ_step_17 rfl (by decide) rfl ?_
  refine go_aload_n X 1 dQ_step_18 rfl rfl ?_
  refine gt_Q_90 X dQ_step_19 ?_
  refine go_iconst X dQ_step_22 kc_i1 ?_
  refine go_icmp_ne X dQ_step_23 rfl (fun hc => ?_) (fun hc => ?_)
  · have hw := hw.1 hc
    refine go_aload_n X 1 dQ_step_67 rfl rfl ?_
    refine gt_Q_72 X dQ_step_68 ?_
    refine go_if_eq X dQ_step_71 rfl (fun hc => ?_) (fun hc => ?_)
    · have hw := hw.1 hc
      refine go_lc [1] rfl ?_
      exact C86 _ _ _ _ _ _ _ _ _ _ _ _ _ _ _ _ _ hw
    · have hw := hw.2 hc
      refine go_iload_n X 0 dQ_step_74 rfl rfl ?_
      refine go_if_eq X dQ_step_75 rfl (fun hc => ?_) (fun hc => ?_)
      · have hw := hw.1 hc
        refine go_lc [1] rfl ?_
        exact C86 _ _ _ _ _ _ _ _ _ _ _ _ _ _ _ _ _ hw
      · have hw := hw.2 hc
        refine go_aload_n X 1 dQ_step_78 rfl rfl ?_
        refine go_iload_n X 0 dQ_step_79 rfl rfl ?_
        refine k_Q_interrupt X hw mw_Q_215 ⟨by decide, by decide⟩ (Nat.le_of_ble_eq_true rfl) ⟨Nat.zero_le _, Nat.zero_le _⟩ dQ_step_80 (fun w2 w3 w4 w5 w6 w7 w8 w9 hw => ?_)
        refine go_goto X dQ_step_83 rfl ?_
        exact go_vreturn X hq dQ_step_120 (w2, q_register, w3, w4, q_zero, q_less, q_half, q_carry, w5, q_soon, w6, w7, w8, w9, q_state, q_sent, q_out) hw rfl
  · have hw := hw.2 hc
    refine go_aload_n X 1 dQ_step_26 rfl rfl ?_
    refine go_iload_n X 0 dQ_step_27 rfl rfl ?_
    refine go_if_ne X dQ_step_28 rfl (fun hc => ?_) (fun hc => ?_)
    · have hw := hw.1 hc
      refine go_aload_n X 1 dQ_step_38 rfl rfl ?_
      refine gt_Q_56 X dQ_step_39 ?_
      refine go_iconst X dQ_step_42 kc_i1 ?_
      refine go_iadd X dQ_step_43 ?_
      refine go_sipush X dQ_step_44 kc_s256 ?_
      refine go_irem X dQ_step_47 (by decide) ?_
      refine pt_Q_56 X dQ_step_48 ?_
      refine go_aload_n X 1 dQ_step_51 rfl rfl ?_
      refine go_iload_n X 0 dQ_step_52 rfl rfl ?_
      refine go_if_ne X dQ_step_53 rfl (fun hc => ?_) (fun hc => ?_)
      · have hw := hw.1 hc
        refine go_iconst X dQ_step_60 kc_i0 ?_
        refine pt_Q_90 X dQ_step_61 ?_
        refine go_goto X dQ_step_64 rfl ?_
        exact go_vreturn X hq dQ_step_120 (q_memory, q_register, q_stack, (q_place + (1 : Int32)) - (q_place + (1 : Int32)) / (256 : Int32) * (256 : Int32), q_zero, q_less, q_half, q_carry, q_enabled, q_soon, q_ram, q_low, q_top, q_mode, (0 : Int32), q_sent, q_out) hw rfl
      · have hw := hw.2 hc
        refine go_iconst X dQ_step_56 kc_i1 ?_
        refine go_goto X dQ_step_57 rfl ?_
        refine pt_Q_90 X dQ_step_61 ?_
        refine go_goto X dQ_step_64 rfl ?_
        exact go_vreturn X hq dQ_step_120 (q_memory, q_register, q_stack, (q_place + (1 : Int32)) - (q_place + (1 : Int32)) / (256 : Int32) * (256 : Int32), q_zero, q_less, q_half, q_carry, q_enabled, q_soon, q_ram, q_low, q_top, q_mode, (1 : Int32), q_sent, q_out) hw rfl
    · have hw := hw.2 hc
      refine go_aload_n X 1 dQ_step_31 rfl rfl ?_
      refine gt_Q_56 X dQ_step_32 ?_
      refine go_goto X dQ_step_35 rfl ?_
      refine pt_Q_56 X dQ_step_48 ?_
      refine go_aload_n X 1 dQ_step_51 rfl rfl ?_
      refine go_iload_n X 0 dQ_step_52 rfl rfl ?_
      refine go_if_ne X dQ_step_53 rfl (fun hc => ?_) (fun hc => ?_)
      · have hw := hw.1 hc
        refine go_iconst X dQ_step_60 kc_i0 ?_
        refine pt_Q_90 X dQ_step_61 ?_
        refine go_goto X dQ_step_64 rfl ?_
        exact go_vreturn X hq dQ_step_120 (q_memory, q_register, q_stack, q_place, q_zero, q_less, q_half, q_carry, q_enabled, q_soon, q_ram, q_low, q_top, q_mode, (0 : Int32), q_sent, q_out) hw rfl
      · have hw := hw.2 hc
        refine go_iconst X dQ_step_56 kc_i1 ?_
        refine go_goto X dQ_step_57 rfl ?_
        refine pt_Q_90 X dQ_step_61 ?_
        refine go_goto X dQ_step_64 rfl ?_
        exact go_vreturn X hq dQ_step_120 (q_memory, q_register, q_stack, q_place, q_zero, q_less, q_half, q_carry, q_enabled, q_soon, q_ram, q_low, q_top, q_mode, (1 : Int32), q_sent, q_out) hw rfl
theorem k_Q_step {G : gt_} {ad : Nat → Nat} {cc : ByteArray} {own : String} {fr lo n cells slots pc index : Nat} {lc : List (Nat × Value)} {rest : List Value} {q_code q_many : Int32} {q_pin q_size q_bytes q_kind q_bank q_address q_full : Nat → Int32} {q_linked : Int32} {q_packedBank q_packedAddress : Nat → Int32} {q_banks : Int32} {q_memory q_register : Nat → Int32} {q_stack q_place q_zero q_less q_half q_carry q_enabled q_soon q_ram q_low q_top q_mode q_state q_sent : Int32} {q_out : Nat → Int32}  {P : (Nat → Int32) → (Nat → Int32) → (Int32) → (Int32) → (Int32) → (Int32) → (Int32) → (Int32) → (Int32) → (Int32) → (Int32) → (Int32) → (Int32) → (Int32) → (Int32) → (Int32) → (Nat → Int32) → Prop} (X : cx_ G ad cc own fr lo n) (hw : wp_Q_step q_banks q_memory q_register q_stack q_place q_zero q_less q_half q_carry q_enabled q_soon q_ram q_low q_top q_mode q_state q_sent q_out  P) (m1 : Cond.methodLink own index yQ_step ∈ wS) (hlv : 5 + 1 ≤ fr ∧ 8 + (3 + 11) + 111 ≤ lo) (hrs : (rest.map fun v => v.category).sum ≤ 8) (hcs : cells ≤ (gR_ G).cells ∧ slots ≤ (gR_ G).slots) (d : decode cc pc = .ok (.invokevirtual index, 3))
    (kk : ∀ (q_memory' q_register' : Nat → Int32) (q_stack' q_place' q_zero' q_less' q_half' q_carry' q_enabled' q_soon' q_ram' q_low' q_top' q_mode' q_state' q_sent' : Int32) (q_out' : Nat → Int32), P q_memory' q_register' q_stack' q_place' q_zero' q_less' q_half' q_carry' q_enabled' q_soon' q_ram' q_low' q_top' q_mode' q_state' q_sent' q_out' → go_ G cells slots (wM ad q_code q_many q_pin q_size q_bytes q_kind q_bank q_address q_full q_linked q_packedBank q_packedAddress q_banks q_memory' q_register' q_stack' q_place' q_zero' q_less' q_half' q_carry' q_enabled' q_soon' q_ram' q_low' q_top' q_mode' q_state' q_sent' q_out') (pc + 3) lc (rest)) : go_ G cells slots (wM ad q_code q_many q_pin q_size q_bytes q_kind q_bank q_address q_full q_linked q_packedBank q_packedAddress q_banks q_memory q_register q_stack q_place q_zero q_less q_half q_carry q_enabled q_soon q_ram q_low q_top q_mode q_state q_sent q_out) pc lc (.ref (ad 30) :: rest) :=
  go_cvv X (c_Q_step hw) me_Q_step m1 hlv 0 rfl rfl rfl hrs hcs d (fun u hp => kk u.1 u.2.1 u.2.2.1 u.2.2.2.1 u.2.2.2.2.1 u.2.2.2.2.2.1 u.2.2.2.2.2.2.1 u.2.2.2.2.2.2.2.1 u.2.2.2.2.2.2.2.2.1 u.2.2.2.2.2.2.2.2.2.1 u.2.2.2.2.2.2.2.2.2.2.1 u.2.2.2.2.2.2.2.2.2.2.2.1 u.2.2.2.2.2.2.2.2.2.2.2.2.1 u.2.2.2.2.2.2.2.2.2.2.2.2.2.1 u.2.2.2.2.2.2.2.2.2.2.2.2.2.2.1 u.2.2.2.2.2.2.2.2.2.2.2.2.2.2.2.1 u.2.2.2.2.2.2.2.2.2.2.2.2.2.2.2.2 hp)
set_option maxRecDepth 100000 in
set_option maxHeartbeats 4000000 in
theorem c_Q_run {l : Launch} {D : va_G} {ad : Nat → Nat} {q_code q_many : Int32} {q_pin q_size q_bytes q_kind q_bank q_address q_full : Nat → Int32} {q_linked : Int32} {q_packedBank q_packedAddress : Nat → Int32} {q_banks : Int32} {q_memory q_register : Nat → Int32} {q_stack q_place q_zero q_less q_half q_carry q_enabled q_soon q_ram q_low q_top q_mode q_state q_sent : Int32} {q_out : Nat → Int32} {a1 : Int32} {P : Int32 → (Int32) → (Nat → Int32) → (Nat → Int32) → (Int32) → (Int32) → (Int32) → (Int32) → (Int32) → (Int32) → (Int32) → (Int32) → (Int32) → (Int32) → (Int32) → (Int32) → (Int32) → (Int32) → (Nat → Int32) → Prop} (hw : wp_Q_run q_code q_linked q_banks q_memory q_register q_stack q_place q_zero q_less q_half q_carry q_enabled q_soon q_ram q_low q_top q_mode q_state q_sent q_out a1 P) : ct_ l yQ_run bQ_run 3 (some .int) 6 133 D ad [.ref (ad 30), .int a1] (wM ad q_code q_many q_pin q_size q_bytes q_kind q_bank q_address q_full q_linked q_packedBank q_packedAddress q_banks q_memory q_register q_stack q_place q_zero q_less q_half q_carry q_enabled q_soon q_ram q_low q_top q_mode q_state q_sent q_out) (qi_ D (fun (r : Int32) (u : (Int32) × (Nat → Int32) × (Nat → Int32) × (Int32) × (Int32) × (Int32) × (Int32) × (Int32) × (Int32) × (Int32) × (Int32) × (Int32) × (Int32) × (Int32) × (Int32) × (Int32) × (Int32) × (Nat → Int32)) => P r u.1 u.2.1 u.2.2.1 u.2.2.2.1 u.2.2.2.2.1 u.2.2.2.2.2.1 u.2.2.2.2.2.2.1 u.2.2.2.2.2.2.2.1 u.2.2.2.2.2.2.2.2.1 u.2.2.2.2.2.2.2.2.2.1 u.2.2.2.2.2.2.2.2.2.2.1 u.2.2.2.2.2.2.2.2.2.2.2.1 u.2.2.2.2.2.2.2.2.2.2.2.2.1 u.2.2.2.2.2.2.2.2.2.2.2.2.2.1 u.2.2.2.2.2.2.2.2.2.2.2.2.2.2.1 u.2.2.2.2.2.2.2.2.2.2.2.2.2.2.2.1 u.2.2.2.2.2.2.2.2.2.2.2.2.2.2.2.2.1 u.2.2.2.2.2.2.2.2.2.2.2.2.2.2.2.2.2) (fun u => wM ad u.1 q_many q_pin q_size q_bytes q_kind q_bank q_address q_full q_linked q_packedBank q_packedAddress q_banks u.2.1 u.2.2.1 u.2.2.2.1 u.2.2.2.2.1 u.2.2.2.2.2.1 u.2.2.2.2.2.2.1 u.2.2.2.2.2.2.2.1 u.2.2.2.2.2.2.2.2.1 u.2.2.2.2.2.2.2.2.2.1 u.2.2.2.2.2.2.2.2.2.2.1 u.2.2.2.2.2.2.2.2.2.2.2.1 u.2.2.2.2.2.2.2.2.2.2.2.2.1 u.2.2.2.2.2.2.2.2.2.2.2.2.2.1 u.2.2.2.2.2.2.2.2.2.2.2.2.2.2.1 u.2.2.2.2.2.2.2.2.2.2.2.2.2.2.2.1 u.2.2.2.2.2.2.2.2.2.2.2.2.2.2.2.2.1 u.2.2.2.2.2.2.2.2.2.2.2.2.2.2.2.2.2)) := by
  refine ct_of RQ (by decide) rfl (Nat.le_of_ble_eq_true rfl) (fun G hl hD X hq => ?_)
  subst hl hD
  show go_ G 0 0 (wM ad q_code q_many q_pin q_size q_bytes q_kind q_bank q_address q_full q_linked q_packedBank q_packedAddress q_banks q_memory q_register q_stack q_place q_zero q_less q_half q_carry q_enabled q_soon q_ram q_low q_top q_mode q_state q_sent q_out) 0 [(0, .ref (ad 30)), (1, .int a1)] []
  have C20 : ∀ (n9 : Nat) (q_code : Int32) (q_memory q_register : Nat → Int32) (q_stack q_place q_zero q_less q_half q_carry q_enabled q_soon q_ram q_low q_top q_mode q_state q_sent : Int32) (q_out : Nat → Int32) (x1 x2 : Int32), wp_Q_run_20 q_linked q_banks P n9 q_code q_memory q_register q_stack q_place q_zero q_less q_half q_carry q_enabled q_soon q_ram q_low q_top q_mode q_state q_sent q_out x1 x2 → go_ G 0 0 (wM ad q_code q_many q_pin q_size q_bytes q_kind q_bank q_address q_full q_linked q_packedBank q_packedAddress q_banks q_memory q_register q_stack q_place q_zero q_less q_half q_carry q_enabled q_soon q_ram q_low q_top q_mode q_state q_sent q_out) 20 [(0, .ref (ad 30)), (1, .int x1), (2, .int x2)] [] := by
    intro n9
    induction n9 with
    | zero =>
      intro q_code q_memory q_register q_stack q_place q_zero q_less q_half q_carry q_enabled q_soon q_ram q_low q_top q_mode q_state q_sent q_out x1 x2 hw
      exact False.elim hw
    | succ n9 ih =>
      intro q_code q_memory q_register q_stack q_place q_zero q_less q_half q_carry q_enabled q_soon q_ram q_low q_top q_mode q_state q_sent q_out x1 x2 hw
      refine go_iload_n X 2 dQ_run_20 rfl rfl ?_
      refine go_iload_n X 1 dQ_run_21 rfl rfl ?_
      refine go_icmp_ge X dQ_run_22 rfl (fun hc => ?_) (fun hc => ?_)
      · have hw := hw.1 hc
        refine go_iload_n X 2 dQ_run_50 rfl rfl ?_
        exact go_ireturn X hq dQ_run_51 (q_code, q_memory, q_register, q_stack, q_place, q_zero, q_less, q_half, q_carry, q_enabled, q_soon, q_ram, q_low, q_top, q_mode, q_state, q_sent, q_out) hw rfl
      · have hw := hw.2 hc
        refine go_iload_n X 2 dQ_run_25 rfl rfl ?_
        refine go_sipush X dQ_run_26 kc_s2000 ?_
        refine go_icmp_ge X dQ_run_29 rfl (fun hc => ?_) (fun hc => ?_)
        · have hw := hw.1 hc
          refine go_iload_n X 2 dQ_run_50 rfl rfl ?_
          exact go_ireturn X hq dQ_run_51 (q_code, q_memory, q_register, q_stack, q_place, q_zero, q_less, q_half, q_carry, q_enabled, q_soon, q_ram, q_low, q_top, q_mode, q_state, q_sent, q_out) hw rfl
        · have hw := hw.2 hc
          refine go_aload_n X 0 dQ_run_32 rfl rfl ?_
          refine gt_Q_90 X dQ_run_33 ?_
          refine go_iconst X dQ_run_36 kc_i2 ?_
          refine go_icmp_ge X dQ_run_37 rfl (fun hc => ?_) (fun hc => ?_)
          · have hw := hw.1 hc
            refine go_iload_n X 2 dQ_run_50 rfl rfl ?_
            exact go_ireturn X hq dQ_run_51 (q_code, q_memory, q_register, q_stack, q_place, q_zero, q_less, q_half, q_carry, q_enabled, q_soon, q_ram, q_low, q_top, q_mode, q_state, q_sent, q_out) hw rfl
          · have hw := hw.2 hc
            refine go_aload_n X 0 dQ_run_40 rfl rfl ?_
            refine k_Q_step X hw mw_Q_221 ⟨by decide, by decide⟩ (Nat.le_of_ble_eq_true rfl) ⟨Nat.zero_le _, Nat.zero_le _⟩ dQ_run_41 (fun w3 w4 w5 w6 w7 w8 w9 w10 w11 w12 w13 w14 w15 w16 w17 w18 w19 hw => ?_)
            refine go_iinc X 2 dQ_run_44 rfl (ki_1 _) (by decide) rfl ?_
            refine go_goto X dQ_run_47 rfl ?_
            refine go_lc [1, 2, 0] rfl ?_
            exact ih _ _ _ _ _ _ _ _ _ _ _ _ _ _ _ _ _ _ _ _ hw
  refine go_aload_n X 0 dQ_run_0 rfl rfl ?_
  refine gt_Q_143 X dQ_run_1 ?_
  refine go_if_ne X dQ_run_4 rfl (fun hc => ?_) (fun hc => ?_)
  · have hw := hw.1 hc
    refine go_aload_n X 0 dQ_run_13 rfl rfl ?_
    refine go_iconst X dQ_run_14 kc_i0 ?_
    refine pt_Q_49 X dQ_run_15 ?_
    refine go_iconst X dQ_run_18 kc_i0 ?_
    refine go_istore_n X dQ_run_19 rfl (by decide) rfl ?_
    refine go_lc [1, 2, 0] rfl ?_
    obtain ⟨j9, hw⟩ := hw
    exact C20 j9 _ _ _ _ _ _ _ _ _ _ _ _ _ _ _ _ _ _ _ _ hw
  · have hw := hw.2 hc
    refine go_aload_n X 0 dQ_run_7 rfl rfl ?_
    refine go_iconst X dQ_run_8 kc_i1 ?_
    refine k_Q_refuse X hw mw_Q_146 ⟨by decide, by decide⟩ (Nat.le_of_ble_eq_true rfl) ⟨Nat.zero_le _, Nat.zero_le _⟩ dQ_run_9 (fun r1 w2 hw => ?_)
    exact go_ireturn X hq dQ_run_12 (w2, q_memory, q_register, q_stack, q_place, q_zero, q_less, q_half, q_carry, q_enabled, q_soon, q_ram, q_low, q_top, q_mode, q_state, q_sent, q_out) hw rfl
theorem k_Q_run {G : gt_} {ad : Nat → Nat} {cc : ByteArray} {own : String} {fr lo n cells slots pc index : Nat} {lc : List (Nat × Value)} {rest : List Value} {q_code q_many : Int32} {q_pin q_size q_bytes q_kind q_bank q_address q_full : Nat → Int32} {q_linked : Int32} {q_packedBank q_packedAddress : Nat → Int32} {q_banks : Int32} {q_memory q_register : Nat → Int32} {q_stack q_place q_zero q_less q_half q_carry q_enabled q_soon q_ram q_low q_top q_mode q_state q_sent : Int32} {q_out : Nat → Int32} {a1 : Int32} {P : Int32 → (Int32) → (Nat → Int32) → (Nat → Int32) → (Int32) → (Int32) → (Int32) → (Int32) → (Int32) → (Int32) → (Int32) → (Int32) → (Int32) → (Int32) → (Int32) → (Int32) → (Int32) → (Int32) → (Nat → Int32) → Prop} (X : cx_ G ad cc own fr lo n) (hw : wp_Q_run q_code q_linked q_banks q_memory q_register q_stack q_place q_zero q_less q_half q_carry q_enabled q_soon q_ram q_low q_top q_mode q_state q_sent q_out a1 P) (m1 : Cond.methodLink own index yQ_run ∈ wS) (hlv : 6 + 1 ≤ fr ∧ 8 + (3 + 11) + 133 ≤ lo) (hrs : (rest.map fun v => v.category).sum ≤ 8) (hcs : cells ≤ (gR_ G).cells ∧ slots ≤ (gR_ G).slots) (d : decode cc pc = .ok (.invokevirtual index, 3))
    (kk : ∀ (r q_code' : Int32) (q_memory' q_register' : Nat → Int32) (q_stack' q_place' q_zero' q_less' q_half' q_carry' q_enabled' q_soon' q_ram' q_low' q_top' q_mode' q_state' q_sent' : Int32) (q_out' : Nat → Int32), P r q_code' q_memory' q_register' q_stack' q_place' q_zero' q_less' q_half' q_carry' q_enabled' q_soon' q_ram' q_low' q_top' q_mode' q_state' q_sent' q_out' → go_ G cells slots (wM ad q_code' q_many q_pin q_size q_bytes q_kind q_bank q_address q_full q_linked q_packedBank q_packedAddress q_banks q_memory' q_register' q_stack' q_place' q_zero' q_less' q_half' q_carry' q_enabled' q_soon' q_ram' q_low' q_top' q_mode' q_state' q_sent' q_out') (pc + 3) lc (.int r :: rest)) : go_ G cells slots (wM ad q_code q_many q_pin q_size q_bytes q_kind q_bank q_address q_full q_linked q_packedBank q_packedAddress q_banks q_memory q_register q_stack q_place q_zero q_less q_half q_carry q_enabled q_soon q_ram q_low q_top q_mode q_state q_sent q_out) pc lc (.int a1 :: .ref (ad 30) :: rest) :=
  go_cvi X (c_Q_run hw) me_Q_run m1 hlv 0 rfl rfl rfl hrs hcs d (fun r u hp => kk r u.1 u.2.1 u.2.2.1 u.2.2.2.1 u.2.2.2.2.1 u.2.2.2.2.2.1 u.2.2.2.2.2.2.1 u.2.2.2.2.2.2.2.1 u.2.2.2.2.2.2.2.2.1 u.2.2.2.2.2.2.2.2.2.1 u.2.2.2.2.2.2.2.2.2.2.1 u.2.2.2.2.2.2.2.2.2.2.2.1 u.2.2.2.2.2.2.2.2.2.2.2.2.1 u.2.2.2.2.2.2.2.2.2.2.2.2.2.1 u.2.2.2.2.2.2.2.2.2.2.2.2.2.2.1 u.2.2.2.2.2.2.2.2.2.2.2.2.2.2.2.1 u.2.2.2.2.2.2.2.2.2.2.2.2.2.2.2.2.1 u.2.2.2.2.2.2.2.2.2.2.2.2.2.2.2.2.2 hp)
