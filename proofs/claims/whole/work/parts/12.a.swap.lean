/-! linked and tried change places -/
def sw_ (ad : Nat → Nat) : Nat → Nat := fun k => match k with
  | 14 => ad 18 | 15 => ad 19 | 16 => ad 20 | 17 => ad 21 | 18 => ad 14 | 19 => ad 15 | 20 => ad 16 | 21 => ad 17 | k => ad k
theorem cx_sw {G : gt_} {ad : Nat → Nat} {cc : ByteArray} {own : String} {fr lo n : Nat} (X : cx_ G ad cc own fr lo n) : cx_ G (sw_ ad) cc own fr lo n := X
theorem go_perm {G : gt_} {cells slots pc : Nat} {ws ws' : va_W} {lc : List (Nat × Value)} {st : List Value} (is : List Nat) (e : is.filterMap (fun i => ws[i]?) = ws') (hn : va_nd is = true) (e2 : is.map (fun i => ws[i]?) = ws'.map some) (k : go_ G cells slots ws' pc lc st) : go_ G cells slots ws pc lc st := fun H locs ls hl hP hD hS => k H locs ls hl (hP.sub is e) (hD.sub is hn e2) hS
theorem c_D_keepTried {l : Launch} {D : va_G} {ad : Nat → Nat} {s_bk s_ln s_kd s_vl : Nat → Int32} {s_ct : Int32} {k_ce : Nat → Int32} {k_bc : Int32} {m_ra m_up : Nat → Int32} {m_on m_lo m_hi m_mo m_ma m_li : Int32} {n_rg n_sb : Nat → Int32} {n_st n_pl n_z n_n n_h n_c n_en n_so n_co n_sc : Int32} {l_bk l_of l_en : Nat → Int32} {l_ct : Int32} {t_bk t_of t_en : Nat → Int32} {t_ct : Int32} : ct_ l yD_keepTried bD_keepTried 2 none 0 0 D ad [.ref (ad 0)] (wC ad s_bk s_ln s_kd s_vl s_ct k_ce k_bc m_ra m_up m_on m_lo m_hi m_mo m_ma m_li n_rg n_sb n_st n_pl n_z n_n n_h n_c n_en n_so n_co n_sc l_bk l_of l_en l_ct t_bk t_of t_en t_ct) (qv_ D (fun _ : Unit => True) (fun _ => (wC (sw_ ad) s_bk s_ln s_kd s_vl s_ct k_ce k_bc m_ra m_up m_on m_lo m_hi m_mo m_ma m_li n_rg n_sb n_st n_pl n_z n_n n_h n_c n_en n_so n_co n_sc t_bk t_of t_en t_ct l_bk l_of l_en l_ct))) := by
  refine ct_of RD (by decide) rfl (Nat.le_of_ble_eq_true rfl) (fun G hl hD X hq => ?_)
  subst hl hD
  show go_ G 0 0 (wC ad s_bk s_ln s_kd s_vl s_ct k_ce k_bc m_ra m_up m_on m_lo m_hi m_mo m_ma m_li n_rg n_sb n_st n_pl n_z n_n n_h n_c n_en n_so n_co n_sc l_bk l_of l_en l_ct t_bk t_of t_en t_ct) 0 [(0, .ref (ad 0))] []
  refine go_aload_n X 0 dD_keepTried_0 rfl rfl ?_
  refine gt_D_44 X dD_keepTried_1 ?_
  refine go_astore_n X dD_keepTried_4 rfl (by decide) rfl ?_
  refine go_aload_n X 1 dD_keepTried_5 rfl rfl ?_
  refine go_aload_n X 1 dD_keepTried_6 rfl rfl ?_
  refine gt_D_48 X dD_keepTried_7 ?_
  refine go_put X inD tD tD_ok nD_ok 0 rfl rfl 4 (by decide) (wT1 192 rfl rfl) rfl rfl (ty := .object "CartridgeDesk$Packing") (by decide +kernel) rfl rfl (Nat.le_of_ble_eq_true rfl) rfl dD_keepTried_10 ?_
  refine go_aload_n X 1 dD_keepTried_13 rfl rfl ?_
  refine go_aload_n X 0 dD_keepTried_14 rfl rfl ?_
  refine go_put X inD tD tD_ok nD_ok 0 rfl rfl 5 (by decide) (wT1 193 rfl rfl) rfl rfl (ty := .object "CartridgeDesk$Packing") (by decide +kernel) rfl rfl (Nat.le_of_ble_eq_true rfl) rfl dD_keepTried_15 ?_
  refine go_perm (ws' := (wC (sw_ ad) s_bk s_ln s_kd s_vl s_ct k_ce k_bc m_ra m_up m_on m_lo m_hi m_mo m_ma m_li n_rg n_sb n_st n_pl n_z n_n n_h n_c n_en n_so n_co n_sc t_bk t_of t_en t_ct l_bk l_of l_en l_ct)) [0, 1, 2, 3, 4, 5, 6, 7, 8, 9, 10, 11, 12, 13, 18, 19, 20, 21, 14, 15, 16, 17] rfl (by decide) rfl ?_
  exact go_vreturn X hq dD_keepTried_18 () trivial rfl
theorem k_D_keepTried {G : gt_} {ad : Nat → Nat} {cc : ByteArray} {fr lo n cells slots pc : Nat} {lc : List (Nat × Value)} {rest : List Value} {s_bk s_ln s_kd s_vl : Nat → Int32} {s_ct : Int32} {k_ce : Nat → Int32} {k_bc : Int32} {m_ra m_up : Nat → Int32} {m_on m_lo m_hi m_mo m_ma m_li : Int32} {n_rg n_sb : Nat → Int32} {n_st n_pl n_z n_n n_h n_c n_en n_so n_co n_sc : Int32} {l_bk l_of l_en : Nat → Int32} {l_ct : Int32} {t_bk t_of t_en : Nat → Int32} {t_ct : Int32} (X : cx_ G ad cc RD fr lo n) (hlv : 0 + 1 ≤ fr ∧ 8 + (2 + 11) + 0 ≤ lo) (hrs : (rest.map fun v => v.category).sum ≤ 8) (hcs : cells ≤ (gR_ G).cells ∧ slots ≤ (gR_ G).slots) (d : decode cc pc = .ok (.invokevirtual 84, 3)) (kk : go_ G cells slots (wC (sw_ ad) s_bk s_ln s_kd s_vl s_ct k_ce k_bc m_ra m_up m_on m_lo m_hi m_mo m_ma m_li n_rg n_sb n_st n_pl n_z n_n n_h n_c n_en n_so n_co n_sc t_bk t_of t_en t_ct l_bk l_of l_en l_ct) (pc + 3) lc rest) : go_ G cells slots (wC ad s_bk s_ln s_kd s_vl s_ct k_ce k_bc m_ra m_up m_on m_lo m_hi m_mo m_ma m_li n_rg n_sb n_st n_pl n_z n_n n_h n_c n_en n_so n_co n_sc l_bk l_of l_en l_ct t_bk t_of t_en t_ct) pc lc (.ref (ad 0) :: rest) :=
  go_cvv X c_D_keepTried me_D_keepTried (wT2 148 rfl rfl) hlv 0 rfl rfl rfl hrs hcs d (fun _ _ => kk)
