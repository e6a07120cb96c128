/-! the variables that the machine's functions leave -/
theorem ke_xwr_k_ce (S : St) (a b : Nat) : e_k_ce (xwr S a b) = e_k_ce S := by
  unfold e_k_ce
  rw [kp_xwr_im]
theorem ke_xwr_k_bc (S : St) (a b : Nat) : e_k_bc (xwr S a b) = e_k_bc S := by
  unfold e_k_bc
  rw [kp_xwr_bk]
theorem ke_xwr_n_rg (S : St) (a b : Nat) : e_n_rg (xwr S a b) = e_n_rg S := by
  unfold e_n_rg
  rw [kp_xwr_rg]
theorem ke_xwr_n_sb (S : St) (a b : Nat) : e_n_sb (xwr S a b) = e_n_sb S := by
  unfold e_n_sb
  rw [kp_xwr_sb]
theorem ke_xwr_n_st (S : St) (a b : Nat) : e_n_st (xwr S a b) = e_n_st S := by
  unfold e_n_st
  rw [kp_xwr_st]
theorem ke_xwr_n_pl (S : St) (a b : Nat) : e_n_pl (xwr S a b) = e_n_pl S := by
  unfold e_n_pl
  rw [kp_xwr_pl]
theorem ke_xwr_n_z (S : St) (a b : Nat) : e_n_z (xwr S a b) = e_n_z S := by
  unfold e_n_z
  rw [kp_xwr_zf]
theorem ke_xwr_n_n (S : St) (a b : Nat) : e_n_n (xwr S a b) = e_n_n S := by
  unfold e_n_n
  rw [kp_xwr_nf]
theorem ke_xwr_n_h (S : St) (a b : Nat) : e_n_h (xwr S a b) = e_n_h S := by
  unfold e_n_h
  rw [kp_xwr_hf]
theorem ke_xwr_n_c (S : St) (a b : Nat) : e_n_c (xwr S a b) = e_n_c S := by
  unfold e_n_c
  rw [kp_xwr_cf]
theorem ke_xwr_n_en (S : St) (a b : Nat) : e_n_en (xwr S a b) = e_n_en S := by
  unfold e_n_en
  rw [kp_xwr_en]
theorem ke_xwr_n_so (S : St) (a b : Nat) : e_n_so (xwr S a b) = e_n_so S := by
  unfold e_n_so
  rw [kp_xwr_so]
theorem ke_xwr_n_co (S : St) (a b : Nat) : e_n_co (xwr S a b) = e_n_co S := by
  unfold e_n_co
  rw [kp_xwr_co]
theorem ke_xwr_n_sc (S : St) (a b : Nat) : e_n_sc (xwr S a b) = e_n_sc S := by
  unfold e_n_sc
  rw [kp_xwr_sc]
theorem ke_xset_k_ce (S : St) (r v : Nat) : e_k_ce (xset S r v) = e_k_ce S := by
  unfold e_k_ce
  rw [kp_xset_im]
theorem ke_xset_k_bc (S : St) (r v : Nat) : e_k_bc (xset S r v) = e_k_bc S := by
  unfold e_k_bc
  rw [kp_xset_bk]
theorem ke_xset_n_sb (S : St) (r v : Nat) : e_n_sb (xset S r v) = e_n_sb S := by
  unfold e_n_sb
  rw [kp_xset_sb]
theorem ke_xset_n_st (S : St) (r v : Nat) : e_n_st (xset S r v) = e_n_st S := by
  unfold e_n_st
  rw [kp_xset_st]
theorem ke_xset_n_pl (S : St) (r v : Nat) : e_n_pl (xset S r v) = e_n_pl S := by
  unfold e_n_pl
  rw [kp_xset_pl]
theorem ke_xset_n_z (S : St) (r v : Nat) : e_n_z (xset S r v) = e_n_z S := by
  unfold e_n_z
  rw [kp_xset_zf]
theorem ke_xset_n_n (S : St) (r v : Nat) : e_n_n (xset S r v) = e_n_n S := by
  unfold e_n_n
  rw [kp_xset_nf]
theorem ke_xset_n_h (S : St) (r v : Nat) : e_n_h (xset S r v) = e_n_h S := by
  unfold e_n_h
  rw [kp_xset_hf]
theorem ke_xset_n_c (S : St) (r v : Nat) : e_n_c (xset S r v) = e_n_c S := by
  unfold e_n_c
  rw [kp_xset_cf]
theorem ke_xset_n_en (S : St) (r v : Nat) : e_n_en (xset S r v) = e_n_en S := by
  unfold e_n_en
  rw [kp_xset_en]
theorem ke_xset_n_so (S : St) (r v : Nat) : e_n_so (xset S r v) = e_n_so S := by
  unfold e_n_so
  rw [kp_xset_so]
theorem ke_xset_n_co (S : St) (r v : Nat) : e_n_co (xset S r v) = e_n_co S := by
  unfold e_n_co
  rw [kp_xset_co]
theorem ke_xset_n_sc (S : St) (r v : Nat) : e_n_sc (xset S r v) = e_n_sc S := by
  unfold e_n_sc
  rw [kp_xset_sc]
theorem ke_xpush_k_ce (S : St) (v : Nat) : e_k_ce (xpush S v) = e_k_ce S := by
  unfold e_k_ce
  rw [kp_xpush_im]
theorem ke_xpush_k_bc (S : St) (v : Nat) : e_k_bc (xpush S v) = e_k_bc S := by
  unfold e_k_bc
  rw [kp_xpush_bk]
theorem ke_xpush_n_rg (S : St) (v : Nat) : e_n_rg (xpush S v) = e_n_rg S := by
  unfold e_n_rg
  rw [kp_xpush_rg]
theorem ke_xpush_n_sb (S : St) (v : Nat) : e_n_sb (xpush S v) = e_n_sb S := by
  unfold e_n_sb
  rw [kp_xpush_sb]
theorem ke_xpush_n_pl (S : St) (v : Nat) : e_n_pl (xpush S v) = e_n_pl S := by
  unfold e_n_pl
  rw [kp_xpush_pl]
theorem ke_xpush_n_z (S : St) (v : Nat) : e_n_z (xpush S v) = e_n_z S := by
  unfold e_n_z
  rw [kp_xpush_zf]
theorem ke_xpush_n_n (S : St) (v : Nat) : e_n_n (xpush S v) = e_n_n S := by
  unfold e_n_n
  rw [kp_xpush_nf]
theorem ke_xpush_n_h (S : St) (v : Nat) : e_n_h (xpush S v) = e_n_h S := by
  unfold e_n_h
  rw [kp_xpush_hf]
theorem ke_xpush_n_c (S : St) (v : Nat) : e_n_c (xpush S v) = e_n_c S := by
  unfold e_n_c
  rw [kp_xpush_cf]
theorem ke_xpush_n_en (S : St) (v : Nat) : e_n_en (xpush S v) = e_n_en S := by
  unfold e_n_en
  rw [kp_xpush_en]
theorem ke_xpush_n_so (S : St) (v : Nat) : e_n_so (xpush S v) = e_n_so S := by
  unfold e_n_so
  rw [kp_xpush_so]
theorem ke_xpush_n_co (S : St) (v : Nat) : e_n_co (xpush S v) = e_n_co S := by
  unfold e_n_co
  rw [kp_xpush_co]
theorem ke_xpush_n_sc (S : St) (v : Nat) : e_n_sc (xpush S v) = e_n_sc S := by
  unfold e_n_sc
  rw [kp_xpush_sc]
theorem ke_xpop_k_ce (S : St) : e_k_ce (xpop S ) = e_k_ce S := by
  unfold e_k_ce
  rw [kp_xpop_im]
theorem ke_xpop_k_bc (S : St) : e_k_bc (xpop S ) = e_k_bc S := by
  unfold e_k_bc
  rw [kp_xpop_bk]
theorem ke_xpop_m_ra (S : St) : e_m_ra (xpop S ) = e_m_ra S := by
  unfold e_m_ra
  rw [kp_xpop_ra]
theorem ke_xpop_m_up (S : St) : e_m_up (xpop S ) = e_m_up S := by
  unfold e_m_up
  rw [kp_xpop_up]
theorem ke_xpop_m_on (S : St) : e_m_on (xpop S ) = e_m_on S := by
  unfold e_m_on
  rw [kp_xpop_on]
theorem ke_xpop_m_lo (S : St) : e_m_lo (xpop S ) = e_m_lo S := by
  unfold e_m_lo
  rw [kp_xpop_lo]
theorem ke_xpop_m_hi (S : St) : e_m_hi (xpop S ) = e_m_hi S := by
  unfold e_m_hi
  rw [kp_xpop_hi]
theorem ke_xpop_m_mo (S : St) : e_m_mo (xpop S ) = e_m_mo S := by
  unfold e_m_mo
  rw [kp_xpop_mo]
theorem ke_xpop_m_ma (S : St) : e_m_ma (xpop S ) = e_m_ma S := by
  unfold e_m_ma
  rw [kp_xpop_ma]
theorem ke_xpop_m_li (S : St) : e_m_li (xpop S ) = e_m_li S := by
  unfold e_m_li
  rw [kp_xpop_li]
theorem ke_xpop_n_rg (S : St) : e_n_rg (xpop S ) = e_n_rg S := by
  unfold e_n_rg
  rw [kp_xpop_rg]
theorem ke_xpop_n_sb (S : St) : e_n_sb (xpop S ) = e_n_sb S := by
  unfold e_n_sb
  rw [kp_xpop_sb]
theorem ke_xpop_n_pl (S : St) : e_n_pl (xpop S ) = e_n_pl S := by
  unfold e_n_pl
  rw [kp_xpop_pl]
theorem ke_xpop_n_z (S : St) : e_n_z (xpop S ) = e_n_z S := by
  unfold e_n_z
  rw [kp_xpop_zf]
theorem ke_xpop_n_n (S : St) : e_n_n (xpop S ) = e_n_n S := by
  unfold e_n_n
  rw [kp_xpop_nf]
theorem ke_xpop_n_h (S : St) : e_n_h (xpop S ) = e_n_h S := by
  unfold e_n_h
  rw [kp_xpop_hf]
theorem ke_xpop_n_c (S : St) : e_n_c (xpop S ) = e_n_c S := by
  unfold e_n_c
  rw [kp_xpop_cf]
theorem ke_xpop_n_en (S : St) : e_n_en (xpop S ) = e_n_en S := by
  unfold e_n_en
  rw [kp_xpop_en]
theorem ke_xpop_n_so (S : St) : e_n_so (xpop S ) = e_n_so S := by
  unfold e_n_so
  rw [kp_xpop_so]
theorem ke_xpop_n_co (S : St) : e_n_co (xpop S ) = e_n_co S := by
  unfold e_n_co
  rw [kp_xpop_co]
theorem ke_xpop_n_sc (S : St) : e_n_sc (xpop S ) = e_n_sc S := by
  unfold e_n_sc
  rw [kp_xpop_sc]
theorem ke_xnx_k_ce (S : St) : e_k_ce (xnx S ) = e_k_ce S := by
  unfold e_k_ce
  rw [kp_xnx_im]
theorem ke_xnx_k_bc (S : St) : e_k_bc (xnx S ) = e_k_bc S := by
  unfold e_k_bc
  rw [kp_xnx_bk]
theorem ke_xnx_m_ra (S : St) : e_m_ra (xnx S ) = e_m_ra S := by
  unfold e_m_ra
  rw [kp_xnx_ra]
theorem ke_xnx_m_up (S : St) : e_m_up (xnx S ) = e_m_up S := by
  unfold e_m_up
  rw [kp_xnx_up]
theorem ke_xnx_m_on (S : St) : e_m_on (xnx S ) = e_m_on S := by
  unfold e_m_on
  rw [kp_xnx_on]
theorem ke_xnx_m_lo (S : St) : e_m_lo (xnx S ) = e_m_lo S := by
  unfold e_m_lo
  rw [kp_xnx_lo]
theorem ke_xnx_m_hi (S : St) : e_m_hi (xnx S ) = e_m_hi S := by
  unfold e_m_hi
  rw [kp_xnx_hi]
theorem ke_xnx_m_mo (S : St) : e_m_mo (xnx S ) = e_m_mo S := by
  unfold e_m_mo
  rw [kp_xnx_mo]
theorem ke_xnx_m_ma (S : St) : e_m_ma (xnx S ) = e_m_ma S := by
  unfold e_m_ma
  rw [kp_xnx_ma]
theorem ke_xnx_m_li (S : St) : e_m_li (xnx S ) = e_m_li S := by
  unfold e_m_li
  rw [kp_xnx_li]
theorem ke_xnx_n_rg (S : St) : e_n_rg (xnx S ) = e_n_rg S := by
  unfold e_n_rg
  rw [kp_xnx_rg]
theorem ke_xnx_n_sb (S : St) : e_n_sb (xnx S ) = e_n_sb S := by
  unfold e_n_sb
  rw [kp_xnx_sb]
theorem ke_xnx_n_st (S : St) : e_n_st (xnx S ) = e_n_st S := by
  unfold e_n_st
  rw [kp_xnx_st]
theorem ke_xnx_n_z (S : St) : e_n_z (xnx S ) = e_n_z S := by
  unfold e_n_z
  rw [kp_xnx_zf]
theorem ke_xnx_n_n (S : St) : e_n_n (xnx S ) = e_n_n S := by
  unfold e_n_n
  rw [kp_xnx_nf]
theorem ke_xnx_n_h (S : St) : e_n_h (xnx S ) = e_n_h S := by
  unfold e_n_h
  rw [kp_xnx_hf]
theorem ke_xnx_n_c (S : St) : e_n_c (xnx S ) = e_n_c S := by
  unfold e_n_c
  rw [kp_xnx_cf]
theorem ke_xnx_n_en (S : St) : e_n_en (xnx S ) = e_n_en S := by
  unfold e_n_en
  rw [kp_xnx_en]
theorem ke_xnx_n_so (S : St) : e_n_so (xnx S ) = e_n_so S := by
  unfold e_n_so
  rw [kp_xnx_so]
theorem ke_xnx_n_co (S : St) : e_n_co (xnx S ) = e_n_co S := by
  unfold e_n_co
  rw [kp_xnx_co]
theorem ke_xnx_n_sc (S : St) : e_n_sc (xnx S ) = e_n_sc S := by
  unfold e_n_sc
  rw [kp_xnx_sc]
theorem ke_xfl_k_ce (S : St) (z n h c : Bool) : e_k_ce (xfl S z n h c) = e_k_ce S := by
  unfold e_k_ce
  rw [kp_xfl_im]
theorem ke_xfl_k_bc (S : St) (z n h c : Bool) : e_k_bc (xfl S z n h c) = e_k_bc S := by
  unfold e_k_bc
  rw [kp_xfl_bk]
theorem ke_xfl_m_ra (S : St) (z n h c : Bool) : e_m_ra (xfl S z n h c) = e_m_ra S := by
  unfold e_m_ra
  rw [kp_xfl_ra]
theorem ke_xfl_m_up (S : St) (z n h c : Bool) : e_m_up (xfl S z n h c) = e_m_up S := by
  unfold e_m_up
  rw [kp_xfl_up]
theorem ke_xfl_m_on (S : St) (z n h c : Bool) : e_m_on (xfl S z n h c) = e_m_on S := by
  unfold e_m_on
  rw [kp_xfl_on]
theorem ke_xfl_m_lo (S : St) (z n h c : Bool) : e_m_lo (xfl S z n h c) = e_m_lo S := by
  unfold e_m_lo
  rw [kp_xfl_lo]
theorem ke_xfl_m_hi (S : St) (z n h c : Bool) : e_m_hi (xfl S z n h c) = e_m_hi S := by
  unfold e_m_hi
  rw [kp_xfl_hi]
theorem ke_xfl_m_mo (S : St) (z n h c : Bool) : e_m_mo (xfl S z n h c) = e_m_mo S := by
  unfold e_m_mo
  rw [kp_xfl_mo]
theorem ke_xfl_m_ma (S : St) (z n h c : Bool) : e_m_ma (xfl S z n h c) = e_m_ma S := by
  unfold e_m_ma
  rw [kp_xfl_ma]
theorem ke_xfl_m_li (S : St) (z n h c : Bool) : e_m_li (xfl S z n h c) = e_m_li S := by
  unfold e_m_li
  rw [kp_xfl_li]
theorem ke_xfl_n_rg (S : St) (z n h c : Bool) : e_n_rg (xfl S z n h c) = e_n_rg S := by
  unfold e_n_rg
  rw [kp_xfl_rg]
theorem ke_xfl_n_sb (S : St) (z n h c : Bool) : e_n_sb (xfl S z n h c) = e_n_sb S := by
  unfold e_n_sb
  rw [kp_xfl_sb]
theorem ke_xfl_n_st (S : St) (z n h c : Bool) : e_n_st (xfl S z n h c) = e_n_st S := by
  unfold e_n_st
  rw [kp_xfl_st]
theorem ke_xfl_n_pl (S : St) (z n h c : Bool) : e_n_pl (xfl S z n h c) = e_n_pl S := by
  unfold e_n_pl
  rw [kp_xfl_pl]
theorem ke_xfl_n_en (S : St) (z n h c : Bool) : e_n_en (xfl S z n h c) = e_n_en S := by
  unfold e_n_en
  rw [kp_xfl_en]
theorem ke_xfl_n_so (S : St) (z n h c : Bool) : e_n_so (xfl S z n h c) = e_n_so S := by
  unfold e_n_so
  rw [kp_xfl_so]
theorem ke_xfl_n_co (S : St) (z n h c : Bool) : e_n_co (xfl S z n h c) = e_n_co S := by
  unfold e_n_co
  rw [kp_xfl_co]
theorem ke_xfl_n_sc (S : St) (z n h c : Bool) : e_n_sc (xfl S z n h c) = e_n_sc S := by
  unfold e_n_sc
  rw [kp_xfl_sc]
theorem ke_xA_k_ce (S : St) (v : Nat) : e_k_ce (xA S v) = e_k_ce S := by
  unfold e_k_ce
  rw [kp_xA_im]
theorem ke_xA_k_bc (S : St) (v : Nat) : e_k_bc (xA S v) = e_k_bc S := by
  unfold e_k_bc
  rw [kp_xA_bk]
theorem ke_xA_m_ra (S : St) (v : Nat) : e_m_ra (xA S v) = e_m_ra S := by
  unfold e_m_ra
  rw [kp_xA_ra]
theorem ke_xA_m_up (S : St) (v : Nat) : e_m_up (xA S v) = e_m_up S := by
  unfold e_m_up
  rw [kp_xA_up]
theorem ke_xA_m_on (S : St) (v : Nat) : e_m_on (xA S v) = e_m_on S := by
  unfold e_m_on
  rw [kp_xA_on]
theorem ke_xA_m_lo (S : St) (v : Nat) : e_m_lo (xA S v) = e_m_lo S := by
  unfold e_m_lo
  rw [kp_xA_lo]
theorem ke_xA_m_hi (S : St) (v : Nat) : e_m_hi (xA S v) = e_m_hi S := by
  unfold e_m_hi
  rw [kp_xA_hi]
theorem ke_xA_m_mo (S : St) (v : Nat) : e_m_mo (xA S v) = e_m_mo S := by
  unfold e_m_mo
  rw [kp_xA_mo]
theorem ke_xA_m_ma (S : St) (v : Nat) : e_m_ma (xA S v) = e_m_ma S := by
  unfold e_m_ma
  rw [kp_xA_ma]
theorem ke_xA_m_li (S : St) (v : Nat) : e_m_li (xA S v) = e_m_li S := by
  unfold e_m_li
  rw [kp_xA_li]
theorem ke_xA_n_sb (S : St) (v : Nat) : e_n_sb (xA S v) = e_n_sb S := by
  unfold e_n_sb
  rw [kp_xA_sb]
theorem ke_xA_n_st (S : St) (v : Nat) : e_n_st (xA S v) = e_n_st S := by
  unfold e_n_st
  rw [kp_xA_st]
theorem ke_xA_n_pl (S : St) (v : Nat) : e_n_pl (xA S v) = e_n_pl S := by
  unfold e_n_pl
  rw [kp_xA_pl]
theorem ke_xA_n_z (S : St) (v : Nat) : e_n_z (xA S v) = e_n_z S := by
  unfold e_n_z
  rw [kp_xA_zf]
theorem ke_xA_n_n (S : St) (v : Nat) : e_n_n (xA S v) = e_n_n S := by
  unfold e_n_n
  rw [kp_xA_nf]
theorem ke_xA_n_h (S : St) (v : Nat) : e_n_h (xA S v) = e_n_h S := by
  unfold e_n_h
  rw [kp_xA_hf]
theorem ke_xA_n_c (S : St) (v : Nat) : e_n_c (xA S v) = e_n_c S := by
  unfold e_n_c
  rw [kp_xA_cf]
theorem ke_xA_n_en (S : St) (v : Nat) : e_n_en (xA S v) = e_n_en S := by
  unfold e_n_en
  rw [kp_xA_en]
theorem ke_xA_n_so (S : St) (v : Nat) : e_n_so (xA S v) = e_n_so S := by
  unfold e_n_so
  rw [kp_xA_so]
theorem ke_xA_n_co (S : St) (v : Nat) : e_n_co (xA S v) = e_n_co S := by
  unfold e_n_co
  rw [kp_xA_co]
theorem ke_xA_n_sc (S : St) (v : Nat) : e_n_sc (xA S v) = e_n_sc S := by
  unfold e_n_sc
  rw [kp_xA_sc]
theorem ke_xend_k_ce (S : St) (k : Nat) : e_k_ce (xend S k) = e_k_ce S := by
  unfold e_k_ce
  rw [kp_xend_im]
theorem ke_xend_k_bc (S : St) (k : Nat) : e_k_bc (xend S k) = e_k_bc S := by
  unfold e_k_bc
  rw [kp_xend_bk]
theorem ke_xend_m_ra (S : St) (k : Nat) : e_m_ra (xend S k) = e_m_ra S := by
  unfold e_m_ra
  rw [kp_xend_ra]
theorem ke_xend_m_up (S : St) (k : Nat) : e_m_up (xend S k) = e_m_up S := by
  unfold e_m_up
  rw [kp_xend_up]
theorem ke_xend_m_on (S : St) (k : Nat) : e_m_on (xend S k) = e_m_on S := by
  unfold e_m_on
  rw [kp_xend_on]
theorem ke_xend_m_lo (S : St) (k : Nat) : e_m_lo (xend S k) = e_m_lo S := by
  unfold e_m_lo
  rw [kp_xend_lo]
theorem ke_xend_m_hi (S : St) (k : Nat) : e_m_hi (xend S k) = e_m_hi S := by
  unfold e_m_hi
  rw [kp_xend_hi]
theorem ke_xend_m_mo (S : St) (k : Nat) : e_m_mo (xend S k) = e_m_mo S := by
  unfold e_m_mo
  rw [kp_xend_mo]
theorem ke_xend_m_ma (S : St) (k : Nat) : e_m_ma (xend S k) = e_m_ma S := by
  unfold e_m_ma
  rw [kp_xend_ma]
theorem ke_xend_m_li (S : St) (k : Nat) : e_m_li (xend S k) = e_m_li S := by
  unfold e_m_li
  rw [kp_xend_li]
theorem ke_xend_n_rg (S : St) (k : Nat) : e_n_rg (xend S k) = e_n_rg S := by
  unfold e_n_rg
  rw [kp_xend_rg]
theorem ke_xend_n_sb (S : St) (k : Nat) : e_n_sb (xend S k) = e_n_sb S := by
  unfold e_n_sb
  rw [kp_xend_sb]
theorem ke_xend_n_st (S : St) (k : Nat) : e_n_st (xend S k) = e_n_st S := by
  unfold e_n_st
  rw [kp_xend_st]
theorem ke_xend_n_z (S : St) (k : Nat) : e_n_z (xend S k) = e_n_z S := by
  unfold e_n_z
  rw [kp_xend_zf]
theorem ke_xend_n_n (S : St) (k : Nat) : e_n_n (xend S k) = e_n_n S := by
  unfold e_n_n
  rw [kp_xend_nf]
theorem ke_xend_n_h (S : St) (k : Nat) : e_n_h (xend S k) = e_n_h S := by
  unfold e_n_h
  rw [kp_xend_hf]
theorem ke_xend_n_c (S : St) (k : Nat) : e_n_c (xend S k) = e_n_c S := by
  unfold e_n_c
  rw [kp_xend_cf]
theorem ke_xend_n_en (S : St) (k : Nat) : e_n_en (xend S k) = e_n_en S := by
  unfold e_n_en
  rw [kp_xend_en]
theorem ke_xend_n_so (S : St) (k : Nat) : e_n_so (xend S k) = e_n_so S := by
  unfold e_n_so
  rw [kp_xend_so]
theorem ke_xend_n_sc (S : St) (k : Nat) : e_n_sc (xend S k) = e_n_sc S := by
  unfold e_n_sc
  rw [kp_xend_sc]
theorem ke_xsend_k_ce (S : St) : e_k_ce (xsend S ) = e_k_ce S := by
  unfold e_k_ce
  rw [kp_xsend_im]
theorem ke_xsend_k_bc (S : St) : e_k_bc (xsend S ) = e_k_bc S := by
  unfold e_k_bc
  rw [kp_xsend_bk]
theorem ke_xsend_m_ra (S : St) : e_m_ra (xsend S ) = e_m_ra S := by
  unfold e_m_ra
  rw [kp_xsend_ra]
theorem ke_xsend_m_up (S : St) : e_m_up (xsend S ) = e_m_up S := by
  unfold e_m_up
  rw [kp_xsend_up]
theorem ke_xsend_m_on (S : St) : e_m_on (xsend S ) = e_m_on S := by
  unfold e_m_on
  rw [kp_xsend_on]
theorem ke_xsend_m_lo (S : St) : e_m_lo (xsend S ) = e_m_lo S := by
  unfold e_m_lo
  rw [kp_xsend_lo]
theorem ke_xsend_m_hi (S : St) : e_m_hi (xsend S ) = e_m_hi S := by
  unfold e_m_hi
  rw [kp_xsend_hi]
theorem ke_xsend_m_mo (S : St) : e_m_mo (xsend S ) = e_m_mo S := by
  unfold e_m_mo
  rw [kp_xsend_mo]
theorem ke_xsend_m_ma (S : St) : e_m_ma (xsend S ) = e_m_ma S := by
  unfold e_m_ma
  rw [kp_xsend_ma]
theorem ke_xsend_m_li (S : St) : e_m_li (xsend S ) = e_m_li S := by
  unfold e_m_li
  rw [kp_xsend_li]
theorem ke_xsend_n_rg (S : St) : e_n_rg (xsend S ) = e_n_rg S := by
  unfold e_n_rg
  rw [kp_xsend_rg]
theorem ke_xsend_n_st (S : St) : e_n_st (xsend S ) = e_n_st S := by
  unfold e_n_st
  rw [kp_xsend_st]
theorem ke_xsend_n_pl (S : St) : e_n_pl (xsend S ) = e_n_pl S := by
  unfold e_n_pl
  rw [kp_xsend_pl]
theorem ke_xsend_n_z (S : St) : e_n_z (xsend S ) = e_n_z S := by
  unfold e_n_z
  rw [kp_xsend_zf]
theorem ke_xsend_n_n (S : St) : e_n_n (xsend S ) = e_n_n S := by
  unfold e_n_n
  rw [kp_xsend_nf]
theorem ke_xsend_n_h (S : St) : e_n_h (xsend S ) = e_n_h S := by
  unfold e_n_h
  rw [kp_xsend_hf]
theorem ke_xsend_n_c (S : St) : e_n_c (xsend S ) = e_n_c S := by
  unfold e_n_c
  rw [kp_xsend_cf]
theorem ke_xsend_n_en (S : St) : e_n_en (xsend S ) = e_n_en S := by
  unfold e_n_en
  rw [kp_xsend_en]
theorem ke_xsend_n_so (S : St) : e_n_so (xsend S ) = e_n_so S := by
  unfold e_n_so
  rw [kp_xsend_so]
theorem ke_xsend_n_co (S : St) : e_n_co (xsend S ) = e_n_co S := by
  unfold e_n_co
  rw [kp_xsend_co]
theorem ke_xwr_q_banks (S : St) (a b : Nat) : e_q_banks (xwr S a b) = e_q_banks S := by
  unfold e_q_banks
  rw [kp_xwr_bk]
theorem ke_xwr_q_register (S : St) (a b : Nat) : e_q_register (xwr S a b) = e_q_register S := by
  unfold e_q_register
  rw [kp_xwr_rg]
theorem ke_xwr_q_stack (S : St) (a b : Nat) : e_q_stack (xwr S a b) = e_q_stack S := by
  unfold e_q_stack
  rw [kp_xwr_st]
theorem ke_xwr_q_place (S : St) (a b : Nat) : e_q_place (xwr S a b) = e_q_place S := by
  unfold e_q_place
  rw [kp_xwr_pl]
theorem ke_xwr_q_zero (S : St) (a b : Nat) : e_q_zero (xwr S a b) = e_q_zero S := by
  unfold e_q_zero
  rw [kp_xwr_zf]
theorem ke_xwr_q_less (S : St) (a b : Nat) : e_q_less (xwr S a b) = e_q_less S := by
  unfold e_q_less
  rw [kp_xwr_nf]
theorem ke_xwr_q_half (S : St) (a b : Nat) : e_q_half (xwr S a b) = e_q_half S := by
  unfold e_q_half
  rw [kp_xwr_hf]
theorem ke_xwr_q_carry (S : St) (a b : Nat) : e_q_carry (xwr S a b) = e_q_carry S := by
  unfold e_q_carry
  rw [kp_xwr_cf]
theorem ke_xwr_q_enabled (S : St) (a b : Nat) : e_q_enabled (xwr S a b) = e_q_enabled S := by
  unfold e_q_enabled
  rw [kp_xwr_en]
theorem ke_xwr_q_soon (S : St) (a b : Nat) : e_q_soon (xwr S a b) = e_q_soon S := by
  unfold e_q_soon
  rw [kp_xwr_so]
theorem ke_xwr_q_state (S : St) (a b : Nat) : e_q_state (xwr S a b) = e_q_state S := by
  unfold e_q_state
  rw [kp_xwr_co]
theorem ke_xwr_q_sent (S : St) (a b : Nat) : e_q_sent (xwr S a b) = e_q_sent S := by
  unfold e_q_sent
  rw [kp_xwr_sc]
theorem ke_xwr_q_out (S : St) (a b : Nat) : e_q_out (xwr S a b) = e_q_out S := by
  unfold e_q_out
  rw [kp_xwr_sb]
theorem ke_xset_q_banks (S : St) (r v : Nat) : e_q_banks (xset S r v) = e_q_banks S := by
  unfold e_q_banks
  rw [kp_xset_bk]
theorem ke_xset_q_stack (S : St) (r v : Nat) : e_q_stack (xset S r v) = e_q_stack S := by
  unfold e_q_stack
  rw [kp_xset_st]
theorem ke_xset_q_place (S : St) (r v : Nat) : e_q_place (xset S r v) = e_q_place S := by
  unfold e_q_place
  rw [kp_xset_pl]
theorem ke_xset_q_zero (S : St) (r v : Nat) : e_q_zero (xset S r v) = e_q_zero S := by
  unfold e_q_zero
  rw [kp_xset_zf]
theorem ke_xset_q_less (S : St) (r v : Nat) : e_q_less (xset S r v) = e_q_less S := by
  unfold e_q_less
  rw [kp_xset_nf]
theorem ke_xset_q_half (S : St) (r v : Nat) : e_q_half (xset S r v) = e_q_half S := by
  unfold e_q_half
  rw [kp_xset_hf]
theorem ke_xset_q_carry (S : St) (r v : Nat) : e_q_carry (xset S r v) = e_q_carry S := by
  unfold e_q_carry
  rw [kp_xset_cf]
theorem ke_xset_q_enabled (S : St) (r v : Nat) : e_q_enabled (xset S r v) = e_q_enabled S := by
  unfold e_q_enabled
  rw [kp_xset_en]
theorem ke_xset_q_soon (S : St) (r v : Nat) : e_q_soon (xset S r v) = e_q_soon S := by
  unfold e_q_soon
  rw [kp_xset_so]
theorem ke_xset_q_state (S : St) (r v : Nat) : e_q_state (xset S r v) = e_q_state S := by
  unfold e_q_state
  rw [kp_xset_co]
theorem ke_xset_q_sent (S : St) (r v : Nat) : e_q_sent (xset S r v) = e_q_sent S := by
  unfold e_q_sent
  rw [kp_xset_sc]
theorem ke_xset_q_out (S : St) (r v : Nat) : e_q_out (xset S r v) = e_q_out S := by
  unfold e_q_out
  rw [kp_xset_sb]
theorem ke_xpush_q_banks (S : St) (v : Nat) : e_q_banks (xpush S v) = e_q_banks S := by
  unfold e_q_banks
  rw [kp_xpush_bk]
theorem ke_xpush_q_register (S : St) (v : Nat) : e_q_register (xpush S v) = e_q_register S := by
  unfold e_q_register
  rw [kp_xpush_rg]
theorem ke_xpush_q_place (S : St) (v : Nat) : e_q_place (xpush S v) = e_q_place S := by
  unfold e_q_place
  rw [kp_xpush_pl]
theorem ke_xpush_q_zero (S : St) (v : Nat) : e_q_zero (xpush S v) = e_q_zero S := by
  unfold e_q_zero
  rw [kp_xpush_zf]
theorem ke_xpush_q_less (S : St) (v : Nat) : e_q_less (xpush S v) = e_q_less S := by
  unfold e_q_less
  rw [kp_xpush_nf]
theorem ke_xpush_q_half (S : St) (v : Nat) : e_q_half (xpush S v) = e_q_half S := by
  unfold e_q_half
  rw [kp_xpush_hf]
theorem ke_xpush_q_carry (S : St) (v : Nat) : e_q_carry (xpush S v) = e_q_carry S := by
  unfold e_q_carry
  rw [kp_xpush_cf]
theorem ke_xpush_q_enabled (S : St) (v : Nat) : e_q_enabled (xpush S v) = e_q_enabled S := by
  unfold e_q_enabled
  rw [kp_xpush_en]
theorem ke_xpush_q_soon (S : St) (v : Nat) : e_q_soon (xpush S v) = e_q_soon S := by
  unfold e_q_soon
  rw [kp_xpush_so]
theorem ke_xpush_q_state (S : St) (v : Nat) : e_q_state (xpush S v) = e_q_state S := by
  unfold e_q_state
  rw [kp_xpush_co]
theorem ke_xpush_q_sent (S : St) (v : Nat) : e_q_sent (xpush S v) = e_q_sent S := by
  unfold e_q_sent
  rw [kp_xpush_sc]
theorem ke_xpush_q_out (S : St) (v : Nat) : e_q_out (xpush S v) = e_q_out S := by
  unfold e_q_out
  rw [kp_xpush_sb]
theorem ke_xpop_q_banks (S : St) : e_q_banks (xpop S ) = e_q_banks S := by
  unfold e_q_banks
  rw [kp_xpop_bk]
theorem ke_xpop_q_memory (S : St) : e_q_memory (xpop S ) = e_q_memory S := by
  unfold e_q_memory mm_
  simp only [kp_xpop_im, kp_xpop_ra, kp_xpop_up, kp_xpop_ma, kp_xpop_li]
theorem ke_xpop_q_register (S : St) : e_q_register (xpop S ) = e_q_register S := by
  unfold e_q_register
  rw [kp_xpop_rg]
theorem ke_xpop_q_place (S : St) : e_q_place (xpop S ) = e_q_place S := by
  unfold e_q_place
  rw [kp_xpop_pl]
theorem ke_xpop_q_zero (S : St) : e_q_zero (xpop S ) = e_q_zero S := by
  unfold e_q_zero
  rw [kp_xpop_zf]
theorem ke_xpop_q_less (S : St) : e_q_less (xpop S ) = e_q_less S := by
  unfold e_q_less
  rw [kp_xpop_nf]
theorem ke_xpop_q_half (S : St) : e_q_half (xpop S ) = e_q_half S := by
  unfold e_q_half
  rw [kp_xpop_hf]
theorem ke_xpop_q_carry (S : St) : e_q_carry (xpop S ) = e_q_carry S := by
  unfold e_q_carry
  rw [kp_xpop_cf]
theorem ke_xpop_q_enabled (S : St) : e_q_enabled (xpop S ) = e_q_enabled S := by
  unfold e_q_enabled
  rw [kp_xpop_en]
theorem ke_xpop_q_soon (S : St) : e_q_soon (xpop S ) = e_q_soon S := by
  unfold e_q_soon
  rw [kp_xpop_so]
theorem ke_xpop_q_ram (S : St) : e_q_ram (xpop S ) = e_q_ram S := by
  unfold e_q_ram
  rw [kp_xpop_on]
theorem ke_xpop_q_low (S : St) : e_q_low (xpop S ) = e_q_low S := by
  unfold e_q_low
  rw [kp_xpop_lo]
theorem ke_xpop_q_top (S : St) : e_q_top (xpop S ) = e_q_top S := by
  unfold e_q_top
  rw [kp_xpop_hi]
theorem ke_xpop_q_mode (S : St) : e_q_mode (xpop S ) = e_q_mode S := by
  unfold e_q_mode
  rw [kp_xpop_mo]
theorem ke_xpop_q_state (S : St) : e_q_state (xpop S ) = e_q_state S := by
  unfold e_q_state
  rw [kp_xpop_co]
theorem ke_xpop_q_sent (S : St) : e_q_sent (xpop S ) = e_q_sent S := by
  unfold e_q_sent
  rw [kp_xpop_sc]
theorem ke_xpop_q_out (S : St) : e_q_out (xpop S ) = e_q_out S := by
  unfold e_q_out
  rw [kp_xpop_sb]
theorem ke_xnx_q_banks (S : St) : e_q_banks (xnx S ) = e_q_banks S := by
  unfold e_q_banks
  rw [kp_xnx_bk]
theorem ke_xnx_q_memory (S : St) : e_q_memory (xnx S ) = e_q_memory S := by
  unfold e_q_memory mm_
  simp only [kp_xnx_im, kp_xnx_ra, kp_xnx_up, kp_xnx_ma, kp_xnx_li]
theorem ke_xnx_q_register (S : St) : e_q_register (xnx S ) = e_q_register S := by
  unfold e_q_register
  rw [kp_xnx_rg]
theorem ke_xnx_q_stack (S : St) : e_q_stack (xnx S ) = e_q_stack S := by
  unfold e_q_stack
  rw [kp_xnx_st]
theorem ke_xnx_q_zero (S : St) : e_q_zero (xnx S ) = e_q_zero S := by
  unfold e_q_zero
  rw [kp_xnx_zf]
theorem ke_xnx_q_less (S : St) : e_q_less (xnx S ) = e_q_less S := by
  unfold e_q_less
  rw [kp_xnx_nf]
theorem ke_xnx_q_half (S : St) : e_q_half (xnx S ) = e_q_half S := by
  unfold e_q_half
  rw [kp_xnx_hf]
theorem ke_xnx_q_carry (S : St) : e_q_carry (xnx S ) = e_q_carry S := by
  unfold e_q_carry
  rw [kp_xnx_cf]
theorem ke_xnx_q_enabled (S : St) : e_q_enabled (xnx S ) = e_q_enabled S := by
  unfold e_q_enabled
  rw [kp_xnx_en]
theorem ke_xnx_q_soon (S : St) : e_q_soon (xnx S ) = e_q_soon S := by
  unfold e_q_soon
  rw [kp_xnx_so]
theorem ke_xnx_q_ram (S : St) : e_q_ram (xnx S ) = e_q_ram S := by
  unfold e_q_ram
  rw [kp_xnx_on]
theorem ke_xnx_q_low (S : St) : e_q_low (xnx S ) = e_q_low S := by
  unfold e_q_low
  rw [kp_xnx_lo]
theorem ke_xnx_q_top (S : St) : e_q_top (xnx S ) = e_q_top S := by
  unfold e_q_top
  rw [kp_xnx_hi]
theorem ke_xnx_q_mode (S : St) : e_q_mode (xnx S ) = e_q_mode S := by
  unfold e_q_mode
  rw [kp_xnx_mo]
theorem ke_xnx_q_state (S : St) : e_q_state (xnx S ) = e_q_state S := by
  unfold e_q_state
  rw [kp_xnx_co]
theorem ke_xnx_q_sent (S : St) : e_q_sent (xnx S ) = e_q_sent S := by
  unfold e_q_sent
  rw [kp_xnx_sc]
theorem ke_xnx_q_out (S : St) : e_q_out (xnx S ) = e_q_out S := by
  unfold e_q_out
  rw [kp_xnx_sb]
theorem ke_xfl_q_banks (S : St) (z n h c : Bool) : e_q_banks (xfl S z n h c) = e_q_banks S := by
  unfold e_q_banks
  rw [kp_xfl_bk]
theorem ke_xfl_q_memory (S : St) (z n h c : Bool) : e_q_memory (xfl S z n h c) = e_q_memory S := by
  unfold e_q_memory mm_
  simp only [kp_xfl_im, kp_xfl_ra, kp_xfl_up, kp_xfl_ma, kp_xfl_li]
theorem ke_xfl_q_register (S : St) (z n h c : Bool) : e_q_register (xfl S z n h c) = e_q_register S := by
  unfold e_q_register
  rw [kp_xfl_rg]
theorem ke_xfl_q_stack (S : St) (z n h c : Bool) : e_q_stack (xfl S z n h c) = e_q_stack S := by
  unfold e_q_stack
  rw [kp_xfl_st]
theorem ke_xfl_q_place (S : St) (z n h c : Bool) : e_q_place (xfl S z n h c) = e_q_place S := by
  unfold e_q_place
  rw [kp_xfl_pl]
theorem ke_xfl_q_enabled (S : St) (z n h c : Bool) : e_q_enabled (xfl S z n h c) = e_q_enabled S := by
  unfold e_q_enabled
  rw [kp_xfl_en]
theorem ke_xfl_q_soon (S : St) (z n h c : Bool) : e_q_soon (xfl S z n h c) = e_q_soon S := by
  unfold e_q_soon
  rw [kp_xfl_so]
theorem ke_xfl_q_ram (S : St) (z n h c : Bool) : e_q_ram (xfl S z n h c) = e_q_ram S := by
  unfold e_q_ram
  rw [kp_xfl_on]
theorem ke_xfl_q_low (S : St) (z n h c : Bool) : e_q_low (xfl S z n h c) = e_q_low S := by
  unfold e_q_low
  rw [kp_xfl_lo]
theorem ke_xfl_q_top (S : St) (z n h c : Bool) : e_q_top (xfl S z n h c) = e_q_top S := by
  unfold e_q_top
  rw [kp_xfl_hi]
theorem ke_xfl_q_mode (S : St) (z n h c : Bool) : e_q_mode (xfl S z n h c) = e_q_mode S := by
  unfold e_q_mode
  rw [kp_xfl_mo]
theorem ke_xfl_q_state (S : St) (z n h c : Bool) : e_q_state (xfl S z n h c) = e_q_state S := by
  unfold e_q_state
  rw [kp_xfl_co]
theorem ke_xfl_q_sent (S : St) (z n h c : Bool) : e_q_sent (xfl S z n h c) = e_q_sent S := by
  unfold e_q_sent
  rw [kp_xfl_sc]
theorem ke_xfl_q_out (S : St) (z n h c : Bool) : e_q_out (xfl S z n h c) = e_q_out S := by
  unfold e_q_out
  rw [kp_xfl_sb]
theorem ke_xA_q_banks (S : St) (v : Nat) : e_q_banks (xA S v) = e_q_banks S := by
  unfold e_q_banks
  rw [kp_xA_bk]
theorem ke_xA_q_memory (S : St) (v : Nat) : e_q_memory (xA S v) = e_q_memory S := by
  unfold e_q_memory mm_
  simp only [kp_xA_im, kp_xA_ra, kp_xA_up, kp_xA_ma, kp_xA_li]
theorem ke_xA_q_stack (S : St) (v : Nat) : e_q_stack (xA S v) = e_q_stack S := by
  unfold e_q_stack
  rw [kp_xA_st]
theorem ke_xA_q_place (S : St) (v : Nat) : e_q_place (xA S v) = e_q_place S := by
  unfold e_q_place
  rw [kp_xA_pl]
theorem ke_xA_q_zero (S : St) (v : Nat) : e_q_zero (xA S v) = e_q_zero S := by
  unfold e_q_zero
  rw [kp_xA_zf]
theorem ke_xA_q_less (S : St) (v : Nat) : e_q_less (xA S v) = e_q_less S := by
  unfold e_q_less
  rw [kp_xA_nf]
theorem ke_xA_q_half (S : St) (v : Nat) : e_q_half (xA S v) = e_q_half S := by
  unfold e_q_half
  rw [kp_xA_hf]
theorem ke_xA_q_carry (S : St) (v : Nat) : e_q_carry (xA S v) = e_q_carry S := by
  unfold e_q_carry
  rw [kp_xA_cf]
theorem ke_xA_q_enabled (S : St) (v : Nat) : e_q_enabled (xA S v) = e_q_enabled S := by
  unfold e_q_enabled
  rw [kp_xA_en]
theorem ke_xA_q_soon (S : St) (v : Nat) : e_q_soon (xA S v) = e_q_soon S := by
  unfold e_q_soon
  rw [kp_xA_so]
theorem ke_xA_q_ram (S : St) (v : Nat) : e_q_ram (xA S v) = e_q_ram S := by
  unfold e_q_ram
  rw [kp_xA_on]
theorem ke_xA_q_low (S : St) (v : Nat) : e_q_low (xA S v) = e_q_low S := by
  unfold e_q_low
  rw [kp_xA_lo]
theorem ke_xA_q_top (S : St) (v : Nat) : e_q_top (xA S v) = e_q_top S := by
  unfold e_q_top
  rw [kp_xA_hi]
theorem ke_xA_q_mode (S : St) (v : Nat) : e_q_mode (xA S v) = e_q_mode S := by
  unfold e_q_mode
  rw [kp_xA_mo]
theorem ke_xA_q_state (S : St) (v : Nat) : e_q_state (xA S v) = e_q_state S := by
  unfold e_q_state
  rw [kp_xA_co]
theorem ke_xA_q_sent (S : St) (v : Nat) : e_q_sent (xA S v) = e_q_sent S := by
  unfold e_q_sent
  rw [kp_xA_sc]
theorem ke_xA_q_out (S : St) (v : Nat) : e_q_out (xA S v) = e_q_out S := by
  unfold e_q_out
  rw [kp_xA_sb]
theorem ke_xend_q_banks (S : St) (k : Nat) : e_q_banks (xend S k) = e_q_banks S := by
  unfold e_q_banks
  rw [kp_xend_bk]
theorem ke_xend_q_memory (S : St) (k : Nat) : e_q_memory (xend S k) = e_q_memory S := by
  unfold e_q_memory mm_
  simp only [kp_xend_im, kp_xend_ra, kp_xend_up, kp_xend_ma, kp_xend_li]
theorem ke_xend_q_register (S : St) (k : Nat) : e_q_register (xend S k) = e_q_register S := by
  unfold e_q_register
  rw [kp_xend_rg]
theorem ke_xend_q_stack (S : St) (k : Nat) : e_q_stack (xend S k) = e_q_stack S := by
  unfold e_q_stack
  rw [kp_xend_st]
theorem ke_xend_q_zero (S : St) (k : Nat) : e_q_zero (xend S k) = e_q_zero S := by
  unfold e_q_zero
  rw [kp_xend_zf]
theorem ke_xend_q_less (S : St) (k : Nat) : e_q_less (xend S k) = e_q_less S := by
  unfold e_q_less
  rw [kp_xend_nf]
theorem ke_xend_q_half (S : St) (k : Nat) : e_q_half (xend S k) = e_q_half S := by
  unfold e_q_half
  rw [kp_xend_hf]
theorem ke_xend_q_carry (S : St) (k : Nat) : e_q_carry (xend S k) = e_q_carry S := by
  unfold e_q_carry
  rw [kp_xend_cf]
theorem ke_xend_q_enabled (S : St) (k : Nat) : e_q_enabled (xend S k) = e_q_enabled S := by
  unfold e_q_enabled
  rw [kp_xend_en]
theorem ke_xend_q_soon (S : St) (k : Nat) : e_q_soon (xend S k) = e_q_soon S := by
  unfold e_q_soon
  rw [kp_xend_so]
theorem ke_xend_q_ram (S : St) (k : Nat) : e_q_ram (xend S k) = e_q_ram S := by
  unfold e_q_ram
  rw [kp_xend_on]
theorem ke_xend_q_low (S : St) (k : Nat) : e_q_low (xend S k) = e_q_low S := by
  unfold e_q_low
  rw [kp_xend_lo]
theorem ke_xend_q_top (S : St) (k : Nat) : e_q_top (xend S k) = e_q_top S := by
  unfold e_q_top
  rw [kp_xend_hi]
theorem ke_xend_q_mode (S : St) (k : Nat) : e_q_mode (xend S k) = e_q_mode S := by
  unfold e_q_mode
  rw [kp_xend_mo]
theorem ke_xend_q_sent (S : St) (k : Nat) : e_q_sent (xend S k) = e_q_sent S := by
  unfold e_q_sent
  rw [kp_xend_sc]
theorem ke_xend_q_out (S : St) (k : Nat) : e_q_out (xend S k) = e_q_out S := by
  unfold e_q_out
  rw [kp_xend_sb]
theorem ke_xsend_q_banks (S : St) : e_q_banks (xsend S ) = e_q_banks S := by
  unfold e_q_banks
  rw [kp_xsend_bk]
theorem ke_xsend_q_memory (S : St) : e_q_memory (xsend S ) = e_q_memory S := by
  unfold e_q_memory mm_
  simp only [kp_xsend_im, kp_xsend_ra, kp_xsend_up, kp_xsend_ma, kp_xsend_li]
theorem ke_xsend_q_register (S : St) : e_q_register (xsend S ) = e_q_register S := by
  unfold e_q_register
  rw [kp_xsend_rg]
theorem ke_xsend_q_stack (S : St) : e_q_stack (xsend S ) = e_q_stack S := by
  unfold e_q_stack
  rw [kp_xsend_st]
theorem ke_xsend_q_place (S : St) : e_q_place (xsend S ) = e_q_place S := by
  unfold e_q_place
  rw [kp_xsend_pl]
theorem ke_xsend_q_zero (S : St) : e_q_zero (xsend S ) = e_q_zero S := by
  unfold e_q_zero
  rw [kp_xsend_zf]
theorem ke_xsend_q_less (S : St) : e_q_less (xsend S ) = e_q_less S := by
  unfold e_q_less
  rw [kp_xsend_nf]
theorem ke_xsend_q_half (S : St) : e_q_half (xsend S ) = e_q_half S := by
  unfold e_q_half
  rw [kp_xsend_hf]
theorem ke_xsend_q_carry (S : St) : e_q_carry (xsend S ) = e_q_carry S := by
  unfold e_q_carry
  rw [kp_xsend_cf]
theorem ke_xsend_q_enabled (S : St) : e_q_enabled (xsend S ) = e_q_enabled S := by
  unfold e_q_enabled
  rw [kp_xsend_en]
theorem ke_xsend_q_soon (S : St) : e_q_soon (xsend S ) = e_q_soon S := by
  unfold e_q_soon
  rw [kp_xsend_so]
theorem ke_xsend_q_ram (S : St) : e_q_ram (xsend S ) = e_q_ram S := by
  unfold e_q_ram
  rw [kp_xsend_on]
theorem ke_xsend_q_low (S : St) : e_q_low (xsend S ) = e_q_low S := by
  unfold e_q_low
  rw [kp_xsend_lo]
theorem ke_xsend_q_top (S : St) : e_q_top (xsend S ) = e_q_top S := by
  unfold e_q_top
  rw [kp_xsend_hi]
theorem ke_xsend_q_mode (S : St) : e_q_mode (xsend S ) = e_q_mode S := by
  unfold e_q_mode
  rw [kp_xsend_mo]
theorem ke_xsend_q_state (S : St) : e_q_state (xsend S ) = e_q_state S := by
  unfold e_q_state
  rw [kp_xsend_co]
