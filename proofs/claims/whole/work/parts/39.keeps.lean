/-! what the machine's functions leave -/
theorem kp_xwr_im (S : St) (a b : Nat) : im_ (xwr S a b) = im_ S := by
  unfold xwr
  repeat' split
  all_goals simp only [ga_im_ra, ga_im_up, ga_im_on, ga_im_lo, ga_im_hi, ga_im_mo, ga_im_ma, ga_im_li]
theorem kp_xwr_bk (S : St) (a b : Nat) : bk_ (xwr S a b) = bk_ S := by
  unfold xwr
  repeat' split
  all_goals simp only [ga_bk_ra, ga_bk_up, ga_bk_on, ga_bk_lo, ga_bk_hi, ga_bk_mo, ga_bk_ma, ga_bk_li]
theorem kp_xwr_rg (S : St) (a b : Nat) : rg_ (xwr S a b) = rg_ S := by
  unfold xwr
  repeat' split
  all_goals simp only [ga_rg_ra, ga_rg_up, ga_rg_on, ga_rg_lo, ga_rg_hi, ga_rg_mo, ga_rg_ma, ga_rg_li]
theorem kp_xwr_sb (S : St) (a b : Nat) : sb_ (xwr S a b) = sb_ S := by
  unfold xwr
  repeat' split
  all_goals simp only [ga_sb_ra, ga_sb_up, ga_sb_on, ga_sb_lo, ga_sb_hi, ga_sb_mo, ga_sb_ma, ga_sb_li]
theorem kp_xwr_st (S : St) (a b : Nat) : st_ (xwr S a b) = st_ S := by
  unfold xwr
  repeat' split
  all_goals simp only [ga_st_ra, ga_st_up, ga_st_on, ga_st_lo, ga_st_hi, ga_st_mo, ga_st_ma, ga_st_li]
theorem kp_xwr_pl (S : St) (a b : Nat) : pl_ (xwr S a b) = pl_ S := by
  unfold xwr
  repeat' split
  all_goals simp only [ga_pl_ra, ga_pl_up, ga_pl_on, ga_pl_lo, ga_pl_hi, ga_pl_mo, ga_pl_ma, ga_pl_li]
theorem kp_xwr_zf (S : St) (a b : Nat) : zf_ (xwr S a b) = zf_ S := by
  unfold xwr
  repeat' split
  all_goals simp only [ga_zf_ra, ga_zf_up, ga_zf_on, ga_zf_lo, ga_zf_hi, ga_zf_mo, ga_zf_ma, ga_zf_li]
theorem kp_xwr_nf (S : St) (a b : Nat) : nf_ (xwr S a b) = nf_ S := by
  unfold xwr
  repeat' split
  all_goals simp only [ga_nf_ra, ga_nf_up, ga_nf_on, ga_nf_lo, ga_nf_hi, ga_nf_mo, ga_nf_ma, ga_nf_li]
theorem kp_xwr_hf (S : St) (a b : Nat) : hf_ (xwr S a b) = hf_ S := by
  unfold xwr
  repeat' split
  all_goals simp only [ga_hf_ra, ga_hf_up, ga_hf_on, ga_hf_lo, ga_hf_hi, ga_hf_mo, ga_hf_ma, ga_hf_li]
theorem kp_xwr_cf (S : St) (a b : Nat) : cf_ (xwr S a b) = cf_ S := by
  unfold xwr
  repeat' split
  all_goals simp only [ga_cf_ra, ga_cf_up, ga_cf_on, ga_cf_lo, ga_cf_hi, ga_cf_mo, ga_cf_ma, ga_cf_li]
theorem kp_xwr_en (S : St) (a b : Nat) : en_ (xwr S a b) = en_ S := by
  unfold xwr
  repeat' split
  all_goals simp only [ga_en_ra, ga_en_up, ga_en_on, ga_en_lo, ga_en_hi, ga_en_mo, ga_en_ma, ga_en_li]
theorem kp_xwr_so (S : St) (a b : Nat) : so_ (xwr S a b) = so_ S := by
  unfold xwr
  repeat' split
  all_goals simp only [ga_so_ra, ga_so_up, ga_so_on, ga_so_lo, ga_so_hi, ga_so_mo, ga_so_ma, ga_so_li]
theorem kp_xwr_co (S : St) (a b : Nat) : co_ (xwr S a b) = co_ S := by
  unfold xwr
  repeat' split
  all_goals simp only [ga_co_ra, ga_co_up, ga_co_on, ga_co_lo, ga_co_hi, ga_co_mo, ga_co_ma, ga_co_li]
theorem kp_xwr_sc (S : St) (a b : Nat) : sc_ (xwr S a b) = sc_ S := by
  unfold xwr
  repeat' split
  all_goals simp only [ga_sc_ra, ga_sc_up, ga_sc_on, ga_sc_lo, ga_sc_hi, ga_sc_mo, ga_sc_ma, ga_sc_li]
theorem kp_xset_im (S : St) (r v : Nat) : im_ (xset S r v) = im_ S := by
  unfold xset
  split
  · exact kp_xwr_im S _ _
  · exact ga_im_rg
theorem kp_xset_bk (S : St) (r v : Nat) : bk_ (xset S r v) = bk_ S := by
  unfold xset
  split
  · exact kp_xwr_bk S _ _
  · exact ga_bk_rg
theorem kp_xset_sb (S : St) (r v : Nat) : sb_ (xset S r v) = sb_ S := by
  unfold xset
  split
  · exact kp_xwr_sb S _ _
  · exact ga_sb_rg
theorem kp_xset_st (S : St) (r v : Nat) : st_ (xset S r v) = st_ S := by
  unfold xset
  split
  · exact kp_xwr_st S _ _
  · exact ga_st_rg
theorem kp_xset_pl (S : St) (r v : Nat) : pl_ (xset S r v) = pl_ S := by
  unfold xset
  split
  · exact kp_xwr_pl S _ _
  · exact ga_pl_rg
theorem kp_xset_zf (S : St) (r v : Nat) : zf_ (xset S r v) = zf_ S := by
  unfold xset
  split
  · exact kp_xwr_zf S _ _
  · exact ga_zf_rg
theorem kp_xset_nf (S : St) (r v : Nat) : nf_ (xset S r v) = nf_ S := by
  unfold xset
  split
  · exact kp_xwr_nf S _ _
  · exact ga_nf_rg
theorem kp_xset_hf (S : St) (r v : Nat) : hf_ (xset S r v) = hf_ S := by
  unfold xset
  split
  · exact kp_xwr_hf S _ _
  · exact ga_hf_rg
theorem kp_xset_cf (S : St) (r v : Nat) : cf_ (xset S r v) = cf_ S := by
  unfold xset
  split
  · exact kp_xwr_cf S _ _
  · exact ga_cf_rg
theorem kp_xset_en (S : St) (r v : Nat) : en_ (xset S r v) = en_ S := by
  unfold xset
  split
  · exact kp_xwr_en S _ _
  · exact ga_en_rg
theorem kp_xset_so (S : St) (r v : Nat) : so_ (xset S r v) = so_ S := by
  unfold xset
  split
  · exact kp_xwr_so S _ _
  · exact ga_so_rg
theorem kp_xset_co (S : St) (r v : Nat) : co_ (xset S r v) = co_ S := by
  unfold xset
  split
  · exact kp_xwr_co S _ _
  · exact ga_co_rg
theorem kp_xset_sc (S : St) (r v : Nat) : sc_ (xset S r v) = sc_ S := by
  unfold xset
  split
  · exact kp_xwr_sc S _ _
  · exact ga_sc_rg
theorem kp_xpush_im (S : St) (v : Nat) : im_ (xpush S v) = im_ S := by
  unfold xpush
  rw [kp_xwr_im, ga_im_st]
theorem kp_xpush_bk (S : St) (v : Nat) : bk_ (xpush S v) = bk_ S := by
  unfold xpush
  rw [kp_xwr_bk, ga_bk_st]
theorem kp_xpush_rg (S : St) (v : Nat) : rg_ (xpush S v) = rg_ S := by
  unfold xpush
  rw [kp_xwr_rg, ga_rg_st]
theorem kp_xpush_sb (S : St) (v : Nat) : sb_ (xpush S v) = sb_ S := by
  unfold xpush
  rw [kp_xwr_sb, ga_sb_st]
theorem kp_xpush_pl (S : St) (v : Nat) : pl_ (xpush S v) = pl_ S := by
  unfold xpush
  rw [kp_xwr_pl, ga_pl_st]
theorem kp_xpush_zf (S : St) (v : Nat) : zf_ (xpush S v) = zf_ S := by
  unfold xpush
  rw [kp_xwr_zf, ga_zf_st]
theorem kp_xpush_nf (S : St) (v : Nat) : nf_ (xpush S v) = nf_ S := by
  unfold xpush
  rw [kp_xwr_nf, ga_nf_st]
theorem kp_xpush_hf (S : St) (v : Nat) : hf_ (xpush S v) = hf_ S := by
  unfold xpush
  rw [kp_xwr_hf, ga_hf_st]
theorem kp_xpush_cf (S : St) (v : Nat) : cf_ (xpush S v) = cf_ S := by
  unfold xpush
  rw [kp_xwr_cf, ga_cf_st]
theorem kp_xpush_en (S : St) (v : Nat) : en_ (xpush S v) = en_ S := by
  unfold xpush
  rw [kp_xwr_en, ga_en_st]
theorem kp_xpush_so (S : St) (v : Nat) : so_ (xpush S v) = so_ S := by
  unfold xpush
  rw [kp_xwr_so, ga_so_st]
theorem kp_xpush_co (S : St) (v : Nat) : co_ (xpush S v) = co_ S := by
  unfold xpush
  rw [kp_xwr_co, ga_co_st]
theorem kp_xpush_sc (S : St) (v : Nat) : sc_ (xpush S v) = sc_ S := by
  unfold xpush
  rw [kp_xwr_sc, ga_sc_st]
theorem kp_xpop_im (S : St) : im_ (xpop S ) = im_ S := by
  unfold xpop
  exact ga_im_st
theorem kp_xpop_bk (S : St) : bk_ (xpop S ) = bk_ S := by
  unfold xpop
  exact ga_bk_st
theorem kp_xpop_ra (S : St) : ra_ (xpop S ) = ra_ S := by
  unfold xpop
  exact ga_ra_st
theorem kp_xpop_up (S : St) : up_ (xpop S ) = up_ S := by
  unfold xpop
  exact ga_up_st
theorem kp_xpop_on (S : St) : on_ (xpop S ) = on_ S := by
  unfold xpop
  exact ga_on_st
theorem kp_xpop_lo (S : St) : lo_ (xpop S ) = lo_ S := by
  unfold xpop
  exact ga_lo_st
theorem kp_xpop_hi (S : St) : hi_ (xpop S ) = hi_ S := by
  unfold xpop
  exact ga_hi_st
theorem kp_xpop_mo (S : St) : mo_ (xpop S ) = mo_ S := by
  unfold xpop
  exact ga_mo_st
theorem kp_xpop_ma (S : St) : ma_ (xpop S ) = ma_ S := by
  unfold xpop
  exact ga_ma_st
theorem kp_xpop_li (S : St) : li_ (xpop S ) = li_ S := by
  unfold xpop
  exact ga_li_st
theorem kp_xpop_rg (S : St) : rg_ (xpop S ) = rg_ S := by
  unfold xpop
  exact ga_rg_st
theorem kp_xpop_sb (S : St) : sb_ (xpop S ) = sb_ S := by
  unfold xpop
  exact ga_sb_st
theorem kp_xpop_pl (S : St) : pl_ (xpop S ) = pl_ S := by
  unfold xpop
  exact ga_pl_st
theorem kp_xpop_zf (S : St) : zf_ (xpop S ) = zf_ S := by
  unfold xpop
  exact ga_zf_st
theorem kp_xpop_nf (S : St) : nf_ (xpop S ) = nf_ S := by
  unfold xpop
  exact ga_nf_st
theorem kp_xpop_hf (S : St) : hf_ (xpop S ) = hf_ S := by
  unfold xpop
  exact ga_hf_st
theorem kp_xpop_cf (S : St) : cf_ (xpop S ) = cf_ S := by
  unfold xpop
  exact ga_cf_st
theorem kp_xpop_en (S : St) : en_ (xpop S ) = en_ S := by
  unfold xpop
  exact ga_en_st
theorem kp_xpop_so (S : St) : so_ (xpop S ) = so_ S := by
  unfold xpop
  exact ga_so_st
theorem kp_xpop_co (S : St) : co_ (xpop S ) = co_ S := by
  unfold xpop
  exact ga_co_st
theorem kp_xpop_sc (S : St) : sc_ (xpop S ) = sc_ S := by
  unfold xpop
  exact ga_sc_st
theorem kp_xnx_im (S : St) : im_ (xnx S ) = im_ S := by
  unfold xnx
  exact ga_im_pl
theorem kp_xnx_bk (S : St) : bk_ (xnx S ) = bk_ S := by
  unfold xnx
  exact ga_bk_pl
theorem kp_xnx_ra (S : St) : ra_ (xnx S ) = ra_ S := by
  unfold xnx
  exact ga_ra_pl
theorem kp_xnx_up (S : St) : up_ (xnx S ) = up_ S := by
  unfold xnx
  exact ga_up_pl
theorem kp_xnx_on (S : St) : on_ (xnx S ) = on_ S := by
  unfold xnx
  exact ga_on_pl
theorem kp_xnx_lo (S : St) : lo_ (xnx S ) = lo_ S := by
  unfold xnx
  exact ga_lo_pl
theorem kp_xnx_hi (S : St) : hi_ (xnx S ) = hi_ S := by
  unfold xnx
  exact ga_hi_pl
theorem kp_xnx_mo (S : St) : mo_ (xnx S ) = mo_ S := by
  unfold xnx
  exact ga_mo_pl
theorem kp_xnx_ma (S : St) : ma_ (xnx S ) = ma_ S := by
  unfold xnx
  exact ga_ma_pl
theorem kp_xnx_li (S : St) : li_ (xnx S ) = li_ S := by
  unfold xnx
  exact ga_li_pl
theorem kp_xnx_rg (S : St) : rg_ (xnx S ) = rg_ S := by
  unfold xnx
  exact ga_rg_pl
theorem kp_xnx_sb (S : St) : sb_ (xnx S ) = sb_ S := by
  unfold xnx
  exact ga_sb_pl
theorem kp_xnx_st (S : St) : st_ (xnx S ) = st_ S := by
  unfold xnx
  exact ga_st_pl
theorem kp_xnx_zf (S : St) : zf_ (xnx S ) = zf_ S := by
  unfold xnx
  exact ga_zf_pl
theorem kp_xnx_nf (S : St) : nf_ (xnx S ) = nf_ S := by
  unfold xnx
  exact ga_nf_pl
theorem kp_xnx_hf (S : St) : hf_ (xnx S ) = hf_ S := by
  unfold xnx
  exact ga_hf_pl
theorem kp_xnx_cf (S : St) : cf_ (xnx S ) = cf_ S := by
  unfold xnx
  exact ga_cf_pl
theorem kp_xnx_en (S : St) : en_ (xnx S ) = en_ S := by
  unfold xnx
  exact ga_en_pl
theorem kp_xnx_so (S : St) : so_ (xnx S ) = so_ S := by
  unfold xnx
  exact ga_so_pl
theorem kp_xnx_co (S : St) : co_ (xnx S ) = co_ S := by
  unfold xnx
  exact ga_co_pl
theorem kp_xnx_sc (S : St) : sc_ (xnx S ) = sc_ S := by
  unfold xnx
  exact ga_sc_pl
theorem kp_xfl_im (S : St) (z n h c : Bool) : im_ (xfl S z n h c) = im_ S := by
  unfold xfl
  rw [ga_im_zf, ga_im_nf, ga_im_hf, ga_im_cf]
theorem kp_xfl_bk (S : St) (z n h c : Bool) : bk_ (xfl S z n h c) = bk_ S := by
  unfold xfl
  rw [ga_bk_zf, ga_bk_nf, ga_bk_hf, ga_bk_cf]
theorem kp_xfl_ra (S : St) (z n h c : Bool) : ra_ (xfl S z n h c) = ra_ S := by
  unfold xfl
  rw [ga_ra_zf, ga_ra_nf, ga_ra_hf, ga_ra_cf]
theorem kp_xfl_up (S : St) (z n h c : Bool) : up_ (xfl S z n h c) = up_ S := by
  unfold xfl
  rw [ga_up_zf, ga_up_nf, ga_up_hf, ga_up_cf]
theorem kp_xfl_on (S : St) (z n h c : Bool) : on_ (xfl S z n h c) = on_ S := by
  unfold xfl
  rw [ga_on_zf, ga_on_nf, ga_on_hf, ga_on_cf]
theorem kp_xfl_lo (S : St) (z n h c : Bool) : lo_ (xfl S z n h c) = lo_ S := by
  unfold xfl
  rw [ga_lo_zf, ga_lo_nf, ga_lo_hf, ga_lo_cf]
theorem kp_xfl_hi (S : St) (z n h c : Bool) : hi_ (xfl S z n h c) = hi_ S := by
  unfold xfl
  rw [ga_hi_zf, ga_hi_nf, ga_hi_hf, ga_hi_cf]
theorem kp_xfl_mo (S : St) (z n h c : Bool) : mo_ (xfl S z n h c) = mo_ S := by
  unfold xfl
  rw [ga_mo_zf, ga_mo_nf, ga_mo_hf, ga_mo_cf]
theorem kp_xfl_ma (S : St) (z n h c : Bool) : ma_ (xfl S z n h c) = ma_ S := by
  unfold xfl
  rw [ga_ma_zf, ga_ma_nf, ga_ma_hf, ga_ma_cf]
theorem kp_xfl_li (S : St) (z n h c : Bool) : li_ (xfl S z n h c) = li_ S := by
  unfold xfl
  rw [ga_li_zf, ga_li_nf, ga_li_hf, ga_li_cf]
theorem kp_xfl_rg (S : St) (z n h c : Bool) : rg_ (xfl S z n h c) = rg_ S := by
  unfold xfl
  rw [ga_rg_zf, ga_rg_nf, ga_rg_hf, ga_rg_cf]
theorem kp_xfl_sb (S : St) (z n h c : Bool) : sb_ (xfl S z n h c) = sb_ S := by
  unfold xfl
  rw [ga_sb_zf, ga_sb_nf, ga_sb_hf, ga_sb_cf]
theorem kp_xfl_st (S : St) (z n h c : Bool) : st_ (xfl S z n h c) = st_ S := by
  unfold xfl
  rw [ga_st_zf, ga_st_nf, ga_st_hf, ga_st_cf]
theorem kp_xfl_pl (S : St) (z n h c : Bool) : pl_ (xfl S z n h c) = pl_ S := by
  unfold xfl
  rw [ga_pl_zf, ga_pl_nf, ga_pl_hf, ga_pl_cf]
theorem kp_xfl_en (S : St) (z n h c : Bool) : en_ (xfl S z n h c) = en_ S := by
  unfold xfl
  rw [ga_en_zf, ga_en_nf, ga_en_hf, ga_en_cf]
theorem kp_xfl_so (S : St) (z n h c : Bool) : so_ (xfl S z n h c) = so_ S := by
  unfold xfl
  rw [ga_so_zf, ga_so_nf, ga_so_hf, ga_so_cf]
theorem kp_xfl_co (S : St) (z n h c : Bool) : co_ (xfl S z n h c) = co_ S := by
  unfold xfl
  rw [ga_co_zf, ga_co_nf, ga_co_hf, ga_co_cf]
theorem kp_xfl_sc (S : St) (z n h c : Bool) : sc_ (xfl S z n h c) = sc_ S := by
  unfold xfl
  rw [ga_sc_zf, ga_sc_nf, ga_sc_hf, ga_sc_cf]
theorem kp_xA_im (S : St) (v : Nat) : im_ (xA S v) = im_ S := by
  unfold xA
  exact ga_im_rg
theorem kp_xA_bk (S : St) (v : Nat) : bk_ (xA S v) = bk_ S := by
  unfold xA
  exact ga_bk_rg
theorem kp_xA_ra (S : St) (v : Nat) : ra_ (xA S v) = ra_ S := by
  unfold xA
  exact ga_ra_rg
theorem kp_xA_up (S : St) (v : Nat) : up_ (xA S v) = up_ S := by
  unfold xA
  exact ga_up_rg
theorem kp_xA_on (S : St) (v : Nat) : on_ (xA S v) = on_ S := by
  unfold xA
  exact ga_on_rg
theorem kp_xA_lo (S : St) (v : Nat) : lo_ (xA S v) = lo_ S := by
  unfold xA
  exact ga_lo_rg
theorem kp_xA_hi (S : St) (v : Nat) : hi_ (xA S v) = hi_ S := by
  unfold xA
  exact ga_hi_rg
theorem kp_xA_mo (S : St) (v : Nat) : mo_ (xA S v) = mo_ S := by
  unfold xA
  exact ga_mo_rg
theorem kp_xA_ma (S : St) (v : Nat) : ma_ (xA S v) = ma_ S := by
  unfold xA
  exact ga_ma_rg
theorem kp_xA_li (S : St) (v : Nat) : li_ (xA S v) = li_ S := by
  unfold xA
  exact ga_li_rg
theorem kp_xA_sb (S : St) (v : Nat) : sb_ (xA S v) = sb_ S := by
  unfold xA
  exact ga_sb_rg
theorem kp_xA_st (S : St) (v : Nat) : st_ (xA S v) = st_ S := by
  unfold xA
  exact ga_st_rg
theorem kp_xA_pl (S : St) (v : Nat) : pl_ (xA S v) = pl_ S := by
  unfold xA
  exact ga_pl_rg
theorem kp_xA_zf (S : St) (v : Nat) : zf_ (xA S v) = zf_ S := by
  unfold xA
  exact ga_zf_rg
theorem kp_xA_nf (S : St) (v : Nat) : nf_ (xA S v) = nf_ S := by
  unfold xA
  exact ga_nf_rg
theorem kp_xA_hf (S : St) (v : Nat) : hf_ (xA S v) = hf_ S := by
  unfold xA
  exact ga_hf_rg
theorem kp_xA_cf (S : St) (v : Nat) : cf_ (xA S v) = cf_ S := by
  unfold xA
  exact ga_cf_rg
theorem kp_xA_en (S : St) (v : Nat) : en_ (xA S v) = en_ S := by
  unfold xA
  exact ga_en_rg
theorem kp_xA_so (S : St) (v : Nat) : so_ (xA S v) = so_ S := by
  unfold xA
  exact ga_so_rg
theorem kp_xA_co (S : St) (v : Nat) : co_ (xA S v) = co_ S := by
  unfold xA
  exact ga_co_rg
theorem kp_xA_sc (S : St) (v : Nat) : sc_ (xA S v) = sc_ S := by
  unfold xA
  exact ga_sc_rg
theorem kp_xend_im (S : St) (k : Nat) : im_ (xend S k) = im_ S := by
  unfold xend
  rw [ga_im_pl, ga_im_co]
theorem kp_xend_bk (S : St) (k : Nat) : bk_ (xend S k) = bk_ S := by
  unfold xend
  rw [ga_bk_pl, ga_bk_co]
theorem kp_xend_ra (S : St) (k : Nat) : ra_ (xend S k) = ra_ S := by
  unfold xend
  rw [ga_ra_pl, ga_ra_co]
theorem kp_xend_up (S : St) (k : Nat) : up_ (xend S k) = up_ S := by
  unfold xend
  rw [ga_up_pl, ga_up_co]
theorem kp_xend_on (S : St) (k : Nat) : on_ (xend S k) = on_ S := by
  unfold xend
  rw [ga_on_pl, ga_on_co]
theorem kp_xend_lo (S : St) (k : Nat) : lo_ (xend S k) = lo_ S := by
  unfold xend
  rw [ga_lo_pl, ga_lo_co]
theorem kp_xend_hi (S : St) (k : Nat) : hi_ (xend S k) = hi_ S := by
  unfold xend
  rw [ga_hi_pl, ga_hi_co]
theorem kp_xend_mo (S : St) (k : Nat) : mo_ (xend S k) = mo_ S := by
  unfold xend
  rw [ga_mo_pl, ga_mo_co]
theorem kp_xend_ma (S : St) (k : Nat) : ma_ (xend S k) = ma_ S := by
  unfold xend
  rw [ga_ma_pl, ga_ma_co]
theorem kp_xend_li (S : St) (k : Nat) : li_ (xend S k) = li_ S := by
  unfold xend
  rw [ga_li_pl, ga_li_co]
theorem kp_xend_rg (S : St) (k : Nat) : rg_ (xend S k) = rg_ S := by
  unfold xend
  rw [ga_rg_pl, ga_rg_co]
theorem kp_xend_sb (S : St) (k : Nat) : sb_ (xend S k) = sb_ S := by
  unfold xend
  rw [ga_sb_pl, ga_sb_co]
theorem kp_xend_st (S : St) (k : Nat) : st_ (xend S k) = st_ S := by
  unfold xend
  rw [ga_st_pl, ga_st_co]
theorem kp_xend_zf (S : St) (k : Nat) : zf_ (xend S k) = zf_ S := by
  unfold xend
  rw [ga_zf_pl, ga_zf_co]
theorem kp_xend_nf (S : St) (k : Nat) : nf_ (xend S k) = nf_ S := by
  unfold xend
  rw [ga_nf_pl, ga_nf_co]
theorem kp_xend_hf (S : St) (k : Nat) : hf_ (xend S k) = hf_ S := by
  unfold xend
  rw [ga_hf_pl, ga_hf_co]
theorem kp_xend_cf (S : St) (k : Nat) : cf_ (xend S k) = cf_ S := by
  unfold xend
  rw [ga_cf_pl, ga_cf_co]
theorem kp_xend_en (S : St) (k : Nat) : en_ (xend S k) = en_ S := by
  unfold xend
  rw [ga_en_pl, ga_en_co]
theorem kp_xend_so (S : St) (k : Nat) : so_ (xend S k) = so_ S := by
  unfold xend
  rw [ga_so_pl, ga_so_co]
theorem kp_xend_sc (S : St) (k : Nat) : sc_ (xend S k) = sc_ S := by
  unfold xend
  rw [ga_sc_pl, ga_sc_co]
theorem kp_xsend_im (S : St) : im_ (xsend S ) = im_ S := by
  unfold xsend
  rw [ga_im_sc]
  split
  · exact ga_im_sb
  · exact (Eq.refl (im_ S))
theorem kp_xsend_bk (S : St) : bk_ (xsend S ) = bk_ S := by
  unfold xsend
  rw [ga_bk_sc]
  split
  · exact ga_bk_sb
  · exact (Eq.refl (bk_ S))
theorem kp_xsend_ra (S : St) : ra_ (xsend S ) = ra_ S := by
  unfold xsend
  rw [ga_ra_sc]
  split
  · exact ga_ra_sb
  · exact (Eq.refl (ra_ S))
theorem kp_xsend_up (S : St) : up_ (xsend S ) = up_ S := by
  unfold xsend
  rw [ga_up_sc]
  split
  · exact ga_up_sb
  · exact (Eq.refl (up_ S))
theorem kp_xsend_on (S : St) : on_ (xsend S ) = on_ S := by
  unfold xsend
  rw [ga_on_sc]
  split
  · exact ga_on_sb
  · exact (Eq.refl (on_ S))
theorem kp_xsend_lo (S : St) : lo_ (xsend S ) = lo_ S := by
  unfold xsend
  rw [ga_lo_sc]
  split
  · exact ga_lo_sb
  · exact (Eq.refl (lo_ S))
theorem kp_xsend_hi (S : St) : hi_ (xsend S ) = hi_ S := by
  unfold xsend
  rw [ga_hi_sc]
  split
  · exact ga_hi_sb
  · exact (Eq.refl (hi_ S))
theorem kp_xsend_mo (S : St) : mo_ (xsend S ) = mo_ S := by
  unfold xsend
  rw [ga_mo_sc]
  split
  · exact ga_mo_sb
  · exact (Eq.refl (mo_ S))
theorem kp_xsend_ma (S : St) : ma_ (xsend S ) = ma_ S := by
  unfold xsend
  rw [ga_ma_sc]
  split
  · exact ga_ma_sb
  · exact (Eq.refl (ma_ S))
theorem kp_xsend_li (S : St) : li_ (xsend S ) = li_ S := by
  unfold xsend
  rw [ga_li_sc]
  split
  · exact ga_li_sb
  · exact (Eq.refl (li_ S))
theorem kp_xsend_rg (S : St) : rg_ (xsend S ) = rg_ S := by
  unfold xsend
  rw [ga_rg_sc]
  split
  · exact ga_rg_sb
  · exact (Eq.refl (rg_ S))
theorem kp_xsend_st (S : St) : st_ (xsend S ) = st_ S := by
  unfold xsend
  rw [ga_st_sc]
  split
  · exact ga_st_sb
  · exact (Eq.refl (st_ S))
theorem kp_xsend_pl (S : St) : pl_ (xsend S ) = pl_ S := by
  unfold xsend
  rw [ga_pl_sc]
  split
  · exact ga_pl_sb
  · exact (Eq.refl (pl_ S))
theorem kp_xsend_zf (S : St) : zf_ (xsend S ) = zf_ S := by
  unfold xsend
  rw [ga_zf_sc]
  split
  · exact ga_zf_sb
  · exact (Eq.refl (zf_ S))
theorem kp_xsend_nf (S : St) : nf_ (xsend S ) = nf_ S := by
  unfold xsend
  rw [ga_nf_sc]
  split
  · exact ga_nf_sb
  · exact (Eq.refl (nf_ S))
theorem kp_xsend_hf (S : St) : hf_ (xsend S ) = hf_ S := by
  unfold xsend
  rw [ga_hf_sc]
  split
  · exact ga_hf_sb
  · exact (Eq.refl (hf_ S))
theorem kp_xsend_cf (S : St) : cf_ (xsend S ) = cf_ S := by
  unfold xsend
  rw [ga_cf_sc]
  split
  · exact ga_cf_sb
  · exact (Eq.refl (cf_ S))
theorem kp_xsend_en (S : St) : en_ (xsend S ) = en_ S := by
  unfold xsend
  rw [ga_en_sc]
  split
  · exact ga_en_sb
  · exact (Eq.refl (en_ S))
theorem kp_xsend_so (S : St) : so_ (xsend S ) = so_ S := by
  unfold xsend
  rw [ga_so_sc]
  split
  · exact ga_so_sb
  · exact (Eq.refl (so_ S))
theorem kp_xsend_co (S : St) : co_ (xsend S ) = co_ S := by
  unfold xsend
  rw [ga_co_sc]
  split
  · exact ga_co_sb
  · exact (Eq.refl (co_ S))
