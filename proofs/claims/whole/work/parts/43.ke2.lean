/-! the variables that the machine's instructions leave -/
theorem ite_all {α β : Type} {c : Prop} [Decidable c] {A B : α} {f : α → β} {x : β} (ha : f A = x) (hb : f B = x) : f (if c then A else B) = x := by split <;> assumption
theorem kp_xcalc_im (S : St) (k b : Nat) : im_ (xcalc S k b) = im_ S := by
  unfold xcalc; dsimp only
  repeat' (with_reducible refine ite_all (f := im_) ?_ ?_)
  all_goals simp only [xsumF, xdifF, kp_xA_im, kp_xfl_im]
theorem kp_xcalc_bk (S : St) (k b : Nat) : bk_ (xcalc S k b) = bk_ S := by
  unfold xcalc; dsimp only
  repeat' (with_reducible refine ite_all (f := bk_) ?_ ?_)
  all_goals simp only [xsumF, xdifF, kp_xA_bk, kp_xfl_bk]
theorem kp_xcalc_ra (S : St) (k b : Nat) : ra_ (xcalc S k b) = ra_ S := by
  unfold xcalc; dsimp only
  repeat' (with_reducible refine ite_all (f := ra_) ?_ ?_)
  all_goals simp only [xsumF, xdifF, kp_xA_ra, kp_xfl_ra]
theorem kp_xcalc_up (S : St) (k b : Nat) : up_ (xcalc S k b) = up_ S := by
  unfold xcalc; dsimp only
  repeat' (with_reducible refine ite_all (f := up_) ?_ ?_)
  all_goals simp only [xsumF, xdifF, kp_xA_up, kp_xfl_up]
theorem kp_xcalc_on (S : St) (k b : Nat) : on_ (xcalc S k b) = on_ S := by
  unfold xcalc; dsimp only
  repeat' (with_reducible refine ite_all (f := on_) ?_ ?_)
  all_goals simp only [xsumF, xdifF, kp_xA_on, kp_xfl_on]
theorem kp_xcalc_lo (S : St) (k b : Nat) : lo_ (xcalc S k b) = lo_ S := by
  unfold xcalc; dsimp only
  repeat' (with_reducible refine ite_all (f := lo_) ?_ ?_)
  all_goals simp only [xsumF, xdifF, kp_xA_lo, kp_xfl_lo]
theorem kp_xcalc_hi (S : St) (k b : Nat) : hi_ (xcalc S k b) = hi_ S := by
  unfold xcalc; dsimp only
  repeat' (with_reducible refine ite_all (f := hi_) ?_ ?_)
  all_goals simp only [xsumF, xdifF, kp_xA_hi, kp_xfl_hi]
theorem kp_xcalc_mo (S : St) (k b : Nat) : mo_ (xcalc S k b) = mo_ S := by
  unfold xcalc; dsimp only
  repeat' (with_reducible refine ite_all (f := mo_) ?_ ?_)
  all_goals simp only [xsumF, xdifF, kp_xA_mo, kp_xfl_mo]
theorem kp_xcalc_ma (S : St) (k b : Nat) : ma_ (xcalc S k b) = ma_ S := by
  unfold xcalc; dsimp only
  repeat' (with_reducible refine ite_all (f := ma_) ?_ ?_)
  all_goals simp only [xsumF, xdifF, kp_xA_ma, kp_xfl_ma]
theorem kp_xcalc_li (S : St) (k b : Nat) : li_ (xcalc S k b) = li_ S := by
  unfold xcalc; dsimp only
  repeat' (with_reducible refine ite_all (f := li_) ?_ ?_)
  all_goals simp only [xsumF, xdifF, kp_xA_li, kp_xfl_li]
theorem kp_xcalc_sb (S : St) (k b : Nat) : sb_ (xcalc S k b) = sb_ S := by
  unfold xcalc; dsimp only
  repeat' (with_reducible refine ite_all (f := sb_) ?_ ?_)
  all_goals simp only [xsumF, xdifF, kp_xA_sb, kp_xfl_sb]
theorem kp_xcalc_st (S : St) (k b : Nat) : st_ (xcalc S k b) = st_ S := by
  unfold xcalc; dsimp only
  repeat' (with_reducible refine ite_all (f := st_) ?_ ?_)
  all_goals simp only [xsumF, xdifF, kp_xA_st, kp_xfl_st]
theorem kp_xcalc_pl (S : St) (k b : Nat) : pl_ (xcalc S k b) = pl_ S := by
  unfold xcalc; dsimp only
  repeat' (with_reducible refine ite_all (f := pl_) ?_ ?_)
  all_goals simp only [xsumF, xdifF, kp_xA_pl, kp_xfl_pl]
theorem kp_xcalc_en (S : St) (k b : Nat) : en_ (xcalc S k b) = en_ S := by
  unfold xcalc; dsimp only
  repeat' (with_reducible refine ite_all (f := en_) ?_ ?_)
  all_goals simp only [xsumF, xdifF, kp_xA_en, kp_xfl_en]
theorem kp_xcalc_so (S : St) (k b : Nat) : so_ (xcalc S k b) = so_ S := by
  unfold xcalc; dsimp only
  repeat' (with_reducible refine ite_all (f := so_) ?_ ?_)
  all_goals simp only [xsumF, xdifF, kp_xA_so, kp_xfl_so]
theorem kp_xcalc_co (S : St) (k b : Nat) : co_ (xcalc S k b) = co_ S := by
  unfold xcalc; dsimp only
  repeat' (with_reducible refine ite_all (f := co_) ?_ ?_)
  all_goals simp only [xsumF, xdifF, kp_xA_co, kp_xfl_co]
theorem kp_xcalc_sc (S : St) (k b : Nat) : sc_ (xcalc S k b) = sc_ S := by
  unfold xcalc; dsimp only
  repeat' (with_reducible refine ite_all (f := sc_) ?_ ?_)
  all_goals simp only [xsumF, xdifF, kp_xA_sc, kp_xfl_sc]
theorem kp_xadj_im (S : St) : im_ (xadj S ) = im_ S := by
  rw [xadj_eq, kp_xA_im, kp_xfl_im]
theorem kp_xadj_bk (S : St) : bk_ (xadj S ) = bk_ S := by
  rw [xadj_eq, kp_xA_bk, kp_xfl_bk]
theorem kp_xadj_ra (S : St) : ra_ (xadj S ) = ra_ S := by
  rw [xadj_eq, kp_xA_ra, kp_xfl_ra]
theorem kp_xadj_up (S : St) : up_ (xadj S ) = up_ S := by
  rw [xadj_eq, kp_xA_up, kp_xfl_up]
theorem kp_xadj_on (S : St) : on_ (xadj S ) = on_ S := by
  rw [xadj_eq, kp_xA_on, kp_xfl_on]
theorem kp_xadj_lo (S : St) : lo_ (xadj S ) = lo_ S := by
  rw [xadj_eq, kp_xA_lo, kp_xfl_lo]
theorem kp_xadj_hi (S : St) : hi_ (xadj S ) = hi_ S := by
  rw [xadj_eq, kp_xA_hi, kp_xfl_hi]
theorem kp_xadj_mo (S : St) : mo_ (xadj S ) = mo_ S := by
  rw [xadj_eq, kp_xA_mo, kp_xfl_mo]
theorem kp_xadj_ma (S : St) : ma_ (xadj S ) = ma_ S := by
  rw [xadj_eq, kp_xA_ma, kp_xfl_ma]
theorem kp_xadj_li (S : St) : li_ (xadj S ) = li_ S := by
  rw [xadj_eq, kp_xA_li, kp_xfl_li]
theorem kp_xadj_sb (S : St) : sb_ (xadj S ) = sb_ S := by
  rw [xadj_eq, kp_xA_sb, kp_xfl_sb]
theorem kp_xadj_st (S : St) : st_ (xadj S ) = st_ S := by
  rw [xadj_eq, kp_xA_st, kp_xfl_st]
theorem kp_xadj_pl (S : St) : pl_ (xadj S ) = pl_ S := by
  rw [xadj_eq, kp_xA_pl, kp_xfl_pl]
theorem kp_xadj_en (S : St) : en_ (xadj S ) = en_ S := by
  rw [xadj_eq, kp_xA_en, kp_xfl_en]
theorem kp_xadj_so (S : St) : so_ (xadj S ) = so_ S := by
  rw [xadj_eq, kp_xA_so, kp_xfl_so]
theorem kp_xadj_co (S : St) : co_ (xadj S ) = co_ S := by
  rw [xadj_eq, kp_xA_co, kp_xfl_co]
theorem kp_xadj_sc (S : St) : sc_ (xadj S ) = sc_ S := by
  rw [xadj_eq, kp_xA_sc, kp_xfl_sc]
theorem kp_xone_im (S : St) (op : Nat) : im_ (xone S op) = im_ S := by
  unfold xone
  repeat' (with_reducible refine ite_all (f := im_) ?_ ?_)
  all_goals simp only [kp_xend_im, kp_xpop_im, kp_xadj_im, kp_xA_im, kp_xfl_im, kp_xsend_im, ga_im_en, ga_im_so, ga_im_pl]
theorem kp_xone_bk (S : St) (op : Nat) : bk_ (xone S op) = bk_ S := by
  unfold xone
  repeat' (with_reducible refine ite_all (f := bk_) ?_ ?_)
  all_goals simp only [kp_xend_bk, kp_xpop_bk, kp_xadj_bk, kp_xA_bk, kp_xfl_bk, kp_xsend_bk, ga_bk_en, ga_bk_so, ga_bk_pl]
theorem kp_xone_ra (S : St) (op : Nat) : ra_ (xone S op) = ra_ S := by
  unfold xone
  repeat' (with_reducible refine ite_all (f := ra_) ?_ ?_)
  all_goals simp only [kp_xend_ra, kp_xpop_ra, kp_xadj_ra, kp_xA_ra, kp_xfl_ra, kp_xsend_ra, ga_ra_en, ga_ra_so, ga_ra_pl]
theorem kp_xone_up (S : St) (op : Nat) : up_ (xone S op) = up_ S := by
  unfold xone
  repeat' (with_reducible refine ite_all (f := up_) ?_ ?_)
  all_goals simp only [kp_xend_up, kp_xpop_up, kp_xadj_up, kp_xA_up, kp_xfl_up, kp_xsend_up, ga_up_en, ga_up_so, ga_up_pl]
theorem kp_xone_on (S : St) (op : Nat) : on_ (xone S op) = on_ S := by
  unfold xone
  repeat' (with_reducible refine ite_all (f := on_) ?_ ?_)
  all_goals simp only [kp_xend_on, kp_xpop_on, kp_xadj_on, kp_xA_on, kp_xfl_on, kp_xsend_on, ga_on_en, ga_on_so, ga_on_pl]
theorem kp_xone_lo (S : St) (op : Nat) : lo_ (xone S op) = lo_ S := by
  unfold xone
  repeat' (with_reducible refine ite_all (f := lo_) ?_ ?_)
  all_goals simp only [kp_xend_lo, kp_xpop_lo, kp_xadj_lo, kp_xA_lo, kp_xfl_lo, kp_xsend_lo, ga_lo_en, ga_lo_so, ga_lo_pl]
theorem kp_xone_hi (S : St) (op : Nat) : hi_ (xone S op) = hi_ S := by
  unfold xone
  repeat' (with_reducible refine ite_all (f := hi_) ?_ ?_)
  all_goals simp only [kp_xend_hi, kp_xpop_hi, kp_xadj_hi, kp_xA_hi, kp_xfl_hi, kp_xsend_hi, ga_hi_en, ga_hi_so, ga_hi_pl]
theorem kp_xone_mo (S : St) (op : Nat) : mo_ (xone S op) = mo_ S := by
  unfold xone
  repeat' (with_reducible refine ite_all (f := mo_) ?_ ?_)
  all_goals simp only [kp_xend_mo, kp_xpop_mo, kp_xadj_mo, kp_xA_mo, kp_xfl_mo, kp_xsend_mo, ga_mo_en, ga_mo_so, ga_mo_pl]
theorem kp_xone_ma (S : St) (op : Nat) : ma_ (xone S op) = ma_ S := by
  unfold xone
  repeat' (with_reducible refine ite_all (f := ma_) ?_ ?_)
  all_goals simp only [kp_xend_ma, kp_xpop_ma, kp_xadj_ma, kp_xA_ma, kp_xfl_ma, kp_xsend_ma, ga_ma_en, ga_ma_so, ga_ma_pl]
theorem kp_xone_li (S : St) (op : Nat) : li_ (xone S op) = li_ S := by
  unfold xone
  repeat' (with_reducible refine ite_all (f := li_) ?_ ?_)
  all_goals simp only [kp_xend_li, kp_xpop_li, kp_xadj_li, kp_xA_li, kp_xfl_li, kp_xsend_li, ga_li_en, ga_li_so, ga_li_pl]
theorem kp_xtwo_im (S : St) (g r : Nat) : im_ (xtwo S g r) = im_ S := by
  unfold xtwo
  repeat' (with_reducible refine ite_all (f := im_) ?_ ?_)
  all_goals simp only [kp_xset_im, xincF, xdecF, kp_xpush_im, kp_xpop_im, kp_xnx_im, xswpF, kp_xfl_im]
theorem kp_xtwo_bk (S : St) (g r : Nat) : bk_ (xtwo S g r) = bk_ S := by
  unfold xtwo
  repeat' (with_reducible refine ite_all (f := bk_) ?_ ?_)
  all_goals simp only [kp_xset_bk, xincF, xdecF, kp_xpush_bk, kp_xpop_bk, kp_xnx_bk, xswpF, kp_xfl_bk]
theorem kp_xtwo_sb (S : St) (g r : Nat) : sb_ (xtwo S g r) = sb_ S := by
  unfold xtwo
  repeat' (with_reducible refine ite_all (f := sb_) ?_ ?_)
  all_goals simp only [kp_xset_sb, xincF, xdecF, kp_xpush_sb, kp_xpop_sb, kp_xnx_sb, xswpF, kp_xfl_sb]
theorem kp_xtwo_en (S : St) (g r : Nat) : en_ (xtwo S g r) = en_ S := by
  unfold xtwo
  repeat' (with_reducible refine ite_all (f := en_) ?_ ?_)
  all_goals simp only [kp_xset_en, xincF, xdecF, kp_xpush_en, kp_xpop_en, kp_xnx_en, xswpF, kp_xfl_en]
theorem kp_xtwo_so (S : St) (g r : Nat) : so_ (xtwo S g r) = so_ S := by
  unfold xtwo
  repeat' (with_reducible refine ite_all (f := so_) ?_ ?_)
  all_goals simp only [kp_xset_so, xincF, xdecF, kp_xpush_so, kp_xpop_so, kp_xnx_so, xswpF, kp_xfl_so]
theorem kp_xtwo_co (S : St) (g r : Nat) : co_ (xtwo S g r) = co_ S := by
  unfold xtwo
  repeat' (with_reducible refine ite_all (f := co_) ?_ ?_)
  all_goals simp only [kp_xset_co, xincF, xdecF, kp_xpush_co, kp_xpop_co, kp_xnx_co, xswpF, kp_xfl_co]
theorem kp_xtwo_sc (S : St) (g r : Nat) : sc_ (xtwo S g r) = sc_ S := by
  unfold xtwo
  repeat' (with_reducible refine ite_all (f := sc_) ?_ ?_)
  all_goals simp only [kp_xset_sc, xincF, xdecF, kp_xpush_sc, kp_xpop_sc, kp_xnx_sc, xswpF, kp_xfl_sc]
theorem kp_xjump_im (S : St) (k w : Nat) : im_ (xjump S k w) = im_ S := by
  unfold xjump; dsimp only
  repeat' (with_reducible refine ite_all (f := im_) ?_ ?_)
  all_goals simp only [kp_xend_im, kp_xpop_im, kp_xnx_im, kp_xpush_im, ga_im_pl]
theorem kp_xjump_bk (S : St) (k w : Nat) : bk_ (xjump S k w) = bk_ S := by
  unfold xjump; dsimp only
  repeat' (with_reducible refine ite_all (f := bk_) ?_ ?_)
  all_goals simp only [kp_xend_bk, kp_xpop_bk, kp_xnx_bk, kp_xpush_bk, ga_bk_pl]
theorem kp_xjump_rg (S : St) (k w : Nat) : rg_ (xjump S k w) = rg_ S := by
  unfold xjump; dsimp only
  repeat' (with_reducible refine ite_all (f := rg_) ?_ ?_)
  all_goals simp only [kp_xend_rg, kp_xpop_rg, kp_xnx_rg, kp_xpush_rg, ga_rg_pl]
theorem kp_xjump_sb (S : St) (k w : Nat) : sb_ (xjump S k w) = sb_ S := by
  unfold xjump; dsimp only
  repeat' (with_reducible refine ite_all (f := sb_) ?_ ?_)
  all_goals simp only [kp_xend_sb, kp_xpop_sb, kp_xnx_sb, kp_xpush_sb, ga_sb_pl]
theorem kp_xjump_zf (S : St) (k w : Nat) : zf_ (xjump S k w) = zf_ S := by
  unfold xjump; dsimp only
  repeat' (with_reducible refine ite_all (f := zf_) ?_ ?_)
  all_goals simp only [kp_xend_zf, kp_xpop_zf, kp_xnx_zf, kp_xpush_zf, ga_zf_pl]
theorem kp_xjump_nf (S : St) (k w : Nat) : nf_ (xjump S k w) = nf_ S := by
  unfold xjump; dsimp only
  repeat' (with_reducible refine ite_all (f := nf_) ?_ ?_)
  all_goals simp only [kp_xend_nf, kp_xpop_nf, kp_xnx_nf, kp_xpush_nf, ga_nf_pl]
theorem kp_xjump_hf (S : St) (k w : Nat) : hf_ (xjump S k w) = hf_ S := by
  unfold xjump; dsimp only
  repeat' (with_reducible refine ite_all (f := hf_) ?_ ?_)
  all_goals simp only [kp_xend_hf, kp_xpop_hf, kp_xnx_hf, kp_xpush_hf, ga_hf_pl]
theorem kp_xjump_cf (S : St) (k w : Nat) : cf_ (xjump S k w) = cf_ S := by
  unfold xjump; dsimp only
  repeat' (with_reducible refine ite_all (f := cf_) ?_ ?_)
  all_goals simp only [kp_xend_cf, kp_xpop_cf, kp_xnx_cf, kp_xpush_cf, ga_cf_pl]
theorem kp_xjump_en (S : St) (k w : Nat) : en_ (xjump S k w) = en_ S := by
  unfold xjump; dsimp only
  repeat' (with_reducible refine ite_all (f := en_) ?_ ?_)
  all_goals simp only [kp_xend_en, kp_xpop_en, kp_xnx_en, kp_xpush_en, ga_en_pl]
theorem kp_xjump_so (S : St) (k w : Nat) : so_ (xjump S k w) = so_ S := by
  unfold xjump; dsimp only
  repeat' (with_reducible refine ite_all (f := so_) ?_ ?_)
  all_goals simp only [kp_xend_so, kp_xpop_so, kp_xnx_so, kp_xpush_so, ga_so_pl]
theorem kp_xjump_sc (S : St) (k w : Nat) : sc_ (xjump S k w) = sc_ S := by
  unfold xjump; dsimp only
  repeat' (with_reducible refine ite_all (f := sc_) ?_ ?_)
  all_goals simp only [kp_xend_sc, kp_xpop_sc, kp_xnx_sc, kp_xpush_sc, ga_sc_pl]
theorem kp_xbits_im (S : St) (n : Nat) : im_ (xbits S n) = im_ S := by
  unfold xbits; dsimp only
  repeat' (with_reducible refine ite_all (f := im_) ?_ ?_)
  all_goals simp only [kp_xset_im, xshfF, kp_xfl_im]
theorem kp_xbits_bk (S : St) (n : Nat) : bk_ (xbits S n) = bk_ S := by
  unfold xbits; dsimp only
  repeat' (with_reducible refine ite_all (f := bk_) ?_ ?_)
  all_goals simp only [kp_xset_bk, xshfF, kp_xfl_bk]
theorem kp_xbits_sb (S : St) (n : Nat) : sb_ (xbits S n) = sb_ S := by
  unfold xbits; dsimp only
  repeat' (with_reducible refine ite_all (f := sb_) ?_ ?_)
  all_goals simp only [kp_xset_sb, xshfF, kp_xfl_sb]
theorem kp_xbits_st (S : St) (n : Nat) : st_ (xbits S n) = st_ S := by
  unfold xbits; dsimp only
  repeat' (with_reducible refine ite_all (f := st_) ?_ ?_)
  all_goals simp only [kp_xset_st, xshfF, kp_xfl_st]
theorem kp_xbits_pl (S : St) (n : Nat) : pl_ (xbits S n) = pl_ S := by
  unfold xbits; dsimp only
  repeat' (with_reducible refine ite_all (f := pl_) ?_ ?_)
  all_goals simp only [kp_xset_pl, xshfF, kp_xfl_pl]
theorem kp_xbits_en (S : St) (n : Nat) : en_ (xbits S n) = en_ S := by
  unfold xbits; dsimp only
  repeat' (with_reducible refine ite_all (f := en_) ?_ ?_)
  all_goals simp only [kp_xset_en, xshfF, kp_xfl_en]
theorem kp_xbits_so (S : St) (n : Nat) : so_ (xbits S n) = so_ S := by
  unfold xbits; dsimp only
  repeat' (with_reducible refine ite_all (f := so_) ?_ ?_)
  all_goals simp only [kp_xset_so, xshfF, kp_xfl_so]
theorem kp_xbits_co (S : St) (n : Nat) : co_ (xbits S n) = co_ S := by
  unfold xbits; dsimp only
  repeat' (with_reducible refine ite_all (f := co_) ?_ ?_)
  all_goals simp only [kp_xset_co, xshfF, kp_xfl_co]
theorem kp_xbits_sc (S : St) (n : Nat) : sc_ (xbits S n) = sc_ S := by
  unfold xbits; dsimp only
  repeat' (with_reducible refine ite_all (f := sc_) ?_ ?_)
  all_goals simp only [kp_xset_sc, xshfF, kp_xfl_sc]
theorem kp_xobey_im (S : St) (op : Nat) : im_ (xobey S op) = im_ S := by
  unfold xobey
  repeat' (with_reducible refine ite_all (f := im_) ?_ ?_)
  all_goals simp only [kp_xone_im, kp_xtwo_im, kp_xset_im, kp_xcalc_im, kp_xjump_im, kp_xnx_im, kp_xbits_im, kp_xend_im]
theorem kp_xobey_bk (S : St) (op : Nat) : bk_ (xobey S op) = bk_ S := by
  unfold xobey
  repeat' (with_reducible refine ite_all (f := bk_) ?_ ?_)
  all_goals simp only [kp_xone_bk, kp_xtwo_bk, kp_xset_bk, kp_xcalc_bk, kp_xjump_bk, kp_xnx_bk, kp_xbits_bk, kp_xend_bk]
theorem ke_xcalc_k_ce (S : St) (k b : Nat) : e_k_ce (xcalc S k b) = e_k_ce S := by
  unfold e_k_ce
  rw [kp_xcalc_im]
theorem ke_xcalc_k_bc (S : St) (k b : Nat) : e_k_bc (xcalc S k b) = e_k_bc S := by
  unfold e_k_bc
  rw [kp_xcalc_bk]
theorem ke_xcalc_m_ra (S : St) (k b : Nat) : e_m_ra (xcalc S k b) = e_m_ra S := by
  unfold e_m_ra
  rw [kp_xcalc_ra]
theorem ke_xcalc_m_up (S : St) (k b : Nat) : e_m_up (xcalc S k b) = e_m_up S := by
  unfold e_m_up
  rw [kp_xcalc_up]
theorem ke_xcalc_m_on (S : St) (k b : Nat) : e_m_on (xcalc S k b) = e_m_on S := by
  unfold e_m_on
  rw [kp_xcalc_on]
theorem ke_xcalc_m_lo (S : St) (k b : Nat) : e_m_lo (xcalc S k b) = e_m_lo S := by
  unfold e_m_lo
  rw [kp_xcalc_lo]
theorem ke_xcalc_m_hi (S : St) (k b : Nat) : e_m_hi (xcalc S k b) = e_m_hi S := by
  unfold e_m_hi
  rw [kp_xcalc_hi]
theorem ke_xcalc_m_mo (S : St) (k b : Nat) : e_m_mo (xcalc S k b) = e_m_mo S := by
  unfold e_m_mo
  rw [kp_xcalc_mo]
theorem ke_xcalc_m_ma (S : St) (k b : Nat) : e_m_ma (xcalc S k b) = e_m_ma S := by
  unfold e_m_ma
  rw [kp_xcalc_ma]
theorem ke_xcalc_m_li (S : St) (k b : Nat) : e_m_li (xcalc S k b) = e_m_li S := by
  unfold e_m_li
  rw [kp_xcalc_li]
theorem ke_xcalc_n_sb (S : St) (k b : Nat) : e_n_sb (xcalc S k b) = e_n_sb S := by
  unfold e_n_sb
  rw [kp_xcalc_sb]
theorem ke_xcalc_n_st (S : St) (k b : Nat) : e_n_st (xcalc S k b) = e_n_st S := by
  unfold e_n_st
  rw [kp_xcalc_st]
theorem ke_xcalc_n_pl (S : St) (k b : Nat) : e_n_pl (xcalc S k b) = e_n_pl S := by
  unfold e_n_pl
  rw [kp_xcalc_pl]
theorem ke_xcalc_n_en (S : St) (k b : Nat) : e_n_en (xcalc S k b) = e_n_en S := by
  unfold e_n_en
  rw [kp_xcalc_en]
theorem ke_xcalc_n_so (S : St) (k b : Nat) : e_n_so (xcalc S k b) = e_n_so S := by
  unfold e_n_so
  rw [kp_xcalc_so]
theorem ke_xcalc_n_co (S : St) (k b : Nat) : e_n_co (xcalc S k b) = e_n_co S := by
  unfold e_n_co
  rw [kp_xcalc_co]
theorem ke_xcalc_n_sc (S : St) (k b : Nat) : e_n_sc (xcalc S k b) = e_n_sc S := by
  unfold e_n_sc
  rw [kp_xcalc_sc]
theorem ke_xadj_k_ce (S : St) : e_k_ce (xadj S ) = e_k_ce S := by
  unfold e_k_ce
  rw [kp_xadj_im]
theorem ke_xadj_k_bc (S : St) : e_k_bc (xadj S ) = e_k_bc S := by
  unfold e_k_bc
  rw [kp_xadj_bk]
theorem ke_xadj_m_ra (S : St) : e_m_ra (xadj S ) = e_m_ra S := by
  unfold e_m_ra
  rw [kp_xadj_ra]
theorem ke_xadj_m_up (S : St) : e_m_up (xadj S ) = e_m_up S := by
  unfold e_m_up
  rw [kp_xadj_up]
theorem ke_xadj_m_on (S : St) : e_m_on (xadj S ) = e_m_on S := by
  unfold e_m_on
  rw [kp_xadj_on]
theorem ke_xadj_m_lo (S : St) : e_m_lo (xadj S ) = e_m_lo S := by
  unfold e_m_lo
  rw [kp_xadj_lo]
theorem ke_xadj_m_hi (S : St) : e_m_hi (xadj S ) = e_m_hi S := by
  unfold e_m_hi
  rw [kp_xadj_hi]
theorem ke_xadj_m_mo (S : St) : e_m_mo (xadj S ) = e_m_mo S := by
  unfold e_m_mo
  rw [kp_xadj_mo]
theorem ke_xadj_m_ma (S : St) : e_m_ma (xadj S ) = e_m_ma S := by
  unfold e_m_ma
  rw [kp_xadj_ma]
theorem ke_xadj_m_li (S : St) : e_m_li (xadj S ) = e_m_li S := by
  unfold e_m_li
  rw [kp_xadj_li]
theorem ke_xadj_n_sb (S : St) : e_n_sb (xadj S ) = e_n_sb S := by
  unfold e_n_sb
  rw [kp_xadj_sb]
theorem ke_xadj_n_st (S : St) : e_n_st (xadj S ) = e_n_st S := by
  unfold e_n_st
  rw [kp_xadj_st]
theorem ke_xadj_n_pl (S : St) : e_n_pl (xadj S ) = e_n_pl S := by
  unfold e_n_pl
  rw [kp_xadj_pl]
theorem ke_xadj_n_en (S : St) : e_n_en (xadj S ) = e_n_en S := by
  unfold e_n_en
  rw [kp_xadj_en]
theorem ke_xadj_n_so (S : St) : e_n_so (xadj S ) = e_n_so S := by
  unfold e_n_so
  rw [kp_xadj_so]
theorem ke_xadj_n_co (S : St) : e_n_co (xadj S ) = e_n_co S := by
  unfold e_n_co
  rw [kp_xadj_co]
theorem ke_xadj_n_sc (S : St) : e_n_sc (xadj S ) = e_n_sc S := by
  unfold e_n_sc
  rw [kp_xadj_sc]
theorem ke_xone_k_ce (S : St) (op : Nat) : e_k_ce (xone S op) = e_k_ce S := by
  unfold e_k_ce
  rw [kp_xone_im]
theorem ke_xone_k_bc (S : St) (op : Nat) : e_k_bc (xone S op) = e_k_bc S := by
  unfold e_k_bc
  rw [kp_xone_bk]
theorem ke_xone_m_ra (S : St) (op : Nat) : e_m_ra (xone S op) = e_m_ra S := by
  unfold e_m_ra
  rw [kp_xone_ra]
theorem ke_xone_m_up (S : St) (op : Nat) : e_m_up (xone S op) = e_m_up S := by
  unfold e_m_up
  rw [kp_xone_up]
theorem ke_xone_m_on (S : St) (op : Nat) : e_m_on (xone S op) = e_m_on S := by
  unfold e_m_on
  rw [kp_xone_on]
theorem ke_xone_m_lo (S : St) (op : Nat) : e_m_lo (xone S op) = e_m_lo S := by
  unfold e_m_lo
  rw [kp_xone_lo]
theorem ke_xone_m_hi (S : St) (op : Nat) : e_m_hi (xone S op) = e_m_hi S := by
  unfold e_m_hi
  rw [kp_xone_hi]
theorem ke_xone_m_mo (S : St) (op : Nat) : e_m_mo (xone S op) = e_m_mo S := by
  unfold e_m_mo
  rw [kp_xone_mo]
theorem ke_xone_m_ma (S : St) (op : Nat) : e_m_ma (xone S op) = e_m_ma S := by
  unfold e_m_ma
  rw [kp_xone_ma]
theorem ke_xone_m_li (S : St) (op : Nat) : e_m_li (xone S op) = e_m_li S := by
  unfold e_m_li
  rw [kp_xone_li]
theorem ke_xtwo_k_ce (S : St) (g r : Nat) : e_k_ce (xtwo S g r) = e_k_ce S := by
  unfold e_k_ce
  rw [kp_xtwo_im]
theorem ke_xtwo_k_bc (S : St) (g r : Nat) : e_k_bc (xtwo S g r) = e_k_bc S := by
  unfold e_k_bc
  rw [kp_xtwo_bk]
theorem ke_xtwo_n_sb (S : St) (g r : Nat) : e_n_sb (xtwo S g r) = e_n_sb S := by
  unfold e_n_sb
  rw [kp_xtwo_sb]
theorem ke_xtwo_n_en (S : St) (g r : Nat) : e_n_en (xtwo S g r) = e_n_en S := by
  unfold e_n_en
  rw [kp_xtwo_en]
theorem ke_xtwo_n_so (S : St) (g r : Nat) : e_n_so (xtwo S g r) = e_n_so S := by
  unfold e_n_so
  rw [kp_xtwo_so]
theorem ke_xtwo_n_co (S : St) (g r : Nat) : e_n_co (xtwo S g r) = e_n_co S := by
  unfold e_n_co
  rw [kp_xtwo_co]
theorem ke_xtwo_n_sc (S : St) (g r : Nat) : e_n_sc (xtwo S g r) = e_n_sc S := by
  unfold e_n_sc
  rw [kp_xtwo_sc]
theorem ke_xjump_k_ce (S : St) (k w : Nat) : e_k_ce (xjump S k w) = e_k_ce S := by
  unfold e_k_ce
  rw [kp_xjump_im]
theorem ke_xjump_k_bc (S : St) (k w : Nat) : e_k_bc (xjump S k w) = e_k_bc S := by
  unfold e_k_bc
  rw [kp_xjump_bk]
theorem ke_xjump_n_rg (S : St) (k w : Nat) : e_n_rg (xjump S k w) = e_n_rg S := by
  unfold e_n_rg
  rw [kp_xjump_rg]
theorem ke_xjump_n_sb (S : St) (k w : Nat) : e_n_sb (xjump S k w) = e_n_sb S := by
  unfold e_n_sb
  rw [kp_xjump_sb]
theorem ke_xjump_n_z (S : St) (k w : Nat) : e_n_z (xjump S k w) = e_n_z S := by
  unfold e_n_z
  rw [kp_xjump_zf]
theorem ke_xjump_n_n (S : St) (k w : Nat) : e_n_n (xjump S k w) = e_n_n S := by
  unfold e_n_n
  rw [kp_xjump_nf]
theorem ke_xjump_n_h (S : St) (k w : Nat) : e_n_h (xjump S k w) = e_n_h S := by
  unfold e_n_h
  rw [kp_xjump_hf]
theorem ke_xjump_n_c (S : St) (k w : Nat) : e_n_c (xjump S k w) = e_n_c S := by
  unfold e_n_c
  rw [kp_xjump_cf]
theorem ke_xjump_n_en (S : St) (k w : Nat) : e_n_en (xjump S k w) = e_n_en S := by
  unfold e_n_en
  rw [kp_xjump_en]
theorem ke_xjump_n_so (S : St) (k w : Nat) : e_n_so (xjump S k w) = e_n_so S := by
  unfold e_n_so
  rw [kp_xjump_so]
theorem ke_xjump_n_sc (S : St) (k w : Nat) : e_n_sc (xjump S k w) = e_n_sc S := by
  unfold e_n_sc
  rw [kp_xjump_sc]
theorem ke_xbits_k_ce (S : St) (n : Nat) : e_k_ce (xbits S n) = e_k_ce S := by
  unfold e_k_ce
  rw [kp_xbits_im]
theorem ke_xbits_k_bc (S : St) (n : Nat) : e_k_bc (xbits S n) = e_k_bc S := by
  unfold e_k_bc
  rw [kp_xbits_bk]
theorem ke_xbits_n_sb (S : St) (n : Nat) : e_n_sb (xbits S n) = e_n_sb S := by
  unfold e_n_sb
  rw [kp_xbits_sb]
theorem ke_xbits_n_st (S : St) (n : Nat) : e_n_st (xbits S n) = e_n_st S := by
  unfold e_n_st
  rw [kp_xbits_st]
theorem ke_xbits_n_pl (S : St) (n : Nat) : e_n_pl (xbits S n) = e_n_pl S := by
  unfold e_n_pl
  rw [kp_xbits_pl]
theorem ke_xbits_n_en (S : St) (n : Nat) : e_n_en (xbits S n) = e_n_en S := by
  unfold e_n_en
  rw [kp_xbits_en]
theorem ke_xbits_n_so (S : St) (n : Nat) : e_n_so (xbits S n) = e_n_so S := by
  unfold e_n_so
  rw [kp_xbits_so]
theorem ke_xbits_n_co (S : St) (n : Nat) : e_n_co (xbits S n) = e_n_co S := by
  unfold e_n_co
  rw [kp_xbits_co]
theorem ke_xbits_n_sc (S : St) (n : Nat) : e_n_sc (xbits S n) = e_n_sc S := by
  unfold e_n_sc
  rw [kp_xbits_sc]
theorem ke_xobey_k_ce (S : St) (op : Nat) : e_k_ce (xobey S op) = e_k_ce S := by
  unfold e_k_ce
  rw [kp_xobey_im]
theorem ke_xobey_k_bc (S : St) (op : Nat) : e_k_bc (xobey S op) = e_k_bc S := by
  unfold e_k_bc
  rw [kp_xobey_bk]
theorem ke_xcalc_q_banks (S : St) (k b : Nat) : e_q_banks (xcalc S k b) = e_q_banks S := by
  unfold e_q_banks
  rw [kp_xcalc_bk]
theorem ke_xcalc_q_memory (S : St) (k b : Nat) : e_q_memory (xcalc S k b) = e_q_memory S := by
  unfold e_q_memory mm_
  simp only [kp_xcalc_im, kp_xcalc_ra, kp_xcalc_up, kp_xcalc_ma, kp_xcalc_li]
theorem ke_xcalc_q_stack (S : St) (k b : Nat) : e_q_stack (xcalc S k b) = e_q_stack S := by
  unfold e_q_stack
  rw [kp_xcalc_st]
theorem ke_xcalc_q_place (S : St) (k b : Nat) : e_q_place (xcalc S k b) = e_q_place S := by
  unfold e_q_place
  rw [kp_xcalc_pl]
theorem ke_xcalc_q_enabled (S : St) (k b : Nat) : e_q_enabled (xcalc S k b) = e_q_enabled S := by
  unfold e_q_enabled
  rw [kp_xcalc_en]
theorem ke_xcalc_q_soon (S : St) (k b : Nat) : e_q_soon (xcalc S k b) = e_q_soon S := by
  unfold e_q_soon
  rw [kp_xcalc_so]
theorem ke_xcalc_q_ram (S : St) (k b : Nat) : e_q_ram (xcalc S k b) = e_q_ram S := by
  unfold e_q_ram
  rw [kp_xcalc_on]
theorem ke_xcalc_q_low (S : St) (k b : Nat) : e_q_low (xcalc S k b) = e_q_low S := by
  unfold e_q_low
  rw [kp_xcalc_lo]
theorem ke_xcalc_q_top (S : St) (k b : Nat) : e_q_top (xcalc S k b) = e_q_top S := by
  unfold e_q_top
  rw [kp_xcalc_hi]
theorem ke_xcalc_q_mode (S : St) (k b : Nat) : e_q_mode (xcalc S k b) = e_q_mode S := by
  unfold e_q_mode
  rw [kp_xcalc_mo]
theorem ke_xcalc_q_state (S : St) (k b : Nat) : e_q_state (xcalc S k b) = e_q_state S := by
  unfold e_q_state
  rw [kp_xcalc_co]
theorem ke_xcalc_q_sent (S : St) (k b : Nat) : e_q_sent (xcalc S k b) = e_q_sent S := by
  unfold e_q_sent
  rw [kp_xcalc_sc]
theorem ke_xcalc_q_out (S : St) (k b : Nat) : e_q_out (xcalc S k b) = e_q_out S := by
  unfold e_q_out
  rw [kp_xcalc_sb]
theorem ke_xadj_q_banks (S : St) : e_q_banks (xadj S ) = e_q_banks S := by
  unfold e_q_banks
  rw [kp_xadj_bk]
theorem ke_xadj_q_memory (S : St) : e_q_memory (xadj S ) = e_q_memory S := by
  unfold e_q_memory mm_
  simp only [kp_xadj_im, kp_xadj_ra, kp_xadj_up, kp_xadj_ma, kp_xadj_li]
theorem ke_xadj_q_stack (S : St) : e_q_stack (xadj S ) = e_q_stack S := by
  unfold e_q_stack
  rw [kp_xadj_st]
theorem ke_xadj_q_place (S : St) : e_q_place (xadj S ) = e_q_place S := by
  unfold e_q_place
  rw [kp_xadj_pl]
theorem ke_xadj_q_enabled (S : St) : e_q_enabled (xadj S ) = e_q_enabled S := by
  unfold e_q_enabled
  rw [kp_xadj_en]
theorem ke_xadj_q_soon (S : St) : e_q_soon (xadj S ) = e_q_soon S := by
  unfold e_q_soon
  rw [kp_xadj_so]
theorem ke_xadj_q_ram (S : St) : e_q_ram (xadj S ) = e_q_ram S := by
  unfold e_q_ram
  rw [kp_xadj_on]
theorem ke_xadj_q_low (S : St) : e_q_low (xadj S ) = e_q_low S := by
  unfold e_q_low
  rw [kp_xadj_lo]
theorem ke_xadj_q_top (S : St) : e_q_top (xadj S ) = e_q_top S := by
  unfold e_q_top
  rw [kp_xadj_hi]
theorem ke_xadj_q_mode (S : St) : e_q_mode (xadj S ) = e_q_mode S := by
  unfold e_q_mode
  rw [kp_xadj_mo]
theorem ke_xadj_q_state (S : St) : e_q_state (xadj S ) = e_q_state S := by
  unfold e_q_state
  rw [kp_xadj_co]
theorem ke_xadj_q_sent (S : St) : e_q_sent (xadj S ) = e_q_sent S := by
  unfold e_q_sent
  rw [kp_xadj_sc]
theorem ke_xadj_q_out (S : St) : e_q_out (xadj S ) = e_q_out S := by
  unfold e_q_out
  rw [kp_xadj_sb]
theorem ke_xone_q_banks (S : St) (op : Nat) : e_q_banks (xone S op) = e_q_banks S := by
  unfold e_q_banks
  rw [kp_xone_bk]
theorem ke_xone_q_memory (S : St) (op : Nat) : e_q_memory (xone S op) = e_q_memory S := by
  unfold e_q_memory mm_
  simp only [kp_xone_im, kp_xone_ra, kp_xone_up, kp_xone_ma, kp_xone_li]
theorem ke_xone_q_ram (S : St) (op : Nat) : e_q_ram (xone S op) = e_q_ram S := by
  unfold e_q_ram
  rw [kp_xone_on]
theorem ke_xone_q_low (S : St) (op : Nat) : e_q_low (xone S op) = e_q_low S := by
  unfold e_q_low
  rw [kp_xone_lo]
theorem ke_xone_q_top (S : St) (op : Nat) : e_q_top (xone S op) = e_q_top S := by
  unfold e_q_top
  rw [kp_xone_hi]
theorem ke_xone_q_mode (S : St) (op : Nat) : e_q_mode (xone S op) = e_q_mode S := by
  unfold e_q_mode
  rw [kp_xone_mo]
theorem ke_xtwo_q_banks (S : St) (g r : Nat) : e_q_banks (xtwo S g r) = e_q_banks S := by
  unfold e_q_banks
  rw [kp_xtwo_bk]
theorem ke_xtwo_q_enabled (S : St) (g r : Nat) : e_q_enabled (xtwo S g r) = e_q_enabled S := by
  unfold e_q_enabled
  rw [kp_xtwo_en]
theorem ke_xtwo_q_soon (S : St) (g r : Nat) : e_q_soon (xtwo S g r) = e_q_soon S := by
  unfold e_q_soon
  rw [kp_xtwo_so]
theorem ke_xtwo_q_state (S : St) (g r : Nat) : e_q_state (xtwo S g r) = e_q_state S := by
  unfold e_q_state
  rw [kp_xtwo_co]
theorem ke_xtwo_q_sent (S : St) (g r : Nat) : e_q_sent (xtwo S g r) = e_q_sent S := by
  unfold e_q_sent
  rw [kp_xtwo_sc]
theorem ke_xtwo_q_out (S : St) (g r : Nat) : e_q_out (xtwo S g r) = e_q_out S := by
  unfold e_q_out
  rw [kp_xtwo_sb]
theorem ke_xjump_q_banks (S : St) (k w : Nat) : e_q_banks (xjump S k w) = e_q_banks S := by
  unfold e_q_banks
  rw [kp_xjump_bk]
theorem ke_xjump_q_register (S : St) (k w : Nat) : e_q_register (xjump S k w) = e_q_register S := by
  unfold e_q_register
  rw [kp_xjump_rg]
theorem ke_xjump_q_zero (S : St) (k w : Nat) : e_q_zero (xjump S k w) = e_q_zero S := by
  unfold e_q_zero
  rw [kp_xjump_zf]
theorem ke_xjump_q_less (S : St) (k w : Nat) : e_q_less (xjump S k w) = e_q_less S := by
  unfold e_q_less
  rw [kp_xjump_nf]
theorem ke_xjump_q_half (S : St) (k w : Nat) : e_q_half (xjump S k w) = e_q_half S := by
  unfold e_q_half
  rw [kp_xjump_hf]
theorem ke_xjump_q_carry (S : St) (k w : Nat) : e_q_carry (xjump S k w) = e_q_carry S := by
  unfold e_q_carry
  rw [kp_xjump_cf]
theorem ke_xjump_q_enabled (S : St) (k w : Nat) : e_q_enabled (xjump S k w) = e_q_enabled S := by
  unfold e_q_enabled
  rw [kp_xjump_en]
theorem ke_xjump_q_soon (S : St) (k w : Nat) : e_q_soon (xjump S k w) = e_q_soon S := by
  unfold e_q_soon
  rw [kp_xjump_so]
theorem ke_xjump_q_sent (S : St) (k w : Nat) : e_q_sent (xjump S k w) = e_q_sent S := by
  unfold e_q_sent
  rw [kp_xjump_sc]
theorem ke_xjump_q_out (S : St) (k w : Nat) : e_q_out (xjump S k w) = e_q_out S := by
  unfold e_q_out
  rw [kp_xjump_sb]
theorem ke_xbits_q_banks (S : St) (n : Nat) : e_q_banks (xbits S n) = e_q_banks S := by
  unfold e_q_banks
  rw [kp_xbits_bk]
theorem ke_xbits_q_stack (S : St) (n : Nat) : e_q_stack (xbits S n) = e_q_stack S := by
  unfold e_q_stack
  rw [kp_xbits_st]
theorem ke_xbits_q_place (S : St) (n : Nat) : e_q_place (xbits S n) = e_q_place S := by
  unfold e_q_place
  rw [kp_xbits_pl]
theorem ke_xbits_q_enabled (S : St) (n : Nat) : e_q_enabled (xbits S n) = e_q_enabled S := by
  unfold e_q_enabled
  rw [kp_xbits_en]
theorem ke_xbits_q_soon (S : St) (n : Nat) : e_q_soon (xbits S n) = e_q_soon S := by
  unfold e_q_soon
  rw [kp_xbits_so]
theorem ke_xbits_q_state (S : St) (n : Nat) : e_q_state (xbits S n) = e_q_state S := by
  unfold e_q_state
  rw [kp_xbits_co]
theorem ke_xbits_q_sent (S : St) (n : Nat) : e_q_sent (xbits S n) = e_q_sent S := by
  unfold e_q_sent
  rw [kp_xbits_sc]
theorem ke_xbits_q_out (S : St) (n : Nat) : e_q_out (xbits S n) = e_q_out S := by
  unfold e_q_out
  rw [kp_xbits_sb]
theorem ke_xobey_q_banks (S : St) (op : Nat) : e_q_banks (xobey S op) = e_q_banks S := by
  unfold e_q_banks
  rw [kp_xobey_bk]
