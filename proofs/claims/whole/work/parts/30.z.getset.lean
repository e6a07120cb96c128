/-! what a setter leaves -/
section GS
variable {S : St}
theorem ga_im_im {x : Nat → Nat} : im_ (s_im S x) = x := rfl
theorem ga_im_bk {x : Nat} : im_ (s_bk S x) = im_ S := rfl
theorem ga_im_ra {x : Nat → Nat} : im_ (s_ra S x) = im_ S := rfl
theorem ga_im_up {x : Nat → Nat} : im_ (s_up S x) = im_ S := rfl
theorem ga_im_on {x : Bool} : im_ (s_on S x) = im_ S := rfl
theorem ga_im_lo {x : Nat} : im_ (s_lo S x) = im_ S := rfl
theorem ga_im_hi {x : Nat} : im_ (s_hi S x) = im_ S := rfl
theorem ga_im_mo {x : Nat} : im_ (s_mo S x) = im_ S := rfl
theorem ga_im_ma {x : Nat} : im_ (s_ma S x) = im_ S := rfl
theorem ga_im_li {x : Nat} : im_ (s_li S x) = im_ S := rfl
theorem ga_im_rg {x : Nat → Nat} : im_ (s_rg S x) = im_ S := rfl
theorem ga_im_sb {x : Nat → Nat} : im_ (s_sb S x) = im_ S := rfl
theorem ga_im_st {x : Nat} : im_ (s_st S x) = im_ S := rfl
theorem ga_im_pl {x : Nat} : im_ (s_pl S x) = im_ S := rfl
theorem ga_im_zf {x : Bool} : im_ (s_zf S x) = im_ S := rfl
theorem ga_im_nf {x : Bool} : im_ (s_nf S x) = im_ S := rfl
theorem ga_im_hf {x : Bool} : im_ (s_hf S x) = im_ S := rfl
theorem ga_im_cf {x : Bool} : im_ (s_cf S x) = im_ S := rfl
theorem ga_im_en {x : Bool} : im_ (s_en S x) = im_ S := rfl
theorem ga_im_so {x : Bool} : im_ (s_so S x) = im_ S := rfl
theorem ga_im_co {x : Nat} : im_ (s_co S x) = im_ S := rfl
theorem ga_im_sc {x : Nat} : im_ (s_sc S x) = im_ S := rfl
theorem ga_bk_im {x : Nat → Nat} : bk_ (s_im S x) = bk_ S := rfl
theorem ga_bk_bk {x : Nat} : bk_ (s_bk S x) = x := rfl
theorem ga_bk_ra {x : Nat → Nat} : bk_ (s_ra S x) = bk_ S := rfl
theorem ga_bk_up {x : Nat → Nat} : bk_ (s_up S x) = bk_ S := rfl
theorem ga_bk_on {x : Bool} : bk_ (s_on S x) = bk_ S := rfl
theorem ga_bk_lo {x : Nat} : bk_ (s_lo S x) = bk_ S := rfl
theorem ga_bk_hi {x : Nat} : bk_ (s_hi S x) = bk_ S := rfl
theorem ga_bk_mo {x : Nat} : bk_ (s_mo S x) = bk_ S := rfl
theorem ga_bk_ma {x : Nat} : bk_ (s_ma S x) = bk_ S := rfl
theorem ga_bk_li {x : Nat} : bk_ (s_li S x) = bk_ S := rfl
theorem ga_bk_rg {x : Nat → Nat} : bk_ (s_rg S x) = bk_ S := rfl
theorem ga_bk_sb {x : Nat → Nat} : bk_ (s_sb S x) = bk_ S := rfl
theorem ga_bk_st {x : Nat} : bk_ (s_st S x) = bk_ S := rfl
theorem ga_bk_pl {x : Nat} : bk_ (s_pl S x) = bk_ S := rfl
theorem ga_bk_zf {x : Bool} : bk_ (s_zf S x) = bk_ S := rfl
theorem ga_bk_nf {x : Bool} : bk_ (s_nf S x) = bk_ S := rfl
theorem ga_bk_hf {x : Bool} : bk_ (s_hf S x) = bk_ S := rfl
theorem ga_bk_cf {x : Bool} : bk_ (s_cf S x) = bk_ S := rfl
theorem ga_bk_en {x : Bool} : bk_ (s_en S x) = bk_ S := rfl
theorem ga_bk_so {x : Bool} : bk_ (s_so S x) = bk_ S := rfl
theorem ga_bk_co {x : Nat} : bk_ (s_co S x) = bk_ S := rfl
theorem ga_bk_sc {x : Nat} : bk_ (s_sc S x) = bk_ S := rfl
theorem ga_ra_im {x : Nat → Nat} : ra_ (s_im S x) = ra_ S := rfl
theorem ga_ra_bk {x : Nat} : ra_ (s_bk S x) = ra_ S := rfl
theorem ga_ra_ra {x : Nat → Nat} : ra_ (s_ra S x) = x := rfl
theorem ga_ra_up {x : Nat → Nat} : ra_ (s_up S x) = ra_ S := rfl
theorem ga_ra_on {x : Bool} : ra_ (s_on S x) = ra_ S := rfl
theorem ga_ra_lo {x : Nat} : ra_ (s_lo S x) = ra_ S := rfl
theorem ga_ra_hi {x : Nat} : ra_ (s_hi S x) = ra_ S := rfl
theorem ga_ra_mo {x : Nat} : ra_ (s_mo S x) = ra_ S := rfl
theorem ga_ra_ma {x : Nat} : ra_ (s_ma S x) = ra_ S := rfl
theorem ga_ra_li {x : Nat} : ra_ (s_li S x) = ra_ S := rfl
theorem ga_ra_rg {x : Nat → Nat} : ra_ (s_rg S x) = ra_ S := rfl
theorem ga_ra_sb {x : Nat → Nat} : ra_ (s_sb S x) = ra_ S := rfl
theorem ga_ra_st {x : Nat} : ra_ (s_st S x) = ra_ S := rfl
theorem ga_ra_pl {x : Nat} : ra_ (s_pl S x) = ra_ S := rfl
theorem ga_ra_zf {x : Bool} : ra_ (s_zf S x) = ra_ S := rfl
theorem ga_ra_nf {x : Bool} : ra_ (s_nf S x) = ra_ S := rfl
theorem ga_ra_hf {x : Bool} : ra_ (s_hf S x) = ra_ S := rfl
theorem ga_ra_cf {x : Bool} : ra_ (s_cf S x) = ra_ S := rfl
theorem ga_ra_en {x : Bool} : ra_ (s_en S x) = ra_ S := rfl
theorem ga_ra_so {x : Bool} : ra_ (s_so S x) = ra_ S := rfl
theorem ga_ra_co {x : Nat} : ra_ (s_co S x) = ra_ S := rfl
theorem ga_ra_sc {x : Nat} : ra_ (s_sc S x) = ra_ S := rfl
theorem ga_up_im {x : Nat → Nat} : up_ (s_im S x) = up_ S := rfl
theorem ga_up_bk {x : Nat} : up_ (s_bk S x) = up_ S := rfl
theorem ga_up_ra {x : Nat → Nat} : up_ (s_ra S x) = up_ S := rfl
theorem ga_up_up {x : Nat → Nat} : up_ (s_up S x) = x := rfl
theorem ga_up_on {x : Bool} : up_ (s_on S x) = up_ S := rfl
theorem ga_up_lo {x : Nat} : up_ (s_lo S x) = up_ S := rfl
theorem ga_up_hi {x : Nat} : up_ (s_hi S x) = up_ S := rfl
theorem ga_up_mo {x : Nat} : up_ (s_mo S x) = up_ S := rfl
theorem ga_up_ma {x : Nat} : up_ (s_ma S x) = up_ S := rfl
theorem ga_up_li {x : Nat} : up_ (s_li S x) = up_ S := rfl
theorem ga_up_rg {x : Nat → Nat} : up_ (s_rg S x) = up_ S := rfl
theorem ga_up_sb {x : Nat → Nat} : up_ (s_sb S x) = up_ S := rfl
theorem ga_up_st {x : Nat} : up_ (s_st S x) = up_ S := rfl
theorem ga_up_pl {x : Nat} : up_ (s_pl S x) = up_ S := rfl
theorem ga_up_zf {x : Bool} : up_ (s_zf S x) = up_ S := rfl
theorem ga_up_nf {x : Bool} : up_ (s_nf S x) = up_ S := rfl
theorem ga_up_hf {x : Bool} : up_ (s_hf S x) = up_ S := rfl
theorem ga_up_cf {x : Bool} : up_ (s_cf S x) = up_ S := rfl
theorem ga_up_en {x : Bool} : up_ (s_en S x) = up_ S := rfl
theorem ga_up_so {x : Bool} : up_ (s_so S x) = up_ S := rfl
theorem ga_up_co {x : Nat} : up_ (s_co S x) = up_ S := rfl
theorem ga_up_sc {x : Nat} : up_ (s_sc S x) = up_ S := rfl
theorem ga_on_im {x : Nat → Nat} : on_ (s_im S x) = on_ S := rfl
theorem ga_on_bk {x : Nat} : on_ (s_bk S x) = on_ S := rfl
theorem ga_on_ra {x : Nat → Nat} : on_ (s_ra S x) = on_ S := rfl
theorem ga_on_up {x : Nat → Nat} : on_ (s_up S x) = on_ S := rfl
theorem ga_on_on {x : Bool} : on_ (s_on S x) = x := rfl
theorem ga_on_lo {x : Nat} : on_ (s_lo S x) = on_ S := rfl
theorem ga_on_hi {x : Nat} : on_ (s_hi S x) = on_ S := rfl
theorem ga_on_mo {x : Nat} : on_ (s_mo S x) = on_ S := rfl
theorem ga_on_ma {x : Nat} : on_ (s_ma S x) = on_ S := rfl
theorem ga_on_li {x : Nat} : on_ (s_li S x) = on_ S := rfl
theorem ga_on_rg {x : Nat → Nat} : on_ (s_rg S x) = on_ S := rfl
theorem ga_on_sb {x : Nat → Nat} : on_ (s_sb S x) = on_ S := rfl
theorem ga_on_st {x : Nat} : on_ (s_st S x) = on_ S := rfl
theorem ga_on_pl {x : Nat} : on_ (s_pl S x) = on_ S := rfl
theorem ga_on_zf {x : Bool} : on_ (s_zf S x) = on_ S := rfl
theorem ga_on_nf {x : Bool} : on_ (s_nf S x) = on_ S := rfl
theorem ga_on_hf {x : Bool} : on_ (s_hf S x) = on_ S := rfl
theorem ga_on_cf {x : Bool} : on_ (s_cf S x) = on_ S := rfl
theorem ga_on_en {x : Bool} : on_ (s_en S x) = on_ S := rfl
theorem ga_on_so {x : Bool} : on_ (s_so S x) = on_ S := rfl
theorem ga_on_co {x : Nat} : on_ (s_co S x) = on_ S := rfl
theorem ga_on_sc {x : Nat} : on_ (s_sc S x) = on_ S := rfl
theorem ga_lo_im {x : Nat → Nat} : lo_ (s_im S x) = lo_ S := rfl
theorem ga_lo_bk {x : Nat} : lo_ (s_bk S x) = lo_ S := rfl
theorem ga_lo_ra {x : Nat → Nat} : lo_ (s_ra S x) = lo_ S := rfl
theorem ga_lo_up {x : Nat → Nat} : lo_ (s_up S x) = lo_ S := rfl
theorem ga_lo_on {x : Bool} : lo_ (s_on S x) = lo_ S := rfl
theorem ga_lo_lo {x : Nat} : lo_ (s_lo S x) = x := rfl
theorem ga_lo_hi {x : Nat} : lo_ (s_hi S x) = lo_ S := rfl
theorem ga_lo_mo {x : Nat} : lo_ (s_mo S x) = lo_ S := rfl
theorem ga_lo_ma {x : Nat} : lo_ (s_ma S x) = lo_ S := rfl
theorem ga_lo_li {x : Nat} : lo_ (s_li S x) = lo_ S := rfl
theorem ga_lo_rg {x : Nat → Nat} : lo_ (s_rg S x) = lo_ S := rfl
theorem ga_lo_sb {x : Nat → Nat} : lo_ (s_sb S x) = lo_ S := rfl
theorem ga_lo_st {x : Nat} : lo_ (s_st S x) = lo_ S := rfl
theorem ga_lo_pl {x : Nat} : lo_ (s_pl S x) = lo_ S := rfl
theorem ga_lo_zf {x : Bool} : lo_ (s_zf S x) = lo_ S := rfl
theorem ga_lo_nf {x : Bool} : lo_ (s_nf S x) = lo_ S := rfl
theorem ga_lo_hf {x : Bool} : lo_ (s_hf S x) = lo_ S := rfl
theorem ga_lo_cf {x : Bool} : lo_ (s_cf S x) = lo_ S := rfl
theorem ga_lo_en {x : Bool} : lo_ (s_en S x) = lo_ S := rfl
theorem ga_lo_so {x : Bool} : lo_ (s_so S x) = lo_ S := rfl
theorem ga_lo_co {x : Nat} : lo_ (s_co S x) = lo_ S := rfl
theorem ga_lo_sc {x : Nat} : lo_ (s_sc S x) = lo_ S := rfl
theorem ga_hi_im {x : Nat → Nat} : hi_ (s_im S x) = hi_ S := rfl
theorem ga_hi_bk {x : Nat} : hi_ (s_bk S x) = hi_ S := rfl
theorem ga_hi_ra {x : Nat → Nat} : hi_ (s_ra S x) = hi_ S := rfl
theorem ga_hi_up {x : Nat → Nat} : hi_ (s_up S x) = hi_ S := rfl
theorem ga_hi_on {x : Bool} : hi_ (s_on S x) = hi_ S := rfl
theorem ga_hi_lo {x : Nat} : hi_ (s_lo S x) = hi_ S := rfl
theorem ga_hi_hi {x : Nat} : hi_ (s_hi S x) = x := rfl
theorem ga_hi_mo {x : Nat} : hi_ (s_mo S x) = hi_ S := rfl
theorem ga_hi_ma {x : Nat} : hi_ (s_ma S x) = hi_ S := rfl
theorem ga_hi_li {x : Nat} : hi_ (s_li S x) = hi_ S := rfl
theorem ga_hi_rg {x : Nat → Nat} : hi_ (s_rg S x) = hi_ S := rfl
theorem ga_hi_sb {x : Nat → Nat} : hi_ (s_sb S x) = hi_ S := rfl
theorem ga_hi_st {x : Nat} : hi_ (s_st S x) = hi_ S := rfl
theorem ga_hi_pl {x : Nat} : hi_ (s_pl S x) = hi_ S := rfl
theorem ga_hi_zf {x : Bool} : hi_ (s_zf S x) = hi_ S := rfl
theorem ga_hi_nf {x : Bool} : hi_ (s_nf S x) = hi_ S := rfl
theorem ga_hi_hf {x : Bool} : hi_ (s_hf S x) = hi_ S := rfl
theorem ga_hi_cf {x : Bool} : hi_ (s_cf S x) = hi_ S := rfl
theorem ga_hi_en {x : Bool} : hi_ (s_en S x) = hi_ S := rfl
theorem ga_hi_so {x : Bool} : hi_ (s_so S x) = hi_ S := rfl
theorem ga_hi_co {x : Nat} : hi_ (s_co S x) = hi_ S := rfl
theorem ga_hi_sc {x : Nat} : hi_ (s_sc S x) = hi_ S := rfl
theorem ga_mo_im {x : Nat → Nat} : mo_ (s_im S x) = mo_ S := rfl
theorem ga_mo_bk {x : Nat} : mo_ (s_bk S x) = mo_ S := rfl
theorem ga_mo_ra {x : Nat → Nat} : mo_ (s_ra S x) = mo_ S := rfl
theorem ga_mo_up {x : Nat → Nat} : mo_ (s_up S x) = mo_ S := rfl
theorem ga_mo_on {x : Bool} : mo_ (s_on S x) = mo_ S := rfl
theorem ga_mo_lo {x : Nat} : mo_ (s_lo S x) = mo_ S := rfl
theorem ga_mo_hi {x : Nat} : mo_ (s_hi S x) = mo_ S := rfl
theorem ga_mo_mo {x : Nat} : mo_ (s_mo S x) = x := rfl
theorem ga_mo_ma {x : Nat} : mo_ (s_ma S x) = mo_ S := rfl
theorem ga_mo_li {x : Nat} : mo_ (s_li S x) = mo_ S := rfl
theorem ga_mo_rg {x : Nat → Nat} : mo_ (s_rg S x) = mo_ S := rfl
theorem ga_mo_sb {x : Nat → Nat} : mo_ (s_sb S x) = mo_ S := rfl
theorem ga_mo_st {x : Nat} : mo_ (s_st S x) = mo_ S := rfl
theorem ga_mo_pl {x : Nat} : mo_ (s_pl S x) = mo_ S := rfl
theorem ga_mo_zf {x : Bool} : mo_ (s_zf S x) = mo_ S := rfl
theorem ga_mo_nf {x : Bool} : mo_ (s_nf S x) = mo_ S := rfl
theorem ga_mo_hf {x : Bool} : mo_ (s_hf S x) = mo_ S := rfl
theorem ga_mo_cf {x : Bool} : mo_ (s_cf S x) = mo_ S := rfl
theorem ga_mo_en {x : Bool} : mo_ (s_en S x) = mo_ S := rfl
theorem ga_mo_so {x : Bool} : mo_ (s_so S x) = mo_ S := rfl
theorem ga_mo_co {x : Nat} : mo_ (s_co S x) = mo_ S := rfl
theorem ga_mo_sc {x : Nat} : mo_ (s_sc S x) = mo_ S := rfl
theorem ga_ma_im {x : Nat → Nat} : ma_ (s_im S x) = ma_ S := rfl
theorem ga_ma_bk {x : Nat} : ma_ (s_bk S x) = ma_ S := rfl
theorem ga_ma_ra {x : Nat → Nat} : ma_ (s_ra S x) = ma_ S := rfl
theorem ga_ma_up {x : Nat → Nat} : ma_ (s_up S x) = ma_ S := rfl
theorem ga_ma_on {x : Bool} : ma_ (s_on S x) = ma_ S := rfl
theorem ga_ma_lo {x : Nat} : ma_ (s_lo S x) = ma_ S := rfl
theorem ga_ma_hi {x : Nat} : ma_ (s_hi S x) = ma_ S := rfl
theorem ga_ma_mo {x : Nat} : ma_ (s_mo S x) = ma_ S := rfl
theorem ga_ma_ma {x : Nat} : ma_ (s_ma S x) = x := rfl
theorem ga_ma_li {x : Nat} : ma_ (s_li S x) = ma_ S := rfl
theorem ga_ma_rg {x : Nat → Nat} : ma_ (s_rg S x) = ma_ S := rfl
theorem ga_ma_sb {x : Nat → Nat} : ma_ (s_sb S x) = ma_ S := rfl
theorem ga_ma_st {x : Nat} : ma_ (s_st S x) = ma_ S := rfl
theorem ga_ma_pl {x : Nat} : ma_ (s_pl S x) = ma_ S := rfl
theorem ga_ma_zf {x : Bool} : ma_ (s_zf S x) = ma_ S := rfl
theorem ga_ma_nf {x : Bool} : ma_ (s_nf S x) = ma_ S := rfl
theorem ga_ma_hf {x : Bool} : ma_ (s_hf S x) = ma_ S := rfl
theorem ga_ma_cf {x : Bool} : ma_ (s_cf S x) = ma_ S := rfl
theorem ga_ma_en {x : Bool} : ma_ (s_en S x) = ma_ S := rfl
theorem ga_ma_so {x : Bool} : ma_ (s_so S x) = ma_ S := rfl
theorem ga_ma_co {x : Nat} : ma_ (s_co S x) = ma_ S := rfl
theorem ga_ma_sc {x : Nat} : ma_ (s_sc S x) = ma_ S := rfl
theorem ga_li_im {x : Nat → Nat} : li_ (s_im S x) = li_ S := rfl
theorem ga_li_bk {x : Nat} : li_ (s_bk S x) = li_ S := rfl
theorem ga_li_ra {x : Nat → Nat} : li_ (s_ra S x) = li_ S := rfl
theorem ga_li_up {x : Nat → Nat} : li_ (s_up S x) = li_ S := rfl
theorem ga_li_on {x : Bool} : li_ (s_on S x) = li_ S := rfl
theorem ga_li_lo {x : Nat} : li_ (s_lo S x) = li_ S := rfl
theorem ga_li_hi {x : Nat} : li_ (s_hi S x) = li_ S := rfl
theorem ga_li_mo {x : Nat} : li_ (s_mo S x) = li_ S := rfl
theorem ga_li_ma {x : Nat} : li_ (s_ma S x) = li_ S := rfl
theorem ga_li_li {x : Nat} : li_ (s_li S x) = x := rfl
theorem ga_li_rg {x : Nat → Nat} : li_ (s_rg S x) = li_ S := rfl
theorem ga_li_sb {x : Nat → Nat} : li_ (s_sb S x) = li_ S := rfl
theorem ga_li_st {x : Nat} : li_ (s_st S x) = li_ S := rfl
theorem ga_li_pl {x : Nat} : li_ (s_pl S x) = li_ S := rfl
theorem ga_li_zf {x : Bool} : li_ (s_zf S x) = li_ S := rfl
theorem ga_li_nf {x : Bool} : li_ (s_nf S x) = li_ S := rfl
theorem ga_li_hf {x : Bool} : li_ (s_hf S x) = li_ S := rfl
theorem ga_li_cf {x : Bool} : li_ (s_cf S x) = li_ S := rfl
theorem ga_li_en {x : Bool} : li_ (s_en S x) = li_ S := rfl
theorem ga_li_so {x : Bool} : li_ (s_so S x) = li_ S := rfl
theorem ga_li_co {x : Nat} : li_ (s_co S x) = li_ S := rfl
theorem ga_li_sc {x : Nat} : li_ (s_sc S x) = li_ S := rfl
theorem ga_rg_im {x : Nat → Nat} : rg_ (s_im S x) = rg_ S := rfl
theorem ga_rg_bk {x : Nat} : rg_ (s_bk S x) = rg_ S := rfl
theorem ga_rg_ra {x : Nat → Nat} : rg_ (s_ra S x) = rg_ S := rfl
theorem ga_rg_up {x : Nat → Nat} : rg_ (s_up S x) = rg_ S := rfl
theorem ga_rg_on {x : Bool} : rg_ (s_on S x) = rg_ S := rfl
theorem ga_rg_lo {x : Nat} : rg_ (s_lo S x) = rg_ S := rfl
theorem ga_rg_hi {x : Nat} : rg_ (s_hi S x) = rg_ S := rfl
theorem ga_rg_mo {x : Nat} : rg_ (s_mo S x) = rg_ S := rfl
theorem ga_rg_ma {x : Nat} : rg_ (s_ma S x) = rg_ S := rfl
theorem ga_rg_li {x : Nat} : rg_ (s_li S x) = rg_ S := rfl
theorem ga_rg_rg {x : Nat → Nat} : rg_ (s_rg S x) = x := rfl
theorem ga_rg_sb {x : Nat → Nat} : rg_ (s_sb S x) = rg_ S := rfl
theorem ga_rg_st {x : Nat} : rg_ (s_st S x) = rg_ S := rfl
theorem ga_rg_pl {x : Nat} : rg_ (s_pl S x) = rg_ S := rfl
theorem ga_rg_zf {x : Bool} : rg_ (s_zf S x) = rg_ S := rfl
theorem ga_rg_nf {x : Bool} : rg_ (s_nf S x) = rg_ S := rfl
theorem ga_rg_hf {x : Bool} : rg_ (s_hf S x) = rg_ S := rfl
theorem ga_rg_cf {x : Bool} : rg_ (s_cf S x) = rg_ S := rfl
theorem ga_rg_en {x : Bool} : rg_ (s_en S x) = rg_ S := rfl
theorem ga_rg_so {x : Bool} : rg_ (s_so S x) = rg_ S := rfl
theorem ga_rg_co {x : Nat} : rg_ (s_co S x) = rg_ S := rfl
theorem ga_rg_sc {x : Nat} : rg_ (s_sc S x) = rg_ S := rfl
theorem ga_sb_im {x : Nat → Nat} : sb_ (s_im S x) = sb_ S := rfl
theorem ga_sb_bk {x : Nat} : sb_ (s_bk S x) = sb_ S := rfl
theorem ga_sb_ra {x : Nat → Nat} : sb_ (s_ra S x) = sb_ S := rfl
theorem ga_sb_up {x : Nat → Nat} : sb_ (s_up S x) = sb_ S := rfl
theorem ga_sb_on {x : Bool} : sb_ (s_on S x) = sb_ S := rfl
theorem ga_sb_lo {x : Nat} : sb_ (s_lo S x) = sb_ S := rfl
theorem ga_sb_hi {x : Nat} : sb_ (s_hi S x) = sb_ S := rfl
theorem ga_sb_mo {x : Nat} : sb_ (s_mo S x) = sb_ S := rfl
theorem ga_sb_ma {x : Nat} : sb_ (s_ma S x) = sb_ S := rfl
theorem ga_sb_li {x : Nat} : sb_ (s_li S x) = sb_ S := rfl
theorem ga_sb_rg {x : Nat → Nat} : sb_ (s_rg S x) = sb_ S := rfl
theorem ga_sb_sb {x : Nat → Nat} : sb_ (s_sb S x) = x := rfl
theorem ga_sb_st {x : Nat} : sb_ (s_st S x) = sb_ S := rfl
theorem ga_sb_pl {x : Nat} : sb_ (s_pl S x) = sb_ S := rfl
theorem ga_sb_zf {x : Bool} : sb_ (s_zf S x) = sb_ S := rfl
theorem ga_sb_nf {x : Bool} : sb_ (s_nf S x) = sb_ S := rfl
theorem ga_sb_hf {x : Bool} : sb_ (s_hf S x) = sb_ S := rfl
theorem ga_sb_cf {x : Bool} : sb_ (s_cf S x) = sb_ S := rfl
theorem ga_sb_en {x : Bool} : sb_ (s_en S x) = sb_ S := rfl
theorem ga_sb_so {x : Bool} : sb_ (s_so S x) = sb_ S := rfl
theorem ga_sb_co {x : Nat} : sb_ (s_co S x) = sb_ S := rfl
theorem ga_sb_sc {x : Nat} : sb_ (s_sc S x) = sb_ S := rfl
theorem ga_st_im {x : Nat → Nat} : st_ (s_im S x) = st_ S := rfl
theorem ga_st_bk {x : Nat} : st_ (s_bk S x) = st_ S := rfl
theorem ga_st_ra {x : Nat → Nat} : st_ (s_ra S x) = st_ S := rfl
theorem ga_st_up {x : Nat → Nat} : st_ (s_up S x) = st_ S := rfl
theorem ga_st_on {x : Bool} : st_ (s_on S x) = st_ S := rfl
theorem ga_st_lo {x : Nat} : st_ (s_lo S x) = st_ S := rfl
theorem ga_st_hi {x : Nat} : st_ (s_hi S x) = st_ S := rfl
theorem ga_st_mo {x : Nat} : st_ (s_mo S x) = st_ S := rfl
theorem ga_st_ma {x : Nat} : st_ (s_ma S x) = st_ S := rfl
theorem ga_st_li {x : Nat} : st_ (s_li S x) = st_ S := rfl
theorem ga_st_rg {x : Nat → Nat} : st_ (s_rg S x) = st_ S := rfl
theorem ga_st_sb {x : Nat → Nat} : st_ (s_sb S x) = st_ S := rfl
theorem ga_st_st {x : Nat} : st_ (s_st S x) = x := rfl
theorem ga_st_pl {x : Nat} : st_ (s_pl S x) = st_ S := rfl
theorem ga_st_zf {x : Bool} : st_ (s_zf S x) = st_ S := rfl
theorem ga_st_nf {x : Bool} : st_ (s_nf S x) = st_ S := rfl
theorem ga_st_hf {x : Bool} : st_ (s_hf S x) = st_ S := rfl
theorem ga_st_cf {x : Bool} : st_ (s_cf S x) = st_ S := rfl
theorem ga_st_en {x : Bool} : st_ (s_en S x) = st_ S := rfl
theorem ga_st_so {x : Bool} : st_ (s_so S x) = st_ S := rfl
theorem ga_st_co {x : Nat} : st_ (s_co S x) = st_ S := rfl
theorem ga_st_sc {x : Nat} : st_ (s_sc S x) = st_ S := rfl
theorem ga_pl_im {x : Nat → Nat} : pl_ (s_im S x) = pl_ S := rfl
theorem ga_pl_bk {x : Nat} : pl_ (s_bk S x) = pl_ S := rfl
theorem ga_pl_ra {x : Nat → Nat} : pl_ (s_ra S x) = pl_ S := rfl
theorem ga_pl_up {x : Nat → Nat} : pl_ (s_up S x) = pl_ S := rfl
theorem ga_pl_on {x : Bool} : pl_ (s_on S x) = pl_ S := rfl
theorem ga_pl_lo {x : Nat} : pl_ (s_lo S x) = pl_ S := rfl
theorem ga_pl_hi {x : Nat} : pl_ (s_hi S x) = pl_ S := rfl
theorem ga_pl_mo {x : Nat} : pl_ (s_mo S x) = pl_ S := rfl
theorem ga_pl_ma {x : Nat} : pl_ (s_ma S x) = pl_ S := rfl
theorem ga_pl_li {x : Nat} : pl_ (s_li S x) = pl_ S := rfl
theorem ga_pl_rg {x : Nat → Nat} : pl_ (s_rg S x) = pl_ S := rfl
theorem ga_pl_sb {x : Nat → Nat} : pl_ (s_sb S x) = pl_ S := rfl
theorem ga_pl_st {x : Nat} : pl_ (s_st S x) = pl_ S := rfl
theorem ga_pl_pl {x : Nat} : pl_ (s_pl S x) = x := rfl
theorem ga_pl_zf {x : Bool} : pl_ (s_zf S x) = pl_ S := rfl
theorem ga_pl_nf {x : Bool} : pl_ (s_nf S x) = pl_ S := rfl
theorem ga_pl_hf {x : Bool} : pl_ (s_hf S x) = pl_ S := rfl
theorem ga_pl_cf {x : Bool} : pl_ (s_cf S x) = pl_ S := rfl
theorem ga_pl_en {x : Bool} : pl_ (s_en S x) = pl_ S := rfl
theorem ga_pl_so {x : Bool} : pl_ (s_so S x) = pl_ S := rfl
theorem ga_pl_co {x : Nat} : pl_ (s_co S x) = pl_ S := rfl
theorem ga_pl_sc {x : Nat} : pl_ (s_sc S x) = pl_ S := rfl
theorem ga_zf_im {x : Nat → Nat} : zf_ (s_im S x) = zf_ S := rfl
theorem ga_zf_bk {x : Nat} : zf_ (s_bk S x) = zf_ S := rfl
theorem ga_zf_ra {x : Nat → Nat} : zf_ (s_ra S x) = zf_ S := rfl
theorem ga_zf_up {x : Nat → Nat} : zf_ (s_up S x) = zf_ S := rfl
theorem ga_zf_on {x : Bool} : zf_ (s_on S x) = zf_ S := rfl
theorem ga_zf_lo {x : Nat} : zf_ (s_lo S x) = zf_ S := rfl
theorem ga_zf_hi {x : Nat} : zf_ (s_hi S x) = zf_ S := rfl
theorem ga_zf_mo {x : Nat} : zf_ (s_mo S x) = zf_ S := rfl
theorem ga_zf_ma {x : Nat} : zf_ (s_ma S x) = zf_ S := rfl
theorem ga_zf_li {x : Nat} : zf_ (s_li S x) = zf_ S := rfl
theorem ga_zf_rg {x : Nat → Nat} : zf_ (s_rg S x) = zf_ S := rfl
theorem ga_zf_sb {x : Nat → Nat} : zf_ (s_sb S x) = zf_ S := rfl
theorem ga_zf_st {x : Nat} : zf_ (s_st S x) = zf_ S := rfl
theorem ga_zf_pl {x : Nat} : zf_ (s_pl S x) = zf_ S := rfl
theorem ga_zf_zf {x : Bool} : zf_ (s_zf S x) = x := rfl
theorem ga_zf_nf {x : Bool} : zf_ (s_nf S x) = zf_ S := rfl
theorem ga_zf_hf {x : Bool} : zf_ (s_hf S x) = zf_ S := rfl
theorem ga_zf_cf {x : Bool} : zf_ (s_cf S x) = zf_ S := rfl
theorem ga_zf_en {x : Bool} : zf_ (s_en S x) = zf_ S := rfl
theorem ga_zf_so {x : Bool} : zf_ (s_so S x) = zf_ S := rfl
theorem ga_zf_co {x : Nat} : zf_ (s_co S x) = zf_ S := rfl
theorem ga_zf_sc {x : Nat} : zf_ (s_sc S x) = zf_ S := rfl
theorem ga_nf_im {x : Nat → Nat} : nf_ (s_im S x) = nf_ S := rfl
theorem ga_nf_bk {x : Nat} : nf_ (s_bk S x) = nf_ S := rfl
theorem ga_nf_ra {x : Nat → Nat} : nf_ (s_ra S x) = nf_ S := rfl
theorem ga_nf_up {x : Nat → Nat} : nf_ (s_up S x) = nf_ S := rfl
theorem ga_nf_on {x : Bool} : nf_ (s_on S x) = nf_ S := rfl
theorem ga_nf_lo {x : Nat} : nf_ (s_lo S x) = nf_ S := rfl
theorem ga_nf_hi {x : Nat} : nf_ (s_hi S x) = nf_ S := rfl
theorem ga_nf_mo {x : Nat} : nf_ (s_mo S x) = nf_ S := rfl
theorem ga_nf_ma {x : Nat} : nf_ (s_ma S x) = nf_ S := rfl
theorem ga_nf_li {x : Nat} : nf_ (s_li S x) = nf_ S := rfl
theorem ga_nf_rg {x : Nat → Nat} : nf_ (s_rg S x) = nf_ S := rfl
theorem ga_nf_sb {x : Nat → Nat} : nf_ (s_sb S x) = nf_ S := rfl
theorem ga_nf_st {x : Nat} : nf_ (s_st S x) = nf_ S := rfl
theorem ga_nf_pl {x : Nat} : nf_ (s_pl S x) = nf_ S := rfl
theorem ga_nf_zf {x : Bool} : nf_ (s_zf S x) = nf_ S := rfl
theorem ga_nf_nf {x : Bool} : nf_ (s_nf S x) = x := rfl
theorem ga_nf_hf {x : Bool} : nf_ (s_hf S x) = nf_ S := rfl
theorem ga_nf_cf {x : Bool} : nf_ (s_cf S x) = nf_ S := rfl
theorem ga_nf_en {x : Bool} : nf_ (s_en S x) = nf_ S := rfl
theorem ga_nf_so {x : Bool} : nf_ (s_so S x) = nf_ S := rfl
theorem ga_nf_co {x : Nat} : nf_ (s_co S x) = nf_ S := rfl
theorem ga_nf_sc {x : Nat} : nf_ (s_sc S x) = nf_ S := rfl
theorem ga_hf_im {x : Nat → Nat} : hf_ (s_im S x) = hf_ S := rfl
theorem ga_hf_bk {x : Nat} : hf_ (s_bk S x) = hf_ S := rfl
theorem ga_hf_ra {x : Nat → Nat} : hf_ (s_ra S x) = hf_ S := rfl
theorem ga_hf_up {x : Nat → Nat} : hf_ (s_up S x) = hf_ S := rfl
theorem ga_hf_on {x : Bool} : hf_ (s_on S x) = hf_ S := rfl
theorem ga_hf_lo {x : Nat} : hf_ (s_lo S x) = hf_ S := rfl
theorem ga_hf_hi {x : Nat} : hf_ (s_hi S x) = hf_ S := rfl
theorem ga_hf_mo {x : Nat} : hf_ (s_mo S x) = hf_ S := rfl
theorem ga_hf_ma {x : Nat} : hf_ (s_ma S x) = hf_ S := rfl
theorem ga_hf_li {x : Nat} : hf_ (s_li S x) = hf_ S := rfl
theorem ga_hf_rg {x : Nat → Nat} : hf_ (s_rg S x) = hf_ S := rfl
theorem ga_hf_sb {x : Nat → Nat} : hf_ (s_sb S x) = hf_ S := rfl
theorem ga_hf_st {x : Nat} : hf_ (s_st S x) = hf_ S := rfl
theorem ga_hf_pl {x : Nat} : hf_ (s_pl S x) = hf_ S := rfl
theorem ga_hf_zf {x : Bool} : hf_ (s_zf S x) = hf_ S := rfl
theorem ga_hf_nf {x : Bool} : hf_ (s_nf S x) = hf_ S := rfl
theorem ga_hf_hf {x : Bool} : hf_ (s_hf S x) = x := rfl
theorem ga_hf_cf {x : Bool} : hf_ (s_cf S x) = hf_ S := rfl
theorem ga_hf_en {x : Bool} : hf_ (s_en S x) = hf_ S := rfl
theorem ga_hf_so {x : Bool} : hf_ (s_so S x) = hf_ S := rfl
theorem ga_hf_co {x : Nat} : hf_ (s_co S x) = hf_ S := rfl
theorem ga_hf_sc {x : Nat} : hf_ (s_sc S x) = hf_ S := rfl
theorem ga_cf_im {x : Nat → Nat} : cf_ (s_im S x) = cf_ S := rfl
theorem ga_cf_bk {x : Nat} : cf_ (s_bk S x) = cf_ S := rfl
theorem ga_cf_ra {x : Nat → Nat} : cf_ (s_ra S x) = cf_ S := rfl
theorem ga_cf_up {x : Nat → Nat} : cf_ (s_up S x) = cf_ S := rfl
theorem ga_cf_on {x : Bool} : cf_ (s_on S x) = cf_ S := rfl
theorem ga_cf_lo {x : Nat} : cf_ (s_lo S x) = cf_ S := rfl
theorem ga_cf_hi {x : Nat} : cf_ (s_hi S x) = cf_ S := rfl
theorem ga_cf_mo {x : Nat} : cf_ (s_mo S x) = cf_ S := rfl
theorem ga_cf_ma {x : Nat} : cf_ (s_ma S x) = cf_ S := rfl
theorem ga_cf_li {x : Nat} : cf_ (s_li S x) = cf_ S := rfl
theorem ga_cf_rg {x : Nat → Nat} : cf_ (s_rg S x) = cf_ S := rfl
theorem ga_cf_sb {x : Nat → Nat} : cf_ (s_sb S x) = cf_ S := rfl
theorem ga_cf_st {x : Nat} : cf_ (s_st S x) = cf_ S := rfl
theorem ga_cf_pl {x : Nat} : cf_ (s_pl S x) = cf_ S := rfl
theorem ga_cf_zf {x : Bool} : cf_ (s_zf S x) = cf_ S := rfl
theorem ga_cf_nf {x : Bool} : cf_ (s_nf S x) = cf_ S := rfl
theorem ga_cf_hf {x : Bool} : cf_ (s_hf S x) = cf_ S := rfl
theorem ga_cf_cf {x : Bool} : cf_ (s_cf S x) = x := rfl
theorem ga_cf_en {x : Bool} : cf_ (s_en S x) = cf_ S := rfl
theorem ga_cf_so {x : Bool} : cf_ (s_so S x) = cf_ S := rfl
theorem ga_cf_co {x : Nat} : cf_ (s_co S x) = cf_ S := rfl
theorem ga_cf_sc {x : Nat} : cf_ (s_sc S x) = cf_ S := rfl
theorem ga_en_im {x : Nat → Nat} : en_ (s_im S x) = en_ S := rfl
theorem ga_en_bk {x : Nat} : en_ (s_bk S x) = en_ S := rfl
theorem ga_en_ra {x : Nat → Nat} : en_ (s_ra S x) = en_ S := rfl
theorem ga_en_up {x : Nat → Nat} : en_ (s_up S x) = en_ S := rfl
theorem ga_en_on {x : Bool} : en_ (s_on S x) = en_ S := rfl
theorem ga_en_lo {x : Nat} : en_ (s_lo S x) = en_ S := rfl
theorem ga_en_hi {x : Nat} : en_ (s_hi S x) = en_ S := rfl
theorem ga_en_mo {x : Nat} : en_ (s_mo S x) = en_ S := rfl
theorem ga_en_ma {x : Nat} : en_ (s_ma S x) = en_ S := rfl
theorem ga_en_li {x : Nat} : en_ (s_li S x) = en_ S := rfl
theorem ga_en_rg {x : Nat → Nat} : en_ (s_rg S x) = en_ S := rfl
theorem ga_en_sb {x : Nat → Nat} : en_ (s_sb S x) = en_ S := rfl
theorem ga_en_st {x : Nat} : en_ (s_st S x) = en_ S := rfl
theorem ga_en_pl {x : Nat} : en_ (s_pl S x) = en_ S := rfl
theorem ga_en_zf {x : Bool} : en_ (s_zf S x) = en_ S := rfl
theorem ga_en_nf {x : Bool} : en_ (s_nf S x) = en_ S := rfl
theorem ga_en_hf {x : Bool} : en_ (s_hf S x) = en_ S := rfl
theorem ga_en_cf {x : Bool} : en_ (s_cf S x) = en_ S := rfl
theorem ga_en_en {x : Bool} : en_ (s_en S x) = x := rfl
theorem ga_en_so {x : Bool} : en_ (s_so S x) = en_ S := rfl
theorem ga_en_co {x : Nat} : en_ (s_co S x) = en_ S := rfl
theorem ga_en_sc {x : Nat} : en_ (s_sc S x) = en_ S := rfl
theorem ga_so_im {x : Nat → Nat} : so_ (s_im S x) = so_ S := rfl
theorem ga_so_bk {x : Nat} : so_ (s_bk S x) = so_ S := rfl
theorem ga_so_ra {x : Nat → Nat} : so_ (s_ra S x) = so_ S := rfl
theorem ga_so_up {x : Nat → Nat} : so_ (s_up S x) = so_ S := rfl
theorem ga_so_on {x : Bool} : so_ (s_on S x) = so_ S := rfl
theorem ga_so_lo {x : Nat} : so_ (s_lo S x) = so_ S := rfl
theorem ga_so_hi {x : Nat} : so_ (s_hi S x) = so_ S := rfl
theorem ga_so_mo {x : Nat} : so_ (s_mo S x) = so_ S := rfl
theorem ga_so_ma {x : Nat} : so_ (s_ma S x) = so_ S := rfl
theorem ga_so_li {x : Nat} : so_ (s_li S x) = so_ S := rfl
theorem ga_so_rg {x : Nat → Nat} : so_ (s_rg S x) = so_ S := rfl
theorem ga_so_sb {x : Nat → Nat} : so_ (s_sb S x) = so_ S := rfl
theorem ga_so_st {x : Nat} : so_ (s_st S x) = so_ S := rfl
theorem ga_so_pl {x : Nat} : so_ (s_pl S x) = so_ S := rfl
theorem ga_so_zf {x : Bool} : so_ (s_zf S x) = so_ S := rfl
theorem ga_so_nf {x : Bool} : so_ (s_nf S x) = so_ S := rfl
theorem ga_so_hf {x : Bool} : so_ (s_hf S x) = so_ S := rfl
theorem ga_so_cf {x : Bool} : so_ (s_cf S x) = so_ S := rfl
theorem ga_so_en {x : Bool} : so_ (s_en S x) = so_ S := rfl
theorem ga_so_so {x : Bool} : so_ (s_so S x) = x := rfl
theorem ga_so_co {x : Nat} : so_ (s_co S x) = so_ S := rfl
theorem ga_so_sc {x : Nat} : so_ (s_sc S x) = so_ S := rfl
theorem ga_co_im {x : Nat → Nat} : co_ (s_im S x) = co_ S := rfl
theorem ga_co_bk {x : Nat} : co_ (s_bk S x) = co_ S := rfl
theorem ga_co_ra {x : Nat → Nat} : co_ (s_ra S x) = co_ S := rfl
theorem ga_co_up {x : Nat → Nat} : co_ (s_up S x) = co_ S := rfl
theorem ga_co_on {x : Bool} : co_ (s_on S x) = co_ S := rfl
theorem ga_co_lo {x : Nat} : co_ (s_lo S x) = co_ S := rfl
theorem ga_co_hi {x : Nat} : co_ (s_hi S x) = co_ S := rfl
theorem ga_co_mo {x : Nat} : co_ (s_mo S x) = co_ S := rfl
theorem ga_co_ma {x : Nat} : co_ (s_ma S x) = co_ S := rfl
theorem ga_co_li {x : Nat} : co_ (s_li S x) = co_ S := rfl
theorem ga_co_rg {x : Nat → Nat} : co_ (s_rg S x) = co_ S := rfl
theorem ga_co_sb {x : Nat → Nat} : co_ (s_sb S x) = co_ S := rfl
theorem ga_co_st {x : Nat} : co_ (s_st S x) = co_ S := rfl
theorem ga_co_pl {x : Nat} : co_ (s_pl S x) = co_ S := rfl
theorem ga_co_zf {x : Bool} : co_ (s_zf S x) = co_ S := rfl
theorem ga_co_nf {x : Bool} : co_ (s_nf S x) = co_ S := rfl
theorem ga_co_hf {x : Bool} : co_ (s_hf S x) = co_ S := rfl
theorem ga_co_cf {x : Bool} : co_ (s_cf S x) = co_ S := rfl
theorem ga_co_en {x : Bool} : co_ (s_en S x) = co_ S := rfl
theorem ga_co_so {x : Bool} : co_ (s_so S x) = co_ S := rfl
theorem ga_co_co {x : Nat} : co_ (s_co S x) = x := rfl
theorem ga_co_sc {x : Nat} : co_ (s_sc S x) = co_ S := rfl
theorem ga_sc_im {x : Nat → Nat} : sc_ (s_im S x) = sc_ S := rfl
theorem ga_sc_bk {x : Nat} : sc_ (s_bk S x) = sc_ S := rfl
theorem ga_sc_ra {x : Nat → Nat} : sc_ (s_ra S x) = sc_ S := rfl
theorem ga_sc_up {x : Nat → Nat} : sc_ (s_up S x) = sc_ S := rfl
theorem ga_sc_on {x : Bool} : sc_ (s_on S x) = sc_ S := rfl
theorem ga_sc_lo {x : Nat} : sc_ (s_lo S x) = sc_ S := rfl
theorem ga_sc_hi {x : Nat} : sc_ (s_hi S x) = sc_ S := rfl
theorem ga_sc_mo {x : Nat} : sc_ (s_mo S x) = sc_ S := rfl
theorem ga_sc_ma {x : Nat} : sc_ (s_ma S x) = sc_ S := rfl
theorem ga_sc_li {x : Nat} : sc_ (s_li S x) = sc_ S := rfl
theorem ga_sc_rg {x : Nat → Nat} : sc_ (s_rg S x) = sc_ S := rfl
theorem ga_sc_sb {x : Nat → Nat} : sc_ (s_sb S x) = sc_ S := rfl
theorem ga_sc_st {x : Nat} : sc_ (s_st S x) = sc_ S := rfl
theorem ga_sc_pl {x : Nat} : sc_ (s_pl S x) = sc_ S := rfl
theorem ga_sc_zf {x : Bool} : sc_ (s_zf S x) = sc_ S := rfl
theorem ga_sc_nf {x : Bool} : sc_ (s_nf S x) = sc_ S := rfl
theorem ga_sc_hf {x : Bool} : sc_ (s_hf S x) = sc_ S := rfl
theorem ga_sc_cf {x : Bool} : sc_ (s_cf S x) = sc_ S := rfl
theorem ga_sc_en {x : Bool} : sc_ (s_en S x) = sc_ S := rfl
theorem ga_sc_so {x : Bool} : sc_ (s_so S x) = sc_ S := rfl
theorem ga_sc_co {x : Nat} : sc_ (s_co S x) = sc_ S := rfl
theorem ga_sc_sc {x : Nat} : sc_ (s_sc S x) = x := rfl
theorem ge_k_ce_im {x : Nat → Nat} : e_k_ce (s_im S x) = fun j => nI (x j) := rfl
theorem ge_k_ce_bk {x : Nat} : e_k_ce (s_bk S x) = e_k_ce S := rfl
theorem ge_k_ce_ra {x : Nat → Nat} : e_k_ce (s_ra S x) = e_k_ce S := rfl
theorem ge_k_ce_up {x : Nat → Nat} : e_k_ce (s_up S x) = e_k_ce S := rfl
theorem ge_k_ce_on {x : Bool} : e_k_ce (s_on S x) = e_k_ce S := rfl
theorem ge_k_ce_lo {x : Nat} : e_k_ce (s_lo S x) = e_k_ce S := rfl
theorem ge_k_ce_hi {x : Nat} : e_k_ce (s_hi S x) = e_k_ce S := rfl
theorem ge_k_ce_mo {x : Nat} : e_k_ce (s_mo S x) = e_k_ce S := rfl
theorem ge_k_ce_ma {x : Nat} : e_k_ce (s_ma S x) = e_k_ce S := rfl
theorem ge_k_ce_li {x : Nat} : e_k_ce (s_li S x) = e_k_ce S := rfl
theorem ge_k_ce_rg {x : Nat → Nat} : e_k_ce (s_rg S x) = e_k_ce S := rfl
theorem ge_k_ce_sb {x : Nat → Nat} : e_k_ce (s_sb S x) = e_k_ce S := rfl
theorem ge_k_ce_st {x : Nat} : e_k_ce (s_st S x) = e_k_ce S := rfl
theorem ge_k_ce_pl {x : Nat} : e_k_ce (s_pl S x) = e_k_ce S := rfl
theorem ge_k_ce_zf {x : Bool} : e_k_ce (s_zf S x) = e_k_ce S := rfl
theorem ge_k_ce_nf {x : Bool} : e_k_ce (s_nf S x) = e_k_ce S := rfl
theorem ge_k_ce_hf {x : Bool} : e_k_ce (s_hf S x) = e_k_ce S := rfl
theorem ge_k_ce_cf {x : Bool} : e_k_ce (s_cf S x) = e_k_ce S := rfl
theorem ge_k_ce_en {x : Bool} : e_k_ce (s_en S x) = e_k_ce S := rfl
theorem ge_k_ce_so {x : Bool} : e_k_ce (s_so S x) = e_k_ce S := rfl
theorem ge_k_ce_co {x : Nat} : e_k_ce (s_co S x) = e_k_ce S := rfl
theorem ge_k_ce_sc {x : Nat} : e_k_ce (s_sc S x) = e_k_ce S := rfl
theorem ge_k_bc_im {x : Nat → Nat} : e_k_bc (s_im S x) = e_k_bc S := rfl
theorem ge_k_bc_bk {x : Nat} : e_k_bc (s_bk S x) = nI x := rfl
theorem ge_k_bc_ra {x : Nat → Nat} : e_k_bc (s_ra S x) = e_k_bc S := rfl
theorem ge_k_bc_up {x : Nat → Nat} : e_k_bc (s_up S x) = e_k_bc S := rfl
theorem ge_k_bc_on {x : Bool} : e_k_bc (s_on S x) = e_k_bc S := rfl
theorem ge_k_bc_lo {x : Nat} : e_k_bc (s_lo S x) = e_k_bc S := rfl
theorem ge_k_bc_hi {x : Nat} : e_k_bc (s_hi S x) = e_k_bc S := rfl
theorem ge_k_bc_mo {x : Nat} : e_k_bc (s_mo S x) = e_k_bc S := rfl
theorem ge_k_bc_ma {x : Nat} : e_k_bc (s_ma S x) = e_k_bc S := rfl
theorem ge_k_bc_li {x : Nat} : e_k_bc (s_li S x) = e_k_bc S := rfl
theorem ge_k_bc_rg {x : Nat → Nat} : e_k_bc (s_rg S x) = e_k_bc S := rfl
theorem ge_k_bc_sb {x : Nat → Nat} : e_k_bc (s_sb S x) = e_k_bc S := rfl
theorem ge_k_bc_st {x : Nat} : e_k_bc (s_st S x) = e_k_bc S := rfl
theorem ge_k_bc_pl {x : Nat} : e_k_bc (s_pl S x) = e_k_bc S := rfl
theorem ge_k_bc_zf {x : Bool} : e_k_bc (s_zf S x) = e_k_bc S := rfl
theorem ge_k_bc_nf {x : Bool} : e_k_bc (s_nf S x) = e_k_bc S := rfl
theorem ge_k_bc_hf {x : Bool} : e_k_bc (s_hf S x) = e_k_bc S := rfl
theorem ge_k_bc_cf {x : Bool} : e_k_bc (s_cf S x) = e_k_bc S := rfl
theorem ge_k_bc_en {x : Bool} : e_k_bc (s_en S x) = e_k_bc S := rfl
theorem ge_k_bc_so {x : Bool} : e_k_bc (s_so S x) = e_k_bc S := rfl
theorem ge_k_bc_co {x : Nat} : e_k_bc (s_co S x) = e_k_bc S := rfl
theorem ge_k_bc_sc {x : Nat} : e_k_bc (s_sc S x) = e_k_bc S := rfl
theorem ge_m_ra_im {x : Nat → Nat} : e_m_ra (s_im S x) = e_m_ra S := rfl
theorem ge_m_ra_bk {x : Nat} : e_m_ra (s_bk S x) = e_m_ra S := rfl
theorem ge_m_ra_ra {x : Nat → Nat} : e_m_ra (s_ra S x) = fun j => nI (x j) := rfl
theorem ge_m_ra_up {x : Nat → Nat} : e_m_ra (s_up S x) = e_m_ra S := rfl
theorem ge_m_ra_on {x : Bool} : e_m_ra (s_on S x) = e_m_ra S := rfl
theorem ge_m_ra_lo {x : Nat} : e_m_ra (s_lo S x) = e_m_ra S := rfl
theorem ge_m_ra_hi {x : Nat} : e_m_ra (s_hi S x) = e_m_ra S := rfl
theorem ge_m_ra_mo {x : Nat} : e_m_ra (s_mo S x) = e_m_ra S := rfl
theorem ge_m_ra_ma {x : Nat} : e_m_ra (s_ma S x) = e_m_ra S := rfl
theorem ge_m_ra_li {x : Nat} : e_m_ra (s_li S x) = e_m_ra S := rfl
theorem ge_m_ra_rg {x : Nat → Nat} : e_m_ra (s_rg S x) = e_m_ra S := rfl
theorem ge_m_ra_sb {x : Nat → Nat} : e_m_ra (s_sb S x) = e_m_ra S := rfl
theorem ge_m_ra_st {x : Nat} : e_m_ra (s_st S x) = e_m_ra S := rfl
theorem ge_m_ra_pl {x : Nat} : e_m_ra (s_pl S x) = e_m_ra S := rfl
theorem ge_m_ra_zf {x : Bool} : e_m_ra (s_zf S x) = e_m_ra S := rfl
theorem ge_m_ra_nf {x : Bool} : e_m_ra (s_nf S x) = e_m_ra S := rfl
theorem ge_m_ra_hf {x : Bool} : e_m_ra (s_hf S x) = e_m_ra S := rfl
theorem ge_m_ra_cf {x : Bool} : e_m_ra (s_cf S x) = e_m_ra S := rfl
theorem ge_m_ra_en {x : Bool} : e_m_ra (s_en S x) = e_m_ra S := rfl
theorem ge_m_ra_so {x : Bool} : e_m_ra (s_so S x) = e_m_ra S := rfl
theorem ge_m_ra_co {x : Nat} : e_m_ra (s_co S x) = e_m_ra S := rfl
theorem ge_m_ra_sc {x : Nat} : e_m_ra (s_sc S x) = e_m_ra S := rfl
theorem ge_m_up_im {x : Nat → Nat} : e_m_up (s_im S x) = e_m_up S := rfl
theorem ge_m_up_bk {x : Nat} : e_m_up (s_bk S x) = e_m_up S := rfl
theorem ge_m_up_ra {x : Nat → Nat} : e_m_up (s_ra S x) = e_m_up S := rfl
theorem ge_m_up_up {x : Nat → Nat} : e_m_up (s_up S x) = fun j => nI (x j) := rfl
theorem ge_m_up_on {x : Bool} : e_m_up (s_on S x) = e_m_up S := rfl
theorem ge_m_up_lo {x : Nat} : e_m_up (s_lo S x) = e_m_up S := rfl
theorem ge_m_up_hi {x : Nat} : e_m_up (s_hi S x) = e_m_up S := rfl
theorem ge_m_up_mo {x : Nat} : e_m_up (s_mo S x) = e_m_up S := rfl
theorem ge_m_up_ma {x : Nat} : e_m_up (s_ma S x) = e_m_up S := rfl
theorem ge_m_up_li {x : Nat} : e_m_up (s_li S x) = e_m_up S := rfl
theorem ge_m_up_rg {x : Nat → Nat} : e_m_up (s_rg S x) = e_m_up S := rfl
theorem ge_m_up_sb {x : Nat → Nat} : e_m_up (s_sb S x) = e_m_up S := rfl
theorem ge_m_up_st {x : Nat} : e_m_up (s_st S x) = e_m_up S := rfl
theorem ge_m_up_pl {x : Nat} : e_m_up (s_pl S x) = e_m_up S := rfl
theorem ge_m_up_zf {x : Bool} : e_m_up (s_zf S x) = e_m_up S := rfl
theorem ge_m_up_nf {x : Bool} : e_m_up (s_nf S x) = e_m_up S := rfl
theorem ge_m_up_hf {x : Bool} : e_m_up (s_hf S x) = e_m_up S := rfl
theorem ge_m_up_cf {x : Bool} : e_m_up (s_cf S x) = e_m_up S := rfl
theorem ge_m_up_en {x : Bool} : e_m_up (s_en S x) = e_m_up S := rfl
theorem ge_m_up_so {x : Bool} : e_m_up (s_so S x) = e_m_up S := rfl
theorem ge_m_up_co {x : Nat} : e_m_up (s_co S x) = e_m_up S := rfl
theorem ge_m_up_sc {x : Nat} : e_m_up (s_sc S x) = e_m_up S := rfl
theorem ge_m_on_im {x : Nat → Nat} : e_m_on (s_im S x) = e_m_on S := rfl
theorem ge_m_on_bk {x : Nat} : e_m_on (s_bk S x) = e_m_on S := rfl
theorem ge_m_on_ra {x : Nat → Nat} : e_m_on (s_ra S x) = e_m_on S := rfl
theorem ge_m_on_up {x : Nat → Nat} : e_m_on (s_up S x) = e_m_on S := rfl
theorem ge_m_on_on {x : Bool} : e_m_on (s_on S x) = bI x := rfl
theorem ge_m_on_lo {x : Nat} : e_m_on (s_lo S x) = e_m_on S := rfl
theorem ge_m_on_hi {x : Nat} : e_m_on (s_hi S x) = e_m_on S := rfl
theorem ge_m_on_mo {x : Nat} : e_m_on (s_mo S x) = e_m_on S := rfl
theorem ge_m_on_ma {x : Nat} : e_m_on (s_ma S x) = e_m_on S := rfl
theorem ge_m_on_li {x : Nat} : e_m_on (s_li S x) = e_m_on S := rfl
theorem ge_m_on_rg {x : Nat → Nat} : e_m_on (s_rg S x) = e_m_on S := rfl
theorem ge_m_on_sb {x : Nat → Nat} : e_m_on (s_sb S x) = e_m_on S := rfl
theorem ge_m_on_st {x : Nat} : e_m_on (s_st S x) = e_m_on S := rfl
theorem ge_m_on_pl {x : Nat} : e_m_on (s_pl S x) = e_m_on S := rfl
theorem ge_m_on_zf {x : Bool} : e_m_on (s_zf S x) = e_m_on S := rfl
theorem ge_m_on_nf {x : Bool} : e_m_on (s_nf S x) = e_m_on S := rfl
theorem ge_m_on_hf {x : Bool} : e_m_on (s_hf S x) = e_m_on S := rfl
theorem ge_m_on_cf {x : Bool} : e_m_on (s_cf S x) = e_m_on S := rfl
theorem ge_m_on_en {x : Bool} : e_m_on (s_en S x) = e_m_on S := rfl
theorem ge_m_on_so {x : Bool} : e_m_on (s_so S x) = e_m_on S := rfl
theorem ge_m_on_co {x : Nat} : e_m_on (s_co S x) = e_m_on S := rfl
theorem ge_m_on_sc {x : Nat} : e_m_on (s_sc S x) = e_m_on S := rfl
theorem ge_m_lo_im {x : Nat → Nat} : e_m_lo (s_im S x) = e_m_lo S := rfl
theorem ge_m_lo_bk {x : Nat} : e_m_lo (s_bk S x) = e_m_lo S := rfl
theorem ge_m_lo_ra {x : Nat → Nat} : e_m_lo (s_ra S x) = e_m_lo S := rfl
theorem ge_m_lo_up {x : Nat → Nat} : e_m_lo (s_up S x) = e_m_lo S := rfl
theorem ge_m_lo_on {x : Bool} : e_m_lo (s_on S x) = e_m_lo S := rfl
theorem ge_m_lo_lo {x : Nat} : e_m_lo (s_lo S x) = nI x := rfl
theorem ge_m_lo_hi {x : Nat} : e_m_lo (s_hi S x) = e_m_lo S := rfl
theorem ge_m_lo_mo {x : Nat} : e_m_lo (s_mo S x) = e_m_lo S := rfl
theorem ge_m_lo_ma {x : Nat} : e_m_lo (s_ma S x) = e_m_lo S := rfl
theorem ge_m_lo_li {x : Nat} : e_m_lo (s_li S x) = e_m_lo S := rfl
theorem ge_m_lo_rg {x : Nat → Nat} : e_m_lo (s_rg S x) = e_m_lo S := rfl
theorem ge_m_lo_sb {x : Nat → Nat} : e_m_lo (s_sb S x) = e_m_lo S := rfl
theorem ge_m_lo_st {x : Nat} : e_m_lo (s_st S x) = e_m_lo S := rfl
theorem ge_m_lo_pl {x : Nat} : e_m_lo (s_pl S x) = e_m_lo S := rfl
theorem ge_m_lo_zf {x : Bool} : e_m_lo (s_zf S x) = e_m_lo S := rfl
theorem ge_m_lo_nf {x : Bool} : e_m_lo (s_nf S x) = e_m_lo S := rfl
theorem ge_m_lo_hf {x : Bool} : e_m_lo (s_hf S x) = e_m_lo S := rfl
theorem ge_m_lo_cf {x : Bool} : e_m_lo (s_cf S x) = e_m_lo S := rfl
theorem ge_m_lo_en {x : Bool} : e_m_lo (s_en S x) = e_m_lo S := rfl
theorem ge_m_lo_so {x : Bool} : e_m_lo (s_so S x) = e_m_lo S := rfl
theorem ge_m_lo_co {x : Nat} : e_m_lo (s_co S x) = e_m_lo S := rfl
theorem ge_m_lo_sc {x : Nat} : e_m_lo (s_sc S x) = e_m_lo S := rfl
theorem ge_m_hi_im {x : Nat → Nat} : e_m_hi (s_im S x) = e_m_hi S := rfl
theorem ge_m_hi_bk {x : Nat} : e_m_hi (s_bk S x) = e_m_hi S := rfl
theorem ge_m_hi_ra {x : Nat → Nat} : e_m_hi (s_ra S x) = e_m_hi S := rfl
theorem ge_m_hi_up {x : Nat → Nat} : e_m_hi (s_up S x) = e_m_hi S := rfl
theorem ge_m_hi_on {x : Bool} : e_m_hi (s_on S x) = e_m_hi S := rfl
theorem ge_m_hi_lo {x : Nat} : e_m_hi (s_lo S x) = e_m_hi S := rfl
theorem ge_m_hi_hi {x : Nat} : e_m_hi (s_hi S x) = nI x := rfl
theorem ge_m_hi_mo {x : Nat} : e_m_hi (s_mo S x) = e_m_hi S := rfl
theorem ge_m_hi_ma {x : Nat} : e_m_hi (s_ma S x) = e_m_hi S := rfl
theorem ge_m_hi_li {x : Nat} : e_m_hi (s_li S x) = e_m_hi S := rfl
theorem ge_m_hi_rg {x : Nat → Nat} : e_m_hi (s_rg S x) = e_m_hi S := rfl
theorem ge_m_hi_sb {x : Nat → Nat} : e_m_hi (s_sb S x) = e_m_hi S := rfl
theorem ge_m_hi_st {x : Nat} : e_m_hi (s_st S x) = e_m_hi S := rfl
theorem ge_m_hi_pl {x : Nat} : e_m_hi (s_pl S x) = e_m_hi S := rfl
theorem ge_m_hi_zf {x : Bool} : e_m_hi (s_zf S x) = e_m_hi S := rfl
theorem ge_m_hi_nf {x : Bool} : e_m_hi (s_nf S x) = e_m_hi S := rfl
theorem ge_m_hi_hf {x : Bool} : e_m_hi (s_hf S x) = e_m_hi S := rfl
theorem ge_m_hi_cf {x : Bool} : e_m_hi (s_cf S x) = e_m_hi S := rfl
theorem ge_m_hi_en {x : Bool} : e_m_hi (s_en S x) = e_m_hi S := rfl
theorem ge_m_hi_so {x : Bool} : e_m_hi (s_so S x) = e_m_hi S := rfl
theorem ge_m_hi_co {x : Nat} : e_m_hi (s_co S x) = e_m_hi S := rfl
theorem ge_m_hi_sc {x : Nat} : e_m_hi (s_sc S x) = e_m_hi S := rfl
theorem ge_m_mo_im {x : Nat → Nat} : e_m_mo (s_im S x) = e_m_mo S := rfl
theorem ge_m_mo_bk {x : Nat} : e_m_mo (s_bk S x) = e_m_mo S := rfl
theorem ge_m_mo_ra {x : Nat → Nat} : e_m_mo (s_ra S x) = e_m_mo S := rfl
theorem ge_m_mo_up {x : Nat → Nat} : e_m_mo (s_up S x) = e_m_mo S := rfl
theorem ge_m_mo_on {x : Bool} : e_m_mo (s_on S x) = e_m_mo S := rfl
theorem ge_m_mo_lo {x : Nat} : e_m_mo (s_lo S x) = e_m_mo S := rfl
theorem ge_m_mo_hi {x : Nat} : e_m_mo (s_hi S x) = e_m_mo S := rfl
theorem ge_m_mo_mo {x : Nat} : e_m_mo (s_mo S x) = nI x := rfl
theorem ge_m_mo_ma {x : Nat} : e_m_mo (s_ma S x) = e_m_mo S := rfl
theorem ge_m_mo_li {x : Nat} : e_m_mo (s_li S x) = e_m_mo S := rfl
theorem ge_m_mo_rg {x : Nat → Nat} : e_m_mo (s_rg S x) = e_m_mo S := rfl
theorem ge_m_mo_sb {x : Nat → Nat} : e_m_mo (s_sb S x) = e_m_mo S := rfl
theorem ge_m_mo_st {x : Nat} : e_m_mo (s_st S x) = e_m_mo S := rfl
theorem ge_m_mo_pl {x : Nat} : e_m_mo (s_pl S x) = e_m_mo S := rfl
theorem ge_m_mo_zf {x : Bool} : e_m_mo (s_zf S x) = e_m_mo S := rfl
theorem ge_m_mo_nf {x : Bool} : e_m_mo (s_nf S x) = e_m_mo S := rfl
theorem ge_m_mo_hf {x : Bool} : e_m_mo (s_hf S x) = e_m_mo S := rfl
theorem ge_m_mo_cf {x : Bool} : e_m_mo (s_cf S x) = e_m_mo S := rfl
theorem ge_m_mo_en {x : Bool} : e_m_mo (s_en S x) = e_m_mo S := rfl
theorem ge_m_mo_so {x : Bool} : e_m_mo (s_so S x) = e_m_mo S := rfl
theorem ge_m_mo_co {x : Nat} : e_m_mo (s_co S x) = e_m_mo S := rfl
theorem ge_m_mo_sc {x : Nat} : e_m_mo (s_sc S x) = e_m_mo S := rfl
theorem ge_m_ma_im {x : Nat → Nat} : e_m_ma (s_im S x) = e_m_ma S := rfl
theorem ge_m_ma_bk {x : Nat} : e_m_ma (s_bk S x) = e_m_ma S := rfl
theorem ge_m_ma_ra {x : Nat → Nat} : e_m_ma (s_ra S x) = e_m_ma S := rfl
theorem ge_m_ma_up {x : Nat → Nat} : e_m_ma (s_up S x) = e_m_ma S := rfl
theorem ge_m_ma_on {x : Bool} : e_m_ma (s_on S x) = e_m_ma S := rfl
theorem ge_m_ma_lo {x : Nat} : e_m_ma (s_lo S x) = e_m_ma S := rfl
theorem ge_m_ma_hi {x : Nat} : e_m_ma (s_hi S x) = e_m_ma S := rfl
theorem ge_m_ma_mo {x : Nat} : e_m_ma (s_mo S x) = e_m_ma S := rfl
theorem ge_m_ma_ma {x : Nat} : e_m_ma (s_ma S x) = nI x := rfl
theorem ge_m_ma_li {x : Nat} : e_m_ma (s_li S x) = e_m_ma S := rfl
theorem ge_m_ma_rg {x : Nat → Nat} : e_m_ma (s_rg S x) = e_m_ma S := rfl
theorem ge_m_ma_sb {x : Nat → Nat} : e_m_ma (s_sb S x) = e_m_ma S := rfl
theorem ge_m_ma_st {x : Nat} : e_m_ma (s_st S x) = e_m_ma S := rfl
theorem ge_m_ma_pl {x : Nat} : e_m_ma (s_pl S x) = e_m_ma S := rfl
theorem ge_m_ma_zf {x : Bool} : e_m_ma (s_zf S x) = e_m_ma S := rfl
theorem ge_m_ma_nf {x : Bool} : e_m_ma (s_nf S x) = e_m_ma S := rfl
theorem ge_m_ma_hf {x : Bool} : e_m_ma (s_hf S x) = e_m_ma S := rfl
theorem ge_m_ma_cf {x : Bool} : e_m_ma (s_cf S x) = e_m_ma S := rfl
theorem ge_m_ma_en {x : Bool} : e_m_ma (s_en S x) = e_m_ma S := rfl
theorem ge_m_ma_so {x : Bool} : e_m_ma (s_so S x) = e_m_ma S := rfl
theorem ge_m_ma_co {x : Nat} : e_m_ma (s_co S x) = e_m_ma S := rfl
theorem ge_m_ma_sc {x : Nat} : e_m_ma (s_sc S x) = e_m_ma S := rfl
theorem ge_m_li_im {x : Nat → Nat} : e_m_li (s_im S x) = e_m_li S := rfl
theorem ge_m_li_bk {x : Nat} : e_m_li (s_bk S x) = e_m_li S := rfl
theorem ge_m_li_ra {x : Nat → Nat} : e_m_li (s_ra S x) = e_m_li S := rfl
theorem ge_m_li_up {x : Nat → Nat} : e_m_li (s_up S x) = e_m_li S := rfl
theorem ge_m_li_on {x : Bool} : e_m_li (s_on S x) = e_m_li S := rfl
theorem ge_m_li_lo {x : Nat} : e_m_li (s_lo S x) = e_m_li S := rfl
theorem ge_m_li_hi {x : Nat} : e_m_li (s_hi S x) = e_m_li S := rfl
theorem ge_m_li_mo {x : Nat} : e_m_li (s_mo S x) = e_m_li S := rfl
theorem ge_m_li_ma {x : Nat} : e_m_li (s_ma S x) = e_m_li S := rfl
theorem ge_m_li_li {x : Nat} : e_m_li (s_li S x) = nI x := rfl
theorem ge_m_li_rg {x : Nat → Nat} : e_m_li (s_rg S x) = e_m_li S := rfl
theorem ge_m_li_sb {x : Nat → Nat} : e_m_li (s_sb S x) = e_m_li S := rfl
theorem ge_m_li_st {x : Nat} : e_m_li (s_st S x) = e_m_li S := rfl
theorem ge_m_li_pl {x : Nat} : e_m_li (s_pl S x) = e_m_li S := rfl
theorem ge_m_li_zf {x : Bool} : e_m_li (s_zf S x) = e_m_li S := rfl
theorem ge_m_li_nf {x : Bool} : e_m_li (s_nf S x) = e_m_li S := rfl
theorem ge_m_li_hf {x : Bool} : e_m_li (s_hf S x) = e_m_li S := rfl
theorem ge_m_li_cf {x : Bool} : e_m_li (s_cf S x) = e_m_li S := rfl
theorem ge_m_li_en {x : Bool} : e_m_li (s_en S x) = e_m_li S := rfl
theorem ge_m_li_so {x : Bool} : e_m_li (s_so S x) = e_m_li S := rfl
theorem ge_m_li_co {x : Nat} : e_m_li (s_co S x) = e_m_li S := rfl
theorem ge_m_li_sc {x : Nat} : e_m_li (s_sc S x) = e_m_li S := rfl
theorem ge_n_rg_im {x : Nat → Nat} : e_n_rg (s_im S x) = e_n_rg S := rfl
theorem ge_n_rg_bk {x : Nat} : e_n_rg (s_bk S x) = e_n_rg S := rfl
theorem ge_n_rg_ra {x : Nat → Nat} : e_n_rg (s_ra S x) = e_n_rg S := rfl
theorem ge_n_rg_up {x : Nat → Nat} : e_n_rg (s_up S x) = e_n_rg S := rfl
theorem ge_n_rg_on {x : Bool} : e_n_rg (s_on S x) = e_n_rg S := rfl
theorem ge_n_rg_lo {x : Nat} : e_n_rg (s_lo S x) = e_n_rg S := rfl
theorem ge_n_rg_hi {x : Nat} : e_n_rg (s_hi S x) = e_n_rg S := rfl
theorem ge_n_rg_mo {x : Nat} : e_n_rg (s_mo S x) = e_n_rg S := rfl
theorem ge_n_rg_ma {x : Nat} : e_n_rg (s_ma S x) = e_n_rg S := rfl
theorem ge_n_rg_li {x : Nat} : e_n_rg (s_li S x) = e_n_rg S := rfl
theorem ge_n_rg_rg {x : Nat → Nat} : e_n_rg (s_rg S x) = fun j => nI (x j) := rfl
theorem ge_n_rg_sb {x : Nat → Nat} : e_n_rg (s_sb S x) = e_n_rg S := rfl
theorem ge_n_rg_st {x : Nat} : e_n_rg (s_st S x) = e_n_rg S := rfl
theorem ge_n_rg_pl {x : Nat} : e_n_rg (s_pl S x) = e_n_rg S := rfl
theorem ge_n_rg_zf {x : Bool} : e_n_rg (s_zf S x) = e_n_rg S := rfl
theorem ge_n_rg_nf {x : Bool} : e_n_rg (s_nf S x) = e_n_rg S := rfl
theorem ge_n_rg_hf {x : Bool} : e_n_rg (s_hf S x) = e_n_rg S := rfl
theorem ge_n_rg_cf {x : Bool} : e_n_rg (s_cf S x) = e_n_rg S := rfl
theorem ge_n_rg_en {x : Bool} : e_n_rg (s_en S x) = e_n_rg S := rfl
theorem ge_n_rg_so {x : Bool} : e_n_rg (s_so S x) = e_n_rg S := rfl
theorem ge_n_rg_co {x : Nat} : e_n_rg (s_co S x) = e_n_rg S := rfl
theorem ge_n_rg_sc {x : Nat} : e_n_rg (s_sc S x) = e_n_rg S := rfl
theorem ge_n_sb_im {x : Nat → Nat} : e_n_sb (s_im S x) = e_n_sb S := rfl
theorem ge_n_sb_bk {x : Nat} : e_n_sb (s_bk S x) = e_n_sb S := rfl
theorem ge_n_sb_ra {x : Nat → Nat} : e_n_sb (s_ra S x) = e_n_sb S := rfl
theorem ge_n_sb_up {x : Nat → Nat} : e_n_sb (s_up S x) = e_n_sb S := rfl
theorem ge_n_sb_on {x : Bool} : e_n_sb (s_on S x) = e_n_sb S := rfl
theorem ge_n_sb_lo {x : Nat} : e_n_sb (s_lo S x) = e_n_sb S := rfl
theorem ge_n_sb_hi {x : Nat} : e_n_sb (s_hi S x) = e_n_sb S := rfl
theorem ge_n_sb_mo {x : Nat} : e_n_sb (s_mo S x) = e_n_sb S := rfl
theorem ge_n_sb_ma {x : Nat} : e_n_sb (s_ma S x) = e_n_sb S := rfl
theorem ge_n_sb_li {x : Nat} : e_n_sb (s_li S x) = e_n_sb S := rfl
theorem ge_n_sb_rg {x : Nat → Nat} : e_n_sb (s_rg S x) = e_n_sb S := rfl
theorem ge_n_sb_sb {x : Nat → Nat} : e_n_sb (s_sb S x) = fun j => nI (x j) := rfl
theorem ge_n_sb_st {x : Nat} : e_n_sb (s_st S x) = e_n_sb S := rfl
theorem ge_n_sb_pl {x : Nat} : e_n_sb (s_pl S x) = e_n_sb S := rfl
theorem ge_n_sb_zf {x : Bool} : e_n_sb (s_zf S x) = e_n_sb S := rfl
theorem ge_n_sb_nf {x : Bool} : e_n_sb (s_nf S x) = e_n_sb S := rfl
theorem ge_n_sb_hf {x : Bool} : e_n_sb (s_hf S x) = e_n_sb S := rfl
theorem ge_n_sb_cf {x : Bool} : e_n_sb (s_cf S x) = e_n_sb S := rfl
theorem ge_n_sb_en {x : Bool} : e_n_sb (s_en S x) = e_n_sb S := rfl
theorem ge_n_sb_so {x : Bool} : e_n_sb (s_so S x) = e_n_sb S := rfl
theorem ge_n_sb_co {x : Nat} : e_n_sb (s_co S x) = e_n_sb S := rfl
theorem ge_n_sb_sc {x : Nat} : e_n_sb (s_sc S x) = e_n_sb S := rfl
theorem ge_n_st_im {x : Nat → Nat} : e_n_st (s_im S x) = e_n_st S := rfl
theorem ge_n_st_bk {x : Nat} : e_n_st (s_bk S x) = e_n_st S := rfl
theorem ge_n_st_ra {x : Nat → Nat} : e_n_st (s_ra S x) = e_n_st S := rfl
theorem ge_n_st_up {x : Nat → Nat} : e_n_st (s_up S x) = e_n_st S := rfl
theorem ge_n_st_on {x : Bool} : e_n_st (s_on S x) = e_n_st S := rfl
theorem ge_n_st_lo {x : Nat} : e_n_st (s_lo S x) = e_n_st S := rfl
theorem ge_n_st_hi {x : Nat} : e_n_st (s_hi S x) = e_n_st S := rfl
theorem ge_n_st_mo {x : Nat} : e_n_st (s_mo S x) = e_n_st S := rfl
theorem ge_n_st_ma {x : Nat} : e_n_st (s_ma S x) = e_n_st S := rfl
theorem ge_n_st_li {x : Nat} : e_n_st (s_li S x) = e_n_st S := rfl
theorem ge_n_st_rg {x : Nat → Nat} : e_n_st (s_rg S x) = e_n_st S := rfl
theorem ge_n_st_sb {x : Nat → Nat} : e_n_st (s_sb S x) = e_n_st S := rfl
theorem ge_n_st_st {x : Nat} : e_n_st (s_st S x) = nI x := rfl
theorem ge_n_st_pl {x : Nat} : e_n_st (s_pl S x) = e_n_st S := rfl
theorem ge_n_st_zf {x : Bool} : e_n_st (s_zf S x) = e_n_st S := rfl
theorem ge_n_st_nf {x : Bool} : e_n_st (s_nf S x) = e_n_st S := rfl
theorem ge_n_st_hf {x : Bool} : e_n_st (s_hf S x) = e_n_st S := rfl
theorem ge_n_st_cf {x : Bool} : e_n_st (s_cf S x) = e_n_st S := rfl
theorem ge_n_st_en {x : Bool} : e_n_st (s_en S x) = e_n_st S := rfl
theorem ge_n_st_so {x : Bool} : e_n_st (s_so S x) = e_n_st S := rfl
theorem ge_n_st_co {x : Nat} : e_n_st (s_co S x) = e_n_st S := rfl
theorem ge_n_st_sc {x : Nat} : e_n_st (s_sc S x) = e_n_st S := rfl
theorem ge_n_pl_im {x : Nat → Nat} : e_n_pl (s_im S x) = e_n_pl S := rfl
theorem ge_n_pl_bk {x : Nat} : e_n_pl (s_bk S x) = e_n_pl S := rfl
theorem ge_n_pl_ra {x : Nat → Nat} : e_n_pl (s_ra S x) = e_n_pl S := rfl
theorem ge_n_pl_up {x : Nat → Nat} : e_n_pl (s_up S x) = e_n_pl S := rfl
theorem ge_n_pl_on {x : Bool} : e_n_pl (s_on S x) = e_n_pl S := rfl
theorem ge_n_pl_lo {x : Nat} : e_n_pl (s_lo S x) = e_n_pl S := rfl
theorem ge_n_pl_hi {x : Nat} : e_n_pl (s_hi S x) = e_n_pl S := rfl
theorem ge_n_pl_mo {x : Nat} : e_n_pl (s_mo S x) = e_n_pl S := rfl
theorem ge_n_pl_ma {x : Nat} : e_n_pl (s_ma S x) = e_n_pl S := rfl
theorem ge_n_pl_li {x : Nat} : e_n_pl (s_li S x) = e_n_pl S := rfl
theorem ge_n_pl_rg {x : Nat → Nat} : e_n_pl (s_rg S x) = e_n_pl S := rfl
theorem ge_n_pl_sb {x : Nat → Nat} : e_n_pl (s_sb S x) = e_n_pl S := rfl
theorem ge_n_pl_st {x : Nat} : e_n_pl (s_st S x) = e_n_pl S := rfl
theorem ge_n_pl_pl {x : Nat} : e_n_pl (s_pl S x) = nI x := rfl
theorem ge_n_pl_zf {x : Bool} : e_n_pl (s_zf S x) = e_n_pl S := rfl
theorem ge_n_pl_nf {x : Bool} : e_n_pl (s_nf S x) = e_n_pl S := rfl
theorem ge_n_pl_hf {x : Bool} : e_n_pl (s_hf S x) = e_n_pl S := rfl
theorem ge_n_pl_cf {x : Bool} : e_n_pl (s_cf S x) = e_n_pl S := rfl
theorem ge_n_pl_en {x : Bool} : e_n_pl (s_en S x) = e_n_pl S := rfl
theorem ge_n_pl_so {x : Bool} : e_n_pl (s_so S x) = e_n_pl S := rfl
theorem ge_n_pl_co {x : Nat} : e_n_pl (s_co S x) = e_n_pl S := rfl
theorem ge_n_pl_sc {x : Nat} : e_n_pl (s_sc S x) = e_n_pl S := rfl
theorem ge_n_z_im {x : Nat → Nat} : e_n_z (s_im S x) = e_n_z S := rfl
theorem ge_n_z_bk {x : Nat} : e_n_z (s_bk S x) = e_n_z S := rfl
theorem ge_n_z_ra {x : Nat → Nat} : e_n_z (s_ra S x) = e_n_z S := rfl
theorem ge_n_z_up {x : Nat → Nat} : e_n_z (s_up S x) = e_n_z S := rfl
theorem ge_n_z_on {x : Bool} : e_n_z (s_on S x) = e_n_z S := rfl
theorem ge_n_z_lo {x : Nat} : e_n_z (s_lo S x) = e_n_z S := rfl
theorem ge_n_z_hi {x : Nat} : e_n_z (s_hi S x) = e_n_z S := rfl
theorem ge_n_z_mo {x : Nat} : e_n_z (s_mo S x) = e_n_z S := rfl
theorem ge_n_z_ma {x : Nat} : e_n_z (s_ma S x) = e_n_z S := rfl
theorem ge_n_z_li {x : Nat} : e_n_z (s_li S x) = e_n_z S := rfl
theorem ge_n_z_rg {x : Nat → Nat} : e_n_z (s_rg S x) = e_n_z S := rfl
theorem ge_n_z_sb {x : Nat → Nat} : e_n_z (s_sb S x) = e_n_z S := rfl
theorem ge_n_z_st {x : Nat} : e_n_z (s_st S x) = e_n_z S := rfl
theorem ge_n_z_pl {x : Nat} : e_n_z (s_pl S x) = e_n_z S := rfl
theorem ge_n_z_zf {x : Bool} : e_n_z (s_zf S x) = bI x := rfl
theorem ge_n_z_nf {x : Bool} : e_n_z (s_nf S x) = e_n_z S := rfl
theorem ge_n_z_hf {x : Bool} : e_n_z (s_hf S x) = e_n_z S := rfl
theorem ge_n_z_cf {x : Bool} : e_n_z (s_cf S x) = e_n_z S := rfl
theorem ge_n_z_en {x : Bool} : e_n_z (s_en S x) = e_n_z S := rfl
theorem ge_n_z_so {x : Bool} : e_n_z (s_so S x) = e_n_z S := rfl
theorem ge_n_z_co {x : Nat} : e_n_z (s_co S x) = e_n_z S := rfl
theorem ge_n_z_sc {x : Nat} : e_n_z (s_sc S x) = e_n_z S := rfl
theorem ge_n_n_im {x : Nat → Nat} : e_n_n (s_im S x) = e_n_n S := rfl
theorem ge_n_n_bk {x : Nat} : e_n_n (s_bk S x) = e_n_n S := rfl
theorem ge_n_n_ra {x : Nat → Nat} : e_n_n (s_ra S x) = e_n_n S := rfl
theorem ge_n_n_up {x : Nat → Nat} : e_n_n (s_up S x) = e_n_n S := rfl
theorem ge_n_n_on {x : Bool} : e_n_n (s_on S x) = e_n_n S := rfl
theorem ge_n_n_lo {x : Nat} : e_n_n (s_lo S x) = e_n_n S := rfl
theorem ge_n_n_hi {x : Nat} : e_n_n (s_hi S x) = e_n_n S := rfl
theorem ge_n_n_mo {x : Nat} : e_n_n (s_mo S x) = e_n_n S := rfl
theorem ge_n_n_ma {x : Nat} : e_n_n (s_ma S x) = e_n_n S := rfl
theorem ge_n_n_li {x : Nat} : e_n_n (s_li S x) = e_n_n S := rfl
theorem ge_n_n_rg {x : Nat → Nat} : e_n_n (s_rg S x) = e_n_n S := rfl
theorem ge_n_n_sb {x : Nat → Nat} : e_n_n (s_sb S x) = e_n_n S := rfl
theorem ge_n_n_st {x : Nat} : e_n_n (s_st S x) = e_n_n S := rfl
theorem ge_n_n_pl {x : Nat} : e_n_n (s_pl S x) = e_n_n S := rfl
theorem ge_n_n_zf {x : Bool} : e_n_n (s_zf S x) = e_n_n S := rfl
theorem ge_n_n_nf {x : Bool} : e_n_n (s_nf S x) = bI x := rfl
theorem ge_n_n_hf {x : Bool} : e_n_n (s_hf S x) = e_n_n S := rfl
theorem ge_n_n_cf {x : Bool} : e_n_n (s_cf S x) = e_n_n S := rfl
theorem ge_n_n_en {x : Bool} : e_n_n (s_en S x) = e_n_n S := rfl
theorem ge_n_n_so {x : Bool} : e_n_n (s_so S x) = e_n_n S := rfl
theorem ge_n_n_co {x : Nat} : e_n_n (s_co S x) = e_n_n S := rfl
theorem ge_n_n_sc {x : Nat} : e_n_n (s_sc S x) = e_n_n S := rfl
theorem ge_n_h_im {x : Nat → Nat} : e_n_h (s_im S x) = e_n_h S := rfl
theorem ge_n_h_bk {x : Nat} : e_n_h (s_bk S x) = e_n_h S := rfl
theorem ge_n_h_ra {x : Nat → Nat} : e_n_h (s_ra S x) = e_n_h S := rfl
theorem ge_n_h_up {x : Nat → Nat} : e_n_h (s_up S x) = e_n_h S := rfl
theorem ge_n_h_on {x : Bool} : e_n_h (s_on S x) = e_n_h S := rfl
theorem ge_n_h_lo {x : Nat} : e_n_h (s_lo S x) = e_n_h S := rfl
theorem ge_n_h_hi {x : Nat} : e_n_h (s_hi S x) = e_n_h S := rfl
theorem ge_n_h_mo {x : Nat} : e_n_h (s_mo S x) = e_n_h S := rfl
theorem ge_n_h_ma {x : Nat} : e_n_h (s_ma S x) = e_n_h S := rfl
theorem ge_n_h_li {x : Nat} : e_n_h (s_li S x) = e_n_h S := rfl
theorem ge_n_h_rg {x : Nat → Nat} : e_n_h (s_rg S x) = e_n_h S := rfl
theorem ge_n_h_sb {x : Nat → Nat} : e_n_h (s_sb S x) = e_n_h S := rfl
theorem ge_n_h_st {x : Nat} : e_n_h (s_st S x) = e_n_h S := rfl
theorem ge_n_h_pl {x : Nat} : e_n_h (s_pl S x) = e_n_h S := rfl
theorem ge_n_h_zf {x : Bool} : e_n_h (s_zf S x) = e_n_h S := rfl
theorem ge_n_h_nf {x : Bool} : e_n_h (s_nf S x) = e_n_h S := rfl
theorem ge_n_h_hf {x : Bool} : e_n_h (s_hf S x) = bI x := rfl
theorem ge_n_h_cf {x : Bool} : e_n_h (s_cf S x) = e_n_h S := rfl
theorem ge_n_h_en {x : Bool} : e_n_h (s_en S x) = e_n_h S := rfl
theorem ge_n_h_so {x : Bool} : e_n_h (s_so S x) = e_n_h S := rfl
theorem ge_n_h_co {x : Nat} : e_n_h (s_co S x) = e_n_h S := rfl
theorem ge_n_h_sc {x : Nat} : e_n_h (s_sc S x) = e_n_h S := rfl
theorem ge_n_c_im {x : Nat → Nat} : e_n_c (s_im S x) = e_n_c S := rfl
theorem ge_n_c_bk {x : Nat} : e_n_c (s_bk S x) = e_n_c S := rfl
theorem ge_n_c_ra {x : Nat → Nat} : e_n_c (s_ra S x) = e_n_c S := rfl
theorem ge_n_c_up {x : Nat → Nat} : e_n_c (s_up S x) = e_n_c S := rfl
theorem ge_n_c_on {x : Bool} : e_n_c (s_on S x) = e_n_c S := rfl
theorem ge_n_c_lo {x : Nat} : e_n_c (s_lo S x) = e_n_c S := rfl
theorem ge_n_c_hi {x : Nat} : e_n_c (s_hi S x) = e_n_c S := rfl
theorem ge_n_c_mo {x : Nat} : e_n_c (s_mo S x) = e_n_c S := rfl
theorem ge_n_c_ma {x : Nat} : e_n_c (s_ma S x) = e_n_c S := rfl
theorem ge_n_c_li {x : Nat} : e_n_c (s_li S x) = e_n_c S := rfl
theorem ge_n_c_rg {x : Nat → Nat} : e_n_c (s_rg S x) = e_n_c S := rfl
theorem ge_n_c_sb {x : Nat → Nat} : e_n_c (s_sb S x) = e_n_c S := rfl
theorem ge_n_c_st {x : Nat} : e_n_c (s_st S x) = e_n_c S := rfl
theorem ge_n_c_pl {x : Nat} : e_n_c (s_pl S x) = e_n_c S := rfl
theorem ge_n_c_zf {x : Bool} : e_n_c (s_zf S x) = e_n_c S := rfl
theorem ge_n_c_nf {x : Bool} : e_n_c (s_nf S x) = e_n_c S := rfl
theorem ge_n_c_hf {x : Bool} : e_n_c (s_hf S x) = e_n_c S := rfl
theorem ge_n_c_cf {x : Bool} : e_n_c (s_cf S x) = bI x := rfl
theorem ge_n_c_en {x : Bool} : e_n_c (s_en S x) = e_n_c S := rfl
theorem ge_n_c_so {x : Bool} : e_n_c (s_so S x) = e_n_c S := rfl
theorem ge_n_c_co {x : Nat} : e_n_c (s_co S x) = e_n_c S := rfl
theorem ge_n_c_sc {x : Nat} : e_n_c (s_sc S x) = e_n_c S := rfl
theorem ge_n_en_im {x : Nat → Nat} : e_n_en (s_im S x) = e_n_en S := rfl
theorem ge_n_en_bk {x : Nat} : e_n_en (s_bk S x) = e_n_en S := rfl
theorem ge_n_en_ra {x : Nat → Nat} : e_n_en (s_ra S x) = e_n_en S := rfl
theorem ge_n_en_up {x : Nat → Nat} : e_n_en (s_up S x) = e_n_en S := rfl
theorem ge_n_en_on {x : Bool} : e_n_en (s_on S x) = e_n_en S := rfl
theorem ge_n_en_lo {x : Nat} : e_n_en (s_lo S x) = e_n_en S := rfl
theorem ge_n_en_hi {x : Nat} : e_n_en (s_hi S x) = e_n_en S := rfl
theorem ge_n_en_mo {x : Nat} : e_n_en (s_mo S x) = e_n_en S := rfl
theorem ge_n_en_ma {x : Nat} : e_n_en (s_ma S x) = e_n_en S := rfl
theorem ge_n_en_li {x : Nat} : e_n_en (s_li S x) = e_n_en S := rfl
theorem ge_n_en_rg {x : Nat → Nat} : e_n_en (s_rg S x) = e_n_en S := rfl
theorem ge_n_en_sb {x : Nat → Nat} : e_n_en (s_sb S x) = e_n_en S := rfl
theorem ge_n_en_st {x : Nat} : e_n_en (s_st S x) = e_n_en S := rfl
theorem ge_n_en_pl {x : Nat} : e_n_en (s_pl S x) = e_n_en S := rfl
theorem ge_n_en_zf {x : Bool} : e_n_en (s_zf S x) = e_n_en S := rfl
theorem ge_n_en_nf {x : Bool} : e_n_en (s_nf S x) = e_n_en S := rfl
theorem ge_n_en_hf {x : Bool} : e_n_en (s_hf S x) = e_n_en S := rfl
theorem ge_n_en_cf {x : Bool} : e_n_en (s_cf S x) = e_n_en S := rfl
theorem ge_n_en_en {x : Bool} : e_n_en (s_en S x) = bI x := rfl
theorem ge_n_en_so {x : Bool} : e_n_en (s_so S x) = e_n_en S := rfl
theorem ge_n_en_co {x : Nat} : e_n_en (s_co S x) = e_n_en S := rfl
theorem ge_n_en_sc {x : Nat} : e_n_en (s_sc S x) = e_n_en S := rfl
theorem ge_n_so_im {x : Nat → Nat} : e_n_so (s_im S x) = e_n_so S := rfl
theorem ge_n_so_bk {x : Nat} : e_n_so (s_bk S x) = e_n_so S := rfl
theorem ge_n_so_ra {x : Nat → Nat} : e_n_so (s_ra S x) = e_n_so S := rfl
theorem ge_n_so_up {x : Nat → Nat} : e_n_so (s_up S x) = e_n_so S := rfl
theorem ge_n_so_on {x : Bool} : e_n_so (s_on S x) = e_n_so S := rfl
theorem ge_n_so_lo {x : Nat} : e_n_so (s_lo S x) = e_n_so S := rfl
theorem ge_n_so_hi {x : Nat} : e_n_so (s_hi S x) = e_n_so S := rfl
theorem ge_n_so_mo {x : Nat} : e_n_so (s_mo S x) = e_n_so S := rfl
theorem ge_n_so_ma {x : Nat} : e_n_so (s_ma S x) = e_n_so S := rfl
theorem ge_n_so_li {x : Nat} : e_n_so (s_li S x) = e_n_so S := rfl
theorem ge_n_so_rg {x : Nat → Nat} : e_n_so (s_rg S x) = e_n_so S := rfl
theorem ge_n_so_sb {x : Nat → Nat} : e_n_so (s_sb S x) = e_n_so S := rfl
theorem ge_n_so_st {x : Nat} : e_n_so (s_st S x) = e_n_so S := rfl
theorem ge_n_so_pl {x : Nat} : e_n_so (s_pl S x) = e_n_so S := rfl
theorem ge_n_so_zf {x : Bool} : e_n_so (s_zf S x) = e_n_so S := rfl
theorem ge_n_so_nf {x : Bool} : e_n_so (s_nf S x) = e_n_so S := rfl
theorem ge_n_so_hf {x : Bool} : e_n_so (s_hf S x) = e_n_so S := rfl
theorem ge_n_so_cf {x : Bool} : e_n_so (s_cf S x) = e_n_so S := rfl
theorem ge_n_so_en {x : Bool} : e_n_so (s_en S x) = e_n_so S := rfl
theorem ge_n_so_so {x : Bool} : e_n_so (s_so S x) = bI x := rfl
theorem ge_n_so_co {x : Nat} : e_n_so (s_co S x) = e_n_so S := rfl
theorem ge_n_so_sc {x : Nat} : e_n_so (s_sc S x) = e_n_so S := rfl
theorem ge_n_co_im {x : Nat → Nat} : e_n_co (s_im S x) = e_n_co S := rfl
theorem ge_n_co_bk {x : Nat} : e_n_co (s_bk S x) = e_n_co S := rfl
theorem ge_n_co_ra {x : Nat → Nat} : e_n_co (s_ra S x) = e_n_co S := rfl
theorem ge_n_co_up {x : Nat → Nat} : e_n_co (s_up S x) = e_n_co S := rfl
theorem ge_n_co_on {x : Bool} : e_n_co (s_on S x) = e_n_co S := rfl
theorem ge_n_co_lo {x : Nat} : e_n_co (s_lo S x) = e_n_co S := rfl
theorem ge_n_co_hi {x : Nat} : e_n_co (s_hi S x) = e_n_co S := rfl
theorem ge_n_co_mo {x : Nat} : e_n_co (s_mo S x) = e_n_co S := rfl
theorem ge_n_co_ma {x : Nat} : e_n_co (s_ma S x) = e_n_co S := rfl
theorem ge_n_co_li {x : Nat} : e_n_co (s_li S x) = e_n_co S := rfl
theorem ge_n_co_rg {x : Nat → Nat} : e_n_co (s_rg S x) = e_n_co S := rfl
theorem ge_n_co_sb {x : Nat → Nat} : e_n_co (s_sb S x) = e_n_co S := rfl
theorem ge_n_co_st {x : Nat} : e_n_co (s_st S x) = e_n_co S := rfl
theorem ge_n_co_pl {x : Nat} : e_n_co (s_pl S x) = e_n_co S := rfl
theorem ge_n_co_zf {x : Bool} : e_n_co (s_zf S x) = e_n_co S := rfl
theorem ge_n_co_nf {x : Bool} : e_n_co (s_nf S x) = e_n_co S := rfl
theorem ge_n_co_hf {x : Bool} : e_n_co (s_hf S x) = e_n_co S := rfl
theorem ge_n_co_cf {x : Bool} : e_n_co (s_cf S x) = e_n_co S := rfl
theorem ge_n_co_en {x : Bool} : e_n_co (s_en S x) = e_n_co S := rfl
theorem ge_n_co_so {x : Bool} : e_n_co (s_so S x) = e_n_co S := rfl
theorem ge_n_co_co {x : Nat} : e_n_co (s_co S x) = nI x := rfl
theorem ge_n_co_sc {x : Nat} : e_n_co (s_sc S x) = e_n_co S := rfl
theorem ge_n_sc_im {x : Nat → Nat} : e_n_sc (s_im S x) = e_n_sc S := rfl
theorem ge_n_sc_bk {x : Nat} : e_n_sc (s_bk S x) = e_n_sc S := rfl
theorem ge_n_sc_ra {x : Nat → Nat} : e_n_sc (s_ra S x) = e_n_sc S := rfl
theorem ge_n_sc_up {x : Nat → Nat} : e_n_sc (s_up S x) = e_n_sc S := rfl
theorem ge_n_sc_on {x : Bool} : e_n_sc (s_on S x) = e_n_sc S := rfl
theorem ge_n_sc_lo {x : Nat} : e_n_sc (s_lo S x) = e_n_sc S := rfl
theorem ge_n_sc_hi {x : Nat} : e_n_sc (s_hi S x) = e_n_sc S := rfl
theorem ge_n_sc_mo {x : Nat} : e_n_sc (s_mo S x) = e_n_sc S := rfl
theorem ge_n_sc_ma {x : Nat} : e_n_sc (s_ma S x) = e_n_sc S := rfl
theorem ge_n_sc_li {x : Nat} : e_n_sc (s_li S x) = e_n_sc S := rfl
theorem ge_n_sc_rg {x : Nat → Nat} : e_n_sc (s_rg S x) = e_n_sc S := rfl
theorem ge_n_sc_sb {x : Nat → Nat} : e_n_sc (s_sb S x) = e_n_sc S := rfl
theorem ge_n_sc_st {x : Nat} : e_n_sc (s_st S x) = e_n_sc S := rfl
theorem ge_n_sc_pl {x : Nat} : e_n_sc (s_pl S x) = e_n_sc S := rfl
theorem ge_n_sc_zf {x : Bool} : e_n_sc (s_zf S x) = e_n_sc S := rfl
theorem ge_n_sc_nf {x : Bool} : e_n_sc (s_nf S x) = e_n_sc S := rfl
theorem ge_n_sc_hf {x : Bool} : e_n_sc (s_hf S x) = e_n_sc S := rfl
theorem ge_n_sc_cf {x : Bool} : e_n_sc (s_cf S x) = e_n_sc S := rfl
theorem ge_n_sc_en {x : Bool} : e_n_sc (s_en S x) = e_n_sc S := rfl
theorem ge_n_sc_so {x : Bool} : e_n_sc (s_so S x) = e_n_sc S := rfl
theorem ge_n_sc_co {x : Nat} : e_n_sc (s_co S x) = e_n_sc S := rfl
theorem ge_n_sc_sc {x : Nat} : e_n_sc (s_sc S x) = nI x := rfl
theorem ge_q_banks_im {x : Nat → Nat} : e_q_banks (s_im S x) = e_q_banks S := rfl
theorem ge_q_banks_bk {x : Nat} : e_q_banks (s_bk S x) = nI x := rfl
theorem ge_q_banks_ra {x : Nat → Nat} : e_q_banks (s_ra S x) = e_q_banks S := rfl
theorem ge_q_banks_up {x : Nat → Nat} : e_q_banks (s_up S x) = e_q_banks S := rfl
theorem ge_q_banks_on {x : Bool} : e_q_banks (s_on S x) = e_q_banks S := rfl
theorem ge_q_banks_lo {x : Nat} : e_q_banks (s_lo S x) = e_q_banks S := rfl
theorem ge_q_banks_hi {x : Nat} : e_q_banks (s_hi S x) = e_q_banks S := rfl
theorem ge_q_banks_mo {x : Nat} : e_q_banks (s_mo S x) = e_q_banks S := rfl
theorem ge_q_banks_ma {x : Nat} : e_q_banks (s_ma S x) = e_q_banks S := rfl
theorem ge_q_banks_li {x : Nat} : e_q_banks (s_li S x) = e_q_banks S := rfl
theorem ge_q_banks_rg {x : Nat → Nat} : e_q_banks (s_rg S x) = e_q_banks S := rfl
theorem ge_q_banks_sb {x : Nat → Nat} : e_q_banks (s_sb S x) = e_q_banks S := rfl
theorem ge_q_banks_st {x : Nat} : e_q_banks (s_st S x) = e_q_banks S := rfl
theorem ge_q_banks_pl {x : Nat} : e_q_banks (s_pl S x) = e_q_banks S := rfl
theorem ge_q_banks_zf {x : Bool} : e_q_banks (s_zf S x) = e_q_banks S := rfl
theorem ge_q_banks_nf {x : Bool} : e_q_banks (s_nf S x) = e_q_banks S := rfl
theorem ge_q_banks_hf {x : Bool} : e_q_banks (s_hf S x) = e_q_banks S := rfl
theorem ge_q_banks_cf {x : Bool} : e_q_banks (s_cf S x) = e_q_banks S := rfl
theorem ge_q_banks_en {x : Bool} : e_q_banks (s_en S x) = e_q_banks S := rfl
theorem ge_q_banks_so {x : Bool} : e_q_banks (s_so S x) = e_q_banks S := rfl
theorem ge_q_banks_co {x : Nat} : e_q_banks (s_co S x) = e_q_banks S := rfl
theorem ge_q_banks_sc {x : Nat} : e_q_banks (s_sc S x) = e_q_banks S := rfl
theorem ge_q_memory_bk {x : Nat} : e_q_memory (s_bk S x) = e_q_memory S := rfl
theorem ge_q_memory_on {x : Bool} : e_q_memory (s_on S x) = e_q_memory S := rfl
theorem ge_q_memory_lo {x : Nat} : e_q_memory (s_lo S x) = e_q_memory S := rfl
theorem ge_q_memory_hi {x : Nat} : e_q_memory (s_hi S x) = e_q_memory S := rfl
theorem ge_q_memory_mo {x : Nat} : e_q_memory (s_mo S x) = e_q_memory S := rfl
theorem ge_q_memory_rg {x : Nat → Nat} : e_q_memory (s_rg S x) = e_q_memory S := rfl
theorem ge_q_memory_sb {x : Nat → Nat} : e_q_memory (s_sb S x) = e_q_memory S := rfl
theorem ge_q_memory_st {x : Nat} : e_q_memory (s_st S x) = e_q_memory S := rfl
theorem ge_q_memory_pl {x : Nat} : e_q_memory (s_pl S x) = e_q_memory S := rfl
theorem ge_q_memory_zf {x : Bool} : e_q_memory (s_zf S x) = e_q_memory S := rfl
theorem ge_q_memory_nf {x : Bool} : e_q_memory (s_nf S x) = e_q_memory S := rfl
theorem ge_q_memory_hf {x : Bool} : e_q_memory (s_hf S x) = e_q_memory S := rfl
theorem ge_q_memory_cf {x : Bool} : e_q_memory (s_cf S x) = e_q_memory S := rfl
theorem ge_q_memory_en {x : Bool} : e_q_memory (s_en S x) = e_q_memory S := rfl
theorem ge_q_memory_so {x : Bool} : e_q_memory (s_so S x) = e_q_memory S := rfl
theorem ge_q_memory_co {x : Nat} : e_q_memory (s_co S x) = e_q_memory S := rfl
theorem ge_q_memory_sc {x : Nat} : e_q_memory (s_sc S x) = e_q_memory S := rfl
theorem ge_q_register_im {x : Nat → Nat} : e_q_register (s_im S x) = e_q_register S := rfl
theorem ge_q_register_bk {x : Nat} : e_q_register (s_bk S x) = e_q_register S := rfl
theorem ge_q_register_ra {x : Nat → Nat} : e_q_register (s_ra S x) = e_q_register S := rfl
theorem ge_q_register_up {x : Nat → Nat} : e_q_register (s_up S x) = e_q_register S := rfl
theorem ge_q_register_on {x : Bool} : e_q_register (s_on S x) = e_q_register S := rfl
theorem ge_q_register_lo {x : Nat} : e_q_register (s_lo S x) = e_q_register S := rfl
theorem ge_q_register_hi {x : Nat} : e_q_register (s_hi S x) = e_q_register S := rfl
theorem ge_q_register_mo {x : Nat} : e_q_register (s_mo S x) = e_q_register S := rfl
theorem ge_q_register_ma {x : Nat} : e_q_register (s_ma S x) = e_q_register S := rfl
theorem ge_q_register_li {x : Nat} : e_q_register (s_li S x) = e_q_register S := rfl
theorem ge_q_register_rg {x : Nat → Nat} : e_q_register (s_rg S x) = fun j => nI (x j) := rfl
theorem ge_q_register_sb {x : Nat → Nat} : e_q_register (s_sb S x) = e_q_register S := rfl
theorem ge_q_register_st {x : Nat} : e_q_register (s_st S x) = e_q_register S := rfl
theorem ge_q_register_pl {x : Nat} : e_q_register (s_pl S x) = e_q_register S := rfl
theorem ge_q_register_zf {x : Bool} : e_q_register (s_zf S x) = e_q_register S := rfl
theorem ge_q_register_nf {x : Bool} : e_q_register (s_nf S x) = e_q_register S := rfl
theorem ge_q_register_hf {x : Bool} : e_q_register (s_hf S x) = e_q_register S := rfl
theorem ge_q_register_cf {x : Bool} : e_q_register (s_cf S x) = e_q_register S := rfl
theorem ge_q_register_en {x : Bool} : e_q_register (s_en S x) = e_q_register S := rfl
theorem ge_q_register_so {x : Bool} : e_q_register (s_so S x) = e_q_register S := rfl
theorem ge_q_register_co {x : Nat} : e_q_register (s_co S x) = e_q_register S := rfl
theorem ge_q_register_sc {x : Nat} : e_q_register (s_sc S x) = e_q_register S := rfl
theorem ge_q_stack_im {x : Nat → Nat} : e_q_stack (s_im S x) = e_q_stack S := rfl
theorem ge_q_stack_bk {x : Nat} : e_q_stack (s_bk S x) = e_q_stack S := rfl
theorem ge_q_stack_ra {x : Nat → Nat} : e_q_stack (s_ra S x) = e_q_stack S := rfl
theorem ge_q_stack_up {x : Nat → Nat} : e_q_stack (s_up S x) = e_q_stack S := rfl
theorem ge_q_stack_on {x : Bool} : e_q_stack (s_on S x) = e_q_stack S := rfl
theorem ge_q_stack_lo {x : Nat} : e_q_stack (s_lo S x) = e_q_stack S := rfl
theorem ge_q_stack_hi {x : Nat} : e_q_stack (s_hi S x) = e_q_stack S := rfl
theorem ge_q_stack_mo {x : Nat} : e_q_stack (s_mo S x) = e_q_stack S := rfl
theorem ge_q_stack_ma {x : Nat} : e_q_stack (s_ma S x) = e_q_stack S := rfl
theorem ge_q_stack_li {x : Nat} : e_q_stack (s_li S x) = e_q_stack S := rfl
theorem ge_q_stack_rg {x : Nat → Nat} : e_q_stack (s_rg S x) = e_q_stack S := rfl
theorem ge_q_stack_sb {x : Nat → Nat} : e_q_stack (s_sb S x) = e_q_stack S := rfl
theorem ge_q_stack_st {x : Nat} : e_q_stack (s_st S x) = nI x := rfl
theorem ge_q_stack_pl {x : Nat} : e_q_stack (s_pl S x) = e_q_stack S := rfl
theorem ge_q_stack_zf {x : Bool} : e_q_stack (s_zf S x) = e_q_stack S := rfl
theorem ge_q_stack_nf {x : Bool} : e_q_stack (s_nf S x) = e_q_stack S := rfl
theorem ge_q_stack_hf {x : Bool} : e_q_stack (s_hf S x) = e_q_stack S := rfl
theorem ge_q_stack_cf {x : Bool} : e_q_stack (s_cf S x) = e_q_stack S := rfl
theorem ge_q_stack_en {x : Bool} : e_q_stack (s_en S x) = e_q_stack S := rfl
theorem ge_q_stack_so {x : Bool} : e_q_stack (s_so S x) = e_q_stack S := rfl
theorem ge_q_stack_co {x : Nat} : e_q_stack (s_co S x) = e_q_stack S := rfl
theorem ge_q_stack_sc {x : Nat} : e_q_stack (s_sc S x) = e_q_stack S := rfl
theorem ge_q_place_im {x : Nat → Nat} : e_q_place (s_im S x) = e_q_place S := rfl
theorem ge_q_place_bk {x : Nat} : e_q_place (s_bk S x) = e_q_place S := rfl
theorem ge_q_place_ra {x : Nat → Nat} : e_q_place (s_ra S x) = e_q_place S := rfl
theorem ge_q_place_up {x : Nat → Nat} : e_q_place (s_up S x) = e_q_place S := rfl
theorem ge_q_place_on {x : Bool} : e_q_place (s_on S x) = e_q_place S := rfl
theorem ge_q_place_lo {x : Nat} : e_q_place (s_lo S x) = e_q_place S := rfl
theorem ge_q_place_hi {x : Nat} : e_q_place (s_hi S x) = e_q_place S := rfl
theorem ge_q_place_mo {x : Nat} : e_q_place (s_mo S x) = e_q_place S := rfl
theorem ge_q_place_ma {x : Nat} : e_q_place (s_ma S x) = e_q_place S := rfl
theorem ge_q_place_li {x : Nat} : e_q_place (s_li S x) = e_q_place S := rfl
theorem ge_q_place_rg {x : Nat → Nat} : e_q_place (s_rg S x) = e_q_place S := rfl
theorem ge_q_place_sb {x : Nat → Nat} : e_q_place (s_sb S x) = e_q_place S := rfl
theorem ge_q_place_st {x : Nat} : e_q_place (s_st S x) = e_q_place S := rfl
theorem ge_q_place_pl {x : Nat} : e_q_place (s_pl S x) = nI x := rfl
theorem ge_q_place_zf {x : Bool} : e_q_place (s_zf S x) = e_q_place S := rfl
theorem ge_q_place_nf {x : Bool} : e_q_place (s_nf S x) = e_q_place S := rfl
theorem ge_q_place_hf {x : Bool} : e_q_place (s_hf S x) = e_q_place S := rfl
theorem ge_q_place_cf {x : Bool} : e_q_place (s_cf S x) = e_q_place S := rfl
theorem ge_q_place_en {x : Bool} : e_q_place (s_en S x) = e_q_place S := rfl
theorem ge_q_place_so {x : Bool} : e_q_place (s_so S x) = e_q_place S := rfl
theorem ge_q_place_co {x : Nat} : e_q_place (s_co S x) = e_q_place S := rfl
theorem ge_q_place_sc {x : Nat} : e_q_place (s_sc S x) = e_q_place S := rfl
theorem ge_q_zero_im {x : Nat → Nat} : e_q_zero (s_im S x) = e_q_zero S := rfl
theorem ge_q_zero_bk {x : Nat} : e_q_zero (s_bk S x) = e_q_zero S := rfl
theorem ge_q_zero_ra {x : Nat → Nat} : e_q_zero (s_ra S x) = e_q_zero S := rfl
theorem ge_q_zero_up {x : Nat → Nat} : e_q_zero (s_up S x) = e_q_zero S := rfl
theorem ge_q_zero_on {x : Bool} : e_q_zero (s_on S x) = e_q_zero S := rfl
theorem ge_q_zero_lo {x : Nat} : e_q_zero (s_lo S x) = e_q_zero S := rfl
theorem ge_q_zero_hi {x : Nat} : e_q_zero (s_hi S x) = e_q_zero S := rfl
theorem ge_q_zero_mo {x : Nat} : e_q_zero (s_mo S x) = e_q_zero S := rfl
theorem ge_q_zero_ma {x : Nat} : e_q_zero (s_ma S x) = e_q_zero S := rfl
theorem ge_q_zero_li {x : Nat} : e_q_zero (s_li S x) = e_q_zero S := rfl
theorem ge_q_zero_rg {x : Nat → Nat} : e_q_zero (s_rg S x) = e_q_zero S := rfl
theorem ge_q_zero_sb {x : Nat → Nat} : e_q_zero (s_sb S x) = e_q_zero S := rfl
theorem ge_q_zero_st {x : Nat} : e_q_zero (s_st S x) = e_q_zero S := rfl
theorem ge_q_zero_pl {x : Nat} : e_q_zero (s_pl S x) = e_q_zero S := rfl
theorem ge_q_zero_zf {x : Bool} : e_q_zero (s_zf S x) = bI x := rfl
theorem ge_q_zero_nf {x : Bool} : e_q_zero (s_nf S x) = e_q_zero S := rfl
theorem ge_q_zero_hf {x : Bool} : e_q_zero (s_hf S x) = e_q_zero S := rfl
theorem ge_q_zero_cf {x : Bool} : e_q_zero (s_cf S x) = e_q_zero S := rfl
theorem ge_q_zero_en {x : Bool} : e_q_zero (s_en S x) = e_q_zero S := rfl
theorem ge_q_zero_so {x : Bool} : e_q_zero (s_so S x) = e_q_zero S := rfl
theorem ge_q_zero_co {x : Nat} : e_q_zero (s_co S x) = e_q_zero S := rfl
theorem ge_q_zero_sc {x : Nat} : e_q_zero (s_sc S x) = e_q_zero S := rfl
theorem ge_q_less_im {x : Nat → Nat} : e_q_less (s_im S x) = e_q_less S := rfl
theorem ge_q_less_bk {x : Nat} : e_q_less (s_bk S x) = e_q_less S := rfl
theorem ge_q_less_ra {x : Nat → Nat} : e_q_less (s_ra S x) = e_q_less S := rfl
theorem ge_q_less_up {x : Nat → Nat} : e_q_less (s_up S x) = e_q_less S := rfl
theorem ge_q_less_on {x : Bool} : e_q_less (s_on S x) = e_q_less S := rfl
theorem ge_q_less_lo {x : Nat} : e_q_less (s_lo S x) = e_q_less S := rfl
theorem ge_q_less_hi {x : Nat} : e_q_less (s_hi S x) = e_q_less S := rfl
theorem ge_q_less_mo {x : Nat} : e_q_less (s_mo S x) = e_q_less S := rfl
theorem ge_q_less_ma {x : Nat} : e_q_less (s_ma S x) = e_q_less S := rfl
theorem ge_q_less_li {x : Nat} : e_q_less (s_li S x) = e_q_less S := rfl
theorem ge_q_less_rg {x : Nat → Nat} : e_q_less (s_rg S x) = e_q_less S := rfl
theorem ge_q_less_sb {x : Nat → Nat} : e_q_less (s_sb S x) = e_q_less S := rfl
theorem ge_q_less_st {x : Nat} : e_q_less (s_st S x) = e_q_less S := rfl
theorem ge_q_less_pl {x : Nat} : e_q_less (s_pl S x) = e_q_less S := rfl
theorem ge_q_less_zf {x : Bool} : e_q_less (s_zf S x) = e_q_less S := rfl
theorem ge_q_less_nf {x : Bool} : e_q_less (s_nf S x) = bI x := rfl
theorem ge_q_less_hf {x : Bool} : e_q_less (s_hf S x) = e_q_less S := rfl
theorem ge_q_less_cf {x : Bool} : e_q_less (s_cf S x) = e_q_less S := rfl
theorem ge_q_less_en {x : Bool} : e_q_less (s_en S x) = e_q_less S := rfl
theorem ge_q_less_so {x : Bool} : e_q_less (s_so S x) = e_q_less S := rfl
theorem ge_q_less_co {x : Nat} : e_q_less (s_co S x) = e_q_less S := rfl
theorem ge_q_less_sc {x : Nat} : e_q_less (s_sc S x) = e_q_less S := rfl
theorem ge_q_half_im {x : Nat → Nat} : e_q_half (s_im S x) = e_q_half S := rfl
theorem ge_q_half_bk {x : Nat} : e_q_half (s_bk S x) = e_q_half S := rfl
theorem ge_q_half_ra {x : Nat → Nat} : e_q_half (s_ra S x) = e_q_half S := rfl
theorem ge_q_half_up {x : Nat → Nat} : e_q_half (s_up S x) = e_q_half S := rfl
theorem ge_q_half_on {x : Bool} : e_q_half (s_on S x) = e_q_half S := rfl
theorem ge_q_half_lo {x : Nat} : e_q_half (s_lo S x) = e_q_half S := rfl
theorem ge_q_half_hi {x : Nat} : e_q_half (s_hi S x) = e_q_half S := rfl
theorem ge_q_half_mo {x : Nat} : e_q_half (s_mo S x) = e_q_half S := rfl
theorem ge_q_half_ma {x : Nat} : e_q_half (s_ma S x) = e_q_half S := rfl
theorem ge_q_half_li {x : Nat} : e_q_half (s_li S x) = e_q_half S := rfl
theorem ge_q_half_rg {x : Nat → Nat} : e_q_half (s_rg S x) = e_q_half S := rfl
theorem ge_q_half_sb {x : Nat → Nat} : e_q_half (s_sb S x) = e_q_half S := rfl
theorem ge_q_half_st {x : Nat} : e_q_half (s_st S x) = e_q_half S := rfl
theorem ge_q_half_pl {x : Nat} : e_q_half (s_pl S x) = e_q_half S := rfl
theorem ge_q_half_zf {x : Bool} : e_q_half (s_zf S x) = e_q_half S := rfl
theorem ge_q_half_nf {x : Bool} : e_q_half (s_nf S x) = e_q_half S := rfl
theorem ge_q_half_hf {x : Bool} : e_q_half (s_hf S x) = bI x := rfl
theorem ge_q_half_cf {x : Bool} : e_q_half (s_cf S x) = e_q_half S := rfl
theorem ge_q_half_en {x : Bool} : e_q_half (s_en S x) = e_q_half S := rfl
theorem ge_q_half_so {x : Bool} : e_q_half (s_so S x) = e_q_half S := rfl
theorem ge_q_half_co {x : Nat} : e_q_half (s_co S x) = e_q_half S := rfl
theorem ge_q_half_sc {x : Nat} : e_q_half (s_sc S x) = e_q_half S := rfl
theorem ge_q_carry_im {x : Nat → Nat} : e_q_carry (s_im S x) = e_q_carry S := rfl
theorem ge_q_carry_bk {x : Nat} : e_q_carry (s_bk S x) = e_q_carry S := rfl
theorem ge_q_carry_ra {x : Nat → Nat} : e_q_carry (s_ra S x) = e_q_carry S := rfl
theorem ge_q_carry_up {x : Nat → Nat} : e_q_carry (s_up S x) = e_q_carry S := rfl
theorem ge_q_carry_on {x : Bool} : e_q_carry (s_on S x) = e_q_carry S := rfl
theorem ge_q_carry_lo {x : Nat} : e_q_carry (s_lo S x) = e_q_carry S := rfl
theorem ge_q_carry_hi {x : Nat} : e_q_carry (s_hi S x) = e_q_carry S := rfl
theorem ge_q_carry_mo {x : Nat} : e_q_carry (s_mo S x) = e_q_carry S := rfl
theorem ge_q_carry_ma {x : Nat} : e_q_carry (s_ma S x) = e_q_carry S := rfl
theorem ge_q_carry_li {x : Nat} : e_q_carry (s_li S x) = e_q_carry S := rfl
theorem ge_q_carry_rg {x : Nat → Nat} : e_q_carry (s_rg S x) = e_q_carry S := rfl
theorem ge_q_carry_sb {x : Nat → Nat} : e_q_carry (s_sb S x) = e_q_carry S := rfl
theorem ge_q_carry_st {x : Nat} : e_q_carry (s_st S x) = e_q_carry S := rfl
theorem ge_q_carry_pl {x : Nat} : e_q_carry (s_pl S x) = e_q_carry S := rfl
theorem ge_q_carry_zf {x : Bool} : e_q_carry (s_zf S x) = e_q_carry S := rfl
theorem ge_q_carry_nf {x : Bool} : e_q_carry (s_nf S x) = e_q_carry S := rfl
theorem ge_q_carry_hf {x : Bool} : e_q_carry (s_hf S x) = e_q_carry S := rfl
theorem ge_q_carry_cf {x : Bool} : e_q_carry (s_cf S x) = bI x := rfl
theorem ge_q_carry_en {x : Bool} : e_q_carry (s_en S x) = e_q_carry S := rfl
theorem ge_q_carry_so {x : Bool} : e_q_carry (s_so S x) = e_q_carry S := rfl
theorem ge_q_carry_co {x : Nat} : e_q_carry (s_co S x) = e_q_carry S := rfl
theorem ge_q_carry_sc {x : Nat} : e_q_carry (s_sc S x) = e_q_carry S := rfl
theorem ge_q_enabled_im {x : Nat → Nat} : e_q_enabled (s_im S x) = e_q_enabled S := rfl
theorem ge_q_enabled_bk {x : Nat} : e_q_enabled (s_bk S x) = e_q_enabled S := rfl
theorem ge_q_enabled_ra {x : Nat → Nat} : e_q_enabled (s_ra S x) = e_q_enabled S := rfl
theorem ge_q_enabled_up {x : Nat → Nat} : e_q_enabled (s_up S x) = e_q_enabled S := rfl
theorem ge_q_enabled_on {x : Bool} : e_q_enabled (s_on S x) = e_q_enabled S := rfl
theorem ge_q_enabled_lo {x : Nat} : e_q_enabled (s_lo S x) = e_q_enabled S := rfl
theorem ge_q_enabled_hi {x : Nat} : e_q_enabled (s_hi S x) = e_q_enabled S := rfl
theorem ge_q_enabled_mo {x : Nat} : e_q_enabled (s_mo S x) = e_q_enabled S := rfl
theorem ge_q_enabled_ma {x : Nat} : e_q_enabled (s_ma S x) = e_q_enabled S := rfl
theorem ge_q_enabled_li {x : Nat} : e_q_enabled (s_li S x) = e_q_enabled S := rfl
theorem ge_q_enabled_rg {x : Nat → Nat} : e_q_enabled (s_rg S x) = e_q_enabled S := rfl
theorem ge_q_enabled_sb {x : Nat → Nat} : e_q_enabled (s_sb S x) = e_q_enabled S := rfl
theorem ge_q_enabled_st {x : Nat} : e_q_enabled (s_st S x) = e_q_enabled S := rfl
theorem ge_q_enabled_pl {x : Nat} : e_q_enabled (s_pl S x) = e_q_enabled S := rfl
theorem ge_q_enabled_zf {x : Bool} : e_q_enabled (s_zf S x) = e_q_enabled S := rfl
theorem ge_q_enabled_nf {x : Bool} : e_q_enabled (s_nf S x) = e_q_enabled S := rfl
theorem ge_q_enabled_hf {x : Bool} : e_q_enabled (s_hf S x) = e_q_enabled S := rfl
theorem ge_q_enabled_cf {x : Bool} : e_q_enabled (s_cf S x) = e_q_enabled S := rfl
theorem ge_q_enabled_en {x : Bool} : e_q_enabled (s_en S x) = bI x := rfl
theorem ge_q_enabled_so {x : Bool} : e_q_enabled (s_so S x) = e_q_enabled S := rfl
theorem ge_q_enabled_co {x : Nat} : e_q_enabled (s_co S x) = e_q_enabled S := rfl
theorem ge_q_enabled_sc {x : Nat} : e_q_enabled (s_sc S x) = e_q_enabled S := rfl
theorem ge_q_soon_im {x : Nat → Nat} : e_q_soon (s_im S x) = e_q_soon S := rfl
theorem ge_q_soon_bk {x : Nat} : e_q_soon (s_bk S x) = e_q_soon S := rfl
theorem ge_q_soon_ra {x : Nat → Nat} : e_q_soon (s_ra S x) = e_q_soon S := rfl
theorem ge_q_soon_up {x : Nat → Nat} : e_q_soon (s_up S x) = e_q_soon S := rfl
theorem ge_q_soon_on {x : Bool} : e_q_soon (s_on S x) = e_q_soon S := rfl
theorem ge_q_soon_lo {x : Nat} : e_q_soon (s_lo S x) = e_q_soon S := rfl
theorem ge_q_soon_hi {x : Nat} : e_q_soon (s_hi S x) = e_q_soon S := rfl
theorem ge_q_soon_mo {x : Nat} : e_q_soon (s_mo S x) = e_q_soon S := rfl
theorem ge_q_soon_ma {x : Nat} : e_q_soon (s_ma S x) = e_q_soon S := rfl
theorem ge_q_soon_li {x : Nat} : e_q_soon (s_li S x) = e_q_soon S := rfl
theorem ge_q_soon_rg {x : Nat → Nat} : e_q_soon (s_rg S x) = e_q_soon S := rfl
theorem ge_q_soon_sb {x : Nat → Nat} : e_q_soon (s_sb S x) = e_q_soon S := rfl
theorem ge_q_soon_st {x : Nat} : e_q_soon (s_st S x) = e_q_soon S := rfl
theorem ge_q_soon_pl {x : Nat} : e_q_soon (s_pl S x) = e_q_soon S := rfl
theorem ge_q_soon_zf {x : Bool} : e_q_soon (s_zf S x) = e_q_soon S := rfl
theorem ge_q_soon_nf {x : Bool} : e_q_soon (s_nf S x) = e_q_soon S := rfl
theorem ge_q_soon_hf {x : Bool} : e_q_soon (s_hf S x) = e_q_soon S := rfl
theorem ge_q_soon_cf {x : Bool} : e_q_soon (s_cf S x) = e_q_soon S := rfl
theorem ge_q_soon_en {x : Bool} : e_q_soon (s_en S x) = e_q_soon S := rfl
theorem ge_q_soon_so {x : Bool} : e_q_soon (s_so S x) = bI x := rfl
theorem ge_q_soon_co {x : Nat} : e_q_soon (s_co S x) = e_q_soon S := rfl
theorem ge_q_soon_sc {x : Nat} : e_q_soon (s_sc S x) = e_q_soon S := rfl
theorem ge_q_ram_im {x : Nat → Nat} : e_q_ram (s_im S x) = e_q_ram S := rfl
theorem ge_q_ram_bk {x : Nat} : e_q_ram (s_bk S x) = e_q_ram S := rfl
theorem ge_q_ram_ra {x : Nat → Nat} : e_q_ram (s_ra S x) = e_q_ram S := rfl
theorem ge_q_ram_up {x : Nat → Nat} : e_q_ram (s_up S x) = e_q_ram S := rfl
theorem ge_q_ram_on {x : Bool} : e_q_ram (s_on S x) = bI x := rfl
theorem ge_q_ram_lo {x : Nat} : e_q_ram (s_lo S x) = e_q_ram S := rfl
theorem ge_q_ram_hi {x : Nat} : e_q_ram (s_hi S x) = e_q_ram S := rfl
theorem ge_q_ram_mo {x : Nat} : e_q_ram (s_mo S x) = e_q_ram S := rfl
theorem ge_q_ram_ma {x : Nat} : e_q_ram (s_ma S x) = e_q_ram S := rfl
theorem ge_q_ram_li {x : Nat} : e_q_ram (s_li S x) = e_q_ram S := rfl
theorem ge_q_ram_rg {x : Nat → Nat} : e_q_ram (s_rg S x) = e_q_ram S := rfl
theorem ge_q_ram_sb {x : Nat → Nat} : e_q_ram (s_sb S x) = e_q_ram S := rfl
theorem ge_q_ram_st {x : Nat} : e_q_ram (s_st S x) = e_q_ram S := rfl
theorem ge_q_ram_pl {x : Nat} : e_q_ram (s_pl S x) = e_q_ram S := rfl
theorem ge_q_ram_zf {x : Bool} : e_q_ram (s_zf S x) = e_q_ram S := rfl
theorem ge_q_ram_nf {x : Bool} : e_q_ram (s_nf S x) = e_q_ram S := rfl
theorem ge_q_ram_hf {x : Bool} : e_q_ram (s_hf S x) = e_q_ram S := rfl
theorem ge_q_ram_cf {x : Bool} : e_q_ram (s_cf S x) = e_q_ram S := rfl
theorem ge_q_ram_en {x : Bool} : e_q_ram (s_en S x) = e_q_ram S := rfl
theorem ge_q_ram_so {x : Bool} : e_q_ram (s_so S x) = e_q_ram S := rfl
theorem ge_q_ram_co {x : Nat} : e_q_ram (s_co S x) = e_q_ram S := rfl
theorem ge_q_ram_sc {x : Nat} : e_q_ram (s_sc S x) = e_q_ram S := rfl
theorem ge_q_low_im {x : Nat → Nat} : e_q_low (s_im S x) = e_q_low S := rfl
theorem ge_q_low_bk {x : Nat} : e_q_low (s_bk S x) = e_q_low S := rfl
theorem ge_q_low_ra {x : Nat → Nat} : e_q_low (s_ra S x) = e_q_low S := rfl
theorem ge_q_low_up {x : Nat → Nat} : e_q_low (s_up S x) = e_q_low S := rfl
theorem ge_q_low_on {x : Bool} : e_q_low (s_on S x) = e_q_low S := rfl
theorem ge_q_low_lo {x : Nat} : e_q_low (s_lo S x) = nI x := rfl
theorem ge_q_low_hi {x : Nat} : e_q_low (s_hi S x) = e_q_low S := rfl
theorem ge_q_low_mo {x : Nat} : e_q_low (s_mo S x) = e_q_low S := rfl
theorem ge_q_low_ma {x : Nat} : e_q_low (s_ma S x) = e_q_low S := rfl
theorem ge_q_low_li {x : Nat} : e_q_low (s_li S x) = e_q_low S := rfl
theorem ge_q_low_rg {x : Nat → Nat} : e_q_low (s_rg S x) = e_q_low S := rfl
theorem ge_q_low_sb {x : Nat → Nat} : e_q_low (s_sb S x) = e_q_low S := rfl
theorem ge_q_low_st {x : Nat} : e_q_low (s_st S x) = e_q_low S := rfl
theorem ge_q_low_pl {x : Nat} : e_q_low (s_pl S x) = e_q_low S := rfl
theorem ge_q_low_zf {x : Bool} : e_q_low (s_zf S x) = e_q_low S := rfl
theorem ge_q_low_nf {x : Bool} : e_q_low (s_nf S x) = e_q_low S := rfl
theorem ge_q_low_hf {x : Bool} : e_q_low (s_hf S x) = e_q_low S := rfl
theorem ge_q_low_cf {x : Bool} : e_q_low (s_cf S x) = e_q_low S := rfl
theorem ge_q_low_en {x : Bool} : e_q_low (s_en S x) = e_q_low S := rfl
theorem ge_q_low_so {x : Bool} : e_q_low (s_so S x) = e_q_low S := rfl
theorem ge_q_low_co {x : Nat} : e_q_low (s_co S x) = e_q_low S := rfl
theorem ge_q_low_sc {x : Nat} : e_q_low (s_sc S x) = e_q_low S := rfl
theorem ge_q_top_im {x : Nat → Nat} : e_q_top (s_im S x) = e_q_top S := rfl
theorem ge_q_top_bk {x : Nat} : e_q_top (s_bk S x) = e_q_top S := rfl
theorem ge_q_top_ra {x : Nat → Nat} : e_q_top (s_ra S x) = e_q_top S := rfl
theorem ge_q_top_up {x : Nat → Nat} : e_q_top (s_up S x) = e_q_top S := rfl
theorem ge_q_top_on {x : Bool} : e_q_top (s_on S x) = e_q_top S := rfl
theorem ge_q_top_lo {x : Nat} : e_q_top (s_lo S x) = e_q_top S := rfl
theorem ge_q_top_hi {x : Nat} : e_q_top (s_hi S x) = nI x := rfl
theorem ge_q_top_mo {x : Nat} : e_q_top (s_mo S x) = e_q_top S := rfl
theorem ge_q_top_ma {x : Nat} : e_q_top (s_ma S x) = e_q_top S := rfl
theorem ge_q_top_li {x : Nat} : e_q_top (s_li S x) = e_q_top S := rfl
theorem ge_q_top_rg {x : Nat → Nat} : e_q_top (s_rg S x) = e_q_top S := rfl
theorem ge_q_top_sb {x : Nat → Nat} : e_q_top (s_sb S x) = e_q_top S := rfl
theorem ge_q_top_st {x : Nat} : e_q_top (s_st S x) = e_q_top S := rfl
theorem ge_q_top_pl {x : Nat} : e_q_top (s_pl S x) = e_q_top S := rfl
theorem ge_q_top_zf {x : Bool} : e_q_top (s_zf S x) = e_q_top S := rfl
theorem ge_q_top_nf {x : Bool} : e_q_top (s_nf S x) = e_q_top S := rfl
theorem ge_q_top_hf {x : Bool} : e_q_top (s_hf S x) = e_q_top S := rfl
theorem ge_q_top_cf {x : Bool} : e_q_top (s_cf S x) = e_q_top S := rfl
theorem ge_q_top_en {x : Bool} : e_q_top (s_en S x) = e_q_top S := rfl
theorem ge_q_top_so {x : Bool} : e_q_top (s_so S x) = e_q_top S := rfl
theorem ge_q_top_co {x : Nat} : e_q_top (s_co S x) = e_q_top S := rfl
theorem ge_q_top_sc {x : Nat} : e_q_top (s_sc S x) = e_q_top S := rfl
theorem ge_q_mode_im {x : Nat → Nat} : e_q_mode (s_im S x) = e_q_mode S := rfl
theorem ge_q_mode_bk {x : Nat} : e_q_mode (s_bk S x) = e_q_mode S := rfl
theorem ge_q_mode_ra {x : Nat → Nat} : e_q_mode (s_ra S x) = e_q_mode S := rfl
theorem ge_q_mode_up {x : Nat → Nat} : e_q_mode (s_up S x) = e_q_mode S := rfl
theorem ge_q_mode_on {x : Bool} : e_q_mode (s_on S x) = e_q_mode S := rfl
theorem ge_q_mode_lo {x : Nat} : e_q_mode (s_lo S x) = e_q_mode S := rfl
theorem ge_q_mode_hi {x : Nat} : e_q_mode (s_hi S x) = e_q_mode S := rfl
theorem ge_q_mode_mo {x : Nat} : e_q_mode (s_mo S x) = nI x := rfl
theorem ge_q_mode_ma {x : Nat} : e_q_mode (s_ma S x) = e_q_mode S := rfl
theorem ge_q_mode_li {x : Nat} : e_q_mode (s_li S x) = e_q_mode S := rfl
theorem ge_q_mode_rg {x : Nat → Nat} : e_q_mode (s_rg S x) = e_q_mode S := rfl
theorem ge_q_mode_sb {x : Nat → Nat} : e_q_mode (s_sb S x) = e_q_mode S := rfl
theorem ge_q_mode_st {x : Nat} : e_q_mode (s_st S x) = e_q_mode S := rfl
theorem ge_q_mode_pl {x : Nat} : e_q_mode (s_pl S x) = e_q_mode S := rfl
theorem ge_q_mode_zf {x : Bool} : e_q_mode (s_zf S x) = e_q_mode S := rfl
theorem ge_q_mode_nf {x : Bool} : e_q_mode (s_nf S x) = e_q_mode S := rfl
theorem ge_q_mode_hf {x : Bool} : e_q_mode (s_hf S x) = e_q_mode S := rfl
theorem ge_q_mode_cf {x : Bool} : e_q_mode (s_cf S x) = e_q_mode S := rfl
theorem ge_q_mode_en {x : Bool} : e_q_mode (s_en S x) = e_q_mode S := rfl
theorem ge_q_mode_so {x : Bool} : e_q_mode (s_so S x) = e_q_mode S := rfl
theorem ge_q_mode_co {x : Nat} : e_q_mode (s_co S x) = e_q_mode S := rfl
theorem ge_q_mode_sc {x : Nat} : e_q_mode (s_sc S x) = e_q_mode S := rfl
theorem ge_q_state_im {x : Nat → Nat} : e_q_state (s_im S x) = e_q_state S := rfl
theorem ge_q_state_bk {x : Nat} : e_q_state (s_bk S x) = e_q_state S := rfl
theorem ge_q_state_ra {x : Nat → Nat} : e_q_state (s_ra S x) = e_q_state S := rfl
theorem ge_q_state_up {x : Nat → Nat} : e_q_state (s_up S x) = e_q_state S := rfl
theorem ge_q_state_on {x : Bool} : e_q_state (s_on S x) = e_q_state S := rfl
theorem ge_q_state_lo {x : Nat} : e_q_state (s_lo S x) = e_q_state S := rfl
theorem ge_q_state_hi {x : Nat} : e_q_state (s_hi S x) = e_q_state S := rfl
theorem ge_q_state_mo {x : Nat} : e_q_state (s_mo S x) = e_q_state S := rfl
theorem ge_q_state_ma {x : Nat} : e_q_state (s_ma S x) = e_q_state S := rfl
theorem ge_q_state_li {x : Nat} : e_q_state (s_li S x) = e_q_state S := rfl
theorem ge_q_state_rg {x : Nat → Nat} : e_q_state (s_rg S x) = e_q_state S := rfl
theorem ge_q_state_sb {x : Nat → Nat} : e_q_state (s_sb S x) = e_q_state S := rfl
theorem ge_q_state_st {x : Nat} : e_q_state (s_st S x) = e_q_state S := rfl
theorem ge_q_state_pl {x : Nat} : e_q_state (s_pl S x) = e_q_state S := rfl
theorem ge_q_state_zf {x : Bool} : e_q_state (s_zf S x) = e_q_state S := rfl
theorem ge_q_state_nf {x : Bool} : e_q_state (s_nf S x) = e_q_state S := rfl
theorem ge_q_state_hf {x : Bool} : e_q_state (s_hf S x) = e_q_state S := rfl
theorem ge_q_state_cf {x : Bool} : e_q_state (s_cf S x) = e_q_state S := rfl
theorem ge_q_state_en {x : Bool} : e_q_state (s_en S x) = e_q_state S := rfl
theorem ge_q_state_so {x : Bool} : e_q_state (s_so S x) = e_q_state S := rfl
theorem ge_q_state_co {x : Nat} : e_q_state (s_co S x) = nI x := rfl
theorem ge_q_state_sc {x : Nat} : e_q_state (s_sc S x) = e_q_state S := rfl
theorem ge_q_sent_im {x : Nat → Nat} : e_q_sent (s_im S x) = e_q_sent S := rfl
theorem ge_q_sent_bk {x : Nat} : e_q_sent (s_bk S x) = e_q_sent S := rfl
theorem ge_q_sent_ra {x : Nat → Nat} : e_q_sent (s_ra S x) = e_q_sent S := rfl
theorem ge_q_sent_up {x : Nat → Nat} : e_q_sent (s_up S x) = e_q_sent S := rfl
theorem ge_q_sent_on {x : Bool} : e_q_sent (s_on S x) = e_q_sent S := rfl
theorem ge_q_sent_lo {x : Nat} : e_q_sent (s_lo S x) = e_q_sent S := rfl
theorem ge_q_sent_hi {x : Nat} : e_q_sent (s_hi S x) = e_q_sent S := rfl
theorem ge_q_sent_mo {x : Nat} : e_q_sent (s_mo S x) = e_q_sent S := rfl
theorem ge_q_sent_ma {x : Nat} : e_q_sent (s_ma S x) = e_q_sent S := rfl
theorem ge_q_sent_li {x : Nat} : e_q_sent (s_li S x) = e_q_sent S := rfl
theorem ge_q_sent_rg {x : Nat → Nat} : e_q_sent (s_rg S x) = e_q_sent S := rfl
theorem ge_q_sent_sb {x : Nat → Nat} : e_q_sent (s_sb S x) = e_q_sent S := rfl
theorem ge_q_sent_st {x : Nat} : e_q_sent (s_st S x) = e_q_sent S := rfl
theorem ge_q_sent_pl {x : Nat} : e_q_sent (s_pl S x) = e_q_sent S := rfl
theorem ge_q_sent_zf {x : Bool} : e_q_sent (s_zf S x) = e_q_sent S := rfl
theorem ge_q_sent_nf {x : Bool} : e_q_sent (s_nf S x) = e_q_sent S := rfl
theorem ge_q_sent_hf {x : Bool} : e_q_sent (s_hf S x) = e_q_sent S := rfl
theorem ge_q_sent_cf {x : Bool} : e_q_sent (s_cf S x) = e_q_sent S := rfl
theorem ge_q_sent_en {x : Bool} : e_q_sent (s_en S x) = e_q_sent S := rfl
theorem ge_q_sent_so {x : Bool} : e_q_sent (s_so S x) = e_q_sent S := rfl
theorem ge_q_sent_co {x : Nat} : e_q_sent (s_co S x) = e_q_sent S := rfl
theorem ge_q_sent_sc {x : Nat} : e_q_sent (s_sc S x) = nI x := rfl
theorem ge_q_out_im {x : Nat → Nat} : e_q_out (s_im S x) = e_q_out S := rfl
theorem ge_q_out_bk {x : Nat} : e_q_out (s_bk S x) = e_q_out S := rfl
theorem ge_q_out_ra {x : Nat → Nat} : e_q_out (s_ra S x) = e_q_out S := rfl
theorem ge_q_out_up {x : Nat → Nat} : e_q_out (s_up S x) = e_q_out S := rfl
theorem ge_q_out_on {x : Bool} : e_q_out (s_on S x) = e_q_out S := rfl
theorem ge_q_out_lo {x : Nat} : e_q_out (s_lo S x) = e_q_out S := rfl
theorem ge_q_out_hi {x : Nat} : e_q_out (s_hi S x) = e_q_out S := rfl
theorem ge_q_out_mo {x : Nat} : e_q_out (s_mo S x) = e_q_out S := rfl
theorem ge_q_out_ma {x : Nat} : e_q_out (s_ma S x) = e_q_out S := rfl
theorem ge_q_out_li {x : Nat} : e_q_out (s_li S x) = e_q_out S := rfl
theorem ge_q_out_rg {x : Nat → Nat} : e_q_out (s_rg S x) = e_q_out S := rfl
theorem ge_q_out_sb {x : Nat → Nat} : e_q_out (s_sb S x) = fun j => nI (x j) := rfl
theorem ge_q_out_st {x : Nat} : e_q_out (s_st S x) = e_q_out S := rfl
theorem ge_q_out_pl {x : Nat} : e_q_out (s_pl S x) = e_q_out S := rfl
theorem ge_q_out_zf {x : Bool} : e_q_out (s_zf S x) = e_q_out S := rfl
theorem ge_q_out_nf {x : Bool} : e_q_out (s_nf S x) = e_q_out S := rfl
theorem ge_q_out_hf {x : Bool} : e_q_out (s_hf S x) = e_q_out S := rfl
theorem ge_q_out_cf {x : Bool} : e_q_out (s_cf S x) = e_q_out S := rfl
theorem ge_q_out_en {x : Bool} : e_q_out (s_en S x) = e_q_out S := rfl
theorem ge_q_out_so {x : Bool} : e_q_out (s_so S x) = e_q_out S := rfl
theorem ge_q_out_co {x : Nat} : e_q_out (s_co S x) = e_q_out S := rfl
theorem ge_q_out_sc {x : Nat} : e_q_out (s_sc S x) = e_q_out S := rfl
end GS
