/-! okS is kept; the small steps with the variables apart -/
section OK
variable {S : St}
theorem ok_pl (hS : okS S) {x : Nat} (h : x < 256) : okS (s_pl S x) := by
  obtain ⟨h1, h2, h3, h4, h5, h6, h7, h8, h9, h10, h11, h12⟩ := hS
  exact ⟨h1, h2, h3, h4, h5, h6, h7, h8, h9, h10, h, h12⟩
theorem ok_co (hS : okS S) {x : Nat} (h : x < 4) : okS (s_co S x) := by
  obtain ⟨h1, h2, h3, h4, h5, h6, h7, h8, h9, h10, h11, h12⟩ := hS
  exact ⟨h1, h2, h3, h4, h5, h6, h7, h8, h9, h10, h11, h⟩
theorem ok_en (hS : okS S) {x : Bool} : okS (s_en S x) := hS
theorem ok_so (hS : okS S) {x : Bool} : okS (s_so S x) := hS
theorem ok_on (hS : okS S) {x : Bool} : okS (s_on S x) := hS
theorem ok_sc (hS : okS S) {x : Nat} : okS (s_sc S x) := hS
theorem ok_sb (hS : okS S) {x : Nat → Nat} : okS (s_sb S x) := hS
theorem ok_lo (hS : okS S) {x : Nat} (h : x < 4) : okS (s_lo S x) := by
  obtain ⟨h1, h2, h3, h4, h5, h6, h7, h8, h9, h10, h11, h12⟩ := hS
  exact ⟨h1, h2, h3, h4, h, h6, h7, h8, h9, h10, h11, h12⟩
theorem ok_hi (hS : okS S) {x : Nat} (h : x < 2) : okS (s_hi S x) := by
  obtain ⟨h1, h2, h3, h4, h5, h6, h7, h8, h9, h10, h11, h12⟩ := hS
  exact ⟨h1, h2, h3, h4, h5, h, h7, h8, h9, h10, h11, h12⟩
theorem ok_mo (hS : okS S) {x : Nat} (h : x < 2) : okS (s_mo S x) := by
  obtain ⟨h1, h2, h3, h4, h5, h6, h7, h8, h9, h10, h11, h12⟩ := hS
  exact ⟨h1, h2, h3, h4, h5, h6, h, h8, h9, h10, h11, h12⟩
theorem ok_ma (hS : okS S) {x : Nat} (h : x < 16) : okS (s_ma S x) := by
  obtain ⟨h1, h2, h3, h4, h5, h6, h7, h8, h9, h10, h11, h12⟩ := hS
  exact ⟨h1, h2, h3, h4, h5, h6, h7, h, h9, h10, h11, h12⟩
theorem ok_li (hS : okS S) {x : Nat} (h : x < 16) : okS (s_li S x) := by
  obtain ⟨h1, h2, h3, h4, h5, h6, h7, h8, h9, h10, h11, h12⟩ := hS
  exact ⟨h1, h2, h3, h4, h5, h6, h7, h8, h, h10, h11, h12⟩
theorem fu_lt {f : Nat → Nat} {k x : Nat} (hf : ∀ j, f j < 256) (hx : x < 256) : ∀ j, fu f k x j < 256 := by
  intro j; unfold fu; split
  · exact hx
  · exact hf j
theorem ok_rg (hS : okS S) {k x : Nat} (h : x < 256) : okS (s_rg S (fu (rg_ S) k x)) := by
  obtain ⟨h1, h2, h3, h4, h5, h6, h7, h8, h9, h10, h11, h12⟩ := hS
  exact ⟨h1, h2, h3, fu_lt h4 h, h5, h6, h7, h8, h9, h10, h11, h12⟩
theorem ok_ra (hS : okS S) {k x : Nat} (h : x < 256) : okS (s_ra S (fu (ra_ S) k x)) := by
  obtain ⟨h1, h2, h3, h4, h5, h6, h7, h8, h9, h10, h11, h12⟩ := hS
  exact ⟨h1, fu_lt h2 h, h3, h4, h5, h6, h7, h8, h9, h10, h11, h12⟩
theorem ok_up (hS : okS S) {k x : Nat} (h : x < 256) : okS (s_up S (fu (up_ S) k x)) := by
  obtain ⟨h1, h2, h3, h4, h5, h6, h7, h8, h9, h10, h11, h12⟩ := hS
  exact ⟨h1, h2, fu_lt h3 h, h4, h5, h6, h7, h8, h9, h10, h11, h12⟩
theorem ok_zf (hS : okS S) {x : Bool} : okS (s_zf S x) := hS
theorem ok_nf (hS : okS S) {x : Bool} : okS (s_nf S x) := hS
theorem ok_hf (hS : okS S) {x : Bool} : okS (s_hf S x) := hS
theorem ok_cf (hS : okS S) {x : Bool} : okS (s_cf S x) := hS
theorem ok_xfl (hS : okS S) {z n h c : Bool} : okS (xfl S z n h c) := by unfold xfl; exact ok_zf (ok_nf (ok_hf (ok_cf hS)))
theorem ok_xnx (hS : okS S) : okS (xnx S) := by unfold xnx; exact ok_pl hS (by omega)
theorem ok_xpop (hS : okS S) : okS (xpop S) := by unfold xpop; exact okS_st hS (by omega)
theorem ok_xA (hS : okS S) {v : Nat} (h : v < 256) : okS (xA S v) := by unfold xA; exact ok_rg hS h
theorem ok_xend (hS : okS S) {k : Nat} (h : k < 4) : okS (xend S k) := by unfold xend; exact ok_pl (ok_co hS h) (by omega)
theorem ok_xsend (hS : okS S) : okS (xsend S) := by
  unfold xsend; split
  · exact ok_sc (ok_sb hS)
  · exact ok_sc hS
theorem ok_xwr (hS : okS S) {a b : Nat} (h : b < 256) : okS (xwr S a b) := by
  unfold xwr
  repeat' split
  · exact ok_on hS
  · exact ok_lo hS (by omega)
  · exact ok_lo hS (by omega)
  · exact ok_hi hS (by omega)
  · exact ok_mo hS (by omega)
  · exact ok_ra hS h
  · exact ok_ra hS h
  · exact hS
  · exact ok_up hS h
  · exact ok_ma hS (by omega)
  · exact ok_li hS (by omega)
theorem ok_xset (hS : okS S) {r v : Nat} (h : v < 256) : okS (xset S r v) := by
  unfold xset; split
  · exact ok_xwr hS h
  · exact ok_rg hS h
theorem ok_xpush (hS : okS S) {v : Nat} (h : v < 256) : okS (xpush S v) := by
  unfold xpush; exact ok_xwr (okS_st hS (by omega)) h
theorem xrd_lt (hS : okS S) (a : Nat) : xrd S a < 256 := by
  obtain ⟨h1, h2, h3, h4, h5, h6, h7, h8, h9, h10, h11, h12⟩ := hS
  unfold xrd
  split
  · exact h1 _
  split
  · exact h1 _
  split
  · split
    · exact h2 _
    · omega
  split
  · exact h3 _
  split
  · omega
  · omega
theorem xget_lt (hS : okS S) (r : Nat) : xget S r < 256 := by
  unfold xget; split
  · exact xrd_lt hS _
  · exact hS.2.2.2.1 r
theorem ln_ (hL : lnk S) {T : St} (h : bk_ T = bk_ S) : lnk T := by unfold lnk; rw [h]; exact hL
end OK
theorem sg_N_get {S : St} (hS : okS S) (hL : lnk S) {r : Nat} (hr : r < 8) {k_ce : Nat → Int32} {k_bc : Int32} {m_ra : Nat → Int32} {m_up : Nat → Int32} {m_on : Int32} {m_lo : Int32} {m_hi : Int32} {m_mo : Int32} {m_ma : Int32} {m_li : Int32} {n_rg : Nat → Int32} {P : Int32 → Prop} (hf : k_ce = e_k_ce S ∧ k_bc = e_k_bc S ∧ m_ra = e_m_ra S ∧ m_up = e_m_up S ∧ m_on = e_m_on S ∧ m_lo = e_m_lo S ∧ m_hi = e_m_hi S ∧ m_mo = e_m_mo S ∧ m_ma = e_m_ma S ∧ m_li = e_m_li S ∧ n_rg = e_n_rg S) (hP : P (nI (xget S r))) : wp_N_get k_ce k_bc m_ra m_up m_on m_lo m_hi m_mo m_ma m_li n_rg (nI r) P := by
  obtain ⟨rfl, rfl, rfl, rfl, rfl, rfl, rfl, rfl, rfl, rfl, rfl⟩ := hf
  exact sp_N_get hS hL hr hP
theorem sg_N_set {S : St} (hS : okS S) {r v : Nat} (hr : r < 8) (hv : v < 256) {m_ra : Nat → Int32} {m_up : Nat → Int32} {m_on : Int32} {m_lo : Int32} {m_hi : Int32} {m_mo : Int32} {m_ma : Int32} {m_li : Int32} {n_rg : Nat → Int32} {P : (Nat → Int32) → (Nat → Int32) → (Int32) → (Int32) → (Int32) → (Int32) → (Int32) → (Int32) → (Nat → Int32) → Prop} (hf : m_ra = e_m_ra S ∧ m_up = e_m_up S ∧ m_on = e_m_on S ∧ m_lo = e_m_lo S ∧ m_hi = e_m_hi S ∧ m_mo = e_m_mo S ∧ m_ma = e_m_ma S ∧ m_li = e_m_li S ∧ n_rg = e_n_rg S) (hP : P (e_m_ra (xset S r v)) (e_m_up (xset S r v)) (e_m_on (xset S r v)) (e_m_lo (xset S r v)) (e_m_hi (xset S r v)) (e_m_mo (xset S r v)) (e_m_ma (xset S r v)) (e_m_li (xset S r v)) (e_n_rg (xset S r v))) : wp_N_set m_ra m_up m_on m_lo m_hi m_mo m_ma m_li n_rg (nI r) (nI v) P := by
  obtain ⟨rfl, rfl, rfl, rfl, rfl, rfl, rfl, rfl, rfl⟩ := hf
  exact sp_N_set hS hr hv hP
theorem sg_N_next {S : St} (hS : okS S) (hL : lnk S) {k_ce : Nat → Int32} {k_bc : Int32} {m_ra : Nat → Int32} {m_up : Nat → Int32} {m_on : Int32} {m_lo : Int32} {m_hi : Int32} {m_mo : Int32} {m_ma : Int32} {m_li : Int32} {n_pl : Int32} {P : Int32 → (Int32) → Prop} (hf : k_ce = e_k_ce S ∧ k_bc = e_k_bc S ∧ m_ra = e_m_ra S ∧ m_up = e_m_up S ∧ m_on = e_m_on S ∧ m_lo = e_m_lo S ∧ m_hi = e_m_hi S ∧ m_mo = e_m_mo S ∧ m_ma = e_m_ma S ∧ m_li = e_m_li S ∧ n_pl = e_n_pl S) (hP : P (nI (xrd S (pl_ S))) (e_n_pl (xnx S))) : wp_N_next k_ce k_bc m_ra m_up m_on m_lo m_hi m_mo m_ma m_li n_pl  P := by
  obtain ⟨rfl, rfl, rfl, rfl, rfl, rfl, rfl, rfl, rfl, rfl, rfl⟩ := hf
  exact sp_N_next hS hL hP
theorem sg_N_pull {S : St} (hS : okS S) (hL : lnk S) {k_ce : Nat → Int32} {k_bc : Int32} {m_ra : Nat → Int32} {m_up : Nat → Int32} {m_on : Int32} {m_lo : Int32} {m_hi : Int32} {m_mo : Int32} {m_ma : Int32} {m_li : Int32} {n_st : Int32} {P : Int32 → (Int32) → Prop} (hf : k_ce = e_k_ce S ∧ k_bc = e_k_bc S ∧ m_ra = e_m_ra S ∧ m_up = e_m_up S ∧ m_on = e_m_on S ∧ m_lo = e_m_lo S ∧ m_hi = e_m_hi S ∧ m_mo = e_m_mo S ∧ m_ma = e_m_ma S ∧ m_li = e_m_li S ∧ n_st = e_n_st S) (hP : P (nI (xrd S (st_ S))) (e_n_st (xpop S))) : wp_N_pull k_ce k_bc m_ra m_up m_on m_lo m_hi m_mo m_ma m_li n_st  P := by
  obtain ⟨rfl, rfl, rfl, rfl, rfl, rfl, rfl, rfl, rfl, rfl, rfl⟩ := hf
  exact sp_N_pull hS hL hP
theorem sg_N_push {S : St} (hS : okS S) {v : Nat} (hv : v < 256) {m_ra : Nat → Int32} {m_up : Nat → Int32} {m_on : Int32} {m_lo : Int32} {m_hi : Int32} {m_mo : Int32} {m_ma : Int32} {m_li : Int32} {n_st : Int32} {P : (Nat → Int32) → (Nat → Int32) → (Int32) → (Int32) → (Int32) → (Int32) → (Int32) → (Int32) → (Int32) → Prop} (hf : m_ra = e_m_ra S ∧ m_up = e_m_up S ∧ m_on = e_m_on S ∧ m_lo = e_m_lo S ∧ m_hi = e_m_hi S ∧ m_mo = e_m_mo S ∧ m_ma = e_m_ma S ∧ m_li = e_m_li S ∧ n_st = e_n_st S) (hP : P (e_m_ra (xpush S v)) (e_m_up (xpush S v)) (e_m_on (xpush S v)) (e_m_lo (xpush S v)) (e_m_hi (xpush S v)) (e_m_mo (xpush S v)) (e_m_ma (xpush S v)) (e_m_li (xpush S v)) (e_n_st (xpush S v))) : wp_N_push m_ra m_up m_on m_lo m_hi m_mo m_ma m_li n_st (nI v) P := by
  obtain ⟨rfl, rfl, rfl, rfl, rfl, rfl, rfl, rfl, rfl⟩ := hf
  exact sp_N_push hS hv hP
theorem sg_N_endAs {S : St} {k : Nat} {n_pl : Int32} {n_co : Int32} {P : (Int32) → (Int32) → Prop} (hf : n_pl = e_n_pl S ∧ n_co = e_n_co S) (hP : P (e_n_pl (xend S k)) (e_n_co (xend S k))) : wp_N_endAs n_pl n_co (nI k) P := by
  obtain ⟨rfl, rfl⟩ := hf
  exact sp_N_endAs  hP
theorem sg_N_send {S : St} (hc : sc_ S < 1073741824) {n_sb : Nat → Int32} {n_sc : Int32} {P : (Nat → Int32) → (Int32) → Prop} (hf : n_sb = e_n_sb S ∧ n_sc = e_n_sc S) (hP : P (e_n_sb (xsend S)) (e_n_sc (xsend S))) : wp_N_send n_sb n_sc (nI (rg_ S 7)) P := by
  obtain ⟨rfl, rfl⟩ := hf
  exact sp_N_send hc hP
theorem sg_N_calculate {S : St} (hS : okS S) {k b : Nat} (hk : k < 8) (hb : b < 256) {n_rg : Nat → Int32} {n_z : Int32} {n_n : Int32} {n_h : Int32} {n_c : Int32} {P : (Nat → Int32) → (Int32) → (Int32) → (Int32) → (Int32) → Prop} (hf : n_rg = e_n_rg S ∧ n_z = e_n_z S ∧ n_n = e_n_n S ∧ n_h = e_n_h S ∧ n_c = e_n_c S) (hP : P (e_n_rg (xcalc S k b)) (e_n_z (xcalc S k b)) (e_n_n (xcalc S k b)) (e_n_h (xcalc S k b)) (e_n_c (xcalc S k b))) : wp_N_calculate n_rg n_z n_n n_h n_c (nI k) (nI b) P := by
  obtain ⟨rfl, rfl, rfl, rfl, rfl⟩ := hf
  exact sp_N_calculate hS hk hb hP
theorem sg_N_adjust {S : St} (hS : okS S) {n_rg : Nat → Int32} {n_z : Int32} {n_n : Int32} {n_h : Int32} {n_c : Int32} {P : (Nat → Int32) → (Int32) → (Int32) → (Int32) → (Int32) → Prop} (hf : n_rg = e_n_rg S ∧ n_z = e_n_z S ∧ n_n = e_n_n S ∧ n_h = e_n_h S ∧ n_c = e_n_c S) (hP : P (e_n_rg (xadj S)) (e_n_z (xadj S)) (e_n_n (xadj S)) (e_n_h (xadj S)) (e_n_c (xadj S))) : wp_N_adjust n_rg n_z n_n n_h n_c  P := by
  obtain ⟨rfl, rfl, rfl, rfl, rfl⟩ := hf
  exact sp_N_adjust hS hP
theorem sg_M_read {S : St} (hS : okS S) (hL : lnk S) {a : Nat} (ha : a < 256) {k_ce : Nat → Int32} {k_bc : Int32} {m_ra : Nat → Int32} {m_up : Nat → Int32} {m_on : Int32} {m_lo : Int32} {m_hi : Int32} {m_mo : Int32} {m_ma : Int32} {m_li : Int32} {P : Int32 → Prop} (hf : k_ce = e_k_ce S ∧ k_bc = e_k_bc S ∧ m_ra = e_m_ra S ∧ m_up = e_m_up S ∧ m_on = e_m_on S ∧ m_lo = e_m_lo S ∧ m_hi = e_m_hi S ∧ m_mo = e_m_mo S ∧ m_ma = e_m_ma S ∧ m_li = e_m_li S) (hP : P (nI (xrd S a))) : wp_M_read k_ce k_bc m_ra m_up m_on m_lo m_hi m_mo m_ma m_li (nI a) P := by
  obtain ⟨rfl, rfl, rfl, rfl, rfl, rfl, rfl, rfl, rfl, rfl⟩ := hf
  exact sp_M_read hS hL ha hP
