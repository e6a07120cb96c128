/-! the machine's small steps -/
theorem sp_N_get {S : St} (hS : okS S) (hL : lnk S) {r : Nat} (hr : r < 8) {P : Int32 → Prop} (hP : P (nI (xget S r))) : wp_N_get (e_k_ce S) (e_k_bc S) (e_m_ra S) (e_m_up S) (e_m_on S) (e_m_lo S) (e_m_hi S) (e_m_mo S) (e_m_ma S) (e_m_li S) (e_n_rg S) (nI r) P := by
  unfold xget at hP
  refine bN2 (eqN (k := 6) rfl (by omega) (by omega)) (fun g => ?_) (fun g => ?_)
  · rw [if_neg g] at hP
    rw [clN (by omega)]
    exact ⟨vin hr (by omega), hP⟩
  · rw [if_pos g] at hP
    rw [s5]
    exact sp_M_read hS hL (hS.2.2.2.1 5) hP
theorem sp_N_set {S : St} (hS : okS S) {r v : Nat} (hr : r < 8) (hv : v < 256) {P : (Nat → Int32) → (Nat → Int32) → (Int32) → (Int32) → (Int32) → (Int32) → (Int32) → (Int32) → (Nat → Int32) → Prop} (hP : P (e_m_ra (xset S r v)) (e_m_up (xset S r v)) (e_m_on (xset S r v)) (e_m_lo (xset S r v)) (e_m_hi (xset S r v)) (e_m_mo (xset S r v)) (e_m_ma (xset S r v)) (e_m_li (xset S r v)) (e_n_rg (xset S r v))) : wp_N_set (e_m_ra S) (e_m_up S) (e_m_on S) (e_m_lo S) (e_m_hi S) (e_m_mo S) (e_m_ma S) (e_m_li S) (e_n_rg S) (nI r) (nI v) P := by
  unfold xset at hP
  refine bN2 (eqN (k := 6) rfl (by omega) (by omega)) (fun g => ?_) (fun g => ?_)
  · rw [if_neg g] at hP
    rw [clN (by omega), e_rg]
    exact ⟨vin hr (by omega), hP⟩
  · rw [if_pos g] at hP
    rw [s5]
    have hrg : e_n_rg (xwr S (rg_ S 5) v) = e_n_rg S := by
      unfold xwr
      repeat' split
      all_goals rfl
    rw [hrg] at hP
    exact sp_M_write hS (hS.2.2.2.1 5) hv hP
theorem pl1 {n : Nat} : (nI n + (1 : Int32)) &&& (255 : Int32) = nI ((n + 1) % 256) := by rw [nI_1, n255]
theorem pm1 {n : Nat} : (nI n - (1 : Int32)) &&& (255 : Int32) = nI ((n + 255) % 256) := by
  rw [li_1, nsub _ _ (by omega), n255]; congr 1; omega
theorem sp_N_next {S : St} (hS : okS S) (hL : lnk S) {P : Int32 → (Int32) → Prop} (hP : P (nI (xrd S (pl_ S))) (e_n_pl (xnx S))) : wp_N_next (e_k_ce S) (e_k_bc S) (e_m_ra S) (e_m_up S) (e_m_on S) (e_m_lo S) (e_m_hi S) (e_m_mo S) (e_m_ma S) (e_m_li S) (e_n_pl S)  P := by
  refine sp_M_read hS hL hS.2.2.2.2.2.2.2.2.2.2.1 ?_
  have e : (e_n_pl S + (1 : Int32)) &&& (255 : Int32) = e_n_pl (xnx S) := by
    unfold e_n_pl; rw [pl1, show pl_ (xnx S) = (pl_ S + 1) % 256 from rfl]
  rw [e]; exact hP
theorem sp_N_pull {S : St} (hS : okS S) (hL : lnk S) {P : Int32 → (Int32) → Prop} (hP : P (nI (xrd S (st_ S))) (e_n_st (xpop S))) : wp_N_pull (e_k_ce S) (e_k_bc S) (e_m_ra S) (e_m_up S) (e_m_on S) (e_m_lo S) (e_m_hi S) (e_m_mo S) (e_m_ma S) (e_m_li S) (e_n_st S)  P := by
  refine sp_M_read hS hL hS.2.2.2.2.2.2.2.2.2.1 ?_
  have e : (e_n_st S + (1 : Int32)) &&& (255 : Int32) = e_n_st (xpop S) := by
    unfold e_n_st; rw [pl1, show st_ (xpop S) = (st_ S + 1) % 256 from rfl]
  rw [e]; exact hP
theorem okS_st {S : St} (hS : okS S) {x : Nat} (h : x < 256) : okS (s_st S x) := by
  obtain ⟨h1, h2, h3, h4, h5, h6, h7, h8, h9, h10, h11, h12⟩ := hS
  exact ⟨h1, h2, h3, h4, h5, h6, h7, h8, h9, h, h11, h12⟩
theorem st_xwr (S : St) (a b : Nat) : st_ (xwr S a b) = st_ S := by
  unfold xwr
  repeat' split
  all_goals rfl
theorem sp_N_push {S : St} (hS : okS S) {v : Nat} (hv : v < 256) {P : (Nat → Int32) → (Nat → Int32) → (Int32) → (Int32) → (Int32) → (Int32) → (Int32) → (Int32) → (Int32) → Prop} (hP : P (e_m_ra (xpush S v)) (e_m_up (xpush S v)) (e_m_on (xpush S v)) (e_m_lo (xpush S v)) (e_m_hi (xpush S v)) (e_m_mo (xpush S v)) (e_m_ma (xpush S v)) (e_m_li (xpush S v)) (e_n_st (xpush S v))) : wp_N_push (e_m_ra S) (e_m_up S) (e_m_on S) (e_m_lo S) (e_m_hi S) (e_m_mo S) (e_m_ma S) (e_m_li S) (e_n_st S) (nI v) P := by
  unfold xpush at hP
  have e : (e_n_st S - (1 : Int32)) &&& (255 : Int32) = nI ((st_ S + 255) % 256) := by unfold e_n_st; exact pm1
  unfold wp_N_push
  rw [e]
  have hy : (st_ S + 255) % 256 < 256 := by omega
  generalize (st_ S + 255) % 256 = y at hP hy ⊢
  have e2 : e_n_st (xwr (s_st S y) y v) = nI y := by
    unfold e_n_st; rw [st_xwr, ga_st_st]
  rw [e2] at hP
  have key := sp_M_write (S := s_st S y) (okS_st hS hy) hy hv (P := fun w1 w2 w3 w4 w5 w6 w7 w8 => P w1 w2 w3 w4 w5 w6 w7 w8 (nI y)) hP
  simp only [ge_m_ra_st, ge_m_up_st, ge_m_on_st, ge_m_lo_st, ge_m_hi_st, ge_m_mo_st, ge_m_ma_st, ge_m_li_st] at key
  exact key
theorem sp_N_endAs {S : St} {k : Nat} {P : (Int32) → (Int32) → Prop} (hP : P (e_n_pl (xend S k)) (e_n_co (xend S k))) : wp_N_endAs (e_n_pl S) (e_n_co S) (nI k) P := by
  have e : (e_n_pl S - (1 : Int32)) &&& (255 : Int32) = e_n_pl (xend S k) := by
    unfold e_n_pl; rw [pm1, show pl_ (xend S k) = (pl_ S + 255) % 256 from rfl]
  unfold wp_N_endAs
  rw [e]; exact hP
theorem sp_N_send {S : St} (hc : sc_ S < 1073741824) {P : (Nat → Int32) → (Int32) → Prop} (hP : P (e_n_sb (xsend S)) (e_n_sc (xsend S))) : wp_N_send (e_n_sb S) (e_n_sc S) (nI (rg_ S 7)) P := by
  have e1 : nI (sc_ S) + (1 : Int32) = nI (sc_ S + 1) := nI_1 _
  have e3 : (nI (sc_ S)).toNatClampNeg = sc_ S := clN (by omega)
  have hsc : e_n_sc (xsend S) = nI (sc_ S + 1) := by unfold e_n_sc; rw [show sc_ (xsend S) = sc_ S + 1 from rfl]
  rw [hsc] at hP
  have c1 : ((100 : Int32) ≤ nI (sc_ S)) ↔ 100 ≤ sc_ S := geN rfl (by omega) (by omega)
  unfold wp_N_send e_n_sc
  rw [e1, e3]
  refine bI2 c1 (fun g => ?_) (fun g => ?_)
  · have hsb : e_n_sb (xsend S) = e_n_sb S := by unfold xsend; rw [if_neg (by omega)]; rfl
    rw [hsb] at hP; exact hP
  · have hsb : e_n_sb (xsend S) = upd (e_n_sb S) (sc_ S) (nI (rg_ S 7)) := by unfold xsend; rw [if_pos (by omega)]; exact (up_nI _ _ _).symm
    rw [hsb] at hP
    exact ⟨vin (by omega) (by omega), hP⟩
