/-! the law, for every run of calls -/
theorem fin2 {r cmp : Int32} {X : Prop} (hX : X) (hc : r = 0 → cmp = 0) : wp_Q_thrown r (fun q => (q = r → (¬ r = 0 → X) ∧ (r = 0 → (cmp = 0 → X) ∧ (¬ cmp = 0 → False))) ∧ (¬ q = r → False)) := ⟨fun _ => ⟨fun _ => hX, fun h => ⟨fun _ => hX, fun g => absurd (hc h) g⟩⟩, fun h => absurd rfl h⟩
theorem fin1 {r : Int32} {X : Prop} (hX : X) : wp_Q_thrown r (fun q => (q = r → X) ∧ (¬ q = r → False)) := ⟨fun _ => hX, fun h => absurd rfl h⟩
theorem nI_2 (a : Nat) : nI a + (2 : Int32) = nI (a + 2) := nI_add a 2
theorem nI_3 (a : Nat) : nI a + (3 : Int32) = nI (a + 3) := nI_add a 3
theorem law_x {L m : Nat} (hL : L < 1073741824) (hm : m < 1073741824) : ((Int32.ofNat L) - (3 : Int32) < nI m) ↔ L < m + 3 := by
  rw [Int32.lt_iff_toInt_lt, show (Int32.ofNat L) = nI L from rfl, show (3 : Int32) = nI 3 from rfl, pk_sub_toInt hL (by omega), nti (by omega)]
  omega
theorem lk_sb (S : St) (f : Nat → Nat) (nb : Nat) : e_n_sb (lkS S f nb) = e_n_sb S := (rfl)
theorem lk_out (S : St) (f : Nat → Nat) (nb : Nat) : e_q_out (lkS S f nb) = e_q_out S := (rfl)
theorem xb_sb (S : St) : e_n_sb (xbegin S) = e_n_sb S := (rfl)
theorem xb_out (S : St) : e_q_out (xbegin S) = e_q_out S := (rfl)
theorem xb_ce (S : St) : e_k_ce (xbegin S) = e_k_ce S := (rfl)
theorem xb_bc (S : St) : e_k_bc (xbegin S) = e_k_bc S := (rfl)
theorem xb_qb (S : St) : e_q_banks (xbegin S) = e_q_banks S := (rfl)
theorem law_all {L : Nat} (hL : L ≤ 1536) {xs : Nat → Int32} : ∀ (n k : Nat) (S : St) (pn ln kd vl : Nat → Nat) (ct lk : Nat) (M : Pk) (l_bk : Nat → Int32) (l_of : Nat → Int32) (l_en : Nat → Int32) (t_bk : Nat → Int32) (t_of : Nat → Int32) (t_en : Nat → Int32) (t_ct : Int32) (q_code : Int32) (q_bank : Nat → Int32) (q_address : Nat → Int32) (q_full : Nat → Int32) (q_packedBank : Nat → Int32) (q_packedAddress : Nat → Int32) (o : Nat → Int64), 3 * k ≤ L → L < 3 * (k + n) → okS S → sok pn ln kd vl ct → lk ≤ 10 → (lk = 0 ↔ bk_ S = 0) → (¬ bk_ S = 0 → lnk S) → bk_ S ≤ 8 → lrel l_bk l_of q_packedBank q_packedAddress M lk → sc_ S ≤ 2000 * k → wp_law L xs n (pF pn) (nF ln) (nF kd) (nF vl) (nI ct) (e_k_ce S) (e_k_bc S) (e_m_ra S) (e_m_up S) (e_m_on S) (e_m_lo S) (e_m_hi S) (e_m_mo S) (e_m_ma S) (e_m_li S) (e_n_rg S) (e_n_sb S) (e_n_st S) (e_n_pl S) (e_n_z S) (e_n_n S) (e_n_h S) (e_n_c S) (e_n_en S) (e_n_so S) (e_n_co S) (e_n_sc S) l_bk l_of l_en (nI lk) t_bk t_of t_en t_ct q_code (nI ct) (pF pn) (nF ln) (nF vl) (nF kd) q_bank q_address q_full (nI lk) q_packedBank q_packedAddress (e_q_banks S) (e_q_memory S) (e_q_register S) (e_q_stack S) (e_q_place S) (e_q_zero S) (e_q_less S) (e_q_half S) (e_q_carry S) (e_q_enabled S) (e_q_soon S) (e_q_ram S) (e_q_low S) (e_q_top S) (e_q_mode S) (e_q_state S) (e_q_sent S) (e_q_out S) o (nI (3 * k)) := by
  intro n
  induction n with
  | zero => intros; omega
  | succ n ih =>
    intro k S pn ln kd vl ct lk M l_bk l_of l_en t_bk t_of t_en t_ct q_code q_bank q_address q_full q_packedBank q_packedAddress o h1 h2 hS hs hlk hz hl hb hr hc
    unfold wp_law
    rw [law_x (by omega) (by omega)]
    refine ⟨fun _ => trivial, fun hx => ?_⟩
    have H : 3 * (k + 1) ≤ L → ∀ (S : St) (pn ln kd vl : Nat → Nat) (ct lk : Nat) (M : Pk) (l_bk : Nat → Int32) (l_of : Nat → Int32) (l_en : Nat → Int32) (t_bk : Nat → Int32) (t_of : Nat → Int32) (t_en : Nat → Int32) (t_ct : Int32) (q_code : Int32) (q_bank : Nat → Int32) (q_address : Nat → Int32) (q_full : Nat → Int32) (q_packedBank : Nat → Int32) (q_packedAddress : Nat → Int32) (o : Nat → Int64), okS S → sok pn ln kd vl ct → lk ≤ 10 → (lk = 0 ↔ bk_ S = 0) → (¬ bk_ S = 0 → lnk S) → bk_ S ≤ 8 → lrel l_bk l_of q_packedBank q_packedAddress M lk → sc_ S ≤ 2000 * (k + 1) → wp_law L xs n (pF pn) (nF ln) (nF kd) (nF vl) (nI ct) (e_k_ce S) (e_k_bc S) (e_m_ra S) (e_m_up S) (e_m_on S) (e_m_lo S) (e_m_hi S) (e_m_mo S) (e_m_ma S) (e_m_li S) (e_n_rg S) (e_n_sb S) (e_n_st S) (e_n_pl S) (e_n_z S) (e_n_n S) (e_n_h S) (e_n_c S) (e_n_en S) (e_n_so S) (e_n_co S) (e_n_sc S) l_bk l_of l_en (nI lk) t_bk t_of t_en t_ct q_code (nI ct) (pF pn) (nF ln) (nF vl) (nF kd) q_bank q_address q_full (nI lk) q_packedBank q_packedAddress (e_q_banks S) (e_q_memory S) (e_q_register S) (e_q_stack S) (e_q_place S) (e_q_zero S) (e_q_less S) (e_q_half S) (e_q_carry S) (e_q_enabled S) (e_q_soon S) (e_q_ram S) (e_q_low S) (e_q_top S) (e_q_mode S) (e_q_state S) (e_q_sent S) (e_q_out S) o (nI (3 * k) + (3 : Int32)) := by
      intro g S pn ln kd vl ct lk M l_bk l_of l_en t_bk t_of t_en t_ct q_code q_bank q_address q_full q_packedBank q_packedAddress o a1 a2 a3 a4 a5 a6 a7 a8
      rw [nI_3]
      exact ih (k + 1) S pn ln kd vl ct lk M l_bk l_of l_en t_bk t_of t_en t_ct q_code q_bank q_address q_full q_packedBank q_packedAddress o g (by omega) a1 a2 a3 a4 a5 a6 a7 a8
    have H := H (by omega)
    have hc' : sc_ S ≤ 2000 * (k + 1) := by omega
    have v0 : vp_in (nI (3 * k)) L := vin (by omega) (by omega)
    have v1 : vp_in (nI (3 * k) + (1 : Int32)) L := by rw [nI_1]; exact vin (by omega) (by omega)
    have v2 : vp_in (nI (3 * k) + (2 : Int32)) L := by rw [nI_2]; exact vin (by omega) (by omega)
    refine ⟨v0, fun _ => ⟨v1, ?_⟩, fun _ => ⟨v1, v2, ?_⟩, fun _ => ⟨v1, v2, ?_⟩, fun _ => ?_, fun _ => ⟨v1, ?_⟩, fun _ => ⟨v1, v2, ?_⟩, fun _ => ⟨v1, ?_⟩, fun _ => ⟨v1, v2, ?_⟩, fun _ => ?_, fun _ => ?_, fun _ => ⟨v1, ?_⟩, fun _ => ⟨v1, ?_⟩, fun _ => ?_, fun _ => ⟨v1, ?_⟩, fun _ => ⟨v1, ?_⟩, fun _ => ?_, fun _ => ⟨v1, ?_⟩, fun _ _ _ _ _ _ _ _ _ _ _ _ _ _ _ _ _ => ?_⟩
    · exact pr_section hs v1 (fun pn' ln' ct' r rq o' hs' hcmp => fin2 (H S pn' ln' kd vl ct' lk M l_bk l_of l_en t_bk t_of t_en t_ct r q_bank q_address q_full q_packedBank q_packedAddress o' hS hs' hlk hz hl hb hr hc') hcmp)
    · exact pr_bytes hs v1 v2 (fun ln' kd' vl' r hs' => fin1 (H S pn ln' kd' vl' ct lk M l_bk l_of l_en t_bk t_of t_en t_ct r q_bank q_address q_full q_packedBank q_packedAddress o hS hs' hlk hz hl hb hr hc'))
    · exact pr_mended hs v1 v2 (fun ln' kd' vl' r hs' => fin1 (H S pn ln' kd' vl' ct lk M l_bk l_of l_en t_bk t_of t_en t_ct r q_bank q_address q_full q_packedBank q_packedAddress o hS hs' hlk hz hl hb hr hc'))
    · exact H S pn ln kd vl 0 lk M l_bk l_of l_en t_bk t_of t_en t_ct 0 q_bank q_address q_full q_packedBank q_packedAddress o hS ⟨hs.1, hs.2.1, hs.2.2.1, hs.2.2.2.1, by omega⟩ hlk hz hl hb hr hc'
    · refine pr_link (lk := lk) hS hs v1 (fun r u v w x y z t hr0 => ?_) (fun f nb M' rq u v w x y z pb pa o' hnb hc0 hf hrel hcmp => ?_)
      · exact fin2 (H S pn ln kd vl ct lk M l_bk l_of l_en u v w t r x y z q_packedBank q_packedAddress o hS hs hlk hz hl hb hr hc') (fun h => absurd h hr0)
      · have h := H (lkS S f nb) pn ln kd vl ct ct M' u v w l_bk l_of l_en (nI lk) 0 x y z pb pa o' (ok_lkS hS hf) hs hs.2.2.2.2 (by rw [bk_lkS]; omega) (fun _ => by unfold lnk; rw [bk_lkS]; exact hnb) (by rw [bk_lkS]; omega) hrel (by rw [sc_lkS]; omega)
        rw [lk_sb, lk_out] at h
        exact fin2 h (fun _ => hcmp)
    · exact pr_packed hlk hr v1 v2 (fun r rq o' hcmp => fin2 (H S pn ln kd vl ct lk M l_bk l_of l_en t_bk t_of t_en t_ct r q_bank q_address q_full q_packedBank q_packedAddress o' hS hs hlk hz hl hb hr hc') hcmp)
    · exact pr_image hb v1 (fun r rq o' hcmp => fin2 (H S pn ln kd vl ct lk M l_bk l_of l_en t_bk t_of t_en t_ct r q_bank q_address q_full q_packedBank q_packedAddress o' hS hs hlk hz hl hb hr hc') hcmp)
    · refine pr_spoil hb hS v1 v2 (fin1 (H S pn ln kd vl ct lk M l_bk l_of l_en t_bk t_of t_en t_ct 1 q_bank q_address q_full q_packedBank q_packedAddress o hS hs hlk hz hl hb hr hc')) (fun f hf => ?_)
      have h := H (s_im S f) pn ln kd vl ct lk M l_bk l_of l_en t_bk t_of t_en t_ct 0 q_bank q_address q_full q_packedBank q_packedAddress o ⟨hf, hS.2⟩ hs hlk (by rw [ga_bk_im]; exact hz) (by unfold lnk; rw [ga_bk_im]; exact hl) (by rw [ga_bk_im]; exact hb) hr (by rw [ga_sc_im]; exact hc')
      simp only [ge_k_bc_im, ge_m_ra_im, ge_m_up_im, ge_m_on_im, ge_m_lo_im, ge_m_hi_im, ge_m_mo_im, ge_m_ma_im, ge_m_li_im, ge_n_rg_im, ge_n_sb_im, ge_n_st_im, ge_n_pl_im, ge_n_z_im, ge_n_n_im, ge_n_h_im, ge_n_c_im, ge_n_en_im, ge_n_so_im, ge_n_co_im, ge_n_sc_im, ge_q_banks_im, ge_q_register_im, ge_q_stack_im, ge_q_place_im, ge_q_zero_im, ge_q_less_im, ge_q_half_im, ge_q_carry_im, ge_q_enabled_im, ge_q_soon_im, ge_q_ram_im, ge_q_low_im, ge_q_top_im, ge_q_mode_im, ge_q_state_im, ge_q_sent_im, ge_q_out_im] at h
      exact fin1 h
    · exact pr_valid hS hb hl hlk hz (fun r rq o' hcmp => fin2 (H S pn ln kd vl ct lk M l_bk l_of l_en t_bk t_of t_en t_ct r q_bank q_address q_full q_packedBank q_packedAddress o' hS hs hlk hz hl hb hr hc') hcmp)
    · refine sp_N_begin (S := S) ?_
      refine sp_Q_begin (S := S) (fun j _ => rfl) ?_
      have h := H (xbegin S) pn ln kd vl ct lk M l_bk l_of l_en t_bk t_of t_en t_ct 0 q_bank q_address q_full q_packedBank q_packedAddress o (ok_xbegin hS) hs hlk (by rw [xbg_bk]; exact hz) (by unfold lnk; rw [xbg_bk]; exact hl) (by rw [xbg_bk]; exact hb) hr (by rw [xbg_sc]; omega)
      rw [xb_sb, xb_out, xb_ce, xb_bc, xb_qb] at h
      exact h
    · refine pr_raise hS v1 (fin1 (H S pn ln kd vl ct lk M l_bk l_of l_en t_bk t_of t_en t_ct 1 q_bank q_address q_full q_packedBank q_packedAddress o hS hs hlk hz hl hb hr hc')) (fun v hv => ?_)
      have h := H (s_li S v) pn ln kd vl ct lk M l_bk l_of l_en t_bk t_of t_en t_ct 0 q_bank q_address q_full q_packedBank q_packedAddress o (ok_li hS hv) hs hlk (by rw [ga_bk_li]; exact hz) (by unfold lnk; rw [ga_bk_li]; exact hl) (by rw [ga_bk_li]; exact hb) hr (by rw [ga_sc_li]; exact hc')
      simp only [ge_k_ce_li, ge_k_bc_li, ge_m_ra_li, ge_m_up_li, ge_m_on_li, ge_m_lo_li, ge_m_hi_li, ge_m_mo_li, ge_m_ma_li, ge_n_rg_li, ge_n_sb_li, ge_n_st_li, ge_n_pl_li, ge_n_z_li, ge_n_n_li, ge_n_h_li, ge_n_c_li, ge_n_en_li, ge_n_so_li, ge_n_co_li, ge_n_sc_li, ge_q_banks_li, ge_q_register_li, ge_q_stack_li, ge_q_place_li, ge_q_zero_li, ge_q_less_li, ge_q_half_li, ge_q_carry_li, ge_q_enabled_li, ge_q_soon_li, ge_q_ram_li, ge_q_low_li, ge_q_top_li, ge_q_mode_li, ge_q_state_li, ge_q_sent_li, ge_q_out_li] at h
      exact fin1 h
    · refine pr_run hS hb hl hlk hz (by omega) v1 (fin2 (H S pn ln kd vl ct lk M l_bk l_of l_en t_bk t_of t_en t_ct 1 q_bank q_address q_full q_packedBank q_packedAddress o hS hs hlk hz hl hb hr hc') (fun h => absurd h (by decide))) (fun T rq o' hT him hbk hsc hcmp => ?_)
      have h := H T pn ln kd vl ct lk M l_bk l_of l_en t_bk t_of t_en t_ct 0 q_bank q_address q_full q_packedBank q_packedAddress o' hT hs hlk (by rw [hbk]; exact hz) (by unfold lnk; rw [hbk]; exact hl) (by rw [hbk]; exact hb) hr (by omega)
      rw [show e_k_ce T = e_k_ce S by unfold e_k_ce; rw [him], show e_k_bc T = e_k_bc S by unfold e_k_bc; rw [hbk], show e_q_banks T = e_q_banks S by unfold e_q_banks; rw [hbk]] at h
      exact fin2 h (fun _ => hcmp)
    · exact ⟨fun _ => H S pn ln kd vl ct lk M l_bk l_of l_en t_bk t_of t_en t_ct 0 q_bank q_address q_full q_packedBank q_packedAddress o hS hs hlk hz hl hb hr hc', fun h => absurd (show e_n_co S = e_q_state S from rfl) h⟩
    · exact pr_register hS hb hl hlk hz v1 (fun r rq o' hcmp => fin2 (H S pn ln kd vl ct lk M l_bk l_of l_en t_bk t_of t_en t_ct r q_bank q_address q_full q_packedBank q_packedAddress o' hS hs hlk hz hl hb hr hc') hcmp)
    · exact pr_peek hS hb hl hlk hz v1 (fun r rq o' hcmp => fin2 (H S pn ln kd vl ct lk M l_bk l_of l_en t_bk t_of t_en t_ct r q_bank q_address q_full q_packedBank q_packedAddress o' hS hs hlk hz hl hb hr hc') hcmp)
    · exact ⟨fun _ => H S pn ln kd vl ct lk M l_bk l_of l_en t_bk t_of t_en t_ct 0 q_bank q_address q_full q_packedBank q_packedAddress o hS hs hlk hz hl hb hr hc', fun h => absurd (show e_n_sc S = e_q_sent S from rfl) h⟩
    · exact pr_byteSent (by omega) v1 (fun r rq o' hcmp => fin2 (H S pn ln kd vl ct lk M l_bk l_of l_en t_bk t_of t_en t_ct r q_bank q_address q_full q_packedBank q_packedAddress o' hS hs hlk hz hl hb hr hc') hcmp)
    · exact H S pn ln kd vl ct lk M l_bk l_of l_en t_bk t_of t_en t_ct q_code q_bank q_address q_full q_packedBank q_packedAddress o hS hs hlk hz hl hb hr hc'

/-- nothing has been called yet -/
def S00 : St := ((fun _ => 0), 0, (fun _ => 0), (fun _ => 0), false, 0, 0, 0, 0, 0, (fun _ => 0), (fun _ => 0), 0, 0, false, false, false, false, false, false, 0, 0)
theorem z_nF : (fun _ => 0 : Nat → Int32) = nF (fun _ => 0) := rfl
theorem z_pF : (fun _ => 0 : Nat → Int32) = pF (fun _ => 0) := rfl
theorem ok_S00 : okS S00 := ⟨fun _ => (by decide : (0 : Nat) < 256), fun _ => (by decide : (0 : Nat) < 256), fun _ => (by decide : (0 : Nat) < 256), fun _ => (by decide : (0 : Nat) < 256), (by decide : (0 : Nat) < 4), (by decide : (0 : Nat) < 2), (by decide : (0 : Nat) < 2), (by decide : (0 : Nat) < 16), (by decide : (0 : Nat) < 16), (by decide : (0 : Nat) < 256), (by decide : (0 : Nat) < 256), (by decide : (0 : Nat) < 4)⟩
theorem pm_all {L : Nat} {xs : Nat → Int32} (hL : L ≤ 1536) : pm_ L xs := by
  unfold pm_
  refine sp_N_begin (S := S00) ?_
  refine sp_Q_begin (S := S00) (fun j hj => ?_) ?_
  · rw [e_mmj]
    unfold mm_
    rcases hj with h | h
    · rw [if_pos h]; rfl
    · rw [if_neg (by omega), if_neg (by omega), if_neg (by omega), if_neg (by omega), if_neg (by omega), if_neg (by omega)]; rfl
  refine ⟨513, Nat.le_refl _, ?_⟩
  have h := law_all hL (xs := xs) 513 0 (xbegin S00) (fun _ => 0) (fun _ => 0) (fun _ => 0) (fun _ => 0) 0 0 pk0 (fun _ => 0) (fun _ => 0) (fun _ => 0) (fun _ => 0) (fun _ => 0) (fun _ => 0) 0 0 (fun _ => 0) (fun _ => 0) (fun _ => 0) (fun _ => 0) (fun _ => 0) (fun _ => 0) (by omega) (by omega) (ok_xbegin ok_S00) ⟨fun _ => (by decide : (0 : Nat) ≤ 8), fun _ => (by decide : (0 : Nat) ≤ 48), fun _ => (by decide : (0 : Nat) ≤ 2), fun _ => (by decide : (0 : Nat) < 256), by decide⟩ (by decide) ⟨fun _ => rfl, fun _ => rfl⟩ (fun h => absurd rfl h) (by rw [xbg_bk]; exact (by decide : (0 : Nat) ≤ 8)) (fun j hj => absurd hj (by omega)) (by rw [xbg_sc]; omega)
  rw [xb_sb, xb_out, xb_ce, xb_bc, xb_qb] at h
  exact h
