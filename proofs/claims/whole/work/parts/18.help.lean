/-! the helpers of the law: what they answer when the desk returns or throws -/
theorem vi_0_1 : vp_in (0 : Int32) 1 := by unfold vp_in; decide
set_option maxRecDepth 100000 in
set_option maxHeartbeats 4000000 in
theorem c_L_section {l : Launch} {D : va_G} {ad : Nat → Nat} {s_bk s_ln s_kd s_vl : Nat → Int32} {s_ct : Int32} {k_ce : Nat → Int32} {k_bc : Int32} {m_ra m_up : Nat → Int32} {m_on m_lo m_hi m_mo m_ma m_li : Int32} {n_rg n_sb : Nat → Int32} {n_st n_pl n_z n_n n_h n_c n_en n_so n_co n_sc : Int32} {l_bk l_of l_en : Nat → Int32} {l_ct : Int32} {t_bk t_of t_en : Nat → Int32} {t_ct : Int32} {ho : Nat} {o : Nat → Int64} {a1 : Int32} {P : Int32 → (Nat → Int32) → (Nat → Int32) → (Int32) → (Nat → Int64) → Prop} (hl0 : l.stackTraces = false) (hw : wp_D_section s_bk s_ln s_ct a1 (fun r w0 w1 w2 => P (0 : Int32) w0 w1 w2 (vp_updL o (0 : Int32).toNatClampNeg r.toInt64)) (fun z w0 w1 w2 => (z = 1 ∧ P (1 : Int32) w0 w1 w2 o) ∨ (z = 2 ∧ P (2 : Int32) w0 w1 w2 o))) : cth_ l yL_section bL_section 4 [(0, 9, 12, 13), (0, 9, 15, 15)] 7 111 D ad [.ref (ad 0), .int a1, .ref ho] ((ho, .inl (ad 98, 1, .inr (.inl o))) :: (wC ad s_bk s_ln s_kd s_vl s_ct k_ce k_bc m_ra m_up m_on m_lo m_hi m_mo m_ma m_li n_rg n_sb n_st n_pl n_z n_n n_h n_c n_en n_so n_co n_sc l_bk l_of l_en l_ct t_bk t_of t_en t_ct)) (qi_ D (fun (r : Int32) (u : (Nat → Int32) × (Nat → Int32) × (Int32) × (Nat → Int64)) => P r u.1 u.2.1 u.2.2.1 u.2.2.2) (fun u => (ho, .inl (ad 98, 1, .inr (.inl u.2.2.2))) :: (wC ad u.1 u.2.1 s_kd s_vl u.2.2.1 k_ce k_bc m_ra m_up m_on m_lo m_hi m_mo m_ma m_li n_rg n_sb n_st n_pl n_z n_n n_h n_c n_en n_so n_co n_sc l_bk l_of l_en l_ct t_bk t_of t_en t_ct))) := by
  refine cth_of RL (by decide) rfl (Nat.le_of_ble_eq_true rfl) (fun G hl hD X hq => ?_)
  subst hl hD
  show go_ G 0 0 ((ho, .inl (ad 98, 1, .inr (.inl o))) :: (wC ad s_bk s_ln s_kd s_vl s_ct k_ce k_bc m_ra m_up m_on m_lo m_hi m_mo m_ma m_li n_rg n_sb n_st n_pl n_z n_n n_h n_c n_en n_so n_co n_sc l_bk l_of l_en l_ct t_bk t_of t_en t_ct)) 0 [(0, .ref (ad 0)), (1, .int a1), (2, .ref ho)] []
  refine go_aload_n X 2 dL_section_0 rfl rfl ?_
  refine go_iconst X dL_section_1 kc_i0 ?_
  refine go_aload_n X 0 dL_section_2 rfl rfl ?_
  refine go_iload_n X 1 dL_section_3 rfl rfl ?_
  refine go_fxi (wc := (wC ad s_bk s_ln s_kd s_vl s_ct k_ce k_bc m_ra m_up m_on m_lo m_hi m_mo m_ma m_li n_rg n_sb n_st n_pl n_z n_n n_h n_c n_en n_so n_co n_sc l_bk l_of l_en l_ct t_bk t_of t_en t_ct)) (wr := [(ho, .inl (ad 98, 1, .inr (.inl o)))]) X (c_D_section hl0 hw) me_D_section (wT1 229 rfl rfl) ⟨by decide, by decide⟩ [1, 2, 3, 4, 5, 6, 7, 8, 9, 10, 11, 12, 13, 14, 15, 16, 17, 18, 19, 20, 21, 22] [0] rfl rfl (by decide) (by decide) (by decide) 0 rfl rfl rfl (Nat.le_of_ble_eq_true rfl) ⟨by rw [hq.2.2.2.2.1]; decide, by rw [hq.2.2.2.2.2]; decide⟩ dL_section_4 (fun r u hw => ?_) (fun z u hw => ?_)
  · refine go_i2l X dL_section_7 ?_
    refine go_last (ws' := (ho, .inl (ad 98, 1, .inr (.inl (vp_updL o (0 : Int32).toNatClampNeg r.toInt64)))) :: (wC ad u.1 u.2.1 s_kd s_vl u.2.2 k_ce k_bc m_ra m_up m_on m_lo m_hi m_mo m_ma m_li n_rg n_sb n_st n_pl n_z n_n n_h n_c n_en n_so n_co n_sc l_bk l_of l_en l_ct t_bk t_of t_en t_ct)) X 0 rfl vi_0_1 rfl dL_section_8 ?_
    refine go_goto X dL_section_9 rfl ?_
    refine go_iconst X dL_section_18 kc_i0 ?_
    exact go_irh X hq dL_section_19 (u.1, u.2.1, u.2.2, (vp_updL o (0 : Int32).toNatClampNeg r.toInt64)) hw rfl
  · rcases hw with ⟨rfl, hw⟩ | ⟨rfl, hw⟩
    · refine gx_catch X [] ⟨0, 9, 12, 13⟩ [⟨0, 9, 15, 15⟩] hq.2.2.2.1 (fun y hy => absurd hy List.not_mem_nil) (by decide) (by decide) (wT1 227 rfl rfl) (by decide +kernel) (fun q => ?_)
      refine go_astore_n X dL_section_12 rfl (by decide) rfl ?_
      refine go_iconst X dL_section_13 kc_i1 ?_
      exact go_irh X hq dL_section_14 (u.1, u.2.1, u.2.2, o) hw rfl
    · refine gx_catch X [⟨0, 9, 12, 13⟩] ⟨0, 9, 15, 15⟩ [] hq.2.2.2.1 (fun y hy => by
        simp only [List.mem_cons, List.not_mem_nil, or_false] at hy
        rcases hy with rfl
        exact Or.inr ⟨by decide, "java/lang/IllegalArgumentException", (wT1 227 rfl rfl), (cx_F X).2.2.2.2.2.1⟩) (by decide) (by decide) (wT1 228 rfl rfl) (by decide +kernel) (fun q => ?_)
      refine go_astore_n X dL_section_15 rfl (by decide) rfl ?_
      refine go_iconst X dL_section_16 kc_i2 ?_
      exact go_irh X hq dL_section_17 (u.1, u.2.1, u.2.2, o) hw rfl
set_option maxRecDepth 100000 in
set_option maxHeartbeats 4000000 in
theorem c_L_bytes {l : Launch} {D : va_G} {ad : Nat → Nat} {s_bk s_ln s_kd s_vl : Nat → Int32} {s_ct : Int32} {k_ce : Nat → Int32} {k_bc : Int32} {m_ra m_up : Nat → Int32} {m_on m_lo m_hi m_mo m_ma m_li : Int32} {n_rg n_sb : Nat → Int32} {n_st n_pl n_z n_n n_h n_c n_en n_so n_co n_sc : Int32} {l_bk l_of l_en : Nat → Int32} {l_ct : Int32} {t_bk t_of t_en : Nat → Int32} {t_ct : Int32} {ho : Nat} {o : Nat → Int64} {a1 a2 : Int32} {P : Int32 → (Nat → Int32) → (Nat → Int32) → (Nat → Int32) → (Nat → Int64) → Prop} (hl0 : l.stackTraces = false) (hw : wp_D_bytes s_ln s_kd s_vl s_ct a1 a2 (fun w0 w1 w2 => P (0 : Int32) w0 w1 w2 o) (fun z w0 w1 w2 => (z = 1 ∧ P (1 : Int32) w0 w1 w2 o) ∨ (z = 2 ∧ P (2 : Int32) w0 w1 w2 o))) : cth_ l yL_bytes bL_bytes 4 [(0, 6, 9, 13), (0, 6, 12, 15)] 7 113 D ad [.ref (ad 0), .int a1, .int a2] ((ho, .inl (ad 98, 1, .inr (.inl o))) :: (wC ad s_bk s_ln s_kd s_vl s_ct k_ce k_bc m_ra m_up m_on m_lo m_hi m_mo m_ma m_li n_rg n_sb n_st n_pl n_z n_n n_h n_c n_en n_so n_co n_sc l_bk l_of l_en l_ct t_bk t_of t_en t_ct)) (qi_ D (fun (r : Int32) (u : (Nat → Int32) × (Nat → Int32) × (Nat → Int32) × (Nat → Int64)) => P r u.1 u.2.1 u.2.2.1 u.2.2.2) (fun u => (ho, .inl (ad 98, 1, .inr (.inl u.2.2.2))) :: (wC ad s_bk u.1 u.2.1 u.2.2.1 s_ct k_ce k_bc m_ra m_up m_on m_lo m_hi m_mo m_ma m_li n_rg n_sb n_st n_pl n_z n_n n_h n_c n_en n_so n_co n_sc l_bk l_of l_en l_ct t_bk t_of t_en t_ct))) := by
  refine cth_of RL (by decide) rfl (Nat.le_of_ble_eq_true rfl) (fun G hl hD X hq => ?_)
  subst hl hD
  show go_ G 0 0 ((ho, .inl (ad 98, 1, .inr (.inl o))) :: (wC ad s_bk s_ln s_kd s_vl s_ct k_ce k_bc m_ra m_up m_on m_lo m_hi m_mo m_ma m_li n_rg n_sb n_st n_pl n_z n_n n_h n_c n_en n_so n_co n_sc l_bk l_of l_en l_ct t_bk t_of t_en t_ct)) 0 [(0, .ref (ad 0)), (1, .int a1), (2, .int a2)] []
  refine go_aload_n X 0 dL_bytes_0 rfl rfl ?_
  refine go_iload_n X 1 dL_bytes_1 rfl rfl ?_
  refine go_iload_n X 2 dL_bytes_2 rfl rfl ?_
  refine go_fxv (wc := (wC ad s_bk s_ln s_kd s_vl s_ct k_ce k_bc m_ra m_up m_on m_lo m_hi m_mo m_ma m_li n_rg n_sb n_st n_pl n_z n_n n_h n_c n_en n_so n_co n_sc l_bk l_of l_en l_ct t_bk t_of t_en t_ct)) (wr := [(ho, .inl (ad 98, 1, .inr (.inl o)))]) X (c_D_bytes hl0 hw) me_D_bytes (wT2 78 rfl rfl) ⟨by decide, by decide⟩ [1, 2, 3, 4, 5, 6, 7, 8, 9, 10, 11, 12, 13, 14, 15, 16, 17, 18, 19, 20, 21, 22] [0] rfl rfl (by decide) (by decide) (by decide) 0 rfl rfl rfl (Nat.le_of_ble_eq_true rfl) ⟨by rw [hq.2.2.2.2.1]; decide, by rw [hq.2.2.2.2.2]; decide⟩ dL_bytes_3 (fun u hw => ?_) (fun z u hw => ?_)
  · refine go_goto X dL_bytes_6 rfl ?_
    refine go_iconst X dL_bytes_15 kc_i0 ?_
    exact go_irh X hq dL_bytes_16 (u.1, u.2.1, u.2.2, o) hw rfl
  · rcases hw with ⟨rfl, hw⟩ | ⟨rfl, hw⟩
    · refine gx_catch X [] ⟨0, 6, 9, 13⟩ [⟨0, 6, 12, 15⟩] hq.2.2.2.1 (fun y hy => absurd hy List.not_mem_nil) (by decide) (by decide) (wT1 227 rfl rfl) (by decide +kernel) (fun q => ?_)
      refine go_astore_n X dL_bytes_9 rfl (by decide) rfl ?_
      refine go_iconst X dL_bytes_10 kc_i1 ?_
      exact go_irh X hq dL_bytes_11 (u.1, u.2.1, u.2.2, o) hw rfl
    · refine gx_catch X [⟨0, 6, 9, 13⟩] ⟨0, 6, 12, 15⟩ [] hq.2.2.2.1 (fun y hy => by
        simp only [List.mem_cons, List.not_mem_nil, or_false] at hy
        rcases hy with rfl
        exact Or.inr ⟨by decide, "java/lang/IllegalArgumentException", (wT1 227 rfl rfl), (cx_F X).2.2.2.2.2.1⟩) (by decide) (by decide) (wT1 228 rfl rfl) (by decide +kernel) (fun q => ?_)
      refine go_astore_n X dL_bytes_12 rfl (by decide) rfl ?_
      refine go_iconst X dL_bytes_13 kc_i2 ?_
      exact go_irh X hq dL_bytes_14 (u.1, u.2.1, u.2.2, o) hw rfl
set_option maxRecDepth 100000 in
set_option maxHeartbeats 4000000 in
theorem c_L_mended {l : Launch} {D : va_G} {ad : Nat → Nat} {s_bk s_ln s_kd s_vl : Nat → Int32} {s_ct : Int32} {k_ce : Nat → Int32} {k_bc : Int32} {m_ra m_up : Nat → Int32} {m_on m_lo m_hi m_mo m_ma m_li : Int32} {n_rg n_sb : Nat → Int32} {n_st n_pl n_z n_n n_h n_c n_en n_so n_co n_sc : Int32} {l_bk l_of l_en : Nat → Int32} {l_ct : Int32} {t_bk t_of t_en : Nat → Int32} {t_ct : Int32} {ho : Nat} {o : Nat → Int64} {a1 a2 : Int32} {P : Int32 → (Nat → Int32) → (Nat → Int32) → (Nat → Int32) → (Nat → Int64) → Prop} (hl0 : l.stackTraces = false) (hw : wp_D_mended s_ln s_kd s_vl s_ct a1 a2 (fun w0 w1 w2 => P (0 : Int32) w0 w1 w2 o) (fun z w0 w1 w2 => (z = 1 ∧ P (1 : Int32) w0 w1 w2 o) ∨ (z = 2 ∧ P (2 : Int32) w0 w1 w2 o))) : cth_ l yL_mended bL_mended 4 [(0, 6, 9, 13), (0, 6, 12, 15)] 7 113 D ad [.ref (ad 0), .int a1, .int a2] ((ho, .inl (ad 98, 1, .inr (.inl o))) :: (wC ad s_bk s_ln s_kd s_vl s_ct k_ce k_bc m_ra m_up m_on m_lo m_hi m_mo m_ma m_li n_rg n_sb n_st n_pl n_z n_n n_h n_c n_en n_so n_co n_sc l_bk l_of l_en l_ct t_bk t_of t_en t_ct)) (qi_ D (fun (r : Int32) (u : (Nat → Int32) × (Nat → Int32) × (Nat → Int32) × (Nat → Int64)) => P r u.1 u.2.1 u.2.2.1 u.2.2.2) (fun u => (ho, .inl (ad 98, 1, .inr (.inl u.2.2.2))) :: (wC ad s_bk u.1 u.2.1 u.2.2.1 s_ct k_ce k_bc m_ra m_up m_on m_lo m_hi m_mo m_ma m_li n_rg n_sb n_st n_pl n_z n_n n_h n_c n_en n_so n_co n_sc l_bk l_of l_en l_ct t_bk t_of t_en t_ct))) := by
  refine cth_of RL (by decide) rfl (Nat.le_of_ble_eq_true rfl) (fun G hl hD X hq => ?_)
  subst hl hD
  show go_ G 0 0 ((ho, .inl (ad 98, 1, .inr (.inl o))) :: (wC ad s_bk s_ln s_kd s_vl s_ct k_ce k_bc m_ra m_up m_on m_lo m_hi m_mo m_ma m_li n_rg n_sb n_st n_pl n_z n_n n_h n_c n_en n_so n_co n_sc l_bk l_of l_en l_ct t_bk t_of t_en t_ct)) 0 [(0, .ref (ad 0)), (1, .int a1), (2, .int a2)] []
  refine go_aload_n X 0 dL_mended_0 rfl rfl ?_
  refine go_iload_n X 1 dL_mended_1 rfl rfl ?_
  refine go_iload_n X 2 dL_mended_2 rfl rfl ?_
  refine go_fxv (wc := (wC ad s_bk s_ln s_kd s_vl s_ct k_ce k_bc m_ra m_up m_on m_lo m_hi m_mo m_ma m_li n_rg n_sb n_st n_pl n_z n_n n_h n_c n_en n_so n_co n_sc l_bk l_of l_en l_ct t_bk t_of t_en t_ct)) (wr := [(ho, .inl (ad 98, 1, .inr (.inl o)))]) X (c_D_mended hl0 hw) me_D_mended (wT2 93 rfl rfl) ⟨by decide, by decide⟩ [1, 2, 3, 4, 5, 6, 7, 8, 9, 10, 11, 12, 13, 14, 15, 16, 17, 18, 19, 20, 21, 22] [0] rfl rfl (by decide) (by decide) (by decide) 0 rfl rfl rfl (Nat.le_of_ble_eq_true rfl) ⟨by rw [hq.2.2.2.2.1]; decide, by rw [hq.2.2.2.2.2]; decide⟩ dL_mended_3 (fun u hw => ?_) (fun z u hw => ?_)
  · refine go_goto X dL_mended_6 rfl ?_
    refine go_iconst X dL_mended_15 kc_i0 ?_
    exact go_irh X hq dL_mended_16 (u.1, u.2.1, u.2.2, o) hw rfl
  · rcases hw with ⟨rfl, hw⟩ | ⟨rfl, hw⟩
    · refine gx_catch X [] ⟨0, 6, 9, 13⟩ [⟨0, 6, 12, 15⟩] hq.2.2.2.1 (fun y hy => absurd hy List.not_mem_nil) (by decide) (by decide) (wT1 227 rfl rfl) (by decide +kernel) (fun q => ?_)
      refine go_astore_n X dL_mended_9 rfl (by decide) rfl ?_
      refine go_iconst X dL_mended_10 kc_i1 ?_
      exact go_irh X hq dL_mended_11 (u.1, u.2.1, u.2.2, o) hw rfl
    · refine gx_catch X [⟨0, 6, 9, 13⟩] ⟨0, 6, 12, 15⟩ [] hq.2.2.2.1 (fun y hy => by
        simp only [List.mem_cons, List.not_mem_nil, or_false] at hy
        rcases hy with rfl
        exact Or.inr ⟨by decide, "java/lang/IllegalArgumentException", (wT1 227 rfl rfl), (cx_F X).2.2.2.2.2.1⟩) (by decide) (by decide) (wT1 228 rfl rfl) (by decide +kernel) (fun q => ?_)
      refine go_astore_n X dL_mended_12 rfl (by decide) rfl ?_
      refine go_iconst X dL_mended_13 kc_i2 ?_
      exact go_irh X hq dL_mended_14 (u.1, u.2.1, u.2.2, o) hw rfl
set_option maxRecDepth 100000 in
set_option maxHeartbeats 4000000 in
theorem c_L_link {l : Launch} {D : va_G} {ad : Nat → Nat} {s_bk s_ln s_kd s_vl : Nat → Int32} {s_ct : Int32} {k_ce : Nat → Int32} {k_bc : Int32} {m_ra m_up : Nat → Int32} {m_on m_lo m_hi m_mo m_ma m_li : Int32} {n_rg n_sb : Nat → Int32} {n_st n_pl n_z n_n n_h n_c n_en n_so n_co n_sc : Int32} {l_bk l_of l_en : Nat → Int32} {l_ct : Int32} {t_bk t_of t_en : Nat → Int32} {t_ct : Int32} {ho : Nat} {o : Nat → Int64} {a1 : Int32} {P : Int32 → (Nat → Int32) → (Int32) → (Nat → Int32) → (Nat → Int32) → (Int32) → (Int32) → (Int32) → (Int32) → (Int32) → (Int32) → (Nat → Int32) → (Int32) → (Int32) → (Int32) → (Int32) → (Int32) → (Int32) → (Int32) → (Int32) → (Int32) → (Int32) → (Nat → Int32) → (Nat → Int32) → (Nat → Int32) → (Int32) → (Nat → Int32) → (Nat → Int32) → (Nat → Int32) → (Int32) → (Nat → Int64) → Prop} (hl0 : l.stackTraces = false) (hw : wp_D_link s_bk s_ln s_kd s_vl s_ct k_ce k_bc m_ra m_up m_on m_lo m_hi m_mo m_ma m_li n_rg n_st n_pl n_z n_n n_h n_c n_en n_so n_co n_sc l_bk l_of l_en l_ct t_bk t_of t_en t_ct a1 (fun r w0 w1 w2 w3 w4 w5 w6 w7 w8 w9 w10 w11 w12 w13 w14 w15 w16 w17 w18 w19 w20 w21 w22 w23 w24 w25 w26 w27 w28 => P (0 : Int32) w0 w1 w2 w3 w4 w5 w6 w7 w8 w9 w10 w11 w12 w13 w14 w15 w16 w17 w18 w19 w20 w21 w22 w23 w24 w25 w26 w27 w28 (vp_updL o (0 : Int32).toNatClampNeg r.toInt64)) (fun z w0 w1 w2 w3 w4 w5 w6 w7 w8 w9 w10 w11 w12 w13 w14 w15 w16 w17 w18 w19 w20 w21 w22 w23 w24 w25 w26 w27 w28 => (z = 1 ∧ P (1 : Int32) w0 w1 w2 w3 w4 w5 w6 w7 w8 w9 w10 w11 w12 w13 w14 w15 w16 w17 w18 w19 w20 w21 w22 w23 w24 w25 w26 w27 w28 o) ∨ (z = 3 ∧ P (2 : Int32) w0 w1 w2 w3 w4 w5 w6 w7 w8 w9 w10 w11 w12 w13 w14 w15 w16 w17 w18 w19 w20 w21 w22 w23 w24 w25 w26 w27 w28 o) ∨ (z = 2 ∧ P (3 : Int32) w0 w1 w2 w3 w4 w5 w6 w7 w8 w9 w10 w11 w12 w13 w14 w15 w16 w17 w18 w19 w20 w21 w22 w23 w24 w25 w26 w27 w28 o))) : cth_ l yL_link bL_link 4 [(0, 9, 12, 13), (0, 9, 15, 27), (0, 9, 18, 15)] 7 116 D ad [.ref (ad 0), .int a1, .ref ho] ((ho, .inl (ad 98, 1, .inr (.inl o))) :: (wC ad s_bk s_ln s_kd s_vl s_ct k_ce k_bc m_ra m_up m_on m_lo m_hi m_mo m_ma m_li n_rg n_sb n_st n_pl n_z n_n n_h n_c n_en n_so n_co n_sc l_bk l_of l_en l_ct t_bk t_of t_en t_ct)) (qi_ D (fun (r : Int32) (u : (Nat → Int32) × (Int32) × (Nat → Int32) × (Nat → Int32) × (Int32) × (Int32) × (Int32) × (Int32) × (Int32) × (Int32) × (Nat → Int32) × (Int32) × (Int32) × (Int32) × (Int32) × (Int32) × (Int32) × (Int32) × (Int32) × (Int32) × (Int32) × (Nat → Int32) × (Nat → Int32) × (Nat → Int32) × (Int32) × (Nat → Int32) × (Nat → Int32) × (Nat → Int32) × (Int32) × (Nat → Int64) × Bool) => P r u.1 u.2.1 u.2.2.1 u.2.2.2.1 u.2.2.2.2.1 u.2.2.2.2.2.1 u.2.2.2.2.2.2.1 u.2.2.2.2.2.2.2.1 u.2.2.2.2.2.2.2.2.1 u.2.2.2.2.2.2.2.2.2.1 u.2.2.2.2.2.2.2.2.2.2.1 u.2.2.2.2.2.2.2.2.2.2.2.1 u.2.2.2.2.2.2.2.2.2.2.2.2.1 u.2.2.2.2.2.2.2.2.2.2.2.2.2.1 u.2.2.2.2.2.2.2.2.2.2.2.2.2.2.1 u.2.2.2.2.2.2.2.2.2.2.2.2.2.2.2.1 u.2.2.2.2.2.2.2.2.2.2.2.2.2.2.2.2.1 u.2.2.2.2.2.2.2.2.2.2.2.2.2.2.2.2.2.1 u.2.2.2.2.2.2.2.2.2.2.2.2.2.2.2.2.2.2.1 u.2.2.2.2.2.2.2.2.2.2.2.2.2.2.2.2.2.2.2.1 u.2.2.2.2.2.2.2.2.2.2.2.2.2.2.2.2.2.2.2.2.1 u.2.2.2.2.2.2.2.2.2.2.2.2.2.2.2.2.2.2.2.2.2.1 u.2.2.2.2.2.2.2.2.2.2.2.2.2.2.2.2.2.2.2.2.2.2.1 u.2.2.2.2.2.2.2.2.2.2.2.2.2.2.2.2.2.2.2.2.2.2.2.1 u.2.2.2.2.2.2.2.2.2.2.2.2.2.2.2.2.2.2.2.2.2.2.2.2.1 u.2.2.2.2.2.2.2.2.2.2.2.2.2.2.2.2.2.2.2.2.2.2.2.2.2.1 u.2.2.2.2.2.2.2.2.2.2.2.2.2.2.2.2.2.2.2.2.2.2.2.2.2.2.1 u.2.2.2.2.2.2.2.2.2.2.2.2.2.2.2.2.2.2.2.2.2.2.2.2.2.2.2.1 u.2.2.2.2.2.2.2.2.2.2.2.2.2.2.2.2.2.2.2.2.2.2.2.2.2.2.2.2.1 u.2.2.2.2.2.2.2.2.2.2.2.2.2.2.2.2.2.2.2.2.2.2.2.2.2.2.2.2.2.1) (fun u => (ho, .inl (ad 98, 1, .inr (.inl u.2.2.2.2.2.2.2.2.2.2.2.2.2.2.2.2.2.2.2.2.2.2.2.2.2.2.2.2.2.1))) :: (wC (if u.2.2.2.2.2.2.2.2.2.2.2.2.2.2.2.2.2.2.2.2.2.2.2.2.2.2.2.2.2.2 then sw_ ad else ad) s_bk s_ln s_kd s_vl s_ct u.1 u.2.1 u.2.2.1 u.2.2.2.1 u.2.2.2.2.1 u.2.2.2.2.2.1 u.2.2.2.2.2.2.1 u.2.2.2.2.2.2.2.1 u.2.2.2.2.2.2.2.2.1 u.2.2.2.2.2.2.2.2.2.1 u.2.2.2.2.2.2.2.2.2.2.1 n_sb u.2.2.2.2.2.2.2.2.2.2.2.1 u.2.2.2.2.2.2.2.2.2.2.2.2.1 u.2.2.2.2.2.2.2.2.2.2.2.2.2.1 u.2.2.2.2.2.2.2.2.2.2.2.2.2.2.1 u.2.2.2.2.2.2.2.2.2.2.2.2.2.2.2.1 u.2.2.2.2.2.2.2.2.2.2.2.2.2.2.2.2.1 u.2.2.2.2.2.2.2.2.2.2.2.2.2.2.2.2.2.1 u.2.2.2.2.2.2.2.2.2.2.2.2.2.2.2.2.2.2.1 u.2.2.2.2.2.2.2.2.2.2.2.2.2.2.2.2.2.2.2.1 u.2.2.2.2.2.2.2.2.2.2.2.2.2.2.2.2.2.2.2.2.1 u.2.2.2.2.2.2.2.2.2.2.2.2.2.2.2.2.2.2.2.2.2.1 u.2.2.2.2.2.2.2.2.2.2.2.2.2.2.2.2.2.2.2.2.2.2.1 u.2.2.2.2.2.2.2.2.2.2.2.2.2.2.2.2.2.2.2.2.2.2.2.1 u.2.2.2.2.2.2.2.2.2.2.2.2.2.2.2.2.2.2.2.2.2.2.2.2.1 u.2.2.2.2.2.2.2.2.2.2.2.2.2.2.2.2.2.2.2.2.2.2.2.2.2.1 u.2.2.2.2.2.2.2.2.2.2.2.2.2.2.2.2.2.2.2.2.2.2.2.2.2.2.1 u.2.2.2.2.2.2.2.2.2.2.2.2.2.2.2.2.2.2.2.2.2.2.2.2.2.2.2.1 u.2.2.2.2.2.2.2.2.2.2.2.2.2.2.2.2.2.2.2.2.2.2.2.2.2.2.2.2.1))) := by
  refine cth_of RL (by decide) rfl (Nat.le_of_ble_eq_true rfl) (fun G hl hD X hq => ?_)
  subst hl hD
  show go_ G 0 0 ((ho, .inl (ad 98, 1, .inr (.inl o))) :: (wC ad s_bk s_ln s_kd s_vl s_ct k_ce k_bc m_ra m_up m_on m_lo m_hi m_mo m_ma m_li n_rg n_sb n_st n_pl n_z n_n n_h n_c n_en n_so n_co n_sc l_bk l_of l_en l_ct t_bk t_of t_en t_ct)) 0 [(0, .ref (ad 0)), (1, .int a1), (2, .ref ho)] []
  refine go_aload_n X 2 dL_link_0 rfl rfl ?_
  refine go_iconst X dL_link_1 kc_i0 ?_
  refine go_aload_n X 0 dL_link_2 rfl rfl ?_
  refine go_iload_n X 1 dL_link_3 rfl rfl ?_
  refine go_fxi (wc := (wC ad s_bk s_ln s_kd s_vl s_ct k_ce k_bc m_ra m_up m_on m_lo m_hi m_mo m_ma m_li n_rg n_sb n_st n_pl n_z n_n n_h n_c n_en n_so n_co n_sc l_bk l_of l_en l_ct t_bk t_of t_en t_ct)) (wr := [(ho, .inl (ad 98, 1, .inr (.inl o)))]) X (c_D_link hl0 hw) me_D_link (wT2 101 rfl rfl) ⟨by decide, by decide⟩ [1, 2, 3, 4, 5, 6, 7, 8, 9, 10, 11, 12, 13, 14, 15, 16, 17, 18, 19, 20, 21, 22] [0] rfl rfl (by decide) (by decide) (by decide) 0 rfl rfl rfl (Nat.le_of_ble_eq_true rfl) ⟨by rw [hq.2.2.2.2.1]; decide, by rw [hq.2.2.2.2.2]; decide⟩ dL_link_4 (fun r u hw => ?_) (fun z u hw => ?_)
  · refine go_i2l X dL_link_7 ?_
    refine go_last (ws' := (ho, .inl (ad 98, 1, .inr (.inl (vp_updL o (0 : Int32).toNatClampNeg r.toInt64)))) :: (wC (sw_ ad) s_bk s_ln s_kd s_vl s_ct u.1 u.2.1 u.2.2.1 u.2.2.2.1 u.2.2.2.2.1 u.2.2.2.2.2.1 u.2.2.2.2.2.2.1 u.2.2.2.2.2.2.2.1 u.2.2.2.2.2.2.2.2.1 u.2.2.2.2.2.2.2.2.2.1 u.2.2.2.2.2.2.2.2.2.2.1 n_sb u.2.2.2.2.2.2.2.2.2.2.2.1 u.2.2.2.2.2.2.2.2.2.2.2.2.1 u.2.2.2.2.2.2.2.2.2.2.2.2.2.1 u.2.2.2.2.2.2.2.2.2.2.2.2.2.2.1 u.2.2.2.2.2.2.2.2.2.2.2.2.2.2.2.1 u.2.2.2.2.2.2.2.2.2.2.2.2.2.2.2.2.1 u.2.2.2.2.2.2.2.2.2.2.2.2.2.2.2.2.2.1 u.2.2.2.2.2.2.2.2.2.2.2.2.2.2.2.2.2.2.1 u.2.2.2.2.2.2.2.2.2.2.2.2.2.2.2.2.2.2.2.1 u.2.2.2.2.2.2.2.2.2.2.2.2.2.2.2.2.2.2.2.2.1 u.2.2.2.2.2.2.2.2.2.2.2.2.2.2.2.2.2.2.2.2.2.1 u.2.2.2.2.2.2.2.2.2.2.2.2.2.2.2.2.2.2.2.2.2.2.1 u.2.2.2.2.2.2.2.2.2.2.2.2.2.2.2.2.2.2.2.2.2.2.2.1 u.2.2.2.2.2.2.2.2.2.2.2.2.2.2.2.2.2.2.2.2.2.2.2.2.1 u.2.2.2.2.2.2.2.2.2.2.2.2.2.2.2.2.2.2.2.2.2.2.2.2.2.1 u.2.2.2.2.2.2.2.2.2.2.2.2.2.2.2.2.2.2.2.2.2.2.2.2.2.2.1 u.2.2.2.2.2.2.2.2.2.2.2.2.2.2.2.2.2.2.2.2.2.2.2.2.2.2.2.1 u.2.2.2.2.2.2.2.2.2.2.2.2.2.2.2.2.2.2.2.2.2.2.2.2.2.2.2.2)) X 0 rfl vi_0_1 rfl dL_link_8 ?_
    refine go_goto X dL_link_9 rfl ?_
    refine go_iconst X dL_link_21 kc_i0 ?_
    exact go_irh X hq dL_link_22 (u.1, u.2.1, u.2.2.1, u.2.2.2.1, u.2.2.2.2.1, u.2.2.2.2.2.1, u.2.2.2.2.2.2.1, u.2.2.2.2.2.2.2.1, u.2.2.2.2.2.2.2.2.1, u.2.2.2.2.2.2.2.2.2.1, u.2.2.2.2.2.2.2.2.2.2.1, u.2.2.2.2.2.2.2.2.2.2.2.1, u.2.2.2.2.2.2.2.2.2.2.2.2.1, u.2.2.2.2.2.2.2.2.2.2.2.2.2.1, u.2.2.2.2.2.2.2.2.2.2.2.2.2.2.1, u.2.2.2.2.2.2.2.2.2.2.2.2.2.2.2.1, u.2.2.2.2.2.2.2.2.2.2.2.2.2.2.2.2.1, u.2.2.2.2.2.2.2.2.2.2.2.2.2.2.2.2.2.1, u.2.2.2.2.2.2.2.2.2.2.2.2.2.2.2.2.2.2.1, u.2.2.2.2.2.2.2.2.2.2.2.2.2.2.2.2.2.2.2.1, u.2.2.2.2.2.2.2.2.2.2.2.2.2.2.2.2.2.2.2.2.1, u.2.2.2.2.2.2.2.2.2.2.2.2.2.2.2.2.2.2.2.2.2.1, u.2.2.2.2.2.2.2.2.2.2.2.2.2.2.2.2.2.2.2.2.2.2.1, u.2.2.2.2.2.2.2.2.2.2.2.2.2.2.2.2.2.2.2.2.2.2.2.1, u.2.2.2.2.2.2.2.2.2.2.2.2.2.2.2.2.2.2.2.2.2.2.2.2.1, u.2.2.2.2.2.2.2.2.2.2.2.2.2.2.2.2.2.2.2.2.2.2.2.2.2.1, u.2.2.2.2.2.2.2.2.2.2.2.2.2.2.2.2.2.2.2.2.2.2.2.2.2.2.1, u.2.2.2.2.2.2.2.2.2.2.2.2.2.2.2.2.2.2.2.2.2.2.2.2.2.2.2.1, u.2.2.2.2.2.2.2.2.2.2.2.2.2.2.2.2.2.2.2.2.2.2.2.2.2.2.2.2, (vp_updL o (0 : Int32).toNatClampNeg r.toInt64), true) hw rfl
  · rcases hw with ⟨rfl, hw⟩ | ⟨rfl, hw⟩ | ⟨rfl, hw⟩
    · refine gx_catch X [] ⟨0, 9, 12, 13⟩ [⟨0, 9, 15, 27⟩, ⟨0, 9, 18, 15⟩] hq.2.2.2.1 (fun y hy => absurd hy List.not_mem_nil) (by decide) (by decide) (wT1 227 rfl rfl) (by decide +kernel) (fun q => ?_)
      refine go_astore_n X dL_link_12 rfl (by decide) rfl ?_
      refine go_iconst X dL_link_13 kc_i1 ?_
      exact go_irh X hq dL_link_14 (u.1, u.2.1, u.2.2.1, u.2.2.2.1, u.2.2.2.2.1, u.2.2.2.2.2.1, u.2.2.2.2.2.2.1, u.2.2.2.2.2.2.2.1, u.2.2.2.2.2.2.2.2.1, u.2.2.2.2.2.2.2.2.2.1, u.2.2.2.2.2.2.2.2.2.2.1, u.2.2.2.2.2.2.2.2.2.2.2.1, u.2.2.2.2.2.2.2.2.2.2.2.2.1, u.2.2.2.2.2.2.2.2.2.2.2.2.2.1, u.2.2.2.2.2.2.2.2.2.2.2.2.2.2.1, u.2.2.2.2.2.2.2.2.2.2.2.2.2.2.2.1, u.2.2.2.2.2.2.2.2.2.2.2.2.2.2.2.2.1, u.2.2.2.2.2.2.2.2.2.2.2.2.2.2.2.2.2.1, u.2.2.2.2.2.2.2.2.2.2.2.2.2.2.2.2.2.2.1, u.2.2.2.2.2.2.2.2.2.2.2.2.2.2.2.2.2.2.2.1, u.2.2.2.2.2.2.2.2.2.2.2.2.2.2.2.2.2.2.2.2.1, u.2.2.2.2.2.2.2.2.2.2.2.2.2.2.2.2.2.2.2.2.2.1, u.2.2.2.2.2.2.2.2.2.2.2.2.2.2.2.2.2.2.2.2.2.2.1, u.2.2.2.2.2.2.2.2.2.2.2.2.2.2.2.2.2.2.2.2.2.2.2.1, u.2.2.2.2.2.2.2.2.2.2.2.2.2.2.2.2.2.2.2.2.2.2.2.2.1, u.2.2.2.2.2.2.2.2.2.2.2.2.2.2.2.2.2.2.2.2.2.2.2.2.2.1, u.2.2.2.2.2.2.2.2.2.2.2.2.2.2.2.2.2.2.2.2.2.2.2.2.2.2.1, u.2.2.2.2.2.2.2.2.2.2.2.2.2.2.2.2.2.2.2.2.2.2.2.2.2.2.2.1, u.2.2.2.2.2.2.2.2.2.2.2.2.2.2.2.2.2.2.2.2.2.2.2.2.2.2.2.2, o, false) hw rfl
    · refine gx_catch X [⟨0, 9, 12, 13⟩] ⟨0, 9, 15, 27⟩ [⟨0, 9, 18, 15⟩] hq.2.2.2.1 (fun y hy => by
        simp only [List.mem_cons, List.not_mem_nil, or_false] at hy
        rcases hy with rfl
        exact Or.inr ⟨by decide, "java/lang/IllegalArgumentException", (wT1 227 rfl rfl), (cx_F X).2.2.2.2.2.2.1⟩) (by decide) (by decide) (wT2 100 rfl rfl) (by decide +kernel) (fun q => ?_)
      refine go_astore_n X dL_link_15 rfl (by decide) rfl ?_
      refine go_iconst X dL_link_16 kc_i2 ?_
      exact go_irh X hq dL_link_17 (u.1, u.2.1, u.2.2.1, u.2.2.2.1, u.2.2.2.2.1, u.2.2.2.2.2.1, u.2.2.2.2.2.2.1, u.2.2.2.2.2.2.2.1, u.2.2.2.2.2.2.2.2.1, u.2.2.2.2.2.2.2.2.2.1, u.2.2.2.2.2.2.2.2.2.2.1, u.2.2.2.2.2.2.2.2.2.2.2.1, u.2.2.2.2.2.2.2.2.2.2.2.2.1, u.2.2.2.2.2.2.2.2.2.2.2.2.2.1, u.2.2.2.2.2.2.2.2.2.2.2.2.2.2.1, u.2.2.2.2.2.2.2.2.2.2.2.2.2.2.2.1, u.2.2.2.2.2.2.2.2.2.2.2.2.2.2.2.2.1, u.2.2.2.2.2.2.2.2.2.2.2.2.2.2.2.2.2.1, u.2.2.2.2.2.2.2.2.2.2.2.2.2.2.2.2.2.2.1, u.2.2.2.2.2.2.2.2.2.2.2.2.2.2.2.2.2.2.2.1, u.2.2.2.2.2.2.2.2.2.2.2.2.2.2.2.2.2.2.2.2.1, u.2.2.2.2.2.2.2.2.2.2.2.2.2.2.2.2.2.2.2.2.2.1, u.2.2.2.2.2.2.2.2.2.2.2.2.2.2.2.2.2.2.2.2.2.2.1, u.2.2.2.2.2.2.2.2.2.2.2.2.2.2.2.2.2.2.2.2.2.2.2.1, u.2.2.2.2.2.2.2.2.2.2.2.2.2.2.2.2.2.2.2.2.2.2.2.2.1, u.2.2.2.2.2.2.2.2.2.2.2.2.2.2.2.2.2.2.2.2.2.2.2.2.2.1, u.2.2.2.2.2.2.2.2.2.2.2.2.2.2.2.2.2.2.2.2.2.2.2.2.2.2.1, u.2.2.2.2.2.2.2.2.2.2.2.2.2.2.2.2.2.2.2.2.2.2.2.2.2.2.2.1, u.2.2.2.2.2.2.2.2.2.2.2.2.2.2.2.2.2.2.2.2.2.2.2.2.2.2.2.2, o, false) hw rfl
    · refine gx_catch X [⟨0, 9, 12, 13⟩, ⟨0, 9, 15, 27⟩] ⟨0, 9, 18, 15⟩ [] hq.2.2.2.1 (fun y hy => by
        simp only [List.mem_cons, List.not_mem_nil, or_false] at hy
        rcases hy with rfl | rfl
        · exact Or.inr ⟨by decide, "java/lang/IllegalArgumentException", (wT1 227 rfl rfl), (cx_F X).2.2.2.2.2.1⟩
        · exact Or.inr ⟨by decide, "java/util/NoSuchElementException", (wT2 100 rfl rfl), (cx_F X).2.2.2.2.2.2.2⟩) (by decide) (by decide) (wT1 228 rfl rfl) (by decide +kernel) (fun q => ?_)
      refine go_astore_n X dL_link_18 rfl (by decide) rfl ?_
      refine go_iconst X dL_link_19 kc_i3 ?_
      exact go_irh X hq dL_link_20 (u.1, u.2.1, u.2.2.1, u.2.2.2.1, u.2.2.2.2.1, u.2.2.2.2.2.1, u.2.2.2.2.2.2.1, u.2.2.2.2.2.2.2.1, u.2.2.2.2.2.2.2.2.1, u.2.2.2.2.2.2.2.2.2.1, u.2.2.2.2.2.2.2.2.2.2.1, u.2.2.2.2.2.2.2.2.2.2.2.1, u.2.2.2.2.2.2.2.2.2.2.2.2.1, u.2.2.2.2.2.2.2.2.2.2.2.2.2.1, u.2.2.2.2.2.2.2.2.2.2.2.2.2.2.1, u.2.2.2.2.2.2.2.2.2.2.2.2.2.2.2.1, u.2.2.2.2.2.2.2.2.2.2.2.2.2.2.2.2.1, u.2.2.2.2.2.2.2.2.2.2.2.2.2.2.2.2.2.1, u.2.2.2.2.2.2.2.2.2.2.2.2.2.2.2.2.2.2.1, u.2.2.2.2.2.2.2.2.2.2.2.2.2.2.2.2.2.2.2.1, u.2.2.2.2.2.2.2.2.2.2.2.2.2.2.2.2.2.2.2.2.1, u.2.2.2.2.2.2.2.2.2.2.2.2.2.2.2.2.2.2.2.2.2.1, u.2.2.2.2.2.2.2.2.2.2.2.2.2.2.2.2.2.2.2.2.2.2.1, u.2.2.2.2.2.2.2.2.2.2.2.2.2.2.2.2.2.2.2.2.2.2.2.1, u.2.2.2.2.2.2.2.2.2.2.2.2.2.2.2.2.2.2.2.2.2.2.2.2.1, u.2.2.2.2.2.2.2.2.2.2.2.2.2.2.2.2.2.2.2.2.2.2.2.2.2.1, u.2.2.2.2.2.2.2.2.2.2.2.2.2.2.2.2.2.2.2.2.2.2.2.2.2.2.1, u.2.2.2.2.2.2.2.2.2.2.2.2.2.2.2.2.2.2.2.2.2.2.2.2.2.2.2.1, u.2.2.2.2.2.2.2.2.2.2.2.2.2.2.2.2.2.2.2.2.2.2.2.2.2.2.2.2, o, false) hw rfl
set_option maxRecDepth 100000 in
set_option maxHeartbeats 4000000 in
theorem c_L_packed {l : Launch} {D : va_G} {ad : Nat → Nat} {s_bk s_ln s_kd s_vl : Nat → Int32} {s_ct : Int32} {k_ce : Nat → Int32} {k_bc : Int32} {m_ra m_up : Nat → Int32} {m_on m_lo m_hi m_mo m_ma m_li : Int32} {n_rg n_sb : Nat → Int32} {n_st n_pl n_z n_n n_h n_c n_en n_so n_co n_sc : Int32} {l_bk l_of l_en : Nat → Int32} {l_ct : Int32} {t_bk t_of t_en : Nat → Int32} {t_ct : Int32} {ho : Nat} {o : Nat → Int64} {a1 a2 : Int32} {P : Int32 → (Nat → Int64) → Prop} (hl0 : l.stackTraces = false) (hw : wp_D_packed l_bk l_of l_ct a1 a2 (fun r  => P (0 : Int32)  (vp_updL o (0 : Int32).toNatClampNeg r.toInt64)) (fun z  => (z = 3 ∧ P (1 : Int32)  o))) : cth_ l yL_packed bL_packed 5 [(0, 10, 13, 27)] 7 112 D ad [.ref (ad 0), .int a1, .int a2, .ref ho] ((ho, .inl (ad 98, 1, .inr (.inl o))) :: (wC ad s_bk s_ln s_kd s_vl s_ct k_ce k_bc m_ra m_up m_on m_lo m_hi m_mo m_ma m_li n_rg n_sb n_st n_pl n_z n_n n_h n_c n_en n_so n_co n_sc l_bk l_of l_en l_ct t_bk t_of t_en t_ct)) (qi_ D (fun (r : Int32) (u : (Nat → Int64)) => P r  u) (fun u => (ho, .inl (ad 98, 1, .inr (.inl u))) :: (wC ad s_bk s_ln s_kd s_vl s_ct k_ce k_bc m_ra m_up m_on m_lo m_hi m_mo m_ma m_li n_rg n_sb n_st n_pl n_z n_n n_h n_c n_en n_so n_co n_sc l_bk l_of l_en l_ct t_bk t_of t_en t_ct))) := by
  refine cth_of RL (by decide) rfl (Nat.le_of_ble_eq_true rfl) (fun G hl hD X hq => ?_)
  subst hl hD
  show go_ G 0 0 ((ho, .inl (ad 98, 1, .inr (.inl o))) :: (wC ad s_bk s_ln s_kd s_vl s_ct k_ce k_bc m_ra m_up m_on m_lo m_hi m_mo m_ma m_li n_rg n_sb n_st n_pl n_z n_n n_h n_c n_en n_so n_co n_sc l_bk l_of l_en l_ct t_bk t_of t_en t_ct)) 0 [(0, .ref (ad 0)), (1, .int a1), (2, .int a2), (3, .ref ho)] []
  refine go_aload_n X 3 dL_packed_0 rfl rfl ?_
  refine go_iconst X dL_packed_1 kc_i0 ?_
  refine go_aload_n X 0 dL_packed_2 rfl rfl ?_
  refine go_iload_n X 1 dL_packed_3 rfl rfl ?_
  refine go_iload_n X 2 dL_packed_4 rfl rfl ?_
  refine go_fxi (wc := (wC ad s_bk s_ln s_kd s_vl s_ct k_ce k_bc m_ra m_up m_on m_lo m_hi m_mo m_ma m_li n_rg n_sb n_st n_pl n_z n_n n_h n_c n_en n_so n_co n_sc l_bk l_of l_en l_ct t_bk t_of t_en t_ct)) (wr := [(ho, .inl (ad 98, 1, .inr (.inl o)))]) X (c_D_packed hl0 hw) me_D_packed (wT2 194 rfl rfl) ⟨by decide, by decide⟩ [1, 2, 3, 4, 5, 6, 7, 8, 9, 10, 11, 12, 13, 14, 15, 16, 17, 18, 19, 20, 21, 22] [0] rfl rfl (by decide) (by decide) (by decide) 0 rfl rfl rfl (Nat.le_of_ble_eq_true rfl) ⟨by rw [hq.2.2.2.2.1]; decide, by rw [hq.2.2.2.2.2]; decide⟩ dL_packed_5 (fun r u hw => ?_) (fun z u hw => ?_)
  · refine go_i2l X dL_packed_8 ?_
    refine go_last (ws' := (ho, .inl (ad 98, 1, .inr (.inl (vp_updL o (0 : Int32).toNatClampNeg r.toInt64)))) :: (wC ad s_bk s_ln s_kd s_vl s_ct k_ce k_bc m_ra m_up m_on m_lo m_hi m_mo m_ma m_li n_rg n_sb n_st n_pl n_z n_n n_h n_c n_en n_so n_co n_sc l_bk l_of l_en l_ct t_bk t_of t_en t_ct)) X 0 rfl vi_0_1 rfl dL_packed_9 ?_
    refine go_goto X dL_packed_10 rfl ?_
    refine go_iconst X dL_packed_17 kc_i0 ?_
    exact go_irh X hq dL_packed_18 (vp_updL o (0 : Int32).toNatClampNeg r.toInt64) hw rfl
  · obtain ⟨rfl, hw⟩ := hw
    refine gx_catch X [] ⟨0, 10, 13, 27⟩ [] hq.2.2.2.1 (fun y hy => absurd hy List.not_mem_nil) (by decide) (by decide) (wT2 100 rfl rfl) (by decide +kernel) (fun q => ?_)
    refine go_astore X dL_packed_13 (by decide) rfl ?_
    refine go_iconst X dL_packed_15 kc_i1 ?_
    exact go_irh X hq dL_packed_16 o hw rfl
set_option maxRecDepth 100000 in
set_option maxHeartbeats 4000000 in
theorem c_L_image {l : Launch} {D : va_G} {ad : Nat → Nat} {s_bk s_ln s_kd s_vl : Nat → Int32} {s_ct : Int32} {k_ce : Nat → Int32} {k_bc : Int32} {m_ra m_up : Nat → Int32} {m_on m_lo m_hi m_mo m_ma m_li : Int32} {n_rg n_sb : Nat → Int32} {n_st n_pl n_z n_n n_h n_c n_en n_so n_co n_sc : Int32} {l_bk l_of l_en : Nat → Int32} {l_ct : Int32} {t_bk t_of t_en : Nat → Int32} {t_ct : Int32} {ho : Nat} {o : Nat → Int64} {a1 : Int32} {P : Int32 → (Nat → Int64) → Prop} (hl0 : l.stackTraces = false) (hw : wp_D_image k_ce k_bc a1 (fun r  => P (0 : Int32)  (vp_updL o (0 : Int32).toNatClampNeg r.toInt64)) (fun z  => (z = 3 ∧ P (1 : Int32)  o))) : cth_ l yL_image bL_image 4 [(0, 9, 12, 27)] 7 111 D ad [.ref (ad 0), .int a1, .ref ho] ((ho, .inl (ad 98, 1, .inr (.inl o))) :: (wC ad s_bk s_ln s_kd s_vl s_ct k_ce k_bc m_ra m_up m_on m_lo m_hi m_mo m_ma m_li n_rg n_sb n_st n_pl n_z n_n n_h n_c n_en n_so n_co n_sc l_bk l_of l_en l_ct t_bk t_of t_en t_ct)) (qi_ D (fun (r : Int32) (u : (Nat → Int64)) => P r  u) (fun u => (ho, .inl (ad 98, 1, .inr (.inl u))) :: (wC ad s_bk s_ln s_kd s_vl s_ct k_ce k_bc m_ra m_up m_on m_lo m_hi m_mo m_ma m_li n_rg n_sb n_st n_pl n_z n_n n_h n_c n_en n_so n_co n_sc l_bk l_of l_en l_ct t_bk t_of t_en t_ct))) := by
  refine cth_of RL (by decide) rfl (Nat.le_of_ble_eq_true rfl) (fun G hl hD X hq => ?_)
  subst hl hD
  show go_ G 0 0 ((ho, .inl (ad 98, 1, .inr (.inl o))) :: (wC ad s_bk s_ln s_kd s_vl s_ct k_ce k_bc m_ra m_up m_on m_lo m_hi m_mo m_ma m_li n_rg n_sb n_st n_pl n_z n_n n_h n_c n_en n_so n_co n_sc l_bk l_of l_en l_ct t_bk t_of t_en t_ct)) 0 [(0, .ref (ad 0)), (1, .int a1), (2, .ref ho)] []
  refine go_aload_n X 2 dL_image_0 rfl rfl ?_
  refine go_iconst X dL_image_1 kc_i0 ?_
  refine go_aload_n X 0 dL_image_2 rfl rfl ?_
  refine go_iload_n X 1 dL_image_3 rfl rfl ?_
  refine go_fxi (wc := (wC ad s_bk s_ln s_kd s_vl s_ct k_ce k_bc m_ra m_up m_on m_lo m_hi m_mo m_ma m_li n_rg n_sb n_st n_pl n_z n_n n_h n_c n_en n_so n_co n_sc l_bk l_of l_en l_ct t_bk t_of t_en t_ct)) (wr := [(ho, .inl (ad 98, 1, .inr (.inl o)))]) X (c_D_image hl0 hw) me_D_image (wT2 202 rfl rfl) ⟨by decide, by decide⟩ [1, 2, 3, 4, 5, 6, 7, 8, 9, 10, 11, 12, 13, 14, 15, 16, 17, 18, 19, 20, 21, 22] [0] rfl rfl (by decide) (by decide) (by decide) 0 rfl rfl rfl (Nat.le_of_ble_eq_true rfl) ⟨by rw [hq.2.2.2.2.1]; decide, by rw [hq.2.2.2.2.2]; decide⟩ dL_image_4 (fun r u hw => ?_) (fun z u hw => ?_)
  · refine go_i2l X dL_image_7 ?_
    refine go_last (ws' := (ho, .inl (ad 98, 1, .inr (.inl (vp_updL o (0 : Int32).toNatClampNeg r.toInt64)))) :: (wC ad s_bk s_ln s_kd s_vl s_ct k_ce k_bc m_ra m_up m_on m_lo m_hi m_mo m_ma m_li n_rg n_sb n_st n_pl n_z n_n n_h n_c n_en n_so n_co n_sc l_bk l_of l_en l_ct t_bk t_of t_en t_ct)) X 0 rfl vi_0_1 rfl dL_image_8 ?_
    refine go_goto X dL_image_9 rfl ?_
    refine go_iconst X dL_image_15 kc_i0 ?_
    exact go_irh X hq dL_image_16 (vp_updL o (0 : Int32).toNatClampNeg r.toInt64) hw rfl
  · obtain ⟨rfl, hw⟩ := hw
    refine gx_catch X [] ⟨0, 9, 12, 27⟩ [] hq.2.2.2.1 (fun y hy => absurd hy List.not_mem_nil) (by decide) (by decide) (wT2 100 rfl rfl) (by decide +kernel) (fun q => ?_)
    refine go_astore_n X dL_image_12 rfl (by decide) rfl ?_
    refine go_iconst X dL_image_13 kc_i1 ?_
    exact go_irh X hq dL_image_14 o hw rfl
set_option maxRecDepth 100000 in
set_option maxHeartbeats 4000000 in
theorem c_L_spoil {l : Launch} {D : va_G} {ad : Nat → Nat} {s_bk s_ln s_kd s_vl : Nat → Int32} {s_ct : Int32} {k_ce : Nat → Int32} {k_bc : Int32} {m_ra m_up : Nat → Int32} {m_on m_lo m_hi m_mo m_ma m_li : Int32} {n_rg n_sb : Nat → Int32} {n_st n_pl n_z n_n n_h n_c n_en n_so n_co n_sc : Int32} {l_bk l_of l_en : Nat → Int32} {l_ct : Int32} {t_bk t_of t_en : Nat → Int32} {t_ct : Int32} {ho : Nat} {o : Nat → Int64} {a1 a2 : Int32} {P : Int32 → (Nat → Int32) → (Nat → Int64) → Prop} (hl0 : l.stackTraces = false) (hw : wp_D_spoil k_ce k_bc a1 a2 (fun w0 => P (0 : Int32) w0 o) (fun z w0 => (z = 3 ∧ P (1 : Int32) w0 o))) : cth_ l yL_spoil bL_spoil 4 [(0, 6, 9, 27)] 7 112 D ad [.ref (ad 0), .int a1, .int a2] ((ho, .inl (ad 98, 1, .inr (.inl o))) :: (wC ad s_bk s_ln s_kd s_vl s_ct k_ce k_bc m_ra m_up m_on m_lo m_hi m_mo m_ma m_li n_rg n_sb n_st n_pl n_z n_n n_h n_c n_en n_so n_co n_sc l_bk l_of l_en l_ct t_bk t_of t_en t_ct)) (qi_ D (fun (r : Int32) (u : (Nat → Int32) × (Nat → Int64)) => P r u.1 u.2) (fun u => (ho, .inl (ad 98, 1, .inr (.inl u.2))) :: (wC ad s_bk s_ln s_kd s_vl s_ct u.1 k_bc m_ra m_up m_on m_lo m_hi m_mo m_ma m_li n_rg n_sb n_st n_pl n_z n_n n_h n_c n_en n_so n_co n_sc l_bk l_of l_en l_ct t_bk t_of t_en t_ct))) := by
  refine cth_of RL (by decide) rfl (Nat.le_of_ble_eq_true rfl) (fun G hl hD X hq => ?_)
  subst hl hD
  show go_ G 0 0 ((ho, .inl (ad 98, 1, .inr (.inl o))) :: (wC ad s_bk s_ln s_kd s_vl s_ct k_ce k_bc m_ra m_up m_on m_lo m_hi m_mo m_ma m_li n_rg n_sb n_st n_pl n_z n_n n_h n_c n_en n_so n_co n_sc l_bk l_of l_en l_ct t_bk t_of t_en t_ct)) 0 [(0, .ref (ad 0)), (1, .int a1), (2, .int a2)] []
  refine go_aload_n X 0 dL_spoil_0 rfl rfl ?_
  refine go_iload_n X 1 dL_spoil_1 rfl rfl ?_
  refine go_iload_n X 2 dL_spoil_2 rfl rfl ?_
  refine go_fxv (wc := (wC ad s_bk s_ln s_kd s_vl s_ct k_ce k_bc m_ra m_up m_on m_lo m_hi m_mo m_ma m_li n_rg n_sb n_st n_pl n_z n_n n_h n_c n_en n_so n_co n_sc l_bk l_of l_en l_ct t_bk t_of t_en t_ct)) (wr := [(ho, .inl (ad 98, 1, .inr (.inl o)))]) X (c_D_spoil hl0 hw) me_D_spoil (wT2 210 rfl rfl) ⟨by decide, by decide⟩ [1, 2, 3, 4, 5, 6, 7, 8, 9, 10, 11, 12, 13, 14, 15, 16, 17, 18, 19, 20, 21, 22] [0] rfl rfl (by decide) (by decide) (by decide) 0 rfl rfl rfl (Nat.le_of_ble_eq_true rfl) ⟨by rw [hq.2.2.2.2.1]; decide, by rw [hq.2.2.2.2.2]; decide⟩ dL_spoil_3 (fun u hw => ?_) (fun z u hw => ?_)
  · refine go_goto X dL_spoil_6 rfl ?_
    refine go_iconst X dL_spoil_12 kc_i0 ?_
    exact go_irh X hq dL_spoil_13 (u, o) hw rfl
  · obtain ⟨rfl, hw⟩ := hw
    refine gx_catch X [] ⟨0, 6, 9, 27⟩ [] hq.2.2.2.1 (fun y hy => absurd hy List.not_mem_nil) (by decide) (by decide) (wT2 100 rfl rfl) (by decide +kernel) (fun q => ?_)
    refine go_astore_n X dL_spoil_9 rfl (by decide) rfl ?_
    refine go_iconst X dL_spoil_10 kc_i1 ?_
    exact go_irh X hq dL_spoil_11 (u, o) hw rfl
set_option maxRecDepth 100000 in
set_option maxHeartbeats 4000000 in
theorem c_L_valid {l : Launch} {D : va_G} {ad : Nat → Nat} {s_bk s_ln s_kd s_vl : Nat → Int32} {s_ct : Int32} {k_ce : Nat → Int32} {k_bc : Int32} {m_ra m_up : Nat → Int32} {m_on m_lo m_hi m_mo m_ma m_li : Int32} {n_rg n_sb : Nat → Int32} {n_st n_pl n_z n_n n_h n_c n_en n_so n_co n_sc : Int32} {l_bk l_of l_en : Nat → Int32} {l_ct : Int32} {t_bk t_of t_en : Nat → Int32} {t_ct : Int32} {ho : Nat} {o : Nat → Int64}  {P : Int32 → (Nat → Int64) → Prop} (hl0 : l.stackTraces = false) (hw : wp_D_valid k_ce k_bc  (fun r  => P (0 : Int32)  (vp_updL o (0 : Int32).toNatClampNeg r.toInt64)) (fun z  => (z = 3 ∧ P (1 : Int32)  o))) : cth_ l yL_valid bL_valid 3 [(0, 8, 11, 27)] 7 110 D ad [.ref (ad 0), .ref ho] ((ho, .inl (ad 98, 1, .inr (.inl o))) :: (wC ad s_bk s_ln s_kd s_vl s_ct k_ce k_bc m_ra m_up m_on m_lo m_hi m_mo m_ma m_li n_rg n_sb n_st n_pl n_z n_n n_h n_c n_en n_so n_co n_sc l_bk l_of l_en l_ct t_bk t_of t_en t_ct)) (qi_ D (fun (r : Int32) (u : (Nat → Int64)) => P r  u) (fun u => (ho, .inl (ad 98, 1, .inr (.inl u))) :: (wC ad s_bk s_ln s_kd s_vl s_ct k_ce k_bc m_ra m_up m_on m_lo m_hi m_mo m_ma m_li n_rg n_sb n_st n_pl n_z n_n n_h n_c n_en n_so n_co n_sc l_bk l_of l_en l_ct t_bk t_of t_en t_ct))) := by
  refine cth_of RL (by decide) rfl (Nat.le_of_ble_eq_true rfl) (fun G hl hD X hq => ?_)
  subst hl hD
  show go_ G 0 0 ((ho, .inl (ad 98, 1, .inr (.inl o))) :: (wC ad s_bk s_ln s_kd s_vl s_ct k_ce k_bc m_ra m_up m_on m_lo m_hi m_mo m_ma m_li n_rg n_sb n_st n_pl n_z n_n n_h n_c n_en n_so n_co n_sc l_bk l_of l_en l_ct t_bk t_of t_en t_ct)) 0 [(0, .ref (ad 0)), (1, .ref ho)] []
  refine go_aload_n X 1 dL_valid_0 rfl rfl ?_
  refine go_iconst X dL_valid_1 kc_i0 ?_
  refine go_aload_n X 0 dL_valid_2 rfl rfl ?_
  refine go_fxi (wc := (wC ad s_bk s_ln s_kd s_vl s_ct k_ce k_bc m_ra m_up m_on m_lo m_hi m_mo m_ma m_li n_rg n_sb n_st n_pl n_z n_n n_h n_c n_en n_so n_co n_sc l_bk l_of l_en l_ct t_bk t_of t_en t_ct)) (wr := [(ho, .inl (ad 98, 1, .inr (.inl o)))]) X (c_D_valid hl0 hw) me_D_valid (wT2 217 rfl rfl) ⟨by decide, by decide⟩ [1, 2, 3, 4, 5, 6, 7, 8, 9, 10, 11, 12, 13, 14, 15, 16, 17, 18, 19, 20, 21, 22] [0] rfl rfl (by decide) (by decide) (by decide) 0 rfl rfl rfl (Nat.le_of_ble_eq_true rfl) ⟨by rw [hq.2.2.2.2.1]; decide, by rw [hq.2.2.2.2.2]; decide⟩ dL_valid_3 (fun r u hw => ?_) (fun z u hw => ?_)
  · refine go_i2l X dL_valid_6 ?_
    refine go_last (ws' := (ho, .inl (ad 98, 1, .inr (.inl (vp_updL o (0 : Int32).toNatClampNeg r.toInt64)))) :: (wC ad s_bk s_ln s_kd s_vl s_ct k_ce k_bc m_ra m_up m_on m_lo m_hi m_mo m_ma m_li n_rg n_sb n_st n_pl n_z n_n n_h n_c n_en n_so n_co n_sc l_bk l_of l_en l_ct t_bk t_of t_en t_ct)) X 0 rfl vi_0_1 rfl dL_valid_7 ?_
    refine go_goto X dL_valid_8 rfl ?_
    refine go_iconst X dL_valid_14 kc_i0 ?_
    exact go_irh X hq dL_valid_15 (vp_updL o (0 : Int32).toNatClampNeg r.toInt64) hw rfl
  · obtain ⟨rfl, hw⟩ := hw
    refine gx_catch X [] ⟨0, 8, 11, 27⟩ [] hq.2.2.2.1 (fun y hy => absurd hy List.not_mem_nil) (by decide) (by decide) (wT2 100 rfl rfl) (by decide +kernel) (fun q => ?_)
    refine go_astore_n X dL_valid_11 rfl (by decide) rfl ?_
    refine go_iconst X dL_valid_12 kc_i1 ?_
    exact go_irh X hq dL_valid_13 o hw rfl
set_option maxRecDepth 100000 in
set_option maxHeartbeats 4000000 in
theorem c_L_raise {l : Launch} {D : va_G} {ad : Nat → Nat} {s_bk s_ln s_kd s_vl : Nat → Int32} {s_ct : Int32} {k_ce : Nat → Int32} {k_bc : Int32} {m_ra m_up : Nat → Int32} {m_on m_lo m_hi m_mo m_ma m_li : Int32} {n_rg n_sb : Nat → Int32} {n_st n_pl n_z n_n n_h n_c n_en n_so n_co n_sc : Int32} {l_bk l_of l_en : Nat → Int32} {l_ct : Int32} {t_bk t_of t_en : Nat → Int32} {t_ct : Int32} {ho : Nat} {o : Nat → Int64} {a1 : Int32} {P : Int32 → (Int32) → (Nat → Int64) → Prop} (hl0 : l.stackTraces = false) (hw : wp_D_raise m_li a1 (fun w0 => P (0 : Int32) w0 o) (fun z w0 => (z = 1 ∧ P (1 : Int32) w0 o))) : cth_ l yL_raise bL_raise 3 [(0, 5, 8, 13)] 7 111 D ad [.ref (ad 0), .int a1] ((ho, .inl (ad 98, 1, .inr (.inl o))) :: (wC ad s_bk s_ln s_kd s_vl s_ct k_ce k_bc m_ra m_up m_on m_lo m_hi m_mo m_ma m_li n_rg n_sb n_st n_pl n_z n_n n_h n_c n_en n_so n_co n_sc l_bk l_of l_en l_ct t_bk t_of t_en t_ct)) (qi_ D (fun (r : Int32) (u : (Int32) × (Nat → Int64)) => P r u.1 u.2) (fun u => (ho, .inl (ad 98, 1, .inr (.inl u.2))) :: (wC ad s_bk s_ln s_kd s_vl s_ct k_ce k_bc m_ra m_up m_on m_lo m_hi m_mo m_ma u.1 n_rg n_sb n_st n_pl n_z n_n n_h n_c n_en n_so n_co n_sc l_bk l_of l_en l_ct t_bk t_of t_en t_ct))) := by
  refine cth_of RL (by decide) rfl (Nat.le_of_ble_eq_true rfl) (fun G hl hD X hq => ?_)
  subst hl hD
  show go_ G 0 0 ((ho, .inl (ad 98, 1, .inr (.inl o))) :: (wC ad s_bk s_ln s_kd s_vl s_ct k_ce k_bc m_ra m_up m_on m_lo m_hi m_mo m_ma m_li n_rg n_sb n_st n_pl n_z n_n n_h n_c n_en n_so n_co n_sc l_bk l_of l_en l_ct t_bk t_of t_en t_ct)) 0 [(0, .ref (ad 0)), (1, .int a1)] []
  refine go_aload_n X 0 dL_raise_0 rfl rfl ?_
  refine go_iload_n X 1 dL_raise_1 rfl rfl ?_
  refine go_fxv (wc := (wC ad s_bk s_ln s_kd s_vl s_ct k_ce k_bc m_ra m_up m_on m_lo m_hi m_mo m_ma m_li n_rg n_sb n_st n_pl n_z n_n n_h n_c n_en n_so n_co n_sc l_bk l_of l_en l_ct t_bk t_of t_en t_ct)) (wr := [(ho, .inl (ad 98, 1, .inr (.inl o)))]) X (c_D_raise hl0 hw) me_D_raise (wT2 232 rfl rfl) ⟨by decide, by decide⟩ [1, 2, 3, 4, 5, 6, 7, 8, 9, 10, 11, 12, 13, 14, 15, 16, 17, 18, 19, 20, 21, 22] [0] rfl rfl (by decide) (by decide) (by decide) 0 rfl rfl rfl (Nat.le_of_ble_eq_true rfl) ⟨by rw [hq.2.2.2.2.1]; decide, by rw [hq.2.2.2.2.2]; decide⟩ dL_raise_2 (fun u hw => ?_) (fun z u hw => ?_)
  · refine go_goto X dL_raise_5 rfl ?_
    refine go_iconst X dL_raise_11 kc_i0 ?_
    exact go_irh X hq dL_raise_12 (u, o) hw rfl
  · obtain ⟨rfl, hw⟩ := hw
    refine gx_catch X [] ⟨0, 5, 8, 13⟩ [] hq.2.2.2.1 (fun y hy => absurd hy List.not_mem_nil) (by decide) (by decide) (wT1 227 rfl rfl) (by decide +kernel) (fun q => ?_)
    refine go_astore_n X dL_raise_8 rfl (by decide) rfl ?_
    refine go_iconst X dL_raise_9 kc_i1 ?_
    exact go_irh X hq dL_raise_10 (u, o) hw rfl
set_option maxRecDepth 100000 in
set_option maxHeartbeats 4000000 in
theorem c_L_run {l : Launch} {D : va_G} {ad : Nat → Nat} {s_bk s_ln s_kd s_vl : Nat → Int32} {s_ct : Int32} {k_ce : Nat → Int32} {k_bc : Int32} {m_ra m_up : Nat → Int32} {m_on m_lo m_hi m_mo m_ma m_li : Int32} {n_rg n_sb : Nat → Int32} {n_st n_pl n_z n_n n_h n_c n_en n_so n_co n_sc : Int32} {l_bk l_of l_en : Nat → Int32} {l_ct : Int32} {t_bk t_of t_en : Nat → Int32} {t_ct : Int32} {ho : Nat} {o : Nat → Int64} {a1 : Int32} {P : Int32 → (Nat → Int32) → (Nat → Int32) → (Int32) → (Int32) → (Int32) → (Int32) → (Int32) → (Int32) → (Nat → Int32) → (Nat → Int32) → (Int32) → (Int32) → (Int32) → (Int32) → (Int32) → (Int32) → (Int32) → (Int32) → (Int32) → (Int32) → (Nat → Int64) → Prop} (hl0 : l.stackTraces = false) (hw : wp_D_run k_ce k_bc m_ra m_up m_on m_lo m_hi m_mo m_ma m_li n_rg n_sb n_st n_pl n_z n_n n_h n_c n_en n_so n_co n_sc a1 (fun r w0 w1 w2 w3 w4 w5 w6 w7 w8 w9 w10 w11 w12 w13 w14 w15 w16 w17 w18 w19 => P (0 : Int32) w0 w1 w2 w3 w4 w5 w6 w7 w8 w9 w10 w11 w12 w13 w14 w15 w16 w17 w18 w19 (vp_updL o (0 : Int32).toNatClampNeg r.toInt64)) (fun z w0 w1 w2 w3 w4 w5 w6 w7 w8 w9 w10 w11 w12 w13 w14 w15 w16 w17 w18 w19 => (z = 3 ∧ P (1 : Int32) w0 w1 w2 w3 w4 w5 w6 w7 w8 w9 w10 w11 w12 w13 w14 w15 w16 w17 w18 w19 o))) : cth_ l yL_run bL_run 4 [(0, 9, 12, 27)] 7 160 D ad [.ref (ad 0), .int a1, .ref ho] ((ho, .inl (ad 98, 1, .inr (.inl o))) :: (wC ad s_bk s_ln s_kd s_vl s_ct k_ce k_bc m_ra m_up m_on m_lo m_hi m_mo m_ma m_li n_rg n_sb n_st n_pl n_z n_n n_h n_c n_en n_so n_co n_sc l_bk l_of l_en l_ct t_bk t_of t_en t_ct)) (qi_ D (fun (r : Int32) (u : (Nat → Int32) × (Nat → Int32) × (Int32) × (Int32) × (Int32) × (Int32) × (Int32) × (Int32) × (Nat → Int32) × (Nat → Int32) × (Int32) × (Int32) × (Int32) × (Int32) × (Int32) × (Int32) × (Int32) × (Int32) × (Int32) × (Int32) × (Nat → Int64)) => P r u.1 u.2.1 u.2.2.1 u.2.2.2.1 u.2.2.2.2.1 u.2.2.2.2.2.1 u.2.2.2.2.2.2.1 u.2.2.2.2.2.2.2.1 u.2.2.2.2.2.2.2.2.1 u.2.2.2.2.2.2.2.2.2.1 u.2.2.2.2.2.2.2.2.2.2.1 u.2.2.2.2.2.2.2.2.2.2.2.1 u.2.2.2.2.2.2.2.2.2.2.2.2.1 u.2.2.2.2.2.2.2.2.2.2.2.2.2.1 u.2.2.2.2.2.2.2.2.2.2.2.2.2.2.1 u.2.2.2.2.2.2.2.2.2.2.2.2.2.2.2.1 u.2.2.2.2.2.2.2.2.2.2.2.2.2.2.2.2.1 u.2.2.2.2.2.2.2.2.2.2.2.2.2.2.2.2.2.1 u.2.2.2.2.2.2.2.2.2.2.2.2.2.2.2.2.2.2.1 u.2.2.2.2.2.2.2.2.2.2.2.2.2.2.2.2.2.2.2.1 u.2.2.2.2.2.2.2.2.2.2.2.2.2.2.2.2.2.2.2.2) (fun u => (ho, .inl (ad 98, 1, .inr (.inl u.2.2.2.2.2.2.2.2.2.2.2.2.2.2.2.2.2.2.2.2))) :: (wC ad s_bk s_ln s_kd s_vl s_ct k_ce k_bc u.1 u.2.1 u.2.2.1 u.2.2.2.1 u.2.2.2.2.1 u.2.2.2.2.2.1 u.2.2.2.2.2.2.1 u.2.2.2.2.2.2.2.1 u.2.2.2.2.2.2.2.2.1 u.2.2.2.2.2.2.2.2.2.1 u.2.2.2.2.2.2.2.2.2.2.1 u.2.2.2.2.2.2.2.2.2.2.2.1 u.2.2.2.2.2.2.2.2.2.2.2.2.1 u.2.2.2.2.2.2.2.2.2.2.2.2.2.1 u.2.2.2.2.2.2.2.2.2.2.2.2.2.2.1 u.2.2.2.2.2.2.2.2.2.2.2.2.2.2.2.1 u.2.2.2.2.2.2.2.2.2.2.2.2.2.2.2.2.1 u.2.2.2.2.2.2.2.2.2.2.2.2.2.2.2.2.2.1 u.2.2.2.2.2.2.2.2.2.2.2.2.2.2.2.2.2.2.1 u.2.2.2.2.2.2.2.2.2.2.2.2.2.2.2.2.2.2.2.1 l_bk l_of l_en l_ct t_bk t_of t_en t_ct))) := by
  refine cth_of RL (by decide) rfl (Nat.le_of_ble_eq_true rfl) (fun G hl hD X hq => ?_)
  subst hl hD
  show go_ G 0 0 ((ho, .inl (ad 98, 1, .inr (.inl o))) :: (wC ad s_bk s_ln s_kd s_vl s_ct k_ce k_bc m_ra m_up m_on m_lo m_hi m_mo m_ma m_li n_rg n_sb n_st n_pl n_z n_n n_h n_c n_en n_so n_co n_sc l_bk l_of l_en l_ct t_bk t_of t_en t_ct)) 0 [(0, .ref (ad 0)), (1, .int a1), (2, .ref ho)] []
  refine go_aload_n X 2 dL_run_0 rfl rfl ?_
  refine go_iconst X dL_run_1 kc_i0 ?_
  refine go_aload_n X 0 dL_run_2 rfl rfl ?_
  refine go_iload_n X 1 dL_run_3 rfl rfl ?_
  refine go_fxi (wc := (wC ad s_bk s_ln s_kd s_vl s_ct k_ce k_bc m_ra m_up m_on m_lo m_hi m_mo m_ma m_li n_rg n_sb n_st n_pl n_z n_n n_h n_c n_en n_so n_co n_sc l_bk l_of l_en l_ct t_bk t_of t_en t_ct)) (wr := [(ho, .inl (ad 98, 1, .inr (.inl o)))]) X (c_D_run hl0 hw) me_D_run (wT2 239 rfl rfl) ⟨by decide, by decide⟩ [1, 2, 3, 4, 5, 6, 7, 8, 9, 10, 11, 12, 13, 14, 15, 16, 17, 18, 19, 20, 21, 22] [0] rfl rfl (by decide) (by decide) (by decide) 0 rfl rfl rfl (Nat.le_of_ble_eq_true rfl) ⟨by rw [hq.2.2.2.2.1]; decide, by rw [hq.2.2.2.2.2]; decide⟩ dL_run_4 (fun r u hw => ?_) (fun z u hw => ?_)
  · refine go_i2l X dL_run_7 ?_
    refine go_last (ws' := (ho, .inl (ad 98, 1, .inr (.inl (vp_updL o (0 : Int32).toNatClampNeg r.toInt64)))) :: (wC ad s_bk s_ln s_kd s_vl s_ct k_ce k_bc u.1 u.2.1 u.2.2.1 u.2.2.2.1 u.2.2.2.2.1 u.2.2.2.2.2.1 u.2.2.2.2.2.2.1 u.2.2.2.2.2.2.2.1 u.2.2.2.2.2.2.2.2.1 u.2.2.2.2.2.2.2.2.2.1 u.2.2.2.2.2.2.2.2.2.2.1 u.2.2.2.2.2.2.2.2.2.2.2.1 u.2.2.2.2.2.2.2.2.2.2.2.2.1 u.2.2.2.2.2.2.2.2.2.2.2.2.2.1 u.2.2.2.2.2.2.2.2.2.2.2.2.2.2.1 u.2.2.2.2.2.2.2.2.2.2.2.2.2.2.2.1 u.2.2.2.2.2.2.2.2.2.2.2.2.2.2.2.2.1 u.2.2.2.2.2.2.2.2.2.2.2.2.2.2.2.2.2.1 u.2.2.2.2.2.2.2.2.2.2.2.2.2.2.2.2.2.2.1 u.2.2.2.2.2.2.2.2.2.2.2.2.2.2.2.2.2.2.2 l_bk l_of l_en l_ct t_bk t_of t_en t_ct)) X 0 rfl vi_0_1 rfl dL_run_8 ?_
    refine go_goto X dL_run_9 rfl ?_
    refine go_iconst X dL_run_15 kc_i0 ?_
    exact go_irh X hq dL_run_16 (u.1, u.2.1, u.2.2.1, u.2.2.2.1, u.2.2.2.2.1, u.2.2.2.2.2.1, u.2.2.2.2.2.2.1, u.2.2.2.2.2.2.2.1, u.2.2.2.2.2.2.2.2.1, u.2.2.2.2.2.2.2.2.2.1, u.2.2.2.2.2.2.2.2.2.2.1, u.2.2.2.2.2.2.2.2.2.2.2.1, u.2.2.2.2.2.2.2.2.2.2.2.2.1, u.2.2.2.2.2.2.2.2.2.2.2.2.2.1, u.2.2.2.2.2.2.2.2.2.2.2.2.2.2.1, u.2.2.2.2.2.2.2.2.2.2.2.2.2.2.2.1, u.2.2.2.2.2.2.2.2.2.2.2.2.2.2.2.2.1, u.2.2.2.2.2.2.2.2.2.2.2.2.2.2.2.2.2.1, u.2.2.2.2.2.2.2.2.2.2.2.2.2.2.2.2.2.2.1, u.2.2.2.2.2.2.2.2.2.2.2.2.2.2.2.2.2.2.2, (vp_updL o (0 : Int32).toNatClampNeg r.toInt64)) hw rfl
  · obtain ⟨rfl, hw⟩ := hw
    refine gx_catch X [] ⟨0, 9, 12, 27⟩ [] hq.2.2.2.1 (fun y hy => absurd hy List.not_mem_nil) (by decide) (by decide) (wT2 100 rfl rfl) (by decide +kernel) (fun q => ?_)
    refine go_astore_n X dL_run_12 rfl (by decide) rfl ?_
    refine go_iconst X dL_run_13 kc_i1 ?_
    exact go_irh X hq dL_run_14 (u.1, u.2.1, u.2.2.1, u.2.2.2.1, u.2.2.2.2.1, u.2.2.2.2.2.1, u.2.2.2.2.2.2.1, u.2.2.2.2.2.2.2.1, u.2.2.2.2.2.2.2.2.1, u.2.2.2.2.2.2.2.2.2.1, u.2.2.2.2.2.2.2.2.2.2.1, u.2.2.2.2.2.2.2.2.2.2.2.1, u.2.2.2.2.2.2.2.2.2.2.2.2.1, u.2.2.2.2.2.2.2.2.2.2.2.2.2.1, u.2.2.2.2.2.2.2.2.2.2.2.2.2.2.1, u.2.2.2.2.2.2.2.2.2.2.2.2.2.2.2.1, u.2.2.2.2.2.2.2.2.2.2.2.2.2.2.2.2.1, u.2.2.2.2.2.2.2.2.2.2.2.2.2.2.2.2.2.1, u.2.2.2.2.2.2.2.2.2.2.2.2.2.2.2.2.2.2.1, u.2.2.2.2.2.2.2.2.2.2.2.2.2.2.2.2.2.2.2, o) hw rfl
set_option maxRecDepth 100000 in
set_option maxHeartbeats 4000000 in
theorem c_L_register {l : Launch} {D : va_G} {ad : Nat → Nat} {s_bk s_ln s_kd s_vl : Nat → Int32} {s_ct : Int32} {k_ce : Nat → Int32} {k_bc : Int32} {m_ra m_up : Nat → Int32} {m_on m_lo m_hi m_mo m_ma m_li : Int32} {n_rg n_sb : Nat → Int32} {n_st n_pl n_z n_n n_h n_c n_en n_so n_co n_sc : Int32} {l_bk l_of l_en : Nat → Int32} {l_ct : Int32} {t_bk t_of t_en : Nat → Int32} {t_ct : Int32} {ho : Nat} {o : Nat → Int64} {a1 : Int32} {P : Int32 → (Nat → Int64) → Prop} (hl0 : l.stackTraces = false) (hw : wp_D_register k_ce k_bc m_ra m_up m_on m_lo m_hi m_mo m_ma m_li n_rg n_st n_pl n_z n_n n_h n_c n_en a1 (fun r  => P (0 : Int32)  (vp_updL o (0 : Int32).toNatClampNeg r.toInt64)) (fun z  => (z = 3 ∧ P (1 : Int32)  o))) : cth_ l yL_register bL_register 4 [(0, 9, 12, 27)] 7 112 D ad [.ref (ad 0), .int a1, .ref ho] ((ho, .inl (ad 98, 1, .inr (.inl o))) :: (wC ad s_bk s_ln s_kd s_vl s_ct k_ce k_bc m_ra m_up m_on m_lo m_hi m_mo m_ma m_li n_rg n_sb n_st n_pl n_z n_n n_h n_c n_en n_so n_co n_sc l_bk l_of l_en l_ct t_bk t_of t_en t_ct)) (qi_ D (fun (r : Int32) (u : (Nat → Int64)) => P r  u) (fun u => (ho, .inl (ad 98, 1, .inr (.inl u))) :: (wC ad s_bk s_ln s_kd s_vl s_ct k_ce k_bc m_ra m_up m_on m_lo m_hi m_mo m_ma m_li n_rg n_sb n_st n_pl n_z n_n n_h n_c n_en n_so n_co n_sc l_bk l_of l_en l_ct t_bk t_of t_en t_ct))) := by
  refine cth_of RL (by decide) rfl (Nat.le_of_ble_eq_true rfl) (fun G hl hD X hq => ?_)
  subst hl hD
  show go_ G 0 0 ((ho, .inl (ad 98, 1, .inr (.inl o))) :: (wC ad s_bk s_ln s_kd s_vl s_ct k_ce k_bc m_ra m_up m_on m_lo m_hi m_mo m_ma m_li n_rg n_sb n_st n_pl n_z n_n n_h n_c n_en n_so n_co n_sc l_bk l_of l_en l_ct t_bk t_of t_en t_ct)) 0 [(0, .ref (ad 0)), (1, .int a1), (2, .ref ho)] []
  refine go_aload_n X 2 dL_register_0 rfl rfl ?_
  refine go_iconst X dL_register_1 kc_i0 ?_
  refine go_aload_n X 0 dL_register_2 rfl rfl ?_
  refine go_iload_n X 1 dL_register_3 rfl rfl ?_
  refine go_fxi (wc := (wC ad s_bk s_ln s_kd s_vl s_ct k_ce k_bc m_ra m_up m_on m_lo m_hi m_mo m_ma m_li n_rg n_sb n_st n_pl n_z n_n n_h n_c n_en n_so n_co n_sc l_bk l_of l_en l_ct t_bk t_of t_en t_ct)) (wr := [(ho, .inl (ad 98, 1, .inr (.inl o)))]) X (c_D_register hl0 hw) me_D_register (wT3 138 rfl rfl) ⟨by decide, by decide⟩ [1, 2, 3, 4, 5, 6, 7, 8, 9, 10, 11, 12, 13, 14, 15, 16, 17, 18, 19, 20, 21, 22] [0] rfl rfl (by decide) (by decide) (by decide) 0 rfl rfl rfl (Nat.le_of_ble_eq_true rfl) ⟨by rw [hq.2.2.2.2.1]; decide, by rw [hq.2.2.2.2.2]; decide⟩ dL_register_4 (fun r u hw => ?_) (fun z u hw => ?_)
  · refine go_i2l X dL_register_7 ?_
    refine go_last (ws' := (ho, .inl (ad 98, 1, .inr (.inl (vp_updL o (0 : Int32).toNatClampNeg r.toInt64)))) :: (wC ad s_bk s_ln s_kd s_vl s_ct k_ce k_bc m_ra m_up m_on m_lo m_hi m_mo m_ma m_li n_rg n_sb n_st n_pl n_z n_n n_h n_c n_en n_so n_co n_sc l_bk l_of l_en l_ct t_bk t_of t_en t_ct)) X 0 rfl vi_0_1 rfl dL_register_8 ?_
    refine go_goto X dL_register_9 rfl ?_
    refine go_iconst X dL_register_15 kc_i0 ?_
    exact go_irh X hq dL_register_16 (vp_updL o (0 : Int32).toNatClampNeg r.toInt64) hw rfl
  · obtain ⟨rfl, hw⟩ := hw
    refine gx_catch X [] ⟨0, 9, 12, 27⟩ [] hq.2.2.2.1 (fun y hy => absurd hy List.not_mem_nil) (by decide) (by decide) (wT2 100 rfl rfl) (by decide +kernel) (fun q => ?_)
    refine go_astore_n X dL_register_12 rfl (by decide) rfl ?_
    refine go_iconst X dL_register_13 kc_i1 ?_
    exact go_irh X hq dL_register_14 o hw rfl
set_option maxRecDepth 100000 in
set_option maxHeartbeats 4000000 in
theorem c_L_peek {l : Launch} {D : va_G} {ad : Nat → Nat} {s_bk s_ln s_kd s_vl : Nat → Int32} {s_ct : Int32} {k_ce : Nat → Int32} {k_bc : Int32} {m_ra m_up : Nat → Int32} {m_on m_lo m_hi m_mo m_ma m_li : Int32} {n_rg n_sb : Nat → Int32} {n_st n_pl n_z n_n n_h n_c n_en n_so n_co n_sc : Int32} {l_bk l_of l_en : Nat → Int32} {l_ct : Int32} {t_bk t_of t_en : Nat → Int32} {t_ct : Int32} {ho : Nat} {o : Nat → Int64} {a1 : Int32} {P : Int32 → (Nat → Int64) → Prop} (hl0 : l.stackTraces = false) (hw : wp_D_peek k_ce k_bc m_ra m_up m_on m_lo m_hi m_mo m_ma m_li a1 (fun r  => P (0 : Int32)  (vp_updL o (0 : Int32).toNatClampNeg r.toInt64)) (fun z  => (z = 3 ∧ P (1 : Int32)  o))) : cth_ l yL_peek bL_peek 4 [(0, 9, 12, 27)] 7 111 D ad [.ref (ad 0), .int a1, .ref ho] ((ho, .inl (ad 98, 1, .inr (.inl o))) :: (wC ad s_bk s_ln s_kd s_vl s_ct k_ce k_bc m_ra m_up m_on m_lo m_hi m_mo m_ma m_li n_rg n_sb n_st n_pl n_z n_n n_h n_c n_en n_so n_co n_sc l_bk l_of l_en l_ct t_bk t_of t_en t_ct)) (qi_ D (fun (r : Int32) (u : (Nat → Int64)) => P r  u) (fun u => (ho, .inl (ad 98, 1, .inr (.inl u))) :: (wC ad s_bk s_ln s_kd s_vl s_ct k_ce k_bc m_ra m_up m_on m_lo m_hi m_mo m_ma m_li n_rg n_sb n_st n_pl n_z n_n n_h n_c n_en n_so n_co n_sc l_bk l_of l_en l_ct t_bk t_of t_en t_ct))) := by
  refine cth_of RL (by decide) rfl (Nat.le_of_ble_eq_true rfl) (fun G hl hD X hq => ?_)
  subst hl hD
  show go_ G 0 0 ((ho, .inl (ad 98, 1, .inr (.inl o))) :: (wC ad s_bk s_ln s_kd s_vl s_ct k_ce k_bc m_ra m_up m_on m_lo m_hi m_mo m_ma m_li n_rg n_sb n_st n_pl n_z n_n n_h n_c n_en n_so n_co n_sc l_bk l_of l_en l_ct t_bk t_of t_en t_ct)) 0 [(0, .ref (ad 0)), (1, .int a1), (2, .ref ho)] []
  refine go_aload_n X 2 dL_peek_0 rfl rfl ?_
  refine go_iconst X dL_peek_1 kc_i0 ?_
  refine go_aload_n X 0 dL_peek_2 rfl rfl ?_
  refine go_iload_n X 1 dL_peek_3 rfl rfl ?_
  refine go_fxi (wc := (wC ad s_bk s_ln s_kd s_vl s_ct k_ce k_bc m_ra m_up m_on m_lo m_hi m_mo m_ma m_li n_rg n_sb n_st n_pl n_z n_n n_h n_c n_en n_so n_co n_sc l_bk l_of l_en l_ct t_bk t_of t_en t_ct)) (wr := [(ho, .inl (ad 98, 1, .inr (.inl o)))]) X (c_D_peek hl0 hw) me_D_peek (wT3 153 rfl rfl) ⟨by decide, by decide⟩ [1, 2, 3, 4, 5, 6, 7, 8, 9, 10, 11, 12, 13, 14, 15, 16, 17, 18, 19, 20, 21, 22] [0] rfl rfl (by decide) (by decide) (by decide) 0 rfl rfl rfl (Nat.le_of_ble_eq_true rfl) ⟨by rw [hq.2.2.2.2.1]; decide, by rw [hq.2.2.2.2.2]; decide⟩ dL_peek_4 (fun r u hw => ?_) (fun z u hw => ?_)
  · refine go_i2l X dL_peek_7 ?_
    refine go_last (ws' := (ho, .inl (ad 98, 1, .inr (.inl (vp_updL o (0 : Int32).toNatClampNeg r.toInt64)))) :: (wC ad s_bk s_ln s_kd s_vl s_ct k_ce k_bc m_ra m_up m_on m_lo m_hi m_mo m_ma m_li n_rg n_sb n_st n_pl n_z n_n n_h n_c n_en n_so n_co n_sc l_bk l_of l_en l_ct t_bk t_of t_en t_ct)) X 0 rfl vi_0_1 rfl dL_peek_8 ?_
    refine go_goto X dL_peek_9 rfl ?_
    refine go_iconst X dL_peek_15 kc_i0 ?_
    exact go_irh X hq dL_peek_16 (vp_updL o (0 : Int32).toNatClampNeg r.toInt64) hw rfl
  · obtain ⟨rfl, hw⟩ := hw
    refine gx_catch X [] ⟨0, 9, 12, 27⟩ [] hq.2.2.2.1 (fun y hy => absurd hy List.not_mem_nil) (by decide) (by decide) (wT2 100 rfl rfl) (by decide +kernel) (fun q => ?_)
    refine go_astore_n X dL_peek_12 rfl (by decide) rfl ?_
    refine go_iconst X dL_peek_13 kc_i1 ?_
    exact go_irh X hq dL_peek_14 o hw rfl
set_option maxRecDepth 100000 in
set_option maxHeartbeats 4000000 in
theorem c_L_byteSent {l : Launch} {D : va_G} {ad : Nat → Nat} {s_bk s_ln s_kd s_vl : Nat → Int32} {s_ct : Int32} {k_ce : Nat → Int32} {k_bc : Int32} {m_ra m_up : Nat → Int32} {m_on m_lo m_hi m_mo m_ma m_li : Int32} {n_rg n_sb : Nat → Int32} {n_st n_pl n_z n_n n_h n_c n_en n_so n_co n_sc : Int32} {l_bk l_of l_en : Nat → Int32} {l_ct : Int32} {t_bk t_of t_en : Nat → Int32} {t_ct : Int32} {ho : Nat} {o : Nat → Int64} {a1 : Int32} {P : Int32 → (Nat → Int64) → Prop} (hl0 : l.stackTraces = false) (hw : wp_D_byteSent n_sb n_sc a1 (fun r  => P (0 : Int32)  (vp_updL o (0 : Int32).toNatClampNeg r.toInt64)) (fun z  => (z = 3 ∧ P (1 : Int32)  o))) : cth_ l yL_byteSent bL_byteSent 4 [(0, 9, 12, 27)] 7 111 D ad [.ref (ad 0), .int a1, .ref ho] ((ho, .inl (ad 98, 1, .inr (.inl o))) :: (wC ad s_bk s_ln s_kd s_vl s_ct k_ce k_bc m_ra m_up m_on m_lo m_hi m_mo m_ma m_li n_rg n_sb n_st n_pl n_z n_n n_h n_c n_en n_so n_co n_sc l_bk l_of l_en l_ct t_bk t_of t_en t_ct)) (qi_ D (fun (r : Int32) (u : (Nat → Int64)) => P r  u) (fun u => (ho, .inl (ad 98, 1, .inr (.inl u))) :: (wC ad s_bk s_ln s_kd s_vl s_ct k_ce k_bc m_ra m_up m_on m_lo m_hi m_mo m_ma m_li n_rg n_sb n_st n_pl n_z n_n n_h n_c n_en n_so n_co n_sc l_bk l_of l_en l_ct t_bk t_of t_en t_ct))) := by
  refine cth_of RL (by decide) rfl (Nat.le_of_ble_eq_true rfl) (fun G hl hD X hq => ?_)
  subst hl hD
  show go_ G 0 0 ((ho, .inl (ad 98, 1, .inr (.inl o))) :: (wC ad s_bk s_ln s_kd s_vl s_ct k_ce k_bc m_ra m_up m_on m_lo m_hi m_mo m_ma m_li n_rg n_sb n_st n_pl n_z n_n n_h n_c n_en n_so n_co n_sc l_bk l_of l_en l_ct t_bk t_of t_en t_ct)) 0 [(0, .ref (ad 0)), (1, .int a1), (2, .ref ho)] []
  refine go_aload_n X 2 dL_byteSent_0 rfl rfl ?_
  refine go_iconst X dL_byteSent_1 kc_i0 ?_
  refine go_aload_n X 0 dL_byteSent_2 rfl rfl ?_
  refine go_iload_n X 1 dL_byteSent_3 rfl rfl ?_
  refine go_fxi (wc := (wC ad s_bk s_ln s_kd s_vl s_ct k_ce k_bc m_ra m_up m_on m_lo m_hi m_mo m_ma m_li n_rg n_sb n_st n_pl n_z n_n n_h n_c n_en n_so n_co n_sc l_bk l_of l_en l_ct t_bk t_of t_en t_ct)) (wr := [(ho, .inl (ad 98, 1, .inr (.inl o)))]) X (c_D_byteSent hl0 hw) me_D_byteSent (wT3 161 rfl rfl) ⟨by decide, by decide⟩ [1, 2, 3, 4, 5, 6, 7, 8, 9, 10, 11, 12, 13, 14, 15, 16, 17, 18, 19, 20, 21, 22] [0] rfl rfl (by decide) (by decide) (by decide) 0 rfl rfl rfl (Nat.le_of_ble_eq_true rfl) ⟨by rw [hq.2.2.2.2.1]; decide, by rw [hq.2.2.2.2.2]; decide⟩ dL_byteSent_4 (fun r u hw => ?_) (fun z u hw => ?_)
  · refine go_i2l X dL_byteSent_7 ?_
    refine go_last (ws' := (ho, .inl (ad 98, 1, .inr (.inl (vp_updL o (0 : Int32).toNatClampNeg r.toInt64)))) :: (wC ad s_bk s_ln s_kd s_vl s_ct k_ce k_bc m_ra m_up m_on m_lo m_hi m_mo m_ma m_li n_rg n_sb n_st n_pl n_z n_n n_h n_c n_en n_so n_co n_sc l_bk l_of l_en l_ct t_bk t_of t_en t_ct)) X 0 rfl vi_0_1 rfl dL_byteSent_8 ?_
    refine go_goto X dL_byteSent_9 rfl ?_
    refine go_iconst X dL_byteSent_15 kc_i0 ?_
    exact go_irh X hq dL_byteSent_16 (vp_updL o (0 : Int32).toNatClampNeg r.toInt64) hw rfl
  · obtain ⟨rfl, hw⟩ := hw
    refine gx_catch X [] ⟨0, 9, 12, 27⟩ [] hq.2.2.2.1 (fun y hy => absurd hy List.not_mem_nil) (by decide) (by decide) (wT2 100 rfl rfl) (by decide +kernel) (fun q => ?_)
    refine go_astore_n X dL_byteSent_12 rfl (by decide) rfl ?_
    refine go_iconst X dL_byteSent_13 kc_i1 ?_
    exact go_irh X hq dL_byteSent_14 o hw rfl
