/-! the desk's eight calculations -/
section FL
variable {S : St} {z n h c : Bool} {v : Nat}
theorem fl_rg : rg_ (xfl S z n h c) = rg_ S := (rfl)
theorem fl_erg : e_n_rg (xfl S z n h c) = e_n_rg S := (rfl)
theorem fl_ez : e_n_z (xfl S z n h c) = bI z := (rfl)
theorem fl_en : e_n_n (xfl S z n h c) = bI n := (rfl)
theorem fl_eh : e_n_h (xfl S z n h c) = bI h := (rfl)
theorem fl_ec : e_n_c (xfl S z n h c) = bI c := (rfl)
theorem xA_z : e_n_z (xA S v) = e_n_z S := (rfl)
theorem xA_n : e_n_n (xA S v) = e_n_n S := (rfl)
theorem xA_h : e_n_h (xA S v) = e_n_h S := (rfl)
theorem xA_c : e_n_c (xA S v) = e_n_c S := (rfl)
theorem xA_rg : e_n_rg (xA S v) = upd (e_n_rg S) 7 (nI v) := (e_rg S 7 v).symm
end FL
theorem sp_N_calculate {S : St} (hS : okS S) {k b : Nat} (hk : k < 8) (hb : b < 256) {P : (Nat → Int32) → (Int32) → (Int32) → (Int32) → (Int32) → Prop} (hP : P (e_n_rg (xcalc S k b)) (e_n_z (xcalc S k b)) (e_n_n (xcalc S k b)) (e_n_h (xcalc S k b)) (e_n_c (xcalc S k b))) : wp_N_calculate (e_n_rg S) (e_n_z S) (e_n_n S) (e_n_h S) (e_n_c S) (nI k) (nI b) P := by
  have ha : rg_ S 7 < 256 := hS.2.2.2.1 7
  have hr : e_n_rg S 7 = nI (rg_ S 7) := rfl
  have e : ∀ j : Nat, j < 8 → ∀ x : Int32, x = nI j → (nI k = x ↔ k = j) := fun j hj x hx => eqN hx (by omega) (by omega)
  unfold wp_N_calculate
  rw [e 0 (by omega) 0 rfl, e 1 (by omega) 1 rfl, e 2 (by omega) 2 rfl, e 3 (by omega) 3 rfl, e 4 (by omega) 4 rfl, e 5 (by omega) 5 rfl, e 6 (by omega) 6 rfl]
  unfold xcalc xsumF xdifF at hP
  rw [upd7, upd7, upd7, s7, hr, nand, nor_, nxor_]
  refine ⟨fun h => ?_, fun h => ?_, fun h => ?_, fun h => ?_, fun h => ?_, fun h => ?_, fun h => ?_, fun h0 h1 h2 h3 h4 h5 h6 => ?_⟩
  · subst h
    rw [if_pos rfl, xA_rg, xA_z, xA_n, xA_h, xA_c, fl_erg, fl_ez, fl_en, fl_eh, fl_ec] at hP
    exact sp_N_sum (m := 0) ha hb (by omega) hr hP
  · subst h
    rw [if_neg (by decide), if_pos rfl, xA_rg, xA_z, xA_n, xA_h, xA_c, fl_erg, fl_ez, fl_en, fl_eh, fl_ec] at hP
    exact sp_N_carryBit (sp_N_sum ha hb (bN_le _) hr hP)
  · subst h
    rw [if_neg (by decide), if_neg (by decide), if_pos rfl, xA_rg, xA_z, xA_n, xA_h, xA_c, fl_erg, fl_ez, fl_en, fl_eh, fl_ec] at hP
    exact sp_N_difference (m := 0) ha hb (by omega) hr hP
  · subst h
    rw [if_neg (by decide), if_neg (by decide), if_neg (by decide), if_pos rfl, xA_rg, xA_z, xA_n, xA_h, xA_c, fl_erg, fl_ez, fl_en, fl_eh, fl_ec] at hP
    exact sp_N_carryBit (sp_N_difference ha hb (bN_le _) hr hP)
  · subst h
    rw [if_neg (by decide), if_neg (by decide), if_neg (by decide), if_neg (by decide), if_pos rfl, xA_rg, xA_z, xA_n, xA_h, xA_c, fl_erg, fl_ez, fl_en, fl_eh, fl_ec] at hP
    have h8 : rg_ S 7 &&& b < 256 := and8 ha
    refine bN2 (eqN (k := 0) rfl (by omega) (by omega)) (fun g => ?_) (fun g => ?_)
    · rw [bd0 g] at hP; exact sp_N_setFlags (by decide) (by decide) (by decide) (by decide) hP
    · rw [bd1 g] at hP; exact sp_N_setFlags (by decide) (by decide) (by decide) (by decide) hP
  · subst h
    rw [if_neg (by decide), if_neg (by decide), if_neg (by decide), if_neg (by decide), if_neg (by decide), if_pos rfl, xA_rg, xA_z, xA_n, xA_h, xA_c, fl_erg, fl_ez, fl_en, fl_eh, fl_ec] at hP
    have h8 : rg_ S 7 ^^^ b < 256 := xor8 ha hb
    refine bN2 (eqN (k := 0) rfl (by omega) (by omega)) (fun g => ?_) (fun g => ?_)
    · rw [bd0 g] at hP; exact sp_N_setFlags (by decide) (by decide) (by decide) (by decide) hP
    · rw [bd1 g] at hP; exact sp_N_setFlags (by decide) (by decide) (by decide) (by decide) hP
  · subst h
    rw [if_neg (by decide), if_neg (by decide), if_neg (by decide), if_neg (by decide), if_neg (by decide), if_neg (by decide), if_pos rfl, xA_rg, xA_z, xA_n, xA_h, xA_c, fl_erg, fl_ez, fl_en, fl_eh, fl_ec] at hP
    have h8 : rg_ S 7 ||| b < 256 := or8 ha hb
    refine bN2 (eqN (k := 0) rfl (by omega) (by omega)) (fun g => ?_) (fun g => ?_)
    · rw [bd0 g] at hP; exact sp_N_setFlags (by decide) (by decide) (by decide) (by decide) hP
    · rw [bd1 g] at hP; exact sp_N_setFlags (by decide) (by decide) (by decide) (by decide) hP
  · rw [if_neg h0, if_neg h1, if_neg h2, if_neg h3, if_neg h4, if_neg h5, if_neg h6, fl_erg, fl_ez, fl_en, fl_eh, fl_ec] at hP
    exact sp_N_difference (m := 0) ha hb (by omega) hr hP
