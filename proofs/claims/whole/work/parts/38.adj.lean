/-! the desk's decimal adjustment -/
theorem vi78 : vp_in (7 : Int32) 8 := by unfold vp_in; decide
def xad (nf hf : Bool) (a : Nat) : Nat := if hf || (!nf && decide (9 < a % 16)) then 6 else 0
def xam (nf cf : Bool) (a : Nat) : Bool := cf || (!nf && decide (153 < a))
def xav (nf hf cf : Bool) (a : Nat) : Nat := if nf then (a + 256 - (if xam nf cf a then xad nf hf a + 96 else xad nf hf a)) % 256 else (a + (if xam nf cf a then xad nf hf a + 96 else xad nf hf a)) % 256
theorem adj92 {rg : Nat → Int32} {z h c y0 : Int32} {nf m : Bool} {v : Nat} (hv : v < 256) (hy : y0 &&& (255 : Int32) = nI v) {P : (Nat → Int32) → Int32 → Int32 → Int32 → Int32 → Prop} (hP : P (upd rg 7 (nI v)) (bI (decide (v = 0))) (bI nf) (bI false) (bI m)) : wp_N_adjust_92 P rg z (bI nf) h c (bI m) y0 (7 : Int32) := by
  unfold wp_N_adjust_92
  rw [upd7, hy, s7]
  refine ⟨vi78, bN2 (eqN (k := 0) rfl (by omega) (by omega)) (fun g => ?_) (fun g => ?_)⟩
  · rw [bd0 g] at hP; exact sp_N_setFlags (by decide) (bI_ok _) (by decide) (bI_ok _) hP
  · rw [bd1 g] at hP; exact sp_N_setFlags (by decide) (bI_ok _) (by decide) (bI_ok _) hP
theorem adj70 {rg : Nat → Int32} {z h c x3 : Int32} {nf m : Bool} {a e : Nat} (ha : a < 256) (he : e ≤ 102) (h3 : x3 = nI e) {P : (Nat → Int32) → Int32 → Int32 → Int32 → Int32 → Prop}
    (hP : ∀ v, v = (if nf then (a + 256 - e) % 256 else (a + e) % 256) → P (upd rg 7 (nI v)) (bI (decide (v = 0))) (bI nf) (bI false) (bI m)) : wp_N_adjust_70 P rg z (bI nf) h c (nI a) (bI m) x3 := by
  subst h3
  cases nf
  · refine ⟨fun _ => ?_, fun g => absurd rfl g⟩
    exact adj92 (v := (a + e) % 256) (by omega) (by rw [nI_add, n255]) (hP _ rfl)
  · refine ⟨fun g => absurd g (by decide), fun _ => ?_⟩
    refine adj92 (v := (a + 256 - e) % 256) (by omega) ?_ (hP _ rfl)
    rw [nsub _ _ (by omega), n255]; congr 1; omega
theorem adj34 {rg : Nat → Int32} {z c : Int32} {nf hf m : Bool} {a : Nat} (ha : a < 256) {P : (Nat → Int32) → Int32 → Int32 → Int32 → Int32 → Prop}
    (hP : ∀ v, v = (if nf then (a + 256 - (if m then xad nf hf a + 96 else xad nf hf a)) % 256 else (a + (if m then xad nf hf a + 96 else xad nf hf a)) % 256) → P (upd rg 7 (nI v)) (bI (decide (v = 0))) (bI nf) (bI false) (bI m)) : wp_N_adjust_34 P rg z (bI nf) (bI hf) c (nI a) (bI m) := by
  have two : ∀ d : Nat, d ≤ 6 → ∀ x : Int32, x = nI d → xad nf hf a = d → ((bI m = 0 → wp_N_adjust_70 P rg z (bI nf) (bI hf) c (nI a) (bI m) x) ∧ (¬ bI m = 0 → wp_N_adjust_70 P rg z (bI nf) (bI hf) c (nI a) (bI m) (x + (96 : Int32)))) := by
    intro d hd x hx ed
    rw [ed] at hP
    cases m
    · exact ⟨fun _ => adj70 ha (by omega) hx hP, fun g => absurd rfl g⟩
    · exact ⟨fun g => absurd g (by decide), fun _ => adj70 (e := d + 96) ha (by omega) (by rw [hx, show (96 : Int32) = nI 96 from rfl, nI_add]) hP⟩
  have c9 : (nI a &&& (15 : Int32) ≤ (9 : Int32)) ↔ a % 16 ≤ 9 := by rw [n15]; exact leN rfl (by omega) (by omega)
  unfold wp_N_adjust_34
  cases hf
  · refine ⟨fun g => absurd rfl g, fun _ => ?_⟩
    cases nf
    · refine ⟨fun g => absurd rfl g, fun _ => bI2 c9 (fun g => ?_) (fun g => ?_)⟩
      · exact two 0 (by omega) 0 rfl (by unfold xad; simp; omega)
      · exact two 6 (by omega) 6 rfl (by unfold xad; simp; omega)
    · exact ⟨fun _ => two 0 (by omega) 0 rfl (by unfold xad; simp), fun g => absurd g (by decide)⟩
  · exact ⟨fun _ => two 6 (by omega) 6 rfl (by unfold xad; simp), fun g => absurd g (by decide)⟩
theorem adj {rg : Nat → Int32} {z : Int32} {nf hf cf : Bool} {a : Nat} (ha : a < 256) (hr : rg 7 = nI a) {P : (Nat → Int32) → Int32 → Int32 → Int32 → Int32 → Prop}
    (hP : P (upd rg 7 (nI (xav nf hf cf a))) (bI (decide (xav nf hf cf a = 0))) (bI nf) (bI false) (bI (xam nf cf a))) : wp_N_adjust rg z (bI nf) (bI hf) (bI cf) P := by
  have key : ∀ m : Bool, xam nf cf a = m → wp_N_adjust_34 P rg z (bI nf) (bI hf) (bI cf) (nI a) (bI m) := by
    intro m hm
    refine adj34 ha (fun v hv => ?_)
    have e : v = xav nf hf cf a := by rw [hv]; unfold xav; rw [hm]
    rw [e, ← hm]; exact hP
  intro z1' e1
  rw [s7, hr] at e1
  subst e1
  have c9 : (nI a ≤ (153 : Int32)) ↔ a ≤ 153 := leN rfl (by omega) (by omega)
  cases cf
  · refine ⟨fun g => absurd rfl g, fun _ => ?_⟩
    cases nf
    · refine ⟨fun g => absurd rfl g, fun _ => bI2 c9 (fun g => ?_) (fun g => ?_)⟩
      · exact key false (by unfold xam; simp; omega)
      · exact key true (by unfold xam; simp; omega)
    · exact ⟨fun _ => key false (by unfold xam; simp), fun g => absurd g (by decide)⟩
  · exact ⟨fun _ => key true (by unfold xam; simp), fun g => absurd g (by decide)⟩
theorem xadj_eq (S : St) : xadj S = xA (xfl S (decide (xav (nf_ S) (hf_ S) (cf_ S) (rg_ S 7) = 0)) (nf_ S) false (xam (nf_ S) (cf_ S) (rg_ S 7))) (xav (nf_ S) (hf_ S) (cf_ S) (rg_ S 7)) := rfl
theorem sp_N_adjust {S : St} (hS : okS S) {P : (Nat → Int32) → (Int32) → (Int32) → (Int32) → (Int32) → Prop} (hP : P (e_n_rg (xadj S)) (e_n_z (xadj S)) (e_n_n (xadj S)) (e_n_h (xadj S)) (e_n_c (xadj S))) : wp_N_adjust (e_n_rg S) (e_n_z S) (e_n_n S) (e_n_h S) (e_n_c S)  P := by
  rw [xadj_eq, xA_rg, xA_z, xA_n, xA_h, xA_c, fl_erg, fl_ez, fl_en, fl_eh, fl_ec] at hP
  exact adj (hS.2.2.2.1 7) rfl hP
