/-! is the image valid -/
section VALID
variable {f : Nat → Nat} {nb : Nat}
def vmk (nb j : Nat) : Nat := if j = 6 then cod nb else hdn j
abbrev vok (f : Nat → Nat) (nb : Nat) : Prop := f 2 = vmk nb 2 ∧ f 3 = vmk nb 3 ∧ f 4 = vmk nb 4 ∧ f 5 = vmk nb 5 ∧ f 6 = vmk nb 6
def vd (f : Nat → Nat) (nb : Nat) : Nat := if vok f nb then (if f 13 = hck f then (if 256 * f 14 + f 15 = ick f nb then 0 else 3) else 2) else 1
theorem vd_cg {g : Nat → Nat} (h : ∀ j, j < 512 → f j = g j) (hnb : nb ≤ 8) : vd f nb = vd g nb := by
  unfold vd vok
  rw [h 2 (by omega), h 3 (by omega), h 4 (by omega), h 5 (by omega), h 6 (by omega), h 13 (by omega), h 14 (by omega), h 15 (by omega), hck_cg h, ick_cg h hnb]
theorem hdn_lt2 (j : Nat) (h : j < 32) : hdn j < 256 := hdn_lt j h
theorem c_vst (hf : ∀ j, f j < 256) {bc : Int32} {P : Int32 → Prop} {n i : Nat} (h6 : i < 6) (hy : f i = hdn i → wp_K_verdict_2 (nF f) bc P n (nI (i + 1))) (hn : ¬ f i = hdn i → P 1) : wp_K_verdict_2 (nF f) bc P (n + 1) (nI i) := by
  have h1 := hf i
  have h2 := hdn_lt i (by omega)
  unfold wp_K_verdict_2
  refine ⟨fun g => absurd ((geN (k := 6) rfl (by omega) (by omega)).mp g) (by omega), fun _ => ⟨vin (by omega) (by omega), vin (by omega) (by omega), ?_⟩⟩
  rw [clN (by omega), nF_a, hdn_e i (by omega), nI_1]
  exact bI2 (eqN (k := hdn i) rfl (by omega) (by omega)) hy hn
theorem sp_K_verdict (hf : ∀ j, f j < 256) (hnb : nb = 2 ∨ nb = 4 ∨ nb = 8) {P : Int32 → Prop} (hP : P (nI (vd f nb))) : wp_K_verdict (nF f) (nI nb) P := by
  have bad : ¬ vok f nb → P 1 := fun h => by unfold vd at hP; rw [if_neg h] at hP; exact hP
  refine ⟨5, c_vst hf (i := 2) (by omega) (fun h2 => c_vst hf (by omega) (fun h3 => c_vst hf (by omega) (fun h4 => c_vst hf (by omega) (fun h5 => ?_) (fun h => bad (fun q => h q.2.2.2.1))) (fun h => bad (fun q => h q.2.2.1))) (fun h => bad (fun q => h q.2.1))) (fun h => bad (fun q => h q.1))⟩
  unfold wp_K_verdict_2
  refine ⟨fun _ => sp_K_sizeCode hnb ?_, fun g => absurd (by decide) g⟩
  have f6 := hf 6
  have c6 := cod_lt nb
  have f13 := hf 13
  have c13 := hck_lt f
  have f14 := hf 14
  have f15 := hf 15
  have ci := ick_lt f nb
  rw [s6, s13, s14, s15, nF_a, nF_a, nF_a, nF_a]
  refine bI2 (eqN (k := cod nb) rfl (by omega) (by omega)) (fun h6 => sp_K_headCheck hf ?_) (fun h => bad (fun q => h q.2.2.2.2))
  unfold vd at hP
  rw [if_pos ⟨h2, h3, h4, h5, h6⟩] at hP
  refine bI2 (eqN (k := hck f) rfl (by omega) (by omega)) (fun h13 z3 e3 => ?_) (fun h => ?_)
  · rw [if_pos h13] at hP
    rw [show (256 : Int32) = nI 256 from rfl, pk_mul, nI_add, show f 14 * 256 + f 15 = 256 * f 14 + f 15 by omega] at e3
    subst e3
    refine sp_K_imageCheck hf (by omega) ?_
    refine bN2 (eqN (k := ick f nb) rfl (by omega) (by omega)) (fun h => ?_) (fun h => ?_)
    · rw [if_neg h] at hP; exact hP
    · rw [if_pos h] at hP; exact hP
  · rw [if_neg h] at hP; exact hP
theorem q_v0 {l c : Int32} {P : Int32 → Int32 → Prop} (hP : P 1 c) : ∀ d i, i + d = 7 → wp_Q_valid_22 l (nI nb) (nF f) P (d + 1) c 0 (nI i) := by
  intro d
  induction d with
  | zero =>
    intro i hi
    have : i = 7 := by omega
    subst this
    unfold wp_Q_valid_22
    exact ⟨fun _ => ⟨fun g => absurd rfl g, fun _ => hP⟩, fun g => absurd (by decide) g⟩
  | succ d ih =>
    intro i hi
    unfold wp_Q_valid_22
    refine ⟨fun g => absurd ((geN (k := 7) rfl (by omega) (by omega)).mp g) (by omega), fun _ => ⟨fun _ => ?_, fun g => absurd rfl g⟩⟩
    rw [nI_1]
    exact ih (i + 1) (by omega)
theorem vmk_lt {j : Nat} (h : j < 32) : vmk nb j < 256 := by
  unfold vmk; split
  · exact cod_lt nb
  · exact hdn_lt j h
theorem q_vst (hf : ∀ j, f j < 256) (hnb : nb = 2 ∨ nb = 4 ∨ nb = 8) {l c : Int32} {P : Int32 → Int32 → Prop} {d i : Nat} (h2 : 2 ≤ i) (h7 : i + (d + 1) = 7) (hy : f i = vmk nb i → wp_Q_valid_22 l (nI nb) (nF f) P (d + 1) c 1 (nI (i + 1))) (hn : ¬ f i = vmk nb i → P 1 c) : wp_Q_valid_22 l (nI nb) (nF f) P (d + 1 + 1) c 1 (nI i) := by
  have h1 := hf i
  have hm := vmk_lt (nb := nb) (j := i) (by omega)
  unfold wp_Q_valid_22
  refine ⟨fun g => absurd ((geN (k := 7) rfl (by omega) (by omega)).mp g) (by omega), fun _ => ⟨fun g => absurd g (by decide), fun _ => ⟨vin (by omega) (by omega), ?_⟩⟩⟩
  rw [clN (by omega), nF_a, nI_1]
  refine q_mark hnb h2 (by omega) ?_
  exact bN2 (eqN (k := vmk nb i) rfl (by omega) (by omega)) (fun g => q_v0 (hn g) d (i + 1) (by omega)) hy
theorem sp_Q_valid (hf : ∀ j, f j < 256) (hnb : nb = 2 ∨ nb = 4 ∨ nb = 8) {qc l : Int32} (hl : ¬ l = 0) {P : Int32 → Int32 → Prop} (hP : P (nI (vd f nb)) 0) : wp_Q_valid qc l (nI nb) (nF f) P := by
  have bad : ¬ vok f nb → P 1 0 := fun h => by unfold vd at hP; rw [if_neg h] at hP; exact hP
  refine ⟨fun _ => ⟨6, q_vst hf hnb (i := 2) (by omega) (by omega) (fun h2 => q_vst hf hnb (by omega) (by omega) (fun h3 => q_vst hf hnb (by omega) (by omega) (fun h4 => q_vst hf hnb (by omega) (by omega) (fun h5 => q_vst hf hnb (by omega) (by omega) (fun h6 => ?_) (fun h => bad (fun q => h q.2.2.2.2))) (fun h => bad (fun q => h q.2.2.2.1))) (fun h => bad (fun q => h q.2.2.1))) (fun h => bad (fun q => h q.2.1))) (fun h => bad (fun q => h q.1))⟩, fun g => absurd g hl⟩
  have f13 := hf 13
  have c13 := hck_lt f
  have f14 := hf 14
  have f15 := hf 15
  have ci := ick_lt f nb
  unfold wp_Q_valid_22
  refine ⟨fun _ => ⟨fun _ => sp_Q_headCheck hf ?_, fun g => absurd g (by decide)⟩, fun g => absurd (by decide) g⟩
  unfold vd at hP
  rw [if_pos ⟨h2, h3, h4, h5, h6⟩] at hP
  rw [s13, s14, s15, nF_a, nF_a, nF_a]
  refine bI2 (eqN (k := hck f) rfl (by omega) (by omega)) (fun h13 => sp_Q_imageCheck hf hnb ?_) (fun h => ?_)
  · rw [if_pos h13] at hP
    rw [show (256 : Int32) = nI 256 from rfl, pk_mul, nI_add]
    refine bI2 (eqN (k := ick f nb) rfl (by omega) (by omega)) (fun h => ?_) (fun h => ?_)
    · rw [if_pos h] at hP; exact hP
    · rw [if_neg h] at hP; exact hP
  · rw [if_neg h] at hP; exact hP
theorem mm_lt {S : St} (hS : okS S) : ∀ j, mm_ S j < 256 := by
  intro j
  have h1 := hS.1 j
  have h2 := hS.2.1 (j - 512)
  have h3 := hS.2.2.1 (j - 640)
  have h4 := okma hS
  have h5 := okli hS
  unfold mm_
  repeat' split
  all_goals omega
theorem pr_valid {S : St} {qc : Int32} {o : Nat → Int64} (hS : okS S) (hb : bk_ S ≤ 8) (hL : ¬ bk_ S = 0 → lnk S) {lk : Nat} (hlk : lk ≤ 10) (hz : lk = 0 ↔ bk_ S = 0) {K : Int32 → (Nat → Int64) → Int32 → Int32 → Prop}
    (hK : ∀ (r rq : Int32) (o' : Nat → Int64), (r = 0 → lg_cmp (o' (0 : Int32).toNatClampNeg) rq.toInt64 = 0) → K r o' rq r) :
    wp_L_valid (e_k_ce S) (e_k_bc S) o (fun r1 o5 => wp_Q_valid qc (nI lk) (e_q_banks S) (e_q_memory S) (fun r6 w7 => K r1 o5 r6 w7)) := by
  have e0 := eqN (n := lk) (k := 0) (x := 0) rfl (by omega) (by omega)
  unfold wp_L_valid wp_D_valid
  refine im_made hb (fun k3 => ⟨fun _ => ?_, fun g => absurd g (by decide)⟩) (fun k3 => ⟨fun g => absurd rfl g, fun _ => ⟨rfl, fun g => absurd (e0.mpr (hz.mpr k3)) g, fun _ => hK 1 0 o (fun h => absurd h (by decide))⟩⟩)
  have hl := hL k3
  have hl0 : ¬ nI lk = 0 := fun g => k3 (hz.mp (e0.mp g))
  refine sp_K_verdict (f := im_ S) hS.1 hl ?_
  refine sp_Q_valid (f := mm_ S) (nb := bk_ S) (mm_lt hS) hl hl0 ?_
  rw [vd_cg (f := mm_ S) (g := im_ S) (fun j h => im_mm h) hb]
  exact hK 0 _ _ (fun _ => cmp_same o _)
end VALID
