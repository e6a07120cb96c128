/-! the image -/
section IMG
variable {ln kd vl : Nat → Nat} {ct nb : Nat} {M : Pk} {B0 O0 A0 : Nat → Int32}
theorem shr8 {n : Nat} (h : n < 2147483648) : nI n >>> ((8 : Int32) &&& 31) = nI (n / 256) := pk_shrN h _ 8 (by decide)
theorem ov_a {d : Nat → Bool} {f : Nat → Nat} {g : Nat → Int32} {j : Nat} (h : d j = true) : ov d f g j = nI (f j) := if_pos h
theorem c_adr {s : Nat} (hs : s < 10) (hd : M.1 s = true) (hb : M.2.1 s < 8) {P : Int32 → Prop} (hP : P (nI (adr M s))) : wp_P_addressOf (ov M.1 M.2.1 B0) (ov M.1 M.2.2.1 O0) (nI s) P := by
  unfold wp_P_addressOf
  unfold adr at hP
  rw [clN (by omega), ov_a hd, ov_a hd]
  refine ⟨vin hs (by omega), bN2 (eqN (k := 0) rfl (by omega) (by omega)) (fun g => ⟨vin hs (by omega), ?_⟩) (fun g => ⟨vin hs (by omega), ?_⟩)⟩
  · rw [if_neg g] at hP
    rw [show (64 : Int32) = nI 64 from rfl, nI_add, Nat.add_comm]; exact hP
  · rw [if_pos g] at hP; exact hP
def lval (kd vl : Nat → Nat) (M : Pk) (i x : Nat) : Nat := if kd (48 * i + x) = 1 then adr M (vl (48 * i + x)) else if kd (48 * i + x) = 2 then M.2.1 (vl (48 * i + x)) else vl (48 * i + x)
def layx (val : Nat → Nat) (base : Nat) (f : Nat → Nat) : Nat → Nat → Nat
  | 0 => f
  | x + 1 => fu (layx val base f x) (base + x) (val x)
def layi (ln base : Nat → Nat) (val : Nat → Nat → Nat) (f : Nat → Nat) : Nat → Nat → Nat
  | 0 => f
  | i + 1 => layx (val i) (base i) (layi ln base val f i) (ln i)
def bas (M : Pk) (i : Nat) : Nat := 64 * M.2.1 i + M.2.2.1 i
/-- what stands fast when sections are laid -/
def lok (ln kd vl : Nat → Nat) (ct nb : Nat) (M : Pk) : Prop := (∀ j, ln j ≤ 48) ∧ (∀ j, kd j ≤ 2) ∧ (∀ j, vl j < 256) ∧ ct ≤ 10 ∧ (nb = 2 ∨ nb = 4 ∨ nb = 8) ∧ pkI ln nb M ∧ (∀ j, j < ct → M.1 j = true) ∧ gda ln kd vl ct ct
theorem c_lay27 (h : lok ln kd vl ct nb M) {i : Nat} (hi : i < ct) {f : Nat → Nat} {P : (Nat → Int32) → Prop} (hP : P (nF (layx (lval kd vl M i) (bas M i) f (ln i)))) : ∀ d x, x + d = ln i → wp_K_lay_27 (nF ln) (nF kd) (nF vl) (ov M.1 M.2.1 B0) (ov M.1 M.2.2.1 O0) P (d + 1) (nF (layx (lval kd vl M i) (bas M i) f x)) (nI i) (nI (48 * i)) (nI (bas M i)) (nI x) := by
  obtain ⟨hl, hk, hv, hc, hnb, hM, hd, hg⟩ := h
  have hl1 := hl i
  obtain ⟨hb1, ho1, -⟩ := hM.2.2 i (hd i hi)
  have hbas : bas M i + ln i ≤ 512 := by unfold bas; omega
  intro d
  induction d with
  | zero =>
    intro x hx
    unfold wp_K_lay_27
    rw [clN (by omega), nF_a]
    refine ⟨vin (by omega) (by omega), fun _ => ?_, fun g => absurd ((leN (n := ln i) (k := x) rfl (by omega) (by omega)).mpr (by omega)) g⟩
    rw [show x = ln i by omega]; exact hP
  | succ d ih =>
    intro x hx
    have hk1 := hk (48 * i + x)
    have hv1 := hv (48 * i + x)
    unfold wp_K_lay_27
    rw [clN (by omega), nF_a, nI_add, nI_add, clN (by omega), clN (by omega), nF_a, nF_a, nI_1]
    refine ⟨vin (by omega) (by omega), fun g => absurd ((leN (n := ln i) (k := x) rfl (by omega) (by omega)).mp g) (by omega), fun _ => ⟨vin (by omega) (by omega), fun z3 e3 => ⟨vin (by omega) (by omega), fun z4 e4 => ?_⟩⟩⟩
    subst e3 e4
    have nx := ih (x + 1) (by omega)
    unfold layx at nx
    rw [← nF_u] at nx
    have hvct : ¬ kd (48 * i + x) = 0 → vl (48 * i + x) < ct := by
      intro g
      rcases hg i hi x (by omega) with q | q
      · exact absurd q g
      · exact q
    refine bN2 (eqN (k := 1) rfl (by omega) (by omega)) (fun g1 => bN2 (eqN (k := 2) rfl (by omega) (by omega)) (fun g2 => ⟨vin (by omega) (by omega), ?_⟩) (fun g2 => ⟨vin (by have := hvct (by omega); omega) (by omega), fun z5 e5 => ⟨vin (by omega) (by omega), ?_⟩⟩)) (fun g1 => ?_)
    · rw [show lval kd vl M i x = vl (48 * i + x) by unfold lval; rw [if_neg g1, if_neg g2]] at nx
      exact nx
    · have hq := hvct (by omega)
      rw [clN (by omega), ov_a (hd _ hq)] at e5
      subst e5
      rw [show lval kd vl M i x = M.2.1 (vl (48 * i + x)) by unfold lval; rw [if_neg g1, if_pos g2]] at nx
      exact nx
    · have hq := hvct (by omega)
      have hb2 := (hM.2.2 _ (hd _ hq)).1
      refine c_adr (by omega) (hd _ hq) (by omega) ⟨vin (by omega) (by omega), ?_⟩
      rw [show lval kd vl M i x = adr M (vl (48 * i + x)) by unfold lval; rw [if_pos g1]] at nx
      exact nx
theorem sp_K_lay (h : lok ln kd vl ct nb M) {i : Nat} (hi : i < ct) {f : Nat → Nat} {P : (Nat → Int32) → Prop} (hP : P (nF (layx (lval kd vl M i) (bas M i) f (ln i)))) : wp_K_lay (nF ln) (nF kd) (nF vl) (nF f) (ov M.1 M.2.1 B0) (ov M.1 M.2.2.1 O0) (nI i) P := by
  have hd := h.2.2.2.2.2.2.1 i hi
  have hc := h.2.2.2.1
  intro z1 e1
  rw [show (48 : Int32) = nI 48 from rfl, pk_mul, Nat.mul_comm] at e1
  subst e1
  refine ⟨vin (by omega) (by omega), vin (by omega) (by omega), fun z2 e2 => ⟨ln i + 1, ?_⟩⟩
  rw [clN (by omega), ov_a hd, ov_a hd, show (64 : Int32) = nI 64 from rfl, pk_mul, nI_add, Nat.mul_comm] at e2
  subst e2
  exact c_lay27 h hi hP (ln i) 0 (by omega)
/-! the head and its checks -/
def hdn (j : Nat) : Nat := ([192, 0, 206, 237, 102, 204, 0, 0, 0, 0, 0, 0, 0, 0, 0, 0, 1, 10, 0, 0, 1, 10, 0, 0, 1, 10, 0, 0, 1, 10, 0, 0] : List Nat).getD j 0
theorem hdn_e : ∀ j, j < 32 → hd_ j = nI (hdn j) := by decide +kernel
def cod (nb : Nat) : Nat := if nb = 8 then 2 else if nb = 4 then 1 else 0
theorem sp_K_sizeCode (hnb : nb = 2 ∨ nb = 4 ∨ nb = 8) {P : Int32 → Prop} (hP : P (nI (cod nb))) : wp_K_sizeCode (nI nb) P := by
  unfold wp_K_sizeCode
  unfold cod at hP
  refine bN2 (eqN (k := 8) rfl (by omega) (by omega)) (fun g => bN2 (eqN (k := 4) rfl (by omega) (by omega)) (fun g2 => ?_) (fun g2 => ?_)) (fun g => ?_)
  · rw [if_neg g, if_neg g2] at hP; exact hP
  · rw [if_neg g, if_pos g2] at hP; exact hP
  · rw [if_pos g] at hP; exact hP
def hsum (f : Nat → Nat) : Nat → Nat
  | 0 => 0
  | k + 1 => hsum f k + f (2 + k) + 1
theorem hsum_le {f : Nat → Nat} (hf : ∀ j, f j < 256) : ∀ k, hsum f k ≤ 256 * k := by
  intro k
  induction k with
  | zero => exact Nat.le_refl _
  | succ k ih => have := hf (2 + k); show hsum f k + f (2 + k) + 1 ≤ 256 * (k + 1); omega
def hck (f : Nat → Nat) : Nat := (65536 - hsum f 11) % 256
theorem c_hck {f : Nat → Nat} (hf : ∀ j, f j < 256) {N : Nat} (hN : N ≤ 11) {P : Int32 → Prop} (h11 : N = 11 → P (nI ((65536 - hsum f N) % 256))) : ∀ d k, k + d = N → N = 11 → wp_K_headCheck_4 (nF f) P (d + 1) (nI ((65536 - hsum f k) % 256)) (nI (2 + k)) := by
  intro d
  induction d with
  | zero =>
    intro k hk h
    unfold wp_K_headCheck_4
    rw [show k = N by omega]
    exact ⟨fun _ => h11 h, fun g => absurd ((gtN (n := 2 + N) (k := 12) rfl (by omega) (by omega)).mpr (by omega)) g⟩
  | succ d ih =>
    intro k hk h
    unfold wp_K_headCheck_4
    refine ⟨fun g => absurd ((gtN (n := 2 + k) (k := 12) rfl (by omega) (by omega)).mp g) (by omega), fun _ => ⟨vin (by omega) (by omega), fun z1 e1 => ?_⟩⟩
    have hs := hsum_le hf k
    have hv := hf (2 + k)
    have hs2 : hsum f (k + 1) = hsum f k + f (2 + k) + 1 := rfl
    rw [clN (by omega), nF_a, show (1 : Int32) = nI 1 from rfl, nssq (by omega) (by omega), nsub _ _ (by omega), n255, show ((65536 - hsum f k) % 256 + 4294967296 - (f (2 + k) + 1)) % 256 = (65536 - hsum f (k + 1)) % 256 by omega] at e1
    subst e1
    rw [nI_1]
    exact ih (k + 1) (by omega) h
theorem sp_K_headCheck {f : Nat → Nat} (hf : ∀ j, f j < 256) {P : Int32 → Prop} (hP : P (nI (hck f))) : wp_K_headCheck (nF f) P := by
  have h := c_hck hf (N := 11) (P := P) (by omega) (fun _ => hP) 11 0 (by omega) rfl
  rw [show (65536 - hsum f 0) % 256 = 0 by unfold hsum; rfl] at h
  exact ⟨12, h⟩
theorem q_hck {f : Nat → Nat} (hf : ∀ j, f j < 256) {N : Nat} (hN : N ≤ 11) {P : Int32 → Prop} (h11 : N = 11 → P (nI ((65536 - hsum f N) % 256))) : ∀ d k, k + d = N → N = 11 → wp_Q_headCheck_4 (nF f) P (d + 1) (nI (hsum f k)) (nI (2 + k)) := by
  intro d
  induction d with
  | zero =>
    intro k hk h
    have hs := hsum_le hf N
    unfold wp_Q_headCheck_4
    rw [show k = N by omega]
    refine ⟨fun _ => ?_, fun g => absurd ((geN (n := 2 + N) (k := 13) rfl (by omega) (by omega)).mpr (by omega)) g⟩
    rw [← Int32.zero_sub, show (0 : Int32) = nI 0 from rfl, nsub _ _ (by omega), n255, show (0 + 4294967296 - hsum f N) % 256 = (65536 - hsum f N) % 256 by omega]
    exact h11 h
  | succ d ih =>
    intro k hk h
    unfold wp_Q_headCheck_4
    refine ⟨fun g => absurd ((geN (n := 2 + k) (k := 13) rfl (by omega) (by omega)).mp g) (by omega), fun _ => ⟨vin (by omega) (by omega), fun z1 e1 => ?_⟩⟩
    rw [clN (by omega), nF_a, nI_1, nI_add] at e1
    subst e1
    rw [nI_1]
    exact ih (k + 1) (by omega) h
theorem sp_Q_headCheck {f : Nat → Nat} (hf : ∀ j, f j < 256) {P : Int32 → Prop} (hP : P (nI (hck f))) : wp_Q_headCheck (nF f) P := ⟨12, q_hck hf (N := 11) (by omega) (fun _ => hP) 11 0 (by omega) rfl⟩
def isum (f : Nat → Nat) : Nat → Nat
  | 0 => 0
  | k + 1 => isum f k + (if k = 14 ∨ k = 15 then 0 else f k)
theorem isum_le {f : Nat → Nat} (hf : ∀ j, f j < 256) : ∀ k, isum f k ≤ 256 * k := by
  intro k
  induction k with
  | zero => exact Nat.le_refl _
  | succ k ih =>
    have := hf k
    show isum f k + (if k = 14 ∨ k = 15 then 0 else f k) ≤ 256 * (k + 1)
    split <;> omega
def ick (f : Nat → Nat) (nb : Nat) : Nat := isum f (64 * nb) % 65536
theorem c_ick {f : Nat → Nat} (hf : ∀ j, f j < 256) {N : Nat} (hN : N ≤ 512) {bc : Int32} (hbc : bc * (64 : Int32) = nI N) {P : Int32 → Prop} (hP : P (nI (isum f N % 65536))) : ∀ d k, k + d = N → wp_K_imageCheck_4 (nF f) bc P (d + 1) (nI (isum f k)) (nI k) := by
  intro d
  induction d with
  | zero =>
    intro k hk
    unfold wp_K_imageCheck_4 wp_K_size
    rw [hbc, show k = N by omega, n65535]
    exact ⟨fun _ => hP, fun g => absurd (Int32.le_refl _) g⟩
  | succ d ih =>
    intro k hk
    unfold wp_K_imageCheck_4 wp_K_size
    rw [hbc, nI_1, clN (by omega), nF_a]
    have nx := ih (k + 1) (by omega)
    have hs : isum f (k + 1) = isum f k + (if k = 14 ∨ k = 15 then 0 else f k) := rfl
    refine ⟨fun g => absurd ((leN (n := N) (k := k) rfl (by omega) (by omega)).mp g) (by omega), fun _ => ?_⟩
    refine bI2 (eqN (k := 14) rfl (by omega) (by omega)) (fun g => ?_) (fun g => bI2 (eqN (k := 15) rfl (by omega) (by omega)) (fun g2 => ?_) (fun g2 => ⟨vin (by omega) (by omega), fun z2 e2 => ?_⟩))
    · rw [hs, if_pos (Or.inl g)] at nx; exact nx
    · rw [hs, if_pos (Or.inr g2)] at nx; exact nx
    · rw [nI_add] at e2
      subst e2
      rw [hs, if_neg (by omega)] at nx; exact nx
theorem sp_K_imageCheck {f : Nat → Nat} (hf : ∀ j, f j < 256) (hnb : nb ≤ 8) {P : Int32 → Prop} (hP : P (nI (ick f nb))) : wp_K_imageCheck (nF f) (nI nb) P := ⟨64 * nb + 1, c_ick hf (N := 64 * nb) (by omega) (by rw [show (64 : Int32) = nI 64 from rfl, pk_mul, Nat.mul_comm]) hP (64 * nb) 0 (by omega)⟩
def qsum (f : Nat → Nat) : Nat → Nat
  | 0 => 0
  | k + 1 => qsum f k + f k
theorem qsum_i (f : Nat → Nat) : ∀ k, 16 ≤ k → qsum f k = isum f k + (f 14 + f 15) := by
  intro k
  induction k with
  | zero => intro h; omega
  | succ k ih =>
    intro h
    have hs : isum f (k + 1) = isum f k + (if k = 14 ∨ k = 15 then 0 else f k) := rfl
    have hq : qsum f (k + 1) = qsum f k + f k := rfl
    by_cases g : k = 15
    · subst g
      simp only [qsum, isum]
      simp
      omega
    · rw [hs, hq, if_neg (by omega), ih (by omega)]; omega
theorem q_ick {f : Nat → Nat} (hf : ∀ j, f j < 256) {N : Nat} (hN : N ≤ 512) (h16 : 16 ≤ N) {bk : Int32} (hbk : (64 : Int32) * bk = nI N) {P : Int32 → Prop} (hP : P (nI (isum f N % 65536))) : ∀ d k, k + d = N → wp_Q_imageCheck_19 bk (nF f) P (d + 1) (nI (qsum f k) - nI (f 14 + f 15)) (nI k) := by
  have h14 := hf 14
  have h15 := hf 15
  intro d
  induction d with
  | zero =>
    intro k hk
    unfold wp_Q_imageCheck_19
    rw [hbk, show k = N by omega]
    refine ⟨fun _ => ?_, fun g => absurd (Int32.le_refl _) g⟩
    rw [qsum_i f N h16, nsub' (by omega), Nat.add_sub_cancel, n65535]
    exact hP
  | succ d ih =>
    intro k hk
    unfold wp_Q_imageCheck_19
    rw [hbk]
    refine ⟨fun g => absurd ((leN (n := N) (k := k) rfl (by omega) (by omega)).mp g) (by omega), fun _ => ⟨vin (by omega) (by omega), fun z2 e2 => ?_⟩⟩
    rw [clN (by omega), nF_a, nsub _ _ (by omega), nI_add, show qsum f k + 4294967296 - (f 14 + f 15) + f k = qsum f k + f k + 4294967296 - (f 14 + f 15) by omega, ← nsub _ _ (by omega)] at e2
    subst e2
    rw [nI_1]
    exact ih (k + 1) (by omega)
theorem s14 : (14 : Int32).toNatClampNeg = 14 := by decide
theorem s15 : (15 : Int32).toNatClampNeg = 15 := by decide
theorem s13 : (13 : Int32).toNatClampNeg = 13 := by decide
theorem s6 : (6 : Int32).toNatClampNeg = 6 := by decide
theorem s1 : (1 : Int32).toNatClampNeg = 1 := by decide
theorem s0 : (0 : Int32).toNatClampNeg = 0 := by decide
theorem sp_Q_imageCheck {f : Nat → Nat} (hf : ∀ j, f j < 256) (hnb : nb = 2 ∨ nb = 4 ∨ nb = 8) {P : Int32 → Prop} (hP : P (nI (ick f nb))) : wp_Q_imageCheck (nI nb) (nF f) P := by
  have h14 := hf 14
  have h15 := hf 15
  intro z1 e1
  rw [s14, s15, nF_a, nF_a, ← Int32.zero_sub, show (0 : Int32) = nI 0 from rfl, nssq (by omega) (by omega)] at e1
  subst e1
  exact ⟨64 * nb + 1, q_ick hf (N := 64 * nb) (by omega) (by omega) (by rw [show (64 : Int32) = nI 64 from rfl, pk_mul]) hP (64 * nb) 0 (by omega)⟩
end IMG
