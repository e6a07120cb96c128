/-! making the image -/
section MAKE
variable {ln kd vl : Nat → Nat} {ct nb : Nat} {M : Pk} {B0 O0 A0 : Nat → Int32}
def hw (i : Nat) (f : Nat → Nat) : Nat → Nat := fun j => if j < i then hdn j else f j
def h4 (f : Nat → Nat) (a nb : Nat) : Nat → Nat := fu (fu (hw 32 f) 1 a) 6 (cod nb)
def sl5 (f : Nat → Nat) : Nat → Nat := fu f 13 (hck f)
def sealI (f : Nat → Nat) (nb : Nat) : Nat → Nat := fu (fu (sl5 f) 14 (ick (sl5 f) nb / 256)) 15 (ick (sl5 f) nb % 256)
theorem hdn_lt : ∀ j, j < 32 → hdn j < 256 := by decide +kernel
theorem cod_lt (nb : Nat) : cod nb < 256 := by unfold cod; split; decide; split <;> decide
theorem hck_lt (f : Nat → Nat) : hck f < 256 := Nat.mod_lt _ (by decide)
theorem ick_lt (f : Nat → Nat) (nb : Nat) : ick f nb < 65536 := Nat.mod_lt _ (by decide)
theorem hw_lt {f : Nat → Nat} (hf : ∀ j, f j < 256) : ∀ j, hw 32 f j < 256 := by
  intro j
  unfold hw
  by_cases h : j < 32
  · rw [if_pos h]; exact hdn_lt j h
  · rw [if_neg h]; exact hf j
theorem h4_lt {f : Nat → Nat} (hf : ∀ j, f j < 256) {a : Nat} (ha : a < 256) : ∀ j, h4 f a nb j < 256 := fu_lt (fu_lt (hw_lt hf) ha) (cod_lt nb)
theorem sl5_lt {f : Nat → Nat} (hf : ∀ j, f j < 256) : ∀ j, sl5 f j < 256 := fu_lt hf (hck_lt f)
theorem seal_lt {f : Nat → Nat} (hf : ∀ j, f j < 256) : ∀ j, sealI f nb j < 256 := by
  have h := ick_lt (sl5 f) nb
  exact fu_lt (fu_lt (sl5_lt hf) (by omega)) (by omega)
theorem hw_u (f : Nat → Nat) {i : Nat} (hi : i < 32) : upd (nF (hw i f)) i (hd_ i) = nF (hw (i + 1) f) := by
  rw [hdn_e i hi, nF_u]
  congr 1
  funext j
  unfold fu hw
  by_cases h : j = i
  · subst h; rw [if_pos rfl, if_pos (by omega)]
  · rw [if_neg h]
    by_cases h2 : j < i
    · rw [if_pos h2, if_pos (by omega)]
    · rw [if_neg h2, if_neg (by omega)]
theorem c_wh (hnb : nb = 2 ∨ nb = 4 ∨ nb = 8) {f : Nat → Nat} (hf : ∀ j, f j < 256) {a : Nat} (ha : a < 256) {P : (Nat → Int32) → Prop} (hP : P (nF (sealI (h4 f a nb) nb))) : ∀ d i, i + d = 32 → wp_K_writeHead_2 (nI nb) P (d + 1) (nF (hw i f)) (nI a) (nI i) := by
  intro d
  induction d with
  | zero =>
    intro i hi
    have : i = 32 := by omega
    subst this
    unfold wp_K_writeHead_2
    refine ⟨fun _ => ?_, fun g => absurd (by decide) g⟩
    refine sp_K_sizeCode hnb ?_
    rw [s1, s6, s13, s14, s15, nF_u, nF_u]
    refine sp_K_headCheck (h4_lt hf ha) ?_
    rw [nF_u]
    refine sp_K_imageCheck (f := sl5 (h4 f a nb)) (sl5_lt (h4_lt hf ha)) (by omega) ?_
    have h := ick_lt (sl5 (h4 f a nb)) nb
    rw [shr8 (by omega), n255, nF_u, nF_u]
    exact hP
  | succ d ih =>
    intro i hi
    unfold wp_K_writeHead_2
    refine ⟨fun g => absurd ((geN (k := 32) rfl (by omega) (by omega)).mp g) (by omega), fun _ => ⟨vin (by omega) (by omega), vin (by omega) (by omega), ?_⟩⟩
    rw [clN (by omega), hw_u f (by omega), nI_1]
    exact ih (i + 1) (by omega)
theorem sp_K_writeHead (hnb : nb = 2 ∨ nb = 4 ∨ nb = 8) {f : Nat → Nat} (hf : ∀ j, f j < 256) {a : Nat} (ha : a < 256) {P : (Nat → Int32) → Prop} (hP : P (nF (sealI (h4 f a nb) nb))) : wp_K_writeHead (nF f) (nI nb) (nI a) P := by
  have h := c_wh hnb hf ha hP 32 0 (by omega)
  rw [show hw 0 f = f by funext j; unfold hw; rw [if_neg (by omega)]] at h
  exact ⟨33, h⟩
theorem adr_lt (h : lok ln kd vl ct nb M) {s : Nat} (hs : s < ct) : adr M s < 256 := by
  obtain ⟨hl, hk, hv, hc, hnb, hM, hd, hg⟩ := h
  obtain ⟨h1, h2, -⟩ := hM.2.2 s (hd s hs)
  unfold adr
  split <;> omega
theorem lval_lt (h : lok ln kd vl ct nb M) {i x : Nat} (hi : i < ct) (hx : x < ln i) : lval kd vl M i x < 256 := by
  have h' := h
  obtain ⟨hl, hk, hv, hc, hnb, hM, hd, hg⟩ := h
  have hvct : ¬ kd (48 * i + x) = 0 → vl (48 * i + x) < ct := by
    intro g
    rcases hg i hi x hx with q | q
    · exact absurd q g
    · exact q
  unfold lval
  by_cases g1 : kd (48 * i + x) = 1
  · rw [if_pos g1]; exact adr_lt h' (hvct (by omega))
  · rw [if_neg g1]
    by_cases g2 : kd (48 * i + x) = 2
    · rw [if_pos g2]
      have := (hM.2.2 _ (hd _ (hvct (by omega)))).1
      omega
    · rw [if_neg g2]; exact hv _
theorem layx_lt {val : Nat → Nat} {base : Nat} {f : Nat → Nat} (hf : ∀ j, f j < 256) : ∀ n, (∀ x, x < n → val x < 256) → ∀ j, layx val base f n j < 256 := by
  intro n
  induction n with
  | zero => intro _; exact hf
  | succ n ih => intro hv; exact fu_lt (ih (fun x h => hv x (by omega))) (hv n (by omega))
theorem layx_out {val : Nat → Nat} {base : Nat} {f : Nat → Nat} {j : Nat} : ∀ n, (j < base ∨ base + n ≤ j) → layx val base f n j = f j := by
  intro n
  induction n with
  | zero => intro _; rfl
  | succ n ih =>
    intro h
    show fu (layx val base f n) (base + n) (val n) j = f j
    unfold fu
    rw [if_neg (by omega)]
    exact ih (by omega)
theorem layx_cg {val : Nat → Nat} {base : Nat} {f g : Nat → Nat} {j : Nat} (h : f j = g j) : ∀ n, layx val base f n j = layx val base g n j := by
  intro n
  induction n with
  | zero => exact h
  | succ n ih =>
    show fu (layx val base f n) (base + n) (val n) j = fu (layx val base g n) (base + n) (val n) j
    unfold fu
    rw [ih]
theorem layi_lt (h : lok ln kd vl ct nb M) {f : Nat → Nat} (hf : ∀ j, f j < 256) : ∀ i, i ≤ ct → ∀ j, layi ln (bas M) (lval kd vl M) f i j < 256 := by
  intro i
  induction i with
  | zero => intro _; exact hf
  | succ i ih => intro hi; exact layx_lt (ih (by omega)) (ln i) (fun x hx => lval_lt h (by omega) hx)
theorem layi_cg {base : Nat → Nat} {val : Nat → Nat → Nat} {f g : Nat → Nat} {j : Nat} (h : f j = g j) : ∀ i, layi ln base val f i j = layi ln base val g i j := by
  intro i
  induction i with
  | zero => exact h
  | succ i ih => exact layx_cg ih (ln i)
theorem bas_b (h : lok ln kd vl ct nb M) {i : Nat} (hi : i < ct) : 32 ≤ bas M i ∧ bas M i + ln i ≤ 64 * nb := by
  obtain ⟨hl, hk, hv, hc, hnb, hM, hd, hg⟩ := h
  obtain ⟨h1, h2, h3⟩ := hM.2.2 i (hd i hi)
  unfold bas
  by_cases g : M.2.1 i = 0
  · have := h3 g; omega
  · omega
theorem layi_out (h : lok ln kd vl ct nb M) {f : Nat → Nat} {j : Nat} (hj : j < 32 ∨ 64 * nb ≤ j) : ∀ i, i ≤ ct → layi ln (bas M) (lval kd vl M) f i j = f j := by
  intro i
  induction i with
  | zero => intro _; rfl
  | succ i ih =>
    intro hi
    have hb := bas_b h (i := i) (by omega)
    show layx (lval kd vl M i) (bas M i) (layi ln (bas M) (lval kd vl M) f i) (ln i) j = f j
    rw [layx_out (ln i) (by omega)]
    exact ih (by omega)
def fl (i : Nat) (f : Nat → Nat) : Nat → Nat := fun j => if j < i then 255 else f j
theorem fl_lt {f : Nat → Nat} (hf : ∀ j, f j < 256) (i : Nat) : ∀ j, fl i f j < 256 := by
  intro j; unfold fl; split
  · decide
  · exact hf j
theorem fl_u (f : Nat → Nat) (i : Nat) : fu (fl i f) i 255 = fl (i + 1) f := by
  funext j
  unfold fu fl
  by_cases h : j = i
  · rw [if_pos h, if_pos (by omega)]
  · rw [if_neg h]
    by_cases h2 : j < i
    · rw [if_pos h2, if_pos (by omega)]
    · rw [if_neg h2, if_neg (by omega)]
/-- the class's image -/
def imC (ln kd vl : Nat → Nat) (ct nb : Nat) (M : Pk) (f : Nat → Nat) : Nat → Nat := sealI (h4 (layi ln (bas M) (lval kd vl M) (fl (64 * nb) f) ct) (adr M 0) nb) nb
theorem c_mk36 (h : lok ln kd vl ct nb M) (h0 : 0 < ct) {f : Nat → Nat} (hf : ∀ j, f j < 256) {P : (Nat → Int32) → Int32 → Prop} (hP : P (nF (sealI (h4 (layi ln (bas M) (lval kd vl M) f ct) (adr M 0) nb) nb)) (nI nb)) : ∀ d i, i + d = ct → wp_K_make_36 (nF ln) (nF kd) (nF vl) (nI ct) (ov M.1 M.2.1 B0) (ov M.1 M.2.2.1 O0) P (d + 1) (nF (layi ln (bas M) (lval kd vl M) f i)) (nI nb) (nI i) := by
  have hc := h.2.2.2.1
  have hnb := h.2.2.2.2.1
  have hM := h.2.2.2.2.2.1
  have hd := h.2.2.2.2.2.2.1
  intro d
  induction d with
  | zero =>
    intro i hi
    have : i = ct := by omega
    subst this
    unfold wp_K_make_36
    refine ⟨fun _ => ?_, fun g => absurd (Int32.le_refl _) g⟩
    have hb := (hM.2.2 0 (hd 0 h0)).1
    exact c_adr (s := 0) (by omega) (hd 0 h0) (by omega) (sp_K_writeHead hnb (layi_lt h hf _ (Nat.le_refl _)) (adr_lt h h0) hP)
  | succ d ih =>
    intro i hi
    unfold wp_K_make_36
    refine ⟨fun g => absurd ((leN (n := ct) (k := i) rfl (by omega) (by omega)).mp g) (by omega), fun _ => ?_⟩
    refine sp_K_lay h (by omega) ?_
    rw [nI_1]
    exact ih (i + 1) (by omega)
theorem c_mk8 (h : lok ln kd vl ct nb M) (h0 : 0 < ct) {f : Nat → Nat} (hf : ∀ j, f j < 256) {N : Nat} (hN : N = 64 * nb) {P : (Nat → Int32) → Int32 → Prop} (hP : P (nF (imC ln kd vl ct nb M f)) (nI nb)) : ∀ d i, i + d = N → wp_K_make_8 (nF ln) (nF kd) (nF vl) (nI ct) (ov M.1 M.2.1 B0) (ov M.1 M.2.2.1 O0) P (d + 1) (nF (fl i f)) (nI nb) (nI i) := by
  have hnb := h.2.2.2.2.1
  have e64 : nI nb * (64 : Int32) = nI N := by rw [show (64 : Int32) = nI 64 from rfl, pk_mul, hN, Nat.mul_comm]
  intro d
  induction d with
  | zero =>
    intro i hi
    have : i = N := by omega
    subst this
    unfold wp_K_make_8 wp_K_size
    rw [e64]
    refine ⟨fun _ => ⟨ct + 1, ?_⟩, fun g => absurd (Int32.le_refl _) g⟩
    subst hN
    exact c_mk36 h h0 (fl_lt hf _) hP ct 0 (by omega)
  | succ d ih =>
    intro i hi
    unfold wp_K_make_8 wp_K_size
    rw [e64]
    refine ⟨fun g => absurd ((leN (n := N) (k := i) rfl (by omega) (by omega)).mp g) (by omega), fun _ => ⟨vin (by omega) (by omega), ?_⟩⟩
    rw [clN (by omega), show (255 : Int32) = nI 255 from rfl, nF_u, fl_u, nI_1]
    exact ih (i + 1) (by omega)
theorem sp_K_make (h : lok ln kd vl ct nb M) (h0 : 0 < ct) {f : Nat → Nat} (hf : ∀ j, f j < 256) {bc : Int32} {P : (Nat → Int32) → Int32 → Prop} (hP : P (nF (imC ln kd vl ct nb M f)) (nI nb)) : wp_K_make (nF ln) (nF kd) (nF vl) (nI ct) (nF f) bc (ov M.1 M.2.1 B0) (ov M.1 M.2.2.1 O0) (nI nb) P := by
  have q := c_mk8 (B0 := B0) (O0 := O0) h h0 hf (N := 64 * nb) rfl hP (64 * nb) 0 (by omega)
  rw [show fl 0 f = f by funext j; unfold fl; rw [if_neg (by omega)]] at q
  exact ⟨64 * nb + 1, q⟩
/-! the reference's -/
def hbt (M : Pk) (nb j : Nat) : Nat := if j = 1 then adr M 0 else if j = 6 then cod nb else hdn j
theorem hdn_hi : ∀ j, j < 32 → 16 ≤ j → hdn j = if j % 4 = 0 then 1 else if j % 4 = 1 then 10 else 0 := by decide +kernel
theorem hdn_mid : ∀ j, j < 16 → 7 ≤ j → hdn j = 0 := by decide +kernel
theorem q_mark (hnb : nb = 2 ∨ nb = 4 ∨ nb = 8) {j : Nat} (h2 : 2 ≤ j) (h7 : j < 7) {P : Int32 → Prop} (hP : P (nI (if j = 6 then cod nb else hdn j))) : wp_Q_mark (nI nb) (nI j) P := by
  unfold wp_Q_mark
  unfold cod at hP
  have e : ∀ i : Nat, i < 16 → ∀ x : Int32, x = nI i → (nI j = x ↔ j = i) := fun i hi x hx => eqN hx (by omega) (by omega)
  have b : ∀ i : Nat, i < 16 → ∀ x : Int32, x = nI i → (nI nb = x ↔ nb = i) := fun i hi x hx => eqN hx (by omega) (by omega)
  rw [e 2 (by omega) 2 rfl, e 3 (by omega) 3 rfl, e 4 (by omega) 4 rfl, e 5 (by omega) 5 rfl, b 2 (by omega) 2 rfl, b 4 (by omega) 4 rfl]
  refine ⟨fun g2 => ⟨fun g3 => ⟨fun g4 => ⟨fun g5 => ⟨fun c2 => ⟨fun c4 => ?_, fun c4 => ?_⟩, fun c2 => ?_⟩, fun g5 => ?_⟩, fun g4 => ?_⟩, fun g3 => ?_⟩, fun g2 => ?_⟩
  · rw [if_pos (by omega), if_pos (by omega)] at hP; exact hP
  · rw [if_pos (by omega), if_neg (by omega), if_pos c4] at hP; exact hP
  · rw [if_pos (by omega), if_neg (by omega), if_neg (by omega)] at hP; exact hP
  · subst g5; exact hP
  · subst g4; exact hP
  · subst g3; exact hP
  · subst g2; exact hP
theorem sp_Q_headByte (h : lok ln kd vl ct nb M) (h0 : 0 < ct) {j : Nat} (hj : j < 32) {P : Int32 → Prop} (hP : P (nI (hbt M nb j))) : wp_Q_headByte (ov M.1 (adr M) A0) (nI nb) (nI j) P := by
  have hnb := h.2.2.2.2.1
  have hd := h.2.2.2.2.2.2.1 0 h0
  unfold wp_Q_headByte
  unfold hbt at hP
  rw [r4 (by omega), s0, ov_a hd]
  refine bI2 (geN (k := 2) rfl (by omega) (by omega)) (fun g1 => bI2 (geN (k := 7) rfl (by omega) (by omega)) (fun g2 => bI2 (geN (k := 16) rfl (by omega) (by omega)) (fun g3 => ?_) (fun g3 => ?_)) (fun g2 => ?_)) (fun g1 => bN2 (eqN (k := 0) rfl (by omega) (by omega)) (fun g2 => ?_) (fun g2 => ?_))
  · rw [if_neg (by omega), if_neg (by omega), hdn_hi j hj g3] at hP
    refine bN2 (eqN (k := 0) rfl (by omega) (by omega)) (fun g4 => bN2 (eqN (k := 1) rfl (by omega) (by omega)) (fun g5 => ?_) (fun g5 => ?_)) (fun g4 => ?_)
    · rw [if_neg g4, if_neg g5] at hP; exact hP
    · rw [if_neg g4, if_pos g5] at hP; exact hP
    · rw [if_pos g4] at hP; exact hP
  · rw [if_neg (by omega), if_neg (by omega), hdn_mid j (by omega) g2] at hP; exact hP
  · rw [if_neg (by omega)] at hP
    exact q_mark hnb g1 (by omega) hP
  · rw [if_pos (by omega)] at hP; exact hP
  · subst g2; exact hP
def gfl (M : Pk) (nb i : Nat) (g : Nat → Nat) : Nat → Nat := fun j => if j < i then (if j < 32 then hbt M nb j else 255) else g j
theorem gfl_u (g : Nat → Nat) {i x : Nat} (hx : x = if i < 32 then hbt M nb i else 255) : fu (gfl M nb i g) i x = gfl M nb (i + 1) g := by
  funext j
  unfold fu gfl
  by_cases h : j = i
  · subst h; rw [if_pos rfl, if_pos (show j < j + 1 by omega)]; exact hx
  · rw [if_neg h]
    by_cases h2 : j < i
    · rw [if_pos h2, if_pos (show j < i + 1 by omega)]
    · rw [if_neg h2, if_neg (show ¬ j < i + 1 by omega)]
theorem hbt_lt (h : lok ln kd vl ct nb M) (h0 : 0 < ct) {j : Nat} (hj : j < 32) : hbt M nb j < 256 := by
  unfold hbt
  split
  · exact adr_lt h h0
  · split
    · exact cod_lt nb
    · exact hdn_lt j hj
theorem gfl_lt (h : lok ln kd vl ct nb M) (h0 : 0 < ct) {g : Nat → Nat} (hg : ∀ j, g j < 256) (i : Nat) : ∀ j, gfl M nb i g j < 256 := by
  intro j
  unfold gfl
  by_cases h1 : j < i
  · rw [if_pos h1]
    by_cases h2 : j < 32
    · rw [if_pos h2]; exact hbt_lt h h0 h2
    · rw [if_neg h2]; decide
  · rw [if_neg h1]; exact hg j
theorem q_b77 (h : lok ln kd vl ct nb M) {i : Nat} (hi : i < ct) {f : Nat → Nat} {K46 : Int32 → (Nat → Int32) → Int32 → Prop} {P : Int32 → (Nat → Int32) → Prop} {base : Nat} (hbase : ln i = 0 ∨ base = bas M i) (hK : K46 (nI nb) (nF (layx (lval kd vl M i) (bas M i) f (ln i))) (nI (i + 1))) : ∀ d x, x + d = ln i → wp_Q_build_77 (nI ct) (nF ln) (nF vl) (nF kd) (ov M.1 M.2.1 B0) (ov M.1 (adr M) A0) K46 P (d + 1) (nI nb) (nF (layx (lval kd vl M i) (bas M i) f x)) (nI i) (nI base) (nI x) := by
  have hbs := bas_b h hi
  obtain ⟨hl, hk, hv, hc, hnb, hM, hd, hg⟩ := h
  have hl1 := hl i
  intro d
  induction d with
  | zero =>
    intro x hx
    unfold wp_Q_build_77
    rw [clN (by omega), nF_a, nI_1]
    refine ⟨vin (by omega) (by omega), fun _ => ?_, fun g => absurd ((leN (n := ln i) (k := x) rfl (by omega) (by omega)).mpr (by omega)) g⟩
    rw [show x = ln i by omega]; exact hK
  | succ d ih =>
    intro x hx
    have hk1 := hk (48 * i + x)
    have hv1 := hv (48 * i + x)
    have hb : base = bas M i := by
      rcases hbase with q | q
      · omega
      · exact q
    unfold wp_Q_build_77
    rw [clN (by omega), nF_a, show (48 : Int32) = nI 48 from rfl, pk_mul, nI_add, nI_add, clN (by omega), clN (by omega), nF_a, nF_a, nI_1, nI_1]
    refine ⟨vin (by omega) (by omega), fun g => absurd ((leN (n := ln i) (k := x) rfl (by omega) (by omega)).mp g) (by omega), fun _ => ⟨vin (by omega) (by omega), fun z3 e3 => ⟨vin (by omega) (by omega), fun z4 e4 => ?_⟩⟩⟩
    subst e3 e4
    have nx := ih (x + 1) (by omega)
    unfold layx at nx
    rw [← nF_u] at nx
    subst hb
    have hvct : ¬ kd (48 * i + x) = 0 → vl (48 * i + x) < ct := by
      intro g
      rcases hg i hi x (by omega) with q | q
      · exact absurd q g
      · exact q
    refine bN2 (eqN (k := 0) rfl (by omega) (by omega)) (fun g1 => ?_) (fun g1 => ⟨vin (by omega) (by omega), ?_⟩)
    · have hq := hvct g1
      rw [clN (by omega), ov_a (hd _ hq), ov_a (hd _ hq)]
      refine bN2 (eqN (k := 1) rfl (by omega) (by omega)) (fun g2 => ⟨vin (by omega) (by omega), vin (by omega) (by omega), ?_⟩) (fun g2 => ⟨vin (by omega) (by omega), vin (by omega) (by omega), ?_⟩)
      · rw [show lval kd vl M i x = M.2.1 (vl (48 * i + x)) by unfold lval; rw [if_neg g2, if_pos (by omega)]] at nx
        exact nx
      · rw [show lval kd vl M i x = adr M (vl (48 * i + x)) by unfold lval; rw [if_pos g2]] at nx
        exact nx
    · rw [show lval kd vl M i x = vl (48 * i + x) by unfold lval; rw [if_neg (by omega), if_neg (by omega)]] at nx
      exact nx
/-- the reference's image -/
def imQ (ln kd vl : Nat → Nat) (ct nb : Nat) (M : Pk) (g : Nat → Nat) : Nat → Nat := sealI (layi ln (bas M) (lval kd vl M) (gfl M nb (64 * nb) g) ct) nb
theorem q_b46 (h : lok ln kd vl ct nb M) {f : Nat → Nat} (hf : ∀ j, f j < 256) {P : Int32 → (Nat → Int32) → Prop} (hP : P (nI nb) (nF (sealI (layi ln (bas M) (lval kd vl M) f ct) nb))) : ∀ d i, i + d = ct → wp_Q_build_46 (nI ct) (nF ln) (nF vl) (nF kd) (ov M.1 M.2.1 B0) (ov M.1 (adr M) A0) P (d + 1) (nI nb) (nF (layi ln (bas M) (lval kd vl M) f i)) (nI i) := by
  have hc := h.2.2.2.1
  have hnb := h.2.2.2.2.1
  have hM := h.2.2.2.2.2.1
  have hd := h.2.2.2.2.2.2.1
  intro d
  induction d with
  | zero =>
    intro i hi
    have : i = ct := by omega
    subst this
    unfold wp_Q_build_46
    refine ⟨fun _ => ?_, fun g => absurd (Int32.le_refl _) g⟩
    have hg := layi_lt h hf i (Nat.le_refl _)
    generalize layi ln (bas M) (lval kd vl M) f i = g at hP hg ⊢
    refine sp_Q_headCheck hg ?_
    rw [s13, s14, s15, nF_u]
    refine sp_Q_imageCheck (f := sl5 g) (sl5_lt hg) hnb ?_
    have h := ick_lt (sl5 g) nb
    rw [shr8 (by omega), n255, nF_u, nF_u]
    exact hP
  | succ d ih =>
    intro i hi
    have hi2 : i < ct := by omega
    obtain ⟨b1, b2, b3⟩ := hM.2.2 i (hd i hi2)
    unfold wp_Q_build_46
    refine ⟨fun g => absurd ((leN (n := ct) (k := i) rfl (by omega) (by omega)).mp g) (by omega), fun _ => ⟨vin (by omega) (by omega), vin (by omega) (by omega), fun z4 e4 => ⟨ln i + 1, ?_⟩⟩⟩
    have ha : adr M i < 256 := adr_lt h hi2
    rw [clN (by omega), ov_a (hd i hi2), ov_a (hd i hi2), show (64 : Int32) = nI 64 from rfl, pk_rem (by omega) (by omega) (by omega), pk_mul, nI_add] at e4
    subst e4
    refine q_b77 h hi2 ?_ (ih (i + 1) (by omega)) (ln i) 0 (by omega)
    by_cases g : ln i = 0
    · exact Or.inl g
    · refine Or.inr ?_
      unfold bas adr
      by_cases g2 : M.2.1 i = 0
      · rw [if_pos g2]; omega
      · rw [if_neg g2]; omega
theorem q_b7 (h : lok ln kd vl ct nb M) (h0 : 0 < ct) {g : Nat → Nat} (hg : ∀ j, g j < 256) {N : Nat} (hN : N = 64 * nb) {P : Int32 → (Nat → Int32) → Prop} (hP : P (nI nb) (nF (imQ ln kd vl ct nb M g))) : ∀ d i, i + d = N → wp_Q_build_7 (nI ct) (nF ln) (nF vl) (nF kd) (ov M.1 M.2.1 B0) (ov M.1 (adr M) A0) P (d + 1) (nI nb) (nF (gfl M nb i g)) (nI nb) (nI i) := by
  have hnb := h.2.2.2.2.1
  have e64 : (64 : Int32) * nI nb = nI N := by rw [show (64 : Int32) = nI 64 from rfl, pk_mul, hN]
  intro d
  induction d with
  | zero =>
    intro i hi
    have : i = N := by omega
    subst this
    unfold wp_Q_build_7
    rw [e64]
    refine ⟨fun _ => ⟨ct + 1, ?_⟩, fun g => absurd (Int32.le_refl _) g⟩
    subst hN
    exact q_b46 h (gfl_lt h h0 hg _) hP ct 0 (by omega)
  | succ d ih =>
    intro i hi
    unfold wp_Q_build_7
    rw [e64]
    refine ⟨fun g => absurd ((leN (n := N) (k := i) rfl (by omega) (by omega)).mp g) (by omega), fun _ => bI2 (geN (k := 32) rfl (by omega) (by omega)) (fun g => ⟨vin (by omega) (by omega), ?_⟩) (fun g => ?_)⟩
    · rw [clN (by omega), show (255 : Int32) = nI 255 from rfl, nF_u, gfl_u _ (by rw [if_neg (by omega)]), nI_1]
      exact ih (i + 1) (by omega)
    · refine sp_Q_headByte h h0 (by omega) ⟨vin (by omega) (by omega), ?_⟩
      rw [clN (by omega), nF_u, gfl_u _ (by rw [if_pos (by omega)]), nI_1]
      exact ih (i + 1) (by omega)
theorem sp_Q_build (h : lok ln kd vl ct nb M) (h0 : 0 < ct) {g : Nat → Nat} (hg : ∀ j, g j < 256) {bk : Int32} {P : Int32 → (Nat → Int32) → Prop} (hP : P (nI nb) (nF (imQ ln kd vl ct nb M g))) : wp_Q_build (nI ct) (nF ln) (nF vl) (nF kd) (ov M.1 M.2.1 B0) (ov M.1 (adr M) A0) bk (nF g) (nI nb) P := by
  have q := q_b7 (B0 := B0) (A0 := A0) h h0 hg (N := 64 * nb) rfl hP (64 * nb) 0 (by omega)
  rw [show gfl M nb 0 g = g by funext j; unfold gfl; rw [if_neg (by omega)]] at q
  exact ⟨64 * nb + 1, q⟩
/-! both are the same -/
theorem hsum_cg {f g : Nat → Nat} (h : ∀ j, j < 512 → f j = g j) : ∀ k, k ≤ 11 → hsum f k = hsum g k := by
  intro k
  induction k with
  | zero => intro _; rfl
  | succ k ih =>
    intro hk
    show hsum f k + f (2 + k) + 1 = hsum g k + g (2 + k) + 1
    rw [ih (by omega), h (2 + k) (by omega)]
theorem isum_cg {f g : Nat → Nat} (h : ∀ j, j < 512 → f j = g j) : ∀ k, k ≤ 512 → isum f k = isum g k := by
  intro k
  induction k with
  | zero => intro _; rfl
  | succ k ih =>
    intro hk
    show isum f k + (if k = 14 ∨ k = 15 then 0 else f k) = isum g k + (if k = 14 ∨ k = 15 then 0 else g k)
    rw [ih (by omega), h k (by omega)]
theorem hck_cg {f g : Nat → Nat} (h : ∀ j, j < 512 → f j = g j) : hck f = hck g := by
  unfold hck; rw [hsum_cg h 11 (Nat.le_refl _)]
theorem ick_cg {f g : Nat → Nat} (h : ∀ j, j < 512 → f j = g j) (hnb : nb ≤ 8) : ick f nb = ick g nb := by
  unfold ick; rw [isum_cg h (64 * nb) (by omega)]
theorem fu_cg {f g : Nat → Nat} {k x y : Nat} (h : ∀ j, j < 512 → f j = g j) (e : x = y) : ∀ j, j < 512 → fu f k x j = fu g k y j := by
  intro j hj
  subst e
  unfold fu
  rw [h j hj]
theorem seal_cg {f g : Nat → Nat} (h : ∀ j, j < 512 → f j = g j) (hnb : nb ≤ 8) : ∀ j, j < 512 → sealI f nb j = sealI g nb j := by
  have h5 : ∀ j, j < 512 → sl5 f j = sl5 g j := fu_cg h (hck_cg h)
  exact fu_cg (fu_cg h5 (by rw [ick_cg h5 hnb])) (by rw [ick_cg h5 hnb])
theorem im_eq (h : lok ln kd vl ct nb M) {f g : Nat → Nat} (hfg : ∀ j, j < 512 → f j = g j) : ∀ j, j < 512 → imC ln kd vl ct nb M f j = imQ ln kd vl ct nb M g j := by
  have hnb := h.2.2.2.2.1
  refine seal_cg (fun j hj => ?_) (by omega)
  unfold h4 fu hw
  by_cases h32 : j < 32
  · rw [layi_out h (f := gfl M nb (64 * nb) g) (Or.inl h32) ct (Nat.le_refl _)]
    unfold gfl hbt
    rw [if_pos h32, if_pos (show j < 64 * nb by omega), if_pos h32]
    by_cases h1 : j = 1
    · rw [if_neg (by omega), if_pos h1, if_pos h1]
    · by_cases h6 : j = 6
      · rw [if_pos h6, if_neg h1, if_pos h6]
      · rw [if_neg h6, if_neg h1, if_neg h1, if_neg h6]
  · rw [if_neg (by omega), if_neg (by omega), if_neg h32]
    refine layi_cg ?_ ct
    unfold fl gfl
    by_cases h2 : j < 64 * nb
    · rw [if_pos h2, if_pos h2, if_neg h32]
    · rw [if_neg h2, if_neg h2]; exact hfg j hj
theorem imC_lt (h : lok ln kd vl ct nb M) (h0 : 0 < ct) {f : Nat → Nat} (hf : ∀ j, f j < 256) : ∀ j, imC ln kd vl ct nb M f j < 256 := seal_lt (h4_lt (layi_lt h (fl_lt hf _) ct (Nat.le_refl _)) (adr_lt h h0))
theorem imQ_hi (h : lok ln kd vl ct nb M) {g : Nat → Nat} {j : Nat} (hj : 512 ≤ j) : imQ ln kd vl ct nb M g j = g j := by
  have hnb := h.2.2.2.2.1
  unfold imQ sealI sl5
  generalize hck _ = a
  generalize ick _ _ = b
  unfold fu
  rw [if_neg (by omega), if_neg (by omega), if_neg (by omega), layi_out h (Or.inr (by omega)) ct (Nat.le_refl _)]
  unfold gfl
  rw [if_neg (by omega)]
end MAKE
