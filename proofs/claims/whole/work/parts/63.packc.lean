/-! packing: the class -/
section PACKC
variable {pn ln : Nat → Nat} {nb ct : Nat} {B0 O0 E0 : Nat → Int32} {P : Int32 → (Nat → Int32) → (Nat → Int32) → (Nat → Int32) → Prop}
theorem c_fits {e : Nat → Nat} {k n : Nat} (hk : k < 8) (he : e k ≤ 64) (hn : n ≤ 48) {Q : Int32 → Prop} (h1 : e k + n ≤ 64 → Q 1) (h0 : ¬ e k + n ≤ 64 → Q 0) : wp_P_fits (oe e E0) (nI k) (nI n) Q := by
  unfold wp_P_fits
  rw [clN (by omega), oe_a _ _ hk, nI_add]
  exact ⟨vin hk (by omega), bI2 (gtN (k := 64) rfl (by omega) (by omega)) (fun g => h0 (by omega)) (fun g => h1 (by omega))⟩
theorem c_put {M : Pk} {s k n : Nat} (hs : s < 10) (hk : k < 8) {Q : (Nat → Int32) → (Nat → Int32) → (Nat → Int32) → Prop} (h : Q (ov (pput M s k n).1 (pput M s k n).2.1 B0) (ov (pput M s k n).1 (pput M s k n).2.2.1 O0) (oe (pput M s k n).2.2.2 E0)) : wp_P_put (ov M.1 M.2.1 B0) (ov M.1 M.2.2.1 O0) (oe M.2.2.2 E0) (nI s) (nI k) (nI n) Q := by
  unfold wp_P_put
  rw [clN (by omega), clN (by omega), oe_a _ _ hk, ov_u, ov_u, nI_add, oe_u _ _ hk]
  exact ⟨vin hs (by omega), vin hk (by omega), vin hs (by omega), vin hk (by omega), vin hk (by omega), h⟩
theorem c_low {M : Pk} {s n : Nat} (hs : s < 10) (hn : n ≤ 48) (hb : nb ≤ 8) (he : ∀ k, M.2.2.2 k ≤ 64) : ∀ d k, k + d = nb → (low M.2.2.2 n d k = none → P 0 (ov M.1 M.2.1 B0) (ov M.1 M.2.2.1 O0) (oe M.2.2.2 E0)) → (∀ k', low M.2.2.2 n d k = some k' → P 1 (ov (pput M s k' n).1 (pput M s k' n).2.1 B0) (ov (pput M s k' n).1 (pput M s k' n).2.2.1 O0) (oe (pput M s k' n).2.2.2 E0)) → wp_P_packLowest_3 P (d + 1) (ov M.1 M.2.1 B0) (ov M.1 M.2.2.1 O0) (oe M.2.2.2 E0) (nI s) (nI n) (nI nb) (nI k) := by
  intro d
  induction d with
  | zero =>
    intro k hk h0 h1
    unfold wp_P_packLowest_3
    exact ⟨fun _ => h0 rfl, fun g => absurd ((leN (n := nb) (k := k) rfl (by omega) (by omega)).mpr (by omega)) g⟩
  | succ d ih =>
    intro k hk h0 h1
    unfold wp_P_packLowest_3
    unfold low at h0 h1
    refine ⟨fun g => absurd ((leN (n := nb) (k := k) rfl (by omega) (by omega)).mp g) (by omega), fun _ => ?_⟩
    refine c_fits (by omega) (he k) hn (fun g => ⟨fun q => absurd q (by decide), fun _ => ?_⟩) (fun g => ⟨fun _ => ?_, fun q => absurd rfl q⟩)
    · rw [if_pos g] at h1
      exact c_put hs (by omega) (h1 k rfl)
    · rw [if_neg g] at h0 h1
      rw [nI_1]
      exact ih (k + 1) (by omega) h0 h1
theorem c_pin (hp : ∀ j, pn j ≤ 8) (hl : ∀ j, ln j ≤ 48) (hb : nb ≤ 8) (hc : ct ≤ 10) : ∀ d i M, i + d = ct → pkI ln nb M → (ppin pn ln nb d i M = none → ∀ u v w, P 0 u v w) → (∀ M', ppin pn ln nb d i M = some M' → P 1 (ov M'.1 M'.2.1 B0) (ov M'.1 M'.2.2.1 O0) (oe M'.2.2.2 E0)) → wp_P_packPinned_2 (pF pn) (nF ln) (nI ct) P (d + 1) (ov M.1 M.2.1 B0) (ov M.1 M.2.2.1 O0) (oe M.2.2.2 E0) (nI nb) (nI i) := by
  intro d
  induction d with
  | zero =>
    intro i M hi hM h0 h1
    unfold wp_P_packPinned_2
    exact ⟨fun _ => h1 M rfl, fun g => absurd ((leN (n := ct) (k := i) rfl (by omega) (by omega)).mpr (by omega)) g⟩
  | succ d ih =>
    intro i M hi hM h0 h1
    unfold wp_P_packPinned_2
    unfold ppin at h0 h1
    have hl1 := hl i
    have hp1 := hp i
    refine ⟨fun g => absurd ((leN (n := ct) (k := i) rfl (by omega) (by omega)).mp g) (by omega), fun _ => ⟨vin (by omega) (by omega), fun z1 e1 => ?_⟩⟩
    rw [clN (by omega)] at e1 ⊢
    rw [pF_a] at e1
    subst e1
    rw [nF_a, nI_1]
    refine bN2 (pI_m hp1) (fun g => ?_) (fun g => ?_)
    · rw [if_neg g] at h0 h1
      rw [pI_n (by omega)]
      refine bI2 (leN (n := nb) (k := pn i) rfl (by omega) (by omega)) (fun g2 => ?_) (fun g2 => ⟨vin (by omega) (by omega), ?_⟩)
      · rw [if_neg (by omega)] at h0
        exact h0 rfl _ _ _
      · refine c_fits (by omega) (hM.1 _) hl1 (fun g3 => ⟨fun _ => ⟨vin (by omega) (by omega), ?_⟩, fun q => absurd q (by decide)⟩) (fun g3 => ⟨fun q => absurd rfl q, fun _ => ?_⟩)
        · rw [if_pos ⟨by omega, g3⟩] at h0 h1
          exact c_put (by omega) (by omega) (ih (i + 1) _ (by omega) (pkI_p hM (by omega) g3) h0 h1)
        · rw [if_neg (fun q => g3 q.2)] at h0
          exact h0 rfl _ _ _
    · rw [if_pos g] at h0 h1
      exact ih (i + 1) M (by omega) hM h0 h1
theorem c_fl1 (hp : ∀ j, pn j ≤ 8) (hl : ∀ j, ln j ≤ 48) (hb : nb ≤ 8) (hc : ct ≤ 10) {len : Nat} (hlen : len ≤ 48) {K3 : (Nat → Int32) → (Nat → Int32) → (Nat → Int32) → Int32 → Int32 → Prop} : ∀ d i M, i + d = ct → pkI ln nb M → (pfl1 pn ln nb len d i M = none → ∀ u v w, P 0 u v w) → (∀ M', pfl1 pn ln nb len d i M = some M' → K3 (ov M'.1 M'.2.1 B0) (ov M'.1 M'.2.2.1 O0) (oe M'.2.2.2 E0) (nI nb) (nI len + (-1 : Int32))) → wp_P_packFloating_10 (pF pn) (nF ln) (nI ct) K3 P (d + 1) (ov M.1 M.2.1 B0) (ov M.1 M.2.2.1 O0) (oe M.2.2.2 E0) (nI nb) (nI len) (nI i) := by
  intro d
  induction d with
  | zero =>
    intro i M hi hM h0 h1
    unfold wp_P_packFloating_10
    exact ⟨fun _ => h1 M rfl, fun g => absurd ((leN (n := ct) (k := i) rfl (by omega) (by omega)).mpr (by omega)) g⟩
  | succ d ih =>
    intro i M hi hM h0 h1
    unfold wp_P_packFloating_10
    unfold pfl1 at h0 h1
    have hl1 := hl i
    have hp1 := hp i
    have no : ¬ (pn i = 8 ∧ ln i = len) → wp_P_packFloating_46 (pF pn) (nF ln) (nI ct) K3 (wp_P_packFloating_10 (pF pn) (nF ln) (nI ct) K3 P (d + 1)) P (ov M.1 M.2.1 B0) (ov M.1 M.2.2.1 O0) (oe M.2.2.2 E0) (nI nb) (nI len) (nI i) 0 := by
      intro g
      rw [if_neg g] at h0 h1
      refine ⟨fun _ => ?_, fun q => absurd rfl q⟩
      rw [nI_1]
      exact ih (i + 1) M (by omega) hM h0 h1
    refine ⟨fun g => absurd ((leN (n := ct) (k := i) rfl (by omega) (by omega)).mp g) (by omega), fun _ => ⟨vin (by omega) (by omega), ?_⟩⟩
    rw [clN (by omega), pF_a, nF_a]
    refine bN2 (pI_m hp1) (fun g => no (fun q => g q.1)) (fun g => ⟨vin (by omega) (by omega), ?_⟩)
    refine bN2 (eqN (k := len) rfl (by omega) (by omega)) (fun g2 => no (fun q => g2 q.2)) (fun g2 => ⟨fun q => absurd q (by decide), fun _ => ⟨nb + 1, ?_⟩⟩)
    rw [if_pos ⟨g, g2⟩] at h0 h1
    refine c_low (by omega) hlen hb hM.1 nb 0 (by omega) (fun hn => ⟨fun q => absurd rfl q, fun _ => ?_⟩) (fun k' hk' => ⟨fun _ => ?_, fun q => absurd q (by decide)⟩)
    · rw [hn] at h0
      exact h0 rfl _ _ _
    · rw [hk'] at h0 h1
      rw [nI_1]
      obtain ⟨a1, a2⟩ := low_lt nb 0 k' hk'
      have hI : pkI ln nb (pput M i k' len) := by
        have := pkI_p hM (s := i) (k := k') (by omega) (by rw [g2]; exact a2)
        rw [g2] at this; exact this
      exact ih (i + 1) _ (by omega) hI h0 h1
theorem c_fl (hp : ∀ j, pn j ≤ 8) (hl : ∀ j, ln j ≤ 48) (hb : nb ≤ 8) (hc : ct ≤ 10) : ∀ m M, m ≤ 49 → pkI ln nb M → (pfl pn ln nb ct m M = none → ∀ u v w, P 0 u v w) → (∀ M', pfl pn ln nb ct m M = some M' → P 1 (ov M'.1 M'.2.1 B0) (ov M'.1 M'.2.2.1 O0) (oe M'.2.2.2 E0)) → wp_P_packFloating_3 (pF pn) (nF ln) (nI ct) P (m + 1) (ov M.1 M.2.1 B0) (ov M.1 M.2.2.1 O0) (oe M.2.2.2 E0) (nI nb) (nI m - 1) := by
  intro m
  induction m with
  | zero =>
    intro M _ hM h0 h1
    unfold wp_P_packFloating_3
    exact ⟨fun _ => h1 M rfl, fun g => absurd (by decide) g⟩
  | succ m ih =>
    intro M hm hM h0 h1
    unfold wp_P_packFloating_3
    unfold pfl at h0 h1
    have e : nI (m + 1) - (1 : Int32) = nI m := by rw [show (1 : Int32) = nI 1 from rfl, nsub' (by omega)]; rfl
    rw [e]
    refine ⟨fun g => absurd ((ltN (k := 0) rfl (by omega) (by omega)).mp g) (by omega), fun _ => ⟨ct + 1, ?_⟩⟩
    refine c_fl1 hp hl hb hc (by omega) ct 0 M (by omega) hM (fun hn => ?_) (fun M' hs => ?_)
    · rw [hn] at h0
      exact h0 rfl
    · rw [hs] at h0 h1
      rw [← Int32.sub_eq_add_neg]
      exact ih M' (by omega) (pfl1_I ct 0 M M' hM hs).1 h0 h1
def pe (i : Nat) (g : Nat → Int32) : Nat → Int32 := fun j => if j < i then (if j = 0 then 32 else 0) else g j
theorem pe_u {g : Nat → Int32} {i : Nat} {x : Int32} (hx : x = if i = 0 then 32 else 0) : upd (pe i g) i x = pe (i + 1) g := by
  funext j
  unfold upd pe
  by_cases h : j = i
  · subst h
    rw [if_pos rfl, if_pos (show j < j + 1 by omega)]; exact hx
  · rw [if_neg h]
    by_cases h2 : j < i
    · rw [if_pos h2, if_pos (show j < i + 1 by omega)]
    · rw [if_neg h2, if_neg (show ¬ j < i + 1 by omega)]
theorem pe_8 (g : Nat → Int32) : pe 8 g = oe pk0.2.2.2 g := by
  funext j
  unfold pe oe
  by_cases h : j < 8
  · rw [if_pos h, if_pos h]
    show _ = nI (if j = 0 then 32 else 0)
    split <;> rfl
  · rw [if_neg h, if_neg h]
theorem pe_0 (g : Nat → Int32) : pe 0 g = g := by
  funext j; unfold pe; rw [if_neg (by omega)]
theorem ov_0 (f : Nat → Nat) (g : Nat → Int32) : ov pk0.1 f g = g := by
  funext j
  unfold ov
  exact if_neg (show ¬ false = true by decide)
theorem c_pk {m : Nat} (hm : m ≤ 49) (h48 : (48 : Int32) = nI m - 1) {P : Int32 → (Nat → Int32) → (Nat → Int32) → (Nat → Int32) → Int32 → Prop} (hp : ∀ j, pn j ≤ 8) (hl : ∀ j, ln j ≤ 48) (hb : nb ≤ 8) (hc : ct ≤ 10) (h0 : ppk pn ln nb ct m = none → ∀ u v w, P 0 u v w (nI ct)) (h1 : ∀ M, ppk pn ln nb ct m = some M → P 1 (ov M.1 M.2.1 B0) (ov M.1 M.2.2.1 O0) (oe M.2.2.2 E0) (nI ct)) : ∀ d i, i + d = 8 → wp_P_pack_10 (pF pn) (nF ln) (nI ct) P (d + 1) B0 O0 (pe i E0) (nI ct) (nI nb) (nI i) := by
  intro d
  induction d with
  | zero =>
    intro i hi
    have : i = 8 := by omega
    subst this
    unfold wp_P_pack_10
    refine ⟨fun _ => ⟨ct + 1, ?_⟩, fun g => absurd (by decide) g⟩
    rw [pe_8]
    have key := c_pin (B0 := B0) (O0 := O0) (E0 := E0) (P := fun r1 w2 w3 w4 => (r1 = 0 → P (0 : Int32) w2 w3 w4 (nI ct)) ∧ (¬ r1 = 0 → wp_P_packFloating (pF pn) (nF ln) w2 w3 w4 (nI ct) (nI nb) (fun r5 w6 w7 w8 => (r5 = 0 → P (0 : Int32) w6 w7 w8 (nI ct)) ∧ (¬ r5 = 0 → P (1 : Int32) w6 w7 w8 (nI ct))))) hp hl hb hc ct 0 pk0 (by omega) (pk0_I ln nb) (fun hn u v w => ⟨fun _ => h0 (by unfold ppk; rw [hn]; rfl) u v w, fun q => absurd rfl q⟩) (fun M' hs => ⟨fun q => absurd q (by decide), fun _ => ⟨m + 1, ?_⟩⟩)
    · rw [ov_0, ov_0] at key
      exact key
    · have hM := (ppin_I ct 0 pk0 M' (pk0_I ln nb) hs).1
      have he : ppk pn ln nb ct m = pfl pn ln nb ct m M' := by unfold ppk; rw [hs]; rfl
      rw [he] at h0 h1
      rw [h48]
      exact c_fl hp hl hb hc m M' hm hM (fun hn u v w => ⟨fun _ => h0 hn u v w, fun q => absurd rfl q⟩) (fun M2 hs2 => ⟨fun q => absurd q (by decide), fun _ => h1 M2 hs2⟩)
  | succ d ih =>
    intro i hi
    unfold wp_P_pack_10
    refine ⟨fun g => absurd ((geN (k := 8) rfl (by omega) (by omega)).mp g) (by omega), fun _ => bN2 (eqN (k := 0) rfl (by omega) (by omega)) (fun g => ⟨vin (by omega) (by omega), ?_⟩) (fun g => ⟨vin (by omega) (by omega), ?_⟩)⟩
    · rw [clN (by omega), pe_u (by rw [if_neg g]), nI_1]
      exact ih (i + 1) (by omega)
    · rw [clN (by omega), pe_u (by rw [if_pos g]), nI_1]
      exact ih (i + 1) (by omega)
theorem sp_P_pack {T : Int32} {P : Int32 → (Nat → Int32) → (Nat → Int32) → (Nat → Int32) → Int32 → Prop} (hp : ∀ j, pn j ≤ 8) (hl : ∀ j, ln j ≤ 48) (hb : nb ≤ 8) (hc : ct ≤ 10) (h0 : ppack pn ln nb ct = none → ∀ u v w, P 0 u v w (nI ct)) (h1 : ∀ M, ppack pn ln nb ct = some M → P 1 (ov M.1 M.2.1 B0) (ov M.1 M.2.2.1 O0) (oe M.2.2.2 E0) (nI ct)) : wp_P_pack (pF pn) (nF ln) (nI ct) B0 O0 E0 T (nI nb) P := by
  have h := c_pk (m := 49) (Nat.le_refl _) (by decide) (B0 := B0) (O0 := O0) (E0 := E0) hp hl hb hc h0 h1 8 0 (by omega)
  rw [pe_0] at h
  exact ⟨9, h⟩
end PACKC
