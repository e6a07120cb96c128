/-! packing: the reference -/
section PACKQ
variable {pn ln : Nat → Nat} {nb ct : Nat} {B0 A0 F0 : Nat → Int32} {P : Int32 → (Nat → Int32) → (Nat → Int32) → (Nat → Int32) → Prop}
theorem q_put {M : Pk} {s k : Nat} (hs : s < 10) (hk : k < 8) (hb : nb ≤ 8) (he : M.2.2.2 k ≤ 64) (hl : ln s ≤ 48) (h0 : ¬ (k < nb ∧ M.2.2.2 k + ln s ≤ 64) → P 0 (ov M.1 M.2.1 B0) (ov M.1 (adr M) A0) (oe M.2.2.2 F0)) (h1 : k < nb → M.2.2.2 k + ln s ≤ 64 → P 1 (ov (pput M s k (ln s)).1 (pput M s k (ln s)).2.1 B0) (ov (pput M s k (ln s)).1 (adr (pput M s k (ln s))) A0) (oe (pput M s k (ln s)).2.2.2 F0)) : wp_Q_put (nF ln) (ov M.1 M.2.1 B0) (ov M.1 (adr M) A0) (oe M.2.2.2 F0) (nI s) (nI k) (nI nb) P := by
  unfold wp_Q_put wp_Q_put_53
  rw [adr_p] at h1
  rw [clN (by omega), clN (by omega), oe_a _ _ hk, nF_a, ov_u, nI_add, oe_u _ _ hk]
  refine bI2 (leN (n := nb) (k := k) rfl (by omega) (by omega)) (fun g => h0 (by omega)) (fun g => ⟨vin hk (by omega), vin hs (by omega), ?_⟩)
  refine bI2 (leN (k := 64) rfl (by omega) (by omega)) (fun g2 => ⟨vin hs (by omega), vin hk (by omega), ?_⟩) (fun g2 => h0 (by omega))
  have h := h1 (by omega) g2
  refine bI2 (leN (k := 0) rfl (by omega) (by omega)) (fun g3 => ⟨vin hs (by omega), vin hk (by omega), vin hs (by omega), vin hk (by omega), ?_⟩) (fun g3 => ⟨vin hs (by omega), vin hk (by omega), vin hs (by omega), vin hk (by omega), ?_⟩)
  · rw [if_pos (by omega)] at h
    rw [show (0 : Int32) = nI 0 from rfl, nI_add, ov_u]
    exact h
  · rw [if_neg (by omega)] at h
    rw [show (64 : Int32) = nI 64 from rfl, nI_add, ov_u]
    exact h
theorem q_low {M : Pk} {s : Nat} (hs : s < 10) (hl : ln s ≤ 48) (hb : nb ≤ 8) (he : ∀ k, M.2.2.2 k ≤ 64) {X : Int32} {K76 : (Nat → Int32) → (Nat → Int32) → (Nat → Int32) → Int32 → Int32 → Prop} {K82 : (Nat → Int32) → (Nat → Int32) → (Nat → Int32) → Int32 → Int32 → Int32 → Prop} : ∀ d k, k + d = nb → (low M.2.2.2 (ln s) d k = none → ∀ u v w, P 0 u v w) → (∀ k', low M.2.2.2 (ln s) d k = some k' → K82 (ov (pput M s k' (ln s)).1 (pput M s k' (ln s)).2.1 B0) (ov (pput M s k' (ln s)).1 (adr (pput M s k' (ln s))) A0) (oe (pput M s k' (ln s)).2.2.2 F0) (nI nb) X (nI (s + 1))) → wp_Q_pack_113 (nI ct) (pF pn) (nF ln) K76 K82 P (d + 1) (ov M.1 M.2.1 B0) (ov M.1 (adr M) A0) (oe M.2.2.2 F0) (nI nb) X (nI s) (nI k) := by
  intro d
  induction d with
  | zero =>
    intro k hk h0 h1
    unfold wp_Q_pack_113
    refine ⟨fun _ => ⟨fun g => absurd ((eqN (n := k) (k := nb) rfl (by omega) (by omega)).mpr (by omega)) g, fun _ => h0 rfl _ _ _⟩, fun g => absurd ((leN (n := nb) (k := k) rfl (by omega) (by omega)).mpr (by omega)) g⟩
  | succ d ih =>
    intro k hk h0 h1
    unfold wp_Q_pack_113
    unfold low at h0 h1
    refine ⟨fun g => absurd ((leN (n := nb) (k := k) rfl (by omega) (by omega)).mp g) (by omega), fun _ => ?_⟩
    rw [nI_1, nI_1]
    refine q_put hs (by omega) hb (he k) hl (fun g => ⟨fun q => absurd rfl q, fun _ => ?_⟩) (fun g1 g => ⟨fun _ => ⟨fun _ => ?_, fun q => absurd ((eqN (n := k) (k := nb) rfl (by omega) (by omega)).mp q) (by omega)⟩, fun q => absurd q (by decide)⟩)
    · rw [if_neg (by omega)] at h0 h1
      exact ih (k + 1) (by omega) h0 h1
    · rw [if_pos g] at h1
      exact h1 k rfl
theorem q_fl1 (hp : ∀ j, pn j ≤ 8) (hl : ∀ j, ln j ≤ 48) (hb : nb ≤ 8) (hc : ct ≤ 10) {len : Nat} (hlen : len ≤ 48) {K76 : (Nat → Int32) → (Nat → Int32) → (Nat → Int32) → Int32 → Int32 → Prop} : ∀ d i M, i + d = ct → pkI ln nb M → (pfl1 pn ln nb len d i M = none → ∀ u v w, P 0 u v w) → (∀ M', pfl1 pn ln nb len d i M = some M' → K76 (ov M'.1 M'.2.1 B0) (ov M'.1 (adr M') A0) (oe M'.2.2.2 F0) (nI nb) (nI len + (-1 : Int32))) → wp_Q_pack_82 (nI ct) (pF pn) (nF ln) K76 P (d + 1) (ov M.1 M.2.1 B0) (ov M.1 (adr M) A0) (oe M.2.2.2 F0) (nI nb) (nI len) (nI i) := by
  intro d
  induction d with
  | zero =>
    intro i M hi hM h0 h1
    unfold wp_Q_pack_82
    exact ⟨fun _ => h1 M rfl, fun g => absurd ((leN (n := ct) (k := i) rfl (by omega) (by omega)).mpr (by omega)) g⟩
  | succ d ih =>
    intro i M hi hM h0 h1
    unfold wp_Q_pack_82
    unfold pfl1 at h0 h1
    have hl1 := hl i
    have hp1 := hp i
    have no : ¬ (pn i = 8 ∧ ln i = len) → wp_Q_pack_82 (nI ct) (pF pn) (nF ln) K76 P (d + 1) (ov M.1 M.2.1 B0) (ov M.1 (adr M) A0) (oe M.2.2.2 F0) (nI nb) (nI len) (nI i + (1 : Int32)) := by
      intro g
      rw [if_neg g] at h0 h1
      rw [nI_1]
      exact ih (i + 1) M (by omega) hM h0 h1
    refine ⟨fun g => absurd ((leN (n := ct) (k := i) rfl (by omega) (by omega)).mp g) (by omega), fun _ => ⟨vin (by omega) (by omega), ?_⟩⟩
    rw [clN (by omega), pF_a, nF_a]
    refine bN2 (pI_m hp1) (fun g => no (fun q => g q.1)) (fun g => ⟨vin (by omega) (by omega), ?_⟩)
    refine bN2 (eqN (k := len) rfl (by omega) (by omega)) (fun g2 => no (fun q => g2 q.2)) (fun g2 => ⟨nb + 1, ?_⟩)
    rw [if_pos ⟨g, g2⟩] at h0 h1
    subst g2
    refine q_low (by omega) hl1 hb hM.1 nb 0 (by omega) (fun hn => ?_) (fun k' hk' => ?_)
    · rw [hn] at h0
      exact h0 rfl
    · rw [hk'] at h0 h1
      obtain ⟨a1, a2⟩ := low_lt nb 0 k' hk'
      exact ih (i + 1) _ (by omega) (pkI_p hM (by omega) a2) h0 h1
theorem q_fl (hp : ∀ j, pn j ≤ 8) (hl : ∀ j, ln j ≤ 48) (hb : nb ≤ 8) (hc : ct ≤ 10) : ∀ m M, m ≤ 49 → pkI ln nb M → (pfl pn ln nb ct m M = none → ∀ u v w, P 0 u v w) → (∀ M', pfl pn ln nb ct m M = some M' → P 1 (ov M'.1 M'.2.1 B0) (ov M'.1 (adr M') A0) (oe M'.2.2.2 F0)) → wp_Q_pack_76 (nI ct) (pF pn) (nF ln) P (m + 1) (ov M.1 M.2.1 B0) (ov M.1 (adr M) A0) (oe M.2.2.2 F0) (nI nb) (nI m - 1) := by
  intro m
  induction m with
  | zero =>
    intro M _ hM h0 h1
    unfold wp_Q_pack_76
    exact ⟨fun _ => h1 M rfl, fun g => absurd (by decide) g⟩
  | succ m ih =>
    intro M hm hM h0 h1
    unfold wp_Q_pack_76
    unfold pfl at h0 h1
    have e : nI (m + 1) - (1 : Int32) = nI m := by rw [show (1 : Int32) = nI 1 from rfl, nsub' (by omega)]; rfl
    rw [e]
    refine ⟨fun g => absurd ((ltN (k := 0) rfl (by omega) (by omega)).mp g) (by omega), fun _ => ⟨ct + 1, ?_⟩⟩
    refine q_fl1 hp hl hb hc (by omega) ct 0 M (by omega) hM (fun hn => ?_) (fun M' hs => ?_)
    · rw [hn] at h0
      exact h0 rfl
    · rw [hs] at h0 h1
      rw [← Int32.sub_eq_add_neg]
      exact ih M' (by omega) (pfl1_I ct 0 M M' hM hs).1 h0 h1
theorem q_pin {m : Nat} (hm : m ≤ 49) (h48 : (48 : Int32) = nI m - 1) (hp : ∀ j, pn j ≤ 8) (hl : ∀ j, ln j ≤ 48) (hb : nb ≤ 8) (hc : ct ≤ 10) : ∀ d i M, i + d = ct → pkI ln nb M → ((ppin pn ln nb d i M).bind (fun M => pfl pn ln nb ct m M) = none → ∀ u v w, P 0 u v w) → (∀ M', (ppin pn ln nb d i M).bind (fun M => pfl pn ln nb ct m M) = some M' → P 1 (ov M'.1 M'.2.1 B0) (ov M'.1 (adr M') A0) (oe M'.2.2.2 F0)) → wp_Q_pack_32 (nI ct) (pF pn) (nF ln) P (d + 1) (ov M.1 M.2.1 B0) (ov M.1 (adr M) A0) (oe M.2.2.2 F0) (nI nb) (nI i) := by
  intro d
  induction d with
  | zero =>
    intro i M hi hM h0 h1
    unfold wp_Q_pack_32
    refine ⟨fun _ => ⟨m + 1, ?_⟩, fun g => absurd ((leN (n := ct) (k := i) rfl (by omega) (by omega)).mpr (by omega)) g⟩
    rw [h48]
    exact q_fl hp hl hb hc m M hm hM h0 h1
  | succ d ih =>
    intro i M hi hM h0 h1
    unfold wp_Q_pack_32
    unfold ppin at h0 h1
    have hl1 := hl i
    have hp1 := hp i
    refine ⟨fun g => absurd ((leN (n := ct) (k := i) rfl (by omega) (by omega)).mp g) (by omega), fun _ => ⟨vin (by omega) (by omega), ?_⟩⟩
    rw [clN (by omega), pF_a, nI_1]
    refine bI2 (pI_m hp1) (fun g => ?_) (fun g => ⟨vin (by omega) (by omega), ?_⟩)
    · rw [if_pos g] at h0 h1
      exact ih (i + 1) M (by omega) hM h0 h1
    · rw [if_neg g] at h0 h1
      rw [pI_n (by omega)]
      refine q_put (by omega) (by omega) hb (hM.1 _) hl1 (fun g2 => ⟨fun q => absurd rfl q, fun _ => ?_⟩) (fun g2 g3 => ⟨fun _ => ?_, fun q => absurd q (by decide)⟩)
      · rw [if_neg g2] at h0
        exact h0 rfl _ _ _
      · rw [if_pos ⟨g2, g3⟩] at h0 h1
        exact ih (i + 1) _ (by omega) (pkI_p hM g2 g3) h0 h1
theorem q_pk {m : Nat} (hm : m ≤ 49) (h48 : (48 : Int32) = nI m - 1) (hp : ∀ j, pn j ≤ 8) (hl : ∀ j, ln j ≤ 48) (hb : nb ≤ 8) (hc : ct ≤ 10) (h0 : ppk pn ln nb ct m = none → ∀ u v w, P 0 u v w) (h1 : ∀ M, ppk pn ln nb ct m = some M → P 1 (ov M.1 M.2.1 B0) (ov M.1 (adr M) A0) (oe M.2.2.2 F0)) : ∀ d i, i + d = 8 → wp_Q_pack_2 (nI ct) (pF pn) (nF ln) P (d + 1) B0 A0 (pe i F0) (nI nb) (nI i) := by
  intro d
  induction d with
  | zero =>
    intro i hi
    have : i = 8 := by omega
    subst this
    unfold wp_Q_pack_2
    refine ⟨fun _ => ⟨ct + 1, ?_⟩, fun g => absurd (by decide) g⟩
    rw [pe_8]
    have key := q_pin (B0 := B0) (A0 := A0) (F0 := F0) (P := P) hm h48 hp hl hb hc ct 0 pk0 (by omega) (pk0_I ln nb) h0 h1
    rw [ov_0, ov_0] at key
    exact key
  | succ d ih =>
    intro i hi
    unfold wp_Q_pack_2
    refine ⟨fun g => absurd ((geN (k := 8) rfl (by omega) (by omega)).mp g) (by omega), fun _ => bN2 (eqN (k := 0) rfl (by omega) (by omega)) (fun g => ⟨vin (by omega) (by omega), ?_⟩) (fun g => ⟨vin (by omega) (by omega), ?_⟩)⟩
    · rw [clN (by omega), pe_u (by rw [if_neg g]), nI_1]
      exact ih (i + 1) (by omega)
    · rw [clN (by omega), pe_u (by rw [if_pos g]), nI_1]
      exact ih (i + 1) (by omega)
theorem sp_Q_pack (hp : ∀ j, pn j ≤ 8) (hl : ∀ j, ln j ≤ 48) (hb : nb ≤ 8) (hc : ct ≤ 10) (h0 : ppack pn ln nb ct = none → ∀ u v w, P 0 u v w) (h1 : ∀ M, ppack pn ln nb ct = some M → P 1 (ov M.1 M.2.1 B0) (ov M.1 (adr M) A0) (oe M.2.2.2 F0)) : wp_Q_pack (nI ct) (pF pn) (nF ln) B0 A0 F0 (nI nb) P := by
  have h := q_pk (m := 49) (Nat.le_refl _) (by decide) (B0 := B0) (A0 := A0) (F0 := F0) hp hl hb hc h0 h1 8 0 (by omega)
  rw [pe_0] at h
  exact ⟨9, h⟩
end PACKQ
/-! the places that name a section that isn't there; how many bytes there are -/
section KNOWN
variable {pn ln kd vl : Nat → Nat} {ct : Nat} {P : Int32 → Prop}
def gdx (kd vl : Nat → Nat) (ct i x : Nat) : Prop := kd (48 * i + x) = 0 ∨ vl (48 * i + x) < ct
def gda (ln kd vl : Nat → Nat) (ct i : Nat) : Prop := ∀ i', i' < i → ∀ x, x < ln i' → gdx kd vl ct i' x
theorem gda_s {i : Nat} (h : gda ln kd vl ct i) (h2 : ∀ x, x < ln i → gdx kd vl ct i x) : gda ln kd vl ct (i + 1) := by
  intro i' hi x hx
  by_cases g : i' = i
  · subst g; exact h2 x hx
  · exact h i' (by omega) x hx
theorem c_lk1 (hs : sok pn ln kd vl ct) {i : Nat} (hi : i < ct) (hg : gda ln kd vl ct i) (h1 : ¬ gda ln kd vl ct ct → P 1) {K2 : Int32 → Prop} (hK : gda ln kd vl ct (i + 1) → K2 (nI (i + 1))) : ∀ d x, x + d = ln i → (∀ y, y < x → gdx kd vl ct i y) → wp_S_lacksOne_12 (nF ln) (nF kd) (nF vl) (nI ct) K2 P (d + 1) (nI i) (nI x) := by
  obtain ⟨-, hl, hk2, hv, hc⟩ := hs
  have hl1 := hl i
  intro d
  induction d with
  | zero =>
    intro x hx hy
    unfold wp_S_lacksOne_12
    rw [clN (by omega), nF_a, nI_1]
    refine ⟨vin (by omega) (by omega), fun _ => hK (gda_s hg (fun y h => hy y (by omega))), fun g => absurd ((leN (n := ln i) (k := x) rfl (by omega) (by omega)).mpr (by omega)) g⟩
  | succ d ih =>
    intro x hx hy
    unfold wp_S_lacksOne_12
    rw [clN (by omega), nF_a, nI_1, nI_1]
    refine ⟨vin (by omega) (by omega), fun g => absurd ((leN (n := ln i) (k := x) rfl (by omega) (by omega)).mp g) (by omega), fun _ z1 e1 => ?_⟩
    rw [show (48 : Int32) = nI 48 from rfl, pk_mul, nI_add, show i * 48 + x = 48 * i + x by omega] at e1
    subst e1
    have hk1 := hk2 (48 * i + x)
    have hv1 := hv (48 * i + x)
    rw [clN (by omega), nF_a, nF_a]
    have nx : gdx kd vl ct i x → wp_S_lacksOne_12 (nF ln) (nF kd) (nF vl) (nI ct) K2 P (d + 1) (nI i) (nI (x + 1)) := by
      intro g
      refine ih (x + 1) (by omega) (fun y h => ?_)
      by_cases q : y = x
      · subst q; exact g
      · exact hy y (by omega)
    refine ⟨vin (by omega) (by omega), bI2 (eqN (k := 0) rfl (by omega) (by omega)) (fun g => nx (Or.inl g)) (fun g => ⟨vin (by omega) (by omega), ?_⟩)⟩
    refine bI2 (ltN (k := ct) rfl (by omega) (by omega)) (fun g2 => nx (Or.inr g2)) (fun g2 => h1 (fun h => ?_))
    rcases h i hi x (by omega) with q | q
    · exact g q
    · exact g2 q
theorem c_lk (hs : sok pn ln kd vl ct) (h1 : ¬ gda ln kd vl ct ct → P 1) (h0 : gda ln kd vl ct ct → P 0) : ∀ d i, i + d = ct → gda ln kd vl ct i → wp_S_lacksOne_2 (nF ln) (nF kd) (nF vl) (nI ct) P (d + 1) (nI i) := by
  have hc := hs.2.2.2.2
  intro d
  induction d with
  | zero =>
    intro i hi hg
    have : i = ct := by omega
    subst this
    unfold wp_S_lacksOne_2
    exact ⟨fun _ => h0 hg, fun g => absurd (Int32.le_refl _) g⟩
  | succ d ih =>
    intro i hi hg
    unfold wp_S_lacksOne_2
    refine ⟨fun g => absurd ((leN (n := ct) (k := i) rfl (by omega) (by omega)).mp g) (by omega), fun _ => ⟨ln i + 1, ?_⟩⟩
    exact c_lk1 hs (by omega) hg h1 (fun h => ih (i + 1) (by omega) h) (ln i) 0 (by omega) (fun y h => by omega)
theorem sp_S_lacksOne (hs : sok pn ln kd vl ct) (h1 : ¬ gda ln kd vl ct ct → P 1) (h0 : gda ln kd vl ct ct → P 0) : wp_S_lacksOne (nF ln) (nF kd) (nF vl) (nI ct) P := ⟨ct + 1, c_lk hs h1 h0 ct 0 (by omega) (fun i' h => by omega)⟩
theorem q_kn1 (hs : sok pn ln kd vl ct) {i : Nat} (hi : i < ct) {K4 : Int32 → Int32 → Prop} (hK1 : gda ln kd vl ct (i + 1) → K4 1 (nI (i + 1))) (hK0 : ¬ gda ln kd vl ct ct → K4 0 (nI (i + 1))) : ∀ d x, x + d = ln i → (∀ b : Int32, (b = 1 ∧ gda ln kd vl ct i ∧ (∀ y, y < x → gdx kd vl ct i y)) ∨ (b = 0 ∧ ¬ gda ln kd vl ct ct) → wp_Q_allKnown_17 (nI ct) (nF ln) (nF vl) (nF kd) K4 P (d + 1) b (nI i) (nI (48 * i + x))) := by
  obtain ⟨-, hl, hk2, hv, hc⟩ := hs
  have hl1 := hl i
  intro d
  induction d with
  | zero =>
    intro x hx b hb
    unfold wp_Q_allKnown_17
    rw [clN (by omega), nF_a, nI_1, show (48 : Int32) = nI 48 from rfl, pk_mul, nI_add]
    refine ⟨vin (by omega) (by omega), fun _ => ?_, fun g => absurd ((leN (n := 48 * i + ln i) (k := 48 * i + x) rfl (by omega) (by omega)).mpr (by omega)) g⟩
    rcases hb with ⟨rfl, hg, hy⟩ | ⟨rfl, hg⟩
    · exact hK1 (gda_s hg (fun y h => hy y (by omega)))
    · exact hK0 hg
  | succ d ih =>
    intro x hx b hb
    have hk1 := hk2 (48 * i + x)
    have hv1 := hv (48 * i + x)
    unfold wp_Q_allKnown_17
    rw [clN (by omega), clN (by omega), nF_a, nF_a, nF_a, nI_1, nI_1, show (48 : Int32) = nI 48 from rfl, pk_mul, nI_add]
    refine ⟨vin (by omega) (by omega), fun g => absurd ((leN (n := 48 * i + ln i) (k := 48 * i + x) rfl (by omega) (by omega)).mp g) (by omega), fun _ => ?_⟩
    rcases hb with ⟨rfl, hg, hy⟩ | ⟨rfl, hg⟩
    · have nx : gdx kd vl ct i x → wp_Q_allKnown_17 (nI ct) (nF ln) (nF vl) (nF kd) K4 P (d + 1) 1 (nI i) (nI (48 * i + x + 1)) := by
        intro g
        refine ih (x + 1) (by omega) 1 (Or.inl ⟨rfl, hg, fun y h => ?_⟩)
        by_cases q : y = x
        · subst q; exact g
        · exact hy y (by omega)
      refine ⟨fun g => absurd g (by decide), fun _ => ⟨vin (by omega) (by omega), bI2 (eqN (k := 0) rfl (by omega) (by omega)) (fun g => nx (Or.inl g)) (fun g => ⟨vin (by omega) (by omega), ?_⟩)⟩⟩
      refine bI2 (leN (n := ct) (k := vl (48 * i + x)) rfl (by omega) (by omega)) (fun g2 => ?_) (fun g2 => nx (Or.inr (by omega)))
      refine ih (x + 1) (by omega) 0 (Or.inr ⟨rfl, fun h => ?_⟩)
      rcases h i hi x (by omega) with q | q
      · exact g q
      · omega
    · exact ⟨fun _ => ih (x + 1) (by omega) 0 (Or.inr ⟨rfl, hg⟩), fun g => absurd rfl g⟩
theorem q_kn (hs : sok pn ln kd vl ct) (h0 : ¬ gda ln kd vl ct ct → P 0) (h1 : gda ln kd vl ct ct → P 1) : ∀ d i, i + d = ct → ∀ b : Int32, (b = 1 ∧ gda ln kd vl ct i) ∨ (b = 0 ∧ ¬ gda ln kd vl ct ct) → wp_Q_allKnown_4 (nI ct) (nF ln) (nF vl) (nF kd) P (d + 1) b (nI i) := by
  have hc := hs.2.2.2.2
  intro d
  induction d with
  | zero =>
    intro i hi b hb
    have : i = ct := by omega
    subst this
    unfold wp_Q_allKnown_4
    refine ⟨fun _ => ?_, fun g => absurd (Int32.le_refl _) g⟩
    rcases hb with ⟨rfl, hg⟩ | ⟨rfl, hg⟩
    · exact ⟨by decide, h1 hg⟩
    · exact ⟨by decide, h0 hg⟩
  | succ d ih =>
    intro i hi b hb
    unfold wp_Q_allKnown_4
    refine ⟨fun g => absurd ((leN (n := ct) (k := i) rfl (by omega) (by omega)).mp g) (by omega), fun _ z1 e1 => ⟨ln i + 1, ?_⟩⟩
    rw [show (48 : Int32) = nI 48 from rfl, pk_mul] at e1
    subst e1
    refine q_kn1 hs (by omega) (fun h => ih (i + 1) (by omega) 1 (Or.inl ⟨rfl, h⟩)) (fun h => ih (i + 1) (by omega) 0 (Or.inr ⟨rfl, h⟩)) (ln i) 0 (by omega) b ?_
    rcases hb with ⟨rfl, hg⟩ | ⟨rfl, hg⟩
    · exact Or.inl ⟨rfl, hg, fun y h => by omega⟩
    · exact Or.inr ⟨rfl, hg⟩
theorem sp_Q_allKnown (hs : sok pn ln kd vl ct) (h0 : ¬ gda ln kd vl ct ct → P 0) (h1 : gda ln kd vl ct ct → P 1) : wp_Q_allKnown (nI ct) (nF ln) (nF vl) (nF kd) P := ⟨ct + 1, q_kn hs h0 h1 ct 0 (by omega) 1 (Or.inl ⟨rfl, fun i' h => by omega⟩)⟩
def sumTo (ln : Nat → Nat) : Nat → Nat
  | 0 => 0
  | i + 1 => sumTo ln i + ln i
theorem c_tot (hs : sok pn ln kd vl ct) (h : P (nI (sumTo ln ct))) : ∀ d i, i + d = ct → wp_S_total_4 (nF ln) (nI ct) P (d + 1) (nI (sumTo ln i)) (nI i) := by
  have hc := hs.2.2.2.2
  intro d
  induction d with
  | zero =>
    intro i hi
    have : i = ct := by omega
    subst this
    unfold wp_S_total_4
    exact ⟨fun _ => h, fun g => absurd (Int32.le_refl _) g⟩
  | succ d ih =>
    intro i hi
    unfold wp_S_total_4
    refine ⟨fun g => absurd ((leN (n := ct) (k := i) rfl (by omega) (by omega)).mp g) (by omega), fun _ => ⟨vin (by omega) (by omega), fun z1 e1 => ?_⟩⟩
    rw [clN (by omega), nF_a, nI_add] at e1
    subst e1
    rw [nI_1]
    exact ih (i + 1) (by omega)
theorem sp_S_total (hs : sok pn ln kd vl ct) (h : P (nI (sumTo ln ct))) : wp_S_total (nF ln) (nI ct) P := ⟨ct + 1, c_tot hs h ct 0 (by omega)⟩
end KNOWN
