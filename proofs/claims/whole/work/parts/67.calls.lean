/-! the other calls -/
section CALLS
variable {S : St} {A B : Prop} {qc : Int32} {o : Nat → Int64}
theorem le_pred {a : Int32} {n : Nat} (hn : n < 1073741824) : (a ≤ nI n - (1 : Int32)) ↔ a < nI n := by
  rw [Int32.lt_iff_toInt_lt, Int32.le_iff_toInt_le, show (1 : Int32) = nI 1 from rfl, pk_sub_toInt (by omega) (by omega), nti (by omega)]
  omega
theorem out_p {a : Int32} {n : Nat} (hn : n < 1073741824) {P : Int32 → Prop} (h1 : a < 0 ∨ ¬ a < nI n → P 1) (h0 : ¬ a < 0 → a < nI n → P 0) : wp_Q_outside a (0 : Int32) (nI n - (1 : Int32)) P :=
  out_ (fun h => h1 (by rcases h with g | g; exact Or.inl g; exact Or.inr (fun q => g ((le_pred hn).mpr q)))) (fun g1 g2 => h0 g1 ((le_pred hn).mp g2))
theorem nlt {a : Int32} {n : Nat} : (¬ nI n ≤ a) ↔ a < nI n := by
  rw [Int32.lt_iff_toInt_lt, Int32.le_iff_toInt_le]; omega
/-- what is known of the last packing -/
def lrel (l_bk l_of q_pb q_pa : Nat → Int32) (M : Pk) (lk : Nat) : Prop := ∀ j, j < lk → l_bk j = nI (M.2.1 j) ∧ l_of j = nI (M.2.2.1 j) ∧ q_pb j = nI (M.2.1 j) ∧ q_pa j = nI (adr M j) ∧ M.2.1 j < 8
theorem pr_packed {l_bk l_of q_pb q_pa : Nat → Int32} {M : Pk} {lk : Nat} (hlk : lk ≤ 10) (hr : lrel l_bk l_of q_pb q_pa M lk) (hA : A) (hB : B) {a a2 : Int32} {K : Int32 → (Nat → Int64) → Int32 → Int32 → Prop}
    (hK : ∀ (r rq : Int32) (o' : Nat → Int64), (r = 0 → lg_cmp (o' (0 : Int32).toNatClampNeg) rq.toInt64 = 0) → K r o' rq r) :
    wp_L_packed l_bk l_of (nI lk) a a2 o (fun r1 o5 => A ∧ B ∧ wp_Q_packed qc (nI lk) q_pb q_pa a a2 (fun r6 w7 => K r1 o5 r6 w7)) := by
  have bad : K 1 o 0 1 := hK 1 0 o (fun h => absurd h (by decide))
  have one : a < 0 ∨ ¬ a < nI lk ∨ a2 < 0 ∨ ¬ a2 ≤ (1 : Int32) → wp_Q_packed qc (nI lk) q_pb q_pa a a2 (fun r6 w7 => K 1 o r6 w7) := by
    intro h
    refine out_p (by omega) (fun _ => ⟨fun _ => bad, fun g => absurd g (by decide)⟩) (fun g1 g2 => ⟨fun g => absurd rfl g, fun _ => out_ (fun _ => ⟨fun g => absurd g (by decide), fun _ => bad⟩) (fun g3 g4 => ?_)⟩)
    rcases h with h | h | h | h
    · exact absurd h g1
    · exact absurd g2 h
    · exact absurd h g3
    · exact absurd g4 h
  refine ⟨fun h => ⟨rfl, hA, hB, one (Or.inl h)⟩, fun h1 => ⟨fun h => ⟨rfl, hA, hB, one (Or.inr (Or.inl (fun q => (nlt.mpr q) h)))⟩, fun h2 => ⟨fun h => ⟨rfl, hA, hB, one (Or.inr (Or.inr (Or.inl h)))⟩, fun h3 => ⟨fun h4 => ?_, fun h => ⟨rfl, hA, hB, one (Or.inr (Or.inr (Or.inr h)))⟩⟩⟩⟩⟩
  obtain ⟨n, hn, rfl⟩ := exN h1 (nlt.mp h2) (by omega)
  obtain ⟨e1, e2, e3, e4, e5⟩ := hr n hn
  have q : ∀ P : Int32 → Int32 → Prop, (¬ a2 = 0 → P (q_pa n) 0) → (a2 = 0 → P (q_pb n) 0) → wp_Q_packed qc (nI lk) q_pb q_pa (nI n) a2 P := by
    intro P p1 p0
    refine out_p (by omega) (fun g => ?_) (fun g1 g2 => ⟨fun g => absurd rfl g, fun _ => out_ (fun g => ?_) (fun g3 g4 => ⟨fun _ => ?_, fun g => absurd rfl g⟩)⟩)
    · rcases g with g | g
      · exact absurd g h1
      · exact absurd (nlt.mp h2) g
    · rcases g with g | g
      · exact absurd g h3
      · exact absurd h4 g
    · rw [clN (by omega)]
      exact ⟨fun g => ⟨vin (by omega) (by omega), p1 g⟩, fun g => ⟨vin (by omega) (by omega), p0 g⟩⟩
  refine ⟨fun g => ?_, fun g => ⟨vin (by omega) (by omega), ?_⟩⟩
  · have fin : A ∧ B ∧ wp_Q_packed qc (nI lk) q_pb q_pa (nI n) a2 (fun r6 w7 => K 0 (vp_updL o (0 : Int32).toNatClampNeg (nI (adr M n)).toInt64) r6 w7) := ⟨hA, hB, q _ (fun _ => by rw [e4]; exact hK 0 _ _ (fun _ => cmp_same o _)) (fun h => absurd h g)⟩
    unfold wp_P_addressOf
    rw [clN (by omega), e1, e2]
    unfold adr at fin
    refine ⟨vin (by omega) (by omega), bN2 (eqN (k := 0) rfl (by omega) (by omega)) (fun g2 => ⟨vin (by omega) (by omega), ?_⟩) (fun g2 => ⟨vin (by omega) (by omega), ?_⟩)⟩
    · rw [if_neg g2] at fin
      rw [show (64 : Int32) = nI 64 from rfl, nI_add, Nat.add_comm]; exact fin
    · rw [if_pos g2] at fin; exact fin
  · rw [clN (by omega), e1]
    exact ⟨hA, hB, q _ (fun h => absurd g h) (fun _ => by rw [e3]; exact hK 0 _ _ (fun _ => cmp_same o _))⟩
theorem im_mm {j : Nat} (h : j < 512) : mm_ S j = im_ S j := if_pos h
theorem mm_im {k b : Nat} (hk : k < 512) : fu (mm_ S) k b = mm_ (s_im S (fu (im_ S) k b)) := by
  funext j
  unfold mm_
  simp only [ga_im_im, ga_ra_im, ga_up_im, ga_ma_im, ga_li_im]
  unfold fu
  dsimp only
  by_cases h : j = k
  · rw [if_pos h, if_pos (by omega), if_pos h]
  · rw [if_neg h, if_neg h]
theorem e_im (j : Nat) : e_k_ce S j = nI (im_ S j) := (rfl)
theorem e_mmj (j : Nat) : e_q_memory S j = nI (mm_ S j) := (rfl)
theorem sz_ (bk : Nat) : nI bk * (64 : Int32) = nI (64 * bk) := by rw [show (64 : Int32) = nI 64 from rfl, pk_mul, Nat.mul_comm]
theorem sz' (bk : Nat) : (64 : Int32) * nI bk = nI (64 * bk) := by rw [show (64 : Int32) = nI 64 from rfl, pk_mul]
theorem pr_image (hb : bk_ S ≤ 8) (hA : A) {a : Int32} {K : Int32 → (Nat → Int64) → Int32 → Int32 → Prop}
    (hK : ∀ (r rq : Int32) (o' : Nat → Int64), (r = 0 → lg_cmp (o' (0 : Int32).toNatClampNeg) rq.toInt64 = 0) → K r o' rq r) :
    wp_L_image (e_k_ce S) (e_k_bc S) a o (fun r1 o5 => A ∧ wp_Q_image qc (e_q_banks S) (e_q_memory S) a (fun r6 w7 => K r1 o5 r6 w7)) := by
  have bad : K 1 o 0 1 := hK 1 0 o (fun h => absurd h (by decide))
  unfold wp_L_image wp_D_image wp_K_size wp_Q_image
  rw [show e_k_bc S = nI (bk_ S) from rfl, show e_q_banks S = nI (bk_ S) from rfl, sz_, sz']
  have one : a < 0 ∨ ¬ a < nI (64 * bk_ S) → wp_Q_outside a (0 : Int32) (nI (64 * bk_ S) - (1 : Int32)) (fun r1 => (r1 = 0 → vp_in a 705 ∧ (K 1 o (e_q_memory S a.toNatClampNeg) 0)) ∧ (¬ r1 = 0 → wp_Q_refuse qc (1 : Int32) (fun r2 w3 => K 1 o r2 w3))) := by
    intro h
    refine out_p (by omega) (fun _ => ⟨fun g => absurd g (by decide), fun _ => bad⟩) (fun g1 g2 => ?_)
    rcases h with h | h
    · exact absurd h g1
    · exact absurd g2 h
  refine ⟨fun h => ⟨rfl, hA, one (Or.inl h)⟩, fun h1 => ⟨fun h2 => ?_, fun h => ⟨rfl, hA, one (Or.inr h)⟩⟩⟩
  obtain ⟨n, hn, rfl⟩ := exN h1 h2 (by omega)
  rw [clN (by omega), e_im, e_mmj, im_mm (by omega)]
  refine ⟨vin (by omega) (by omega), hA, out_p (by omega) (fun g => ?_) (fun g1 g2 => ⟨fun _ => ⟨vin (by omega) (by omega), hK 0 _ _ (fun _ => cmp_same o _)⟩, fun g => absurd rfl g⟩)⟩
  rcases g with g | g
  · exact absurd g h1
  · exact absurd h2 g
theorem pr_spoil (hb : bk_ S ≤ 8) (hS : okS S) (hA : A) (hB : B) {a a2 : Int32} {K : Int32 → (Nat → Int32) → (Nat → Int64) → Int32 → (Nat → Int32) → Prop}
    (h1 : K 1 (e_k_ce S) o 1 (e_q_memory S)) (h0 : ∀ f : Nat → Nat, (∀ j, f j < 256) → K 0 (e_k_ce (s_im S f)) o 0 (e_q_memory (s_im S f))) :
    wp_L_spoil (e_k_ce S) (e_k_bc S) a a2 o (fun r1 w2 o5 => A ∧ B ∧ wp_Q_spoil qc (e_q_banks S) (e_q_memory S) a a2 (fun w7 w8 => K r1 w2 o5 w7 w8)) := by
  unfold wp_L_spoil wp_D_spoil wp_K_size wp_Q_spoil
  rw [show e_k_bc S = nI (bk_ S) from rfl, show e_q_banks S = nI (bk_ S) from rfl, sz_, sz']
  have ha2 : a2 &&& (255 : Int32) = nI (a2.toBitVec.toNat % 256) := pk_and a2 8 (by decide)
  have one : a < 0 ∨ ¬ a < nI (64 * bk_ S) → wp_Q_outside a (0 : Int32) (nI (64 * bk_ S) - (1 : Int32)) (fun r1 => (r1 = 0 → vp_in a 705 ∧ (K 1 (e_k_ce S) o 0 (upd (e_q_memory S) a.toNatClampNeg (a2 &&& (255 : Int32))))) ∧ (¬ r1 = 0 → K 1 (e_k_ce S) o 1 (e_q_memory S))) := by
    intro h
    refine out_p (by omega) (fun _ => ⟨fun g => absurd g (by decide), fun _ => h1⟩) (fun g1 g2 => ?_)
    rcases h with h | h
    · exact absurd h g1
    · exact absurd g2 h
  refine ⟨fun h => ⟨rfl, hA, hB, one (Or.inl h)⟩, fun k1 => ⟨fun k2 => ?_, fun h => ⟨rfl, hA, hB, one (Or.inr h)⟩⟩⟩
  obtain ⟨n, hn, rfl⟩ := exN k1 k2 (by omega)
  have hv : a2.toBitVec.toNat % 256 < 256 := Nat.mod_lt _ (by decide)
  have h := h0 (fu (im_ S) n (a2.toBitVec.toNat % 256)) (fu_lt hS.1 hv)
  rw [clN (by omega), ha2, e_mm S, up_nI, mm_im (by omega), ← e_mm, show e_k_ce S = nF (im_ S) from rfl, nF_u]
  have e : e_k_ce (s_im S (fu (im_ S) n (a2.toBitVec.toNat % 256))) = nF (fu (im_ S) n (a2.toBitVec.toNat % 256)) := by unfold e_k_ce; rw [ga_im_im]; exact rfl
  rw [e] at h
  refine ⟨vin (by omega) (by omega), hA, hB, out_p (by omega) (fun g => ?_) (fun g1 g2 => ⟨fun _ => ⟨vin (by omega) (by omega), h⟩, fun g => absurd rfl g⟩)⟩
  rcases g with g | g
  · exact absurd g k1
  · exact absurd k2 g
theorem ra_or : ∀ a, a < 16 → ∀ k, k < 4 → nI a ||| ((1 : Int32) <<< (nI k &&& 31)) = nI (a ||| 2 ^ k) := by decide +kernel
theorem ra_lt : ∀ a, a < 16 → ∀ k, k < 4 → a ||| 2 ^ k < 16 := by decide +kernel
theorem pr_raise (hS : okS S) (hA : A) {a : Int32} {K : Int32 → Int32 → (Nat → Int64) → Int32 → (Nat → Int32) → Prop}
    (h1 : K 1 (e_m_li S) o 1 (e_q_memory S)) (h0 : ∀ v : Nat, v < 16 → K 0 (e_m_li (s_li S v)) o 0 (e_q_memory (s_li S v))) :
    wp_L_raise (e_m_li S) a o (fun r1 w2 o5 => A ∧ wp_Q_raise qc (e_q_memory S) a (fun w7 w8 => K r1 w2 o5 w7 w8)) := by
  have h43 : (a < (4 : Int32)) ↔ (a ≤ (3 : Int32)) := lt_le (k := 3) rfl rfl (by omega)
  have one : a < 0 ∨ ¬ a ≤ (3 : Int32) → wp_Q_raise qc (e_q_memory S) a (fun w7 w8 => K 1 (e_m_li S) o w7 w8) := by
    intro h
    refine out_ (fun _ => ⟨fun g => absurd g (by decide), fun _ => ⟨fun _ => h1, fun g => absurd g (by decide)⟩⟩) (fun g1 g2 => ?_)
    rcases h with h | h
    · exact absurd h g1
    · exact absurd g2 h
  refine ⟨fun h => ⟨rfl, hA, one (Or.inl h)⟩, fun k1 => ⟨fun k2 => ?_, fun h => ⟨rfl, hA, one (Or.inr (fun g => h (h43.mpr g)))⟩⟩⟩
  obtain ⟨n, hn, rfl⟩ := exN k1 (N := 4) k2 (by omega)
  have hl := okli hS
  have h := h0 (li_ S ||| 2 ^ n) (ra_lt _ hl n hn)
  rw [ge_m_li_li] at h
  rw [show e_m_li S = nI (li_ S) from rfl, ra_or _ hl n hn]
  refine ⟨hA, out_ (fun g => ?_) (fun g1 g2 => ⟨fun _ => ⟨fun g => absurd rfl g, fun _ => ?_⟩, fun g => absurd rfl g⟩)⟩
  · rcases g with g | g
    · exact absurd g k1
    · exact absurd (h43.mp k2) g
  · rw [s703, mm703, ra_or _ hl n hn, e_mm S, up_nI, mm_li, ← e_mm]
    exact h
theorem pr_byteSent (hc : sc_ S < 1073741824) (hA : A) {a : Int32} {K : Int32 → (Nat → Int64) → Int32 → Int32 → Prop}
    (hK : ∀ (r rq : Int32) (o' : Nat → Int64), (r = 0 → lg_cmp (o' (0 : Int32).toNatClampNeg) rq.toInt64 = 0) → K r o' rq r) :
    wp_L_byteSent (e_n_sb S) (e_n_sc S) a o (fun r1 o5 => A ∧ wp_Q_byteSent qc (e_q_sent S) (e_q_out S) a (fun r6 w7 => K r1 o5 r6 w7)) := by
  have bad : K 1 o 0 1 := hK 1 0 o (fun h => absurd h (by decide))
  have h99 : (a < (100 : Int32)) ↔ (a ≤ (99 : Int32)) := lt_le (k := 99) rfl rfl (by omega)
  unfold wp_L_byteSent wp_D_byteSent wp_N_keptCount wp_Q_byteSent
  rw [show e_n_sc S = nI (sc_ S) from rfl, show e_q_sent S = nI (sc_ S) from rfl]
  have hkc : (if (100 : Int32) < nI (sc_ S) then (100 : Int32) else nI (sc_ S)) = nI (if 100 < sc_ S then 100 else sc_ S) := by
    have e := gtN (n := sc_ S) (k := 100) (x := 100) rfl (by omega) (by omega)
    by_cases h : 100 < sc_ S
    · rw [if_pos h, if_pos (e.mpr h)]; rfl
    · rw [if_neg h, if_neg (fun g => h (e.mp g))]
  rw [hkc]
  have hm : a < nI (if 100 < sc_ S then 100 else sc_ S) ↔ (a < nI (sc_ S) ∧ a ≤ (99 : Int32)) := by
    rw [← h99, show (100 : Int32) = nI 100 from rfl, Int32.lt_iff_toInt_lt, Int32.lt_iff_toInt_lt, Int32.lt_iff_toInt_lt]
    by_cases h : 100 < sc_ S
    · rw [if_pos h, nti (by omega), nti (by omega)]; omega
    · rw [if_neg h, nti (by omega), nti (by omega)]; omega
  have one : a < 0 ∨ ¬ (a < nI (sc_ S) ∧ a ≤ (99 : Int32)) → wp_Q_outside a (0 : Int32) (nI (sc_ S) - (1 : Int32)) (fun r1 => (¬ r1 = 0 → wp_Q_refuse qc (1 : Int32) (fun r2 w3 => K 1 o r2 w3)) ∧ (r1 = 0 → (a ≤ (99 : Int32) → vp_in a 100 ∧ (K 1 o (e_q_out S a.toNatClampNeg) (0 : Int32))) ∧ (¬ a ≤ (99 : Int32) → wp_Q_refuse qc (1 : Int32) (fun r4 w5 => K 1 o r4 w5)))) := by
    intro h
    refine out_p (by omega) (fun _ => ⟨fun _ => bad, fun g => absurd g (by decide)⟩) (fun g1 g2 => ⟨fun g => absurd rfl g, fun _ => ⟨fun g3 => ?_, fun _ => bad⟩⟩)
    rcases h with h | h
    · exact absurd h g1
    · exact absurd ⟨g2, g3⟩ h
  refine ⟨fun h => ⟨rfl, hA, one (Or.inl h)⟩, fun k1 => ⟨fun k2 => ?_, fun h => ⟨rfl, hA, one (Or.inr (fun q => h (hm.mpr q)))⟩⟩⟩
  have hm2 := hm.mp k2
  obtain ⟨n, hn, rfl⟩ := exN k1 (N := 100) (h99.mpr hm2.2) (by omega)
  rw [clN (by omega)]
  refine ⟨vin (by omega) (by omega), hA, out_p (by omega) (fun g => ?_) (fun g1 g2 => ⟨fun g => absurd rfl g, fun _ => ⟨fun _ => ⟨vin (by omega) (by omega), hK 0 _ _ (fun _ => cmp_same o _)⟩, fun g => absurd hm2.2 g⟩⟩)⟩
  rcases g with g | g
  · exact absurd g k1
  · exact absurd hm2.1 g
theorem im_made {P : Int32 → Prop} (h : bk_ S ≤ 8) (h1 : ¬ bk_ S = 0 → P 1) (h0 : bk_ S = 0 → P 0) : wp_K_isMade (e_k_bc S) P := by
  unfold wp_K_isMade
  exact bI2 (eqN (k := 0) rfl (by omega) (by omega)) h0 h1
theorem pr_peek (hS : okS S) (hb : bk_ S ≤ 8) (hL : ¬ bk_ S = 0 → lnk S) {lk : Nat} (hlk : lk ≤ 10) (hz : lk = 0 ↔ bk_ S = 0) (hA : A) {a : Int32} {K : Int32 → (Nat → Int64) → Int32 → Int32 → Prop}
    (hK : ∀ (r rq : Int32) (o' : Nat → Int64), (r = 0 → lg_cmp (o' (0 : Int32).toNatClampNeg) rq.toInt64 = 0) → K r o' rq r) :
    wp_L_peek (e_k_ce S) (e_k_bc S) (e_m_ra S) (e_m_up S) (e_m_on S) (e_m_lo S) (e_m_hi S) (e_m_mo S) (e_m_ma S) (e_m_li S) a o (fun r1 o5 => A ∧ wp_Q_peek qc (nI lk) (e_q_banks S) (e_q_memory S) (e_q_ram S) (e_q_low S) (e_q_top S) (e_q_mode S) a (fun r6 w7 => K r1 o5 r6 w7)) := by
  have bad : K 1 o 0 1 := hK 1 0 o (fun h => absurd h (by decide))
  have e0 := eqN (n := lk) (k := 0) (x := 0) rfl (by omega) (by omega)
  have one : (a < 0 ∨ ¬ a ≤ (255 : Int32) ∨ bk_ S = 0) → wp_Q_peek qc (nI lk) (e_q_banks S) (e_q_memory S) (e_q_ram S) (e_q_low S) (e_q_top S) (e_q_mode S) a (fun r6 w7 => K 1 o r6 w7) := by
    intro h
    refine bI2 e0 (fun _ => bad) (fun g => out_ (fun _ => ⟨fun g => absurd g (by decide), fun _ => bad⟩) (fun g1 g2 => ?_))
    rcases h with h | h | h
    · exact absurd h g1
    · exact absurd g2 h
    · exact absurd (hz.mpr h) g
  have h255 : (¬ (255 : Int32) < a) ↔ (a ≤ (255 : Int32)) := by rw [Int32.lt_iff_toInt_lt, Int32.le_iff_toInt_le]; omega
  refine ⟨fun h => ⟨rfl, hA, one (Or.inl h)⟩, fun k1 => ⟨fun h => ⟨rfl, hA, one (Or.inr (Or.inl (fun q => (h255.mpr q) h)))⟩, fun k2 => im_made hb (fun k3 => ⟨fun _ => ?_, fun g => absurd g (by decide)⟩) (fun k3 => ⟨fun g => absurd rfl g, fun _ => ⟨rfl, hA, one (Or.inr (Or.inr k3))⟩⟩)⟩⟩
  obtain ⟨n, hn, rfl⟩ := exN k1 (N := 256) ((lt_le (k := 255) rfl rfl (by omega)).mpr (h255.mp k2)) (by omega)
  refine sp_M_read hS (hL k3) hn ⟨hA, bI2 e0 (fun g => absurd (hz.mp g) k3) (fun _ => out_ (fun g => ?_) (fun _ _ => ⟨fun _ => sp_Q_read hS (hL k3) hn (hK 0 _ _ (fun _ => cmp_same o _)), fun g => absurd rfl g⟩))⟩
  rcases g with g | g
  · exact absurd g k1
  · exact absurd (h255.mp k2) g
end CALLS
