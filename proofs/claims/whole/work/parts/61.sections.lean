/-! the calls on sections -/
section SEC
/-- what is known of the sections -/
def sok (pn ln kd vl : Nat → Nat) (ct : Nat) : Prop := (∀ j, pn j ≤ 8) ∧ (∀ j, ln j ≤ 48) ∧ (∀ j, kd j ≤ 2) ∧ (∀ j, vl j < 256) ∧ ct ≤ 10
def nF (f : Nat → Nat) : Nat → Int32 := fun j => nI (f j)
def pF (f : Nat → Nat) : Nat → Int32 := fun j => pI (f j)
theorem nF_u (f : Nat → Nat) (k x : Nat) : upd (nF f) k (nI x) = nF (fu f k x) := up_nI f k x
theorem pF_u (f : Nat → Nat) (k x : Nat) : upd (pF f) k (pI x) = pF (fu f k x) := up_pI f k x
theorem nF_a (f : Nat → Nat) (j : Nat) : nF f j = nI (f j) := rfl
theorem pF_a (f : Nat → Nat) (j : Nat) : pF f j = pI (f j) := rfl
theorem fu_s (f : Nat → Nat) (k x : Nat) : fu f k x k = x := if_pos rfl
theorem fu_le {f : Nat → Nat} {k x n : Nat} (h : ∀ j, f j ≤ n) (hx : x ≤ n) : ∀ j, fu f k x j ≤ n := by
  intro j; unfold fu; split
  · exact hx
  · exact h j
theorem out_ {a lo hi : Int32} {P : Int32 → Prop} (h1 : a < lo ∨ ¬ a ≤ hi → P 1) (h0 : ¬ a < lo → a ≤ hi → P 0) : wp_Q_outside a lo hi P := ⟨fun h => h1 (Or.inl h), fun h => ⟨fun g => h0 h g, fun g => h1 (Or.inr g)⟩⟩
variable {pn ln kd vl : Nat → Nat} {ct : Nat}
theorem pr_section (hs : sok pn ln kd vl ct) {A : Prop} (hA : A) {a qc : Int32} {o : Nat → Int64} {K : Int32 → (Nat → Int32) → (Nat → Int32) → Int32 → (Nat → Int64) → Int32 → Int32 → Int32 → (Nat → Int32) → (Nat → Int32) → Prop}
    (hK : ∀ (pn' ln' : Nat → Nat) (ct' : Nat) (r rq : Int32) (o' : Nat → Int64), sok pn' ln' kd vl ct' → (r = 0 → lg_cmp (o' (0 : Int32).toNatClampNeg) rq.toInt64 = 0) → K r (pF pn') (nF ln') (nI ct') o' rq r (nI ct') (pF pn') (nF ln')) :
    wp_L_section (pF pn) (nF ln) (nI ct) a o (fun r1 w2 w3 w4 o5 => A ∧ wp_Q_section qc (nI ct) (pF pn) (nF ln) a (fun r6 w7 w8 w9 w10 => K r1 w2 w3 w4 o5 r6 w7 w8 w9 w10)) := by
  obtain ⟨hp, hl, hk, hv, hc⟩ := hs
  have h87 : (a < (8 : Int32)) ↔ (a ≤ (7 : Int32)) := lt_le (k := 7) rfl rfl (by omega)
  have hbad : ∀ x : Int32, (x = 0 → False) → ¬ x ≤ 0 → K x (pF pn) (nF ln) (nI ct) o 0 x (nI ct) (pF pn) (nF ln) := fun x h _ => hK pn ln ct x 0 o ⟨hp, hl, hk, hv, hc⟩ (fun e => (h e).elim)
  have one : a < (-1 : Int32) ∨ ¬ a ≤ (7 : Int32) → wp_Q_section qc (nI ct) (pF pn) (nF ln) a (fun r6 w7 w8 w9 w10 => K 1 (pF pn) (nF ln) (nI ct) o r6 w7 w8 w9 w10) := by
    intro h
    refine out_ (fun _ => ⟨fun g => absurd g (by decide), fun _ => ⟨fun g => absurd g (by decide), fun _ => hbad 1 (by decide) (by decide)⟩⟩) (fun h1 h2 => ?_)
    rcases h with g | g
    · exact absurd g h1
    · exact absurd h2 g
  refine ⟨fun h1 => Or.inl ⟨rfl, hA, one (Or.inl h1)⟩, fun h1 => ⟨fun h2 => ?_, fun h2 => Or.inl ⟨rfl, hA, one (Or.inr (fun g => h2 (h87.mpr g)))⟩⟩⟩
  have q0 : ∀ P : Int32 → Prop, P 0 → wp_Q_outside a (-1 : Int32) (7 : Int32) P := fun P hP => out_ (fun h => by
    rcases h with g | g
    · exact absurd g h1
    · exact absurd (h87.mp h2) g) (fun _ _ => hP)
  refine ⟨fun h3 => ?_, fun h3 => Or.inr ⟨rfl, hA, ?_⟩⟩
  · have h10 : ct < 10 := (ltN (k := 10) rfl (by omega) (by omega)).mp h3
    obtain ⟨p, hp8, rfl⟩ := exP h1 h2
    refine ⟨vin h10 (by omega), vin h10 (by omega), hA, q0 _ ⟨fun _ => ⟨fun _ => ⟨fun _ => ⟨vin h10 (by omega), vin h10 (by omega), ?_⟩, fun g => absurd (by decide) g⟩, fun g => absurd ((eqN (k := 10) rfl (by omega) (by omega)).mp g) (by omega)⟩, fun g => absurd rfl g⟩⟩
    rw [nI_1, clN (by omega), pF_u, show (0 : Int32) = nI 0 from rfl, nF_u]
    have e : nI (ct + 1) - (1 : Int32) = nI ct := by rw [show (1 : Int32) = nI 1 from rfl, nsub' (by omega)]; rfl
    rw [e]
    exact hK _ _ _ (nI 0) (nI ct) _ ⟨fu_le hp hp8, fu_le hl (by omega), hk, hv, by omega⟩ (fun _ => cmp_same o _)
  · have h10 : ct = 10 := Nat.le_antisymm hc (Nat.le_of_not_lt (fun g => h3 ((ltN (n := ct) (k := 10) rfl (by omega) (by omega)).mpr g)))
    refine q0 _ ⟨fun _ => ⟨fun g => absurd ((eqN (k := 10) rfl (by omega) (by omega)).mpr h10) g, fun _ => ⟨fun g => absurd g (by decide), fun _ => hbad 2 (by decide) (by decide)⟩⟩, fun g => absurd rfl g⟩
/-- one byte or place is added -/
theorem ap_S (hs : sok pn ln kd vl ct) (hc0 : 0 < ct) (hr : ln (ct - 1) < 48) {k v : Nat} (hk : k ≤ 2) (hv : v < 256) {P : (Nat → Int32) → (Nat → Int32) → (Nat → Int32) → Prop}
    (hP : P (nF (fu ln (ct - 1) (ln (ct - 1) + 1))) (nF (fu kd ((ct - 1) * 48 + ln (ct - 1)) k)) (nF (fu vl ((ct - 1) * 48 + ln (ct - 1)) v))) : wp_S_append (nF ln) (nF kd) (nF vl) (nI ct) (nI k) (nI v) P := by
  obtain ⟨-, -, -, -, hc⟩ := hs
  intro z1 e1
  rw [show (1 : Int32) = nI 1 from rfl, nsub' (by omega)] at e1
  subst e1
  refine ⟨vin (by omega) (by omega), fun z2 e2 => ?_⟩
  rw [clN (by omega), nF_a, show (48 : Int32) = nI 48 from rfl, pk_mul, nI_add] at e2
  subst e2
  rw [clN (by omega), clN (by omega), nF_a, nI_1, nF_u, nF_u, nF_u]
  exact ⟨vin (by omega) (by omega), vin (by omega) (by omega), vin (by omega) (by omega), vin (by omega) (by omega), hP⟩
theorem ap_Q (hs : sok pn ln kd vl ct) (hc0 : 0 < ct) (hr : ln (ct - 1) < 48) {k v : Nat} {a : Int32} (hk : k ≤ 2) (hv : v < 256) (ha : a &&& (255 : Int32) = nI v) {P : (Nat → Int32) → (Nat → Int32) → (Nat → Int32) → Prop}
    (hP : P (nF (fu ln (ct - 1) (ln (ct - 1) + 1))) (nF (fu vl ((ct - 1) * 48 + ln (ct - 1)) v)) (nF (fu kd ((ct - 1) * 48 + ln (ct - 1)) k))) : wp_Q_append (nI ct) (nF ln) (nF vl) (nF kd) (nI k) a P := by
  obtain ⟨-, -, -, -, hc⟩ := hs
  intro z1 e1
  rw [show (1 : Int32) = nI 1 from rfl, nsub' (by omega)] at e1
  subst e1
  rw [ha, clN (by omega), nF_a, show (48 : Int32) = nI 48 from rfl, pk_mul, nI_add, show 48 * (ct - 1) + ln (ct - 1) = (ct - 1) * 48 + ln (ct - 1) by omega, clN (by omega), nI_1, nF_u, nF_u, nF_u]
  exact ⟨vin (by omega) (by omega), vin (by omega) (by omega), vin (by omega) (by omega), vin (by omega) (by omega), vin (by omega) (by omega), vin (by omega) (by omega), hP⟩
theorem ap_ok (hs : sok pn ln kd vl ct) (hr : ln (ct - 1) < 48) {k v : Nat} (hk : k ≤ 2) (hv : v < 256) : sok pn (fu ln (ct - 1) (ln (ct - 1) + 1)) (fu kd ((ct - 1) * 48 + ln (ct - 1)) k) (fu vl ((ct - 1) * 48 + ln (ct - 1)) v) ct := by
  obtain ⟨h1, h2, h3, h4, hc⟩ := hs
  exact ⟨h1, fu_le h2 (by omega), fu_le h3 hk, fu_lt h4 hv, hc⟩
/-- room for n -/
theorem ct_S (hs : sok pn ln kd vl ct) {n : Nat} (hn : n < 10) {P : Int32 → Prop} (h1 : 0 < ct → ln (ct - 1) + n ≤ 48 → P 1) (h0 : ¬ (0 < ct ∧ ln (ct - 1) + n ≤ 48) → P 0) : wp_S_canTake (nF ln) (nI ct) (nI n) P := by
  obtain ⟨-, hl, -, -, hc⟩ := hs
  have hl1 := hl (ct - 1)
  refine bI2 (leN (k := 0) rfl (by omega) (by omega)) (fun g => h0 (by omega)) (fun g => ?_)
  rw [show (1 : Int32) = nI 1 from rfl, nsub' (by omega), clN (by omega), nF_a, nI_add]
  exact ⟨vin (by omega) (by omega), bI2 (gtN (k := 48) rfl (by omega) (by omega)) (fun g2 => h0 (by omega)) (fun g2 => h1 (by omega) (by omega))⟩
theorem ct_Q (hs : sok pn ln kd vl ct) {n : Nat} (hn : n < 10) {P : Int32 → Prop} (h1 : 0 < ct → ln (ct - 1) + n ≤ 48 → P 1) (h0 : ¬ (0 < ct ∧ ln (ct - 1) + n ≤ 48) → P 0) : wp_Q_room (nI ct) (nF ln) (nI n) P := by
  obtain ⟨-, hl, -, -, hc⟩ := hs
  have hl1 := hl (ct - 1)
  refine bI2 (leN (k := 0) rfl (by omega) (by omega)) (fun g => h0 (by omega)) (fun g => ?_)
  rw [show (1 : Int32) = nI 1 from rfl, nsub' (by omega), clN (by omega), nF_a, nI_add]
  exact ⟨vin (by omega) (by omega), bI2 (gtN (k := 48) rfl (by omega) (by omega)) (fun g2 => h0 (by omega)) (fun g2 => h1 (by omega) (by omega))⟩
def bv (a : Int32) (k : Nat) : Nat := (a >>> (((8 : Int32) * nI k) &&& 31)).toBitVec.toNat % 256
theorem bv_e (a : Int32) (k : Nat) : (a >>> (((8 : Int32) * nI k) &&& 31)) &&& (255 : Int32) = nI (bv a k) := pk_and _ 8 (by decide)
theorem bv_lt (a : Int32) (k : Nat) : bv a k < 256 := Nat.mod_lt _ (by decide)
/-- the bytes m - 1 .. 0 are added -/
def apn (a : Int32) (ct : Nat) : Nat → (Nat → Nat) × (Nat → Nat) × (Nat → Nat) → (Nat → Nat) × (Nat → Nat) × (Nat → Nat)
  | 0, t => t
  | m + 1, t => apn a ct m (fu t.1 (ct - 1) (t.1 (ct - 1) + 1), fu t.2.1 ((ct - 1) * 48 + t.1 (ct - 1)) 0, fu t.2.2 ((ct - 1) * 48 + t.1 (ct - 1)) (bv a m))
theorem apn_ok {a : Int32} {pn : Nat → Nat} {ct : Nat} (hc0 : 0 < ct) : ∀ (m : Nat) (ln kd vl : Nat → Nat), sok pn ln kd vl ct → ln (ct - 1) + m ≤ 48 → sok pn (apn a ct m (ln, kd, vl)).1 (apn a ct m (ln, kd, vl)).2.1 (apn a ct m (ln, kd, vl)).2.2 ct := by
  intro m
  induction m with
  | zero => intro ln kd vl h _; exact h
  | succ m ih =>
    intro ln kd vl h hm
    exact ih _ _ _ (ap_ok h (by omega) (by omega) (bv_lt a m)) (by rw [fu_s]; show ln (ct - 1) + 1 + m ≤ 48; omega)
theorem by_D {a : Int32} {pn : Nat → Nat} {ct : Nat} (hc0 : 0 < ct) {P : (Nat → Int32) → (Nat → Int32) → (Nat → Int32) → Prop} {PX : Nat → (Nat → Int32) → (Nat → Int32) → (Nat → Int32) → Prop} : ∀ (m : Nat) (ln kd vl : Nat → Nat), sok pn ln kd vl ct → ln (ct - 1) + m ≤ 48 → P (nF (apn a ct m (ln, kd, vl)).1) (nF (apn a ct m (ln, kd, vl)).2.1) (nF (apn a ct m (ln, kd, vl)).2.2) → wp_D_bytes_41 (nI ct) P PX (m + 1) (nF ln) (nF kd) (nF vl) a (nI m - 1) := by
  intro m
  induction m with
  | zero =>
    intro ln kd vl h _ hP
    exact ⟨fun _ => hP, fun g => absurd (by decide) g⟩
  | succ m ih =>
    intro ln kd vl h hm hP
    have hc := h.2.2.2.2
    have e : nI (m + 1) - (1 : Int32) = nI m := by rw [show (1 : Int32) = nI 1 from rfl, nsub' (by omega)]; rfl
    unfold wp_D_bytes_41
    rw [e]
    refine ⟨fun g => absurd ((ltN (k := 0) rfl (by omega) (by omega)).mp g) (by omega), fun _ => ?_⟩
    rw [bv_e]
    refine ap_S h hc0 (by omega) (k := 0) (by omega) (bv_lt a m) ?_
    rw [← Int32.sub_eq_add_neg]
    exact ih _ _ _ (ap_ok h (by omega) (by omega) (bv_lt a m)) (by rw [fu_s]; show ln (ct - 1) + 1 + m ≤ 48; omega) hP
theorem by_Q {a : Int32} {pn : Nat → Nat} {ct : Nat} (hc0 : 0 < ct) {P : Int32 → (Nat → Int32) → (Nat → Int32) → (Nat → Int32) → Prop} : ∀ (m : Nat) (ln kd vl : Nat → Nat), sok pn ln kd vl ct → ln (ct - 1) + m ≤ 48 → P 0 (nF (apn a ct m (ln, kd, vl)).1) (nF (apn a ct m (ln, kd, vl)).2.2) (nF (apn a ct m (ln, kd, vl)).2.1) → wp_Q_bytes_34 (nI ct) P (m + 1) 0 (nF ln) (nF vl) (nF kd) a (nI m - 1) := by
  intro m
  induction m with
  | zero =>
    intro ln kd vl h _ hP
    exact ⟨fun _ => hP, fun g => absurd (by decide) g⟩
  | succ m ih =>
    intro ln kd vl h hm hP
    have hc := h.2.2.2.2
    have e : nI (m + 1) - (1 : Int32) = nI m := by rw [show (1 : Int32) = nI 1 from rfl, nsub' (by omega)]; rfl
    unfold wp_Q_bytes_34
    rw [e]
    refine ⟨fun g => absurd ((ltN (k := 0) rfl (by omega) (by omega)).mp g) (by omega), fun _ => ⟨fun g => absurd rfl g, fun _ => ?_⟩⟩
    refine ap_Q h hc0 (by omega) (k := 0) (by omega) (bv_lt a m) (bv_e a m) ?_
    rw [← Int32.sub_eq_add_neg]
    exact ih _ _ _ (ap_ok h (by omega) (by omega) (bv_lt a m)) (by rw [fu_s]; show ln (ct - 1) + 1 + m ≤ 48; omega) hP
/-- a refused call adds nothing -/
theorem by_Qn {c x a z : Int32} {s b k : Nat → Int32} (hc : ¬ c = 0) {P : Int32 → (Nat → Int32) → (Nat → Int32) → (Nat → Int32) → Prop} (hP : P c s b k) : wp_Q_bytes_34 x P 1 c s b k a z := ⟨fun _ => hP, fun _ => ⟨fun _ => hP, fun g => absurd g hc⟩⟩
theorem pr_bytes (hs : sok pn ln kd vl ct) {A : Prop} (hA : A) {B : Prop} (hB : B) {a a2 qc : Int32} {o : Nat → Int64} {K : Int32 → (Nat → Int32) → (Nat → Int32) → (Nat → Int32) → (Nat → Int64) → Int32 → (Nat → Int32) → (Nat → Int32) → (Nat → Int32) → Prop}
    (hK : ∀ (ln' kd' vl' : Nat → Nat) (r : Int32), sok pn ln' kd' vl' ct → K r (nF ln') (nF kd') (nF vl') o r (nF ln') (nF vl') (nF kd')) :
    wp_L_bytes (nF ln) (nF kd) (nF vl) (nI ct) a a2 o (fun r1 w2 w3 w4 o5 => A ∧ B ∧ wp_Q_bytes qc (nI ct) (nF ln) (nF vl) (nF kd) a a2 (fun w7 w8 w9 w10 => K r1 w2 w3 w4 o5 w7 w8 w9 w10)) := by
  have one : a2 < (1 : Int32) ∨ ¬ a2 ≤ (4 : Int32) → wp_Q_bytes qc (nI ct) (nF ln) (nF vl) (nF kd) a a2 (fun w7 w8 w9 w10 => K 1 (nF ln) (nF kd) (nF vl) o w7 w8 w9 w10) := by
    intro h
    refine out_ (fun _ => ⟨fun g => absurd g (by decide), fun _ z5 e5 => ⟨1, by_Qn (by decide) (hK ln kd vl 1 hs)⟩⟩) (fun h1 h2 => ?_)
    rcases h with g | g
    · exact absurd g h1
    · exact absurd h2 g
  refine ⟨fun h1 => Or.inl ⟨rfl, hA, hB, one (Or.inl h1)⟩, fun h1 => ⟨fun h2 => ?_, fun h2 => Or.inl ⟨rfl, hA, hB, one (Or.inr h2)⟩⟩⟩
  have q0 : ∀ P : Int32 → Prop, P 0 → wp_Q_outside a2 (1 : Int32) (4 : Int32) P := fun P hP => out_ (fun h => by
    rcases h with g | g
    · exact absurd g h1
    · exact absurd h2 g) (fun _ _ => hP)
  have h5 : a2 < nI 5 := (lt_le (k := 4) rfl rfl (by omega)).mpr h2
  have h0 : ¬ a2 < 0 := by
    rw [Int32.lt_iff_toInt_lt] at h1 ⊢
    rw [show (1 : Int32).toInt = 1 from rfl] at h1
    rw [show (0 : Int32).toInt = 0 from rfl]
    omega
  obtain ⟨n, hn, rfl⟩ := exN h0 h5 (by omega)
  have hc := hs.2.2.2.2
  refine ct_S hs (by omega) (fun hc0 hr => ⟨fun _ z2 e2 => ⟨n + 1, ?_⟩, fun g => absurd g (by decide)⟩) (fun hr => ⟨fun g => absurd rfl g, fun _ => Or.inr ⟨rfl, hA, hB, ?_⟩⟩)
  · subst e2
    refine by_D hc0 n ln kd vl hs hr ⟨hA, hB, q0 _ ⟨fun _ => ct_Q hs (by omega) (fun _ _ => ⟨fun g => absurd g (by decide), fun _ z4 e4 => ⟨n + 1, ?_⟩⟩) (fun g => absurd ⟨hc0, hr⟩ g), fun g => absurd rfl g⟩⟩
    subst e4
    exact by_Q hc0 n ln kd vl hs hr (hK _ _ _ 0 (apn_ok hc0 n ln kd vl hs hr))
  · exact q0 _ ⟨fun _ => ct_Q hs (by omega) (fun g1 g2 => absurd ⟨g1, g2⟩ hr) (fun _ => ⟨fun _ z4 e4 => ⟨1, by_Qn (by decide) (hK ln kd vl 2 hs)⟩, fun g => absurd rfl g⟩), fun g => absurd rfl g⟩
theorem pr_mended (hs : sok pn ln kd vl ct) {A : Prop} (hA : A) {B : Prop} (hB : B) {a a2 qc : Int32} {o : Nat → Int64} {K : Int32 → (Nat → Int32) → (Nat → Int32) → (Nat → Int32) → (Nat → Int64) → Int32 → (Nat → Int32) → (Nat → Int32) → (Nat → Int32) → Prop}
    (hK : ∀ (ln' kd' vl' : Nat → Nat) (r : Int32), sok pn ln' kd' vl' ct → K r (nF ln') (nF kd') (nF vl') o r (nF ln') (nF vl') (nF kd')) :
    wp_L_mended (nF ln) (nF kd) (nF vl) (nI ct) a a2 o (fun r1 w2 w3 w4 o5 => A ∧ B ∧ wp_Q_mended qc (nI ct) (nF ln) (nF vl) (nF kd) a a2 (fun w7 w8 w9 w10 => K r1 w2 w3 w4 o5 w7 w8 w9 w10)) := by
  have key : ∀ y0 : Int32, (¬ y0 = 0 ↔ (a = 1 ∨ a = 2)) → wp_D_mended_15 (nI ct) (fun w0 w1 w2 => A ∧ B ∧ wp_Q_mended qc (nI ct) (nF ln) (nF vl) (nF kd) a a2 (fun w7 w8 w9 w10 => K 0 w0 w1 w2 o w7 w8 w9 w10)) (fun z w0 w1 w2 => (z = 1 ∧ A ∧ B ∧ wp_Q_mended qc (nI ct) (nF ln) (nF vl) (nF kd) a a2 (fun w7 w8 w9 w10 => K 1 w0 w1 w2 o w7 w8 w9 w10)) ∨ (z = 2 ∧ A ∧ B ∧ wp_Q_mended qc (nI ct) (nF ln) (nF vl) (nF kd) a a2 (fun w7 w8 w9 w10 => K 2 w0 w1 w2 o w7 w8 w9 w10))) (nF ln) (nF kd) (nF vl) a a2 y0 := by
    intro y0 hy
    have qa : (a = 1 ∨ a = 2) ↔ (¬ a < (1 : Int32) ∧ a ≤ (2 : Int32)) := by
      constructor
      · rintro (rfl | rfl) <;> decide
      · intro ⟨g1, g2⟩
        rw [Int32.lt_iff_toInt_lt] at g1
        rw [Int32.le_iff_toInt_le] at g2
        rw [show (1 : Int32).toInt = 1 from rfl] at g1
        rw [show (2 : Int32).toInt = 2 from rfl] at g2
        have : a.toInt = 1 ∨ a.toInt = 2 := by omega
        rcases this with h | h
        · exact Or.inl (Int32.toInt_inj.mp h)
        · exact Or.inr (Int32.toInt_inj.mp h)
    have h109 : (a2 < (10 : Int32)) ↔ (a2 ≤ (9 : Int32)) := lt_le (k := 9) rfl rfl (by omega)
    have bad1 : ¬ (a = 1 ∨ a = 2) → wp_Q_mended qc (nI ct) (nF ln) (nF vl) (nF kd) a a2 (fun w7 w8 w9 w10 => K 1 (nF ln) (nF kd) (nF vl) o w7 w8 w9 w10) := by
      intro h
      exact out_ (fun _ => ⟨fun _ => hK ln kd vl 1 hs, fun g => absurd g (by decide)⟩) (fun g1 g2 => absurd (qa.mpr ⟨g1, g2⟩) h)
    have bad2 : (a = 1 ∨ a = 2) → (a2 < 0 ∨ ¬ a2 ≤ (9 : Int32)) → wp_Q_mended qc (nI ct) (nF ln) (nF vl) (nF kd) a a2 (fun w7 w8 w9 w10 => K 1 (nF ln) (nF kd) (nF vl) o w7 w8 w9 w10) := by
      intro h h2
      have hq := qa.mp h
      refine out_ (fun g => ?_) (fun _ _ => ⟨fun g => absurd rfl g, fun _ => out_ (fun _ => ⟨fun g => absurd g (by decide), fun _ => hK ln kd vl 1 hs⟩) (fun g1 g2 => ?_)⟩)
      · rcases g with g | g
        · exact absurd g hq.1
        · exact absurd hq.2 g
      · rcases h2 with g | g
        · exact absurd g g1
        · exact absurd g2 g
    refine ⟨fun g => Or.inl ⟨rfl, hA, hB, bad1 (fun h => (hy.mpr h) g)⟩, fun g => ?_⟩
    have ha := hy.mp g
    have hq := qa.mp ha
    refine ⟨fun g2 => Or.inl ⟨rfl, hA, hB, bad2 ha (Or.inl g2)⟩, fun g2 => ⟨fun g3 => ?_, fun g3 => Or.inl ⟨rfl, hA, hB, bad2 ha (Or.inr (fun h => g3 (h109.mpr h)))⟩⟩⟩
    have q0 : ∀ P : Int32 → (Nat → Int32) → (Nat → Int32) → (Nat → Int32) → Prop, wp_Q_room (nI ct) (nF ln) (1 : Int32) (fun r3 => (r3 = 0 → P 2 (nF ln) (nF vl) (nF kd)) ∧ (¬ r3 = 0 → wp_Q_append (nI ct) (nF ln) (nF vl) (nF kd) a a2 (fun w4 w5 w6 => P 0 w4 w5 w6))) → wp_Q_mended qc (nI ct) (nF ln) (nF vl) (nF kd) a a2 P := by
      intro P h
      refine out_ (fun g => ?_) (fun _ _ => ⟨fun g => absurd rfl g, fun _ => out_ (fun g => ?_) (fun _ _ => ⟨fun _ => h, fun g => absurd rfl g⟩)⟩)
      · rcases g with g | g
        · exact absurd g hq.1
        · exact absurd hq.2 g
      · rcases g with g | g
        · exact absurd g g2
        · exact absurd (h109.mp g3) g
    obtain ⟨v, hv, rfl⟩ := exN g2 (N := 10) g3 (by omega)
    have hk : ∃ k, k ≤ 2 ∧ a = nI k := by
      rcases ha with h | h
      · exact ⟨1, by omega, h⟩
      · exact ⟨2, by omega, h⟩
    obtain ⟨k, hk2, rfl⟩ := hk
    refine ct_S hs (n := 1) (by omega) (fun hc0 hr => ⟨fun _ => ?_, fun g => absurd g (by decide)⟩) (fun hr => ⟨fun g => absurd rfl g, fun _ => Or.inr ⟨rfl, hA, hB, ?_⟩⟩)
    · refine ap_S hs hc0 (by omega) hk2 (by omega) ⟨hA, hB, q0 _ (ct_Q hs (n := 1) (by omega) (fun _ _ => ⟨fun g => absurd g (by decide), fun _ => ?_⟩) (fun g => absurd ⟨hc0, hr⟩ g))⟩
      refine ap_Q hs hc0 (by omega) hk2 (v := v) (by omega) (by rw [n255]; congr 1; omega) ?_
      exact hK _ _ _ 0 (ap_ok hs (by omega) hk2 (by omega))
    · exact q0 _ (ct_Q hs (n := 1) (by omega) (fun g1 g2 => absurd ⟨g1, g2⟩ hr) (fun _ => ⟨fun _ => hK ln kd vl 2 hs, fun g => absurd rfl g⟩))
  refine ⟨fun h => key 1 ⟨fun _ => Or.inl h, fun _ => by decide⟩, fun h => ⟨fun h2 => key 0 ⟨fun g => absurd rfl g, fun g => ?_⟩, fun h2 => key 1 ⟨fun _ => Or.inr h2, fun _ => by decide⟩⟩⟩
  rcases g with g | g
  · exact absurd g h
  · exact absurd g h2
end SEC
