/-! packing -/
section PACK
abbrev Pk : Type := (Nat → Bool) × (Nat → Nat) × (Nat → Nat) × (Nat → Nat)
def ov (d : Nat → Bool) (f : Nat → Nat) (g : Nat → Int32) : Nat → Int32 := fun j => if d j then nI (f j) else g j
def fb (d : Nat → Bool) (k : Nat) : Nat → Bool := fun j => if j = k then true else d j
def oe (e : Nat → Nat) (g : Nat → Int32) : Nat → Int32 := fun j => if j < 8 then nI (e j) else g j
theorem ov_u (d : Nat → Bool) (f : Nat → Nat) (g : Nat → Int32) (k x : Nat) : upd (ov d f g) k (nI x) = ov (fb d k) (fu f k x) g := by
  funext j
  unfold upd ov fb fu
  by_cases h : j = k
  · simp only [h, if_true]
  · simp only [h, if_false]
theorem oe_u (e : Nat → Nat) (g : Nat → Int32) {k x : Nat} (hk : k < 8) : upd (oe e g) k (nI x) = oe (fu e k x) g := by
  funext j
  unfold upd oe fu
  by_cases h : j = k
  · subst h; rw [if_pos rfl, if_pos hk, if_pos rfl]
  · rw [if_neg h, if_neg h]
theorem oe_a (e : Nat → Nat) (g : Nat → Int32) {k : Nat} (hk : k < 8) : oe e g k = nI (e k) := if_pos hk
def pput (M : Pk) (s k n : Nat) : Pk := (fb M.1 s, fu M.2.1 s k, fu M.2.2.1 s (M.2.2.2 k), fu M.2.2.2 k (M.2.2.2 k + n))
def adr (M : Pk) : Nat → Nat := fun s => M.2.2.1 s + (if M.2.1 s = 0 then 0 else 64)
theorem adr_p (M : Pk) (s k n : Nat) : adr (pput M s k n) = fu (adr M) s (M.2.2.2 k + (if k = 0 then 0 else 64)) := by
  funext j
  unfold adr pput fu
  by_cases h : j = s
  · simp only [h, if_true]
  · simp only [h, if_false]
def pkI (ln : Nat → Nat) (nb : Nat) (M : Pk) : Prop := (∀ k, M.2.2.2 k ≤ 64) ∧ 32 ≤ M.2.2.2 0 ∧ ∀ j, M.1 j = true → M.2.1 j < nb ∧ M.2.2.1 j + ln j ≤ 64 ∧ (M.2.1 j = 0 → 32 ≤ M.2.2.1 j)
theorem pkI_p {ln : Nat → Nat} {nb : Nat} {M : Pk} (h : pkI ln nb M) {s k : Nat} (hk : k < nb) (he : M.2.2.2 k + ln s ≤ 64) : pkI ln nb (pput M s k (ln s)) := by
  obtain ⟨h1, h2, h3⟩ := h
  unfold pput
  refine ⟨fun j => ?_, ?_, fun j => ?_⟩
  · show fu M.2.2.2 k (M.2.2.2 k + ln s) j ≤ 64
    exact fu_le h1 he j
  · show 32 ≤ fu M.2.2.2 k (M.2.2.2 k + ln s) 0
    unfold fu
    by_cases g : 0 = k
    · rw [if_pos g]; subst g; omega
    · rw [if_neg g]; exact h2
  · show fb M.1 s j = true → fu M.2.1 s k j < nb ∧ fu M.2.2.1 s (M.2.2.2 k) j + ln j ≤ 64 ∧ (fu M.2.1 s k j = 0 → 32 ≤ fu M.2.2.1 s (M.2.2.2 k) j)
    unfold fb fu
    by_cases g : j = s
    · subst g
      simp only [if_true]
      intro _
      refine ⟨hk, he, fun h0 => ?_⟩
      subst h0; exact h2
    · simp only [g, if_false]
      exact h3 j
def low (e : Nat → Nat) (n : Nat) : Nat → Nat → Option Nat
  | 0, _ => none
  | d + 1, k => if e k + n ≤ 64 then some k else low e n d (k + 1)
theorem low_lt {e : Nat → Nat} {n : Nat} : ∀ (d k k' : Nat), low e n d k = some k' → k' < k + d ∧ e k' + n ≤ 64 := by
  intro d
  induction d with
  | zero => intro k k' h; exact absurd h (by unfold low; simp)
  | succ d ih =>
    intro k k' h
    unfold low at h
    by_cases g : e k + n ≤ 64
    · rw [if_pos g] at h
      have := Option.some.inj h
      subst this
      exact ⟨by omega, g⟩
    · rw [if_neg g] at h
      have := ih (k + 1) k' h
      exact ⟨by omega, this.2⟩
def ppin (pn ln : Nat → Nat) (nb : Nat) : Nat → Nat → Pk → Option Pk
  | 0, _, M => some M
  | d + 1, i, M => if pn i = 8 then ppin pn ln nb d (i + 1) M else if pn i < nb ∧ M.2.2.2 (pn i) + ln i ≤ 64 then ppin pn ln nb d (i + 1) (pput M i (pn i) (ln i)) else none
def pfl1 (pn ln : Nat → Nat) (nb len : Nat) : Nat → Nat → Pk → Option Pk
  | 0, _, M => some M
  | d + 1, i, M => if pn i = 8 ∧ ln i = len then (low M.2.2.2 len nb 0).bind (fun k => pfl1 pn ln nb len d (i + 1) (pput M i k len)) else pfl1 pn ln nb len d (i + 1) M
def pfl (pn ln : Nat → Nat) (nb ct : Nat) : Nat → Pk → Option Pk
  | 0, M => some M
  | m + 1, M => (pfl1 pn ln nb m ct 0 M).bind (fun M' => pfl pn ln nb ct m M')
def pk0 : Pk := (fun _ => false, fun _ => 0, fun _ => 0, fun j => if j = 0 then 32 else 0)
def ppk (pn ln : Nat → Nat) (nb ct m : Nat) : Option Pk := (ppin pn ln nb ct 0 pk0).bind (fun M => pfl pn ln nb ct m M)
def ppack (pn ln : Nat → Nat) (nb ct : Nat) : Option Pk := ppk pn ln nb ct 49
theorem pk0_I (ln : Nat → Nat) (nb : Nat) : pkI ln nb pk0 := by
  refine ⟨fun k => ?_, by decide, fun j h => absurd (show false = true from h) (by decide)⟩
  show (if k = 0 then 32 else 0) ≤ 64
  split <;> decide
theorem ppin_I {pn ln : Nat → Nat} {nb : Nat} : ∀ (d i : Nat) (M M' : Pk), pkI ln nb M → ppin pn ln nb d i M = some M' → pkI ln nb M' ∧ (∀ j, M.1 j = true → M'.1 j = true) ∧ (∀ j, i ≤ j → j < i + d → pn j ≠ 8 → M'.1 j = true) := by
  intro d
  induction d with
  | zero =>
    intro i M M' h e
    have := Option.some.inj e
    subst this
    exact ⟨h, fun _ h => h, fun j h1 h2 => by omega⟩
  | succ d ih =>
    intro i M M' h e
    unfold ppin at e
    by_cases g : pn i = 8
    · rw [if_pos g] at e
      obtain ⟨h1, h2, h3⟩ := ih (i + 1) M M' h e
      refine ⟨h1, h2, fun j a b c => ?_⟩
      by_cases q : j = i
      · subst q; exact absurd g c
      · exact h3 j (by omega) (by omega) c
    · rw [if_neg g] at e
      by_cases g2 : pn i < nb ∧ M.2.2.2 (pn i) + ln i ≤ 64
      · rw [if_pos g2] at e
        obtain ⟨h1, h2, h3⟩ := ih (i + 1) _ M' (pkI_p h g2.1 g2.2) e
        have hd : ∀ j, M.1 j = true ∨ j = i → (pput M i (pn i) (ln i)).1 j = true := by
          intro j hj
          show (if j = i then true else M.1 j) = true
          rcases hj with hj | hj
          · split
            · rfl
            · exact hj
          · rw [if_pos hj]
        refine ⟨h1, fun j hj => h2 j (hd j (Or.inl hj)), fun j a b c => ?_⟩
        by_cases q : j = i
        · exact h2 j (hd j (Or.inr q))
        · exact h3 j (by omega) (by omega) c
      · rw [if_neg g2] at e; exact absurd e (by simp)
theorem pfl1_I {pn ln : Nat → Nat} {nb len : Nat} : ∀ (d i : Nat) (M M' : Pk), pkI ln nb M → pfl1 pn ln nb len d i M = some M' → pkI ln nb M' ∧ (∀ j, M.1 j = true → M'.1 j = true) ∧ (∀ j, i ≤ j → j < i + d → pn j = 8 → ln j = len → M'.1 j = true) := by
  intro d
  induction d with
  | zero =>
    intro i M M' h e
    have := Option.some.inj e
    subst this
    exact ⟨h, fun _ h => h, fun j h1 h2 => by omega⟩
  | succ d ih =>
    intro i M M' h e
    unfold pfl1 at e
    by_cases g : pn i = 8 ∧ ln i = len
    · rw [if_pos g] at e
      cases hl : low M.2.2.2 len nb 0 with
      | none => rw [hl] at e; exact absurd e (by simp)
      | some k =>
        rw [hl] at e
        have e' : pfl1 pn ln nb len d (i + 1) (pput M i k len) = some M' := e
        obtain ⟨hk, he⟩ := low_lt nb 0 k hl
        have hI : pkI ln nb (pput M i k len) := by
          have := pkI_p h (s := i) (k := k) (by omega) (by rw [g.2]; exact he)
          rw [g.2] at this; exact this
        obtain ⟨h1, h2, h3⟩ := ih (i + 1) _ M' hI e'
        have hd : ∀ j, M.1 j = true ∨ j = i → (pput M i k len).1 j = true := by
          intro j hj
          show (if j = i then true else M.1 j) = true
          rcases hj with hj | hj
          · split
            · rfl
            · exact hj
          · rw [if_pos hj]
        refine ⟨h1, fun j hj => h2 j (hd j (Or.inl hj)), fun j a b c1 c2 => ?_⟩
        by_cases q : j = i
        · exact h2 j (hd j (Or.inr q))
        · exact h3 j (by omega) (by omega) c1 c2
    · rw [if_neg g] at e
      obtain ⟨h1, h2, h3⟩ := ih (i + 1) M M' h e
      refine ⟨h1, h2, fun j a b c1 c2 => ?_⟩
      by_cases q : j = i
      · subst q; exact absurd ⟨c1, c2⟩ g
      · exact h3 j (by omega) (by omega) c1 c2
theorem pfl_I {pn ln : Nat → Nat} {nb ct : Nat} : ∀ (m : Nat) (M M' : Pk), pkI ln nb M → pfl pn ln nb ct m M = some M' → pkI ln nb M' ∧ (∀ j, M.1 j = true → M'.1 j = true) ∧ (∀ j, j < ct → pn j = 8 → ln j < m → M'.1 j = true) := by
  intro m
  induction m with
  | zero =>
    intro M M' h e
    have := Option.some.inj e
    subst this
    exact ⟨h, fun _ h => h, fun j h1 h2 h3 => by omega⟩
  | succ m ih =>
    intro M M' h e
    unfold pfl at e
    cases hl : pfl1 pn ln nb m ct 0 M with
    | none => rw [hl] at e; exact absurd e (by simp)
    | some M1 =>
      rw [hl] at e
      have e' : pfl pn ln nb ct m M1 = some M' := e
      obtain ⟨a1, a2, a3⟩ := pfl1_I ct 0 M M1 h hl
      obtain ⟨h1, h2, h3⟩ := ih M1 M' a1 e'
      refine ⟨h1, fun j hj => h2 j (a2 j hj), fun j b1 b2 b3 => ?_⟩
      by_cases q : ln j = m
      · exact h2 j (a3 j (by omega) (by omega) b2 q)
      · exact h3 j b1 b2 (by omega)
theorem ppk_I {pn ln : Nat → Nat} {nb ct m : Nat} {M : Pk} (hl : ∀ j, ln j < m) (e : ppk pn ln nb ct m = some M) : pkI ln nb M ∧ ∀ j, j < ct → M.1 j = true := by
  unfold ppk at e
  have h0 := pk0_I ln nb
  generalize pk0 = K0 at e h0
  cases h1 : ppin pn ln nb ct 0 K0 with
  | none => rw [h1] at e; exact absurd e (by simp)
  | some M1 =>
    rw [h1] at e
    have e' : pfl pn ln nb ct m M1 = some M := e
    obtain ⟨a1, a2, a3⟩ := ppin_I ct 0 K0 M1 h0 h1
    obtain ⟨b1, b2, b3⟩ := pfl_I m M1 M a1 e'
    refine ⟨b1, fun j hj => ?_⟩
    by_cases q : pn j = 8
    · exact b3 j hj q (hl j)
    · exact b2 j (a3 j (by omega) (by omega) q)
theorem ppack_I {pn ln : Nat → Nat} {nb ct : Nat} {M : Pk} (hl : ∀ j, ln j ≤ 48) (e : ppack pn ln nb ct = some M) : pkI ln nb M ∧ ∀ j, j < ct → M.1 j = true := ppk_I (fun j => Nat.lt_succ_of_le (hl j)) e
end PACK
