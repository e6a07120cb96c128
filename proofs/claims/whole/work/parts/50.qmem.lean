/-! the reference's memory -/
theorem rem_ {a d : Nat} {x : Int32} (hx : x = nI d) (ha : a < 2147483648) (h0 : 0 < d) (hd : d < 2147483648) : nI a - nI a / x * x = nI (a % d) := by rw [hx]; exact pk_rem ha h0 hd
theorem div_ {a d : Nat} {x : Int32} (hx : x = nI d) (ha : a < 2147483648) (h0 : 0 < d) (hd : d < 2147483648) : nI a / x = nI (a / d) := by rw [hx]; exact pk_div ha h0 hd
theorem r256 {a : Nat} (h : a < 2147483648) : nI a - nI a / (256 : Int32) * (256 : Int32) = nI (a % 256) := rem_ rfl h (by decide) (by decide)
theorem r16 {a : Nat} (h : a < 2147483648) : nI a - nI a / (16 : Int32) * (16 : Int32) = nI (a % 16) := rem_ rfl h (by decide) (by decide)
theorem r8 {a : Nat} (h : a < 2147483648) : nI a - nI a / (8 : Int32) * (8 : Int32) = nI (a % 8) := rem_ rfl h (by decide) (by decide)
theorem r4 {a : Nat} (h : a < 2147483648) : nI a - nI a / (4 : Int32) * (4 : Int32) = nI (a % 4) := rem_ rfl h (by decide) (by decide)
theorem r2 {a : Nat} (h : a < 2147483648) : nI a - nI a / (2 : Int32) * (2 : Int32) = nI (a % 2) := rem_ rfl h (by decide) (by decide)
theorem d16 {a : Nat} (h : a < 2147483648) : nI a / (16 : Int32) = nI (a / 16) := div_ rfl h (by decide) (by decide)
theorem d8 {a : Nat} (h : a < 2147483648) : nI a / (8 : Int32) = nI (a / 8) := div_ rfl h (by decide) (by decide)
theorem d2 {a : Nat} (h : a < 2147483648) : nI a / (2 : Int32) = nI (a / 2) := div_ rfl h (by decide) (by decide)
theorem d128 {a : Nat} (h : a < 2147483648) : nI a / (128 : Int32) = nI (a / 128) := div_ rfl h (by decide) (by decide)
theorem lnk_b {S : St} (h : lnk S) : 0 < bk_ S ∧ bk_ S ≤ 8 := by unfold lnk at h; omega
theorem okhi {S : St} (hS : okS S) : hi_ S < 2 := hS.2.2.2.2.2.1
theorem oklo {S : St} (hS : okS S) : lo_ S < 4 := hS.2.2.2.2.1
theorem okmo {S : St} (hS : okS S) : mo_ S < 2 := hS.2.2.2.2.2.2.1
def xwh (S : St) (a : Nat) : Nat :=
  if a < 64 then 64 * ((if mo_ S = 1 then 4 * hi_ S else 0) % bk_ S) + a
  else if a < 128 then 64 * ((4 * hi_ S + lo_ S) % bk_ S) + (a - 64)
  else if a < 192 then (if on_ S then 512 + ((if mo_ S = 1 then 64 * hi_ S else 0) + (a - 128)) else 704)
  else 640 + (a - 192)
theorem xwh_lt {S : St} (hS : okS S) (hL : lnk S) {a : Nat} (ha : a < 256) : xwh S a < 705 := by
  have hb := lnk_b hL
  have hh := okhi hS
  unfold xwh
  by_cases h1 : a < 64
  · rw [if_pos h1]
    have hk := Nat.mod_lt (if mo_ S = 1 then 4 * hi_ S else 0) hb.1
    generalize (if mo_ S = 1 then 4 * hi_ S else 0) % bk_ S = k at hk ⊢
    omega
  · rw [if_neg h1]
    by_cases h2 : a < 128
    · rw [if_pos h2]
      have hk := Nat.mod_lt (4 * hi_ S + lo_ S) hb.1
      generalize (4 * hi_ S + lo_ S) % bk_ S = k at hk ⊢
      omega
    · rw [if_neg h2]
      by_cases h3 : a < 192
      · rw [if_pos h3]
        by_cases h4 : mo_ S = 1
        · rw [if_pos h4]; split <;> omega
        · rw [if_neg h4]; split <;> omega
      · rw [if_neg h3]; omega
theorem mm_wh {S : St} (hS : okS S) (hL : lnk S) {a : Nat} (ha : a < 256) : mm_ S (xwh S a) = xrd S a := by
  have hb := lnk_b hL
  have hh := okhi hS
  unfold xwh xrd
  by_cases h1 : a < 64
  · rw [if_pos h1, if_pos h1]
    have hk := Nat.mod_lt (if mo_ S = 1 then 4 * hi_ S else 0) hb.1
    generalize (if mo_ S = 1 then 4 * hi_ S else 0) % bk_ S = k at hk ⊢
    unfold mm_
    rw [if_pos (by omega)]
  · rw [if_neg h1, if_neg h1]
    by_cases h2 : a < 128
    · rw [if_pos h2, if_pos h2]
      have hk := Nat.mod_lt (4 * hi_ S + lo_ S) hb.1
      generalize (4 * hi_ S + lo_ S) % bk_ S = k at hk ⊢
      unfold mm_
      rw [if_pos (by omega)]
    · rw [if_neg h2, if_neg h2]
      by_cases h3 : a < 192
      · rw [if_pos h3, if_pos h3]
        have hk : (if mo_ S = 1 then 64 * hi_ S else 0) ≤ 64 := by split <;> omega
        generalize (if mo_ S = 1 then 64 * hi_ S else 0) = k at hk ⊢
        by_cases h4 : on_ S = true
        · rw [if_pos h4, if_pos h4]
          unfold mm_
          rw [if_neg (by omega), if_pos (by omega), Nat.add_sub_cancel_left]
        · rw [if_neg h4, if_neg h4]; exact rfl
      · rw [if_neg h3, if_neg h3]
        unfold mm_
        rw [if_neg (by omega), if_neg (by omega)]
        by_cases h5 : a < 254
        · rw [if_pos (by omega), if_pos h5, Nat.add_sub_cancel_left]
        · rw [if_neg (by omega), if_neg h5]
          by_cases h6 : a = 254
          · rw [if_pos (by omega), if_pos h6]
          · rw [if_neg (by omega), if_pos (by omega), if_neg h6]
theorem sp_Q_where {S : St} (hS : okS S) (hL : lnk S) {a : Nat} (ha : a < 256) {P : Int32 → Prop} (hP : P (nI (xwh S a))) : wp_Q_where (e_q_banks S) (e_q_ram S) (e_q_low S) (e_q_top S) (e_q_mode S) (nI a) P := by
  have hb := lnk_b hL
  have hh := okhi hS
  have hl := oklo hS
  have hm := okmo hS
  unfold xwh at hP
  unfold wp_Q_where
  refine bI2 (geN (k := 64) rfl (by omega) (by omega)) (fun g1 => ?_) (fun g1 => ?_)
  · rw [if_neg (by omega)] at hP
    refine bI2 (geN (k := 128) rfl (by omega) (by omega)) (fun g2 => ?_) (fun g2 => ?_)
    · rw [if_neg (by omega)] at hP
      refine bI2 (geN (k := 192) rfl (by omega) (by omega)) (fun g3 => ?_) (fun g3 => ?_)
      · rw [if_neg (by omega)] at hP
        rw [show (640 : Int32) = nI 640 from rfl, show (192 : Int32) = nI 192 from rfl, nI_add, nsub' (by omega), show 640 + a - 192 = 640 + (a - 192) by omega]
        exact hP
      · rw [if_pos (by omega)] at hP
        refine bN2 (bI_z (on_ S)) (fun g4 => ?_) (fun g4 => ?_)
        · rw [bT g4, if_pos rfl] at hP
          rw [show e_q_mode S = nI (mo_ S) from rfl, show e_q_top S = nI (hi_ S) from rfl, show (512 : Int32) = nI 512 from rfl, show (128 : Int32) = nI 128 from rfl, show (64 : Int32) = nI 64 from rfl, show (0 : Int32) = nI 0 from rfl, nI_add, nsub' (by omega), pk_mul, nI_add, nI_add]
          refine bN2 (eqN (k := 1) rfl (by omega) (by omega)) (fun g5 => ?_) (fun g5 => ?_)
          · rw [if_neg g5] at hP
            rw [show 512 + a - 128 + 0 = 512 + (0 + (a - 128)) by omega]; exact hP
          · rw [if_pos g5] at hP
            rw [show 512 + a - 128 + 64 * hi_ S = 512 + (64 * hi_ S + (a - 128)) by omega]; exact hP
        · rw [g4, if_neg (by decide)] at hP; exact hP
    · rw [if_pos (by omega)] at hP
      refine ⟨fun h => absurd ((eqN (n := bk_ S) (k := 0) rfl (by omega) (by omega)).mp h) (by omega), ?_⟩
      rw [show e_q_banks S = nI (bk_ S) from rfl, show e_q_low S = nI (lo_ S) from rfl, show e_q_top S = nI (hi_ S) from rfl, show (4 : Int32) = nI 4 from rfl, show (64 : Int32) = nI 64 from rfl, pk_mul, nI_add, pk_rem (by omega) hb.1 (by omega), pk_mul, nI_add, nsub' (by omega), show 64 * ((4 * hi_ S + lo_ S) % bk_ S) + a - 64 = 64 * ((4 * hi_ S + lo_ S) % bk_ S) + (a - 64) from Nat.add_sub_assoc g1 _]
      exact hP
  · rw [if_pos (by omega)] at hP
    refine bN2 (eqN (k := 1) rfl (by omega) (by omega)) (fun g5 => ?_) (fun g5 => ?_)
    · rw [if_neg g5, Nat.zero_mod, Nat.mul_zero, Nat.zero_add] at hP; exact hP
    · rw [if_pos g5] at hP
      refine ⟨fun h => absurd ((eqN (n := bk_ S) (k := 0) rfl (by omega) (by omega)).mp h) (by omega), ?_⟩
      rw [show e_q_banks S = nI (bk_ S) from rfl, show e_q_top S = nI (hi_ S) from rfl, show (4 : Int32) = nI 4 from rfl, show (64 : Int32) = nI 64 from rfl, pk_mul, pk_rem (by omega) hb.1 (by omega), pk_mul, nI_add]
      exact hP
theorem sg_Q_where {S : St} (hS : okS S) (hL : lnk S) {a : Nat} (ha : a < 256) {q_banks : Int32} {q_ram : Int32} {q_low : Int32} {q_top : Int32} {q_mode : Int32} {P : Int32 → Prop} (hf : q_banks = e_q_banks S ∧ q_ram = e_q_ram S ∧ q_low = e_q_low S ∧ q_top = e_q_top S ∧ q_mode = e_q_mode S) (hP : P (nI (xwh S a))) : wp_Q_where q_banks q_ram q_low q_top q_mode (nI a) P := by
  obtain ⟨rfl, rfl, rfl, rfl, rfl⟩ := hf
  exact sp_Q_where hS hL ha hP
theorem sp_Q_read {S : St} (hS : okS S) (hL : lnk S) {a : Nat} (ha : a < 256) {P : Int32 → Prop} (hP : P (nI (xrd S a))) : wp_Q_read (e_q_banks S) (e_q_memory S) (e_q_ram S) (e_q_low S) (e_q_top S) (e_q_mode S) (nI a) P := by
  unfold wp_Q_read
  refine sp_Q_where hS hL ha ⟨vin (xwh_lt hS hL ha) (by omega), ?_⟩
  have h := xwh_lt hS hL ha
  rw [clN (by omega), show e_q_memory S (xwh S a) = nI (mm_ S (xwh S a)) from rfl, mm_wh hS hL ha]
  exact hP
theorem sg_Q_read {S : St} (hS : okS S) (hL : lnk S) {a : Nat} (ha : a < 256) {q_banks : Int32} {q_memory : Nat → Int32} {q_ram : Int32} {q_low : Int32} {q_top : Int32} {q_mode : Int32} {P : Int32 → Prop} (hf : q_banks = e_q_banks S ∧ q_memory = e_q_memory S ∧ q_ram = e_q_ram S ∧ q_low = e_q_low S ∧ q_top = e_q_top S ∧ q_mode = e_q_mode S) (hP : P (nI (xrd S a))) : wp_Q_read q_banks q_memory q_ram q_low q_top q_mode (nI a) P := by
  obtain ⟨rfl, rfl, rfl, rfl, rfl, rfl⟩ := hf
  exact sp_Q_read hS hL ha hP
theorem mm_ra {S : St} {k b : Nat} (hk : k < 128) : fu (mm_ S) (512 + k) b = mm_ (s_ra S (fu (ra_ S) k b)) := by
  funext j
  unfold mm_
  simp only [ga_im_ra, ga_ra_ra, ga_up_ra, ga_ma_ra, ga_li_ra]
  unfold fu
  dsimp only
  by_cases h : j = 512 + k
  · rw [if_pos h, if_neg (by omega), if_pos (by omega), if_pos (by omega)]
  · rw [if_neg h]
    by_cases h1 : j < 512
    · rw [if_pos h1, if_pos h1]
    · rw [if_neg h1, if_neg h1]
      by_cases h2 : j < 640
      · rw [if_pos h2, if_pos h2, if_neg (by omega)]
      · rw [if_neg h2, if_neg h2]
theorem mm_up {S : St} {k b : Nat} (hk : k < 62) : fu (mm_ S) (640 + k) b = mm_ (s_up S (fu (up_ S) k b)) := by
  funext j
  unfold mm_
  simp only [ga_im_up, ga_ra_up, ga_up_up, ga_ma_up, ga_li_up]
  unfold fu
  dsimp only
  by_cases h : j = 640 + k
  · rw [if_pos h, if_neg (by omega), if_neg (by omega), if_pos (by omega), if_pos (by omega)]
  · rw [if_neg h]
    by_cases h1 : j < 512
    · rw [if_pos h1, if_pos h1]
    · rw [if_neg h1, if_neg h1]
      by_cases h2 : j < 640
      · rw [if_pos h2, if_pos h2]
      · rw [if_neg h2, if_neg h2]
        by_cases h3 : j < 702
        · rw [if_pos h3, if_pos h3, if_neg (by omega)]
        · rw [if_neg h3, if_neg h3]
theorem mm_ma {S : St} {b : Nat} : fu (mm_ S) 702 b = mm_ (s_ma S b) := by
  funext j
  unfold mm_
  simp only [ga_im_ma, ga_ra_ma, ga_up_ma, ga_ma_ma, ga_li_ma]
  unfold fu
  dsimp only
  by_cases h : j = 702
  · rw [if_pos h, if_neg (by omega), if_neg (by omega), if_neg (by omega), if_pos h]
  · rw [if_neg h, if_neg h, if_neg h]
theorem mm_li {S : St} {b : Nat} : fu (mm_ S) 703 b = mm_ (s_li S b) := by
  funext j
  unfold mm_
  simp only [ga_im_li, ga_ra_li, ga_up_li, ga_ma_li, ga_li_li]
  unfold fu
  dsimp only
  by_cases h : j = 703
  · rw [if_pos h, if_neg (by omega), if_neg (by omega), if_neg (by omega), if_neg (by omega), if_pos h]
  · rw [if_neg h, if_neg h, if_neg h]
theorem e_mm (S : St) : e_q_memory S = fun j => nI (mm_ S j) := (rfl)
theorem wq_107 {S : St} (hS : okS S) (hL : lnk S) {a b : Nat} (ha : 128 ≤ a) (ha2 : a < 256) (hb : b < 256) (ho : a < 192 → on_ S = true) {P : (Nat → Int32) → Int32 → Int32 → Int32 → Int32 → Prop}
    (hP : P (e_q_memory (xwr S a b)) (e_q_ram (xwr S a b)) (e_q_low (xwr S a b)) (e_q_top (xwr S a b)) (e_q_mode (xwr S a b))) : wp_Q_write_107 (e_q_banks S) P (e_q_memory S) (e_q_ram S) (e_q_low S) (e_q_top S) (e_q_mode S) (nI a) (nI b) := by
  unfold wp_Q_write_107
  refine sp_Q_where hS hL ha2 ?_
  have hw := xwh_lt hS hL ha2
  rw [clN (by omega), r16 (by omega), e_mm S, up_nI, up_nI]
  unfold xwr at hP
  rw [if_neg (by omega), if_neg (by omega), if_neg (by omega), if_neg (by omega)] at hP
  refine bI2 (leN (k := 253) rfl (by omega) (by omega)) (fun g1 => ⟨vin hw (by omega), ?_⟩) (fun g1 => ⟨vin hw (by omega), ?_⟩)
  · by_cases g2 : a < 192
    · rw [if_pos g2, if_pos (ho g2)] at hP
      have hh := okhi hS
      have hw2 : xwh S a = 512 + ((if mo_ S = 1 then 64 * hi_ S else 0) + (a - 128)) := by
        unfold xwh
        rw [if_neg (by omega), if_neg (by omega), if_pos g2, if_pos (ho g2)]
      have hk : (if mo_ S = 1 then 64 * hi_ S else 0) ≤ 64 := by split <;> omega
      rw [hw2]
      generalize (if mo_ S = 1 then 64 * hi_ S else 0) = k at hk hP ⊢
      rw [mm_ra (by omega), ← e_mm]
      simp only [ge_q_ram_ra, ge_q_low_ra, ge_q_top_ra, ge_q_mode_ra] at hP
      exact hP
    · rw [if_neg g2, if_pos (by omega)] at hP
      have hw2 : xwh S a = 640 + (a - 192) := by
        unfold xwh
        rw [if_neg (by omega), if_neg (by omega), if_neg g2]
      rw [hw2, mm_up (by omega), ← e_mm]
      simp only [ge_q_ram_up, ge_q_low_up, ge_q_top_up, ge_q_mode_up] at hP
      exact hP
  · rw [if_neg (by omega), if_neg (by omega)] at hP
    have hw2 : xwh S a = 640 + (a - 192) := by
      unfold xwh
      rw [if_neg (by omega), if_neg (by omega), if_neg (by omega)]
    rw [hw2]
    by_cases g2 : a = 254
    · rw [if_pos g2] at hP
      rw [show 640 + (a - 192) = 702 by omega, mm_ma, ← e_mm]
      simp only [ge_q_ram_ma, ge_q_low_ma, ge_q_top_ma, ge_q_mode_ma] at hP
      exact hP
    · rw [if_neg g2] at hP
      rw [show 640 + (a - 192) = 703 by omega, mm_li, ← e_mm]
      simp only [ge_q_ram_li, ge_q_low_li, ge_q_top_li, ge_q_mode_li] at hP
      exact hP
theorem sp_Q_write {S : St} (hS : okS S) (hL : lnk S) {a b : Nat} (ha : a < 256) (hb : b < 256) {P : (Nat → Int32) → (Int32) → (Int32) → (Int32) → (Int32) → Prop} (hP : P (e_q_memory (xwr S a b)) (e_q_ram (xwr S a b)) (e_q_low (xwr S a b)) (e_q_top (xwr S a b)) (e_q_mode (xwr S a b))) : wp_Q_write (e_q_banks S) (e_q_memory S) (e_q_ram S) (e_q_low S) (e_q_top S) (e_q_mode S) (nI a) (nI b) P := by
  unfold wp_Q_write
  refine bI2 (geN (k := 32) rfl (by omega) (by omega)) (fun g1 => ?_) (fun g1 => ?_)
  · refine bI2 (geN (k := 64) rfl (by omega) (by omega)) (fun g2 => ?_) (fun g2 => ?_)
    · refine bI2 (geN (k := 96) rfl (by omega) (by omega)) (fun g3 => ?_) (fun g3 => ?_)
      · refine bI2 (geN (k := 128) rfl (by omega) (by omega)) (fun g4 => ?_) (fun g4 => ?_)
        · refine bI2 (geN (k := 192) rfl (by omega) (by omega)) (fun g5 => ?_) (fun g5 => ?_)
          · exact bI2 (leN (k := 191) rfl (by omega) (by omega)) (fun g6 => by omega) (fun g6 => wq_107 hS hL g4 ha hb (fun h => by omega) hP)
          · refine bN2 (bI_z (on_ S)) (fun g6 => wq_107 hS hL g4 ha hb (fun _ => bT g6) hP) (fun g6 => ?_)
            refine bI2 (leN (k := 191) rfl (by omega) (by omega)) (fun g7 => ?_) (fun g7 => by omega)
            have hx : xwr S a b = S := by
              unfold xwr
              rw [if_neg (by omega), if_neg (by omega), if_neg (by omega), if_neg (by omega), if_pos (by omega), g6, if_neg (by decide)]
            rw [hx] at hP; exact hP
        · have hx : xwr S a b = s_mo S (b % 2) := by
            unfold xwr
            rw [if_neg (by omega), if_neg (by omega), if_neg (by omega), if_pos (by omega)]
          rw [hx] at hP
          rw [r2 (by omega)]
          simp only [ge_q_memory_mo, ge_q_ram_mo, ge_q_low_mo, ge_q_top_mo, ge_q_mode_mo] at hP; exact hP
      · have hx : xwr S a b = s_hi S (b % 2) := by
          unfold xwr
          rw [if_neg (by omega), if_neg (by omega), if_pos (by omega)]
        rw [hx] at hP
        rw [r2 (by omega)]
        simp only [ge_q_memory_hi, ge_q_ram_hi, ge_q_low_hi, ge_q_top_hi, ge_q_mode_hi] at hP; exact hP
    · have hx : xwr S a b = s_lo S (if b % 4 = 0 then 1 else b % 4) := by
        unfold xwr
        rw [if_neg (by omega), if_pos (by omega)]
      rw [hx] at hP
      rw [r4 (by omega)]
      simp only [ge_q_memory_lo, ge_q_ram_lo, ge_q_low_lo, ge_q_top_lo, ge_q_mode_lo] at hP
      refine bI2 (leN (k := 0) rfl (by omega) (by omega)) (fun g3 => ?_) (fun g3 => ?_)
      · rw [if_pos (by omega)] at hP; exact hP
      · rw [if_neg (by omega)] at hP; exact hP
  · have hx : xwr S a b = s_on S (decide (b % 16 = 10)) := by
      unfold xwr
      rw [if_pos (by omega)]
    rw [hx] at hP
    rw [r16 (by omega)]
    simp only [ge_q_memory_on, ge_q_ram_on, ge_q_low_on, ge_q_top_on, ge_q_mode_on] at hP
    refine bN2 (eqN (k := 10) rfl (by omega) (by omega)) (fun g3 => ?_) (fun g3 => ?_)
    · rw [decide_eq_false g3] at hP; exact hP
    · rw [decide_eq_true g3] at hP; exact hP
theorem sg_Q_write {S : St} (hS : okS S) (hL : lnk S) {a b : Nat} (ha : a < 256) (hb : b < 256) {q_banks : Int32} {q_memory : Nat → Int32} {q_ram : Int32} {q_low : Int32} {q_top : Int32} {q_mode : Int32} {P : (Nat → Int32) → (Int32) → (Int32) → (Int32) → (Int32) → Prop} (hf : q_banks = e_q_banks S ∧ q_memory = e_q_memory S ∧ q_ram = e_q_ram S ∧ q_low = e_q_low S ∧ q_top = e_q_top S ∧ q_mode = e_q_mode S) (hP : P (e_q_memory (xwr S a b)) (e_q_ram (xwr S a b)) (e_q_low (xwr S a b)) (e_q_top (xwr S a b)) (e_q_mode (xwr S a b))) : wp_Q_write q_banks q_memory q_ram q_low q_top q_mode (nI a) (nI b) P := by
  obtain ⟨rfl, rfl, rfl, rfl, rfl, rfl⟩ := hf
  exact sp_Q_write hS hL ha hb hP
