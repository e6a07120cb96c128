/-! a step keeps the machine in bounds -/
theorem ite_p {α : Type} {c : Prop} [Decidable c] {A B : α} {p : α → Prop} (ha : c → p A) (hb : ¬ c → p B) : p (if c then A else B) := by
  by_cases h : c
  · rw [if_pos h]; exact ha h
  · rw [if_neg h]; exact hb h
section OKX
variable {S : St}
theorem xsum_lt (a b m : Nat) : xsum a b m < 256 := by unfold xsum; omega
theorem xdif_lt (a b m : Nat) : xdif a b m < 256 := by unfold xdif; omega
theorem ok_xcalc (hS : okS S) {k b : Nat} (hb : b < 256) : okS (xcalc S k b) := by
  have ha := okrg hS 7
  unfold xcalc xsumF xdifF
  dsimp only
  refine ite_p (fun _ => ok_xA (ok_xfl hS) (xsum_lt _ _ _)) (fun _ => ite_p (fun _ => ok_xA (ok_xfl hS) (xsum_lt _ _ _)) (fun _ => ite_p (fun _ => ok_xA (ok_xfl hS) (xdif_lt _ _ _)) (fun _ => ite_p (fun _ => ok_xA (ok_xfl hS) (xdif_lt _ _ _)) (fun _ => ite_p (fun _ => ok_xA (ok_xfl hS) (and8 ha)) (fun _ => ite_p (fun _ => ok_xA (ok_xfl hS) (xor8 ha hb)) (fun _ => ite_p (fun _ => ok_xA (ok_xfl hS) (or8 ha hb)) (fun _ => ok_xfl hS)))))))
theorem xav_lt (nf hf cf : Bool) (a : Nat) : xav nf hf cf a < 256 := by
  unfold xav
  exact ite_p (p := fun x => x < 256) (fun _ => Nat.mod_lt _ (by decide)) (fun _ => Nat.mod_lt _ (by decide))
theorem ok_xadj (hS : okS S) : okS (xadj S) := by rw [xadj_eq]; exact ok_xA (ok_xfl hS) (xav_lt _ _ _ _)
theorem ok_xone (hS : okS S) {op : Nat} : okS (xone S op) := by
  have h7 := okrg hS 7
  unfold xone
  exact ite_p (fun _ => hS) (fun _ => ite_p (fun _ => ok_xend hS (by decide)) (fun _ => ite_p (fun _ => ok_xend hS (by decide)) (fun _ => ite_p (fun _ => ok_en hS) (fun _ => ite_p (fun _ => ok_so hS) (fun _ => ite_p (fun _ => ok_en (ok_pl (ok_xpop hS) (xrd_lt hS _))) (fun _ => ite_p (fun _ => ok_xadj hS) (fun _ => ite_p (fun _ => ok_xA (ok_xfl hS) (by omega)) (fun _ => ite_p (fun _ => ok_xfl hS) (fun _ => ite_p (fun _ => ok_xfl hS) (fun _ => ite_p (fun _ => ok_pl (ok_xpop hS) (xrd_lt hS _)) (fun _ => ite_p (fun _ => ok_xsend hS) (fun _ => ok_xend hS (by decide)))))))))))))
theorem xinc_lt (v : Nat) : xinc v < 256 := by unfold xinc; omega
theorem xdec_lt (v : Nat) : xdec v < 256 := by unfold xdec; omega
theorem xswp_lt {v : Nat} (h : v < 256) : xswp v < 256 := by unfold xswp; omega
theorem ok_xtwo (hS : okS S) {g r : Nat} : okS (xtwo S g r) := by
  have hv := xget_lt hS r
  unfold xtwo xincF xdecF xswpF
  exact ite_p (fun _ => ok_xset (ok_xfl hS) (xinc_lt _)) (fun _ => ite_p (fun _ => ok_xset (ok_xfl hS) (xdec_lt _)) (fun _ => ite_p (fun _ => ok_xpush hS hv) (fun _ => ite_p (fun _ => ok_xset (ok_xpop hS) (xrd_lt hS _)) (fun _ => ite_p (fun _ => ok_xset (ok_xnx hS) (xrd_lt hS _)) (fun _ => ok_xset (ok_xfl hS) (xswp_lt hv))))))
theorem ok_xjump (hS : okS S) {k w : Nat} : okS (xjump S k w) := by
  unfold xjump
  dsimp only
  exact ite_p (fun _ => ok_xend hS (by decide)) (fun _ => ite_p (fun _ => ite_p (fun _ => ok_pl (ok_xpop hS) (xrd_lt hS _)) (fun _ => hS)) (fun _ => ite_p (fun _ => ok_xnx hS) (fun _ => ite_p (fun _ => ok_pl (ok_xnx hS) (xrd_lt hS _)) (fun _ => ite_p (fun _ => ok_pl (ok_xpush (ok_xnx hS) (okp (ok_xnx hS))) (xrd_lt hS _)) (fun _ => ok_pl (ok_xnx hS) (Nat.mod_lt _ (by decide)))))))
theorem ok_xbits (hS : okS S) {n : Nat} : okS (xbits S n) := by
  have hv := xget_lt hS (n % 8)
  have hm : n / 8 % 8 < 8 := by omega
  unfold xbits xshfF
  dsimp only
  exact ite_p (fun h => ok_xset (ok_xfl hS) (by rw [xshf_B]; exact xshfB_lt _ _ h _ hv)) (fun _ => ite_p (fun _ => hS) (fun _ => ite_p (fun _ => ok_xfl hS) (fun _ => ite_p (fun _ => ok_xset hS (bt_clt _ hm _ hv)) (fun _ => ok_xset hS (bt_slt _ hm _ hv)))))
theorem ok_xobey (hS : okS S) {op : Nat} : okS (xobey S op) := by
  unfold xobey
  exact ite_p (fun _ => ok_xone hS) (fun _ => ite_p (fun _ => ok_xtwo hS) (fun _ => ite_p (fun _ => ok_xset hS (xget_lt hS _)) (fun _ => ite_p (fun _ => ok_xcalc hS (xget_lt hS _)) (fun _ => ite_p (fun _ => ok_xjump hS) (fun _ => ite_p (fun _ => ok_xcalc (ok_xnx hS) (xrd_lt hS _)) (fun _ => ite_p (fun _ => ok_xbits (ok_xnx hS)) (fun _ => ok_xend hS (by decide))))))))
theorem ok_xint (hS : okS S) {k : Nat} (hk : k < 4) : okS (xint S k) := by
  unfold xint
  exact ok_pl (ok_xpush (ok_en (ok_li hS (Nat.lt_of_le_of_lt (Nat.sub_le _ _) (okli hS)))) (okp hS)) (by omega)
theorem xask_lt (S : St) : xask S < 5 := by rcases xask_c S with h | h <;> omega
theorem ok_xstep (hS : okS S) : okS (xstep S) := by
  have h5 := xask_lt S
  unfold xstep
  dsimp only
  exact ite_p (fun _ => ite_p (fun _ => hS) (fun _ => ok_pl (ok_co hS (by decide)) (Nat.mod_lt _ (by decide)))) (fun _ => ite_p (fun h => ok_xint hS (by have := h.2; omega)) (fun _ => ok_en (ok_xobey (ok_xnx (ok_so hS)))))
theorem sc_xone {op : Nat} : sc_ (xone S op) ≤ sc_ S + 1 := by
  have h : ∀ T : St, sc_ T = sc_ S → sc_ T ≤ sc_ S + 1 := fun T h => by omega
  unfold xone
  refine ite_p (p := fun T => sc_ T ≤ sc_ S + 1) (fun _ => ?_) (fun _ => ite_p (p := fun T => sc_ T ≤ sc_ S + 1) (fun _ => ?_) (fun _ => ite_p (p := fun T => sc_ T ≤ sc_ S + 1) (fun _ => ?_) (fun _ => ite_p (p := fun T => sc_ T ≤ sc_ S + 1) (fun _ => ?_) (fun _ => ite_p (p := fun T => sc_ T ≤ sc_ S + 1) (fun _ => ?_) (fun _ => ite_p (p := fun T => sc_ T ≤ sc_ S + 1) (fun _ => ?_) (fun _ => ite_p (p := fun T => sc_ T ≤ sc_ S + 1) (fun _ => ?_) (fun _ => ite_p (p := fun T => sc_ T ≤ sc_ S + 1) (fun _ => ?_) (fun _ => ite_p (p := fun T => sc_ T ≤ sc_ S + 1) (fun _ => ?_) (fun _ => ite_p (p := fun T => sc_ T ≤ sc_ S + 1) (fun _ => ?_) (fun _ => ite_p (p := fun T => sc_ T ≤ sc_ S + 1) (fun _ => ?_) (fun _ => ite_p (p := fun T => sc_ T ≤ sc_ S + 1) (fun _ => ?_) (fun _ => ?_))))))))))))
  · exact Nat.le_succ _
  · exact h _ (by simp only [kp_xend_sc])
  · exact h _ (by simp only [kp_xend_sc])
  · exact h _ (by simp only [ga_sc_en])
  · exact h _ (by simp only [ga_sc_so])
  · exact h _ (by simp only [ga_sc_en, ga_sc_pl, kp_xpop_sc])
  · exact h _ (by simp only [kp_xadj_sc])
  · exact h _ (by simp only [kp_xA_sc, kp_xfl_sc])
  · exact h _ (by simp only [kp_xfl_sc])
  · exact h _ (by simp only [kp_xfl_sc])
  · exact h _ (by simp only [ga_sc_pl, kp_xpop_sc])
  · unfold xsend; rw [ga_sc_sc]; exact Nat.le_refl _
  · exact h _ (by simp only [kp_xend_sc])
theorem sc_xobey {op : Nat} : sc_ (xobey S op) ≤ sc_ S + 1 := by
  have h : ∀ T : St, sc_ T = sc_ S → sc_ T ≤ sc_ S + 1 := fun T h => by omega
  unfold xobey
  refine ite_p (p := fun T => sc_ T ≤ sc_ S + 1) (fun _ => sc_xone) (fun _ => ite_p (p := fun T => sc_ T ≤ sc_ S + 1) (fun _ => ?_) (fun _ => ite_p (p := fun T => sc_ T ≤ sc_ S + 1) (fun _ => ?_) (fun _ => ite_p (p := fun T => sc_ T ≤ sc_ S + 1) (fun _ => ?_) (fun _ => ite_p (p := fun T => sc_ T ≤ sc_ S + 1) (fun _ => ?_) (fun _ => ite_p (p := fun T => sc_ T ≤ sc_ S + 1) (fun _ => ?_) (fun _ => ite_p (p := fun T => sc_ T ≤ sc_ S + 1) (fun _ => ?_) (fun _ => ?_)))))))
  · exact h _ (by simp only [kp_xtwo_sc])
  · exact h _ (by simp only [kp_xset_sc])
  · exact h _ (by simp only [kp_xcalc_sc])
  · exact h _ (by simp only [kp_xjump_sc])
  · exact h _ (by simp only [kp_xcalc_sc, kp_xnx_sc])
  · exact h _ (by simp only [kp_xbits_sc, kp_xnx_sc])
  · exact h _ (by simp only [kp_xend_sc])
theorem sc_xstep : sc_ (xstep S) ≤ sc_ S + 1 := by
  unfold xstep
  dsimp only
  refine ite_p (p := fun T => sc_ T ≤ sc_ S + 1) (fun _ => ite_p (p := fun T => sc_ T ≤ sc_ S + 1) (fun _ => Nat.le_succ _) (fun _ => ?_)) (fun _ => ite_p (p := fun T => sc_ T ≤ sc_ S + 1) (fun _ => ?_) (fun _ => ?_))
  · rw [ga_sc_pl, ga_sc_co]; exact Nat.le_succ _
  · unfold xint; rw [ga_sc_pl, kp_xpush_sc, ga_sc_en, ga_sc_li]; exact Nat.le_succ _
  · rw [ga_sc_en]
    refine Nat.le_trans sc_xobey ?_
    rw [kp_xnx_sc, ga_sc_so]; exact Nat.le_refl _
theorem kp_xstep_im (S : St) : im_ (xstep S) = im_ S := by
  unfold xstep xint
  dsimp only
  repeat' (with_reducible refine ite_all (f := im_) ?_ ?_)
  all_goals simp only [ga_im_pl, ga_im_co, ga_im_en, ga_im_li, ga_im_so, kp_xpush_im, kp_xobey_im, kp_xnx_im]
theorem kp_xstep_bk (S : St) : bk_ (xstep S) = bk_ S := by
  unfold xstep xint
  dsimp only
  repeat' (with_reducible refine ite_all (f := bk_) ?_ ?_)
  all_goals simp only [ga_bk_pl, ga_bk_co, ga_bk_en, ga_bk_li, ga_bk_so, kp_xpush_bk, kp_xobey_bk, kp_xnx_bk]
end OKX
/-! running -/
def xr (a : Int32) : Nat → St → Nat → St × Nat
  | 0, S, i => (S, i)
  | d + 1, S, i => if a ≤ nI i then (S, i) else if co_ S < 2 then xr a d (xstep S) (i + 1) else (S, i)
theorem xr_ok {a : Int32} : ∀ (d : Nat) (S : St) (i : Nat), okS S → okS (xr a d S i).1 ∧ im_ (xr a d S i).1 = im_ S ∧ bk_ (xr a d S i).1 = bk_ S ∧ sc_ (xr a d S i).1 ≤ sc_ S + d ∧ (xr a d S i).2 ≤ i + d := by
  intro d
  induction d with
  | zero => intro S i hS; exact ⟨hS, rfl, rfl, Nat.le_refl _, Nat.le_refl _⟩
  | succ d ih =>
    intro S i hS
    unfold xr
    by_cases h1 : a ≤ nI i
    · rw [if_pos h1]; exact ⟨hS, rfl, rfl, Nat.le_add_right _ _, Nat.le_add_right _ _⟩
    · rw [if_neg h1]
      by_cases h2 : co_ S < 2
      · rw [if_pos h2]
        obtain ⟨h3, h4, h5, h6, h7⟩ := ih (xstep S) (i + 1) (ok_xstep hS)
        have := sc_xstep (S := S)
        exact ⟨h3, h4.trans (kp_xstep_im S), h5.trans (kp_xstep_bk S), by omega, by omega⟩
      · rw [if_neg h2]; exact ⟨hS, rfl, rfl, Nat.le_add_right _ _, Nat.le_add_right _ _⟩
