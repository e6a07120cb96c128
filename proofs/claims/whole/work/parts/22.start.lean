section GoS
variable {G : gt_} {ad : Nat → Nat} {cc : ByteArray} {own : String} {fr lo n cells slots mc ms : Nat} {ws ws' : va_W} {pc : Nat} {lc lc' : List (Nat × Value)} {rest : List Value} {Ex : State → Prop}
/-- .. with a premise of its own -/
theorem go_cix (X : cx_ G ad cc own fr lo n) (hR : (gR_ G).cells = mc ∧ (gR_ G).slots = ms) {y : MethodName} {b : ByteArray} {nb fr1 lo1 mc1 ms1 index a k : Nat} {As : List Value} {S : Type} {post : S → Prop} {w' : S → va_W} {wc wr : va_W}
    (hM : ctn_ (gl_ G) y b nb fr1 lo1 mc1 ms1 (gD_ G) ad Ex (.ref a :: As) wc (qv_ (gD_ G) post w')) (hE : ∀ U : State, (gs_ G).WarmedH U.vm → Ex U) (hB0 : ∀ (U : State) g mk a, Ex U → Ex (U.calling g mk a)) (m1 : Cond.methodLink own index y ∈ wS) (m2 : Cond.instanceMethod y ∈ wS) (m3 : Cond.initialized y.cls ∈ wS) (m4 : Cond.code y b nb none ∈ wS) (hi : y.name = "<init>")
    (hd : y.cls ≠ "java/lang/invoke/MethodHandle" ∧ y.cls ≠ "java/lang/invoke/VarHandle" ∧ (parseMethodDescriptor y.desc).map (fun d => d.parameters.length) = some k) (hk : As.length = k) (hlv : fr1 + 1 ≤ fr ∧ 8 + (nb + 11) + lo1 ≤ lo)
    (isC isR : List Nat) (hC : isC.map (fun i => ws[i]?) = wc.map some) (hr : isR.map (fun i => ws[i]?) = wr.map some) (hnC : va_nd isC = true) (hnR : va_nd isR = true) (hdis : ∀ i ∈ isR, i ∉ isC)
    {st : List Value} (hst : st = As.reverse ++ .ref a :: rest) (hrs : (rest.map fun v => v.category).sum ≤ 8) (hcl : cells + mc1 ≤ mc) (hsl : slots + ms1 ≤ ms) (d : decode cc pc = .ok (.invokespecial index, 3))
    (kk : ∀ u : S, post u → go_ G (cells + mc1) (slots + ms1) (wr ++ w' u) (pc + 3) lc rest) : go_ G cells slots ws pc lc st := by
  intro H locs ls hl hP hD hS
  have hDc := va_sd isC hC hnC hD
  have hPc := va_sp isC hC hP
  have hF := gf_ X hDc hS
  refine va_callv (va_runI (As := As) (rest := rest) ⟨cx_x X, cx_b X, cx_m X, cx_o X, cx_w X⟩ (hM H.size) (cwI k (cx_w X) (gi_ ?_) rfl rfl rfl (cx_w X _ m3) (cx_w X _ m1) (cx_w X _ m2) hi hd ⟨Nat.le_trans hlv.1 (cx_f X), Nat.le_trans hlv.2 (cx_l X)⟩) ⟨pbn_ hB0, fun U hU hW => ?_⟩ rfl hk (hl.1.trans (cx_n X)) hst (lv_room hrs) d ⟨by rw [hR.1]; exact hcl, by rw [hR.2]; exact hsl⟩) hS (fun q _ h => hF q h) hF (fun u t H1 locs1 ht hvm hp hB hz1 hk1 hS1 => ?_)
  · intro w hw
    rcases List.mem_cons.mp hw with rfl | h
    · exact m4
    · exact h
  · obtain ⟨a0, a1, a2, a3, a4, a5⟩ := pp_ X hPc hDc hS (av := .ref a :: As) U hU hW
    exact ⟨a0, a1, a2, a3, a4, a5, hE U hW⟩
  · obtain ⟨hP1, hD1⟩ := va_join hP hD isC isR hC hr hnR hdis hk1 hF (ht ▸ hB.1) hB.2
    exact kk u hp H1 locs1 ls hl hP1 hD1 hS1

theorem go_newal (X : cx_ G ad cc own fr lo n) (hR : (gR_ G).cells = mc ∧ (gR_ G).slots = ms) (harr : Cond.arrayClass .long ∈ wS) {v : Int32} {N : Nat} (hv : ¬ v < 0) (hN : v.toNatClampNeg = N) (hb : N * componentBytes .long ≤ 536870912) (hc : cells + 1 ≤ mc) (hs : slots + N ≤ ms) (d : decode cc pc = .ok (.newarray .long, 2))
    (k : ∀ q : Nat, go_ G (cells + 1) (slots + N) (ws ++ [(q, .inl (ad 98, N, .inr (.inl (fun _ => 0))))]) (pc + 2) lc (.ref q :: rest)) : go_ G cells slots ws pc lc (.int v :: rest) := by
  intro H locs ls hl hP hD hS
  refine va_newa (atype := .long) (cx_x X) (cx_b X) (cx_w X _ harr) (ty := .long) rfl (cx_K X) hP hD hS (cx_A X) (a0 := (N, .inr (.inl (fun _ => 0)))) (fun _ => rfl) hv hN hb (by rw [hR.1]; exact hc) (by rw [hR.2]; exact hs) d (fun q cA H1 hK1 hP1 hD1 hS1 => ?_)
  have e1 : (gs_ G).vm.findClass ("[" ++ FieldType.long.toString) = some cA := (hK1.2 2 (cA, .long) rfl).2
  have e2 : (gs_ G).vm.findClass ("[" ++ FieldType.long.toString) = some (ad 98) := ((cx_K X).2 1 (ad 98, .long) rfl).2
  have e : cA = ad 98 := Option.some.inj (e1.symm.trans e2)
  subst e
  exact k q H1 locs ls hl hP1 hD1 hS1
end GoS
/-- what is left of the claim: numbers alone -/
def pm_ (L : Nat) (xs : Nat → Int32) : Prop := wp_N_begin (fun _ => 0) (fun _ => 0) (0 : Int32) (0 : Int32) (0 : Int32) (0 : Int32) (0 : Int32) (0 : Int32) (fun _ => 0) (0 : Int32) (0 : Int32) (0 : Int32) (0 : Int32) (0 : Int32) (0 : Int32) (0 : Int32) (0 : Int32) (0 : Int32) (0 : Int32) (fun w0 w1 w2 w3 w4 w5 w6 w7 w8 w9 w10 w11 w12 w13 w14 w15 w16 w17 w18 => wp_Q_begin (fun _ => 0) (fun _ => 0) (0 : Int32) (0 : Int32) (0 : Int32) (0 : Int32) (0 : Int32) (0 : Int32) (0 : Int32) (0 : Int32) (0 : Int32) (0 : Int32) (0 : Int32) (0 : Int32) (0 : Int32) (0 : Int32) (fun v0 v1 v2 v3 v4 v5 v6 v7 v8 v9 v10 v11 v12 v13 v14 v15 => ∃ n9 : Nat, n9 ≤ 513 ∧ wp_law L xs n9 (fun _ => 0) (fun _ => 0) (fun _ => 0) (fun _ => 0) (0 : Int32) (fun _ => 0) (0 : Int32) w0 w1 w2 w3 w4 w5 w6 w7 w8 (fun _ => 0) w9 w10 w11 w12 w13 w14 w15 w16 w17 w18 (fun _ => 0) (fun _ => 0) (fun _ => 0) (0 : Int32) (fun _ => 0) (fun _ => 0) (fun _ => 0) (0 : Int32) (0 : Int32) (0 : Int32) (fun _ => 0) (fun _ => 0) (fun _ => 0) (fun _ => 0) (fun _ => 0) (fun _ => 0) (fun _ => 0) (0 : Int32) (fun _ => 0) (fun _ => 0) (0 : Int32) v0 v1 v2 v3 v4 v5 v6 v7 v8 v9 v10 v11 v12 v13 v14 v15 (fun _ => 0) (fun _ => 0) 0))
def aF_ (ad f g : Nat → Nat) (h50 : Nat) : Nat → Nat := fun k => if k < 22 then f k else if k < 43 then g k else if k = 50 then h50 else ad k
def a0_ (tH cL cA : Nat) : Nat → Nat := fun k => if k = 97 then tH else if k = 98 then cL else if k = 99 then cA else 0
theorem ac_ {args : Array Value} {s : State} {ty : FieldType} (h : (Cond.arrayClass ty).before args s = true) : ∃ (cA : ClassId) (kA : Class) (comp : ClassId), s.vm.findClass ("[" ++ ty.toString) = some cA ∧ s.vm.classes[cA]? = some kA ∧ kA.kind = .array comp ty := by
  obtain ⟨c, k, comp, h1, h2, h3⟩ := Cond.arrayClass_spec h
  exact ⟨c, k, comp, h1, h2, h3⟩
set_option maxRecDepth 100000 in
set_option maxHeartbeats 40000000 in
theorem law_start {p : Program} {e : Env} {s : State} {m : MethodId} {below : List Frame} {meth : Method} {c : Code} (l : Launch) (hl0 : l.stackTraces = false) {b L : Nat} {xs : Nat → Int32} (C0 : lw_At p s m meth c b L xs) (hpm : pm_ L xs) : W p l e room_1 s m #[Value.ref b] below meth c s.heap [] 0 0 (lw_Z below #[Value.ref b] s) (entryFrame m ([Value.ref b] : List Value).toArray 7) := by
  obtain ⟨hx, hb, hr, hml, hown, hts, hXs, hbl, hlk, hgv⟩ := C0
  have hfl := flat_of_before _ hgv
  have hwS : ∀ w ∈ wS, w.before #[Value.ref b] s = true := fun w h => hts w (List.mem_filter.mp h).1
  obtain ⟨c0, i0, k0⟩ := u_known hwS inK (hwS _ (wT1 55 rfl rfl))
  obtain ⟨c1, i1, k1⟩ := u_known hwS inN (hwS _ (wT1 105 rfl rfl))
  obtain ⟨c2, i2, k2⟩ := u_known hwS inM (hwS _ (wT1 69 rfl rfl))
  obtain ⟨c3, i3, k3⟩ := u_known hwS inP (hwS _ (wT1 166 rfl rfl))
  obtain ⟨c4, i4, k4⟩ := u_known hwS inS (hwS _ (wT1 24 rfl rfl))
  obtain ⟨c5, i5, k5⟩ := u_known hwS inD (hwS _ (wT1 16 rfl rfl))
  obtain ⟨c6, i6, k6⟩ := u_known hwS inQ (hwS _ (wT3 173 rfl rfl))
  obtain ⟨cA, kA, pA, gA1, gA2, gA3⟩ := ac_ (ty := .int) (hwS _ ai_)
  obtain ⟨cL, kL, pL, gL1, gL2, gL3⟩ := ac_ (ty := .long) (hwS _ (wT5 9 rfl rfl))
  obtain ⟨A, hAe⟩ : ∃ A : Nat → Prop, A = fun q => s.heap.size ≤ q := ⟨_, rfl⟩
  have hAn : ∀ a : Nat, a < s.heap.size → ¬ A a := fun a h h2 => by rw [hAe] at h2; exact absurd h (Nat.not_lt.mpr h2)
  have hAy : ∀ q, s.heap.size ≤ q → A q := fun q h => by rw [hAe]; exact h
  obtain ⟨tH, ht, hT⟩ := va_Tof (A := A) (tm := .static "CartridgeDesk$Cartridge" "HEAD" "[I") (ty := .int) (N := 32) (f := fun j => .int (hd_ j)) (by decide) (hfl _ (by decide +kernel)) (va_eqt (z := 32) (hfl _ (by decide +kernel))) (fun j hj => by
    match j, hj with
    | 0, _ => exact va_eqt (t := .elem (.static "CartridgeDesk$Cartridge" "HEAD" "[I") (.int 0)) (z := 192) (hfl _ (by decide +kernel))
    | 1, _ => exact va_eqt (t := .elem (.static "CartridgeDesk$Cartridge" "HEAD" "[I") (.int 1)) (z := 0) (hfl _ (by decide +kernel))
    | 2, _ => exact va_eqt (t := .elem (.static "CartridgeDesk$Cartridge" "HEAD" "[I") (.int 2)) (z := 206) (hfl _ (by decide +kernel))
    | 3, _ => exact va_eqt (t := .elem (.static "CartridgeDesk$Cartridge" "HEAD" "[I") (.int 3)) (z := 237) (hfl _ (by decide +kernel))
    | 4, _ => exact va_eqt (t := .elem (.static "CartridgeDesk$Cartridge" "HEAD" "[I") (.int 4)) (z := 102) (hfl _ (by decide +kernel))
    | 5, _ => exact va_eqt (t := .elem (.static "CartridgeDesk$Cartridge" "HEAD" "[I") (.int 5)) (z := 204) (hfl _ (by decide +kernel))
    | 6, _ => exact va_eqt (t := .elem (.static "CartridgeDesk$Cartridge" "HEAD" "[I") (.int 6)) (z := 0) (hfl _ (by decide +kernel))
    | 7, _ => exact va_eqt (t := .elem (.static "CartridgeDesk$Cartridge" "HEAD" "[I") (.int 7)) (z := 0) (hfl _ (by decide +kernel))
    | 8, _ => exact va_eqt (t := .elem (.static "CartridgeDesk$Cartridge" "HEAD" "[I") (.int 8)) (z := 0) (hfl _ (by decide +kernel))
    | 9, _ => exact va_eqt (t := .elem (.static "CartridgeDesk$Cartridge" "HEAD" "[I") (.int 9)) (z := 0) (hfl _ (by decide +kernel))
    | 10, _ => exact va_eqt (t := .elem (.static "CartridgeDesk$Cartridge" "HEAD" "[I") (.int 10)) (z := 0) (hfl _ (by decide +kernel))
    | 11, _ => exact va_eqt (t := .elem (.static "CartridgeDesk$Cartridge" "HEAD" "[I") (.int 11)) (z := 0) (hfl _ (by decide +kernel))
    | 12, _ => exact va_eqt (t := .elem (.static "CartridgeDesk$Cartridge" "HEAD" "[I") (.int 12)) (z := 0) (hfl _ (by decide +kernel))
    | 13, _ => exact va_eqt (t := .elem (.static "CartridgeDesk$Cartridge" "HEAD" "[I") (.int 13)) (z := 0) (hfl _ (by decide +kernel))
    | 14, _ => exact va_eqt (t := .elem (.static "CartridgeDesk$Cartridge" "HEAD" "[I") (.int 14)) (z := 0) (hfl _ (by decide +kernel))
    | 15, _ => exact va_eqt (t := .elem (.static "CartridgeDesk$Cartridge" "HEAD" "[I") (.int 15)) (z := 0) (hfl _ (by decide +kernel))
    | 16, _ => exact va_eqt (t := .elem (.static "CartridgeDesk$Cartridge" "HEAD" "[I") (.int 16)) (z := 1) (hfl _ (by decide +kernel))
    | 17, _ => exact va_eqt (t := .elem (.static "CartridgeDesk$Cartridge" "HEAD" "[I") (.int 17)) (z := 10) (hfl _ (by decide +kernel))
    | 18, _ => exact va_eqt (t := .elem (.static "CartridgeDesk$Cartridge" "HEAD" "[I") (.int 18)) (z := 0) (hfl _ (by decide +kernel))
    | 19, _ => exact va_eqt (t := .elem (.static "CartridgeDesk$Cartridge" "HEAD" "[I") (.int 19)) (z := 0) (hfl _ (by decide +kernel))
    | 20, _ => exact va_eqt (t := .elem (.static "CartridgeDesk$Cartridge" "HEAD" "[I") (.int 20)) (z := 1) (hfl _ (by decide +kernel))
    | 21, _ => exact va_eqt (t := .elem (.static "CartridgeDesk$Cartridge" "HEAD" "[I") (.int 21)) (z := 10) (hfl _ (by decide +kernel))
    | 22, _ => exact va_eqt (t := .elem (.static "CartridgeDesk$Cartridge" "HEAD" "[I") (.int 22)) (z := 0) (hfl _ (by decide +kernel))
    | 23, _ => exact va_eqt (t := .elem (.static "CartridgeDesk$Cartridge" "HEAD" "[I") (.int 23)) (z := 0) (hfl _ (by decide +kernel))
    | 24, _ => exact va_eqt (t := .elem (.static "CartridgeDesk$Cartridge" "HEAD" "[I") (.int 24)) (z := 1) (hfl _ (by decide +kernel))
    | 25, _ => exact va_eqt (t := .elem (.static "CartridgeDesk$Cartridge" "HEAD" "[I") (.int 25)) (z := 10) (hfl _ (by decide +kernel))
    | 26, _ => exact va_eqt (t := .elem (.static "CartridgeDesk$Cartridge" "HEAD" "[I") (.int 26)) (z := 0) (hfl _ (by decide +kernel))
    | 27, _ => exact va_eqt (t := .elem (.static "CartridgeDesk$Cartridge" "HEAD" "[I") (.int 27)) (z := 0) (hfl _ (by decide +kernel))
    | 28, _ => exact va_eqt (t := .elem (.static "CartridgeDesk$Cartridge" "HEAD" "[I") (.int 28)) (z := 1) (hfl _ (by decide +kernel))
    | 29, _ => exact va_eqt (t := .elem (.static "CartridgeDesk$Cartridge" "HEAD" "[I") (.int 29)) (z := 10) (hfl _ (by decide +kernel))
    | 30, _ => exact va_eqt (t := .elem (.static "CartridgeDesk$Cartridge" "HEAD" "[I") (.int 30)) (z := 0) (hfl _ (by decide +kernel))
    | 31, _ => exact va_eqt (t := .elem (.static "CartridgeDesk$Cartridge" "HEAD" "[I") (.int 31)) (z := 0) (hfl _ (by decide +kernel))
    | k + 32, h => exact absurd h (by omega)) hAn
  have hfw : fw_ s := by
    refine ⟨fun w hw => ?_, va_Nc.of (hfl _ (by decide +kernel)), va_Nc.of (hfl _ (by decide +kernel)), va_Nc.of (hfl _ (by decide +kernel))⟩
    have h1 := List.all_eq_true.mp xw_ok w hw
    simp only [Bool.and_eq_true] at h1
    refine va_tabs (u := s) h1.2 rfl (hts w ?_)
    simp only [xw_, List.mem_cons, List.not_mem_nil, or_false] at hw
    rcases hw with rfl | rfl | rfl | rfl | rfl | rfl
    · exact (List.mem_append_right _ (List.mem_append_left _ (List.mem_of_getElem? (i := 236) rfl)))
    · exact (List.mem_append_right _ (List.mem_append_left _ (List.mem_of_getElem? (i := 238) rfl)))
    · exact (List.mem_append_right _ (List.mem_append_right _ (List.mem_append_left _ (List.mem_of_getElem? (i := 0) rfl))))
    · exact (List.mem_append_right _ (List.mem_append_left _ (List.mem_of_getElem? (i := 235) rfl)))
    · exact (List.mem_append_right _ (List.mem_append_right _ (List.mem_append_left _ (List.mem_of_getElem? (i := 58) rfl))))
    · exact (List.mem_append_right _ (List.mem_append_right _ (List.mem_append_left _ (List.mem_of_getElem? (i := 111) rfl))))
  have hfz : fz_ (a0_ tH cL cA) A s s.heap := ⟨va_Zref (hts _ (List.mem_append_right _ (List.mem_append_right _ (List.mem_append_left _ (List.mem_of_getElem? (i := 173) rfl))))) (hwS _ (wT1 3 rfl rfl)) ht hAn, hT,
    vx_Zqof (hts _ (List.mem_append_right _ (List.mem_append_right _ (List.mem_append_left _ (List.mem_of_getElem? (i := 20) rfl))))) (hwS _ (wT1 8 rfl rfl)) (hfl _ (by decide +kernel)) hAn,
    vx_Zqof (hts _ (List.mem_append_right _ (List.mem_append_right _ (List.mem_append_left _ (List.mem_of_getElem? (i := 22) rfl))))) (hwS _ (wT1 8 rfl rfl)) (hfl _ (by decide +kernel)) hAn, hfw⟩
  have hED : ∀ U : State, s.WarmedH U.vm → eD_ U := fun U hW => ⟨va_Nw.warmM hW (va_Nw.of rfl (hts _ (List.mem_append_right _ (List.mem_append_left _ (List.mem_of_getElem? (i := 25) rfl))))), va_Nw.warmM hW (va_Nw.of rfl (hts _ (List.mem_append_right _ (List.mem_append_left _ (List.mem_of_getElem? (i := 56) rfl))))), va_Nw.warmM hW (va_Nw.of rfl (hts _ (List.mem_append_right _ (List.mem_append_left _ (List.mem_of_getElem? (i := 167) rfl)))))⟩
  obtain ⟨D, hDe⟩ : ∃ D : va_G, D = ((fun k => match k with | 0 => c0 | 1 => c1 | 2 => c2 | 3 => c3 | 4 => c4 | 5 => c5 | _ => c6), (fun k => match k with | 0 => i0 | 1 => i1 | 2 => i2 | 3 => i3 | 4 => i4 | 5 => i5 | _ => i6)) := ⟨_, rfl⟩
  have hK : va_K D vwCl (ty_ (a0_ tH cL cA)) s := by
    subst hDe
    refine ⟨fun k q h => ?_, fun k q h => ?_⟩
    · match k, h with
      | 0, h => cases h; exact k0
      | 1, h => cases h; exact k1
      | 2, h => cases h; exact k2
      | 3, h => cases h; exact k3
      | 4, h => cases h; exact k4
      | 5, h => cases h; exact k5
      | 6, h => cases h; exact k6
      | k + 7, h => simp at h
    · match k, h with
      | 0, h => cases h; exact ⟨fun n z => ⟨fun k h => (by cases h), kA, gA2, pA, gA3⟩, gA1⟩
      | 1, h => cases h; exact ⟨fun n z => ⟨fun k h => (by cases h), kL, gL2, pL, gL3⟩, gL1⟩
      | k + 2, h => simp at h
  obtain ⟨G, hG⟩ : ∃ G : gt_, G = (p, l, e, room_1, s, m, #[Value.ref b], below, meth, c, D, A, 7, lw_Z below #[Value.ref b] s) := ⟨_, rfl⟩
  have X : cx_ G (a0_ tH cL cA) code RL 10 366 7 := by subst hG; exact ⟨hx, hb, hml, rfl, hown, hwS, hK, hAy, hfz, Nat.le_refl _, Nat.le_refl _⟩
  have hq : rqL_ G b := by subst hG; exact ⟨hr, hlk, rfl, rfl, rfl, fun q h => by rw [hAe] at h; exact h⟩
  have hX : sx_ G b L xs := by subst hG; exact ⟨hXs, hbl, hAn b hbl⟩
  have hgl : (gl_ G).stackTraces = false := by subst hG; exact hl0
  have hR : (gR_ G).cells = 1078 ∧ (gR_ G).slots = 12061 := by rw [hq.2.2.2.2.1]; exact ⟨rfl, rfl⟩
  have hED : ∀ U : State, (gs_ G).WarmedH U.vm → eD_ U := by subst hG; exact hED
  have key : go_ G 0 0 [] 0 [(0, .ref b)] [] := by
    refine go_new (fs := [.null, .null, .null, .null, .null, .null]) (ci := 5) X hR inD tD tD_ok (wT1 15 rfl rfl) (wT1 16 rfl rfl) (wT1 1 rfl rfl) rfl (fun j hj => by match j, hj with | 0, _ => rfl | 1, _ => rfl | 2, _ => rfl | 3, _ => rfl | 4, _ => rfl | 5, _ => rfl) (by decide) (by decide) dL_law_0 (fun h0 => ?_)
    refine go_dup X dL_law_3 rfl ?_
    refine go_cix (wc := [(h0, .inr (5, [.null, .null, .null, .null, .null, .null]))]) (wr := []) X hR (c_D_init hpm) hED (fun U g mk a h => ⟨va_Nw.same rfl rfl h.1, va_Nw.same rfl rfl h.2.1, va_Nw.same rfl rfl h.2.2⟩) (wT1 17 rfl rfl) (wT1 18 rfl rfl) (wT1 1 rfl rfl) (wT1 19 rfl rfl) rfl ⟨by decide, by decide, by decide +kernel⟩ (show _ = 0 from rfl) ⟨by decide, by decide⟩ [0] [] rfl rfl (by decide) (by decide) (by decide) rfl (Nat.le_of_ble_eq_true rfl) (by decide) (by decide) dL_law_4 (fun u hp => ?_)
    refine go_w (ws' := (wC (aC_ (a0_ tH cL cA) h0 u.1 u.2.1 u.2.2.1 u.2.2.2.1 u.2.2.2.2.1 u.2.2.2.2.2.1 u.2.2.2.2.2.2.1 u.2.2.2.2.2.2.2.1 u.2.2.2.2.2.2.2.2.1 u.2.2.2.2.2.2.2.2.2.1 u.2.2.2.2.2.2.2.2.2.2.1 u.2.2.2.2.2.2.2.2.2.2.2.1 u.2.2.2.2.2.2.2.2.2.2.2.2.1 u.2.2.2.2.2.2.2.2.2.2.2.2.2.1 u.2.2.2.2.2.2.2.2.2.2.2.2.2.2.1 u.2.2.2.2.2.2.2.2.2.2.2.2.2.2.2.1 u.2.2.2.2.2.2.2.2.2.2.2.2.2.2.2.2.1 u.2.2.2.2.2.2.2.2.2.2.2.2.2.2.2.2.2.1 u.2.2.2.2.2.2.2.2.2.2.2.2.2.2.2.2.2.2.1 u.2.2.2.2.2.2.2.2.2.2.2.2.2.2.2.2.2.2.2.1 u.2.2.2.2.2.2.2.2.2.2.2.2.2.2.2.2.2.2.2.2.1) (fun _ => 0) (fun _ => 0) (fun _ => 0) (fun _ => 0) (0 : Int32) (fun _ => 0) (0 : Int32) u.2.2.2.2.2.2.2.2.2.2.2.2.2.2.2.2.2.2.2.2.2.1 u.2.2.2.2.2.2.2.2.2.2.2.2.2.2.2.2.2.2.2.2.2.2.1 u.2.2.2.2.2.2.2.2.2.2.2.2.2.2.2.2.2.2.2.2.2.2.2.1 u.2.2.2.2.2.2.2.2.2.2.2.2.2.2.2.2.2.2.2.2.2.2.2.2.1 u.2.2.2.2.2.2.2.2.2.2.2.2.2.2.2.2.2.2.2.2.2.2.2.2.2.1 u.2.2.2.2.2.2.2.2.2.2.2.2.2.2.2.2.2.2.2.2.2.2.2.2.2.2.1 u.2.2.2.2.2.2.2.2.2.2.2.2.2.2.2.2.2.2.2.2.2.2.2.2.2.2.2.1 u.2.2.2.2.2.2.2.2.2.2.2.2.2.2.2.2.2.2.2.2.2.2.2.2.2.2.2.2.1 u.2.2.2.2.2.2.2.2.2.2.2.2.2.2.2.2.2.2.2.2.2.2.2.2.2.2.2.2.2.1 (fun _ => 0) u.2.2.2.2.2.2.2.2.2.2.2.2.2.2.2.2.2.2.2.2.2.2.2.2.2.2.2.2.2.2.1 u.2.2.2.2.2.2.2.2.2.2.2.2.2.2.2.2.2.2.2.2.2.2.2.2.2.2.2.2.2.2.2.1 u.2.2.2.2.2.2.2.2.2.2.2.2.2.2.2.2.2.2.2.2.2.2.2.2.2.2.2.2.2.2.2.2.1 u.2.2.2.2.2.2.2.2.2.2.2.2.2.2.2.2.2.2.2.2.2.2.2.2.2.2.2.2.2.2.2.2.2.1 u.2.2.2.2.2.2.2.2.2.2.2.2.2.2.2.2.2.2.2.2.2.2.2.2.2.2.2.2.2.2.2.2.2.2.1 u.2.2.2.2.2.2.2.2.2.2.2.2.2.2.2.2.2.2.2.2.2.2.2.2.2.2.2.2.2.2.2.2.2.2.2.1 u.2.2.2.2.2.2.2.2.2.2.2.2.2.2.2.2.2.2.2.2.2.2.2.2.2.2.2.2.2.2.2.2.2.2.2.2.1 u.2.2.2.2.2.2.2.2.2.2.2.2.2.2.2.2.2.2.2.2.2.2.2.2.2.2.2.2.2.2.2.2.2.2.2.2.2.1 u.2.2.2.2.2.2.2.2.2.2.2.2.2.2.2.2.2.2.2.2.2.2.2.2.2.2.2.2.2.2.2.2.2.2.2.2.2.2.1 u.2.2.2.2.2.2.2.2.2.2.2.2.2.2.2.2.2.2.2.2.2.2.2.2.2.2.2.2.2.2.2.2.2.2.2.2.2.2.2 (fun _ => 0) (fun _ => 0) (fun _ => 0) (0 : Int32) (fun _ => 0) (fun _ => 0) (fun _ => 0) (0 : Int32))) rfl ?_
    refine go_astore_n X dL_law_7 rfl (by decide) rfl ?_
    refine go_new (fs := [.int 0, .int 0, .null, .null, .null, .null, .null, .null, .null, .int 0, .null, .null, .int 0, .null, .null, .int 0, .int 0, .int 0, .int 0, .int 0, .int 0, .int 0, .int 0, .int 0, .int 0, .int 0, .int 0, .int 0, .int 0, .null]) (ci := 6) X hR inQ tQ tQ_ok (wT3 172 rfl rfl) (wT3 173 rfl rfl) (wT1 7 rfl rfl) rfl (fun j hj => by match j, hj with | 0, _ => rfl | 1, _ => rfl | 2, _ => rfl | 3, _ => rfl | 4, _ => rfl | 5, _ => rfl | 6, _ => rfl | 7, _ => rfl | 8, _ => rfl | 9, _ => rfl | 10, _ => rfl | 11, _ => rfl | 12, _ => rfl | 13, _ => rfl | 14, _ => rfl | 15, _ => rfl | 16, _ => rfl | 17, _ => rfl | 18, _ => rfl | 19, _ => rfl | 20, _ => rfl | 21, _ => rfl | 22, _ => rfl | 23, _ => rfl | 24, _ => rfl | 25, _ => rfl | 26, _ => rfl | 27, _ => rfl | 28, _ => rfl | 29, _ => rfl | k + 30, h => exact absurd h (by omega)) (by decide) (by decide) dL_law_8 (fun h30 => ?_)
    refine go_dup X dL_law_11 rfl ?_
    refine go_ci (wc := [(h30, .inr (6, [.int 0, .int 0, .null, .null, .null, .null, .null, .null, .null, .int 0, .null, .null, .int 0, .null, .null, .int 0, .int 0, .int 0, .int 0, .int 0, .int 0, .int 0, .int 0, .int 0, .int 0, .int 0, .int 0, .int 0, .int 0, .null]))]) (wr := (wC (aC_ (a0_ tH cL cA) h0 u.1 u.2.1 u.2.2.1 u.2.2.2.1 u.2.2.2.2.1 u.2.2.2.2.2.1 u.2.2.2.2.2.2.1 u.2.2.2.2.2.2.2.1 u.2.2.2.2.2.2.2.2.1 u.2.2.2.2.2.2.2.2.2.1 u.2.2.2.2.2.2.2.2.2.2.1 u.2.2.2.2.2.2.2.2.2.2.2.1 u.2.2.2.2.2.2.2.2.2.2.2.2.1 u.2.2.2.2.2.2.2.2.2.2.2.2.2.1 u.2.2.2.2.2.2.2.2.2.2.2.2.2.2.1 u.2.2.2.2.2.2.2.2.2.2.2.2.2.2.2.1 u.2.2.2.2.2.2.2.2.2.2.2.2.2.2.2.2.1 u.2.2.2.2.2.2.2.2.2.2.2.2.2.2.2.2.2.1 u.2.2.2.2.2.2.2.2.2.2.2.2.2.2.2.2.2.2.1 u.2.2.2.2.2.2.2.2.2.2.2.2.2.2.2.2.2.2.2.1 u.2.2.2.2.2.2.2.2.2.2.2.2.2.2.2.2.2.2.2.2.1) (fun _ => 0) (fun _ => 0) (fun _ => 0) (fun _ => 0) (0 : Int32) (fun _ => 0) (0 : Int32) u.2.2.2.2.2.2.2.2.2.2.2.2.2.2.2.2.2.2.2.2.2.1 u.2.2.2.2.2.2.2.2.2.2.2.2.2.2.2.2.2.2.2.2.2.2.1 u.2.2.2.2.2.2.2.2.2.2.2.2.2.2.2.2.2.2.2.2.2.2.2.1 u.2.2.2.2.2.2.2.2.2.2.2.2.2.2.2.2.2.2.2.2.2.2.2.2.1 u.2.2.2.2.2.2.2.2.2.2.2.2.2.2.2.2.2.2.2.2.2.2.2.2.2.1 u.2.2.2.2.2.2.2.2.2.2.2.2.2.2.2.2.2.2.2.2.2.2.2.2.2.2.1 u.2.2.2.2.2.2.2.2.2.2.2.2.2.2.2.2.2.2.2.2.2.2.2.2.2.2.2.1 u.2.2.2.2.2.2.2.2.2.2.2.2.2.2.2.2.2.2.2.2.2.2.2.2.2.2.2.2.1 u.2.2.2.2.2.2.2.2.2.2.2.2.2.2.2.2.2.2.2.2.2.2.2.2.2.2.2.2.2.1 (fun _ => 0) u.2.2.2.2.2.2.2.2.2.2.2.2.2.2.2.2.2.2.2.2.2.2.2.2.2.2.2.2.2.2.1 u.2.2.2.2.2.2.2.2.2.2.2.2.2.2.2.2.2.2.2.2.2.2.2.2.2.2.2.2.2.2.2.1 u.2.2.2.2.2.2.2.2.2.2.2.2.2.2.2.2.2.2.2.2.2.2.2.2.2.2.2.2.2.2.2.2.1 u.2.2.2.2.2.2.2.2.2.2.2.2.2.2.2.2.2.2.2.2.2.2.2.2.2.2.2.2.2.2.2.2.2.1 u.2.2.2.2.2.2.2.2.2.2.2.2.2.2.2.2.2.2.2.2.2.2.2.2.2.2.2.2.2.2.2.2.2.2.1 u.2.2.2.2.2.2.2.2.2.2.2.2.2.2.2.2.2.2.2.2.2.2.2.2.2.2.2.2.2.2.2.2.2.2.2.1 u.2.2.2.2.2.2.2.2.2.2.2.2.2.2.2.2.2.2.2.2.2.2.2.2.2.2.2.2.2.2.2.2.2.2.2.2.1 u.2.2.2.2.2.2.2.2.2.2.2.2.2.2.2.2.2.2.2.2.2.2.2.2.2.2.2.2.2.2.2.2.2.2.2.2.2.1 u.2.2.2.2.2.2.2.2.2.2.2.2.2.2.2.2.2.2.2.2.2.2.2.2.2.2.2.2.2.2.2.2.2.2.2.2.2.2.1 u.2.2.2.2.2.2.2.2.2.2.2.2.2.2.2.2.2.2.2.2.2.2.2.2.2.2.2.2.2.2.2.2.2.2.2.2.2.2.2 (fun _ => 0) (fun _ => 0) (fun _ => 0) (0 : Int32) (fun _ => 0) (fun _ => 0) (fun _ => 0) (0 : Int32))) X hR (c_Q_init hp) (wT3 174 rfl rfl) (wT3 175 rfl rfl) (wT1 7 rfl rfl) (wT3 176 rfl rfl) rfl ⟨by decide, by decide, by decide +kernel⟩ (show _ = 0 from rfl) ⟨by decide, by decide⟩ [22] [0, 1, 2, 3, 4, 5, 6, 7, 8, 9, 10, 11, 12, 13, 14, 15, 16, 17, 18, 19, 20, 21] rfl rfl (by decide) (by decide) (by decide) rfl (Nat.le_of_ble_eq_true rfl) (by decide) (by decide) dL_law_12 (fun v hp => ?_)
    obtain ⟨n9, hn9, hw⟩ := hp
    refine go_astore_n X dL_law_15 rfl (by decide) rfl ?_
    refine go_iconst X dL_law_16 kc_i1 ?_
    refine go_newal X hR (wT5 9 rfl rfl) (by decide) (show _ = 1 from by decide) (by decide) (by decide) (by decide) dL_law_17 (fun h50 => ?_)
    refine go_astore_n X dL_law_19 rfl (by decide) rfl ?_
    refine go_iconst X dL_law_20 kc_i0 ?_
    refine go_istore X dL_law_21 (by decide) rfl ?_
    refine go_perm (ws' := (wL (aF_ (a0_ tH cL cA) (aC_ (a0_ tH cL cA) h0 u.1 u.2.1 u.2.2.1 u.2.2.2.1 u.2.2.2.2.1 u.2.2.2.2.2.1 u.2.2.2.2.2.2.1 u.2.2.2.2.2.2.2.1 u.2.2.2.2.2.2.2.2.1 u.2.2.2.2.2.2.2.2.2.1 u.2.2.2.2.2.2.2.2.2.2.1 u.2.2.2.2.2.2.2.2.2.2.2.1 u.2.2.2.2.2.2.2.2.2.2.2.2.1 u.2.2.2.2.2.2.2.2.2.2.2.2.2.1 u.2.2.2.2.2.2.2.2.2.2.2.2.2.2.1 u.2.2.2.2.2.2.2.2.2.2.2.2.2.2.2.1 u.2.2.2.2.2.2.2.2.2.2.2.2.2.2.2.2.1 u.2.2.2.2.2.2.2.2.2.2.2.2.2.2.2.2.2.1 u.2.2.2.2.2.2.2.2.2.2.2.2.2.2.2.2.2.2.1 u.2.2.2.2.2.2.2.2.2.2.2.2.2.2.2.2.2.2.2.1 u.2.2.2.2.2.2.2.2.2.2.2.2.2.2.2.2.2.2.2.2.1) (aQ_ (a0_ tH cL cA) h30 v.1 v.2.1 v.2.2.1 v.2.2.2.1 v.2.2.2.2.1 v.2.2.2.2.2.1 v.2.2.2.2.2.2.1 v.2.2.2.2.2.2.2.1 v.2.2.2.2.2.2.2.2.1 v.2.2.2.2.2.2.2.2.2.1 v.2.2.2.2.2.2.2.2.2.2.1 v.2.2.2.2.2.2.2.2.2.2.2.1) h50) (fun _ => 0) (fun _ => 0) (fun _ => 0) (fun _ => 0) (fun _ => 0) (0 : Int32) (fun _ => 0) (0 : Int32) u.2.2.2.2.2.2.2.2.2.2.2.2.2.2.2.2.2.2.2.2.2.1 u.2.2.2.2.2.2.2.2.2.2.2.2.2.2.2.2.2.2.2.2.2.2.1 u.2.2.2.2.2.2.2.2.2.2.2.2.2.2.2.2.2.2.2.2.2.2.2.1 u.2.2.2.2.2.2.2.2.2.2.2.2.2.2.2.2.2.2.2.2.2.2.2.2.1 u.2.2.2.2.2.2.2.2.2.2.2.2.2.2.2.2.2.2.2.2.2.2.2.2.2.1 u.2.2.2.2.2.2.2.2.2.2.2.2.2.2.2.2.2.2.2.2.2.2.2.2.2.2.1 u.2.2.2.2.2.2.2.2.2.2.2.2.2.2.2.2.2.2.2.2.2.2.2.2.2.2.2.1 u.2.2.2.2.2.2.2.2.2.2.2.2.2.2.2.2.2.2.2.2.2.2.2.2.2.2.2.2.1 u.2.2.2.2.2.2.2.2.2.2.2.2.2.2.2.2.2.2.2.2.2.2.2.2.2.2.2.2.2.1 (fun _ => 0) u.2.2.2.2.2.2.2.2.2.2.2.2.2.2.2.2.2.2.2.2.2.2.2.2.2.2.2.2.2.2.1 u.2.2.2.2.2.2.2.2.2.2.2.2.2.2.2.2.2.2.2.2.2.2.2.2.2.2.2.2.2.2.2.1 u.2.2.2.2.2.2.2.2.2.2.2.2.2.2.2.2.2.2.2.2.2.2.2.2.2.2.2.2.2.2.2.2.1 u.2.2.2.2.2.2.2.2.2.2.2.2.2.2.2.2.2.2.2.2.2.2.2.2.2.2.2.2.2.2.2.2.2.1 u.2.2.2.2.2.2.2.2.2.2.2.2.2.2.2.2.2.2.2.2.2.2.2.2.2.2.2.2.2.2.2.2.2.2.1 u.2.2.2.2.2.2.2.2.2.2.2.2.2.2.2.2.2.2.2.2.2.2.2.2.2.2.2.2.2.2.2.2.2.2.2.1 u.2.2.2.2.2.2.2.2.2.2.2.2.2.2.2.2.2.2.2.2.2.2.2.2.2.2.2.2.2.2.2.2.2.2.2.2.1 u.2.2.2.2.2.2.2.2.2.2.2.2.2.2.2.2.2.2.2.2.2.2.2.2.2.2.2.2.2.2.2.2.2.2.2.2.2.1 u.2.2.2.2.2.2.2.2.2.2.2.2.2.2.2.2.2.2.2.2.2.2.2.2.2.2.2.2.2.2.2.2.2.2.2.2.2.2.1 u.2.2.2.2.2.2.2.2.2.2.2.2.2.2.2.2.2.2.2.2.2.2.2.2.2.2.2.2.2.2.2.2.2.2.2.2.2.2.2 (fun _ => 0) (fun _ => 0) (fun _ => 0) (0 : Int32) (fun _ => 0) (fun _ => 0) (fun _ => 0) (0 : Int32) (0 : Int32) (0 : Int32) (fun _ => 0) (fun _ => 0) (fun _ => 0) (fun _ => 0) (fun _ => 0) (fun _ => 0) (fun _ => 0) (0 : Int32) (fun _ => 0) (fun _ => 0) (0 : Int32) v.2.2.2.2.2.2.2.2.2.2.2.2.1 v.2.2.2.2.2.2.2.2.2.2.2.2.2.1 v.2.2.2.2.2.2.2.2.2.2.2.2.2.2.1 v.2.2.2.2.2.2.2.2.2.2.2.2.2.2.2.1 v.2.2.2.2.2.2.2.2.2.2.2.2.2.2.2.2.1 v.2.2.2.2.2.2.2.2.2.2.2.2.2.2.2.2.2.1 v.2.2.2.2.2.2.2.2.2.2.2.2.2.2.2.2.2.2.1 v.2.2.2.2.2.2.2.2.2.2.2.2.2.2.2.2.2.2.2.1 v.2.2.2.2.2.2.2.2.2.2.2.2.2.2.2.2.2.2.2.2.1 v.2.2.2.2.2.2.2.2.2.2.2.2.2.2.2.2.2.2.2.2.2.1 v.2.2.2.2.2.2.2.2.2.2.2.2.2.2.2.2.2.2.2.2.2.2.1 v.2.2.2.2.2.2.2.2.2.2.2.2.2.2.2.2.2.2.2.2.2.2.2.1 v.2.2.2.2.2.2.2.2.2.2.2.2.2.2.2.2.2.2.2.2.2.2.2.2.1 v.2.2.2.2.2.2.2.2.2.2.2.2.2.2.2.2.2.2.2.2.2.2.2.2.2.1 v.2.2.2.2.2.2.2.2.2.2.2.2.2.2.2.2.2.2.2.2.2.2.2.2.2.2.1 v.2.2.2.2.2.2.2.2.2.2.2.2.2.2.2.2.2.2.2.2.2.2.2.2.2.2.2 (fun _ => 0))) [22, 23, 24, 25, 26, 27, 28, 29, 30, 31, 32, 33, 34, 35, 0, 1, 2, 3, 4, 5, 6, 7, 8, 9, 10, 11, 12, 13, 14, 15, 16, 17, 18, 19, 20, 21] rfl (by decide) rfl ?_
    refine go_lc [4, 3, 2, 1, 0] rfl ?_
    have X : cx_ G (aF_ (a0_ tH cL cA) (aC_ (a0_ tH cL cA) h0 u.1 u.2.1 u.2.2.1 u.2.2.2.1 u.2.2.2.2.1 u.2.2.2.2.2.1 u.2.2.2.2.2.2.1 u.2.2.2.2.2.2.2.1 u.2.2.2.2.2.2.2.2.1 u.2.2.2.2.2.2.2.2.2.1 u.2.2.2.2.2.2.2.2.2.2.1 u.2.2.2.2.2.2.2.2.2.2.2.1 u.2.2.2.2.2.2.2.2.2.2.2.2.1 u.2.2.2.2.2.2.2.2.2.2.2.2.2.1 u.2.2.2.2.2.2.2.2.2.2.2.2.2.2.1 u.2.2.2.2.2.2.2.2.2.2.2.2.2.2.2.1 u.2.2.2.2.2.2.2.2.2.2.2.2.2.2.2.2.1 u.2.2.2.2.2.2.2.2.2.2.2.2.2.2.2.2.2.1 u.2.2.2.2.2.2.2.2.2.2.2.2.2.2.2.2.2.2.1 u.2.2.2.2.2.2.2.2.2.2.2.2.2.2.2.2.2.2.2.1 u.2.2.2.2.2.2.2.2.2.2.2.2.2.2.2.2.2.2.2.2.1) (aQ_ (a0_ tH cL cA) h30 v.1 v.2.1 v.2.2.1 v.2.2.2.1 v.2.2.2.2.1 v.2.2.2.2.2.1 v.2.2.2.2.2.2.1 v.2.2.2.2.2.2.2.1 v.2.2.2.2.2.2.2.2.1 v.2.2.2.2.2.2.2.2.2.1 v.2.2.2.2.2.2.2.2.2.2.1 v.2.2.2.2.2.2.2.2.2.2.2.1) h50) code RL 10 366 7 := X
    exact law_loop hgl hX hq n9 X _ _ (by omega) (by omega) _ _ _ _ _ _ _ _ _ _ _ _ _ _ _ _ _ _ _ _ _ _ _ _ _ _ _ _ _ _ _ _ _ _ _ _ _ _ _ _ _ _ _ _ _ _ _ _ _ _ _ _ _ _ _ _ _ _ _ _ _ _ _ _ _ _ _ hw
  rw [lg_entry_eq]
  have hl := lv_entry [Value.ref b] (n := 7) (Nat.le_of_ble_eq_true rfl)
  subst hG
  exact key s.heap [] _ hl (fun k q h => by simp at h) ⟨fun i j p q h => by simp at h, fun k q h => by simp at h⟩ va_S.rf
