/-! calls on a part of the world; methods that catch -/
section GoF
variable {G : gt_} {ad : Nat → Nat} {cc : ByteArray} {own : String} {fr lo n cells slots mc ms : Nat} {ws ws' : va_W} {pc : Nat} {lc lc' : List (Nat × Value)} {rest st : List Value}
theorem go_widen {c1 s1 : Nat} (hc : cells ≤ c1) (hs : slots ≤ s1) (k : go_ G c1 s1 ws pc lc st) : go_ G cells slots ws pc lc st := fun H locs ls hl hP hD hS => W.widen hc hs (k H locs ls hl hP hD hS)
theorem go_fvi (X : cx_ G ad cc own fr lo n) {y : MethodName} {b : ByteArray} {nb fr1 lo1 index a ci N : Nat} {ret : Option FieldType} {C : String} {T : u_T} {As fs : List Value} {S : Type} {post : Int32 → S → Prop} {w' : S → va_W} {wc wr : va_W}
    (hM : ct_ (gl_ G) y b nb ret fr1 lo1 (gD_ G) ad (.ref a :: As) wc (qi_ (gD_ G) post w')) (hm : me_ y b nb ret C As.length) (m1 : Cond.methodLink own index y ∈ wS) (hlv : fr1 + 1 ≤ fr ∧ 8 + (nb + 11) + lo1 ≤ lo) (isC isR : List Nat) (hC : isC.map (fun i => ws[i]?) = wc.map some) (hr : isR.map (fun i => ws[i]?) = wr.map some) (hnC : va_nd isC = true) (hnR : va_nd isR = true) (hdis : ∀ i ∈ isR, i ∉ isC)
    (q0 : Nat) (he : wc[q0]? = some (a, .inr (ci, fs))) (hc : vwCl[ci]? = some (C, T, N)) (hst : st = As.reverse ++ .ref a :: rest) (hrs : (rest.map fun v => v.category).sum ≤ 8) (hcs : cells ≤ (gR_ G).cells ∧ slots ≤ (gR_ G).slots) (d : decode cc pc = .ok (.invokevirtual index, 3))
    (kk : ∀ (r : Int32) (u : S), post r u → go_ G cells slots (wr ++ w' u) (pc + 3) lc (.int r :: rest)) : go_ G cells slots ws pc lc st := by
  intro H locs ls hl hP hD hS
  obtain ⟨m2, m3, m4, m5, hd⟩ := hm
  have hDc := va_sd isC hC hnC hD
  have hPc := va_sp isC hC hP
  have hF := gf_ X hDc hS
  refine va_calli (va_runV (As := As) (rest := rest) ⟨cx_x X, cx_b X, cx_m X, cx_o X, cx_w X⟩ (hM H.size) (cwV As.length (cx_w X) (gi_ ?_) rfl rfl rfl hd ⟨Nat.le_trans hlv.1 (cx_f X), Nat.le_trans hlv.2 (cx_l X)⟩) ⟨pb_, va_recv (cx_K X) hPc hc he, pp_ X hPc hDc hS⟩ rfl rfl (hl.1.trans (cx_n X)) hst (lv_room hrs) d hcs) hS (fun q _ h => hF q h) hF (fun r u t H1 locs1 ht hvm hp hB hz1 hk1 hS1 => ?_)
  · intro w hw
    rcases List.mem_append.mp hw with h | h
    · simp only [List.mem_cons, List.not_mem_nil, or_false] at h
      rcases h with rfl | rfl | rfl | rfl
      · exact m1
      · exact m2
      · exact m3
      · exact m4
    · rcases List.mem_cons.mp h with rfl | h
      · exact m5
      · exact h
  · obtain ⟨hP1, hD1⟩ := va_join hP hD isC isR hC hr hnR hdis hk1 hF (ht ▸ hB.1) hB.2
    exact kk r u hp H1 locs1 ls hl hP1 hD1 hS1
theorem go_fvv (X : cx_ G ad cc own fr lo n) {y : MethodName} {b : ByteArray} {nb fr1 lo1 index a ci N : Nat} {ret : Option FieldType} {C : String} {T : u_T} {As fs : List Value} {S : Type} {post : S → Prop} {w' : S → va_W} {wc wr : va_W}
    (hM : ct_ (gl_ G) y b nb ret fr1 lo1 (gD_ G) ad (.ref a :: As) wc (qv_ (gD_ G) post w')) (hm : me_ y b nb ret C As.length) (m1 : Cond.methodLink own index y ∈ wS) (hlv : fr1 + 1 ≤ fr ∧ 8 + (nb + 11) + lo1 ≤ lo) (isC isR : List Nat) (hC : isC.map (fun i => ws[i]?) = wc.map some) (hr : isR.map (fun i => ws[i]?) = wr.map some) (hnC : va_nd isC = true) (hnR : va_nd isR = true) (hdis : ∀ i ∈ isR, i ∉ isC)
    (q0 : Nat) (he : wc[q0]? = some (a, .inr (ci, fs))) (hc : vwCl[ci]? = some (C, T, N)) (hst : st = As.reverse ++ .ref a :: rest) (hrs : (rest.map fun v => v.category).sum ≤ 8) (hcs : cells ≤ (gR_ G).cells ∧ slots ≤ (gR_ G).slots) (d : decode cc pc = .ok (.invokevirtual index, 3))
    (kk : ∀ u : S, post u → go_ G cells slots (wr ++ w' u) (pc + 3) lc rest) : go_ G cells slots ws pc lc st := by
  intro H locs ls hl hP hD hS
  obtain ⟨m2, m3, m4, m5, hd⟩ := hm
  have hDc := va_sd isC hC hnC hD
  have hPc := va_sp isC hC hP
  have hF := gf_ X hDc hS
  refine va_callv (va_runV (As := As) (rest := rest) ⟨cx_x X, cx_b X, cx_m X, cx_o X, cx_w X⟩ (hM H.size) (cwV As.length (cx_w X) (gi_ ?_) rfl rfl rfl hd ⟨Nat.le_trans hlv.1 (cx_f X), Nat.le_trans hlv.2 (cx_l X)⟩) ⟨pb_, va_recv (cx_K X) hPc hc he, pp_ X hPc hDc hS⟩ rfl rfl (hl.1.trans (cx_n X)) hst (lv_room hrs) d hcs) hS (fun q _ h => hF q h) hF (fun u t H1 locs1 ht hvm hp hB hz1 hk1 hS1 => ?_)
  · intro w hw
    rcases List.mem_append.mp hw with h | h
    · simp only [List.mem_cons, List.not_mem_nil, or_false] at h
      rcases h with rfl | rfl | rfl | rfl
      · exact m1
      · exact m2
      · exact m3
      · exact m4
    · rcases List.mem_cons.mp h with rfl | h
      · exact m5
      · exact h
  · obtain ⟨hP1, hD1⟩ := va_join hP hD isC isR hC hr hnR hdis hk1 hF (ht ▸ hB.1) hB.2
    exact kk u hp H1 locs1 ls hl hP1 hD1 hS1
/-- an exception z is on its way at pc -/
def gx_ (G : gt_) (cells slots : Nat) (ws : va_W) (pc : Nat) (lc : List (Nat × Value)) (st : List Value) (z : Nat) : Prop :=
  ∀ (H : Heap) (locs : List Loc) (ls : Array Slot) (q : Addr) (ce : Cell), lv_has ls (gn_ G) lc → va_P (gD_ G) vwCl ws H → va_D (gA_ G) ws → va_S (gA_ G) (gs_ G).heap H locs → H[q]? = some ce → ce.vm = .none → (gs_ G).vm.findClass (xn_ z) = some ce.cls →
    vx_W (gp_ G) (gl_ G) (ge_ G) (gR_ G) (gs_ G) (gm_ G) (ga_ G) (gb_ G) (gh_ G) (gc_ G) H locs cells slots (gQ_ G) (F0 (gm_ G) pc ls st) q
theorem gx_catch (X : cx_ G ad cc own fr lo n) {z : Nat} (pre : List ExceptionTableEntry) (x : ExceptionTableEntry) (suf : List ExceptionTableEntry) (hsplit : (gc_ G).exceptionTable.toList = pre ++ x :: suf)
    (hpass : ∀ y ∈ pre, covers y pc = false ∨ (y.catchType ≠ 0 ∧ ∃ nm : String, Cond.classLink own y.catchType nm ∈ wS ∧ va_Nc (xn_ z) nm (gs_ G))) (hx : covers x pc = true) (h0 : x.catchType ≠ 0) {nm : String} (hlink : Cond.classLink own x.catchType nm ∈ wS) (hcast : Cond.castable (xn_ z) nm ∈ xw_)
    (kk : ∀ q : Nat, go_ G cells slots ws x.handlerPc lc [.ref q]) : gx_ G cells slots ws pc lc st z := by
  intro H locs ls q ce hl hP hD hS hce hcv hcl
  refine vx_catch (cx_o X) pre x suf hsplit (fun y hy => ?_) hx h0 (cx_w X _ hlink) ?_ hce hcv hcl (kk q H locs ls hl hP hD hS)
  · rcases hpass y hy with h | ⟨h1, nm, h2, h3⟩
    · exact Or.inl h
    · exact Or.inr ⟨h1, nm, cx_w X _ h2, h3⟩
  · have h1 := List.all_eq_true.mp xw_ok _ hcast
    simp only [Bool.and_eq_true] at h1
    exact va_tabs (u := gs_ G) h1.2 rfl ((cx_F X).2.2.2.2.1 _ hcast)
theorem go_fxi (X : cx_ G ad cc own fr lo n) {y : MethodName} {b : ByteArray} {nb fr1 lo1 index a ci N : Nat} {ret : Option FieldType} {C : String} {T : u_T} {As fs : List Value} {S SX : Type} {post : Int32 → S → Prop} {px : Nat → SX → Prop} {w' : S → va_W} {wx : SX → va_W} {wc wr : va_W}
    (hM : ctx_ (gl_ G) y b nb ret fr1 lo1 (gD_ G) ad (.ref a :: As) wc (qi_ (gD_ G) post w') (qx_ (gD_ G) px wx)) (hm : me_ y b nb ret C As.length) (m1 : Cond.methodLink own index y ∈ wS) (hlv : fr1 + 1 ≤ fr ∧ 8 + (nb + 11) + lo1 ≤ lo) (isC isR : List Nat) (hC : isC.map (fun i => ws[i]?) = wc.map some) (hr : isR.map (fun i => ws[i]?) = wr.map some) (hnC : va_nd isC = true) (hnR : va_nd isR = true) (hdis : ∀ i ∈ isR, i ∉ isC)
    (q0 : Nat) (he : wc[q0]? = some (a, .inr (ci, fs))) (hc : vwCl[ci]? = some (C, T, N)) (hst : st = As.reverse ++ .ref a :: rest) (hrs : (rest.map fun v => v.category).sum ≤ 8) (hcs : cells + 1 ≤ (gR_ G).cells ∧ slots + 6 ≤ (gR_ G).slots) (d : decode cc pc = .ok (.invokevirtual index, 3))
    (kk : ∀ (r : Int32) (u : S), post r u → go_ G (cells + 1) (slots + 6) (wr ++ w' u) (pc + 3) lc (.int r :: rest)) (kx : ∀ (z : Nat) (u : SX), px z u → gx_ G (cells + 1) (slots + 6) (wr ++ wx u) pc lc rest z) : go_ G cells slots ws pc lc st := by
  intro H locs ls hl hP hD hS
  obtain ⟨m2, m3, m4, m5, hd⟩ := hm
  have hDc := va_sd isC hC hnC hD
  have hPc := va_sp isC hC hP
  have hF := gf_ X hDc hS
  refine vx_calli (vx_runV (As := As) (rest := rest) ⟨cx_x X, cx_b X, cx_m X, cx_o X, cx_w X⟩ (hM H.size) (cwV As.length (cx_w X) (gi_ ?_) rfl rfl rfl hd ⟨Nat.le_trans hlv.1 (cx_f X), Nat.le_trans hlv.2 (cx_l X)⟩) ⟨pb_, va_recv (cx_K X) hPc hc he, pp_ X hPc hDc hS⟩ rfl rfl (hl.1.trans (cx_n X)) hst (lv_room hrs) d hcs) hS (fun q _ h => hF q h) hF (fun q _ h => hF q h) (fun E ce q9 u t H1 locs1 ht hvm hp hB hz1 hk1 hS1 hce hcv hcl => ?_) (fun r u t H1 locs1 ht hvm hp hB hz1 hk1 hS1 => ?_)
  · intro w hw
    rcases List.mem_append.mp hw with h | h
    · simp only [List.mem_cons, List.not_mem_nil, or_false] at h
      rcases h with rfl | rfl | rfl | rfl
      · exact m1
      · exact m2
      · exact m3
      · exact m4
    · rcases List.mem_cons.mp h with rfl | h
      · exact m5
      · exact h
  · obtain ⟨rfl, hP2, hD2⟩ := hB
    obtain ⟨hP1, hD1⟩ := va_join hP hD isC isR hC hr hnR hdis hk1 hF (ht ▸ hP2) hD2
    exact kx u.1 u.2 hp H1 locs1 ls q9 ce hl hP1 hD1 hS1 hce hcv hcl
  · obtain ⟨hP1, hD1⟩ := va_join hP hD isC isR hC hr hnR hdis hk1 hF (ht ▸ hB.1) hB.2
    exact kk r u hp H1 locs1 ls hl hP1 hD1 hS1
theorem go_fxv (X : cx_ G ad cc own fr lo n) {y : MethodName} {b : ByteArray} {nb fr1 lo1 index a ci N : Nat} {ret : Option FieldType} {C : String} {T : u_T} {As fs : List Value} {S SX : Type} {post : S → Prop} {px : Nat → SX → Prop} {w' : S → va_W} {wx : SX → va_W} {wc wr : va_W}
    (hM : ctx_ (gl_ G) y b nb ret fr1 lo1 (gD_ G) ad (.ref a :: As) wc (qv_ (gD_ G) post w') (qx_ (gD_ G) px wx)) (hm : me_ y b nb ret C As.length) (m1 : Cond.methodLink own index y ∈ wS) (hlv : fr1 + 1 ≤ fr ∧ 8 + (nb + 11) + lo1 ≤ lo) (isC isR : List Nat) (hC : isC.map (fun i => ws[i]?) = wc.map some) (hr : isR.map (fun i => ws[i]?) = wr.map some) (hnC : va_nd isC = true) (hnR : va_nd isR = true) (hdis : ∀ i ∈ isR, i ∉ isC)
    (q0 : Nat) (he : wc[q0]? = some (a, .inr (ci, fs))) (hc : vwCl[ci]? = some (C, T, N)) (hst : st = As.reverse ++ .ref a :: rest) (hrs : (rest.map fun v => v.category).sum ≤ 8) (hcs : cells + 1 ≤ (gR_ G).cells ∧ slots + 6 ≤ (gR_ G).slots) (d : decode cc pc = .ok (.invokevirtual index, 3))
    (kk : ∀ u : S, post u → go_ G (cells + 1) (slots + 6) (wr ++ w' u) (pc + 3) lc rest) (kx : ∀ (z : Nat) (u : SX), px z u → gx_ G (cells + 1) (slots + 6) (wr ++ wx u) pc lc rest z) : go_ G cells slots ws pc lc st := by
  intro H locs ls hl hP hD hS
  obtain ⟨m2, m3, m4, m5, hd⟩ := hm
  have hDc := va_sd isC hC hnC hD
  have hPc := va_sp isC hC hP
  have hF := gf_ X hDc hS
  refine vx_callv (vx_runV (As := As) (rest := rest) ⟨cx_x X, cx_b X, cx_m X, cx_o X, cx_w X⟩ (hM H.size) (cwV As.length (cx_w X) (gi_ ?_) rfl rfl rfl hd ⟨Nat.le_trans hlv.1 (cx_f X), Nat.le_trans hlv.2 (cx_l X)⟩) ⟨pb_, va_recv (cx_K X) hPc hc he, pp_ X hPc hDc hS⟩ rfl rfl (hl.1.trans (cx_n X)) hst (lv_room hrs) d hcs) hS (fun q _ h => hF q h) hF (fun q _ h => hF q h) (fun E ce q9 u t H1 locs1 ht hvm hp hB hz1 hk1 hS1 hce hcv hcl => ?_) (fun u t H1 locs1 ht hvm hp hB hz1 hk1 hS1 => ?_)
  · intro w hw
    rcases List.mem_append.mp hw with h | h
    · simp only [List.mem_cons, List.not_mem_nil, or_false] at h
      rcases h with rfl | rfl | rfl | rfl
      · exact m1
      · exact m2
      · exact m3
      · exact m4
    · rcases List.mem_cons.mp h with rfl | h
      · exact m5
      · exact h
  · obtain ⟨rfl, hP2, hD2⟩ := hB
    obtain ⟨hP1, hD1⟩ := va_join hP hD isC isR hC hr hnR hdis hk1 hF (ht ▸ hP2) hD2
    exact kx u.1 u.2 hp H1 locs1 ls q9 ce hl hP1 hD1 hS1 hce hcv hcl
  · obtain ⟨hP1, hD1⟩ := va_join hP hD isC isR hC hr hnR hdis hk1 hF (ht ▸ hB.1) hB.2
    exact kk u hp H1 locs1 ls hl hP1 hD1 hS1
/-- a method with a table of its own, that answers an int and makes at most one exception -/
def cth_ (l : Launch) (y : MethodName) (b : ByteArray) (n : Nat) (hh : List (Nat × Nat × Nat × Nat)) (fr lo : Nat) (D : va_G) (ad : Nat → Nat) (av : List Value) (w : va_W) (Qo : (Nat → Prop) → Array Value → State → Outcome → State → Prop) : Prop :=
  ∀ sz : Nat, Met l y (Cond.codeWith y b n (some .int) hh :: wS) { frames := fr, cells := 1, slots := 6, locals := lo }
    (va_Pc av (fun U => U.heap.size = sz ∧ va_P D vwCl w U.heap ∧ va_K D vwCl (ty_ ad) U ∧ va_D (fun _ => True) w ∧ fz_ ad (va_A w sz) U U.heap)) (Qo (va_A w sz)) 1 6 (va_A w sz)
def rqh_ (G : gt_) (Qo : (Nat → Prop) → Array Value → State → Outcome → State → Prop) (hh : List (Nat × Nat × Nat × Nat)) : Prop :=
  (gh_ G).sig.returnType = some .int ∧ (gh_ G).locks = false ∧ gQ_ G = MQ (gb_ G) (Qo (gA_ G)) (ga_ G) (gs_ G) 1 6 (gA_ G) ∧ (gc_ G).exceptionTable.toList = tableOf hh ∧ (gR_ G).cells = 1 ∧ (gR_ G).slots = 6
theorem cth_of {l : Launch} {y : MethodName} {b : ByteArray} {n : Nat} {hh : List (Nat × Nat × Nat × Nat)} {fr lo : Nat} {D : va_G} {ad : Nat → Nat} {av : List Value} {w : va_W} {Qo : (Nat → Prop) → Array Value → State → Outcome → State → Prop} (own : String)
    (hy : plainName y.cls = true) (hown : y.cls = own) (hn : (lg_sl av).length ≤ n)
    (body : ∀ G : gt_, gl_ G = l → gD_ G = D → cx_ G ad b own fr lo n → rqh_ G Qo hh → go_ G 0 0 w 0 (lv_args 0 av) []) : cth_ l y b n hh fr lo D ad av w Qo := by
  intro sz
  refine va_MetW (cc := b) (maxL := n) (ret := some .int) (hh := hh) hy rfl ?_
  intro p e s m args below meth c s₁ B hml hv
  obtain ⟨rfl, hsz, hP, hK, hD0, hF⟩ := hv
  have hts := atoms_spec (ws := Cond.codeWith y b n (some .int) hh :: wS) B.pre
  have htab := vx_table (x := y) B (hts _ List.mem_cons_self)
  have ho : s.vm.findClass own = some m.cls := by rw [← hown]; exact findClass_of_methodNamed B.named
  subst hsz
  have hD := hD0.self (sz := s.heap.size)
  have hl := lv_entry av (n := n) hn
  rw [lg_entry_eq]
  exact body (p, l, e, (headSpec (Cond.codeWith y b n (some .int) hh :: wS) { frames := fr, cells := 1, slots := 6, locals := lo }).room, s, m, av.toArray, below, meth, c, D, va_A w s.heap.size, n, MQ below (Qo (va_A w s.heap.size)) av.toArray s 1 6 (va_A w s.heap.size)) rfl rfl
    ⟨B.exec, B.bytes, hml, rfl, ho, fun w h => hts w (List.mem_cons_of_mem _ h), hK, fun q h => Or.inr h, hF, Nat.le_refl _, Nat.le_refl _⟩ ⟨B.returns, B.notSynchronized, rfl, htab, rfl, rfl⟩ s.heap [] _ hl hP hD va_S.rf
theorem go_irh {hh : List (Nat × Nat × Nat × Nat)} {S : Type} {post : Int32 → S → Prop} {w' : S → va_W} (X : cx_ G ad cc own fr lo n) (hq : rqh_ G (qi_ (gD_ G) post w') hh) (d : decode cc pc = .ok (.ireturn, 1)) {r : Int32} (u : S) (hp : post r u) (e : ws = w' u) : go_ G 1 6 ws pc lc [.int r] := by
  intro H locs ls hl hP hD hS
  subst e
  obtain ⟨hr, hk, hQ, -, -, -⟩ := hq
  rw [hQ]
  exact W.iret (v := r) (cx_x X) (cx_b X) hr (fun t ht hW => ⟨⟨r, u, rfl, hp, by rw [ht]; exact hP, hD⟩, hS.F ht⟩) hS.2.2 d (hlocks := hk)
theorem go_last (X : cx_ G ad cc own fr lo n) {a N : Nat} {f : Nat → Int64} (q0 : Nat) (ha : ws[q0]? = some (a, .inl (ad 98, N, .inr (.inl f)))) {i : Int32} {x : Int64} (hin : vp_in i N) (e : ws.set q0 (a, .inl (ad 98, N, .inr (.inl (vp_updL f i.toNatClampNeg x)))) = ws') (d : decode cc pc = .ok (.lastore, 1))
    (kk : go_ G cells slots ws' (pc + 1) lc rest) : go_ G cells slots ws pc lc (.long x :: .int i :: .ref a :: rest) := fun H locs ls hls hP hD hS => va_last (cx_x X) (cx_b X) (cx_K X) hP hD hS q0 1 ha rfl hin d (fun H1 locs1 hP1 hD1 hS1 => kk H1 locs1 ls hls (e ▸ hP1) (e ▸ hD1) hS1)
theorem go_lald (X : cx_ G ad cc own fr lo n) {a N : Nat} {f : Nat → Int64} (q0 : Nat) (ha : ws[q0]? = some (a, .inl (ad 98, N, .inr (.inl f)))) {i : Int32} (hin : vp_in i N) (d : decode cc pc = .ok (.laload, 1))
    (kk : go_ G cells slots ws (pc + 1) lc (.long (f i.toNatClampNeg) :: rest)) : go_ G cells slots ws pc lc (.int i :: .ref a :: rest) := fun H locs ls hls hP hD hS => va_lald (cx_x X) (cx_b X) (cx_K X) hP q0 1 ha rfl hin d (kk H locs ls hls hP hD hS)
end GoF
