/-! making cells: arrays, objects, constructors; calls on a part of the world -/
section GoC
def ctn_ (l : Launch) (y : MethodName) (b : ByteArray) (n : Nat) (fr lo mc ms : Nat) (D : va_G) (ad : Nat → Nat) (Ex : State → Prop) (av : List Value) (w : va_W) (Qo : (Nat → Prop) → Array Value → State → Outcome → State → Prop) : Prop :=
  ∀ sz : Nat, Met l y (Cond.code y b n none :: wS) { frames := fr, cells := mc, slots := ms, locals := lo }
    (va_Pc av (fun U => U.heap.size = sz ∧ va_P D vwCl w U.heap ∧ va_K D vwCl (ty_ ad) U ∧ va_D (fun _ => True) w ∧ fz_ ad (va_A w sz) U U.heap ∧ Ex U)) (Qo (va_A w sz)) mc ms (va_A w sz)
def rqn_ (G : gt_) (Qo : (Nat → Prop) → Array Value → State → Outcome → State → Prop) (mc ms : Nat) (Ex : State → Prop) : Prop :=
  (gh_ G).sig.returnType = none ∧ (gh_ G).locks = false ∧ gQ_ G = MQ (gb_ G) (Qo (gA_ G)) (ga_ G) (gs_ G) mc ms (gA_ G) ∧ (gh_ G).name = "<init>" ∧ ((gR_ G).cells = mc ∧ (gR_ G).slots = ms) ∧ Ex (gs_ G)
theorem ctn_of {l : Launch} {y : MethodName} {b : ByteArray} {n : Nat} {fr lo mc ms : Nat} {D : va_G} {ad : Nat → Nat} {Ex : State → Prop} {av : List Value} {w : va_W} {Qo : (Nat → Prop) → Array Value → State → Outcome → State → Prop} (own : String)
    (hy : plainName y.cls = true) (hown : y.cls = own) (hi : y.name = "<init>") (hn : (lg_sl av).length ≤ n)
    (body : ∀ G : gt_, gl_ G = l → gD_ G = D → cx_ G ad b own fr lo n → rqn_ G Qo mc ms Ex → go_ G 0 0 w 0 (lv_args 0 av) []) : ctn_ l y b n fr lo mc ms D ad Ex av w Qo := by
  intro sz
  refine Met.ofW (cc := b) (maxL := n) (ret := none) hy rfl ?_
  intro p e s m args below meth c s₁ B hml hv
  obtain ⟨rfl, hsz, hP, hK, hD0, hF, hE⟩ := hv
  have hts := atoms_spec (ws := Cond.code y b n none :: wS) B.pre
  have ho : s.vm.findClass own = some m.cls := by rw [← hown]; exact findClass_of_methodNamed B.named
  have hin : meth.name = "<init>" := by rw [← hi]; exact (name_of_methodNamed B.named B.method).1
  subst hsz
  have hD := hD0.self (sz := s.heap.size)
  have hl := lv_entry av (n := n) hn
  rw [lg_entry_eq]
  exact body (p, l, e, (headSpec (Cond.code y b n none :: wS) { frames := fr, cells := mc, slots := ms, locals := lo }).room, s, m, av.toArray, below, meth, c, D, va_A w s.heap.size, n, MQ below (Qo (va_A w s.heap.size)) av.toArray s mc ms (va_A w s.heap.size)) rfl rfl
    ⟨B.exec, B.bytes, hml, rfl, ho, fun w h => hts w (List.mem_cons_of_mem _ h), hK, fun q h => Or.inr h, hF, Nat.le_refl _, Nat.le_refl _⟩ ⟨B.returns, B.notSynchronized, rfl, hin, ⟨rfl, rfl⟩, hE⟩ s.heap [] _ hl hP hD va_S.rf
variable {G : gt_} {ad : Nat → Nat} {cc : ByteArray} {own : String} {fr lo n cells slots mc ms : Nat} {ws ws' : va_W} {pc : Nat} {lc lc' : List (Nat × Value)} {rest : List Value} {Ex : State → Prop}
theorem go_vretn {S : Type} {post : S → Prop} {w' : S → va_W} (X : cx_ G ad cc own fr lo n) (hq : rqn_ G (qv_ (gD_ G) post w') mc ms Ex) (d : decode cc pc = .ok (.return_, 1)) (u : S) (hp : post u) (e : ws = w' u) : go_ G mc ms ws pc lc [] := by
  intro H locs ls hl hP hD hS
  subst e
  obtain ⟨hr, hk, hQ, -, -, -⟩ := hq
  rw [hQ]
  exact W.vret (cx_x X) (cx_b X) hr (fun t ht hW => ⟨⟨u, rfl, hp, by rw [ht]; exact hP, hD⟩, hS.F ht⟩) hS.2.2 d (hlocks := hk)
theorem go_oinit (X : cx_ G ad cc own fr lo n) {idx a : Nat} (m1 : Cond.methodLink own idx objectInit ∈ wS) (m2 : Cond.instanceMethod objectInit ∈ wS) (m3 : Cond.code objectInit ⟨#[0xb1]⟩ 1 none ∈ wS) (hfr : 1 ≤ fr) (hlo : 12 ≤ lo) (d : decode cc pc = .ok (.invokespecial idx, 3))
    (k : go_ G cells slots ws (pc + 3) lc []) : go_ G cells slots ws pc lc [.ref a] := fun H locs ls hl hP hD hS => W.objInit (g := F0 (gm_ G) pc ls [.ref a]) (rest := []) (cx_x X) (cx_b X) (cx_o X) (cx_w X _ m1) (cx_w X _ m2) (cx_w X _ m3) rfl (hl.1.trans ((cx_n X).trans (cx_m X).symm)) rfl d (Nat.le_trans hfr (cx_f X)) (Nat.le_trans hlo (cx_l X)) (k H locs ls hl hP hD hS)
theorem go_newa (X : cx_ G ad cc own fr lo n) (hR : (gR_ G).cells = mc ∧ (gR_ G).slots = ms) (harr : Cond.arrayClass .int ∈ wS) {v : Int32} {N : Nat} (hv : ¬ v < 0) (hN : v.toNatClampNeg = N) (hb : N * componentBytes .int ≤ 536870912) (hc : cells + 1 ≤ mc) (hs : slots + N ≤ ms) (d : decode cc pc = .ok (.newarray .int, 2))
    (k : ∀ q : Nat, go_ G (cells + 1) (slots + N) (ws ++ [(q, .inl (ad 99, N, .inl (fun _ => 0)))]) (pc + 2) lc (.ref q :: rest)) : go_ G cells slots ws pc lc (.int v :: rest) := by
  intro H locs ls hl hP hD hS
  refine va_newa (atype := .int) (cx_x X) (cx_b X) (cx_w X _ harr) (ty := .int) rfl (cx_K X) hP hD hS (cx_A X) (a0 := (N, .inl (fun _ => 0))) (fun _ => rfl) hv hN hb (by rw [hR.1]; exact hc) (by rw [hR.2]; exact hs) d (fun q cA H1 hK1 hP1 hD1 hS1 => ?_)
  have e1 : (gs_ G).vm.findClass ("[" ++ FieldType.int.toString) = some cA := (hK1.2 2 (cA, .int) rfl).2
  have e2 : (gs_ G).vm.findClass ("[" ++ FieldType.int.toString) = some (ad 99) := ((cx_K X).2 0 (ad 99, .int) rfl).2
  have e : cA = ad 99 := Option.some.inj (e1.symm.trans e2)
  subst e
  exact k q H1 locs ls hl hP1 hD1 hS1
theorem go_new (X : cx_ G ad cc own fr lo n) (hR : (gR_ G).cells = mc ∧ (gR_ G).slots = ms) {C : String} {T : u_T} {N ci index : Nat} (hin : ∀ w ∈ u_ws C T N, w ∈ wS) (ty : Nat → FieldType) (hty : ∀ k, k < N → parseFieldDescriptor (T k).2.2.1 = some (ty k)) (m1 : Cond.classLink own index C ∈ wS) (m2 : Cond.instantiable C N ∈ wS) (m3 : Cond.initialized C ∈ wS) (hc : vwCl[ci]? = some (C, T, N)) {fs : List Value} (hfs : ∀ j, j < N → defaultValue (ty j) = vp_V fs j) (hcl : cells + 1 ≤ mc) (hsl : slots + N ≤ ms) (d : decode cc pc = .ok (.new index, 3))
    (k : ∀ q : Nat, go_ G (cells + 1) (slots + N) (ws ++ [(q, .inr (ci, fs))]) (pc + 3) lc (.ref q :: rest)) : go_ G cells slots ws pc lc rest := by
  intro H locs ls hl hP hD hS
  exact va_new (cx_x X) (cx_b X) (cx_w X) hin ty hty (cx_o X) (cx_w X _ m1) (cx_w X _ m2) (cx_w X _ m3) (cx_K X) hP hD hS (cx_A X) hc hfs (by rw [hR.1]; exact hcl) (by rw [hR.2]; exact hsl) d (fun q H1 hP1 hD1 hS1 => k q H1 locs ls hl hP1 hD1 hS1)
theorem go_putF (X : cx_ G ad cc own fr lo n) (hin2 : (gh_ G).name = "<init>") {ref C : String} {T : u_T} {N ci index a : Nat} (hin : ∀ w ∈ u_ws C T N, w ∈ wS) (ty0 : Nat → FieldType) (hty : ∀ k, k < N → parseFieldDescriptor (T k).2.2.1 = some (ty0 k)) (hnm : ∀ a, a < N → ∀ b, b < N → a ≠ b → (T a).2.1 ≠ (T b).2.1) (q0 : Nat) {fs : List Value} (he : ws[q0]? = some (a, .inr (ci, fs))) (hc : vwCl[ci]? = some (C, T, N)) (k : Nat) (hk : k < N) (hl : Cond.fieldLink own index ref (T k).2.1 (T k).2.2.1 ∈ wS) (hr : (T k).1 = ref) (hfin : (T k).2.2.2 = true) (hdecl : (T k).1 = own) {ty : FieldType} {v : Value} (hd : parseFieldDescriptor (T k).2.2.1 = some ty) (hn : narrow ty v = v) (hfit : fits ty v = true) (hlen : k < fs.length) (e : ws.set q0 (a, .inr (ci, fs.set k v)) = ws') (d : decode cc pc = .ok (.putfield index, 3))
    (kk : go_ G cells slots ws' (pc + 3) lc rest) : go_ G cells slots ws pc lc (v :: .ref a :: rest) := fun H locs ls hls hP hD hS => va_putF (cx_x X) (cx_b X) (cx_w X) hin ty0 hty hnm (cx_o X) (cx_K X) hP hD hS q0 he hc k hk (cx_w X _ hl) (fun x h => by rw [← hr]; exact h) hfin hin2 hdecl hd hn hfit hlen d (fun H1 locs1 hP1 hD1 hS1 => kk H1 locs1 ls hls (e ▸ hP1) (e ▸ hD1) hS1)
theorem pbn_ {D : va_G} {w : va_W} {sz : Nat} {av : List Value} (hE : ∀ (U : State) g mk a, Ex U → Ex (U.calling g mk a)) : FrameBlind (va_Pc av (fun U => U.heap.size = sz ∧ va_P D vwCl w U.heap ∧ va_K D vwCl (ty_ ad) U ∧ va_D (fun _ => True) w ∧ fz_ ad (va_A w sz) U U.heap ∧ Ex U)) := by
  intro a U g mk q
  obtain ⟨q0, q1, qP, qK, qD, qF, qE⟩ := q
  exact ⟨q0, q1, qP, va_K.moved (u := U) (U := U.calling g mk a) (Vm.Alike.refl U.vm) qK, qD, fz_moved (u := U) (U := U.calling g mk a) (Vm.Alike.refl U.vm) qF, hE U g mk a qE⟩
theorem va_sd {A : Nat → Prop} {wc : va_W} (isC : List Nat) (hC : isC.map (fun i => ws[i]?) = wc.map some) (hn : va_nd isC = true) (hD : va_D A ws) : va_D A wc := hD.sub isC hn hC
theorem va_sp {D : va_G} {H : Heap} {wc : va_W} (isC : List Nat) (hC : isC.map (fun i => ws[i]?) = wc.map some) (hP : va_P D vwCl ws H) : va_P D vwCl wc H := by
  refine hP.sub isC ?_
  have h : isC.filterMap (fun i => ws[i]?) = (isC.map (fun i => ws[i]?)).filterMap id := by rw [List.filterMap_map]; rfl
  rw [h, hC, List.filterMap_map]
  show wc.filterMap some = wc
  exact List.filterMap_some
/-- a constructor is called on a part wc of the world -/
theorem go_ci (X : cx_ G ad cc own fr lo n) (hR : (gR_ G).cells = mc ∧ (gR_ G).slots = ms) {y : MethodName} {b : ByteArray} {nb fr1 lo1 mc1 ms1 index a k : Nat} {As : List Value} {S : Type} {post : S → Prop} {w' : S → va_W} {wc wr : va_W}
    (hM : ctn_ (gl_ G) y b nb fr1 lo1 mc1 ms1 (gD_ G) ad (fun _ => True) (.ref a :: As) wc (qv_ (gD_ G) post w')) (m1 : Cond.methodLink own index y ∈ wS) (m2 : Cond.instanceMethod y ∈ wS) (m3 : Cond.initialized y.cls ∈ wS) (m4 : Cond.code y b nb none ∈ wS) (hi : y.name = "<init>")
    (hd : y.cls ≠ "java/lang/invoke/MethodHandle" ∧ y.cls ≠ "java/lang/invoke/VarHandle" ∧ (parseMethodDescriptor y.desc).map (fun d => d.parameters.length) = some k) (hk : As.length = k) (hlv : fr1 + 1 ≤ fr ∧ 8 + (nb + 11) + lo1 ≤ lo)
    (isC isR : List Nat) (hC : isC.map (fun i => ws[i]?) = wc.map some) (hr : isR.map (fun i => ws[i]?) = wr.map some) (hnC : va_nd isC = true) (hnR : va_nd isR = true) (hdis : ∀ i ∈ isR, i ∉ isC)
    {st : List Value} (hst : st = As.reverse ++ .ref a :: rest) (hrs : (rest.map fun v => v.category).sum ≤ 8) (hcl : cells + mc1 ≤ mc) (hsl : slots + ms1 ≤ ms) (d : decode cc pc = .ok (.invokespecial index, 3))
    (kk : ∀ u : S, post u → go_ G (cells + mc1) (slots + ms1) (wr ++ w' u) (pc + 3) lc rest) : go_ G cells slots ws pc lc st := by
  intro H locs ls hl hP hD hS
  have hDc := va_sd isC hC hnC hD
  have hPc := va_sp isC hC hP
  have hF := gf_ X hDc hS
  refine va_callv (va_runI (As := As) (rest := rest) ⟨cx_x X, cx_b X, cx_m X, cx_o X, cx_w X⟩ (hM H.size) (cwI k (cx_w X) (gi_ ?_) rfl rfl rfl (cx_w X _ m3) (cx_w X _ m1) (cx_w X _ m2) hi hd ⟨Nat.le_trans hlv.1 (cx_f X), Nat.le_trans hlv.2 (cx_l X)⟩) ⟨pbn_ (fun _ _ _ _ _ => trivial), fun U hU hW => ?_⟩ rfl hk (hl.1.trans (cx_n X)) hst (lv_room hrs) d ⟨by rw [hR.1]; exact hcl, by rw [hR.2]; exact hsl⟩) hS (fun q _ h => hF q h) hF (fun u t H1 locs1 ht hvm hp hB hz1 hk1 hS1 => ?_)
  · intro w hw
    rcases List.mem_cons.mp hw with rfl | h
    · exact m4
    · exact h
  · obtain ⟨a0, a1, a2, a3, a4, a5⟩ := pp_ X hPc hDc hS (av := .ref a :: As) U hU hW
    exact ⟨a0, a1, a2, a3, a4, a5, trivial⟩
  · obtain ⟨hP1, hD1⟩ := va_join hP hD isC isR hC hr hnR hdis hk1 hF (ht ▸ hB.1) hB.2
    exact kk u hp H1 locs1 ls hl hP1 hD1 hS1
/-- .. of a nest mate, whose constructor is its own -/
theorem go_cin (X : cx_ G ad cc own fr lo n) (hR : (gR_ G).cells = mc ∧ (gR_ G).slots = ms) {y : MethodName} {b : ByteArray} {nb fr1 lo1 mc1 ms1 index a k : Nat} {host : String} {As : List Value} {S : Type} {post : S → Prop} {w' : S → va_W} {wc wr : va_W}
    (hM : ctn_ (gl_ G) y b nb fr1 lo1 mc1 ms1 (gD_ G) ad (fun _ => True) (.ref a :: As) wc (qv_ (gD_ G) post w')) (m1 : va_Nw (.methodLinkNest own index y host) (gs_ G)) (m2 : Cond.instanceMethod y ∈ wS) (m3 : Cond.initialized y.cls ∈ wS) (m4 : Cond.code y b nb none ∈ wS) (hi : y.name = "<init>")
    (hd : y.cls ≠ "java/lang/invoke/MethodHandle" ∧ y.cls ≠ "java/lang/invoke/VarHandle" ∧ (parseMethodDescriptor y.desc).map (fun d => d.parameters.length) = some k) (hk : As.length = k) (hlv : fr1 + 1 ≤ fr ∧ 8 + (nb + 11) + lo1 ≤ lo)
    (isC isR : List Nat) (hC : isC.map (fun i => ws[i]?) = wc.map some) (hr : isR.map (fun i => ws[i]?) = wr.map some) (hnC : va_nd isC = true) (hnR : va_nd isR = true) (hdis : ∀ i ∈ isR, i ∉ isC)
    {st : List Value} (hst : st = As.reverse ++ .ref a :: rest) (hrs : (rest.map fun v => v.category).sum ≤ 8) (hcl : cells + mc1 ≤ mc) (hsl : slots + ms1 ≤ ms) (d : decode cc pc = .ok (.invokespecial index, 3))
    (kk : ∀ u : S, post u → go_ G (cells + mc1) (slots + ms1) (wr ++ w' u) (pc + 3) lc rest) : go_ G cells slots ws pc lc st := by
  intro H locs ls hl hP hD hS
  have hDc := va_sd isC hC hnC hD
  have hPc := va_sp isC hC hP
  have hF := gf_ X hDc hS
  refine va_callv (va_runIN (As := As) (rest := rest) ⟨cx_x X, cx_b X, cx_m X, cx_o X, cx_w X⟩ (hM H.size) ⟨va_cnB k (cx_w X) (gi_ ?_) rfl rfl rfl m1 (cx_w X _ m3) hd ⟨Nat.le_trans hlv.1 (cx_f X), Nat.le_trans hlv.2 (cx_l X)⟩, hi, cx_w X _ m2⟩ ⟨pbn_ (fun _ _ _ _ _ => trivial), fun U hU hW => ?_⟩ rfl hk (hl.1.trans (cx_n X)) hst (lv_room hrs) d ⟨by rw [hR.1]; exact hcl, by rw [hR.2]; exact hsl⟩) hS (fun q _ h => hF q h) hF (fun u t H1 locs1 ht hvm hp hB hz1 hk1 hS1 => ?_)
  · intro w hw
    rcases List.mem_cons.mp hw with rfl | h
    · exact m4
    · exact h
  · obtain ⟨a0, a1, a2, a3, a4, a5⟩ := pp_ X hPc hDc hS (av := .ref a :: As) U hU hW
    exact ⟨a0, a1, a2, a3, a4, a5, trivial⟩
  · obtain ⟨hP1, hD1⟩ := va_join hP hD isC isR hC hr hnR hdis hk1 hF (ht ▸ hB.1) hB.2
    exact kk u hp H1 locs1 ls hl hP1 hD1 hS1
end GoC
