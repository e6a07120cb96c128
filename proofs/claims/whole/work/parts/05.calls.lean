/-! contracts over worlds, and their calls: callee and caller hold the same world -/
section GoB
/-- a method's contract: from any heap that holds the world w it comes to its end; what it answers and the world behind it: Qo -/
def ct_ (l : Launch) (y : MethodName) (b : ByteArray) (n : Nat) (ret : Option FieldType) (fr lo : Nat) (D : va_G) (ad : Nat → Nat) (av : List Value) (w : va_W) (Qo : (Nat → Prop) → Array Value → State → Outcome → State → Prop) : Prop :=
  ∀ sz : Nat, Met l y (Cond.code y b n ret :: wS) { frames := fr, cells := 0, slots := 0, locals := lo }
    (va_Pc av (fun U => U.heap.size = sz ∧ va_P D vwCl w U.heap ∧ va_K D vwCl (ty_ ad) U ∧ va_D (fun _ => True) w ∧ fz_ ad (va_A w sz) U U.heap)) (Qo (va_A w sz)) 0 0 (va_A w sz)
def qi_ (D : va_G) {S : Type} (post : Int32 → S → Prop) (w' : S → va_W) : (Nat → Prop) → Array Value → State → Outcome → State → Prop := fun A => va_Qi post (fun u t => va_P D vwCl (w' u) t.heap ∧ va_D A (w' u)) A
def qv_ (D : va_G) {S : Type} (post : S → Prop) (w' : S → va_W) : (Nat → Prop) → Array Value → State → Outcome → State → Prop := fun A => va_Qv post (fun u t => va_P D vwCl (w' u) t.heap ∧ va_D A (w' u)) A
/-- how a walk ends -/
def rq_ (G : gt_) (ret : Option FieldType) (Qo : (Nat → Prop) → Array Value → State → Outcome → State → Prop) : Prop :=
  (gh_ G).sig.returnType = ret ∧ (gh_ G).locks = false ∧ gQ_ G = MQ (gb_ G) (Qo (gA_ G)) (ga_ G) (gs_ G) 0 0 (gA_ G)
theorem ct_of {l : Launch} {y : MethodName} {b : ByteArray} {n : Nat} {ret : Option FieldType} {fr lo : Nat} {D : va_G} {ad : Nat → Nat} {av : List Value} {w : va_W} {Qo : (Nat → Prop) → Array Value → State → Outcome → State → Prop} (own : String)
    (hy : plainName y.cls = true) (hown : y.cls = own) (hn : (lg_sl av).length ≤ n)
    (body : ∀ G : gt_, gl_ G = l → gD_ G = D → cx_ G ad b own fr lo n → rq_ G ret Qo → go_ G 0 0 w 0 (lv_args 0 av) []) : ct_ l y b n ret fr lo D ad av w Qo := by
  intro sz
  refine Met.ofW (cc := b) (maxL := n) (ret := ret) hy rfl ?_
  intro p e s m args below meth c s₁ B hml hv
  obtain ⟨rfl, hsz, hP, hK, hD0, hF⟩ := hv
  have hts := atoms_spec (ws := Cond.code y b n ret :: wS) B.pre
  have ho : s.vm.findClass own = some m.cls := by rw [← hown]; exact findClass_of_methodNamed B.named
  subst hsz
  have hD := hD0.self (sz := s.heap.size)
  have hl := lv_entry av (n := n) hn
  rw [lg_entry_eq]
  exact body (p, l, e, (headSpec (Cond.code y b n ret :: wS) { frames := fr, cells := 0, slots := 0, locals := lo }).room, s, m, av.toArray, below, meth, c, D, va_A w s.heap.size, n, MQ below (Qo (va_A w s.heap.size)) av.toArray s 0 0 (va_A w s.heap.size)) rfl rfl
    ⟨B.exec, B.bytes, hml, rfl, ho, fun w h => hts w (List.mem_cons_of_mem _ h), hK, fun q h => Or.inr h, hF, Nat.le_refl _, Nat.le_refl _⟩ ⟨B.returns, B.notSynchronized, rfl⟩ s.heap [] _ hl hP hD va_S.rf
variable {G : gt_} {ad : Nat → Nat} {cc : ByteArray} {own : String} {fr lo n cells slots : Nat} {ws ws' : va_W} {pc : Nat} {lc lc' : List (Nat × Value)} {rest : List Value}
theorem go_ireturn {S : Type} {post : Int32 → S → Prop} {w' : S → va_W} (X : cx_ G ad cc own fr lo n) (hq : rq_ G (some .int) (qi_ (gD_ G) post w')) (d : decode cc pc = .ok (.ireturn, 1)) {r : Int32} (u : S) (hp : post r u) (e : ws = w' u) : go_ G 0 0 ws pc lc [.int r] := by
  intro H locs ls hl hP hD hS
  subst e
  obtain ⟨hr, hk, hQ⟩ := hq
  rw [hQ]
  exact W.iret (v := r) (cx_x X) (cx_b X) hr (fun t ht hW => ⟨⟨r, u, rfl, hp, by rw [ht]; exact hP, hD⟩, hS.F ht⟩) hS.2.2 d (hlocks := hk)
theorem go_zreturn {S : Type} {post : Int32 → S → Prop} {w' : S → va_W} (X : cx_ G ad cc own fr lo n) (hq : rq_ G (some .boolean) (qi_ (gD_ G) post w')) (d : decode cc pc = .ok (.ireturn, 1)) {r : Int32} (hz : r = 0 ∨ r = 1) (u : S) (hp : post r u) (e : ws = w' u) : go_ G 0 0 ws pc lc [.int r] := by
  intro H locs ls hl hP hD hS
  subst e
  obtain ⟨hr, hk, hQ⟩ := hq
  rw [hQ]
  exact W.zret (v := r) (cx_x X) (cx_b X) hr (by rcases hz with rfl | rfl <;> rfl) (fun t ht hW => ⟨⟨r, u, rfl, hp, by rw [ht]; exact hP, hD⟩, hS.F ht⟩) hS.2.2 d (hlocks := hk)
theorem go_vreturn {S : Type} {post : S → Prop} {w' : S → va_W} (X : cx_ G ad cc own fr lo n) (hq : rq_ G none (qv_ (gD_ G) post w')) (d : decode cc pc = .ok (.return_, 1)) (u : S) (hp : post u) (e : ws = w' u) : go_ G 0 0 ws pc lc [] := by
  intro H locs ls hl hP hD hS
  subst e
  obtain ⟨hr, hk, hQ⟩ := hq
  rw [hQ]
  exact W.vret (cx_x X) (cx_b X) hr (fun t ht hW => ⟨⟨u, rfl, hp, by rw [ht]; exact hP, hD⟩, hS.F ht⟩) hS.2.2 d (hlocks := hk)
/-- the words of a method that is called on an object of class C -/
def me_ (y : MethodName) (b : ByteArray) (nb : Nat) (ret : Option FieldType) (C : String) (k : Nat) : Prop :=
  Cond.instanceMethod y ∈ wS ∧ Cond.selects C y y ∈ wS ∧ Cond.initialized C ∈ wS ∧ Cond.code y b nb ret ∈ wS ∧ (y.cls = C ∧ y.cls ≠ "java/lang/invoke/MethodHandle" ∧ y.cls ≠ "java/lang/invoke/VarHandle" ∧ (parseMethodDescriptor y.desc).map (fun d => d.parameters.length) = some k)
def ms_ (y : MethodName) (b : ByteArray) (nb : Nat) (ret : Option FieldType) (C : String) (k : Nat) : Prop :=
  Cond.static y ∈ wS ∧ Cond.initialized C ∈ wS ∧ Cond.code y b nb ret ∈ wS ∧ (y.cls = C ∧ y.cls ≠ "java/lang/invoke/MethodHandle" ∧ y.cls ≠ "java/lang/invoke/VarHandle" ∧ (parseMethodDescriptor y.desc).map (fun d => d.parameters.length) = some k)
theorem gi_ {L : List Cond} (h : ∀ w ∈ L, w ∈ wS) : GoodIn wS L := fun w hw => ⟨h w hw, wS_good w (h w hw)⟩
theorem gf_ {H : Heap} {locs : List Loc} (X : cx_ G ad cc own fr lo n) (hD : va_D (gA_ G) ws) (hS : va_S (gA_ G) (gs_ G).heap H locs) : ∀ q, va_A ws H.size q → gA_ G q := by
  intro q hq
  rcases hq with ⟨k, e, h⟩ | h
  · exact hD.2 k _ h
  · exact cx_A X q (Nat.le_trans hS.1 h)
theorem pb_ {D : va_G} {w : va_W} {sz : Nat} {av : List Value} : FrameBlind (va_Pc av (fun U => U.heap.size = sz ∧ va_P D vwCl w U.heap ∧ va_K D vwCl (ty_ ad) U ∧ va_D (fun _ => True) w ∧ fz_ ad (va_A w sz) U U.heap)) := by
  intro a U g mk q
  obtain ⟨q0, q1, qP, qK, qD, qF⟩ := q
  exact ⟨q0, q1, qP, va_K.moved (u := U) (U := U.calling g mk a) (Vm.Alike.refl U.vm) qK, qD, fz_moved (u := U) (U := U.calling g mk a) (Vm.Alike.refl U.vm) qF⟩
theorem pp_ {H : Heap} {locs : List Loc} (X : cx_ G ad cc own fr lo n) (hP : va_P (gD_ G) vwCl ws H) (hD : va_D (gA_ G) ws) (hS : va_S (gA_ G) (gs_ G).heap H locs) {av : List Value} : ∀ U : State, U.heap = H → (gs_ G).WarmedH U.vm →
    va_Pc av (fun U => U.heap.size = H.size ∧ va_P (gD_ G) vwCl ws U.heap ∧ va_K (gD_ G) vwCl (ty_ ad) U ∧ va_D (fun _ => True) ws ∧ fz_ ad (va_A ws H.size) U U.heap) av.toArray U := by
  intro U hU hW
  refine ⟨rfl, by rw [hU], by rw [hU]; exact hP, va_K.moved hW.alike (cx_K X), hD.weaken (fun _ _ _ _ => trivial), ?_⟩
  rw [hU]
  exact fz_narrow (fz_moved hW.alike (fz_kept (cx_F X) hS.2.1)) (gf_ X hD hS)
theorem go_cvi (X : cx_ G ad cc own fr lo n) {y : MethodName} {b : ByteArray} {nb fr1 lo1 index a ci N : Nat} {ret : Option FieldType} {C : String} {T : u_T} {As fs : List Value} {S : Type} {post : Int32 → S → Prop} {w' : S → va_W}
    (hM : ct_ (gl_ G) y b nb ret fr1 lo1 (gD_ G) ad (.ref a :: As) ws (qi_ (gD_ G) post w')) (hm : me_ y b nb ret C As.length) (m1 : Cond.methodLink own index y ∈ wS) (hlv : fr1 + 1 ≤ fr ∧ 8 + (nb + 11) + lo1 ≤ lo) (q0 : Nat) (he : ws[q0]? = some (a, .inr (ci, fs))) (hc : vwCl[ci]? = some (C, T, N))
    {st : List Value} (hst : st = As.reverse ++ .ref a :: rest) (hrs : (rest.map fun v => v.category).sum ≤ 8) (hcs : cells ≤ (gR_ G).cells ∧ slots ≤ (gR_ G).slots) (d : decode cc pc = .ok (.invokevirtual index, 3))
    (kk : ∀ (r : Int32) (u : S), post r u → go_ G cells slots (w' u) (pc + 3) lc (.int r :: rest)) : go_ G cells slots ws pc lc st := by
  intro H locs ls hl hP hD hS
  obtain ⟨m2, m3, m4, m5, hd⟩ := hm
  have hF := gf_ X hD hS
  refine va_calli (va_runV (As := As) (rest := rest) ⟨cx_x X, cx_b X, cx_m X, cx_o X, cx_w X⟩ (hM H.size) (cwV As.length (cx_w X) (gi_ ?_) rfl rfl rfl hd ⟨Nat.le_trans hlv.1 (cx_f X), Nat.le_trans hlv.2 (cx_l X)⟩) ⟨pb_, va_recv (cx_K X) hP hc he, pp_ X hP hD hS⟩ rfl rfl (hl.1.trans (cx_n X)) hst (lv_room hrs) d hcs) hS (fun q _ h => hF q h) hF (fun r u t H1 locs1 ht hvm hp hB hz1 hk1 hS1 => kk r u hp H1 locs1 ls hl (ht ▸ hB.1) (hB.2.weaken (fun _ _ _ h => hF _ h)) hS1)
  · intro w hw
    rcases List.mem_append.mp hw with h | h
    · simp only [List.mem_cons, List.not_mem_nil, or_false] at h
      rcases h with rfl | rfl | rfl | rfl
      · exact m1
      · exact m2
      · exact m3
      · exact m4
    · rcases List.mem_cons.mp h with rfl | h
      · exact m5
      · exact h
theorem go_cvv (X : cx_ G ad cc own fr lo n) {y : MethodName} {b : ByteArray} {nb fr1 lo1 index a ci N : Nat} {ret : Option FieldType} {C : String} {T : u_T} {As fs : List Value} {S : Type} {post : S → Prop} {w' : S → va_W}
    (hM : ct_ (gl_ G) y b nb ret fr1 lo1 (gD_ G) ad (.ref a :: As) ws (qv_ (gD_ G) post w')) (hm : me_ y b nb ret C As.length) (m1 : Cond.methodLink own index y ∈ wS) (hlv : fr1 + 1 ≤ fr ∧ 8 + (nb + 11) + lo1 ≤ lo) (q0 : Nat) (he : ws[q0]? = some (a, .inr (ci, fs))) (hc : vwCl[ci]? = some (C, T, N))
    {st : List Value} (hst : st = As.reverse ++ .ref a :: rest) (hrs : (rest.map fun v => v.category).sum ≤ 8) (hcs : cells ≤ (gR_ G).cells ∧ slots ≤ (gR_ G).slots) (d : decode cc pc = .ok (.invokevirtual index, 3))
    (kk : ∀ u : S, post u → go_ G cells slots (w' u) (pc + 3) lc rest) : go_ G cells slots ws pc lc st := by
  intro H locs ls hl hP hD hS
  obtain ⟨m2, m3, m4, m5, hd⟩ := hm
  have hF := gf_ X hD hS
  refine va_callv (va_runV (As := As) (rest := rest) ⟨cx_x X, cx_b X, cx_m X, cx_o X, cx_w X⟩ (hM H.size) (cwV As.length (cx_w X) (gi_ ?_) rfl rfl rfl hd ⟨Nat.le_trans hlv.1 (cx_f X), Nat.le_trans hlv.2 (cx_l X)⟩) ⟨pb_, va_recv (cx_K X) hP hc he, pp_ X hP hD hS⟩ rfl rfl (hl.1.trans (cx_n X)) hst (lv_room hrs) d hcs) hS (fun q _ h => hF q h) hF (fun u t H1 locs1 ht hvm hp hB hz1 hk1 hS1 => kk u hp H1 locs1 ls hl (ht ▸ hB.1) (hB.2.weaken (fun _ _ _ h => hF _ h)) hS1)
  · intro w hw
    rcases List.mem_append.mp hw with h | h
    · simp only [List.mem_cons, List.not_mem_nil, or_false] at h
      rcases h with rfl | rfl | rfl | rfl
      · exact m1
      · exact m2
      · exact m3
      · exact m4
    · rcases List.mem_cons.mp h with rfl | h
      · exact m5
      · exact h
theorem go_csi (X : cx_ G ad cc own fr lo n) {y : MethodName} {b : ByteArray} {nb fr1 lo1 index : Nat} {ret : Option FieldType} {As : List Value} {S : Type} {post : Int32 → S → Prop} {w' : S → va_W}
    (hM : ct_ (gl_ G) y b nb ret fr1 lo1 (gD_ G) ad As ws (qi_ (gD_ G) post w')) (hm : ms_ y b nb ret own As.length) (m1 : Cond.methodLink own index y ∈ wS) (hlv : fr1 + 1 ≤ fr ∧ 8 + (nb + 11) + lo1 ≤ lo)
    {st : List Value} (hst : st = As.reverse ++ rest) (hrs : (rest.map fun v => v.category).sum ≤ 8) (hcs : cells ≤ (gR_ G).cells ∧ slots ≤ (gR_ G).slots) (d : decode cc pc = .ok (.invokestatic index, 3))
    (kk : ∀ (r : Int32) (u : S), post r u → go_ G cells slots (w' u) (pc + 3) lc (.int r :: rest)) : go_ G cells slots ws pc lc st := by
  intro H locs ls hl hP hD hS
  obtain ⟨m2, m4, m5, hd⟩ := hm
  have hF := gf_ X hD hS
  refine va_calli (va_runS (As := As) (rest := rest) ⟨cx_x X, cx_b X, cx_m X, cx_o X, cx_w X⟩ (hM H.size) (cwS As.length (cx_w X) (gi_ ?_) rfl rfl rfl hd ⟨Nat.le_trans hlv.1 (cx_f X), Nat.le_trans hlv.2 (cx_l X)⟩) ⟨pb_, pp_ X hP hD hS⟩ rfl rfl (hl.1.trans (cx_n X)) hst (lv_room hrs) d hcs) hS (fun q _ h => hF q h) hF (fun r u t H1 locs1 ht hvm hp hB hz1 hk1 hS1 => kk r u hp H1 locs1 ls hl (ht ▸ hB.1) (hB.2.weaken (fun _ _ _ h => hF _ h)) hS1)
  · intro w hw
    rcases List.mem_append.mp hw with h | h
    · simp only [List.mem_cons, List.not_mem_nil, or_false] at h
      rcases h with rfl | rfl | rfl
      · exact m1
      · exact m2
      · exact m4
    · rcases List.mem_cons.mp h with rfl | h
      · exact m5
      · exact h
end GoB
