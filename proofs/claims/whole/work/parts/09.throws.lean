/-! methods that return or throw -/
section GoT
def xn_ (z : Nat) : String := if z = 1 then "java/lang/IllegalArgumentException" else if z = 2 then "java/lang/IllegalStateException" else "java/util/NoSuchElementException"
def qx_ (D : va_G) {S : Type} (px : Nat → S → Prop) (wx : S → va_W) : (Nat → Prop) → String → State → State → Prop := fun A => vx_X (S := Nat × S) (fun u => px u.1 u.2) (fun E u t => E = xn_ u.1 ∧ va_P D vwCl (wx u.2) t.heap ∧ va_D A (wx u.2)) A
def ctx_ (l : Launch) (y : MethodName) (b : ByteArray) (n : Nat) (ret : Option FieldType) (fr lo : Nat) (D : va_G) (ad : Nat → Nat) (av : List Value) (w : va_W) (Qo : (Nat → Prop) → Array Value → State → Outcome → State → Prop) (Xo : (Nat → Prop) → String → State → State → Prop) : Prop :=
  ∀ sz : Nat, vx_Met l y (Cond.code y b n ret :: wS) { frames := fr, cells := 1, slots := 6, locals := lo }
    (va_Pc av (fun U => U.heap.size = sz ∧ va_P D vwCl w U.heap ∧ va_K D vwCl (ty_ ad) U ∧ va_D (fun _ => True) w ∧ fz_ ad (va_A w sz) U U.heap)) (Qo (va_A w sz)) (Xo (va_A w sz)) 1 6 (va_A w sz)
def rqx_ (G : gt_) (ret : Option FieldType) (Qo : (Nat → Prop) → Array Value → State → Outcome → State → Prop) (Xo : (Nat → Prop) → String → State → State → Prop) : Prop :=
  (gh_ G).sig.returnType = ret ∧ (gh_ G).locks = false ∧ gQ_ G = vx_MQ (gb_ G) (Qo (gA_ G)) (Xo (gA_ G)) (ga_ G) (gs_ G) 1 6 (gA_ G) ∧ (∀ x ∈ (gc_ G).exceptionTable.toList, False) ∧ 1 ≤ (gR_ G).cells ∧ 6 ≤ (gR_ G).slots
theorem ctx_of {l : Launch} {y : MethodName} {b : ByteArray} {n : Nat} {ret : Option FieldType} {fr lo : Nat} {D : va_G} {ad : Nat → Nat} {av : List Value} {w : va_W} {Qo : (Nat → Prop) → Array Value → State → Outcome → State → Prop} {Xo : (Nat → Prop) → String → State → State → Prop} (own : String)
    (hy : plainName y.cls = true) (hown : y.cls = own) (hn : (lg_sl av).length ≤ n)
    (body : ∀ G : gt_, gl_ G = l → gD_ G = D → cx_ G ad b own fr lo n → rqx_ G ret Qo Xo → go_ G 0 0 w 0 (lv_args 0 av) []) : ctx_ l y b n ret fr lo D ad av w Qo Xo := by
  intro sz
  refine vx_ofW (cc := b) (maxL := n) (ret := ret) hy rfl ?_
  intro p e s m args below meth c s₁ B hml hex hv
  obtain ⟨rfl, hsz, hP, hK, hD0, hF⟩ := hv
  have hts := atoms_spec (ws := Cond.code y b n ret :: wS) B.pre
  have ho : s.vm.findClass own = some m.cls := by rw [← hown]; exact findClass_of_methodNamed B.named
  subst hsz
  have hD := hD0.self (sz := s.heap.size)
  have hl := lv_entry av (n := n) hn
  rw [lg_entry_eq]
  exact body (p, l, e, (headSpec (Cond.code y b n ret :: wS) { frames := fr, cells := 1, slots := 6, locals := lo }).room, s, m, av.toArray, below, meth, c, D, va_A w s.heap.size, n, vx_MQ below (Qo (va_A w s.heap.size)) (Xo (va_A w s.heap.size)) av.toArray s 1 6 (va_A w s.heap.size)) rfl rfl
    ⟨B.exec, B.bytes, hml, rfl, ho, fun w h => hts w (List.mem_cons_of_mem _ h), hK, fun q h => Or.inr h, hF, Nat.le_refl _, Nat.le_refl _⟩ ⟨B.returns, B.notSynchronized, rfl, hex, Nat.le_refl _, Nat.le_refl _⟩ s.heap [] _ hl hP hD va_S.rf
variable {G : gt_} {ad : Nat → Nat} {cc : ByteArray} {own : String} {fr lo n cells slots : Nat} {ws ws' : va_W} {pc : Nat} {lc lc' : List (Nat × Value)} {rest : List Value} {Xo : (Nat → Prop) → String → State → State → Prop}
theorem go_irx {S : Type} {post : Int32 → S → Prop} {w' : S → va_W} (X : cx_ G ad cc own fr lo n) (hq : rqx_ G (some .int) (qi_ (gD_ G) post w') Xo) (d : decode cc pc = .ok (.ireturn, 1)) {r : Int32} (u : S) (hp : post r u) (e : ws = w' u) : go_ G 0 0 ws pc lc [.int r] := by
  intro H locs ls hl hP hD hS
  subst e
  obtain ⟨hr, hk, hQ, -, -, -⟩ := hq
  rw [hQ]
  refine W.widen (k := 1) (n := 6) (by omega) (by omega) (vx_ret ?_)
  exact W.iret (v := r) (cx_x X) (cx_b X) hr (fun t ht hW => ⟨⟨r, u, rfl, hp, by rw [ht]; exact hP, hD⟩, hS.F ht⟩) hS.2.2 d (hlocks := hk)
theorem go_vrx {S : Type} {post : S → Prop} {w' : S → va_W} (X : cx_ G ad cc own fr lo n) (hq : rqx_ G none (qv_ (gD_ G) post w') Xo) (d : decode cc pc = .ok (.return_, 1)) (u : S) (hp : post u) (e : ws = w' u) : go_ G 0 0 ws pc lc [] := by
  intro H locs ls hl hP hD hS
  subst e
  obtain ⟨hr, hk, hQ, -, -, -⟩ := hq
  rw [hQ]
  refine W.widen (k := 1) (n := 6) (by omega) (by omega) (vx_ret ?_)
  exact W.vret (cx_x X) (cx_b X) hr (fun t ht hW => ⟨⟨u, rfl, hp, by rw [ht]; exact hP, hD⟩, hS.F ht⟩) hS.2.2 d (hlocks := hk)
/-- the words of 'throw new E()' in a method of CartridgeDesk -/
def nm_ : List String := ["java/lang/RuntimeException", "java/lang/Exception"]
def tw_ (ik ic : Nat) (E : String) : Prop := Bundle.fit E = true ∧ Cond.classLink RD ik E ∈ wS ∧ Cond.initialized E ∈ wS ∧ (∀ w ∈ (vx_at0 RD ic E nm_).filter goodWord, w ∈ wS) ∧ (∀ w ∈ (vx_at0 RD ic E nm_).filter (fun w => !goodWord w), w ∈ xw_) ∧ (∀ w ∈ Cond.classLink RD ik E :: Cond.initialized E :: vx_at0 RD ic E nm_, vx_ot w = true)
theorem tw_of {ik ic : Nat} {E : String} (h0 : Bundle.fit E = true) (h1 : Cond.classLink RD ik E ∈ wS) (h2 : Cond.initialized E ∈ wS) (h3 : ((vx_at0 RD ic E nm_).filter goodWord).all (fun w => decide (w ∈ lw_tbl)) = true) (h4 : ((vx_at0 RD ic E nm_).filter (fun w => !goodWord w)).all (fun w => decide (w ∈ xw_)) = true) (h5 : (Cond.classLink RD ik E :: Cond.initialized E :: vx_at0 RD ic E nm_).all vx_ot = true) : tw_ ik ic E :=
  ⟨h0, h1, h2, fun w hw => wS_of (of_decide_eq_true (List.all_eq_true.mp h3 w hw)) (List.mem_filter.mp hw).2, fun w hw => of_decide_eq_true (List.all_eq_true.mp h4 w hw), fun w hw => List.all_eq_true.mp h5 w hw⟩
theorem go_thr {ret : Option FieldType} {Qo : (Nat → Prop) → Array Value → State → Outcome → State → Prop} {S : Type} {px : Nat → S → Prop} {wx : S → va_W} (X : cx_ G ad cc RD fr lo n) (hl0 : (gl_ G).stackTraces = false) (hq : rqx_ G ret Qo (qx_ (gD_ G) px wx)) (z : Nat) {ik ic : Nat} (hw : tw_ ik ic (xn_ z))
    (d0 : decode cc pc = .ok (.new ik, 3)) (d3 : decode cc (pc + 3) = .ok (.dup, 1)) (d4 : decode cc (pc + 4) = .ok (.invokespecial ic, 3)) (d7 : decode cc (pc + 7) = .ok (.athrow, 1)) (u : S) (hp : px z u) (e : ws = wx u) (hfr : 6 ≤ fr) (hlo : (rest.map fun v => v.category).sum + 81 ≤ lo) : go_ G 0 0 ws pc lc rest := by
  intro H locs ls hl hP hD hS
  subst e
  obtain ⟨hr, hk, hQ, hex, hc1, hs6⟩ := hq
  obtain ⟨t0, t1, t2, t3, t4, t5⟩ := hw
  rw [hQ]
  refine vx_throw0 (names := nm_) (cls := xn_ z) (cx_x X) (cx_b X) hl0 (cx_o X) t0 (by decide) (cx_w X _ t1) (cx_w X _ t2) (vx_hat (fun w h => cx_w X w (t3 w h)) t4 (fun w h => ?_)) t5 (cx_F X).2.2.1 (cx_F X).2.2.2.1 hS (hl.1.trans ((cx_n X).trans (cx_m X).symm)) d0 d3 d4 d7 (fun x hx => (hex x hx).elim) (Nat.lt_of_lt_of_le (show 2 + 3 < 6 by decide) (Nat.le_trans hfr (cx_f X))) (Nat.le_trans hlo (cx_l X)) (by rw [Nat.zero_add]; exact hc1) (by rw [Nat.zero_add]; exact hs6) hk (fun t hvm hsz hkp => ?_) hS.2.2 (Nat.le_refl _) (Nat.le_refl _)
  · have h1 := List.all_eq_true.mp xw_ok w h
    simp only [Bool.and_eq_true] at h1
    exact va_tabs (u := gs_ G) h1.2 rfl ((cx_F X).2.2.2.2.1 w h)
  · refine ⟨(z, u), hp, ⟨rfl, hP.kept (fun k q hq => hkp q.1 (hP k q hq).lt), hD⟩, Nat.le_trans hS.1 hsz, fun q hq hA => ?_⟩
    rw [hkp q (Nat.lt_of_lt_of_le hq hS.1)]
    exact hS.2.1 q hq hA
end GoT
set_option maxRecDepth 100000 in
theorem th_1 : tw_ 51 53 (xn_ 1) := tw_of (by decide +kernel) (wT1 233 rfl rfl) (wT1 11 rfl rfl) (by decide +kernel) (by decide +kernel) (by decide +kernel)
set_option maxRecDepth 100000 in
theorem th_2 : tw_ 58 60 (xn_ 2) := tw_of (by decide +kernel) (wT2 56 rfl rfl) (wT1 12 rfl rfl) (by decide +kernel) (by decide +kernel) (by decide +kernel)
set_option maxRecDepth 100000 in
theorem th_3 : tw_ 77 79 (xn_ 3) := tw_of (by decide +kernel) (wT2 109 rfl rfl) (wT1 13 rfl rfl) (by decide +kernel) (by decide +kernel) (by decide +kernel)
