/-! what stays: the table HEAD, the statics that a new exception reads -/
def hd_ (j : Nat) : Int32 := ([192, 0, 206, 237, 102, 204, 0, 0, 0, 0, 0, 0, 0, 0, 0, 0, 1, 10, 0, 0, 1, 10, 0, 0, 1, 10, 0, 0, 1, 10, 0, 0] : List Int32).getD j 0
/-- words of the tables that a new exception wants beside wS -/
def xw_ : List Cond := [.declares ⟨"java/lang/RuntimeException", "<init>", "()V"⟩, .declares ⟨"java/lang/Exception", "<init>", "()V"⟩, .declares ⟨"java/lang/Throwable", "<init>", "()V"⟩, .castable "java/lang/IllegalArgumentException" "java/lang/IllegalArgumentException", .castable "java/lang/IllegalStateException" "java/lang/IllegalStateException", .castable "java/util/NoSuchElementException" "java/util/NoSuchElementException"]
theorem xw_ok : xw_.all (fun w => w.faceAtom && w.onTables) = true := by decide +kernel
def fw_ (U : State) : Prop := (∀ w ∈ xw_, w.before #[] U = true) ∧ va_Nc "java/lang/IllegalStateException" "java/lang/IllegalArgumentException" U ∧ va_Nc "java/util/NoSuchElementException" "java/lang/IllegalArgumentException" U ∧ va_Nc "java/lang/IllegalStateException" "java/util/NoSuchElementException" U
theorem fw_moved {u U : State} (hvm : u.vm.Alike U.vm) (h : fw_ u) : fw_ U := by
  refine ⟨fun w hw => ?_, va_Nc.moved hvm h.2.1, va_Nc.moved hvm h.2.2.1, va_Nc.moved hvm h.2.2.2⟩
  have h1 := List.all_eq_true.mp xw_ok w hw
  simp only [Bool.and_eq_true] at h1
  have h2 := Cond.faceAtom_setVm (s := u) (vm' := U.vm) hvm w h1.1 (h.1 w hw)
  exact va_tabs (u := u.setVm U.vm) h1.2 rfl h2
def fz_ (ad : Nat → Nat) (A : Nat → Prop) (U : State) (H : Heap) : Prop :=
  va_Z "CartridgeDesk$Cartridge" "HEAD" "[I" (.ref (ad 97)) A U H ∧ va_T .int (ad 97) 32 (fun j => .int (hd_ j)) A U H ∧ vx_Zq Bundle.tN "UNASSIGNED_STACK" Bundle.steD A U H ∧ vx_Zq Bundle.tN "SUPPRESSED_SENTINEL" Bundle.listD A U H ∧ fw_ U
theorem fz_moved {ad : Nat → Nat} {A : Nat → Prop} {u U : State} {H : Heap} (hvm : u.vm.Alike U.vm) (h : fz_ ad A u H) : fz_ ad A U H := ⟨va_Z.moved hvm h.1, va_T.moved hvm h.2.1, vx_Zq.moved hvm h.2.2.1, vx_Zq.moved hvm h.2.2.2.1, fw_moved hvm h.2.2.2.2⟩
theorem fz_kept {ad : Nat → Nat} {A : Nat → Prop} {U : State} {H H1 : Heap} (h : fz_ ad A U H) (hq : ∀ a : Nat, a < H.size → ¬ A a → H1[a]? = H[a]?) : fz_ ad A U H1 := ⟨va_Z.kept h.1 hq, va_T.kept h.2.1 hq, vx_Zq.kept h.2.2.1 hq, vx_Zq.kept h.2.2.2.1 hq, h.2.2.2.2⟩
theorem fz_narrow {ad : Nat → Nat} {A B : Nat → Prop} {U : State} {H : Heap} (h : fz_ ad A U H) (hAB : ∀ q, B q → A q) : fz_ ad B U H := ⟨va_Z.narrow h.1 hAB, va_T.narrow h.2.1 hAB, vx_Zq.narrow h.2.2.1 hAB, vx_Zq.narrow h.2.2.2.1 hAB, h.2.2.2.2⟩
/-! go_: the machine at pc with locals lc, operands st and the world ws comes to its goal, whatever heap holds that world -/
section GoA
abbrev gt_ : Type := Program × Launch × Env × Room × State × MethodId × Array Value × List Frame × Method × Code × va_G × (Nat → Prop) × Nat × (State → Prop)
abbrev gp_ (G : gt_) : Program := G.1
abbrev gl_ (G : gt_) : Launch := G.2.1
abbrev ge_ (G : gt_) : Env := G.2.2.1
abbrev gR_ (G : gt_) : Room := G.2.2.2.1
abbrev gs_ (G : gt_) : State := G.2.2.2.2.1
abbrev gm_ (G : gt_) : MethodId := G.2.2.2.2.2.1
abbrev ga_ (G : gt_) : Array Value := G.2.2.2.2.2.2.1
abbrev gb_ (G : gt_) : List Frame := G.2.2.2.2.2.2.2.1
abbrev gh_ (G : gt_) : Method := G.2.2.2.2.2.2.2.2.1
abbrev gc_ (G : gt_) : Code := G.2.2.2.2.2.2.2.2.2.1
abbrev gD_ (G : gt_) : va_G := G.2.2.2.2.2.2.2.2.2.2.1
abbrev gA_ (G : gt_) : Nat → Prop := G.2.2.2.2.2.2.2.2.2.2.2.1
abbrev gn_ (G : gt_) : Nat := G.2.2.2.2.2.2.2.2.2.2.2.2.1
abbrev gQ_ (G : gt_) : State → Prop := G.2.2.2.2.2.2.2.2.2.2.2.2.2
/-- the array classes: int[] is ad 99, long[] is ad 98 -/
abbrev ty_ (ad : Nat → Nat) : List (ClassId × FieldType) := [(ad 99, .int), (ad 98, .long)]
def go_ (G : gt_) (cells slots : Nat) (ws : va_W) (pc : Nat) (lc : List (Nat × Value)) (st : List Value) : Prop :=
  ∀ (H : Heap) (locs : List Loc) (ls : Array Slot), lv_has ls (gn_ G) lc → va_P (gD_ G) vwCl ws H → va_D (gA_ G) ws → va_S (gA_ G) (gs_ G).heap H locs →
    W (gp_ G) (gl_ G) (ge_ G) (gR_ G) (gs_ G) (gm_ G) (ga_ G) (gb_ G) (gh_ G) (gc_ G) H locs cells slots (gQ_ G) (F0 (gm_ G) pc ls st)
/-- what a walk stands on: the machine, the code cc, the name own, the words, the classes, what it may write, what stays (fz_), its room -/
def cx_ (G : gt_) (ad : Nat → Nat) (cc : ByteArray) (own : String) (fr lo n : Nat) : Prop :=
  (gp_ G).tables.exec = Jvm.exec ∧ (gc_ G).code = cc ∧ (gc_ G).maxLocals = n ∧ gn_ G = n ∧ (gs_ G).vm.findClass own = some (gm_ G).cls ∧ (∀ w ∈ wS, w.before (ga_ G) (gs_ G) = true) ∧
  va_K (gD_ G) vwCl (ty_ ad) (gs_ G) ∧ (∀ q, (gs_ G).heap.size ≤ q → gA_ G q) ∧ fz_ ad (gA_ G) (gs_ G) (gs_ G).heap ∧ fr ≤ (gR_ G).frames ∧ lo ≤ (gR_ G).locals
variable {G : gt_} {ad : Nat → Nat} {cc : ByteArray} {own : String} {fr lo n cells slots : Nat} {ws ws' : va_W} {pc : Nat} {lc lc' : List (Nat × Value)} {rest : List Value}
theorem cx_x (X : cx_ G ad cc own fr lo n) : (gp_ G).tables.exec = Jvm.exec := X.1
theorem cx_b (X : cx_ G ad cc own fr lo n) : (gc_ G).code = cc := X.2.1
theorem cx_m (X : cx_ G ad cc own fr lo n) : (gc_ G).maxLocals = n := X.2.2.1
theorem cx_n (X : cx_ G ad cc own fr lo n) : gn_ G = n := X.2.2.2.1
theorem cx_o (X : cx_ G ad cc own fr lo n) : (gs_ G).vm.findClass own = some (gm_ G).cls := X.2.2.2.2.1
theorem cx_w (X : cx_ G ad cc own fr lo n) : ∀ w ∈ wS, w.before (ga_ G) (gs_ G) = true := X.2.2.2.2.2.1
theorem cx_K (X : cx_ G ad cc own fr lo n) : va_K (gD_ G) vwCl (ty_ ad) (gs_ G) := X.2.2.2.2.2.2.1
theorem cx_A (X : cx_ G ad cc own fr lo n) : ∀ q, (gs_ G).heap.size ≤ q → gA_ G q := X.2.2.2.2.2.2.2.1
theorem cx_F (X : cx_ G ad cc own fr lo n) : fz_ ad (gA_ G) (gs_ G) (gs_ G).heap := X.2.2.2.2.2.2.2.2.1
theorem cx_f (X : cx_ G ad cc own fr lo n) : fr ≤ (gR_ G).frames := X.2.2.2.2.2.2.2.2.2.1
theorem cx_l (X : cx_ G ad cc own fr lo n) : lo ≤ (gR_ G).locals := X.2.2.2.2.2.2.2.2.2.2
theorem go_w (e : ws = ws') (k : go_ G cells slots ws' pc lc rest) : go_ G cells slots ws pc lc rest := e ▸ k
theorem go_lc (ks : List Nat) (e : lv_pick lc ks = lc') (k : go_ G cells slots ws pc lc' rest) : go_ G cells slots ws pc lc rest := fun H locs ls hl hP hD hS => k H locs ls (lv_sub hl ks e) hP hD hS
theorem go_iconst (X : cx_ G ad cc own fr lo n) {z : Int} {v : Int32} (d : decode cc pc = .ok (.iconst z, 1)) (hv : Int32.ofInt z = v)
    (k : go_ G cells slots ws (pc + 1) lc (.int v :: rest)) : go_ G cells slots ws pc lc (rest) := fun H locs ls hl hP hD hS => lv_iconst (cx_x X) (cx_b X) d hv (k H locs ls hl hP hD hS)
theorem go_bipush (X : cx_ G ad cc own fr lo n) {z : Int} {v : Int32} (d : decode cc pc = .ok (.bipush z, 2)) (hv : (Int8.ofInt z).toInt32 = v)
    (k : go_ G cells slots ws (pc + 2) lc (.int v :: rest)) : go_ G cells slots ws pc lc (rest) := fun H locs ls hl hP hD hS => lv_bipush (cx_x X) (cx_b X) d hv (k H locs ls hl hP hD hS)
theorem go_sipush (X : cx_ G ad cc own fr lo n) {z : Int} {v : Int32} (d : decode cc pc = .ok (.sipush z, 3)) (hv : (Int16.ofInt z).toInt32 = v)
    (k : go_ G cells slots ws (pc + 3) lc (.int v :: rest)) : go_ G cells slots ws pc lc (rest) := fun H locs ls hl hP hD hS => lv_sipush (cx_x X) (cx_b X) d hv (k H locs ls hl hP hD hS)
theorem go_iload_n (X : cx_ G ad cc own fr lo n) {q : Fin 4} {i : Nat} {x : Int32} (j : Nat) (d : decode cc pc = .ok (.iload_n q, 1)) (hi : (q : Nat) = i) (hj : lc[j]? = some (i, .int x))
    (k : go_ G cells slots ws (pc + 1) lc (.int x :: rest)) : go_ G cells slots ws pc lc (rest) := fun H locs ls hl hP hD hS => lv_iload_n (cx_x X) (cx_b X) d hi (lv_at hl j hj) (k H locs ls hl hP hD hS)
theorem go_iload (X : cx_ G ad cc own fr lo n) {i : Nat} {x : Int32} (j : Nat) (d : decode cc pc = .ok (.iload i, 2)) (hj : lc[j]? = some (i, .int x))
    (k : go_ G cells slots ws (pc + 2) lc (.int x :: rest)) : go_ G cells slots ws pc lc (rest) := fun H locs ls hl hP hD hS => lv_iload (cx_x X) (cx_b X) d (lv_at hl j hj) (k H locs ls hl hP hD hS)
theorem go_istore_n (X : cx_ G ad cc own fr lo n) {q : Fin 4} {i : Nat} {x : Int32} (d : decode cc pc = .ok (.istore_n q, 1)) (hi : (q : Nat) = i) (hn : i < n) (e : (i, Value.int x) :: lc.filter (fun q => !(q.1 == i) && !(q.1 + 1 == i && q.2.category == 2)) = lc')
    (k : go_ G cells slots ws (pc + 1) lc' rest) : go_ G cells slots ws pc lc (.int x :: rest) := fun H locs ls hl hP hD hS => lv_istore_n (cx_x X) (cx_b X) d hi hl (by rw [cx_n X]; exact hn) e (fun ls' hl' => k H locs ls' hl' hP hD hS)
theorem go_istore (X : cx_ G ad cc own fr lo n) {i : Nat} {x : Int32} (d : decode cc pc = .ok (.istore i, 2)) (hn : i < n) (e : (i, Value.int x) :: lc.filter (fun q => !(q.1 == i) && !(q.1 + 1 == i && q.2.category == 2)) = lc')
    (k : go_ G cells slots ws (pc + 2) lc' rest) : go_ G cells slots ws pc lc (.int x :: rest) := fun H locs ls hl hP hD hS => lv_istore (cx_x X) (cx_b X) d hl (by rw [cx_n X]; exact hn) e (fun ls' hl' => k H locs ls' hl' hP hD hS)
theorem go_aload_n (X : cx_ G ad cc own fr lo n) {q : Fin 4} {i : Nat} {x : Nat} (j : Nat) (d : decode cc pc = .ok (.aload_n q, 1)) (hi : (q : Nat) = i) (hj : lc[j]? = some (i, .ref x))
    (k : go_ G cells slots ws (pc + 1) lc (.ref x :: rest)) : go_ G cells slots ws pc lc (rest) := fun H locs ls hl hP hD hS => lv_aload_n (cx_x X) (cx_b X) d hi (lv_at hl j hj) (k H locs ls hl hP hD hS)
theorem go_aload (X : cx_ G ad cc own fr lo n) {i : Nat} {x : Nat} (j : Nat) (d : decode cc pc = .ok (.aload i, 2)) (hj : lc[j]? = some (i, .ref x))
    (k : go_ G cells slots ws (pc + 2) lc (.ref x :: rest)) : go_ G cells slots ws pc lc (rest) := fun H locs ls hl hP hD hS => lv_aload (cx_x X) (cx_b X) d (lv_at hl j hj) (k H locs ls hl hP hD hS)
theorem go_astore_n (X : cx_ G ad cc own fr lo n) {q : Fin 4} {i : Nat} {x : Nat} (d : decode cc pc = .ok (.astore_n q, 1)) (hi : (q : Nat) = i) (hn : i < n) (e : (i, Value.ref x) :: lc.filter (fun q => !(q.1 == i) && !(q.1 + 1 == i && q.2.category == 2)) = lc')
    (k : go_ G cells slots ws (pc + 1) lc' rest) : go_ G cells slots ws pc lc (.ref x :: rest) := fun H locs ls hl hP hD hS => lv_astore_n (cx_x X) (cx_b X) d hi hl (by rw [cx_n X]; exact hn) e (fun ls' hl' => k H locs ls' hl' hP hD hS)
theorem go_astore (X : cx_ G ad cc own fr lo n) {i : Nat} {x : Nat} (d : decode cc pc = .ok (.astore i, 2)) (hn : i < n) (e : (i, Value.ref x) :: lc.filter (fun q => !(q.1 == i) && !(q.1 + 1 == i && q.2.category == 2)) = lc')
    (k : go_ G cells slots ws (pc + 2) lc' rest) : go_ G cells slots ws pc lc (.ref x :: rest) := fun H locs ls hl hP hD hS => lv_astore (cx_x X) (cx_b X) d hl (by rw [cx_n X]; exact hn) e (fun ls' hl' => k H locs ls' hl' hP hD hS)
theorem go_iinc (X : cx_ G ad cc own fr lo n) {i : Nat} {z : Int} {x v : Int32} (j : Nat) (d : decode cc pc = .ok (.iinc i z, 3)) (hj : lc[j]? = some (i, .int x)) (hv : x + Int32.ofInt z = v) (hn : i < n) (e : (i, Value.int v) :: lc.filter (fun q => !(q.1 == i) && !(q.1 + 1 == i && q.2.category == 2)) = lc')
    (k : go_ G cells slots ws (pc + 3) lc' rest) : go_ G cells slots ws pc lc rest := fun H locs ls hl hP hD hS => lv_iinc (cx_x X) (cx_b X) d hl hj hv (by rw [cx_n X]; exact hn) e (fun ls' hl' => k H locs ls' hl' hP hD hS)
theorem go_iadd (X : cx_ G ad cc own fr lo n) {x y : Int32} (d : decode cc pc = .ok (.iadd, 1))
    (k : go_ G cells slots ws (pc + 1) lc (.int (x + y) :: rest)) : go_ G cells slots ws pc lc (.int y :: .int x :: rest) := fun H locs ls hl hP hD hS => lv_iadd (cx_x X) (cx_b X) d (k H locs ls hl hP hD hS)
theorem go_isub (X : cx_ G ad cc own fr lo n) {x y : Int32} (d : decode cc pc = .ok (.isub, 1))
    (k : go_ G cells slots ws (pc + 1) lc (.int (x - y) :: rest)) : go_ G cells slots ws pc lc (.int y :: .int x :: rest) := fun H locs ls hl hP hD hS => lv_isub (cx_x X) (cx_b X) d (k H locs ls hl hP hD hS)
theorem go_imul (X : cx_ G ad cc own fr lo n) {x y : Int32} (d : decode cc pc = .ok (.imul, 1))
    (k : go_ G cells slots ws (pc + 1) lc (.int (x * y) :: rest)) : go_ G cells slots ws pc lc (.int y :: .int x :: rest) := fun H locs ls hl hP hD hS => lv_imul (cx_x X) (cx_b X) d (k H locs ls hl hP hD hS)
theorem go_iand (X : cx_ G ad cc own fr lo n) {x y : Int32} (d : decode cc pc = .ok (.iand, 1))
    (k : go_ G cells slots ws (pc + 1) lc (.int (x &&& y) :: rest)) : go_ G cells slots ws pc lc (.int y :: .int x :: rest) := fun H locs ls hl hP hD hS => lv_iand (cx_x X) (cx_b X) d (k H locs ls hl hP hD hS)
theorem go_ior (X : cx_ G ad cc own fr lo n) {x y : Int32} (d : decode cc pc = .ok (.ior, 1))
    (k : go_ G cells slots ws (pc + 1) lc (.int (x ||| y) :: rest)) : go_ G cells slots ws pc lc (.int y :: .int x :: rest) := fun H locs ls hl hP hD hS => lv_ior (cx_x X) (cx_b X) d (k H locs ls hl hP hD hS)
theorem go_ixor (X : cx_ G ad cc own fr lo n) {x y : Int32} (d : decode cc pc = .ok (.ixor, 1))
    (k : go_ G cells slots ws (pc + 1) lc (.int (x ^^^ y) :: rest)) : go_ G cells slots ws pc lc (.int y :: .int x :: rest) := fun H locs ls hl hP hD hS => lv_ixor (cx_x X) (cx_b X) d (k H locs ls hl hP hD hS)
theorem go_ishl (X : cx_ G ad cc own fr lo n) {x y : Int32} (d : decode cc pc = .ok (.ishl, 1))
    (k : go_ G cells slots ws (pc + 1) lc (.int (x <<< (y &&& 31)) :: rest)) : go_ G cells slots ws pc lc (.int y :: .int x :: rest) := fun H locs ls hl hP hD hS => lv_ishl (cx_x X) (cx_b X) d (k H locs ls hl hP hD hS)
theorem go_ishr (X : cx_ G ad cc own fr lo n) {x y : Int32} (d : decode cc pc = .ok (.ishr, 1))
    (k : go_ G cells slots ws (pc + 1) lc (.int (x >>> (y &&& 31)) :: rest)) : go_ G cells slots ws pc lc (.int y :: .int x :: rest) := fun H locs ls hl hP hD hS => lv_ishr (cx_x X) (cx_b X) d (k H locs ls hl hP hD hS)
theorem go_idiv (X : cx_ G ad cc own fr lo n) {x y : Int32} (d : decode cc pc = .ok (.idiv, 1)) (h0 : ¬ y = 0)
    (k : go_ G cells slots ws (pc + 1) lc (.int (x / y) :: rest)) : go_ G cells slots ws pc lc (.int y :: .int x :: rest) := fun H locs ls hl hP hD hS => lv_idiv (cx_x X) (cx_b X) d h0 (k H locs ls hl hP hD hS)
theorem go_irem (X : cx_ G ad cc own fr lo n) {x y : Int32} (d : decode cc pc = .ok (.irem, 1)) (h0 : ¬ y = 0)
    (k : go_ G cells slots ws (pc + 1) lc (.int (x - x / y * y) :: rest)) : go_ G cells slots ws pc lc (.int y :: .int x :: rest) := fun H locs ls hl hP hD hS => lv_irem (cx_x X) (cx_b X) d h0 (k H locs ls hl hP hD hS)
theorem go_ineg (X : cx_ G ad cc own fr lo n) {x : Int32} (d : decode cc pc = .ok (.ineg, 1))
    (k : go_ G cells slots ws (pc + 1) lc (.int (-x) :: rest)) : go_ G cells slots ws pc lc (.int x :: rest) := fun H locs ls hl hP hD hS => lv_ineg (cx_x X) (cx_b X) d (k H locs ls hl hP hD hS)
theorem go_i2l (X : cx_ G ad cc own fr lo n) {x : Int32} (d : decode cc pc = .ok (.i2l, 1))
    (k : go_ G cells slots ws (pc + 1) lc (.long x.toInt64 :: rest)) : go_ G cells slots ws pc lc (.int x :: rest) := fun H locs ls hl hP hD hS => lv_i2l (cx_x X) (cx_b X) d rfl (k H locs ls hl hP hD hS)
theorem go_lcmp (X : cx_ G ad cc own fr lo n) {x y : Int64} (d : decode cc pc = .ok (.lcmp, 1))
    (k : go_ G cells slots ws (pc + 1) lc (.int (lg_cmp x y) :: rest)) : go_ G cells slots ws pc lc (.long y :: .long x :: rest) := fun H locs ls hl hP hD hS => W.lcmp (cx_x X) (cx_b X) d (k H locs ls hl hP hD hS)
theorem go_dup (X : cx_ G ad cc own fr lo n) {v : Value} (d : decode cc pc = .ok (.dup, 1)) (h1 : v.category = 1)
    (k : go_ G cells slots ws (pc + 1) lc (v :: v :: rest)) : go_ G cells slots ws pc lc (v :: rest) := fun H locs ls hl hP hD hS => lv_dup (cx_x X) (cx_b X) d h1 (k H locs ls hl hP hD hS)
theorem go_pop (X : cx_ G ad cc own fr lo n) {v : Value} (d : decode cc pc = .ok (.pop, 1)) (h1 : v.category = 1)
    (k : go_ G cells slots ws (pc + 1) lc (rest)) : go_ G cells slots ws pc lc (v :: rest) := fun H locs ls hl hP hD hS => lv_pop (cx_x X) (cx_b X) d h1 (k H locs ls hl hP hD hS)
theorem go_dup2 (X : cx_ G ad cc own fr lo n) {v u : Value} (d : decode cc pc = .ok (.dup2, 1)) (h1 : v.category = 1) (h2 : u.category = 1)
    (k : go_ G cells slots ws (pc + 1) lc (v :: u :: v :: u :: rest)) : go_ G cells slots ws pc lc (v :: u :: rest) := fun H locs ls hl hP hD hS => lv_dup2_11 (cx_x X) (cx_b X) d h1 h2 (k H locs ls hl hP hD hS)
theorem go_dup_x1 (X : cx_ G ad cc own fr lo n) {v u : Value} (d : decode cc pc = .ok (.dup_x1, 1)) (h1 : v.category = 1) (h2 : u.category = 1)
    (k : go_ G cells slots ws (pc + 1) lc (v :: u :: v :: rest)) : go_ G cells slots ws pc lc (v :: u :: rest) := fun H locs ls hl hP hD hS => lv_dup_x1 (cx_x X) (cx_b X) d h1 h2 (k H locs ls hl hP hD hS)
theorem go_dup_x2 (X : cx_ G ad cc own fr lo n) {v u z : Value} (d : decode cc pc = .ok (.dup_x2, 1)) (h1 : v.category = 1) (h2 : u.category = 1) (h3 : z.category = 1)
    (k : go_ G cells slots ws (pc + 1) lc (v :: u :: z :: v :: rest)) : go_ G cells slots ws pc lc (v :: u :: z :: rest) := fun H locs ls hl hP hD hS => lv_dup_x2 (cx_x X) (cx_b X) d h1 h2 h3 (k H locs ls hl hP hD hS)
theorem go_if_eq (X : cx_ G ad cc own fr lo n) {x : Int32} {off : Int} {tgt : Nat} (d : decode cc pc = .ok (.ifCond .eq off, 3)) (ht : (pc : Int) + off = (tgt : Int))
    (kt : x = 0 → go_ G cells slots ws tgt lc rest) (kf : ¬ x = 0 → go_ G cells slots ws (pc + 3) lc rest) : go_ G cells slots ws pc lc (.int x :: rest) := fun H locs ls hl hP hD hS => lv_if_eq (cx_x X) (cx_b X) d ht (fun h => kt h H locs ls hl hP hD hS) (fun h => kf h H locs ls hl hP hD hS)
theorem go_icmp_eq (X : cx_ G ad cc own fr lo n) {x y : Int32} {off : Int} {tgt : Nat} (d : decode cc pc = .ok (.if_icmp .eq off, 3)) (ht : (pc : Int) + off = (tgt : Int))
    (kt : x = y → go_ G cells slots ws tgt lc rest) (kf : ¬ x = y → go_ G cells slots ws (pc + 3) lc rest) : go_ G cells slots ws pc lc (.int y :: .int x :: rest) := fun H locs ls hl hP hD hS => lv_icmp_eq (cx_x X) (cx_b X) d ht (fun h => kt h H locs ls hl hP hD hS) (fun h => kf h H locs ls hl hP hD hS)
theorem go_if_ne (X : cx_ G ad cc own fr lo n) {x : Int32} {off : Int} {tgt : Nat} (d : decode cc pc = .ok (.ifCond .ne off, 3)) (ht : (pc : Int) + off = (tgt : Int))
    (kt : ¬ x = 0 → go_ G cells slots ws tgt lc rest) (kf : x = 0 → go_ G cells slots ws (pc + 3) lc rest) : go_ G cells slots ws pc lc (.int x :: rest) := fun H locs ls hl hP hD hS => lv_if_ne (cx_x X) (cx_b X) d ht (fun h => kt h H locs ls hl hP hD hS) (fun h => kf h H locs ls hl hP hD hS)
theorem go_icmp_ne (X : cx_ G ad cc own fr lo n) {x y : Int32} {off : Int} {tgt : Nat} (d : decode cc pc = .ok (.if_icmp .ne off, 3)) (ht : (pc : Int) + off = (tgt : Int))
    (kt : ¬ x = y → go_ G cells slots ws tgt lc rest) (kf : x = y → go_ G cells slots ws (pc + 3) lc rest) : go_ G cells slots ws pc lc (.int y :: .int x :: rest) := fun H locs ls hl hP hD hS => lv_icmp_ne (cx_x X) (cx_b X) d ht (fun h => kt h H locs ls hl hP hD hS) (fun h => kf h H locs ls hl hP hD hS)
theorem go_if_lt (X : cx_ G ad cc own fr lo n) {x : Int32} {off : Int} {tgt : Nat} (d : decode cc pc = .ok (.ifCond .lt off, 3)) (ht : (pc : Int) + off = (tgt : Int))
    (kt : x < 0 → go_ G cells slots ws tgt lc rest) (kf : ¬ x < 0 → go_ G cells slots ws (pc + 3) lc rest) : go_ G cells slots ws pc lc (.int x :: rest) := fun H locs ls hl hP hD hS => lv_if_lt (cx_x X) (cx_b X) d ht (fun h => kt h H locs ls hl hP hD hS) (fun h => kf h H locs ls hl hP hD hS)
theorem go_icmp_lt (X : cx_ G ad cc own fr lo n) {x y : Int32} {off : Int} {tgt : Nat} (d : decode cc pc = .ok (.if_icmp .lt off, 3)) (ht : (pc : Int) + off = (tgt : Int))
    (kt : x < y → go_ G cells slots ws tgt lc rest) (kf : ¬ x < y → go_ G cells slots ws (pc + 3) lc rest) : go_ G cells slots ws pc lc (.int y :: .int x :: rest) := fun H locs ls hl hP hD hS => lv_icmp_lt (cx_x X) (cx_b X) d ht (fun h => kt h H locs ls hl hP hD hS) (fun h => kf h H locs ls hl hP hD hS)
theorem go_if_ge (X : cx_ G ad cc own fr lo n) {x : Int32} {off : Int} {tgt : Nat} (d : decode cc pc = .ok (.ifCond .ge off, 3)) (ht : (pc : Int) + off = (tgt : Int))
    (kt : 0 ≤ x → go_ G cells slots ws tgt lc rest) (kf : ¬ 0 ≤ x → go_ G cells slots ws (pc + 3) lc rest) : go_ G cells slots ws pc lc (.int x :: rest) := fun H locs ls hl hP hD hS => lv_if_ge (cx_x X) (cx_b X) d ht (fun h => kt h H locs ls hl hP hD hS) (fun h => kf h H locs ls hl hP hD hS)
theorem go_icmp_ge (X : cx_ G ad cc own fr lo n) {x y : Int32} {off : Int} {tgt : Nat} (d : decode cc pc = .ok (.if_icmp .ge off, 3)) (ht : (pc : Int) + off = (tgt : Int))
    (kt : y ≤ x → go_ G cells slots ws tgt lc rest) (kf : ¬ y ≤ x → go_ G cells slots ws (pc + 3) lc rest) : go_ G cells slots ws pc lc (.int y :: .int x :: rest) := fun H locs ls hl hP hD hS => lv_icmp_ge (cx_x X) (cx_b X) d ht (fun h => kt h H locs ls hl hP hD hS) (fun h => kf h H locs ls hl hP hD hS)
theorem go_if_gt (X : cx_ G ad cc own fr lo n) {x : Int32} {off : Int} {tgt : Nat} (d : decode cc pc = .ok (.ifCond .gt off, 3)) (ht : (pc : Int) + off = (tgt : Int))
    (kt : 0 < x → go_ G cells slots ws tgt lc rest) (kf : ¬ 0 < x → go_ G cells slots ws (pc + 3) lc rest) : go_ G cells slots ws pc lc (.int x :: rest) := fun H locs ls hl hP hD hS => lv_if_gt (cx_x X) (cx_b X) d ht (fun h => kt h H locs ls hl hP hD hS) (fun h => kf h H locs ls hl hP hD hS)
theorem go_icmp_gt (X : cx_ G ad cc own fr lo n) {x y : Int32} {off : Int} {tgt : Nat} (d : decode cc pc = .ok (.if_icmp .gt off, 3)) (ht : (pc : Int) + off = (tgt : Int))
    (kt : y < x → go_ G cells slots ws tgt lc rest) (kf : ¬ y < x → go_ G cells slots ws (pc + 3) lc rest) : go_ G cells slots ws pc lc (.int y :: .int x :: rest) := fun H locs ls hl hP hD hS => lv_icmp_gt (cx_x X) (cx_b X) d ht (fun h => kt h H locs ls hl hP hD hS) (fun h => kf h H locs ls hl hP hD hS)
theorem go_if_le (X : cx_ G ad cc own fr lo n) {x : Int32} {off : Int} {tgt : Nat} (d : decode cc pc = .ok (.ifCond .le off, 3)) (ht : (pc : Int) + off = (tgt : Int))
    (kt : x ≤ 0 → go_ G cells slots ws tgt lc rest) (kf : ¬ x ≤ 0 → go_ G cells slots ws (pc + 3) lc rest) : go_ G cells slots ws pc lc (.int x :: rest) := fun H locs ls hl hP hD hS => lv_if_le (cx_x X) (cx_b X) d ht (fun h => kt h H locs ls hl hP hD hS) (fun h => kf h H locs ls hl hP hD hS)
theorem go_icmp_le (X : cx_ G ad cc own fr lo n) {x y : Int32} {off : Int} {tgt : Nat} (d : decode cc pc = .ok (.if_icmp .le off, 3)) (ht : (pc : Int) + off = (tgt : Int))
    (kt : x ≤ y → go_ G cells slots ws tgt lc rest) (kf : ¬ x ≤ y → go_ G cells slots ws (pc + 3) lc rest) : go_ G cells slots ws pc lc (.int y :: .int x :: rest) := fun H locs ls hl hP hD hS => lv_icmp_le (cx_x X) (cx_b X) d ht (fun h => kt h H locs ls hl hP hD hS) (fun h => kf h H locs ls hl hP hD hS)
theorem go_goto (X : cx_ G ad cc own fr lo n) {off : Int} {tgt : Nat} (d : decode cc pc = .ok (.goto off, 3)) (ht : (pc : Int) + off = (tgt : Int)) (k : go_ G cells slots ws tgt lc rest) : go_ G cells slots ws pc lc rest := fun H locs ls hl hP hD hS => lv_goto (cx_x X) (cx_b X) d ht (k H locs ls hl hP hD hS)
theorem go_lookup (X : cx_ G ad cc own fr lo n) {dflt : Int} {ps : Array (Int × Int)} {len : Nat} {x : Int32} {off : Int} {tgt : Nat} (d : decode cc pc = .ok (.lookupswitch dflt ps, len)) (hp : (ps.toList.zip (ps.toList.drop 1)).all (fun (a, next) => a.1 < next.1) = true) (ho : Op.lookupswitch.offset ps.toList dflt x.toInt = off) (ht : (pc : Int) + off = (tgt : Int))
    (k : go_ G cells slots ws tgt lc rest) : go_ G cells slots ws pc lc (.int x :: rest) := fun H locs ls hl hP hD hS => lv_lookup (cx_x X) (cx_b X) d hp ho ht (k H locs ls hl hP hD hS)
theorem go_tout (X : cx_ G ad cc own fr lo n) {dflt lo hi : Int} {offs : Array Int} {len : Nat} {x : Int32} {tgt : Nat} (d : decode cc pc = .ok (.tableswitch dflt lo hi offs, len)) (h : x.toInt < lo ∨ hi < x.toInt) (ht : (pc : Int) + dflt = (tgt : Int))
    (k : go_ G cells slots ws tgt lc rest) : go_ G cells slots ws pc lc (.int x :: rest) := fun H locs ls hl hP hD hS => lv_tableOut (cx_x X) (cx_b X) d h ht (k H locs ls hl hP hD hS)
theorem go_tin (X : cx_ G ad cc own fr lo n) {dflt lo hi : Int} {offs : Array Int} {len : Nat} {x : Int32} (v : Int32) {off : Int} {tgt : Nat} (d : decode cc pc = .ok (.tableswitch dflt lo hi offs, len)) (e : x = v) (h1 : ¬ v.toInt < lo) (h2 : ¬ hi < v.toInt) (ho : offs[(v.toInt - lo).toNat]? = some off) (ht : (pc : Int) + off = (tgt : Int))
    (k : go_ G cells slots ws tgt lc rest) : go_ G cells slots ws pc lc (.int x :: rest) := fun H locs ls hl hP hD hS => lv_tableIn (cx_x X) (cx_b X) d (by rw [e]; exact h1) (by rw [e]; exact h2) (by rw [e]; exact ho) ht (k H locs ls hl hP hD hS)
theorem go_neT {x v : Int32} {z : Int} (h : ¬ x = v) (hz : v.toInt = z) : ¬ x.toInt = z := fun q => h (Int32.toInt_inj.mp (q.trans hz.symm))
/-- a field is read -/
theorem go_get (X : cx_ G ad cc own fr lo n) {ref C : String} {T : u_T} {N ci index a : Nat} (hin : ∀ w ∈ u_ws C T N, w ∈ wS) (q0 : Nat) {fs : List Value} (he : ws[q0]? = some (a, .inr (ci, fs))) (hc : vwCl[ci]? = some (C, T, N)) (k : Nat) (hk : k < N) (hl : Cond.fieldLink own index ref (T k).2.1 (T k).2.2.1 ∈ wS) (hr : (T k).1 = ref) {v : Value} (hv : fs[k]? = some v) (d : decode cc pc = .ok (.getfield index, 3))
    (kk : go_ G cells slots ws (pc + 3) lc (v :: rest)) : go_ G cells slots ws pc lc (.ref a :: rest) := fun H locs ls hls hP hD hS => va_get (cx_x X) (cx_b X) (cx_w X) hin (cx_o X) (cx_K X) hP q0 he hc k hk (cx_w X _ hl) (fun x h => by rw [← hr]; exact h) hv d (kk H locs ls hls hP hD hS)
/-- a field is written -/
theorem go_put (X : cx_ G ad cc own fr lo n) {ref C : String} {T : u_T} {N ci index a : Nat} (hin : ∀ w ∈ u_ws C T N, w ∈ wS) (ty0 : Nat → FieldType) (hty : ∀ k, k < N → parseFieldDescriptor (T k).2.2.1 = some (ty0 k)) (hnm : ∀ a, a < N → ∀ b, b < N → a ≠ b → (T a).2.1 ≠ (T b).2.1) (q0 : Nat) {fs : List Value} (he : ws[q0]? = some (a, .inr (ci, fs))) (hc : vwCl[ci]? = some (C, T, N)) (k : Nat) (hk : k < N) (hl : Cond.fieldLink own index ref (T k).2.1 (T k).2.2.1 ∈ wS) (hr : (T k).1 = ref) (hfin : (T k).2.2.2 = false) {ty : FieldType} {v : Value} (hd : parseFieldDescriptor (T k).2.2.1 = some ty) (hn : narrow ty v = v) (hfit : fits ty v = true) (hlen : k < fs.length) (e : ws.set q0 (a, .inr (ci, fs.set k v)) = ws') (d : decode cc pc = .ok (.putfield index, 3))
    (kk : go_ G cells slots ws' (pc + 3) lc rest) : go_ G cells slots ws pc lc (v :: .ref a :: rest) := fun H locs ls hls hP hD hS => va_put (cx_x X) (cx_b X) (cx_w X) hin ty0 hty hnm (cx_o X) (cx_K X) hP hD hS q0 he hc k hk (cx_w X _ hl) (fun x h => by rw [← hr]; exact h) hfin hd hn hfit hlen d (fun H1 locs1 hP1 hD1 hS1 => kk H1 locs1 ls hls (e ▸ hP1) (e ▸ hD1) hS1)
/-- an int[] is read, written -/
theorem go_iald (X : cx_ G ad cc own fr lo n) {a N : Nat} {f : Nat → Int32} (q0 : Nat) (ha : ws[q0]? = some (a, .inl (ad 99, N, .inl f))) {i : Int32} (hin : vp_in i N) (d : decode cc pc = .ok (.iaload, 1))
    (kk : go_ G cells slots ws (pc + 1) lc (.int (f i.toNatClampNeg) :: rest)) : go_ G cells slots ws pc lc (.int i :: .ref a :: rest) := fun H locs ls hls hP hD hS => va_iald (cx_x X) (cx_b X) (cx_K X) hP q0 0 ha rfl hin d (kk H locs ls hls hP hD hS)
theorem go_iast (X : cx_ G ad cc own fr lo n) {a N : Nat} {f : Nat → Int32} (q0 : Nat) (ha : ws[q0]? = some (a, .inl (ad 99, N, .inl f))) {i x : Int32} (hin : vp_in i N) (e : ws.set q0 (a, .inl (ad 99, N, .inl (upd f i.toNatClampNeg x))) = ws') (d : decode cc pc = .ok (.iastore, 1))
    (kk : go_ G cells slots ws' (pc + 1) lc rest) : go_ G cells slots ws pc lc (.int x :: .int i :: .ref a :: rest) := fun H locs ls hls hP hD hS => va_iast (cx_x X) (cx_b X) (cx_K X) hP hD hS q0 0 ha rfl hin d (fun H1 locs1 hP1 hD1 hS1 => kk H1 locs1 ls hls (e ▸ hP1) (e ▸ hD1) hS1)
theorem go_alen (X : cx_ G ad cc own fr lo n) {a N : Nat} {f : Nat → Int32} (q0 : Nat) (ha : ws[q0]? = some (a, .inl (ad 99, N, .inl f))) {v : Int32} (hv : Int32.ofNat N = v) (d : decode cc pc = .ok (.arraylength, 1))
    (kk : go_ G cells slots ws (pc + 1) lc (.int v :: rest)) : go_ G cells slots ws pc lc (.ref a :: rest) := fun H locs ls hls hP hD hS => va_alen (cx_x X) (cx_b X) (cx_K X) hP q0 0 ha rfl hv d (kk H locs ls hls hP hD hS)
/-- the table HEAD -/
theorem go_head (X : cx_ G ad cc own fr lo n) {index : Nat} (hl : Cond.fieldLink own index "CartridgeDesk$Cartridge" "HEAD" "[I" ∈ wS) (d : decode cc pc = .ok (.getstatic index, 3))
    (kk : go_ G cells slots ws (pc + 3) lc (.ref (ad 97) :: rest)) : go_ G cells slots ws pc lc rest := fun H locs ls hls hP hD hS => va_gets (cx_x X) (cx_b X) (cx_F X).1 hS (cx_o X) (cx_w X _ hl) (fun _ h => h) d (kk H locs ls hls hP hD hS)
theorem go_hald (X : cx_ G ad cc own fr lo n) {i : Int32} (hin : vp_in i 32) (d : decode cc pc = .ok (.iaload, 1))
    (kk : go_ G cells slots ws (pc + 1) lc (.int (hd_ i.toNatClampNeg) :: rest)) : go_ G cells slots ws pc lc (.int i :: .ref (ad 97) :: rest) := fun H locs ls hls hP hD hS => va_ti (cx_x X) (cx_b X) (cx_F X).2.1 hS hin rfl d (kk H locs ls hls hP hD hS)
theorem go_ldc (X : cx_ G ad cc own fr lo n) {index : Nat} {v : Int32} (hl : Cond.constant own index v ∈ wS) (d : decode cc pc = .ok (.ldc index, 2))
    (kk : go_ G cells slots ws (pc + 2) lc (.int v :: rest)) : go_ G cells slots ws pc lc rest := fun H locs ls hls hP hD hS => lv_ldc (cx_x X) (cx_b X) (cx_o X) (cx_w X _ hl) d (kk H locs ls hls hP hD hS)
/-- Math.min -/
theorem go_mmin (X : cx_ G ad cc own fr lo n) {index : Nat} (hl : Cond.methodLink own index Lib.Math.min.name ∈ wS) (hs : Cond.static Lib.Math.min.name ∈ wS) (hi : Cond.initialized "java/lang/Math" ∈ wS) (hc : Cond.code Lib.Math.min.name Lib.Math.min.code 2 (some .int) ∈ wS) (hfr : 1 ≤ fr) (hlo : (rest.map fun v => v.category).sum + 13 ≤ lo) (hcs : cells ≤ (gR_ G).cells ∧ slots ≤ (gR_ G).slots) {x y : Int32} (d : decode cc pc = .ok (.invokestatic index, 3))
    (kk : go_ G cells slots ws (pc + 3) lc (.int (if y < x then y else x) :: rest)) : go_ G cells slots ws pc lc (.int y :: .int x :: rest) := fun H locs ls hls hP hD hS => va_mmin (cx_x X) (cx_b X) ((cx_m X).trans (hls.1.trans (cx_n X)).symm) (cx_o X) (cx_w X _ hl) (cx_w X _ hs) (cx_w X _ hi) (cx_w X _ hc) (Nat.le_trans hfr (cx_f X)) (Nat.le_trans hlo (cx_l X)) hcs.1 hcs.2 d (kk H locs ls hls hP hD hS)
/-- a value gets a name -/
theorem go_nm {x : Int32} (k : ∀ y : Int32, y = x → go_ G cells slots ws pc lc (.int y :: rest)) : go_ G cells slots ws pc lc (.int x :: rest) := k x rfl
end GoA
