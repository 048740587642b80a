/-! A METHOD'S WALK: G says that from this place of the walk, with this state, the method comes to an end with 'post' -/
abbrev Cx : Type := Program × Launch × Env × Room × State × MethodId × Array Value × List Frame × Method × Code
def Wd (D : Dt) (σ : Sg) (U : State) : Prop := va_P D.1 cls (wld D σ) U.heap ∧ D.2.2.2.WarmedH U.vm ∧ D.2.2.2.heap.size ≤ U.heap.size ∧ ∀ q, q < D.2.2.2.heap.size → U.heap[q]? = D.2.2.2.heap[q]?
def Qk (D : Dt) (post : Option Value → Sg → Prop) : Array Value → State → Outcome → State → Prop := fun _ st o t => (∃ r u, o = .returned r ∧ post r u ∧ Wd D u t) ∧ va_F (Ab D) st t
def Qp (X : Cx) (D : Dt) (post : Option Value → Sg → Prop) : State → Prop := MQ X.2.2.2.2.2.2.2.1 (Qk D post) X.2.2.2.2.2.2.1 X.2.2.2.2.1 0 0 (Ab D)
def G (X : Cx) (D : Dt) (Q : State → Prop) (z : Nat × Nat) (σ : Sg) (pc : Nat) (L : Lc) (st : List Value) : Prop :=
  ∀ (H : Heap) (locs : List Loc) (ls : Array Slot), va_P D.1 cls (wld D σ) H → va_S (Ab D) X.2.2.2.2.1.heap H locs → Lh ls X.2.2.2.2.2.2.2.2.2.maxLocals L →
    W X.1 X.2.1 X.2.2.1 X.2.2.2.1 X.2.2.2.2.1 X.2.2.2.2.2.1 X.2.2.2.2.2.2.1 X.2.2.2.2.2.2.2.1 X.2.2.2.2.2.2.2.2.1 X.2.2.2.2.2.2.2.2.2 H locs z.1 z.2 Q (F0 X.2.2.2.2.2.1 pc ls st)
def rmk (d : Nat) : Room := { frames := d, cells := 0, slots := 0, locals := 60 * d }
/-- what holds all along a walk -/
def Fx (X : Cx) (D : Dt) (own : String) (cc : ByteArray) (nL d : Nat) (ret : Option FieldType) : Prop :=
  X.1.tables.exec = Jvm.exec ∧ X.2.2.2.2.2.2.2.2.2.code = cc ∧ X.2.2.2.2.1.vm.findClass own = some X.2.2.2.2.2.1.cls ∧ D.2.2.2.WarmedH X.2.2.2.2.1.vm ∧ OkD D ∧ (d ≤ X.2.2.2.1.frames ∧ 60 * d ≤ X.2.2.2.1.locals) ∧ X.2.2.2.2.2.2.2.2.1.sig.returnType = ret ∧ X.2.2.2.2.2.2.2.2.1.locks = false ∧ X.2.2.2.2.2.2.2.2.2.maxLocals = nL ∧ D.2.2.2.heap.size ≤ X.2.2.2.2.1.heap.size ∧ ∀ q, q < D.2.2.2.heap.size → X.2.2.2.2.1.heap[q]? = D.2.2.2.heap[q]?
section GR
variable {X : Cx} {D : Dt} {Q : State → Prop} {z : Nat × Nat} {σ : Sg} {pc : Nat} {L : Lc} {st : List Value} {own : String} {cc : ByteArray} {nL d : Nat} {ret : Option FieldType}
theorem Fx.ex (C : Fx X D own cc nL d ret) : X.1.tables.exec = Jvm.exec := C.1
theorem Fx.bt (C : Fx X D own cc nL d ret) : X.2.2.2.2.2.2.2.2.2.code = cc := C.2.1
theorem Fx.ow (C : Fx X D own cc nL d ret) : X.2.2.2.2.1.vm.findClass own = some X.2.2.2.2.2.1.cls := C.2.2.1
theorem Fx.wa (C : Fx X D own cc nL d ret) : D.2.2.2.WarmedH X.2.2.2.2.1.vm := C.2.2.2.1
theorem Fx.ok (C : Fx X D own cc nL d ret) : OkD D := C.2.2.2.2.1
theorem Fx.ts (C : Fx X D own cc nL d ret) : ∀ w ∈ UNI, w.before X.2.2.2.2.2.2.1 X.2.2.2.2.1 = true := C.ok.ts C.wa _
theorem Fx.kk (C : Fx X D own cc nL d ret) : va_K D.1 cls (tys D) X.2.2.2.2.1 := va_K.moved C.wa.alike C.ok.2.2.1
theorem Fx.rm (C : Fx X D own cc nL d ret) : d ≤ X.2.2.2.1.frames ∧ 60 * d ≤ X.2.2.2.1.locals := C.2.2.2.2.2.1
theorem Fx.rt (C : Fx X D own cc nL d ret) : X.2.2.2.2.2.2.2.2.1.sig.returnType = ret := C.2.2.2.2.2.2.1
theorem Fx.lo (C : Fx X D own cc nL d ret) : X.2.2.2.2.2.2.2.2.1.locks = false := C.2.2.2.2.2.2.2.1
theorem Fx.ml (C : Fx X D own cc nL d ret) : X.2.2.2.2.2.2.2.2.2.maxLocals = nL := C.2.2.2.2.2.2.2.2.1
theorem Fx.sz (C : Fx X D own cc nL d ret) : D.2.2.2.heap.size ≤ X.2.2.2.2.1.heap.size := C.2.2.2.2.2.2.2.2.2.1
theorem Fx.lw (C : Fx X D own cc nL d ret) : ∀ q, q < D.2.2.2.heap.size → X.2.2.2.2.1.heap[q]? = D.2.2.2.heap[q]? := C.2.2.2.2.2.2.2.2.2.2
theorem G.lc {L' : Lc} (hs : sub L L') (kk : G X D Q z σ pc L' st) : G X D Q z σ pc L st := fun H locs ls hP hS hL => kk H locs ls hP hS (hL.sub hs)
theorem G.eq {pc' : Nat} {σ' : Sg} {st' : List Value} (h1 : σ = σ') (h2 : st = st') (h3 : pc = pc') (kk : G X D Q z σ' pc' L st') : G X D Q z σ pc L st := by subst h1; subst h2; subst h3; exact kk
theorem G.sg {σ' : Sg} (h1 : σ = σ') (kk : G X D Q z σ' pc L st) : G X D Q z σ pc L st := by subst h1; exact kk
theorem g_iconst (C : Fx X D own cc nL d ret) {n : Int} {v : Int32} (hd : decode cc pc = .ok (.iconst n, 1)) (hv : Int32.ofInt n = v)
    (kk : G X D Q z σ (pc + 1) L (.int v :: st)) : G X D Q z σ pc L (st) := fun H locs ls hP hS hL => lv_iconst C.ex C.bt hd hv (kk H locs ls hP hS hL)
theorem g_bipush (C : Fx X D own cc nL d ret) {n : Int} {v : Int32} (hd : decode cc pc = .ok (.bipush n, 2)) (hv : (Int8.ofInt n).toInt32 = v)
    (kk : G X D Q z σ (pc + 2) L (.int v :: st)) : G X D Q z σ pc L (st) := fun H locs ls hP hS hL => lv_bipush C.ex C.bt hd hv (kk H locs ls hP hS hL)
theorem g_sipush (C : Fx X D own cc nL d ret) {n : Int} {v : Int32} (hd : decode cc pc = .ok (.sipush n, 3)) (hv : (Int16.ofInt n).toInt32 = v)
    (kk : G X D Q z σ (pc + 3) L (.int v :: st)) : G X D Q z σ pc L (st) := fun H locs ls hP hS hL => lv_sipush C.ex C.bt hd hv (kk H locs ls hP hS hL)
theorem g_lconst (C : Fx X D own cc nL d ret) {n : Fin 2} {v : Int64} (hd : decode cc pc = .ok (.lconst n, 1)) (hv : Int64.ofNat (n : Nat) = v)
    (kk : G X D Q z σ (pc + 1) L (.long v :: st)) : G X D Q z σ pc L (st) := fun H locs ls hP hS hL => lv_lconst C.ex C.bt hd hv (kk H locs ls hP hS hL)
theorem g_ldc (C : Fx X D own cc nL d ret) {index : Nat} {v : Int32} (hc : Cond.constant own index v ∈ UNI) (hd : decode cc pc = .ok (.ldc index, 2))
    (kk : G X D Q z σ (pc + 2) L (.int v :: st)) : G X D Q z σ pc L (st) := fun H locs ls hP hS hL => lv_ldc C.ex C.bt C.ow (C.ts _ hc) hd (kk H locs ls hP hS hL)
theorem g_ldc2 (C : Fx X D own cc nL d ret) {index : Nat} {v : Int64} (hc : Cond.constantLong own index v ∈ UNI) (hd : decode cc pc = .ok (.ldc2_w index, 3))
    (kk : G X D Q z σ (pc + 3) L (.long v :: st)) : G X D Q z σ pc L (st) := fun H locs ls hP hS hL => lv_ldc2 C.ex C.bt C.ow (C.ts _ hc) hd (kk H locs ls hP hS hL)
theorem g_iload_n (C : Fx X D own cc nL d ret) {k : Fin 4} {i : Nat} {x : Int32} (hd : decode cc pc = .ok (.iload_n k, 1)) (hi : (k : Nat) = i) (hl : lk L i = some (.int x))
    (kk : G X D Q z σ (pc + 1) L (.int x :: st)) : G X D Q z σ pc L (st) := fun H locs ls hP hS hL => lv_iload_n C.ex C.bt hd hi (hL.2.2 _ _ hl) (kk H locs ls hP hS hL)
theorem g_iload (C : Fx X D own cc nL d ret) {i : Nat} {x : Int32} (hd : decode cc pc = .ok (.iload i, 2)) (hl : lk L i = some (.int x))
    (kk : G X D Q z σ (pc + 2) L (.int x :: st)) : G X D Q z σ pc L (st) := fun H locs ls hP hS hL => lv_iload C.ex C.bt hd (hL.2.2 _ _ hl) (kk H locs ls hP hS hL)
theorem g_lload_n (C : Fx X D own cc nL d ret) {k : Fin 4} {i : Nat} {x : Int64} (hd : decode cc pc = .ok (.lload_n k, 1)) (hi : (k : Nat) = i) (hl : lk L i = some (.long x))
    (kk : G X D Q z σ (pc + 1) L (.long x :: st)) : G X D Q z σ pc L (st) := fun H locs ls hP hS hL => lv_lload_n C.ex C.bt hd hi (hL.2.2 _ _ hl) (kk H locs ls hP hS hL)
theorem g_lload (C : Fx X D own cc nL d ret) {i : Nat} {x : Int64} (hd : decode cc pc = .ok (.lload i, 2)) (hl : lk L i = some (.long x))
    (kk : G X D Q z σ (pc + 2) L (.long x :: st)) : G X D Q z σ pc L (st) := fun H locs ls hP hS hL => lv_lload C.ex C.bt hd (hL.2.2 _ _ hl) (kk H locs ls hP hS hL)
theorem g_aload_n (C : Fx X D own cc nL d ret) {k : Fin 4} {i : Nat} {x : Nat} (hd : decode cc pc = .ok (.aload_n k, 1)) (hi : (k : Nat) = i) (hl : lk L i = some (.ref x))
    (kk : G X D Q z σ (pc + 1) L (.ref x :: st)) : G X D Q z σ pc L (st) := fun H locs ls hP hS hL => lv_aload_n C.ex C.bt hd hi (hL.2.2 _ _ hl) (kk H locs ls hP hS hL)
theorem g_aload (C : Fx X D own cc nL d ret) {i : Nat} {x : Nat} (hd : decode cc pc = .ok (.aload i, 2)) (hl : lk L i = some (.ref x))
    (kk : G X D Q z σ (pc + 2) L (.ref x :: st)) : G X D Q z σ pc L (st) := fun H locs ls hP hS hL => lv_aload C.ex C.bt hd (hL.2.2 _ _ hl) (kk H locs ls hP hS hL)
theorem g_istore_n (C : Fx X D own cc nL d ret) {k : Fin 4} {i : Nat} {x : Int32} (hd : decode cc pc = .ok (.istore_n k, 1)) (hi : (k : Nat) = i) (hn : i < nL) (hk : kl L i = true)
    (kk : G X D Q z σ (pc + 1) ((i, some (.int x)) :: L) (st)) : G X D Q z σ pc L (.int x :: st) := fun H locs ls hP hS hL => lv_istore_n C.ex C.bt hd hi hL.has (by rw [C.ml]; exact hn) rfl (fun ls2 h2 => kk H locs ls2 hP hS (hL.st1 hk h2))
theorem g_istore (C : Fx X D own cc nL d ret) {i : Nat} {x : Int32} (hd : decode cc pc = .ok (.istore i, 2)) (hn : i < nL) (hk : kl L i = true)
    (kk : G X D Q z σ (pc + 2) ((i, some (.int x)) :: L) (st)) : G X D Q z σ pc L (.int x :: st) := fun H locs ls hP hS hL => lv_istore C.ex C.bt hd hL.has (by rw [C.ml]; exact hn) rfl (fun ls2 h2 => kk H locs ls2 hP hS (hL.st1 hk h2))
theorem g_astore_n (C : Fx X D own cc nL d ret) {k : Fin 4} {i : Nat} {x : Nat} (hd : decode cc pc = .ok (.astore_n k, 1)) (hi : (k : Nat) = i) (hn : i < nL) (hk : kl L i = true)
    (kk : G X D Q z σ (pc + 1) ((i, some (.ref x)) :: L) (st)) : G X D Q z σ pc L (.ref x :: st) := fun H locs ls hP hS hL => lv_astore_n C.ex C.bt hd hi hL.has (by rw [C.ml]; exact hn) rfl (fun ls2 h2 => kk H locs ls2 hP hS (hL.st1 hk h2))
theorem g_astore (C : Fx X D own cc nL d ret) {i : Nat} {x : Nat} (hd : decode cc pc = .ok (.astore i, 2)) (hn : i < nL) (hk : kl L i = true)
    (kk : G X D Q z σ (pc + 2) ((i, some (.ref x)) :: L) (st)) : G X D Q z σ pc L (.ref x :: st) := fun H locs ls hP hS hL => lv_astore C.ex C.bt hd hL.has (by rw [C.ml]; exact hn) rfl (fun ls2 h2 => kk H locs ls2 hP hS (hL.st1 hk h2))
theorem g_lstore_n (C : Fx X D own cc nL d ret) {k : Fin 4} {i : Nat} {x : Int64} (hd : decode cc pc = .ok (.lstore_n k, 1)) (hi : (k : Nat) = i) (hn : i + 1 < nL) (hk : kl L i = true)
    (kk : G X D Q z σ (pc + 1) ((i, some (.long x)) :: (i + 1, none) :: L) (st)) : G X D Q z σ pc L (.long x :: st) := fun H locs ls hP hS hL => lv_lstore_n C.ex C.bt hd hi hL.has (by rw [C.ml]; exact hn) rfl (fun ls2 h2 => kk H locs ls2 hP hS (hL.st2 hk h2))
theorem g_lstore (C : Fx X D own cc nL d ret) {i : Nat} {x : Int64} (hd : decode cc pc = .ok (.lstore i, 2)) (hn : i + 1 < nL) (hk : kl L i = true)
    (kk : G X D Q z σ (pc + 2) ((i, some (.long x)) :: (i + 1, none) :: L) (st)) : G X D Q z σ pc L (.long x :: st) := fun H locs ls hP hS hL => lv_lstore C.ex C.bt hd hL.has (by rw [C.ml]; exact hn) rfl (fun ls2 h2 => kk H locs ls2 hP hS (hL.st2 hk h2))
theorem g_iinc (C : Fx X D own cc nL d ret) {i : Nat} {n : Int} {x v : Int32} (hd : decode cc pc = .ok (.iinc i n, 3)) (hl : lk L i = some (.int x)) (hv : x + Int32.ofInt n = v) (hk : kl L i = true)
    (kk : G X D Q z σ (pc + 3) ((i, some (.int v)) :: L) st) : G X D Q z σ pc L st := by
  intro H locs ls hP hS hL
  obtain ⟨k, hk2⟩ := List.getElem?_of_mem (toL_in (n := X.2.2.2.2.2.2.2.2.2.maxLocals) (hL.lt hl) hl)
  exact lv_iinc C.ex C.bt hd hL.has hk2 hv (hL.lt hl) rfl (fun ls2 h2 => kk H locs ls2 hP hS (hL.st1 hk h2))
theorem g_iadd (C : Fx X D own cc nL d ret) {x y : Int32} (hd : decode cc pc = .ok (.iadd, 1))
    (kk : G X D Q z σ (pc + 1) L (.int (x + y) :: st)) : G X D Q z σ pc L (.int y :: .int x :: st) := fun H locs ls hP hS hL => lv_iadd C.ex C.bt hd (kk H locs ls hP hS hL)
theorem g_isub (C : Fx X D own cc nL d ret) {x y : Int32} (hd : decode cc pc = .ok (.isub, 1))
    (kk : G X D Q z σ (pc + 1) L (.int (x - y) :: st)) : G X D Q z σ pc L (.int y :: .int x :: st) := fun H locs ls hP hS hL => lv_isub C.ex C.bt hd (kk H locs ls hP hS hL)
theorem g_imul (C : Fx X D own cc nL d ret) {x y : Int32} (hd : decode cc pc = .ok (.imul, 1))
    (kk : G X D Q z σ (pc + 1) L (.int (x * y) :: st)) : G X D Q z σ pc L (.int y :: .int x :: st) := fun H locs ls hP hS hL => lv_imul C.ex C.bt hd (kk H locs ls hP hS hL)
theorem g_iand (C : Fx X D own cc nL d ret) {x y : Int32} (hd : decode cc pc = .ok (.iand, 1))
    (kk : G X D Q z σ (pc + 1) L (.int (x &&& y) :: st)) : G X D Q z σ pc L (.int y :: .int x :: st) := fun H locs ls hP hS hL => lv_iand C.ex C.bt hd (kk H locs ls hP hS hL)
theorem g_ior (C : Fx X D own cc nL d ret) {x y : Int32} (hd : decode cc pc = .ok (.ior, 1))
    (kk : G X D Q z σ (pc + 1) L (.int (x ||| y) :: st)) : G X D Q z σ pc L (.int y :: .int x :: st) := fun H locs ls hP hS hL => lv_ior C.ex C.bt hd (kk H locs ls hP hS hL)
theorem g_ixor (C : Fx X D own cc nL d ret) {x y : Int32} (hd : decode cc pc = .ok (.ixor, 1))
    (kk : G X D Q z σ (pc + 1) L (.int (x ^^^ y) :: st)) : G X D Q z σ pc L (.int y :: .int x :: st) := fun H locs ls hP hS hL => lv_ixor C.ex C.bt hd (kk H locs ls hP hS hL)
theorem g_ishl (C : Fx X D own cc nL d ret) {x y : Int32} (hd : decode cc pc = .ok (.ishl, 1))
    (kk : G X D Q z σ (pc + 1) L (.int (x <<< (y &&& 31)) :: st)) : G X D Q z σ pc L (.int y :: .int x :: st) := fun H locs ls hP hS hL => lv_ishl C.ex C.bt hd (kk H locs ls hP hS hL)
theorem g_ishr (C : Fx X D own cc nL d ret) {x y : Int32} (hd : decode cc pc = .ok (.ishr, 1))
    (kk : G X D Q z σ (pc + 1) L (.int (x >>> (y &&& 31)) :: st)) : G X D Q z σ pc L (.int y :: .int x :: st) := fun H locs ls hP hS hL => lv_ishr C.ex C.bt hd (kk H locs ls hP hS hL)
theorem g_irem (C : Fx X D own cc nL d ret) {x y : Int32} (hd : decode cc pc = .ok (.irem, 1)) (hne : ¬ y = 0)
    (kk : G X D Q z σ (pc + 1) L (.int (x - x / y * y) :: st)) : G X D Q z σ pc L (.int y :: .int x :: st) := fun H locs ls hP hS hL => lv_irem C.ex C.bt hd hne (kk H locs ls hP hS hL)
theorem g_ladd (C : Fx X D own cc nL d ret) {x y : Int64} (hd : decode cc pc = .ok (.ladd, 1))
    (kk : G X D Q z σ (pc + 1) L (.long (x + y) :: st)) : G X D Q z σ pc L (.long y :: .long x :: st) := fun H locs ls hP hS hL => lv_ladd C.ex C.bt hd (kk H locs ls hP hS hL)
theorem g_lsub (C : Fx X D own cc nL d ret) {x y : Int64} (hd : decode cc pc = .ok (.lsub, 1))
    (kk : G X D Q z σ (pc + 1) L (.long (x - y) :: st)) : G X D Q z σ pc L (.long y :: .long x :: st) := fun H locs ls hP hS hL => lv_lsub C.ex C.bt hd (kk H locs ls hP hS hL)
theorem g_lmul (C : Fx X D own cc nL d ret) {x y : Int64} (hd : decode cc pc = .ok (.lmul, 1))
    (kk : G X D Q z σ (pc + 1) L (.long (x * y) :: st)) : G X D Q z σ pc L (.long y :: .long x :: st) := fun H locs ls hP hS hL => lv_lmul C.ex C.bt hd (kk H locs ls hP hS hL)
theorem g_land (C : Fx X D own cc nL d ret) {x y : Int64} (hd : decode cc pc = .ok (.land, 1))
    (kk : G X D Q z σ (pc + 1) L (.long (x &&& y) :: st)) : G X D Q z σ pc L (.long y :: .long x :: st) := fun H locs ls hP hS hL => lv_land C.ex C.bt hd (kk H locs ls hP hS hL)
theorem g_lor (C : Fx X D own cc nL d ret) {x y : Int64} (hd : decode cc pc = .ok (.lor, 1))
    (kk : G X D Q z σ (pc + 1) L (.long (x ||| y) :: st)) : G X D Q z σ pc L (.long y :: .long x :: st) := fun H locs ls hP hS hL => lv_lor C.ex C.bt hd (kk H locs ls hP hS hL)
theorem g_lxor (C : Fx X D own cc nL d ret) {x y : Int64} (hd : decode cc pc = .ok (.lxor, 1))
    (kk : G X D Q z σ (pc + 1) L (.long (x ^^^ y) :: st)) : G X D Q z σ pc L (.long y :: .long x :: st) := fun H locs ls hP hS hL => lv_lxor C.ex C.bt hd (kk H locs ls hP hS hL)
theorem g_lushr (C : Fx X D own cc nL d ret) {x : Int64} {y : Int32} (hd : decode cc pc = .ok (.lushr, 1))
    (kk : G X D Q z σ (pc + 1) L (.long (x.toUInt64 >>> (y.toInt64.toUInt64 &&& Int64.toUInt64 63)).toInt64 :: st)) : G X D Q z σ pc L (.int y :: .long x :: st) := fun H locs ls hP hS hL => lv_lushr C.ex C.bt hd rfl (kk H locs ls hP hS hL)
theorem g_lshl (C : Fx X D own cc nL d ret) {x : Int64} {y : Int32} (hd : decode cc pc = .ok (.lshl, 1))
    (kk : G X D Q z σ (pc + 1) L (.long (x <<< (y.toInt64 &&& 63)) :: st)) : G X D Q z σ pc L (.int y :: .long x :: st) := fun H locs ls hP hS hL => lv_lshl C.ex C.bt hd rfl (kk H locs ls hP hS hL)
theorem g_iushr (C : Fx X D own cc nL d ret) {x y : Int32} (hd : decode cc pc = .ok (.iushr, 1))
    (kk : G X D Q z σ (pc + 1) L (.int (x.toUInt32 >>> (y.toUInt32 &&& Int32.toUInt32 31)).toInt32 :: st)) : G X D Q z σ pc L (.int y :: .int x :: st) := fun H locs ls hP hS hL => lv_iushr C.ex C.bt hd rfl (kk H locs ls hP hS hL)
theorem g_i2l (C : Fx X D own cc nL d ret) {x : Int32} (hd : decode cc pc = .ok (.i2l, 1))
    (kk : G X D Q z σ (pc + 1) L (.long x.toInt64 :: st)) : G X D Q z σ pc L (.int x :: st) := fun H locs ls hP hS hL => lv_i2l C.ex C.bt hd rfl (kk H locs ls hP hS hL)
theorem g_l2i (C : Fx X D own cc nL d ret) {x : Int64} (hd : decode cc pc = .ok (.l2i, 1))
    (kk : G X D Q z σ (pc + 1) L (.int x.toInt32 :: st)) : G X D Q z σ pc L (.long x :: st) := fun H locs ls hP hS hL => lv_l2i C.ex C.bt hd rfl (kk H locs ls hP hS hL)
theorem g_lcmp (C : Fx X D own cc nL d ret) {x y : Int64} (hd : decode cc pc = .ok (.lcmp, 1))
    (kk : G X D Q z σ (pc + 1) L (.int (lg_cmp x y) :: st)) : G X D Q z σ pc L (.long y :: .long x :: st) := fun H locs ls hP hS hL => W.lcmp C.ex C.bt hd (kk H locs ls hP hS hL)
theorem g_dup (C : Fx X D own cc nL d ret) {va : Value} (hd : decode cc pc = .ok (.dup, 1)) (hc : va.category = 1)
    (kk : G X D Q z σ (pc + 1) L (va :: va :: st)) : G X D Q z σ pc L (va :: st) := fun H locs ls hP hS hL => lv_dup C.ex C.bt hd hc (kk H locs ls hP hS hL)
theorem g_pop (C : Fx X D own cc nL d ret) {va : Value} (hd : decode cc pc = .ok (.pop, 1)) (hc : va.category = 1)
    (kk : G X D Q z σ (pc + 1) L (st)) : G X D Q z σ pc L (va :: st) := fun H locs ls hP hS hL => lv_pop C.ex C.bt hd hc (kk H locs ls hP hS hL)
theorem g_dup_x1 (C : Fx X D own cc nL d ret) {va vb : Value} (hd : decode cc pc = .ok (.dup_x1, 1)) (hc : va.category = 1) (hc2 : vb.category = 1)
    (kk : G X D Q z σ (pc + 1) L (va :: vb :: va :: st)) : G X D Q z σ pc L (va :: vb :: st) := fun H locs ls hP hS hL => lv_dup_x1 C.ex C.bt hd hc hc2 (kk H locs ls hP hS hL)
theorem g_dup2 (C : Fx X D own cc nL d ret) {va vb : Value} (hd : decode cc pc = .ok (.dup2, 1)) (hc : va.category = 1) (hc2 : vb.category = 1)
    (kk : G X D Q z σ (pc + 1) L (va :: vb :: va :: vb :: st)) : G X D Q z σ pc L (va :: vb :: st) := fun H locs ls hP hS hL => lv_dup2_11 C.ex C.bt hd hc hc2 (kk H locs ls hP hS hL)
theorem g_icmp_eq (C : Fx X D own cc nL d ret) {x y : Int32} {off : Int} {tgt : Nat} (hd : decode cc pc = .ok (.if_icmp .eq off, 3)) (ht : (pc : Int) + off = (tgt : Int))
    (kt : x = y → G X D Q z σ tgt L st) (kf : ¬ x = y → G X D Q z σ (pc + 3) L st) : G X D Q z σ pc L (.int y :: .int x :: st) := fun H locs ls hP hS hL => lv_icmp_eq C.ex C.bt hd ht (fun h => kt h H locs ls hP hS hL) (fun h => kf h H locs ls hP hS hL)
theorem g_if_eq (C : Fx X D own cc nL d ret) {x : Int32} {off : Int} {tgt : Nat} (hd : decode cc pc = .ok (.ifCond .eq off, 3)) (ht : (pc : Int) + off = (tgt : Int))
    (kt : x = 0 → G X D Q z σ tgt L st) (kf : ¬ x = 0 → G X D Q z σ (pc + 3) L st) : G X D Q z σ pc L (.int x :: st) := fun H locs ls hP hS hL => lv_if_eq C.ex C.bt hd ht (fun h => kt h H locs ls hP hS hL) (fun h => kf h H locs ls hP hS hL)
theorem g_icmp_ne (C : Fx X D own cc nL d ret) {x y : Int32} {off : Int} {tgt : Nat} (hd : decode cc pc = .ok (.if_icmp .ne off, 3)) (ht : (pc : Int) + off = (tgt : Int))
    (kt : ¬ x = y → G X D Q z σ tgt L st) (kf : x = y → G X D Q z σ (pc + 3) L st) : G X D Q z σ pc L (.int y :: .int x :: st) := fun H locs ls hP hS hL => lv_icmp_ne C.ex C.bt hd ht (fun h => kt h H locs ls hP hS hL) (fun h => kf h H locs ls hP hS hL)
theorem g_if_ne (C : Fx X D own cc nL d ret) {x : Int32} {off : Int} {tgt : Nat} (hd : decode cc pc = .ok (.ifCond .ne off, 3)) (ht : (pc : Int) + off = (tgt : Int))
    (kt : ¬ x = 0 → G X D Q z σ tgt L st) (kf : x = 0 → G X D Q z σ (pc + 3) L st) : G X D Q z σ pc L (.int x :: st) := fun H locs ls hP hS hL => lv_if_ne C.ex C.bt hd ht (fun h => kt h H locs ls hP hS hL) (fun h => kf h H locs ls hP hS hL)
theorem g_icmp_lt (C : Fx X D own cc nL d ret) {x y : Int32} {off : Int} {tgt : Nat} (hd : decode cc pc = .ok (.if_icmp .lt off, 3)) (ht : (pc : Int) + off = (tgt : Int))
    (kt : x < y → G X D Q z σ tgt L st) (kf : ¬ x < y → G X D Q z σ (pc + 3) L st) : G X D Q z σ pc L (.int y :: .int x :: st) := fun H locs ls hP hS hL => lv_icmp_lt C.ex C.bt hd ht (fun h => kt h H locs ls hP hS hL) (fun h => kf h H locs ls hP hS hL)
theorem g_if_lt (C : Fx X D own cc nL d ret) {x : Int32} {off : Int} {tgt : Nat} (hd : decode cc pc = .ok (.ifCond .lt off, 3)) (ht : (pc : Int) + off = (tgt : Int))
    (kt : x < 0 → G X D Q z σ tgt L st) (kf : ¬ x < 0 → G X D Q z σ (pc + 3) L st) : G X D Q z σ pc L (.int x :: st) := fun H locs ls hP hS hL => lv_if_lt C.ex C.bt hd ht (fun h => kt h H locs ls hP hS hL) (fun h => kf h H locs ls hP hS hL)
theorem g_icmp_ge (C : Fx X D own cc nL d ret) {x y : Int32} {off : Int} {tgt : Nat} (hd : decode cc pc = .ok (.if_icmp .ge off, 3)) (ht : (pc : Int) + off = (tgt : Int))
    (kt : y ≤ x → G X D Q z σ tgt L st) (kf : ¬ y ≤ x → G X D Q z σ (pc + 3) L st) : G X D Q z σ pc L (.int y :: .int x :: st) := fun H locs ls hP hS hL => lv_icmp_ge C.ex C.bt hd ht (fun h => kt h H locs ls hP hS hL) (fun h => kf h H locs ls hP hS hL)
theorem g_if_ge (C : Fx X D own cc nL d ret) {x : Int32} {off : Int} {tgt : Nat} (hd : decode cc pc = .ok (.ifCond .ge off, 3)) (ht : (pc : Int) + off = (tgt : Int))
    (kt : 0 ≤ x → G X D Q z σ tgt L st) (kf : ¬ 0 ≤ x → G X D Q z σ (pc + 3) L st) : G X D Q z σ pc L (.int x :: st) := fun H locs ls hP hS hL => lv_if_ge C.ex C.bt hd ht (fun h => kt h H locs ls hP hS hL) (fun h => kf h H locs ls hP hS hL)
theorem g_icmp_gt (C : Fx X D own cc nL d ret) {x y : Int32} {off : Int} {tgt : Nat} (hd : decode cc pc = .ok (.if_icmp .gt off, 3)) (ht : (pc : Int) + off = (tgt : Int))
    (kt : y < x → G X D Q z σ tgt L st) (kf : ¬ y < x → G X D Q z σ (pc + 3) L st) : G X D Q z σ pc L (.int y :: .int x :: st) := fun H locs ls hP hS hL => lv_icmp_gt C.ex C.bt hd ht (fun h => kt h H locs ls hP hS hL) (fun h => kf h H locs ls hP hS hL)
theorem g_if_gt (C : Fx X D own cc nL d ret) {x : Int32} {off : Int} {tgt : Nat} (hd : decode cc pc = .ok (.ifCond .gt off, 3)) (ht : (pc : Int) + off = (tgt : Int))
    (kt : 0 < x → G X D Q z σ tgt L st) (kf : ¬ 0 < x → G X D Q z σ (pc + 3) L st) : G X D Q z σ pc L (.int x :: st) := fun H locs ls hP hS hL => lv_if_gt C.ex C.bt hd ht (fun h => kt h H locs ls hP hS hL) (fun h => kf h H locs ls hP hS hL)
theorem g_icmp_le (C : Fx X D own cc nL d ret) {x y : Int32} {off : Int} {tgt : Nat} (hd : decode cc pc = .ok (.if_icmp .le off, 3)) (ht : (pc : Int) + off = (tgt : Int))
    (kt : x ≤ y → G X D Q z σ tgt L st) (kf : ¬ x ≤ y → G X D Q z σ (pc + 3) L st) : G X D Q z σ pc L (.int y :: .int x :: st) := fun H locs ls hP hS hL => lv_icmp_le C.ex C.bt hd ht (fun h => kt h H locs ls hP hS hL) (fun h => kf h H locs ls hP hS hL)
theorem g_if_le (C : Fx X D own cc nL d ret) {x : Int32} {off : Int} {tgt : Nat} (hd : decode cc pc = .ok (.ifCond .le off, 3)) (ht : (pc : Int) + off = (tgt : Int))
    (kt : x ≤ 0 → G X D Q z σ tgt L st) (kf : ¬ x ≤ 0 → G X D Q z σ (pc + 3) L st) : G X D Q z σ pc L (.int x :: st) := fun H locs ls hP hS hL => lv_if_le C.ex C.bt hd ht (fun h => kt h H locs ls hP hS hL) (fun h => kf h H locs ls hP hS hL)
theorem g_goto (C : Fx X D own cc nL d ret) {off : Int} {tgt : Nat} (hd : decode cc pc = .ok (.goto off, 3)) (ht : (pc : Int) + off = (tgt : Int)) (kk : G X D Q z σ tgt L st) : G X D Q z σ pc L st := fun H locs ls hP hS hL => lv_goto C.ex C.bt hd ht (kk H locs ls hP hS hL)
theorem Fx.done (C : Fx X D own cc nL d ret) {post : Option Value → Sg → Prop} {H : Heap} {locs : List Loc} (hP : va_P D.1 cls (wld D σ) H) (hS : va_S (Ab D) X.2.2.2.2.1.heap H locs) {r : Option Value} (hp : post r σ) : ∀ t : State, t.heap = H → X.2.2.2.2.1.WarmedH t.vm → Qk D post X.2.2.2.2.2.2.1 X.2.2.2.2.1 (.returned r) t := by
  intro t ht hW
  refine ⟨⟨r, σ, rfl, hp, by rw [ht]; exact hP, State.WarmedH.trans C.wa hW, by rw [ht]; exact Nat.le_trans C.sz hS.1, fun q hq => ?_⟩, hS.F ht⟩
  rw [ht, hS.2.1 q (Nat.lt_of_lt_of_le hq C.sz) (Ab.lo C.ok hq)]
  exact C.lw q hq
theorem g_iret {post : Option Value → Sg → Prop} (C : Fx X D own cc nL d (some .int)) {v : Int32} (hd : decode cc pc = .ok (.ireturn, 1)) (hp : post (some (.int v)) σ) : G X D (Qp X D post) (0, 0) σ pc L [.int v] := fun H locs ls hP hS hL => W.iret C.ex C.bt C.rt (C.done hP hS hp) hS.2.2 hd C.lo
theorem bz_n {v : Int32} (h : v = 0 ∨ v = 1) : narrow .boolean (.int v) = .int v := by rcases h with rfl | rfl <;> rfl
theorem g_zret {post : Option Value → Sg → Prop} (C : Fx X D own cc nL d (some .boolean)) {v : Int32} (hd : decode cc pc = .ok (.ireturn, 1)) (hz : v = 0 ∨ v = 1) (hp : post (some (.int v)) σ) : G X D (Qp X D post) (0, 0) σ pc L [.int v] := fun H locs ls hP hS hL => W.zret C.ex C.bt C.rt (bz_n hz) (C.done hP hS hp) hS.2.2 hd C.lo
theorem g_lret {post : Option Value → Sg → Prop} (C : Fx X D own cc nL d (some .long)) {v : Int64} (hd : decode cc pc = .ok (.lreturn, 1)) (hp : post (some (.long v)) σ) : G X D (Qp X D post) (0, 0) σ pc L [.long v] := fun H locs ls hP hS hL => W.lret C.ex C.bt C.rt (C.done hP hS hp) hS.2.2 hd C.lo
theorem g_vret {post : Option Value → Sg → Prop} (C : Fx X D own cc nL d none) (hd : decode cc pc = .ok (.return_, 1)) (hp : post none σ) : G X D (Qp X D post) (0, 0) σ pc L [] := fun H locs ls hP hS hL => W.vret C.ex C.bt C.rt (C.done hP hS hp) hS.2.2 hd C.lo
theorem g_aret {post : Option Value → Sg → Prop} {n : String} (C : Fx X D own cc nL d (some (.object n))) {v : Nat} (hd : decode cc pc = .ok (.areturn, 1)) (hp : post (some (.ref v)) σ) : G X D (Qp X D post) (0, 0) σ pc L [.ref v] := fun H locs ls hP hS hL => W.aret C.ex C.bt C.rt (Or.inl ⟨_, rfl⟩) (Or.inr ⟨_, rfl⟩) (C.done hP hS hp) hS.2.2 hd C.lo
/-- a field's link, by the method's own words -/
def FL (own : String) (index : Nat) (C0 name desc : String) : Prop := Cond.fieldLink own index C0 name desc ∈ UNI ∨ ∃ host, Cond.fieldLinkNest own index C0 name desc host ∈ UNI
theorem g_get (C : Fx X D own cc nL d ret) {t ci index k : Nat} {C0 : String} {T : u_T} {N : Nat} {fs : List Value} {v : Value} (ht : t < 95) (hct : ct D σ t = .inr (ci, fs)) (hc : cls[ci]? = some (C0, T, N)) (hin : ∀ w ∈ u_ws C0 T N, w ∈ UNI) (hk : k < N) (hT : (T k).1 = C0) (hl : FL own index C0 (T k).2.1 (T k).2.2.1) (hv : fs[k]? = some v) (hd : decode cc pc = .ok (.getfield index, 3))
    (kk : G X D Q z σ (pc + 3) L (v :: st)) : G X D Q z σ pc L (.ref (ad D t) :: st) := by
  intro H locs ls hP hS hL
  rcases hl with hl | ⟨host, hl⟩
  · exact va_get C.ex C.bt C.ts hin C.ow C.kk hP t (by rw [wld_at ht, hct]) hc k hk (C.ts _ hl) (fun x hx => by rw [hT] at hx; exact hx) hv hd (kk H locs ls hP hS hL)
  · exact va_getN C.ex C.bt C.ts hin C.ow C.kk hP t (by rw [wld_at ht, hct]) hc k hk (C.ts _ hl) (fun x hx => by rw [hT] at hx; exact hx) hv hd (kk H locs ls hP hS hL)
theorem g_put (C : Fx X D own cc nL d ret) {t ci index k : Nat} {C0 : String} {T : u_T} {N : Nat} {fs : List Value} {v : Value} {σ2 : Sg} {ty : FieldType} (ty0 : Nat → FieldType) (hty : ∀ k, k < N → parseFieldDescriptor (T k).2.2.1 = some (ty0 k)) (hnm : ∀ a, a < N → ∀ b, b < N → a ≠ b → (T a).2.1 ≠ (T b).2.1) (ht : t < 95) (hct : ct D σ t = .inr (ci, fs)) (hc : cls[ci]? = some (C0, T, N)) (hin : ∀ w ∈ u_ws C0 T N, w ∈ UNI) (hk : k < N) (hT : (T k).1 = C0) (hfin : (T k).2.2.2 = false) (hdt : parseFieldDescriptor (T k).2.2.1 = some ty) (hn : narrow ty v = v) (hfit : fits ty v = true) (hlen : k < fs.length)
    (hct2 : ct D σ2 t = .inr (ci, fs.set k v)) (ho : ∀ u, u < 95 → u ≠ t → ct D σ2 u = ct D σ u) (hl : FL own index C0 (T k).2.1 (T k).2.2.1) (hd : decode cc pc = .ok (.putfield index, 3))
    (kk : G X D Q z σ2 (pc + 3) L st) : G X D Q z σ pc L (v :: .ref (ad D t) :: st) := by
  intro H locs ls hP hS hL
  rcases hl with hl | ⟨host, hl⟩
  · exact va_put C.ex C.bt C.ts hin ty0 hty hnm C.ow C.kk hP (wld_D C.ok σ) hS t (by rw [wld_at ht, hct]) hc k hk (C.ts _ hl) (fun x hx => by rw [hT] at hx; exact hx) hfin hdt hn hfit hlen hd (fun H1 locs1 hP1 _ hS1 => kk H1 locs1 ls (by rw [wld_set ht hct2 ho] at hP1; exact hP1) hS1 hL)
  · exact va_putN C.ex C.bt C.ts hin ty0 hty hnm C.ow C.kk hP (wld_D C.ok σ) hS t (by rw [wld_at ht, hct]) hc k hk (C.ts _ hl) (fun x hx => by rw [hT] at hx; exact hx) hfin hdt hn hfit hlen hd (fun H1 locs1 hP1 _ hS1 => kk H1 locs1 ls (by rw [wld_set ht hct2 ho] at hP1; exact hP1) hS1 hL)
theorem g_ial (C : Fx X D own cc nL d ret) {t n : Nat} {f : Nat → Int32} {i : Int32} (ht : t < 95) (hct : ct D σ t = .inl (D.2.2.1 0, n, .inl f)) (hi : vp_in i n) (hd : decode cc pc = .ok (.iaload, 1))
    (kk : G X D Q z σ (pc + 1) L (.int (f i.toNatClampNeg) :: st)) : G X D Q z σ pc L (.int i :: .ref (ad D t) :: st) := fun H locs ls hP hS hL => va_iald C.ex C.bt C.kk hP t 0 (by rw [wld_at ht, hct]) rfl hi hd (kk H locs ls hP hS hL)
theorem g_zal (C : Fx X D own cc nL d ret) {t n : Nat} {f : Nat → Int32} {i : Int32} (ht : t < 95) (hct : ct D σ t = .inl (D.2.2.1 2, n, .inl f)) (hi : vp_in i n) (hd : decode cc pc = .ok (.baload, 1))
    (kk : G X D Q z σ (pc + 1) L (.int (f i.toNatClampNeg) :: st)) : G X D Q z σ pc L (.int i :: .ref (ad D t) :: st) := fun H locs ls hP hS hL => va_zald C.ex C.bt C.kk hP t 2 (by rw [wld_at ht, hct]) rfl hi hd (kk H locs ls hP hS hL)
theorem g_lal (C : Fx X D own cc nL d ret) {t n : Nat} {f : Nat → Int64} {i : Int32} (ht : t < 95) (hct : ct D σ t = .inl (D.2.2.1 1, n, .inr (.inl f))) (hi : vp_in i n) (hd : decode cc pc = .ok (.laload, 1))
    (kk : G X D Q z σ (pc + 1) L (.long (f i.toNatClampNeg) :: st)) : G X D Q z σ pc L (.int i :: .ref (ad D t) :: st) := fun H locs ls hP hS hL => va_lald C.ex C.bt C.kk hP t 1 (by rw [wld_at ht, hct]) rfl hi hd (kk H locs ls hP hS hL)
theorem g_aal (C : Fx X D own cc nL d ret) {t n t0 : Nat} {C0 : String} {f : Nat → Option Nat} {i : Int32} {a : Nat} (ht : t < 95) (ht0 : (tys D)[t0]? = some (D.2.2.1 t0, .object C0)) (hct : ct D σ t = .inl (D.2.2.1 t0, n, .inr (.inr (.inr (.inr f))))) (hi : vp_in i n) (hf : f i.toNatClampNeg = some a) (hd : decode cc pc = .ok (.aaload, 1))
    (kk : G X D Q z σ (pc + 1) L (.ref a :: st)) : G X D Q z σ pc L (.int i :: .ref (ad D t) :: st) := fun H locs ls hP hS hL => va_aldq C.ex C.bt C.kk hP t t0 (by rw [wld_at ht, hct]) ht0 hi hd (by rw [hf]; exact kk H locs ls hP hS hL)
theorem g_ias (C : Fx X D own cc nL d ret) {t n : Nat} {f : Nat → Int32} {i x : Int32} {σ2 : Sg} (ht : t < 95) (hct : ct D σ t = .inl (D.2.2.1 0, n, .inl f)) (hct2 : ct D σ2 t = .inl (D.2.2.1 0, n, .inl (upd f i.toNatClampNeg x))) (ho : ∀ u, u < 95 → u ≠ t → ct D σ2 u = ct D σ u) (hi : vp_in i n) (hd : decode cc pc = .ok (.iastore, 1))
    (kk : G X D Q z σ2 (pc + 1) L st) : G X D Q z σ pc L (.int x :: .int i :: .ref (ad D t) :: st) := fun H locs ls hP hS hL => va_iast C.ex C.bt C.kk hP (wld_D C.ok σ) hS t 0 (by rw [wld_at ht, hct]) rfl hi hd (fun H1 locs1 hP1 _ hS1 => kk H1 locs1 ls (by rw [wld_set ht hct2 ho] at hP1; exact hP1) hS1 hL)
theorem g_zas (C : Fx X D own cc nL d ret) {t n : Nat} {f : Nat → Int32} {i x : Int32} {σ2 : Sg} (ht : t < 95) (hct : ct D σ t = .inl (D.2.2.1 2, n, .inl f)) (hct2 : ct D σ2 t = .inl (D.2.2.1 2, n, .inl (upd f i.toNatClampNeg (vp_nar .boolean x)))) (ho : ∀ u, u < 95 → u ≠ t → ct D σ2 u = ct D σ u) (hi : vp_in i n) (hd : decode cc pc = .ok (.bastore, 1))
    (kk : G X D Q z σ2 (pc + 1) L st) : G X D Q z σ pc L (.int x :: .int i :: .ref (ad D t) :: st) := fun H locs ls hP hS hL => va_zast C.ex C.bt C.kk hP (wld_D C.ok σ) hS t 2 (by rw [wld_at ht, hct]) rfl hi hd (fun H1 locs1 hP1 _ hS1 => kk H1 locs1 ls (by rw [wld_set ht hct2 ho] at hP1; exact hP1) hS1 hL)
theorem g_las (C : Fx X D own cc nL d ret) {t n : Nat} {f : Nat → Int64} {i : Int32} {x : Int64} {σ2 : Sg} (ht : t < 95) (hct : ct D σ t = .inl (D.2.2.1 1, n, .inr (.inl f))) (hct2 : ct D σ2 t = .inl (D.2.2.1 1, n, .inr (.inl (vp_updL f i.toNatClampNeg x)))) (ho : ∀ u, u < 95 → u ≠ t → ct D σ2 u = ct D σ u) (hi : vp_in i n) (hd : decode cc pc = .ok (.lastore, 1))
    (kk : G X D Q z σ2 (pc + 1) L st) : G X D Q z σ pc L (.long x :: .int i :: .ref (ad D t) :: st) := fun H locs ls hP hS hL => va_last C.ex C.bt C.kk hP (wld_D C.ok σ) hS t 1 (by rw [wld_at ht, hct]) rfl hi hd (fun H1 locs1 hP1 _ hS1 => kk H1 locs1 ls (by rw [wld_set ht hct2 ho] at hP1; exact hP1) hS1 hL)
theorem g_alen (C : Fx X D own cc nL d ret) {t t0 : Nat} {x : vp_A} {ty : FieldType} {cA : ClassId} {v : Int32} (ht : t < 95) (hct : ct D σ t = .inl (cA, x)) (ht0 : (tys D)[t0]? = some (cA, ty)) (hv : Int32.ofNat x.1 = v) (hd : decode cc pc = .ok (.arraylength, 1))
    (kk : G X D Q z σ (pc + 1) L (.int v :: st)) : G X D Q z σ pc L (.ref (ad D t) :: st) := fun H locs ls hP hS hL => va_alen C.ex C.bt C.kk hP t t0 (by rw [wld_at ht, hct]) ht0 hv hd (kk H locs ls hP hS hL)
end GR
/-! CONTRACTS: y, with these arguments (last first), from this state: returns r, in that state -/
def Ct (l : Launch) (D : Dt) (y : MethodName) (bytes : ByteArray) (maxL : Nat) (rty : Option FieldType) (d : Nat) (RA : List Value) (σ : Sg) (r : Option Value) (σ2 : Sg) : Prop :=
  Met l y [.code y bytes maxL rty] (rmk d) (fun v U => v = RA.reverse.toArray ∧ Wd D σ U) (Qk D (fun r2 u => r2 = r ∧ u = σ2)) 0 0 (Ab D)
theorem Wd_blind {D : Dt} {σ : Sg} {RA : List Value} : FrameBlind (fun v U => v = RA.reverse.toArray ∧ Wd D σ U) := fun _ _ _ _ h => h
theorem Ct.of {l : Launch} {D : Dt} {y : MethodName} {bytes : ByteArray} {maxL : Nat} {rty : Option FieldType} {d : Nat} {RA : List Value} {σ : Sg} {r : Option Value} {σ2 : Sg} (hD : OkD D) (hy : plainName y.cls = true) (hn : (lg_sl RA.reverse).length ≤ maxL) (L : Lc) (hL : la 0 RA.reverse = L)
    (body : ∀ X : Cx, X.2.1 = l → Fx X D y.cls bytes maxL d rty → G X D (Qp X D (fun r2 u => r2 = r ∧ u = σ2)) (0, 0) σ 0 L []) : Ct l D y bytes maxL rty d RA σ r σ2 := by
  refine Met.ofW (cc := bytes) (maxL := maxL) (ret := rty) hy rfl ?_
  intro p e s m args below meth c s₁ B hml hv
  obtain ⟨rfl, hW⟩ := hv
  have hl := lv_entry RA.reverse (n := maxL) hn
  rw [lg_entry_eq]
  refine body (p, l, e, (headSpec [.code y bytes maxL rty] (rmk d)).room, s, m, RA.reverse.toArray, below, meth, c) rfl ⟨B.exec, B.bytes, findClass_of_methodNamed B.named, hW.2.1, hD, ⟨Nat.le_refl _, Nat.le_refl _⟩, B.returns, B.notSynchronized, hml, hW.2.2.1, hW.2.2.2⟩ s.heap [] _ hW.1 va_S.rf ⟨?_, hl.2.1, fun i v hv => ?_⟩
  · show _ = c.maxLocals
    rw [hml]
    exact hl.1
  · rw [← hL] at hv
    have key : ∀ (q : List (Nat × Value)) (i : Nat) (v : Value), lk (q.map (fun q => (q.1, some q.2))) i = some v → (i, v) ∈ q := by
      intro q
      induction q with
      | nil => intro i v h; cases h
      | cons a q ih =>
        intro i v h
        rw [List.map_cons, lk_cons] at h
        split at h
        · rename_i e
          cases h
          subst e
          exact List.mem_cons_self
        · exact List.mem_cons_of_mem _ (ih i v h)
    exact hl.2.2 (i, v) (key _ i v hv)
/-- a called method's words -/
def CL (own : String) (index : Nat) (y : MethodName) : Prop := Cond.methodLink own index y ∈ UNI ∨ ∃ host, Cond.methodLinkNest own index y host ∈ UNI
def My (y : MethodName) (bytes : ByteArray) (maxL : Nat) (rty : Option FieldType) (n : Nat) : Prop := Cond.code y bytes maxL rty ∈ UNI ∧ Cond.initialized y.cls ∈ UNI ∧ (y.cls ≠ "java/lang/invoke/MethodHandle" ∧ y.cls ≠ "java/lang/invoke/VarHandle") ∧ (parseMethodDescriptor y.desc).map (fun d => d.parameters.length) = some n ∧ maxL ≤ 41
def MV (y : MethodName) : Prop := Cond.instanceMethod y ∈ UNI ∧ Cond.selects y.cls y y ∈ UNI
def MS (y : MethodName) : Prop := Cond.static y ∈ UNI
/-- the cell at b is an object of that name -/
def IsC (D : Dt) (b : Nat) (C0 : String) : Prop := ∃ t ci T N, t < 95 ∧ b = ad D t ∧ cls[ci]? = some (C0, T, N) ∧ ∀ σ, ∃ fs, ct D σ t = .inr (ci, fs)
section GC
variable {X : Cx} {D : Dt} {Q : State → Prop} {z : Nat × Nat} {σ σ2 : Sg} {pc : Nat} {L : Lc} {st : List Value} {own : String} {cc : ByteArray} {nL d d2 index n maxL : Nat} {ret rty : Option FieldType} {y : MethodName} {bytes : ByteArray} {As rest : List Value} {b : Nat} {r : Option Value}
theorem cx_room (C : Fx X D own cc nL d ret) (h : d2 + 1 ≤ d) (hm : maxL ≤ 41) : (rmk d2).frames + 1 ≤ X.2.2.2.1.frames ∧ 8 + (maxL + 11) + (rmk d2).locals ≤ X.2.2.2.1.locals := by
  have h1 := C.rm.1
  have h2 := C.rm.2
  simp only [rmk]
  omega
theorem cx_back (C : Fx X D own cc nL d ret) {H : Heap} {locs : List Loc} (hS : va_S (Ab D) X.2.2.2.2.1.heap H locs) {g : JFrame} {Qa : Array Value}
    (hr : va_Run X.1 X.2.1 X.2.2.1 X.2.2.2.1 X.2.2.2.2.1 X.2.2.2.2.2.1 X.2.2.2.2.2.2.1 X.2.2.2.2.2.2.2.1 X.2.2.2.2.2.2.2.2.1 X.2.2.2.2.2.2.2.2.2 H locs z.1 z.2 0 0 g rest (Qk D (fun r2 u => r2 = r ∧ u = σ2) Qa) (Ab D))
    (kk : ∀ (H1 : Heap) (locs1 : List Loc), va_P D.1 cls (wld D σ2) H1 → va_S (Ab D) X.2.2.2.2.1.heap H1 locs1 → W X.1 X.2.1 X.2.2.1 X.2.2.2.1 X.2.2.2.2.1 X.2.2.2.2.2.1 X.2.2.2.2.2.2.1 X.2.2.2.2.2.2.2.1 X.2.2.2.2.2.2.2.2.1 X.2.2.2.2.2.2.2.2.2 H1 locs1 z.1 z.2 Q { g with pc := g.pc + 3, stack := r.toList ++ rest }) :
    W X.1 X.2.1 X.2.2.1 X.2.2.2.1 X.2.2.2.2.1 X.2.2.2.2.2.1 X.2.2.2.2.2.2.1 X.2.2.2.2.2.2.2.1 X.2.2.2.2.2.2.2.2.1 X.2.2.2.2.2.2.2.2.2 H locs z.1 z.2 Q g := by
  intro T hT X0
  obtain ⟨v, st₀, t, T2, L2, h0, X2, hL, e1, e2, ⟨⟨r2, u, hv, ⟨rfl, rfl⟩, hb⟩, hz, hk⟩, stp⟩ := hr T hT X0
  cases hv
  rw [h0] at hz hk
  obtain ⟨t2, a1, b1⟩ := kk T2.heap (locs ++ L2) (by rw [e1]; exact hb.1) ⟨Nat.le_trans hS.1 (by rw [e1]; exact hz), fun q h1 h2 => by rw [e1, hk q (Nat.lt_of_lt_of_le h1 hS.1) h2]; exact hS.2.1 q h1 h2, fun q hq => by
      rcases List.mem_append.mp hq with h | h
      · exact hS.2.2 q h
      · exact hL q h⟩ T2 rfl X2
  exact ⟨t2, stp t2 a1, b1⟩
theorem cx_pre (C : Fx X D own cc nL d ret) {H : Heap} {locs : List Loc} (hP : va_P D.1 cls (wld D σ) H) (hS : va_S (Ab D) X.2.2.2.2.1.heap H locs) : ∀ U : State, U.heap = H → X.2.2.2.2.1.WarmedH U.vm → Wd D σ U := by
  intro U hU hW
  refine ⟨by rw [hU]; exact hP, State.WarmedH.trans C.wa hW, by rw [hU]; exact Nat.le_trans C.sz hS.1, fun q hq => ?_⟩
  rw [hU, hS.2.1 q (Nat.lt_of_lt_of_le hq C.sz) (Ab.lo C.ok hq)]
  exact C.lw q hq
theorem cx_lk {U : State} {a : Array Value} {own : String} {index : Nat} {y : MethodName} (hts : ∀ w ∈ UNI, w.before a U = true) (h : CL own index y) : (Cond.methodLink own index y).before a U = true ∨ ∃ host, (Cond.methodLinkNest own index y host).before a U = true := by
  rcases h with h | ⟨host, h⟩
  · exact Or.inl (hts _ h)
  · exact Or.inr ⟨host, hts _ h⟩
theorem rl1 {As rest : List Value} {v : Value} {g : List Value} (h : g = As ++ v :: rest) : g = (As.reverse).reverse ++ v :: rest := by rw [List.reverse_reverse]; exact h
theorem rl0 {As rest : List Value} {g : List Value} (h : g = As ++ rest) : g = (As.reverse).reverse ++ rest := by rw [List.reverse_reverse]; exact h
theorem rl2 {As : List Value} {v : Value} : (As ++ [v]).reverse = v :: As.reverse := by simp
theorem g_callV (C : Fx X D own cc nL d ret) (hm : My y bytes maxL rty n) (hv : MV y) (hl : CL own index y) (hb : IsC D b y.cls) (hd : decode cc pc = .ok (.invokevirtual index, 3)) (hd2 : d2 + 1 ≤ d) (hn : As.length = n) (hr : (rest.map fun v => v.category).sum ≤ 8) (hz : z.1 ≤ X.2.2.2.1.cells ∧ z.2 ≤ X.2.2.2.1.slots)
    (hc : Ct X.2.1 D y bytes maxL rty d2 (As ++ [.ref b]) σ r σ2) (kk : G X D Q z σ2 (pc + 3) L (r.toList ++ rest)) : G X D Q z σ pc L (As ++ .ref b :: rest) := by
  intro H locs ls hP hS hL
  obtain ⟨hcode, hini, hy, hpar, hml⟩ := hm
  obtain ⟨t, ci, T, N, ht, rfl, hci, hct⟩ := hb
  obtain ⟨fs, hfs⟩ := hct σ
  have hrec := va_recv C.kk hP hci (q0 := t) (fs := fs) (by rw [wld_at ht, hfs])
  have hall : ∀ w ∈ ([Cond.code y bytes maxL rty] : List Cond), ∀ (a' : Array Value) (U : State), X.2.2.2.2.1.WarmedH U.vm → w.before a' U = true := fun w hw a' U hW => by
    rw [List.mem_singleton.mp hw]
    exact C.ok.ts (State.WarmedH.trans C.wa hW) a' _ hcode
  have hpre := cx_pre C hP hS
  have hlen : ∀ sig, parseMethodDescriptor y.desc = some sig → n = sig.parameters.length := fun sig h => by rw [h] at hpar; exact (Option.some.inj hpar).symm
  have hK : Back X.2.1 X.2.2.2.1 X.1 X.2.2.1 X.2.2.2.2.2.2.2.1 X.2.2.2.2.1 X.2.2.2.2.2.2.1 y 3 8 (PreOf X.2.2.2.1 0 0 (fun v U => v = (As ++ [Value.ref (ad D t)]).reverse.toArray ∧ Wd D σ U)) (PostOf (Qk D (fun r2 u => r2 = r ∧ u = σ2)) 0 0 (Ab D)) :=
    back_of (bytes := bytes) (maxL := maxL) (ret := rty) hc Wd_blind rfl rfl (cx_room C hd2 hml).1 (cx_room C hd2 hml).2 hall List.mem_cons_self (fun a' U hW => C.ok.ts (State.WarmedH.trans C.wa hW) a' _ hini)
  refine cx_back C hS (g := F0 X.2.2.2.2.2.1 pc ls (As ++ .ref (ad D t) :: rest)) (Qa := (Value.ref (ad D t) :: As.reverse).toArray) (r := r) (σ2 := σ2) (rest := rest) ?_ (fun H1 locs1 hP1 hS1 => kk H1 locs1 ls hP1 hS1 hL)
  intro T0 hT X0
  have hW : 2 * (F0 X.2.2.2.2.2.1 pc ls (As ++ .ref (ad D t) :: rest)).monitorRoom + (rest.map fun v => v.category).sum ≤ 8 := lv_room hr
  obtain ⟨cellB, hcB, hoB, hclB⟩ := hrec
  have hsz : ls.size = X.2.2.2.2.2.2.2.2.2.maxLocals := hL.1
  rcases cx_lk C.ts hl with hl | ⟨host, hl⟩
  · obtain ⟨v, vm₁, ⟨U2, l2, c2, s2⟩, hW₁, X2, ⟨g2, mk, t2, L2, e1, e2, hq, h1, hL2, h2, h3⟩, stp⟩ := callV X0 C.ex (C := y.cls) (bytes := bytes) (maxL := maxL) (ret := rty) C.ow hl (C.ts _ hv.1) (C.ts _ hv.2) (C.ts _ hcode) hy hK (by rw [hT]; exact hcB) hoB hclB (g := F0 X.2.2.2.2.2.1 pc ls (As ++ .ref (ad D t) :: rest)) rfl hsz (argsL := As.reverse) (rest := rest) (fun sig h => by rw [List.length_reverse, hn]; exact hlen sig h) (rl1 rfl) hW (by rw [C.bt]; exact hd)
      (fun vm₁ hW₁ => ⟨hz.1, hz.2, by rw [rl2], hpre (T0.setVm vm₁) hT hW₁⟩)
    dsimp only [Pt.U, Pt.locs, Pt.cells, Pt.slots] at X2 e1 e2 h1 h2 h3 stp
    subst h1; subst h2; subst h3
    exact ⟨v, (T0.setVm vm₁).calling g2 mk (Value.ref (ad D t) :: As.reverse).toArray, t2, U2, L2, hT, X2, hL2, e1, e2, hq, stp⟩
  · obtain ⟨v, vm₁, ⟨U2, l2, c2, s2⟩, hW₁, X2, ⟨g2, mk, t2, L2, e1, e2, hq, h1, hL2, h2, h3⟩, stp⟩ := va_callVN X0 C.ex (C := y.cls) (bytes := bytes) (maxL := maxL) (ret := rty) C.ow hl (C.ts _ hv.1) (C.ts _ hv.2) (C.ts _ hcode) hy hK (by rw [hT]; exact hcB) hoB hclB (g := F0 X.2.2.2.2.2.1 pc ls (As ++ .ref (ad D t) :: rest)) rfl hsz (argsL := As.reverse) (rest := rest) (fun sig h => by rw [List.length_reverse, hn]; exact hlen sig h) (rl1 rfl) hW (by rw [C.bt]; exact hd)
      (fun vm₁ hW₁ => ⟨hz.1, hz.2, by rw [rl2], hpre (T0.setVm vm₁) hT hW₁⟩)
    dsimp only [Pt.U, Pt.locs, Pt.cells, Pt.slots] at X2 e1 e2 h1 h2 h3 stp
    subst h1; subst h2; subst h3
    exact ⟨v, (T0.setVm vm₁).calling g2 mk (Value.ref (ad D t) :: As.reverse).toArray, t2, U2, L2, hT, X2, hL2, e1, e2, hq, stp⟩
theorem g_callS (C : Fx X D own cc nL d ret) (hm : My y bytes maxL rty n) (hv : MS y) (hl : CL own index y) (hd : decode cc pc = .ok (.invokestatic index, 3)) (hd2 : d2 + 1 ≤ d) (hn : As.length = n) (hr : (rest.map fun v => v.category).sum ≤ 8) (hz : z.1 ≤ X.2.2.2.1.cells ∧ z.2 ≤ X.2.2.2.1.slots)
    (hc : Ct X.2.1 D y bytes maxL rty d2 As σ r σ2) (kk : G X D Q z σ2 (pc + 3) L (r.toList ++ rest)) : G X D Q z σ pc L (As ++ rest) := by
  intro H locs ls hP hS hL
  obtain ⟨hcode, hini, hy, hpar, hml⟩ := hm
  have hall : ∀ w ∈ ([Cond.code y bytes maxL rty] : List Cond), ∀ (a' : Array Value) (U : State), X.2.2.2.2.1.WarmedH U.vm → w.before a' U = true := fun w hw a' U hW => by
    rw [List.mem_singleton.mp hw]
    exact C.ok.ts (State.WarmedH.trans C.wa hW) a' _ hcode
  have hpre := cx_pre C hP hS
  have hlen : ∀ sig, parseMethodDescriptor y.desc = some sig → n = sig.parameters.length := fun sig h => by rw [h] at hpar; exact (Option.some.inj hpar).symm
  have hK : Back X.2.1 X.2.2.2.1 X.1 X.2.2.1 X.2.2.2.2.2.2.2.1 X.2.2.2.2.1 X.2.2.2.2.2.2.1 y 3 8 (PreOf X.2.2.2.1 0 0 (fun v U => v = As.reverse.toArray ∧ Wd D σ U)) (PostOf (Qk D (fun r2 u => r2 = r ∧ u = σ2)) 0 0 (Ab D)) :=
    back_of (bytes := bytes) (maxL := maxL) (ret := rty) hc Wd_blind rfl rfl (cx_room C hd2 hml).1 (cx_room C hd2 hml).2 hall List.mem_cons_self (fun a' U hW => C.ok.ts (State.WarmedH.trans C.wa hW) a' _ hini)
  refine cx_back C hS (g := F0 X.2.2.2.2.2.1 pc ls (As ++ rest)) (Qa := As.reverse.toArray) (r := r) (σ2 := σ2) (rest := rest) ?_ (fun H1 locs1 hP1 hS1 => kk H1 locs1 ls hP1 hS1 hL)
  intro T0 hT X0
  have hW : 2 * (F0 X.2.2.2.2.2.1 pc ls (As ++ rest)).monitorRoom + (rest.map fun v => v.category).sum ≤ 8 := lv_room hr
  have hsz : ls.size = X.2.2.2.2.2.2.2.2.2.maxLocals := hL.1
  rcases cx_lk C.ts hl with hl | ⟨host, hl⟩
  · obtain ⟨v, vm₁, ⟨U2, l2, c2, s2⟩, hW₁, X2, ⟨g2, mk, t2, L2, e1, e2, hq, h1, hL2, h2, h3⟩, stp⟩ := callS X0 C.ex (bytes := bytes) (maxL := maxL) (ret := rty) C.ow hl (C.ts _ hv) (C.ts _ hini) (C.ts _ hcode) hy hK (g := F0 X.2.2.2.2.2.1 pc ls (As ++ rest)) rfl hsz (argsL := As.reverse) (rest := rest) (fun sig h => by rw [List.length_reverse, hn]; exact hlen sig h) (rl0 rfl) hW (by rw [C.bt]; exact hd)
      (fun vm₁ hW₁ => ⟨hz.1, hz.2, rfl, hpre (T0.setVm vm₁) hT hW₁⟩)
    dsimp only [Pt.U, Pt.locs, Pt.cells, Pt.slots] at X2 e1 e2 h1 h2 h3 stp
    subst h1; subst h2; subst h3
    exact ⟨v, (T0.setVm vm₁).calling g2 mk As.reverse.toArray, t2, U2, L2, hT, X2, hL2, e1, e2, hq, stp⟩
  · obtain ⟨v, vm₁, ⟨U2, l2, c2, s2⟩, hW₁, X2, ⟨g2, mk, t2, L2, e1, e2, hq, h1, hL2, h2, h3⟩, stp⟩ := va_callSN X0 C.ex (bytes := bytes) (maxL := maxL) (ret := rty) C.ow hl (C.ts _ hv) (C.ts _ hini) (C.ts _ hcode) hy hK (g := F0 X.2.2.2.2.2.1 pc ls (As ++ rest)) rfl hsz (argsL := As.reverse) (rest := rest) (fun sig h => by rw [List.length_reverse, hn]; exact hlen sig h) (rl0 rfl) hW (by rw [C.bt]; exact hd)
      (fun vm₁ hW₁ => ⟨hz.1, hz.2, rfl, hpre (T0.setVm vm₁) hT hW₁⟩)
    dsimp only [Pt.U, Pt.locs, Pt.cells, Pt.slots] at X2 e1 e2 h1 h2 h3 stp
    subst h1; subst h2; subst h3
    exact ⟨v, (T0.setVm vm₁).calling g2 mk As.reverse.toArray, t2, U2, L2, hT, X2, hL2, e1, e2, hq, stp⟩
theorem g_callV1 (C : Fx X D own cc nL d ret) {v : Value} (hm : My y bytes maxL rty n) (hv : MV y) (hl : CL own index y) (hb : IsC D b y.cls) (hd : decode cc pc = .ok (.invokevirtual index, 3)) (hd2 : d2 + 1 ≤ d) (hn : As.length = n) (hr : (rest.map fun v => v.category).sum ≤ 8) (hz : z.1 ≤ X.2.2.2.1.cells ∧ z.2 ≤ X.2.2.2.1.slots)
    (hc : Ct X.2.1 D y bytes maxL rty d2 (As ++ [.ref b]) σ (some v) σ2) (kk : G X D Q z σ2 (pc + 3) L (v :: rest)) : G X D Q z σ pc L (As ++ .ref b :: rest) := g_callV C hm hv hl hb hd hd2 hn hr hz hc kk
theorem g_callV0 (C : Fx X D own cc nL d ret) (hm : My y bytes maxL rty n) (hv : MV y) (hl : CL own index y) (hb : IsC D b y.cls) (hd : decode cc pc = .ok (.invokevirtual index, 3)) (hd2 : d2 + 1 ≤ d) (hn : As.length = n) (hr : (rest.map fun v => v.category).sum ≤ 8) (hz : z.1 ≤ X.2.2.2.1.cells ∧ z.2 ≤ X.2.2.2.1.slots)
    (hc : Ct X.2.1 D y bytes maxL rty d2 (As ++ [.ref b]) σ none σ2) (kk : G X D Q z σ2 (pc + 3) L rest) : G X D Q z σ pc L (As ++ .ref b :: rest) := g_callV C hm hv hl hb hd hd2 hn hr hz hc kk
theorem g_callS1 (C : Fx X D own cc nL d ret) {v : Value} (hm : My y bytes maxL rty n) (hv : MS y) (hl : CL own index y) (hd : decode cc pc = .ok (.invokestatic index, 3)) (hd2 : d2 + 1 ≤ d) (hn : As.length = n) (hr : (rest.map fun v => v.category).sum ≤ 8) (hz : z.1 ≤ X.2.2.2.1.cells ∧ z.2 ≤ X.2.2.2.1.slots)
    (hc : Ct X.2.1 D y bytes maxL rty d2 As σ (some v) σ2) (kk : G X D Q z σ2 (pc + 3) L (v :: rest)) : G X D Q z σ pc L (As ++ rest) := g_callS C hm hv hl hd hd2 hn hr hz hc kk
theorem g_callS0 (C : Fx X D own cc nL d ret) (hm : My y bytes maxL rty n) (hv : MS y) (hl : CL own index y) (hd : decode cc pc = .ok (.invokestatic index, 3)) (hd2 : d2 + 1 ≤ d) (hn : As.length = n) (hr : (rest.map fun v => v.category).sum ≤ 8) (hz : z.1 ≤ X.2.2.2.1.cells ∧ z.2 ≤ X.2.2.2.1.slots)
    (hc : Ct X.2.1 D y bytes maxL rty d2 As σ none σ2) (kk : G X D Q z σ2 (pc + 3) L rest) : G X D Q z σ pc L (As ++ rest) := g_callS C hm hv hl hd hd2 hn hr hz hc kk
end GC
