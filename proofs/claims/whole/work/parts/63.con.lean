/-! CONSTRUCTORS: a stretch of the heap from a on, in the order of its making -/
abbrev Wc : Type := Nat × Nat × (Nat → va_E)
def upE (E : Nat → va_E) (i : Nat) (x : va_E) : Nat → va_E := fun j => if j = i then x else E j
theorem upE_s {E : Nat → va_E} {i : Nat} {x : va_E} : upE E i x i = x := if_pos rfl
theorem upE_n {E : Nat → va_E} {i j : Nat} {x : va_E} (h : j ≠ i) : upE E i x j = E j := if_neg h
def wl (a n : Nat) (E : Nat → va_E) : va_W := (List.range n).map (fun i => (a + i, E i))
theorem wl_at {a n i : Nat} {E : Nat → va_E} (h : i < n) : (wl a n E)[i]? = some (a + i, E i) := by
  simp [wl, List.getElem?_map, List.getElem?_range h]
theorem wl_in {a n t : Nat} {E : Nat → va_E} {q : Nat × va_E} (h : (wl a n E)[t]? = some q) : t < n ∧ q = (a + t, E t) := by
  have hl : t < (wl a n E).length := (List.getElem?_eq_some_iff.mp h).1
  have hl : t < n := by simpa [wl] using hl
  rw [wl_at hl] at h
  exact ⟨hl, (Option.some.inj h).symm⟩
theorem wl_set {a n i : Nat} {E : Nat → va_E} {x : va_E} (hi : i < n) : (wl a n E).set i (a + i, x) = wl a n (upE E i x) := by
  apply List.ext_getElem?
  intro k
  by_cases hk : k = i
  · subst hk
    rw [List.getElem?_set_self (by simpa [wl] using hi), wl_at hi, upE_s]
  · rw [List.getElem?_set_ne (Ne.symm hk)]
    by_cases h : k < n
    · rw [wl_at h, wl_at h, upE_n hk]
    · rw [List.getElem?_eq_none (by simpa [wl] using Nat.le_of_not_lt h), List.getElem?_eq_none (by simpa [wl] using Nat.le_of_not_lt h)]
theorem wl_eq {a n i : Nat} {E : Nat → va_E} {x : va_E} (h : i < n) (hE : E i = x) : (wl a n E)[i]? = some (a + i, x) := by rw [wl_at h, hE]
def Au (a : Nat) : Nat → Prop := fun q => a ≤ q
theorem wl_D {a n : Nat} {E : Nat → va_E} : va_D (Au a) (wl a n E) := by
  refine ⟨fun i j p q hi hj hpq => ?_, fun k q hk => ?_⟩
  · obtain ⟨h1, rfl⟩ := wl_in hi
    obtain ⟨h2, rfl⟩ := wl_in hj
    exact Nat.add_left_cancel hpq
  · obtain ⟨h1, rfl⟩ := wl_in hk
    exact Nat.le_add_right _ _
def Seg (D : Dt) (w : Wc) (H : Heap) : Prop := va_P D.1 cls (wl w.1 w.2.1 w.2.2) H ∧ H.size = w.1 + w.2.1
theorem Seg.at {D : Dt} {w : Wc} {H : Heap} (h : Seg D w H) {i : Nat} (hi : i < w.2.1) : va_at D.1 cls (w.1 + i, w.2.2 i) H := h.1 i _ (wl_at hi)
theorem Seg.mk {D : Dt} {w : Wc} {H : Heap} (hs : H.size = w.1 + w.2.1) (h : ∀ i, i < w.2.1 → va_at D.1 cls (w.1 + i, w.2.2 i) H) : Seg D w H := ⟨fun k q hq => by
  obtain ⟨h1, rfl⟩ := wl_in hq
  exact h k h1, hs⟩
theorem at_kept {D : va_G} {q : Nat × va_E} {H H1 : Heap} (h : va_at D cls q H) (he : H1[q.1]? = H[q.1]?) : va_at D cls q H1 := va_at.kept h he
theorem Seg.push {D : Dt} {a n : Nat} {E : Nat → va_E} {x : va_E} {H H1 : Heap} (h : Seg D (a, n, E) H) (hz : H1.size = a + n + 1) (ho : ∀ q, q < a + n → H1[q]? = H[q]?) (hx : va_at D.1 cls (a + n, x) H1) : Seg D (a, n + 1, upE E n x) H1 := by
  refine Seg.mk hz (fun i hi => ?_)
  have hi : i < n + 1 := hi
  show va_at D.1 cls (a + i, upE E n x i) H1
  by_cases e : i = n
  · subst e
    rw [upE_s]
    exact hx
  · rw [upE_n e]
    exact at_kept (h.at (i := i) (show i < n by omega)) (ho _ (show a + i < a + n by omega))
def K (X : Cx) (D : Dt) (Q : State → Prop) (z : Nat × Nat) (w : Wc) (pc : Nat) (L : Lc) (st : List Value) : Prop :=
  ∀ (H : Heap) (locs : List Loc) (ls : Array Slot), Seg D w H → va_S (Au w.1) X.2.2.2.2.1.heap H locs → Lh ls X.2.2.2.2.2.2.2.2.2.maxLocals L →
    W X.1 X.2.1 X.2.2.1 X.2.2.2.1 X.2.2.2.2.1 X.2.2.2.2.2.1 X.2.2.2.2.2.2.1 X.2.2.2.2.2.2.2.1 X.2.2.2.2.2.2.2.2.1 X.2.2.2.2.2.2.2.2.2 H locs z.1 z.2 Q (F0 X.2.2.2.2.2.1 pc ls st)
section KR
variable {X : Cx} {D : Dt} {Q : State → Prop} {z : Nat × Nat} {w : Wc} {pc : Nat} {L : Lc} {st : List Value} {own : String} {cc : ByteArray} {nL d : Nat} {ret : Option FieldType}
theorem k_iconst (C : Fx X D own cc nL d ret) {n : Int} {v : Int32} (hd : decode cc pc = .ok (.iconst n, 1)) (hv : Int32.ofInt n = v)
    (kk : K X D Q z w (pc + 1) L (.int v :: st)) : K X D Q z w pc L (st) := fun H locs ls hP hS hL => lv_iconst C.ex C.bt hd hv (kk H locs ls hP hS hL)
theorem k_bipush (C : Fx X D own cc nL d ret) {n : Int} {v : Int32} (hd : decode cc pc = .ok (.bipush n, 2)) (hv : (Int8.ofInt n).toInt32 = v)
    (kk : K X D Q z w (pc + 2) L (.int v :: st)) : K X D Q z w pc L (st) := fun H locs ls hP hS hL => lv_bipush C.ex C.bt hd hv (kk H locs ls hP hS hL)
theorem k_sipush (C : Fx X D own cc nL d ret) {n : Int} {v : Int32} (hd : decode cc pc = .ok (.sipush n, 3)) (hv : (Int16.ofInt n).toInt32 = v)
    (kk : K X D Q z w (pc + 3) L (.int v :: st)) : K X D Q z w pc L (st) := fun H locs ls hP hS hL => lv_sipush C.ex C.bt hd hv (kk H locs ls hP hS hL)
theorem k_iload_n (C : Fx X D own cc nL d ret) {k : Fin 4} {i : Nat} {x : Int32} (hd : decode cc pc = .ok (.iload_n k, 1)) (hi : (k : Nat) = i) (hl : lk L i = some (.int x))
    (kk : K X D Q z w (pc + 1) L (.int x :: st)) : K X D Q z w pc L (st) := fun H locs ls hP hS hL => lv_iload_n C.ex C.bt hd hi (hL.2.2 _ _ hl) (kk H locs ls hP hS hL)
theorem k_aload_n (C : Fx X D own cc nL d ret) {k : Fin 4} {i : Nat} {x : Nat} (hd : decode cc pc = .ok (.aload_n k, 1)) (hi : (k : Nat) = i) (hl : lk L i = some (.ref x))
    (kk : K X D Q z w (pc + 1) L (.ref x :: st)) : K X D Q z w pc L (st) := fun H locs ls hP hS hL => lv_aload_n C.ex C.bt hd hi (hL.2.2 _ _ hl) (kk H locs ls hP hS hL)
theorem k_istore_n (C : Fx X D own cc nL d ret) {k : Fin 4} {i : Nat} {x : Int32} (hd : decode cc pc = .ok (.istore_n k, 1)) (hi : (k : Nat) = i) (hn : i < nL) (hk : kl L i = true)
    (kk : K X D Q z w (pc + 1) ((i, some (.int x)) :: L) (st)) : K X D Q z w pc L (.int x :: st) := fun H locs ls hP hS hL => lv_istore_n C.ex C.bt hd hi hL.has (by rw [C.ml]; exact hn) rfl (fun ls2 h2 => kk H locs ls2 hP hS (hL.st1 hk h2))
theorem k_astore_n (C : Fx X D own cc nL d ret) {k : Fin 4} {i : Nat} {x : Nat} (hd : decode cc pc = .ok (.astore_n k, 1)) (hi : (k : Nat) = i) (hn : i < nL) (hk : kl L i = true)
    (kk : K X D Q z w (pc + 1) ((i, some (.ref x)) :: L) (st)) : K X D Q z w pc L (.ref x :: st) := fun H locs ls hP hS hL => lv_astore_n C.ex C.bt hd hi hL.has (by rw [C.ml]; exact hn) rfl (fun ls2 h2 => kk H locs ls2 hP hS (hL.st1 hk h2))
theorem k_iinc (C : Fx X D own cc nL d ret) {i : Nat} {n : Int} {x v : Int32} (hd : decode cc pc = .ok (.iinc i n, 3)) (hl : lk L i = some (.int x)) (hv : x + Int32.ofInt n = v) (hk : kl L i = true)
    (kk : K X D Q z w (pc + 3) ((i, some (.int v)) :: L) st) : K X D Q z w pc L st := by
  intro H locs ls hP hS hL
  obtain ⟨k, hk2⟩ := List.getElem?_of_mem (toL_in (n := X.2.2.2.2.2.2.2.2.2.maxLocals) (hL.lt hl) hl)
  exact lv_iinc C.ex C.bt hd hL.has hk2 hv (hL.lt hl) rfl (fun ls2 h2 => kk H locs ls2 hP hS (hL.st1 hk h2))
theorem k_icmp_ge (C : Fx X D own cc nL d ret) {x y : Int32} {off : Int} {tgt : Nat} (hd : decode cc pc = .ok (.if_icmp .ge off, 3)) (ht : (pc : Int) + off = (tgt : Int))
    (kt : y ≤ x → K X D Q z w tgt L st) (kf : ¬ y ≤ x → K X D Q z w (pc + 3) L st) : K X D Q z w pc L (.int y :: .int x :: st) := fun H locs ls hP hS hL => lv_icmp_ge C.ex C.bt hd ht (fun h => kt h H locs ls hP hS hL) (fun h => kf h H locs ls hP hS hL)
theorem k_goto (C : Fx X D own cc nL d ret) {off : Int} {tgt : Nat} (hd : decode cc pc = .ok (.goto off, 3)) (ht : (pc : Int) + off = (tgt : Int)) (kk : K X D Q z w tgt L st) : K X D Q z w pc L st := fun H locs ls hP hS hL => lv_goto C.ex C.bt hd ht (kk H locs ls hP hS hL)
theorem k_dup (C : Fx X D own cc nL d ret) {va : Value} (hd : decode cc pc = .ok (.dup, 1)) (hc : va.category = 1)
    (kk : K X D Q z w (pc + 1) L (va :: va :: st)) : K X D Q z w pc L (va :: st) := fun H locs ls hP hS hL => lv_dup C.ex C.bt hd hc (kk H locs ls hP hS hL)
theorem K.lf {L' : Lc} (kk : K X D Q z w pc L' st) (hs : sub L L') : K X D Q z w pc L st := fun H locs ls hP hS hL => kk H locs ls hP hS (hL.sub hs)
theorem K.ex {a n : Nat} {E E' : Nat → va_E} (h : ∀ i, i < n → ∀ H, va_at D.1 cls (a + i, E i) H → va_at D.1 cls (a + i, E' i) H) (kk : K X D Q z (a, n, E') pc L st) : K X D Q z (a, n, E) pc L st := fun H locs ls hP hS hL => kk H locs ls (Seg.mk hP.2 (fun i hi => h i hi H (hP.at hi))) hS hL
theorem K.ee {a n : Nat} {E E' : Nat → va_E} (h : ∀ i, i < n → E i = E' i) (kk : K X D Q z (a, n, E') pc L st) : K X D Q z (a, n, E) pc L st := K.ex (fun i hi H hh => by rw [← h i hi]; exact hh) kk
theorem K.zz {z' : Nat × Nat} (h : z = z') (kk : K X D Q z' w pc L st) : K X D Q z w pc L st := by subst h; exact kk
theorem K.wid {z' : Nat × Nat} (h1 : z.1 ≤ z'.1) (h2 : z.2 ≤ z'.2) (kk : K X D Q z' w pc L st) : K X D Q z w pc L st := fun H locs ls hP hS hL => W.widen h1 h2 (kk H locs ls hP hS hL)
theorem w_oI : Cond.instanceMethod Lib.objectInit ∈ UNI := un 32 (by decide +kernel) (by decide +kernel)
theorem w_oC : Cond.code Lib.objectInit ⟨#[0xb1]⟩ 1 none ∈ UNI := un 33 (by decide +kernel) (by decide +kernel)
theorem k_obj (C : Fx X D own cc nL d ret) {index b : Nat} (hl : Cond.methodLink own index Lib.objectInit ∈ UNI) (hd : decode cc pc = .ok (.invokespecial index, 3)) (h1 : 1 ≤ d) (hr : (st.map fun v => v.category).sum ≤ 8) (kk : K X D Q z w (pc + 3) L st) : K X D Q z w pc L (.ref b :: st) := by
  intro H locs ls hP hS hL
  have r1 := C.rm.1
  have r2 := C.rm.2
  have hW : 2 * (F0 X.2.2.2.2.2.1 pc ls (.ref b :: st)).monitorRoom + (st.map fun v => v.category).sum ≤ 8 := lv_room hr
  exact W.objInit C.ex C.bt C.ow (C.ts _ hl) (C.ts _ w_oI) (C.ts _ w_oC) (g := F0 X.2.2.2.2.2.1 pc ls (.ref b :: st)) rfl hL.1 rfl hd (by omega) (by omega) (kk H locs ls hP hS hL)
theorem S_push {a : Nat} {H0 H H1 : Heap} {locs : List Loc} (hS : va_S (Au a) H0 H locs) (hz : H.size ≤ H1.size) (ho : ∀ q, q < H.size → H1[q]? = H[q]?) : va_S (Au a) H0 H1 locs := ⟨Nat.le_trans hS.1 hz, fun x h1 h2 => (ho x (Nat.lt_of_lt_of_le h1 hS.1)).trans (hS.2.1 x h1 h2), hS.2.2⟩
theorem k_new (C : Fx X D own cc nL d ret) {a n ci index N : Nat} {E : Nat → va_E} {C0 : String} {T : u_T} {fs : List Value} (ty : Nat → FieldType) (hty : ∀ k, k < N → parseFieldDescriptor (T k).2.2.1 = some (ty k)) (hc : cls[ci]? = some (C0, T, N)) (hin : ∀ w ∈ u_ws C0 T N, w ∈ UNI) (hl : Cond.classLink own index C0 ∈ UNI) (hi : Cond.instantiable C0 N ∈ UNI) (hii : Cond.initialized C0 ∈ UNI) (hfs : ∀ j, j < N → defaultValue (ty j) = vp_V fs j)
    (hz : z.1 + 1 ≤ X.2.2.2.1.cells ∧ z.2 + N ≤ X.2.2.2.1.slots) (hd : decode cc pc = .ok (.new index, 3)) (kk : K X D Q (z.1 + 1, z.2 + N) (a, n + 1, upE E n (.inr (ci, fs))) (pc + 3) L (.ref (a + n) :: st)) : K X D Q z (a, n, E) pc L st := by
  intro H locs ls hP hS hL
  have hKn := C.kk.1 ci _ hc
  have hsz : H.size = a + n := hP.2
  refine W.newcK C.ex C.bt C.ow (C.ts _ hl) (C.ts _ hi) (C.ts _ hii) (g := F0 X.2.2.2.2.2.1 pc ls st) rfl hd hz.1 hz.2 hKn.2.1 hsz fun H1 kC hkC e1 z1 o1 => ?_
  exact kk H1 locs ls (hP.push z1 o1 ⟨_, hc, (u_born ty C.ts hin hKn hkC e1 hty).to hfs⟩) (S_push hS (by omega) (fun q hq => o1 q (by omega))) hL
theorem k_newa (C : Fx X D own cc nL d ret) {a n kx N : Nat} {E : Nat → va_E} {atype : ArrayType} {ty : FieldType} {a0 : vp_A} (hty : newarray.typeOf atype = ty) (hra : ∀ (U : State) (cA : ClassId), va_RA U cA ty → U.vm.findClass ("[" ++ ty.toString) = some cA) (hk : (tys D)[kx]? = some (D.2.2.1 kx, ty)) (harr : Cond.arrayClass ty ∈ UNI) (ha : ∀ cA : ClassId, vp_cell cA a0 = arrV cA N (fun _ => defaultValue ty)) (hN : N < 2 ^ 31) (hb : N * componentBytes ty ≤ 536870912)
    (hz : z.1 + 1 ≤ X.2.2.2.1.cells ∧ z.2 + N ≤ X.2.2.2.1.slots) (hd : decode cc pc = .ok (.newarray atype, 2)) (kk : K X D Q (z.1 + 1, z.2 + N) (a, n + 1, upE E n (.inl (D.2.2.1 kx, a0))) (pc + 2) L (.ref (a + n) :: st)) : K X D Q z (a, n, E) pc L (.int (nI N) :: st) := by
  subst hty
  intro H locs ls hP hS hL
  have hsz : H.size = a + n := hP.2
  refine va_newaK C.ex C.bt (C.ts _ harr) (g := F0 X.2.2.2.2.2.1 pc ls (.int (nI N) :: st)) rfl hd rfl (nI_pos hN) (nI_clamp hN) hb hz.1 hz.2 hsz fun H1 cA e1 z1 o1 hAr hNm => ?_
  have hcA : cA = D.2.2.1 kx := Option.some.inj (hNm.symm.trans (hra _ _ (C.kk.2 kx _ hk).2))
  subst hcA
  refine kk H1 locs ls (hP.push z1 o1 ?_) (S_push hS (by omega) (fun q hq => o1 q (by omega))) hL
  show H1[a + n]? = some (vp_cell _ _)
  rw [ha]
  exact e1
theorem k_anew (C : Fx X D own cc nL d ret) {a n kx N index : Nat} {E : Nat → va_E} {C0 : String} (hk : (tys D)[kx]? = some (D.2.2.1 kx, .object C0)) (hl : Cond.classLink own index C0 ∈ UNI) (hov : va_AO C0 D.2.2.2) (hN : N < 2 ^ 20)
    (hz : z.1 + 1 ≤ X.2.2.2.1.cells ∧ z.2 + N ≤ X.2.2.2.1.slots) (hd : decode cc pc = .ok (.anewarray index, 3)) (kk : K X D Q (z.1 + 1, z.2 + N) (a, n + 1, upE E n (.inl (D.2.2.1 kx, N, .inr (.inr (.inr (.inr (fun _ => none))))))) (pc + 3) L (.ref (a + n) :: st)) : K X D Q z (a, n, E) pc L (.int (nI N) :: st) := by
  intro H locs ls hP hS hL
  have hsz : H.size = a + n := hP.2
  have hcl : (nI N).toNatClampNeg = N := nI_clamp (by omega)
  refine W.anew C.ex C.bt C.ow (C.ts _ hl) (va_AO.use (va_AO.moved C.wa.alike hov)) (g := F0 X.2.2.2.2.2.1 pc ls (.int (nI N) :: st)) rfl hd rfl (nI_pos (by omega)) (by rw [hcl]; omega) hz.1 (by rw [hcl]; exact hz.2) fun cA kA comp f1 f2 f3 f4 => ?_
  obtain ⟨kA', comp', g1, g2, g3, g4⟩ := (C.kk.2 kx _ hk).2
  have hcA : cA = D.2.2.1 kx := Option.some.inj (f1.symm.trans g4)
  subst hcA
  rw [hcl]
  have e0 : (H.push ({ cls := D.2.2.1 kx, slots := Array.replicate N .null, vm := .none } : Cell)).size = a + n + 1 := by rw [Array.size_push, hsz]
  refine W.eq (g2 := F0 X.2.2.2.2.2.1 (pc + 3) ls (.ref (a + n) :: st)) (by rw [← hsz]) ?_
  refine kk _ locs ls (hP.push e0 (fun q hq => by rw [Array.getElem?_push, if_neg (by omega)]) ?_) (S_push hS (by omega) (fun q hq => by rw [Array.getElem?_push, if_neg (by omega)])) hL
  show (H.push _)[a + n]? = some (vp_cell _ _)
  rw [vp_cell_q, ← hsz, Array.getElem?_push_size, ← arrV_new]
  rfl
theorem Seg.set {D : Dt} {a n i : Nat} {E : Nat → va_E} {x : va_E} {H H1 : Heap} (h : Seg D (a, n, E) H) (hi : i < n) (hz : H1.size = H.size) (ho : ∀ q, q ≠ a + i → H1[q]? = H[q]?) (hx : va_at D.1 cls (a + i, x) H1) : Seg D (a, n, upE E i x) H1 := by
  refine Seg.mk (hz.trans h.2) (fun j hj => ?_)
  show va_at D.1 cls (a + j, upE E i x j) H1
  by_cases e : j = i
  · subst e
    rw [upE_s]
    exact hx
  · rw [upE_n e]
    exact at_kept (h.at (i := j) hj) (ho _ (show a + j ≠ a + i by omega))
/-- a field of a stretch's object, written: final or not -/
theorem k_put (C : Fx X D own cc nL d ret) {a n i ci index k : Nat} {E : Nat → va_E} {C0 : String} {T : u_T} {N : Nat} {fs : List Value} {v : Value} {ty : FieldType} (hI : X.2.2.2.2.2.2.2.2.1.name = "<init>") (ty0 : Nat → FieldType) (hty : ∀ k, k < N → parseFieldDescriptor (T k).2.2.1 = some (ty0 k)) (hnm : ∀ a, a < N → ∀ b, b < N → a ≠ b → (T a).2.1 ≠ (T b).2.1) (hi : i < n) (hE : E i = .inr (ci, fs)) (hc : cls[ci]? = some (C0, T, N)) (hin : ∀ w ∈ u_ws C0 T N, w ∈ UNI) (hk : k < N) (hT : (T k).1 = C0) (hown : C0 = own) (hdt : parseFieldDescriptor (T k).2.2.1 = some ty) (hn : narrow ty v = v) (hfit : fits ty v = true) (hlen : k < fs.length)
    (hl : Cond.fieldLink own index C0 (T k).2.1 (T k).2.2.1 ∈ UNI) (hd : decode cc pc = .ok (.putfield index, 3))
    (kk : K X D Q z (a, n, upE E i (.inr (ci, fs.set k v))) (pc + 3) L st) : K X D Q z (a, n, E) pc L (v :: .ref (a + i) :: st) := by
  intro H locs ls hP hS hL
  have hap := va_apart (own := own) C.ts hin ty0 hty hnm C.kk hc
  obtain ⟨r, h1, cell, q1, q2, q3, q4⟩ := hP.1 i (a + i, .inr (ci, fs)) (wl_eq hi hE)
  have hr : r = (C0, T, N) := Option.some.inj (h1.symm.trans hc)
  subst hr
  obtain ⟨hSl, hfc, kC, hkC, hkind⟩ := C.kk.1 ci _ hc
  obtain ⟨cf, kf, fi, f, hfi, hsl⟩ := hSl k hk
  have hlay := C.ts _ (hin _ (u_in_lay hk))
  unfold u_lay at hlay
  have hst := (u_facts hfc hkC (u_lays C.ts hin hk) hfi).1
  have hsame : X.2.2.2.2.1.fieldFound? C0 (T k).2.1 (T k).2.2.1 = some (cf, kf, fi, f) := by rw [← hT]; exact hfi
  have fin : ∀ H' : Heap, H'[a + i]? = some (cell.setSlot f.slot v) → H'.size = H.size → (∀ q, q ≠ a + i → H'[q]? = H[q]?) → W X.1 X.2.1 X.2.2.1 X.2.2.2.1 X.2.2.2.2.1 X.2.2.2.2.2.1 X.2.2.2.2.2.2.1 X.2.2.2.2.2.2.2.1 X.2.2.2.2.2.2.2.2.1 X.2.2.2.2.2.2.2.2.2 H' (locs ++ [⟨a + i, f.slot⟩]) z.1 z.2 Q (F0 X.2.2.2.2.2.1 (pc + 3) ls st) := by
    intro H' e1 e2 e3
    rw [hsl] at e1
    exact kk H' _ ls (hP.set hi e2 e3 ⟨_, hc, t_OB.to (V := updV (vp_V fs) k v) ⟨_, e1, q2, q3, t_set q4 hap hk v⟩ (fun j _ => vp_updV_set hlen v j)⟩) (hS.put e2 e3 (Nat.le_add_right a i)) hL
  by_cases hfin : (T k).2.2.2 = true
  · rw [if_pos hfin] at hlay
    have hcf : X.2.2.2.2.2.1.cls = cf := by
      obtain ⟨_, _, c', _, _, _, -, -, hf', -, -, -, hown2, -⟩ := Cond.laysFinal_spec hlay
      have e1 : c' = cf := by have := hfi.symm.trans hf'; simp at this; exact this.1.symm
      rw [hT, hown] at hown2
      rw [← e1]; exact Option.some.inj (C.ow.symm.trans hown2)
    have h6 := u_fits hfc hkC hkind (Or.inr hlay) hfi hdt hn hfit
    exact W.putFinK C.ex C.bt C.ow (C.ts _ hl) hsame hst hcf hI (by rw [q2]; exact h6) q1 q3 (by rw [hsl]; exact k2_hasslot (q4 k hk)) (g := F0 X.2.2.2.2.2.1 pc ls (v :: .ref (a + i) :: st)) rfl rfl hd fin
  · rw [if_neg hfin] at hlay
    have h6 := u_store hfc hkC hkind hlay hfi hdt hn hfit
    exact W.putK C.ex C.bt (f := f) ⟨C.ow, C.ts _ hl, ⟨_, _, _, hsame⟩, hst⟩ (by rw [q2]; exact h6) q1 q3 (by rw [hsl]; exact k2_hasslot (q4 k hk)) (g := F0 X.2.2.2.2.2.1 pc ls (v :: .ref (a + i) :: st)) rfl rfl hd fin
theorem k_get (C : Fx X D own cc nL d ret) {a n i ci index k : Nat} {E : Nat → va_E} {C0 : String} {T : u_T} {N : Nat} {fs : List Value} {v : Value} (hi : i < n) (hE : E i = .inr (ci, fs)) (hc : cls[ci]? = some (C0, T, N)) (hin : ∀ w ∈ u_ws C0 T N, w ∈ UNI) (hk : k < N) (hT : (T k).1 = C0) (hl : Cond.fieldLink own index C0 (T k).2.1 (T k).2.2.1 ∈ UNI) (hv : fs[k]? = some v) (hd : decode cc pc = .ok (.getfield index, 3))
    (kk : K X D Q z (a, n, E) (pc + 3) L (v :: st)) : K X D Q z (a, n, E) pc L (.ref (a + i) :: st) := fun H locs ls hP hS hL => va_get C.ex C.bt C.ts hin C.ow C.kk hP.1 i (wl_eq hi hE) hc k hk (C.ts _ hl) (fun x hx => by rw [hT] at hx; exact hx) hv hd (kk H locs ls hP hS hL)
theorem k_iast (C : Fx X D own cc nL d ret) {a n i N : Nat} {E : Nat → va_E} {f : Nat → Int32} {j x : Int32} (hi : i < n) (hE : E i = .inl (D.2.2.1 0, N, .inl f)) (hj : vp_in j N) (hd : decode cc pc = .ok (.iastore, 1))
    (kk : K X D Q z (a, n, upE E i (.inl (D.2.2.1 0, N, .inl (upd f j.toNatClampNeg x)))) (pc + 1) L st) : K X D Q z (a, n, E) pc L (.int x :: .int j :: .ref (a + i) :: st) := by
  intro H locs ls hP hS hL
  have hcell : H[a + i]? = some (vp_cell (D.2.2.1 0) (N, .inl f)) := by
    have h := hP.at (i := i) hi
    rw [show (((a, n, E) : Wc).2.2 i) = .inl (D.2.2.1 0, N, .inl f) from hE] at h
    exact h
  refine W.iast C.ex C.bt hcell ((C.kk.2 0 _ rfl).1 N (fun j => .int (f j))) (fun q => by cases q) (by show ¬ (j < 0 ∨ (arrV _ _ _).slots.size ≤ _); rw [arrV_size]; exact hj) (g := F0 X.2.2.2.2.2.1 pc ls (.int x :: .int j :: .ref (a + i) :: st)) rfl rfl hd fun H1 e ez oq => ?_
  refine kk H1 _ ls (hP.set hi ez oq ?_) (hS.put ez oq (Nat.le_add_right a i)) hL
  show H1[a + i]? = some (vp_cell _ _)
  rw [e, vp_cell_i, vp_cell_i, arrV_store]
  congr 2
  funext q
  by_cases hq : q = j.toNatClampNeg
  · subst hq
    simp [updV, upd]
  · simp [updV, upd, hq]
theorem k_aast (C : Fx X D own cc nL d ret) {a n i i2 ci kx N : Nat} {E : Nat → va_E} {f : Nat → Option Nat} {r : vw_C} {vs : List Value} {j : Int32} (hi : i < n) (hE : E i = .inl (D.2.2.1 kx, N, .inr (.inr (.inr (.inr f))))) (hk : (tys D)[kx]? = some (D.2.2.1 kx, .object r.1)) (hi2 : i2 < n) (hE2 : E i2 = .inr (ci, vs)) (hc : cls[ci]? = some r) (hj : vp_in j N) (hd : decode cc pc = .ok (.aastore, 1))
    (kk : K X D Q z (a, n, upE E i (.inl (D.2.2.1 kx, N, .inr (.inr (.inr (.inr (va_up f j.toNatClampNeg (some (a + i2))))))))) (pc + 1) L st) : K X D Q z (a, n, E) pc L (.ref (a + i2) :: .int j :: .ref (a + i) :: st) := by
  intro H locs ls hP hS hL
  have hlt : j.toNatClampNeg < N := Nat.not_le.mp fun q => hj (Or.inr q)
  have h0 : ¬ j < 0 := fun q => hj (Or.inl q)
  have hcell : H[a + i]? = some (vp_cell (D.2.2.1 kx) (N, .inr (.inr (.inr (.inr f))))) := by
    have h := hP.at (i := i) hi
    rw [show (((a, n, E) : Wc).2.2 i) = .inl (D.2.2.1 kx, N, .inr (.inr (.inr (.inr f)))) from hE] at h
    exact h
  obtain ⟨r', hr', cellV, g1, g2, g3, -⟩ := hP.1 i2 (a + i2, .inr (ci, vs)) (wl_eq hi2 hE2)
  have hcls := (C.kk.1 ci r hc).2
  obtain ⟨kA, comp, k1, k2, k3, -⟩ := (C.kk.2 kx _ hk).2
  have hcomp : comp = D.1.1 ci := Option.some.inj (k3.symm.trans hcls.1)
  subst hcomp
  obtain ⟨kC, hkC, -⟩ := hcls.2
  refine W.aast C.ex C.bt hcell (fun q h => by cases h) (fun h => by cases h) k1 k2 rfl hkC ⟨h0, by show _ < (arrV _ _ _).slots.size; rw [arrV_size]; exact hlt⟩ g1 (fun q h => by rw [g3] at h; cases h) (by rw [g2]; exact hkC) (by rw [g2]; exact va_assign hcls) (g := F0 X.2.2.2.2.2.1 pc ls (.ref (a + i2) :: .int j :: .ref (a + i) :: st)) rfl rfl hd fun H1 e ez oq => ?_
  refine kk H1 _ ls (hP.set hi ez oq ?_) (hS.put ez oq (Nat.le_add_right a i)) hL
  show H1[a + i]? = some (vp_cell _ _)
  rw [e, vp_cell_q, vp_cell_q, arrV_store]
  congr 2
  funext q
  by_cases hq : q = j.toNatClampNeg
  · subst hq
    simp [updV, va_up, va_rf]
  · simp [updV, va_up, hq]
end KR
/-- a constructor's contract: the object is the heap's last cell; N cells from it on when it has ended -/
def Wu (D : Dt) (U : State) : Prop := D.2.2.2.WarmedH U.vm ∧ D.2.2.2.heap.size ≤ U.heap.size ∧ ∀ q, q < D.2.2.2.heap.size → U.heap[q]? = D.2.2.2.heap[q]?
def rmn (d mc ms : Nat) : Room := { frames := d, cells := mc, slots := ms, locals := 60 * d }
def Qc (D : Dt) (w : Wc) : Array Value → State → Outcome → State → Prop := fun _ st o t => (o = .returned none ∧ Seg D w t.heap) ∧ va_F (Au w.1) st t
def Cn (l : Launch) (D : Dt) (y : MethodName) (bytes : ByteArray) (maxL d mc ms : Nat) (As : List Value) (x : va_E) (w : Wc) : Prop :=
  Met l y [.code y bytes maxL none] (rmn d mc ms) (fun v U => v = (As ++ [Value.ref w.1]).reverse.toArray ∧ Wu D U ∧ Seg D (w.1, 1, fun _ => x) U.heap) (Qc D w) mc ms (Au w.1)
def Qn (X : Cx) (D : Dt) (w : Wc) (mc ms : Nat) : State → Prop := MQ X.2.2.2.2.2.2.2.1 (Qc D w) X.2.2.2.2.2.2.1 X.2.2.2.2.1 mc ms (Au w.1)
theorem Cn.of {l : Launch} {D : Dt} {y : MethodName} {bytes : ByteArray} {maxL d mc ms : Nat} {As : List Value} {x : va_E} {w : Wc} (hD : OkD D) (hy : plainName y.cls = true) (hn : (lg_sl (As ++ [Value.ref w.1]).reverse).length ≤ maxL) (hi : y.name = "<init>") (L : Lc) (hL : la 0 (As ++ [Value.ref w.1]).reverse = L)
    (body : ∀ X : Cx, X.2.1 = l → Fx X D y.cls bytes maxL d none → X.2.2.2.2.2.2.2.2.1.name = "<init>" → X.2.2.2.1.cells = mc ∧ X.2.2.2.1.slots = ms → K X D (Qn X D w mc ms) (0, 0) (w.1, 1, fun _ => x) 0 L []) : Cn l D y bytes maxL d mc ms As x w := by
  refine Met.ofW (cc := bytes) (maxL := maxL) (ret := none) hy rfl ?_
  intro p e s m args below meth c s₁ B hml hv
  obtain ⟨rfl, hW, hP⟩ := hv
  have hl := lv_entry (As ++ [Value.ref w.1]).reverse (n := maxL) hn
  have hin : meth.name = "<init>" := ((name_of_methodNamed B.named B.method).1).trans hi
  rw [lg_entry_eq]
  refine body (p, l, e, (headSpec [.code y bytes maxL none] (rmn d mc ms)).room, s, m, (As ++ [Value.ref w.1]).reverse.toArray, below, meth, c) rfl ⟨B.exec, B.bytes, findClass_of_methodNamed B.named, hW.1, hD, ⟨Nat.le_refl _, Nat.le_refl _⟩, B.returns, B.notSynchronized, hml, hW.2.1, hW.2.2⟩ hin ⟨rfl, rfl⟩ s.heap [] _ hP va_S.rf ⟨?_, hl.2.1, fun i v hv => ?_⟩
  · show _ = c.maxLocals
    rw [hml]
    exact hl.1
  · rw [← hL] at hv
    have key : ∀ (q : List (Nat × Value)) (i : Nat) (v : Value), lk (q.map (fun q => (q.1, some q.2))) i = some v → (i, v) ∈ q := by
      intro q
      induction q with
      | nil => intro i v h; cases h
      | cons a q ih =>
        intro i v h
        rw [List.map_cons, lk_cons] at h
        split at h
        · rename_i e
          cases h
          subst e
          exact List.mem_cons_self
        · exact List.mem_cons_of_mem _ (ih i v h)
    exact hl.2.2 (i, v) (key _ i v hv)
section KC
variable {X : Cx} {D : Dt} {Q : State → Prop} {z : Nat × Nat} {w : Wc} {pc : Nat} {L : Lc} {st : List Value} {own : String} {cc : ByteArray} {nL d : Nat} {ret : Option FieldType}
theorem k_vret (C : Fx X D own cc nL d none) (hd : decode cc pc = .ok (.return_, 1)) : K X D (Qn X D w z.1 z.2) z w pc L [] := fun H locs ls hP hS hL => W.vret C.ex C.bt C.rt (fun t ht hW => ⟨⟨rfl, by rw [ht]; exact hP⟩, hS.F ht⟩) hS.2.2 hd C.lo
theorem Wu_blind {D : Dt} {x : va_E} {w : Wc} {A : List Value} : FrameBlind (fun v U => v = A.reverse.toArray ∧ Wu D U ∧ Seg D (w.1, 1, fun _ => x) U.heap) := fun _ _ _ _ h => h
theorem k_call (C : Fx X D own cc nL d ret) {y : MethodName} {bytes : ByteArray} {maxL n index d2 mc ms a k N : Nat} {As rest : List Value} {E E2 : Nat → va_E} (hm : My y bytes maxL none n) (hin : Cond.instanceMethod y ∈ UNI) (hy1 : y.name = "<init>") (hl : CL own index y) (hd : decode cc pc = .ok (.invokespecial index, 3)) (hd2 : d2 + 1 ≤ d) (hn : As.length = n) (hr : (rest.map fun v => v.category).sum ≤ 8) (hz : z.1 + mc ≤ X.2.2.2.1.cells ∧ z.2 + ms ≤ X.2.2.2.1.slots) (hlo : D.2.2.2.heap.size ≤ a)
    (hc : Cn X.2.1 D y bytes maxL d2 mc ms As (E k) (a + k, N, E2)) (kk : K X D Q (z.1 + mc, z.2 + ms) (a, k + N, fun i => if i < k then E i else E2 (i - k)) (pc + 3) L rest) : K X D Q z (a, k + 1, E) pc L (As ++ .ref (a + k) :: rest) := by
  intro H locs ls hP hS hL
  obtain ⟨hcode, hini, hy, hpar, hml⟩ := hm
  have hsz : H.size = a + (k + 1) := hP.2
  have hall : ∀ w ∈ ([Cond.code y bytes maxL none] : List Cond), ∀ (a' : Array Value) (U : State), X.2.2.2.2.1.WarmedH U.vm → w.before a' U = true := fun w hw a' U hW => by
    rw [List.mem_singleton.mp hw]
    exact C.ok.ts (State.WarmedH.trans C.wa hW) a' _ hcode
  have hlen : ∀ sig, parseMethodDescriptor y.desc = some sig → n = sig.parameters.length := fun sig h => by rw [h] at hpar; exact (Option.some.inj hpar).symm
  have r1 := C.rm.1
  have r2 := C.rm.2
  have hK : Back X.2.1 X.2.2.2.1 X.1 X.2.2.1 X.2.2.2.2.2.2.2.1 X.2.2.2.2.1 X.2.2.2.2.2.2.1 y 3 8 (PreOf X.2.2.2.1 mc ms (fun v U => v = (As ++ [Value.ref (a + k)]).reverse.toArray ∧ Wu D U ∧ Seg D (a + k, 1, fun _ => E k) U.heap)) (PostOf (Qc D (a + k, N, E2)) mc ms (Au (a + k))) :=
    back_of (bytes := bytes) (maxL := maxL) (ret := none) hc (Wu_blind (w := (a + k, N, E2))) rfl rfl (by show d2 + 1 ≤ _; omega) (by show 8 + (maxL + 11) + 60 * d2 ≤ _; omega) hall List.mem_cons_self (fun a' U hW => C.ok.ts (State.WarmedH.trans C.wa hW) a' _ hini)
  have hpre : ∀ U : State, U.heap = H → X.2.2.2.2.1.WarmedH U.vm → Wu D U ∧ Seg D (a + k, 1, fun _ => E k) U.heap := by
    intro U hU hW
    refine ⟨⟨State.WarmedH.trans C.wa hW, by rw [hU]; exact Nat.le_trans C.sz hS.1, fun q hq => ?_⟩, ?_⟩
    · rw [hU, hS.2.1 q (Nat.lt_of_lt_of_le hq C.sz) (fun h => by have h : a ≤ q := h; omega)]
      exact C.lw q hq
    · rw [hU]
      refine Seg.mk (by show H.size = a + k + 1; omega) (fun i hi => ?_)
      have hi : i = 0 := by have hi : i < 1 := hi; omega
      subst hi
      exact hP.at (i := k) (show k < k + 1 by omega)
  intro T0 hT X0
  have hW : 2 * (F0 X.2.2.2.2.2.1 pc ls (As ++ .ref (a + k) :: rest)).monitorRoom + (rest.map fun v => v.category).sum ≤ 8 := lv_room hr
  have hls : ls.size = X.2.2.2.2.2.2.2.2.2.maxLocals := hL.1
  have fin : ∀ (v : Option Value) (st₀ t T2 : State) (L2 : List Loc), st₀.heap = H → Stand X.1 X.2.1 X.2.2.1 X.2.2.2.1 X.2.2.2.2.1 X.2.2.2.2.2.1 X.2.2.2.2.2.2.1 X.2.2.2.2.2.2.2.1 X.2.2.2.2.2.2.2.2.1 X.2.2.2.2.2.2.2.2.2 T2 (locs ++ L2) (z.1 + mc) (z.2 + ms) → (∀ q ∈ L2, Au (a + k) q.base) → T2.heap = t.heap → Qc D (a + k, N, E2) (Value.ref (a + k) :: As.reverse).toArray st₀ (.returned v) t → (∀ target, Steps X.1.tables X.2.2.1 X.2.2.2.2.2.2.2.1 (T2.setTop (F0 X.2.2.2.2.2.1 (pc + 3) ls (v.toList ++ rest))) target → Steps X.1.tables X.2.2.1 X.2.2.2.2.2.2.2.1 (T0.setTop (F0 X.2.2.2.2.2.1 pc ls (As ++ .ref (a + k) :: rest))) target) → ∃ t, Steps X.1.tables X.2.2.1 X.2.2.2.2.2.2.2.1 (T0.setTop (F0 X.2.2.2.2.2.1 pc ls (As ++ .ref (a + k) :: rest))) t ∧ Q t := by
    intro v st₀ t T2 L2 h0 X2 hL2 e1 hq stp
    obtain ⟨⟨hv, hsg⟩, hz2, hk2⟩ := hq
    cases hv
    rw [h0] at hz2 hk2
    rw [← e1] at hsg hz2 hk2
    obtain ⟨t2, a1, b1⟩ := kk T2.heap (locs ++ L2) ls (Seg.mk (by have h := hsg.2; show T2.heap.size = a + (k + N); have h : T2.heap.size = a + k + N := h; omega) (fun i hi => by
        show va_at D.1 cls (a + i, if i < k then E i else E2 (i - k)) T2.heap
        by_cases h : i < k
        · rw [if_pos h]
          exact at_kept (hP.at (i := i) (show i < k + 1 by omega)) (hk2 _ (show a + i < H.size by omega) (fun q => by have q : a + k ≤ a + i := q; omega))
        · rw [if_neg h]
          have hh := hsg.at (i := i - k) (show i - k < N by have hi : i < k + N := hi; omega)
          have hh : va_at D.1 cls (a + k + (i - k), E2 (i - k)) T2.heap := hh
          rw [show a + k + (i - k) = a + i by omega] at hh
          exact hh)) ⟨Nat.le_trans hS.1 hz2, fun q h1 h2 => by rw [hk2 q (Nat.lt_of_lt_of_le h1 hS.1) (fun h => h2 (by have h : a + k ≤ q := h; show a ≤ q; omega))]; exact hS.2.1 q h1 h2, fun q hq => by
        rcases List.mem_append.mp hq with h | h
        · exact hS.2.2 q h
        · have := hL2 q h
          have this : a + k ≤ q.base := this
          show a ≤ q.base
          omega⟩ hL T2 rfl X2
    exact ⟨t2, stp t2 a1, b1⟩
  rcases cx_lk C.ts hl with hl | ⟨host, hl⟩
  · obtain ⟨v, vm₁, ⟨U2, l2, c2, s2⟩, hW₁, X2, ⟨g2, mk, t2, L2, e1, e2, hq, h1, hL2, h2, h3⟩, stp⟩ := callI X0 C.ex (bytes := bytes) (maxL := maxL) C.ow hy1 hl (C.ts _ hin) (C.ts _ hcode) hy hK (g := F0 X.2.2.2.2.2.1 pc ls (As ++ .ref (a + k) :: rest)) rfl hls (a := a + k) (argsL := As.reverse) (rest := rest) (fun sig h => by rw [List.length_reverse, hn]; exact hlen sig h) (rl1 rfl) hW (by rw [C.bt]; exact hd)
      (fun vm₁ hW₁ => ⟨hz.1, hz.2, by rw [rl2], hpre (T0.setVm vm₁) hT hW₁⟩)
    dsimp only [Pt.U, Pt.locs, Pt.cells, Pt.slots] at X2 e1 e2 h1 h2 h3 stp
    subst h1; subst h2; subst h3
    exact fin v ((T0.setVm vm₁).calling g2 mk (Value.ref (a + k) :: As.reverse).toArray) t2 U2 L2 hT X2 hL2 e1 hq stp
  · obtain ⟨v, vm₁, ⟨U2, l2, c2, s2⟩, hW₁, X2, ⟨g2, mk, t2, L2, e1, e2, hq, h1, hL2, h2, h3⟩, stp⟩ := va_callIN X0 C.ex (bytes := bytes) (maxL := maxL) C.ow hy1 hl (C.ts _ hin) (C.ts _ hcode) hy hK (g := F0 X.2.2.2.2.2.1 pc ls (As ++ .ref (a + k) :: rest)) rfl hls (a := a + k) (argsL := As.reverse) (rest := rest) (fun sig h => by rw [List.length_reverse, hn]; exact hlen sig h) (rl1 rfl) hW (by rw [C.bt]; exact hd)
      (fun vm₁ hW₁ => ⟨hz.1, hz.2, by rw [rl2], hpre (T0.setVm vm₁) hT hW₁⟩)
    dsimp only [Pt.U, Pt.locs, Pt.cells, Pt.slots] at X2 e1 e2 h1 h2 h3 stp
    subst h1; subst h2; subst h3
    exact fin v ((T0.setVm vm₁).calling g2 mk (Value.ref (a + k) :: As.reverse).toArray) t2 U2 L2 hT X2 hL2 e1 hq stp
end KC
