/-! THROWING -/
def up2 : List String := ["java/lang/RuntimeException", "java/lang/Exception"]
def isr (w : Cond) : Bool := decide (w = .isRef (.static Bundle.tN "UNASSIGNED_STACK" Bundle.steD)) || decide (w = .isRef (.static Bundle.tN "SUPPRESSED_SENTINEL" Bundle.listD))
def ils : Cond → Bool
  | .laysStatic .. => true
  | _ => false
def chk : List Nat → List Cond → Bool
  | _, [] => true
  | [], _ :: _ => false
  | i :: ix, w :: ws => ((decide (tables_1[i]? = some w) && (gw w || ils w)) || isr w) && chk ix ws
def Hw (w : Cond) : Prop := w ∈ UNI ∨ isr w = true ∨ (w ∈ lw_tbl ∧ ils w = true)
theorem chk_ok : ∀ (ix : List Nat) (ws : List Cond), chk ix ws = true → ∀ w ∈ ws, Hw w
  | _, [], _, w, hw => by cases hw
  | [], _ :: _, h, _, _ => by cases h
  | i :: ix, x :: ws, h, w, hw => by
    simp only [chk, Bool.and_eq_true, Bool.or_eq_true, decide_eq_true_eq] at h
    rcases List.mem_cons.mp hw with rfl | hw
    · rcases h.1 with ⟨h1, h2 | h2⟩ | h
      · exact Or.inl (un i h1 h2)
      · exact Or.inr (Or.inr ⟨List.mem_append_right _ (List.mem_of_getElem? h1), h2⟩)
      · exact Or.inr (Or.inl h)
    · exact chk_ok ix ws h.2 w hw
def OkT (l : Launch) (D : Dt) : Prop := l.stackTraces = false ∧ ∃ a0 : Array Value, (Jvm.Cond.and given_1 narrow_1).before a0 D.2.2.2 = true
theorem isref_at {C f d : String} {a0 a : Array Value} {s0 s : State} (hW : s0.WarmedH s.vm) (hlow : ∀ q, q < s0.heap.size → s.heap[q]? = s0.heap[q]?) (h : (Cond.isRef (.static C f d)).before a0 s0 = true) : (Cond.isRef (.static C f d)).before a s = true := by
  have h1 : (Cond.isRef (.static C f d)).before a0 (s0.setVm s.vm) = true := Cond.before_shiftedFace (State.Shifted.of_warmed hW) _ rfl h
  have key : ∀ v, (Term.static C f d).eval a0 (s0.setVm s.vm) none [] (s0.setVm s.vm) = some v → (Term.static C f d).eval a s none [] s = some v := by
    intro v hv
    simp only [Term.eval] at hv ⊢
    have e : (s0.setVm s.vm).fieldNamed? C f d true = s.fieldNamed? C f d true := rfl
    rw [e] at hv
    cases hf : s.fieldNamed? C f d true with
    | none => rw [hf] at hv; cases hv
    | some q =>
      obtain ⟨q1, k, slot⟩ := q
      cases hk : k.statics with
      | none => simp [hf, hk] at hv
      | some aS =>
        have e2 : (s0.setVm s.vm).heap = s0.heap := rfl
        cases hc : s0.heap[aS]? with
        | none => simp [hf, hk, e2, hc] at hv
        | some cell =>
          have hl := hlow aS (Array.getElem?_eq_some_iff.mp hc).1
          rw [hc] at hl
          simp [hf, hk, e2, hc] at hv
          simp [hf, hk, hl]
          exact hv
  simp only [Cond.before, Cond.holds, Cond.value, beq_iff_eq] at h1 ⊢
  cases hv : (Term.static C f d).eval a0 (s0.setVm s.vm) none [] (s0.setVm s.vm) with
  | none => rw [hv] at h1; cases h1
  | some v => rw [hv] at h1; rw [key v hv]; exact h1
theorem lays_at {C f d : String} {a0 a : Array Value} {s0 s : State} (hW : s0.WarmedH s.vm) (hlow : ∀ q, q < s0.heap.size → s.heap[q]? = s0.heap[q]?) (h : (Cond.laysStatic C f d).before a0 s0 = true) : (Cond.laysStatic C f d).before a s = true := by
  have h1 : (Cond.laysStatic C f d).before a0 (s0.setVm s.vm) = true := Cond.before_shiftedFace (State.Shifted.of_warmed hW) _ rfl h
  obtain ⟨c, k, i, fd, aS, cell, g1, g2, g3, g4, g5, g6, g7, g8, g9⟩ := Cond.laysStatic_spec h1
  have e1 : s.vm.findClass C = some c := g1
  have e2 : s.fieldFound? C f d = some (c, k, i, fd) := g2
  have e5 : s0.heap[aS]? = some cell := g5
  have hl := hlow aS (Array.getElem?_eq_some_iff.mp e5).1
  rw [e5] at hl
  simp [Cond.before, Cond.holds, Cond.value, e1, e2, g3, g4, hl, g6, g7, g8, g9]
theorem OkT.hw {l : Launch} {D : Dt} (hT : OkT l D) (hD : OkD D) {a : Array Value} {s : State} (hW : D.2.2.2.WarmedH s.vm) (hlow : ∀ q, q < D.2.2.2.heap.size → s.heap[q]? = D.2.2.2.heap[q]?) {w : Cond} (h : Hw w) : w.before a s = true := by
  obtain ⟨-, a0, h0⟩ := hT
  have hf := flat_of_before _ h0
  rcases h with h | h | ⟨h, h2⟩
  · exact hD.ts hW a w h
  · simp only [isr, Bool.or_eq_true, decide_eq_true_eq] at h
    rcases h with rfl | rfl
    · exact isref_at hW hlow (hf _ (by decide +kernel))
    · exact isref_at hW hlow (hf _ (by decide +kernel))
  · obtain ⟨a1, h1⟩ := hD.2.2.2
    have h3 := h1 w h
    cases w <;> first | exact lays_at hW hlow h3 | cases h2
/-- what a throw of class E from RevisionVault asks of the tables: class at 'i', constructor at 'ic' -/
def Tw (E : String) (i ic : Nat) : Prop := (∀ w ∈ Bundle.ownAtoms0 R_V ic E up2, Hw w) ∧ Cond.classLink R_V i E ∈ UNI ∧ Cond.instantiable E 6 ∈ UNI ∧ Cond.initialized E ∈ UNI ∧ Bundle.fit E = true
def rmt (d : Nat) : Room := { frames := d, cells := 1, slots := 6, locals := 60 * d }
def Thr (D : Dt) (E : String) (post : Sg → Prop) (st t : State) (x : Addr) : Prop :=
  (∃ cell : Cell, t.heap[x]? = some cell ∧ cell.vm = .none ∧ D.2.2.2.vm.findClass E = some cell.cls) ∧ (∃ u, post u ∧ Wd D u t) ∧ va_F (Ab D) st t ∧ st.WarmedH t.vm ∧ ∃ L, st.sameButNew ({ t with vm := st.vm } : State) L 1 6 ∧ ∀ q ∈ L, Ab D q.base
def Tt (l : Launch) (D : Dt) (y : MethodName) (bytes : ByteArray) (maxL : Nat) (rty : Option FieldType) (d : Nat) (RA : List Value) (σ : Sg) (E : String) (post : Sg → Prop) : Prop :=
  MetFree l y (headSpec [.code y bytes maxL rty] (rmt d)) (fun v U => v = RA.reverse.toArray ∧ Wd D σ U) (fun _ _ _ _ _ => True) (fun _ st o t => ∃ x, o = .threw x ∧ Thr D E post st t x)
def Qt (X : Cx) (D : Dt) (E : String) (post : Sg → Prop) : State → Prop := fun t => ∃ x, t.status = .running ∧ Ended t X.2.2.2.2.2.2.2.1 (.threw x) ∧ Thr D E post X.2.2.2.2.1 t x
/-- room for one throw, no handlers -/
def Rx (X : Cx) : Prop := 1 ≤ X.2.2.2.1.cells ∧ 6 ≤ X.2.2.2.1.slots ∧ X.2.2.2.2.2.2.2.2.2.exceptionTable.isEmpty = true
theorem Tt.of {l : Launch} {D : Dt} {y : MethodName} {bytes : ByteArray} {maxL : Nat} {rty : Option FieldType} {d : Nat} {RA : List Value} {σ : Sg} {E : String} {post : Sg → Prop} (hD : OkD D) (hy : plainName y.cls = true) (hn : (lg_sl RA.reverse).length ≤ maxL) (L : Lc) (hL : la 0 RA.reverse = L)
    (body : ∀ X : Cx, X.2.1 = l → Fx X D y.cls bytes maxL d rty → Rx X → G X D (Qt X D E post) (0, 0) σ 0 L []) : Tt l D y bytes maxL rty d RA σ E post := by
  refine MetFree.of_bodyS (code := bytes) (maxLocals := maxL) (ret := rty) hy ?_ ?_
  · intro args s m h hn
    obtain ⟨meth, c, h1, h2, h3, h4, h5, h6, -, -⟩ := Cond.code_spec hn (atoms_spec (ws := [.code y bytes maxL rty]) h _ List.mem_cons_self)
    exact ⟨meth, c, h1, h2, h3, h4, h5, h6⟩
  · intro p e s m args below meth c s₁ B hml hv _
    obtain ⟨rfl, hW⟩ := hv
    have hh0 : s₁.heap = s.heap := by rw [B.state]; rfl
    have hl := lv_entry RA.reverse (n := maxL) hn
    have hne := B.noHandlers (atoms_spec (ws := [.code y bytes maxL rty]) B.pre _ List.mem_cons_self)
    have K := body (p, l, e, (headSpec [.code y bytes maxL rty] (rmt d)).room, s, m, RA.reverse.toArray, below, meth, c) rfl ⟨B.exec, B.bytes, findClass_of_methodNamed B.named, hW.2.1, hD, ⟨Nat.le_refl _, Nat.le_refl _⟩, B.returns, B.notSynchronized, hml, hW.2.2.1, hW.2.2.2⟩ ⟨Nat.le_refl _, Nat.le_refl _, hne⟩ s.heap [] _ hW.1 va_S.rf ⟨by show _ = c.maxLocals; rw [hml]; exact hl.1, hl.2.1, fun i v hv => ?_⟩
    · rw [← lg_entry_eq] at K
      obtain ⟨t, a1, x, b1, b2, b3⟩ := K s₁ hh0 (Stand.of_body B)
      exact ⟨t, .threw x, a1, b1, b2, x, rfl, b3⟩
    · rw [← hL] at hv
      have key : ∀ (q : List (Nat × Value)) (i : Nat) (v : Value), lk (q.map (fun q => (q.1, some q.2))) i = some v → (i, v) ∈ q := by
        intro q
        induction q with
        | nil => intro i v h; cases h
        | cons a q ih =>
          intro i v h
          rw [List.map_cons, lk_cons] at h
          split at h
          · rename_i e
            cases h
            subst e
            exact List.mem_cons_self
          · exact List.mem_cons_of_mem _ (ih i v h)
      exact hl.2.2 (i, v) (key _ i v hv)
/-- the same walk, told from here on: nothing has been made yet -/
theorem st_root {p : Program} {l : Launch} {e : Env} {R : Room} {s : State} {m : MethodId} {args : Array Value} {below : List Frame} {meth : Method} {c : Code} {T : State} {locs : List Loc} (X : Stand p l e R s m args below meth c T locs 0 0) :
    Stand p l e R ({ s with heap := T.heap, slotsUsed := T.slotsUsed } : State) m args below meth c T [] 0 0 := by
  have hb := X.book
  have h1 : T.heap.size ≤ s.heap.size := X.heapSize
  have h2 : T.slotsUsed ≤ s.slotsUsed := X.used
  have hr := X.room
  refine ⟨X.admits, X.cas, X.clock, X.frames, ?_, X.hears, X.method, X.code, X.here, X.tail, X.warmed, X.limits, X.bytes, ?_⟩
  · simp only [State.hasRoom, Bool.and_eq_true, decide_eq_true_eq] at hr ⊢
    refine ⟨⟨⟨hr.1.1.1, ?_⟩, ?_⟩, hb⟩
    · exact Nat.le_trans (Nat.add_le_add_right h1 _) hr.1.1.2
    · exact Nat.le_trans (Nat.add_le_add_right h2 _) hr.1.2
  · obtain ⟨e1, -⟩ := X.same
    refine ⟨?_, Nat.le_refl _, Nat.le_refl _, ?_, ?_, fun a c hc => ⟨c, hc, rfl, rfl, fun _ _ => rfl⟩⟩
    · exact e1
    · show T.slotsUsed = T.slotsUsed + ((T.heap.toList.drop T.heap.size).map (·.slots.size)).sum
      rw [List.drop_of_length_le (by simp)]
      rfl
    · show ((T.heap.toList.drop T.heap.size).map (·.slots.size)).sum ≤ 0
      rw [List.drop_of_length_le (by simp)]
      exact Nat.le_refl _
theorem same_cell {s t : State} {k n : Nat} (h : s.sameButNew t [] k n) {a : Nat} {cell : Cell} (hc : s.heap[a]? = some cell) : t.heap[a]? = some cell := by
  obtain ⟨c', h1, h2, h3, h4⟩ := h.2.2.2.2.2 a cell hc
  have e : c'.slots = cell.slots := by
    apply Array.ext_getElem?
    intro i
    exact h4 i (by simp)
  rw [h1, h2, e]
theorem same_P {D : va_G} {cl : List vw_C} {ws : va_W} {H H' : Heap} (h : ∀ (a : Nat) (cell : Cell), H[a]? = some cell → H'[a]? = some cell) (hP : va_P D cl ws H) : va_P D cl ws H' := by
  intro k q hq
  have hk := hP k q hq
  unfold va_at at hk ⊢
  split at hk
  · exact h _ _ hk
  · obtain ⟨q', h0, cell, h1, h2⟩ := hk
    exact ⟨q', h0, cell, h _ _ h1, h2⟩
theorem same_root {p : Program} {l : Launch} {e : Env} {R : Room} {s : State} {m : MethodId} {args : Array Value} {below : List Frame} {meth : Method} {c : Code} {T U : State} {locs : List Loc} {k n : Nat} (X : Stand p l e R s m args below meth c T locs 0 0)
    (h : ({ s with heap := T.heap, slotsUsed := T.slotsUsed } : State).sameButNew U [] k n) : s.sameButNew U locs k n := by
  obtain ⟨-, a2, a3, a4, a5, a6⟩ := X.same
  obtain ⟨b1, b2, b3, b4, b5, b6⟩ := id h
  have hsz : T.heap.size = s.heap.size := Nat.le_antisymm a3 a2
  have hsu : T.slotsUsed = s.slotsUsed := by
    have h1 : T.slotsUsed = s.slotsUsed + _ := a4
    have h2 := Nat.le_zero.mp a5
    rw [h1]
    exact congrArg (s.slotsUsed + ·) h2
  have b2' : T.heap.size ≤ U.heap.size := b2
  have b3' : U.heap.size ≤ T.heap.size + k := b3
  have b4' : U.slotsUsed = T.slotsUsed + ((U.heap.toList.drop T.heap.size).map (·.slots.size)).sum := b4
  have b5' : ((U.heap.toList.drop T.heap.size).map (·.slots.size)).sum ≤ n := b5
  rw [hsz] at b2' b3' b4' b5'
  rw [hsu] at b4'
  refine ⟨b1, b2', b3', b4', b5', fun a cl hc => ?_⟩
  obtain ⟨c', h1, h2, h3, h4⟩ := a6 a cl hc
  exact ⟨c', same_cell h h1, h2, h3, h4⟩
section GT
variable {X : Cx} {D : Dt} {σ : Sg} {pc : Nat} {L : Lc} {st : List Value} {cc : ByteArray} {nL d i ic : Nat} {ret : Option FieldType} {E : String} {post : Sg → Prop}
set_option maxHeartbeats 4000000 in
theorem g_throw (C : Fx X D R_V cc nL d ret) (hO : OkT X.2.1 D) (hR : Rx X) (hw : Tw E i ic) (hp : post σ) (h6 : 6 ≤ d) (d0 : decode cc pc = .ok (.new i, 3)) (d3 : decode cc (pc + 3) = .ok (.dup, 1)) (d4 : decode cc (pc + 4) = .ok (.invokespecial ic, 3)) (d7 : decode cc (pc + 7) = .ok (.athrow, 1)) :
    G X D (Qt X D E post) (0, 0) σ pc L [] := by
  intro H locs ls hP hS hL T hT X0
  have hX := st_root X0
  have hlow : ∀ q, q < D.2.2.2.heap.size → T.heap[q]? = D.2.2.2.heap[q]? := fun q hq => by
    rw [hT, hS.2.1 q (Nat.lt_of_lt_of_le hq C.sz) (Ab.lo C.ok hq)]
    exact C.lw q hq
  have htr : X.2.2.1.platform.stackTraces = false := by rw [X0.admits.platform]; exact hO.1
  have hts : ∀ w ∈ UNI, w.before X.2.2.2.2.2.2.1 ({ X.2.2.2.2.1 with heap := T.heap, slotsUsed := T.slotsUsed } : State) = true := OkD.ts (U := ({ X.2.2.2.2.1 with heap := T.heap, slotsUsed := T.slotsUsed } : State)) C.ok C.wa _
  have hat : ∀ a ∈ Bundle.ownAtoms0 R_V ic E up2, a.before X.2.2.2.2.2.2.1 ({ X.2.2.2.2.1 with heap := T.heap, slotsUsed := T.slotsUsed } : State) = true := fun a ha => OkT.hw (s := ({ X.2.2.2.2.1 with heap := T.heap, slotsUsed := T.slotsUsed } : State)) hO C.ok C.wa hlow (hw.1 a ha)
  obtain ⟨vm₁, cX, kX, hfX, hkX, -, -, X₁, st1⟩ := hX.newCold C.ex (own := R_V) (C := E) (index := i) (n := 6) C.ow (hts _ hw.2.1) (hts _ hw.2.2.1) (hts _ hw.2.2.2.1) (g := F0 X.2.2.2.2.2.1 pc ls []) rfl (by rw [C.bt]; exact d0) (by rw [Nat.zero_add]; exact hR.1) (by rw [Nat.zero_add]; exact hR.2.1)
  generalize hT2 : (T.setVm vm₁).pushCell { cls := cX, slots := kX.instanceTypes.map defaultValue, vm := .none } = T2 at X₁ st1
  have hcellA : T2.heap[T.heap.size]? = some (freshCell cX kX) := by rw [← hT2]; exact State.heap_pushCell_size _ _
  have hrm := C.rm
  obtain ⟨U, hsteps, hrun, hend, hWU, hsame, ce, hce, K⟩ := X₁.ctorThrow0 C.ex htr (own := R_V) (cls := E) (names := up2) (ic := ic) C.ow hw.2.2.2.2 (by decide +kernel) hat (fun y hy => by cases hy) hfX hkX hcellA (Nat.le_refl _)
    (g := F0 X.2.2.2.2.2.1 (pc + 4) ls [.ref T.heap.size, .ref T.heap.size]) rfl hL.1 rfl rfl (rest := []) rfl (by rw [C.bt]; exact d4) (by rw [C.bt]; exact d7) (covers_of_empty hR.2.2 _) (by simp only [up2, List.length_cons, List.length_nil]; omega) (by simp only [up2, List.length_cons, List.length_nil, List.map_cons, List.map_nil, List.sum_cons, List.sum_nil, Value.category, JFrame.monitorRoom]; omega) C.lo
  have hkeep : ∀ (a : Nat) (cell : Cell), T.heap[a]? = some cell → U.heap[a]? = some cell := fun a cell h => same_cell hsame h
  have hsz : T.heap.size ≤ U.heap.size := hsame.2.1
  have heq : ∀ q, q < T.heap.size → U.heap[q]? = T.heap[q]? := fun q hq => by
    rw [hkeep q _ (Array.getElem?_eq_getElem hq), Array.getElem?_eq_getElem hq]
  refine ⟨U, ?_, T.heap.size, hrun, hend, ⟨ce, hce, K.vm, ?_⟩, ⟨σ, hp, same_P (hT ▸ hkeep) hP, State.WarmedH.trans C.wa hWU, Nat.le_trans C.sz (Nat.le_trans hS.1 (hT ▸ hsz)), fun q hq => ?_⟩, ⟨Nat.le_trans hS.1 (hT ▸ hsz), fun q h1 h2 => ?_⟩, hWU, locs, ?_, hS.2.2⟩
  · refine st1 _ ?_
    show Steps X.1.tables X.2.2.1 X.2.2.2.2.2.2.2.1 (T2.setTop (F0 X.2.2.2.2.2.1 (pc + 3) ls [.ref T.heap.size])) U
    have hx := C.ex
    have hb := C.bt
    jvm_step X₁.here [X₁.here.top, hx, hb, d3, Value.category]
    exact hsteps
  · rw [← C.wa.alike.findClass E none]
    exact K.cls
  · rw [heq q (Nat.lt_of_lt_of_le hq (Nat.le_trans C.sz (hT ▸ hS.1)))]
    exact hlow q hq
  · rw [heq q (Nat.lt_of_lt_of_le h1 (hT ▸ hS.1)), hT]
    exact hS.2.1 q h1 h2
  · exact same_root X0 hsame
end GT
def E_IOOBE : String := "java/lang/IndexOutOfBoundsException"
theorem tw_IOOBE : Tw E_IOOBE 91 93 := ⟨chk_ok [6, 282, 291, 297, 300, 302, 283, 284, 32, 33, 285, 290, 298, 532, 272, 533, 274, 534, 276, 286, 287, 288, 289, 278, 671, 672, 673, 674, 263, 674, 675, 676, 677, 265, 677, 678, 679, 283, 267, 670, 662, 663, 664, 295, 665, 666, 667, 668, 0, 0, 281, 280, 669] _ (by decide +kernel), un 661 (by decide +kernel) (by decide +kernel), un 662 (by decide +kernel) (by decide +kernel), un 9 (by decide +kernel) (by decide +kernel), by decide +kernel⟩
def E_ISE : String := "java/lang/IllegalStateException"
theorem tw_ISE : Tw E_ISE 54 56 := ⟨chk_ok [6, 282, 291, 297, 300, 302, 283, 284, 32, 33, 285, 290, 298, 532, 272, 533, 274, 534, 276, 286, 287, 288, 289, 278, 692, 693, 694, 674, 263, 674, 675, 676, 677, 265, 677, 678, 679, 283, 267, 691, 683, 684, 685, 294, 686, 687, 688, 689, 0, 0, 281, 280, 690] _ (by decide +kernel), un 682 (by decide +kernel) (by decide +kernel), un 683 (by decide +kernel) (by decide +kernel), un 10 (by decide +kernel) (by decide +kernel), by decide +kernel⟩
def E_IAE : String := "java/lang/IllegalArgumentException"
theorem tw_IAE : Tw E_IAE 67 69 := ⟨chk_ok [6, 282, 291, 297, 300, 302, 283, 284, 32, 33, 285, 290, 298, 532, 272, 533, 274, 534, 276, 286, 287, 288, 289, 278, 725, 726, 727, 674, 263, 674, 675, 676, 677, 265, 677, 678, 679, 283, 267, 724, 261, 262, 269, 270, 271, 273, 275, 277, 0, 0, 281, 280, 279] _ (by decide +kernel), un 723 (by decide +kernel) (by decide +kernel), un 261 (by decide +kernel) (by decide +kernel), un 11 (by decide +kernel) (by decide +kernel), by decide +kernel⟩
def E_UOE : String := "java/lang/UnsupportedOperationException"
theorem tw_UOE : Tw E_UOE 74 76 := ⟨chk_ok [6, 282, 291, 297, 300, 302, 283, 284, 32, 33, 285, 290, 298, 532, 272, 533, 274, 534, 276, 286, 287, 288, 289, 278, 787, 788, 789, 674, 263, 674, 675, 676, 677, 265, 677, 678, 679, 283, 267, 786, 778, 779, 780, 296, 781, 782, 783, 784, 0, 0, 281, 280, 785] _ (by decide +kernel), un 777 (by decide +kernel) (by decide +kernel), un 778 (by decide +kernel) (by decide +kernel), un 25 (by decide +kernel) (by decide +kernel), by decide +kernel⟩
