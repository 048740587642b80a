/-! THE LAW'S HELPERS: methods with handlers -/
def R_L : String := "RevisionVaultLaw"
section GO
variable {X : Cx} {D : Dt} {Q : State → Prop} {z : Nat × Nat} {pc : Nat} {L : Lc} {st : List Value} {own : String} {cc : ByteArray} {nL d : Nat} {ret : Option FieldType} {c m : Cs} {ow : Nat → Int64} {σ : Sg}
theorem ga_out (C : Fx X D own cc nL d ret) {x : Int32} (hi : vp_in x 1) (hd : decode cc pc = .ok (.laload, 1)) (kk : G X D Q z ((c, m, ow) : Sg) (pc + 1) L (.long (ow x.toNatClampNeg) :: st)) : G X D Q z ((c, m, ow) : Sg) pc L (.int x :: .ref (aOut D) :: st) := g_lal C (t := 94) (by decide) ct_out hi hd kk
theorem gs_out (C : Fx X D own cc nL d ret) {x : Int32} {v : Int64} (hi : vp_in x 1) (hd : decode cc pc = .ok (.lastore, 1)) (kk : G X D Q z ((c, m, vp_updL ow x.toNatClampNeg v) : Sg) (pc + 1) L st) : G X D Q z ((c, m, ow) : Sg) pc L (.long v :: .int x :: .ref (aOut D) :: st) := g_las C (t := 94) (by decide) ct_out ct_out ct_oo hi hd kk
theorem g_wid (kk : G X D Q (1, 6) σ pc L st) : G X D Q (0, 0) σ pc L st := fun H locs ls hP hS hL => W.widen (Nat.zero_le _) (Nat.zero_le _) (kk H locs ls hP hS hL)
end GO
def Hc (l : Launch) (D : Dt) (y : MethodName) (bytes : ByteArray) (maxL : Nat) (hs : List (Nat × Nat × Nat × Nat)) (d : Nat) (RA : List Value) (σ : Sg) (post : Option Value → Sg → Prop) : Prop :=
  Met l y [.codeWith y bytes maxL (some .int) hs] (rmt d) (fun v U => v = RA.reverse.toArray ∧ Wd D σ U) (Qk D post) 1 6 (Ab D)
def Qh (X : Cx) (D : Dt) (post : Option Value → Sg → Prop) : State → Prop := MQ X.2.2.2.2.2.2.2.1 (Qk D post) X.2.2.2.2.2.2.1 X.2.2.2.2.1 1 6 (Ab D)
def Rh (X : Cx) (hs : List (Nat × Nat × Nat × Nat)) : Prop := 1 ≤ X.2.2.2.1.cells ∧ 6 ≤ X.2.2.2.1.slots ∧ X.2.2.2.2.2.2.2.2.2.exceptionTable.toList.map (fun h => (h.startPc, h.endPc, h.handlerPc, h.catchType)) = hs
theorem Hc.of {l : Launch} {D : Dt} {y : MethodName} {bytes : ByteArray} {maxL : Nat} {hs : List (Nat × Nat × Nat × Nat)} {d : Nat} {RA : List Value} {σ : Sg} {post : Option Value → Sg → Prop} (hD : OkD D) (hy : plainName y.cls = true) (hn : (lg_sl RA.reverse).length ≤ maxL) (L : Lc) (hL : la 0 RA.reverse = L)
    (body : ∀ X : Cx, X.2.1 = l → Fx X D y.cls bytes maxL d (some .int) → Rh X hs → G X D (Qh X D post) (0, 0) σ 0 L []) : Hc l D y bytes maxL hs d RA σ post := by
  unfold Hc Met
  refine MetFree.of_bodyS (code := bytes) (maxLocals := maxL) (ret := some .int) hy ?_ ?_
  · intro args s m h hn
    obtain ⟨m', meth, c, h0, h1, h2, h3, h4, -, h5, h6, -⟩ := Cond.codeWith_spec (atoms_spec (ws := [.codeWith y bytes maxL (some .int) hs]) h _ List.mem_cons_self)
    cases hn.symm.trans h0
    exact ⟨meth, c, h1, h2, h3, h4, h5, h6⟩
  · intro p e s m args below meth c s₁ B hml hv _
    obtain ⟨rfl, hW⟩ := hv
    have hh0 : s₁.heap = s.heap := by rw [B.state]; rfl
    have hl := lv_entry RA.reverse (n := maxL) hn
    obtain ⟨m', meth', c', h0, h1, h2, -, -, hes, -, -, -⟩ := Cond.codeWith_spec (atoms_spec (ws := [.codeWith y bytes maxL (some .int) hs]) B.pre _ List.mem_cons_self)
    cases B.named.symm.trans h0
    cases B.method.symm.trans h1
    cases (Stand.of_body B).code.symm.trans h2
    have K := body (p, l, e, (headSpec [.codeWith y bytes maxL (some .int) hs] (rmt d)).room, s, m, RA.reverse.toArray, below, meth, c) rfl ⟨B.exec, B.bytes, findClass_of_methodNamed B.named, hW.2.1, hD, ⟨Nat.le_refl _, Nat.le_refl _⟩, B.returns, B.notSynchronized, hml, hW.2.2.1, hW.2.2.2⟩ ⟨Nat.le_refl _, Nat.le_refl _, hes⟩ s.heap [] _ hW.1 va_S.rf ⟨by show _ = c.maxLocals; rw [hml]; exact hl.1, hl.2.1, fun i v hv => ?_⟩
    · rw [← lg_entry_eq] at K
      obtain ⟨t, a1, o, b1, b2, b3⟩ := K s₁ hh0 (Stand.of_body B)
      exact ⟨t, o, a1, b1, b2, b3⟩
    · rw [← hL] at hv
      have key : ∀ (q : List (Nat × Value)) (i : Nat) (v : Value), lk (q.map (fun q => (q.1, some q.2))) i = some v → (i, v) ∈ q := by
        intro q
        induction q with
        | nil => intro i v h; cases h
        | cons a q ih =>
          intro i v h
          rw [List.map_cons, lk_cons] at h
          split at h
          · rename_i e
            cases h
            subst e
            exact List.mem_cons_self
          · exact List.mem_cons_of_mem _ (ih i v h)
      exact hl.2.2 (i, v) (key _ i v hv)
section GV
variable {X : Cx} {D : Dt} {Q : State → Prop} {σ : Sg} {post : Sg → Prop} {pc : Nat} {L : Lc} {own E : String} {cc : ByteArray} {nL d d2 index n maxL : Nat} {ret rty : Option FieldType} {y : MethodName} {bytes : ByteArray} {As rest : List Value} {b : Nat} {hs : List (Nat × Nat × Nat × Nat)}
theorem g_ireth {post : Option Value → Sg → Prop} (C : Fx X D own cc nL d (some .int)) {v : Int32} (hd : decode cc pc = .ok (.ireturn, 1)) (hp : post (some (.int v)) σ) : G X D (Qh X D post) (1, 6) σ pc L [.int v] := fun H locs ls hP hS hL => W.iret C.ex C.bt C.rt (C.done hP hS hp) hS.2.2 hd C.lo
set_option maxHeartbeats 4000000 in
/-- a call that threw, and is caught at hpc -/
theorem g_callVc (C : Fx X D own cc nL d ret) (hR : Rh X hs) (hm : My y bytes maxL rty n) (hv : MV y) (hl : Cond.methodLink own index y ∈ UNI) (hb : IsC D b y.cls) (hd : decode cc pc = .ok (.invokevirtual index, 3)) (hd2 : d2 + 1 ≤ d) (hn : As.length = n) (hr : (rest.map fun v => v.category).sum ≤ 8)
    (hc : Tt X.2.1 D y bytes maxL rty d2 (As ++ [.ref b]) σ E post) (hE : Cond.instantiable E 6 ∈ UNI) {ns : List String} {hpc : Nat} (hit : ∀ cell : Cell, D.2.2.2.vm.findClass E = some cell.cls → Hit X.2.2.2.2.1 own X.2.2.2.2.2.2.1 pc cell hs ns hpc)
    (kk : ∀ x u, post u → G X D Q (1, 6) u hpc L [.ref x]) : G X D Q (0, 0) σ pc L (As ++ .ref b :: rest) := by
  intro H locs ls hP hS hL T hT X0
  obtain ⟨x, T', ⟨Lx, X', ⟨cell, hcell, hvm, hcls⟩, ⟨u, hpo, hWd⟩, hF, hLx⟩, hst⟩ := cx_vt C hm hv hl hb hd hd2 hn hr (z := (0, 0)) ⟨hR.1, hR.2.1⟩ hc hP hS hL hT X0
  have hpl : X.2.2.1.platform.magicAccessors = ({} : Platform).magicAccessors := by rw [X0.admits.platform]
  obtain ⟨c1, kX, hf1, hk1, -, -, -, -⟩ := Cond.instantiable_spec (C.ts _ hE)
  have hk : ∃ k, X.2.2.2.2.1.vm.classes[cell.cls]? = some k := by
    have h1 : X.2.2.2.2.1.vm.findClass E = some cell.cls := by rw [C.wa.alike.findClass E none]; exact hcls
    cases h1.symm.trans hf1
    exact ⟨kX, hk1⟩
  have hv1 : ((T'.setTop (F0 X.2.2.2.2.2.1 pc ls rest)).pushFrame (.throwing x)).vm = T'.vm := throwing_vm T' _ x
  have hh1 : ((T'.setTop (F0 X.2.2.2.2.2.1 pc ls rest)).pushFrame (.throwing x)).heap = T'.heap := throwing_heap T' _ x
  obtain ⟨vm', hW', hfind⟩ := find_cold (e := X.2.2.1) (f := F0 X.2.2.2.2.2.1 pc ls rest) (a := x) (s0 := X.2.2.2.2.1) (own := own) (args := X.2.2.2.2.2.2.1) (cell := cell) hpl C.ow (fun k h => by rw [hvm] at h; cases h) hk hs X.2.2.2.2.2.2.2.2.2.exceptionTable.toList ns hpc
    ((T'.setTop (F0 X.2.2.2.2.2.1 pc ls rest)).pushFrame (.throwing x)) hR.2.2 (by rw [hv1]; exact X'.warmed) (by rw [hh1]; exact hcell) (hit cell hcls)
  obtain ⟨t, a1, b1⟩ := kk x u hpo T'.heap (locs ++ Lx) ls hWd.1 ⟨Nat.le_trans hS.1 hF.1, fun q q1 q2 => (hF.2 q (Nat.lt_of_lt_of_le q1 hS.1) q2).trans (hS.2.1 q q1 q2), fun q hq => (List.mem_append.mp hq).elim (hS.2.2 q) (hLx q)⟩ hL (T'.setVm vm') rfl (X'.noted hW')
  refine ⟨t, hst.trans (caught_cold (e := X.2.2.1) (g := F0 X.2.2.2.2.2.1 pc ls rest) X'.here (fun Q E d acts => ?_) a1), b1⟩
  exact (W.findHandler_eq (by rw [hv1]; exact X'.method') X'.code).trans (hfind Q E d acts)
end GV
