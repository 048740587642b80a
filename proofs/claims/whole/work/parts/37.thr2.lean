/-! A CALL THAT THROWS -/
section GU
variable {X : Cx} {D : Dt} {Q : State → Prop} {z : Nat × Nat} {σ : Sg} {post : Sg → Prop} {pc : Nat} {L : Lc} {own E : String} {cc : ByteArray} {nL d d2 index n maxL : Nat} {ret rty : Option FieldType} {y : MethodName} {bytes : ByteArray} {As rest RA : List Value} {b : Nat}
/-- the walk stands behind a call that threw x: the note lies over its frame -/
def Tn (X : Cx) (D : Dt) (E : String) (post : Sg → Prop) (H : Heap) (locs : List Loc) (z : Nat × Nat) (x : Addr) (T' : State) : Prop :=
  ∃ Lx, Stand X.1 X.2.1 X.2.2.1 X.2.2.2.1 X.2.2.2.2.1 X.2.2.2.2.2.1 X.2.2.2.2.2.2.1 X.2.2.2.2.2.2.2.1 X.2.2.2.2.2.2.2.2.1 X.2.2.2.2.2.2.2.2.2 T' (locs ++ Lx) (z.1 + 1) (z.2 + 6) ∧
    (∃ cell : Cell, T'.heap[x]? = some cell ∧ cell.vm = .none ∧ D.2.2.2.vm.findClass E = some cell.cls) ∧ (∃ u, post u ∧ Wd D u T') ∧ (H.size ≤ T'.heap.size ∧ ∀ q : Nat, q < H.size → ¬ Ab D q → T'.heap[q]? = H[q]?) ∧ ∀ q ∈ Lx, Ab D q.base
set_option maxHeartbeats 4000000 in
theorem cx_thrown (C : Fx X D own cc nL d ret) (hm : My y bytes maxL rty n) (hd2 : d2 + 1 ≤ d) (hz : z.1 + 1 ≤ X.2.2.2.1.cells ∧ z.2 + 6 ≤ X.2.2.2.1.slots) (hc : Tt X.2.1 D y bytes maxL rty d2 RA σ E post)
    {H : Heap} {locs : List Loc} {U : State} (hU : U.heap = H) (hWd : Wd D σ U) (X0 : Stand X.1 X.2.1 X.2.2.1 X.2.2.2.1 X.2.2.2.2.1 X.2.2.2.2.2.1 X.2.2.2.2.2.2.1 X.2.2.2.2.2.2.2.1 X.2.2.2.2.2.2.2.2.1 X.2.2.2.2.2.2.2.2.2 U locs z.1 z.2)
    {g : JFrame} (hg : g.method = X.2.2.2.2.2.1) (hsize : g.locals.size = X.2.2.2.2.2.2.2.2.2.maxLocals) {ig : Instr} {len : Nat} (hdg : decode X.2.2.2.2.2.2.2.2.2.code g.pc = .ok (ig, len)) (hW : 2 * g.monitorRoom + (g.stack.map fun v => v.category).sum ≤ 8) {mk : MethodId} (hn : U.methodNamed? y = some mk) :
    ∃ x T', Tn X D E post H locs z x T' ∧ Steps X.1.tables X.2.2.1 X.2.2.2.2.2.2.2.1 (doInvoke X.2.2.1 (U.setTop g) [] mk RA.reverse.toArray).1 ((T'.setTop g).pushFrame (.throwing x)) := by
  obtain ⟨hcode, hini, hy, hpar, hml⟩ := hm
  have hWU : D.2.2.2.WarmedH U.vm := State.WarmedH.trans C.wa X0.warmed
  have h2 : (Cond.code y bytes maxL rty).before RA.reverse.toArray U = true := C.ok.ts hWU _ _ hcode
  have h3 : (Cond.initialized y.cls).before RA.reverse.toArray U = true := C.ok.ts hWU _ _ hini
  obtain ⟨methY, cY, hmY, hcY, -, hlY, -, -, -, -⟩ := Cond.code_spec hn h2
  obtain ⟨kY, hkY, -⟩ := className_of_methodNamed hn
  have hinitY : kY.init = .initialized := Cond.initialized_spec (findClass_of_methodNamed hn) hkY h3
  have h : At U g.method X.2.2.2.2.2.2.2.2.2 X.2.2.2.2.2.2.2.1 := by rw [hg]; exact X0.here
  have hrm := cx_room C hd2 hml
  have happ : (headSpec [.code y bytes maxL rty] (rmt d2)).appliesLoose y X.2.2.1.platform (U.calling g mk RA.reverse.toArray) = true :=
    Spec.appliesLoose_calling (g := g) h hdg hn hkY hinitY
      (X0.room_calling (g := g) (R' := rmt d2) hsize hmY hcY hrm.1 (by rw [hlY]; have := hrm.2; simp only [rmk] at this; simp only [rmt]; omega) hz.1 hz.2) (atoms_intro (fun w hw => by rw [List.mem_singleton.mp hw]; exact h2))
  obtain ⟨mid, hmid⟩ := h.above
  have hfr : (U.setTop g).frames = (.java g :: mid) ++ X.2.2.2.2.2.2.2.1 := by rw [State.frames_setTop' g h.top, hmid]; rfl
  obtain ⟨o, s₂, hsteps, -, hend, x, rfl, hcell, ⟨u, hpo, hWd2⟩, hF, hWm, L2, hsame, hL2⟩ := Steps.callFree hc X.1 X0.admits X0.cas X0.clock (acts := []) hfr happ ⟨rfl, hWd⟩ trivial
  rw [State.frames_setTop' g h.top, X0.tail] at hend
  obtain ⟨T', X', hW', hsm, e⟩ := X0.outOfThrown hg (mk := mk) (a := RA.reverse.toArray) hend hWm hsame
  have hh : T'.heap = s₂.heap := by rw [e]; exact (throwing_heap T' g x).symm
  have hv : T'.vm = s₂.vm := by rw [e]; exact (throwing_vm T' g x).symm
  refine ⟨x, T', ⟨L2, X', by rw [hh]; exact hcell, ⟨u, hpo, by rw [hh]; exact hWd2.1, by rw [hv]; exact hWd2.2.1, by rw [hh]; exact hWd2.2.2.1, by rw [hh]; exact hWd2.2.2.2⟩, by rw [hh, ← hU]; exact hF, hL2⟩, by rw [← e]; exact hsteps⟩
/-- out of a method without handlers -/
theorem cx_out (C : Fx X D own cc nL d ret) (hR : Rx X) {H : Heap} {locs : List Loc} (hS : va_S (Ab D) X.2.2.2.2.1.heap H locs) {x : Addr} {T' : State} (h : Tn X D E post H locs (0, 0) x T') {g : JFrame} (hg : g.method = X.2.2.2.2.2.1) (hl : g.locked = none) (he : g.entered = []) :
    ∃ t, Steps X.1.tables X.2.2.1 X.2.2.2.2.2.2.2.1 ((T'.setTop g).pushFrame (.throwing x)) t ∧ Qt X D E post t := by
  obtain ⟨Lx, X', hcell, hWd, hF, hLx⟩ := h
  obtain ⟨h1, h2, h3, h4, h5⟩ := X'.leaveThrown x hg hl he (covers_of_empty hR.2.2 _) C.lo
  refine ⟨_, h1, x, h2, h3, hcell, hWd, ⟨Nat.le_trans hS.1 hF.1, fun q q1 q2 => ?_⟩, h4, locs ++ Lx, h5, fun q hq => ?_⟩
  · exact (hF.2 q (Nat.lt_of_lt_of_le q1 hS.1) q2).trans (hS.2.1 q q1 q2)
  · rcases List.mem_append.mp hq with h | h
    · exact hS.2.2 q h
    · exact hLx q h
set_option maxHeartbeats 4000000 in
theorem cx_vt (C : Fx X D own cc nL d ret) (hm : My y bytes maxL rty n) (hv : MV y) (hl : Cond.methodLink own index y ∈ UNI) (hb : IsC D b y.cls) (hd : decode cc pc = .ok (.invokevirtual index, 3)) (hd2 : d2 + 1 ≤ d) (hn : As.length = n) (hr : (rest.map fun v => v.category).sum ≤ 8) (hz : z.1 + 1 ≤ X.2.2.2.1.cells ∧ z.2 + 6 ≤ X.2.2.2.1.slots)
    (hc : Tt X.2.1 D y bytes maxL rty d2 (As ++ [.ref b]) σ E post) {H : Heap} {locs : List Loc} {ls : Array Slot} (hP : va_P D.1 cls (wld D σ) H) (hS : va_S (Ab D) X.2.2.2.2.1.heap H locs) (hL : Lh ls X.2.2.2.2.2.2.2.2.2.maxLocals L)
    {T : State} (hT : T.heap = H) (X0 : Stand X.1 X.2.1 X.2.2.1 X.2.2.2.1 X.2.2.2.2.1 X.2.2.2.2.2.1 X.2.2.2.2.2.2.1 X.2.2.2.2.2.2.2.1 X.2.2.2.2.2.2.2.2.1 X.2.2.2.2.2.2.2.2.2 T locs z.1 z.2) :
    ∃ x T', Tn X D E post H locs z x T' ∧ Steps X.1.tables X.2.2.1 X.2.2.2.2.2.2.2.1 (T.setTop (F0 X.2.2.2.2.2.1 pc ls (As ++ .ref b :: rest))) ((T'.setTop (F0 X.2.2.2.2.2.1 pc ls rest)).pushFrame (.throwing x)) := by
  have hm' := hm
  obtain ⟨hcode, hini, hy, hpar, hml⟩ := hm
  obtain ⟨t, ci, T0, N, ht, rfl, hci, hct⟩ := hb
  obtain ⟨fs, hfs⟩ := hct σ
  obtain ⟨cellB, hcB, hoB, hclB⟩ := va_recv C.kk hP hci (q0 := t) (fs := fs) (by rw [wld_at ht, hfs])
  have hlen : ∀ sig, parseMethodDescriptor y.desc = some sig → n = sig.parameters.length := fun sig h => by rw [h] at hpar; exact (Option.some.inj hpar).symm
  obtain ⟨mk, methM, hnamed, hmethM, hstM, habM⟩ := Cond.instanceMethod_spec (C.ts _ hv.1)
  obtain ⟨methM', cM, hmethM', -, -, -, -, -, -, hsigM⟩ := Cond.code_spec hnamed (C.ts _ hcode)
  cases hmethM.symm.trans hmethM'
  obtain ⟨c2, r2, m2, q1, q2, q3, q4, kP, hkP, hkPi⟩ := Cond.selects_spec (C.ts _ hv.2)
  cases hclB.symm.trans q1
  cases (State.methodFound?_of_named hnamed hy).symm.trans q2
  cases hnamed.symm.trans q3
  have hselP : selectMethod X.2.2.1.platform X.2.2.2.2.1.vm cellB.cls mk = .method mk := by rw [Launch.admits_selectMethod X0.admits]; exact q4
  obtain ⟨vm₁, X₁, hstep₁⟩ := X0.invokevirtual C.ex C.ow (C.ts _ hl) hnamed hmethM hstM hkP hkPi hy (a := ad D t) (cell := cellB) (by rw [hT]; exact hcB)
    (fun z h => by rw [h] at hoB; cases hoB) hselP hmethM habM hkP hkPi (g := F0 X.2.2.2.2.2.1 pc ls (As ++ .ref (ad D t) :: rest)) rfl (argsL := As.reverse) (rest := rest) (by rw [List.length_reverse, hn]; exact hlen _ hsigM) (rl1 rfl) (by rw [C.bt]; exact hd)
  obtain ⟨x, T', hTn, hst⟩ := cx_thrown C hm' hd2 hz hc (H := H) (U := T.setVm vm₁) hT (cx_pre C hP hS (T.setVm vm₁) hT X₁.warmed) X₁ (g := F0 X.2.2.2.2.2.1 pc ls rest) rfl hL.1 (by rw [C.bt]; exact hd) (lv_room hr) (X₁.named hnamed)
  refine ⟨x, T', hTn, hstep₁ _ fun acts => ?_⟩
  rw [doInvoke_state]
  rw [rl2] at hst
  exact hst
theorem g_callVt (C : Fx X D own cc nL d ret) (hR : Rx X) (hm : My y bytes maxL rty n) (hv : MV y) (hl : Cond.methodLink own index y ∈ UNI) (hb : IsC D b y.cls) (hd : decode cc pc = .ok (.invokevirtual index, 3)) (hd2 : d2 + 1 ≤ d) (hn : As.length = n) (hr : (rest.map fun v => v.category).sum ≤ 8)
    (hc : Tt X.2.1 D y bytes maxL rty d2 (As ++ [.ref b]) σ E post) : G X D (Qt X D E post) (0, 0) σ pc L (As ++ .ref b :: rest) := by
  intro H locs ls hP hS hL T hT X0
  obtain ⟨x, T', hTn, hst⟩ := cx_vt C hm hv hl hb hd hd2 hn hr (z := (0, 0)) ⟨hR.1, hR.2.1⟩ hc hP hS hL hT X0
  obtain ⟨t, h1, h2⟩ := cx_out C hR hS hTn (g := F0 X.2.2.2.2.2.1 pc ls rest) rfl rfl rfl
  exact ⟨t, hst.trans h1, h2⟩
end GU
theorem Tt.to {l : Launch} {D : Dt} {y : MethodName} {bytes : ByteArray} {maxL : Nat} {rty : Option FieldType} {d : Nat} {RA : List Value} {σ : Sg} {E : String} {post post2 : Sg → Prop} (hp : ∀ u, post u → post2 u) (h : Tt l D y bytes maxL rty d RA σ E post) : Tt l D y bytes maxL rty d RA σ E post2 := by
  intro p e ha hc hk s m args below hf happ hP hK
  obtain ⟨n, o, h1, h2, h3, x, h4, h5, ⟨u, h6, h7⟩, h8⟩ := h p e ha hc hk s m args below hf happ hP hK
  exact ⟨n, o, h1, h2, h3, x, h4, h5, ⟨u, hp u h6, h7⟩, h8⟩
