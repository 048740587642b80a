def Cp (l : Launch) (D : Dt) (y : MethodName) (bytes : ByteArray) (maxL : Nat) (rty : Option FieldType) (d : Nat) (RA : List Value) (σ : Sg) (post : Option Value → Sg → Prop) : Prop :=
  Met l y [.code y bytes maxL rty] (rmk d) (fun v U => v = RA.reverse.toArray ∧ Wd D σ U) (Qk D post) 0 0 (Ab D)
theorem Cp.of {l : Launch} {D : Dt} {y : MethodName} {bytes : ByteArray} {maxL : Nat} {rty : Option FieldType} {d : Nat} {RA : List Value} {σ : Sg} {post : Option Value → Sg → Prop} (hD : OkD D) (hy : plainName y.cls = true) (hn : (lg_sl RA.reverse).length ≤ maxL) (L : Lc) (hL : la 0 RA.reverse = L)
    (body : ∀ X : Cx, X.2.1 = l → Fx X D y.cls bytes maxL d rty → G X D (Qp X D post) (0, 0) σ 0 L []) : Cp l D y bytes maxL rty d RA σ post := by
  refine Met.ofW (cc := bytes) (maxL := maxL) (ret := rty) hy rfl ?_
  intro p e s m args below meth c s₁ B hml hv
  obtain ⟨rfl, hW⟩ := hv
  have hl := lv_entry RA.reverse (n := maxL) hn
  rw [lg_entry_eq]
  refine body (p, l, e, (headSpec [.code y bytes maxL rty] (rmk d)).room, s, m, RA.reverse.toArray, below, meth, c) rfl ⟨B.exec, B.bytes, findClass_of_methodNamed B.named, hW.2.1, hD, ⟨Nat.le_refl _, Nat.le_refl _⟩, B.returns, B.notSynchronized, hml, hW.2.2.1, hW.2.2.2⟩ s.heap [] _ hW.1 va_S.rf ⟨?_, hl.2.1, fun i v hv => ?_⟩
  · show _ = c.maxLocals
    rw [hml]
    exact hl.1
  · rw [← hL] at hv
    have key : ∀ (q : List (Nat × Value)) (i : Nat) (v : Value), lk (q.map (fun q => (q.1, some q.2))) i = some v → (i, v) ∈ q := by
      intro q
      induction q with
      | nil => intro i v h; cases h
      | cons a q ih =>
        intro i v h
        rw [List.map_cons, lk_cons] at h
        split at h
        · rename_i e
          cases h
          subst e
          exact List.mem_cons_self
        · exact List.mem_cons_of_mem _ (ih i v h)
    exact hl.2.2 (i, v) (key _ i v hv)
section GD
variable {X : Cx} {D : Dt} {Q : State → Prop} {z : Nat × Nat} {post : Option Value → Sg → Prop} {σ : Sg} {pc : Nat} {L : Lc} {st : List Value} {own : String} {cc : ByteArray} {nL d d2 index n maxL : Nat} {ret rty : Option FieldType} {y : MethodName} {bytes : ByteArray} {As rest : List Value} {b : Nat}
theorem cx_backp (C : Fx X D own cc nL d ret) {H : Heap} {locs : List Loc} (hS : va_S (Ab D) X.2.2.2.2.1.heap H locs) {g : JFrame} {Qa : Array Value}
    (hr : va_Run X.1 X.2.1 X.2.2.1 X.2.2.2.1 X.2.2.2.2.1 X.2.2.2.2.2.1 X.2.2.2.2.2.2.1 X.2.2.2.2.2.2.2.1 X.2.2.2.2.2.2.2.2.1 X.2.2.2.2.2.2.2.2.2 H locs z.1 z.2 0 0 g rest (Qk D post Qa) (Ab D))
    (kk : ∀ (r : Option Value) (σ2 : Sg) (H1 : Heap) (locs1 : List Loc), post r σ2 → va_P D.1 cls (wld D σ2) H1 → va_S (Ab D) X.2.2.2.2.1.heap H1 locs1 → W X.1 X.2.1 X.2.2.1 X.2.2.2.1 X.2.2.2.2.1 X.2.2.2.2.2.1 X.2.2.2.2.2.2.1 X.2.2.2.2.2.2.2.1 X.2.2.2.2.2.2.2.2.1 X.2.2.2.2.2.2.2.2.2 H1 locs1 z.1 z.2 Q { g with pc := g.pc + 3, stack := r.toList ++ rest }) :
    W X.1 X.2.1 X.2.2.1 X.2.2.2.1 X.2.2.2.2.1 X.2.2.2.2.2.1 X.2.2.2.2.2.2.1 X.2.2.2.2.2.2.2.1 X.2.2.2.2.2.2.2.2.1 X.2.2.2.2.2.2.2.2.2 H locs z.1 z.2 Q g := by
  intro T hT X0
  obtain ⟨v, st₀, t, T2, L2, h0, X2, hL, e1, e2, ⟨⟨r2, u, hv, hpo, hb⟩, hz, hk⟩, stp⟩ := hr T hT X0
  cases hv
  rw [h0] at hz hk
  obtain ⟨t2, a1, b1⟩ := kk _ u T2.heap (locs ++ L2) hpo (by rw [e1]; exact hb.1) ⟨Nat.le_trans hS.1 (by rw [e1]; exact hz), fun q h1 h2 => by rw [e1, hk q (Nat.lt_of_lt_of_le h1 hS.1) h2]; exact hS.2.1 q h1 h2, fun q hq => by
      rcases List.mem_append.mp hq with h | h
      · exact hS.2.2 q h
      · exact hL q h⟩ T2 rfl X2
  exact ⟨t2, stp t2 a1, b1⟩
theorem g_callVp (C : Fx X D own cc nL d ret) (hm : My y bytes maxL rty n) (hv : MV y) (hl : CL own index y) (hb : IsC D b y.cls) (hd : decode cc pc = .ok (.invokevirtual index, 3)) (hd2 : d2 + 1 ≤ d) (hn : As.length = n) (hr : (rest.map fun v => v.category).sum ≤ 8) (hz : z.1 ≤ X.2.2.2.1.cells ∧ z.2 ≤ X.2.2.2.1.slots)
    (hc : Cp X.2.1 D y bytes maxL rty d2 (As ++ [.ref b]) σ post) (kk : ∀ r σ2, post r σ2 → G X D Q z σ2 (pc + 3) L (r.toList ++ rest)) : G X D Q z σ pc L (As ++ .ref b :: rest) := by
  intro H locs ls hP hS hL
  obtain ⟨hcode, hini, hy, hpar, hml⟩ := hm
  obtain ⟨t, ci, T, N, ht, rfl, hci, hct⟩ := hb
  obtain ⟨fs, hfs⟩ := hct σ
  have hrec := va_recv C.kk hP hci (q0 := t) (fs := fs) (by rw [wld_at ht, hfs])
  have hall : ∀ w ∈ ([Cond.code y bytes maxL rty] : List Cond), ∀ (a' : Array Value) (U : State), X.2.2.2.2.1.WarmedH U.vm → w.before a' U = true := fun w hw a' U hW => by
    rw [List.mem_singleton.mp hw]
    exact C.ok.ts (State.WarmedH.trans C.wa hW) a' _ hcode
  have hpre := cx_pre C hP hS
  have hlen : ∀ sig, parseMethodDescriptor y.desc = some sig → n = sig.parameters.length := fun sig h => by rw [h] at hpar; exact (Option.some.inj hpar).symm
  have hK : Back X.2.1 X.2.2.2.1 X.1 X.2.2.1 X.2.2.2.2.2.2.2.1 X.2.2.2.2.1 X.2.2.2.2.2.2.1 y 3 8 (PreOf X.2.2.2.1 0 0 (fun v U => v = (As ++ [Value.ref (ad D t)]).reverse.toArray ∧ Wd D σ U)) (PostOf (Qk D post) 0 0 (Ab D)) :=
    back_of (bytes := bytes) (maxL := maxL) (ret := rty) hc Wd_blind rfl rfl (cx_room C hd2 hml).1 (cx_room C hd2 hml).2 hall List.mem_cons_self (fun a' U hW => C.ok.ts (State.WarmedH.trans C.wa hW) a' _ hini)
  refine cx_backp (post := post) C hS (g := F0 X.2.2.2.2.2.1 pc ls (As ++ .ref (ad D t) :: rest)) (Qa := (Value.ref (ad D t) :: As.reverse).toArray) (rest := rest) ?_ (fun r σ2 H1 locs1 hpo hP1 hS1 => kk r σ2 hpo H1 locs1 ls hP1 hS1 hL)
  intro T0 hT X0
  have hW : 2 * (F0 X.2.2.2.2.2.1 pc ls (As ++ .ref (ad D t) :: rest)).monitorRoom + (rest.map fun v => v.category).sum ≤ 8 := lv_room hr
  obtain ⟨cellB, hcB, hoB, hclB⟩ := hrec
  have hsz : ls.size = X.2.2.2.2.2.2.2.2.2.maxLocals := hL.1
  rcases cx_lk C.ts hl with hl | ⟨host, hl⟩
  · obtain ⟨v, vm₁, ⟨U2, l2, c2, s2⟩, hW₁, X2, ⟨g2, mk, t2, L2, e1, e2, hq, h1, hL2, h2, h3⟩, stp⟩ := callV X0 C.ex (C := y.cls) (bytes := bytes) (maxL := maxL) (ret := rty) C.ow hl (C.ts _ hv.1) (C.ts _ hv.2) (C.ts _ hcode) hy hK (by rw [hT]; exact hcB) hoB hclB (g := F0 X.2.2.2.2.2.1 pc ls (As ++ .ref (ad D t) :: rest)) rfl hsz (argsL := As.reverse) (rest := rest) (fun sig h => by rw [List.length_reverse, hn]; exact hlen sig h) (rl1 rfl) hW (by rw [C.bt]; exact hd)
      (fun vm₁ hW₁ => ⟨hz.1, hz.2, by rw [rl2], hpre (T0.setVm vm₁) hT hW₁⟩)
    dsimp only [Pt.U, Pt.locs, Pt.cells, Pt.slots] at X2 e1 e2 h1 h2 h3 stp
    subst h1; subst h2; subst h3
    exact ⟨v, (T0.setVm vm₁).calling g2 mk (Value.ref (ad D t) :: As.reverse).toArray, t2, U2, L2, hT, X2, hL2, e1, e2, hq, stp⟩
  · obtain ⟨v, vm₁, ⟨U2, l2, c2, s2⟩, hW₁, X2, ⟨g2, mk, t2, L2, e1, e2, hq, h1, hL2, h2, h3⟩, stp⟩ := va_callVN X0 C.ex (C := y.cls) (bytes := bytes) (maxL := maxL) (ret := rty) C.ow hl (C.ts _ hv.1) (C.ts _ hv.2) (C.ts _ hcode) hy hK (by rw [hT]; exact hcB) hoB hclB (g := F0 X.2.2.2.2.2.1 pc ls (As ++ .ref (ad D t) :: rest)) rfl hsz (argsL := As.reverse) (rest := rest) (fun sig h => by rw [List.length_reverse, hn]; exact hlen sig h) (rl1 rfl) hW (by rw [C.bt]; exact hd)
      (fun vm₁ hW₁ => ⟨hz.1, hz.2, by rw [rl2], hpre (T0.setVm vm₁) hT hW₁⟩)
    dsimp only [Pt.U, Pt.locs, Pt.cells, Pt.slots] at X2 e1 e2 h1 h2 h3 stp
    subst h1; subst h2; subst h3
    exact ⟨v, (T0.setVm vm₁).calling g2 mk (Value.ref (ad D t) :: As.reverse).toArray, t2, U2, L2, hT, X2, hL2, e1, e2, hq, stp⟩
theorem g_callSp (C : Fx X D own cc nL d ret) (hm : My y bytes maxL rty n) (hv : MS y) (hl : CL own index y) (hd : decode cc pc = .ok (.invokestatic index, 3)) (hd2 : d2 + 1 ≤ d) (hn : As.length = n) (hr : (rest.map fun v => v.category).sum ≤ 8) (hz : z.1 ≤ X.2.2.2.1.cells ∧ z.2 ≤ X.2.2.2.1.slots)
    (hc : Cp X.2.1 D y bytes maxL rty d2 As σ post) (kk : ∀ r σ2, post r σ2 → G X D Q z σ2 (pc + 3) L (r.toList ++ rest)) : G X D Q z σ pc L (As ++ rest) := by
  intro H locs ls hP hS hL
  obtain ⟨hcode, hini, hy, hpar, hml⟩ := hm
  have hall : ∀ w ∈ ([Cond.code y bytes maxL rty] : List Cond), ∀ (a' : Array Value) (U : State), X.2.2.2.2.1.WarmedH U.vm → w.before a' U = true := fun w hw a' U hW => by
    rw [List.mem_singleton.mp hw]
    exact C.ok.ts (State.WarmedH.trans C.wa hW) a' _ hcode
  have hpre := cx_pre C hP hS
  have hlen : ∀ sig, parseMethodDescriptor y.desc = some sig → n = sig.parameters.length := fun sig h => by rw [h] at hpar; exact (Option.some.inj hpar).symm
  have hK : Back X.2.1 X.2.2.2.1 X.1 X.2.2.1 X.2.2.2.2.2.2.2.1 X.2.2.2.2.1 X.2.2.2.2.2.2.1 y 3 8 (PreOf X.2.2.2.1 0 0 (fun v U => v = As.reverse.toArray ∧ Wd D σ U)) (PostOf (Qk D post) 0 0 (Ab D)) :=
    back_of (bytes := bytes) (maxL := maxL) (ret := rty) hc Wd_blind rfl rfl (cx_room C hd2 hml).1 (cx_room C hd2 hml).2 hall List.mem_cons_self (fun a' U hW => C.ok.ts (State.WarmedH.trans C.wa hW) a' _ hini)
  refine cx_backp (post := post) C hS (g := F0 X.2.2.2.2.2.1 pc ls (As ++ rest)) (Qa := As.reverse.toArray) (rest := rest) ?_ (fun r σ2 H1 locs1 hpo hP1 hS1 => kk r σ2 hpo H1 locs1 ls hP1 hS1 hL)
  intro T0 hT X0
  have hW : 2 * (F0 X.2.2.2.2.2.1 pc ls (As ++ rest)).monitorRoom + (rest.map fun v => v.category).sum ≤ 8 := lv_room hr
  have hsz : ls.size = X.2.2.2.2.2.2.2.2.2.maxLocals := hL.1
  rcases cx_lk C.ts hl with hl | ⟨host, hl⟩
  · obtain ⟨v, vm₁, ⟨U2, l2, c2, s2⟩, hW₁, X2, ⟨g2, mk, t2, L2, e1, e2, hq, h1, hL2, h2, h3⟩, stp⟩ := callS X0 C.ex (bytes := bytes) (maxL := maxL) (ret := rty) C.ow hl (C.ts _ hv) (C.ts _ hini) (C.ts _ hcode) hy hK (g := F0 X.2.2.2.2.2.1 pc ls (As ++ rest)) rfl hsz (argsL := As.reverse) (rest := rest) (fun sig h => by rw [List.length_reverse, hn]; exact hlen sig h) (rl0 rfl) hW (by rw [C.bt]; exact hd)
      (fun vm₁ hW₁ => ⟨hz.1, hz.2, rfl, hpre (T0.setVm vm₁) hT hW₁⟩)
    dsimp only [Pt.U, Pt.locs, Pt.cells, Pt.slots] at X2 e1 e2 h1 h2 h3 stp
    subst h1; subst h2; subst h3
    exact ⟨v, (T0.setVm vm₁).calling g2 mk As.reverse.toArray, t2, U2, L2, hT, X2, hL2, e1, e2, hq, stp⟩
  · obtain ⟨v, vm₁, ⟨U2, l2, c2, s2⟩, hW₁, X2, ⟨g2, mk, t2, L2, e1, e2, hq, h1, hL2, h2, h3⟩, stp⟩ := va_callSN X0 C.ex (bytes := bytes) (maxL := maxL) (ret := rty) C.ow hl (C.ts _ hv) (C.ts _ hini) (C.ts _ hcode) hy hK (g := F0 X.2.2.2.2.2.1 pc ls (As ++ rest)) rfl hsz (argsL := As.reverse) (rest := rest) (fun sig h => by rw [List.length_reverse, hn]; exact hlen sig h) (rl0 rfl) hW (by rw [C.bt]; exact hd)
      (fun vm₁ hW₁ => ⟨hz.1, hz.2, rfl, hpre (T0.setVm vm₁) hT hW₁⟩)
    dsimp only [Pt.U, Pt.locs, Pt.cells, Pt.slots] at X2 e1 e2 h1 h2 h3 stp
    subst h1; subst h2; subst h3
    exact ⟨v, (T0.setVm vm₁).calling g2 mk As.reverse.toArray, t2, U2, L2, hT, X2, hL2, e1, e2, hq, stp⟩
end GD
