theorem cl_L_47 : CL R_L 47 y_V_type := Or.inl (un 148 (by decide +kernel) (by decide +kernel))
theorem cl_L_51 : CL R_L 51 y_M_type := Or.inl (un 938 (by decide +kernel) (by decide +kernel))
theorem cl_L_52 : CL R_L 52 y_V_wipe := Or.inl (un 166 (by decide +kernel) (by decide +kernel))
theorem cl_L_55 : CL R_L 55 y_M_wipe := Or.inl (un 942 (by decide +kernel) (by decide +kernel))
theorem cl_L_61 : CL R_L 61 y_M_begin := Or.inl (un 946 (by decide +kernel) (by decide +kernel))
theorem cl_L_62 : CL R_L 62 y_M_thrown := Or.inl (un 934 (by decide +kernel) (by decide +kernel))
theorem cl_L_69 : CL R_L 69 y_M_append := Or.inl (un 969 (by decide +kernel) (by decide +kernel))
theorem cl_L_72 : CL R_L 72 y_M_commit := Or.inl (un 1053 (by decide +kernel) (by decide +kernel))
theorem cl_L_75 : CL R_L 75 y_M_abort := Or.inl (un 1061 (by decide +kernel) (by decide +kernel))
theorem cl_L_76 : CL R_L 76 y_V_fail := Or.inl (un 174 (by decide +kernel) (by decide +kernel))
theorem cl_L_80 : CL R_L 80 y_M_fail := Or.inl (un 1069 (by decide +kernel) (by decide +kernel))
theorem cl_L_84 : CL R_L 84 y_M_recover := Or.inl (un 1073 (by decide +kernel) (by decide +kernel))
theorem cl_L_87 : CL R_L 87 y_M_pull := Or.inl (un 1077 (by decide +kernel) (by decide +kernel))
theorem cl_L_90 : CL R_L 90 y_M_text := Or.inl (un 1085 (by decide +kernel) (by decide +kernel))
theorem cl_L_91 : CL R_L 91 y_V_revisions := Or.inl (un 185 (by decide +kernel) (by decide +kernel))
theorem cl_L_94 : CL R_L 94 y_M_revisions := Or.inl (un 1089 (by decide +kernel) (by decide +kernel))
theorem cl_L_95 : CL R_L 95 y_V_record := Or.inl (un 189 (by decide +kernel) (by decide +kernel))
theorem cl_L_98 : CL R_L 98 y_M_record := Or.inl (un 1097 (by decide +kernel) (by decide +kernel))
theorem cl_L_99 : CL R_L 99 y_V_node := Or.inl (un 201 (by decide +kernel) (by decide +kernel))
theorem cl_L_103 : CL R_L 103 y_M_node := Or.inl (un 1101 (by decide +kernel) (by decide +kernel))
theorem cl_L_104 : CL R_L 104 y_V_data := Or.inl (un 205 (by decide +kernel) (by decide +kernel))
theorem cl_L_107 : CL R_L 107 y_M_data := Or.inl (un 1105 (by decide +kernel) (by decide +kernel))
theorem cl_L_108 : CL R_L 108 y_V_damage := Or.inl (un 218 (by decide +kernel) (by decide +kernel))
theorem cl_L_112 : CL R_L 112 y_M_damage := Or.inl (un 1109 (by decide +kernel) (by decide +kernel))
theorem cl_L_113 : CL R_L 113 y_V_wrong := Or.inl (un 226 (by decide +kernel) (by decide +kernel))
theorem cl_L_116 : CL R_L 116 y_M_wrong := Or.inl (un 1113 (by decide +kernel) (by decide +kernel))
theorem cl_L_117 : CL R_L 117 y_V_heads := Or.inl (un 617 (by decide +kernel) (by decide +kernel))
theorem cl_L_120 : CL R_L 120 y_M_heads := Or.inl (un 1117 (by decide +kernel) (by decide +kernel))
theorem cl_L_121 : CL R_L 121 y_V_common := Or.inl (un 635 (by decide +kernel) (by decide +kernel))
theorem cl_L_124 : CL R_L 124 y_M_common := Or.inl (un 1121 (by decide +kernel) (by decide +kernel))
theorem kc_L_45 : Cond.constantLong R_L 45 4294967295 ∈ UNI := un 1129 (by decide +kernel) (by decide +kernel)
/-! THE LAW: calls of its helpers, its script -/
section LW
variable {X : Cx} {D : Dt} {Q : State → Prop} {z : Nat × Nat} {σ : Sg} {pc : Nat} {L : Lc} {st rest As : List Value} {own : String} {cc : ByteArray} {nL d : Nat} {ret : Option FieldType}
theorem back_w {l : Launch} {R : Room} {p : Program} {e : Env} {below : List Frame} {s : State} {sargs : Array Value} {y : MethodName} {len Wd0 : Nat} {rm : Room} {Pc : Array Value → State → Prop} {Qc : Array Value → State → Outcome → State → Prop} {mc ms : Nat} {free : Addr → Prop} {bytes : ByteArray} {maxL : Nat} {rty : Option FieldType} {hs : List (Nat × Nat × Nat × Nat)}
    (hM : Met l y [.codeWith y bytes maxL rty hs] rm Pc Qc mc ms free) (hblind : FrameBlind Pc) (hrc : rm.cells = mc) (hrs : rm.slots = ms) (hframes : rm.frames + 1 ≤ R.frames) (hlocals : Wd0 + (maxL + 11) + rm.locals ≤ R.locals)
    (hcw : ∀ a' U, s.WarmedH U.vm → (Cond.codeWith y bytes maxL rty hs).before a' U = true) (hinit : ∀ a' U, s.WarmedH U.vm → (Cond.initialized y.cls).before a' U = true) :
    Back l R p e below s sargs y len Wd0 (PreOf R mc ms Pc) (PostOf Qc mc ms free) := by
  refine Back.of_freeWith (handlers := hs) (S := headSpec [.codeWith y bytes maxL rty hs] rm) (P := Pc) (K := fun _ _ _ _ _ => True) (Q := fun a st o t => Qc a st o t ∧ ∃ L, FrameEnd st o t L mc ms ∧ ∀ q ∈ L, free q.base) (bytes := bytes) (maxL := maxL) (ret := rty)
    (E := fun a st o t L k n => k = mc ∧ n = ms ∧ ∀ q ∈ L, free q.base) hM hframes hlocals ?_ ?_ (fun _ _ _ _ _ _ _ _ _ => trivial) ?_ ?_
  · intro m meth c A a X hp
    exact ⟨atoms_intro fun w hw => by rw [List.mem_singleton.mp hw]; exact hcw _ _ X.warmed, hcw _ _ X.warmed, hinit _ _ X.warmed, by rw [show (headSpec [.codeWith y bytes maxL rty hs] rm).room.cells = mc from hrc]; exact hp.1, by rw [show (headSpec [.codeWith y bytes maxL rty hs] rm).room.slots = ms from hrs]; exact hp.2.1⟩
  · intro m meth c A a g mk X hp
    exact hblind _ _ _ _ hp.2.2
  · intro a st o t ⟨hq, L, hF, hL⟩
    exact ⟨L, mc, ms, hF, rfl, rfl, hL⟩
  · intro m meth c A a g mk v t L k n X hp hq hF ⟨e1, e2, hL⟩
    subst e1; subst e2
    exact ⟨g, mk, t, L, rfl, rfl, hq.1, rfl, hL, rfl, rfl⟩
/-- a helper's words -/
def Mw (own : String) (index : Nat) (y : MethodName) (bytes : ByteArray) (maxL : Nat) (hs : List (Nat × Nat × Nat × Nat)) (n : Nat) : Prop := Cond.codeWith y bytes maxL (some .int) hs ∈ UNI ∧ Cond.initialized y.cls ∈ UNI ∧ Cond.static y ∈ UNI ∧ Cond.methodLink own index y ∈ UNI ∧ (y.cls ≠ "java/lang/invoke/MethodHandle" ∧ y.cls ≠ "java/lang/invoke/VarHandle") ∧ (parseMethodDescriptor y.desc).map (fun d => d.parameters.length) = some n ∧ maxL ≤ 41
theorem g_callSh (C : Fx X D own cc nL d ret) {y : MethodName} {bytes : ByteArray} {maxL index n d2 : Nat} {hs : List (Nat × Nat × Nat × Nat)} {post : Option Value → Sg → Prop} (hm : Mw own index y bytes maxL hs n) (hd : decode cc pc = .ok (.invokestatic index, 3)) (hd2 : d2 + 1 ≤ d) (hn : As.length = n) (hr : (rest.map fun v => v.category).sum ≤ 8) (hz : z.1 + 1 ≤ X.2.2.2.1.cells ∧ z.2 + 6 ≤ X.2.2.2.1.slots)
    (hc : Hc X.2.1 D y bytes maxL hs d2 As σ post) (kk : ∀ r σ2, post r σ2 → G X D Q (z.1 + 1, z.2 + 6) σ2 (pc + 3) L (r.toList ++ rest)) : G X D Q z σ pc L (As ++ rest) := by
  intro H locs ls hP hS hL T0 hT X0
  obtain ⟨hcw, hini, hst, hl, hy, hpar, hml⟩ := hm
  have hlen : ∀ sig, parseMethodDescriptor y.desc = some sig → n = sig.parameters.length := fun sig h => by rw [h] at hpar; exact (Option.some.inj hpar).symm
  have hpre := cx_pre C hP hS
  have r1 := C.rm.1
  have r2 := C.rm.2
  have hK : Back X.2.1 X.2.2.2.1 X.1 X.2.2.1 X.2.2.2.2.2.2.2.1 X.2.2.2.2.1 X.2.2.2.2.2.2.1 y 3 8 (PreOf X.2.2.2.1 1 6 (fun v U => v = As.reverse.toArray ∧ Wd D σ U)) (PostOf (Qk D post) 1 6 (Ab D)) :=
    back_w (bytes := bytes) (maxL := maxL) (rty := some .int) (hs := hs) hc Wd_blind rfl rfl (by show d2 + 1 ≤ _; omega) (by show 8 + (maxL + 11) + 60 * d2 ≤ _; omega) (fun a' U hW => C.ok.ts (State.WarmedH.trans C.wa hW) a' _ hcw) (fun a' U hW => C.ok.ts (State.WarmedH.trans C.wa hW) a' _ hini)
  have hW : 2 * (F0 X.2.2.2.2.2.1 pc ls (As ++ rest)).monitorRoom + (rest.map fun v => v.category).sum ≤ 8 := lv_room hr
  have hsz : ls.size = X.2.2.2.2.2.2.2.2.2.maxLocals := hL.1
  obtain ⟨mk, methM, cM, hnamed, hmethM, -, -, -, -, -, -, hsigM⟩ := Cond.codeWith_spec (C.ts _ hcw)
  have hstatic : methM.isStatic = true := Cond.static_spec hnamed hmethM (C.ts _ hst)
  obtain ⟨kP, hkP, -⟩ := className_of_methodNamed hnamed
  have hinitP : kP.init = .initialized := Cond.initialized_spec (findClass_of_methodNamed hnamed) hkP (C.ts _ hini)
  have hdc : decode X.2.2.2.2.2.2.2.2.2.code pc = .ok (.invokestatic index, 3) := by rw [C.bt]; exact hd
  obtain ⟨vm₁, X₁, hstep₁⟩ := X0.invokestatic C.ex C.ow (C.ts _ hl) hnamed hmethM hstatic hkP hinitP hy (g := F0 X.2.2.2.2.2.1 pc ls (As ++ rest)) rfl (argsL := As.reverse) (rest := rest) (by rw [List.length_reverse, hn]; exact hlen _ hsigM) (rl0 rfl) hdc
  obtain ⟨v, ⟨U2, l2, c2, s2⟩, X2, hpost, hsteps⟩ := hK X.2.2.2.2.2.1 X.2.2.2.2.2.2.2.2.1 X.2.2.2.2.2.2.2.2.2 ⟨T0.setVm vm₁, locs, z.1, z.2⟩ { F0 X.2.2.2.2.2.1 pc ls (As ++ rest) with stack := rest } (.invokestatic index) mk As.reverse.toArray X₁ rfl hsz hdc hW (X₁.named hnamed) ⟨hz.1, hz.2, rfl, hpre (T0.setVm vm₁) hT X₁.warmed⟩
  obtain ⟨g2, mk2, t2, L2, e1, e2, hq, h1, hL2, h2, h3⟩ := hpost
  dsimp only [Pt.U, Pt.locs, Pt.cells, Pt.slots] at X2 e1 e2 h1 h2 h3 hsteps
  subst h1; subst h2; subst h3
  obtain ⟨⟨r2', u, hv, hpo, hb⟩, hz2, hk⟩ := hq
  cases hv
  have h0 : ((T0.setVm vm₁).calling g2 mk2 As.reverse.toArray).heap = H := hT
  rw [h0] at hz2 hk
  obtain ⟨tf, a1, b1⟩ := kk _ u hpo U2.heap (locs ++ L2) ls (by rw [e1]; exact hb.1) ⟨Nat.le_trans hS.1 (by rw [e1]; exact hz2), fun q q1 q2 => by rw [e1, hk q (Nat.lt_of_lt_of_le q1 hS.1) q2]; exact hS.2.1 q q1 q2, fun q hq => by
      rcases List.mem_append.mp hq with h | h
      · exact hS.2.2 q h
      · exact hL2 q h⟩ hL U2 rfl X2
  exact ⟨tf, hstep₁ _ fun acts => by rw [doInvoke_state]; exact hsteps.trans a1, b1⟩
theorem g_sld (C : Fx X D own cc nL d ret) {b Ls : Nat} {xs : Nat → Int32} {i : Int32} (hX : va_X b Ls xs X.2.2.2.2.1 X.2.2.2.2.1.heap) (hb : b < D.2.2.2.heap.size) (hi : vp_in i Ls) (hd : decode cc pc = .ok (.iaload, 1))
    (kk : G X D Q z σ (pc + 1) L (.int (xs i.toNatClampNeg) :: st)) : G X D Q z σ pc L (.int i :: .ref b :: st) := fun H locs ls hP hS hL => va_sld C.ex C.bt hX (Nat.lt_of_lt_of_le hb C.sz) (Ab.lo C.ok hb) hS hi hd (kk H locs ls hP hS hL)
theorem g_slen (C : Fx X D own cc nL d ret) {b Ls : Nat} {xs : Nat → Int32} (hX : va_X b Ls xs X.2.2.2.2.1 X.2.2.2.2.1.heap) (hb : b < D.2.2.2.heap.size) (hd : decode cc pc = .ok (.arraylength, 1))
    (kk : G X D Q z σ (pc + 1) L (.int (nI Ls) :: st)) : G X D Q z σ pc L (.ref b :: st) := fun H locs ls hP hS hL => va_slen C.ex C.bt hX (Nat.lt_of_lt_of_le hb C.sz) (Ab.lo C.ok hb) hS hd (kk H locs ls hP hS hL)
end LW
theorem oFail_wf {V : Vt} {r n : Int32} (h : WfV V) : WfV (oFail V r n).2 := by
  unfold oFail
  split
  · rename_i hc
    obtain ⟨q, hq, rfl, hd⟩ := bar_0 hc.1
    obtain ⟨k, hk, rfl⟩ := nI_of2 (M := 100) (n := 100) (by decide +kernel) (Int32.not_lt.mpr hc.2.1) hc.2.2
    rw [nI_clamp (by omega), nI_clamp (by omega)]
    obtain ⟨a1, a2, a3, a4, a5, a6, a7⟩ := h.rep hq
    exact h.up ⟨a1, a2, a3, hk, fun e => (by rw [show Rp.dwn ((V.2 q).dat, (V.2 q).rcs, (V.2 q).jrn, (V.2 q).dwn, k) = false from hd] at e; cases e), a6, a7⟩
  · exact h
theorem oDamage_wf {V : Vt} {r k x : Int32} (h : WfV V) : WfV (oDamage V r k x).2 := by
  unfold oDamage
  split
  · rename_i hc
    obtain ⟨q, hq, rfl, hd⟩ := bar_0 hc.1
    obtain ⟨y, hy, rfl⟩ := nI_of2 (M := 255) (n := 255) (by decide +kernel) (fun e => absurd hc.2.1.1 (Int32.not_le.mpr (Int32.lt_trans e (by decide)))) hc.2.1.2
    rw [nI_clamp (by omega), nI_clamp (by omega)]
    exact h.up (dmg_wf (h.rep hq) (by omega))
  · exact h
theorem CAbs.wipe {c : Cs} {V : Vt} (h : CAbs c V) : CAbs (cutC c 0 (nI 0)) ([], V.2) := by
  have hs : Sm (Rw 0) c (cutC c 0 (nI 0)) := sm_cut
  refine ⟨h.1.cut (by decide), h.2.1.gm hs (fun t ht => by unfold Rw; omega), h.2.2.1.gm hs (fun t ht => by unfold Rw; omega), h.2.2.2.gm hs (fun r hr k hk => by unfold Rw; omega)⟩
theorem WfV.wipe {V : Vt} (h : WfV V) : WfV ([], V.2) := ⟨fun x hx => (by cases hx), Nat.zero_le _, h.2.2.1, h.2.2.2⟩
theorem ls_end {n Ls : Nat} (h : ¬ 4 * n + 4 ≤ Ls) (hL : Ls ≤ 2048) (hn : n ≤ 2048) : nI Ls - nI 4 < nI (4 * n) := by
  rw [Int32.lt_iff_toInt_lt, pk_sub_toInt (by omega) (by decide), nI_toInt (by omega)]
  omega
theorem ls_in {n Ls : Nat} (h : 4 * n + 4 ≤ Ls) (hL : Ls ≤ 2048) : ¬ nI Ls - nI 4 < nI (4 * n) := by
  rw [Int32.lt_iff_toInt_lt, pk_sub_toInt (by omega) (by decide), nI_toInt (by omega)]
  omega
theorem cdA_0 {e : Nat} (h : e ≤ 3) : ¬ cdA e = 0 := nI_ne0 (by omega) (by omega)
theorem cdP_0 {e : Nat} (h : e ≤ 3) : ¬ cdP e = 0 := by
  unfold cdP
  split
  · decide
  · exact nI_ne0 (by omega) (by omega)
theorem bp_31 : (Int8.ofInt 31).toInt32 = 31 := by decide +kernel
theorem mw_L_begin : Mw R_L 56 y_L_begin b_L_begin 4 [(0, 9, 12, 13), (0, 9, 15, 15)] 3 := ⟨un 650 (by decide +kernel) (by decide +kernel), un 0 (by decide +kernel) (by decide +kernel), un 649 (by decide +kernel) (by decide +kernel), un 648 (by decide +kernel) (by decide +kernel), ⟨by decide, by decide⟩, by decide +kernel, by decide⟩
theorem mw_L_append : Mw R_L 66 y_L_append b_L_append 6 [(0, 12, 15, 13), (0, 12, 19, 15), (0, 12, 23, 21), (0, 12, 27, 23)] 5 := ⟨un 707 (by decide +kernel) (by decide +kernel), un 0 (by decide +kernel) (by decide +kernel), un 706 (by decide +kernel) (by decide +kernel), un 705 (by decide +kernel) (by decide +kernel), ⟨by decide, by decide⟩, by decide +kernel, by decide⟩
theorem mw_L_commit : Mw R_L 70 y_L_commit b_L_commit 4 [(0, 9, 12, 13), (0, 9, 15, 15)] 3 := ⟨un 794 (by decide +kernel) (by decide +kernel), un 0 (by decide +kernel) (by decide +kernel), un 793 (by decide +kernel) (by decide +kernel), un 792 (by decide +kernel) (by decide +kernel), ⟨by decide, by decide⟩, by decide +kernel, by decide⟩
theorem mw_L_abort : Mw R_L 73 y_L_abort b_L_abort 4 [(0, 9, 12, 13), (0, 9, 15, 15)] 3 := ⟨un 805 (by decide +kernel) (by decide +kernel), un 0 (by decide +kernel) (by decide +kernel), un 804 (by decide +kernel) (by decide +kernel), un 803 (by decide +kernel) (by decide +kernel), ⟨by decide, by decide⟩, by decide +kernel, by decide⟩
theorem mw_L_recover : Mw R_L 81 y_L_recover b_L_recover 5 [(0, 10, 13, 13), (0, 10, 17, 15)] 4 := ⟨un 817 (by decide +kernel) (by decide +kernel), un 0 (by decide +kernel) (by decide +kernel), un 816 (by decide +kernel) (by decide +kernel), un 815 (by decide +kernel) (by decide +kernel), ⟨by decide, by decide⟩, by decide +kernel, by decide⟩
theorem mw_L_pull : Mw R_L 85 y_L_pull b_L_pull 4 [(0, 9, 12, 13), (0, 9, 15, 15), (0, 9, 18, 23)] 3 := ⟨un 829 (by decide +kernel) (by decide +kernel), un 0 (by decide +kernel) (by decide +kernel), un 828 (by decide +kernel) (by decide +kernel), un 827 (by decide +kernel) (by decide +kernel), ⟨by decide, by decide⟩, by decide +kernel, by decide⟩
theorem mw_L_text : Mw R_L 88 y_L_text b_L_text 6 [(0, 12, 15, 13), (0, 12, 19, 15), (0, 12, 23, 23)] 5 := ⟨un 850 (by decide +kernel) (by decide +kernel), un 0 (by decide +kernel) (by decide +kernel), un 849 (by decide +kernel) (by decide +kernel), un 848 (by decide +kernel) (by decide +kernel), ⟨by decide, by decide⟩, by decide +kernel, by decide⟩
