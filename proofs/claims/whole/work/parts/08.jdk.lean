theorem jl_Cod_41 : Cond.methodLink R_Cod 41 Lib.Math.min.name ∈ UNI := un 759 (by decide +kernel) (by decide +kernel)
theorem jl_Rep_140 : Cond.methodLink R_Rep 140 Lib.MathLoose.min_long.x ∈ UNI := un 605 (by decide +kernel) (by decide +kernel)
theorem jl_Rep_149 : Cond.methodLink R_Rep 149 Lib.MathLoose.max_long.x ∈ UNI := un 613 (by decide +kernel) (by decide +kernel)
theorem jl_Rep_211 : Cond.methodLink R_Rep 211 Lib.Math.min.name ∈ UNI := un 647 (by decide +kernel) (by decide +kernel)
theorem jl_Row_30 : Cond.methodLink R_Row 30 arraycopyName ∈ UNI := un 247 (by decide +kernel) (by decide +kernel)
theorem js_maxl : Cond.static Lib.MathLoose.max_long.x ∈ UNI := un 614 (by decide +kernel) (by decide +kernel)
theorem jc_maxl : Cond.code Lib.MathLoose.max_long.x Lib.MathLoose.max_long.code 4 (some .long) ∈ UNI := un 615 (by decide +kernel) (by decide +kernel)
theorem js_min : Cond.static Lib.Math.min.name ∈ UNI := un 377 (by decide +kernel) (by decide +kernel)
theorem jc_min : Cond.code Lib.Math.min.name Lib.Math.min.code 2 (some .int) ∈ UNI := un 378 (by decide +kernel) (by decide +kernel)
theorem js_minl : Cond.static Lib.MathLoose.min_long.x ∈ UNI := un 606 (by decide +kernel) (by decide +kernel)
theorem jc_minl : Cond.code Lib.MathLoose.min_long.x Lib.MathLoose.min_long.code 4 (some .long) ∈ UNI := un 607 (by decide +kernel) (by decide +kernel)
theorem js_copy : Cond.static arraycopyName ∈ UNI := un 248 (by decide +kernel) (by decide +kernel)
theorem jn_copy : Cond.native arraycopyName ∈ UNI := un 249 (by decide +kernel) (by decide +kernel)
theorem ji_math : Cond.initialized "java/lang/Math" ∈ UNI := un 12 (by decide +kernel) (by decide +kernel)
theorem ji_sys : Cond.initialized "java/lang/System" ∈ UNI := un 14 (by decide +kernel) (by decide +kernel)
section GJ
variable {X : Cx} {D : Dt} {Q : State → Prop} {z : Nat × Nat} {σ : Sg} {c m : Cs} {τ : Cs × (Nat → Int64)} {pc index : Nat} {L : Lc} {st : List Value} {own : String} {cc : ByteArray} {nL d : Nat} {ret : Option FieldType}
theorem g_mmin (C : Fx X D own cc nL d ret) {x y : Int32} (hl : Cond.methodLink own index Lib.Math.min.name ∈ UNI) (hd : decode cc pc = .ok (.invokestatic index, 3)) (hd2 : 1 ≤ d) (hr : (st.map fun v => v.category).sum ≤ 8) (hz : z.1 ≤ X.2.2.2.1.cells ∧ z.2 ≤ X.2.2.2.1.slots)
    (kk : G X D Q z σ (pc + 3) L (.int (if y < x then y else x) :: st)) : G X D Q z σ pc L (.int y :: .int x :: st) := by
  intro H locs ls hP hS hL
  have h1 := C.rm.1
  have h2 := C.rm.2
  exact va_mmin C.ex C.bt hL.1.symm C.ow (C.ts _ hl) (C.ts _ js_min) (C.ts _ ji_math) (C.ts _ jc_min) (by omega) (by omega) hz.1 hz.2 hd (kk H locs ls hP hS hL)
theorem g_mminl (C : Fx X D own cc nL d ret) {x y : Int64} (hl : Cond.methodLink own index Lib.MathLoose.min_long.x ∈ UNI) (hd : decode cc pc = .ok (.invokestatic index, 3)) (hd2 : 1 ≤ d) (hr : (st.map fun v => v.category).sum ≤ 8) (hz : z.1 ≤ X.2.2.2.1.cells ∧ z.2 ≤ X.2.2.2.1.slots)
    (kk : G X D Q z σ (pc + 3) L (.long (if y < x then y else x) :: st)) : G X D Q z σ pc L (.long y :: .long x :: st) := by
  intro H locs ls hP hS hL
  have h1 := C.rm.1
  have h2 := C.rm.2
  exact va_mmin_long C.ex C.bt hL.1.symm C.ow (C.ts _ hl) (C.ts _ js_minl) (C.ts _ ji_math) (C.ts _ jc_minl) (by omega) (by omega) hz.1 hz.2 hd (kk H locs ls hP hS hL)
theorem g_mmaxl (C : Fx X D own cc nL d ret) {x y : Int64} (hl : Cond.methodLink own index Lib.MathLoose.max_long.x ∈ UNI) (hd : decode cc pc = .ok (.invokestatic index, 3)) (hd2 : 1 ≤ d) (hr : (st.map fun v => v.category).sum ≤ 8) (hz : z.1 ≤ X.2.2.2.1.cells ∧ z.2 ≤ X.2.2.2.1.slots)
    (kk : G X D Q z σ (pc + 3) L (.long (if y < x then x else y) :: st)) : G X D Q z σ pc L (.long y :: .long x :: st) := by
  intro H locs ls hP hS hL
  have h1 := C.rm.1
  have h2 := C.rm.2
  exact va_mmax_long C.ex C.bt hL.1.symm C.ow (C.ts _ hl) (C.ts _ js_maxl) (C.ts _ ji_math) (C.ts _ jc_maxl) (by omega) (by omega) hz.1 hz.2 hd (kk H locs ls hP hS hL)
theorem nat_words : nativeFrameWords "java/lang/System" "arraycopy" 5 + 11 ≤ 52 := by decide +kernel
theorem g_copy (C : Fx X D own cc nL d ret) {j1 j2 sp dp n : Nat} (h1 : j1 < 9) (h2 : j2 < 9) (h3 : sp + n ≤ rln j1) (h4 : dp + n ≤ rln j2) (hl : Cond.methodLink own index arraycopyName ∈ UNI) (hd : decode cc pc = .ok (.invokestatic index, 3)) (hd2 : 1 ≤ d) (hr : (st.map fun v => v.category).sum ≤ 8)
    (kk : G X D Q z ((wA c (10 + j2) (va_cpy (c.1 (10 + j1)) (c.1 (10 + j2)) sp dp n), τ) : Sg) (pc + 3) L st) : G X D Q z ((c, τ) : Sg) pc L (.int (nI n) :: .int (nI dp) :: .ref (aArr D j2) :: .int (nI sp) :: .ref (aArr D j1) :: st) := by
  intro H locs ls hP hS hL
  have r1 := C.rm.1
  have r2 := C.rm.2
  have q1 := rln_le j1
  have q2 := rln_le j2
  have nw := nat_words
  have e1 : (nI sp).toNatClampNeg = sp := nI_clamp (by omega)
  have e2 : (nI dp).toNatClampNeg = dp := nI_clamp (by omega)
  have e3 : (nI n).toNatClampNeg = n := nI_clamp (by omega)
  refine va_copyi C.ex C.bt hL.1.symm C.ow (C.ts _ hl) (C.ts _ jn_copy) (C.ts _ js_copy) (C.ts _ ji_sys) C.kk hP (wld_D C.ok _) hS (10 + j1) (10 + j2) 0 0 (ty := .int) (by rw [wld_at (by omega), ct_arr h1]; rfl) (by rw [wld_at (by omega), ct_arr h2]; rfl) rfl rfl rfl (nI_pos (by omega)) (nI_pos (by omega)) (nI_pos (by omega)) (by rw [e1, e3]; exact h3) (by rw [e2, e3]; exact h4) (fun _ _ => rfl) (by omega) (by omega) hd (fun H1 locs1 hP1 _ hS1 => kk H1 locs1 ls ?_ hS1 hL)
  rw [e1, e2, e3] at hP1
  have hw : (wld D ((c, τ) : Sg)).set (10 + j2) (aArr D j2, .inl (D.2.2.1 0, rln j2, .inl (va_cpy (c.1 (10 + j1)) (c.1 (10 + j2)) sp dp n))) = wld D ((wA c (10 + j2) (va_cpy (c.1 (10 + j1)) (c.1 (10 + j2)) sp dp n), τ) : Sg) := wld_set (t := 10 + j2) (by omega) (by rw [ct_arr h2]; simp [wA, upA]) ct_oA
  rw [← hw]
  exact hP1
end GJ
