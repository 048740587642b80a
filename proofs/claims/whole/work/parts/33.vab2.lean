def oHeads (V : Vt) (r : Int32) : Int32 := if barV V r = 0 then nI (V.2 r.toNatClampNeg).rcs.length - bitc (pall (V.2 r.toNatClampNeg).rcs (V.2 r.toNatClampNeg).rcs.length) else barV V r
def inr (R : Rp) (n : Int32) : Prop := 0 ≤ n ∧ n < nI R.rcs.length
def oCommon (V : Vt) (r a b : Int32) : Int32 := if barV V r = 0 then (if (0 ≤ a ∧ a < nI (V.2 r.toNatClampNeg).rcs.length) ∧ (0 ≤ b ∧ b < nI (V.2 r.toNatClampNeg).rcs.length) then eo (gcl (anc (V.2 r.toNatClampNeg).rcs a.toNatClampNeg &&& anc (V.2 r.toNatClampNeg).rcs b.toNatClampNeg) (min a.toNatClampNeg b.toNatClampNeg + 1)) else -1) else barV V r
def oFld (x : Rc) (k : Int32) : Int32 := if k = nI 0 then nI x.off else if k = nI 1 then nI x.siz else if k = nI 2 then nI x.len else if k = nI 3 then eo x.bas else if k = nI 4 then eo x.pa else if k = nI 5 then eo x.pb else -1
def oRecord (V : Vt) (r n k : Int32) : Int32 := if barV V r = 0 then (if 0 ≤ n ∧ n < nI (V.2 r.toNatClampNeg).rcs.length then (match (V.2 r.toNatClampNeg).rcs[n.toNatClampNeg]? with
    | none => -1
    | some x => oFld x k) else -1) else barV V r
def oDamage (V : Vt) (r k x : Int32) : Bool × Vt := if barV V r = 0 ∧ (1 ≤ x ∧ x ≤ 255) ∧ 0 ≤ k ∧ k < nI (V.2 r.toNatClampNeg).dat.length then (true, upR V r.toNatClampNeg ((V.2 r.toNatClampNeg).dat.set k.toNatClampNeg ((V.2 r.toNatClampNeg).dat.getD k.toNatClampNeg 0 ^^^ x.toNatClampNeg), (V.2 r.toNatClampNeg).rcs, (V.2 r.toNatClampNeg).jrn, (V.2 r.toNatClampNeg).dwn, (V.2 r.toNatClampNeg).fai)) else (false, V)
theorem nI_xor (a b : Nat) : nI a ^^^ nI b = nI (a ^^^ b) := by
  unfold nI
  apply Int32.toBitVec_inj.mp
  simp [BitVec.ofNat_xor]
theorem WfR.par {R : Rp} (h : Wfs R.dat.length R.rcs) : ∀ (n : Nat) (x : Rc), R.rcs[n]? = some x → (∀ b, x.pa = some b → b < n) ∧ ∀ b, x.pb = some b → b < n := fun n x hx => ⟨(h n x hx).2.1, (h n x hx).2.2.1⟩
theorem RowIs.flp {c : Cs} {j i y : Nat} {xs : List Nat} (h : RowIs c j xs) (hj : j < 9) (hi : i < xs.length) : RowIs (wI c (10 + j) i (nI (xs.getD i 0) ^^^ nI y)) j (xs.set i (xs.getD i 0 ^^^ y)) := by
  refine ⟨?_, by rw [List.length_set]; exact h.2.1, fun k hk => ?_⟩
  · rw [wI_1n (by omega), List.length_set]
    exact h.1
  · rw [List.length_set] at hk
    rw [wI_1s]
    by_cases e : k = i
    · subst e
      rw [pk_us, nI_xor, List.getD_eq_getElem?_getD, List.getD_eq_getElem?_getD, List.getElem?_set_self hk]
      rfl
    · rw [pk_un e, h.2.2 k hk, List.getD_eq_getElem?_getD, List.getD_eq_getElem?_getD, List.getElem?_set_ne (Ne.symm e)]
theorem dmg_wf {R : Rp} {i y : Nat} (h : WfR R) (hy : y < 256) : WfR (R.dat.set i (R.dat.getD i 0 ^^^ y), R.rcs, R.jrn, R.dwn, R.fai) := by
  obtain ⟨a1, a2, a3, a4, a5, a6, a7⟩ := h
  have e : (R.dat.set i (R.dat.getD i 0 ^^^ y)).length = R.dat.length := List.length_set ..
  refine ⟨fun x hx => ?_, ?_, a3, a4, a5, fun d n hj => ?_, fun q => ?_⟩
  · rcases List.mem_or_eq_of_mem_set hx with h1 | h1
    · exact a1 x h1
    · rw [h1]
      exact Nat.xor_lt_two_pow (n := 8) (a1.get i) hy
  · show (R.dat.set i _).length ≤ 600
    rw [e]
    exact a2
  · show d ≤ (R.dat.set i _).length ∧ _
    rw [e]
    exact a6 d n hj
  · show Wfs (R.dat.set i _).length R.rcs
    rw [e]
    exact a7 q
/-- typing: eight bytes, the topmost first -/
def shI (i : Nat) : Int32 := Int32.ofInt (56 - 8 * (i : Int))
theorem sh_lt : ∀ i, i < 8 → ¬ shI i < 0 := by decide +kernel
theorem sh_8 : shI 8 < 0 := by decide +kernel
theorem sh_s : ∀ i, i < 8 → shI i + Int32.ofInt (-8) = shI (i + 1) := by decide +kernel
def bn (v : Int64) (i : Nat) : Nat := (byt v (shI i)).toNatClampNeg
theorem bn_v (v : Int64) (i : Nat) : byt v (shI i) = nI (bn v i) ∧ bn v i < 256 := by
  obtain ⟨j, hj, he⟩ := pk_andE ((v.toUInt64 >>> ((shI i).toInt64.toUInt64 &&& Int64.toUInt64 63)).toInt64.toInt32) (m := 255) 8 (by decide +kernel)
  have e : byt v (shI i) = nI j := he
  unfold bn
  rw [e, nI_clamp (by omega)]
  exact ⟨rfl, hj⟩
abbrev chr (n : Nat) : Prop := n = 10 ∨ (32 ≤ n ∧ n ≤ 126)
def tyL (v : Int64) : Nat → List Nat
  | 0 => []
  | i + 1 => tyL v i ++ (if bn v i = 0 then [] else [bn v i])
theorem tyL_len (v : Int64) : ∀ i, (tyL v i).length ≤ i
  | 0 => Nat.le_refl _
  | i + 1 => by
    have := tyL_len v i
    unfold tyL
    rw [List.length_append]
    split <;> simp <;> omega
theorem tyL_0 {v : Int64} {i : Nat} (h : bn v i = 0) : tyL v (i + 1) = tyL v i := by
  conv => lhs; unfold tyL
  rw [if_pos h, List.append_nil]
theorem tyL_1 {v : Int64} {i : Nat} (h : ¬ bn v i = 0) : tyL v (i + 1) = tyL v i ++ [bn v i] := by
  conv => lhs; unfold tyL
  rw [if_neg h]
abbrev tyOk (v : Int64) : Prop := ∀ i, i < 8 → bn v i = 0 ∨ chr (bn v i)
theorem tyL_mono (v : Int64) : ∀ m i, (tyL v i).length ≤ (tyL v (i + m)).length
  | 0, i => Nat.le_refl _
  | m + 1, i => by
    have h := tyL_mono v m i
    have e : (tyL v (i + (m + 1))).length = (tyL v (i + m) ++ (if bn v (i + m) = 0 then [] else [bn v (i + m)])).length := rfl
    rw [e, List.length_append]
    omega
theorem sh_0 : shI 0 = 56 := by decide +kernel
def oType (V : Vt) (v : Int64) : Bool × Vt := if tyOk v ∧ V.1.length + (tyL v 8).length ≤ 60 then (true, (V.1 ++ tyL v 8, V.2)) else (false, V)
theorem chr_lt {n : Nat} (h : chr n) : n < 256 := by
  rcases h with h | h <;> omega
theorem by_tyL {v : Int64} : ∀ i, By (tyL v i)
  | 0 => fun x hx => by cases hx
  | i + 1 => by
    unfold tyL
    refine (by_tyL i).app ?_
    split
    · intro x hx
      cases hx
    · intro x hx
      rw [List.mem_singleton.mp hx]
      exact (bn_v v i).2
theorem type_wf {V : Vt} {v : Int64} (h : WfV V) : WfV (oType V v).2 := by
  unfold oType
  split
  · rename_i hc
    exact ⟨h.1.app (by_tyL 8), by show (V.1 ++ tyL v 8).length ≤ 60; rw [List.length_append]; exact hc.2, h.2.2.1, h.2.2.2⟩
  · exact h
