/-! calls that may throw: an answer, or the number of what is thrown -/
abbrev Rs : Type := Int32 ⊕ Nat
def exN : Nat → String
  | 0 => E_IOOBE
  | 1 => E_ISE
  | 2 => E_IAE
  | _ => E_UOE
def onR (V : Vt) (r : Int32) (f : Nat → Rp → Rs × Vt) : Rs × Vt := if 0 ≤ r ∧ r < 2 then f r.toNatClampNeg (V.2 r.toNatClampNeg) else (.inr 0, V)
theorem onR_y {V : Vt} {q : Nat} {f : Nat → Rp → Rs × Vt} (hq : q < 2) : onR V (nI q) f = f q (V.2 q) := by
  unfold onR
  rw [if_pos (okr_i hq), nI_clamp (by omega)]
theorem onR_n {V : Vt} {r : Int32} {f : Nat → Rp → Rs × Vt} (h : ¬ (0 ≤ r ∧ r < 2)) : onR V r f = (.inr 0, V) := by
  unfold onR
  rw [if_neg h]
def od (p : Int32) : Option Nat := if p = -1 then none else some p.toNatClampNeg
abbrev can (R : Rp) (p : Int32) : Prop := p = -1 ∨ (0 ≤ p ∧ p < nI R.rcs.length)
theorem can_od {R : Rp} {p : Int32} (h : can R p) (h24 : R.rcs.length ≤ 24) : eo (od p) = p ∧ ∀ n, od p = some n → n < R.rcs.length := by
  rcases h with rfl | h
  · exact ⟨rfl, fun n h => by cases h⟩
  · obtain ⟨k, hk, rfl⟩ := nI_at h (by omega)
    have e : od (nI k) = some k := by
      unfold od
      rw [if_neg (nI_m1 (by omega)), nI_clamp (by omega)]
    rw [e]
    exact ⟨rfl, fun n h => by cases h; exact hk⟩
def atV (t : List Nat) (k : Int32) : Int32 := if 0 ≤ k ∧ k < nI t.length then nI (t.getD k.toNatClampNeg 0) else 0
theorem atC_v {c : Cs} {j : Nat} {t : List Nat} {k : Int32} (h : RowIs c j t) (hl : t.length < 2 ^ 20) : atC c j k = atV t k := by
  unfold atC atV
  rw [h.1]
  split
  · rename_i h1
    obtain ⟨i, hi, rfl⟩ := nI_at h1 (by omega)
    rw [nI_clamp (by omega), h.2.2 i hi]
  · rfl
def oBegin (V : Vt) (r : Int32) : Rs × Vt := onR V r (fun q R => if R.dwn = true ∨ R.jrn.isSome = true then (.inr 1, V) else (.inl (if (begn R).1 = true then 0 else -2), upR V q (begn R).2))
def oCommit (V : Vt) (r : Int32) : Rs × Vt := onR V r (fun q R => if R.dwn = true ∨ ¬ R.jrn.isSome = true then (.inr 1, V) else (.inl (if (fini R).1 = true then 0 else -2), upR V q (fini R).2))
def oAbort (V : Vt) (r : Int32) : Rs × Vt := onR V r (fun q R => if R.dwn = true then (.inr 1, V) else match R.jrn with
  | none => (.inr 1, V)
  | some p => (.inl (Int32.ofInt (roll R p.1 p.2).1), upR V q (roll R p.1 p.2).2))
def oRecover (V : Vt) (r n : Int32) : Rs × Vt := onR V r (fun q R => if 0 ≤ n ∧ n ≤ 3 then (if R.dwn = true then (.inl (Int32.ofInt (recov R n.toNatClampNeg).1), upR V q (recov R n.toNatClampNeg).2) else (.inr 1, V)) else (.inr 0, V))
def oPull (V : Vt) (r : Int32) : Rs × Vt := onR V r (fun q R => if R.dwn = true ∨ R.jrn.isSome = true ∨ (V.2 (1 - q)).dwn = true ∨ (V.2 (1 - q)).jrn.isSome = true then (.inr 1, V) else if (pullV R (V.2 (1 - q))).1 = -4 then (.inr 3, upR V q (pullV R (V.2 (1 - q))).2) else (.inl (Int32.ofInt (pullV R (V.2 (1 - q))).1), upR V q (pullV R (V.2 (1 - q))).2))
def oText (V : Vt) (r n k : Int32) : Rs × Vt := onR V r (fun _ R => if 0 ≤ n ∧ n < nI R.rcs.length then (if R.dwn = true then (.inr 1, V) else match built R.dat R.rcs n.toNatClampNeg with
  | none => (.inr 3, V)
  | some t => (.inl (atV t k), V)) else (.inr 0, V))
def oAppend (V : Vt) (r p1 p2 : Int32) : Rs × Vt := onR V r (fun q R => if R.dwn = true ∨ ¬ R.jrn.isSome = true then (.inr 1, V) else if can R p1 ∧ can R p2 then (if (stor R (od p1) (od p2) V.1).1 = -4 then (.inr 3, upR V q (stor R (od p1) (od p2) V.1).2) else (.inl (Int32.ofInt (stor R (od p1) (od p2) V.1).1), upR V q (stor R (od p1) (od p2) V.1).2)) else (.inr 2, V))
theorem plp_all {O : Rp} (wO : WfR O) : ∀ (m n : Nat) (R : Rp), WfR R → R.dwn = false → WfR (plp O m n R).2 ∧ Pfx R (plp O m n R).2 ∧ ((plp O m n R).1 = -2 ∨ ((plp O m n R).1 = -4 ∧ (plp O m n R).2.dwn = false) ∨ ((plp O m n R).1 = 0 ∧ (plp O m n R).2.dwn = false))
  | 0, n, R, h, hd => ⟨h, Pfx.rf, Or.inr (Or.inr ⟨rfl, hd⟩)⟩
  | m + 1, n, R, h, hd => by
    cases hx : O.rcs[n]? with
    | none =>
      have e : plp O (m + 1) n R = (0, R) := by
        conv => lhs; unfold plp
        rw [hx]
      rw [e]
      exact ⟨h, Pfx.rf, Or.inr (Or.inr ⟨rfl, hd⟩)⟩
    | some x =>
      cases hf : find R.rcs x.nod with
      | some k =>
        rw [plp_f hx hf]
        exact plp_all wO m (n + 1) R h hd
      | none =>
        cases hb : built O.dat O.rcs n with
        | none =>
          rw [plp_n hx hf hb]
          exact ⟨h, Pfx.rf, Or.inr (Or.inl ⟨rfl, hd⟩)⟩
        | some t =>
          rw [plp_s hx hf hb]
          have hbt := by_built wO.1 hb
          obtain ⟨w1, w2, w3⟩ := stor_all (p := twn R O x.pa) (q := twn R O x.pb) h hd twn_lt twn_lt hbt.1 hbt.2
          split
          · rename_i h2
            rcases h2 with h2 | h2
            · exact ⟨w1, w2, Or.inl h2⟩
            · exact ⟨w1, w2, Or.inr (Or.inl ⟨h2, stor_d4 hd h2⟩)⟩
          · rename_i h2
            have hdd : (stor R (twn R O x.pa) (twn R O x.pb) t).2.dwn = false := by
              rcases w3 with w3 | w3 | w3
              · exact absurd (Or.inl w3) h2
              · exact absurd (Or.inr w3) h2
              · exact w3.1
            obtain ⟨v1, v2, v3⟩ := plp_all wO m (n + 1) _ w1 hdd
            exact ⟨v1, w2.tr v2, v3⟩
theorem pull_all {R O : Rp} (wR : WfR R) (wO : WfR O) (hd : R.dwn = false) : WfR (pullV R O).2 ∧ ((pullV R O).1 = -2 ∨ (pullV R O).1 = -4 ∨ ∃ n : Nat, n ≤ 24 ∧ (pullV R O).1 = n) := by
  by_cases hb : (begn R).1 = true
  · have wB := begn_wf wR hd
    obtain ⟨b1, b2, b3, b4⟩ := begn_all hb hd
    obtain ⟨v1, v2, v3⟩ := plp_all wO O.rcs.length 0 (begn R).2 wB b4
    unfold pullV
    rw [if_pos hb]
    rcases v3 with v3 | ⟨v3, v4⟩ | ⟨v3, v4⟩
    · rw [if_pos v3]
      exact ⟨v1, Or.inl v3⟩
    · rw [if_neg (by rw [v3]; decide), if_pos v3]
      exact ⟨wR, Or.inr (Or.inl rfl)⟩
    · rw [if_neg (by rw [v3]; decide), if_neg (by rw [v3]; decide)]
      refine ⟨fini_wf v1 v4, ?_⟩
      by_cases hf : (fini (plp O O.rcs.length 0 (begn R).2).2).1 = true
      · right; right
        refine ⟨(plp O O.rcs.length 0 (begn R).2).2.rcs.length - R.rcs.length, ?_, if_pos hf⟩
        have := v1.2.2.1
        omega
      · exact Or.inl (if_neg hf)
  · rw [pull_b hb]
    exact ⟨begn_wf wR hd, Or.inl rfl⟩
theorem stI_n {a : Int} (h : ¬ a = -4) : stI a = Int32.ofInt a := by
  unfold stI
  rw [if_neg h]
/-- what the calls leave is well-formed -/
theorem oBegin_wf {V : Vt} {r : Int32} (h : WfV V) : WfV (oBegin V r).2 := by
  by_cases h0 : 0 ≤ r ∧ r < 2
  · obtain ⟨q, hq, rfl⟩ := okr_n h0
    unfold oBegin
    rw [onR_y hq]
    split
    · exact h
    · rename_i h1
      exact h.up (begn_wf (h.rep hq) (by simpa using fun e => h1 (Or.inl e)))
  · unfold oBegin
    rw [onR_n h0]
    exact h
theorem oCommit_wf {V : Vt} {r : Int32} (h : WfV V) : WfV (oCommit V r).2 := by
  by_cases h0 : 0 ≤ r ∧ r < 2
  · obtain ⟨q, hq, rfl⟩ := okr_n h0
    unfold oCommit
    rw [onR_y hq]
    split
    · exact h
    · rename_i h1
      exact h.up (fini_wf (h.rep hq) (by simpa using fun e => h1 (Or.inl e)))
  · unfold oCommit
    rw [onR_n h0]
    exact h
theorem oAbort_wf {V : Vt} {r : Int32} (h : WfV V) : WfV (oAbort V r).2 := by
  by_cases h0 : 0 ≤ r ∧ r < 2
  · obtain ⟨q, hq, rfl⟩ := okr_n h0
    unfold oAbort
    rw [onR_y hq]
    split
    · exact h
    · rename_i h1
      cases hj : (V.2 q).jrn with
      | none => exact h
      | some p => exact h.up (roll_wf (h.rep hq) (by simpa using h1) hj)
  · unfold oAbort
    rw [onR_n h0]
    exact h
theorem oRecover_wf {V : Vt} {r n : Int32} (h : WfV V) : WfV (oRecover V r n).2 := by
  by_cases h0 : 0 ≤ r ∧ r < 2
  · obtain ⟨q, hq, rfl⟩ := okr_n h0
    unfold oRecover
    rw [onR_y hq]
    split
    · rename_i h1
      obtain ⟨k, hk, rfl⟩ := nI_of2 (M := 3) (n := 3) (by decide +kernel) (Int32.not_lt.mpr h1.1) h1.2
      split
      · exact h.up (recov_wf (h.rep hq) (by rw [nI_clamp (by omega)]; omega))
      · exact h
    · exact h
  · unfold oRecover
    rw [onR_n h0]
    exact h
theorem oPull_wf {V : Vt} {r : Int32} (h : WfV V) : WfV (oPull V r).2 := by
  by_cases h0 : 0 ≤ r ∧ r < 2
  · obtain ⟨q, hq, rfl⟩ := okr_n h0
    unfold oPull
    rw [onR_y hq]
    split
    · exact h
    · rename_i h1
      have w := (pull_all (h.rep hq) (h.rep (show 1 - q < 2 by omega)) (by simpa using fun e => h1 (Or.inl e))).1
      split
      · exact h.up w
      · exact h.up w
  · unfold oPull
    rw [onR_n h0]
    exact h
theorem oText_wf {V : Vt} {r n k : Int32} (h : WfV V) : (oText V r n k).2 = V := by
  unfold oText onR
  split
  · dsimp only
    split
    · split
      · rfl
      · split <;> rfl
    · rfl
  · rfl
theorem oAppend_wf {V : Vt} {r p1 p2 : Int32} (h : WfV V) : WfV (oAppend V r p1 p2).2 := by
  by_cases h0 : 0 ≤ r ∧ r < 2
  · obtain ⟨q, hq, rfl⟩ := okr_n h0
    unfold oAppend
    rw [onR_y hq]
    split
    · exact h
    · rename_i h1
      split
      · rename_i h2
        have w := (stor_all (p := od p1) (q := od p2) (t := V.1) (h.rep hq) (by simpa using fun e => h1 (Or.inl e)) (can_od h2.1 (h.rep hq).2.2.1).2 (can_od h2.2 (h.rep hq).2.2.1).2 h.1 h.2.1).1
        split
        · exact h.up w
        · exact h.up w
      · exact h
  · unfold oAppend
    rw [onR_n h0]
    exact h
