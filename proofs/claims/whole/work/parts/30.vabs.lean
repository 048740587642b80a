/-! the system's whole state, and what its questions answer -/
def CAbs (c : Cs) (V : Vt) : Prop := RowIs c 0 V.1 ∧ RepIs c 0 (V.2 0) ∧ RepIs c 1 (V.2 1) ∧ Scr c
def WfV (V : Vt) : Prop := By V.1 ∧ V.1.length ≤ 60 ∧ WfR (V.2 0) ∧ WfR (V.2 1)
theorem CAbs.rep {c : Cs} {V : Vt} (h : CAbs c V) {q : Nat} (hq : q < 2) : RepIs c q (V.2 q) := by
  rcases (show q = 0 ∨ q = 1 by omega) with rfl | rfl
  · exact h.2.1
  · exact h.2.2.1
theorem WfV.rep {V : Vt} (h : WfV V) {q : Nat} (hq : q < 2) : WfR (V.2 q) := by
  rcases (show q = 0 ∨ q = 1 by omega) with rfl | rfl
  · exact h.2.2.1
  · exact h.2.2.2
def upR (V : Vt) (q : Nat) (R : Rp) : Vt := (V.1, fun k => if k = q then R else V.2 k)
theorem upR_s {V : Vt} {q : Nat} {R : Rp} : (upR V q R).2 q = R := by simp [upR]
theorem upR_n {V : Vt} {q k : Nat} {R : Rp} (h : k ≠ q) : (upR V q R).2 k = V.2 k := by simp [upR, h]
/-- putting a repository's new value into the whole -/
theorem CAbs.up {c c2 : Cs} {V : Vt} {q : Nat} {R : Rp} (h : CAbs c V) (hq : q < 2) (hb : RowIs c 0 V.1 → RowIs c2 0 V.1) (hR : RepIs c2 q R) (ho : ∀ k, k < 2 → k ≠ q → RepIs c k (V.2 k) → RepIs c2 k (V.2 k)) (hs : Scr c2) : CAbs c2 (upR V q R) := by
  refine ⟨hb h.1, ?_, ?_, hs⟩
  · by_cases e : 0 = q
    · subst e
      rw [upR_s]
      exact hR
    · rw [upR_n e]
      exact ho 0 (by decide) e h.2.1
  · by_cases e : 1 = q
    · subst e
      rw [upR_s]
      exact hR
    · rw [upR_n e]
      exact ho 1 (by decide) e h.2.2.1
theorem WfV.up {V : Vt} {q : Nat} {R : Rp} (h : WfV V) (hR : WfR R) : WfV (upR V q R) := by
  refine ⟨h.1, h.2.1, ?_, ?_⟩
  · by_cases e : 0 = q
    · subst e
      rw [upR_s]
      exact hR
    · rw [upR_n e]
      exact h.2.2.1
  · by_cases e : 1 = q
    · subst e
      rw [upR_s]
      exact hR
    · rw [upR_n e]
      exact h.2.2.2
def okr (r : Int32) : Prop := 0 ≤ r ∧ r < 2
def barV (V : Vt) (r : Int32) : Int32 := if 0 ≤ r ∧ r < 2 then (if (V.2 r.toNatClampNeg).dwn = true then -2 else 0) else -1
theorem two : (2 : Int32) = nI 2 := by decide +kernel
theorem okr_n {r : Int32} (h : 0 ≤ r ∧ r < 2) : ∃ q, q < 2 ∧ r = nI q := by
  rw [two] at h
  exact nI_at h (by decide)
theorem okr_i {q : Nat} (h : q < 2) : 0 ≤ nI q ∧ nI q < 2 := ⟨nI_pos' (by omega), by rw [two]; exact nI_lt h (by decide)⟩
theorem bar_q {V : Vt} {q : Nat} (hq : q < 2) : barV V (nI q) = if (V.2 q).dwn = true then -2 else 0 := by
  unfold barV
  rw [if_pos (okr_i hq), nI_clamp (by omega)]
theorem bar_0 {V : Vt} {r : Int32} (h : barV V r = 0) : ∃ q, q < 2 ∧ r = nI q ∧ (V.2 q).dwn = false := by
  unfold barV at h
  split at h
  · rename_i h1
    obtain ⟨q, hq, rfl⟩ := okr_n h1
    rw [nI_clamp (by omega)] at h
    split at h
    · exact absurd h (by decide)
    · rename_i h2
      exact ⟨q, hq, rfl, by simpa using h2⟩
  · exact absurd h (by decide)
theorem bar_up {V : Vt} {q : Nat} (hq : q < 2) (h : (V.2 q).dwn = false) : barV V (nI q) = 0 := by
  rw [bar_q hq, if_neg (by rw [h]; exact fun e => by cases e)]
/-- what the questions answer -/
def oRevisions (V : Vt) (r : Int32) : Int32 := if barV V r = 0 then nI (V.2 r.toNatClampNeg).rcs.length else barV V r
def oNode (V : Vt) (r n : Int32) : Int64 := if barV V r = 0 ∧ 0 ≤ n ∧ n < nI (V.2 r.toNatClampNeg).rcs.length then nodP (V.2 r.toNatClampNeg).rcs (some n.toNatClampNeg) else 0
def oData (V : Vt) (r k : Int32) : Int32 := if barV V r = 0 then (if k = -1 then nI (V.2 r.toNatClampNeg).dat.length else if 0 ≤ k ∧ k < nI (V.2 r.toNatClampNeg).dat.length then nI ((V.2 r.toNatClampNeg).dat.getD k.toNatClampNeg 0) else -1) else barV V r
def oWrong (V : Vt) (r : Int32) : Int32 := if barV V r = 0 then nI (cw (V.2 r.toNatClampNeg).dat (V.2 r.toNatClampNeg).rcs (V.2 r.toNatClampNeg).rcs.length) else barV V r
def oFail (V : Vt) (r n : Int32) : Bool × Vt := if barV V r = 0 ∧ 0 ≤ n ∧ n ≤ 100 then (true, upR V r.toNatClampNeg ((V.2 r.toNatClampNeg).dat, (V.2 r.toNatClampNeg).rcs, (V.2 r.toNatClampNeg).jrn, (V.2 r.toNatClampNeg).dwn, n.toNatClampNeg)) else (false, V)
theorem nI_100 : (100 : Int32) = nI 100 := by decide +kernel
theorem RepIs.fa {c : Cs} {q n : Nat} {R : Rp} (h : RepIs c q R) (hq : q < 2) : RepIs (wI c (20 + q) 5 (nI n)) q (R.dat, R.rcs, R.jrn, R.dwn, n) := by
  refine h.fs hq sm_c1 ⟨?_, ?_, fun p hp => ?_, ?_, ?_⟩ rfl h.2.2.1 (fun _ _ h => h)
  · rw [wI_1s, pk_un (by decide)]
    exact h.1.1
  · rw [wI_1s, pk_un (by decide)]
    exact h.1.2.1
  · rw [wI_1s, pk_un (by decide), pk_un (by decide)]
    exact h.1.2.2.1 p hp
  · rw [wI_1s, pk_un (by decide)]
    exact h.1.2.2.2.1
  · rw [wI_1s, pk_us]
    rfl
theorem CAbs.ci {c c2 : Cs} {V : Vt} {q : Nat} {R : Rp} (h : CAbs c V) (hq : q < 2) (hs : Sm (Ci (20 + q)) c c2) (hR : RepIs c2 q R) : CAbs c2 (upR V q R) := h.up hq (fun k => k.sm hs (by unfold Ci; omega) (by unfold Ci; omega)) hR (fun k hk hn g => g.gm hs (fun t ht => by unfold Ci; omega)) (h.2.2.2.gm hs (fun r hr k hk => by unfold Ci; omega))
