/-! records and repositories -/
def RecIs (c : Cs) (i : Nat) (x : Rc) : Prop := c.1 (26 + i) 0 = nI x.off ∧ c.1 (26 + i) 1 = nI x.siz ∧ c.1 (26 + i) 2 = nI x.len ∧ c.1 (26 + i) 3 = eo x.bas ∧ c.1 (26 + i) 4 = eo x.pa ∧ c.1 (26 + i) 5 = eo x.pb ∧ c.2 i = x.nod
def RcX (c : Cs) (r : Nat) (rs : List Rc) : Prop := rs.length ≤ 24 ∧ ∀ n x, rs[n]? = some x → RecIs c (24 * r + n) x
def RpF (f : Nat → Int32) (R : Rp) : Prop := f 0 = nI R.rcs.length ∧ f 1 = b1 (R.jrn.isSome = true) ∧ (∀ p, R.jrn = some p → f 2 = nI p.1 ∧ f 3 = nI p.2) ∧ f 4 = b1 (R.dwn = true) ∧ f 5 = nI R.fai
def RepIs (c : Cs) (r : Nat) (R : Rp) : Prop := RpF (c.1 (20 + r)) R ∧ RowIs c (1 + 4 * r) R.dat ∧ RcX c r R.rcs
/-- what a record may point at, the n-th -/
def WfX (d : Nat) (rs : List Rc) (n : Nat) (x : Rc) : Prop := (∀ b, x.bas = some b → b < n) ∧ (∀ b, x.pa = some b → b < n) ∧ (∀ b, x.pb = some b → b < n) ∧ 1 ≤ x.siz ∧ x.siz ≤ 121 ∧ x.len ≤ 60 ∧ x.off + x.siz ≤ d ∧ chn rs 6 (some n) ≠ none
theorem lg_c0 {x y : Int64} : lg_cmp x y = 0 ↔ x = y := by
  unfold lg_cmp
  constructor
  · intro h
    split at h
    · exact absurd h (by decide)
    · split at h
      · assumption
      · exact absurd h (by decide)
  · intro h
    subst h
    rw [if_neg (by intro h; exact absurd h (by simp [Int64.lt_iff_toInt_lt])), if_pos rfl]
theorem nI_m1 {n : Nat} (h : n < 2 ^ 31) : ¬ nI n = -1 := by
  intro e
  have h1 := nI_toInt h
  rw [e] at h1
  have h2 : (-1 : Int32).toInt = -1 := by decide +kernel
  omega
theorem eo_m1 {o : Option Nat} (h : ∀ n, o = some n → n < 2 ^ 31) : eo o = -1 ↔ o = none := by
  cases o with
  | none => exact ⟨fun _ => rfl, fun _ => rfl⟩
  | some n => exact ⟨fun e => absurd e (nI_m1 (h n rfl)), fun e => by cases e⟩
theorem RecIs.sm {P : Nat → Prop} {c c2 : Cs} {i : Nat} {x : Rc} (h : RecIs c i x) (hs : Sm P c c2) (h1 : ¬ P (26 + i)) : RecIs c2 i x := by
  unfold RecIs
  rw [hs.1 _ h1, hs.2]
  exact h
theorem RcX.sm {P : Nat → Prop} {c c2 : Cs} {r : Nat} {rs : List Rc} (h : RcX c r rs) (hs : Sm P c c2) (h1 : ∀ t, 26 ≤ t → ¬ P t) : RcX c2 r rs := ⟨h.1, fun n x hx => (h.2 n x hx).sm hs (h1 _ (by omega))⟩
theorem RcX.lt {c : Cs} {r n : Nat} {rs : List Rc} {x : Rc} (h : RcX c r rs) (hx : rs[n]? = some x) : n < 24 := by
  have h1 := (List.getElem?_eq_some_iff.mp hx).1
  have h2 := h.1
  omega
