/-! THE REFERENCE: its arrays by place; what it holds -/
theorem nI_mul (a b : Nat) : nI a * nI b = nI (a * b) := (Int32.ofNat_mul a b).symm
theorem rI_s {m : Cs} {a k : Nat} {v : Int32} : (wI m a k v).1 a k = v := by rw [wI_1s, pk_us]
theorem rI_n {m : Cs} {a k b j : Nat} {v : Int32} (h : b ≠ a ∨ j ≠ k) : (wI m a k v).1 b j = m.1 b j := by
  by_cases e : b = a
  · subst e
    rw [wI_1s, pk_un (h.resolve_left (fun h => h rfl))]
  · rw [wI_1n e]
/-- m2 is m but at P's places -/
def Mk (P : Nat → Nat → Prop) (m m2 : Cs) : Prop := (∀ a k, ¬ P a k → m2.1 a k = m.1 a k) ∧ m2.2 = m.2
theorem Mk.rf {P : Nat → Nat → Prop} {m : Cs} : Mk P m m := ⟨fun _ _ _ => rfl, rfl⟩
theorem Mk.tr {P : Nat → Nat → Prop} {m m2 m3 : Cs} (h : Mk P m m2) (g : Mk P m2 m3) : Mk P m m3 := ⟨fun a k hp => (g.1 a k hp).trans (h.1 a k hp), g.2.trans h.2⟩
theorem Mk.up {P P2 : Nat → Nat → Prop} {m m2 : Cs} (h : Mk P m m2) (hp : ∀ a k, P a k → P2 a k) : Mk P2 m m2 := ⟨fun a k q => h.1 a k (fun e => q (hp a k e)), h.2⟩
theorem Mk.wI {P : Nat → Nat → Prop} {m : Cs} {a k : Nat} {v : Int32} (h : P a k) : Mk P m (wI m a k v) := ⟨fun b j hp => rI_n (by
  by_cases e : b = a
  · subst e
    exact Or.inr (fun e => hp (e ▸ h))
  · exact Or.inl e), rfl⟩
def MRec (m : Cs) (i : Nat) (x : Rc) : Prop := m.1 5 i = nI x.off ∧ m.1 6 i = nI x.siz ∧ m.1 7 i = nI x.len ∧ m.1 8 i = eo x.bas ∧ m.1 9 i = eo x.pa ∧ m.1 10 i = eo x.pb ∧ m.2 i = x.nod
def jd : Option (Nat × Nat) → Int32
  | none => -1
  | some p => nI p.1
def MRep (m : Cs) (q : Nat) (R : Rp) : Prop := (m.1 3 q = nI R.dat.length ∧ ∀ k, k < R.dat.length → m.1 2 (600 * q + k) = nI (R.dat.getD k 0)) ∧ (m.1 4 q = nI R.rcs.length ∧ ∀ (n : Nat) (x : Rc), R.rcs[n]? = some x → MRec m (24 * q + n) x) ∧ (m.1 11 q = jd R.jrn ∧ ∀ p, R.jrn = some p → m.1 12 q = nI p.2) ∧ m.1 19 q = b1 (R.dwn = true) ∧ m.1 13 q = nI R.fai
def MAbs (m : Cs) (V : Vt) : Prop := (m.1 0 1 = nI V.1.length ∧ ∀ k, k < V.1.length → m.1 1 k = nI (V.1.getD k 0)) ∧ MRep m 0 (V.2 0) ∧ MRep m 1 (V.2 1)
theorem MAbs.rep {m : Cs} {V : Vt} (h : MAbs m V) {q : Nat} (hq : q < 2) : MRep m q (V.2 q) := by
  rcases (show q = 0 ∨ q = 1 by omega) with rfl | rfl
  · exact h.2.1
  · exact h.2.2
/-- the scratch: thrown, builtLen, textLen, built, next, chain, text -/
def Ms : Nat → Nat → Prop := fun a k => (a = 0 ∧ k ≠ 1) ∨ (14 ≤ a ∧ a ≤ 17)
theorem MRec.mk {P : Nat → Nat → Prop} {m m2 : Cs} {i : Nat} {x : Rc} (h : MRec m i x) (hs : Mk P m m2) (hp : ∀ a, 5 ≤ a → a ≤ 10 → ¬ P a i) : MRec m2 i x := by
  unfold MRec
  rw [hs.1 5 i (hp 5 (by decide) (by decide)), hs.1 6 i (hp 6 (by decide) (by decide)), hs.1 7 i (hp 7 (by decide) (by decide)), hs.1 8 i (hp 8 (by decide) (by decide)), hs.1 9 i (hp 9 (by decide) (by decide)), hs.1 10 i (hp 10 (by decide) (by decide)), hs.2]
  exact h
theorem MRep.ms {m m2 : Cs} {q : Nat} {R : Rp} (h : MRep m q R) (hs : Mk Ms m m2) : MRep m2 q R := by
  have n : ∀ a k, 1 ≤ a → a ≤ 13 ∨ a = 19 → ¬ Ms a k := fun a k h1 h2 => by unfold Ms; omega
  obtain ⟨⟨h1, h2⟩, ⟨h3, h4⟩, ⟨h5, h6⟩, h7, h8⟩ := h
  refine ⟨⟨?_, fun k hk => ?_⟩, ⟨?_, fun k x hx => (h4 k x hx).mk hs (fun a h1 h2 => n a _ (by omega) (by omega))⟩, ⟨?_, fun p hp => ?_⟩, ?_, ?_⟩
  · rw [hs.1 _ _ (n _ _ (by decide) (by decide))]; exact h1
  · rw [hs.1 _ _ (n _ _ (by decide) (by decide))]; exact h2 k hk
  · rw [hs.1 _ _ (n _ _ (by decide) (by decide))]; exact h3
  · rw [hs.1 _ _ (n _ _ (by decide) (by decide))]; exact h5
  · rw [hs.1 _ _ (n _ _ (by decide) (by decide))]; exact h6 p hp
  · rw [hs.1 _ _ (n _ _ (by decide) (by decide))]; exact h7
  · rw [hs.1 _ _ (n _ _ (by decide) (by decide))]; exact h8
theorem MAbs.ms {m m2 : Cs} {V : Vt} (h : MAbs m V) (hs : Mk Ms m m2) : MAbs m2 V := by
  refine ⟨⟨?_, fun k hk => ?_⟩, h.2.1.ms hs, h.2.2.ms hs⟩
  · rw [hs.1 _ _ (by unfold Ms; omega)]; exact h.1.1
  · rw [hs.1 _ _ (by unfold Ms; omega)]; exact h.1.2 k hk
/-- eight bytes into the mix, from the i-th on -/
def mxg (f : Nat → Int64 → Int64) : Nat → Nat → Int64 → Int64
  | 0, _, x => x
  | k + 1, i, x => mxg f k (i + 1) (f i x)
theorem mxg_s (f : Nat → Int64 → Int64) (k i : Nat) (x : Int64) : mxg f (k + 1) i x = mxg f k (i + 1) (f i x) := rfl
theorem mxg_8 (f : Nat → Int64 → Int64) (h : Int64) : mxg f 8 0 h = f 7 (f 6 (f 5 (f 4 (f 3 (f 2 (f 1 (f 0 h))))))) := rfl
theorem sh_all : shI 0 = 56 ∧ shI 1 = 48 ∧ shI 2 = 40 ∧ shI 3 = 32 ∧ shI 4 = 24 ∧ shI 5 = 16 ∧ shI 6 = 8 ∧ shI 7 = 0 := by decide +kernel
def mxf (v : Int64) (i : Nat) (x : Int64) : Int64 := mixB x v (shI i)
theorem mxs_8 (h v : Int64) : mxg (mxf v) 8 0 h = mixL h v := by
  obtain ⟨h0, h1, h2, h3, h4, h5, h6, h7⟩ := sh_all
  rw [mxg_8]
  unfold mxf mixL
  rw [h0, h1, h2, h3, h4, h5, h6, h7]
