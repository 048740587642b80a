/-! THE STATE. The system's ints by cell and place, nodes of its records; the reference's ints and nodes; the law's answer cell -/
abbrev Cs : Type := (Nat → Nat → Int32) × (Nat → Int64)
abbrev Sg : Type := Cs × Cs × (Nat → Int64)
/-- the world's places: class numbers and slots; addresses by cell; array kinds; the state at the law's start -/
abbrev Dt : Type := va_G × (Nat → Nat) × (Nat → ClassId) × State
def upA (f : Nat → Nat → Int32) (i : Nat) (g : Nat → Int32) : Nat → Nat → Int32 := fun a => if a = i then g else f a
theorem upA_s {f : Nat → Nat → Int32} {i : Nat} {g : Nat → Int32} : upA f i g i = g := by simp [upA]
theorem upA_n {f : Nat → Nat → Int32} {i a : Nat} {g : Nat → Int32} (h : a ≠ i) : upA f i g a = f a := by simp [upA, h]
def wA (c : Cs) (i : Nat) (g : Nat → Int32) : Cs := (upA c.1 i g, c.2)
def wI (c : Cs) (i k : Nat) (v : Int32) : Cs := (upA c.1 i (upd (c.1 i) k v), c.2)
def wN (c : Cs) (i : Nat) (v : Int64) : Cs := (c.1, vp_updL c.2 i v)
theorem wA_1s {c : Cs} {i : Nat} {g : Nat → Int32} : (wA c i g).1 i = g := upA_s
theorem wA_1n {c : Cs} {i a : Nat} {g : Nat → Int32} (h : a ≠ i) : (wA c i g).1 a = c.1 a := upA_n h
theorem wI_1s {c : Cs} {i k : Nat} {v : Int32} : (wI c i k v).1 i = upd (c.1 i) k v := upA_s
theorem wI_1n {c : Cs} {i k a : Nat} {v : Int32} (h : a ≠ i) : (wI c i k v).1 a = c.1 a := upA_n h
/-- lengths of the rows' arrays, of the reference's int arrays -/
def rln (j : Nat) : Nat := if j = 0 then 60 else if (j - 1) % 4 = 0 then 600 else if (j - 1) % 4 = 1 then 60 else 121
theorem rln_le (j : Nat) : rln j ≤ 600 := by
  unfold rln
  split
  · decide
  · split
    · decide
    · split <;> decide
def mln (a : Nat) : Nat := [0, 60, 1200, 2, 2, 48, 48, 48, 48, 48, 48, 2, 2, 2, 60, 60, 24, 60].getD a 0
def ad (D : Dt) (t : Nat) : Nat := D.2.1 t
def aVlt (D : Dt) : Nat := ad D 0
def aRow (D : Dt) (j : Nat) : Nat := ad D (1 + j)
def aArr (D : Dt) (j : Nat) : Nat := ad D (10 + j)
def aRps (D : Dt) : Nat := ad D 19
def aRep (D : Dt) (r : Nat) : Nat := ad D (20 + r)
def aRcs (D : Dt) (r : Nat) : Nat := ad D (22 + r)
def aChn (D : Dt) (r : Nat) : Nat := ad D (24 + r)
def aRec (D : Dt) (i : Nat) : Nat := ad D (26 + i)
def aMdl (D : Dt) : Nat := ad D 74
def aMar (D : Dt) (a : Nat) : Nat := ad D (74 + a)
def aNds (D : Dt) : Nat := ad D 92
def aDwn (D : Dt) : Nat := ad D 93
def aOut (D : Dt) : Nat := ad D 94
/-- what stands in a cell -/
def ct (D : Dt) (σ : Sg) (t : Nat) : va_E :=
  if t < 1 then .inr (0, [.ref (aRow D 0), .ref (aRps D)])
  else if t < 10 then .inr (1, [.ref (aArr D (t - 1)), .int (σ.1.1 t 0)])
  else if t < 19 then .inl (D.2.2.1 0, rln (t - 10), .inl (σ.1.1 t))
  else if t < 20 then .inl (D.2.2.1 3, 2, .inr (.inr (.inr (.inr (fun k => some (aRep D k))))))
  else if t < 22 then .inr (2, [.ref (aRow D (1 + 4 * (t - 20))), .ref (aRcs D (t - 20)), .int (σ.1.1 t 0), .int (σ.1.1 t 1), .int (σ.1.1 t 2), .int (σ.1.1 t 3), .int (σ.1.1 t 4), .int (σ.1.1 t 5), .ref (aRow D (2 + 4 * (t - 20))), .ref (aChn D (t - 20)), .ref (aRow D (3 + 4 * (t - 20))), .ref (aRow D (4 + 4 * (t - 20)))])
  else if t < 24 then .inl (D.2.2.1 4, 24, .inr (.inr (.inr (.inr (fun k => some (aRec D (24 * (t - 22) + k)))))))
  else if t < 26 then .inl (D.2.2.1 0, 6, .inl (σ.1.1 t))
  else if t < 74 then .inr (3, [.int (σ.1.1 t 0), .int (σ.1.1 t 1), .int (σ.1.1 t 2), .int (σ.1.1 t 3), .int (σ.1.1 t 4), .int (σ.1.1 t 5), .long (σ.1.2 (t - 26))])
  else if t < 75 then .inr (4, [.int (σ.2.1.1 0 0), .int (σ.2.1.1 0 1), .ref (aMar D 1), .ref (aMar D 2), .ref (aMar D 3), .ref (aMar D 4), .ref (aMar D 5), .ref (aMar D 6), .ref (aMar D 7), .ref (aMar D 8), .ref (aMar D 9), .ref (aMar D 10), .ref (aNds D), .ref (aMar D 11), .ref (aMar D 12), .ref (aDwn D), .ref (aMar D 13), .int (σ.2.1.1 0 2), .ref (aMar D 14), .ref (aMar D 15), .ref (aMar D 16), .int (σ.2.1.1 0 3), .ref (aMar D 17)])
  else if t < 92 then .inl (D.2.2.1 0, mln (t - 74), .inl (σ.2.1.1 (t - 74)))
  else if t < 93 then .inl (D.2.2.1 1, 48, .inr (.inl σ.2.1.2))
  else if t < 94 then .inl (D.2.2.1 2, 2, .inl (σ.2.1.1 19))
  else .inl (D.2.2.1 1, 1, .inr (.inl σ.2.2))
def wld (D : Dt) (σ : Sg) : va_W := (List.range 95).map (fun t => (ad D t, ct D σ t))
def tys (D : Dt) : List (ClassId × FieldType) := [(D.2.2.1 0, .int), (D.2.2.1 1, .long), (D.2.2.1 2, .boolean), (D.2.2.1 3, .object R_Rep), (D.2.2.1 4, .object R_Rec)]
def Ab (D : Dt) : Nat → Prop := fun q => ∃ t, t < 95 ∧ q = ad D t
def OkD (D : Dt) : Prop := (∀ i j, i < 95 → j < 95 → ad D i = ad D j → i = j) ∧ (∀ i, i < 95 → D.2.2.2.heap.size ≤ ad D i) ∧ va_K D.1 cls (tys D) D.2.2.2 ∧ ∃ a0 : Array Value, ∀ w ∈ lw_tbl, w.before a0 D.2.2.2 = true
theorem Ab.lo {D : Dt} (hD : OkD D) {q : Nat} (h : q < D.2.2.2.heap.size) : ¬ Ab D q := by
  rintro ⟨t, ht, rfl⟩
  exact Nat.not_le.mpr h (hD.2.1 t ht)
theorem wld_at {D : Dt} {σ : Sg} {t : Nat} (h : t < 95) : (wld D σ)[t]? = some (ad D t, ct D σ t) := by
  simp [wld, List.getElem?_map, List.getElem?_range h]
theorem wld_in {D : Dt} {σ : Sg} {t : Nat} {q : Nat × va_E} (h : (wld D σ)[t]? = some q) : t < 95 ∧ q = (ad D t, ct D σ t) := by
  have hl : t < (wld D σ).length := (List.getElem?_eq_some_iff.mp h).1
  have hl : t < 95 := by simpa [wld] using hl
  rw [wld_at hl] at h
  exact ⟨hl, (Option.some.inj h).symm⟩
theorem wld_D {D : Dt} (hD : OkD D) (σ : Sg) : va_D (Ab D) (wld D σ) := by
  refine ⟨fun i j p q hi hj hpq => ?_, fun k q hk => ?_⟩
  · obtain ⟨h1, rfl⟩ := wld_in hi
    obtain ⟨h2, rfl⟩ := wld_in hj
    exact hD.1 i j h1 h2 hpq
  · obtain ⟨h1, rfl⟩ := wld_in hk
    exact ⟨k, h1, rfl⟩
theorem wld_set {D : Dt} {σ σ' : Sg} {t : Nat} {x : va_E} (ht : t < 95) (he : ct D σ' t = x) (ho : ∀ u, u < 95 → u ≠ t → ct D σ' u = ct D σ u) : (wld D σ).set t (ad D t, x) = wld D σ' := by
  apply List.ext_getElem?
  intro k
  by_cases hk : k = t
  · subst hk
    rw [List.getElem?_set_self (by simpa [wld] using ht), wld_at ht, he]
  · rw [List.getElem?_set_ne (Ne.symm hk)]
    by_cases h : k < 95
    · rw [wld_at h, wld_at h, ho k h hk]
    · rw [List.getElem?_eq_none (by simpa [wld] using Nat.le_of_not_lt h), List.getElem?_eq_none (by simpa [wld] using Nat.le_of_not_lt h)]
/-! the words that every contract stands on: the tables' good ones -/
def gw : Cond → Bool
  | .fieldLinkNest .. => true
  | .methodLinkNest .. => true
  | .castable .. => true
  | .declares _ => true
  | w => goodWord w
theorem gw_at {w : Cond} (hg : gw w = true) {s U : State} (hW : s.WarmedH U.vm) {a0 a : Array Value} (h : w.before a0 s = true) : w.before a U = true := by
  cases w with
  | fieldLinkNest => exact va_Nw.use rfl (va_Nw.warmF hW (va_Nw.of rfl h))
  | methodLinkNest => exact va_Nw.use rfl (va_Nw.warmM hW (va_Nw.of rfl h))
  | castable => exact va_Nw.use rfl (va_Nw.warmC hW (va_Nw.of rfl h))
  | declares => exact va_Nw.use rfl (va_Nw.warmD hW (va_Nw.of rfl h))
  | _ => exact word_at hW (good_of_word hg) h
def UNI : List Cond := lw_tbl.filter gw
theorem un_in {w : Cond} (h : w ∈ lw_tbl) (hg : gw w = true) : w ∈ UNI := List.mem_filter.mpr ⟨h, hg⟩
theorem un {w : Cond} (i : Nat) (h : tables_1[i]? = some w) (hg : gw w = true) : w ∈ UNI := un_in (List.mem_append_right _ (List.mem_of_getElem? h)) hg
theorem unS {q : MethodName × Nat} (i : Nat) (h : lw_privs[i]? = some q) (hg : gw (Cond.selects q.1.cls q.1 q.1) = true) : Cond.selects q.1.cls q.1 q.1 ∈ UNI := un_in (List.mem_append_left _ (List.mem_map.mpr ⟨q, List.mem_of_getElem? h, rfl⟩)) hg
theorem OkD.ts {D : Dt} (hD : OkD D) {U : State} (hW : D.2.2.2.WarmedH U.vm) (a : Array Value) : ∀ w ∈ UNI, w.before a U = true := by
  obtain ⟨a0, h⟩ := hD.2.2.2
  intro w hw
  obtain ⟨h1, h2⟩ := List.mem_filter.mp hw
  exact gw_at h2 hW (h w h1)
/-! locals: a list, the first entry counts; none: nothing is known -/
abbrev Lc : Type := List (Nat × Option Value)
def lk : Lc → Nat → Option Value
  | [], _ => none
  | q :: l, i => bif Nat.beq q.1 i then q.2 else lk l i
theorem lk_cons (q : Nat × Option Value) (l : Lc) (i : Nat) : lk (q :: l) i = if q.1 = i then q.2 else lk l i := by
  by_cases h : q.1 = i
  · have hb : Nat.beq q.1 i = true := by subst h; exact Nat.beq_refl _
    rw [if_pos h, lk, hb]
    rfl
  · have hb : Nat.beq q.1 i = false := by
      cases hb : Nat.beq q.1 i with
      | false => rfl
      | true => exact absurd (Nat.eq_of_beq_eq_true hb) h
    rw [if_neg h, lk, hb]
    rfl
def Lh (ls : Array Slot) (n : Nat) (L : Lc) : Prop := ls.size = n ∧ lv_wf ls ∧ ∀ i v, lk L i = some v → ls[i]? = some (.val v)
def toL (L : Lc) (n : Nat) : List (Nat × Value) := (List.range n).filterMap (fun i => (lk L i).map (fun v => (i, v)))
theorem Lh.has {ls : Array Slot} {n : Nat} {L : Lc} (h : Lh ls n L) : lv_has ls n (toL L n) := by
  refine ⟨h.1, h.2.1, fun q hq => ?_⟩
  obtain ⟨i, -, hi⟩ := List.mem_filterMap.mp hq
  cases hv : lk L i with
  | none => rw [hv] at hi; cases hi
  | some v =>
    rw [hv] at hi
    cases hi
    exact h.2.2 i v hv
theorem toL_in {L : Lc} {n i : Nat} {v : Value} (hi : i < n) (h : lk L i = some v) : (i, v) ∈ toL L n := List.mem_filterMap.mpr ⟨i, List.mem_range.mpr hi, by rw [h]; rfl⟩
theorem Lh.lt {ls : Array Slot} {n : Nat} {L : Lc} (h : Lh ls n L) {i : Nat} {v : Value} (hv : lk L i = some v) : i < n := by
  rw [← h.1]
  exact lv_lt (h.2.2 i v hv)
/-- storing at i harms no long before it -/
def kl (L : Lc) : Nat → Bool
  | 0 => true
  | j + 1 => match lk L j with
    | some v => decide (v.category = 1)
    | none => true
theorem Lh.st1 {ls ls' : Array Slot} {n i : Nat} {L : Lc} {v : Value} (h : Lh ls n L) (hk : kl L i = true)
    (h' : lv_has ls' n ((i, v) :: (toL L n).filter (fun q => !(q.1 == i) && !(q.1 + 1 == i && q.2.category == 2)))) : Lh ls' n ((i, some v) :: L) := by
  refine ⟨h'.1, h'.2.1, fun j w hj => ?_⟩
  by_cases hij : i = j
  · subst hij
    rw [lk_cons, if_pos rfl] at hj
    cases hj
    exact h'.2.2 (i, v) List.mem_cons_self
  · rw [lk_cons, if_neg hij] at hj
    refine h'.2.2 (j, w) (List.mem_cons_of_mem _ (List.mem_filter.mpr ⟨toL_in (h.lt hj) hj, ?_⟩))
    have h1 : (j == i) = false := by simpa using fun e : j = i => hij e.symm
    by_cases h2 : j + 1 = i
    · subst h2
      simp only [kl, hj, decide_eq_true_eq] at hk
      simp [hk]
    · simp [h1, h2, Ne.symm hij]
theorem Lh.st2 {ls ls' : Array Slot} {n i : Nat} {L : Lc} {v : Value} (h : Lh ls n L) (hk : kl L i = true)
    (h' : lv_has ls' n ((i, v) :: (toL L n).filter (fun q => !(q.1 == i) && (!(q.1 == i + 1) && !(q.1 + 1 == i && q.2.category == 2))))) : Lh ls' n ((i, some v) :: (i + 1, none) :: L) := by
  refine ⟨h'.1, h'.2.1, fun j w hj => ?_⟩
  by_cases hij : i = j
  · subst hij
    rw [lk_cons, if_pos rfl] at hj
    cases hj
    exact h'.2.2 (i, v) List.mem_cons_self
  · rw [lk_cons, if_neg hij] at hj
    rw [lk_cons] at hj
    by_cases hij2 : i + 1 = j
    · rw [if_pos hij2] at hj
      cases hj
    · rw [if_neg hij2] at hj
      refine h'.2.2 (j, w) (List.mem_cons_of_mem _ (List.mem_filter.mpr ⟨toL_in (h.lt hj) hj, ?_⟩))
      by_cases h2 : j + 1 = i
      · subst h2
        simp only [kl, hj, decide_eq_true_eq] at hk
        simp [hk, Ne.symm hij2]
      · simp [h2, Ne.symm hij, Ne.symm hij2]
/-- fewer known locals -/
def sub (L : Lc) : Lc → Prop
  | [] => True
  | q :: l => (∀ v, q.2 = some v → lk L q.1 = some v) ∧ sub L l
theorem sub_lk {L : Lc} : ∀ {L' : Lc}, sub L L' → ∀ i v, lk L' i = some v → lk L i = some v
  | [], _, i, v, h => by cases h
  | q :: l, hs, i, v, h => by
    rw [lk_cons] at h
    split at h
    · rename_i e
      subst e
      exact hs.1 v h
    · exact sub_lk hs.2 i v h
theorem Lh.sub {ls : Array Slot} {n : Nat} {L L' : Lc} (h : Lh ls n L) (hs : sub L L') : Lh ls n L' := ⟨h.1, h.2.1, fun i v hv => h.2.2 i v (sub_lk hs i v hv)⟩
theorem sb {L l : Lc} {i : Nat} {v : Value} (h : lk L i = some v) (hs : sub L l) : sub L ((i, some v) :: l) := ⟨fun w hw => by cases hw; exact h, hs⟩
def la (i : Nat) (vs : List Value) : Lc := (lv_args i vs).map (fun q => (q.1, some q.2))
