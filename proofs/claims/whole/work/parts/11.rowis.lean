/-! a row of the system holds a list -/
def RowIs (c : Cs) (j : Nat) (xs : List Nat) : Prop := c.1 (1 + j) 0 = nI xs.length ∧ xs.length ≤ rln j ∧ ∀ k, k < xs.length → c.1 (10 + j) k = nI (xs.getD k 0)
/-- c2 is c but at the cells of P -/
def Sm (P : Nat → Prop) (c c2 : Cs) : Prop := (∀ t, ¬ P t → c2.1 t = c.1 t) ∧ c2.2 = c.2
def Rw (j : Nat) : Nat → Prop := fun t => t = 1 + j ∨ t = 10 + j
theorem Sm.rf {P : Nat → Prop} {c : Cs} : Sm P c c := ⟨fun _ _ => rfl, rfl⟩
theorem Sm.tr {P : Nat → Prop} {c c2 c3 : Cs} (h : Sm P c c2) (g : Sm P c2 c3) : Sm P c c3 := ⟨fun t ht => (g.1 t ht).trans (h.1 t ht), g.2.trans h.2⟩
theorem Sm.up {P P2 : Nat → Prop} {c c2 : Cs} (h : Sm P c c2) (hp : ∀ t, P t → P2 t) : Sm P2 c c2 := ⟨fun t ht => h.1 t (fun q => ht (hp t q)), h.2⟩
theorem Sm.wI {P : Nat → Prop} {c : Cs} {i k : Nat} {v : Int32} (h : P i) : Sm P c (wI c i k v) := ⟨fun t ht => wI_1n (fun e => ht (e ▸ h)), rfl⟩
theorem Sm.wA {P : Nat → Prop} {c : Cs} {i : Nat} {g : Nat → Int32} (h : P i) : Sm P c (wA c i g) := ⟨fun t ht => wA_1n (fun e => ht (e ▸ h)), rfl⟩
theorem sm_cut {c : Cs} {j : Nat} {k : Int32} : Sm (Rw j) c (cutC c j k) := by
  unfold cutC
  split
  · exact Sm.wI (Or.inl rfl)
  · exact Sm.rf
theorem sm_add {c : Cs} {j n : Nat} {v : Int32} : Sm (Rw j) c (addC c j n v) := (Sm.wI (Or.inr rfl)).tr (Sm.wI (Or.inl rfl))
theorem sm_adp {c : Cs} {i j f k n : Nat} : Sm (Rw j) c (adpC c i j f k n) := (Sm.wA (Or.inr rfl)).tr (Sm.wI (Or.inl rfl))
theorem sm_arn {c : Cs} {j n k : Nat} {v : Int32} : Sm (Rw j) c (arnC c j n k v) := (Sm.wA (Or.inr rfl)).tr (Sm.wI (Or.inl rfl))
theorem sm_rep {c : Cs} {i j a b f k n : Nat} : Sm (Rw j) c (repC c i j a b f k n) := ((Sm.wA (Or.inr rfl)).tr (Sm.wA (Or.inr rfl))).tr (Sm.wI (Or.inl rfl))
theorem RowIs.sm {P : Nat → Prop} {c c2 : Cs} {j : Nat} {xs : List Nat} (h : RowIs c j xs) (hs : Sm P c c2) (h1 : ¬ P (1 + j)) (h2 : ¬ P (10 + j)) : RowIs c2 j xs := by
  refine ⟨by rw [hs.1 _ h1]; exact h.1, h.2.1, fun k hk => ?_⟩
  rw [hs.1 _ h2]
  exact h.2.2 k hk
theorem RowIs.ne {i j : Nat} (hij : i ≠ j) (hi : i < 9) (hj : j < 9) : ¬ Rw j (1 + i) ∧ ¬ Rw j (10 + i) := by
  unfold Rw
  omega
theorem RowIs.at {c : Cs} {j k : Nat} {xs : List Nat} (h : RowIs c j xs) (hk : k < 2 ^ 20) : atC c j (nI k) = nI (xs.getD k 0) := by
  have q := rln_le j
  have h2 := h.2.1
  unfold atC
  rw [h.1, nI_clamp (by omega)]
  by_cases hl : k < xs.length
  · rw [if_pos ⟨nI_pos' (by omega), nI_lt hl (by omega)⟩]
    exact h.2.2 k hl
  · rw [if_neg (fun q => absurd q.2 (nI_nlt (by omega) (by omega))), List.getD_eq_getElem?_getD, List.getElem?_eq_none (by omega)]
    exact nI_0.symm
theorem RowIs.cut {c : Cs} {j d : Nat} {xs : List Nat} (h : RowIs c j xs) (hd : d < 2 ^ 20) : RowIs (cutC c j (nI d)) j (xs.take d) := by
  have q := rln_le j
  have h2 := h.2.1
  unfold cutC
  rw [h.1]
  by_cases hl : d < xs.length
  · rw [if_pos ⟨nI_pos' (by omega), nI_lt hl (by omega)⟩]
    have e : (xs.take d).length = d := by rw [List.length_take]; omega
    refine ⟨by rw [wI_1s, e]; exact pk_us, by omega, fun k hk => ?_⟩
    rw [e] at hk
    rw [wI_1n (by omega), h.2.2 k (by omega), List.getD_eq_getElem?_getD, List.getD_eq_getElem?_getD, List.getElem?_take_of_lt hk]
  · rw [if_neg (fun q => absurd q.2 (nI_nlt (by omega) (by omega))), List.take_of_length_le (by omega)]
    exact h
theorem getD_l {xs ys : List Nat} {k : Nat} (h : k < xs.length) : (xs ++ ys).getD k 0 = xs.getD k 0 := by
  rw [List.getD_eq_getElem?_getD, List.getD_eq_getElem?_getD, List.getElem?_append_left h]
theorem getD_r {xs ys : List Nat} {k : Nat} (h : xs.length ≤ k) : (xs ++ ys).getD k 0 = ys.getD (k - xs.length) 0 := by
  rw [List.getD_eq_getElem?_getD, List.getD_eq_getElem?_getD, List.getElem?_append_right h]
theorem getD_dt {xs : List Nat} {f k q : Nat} (h : q < k) : ((xs.drop f).take k).getD q 0 = xs.getD (f + q) 0 := by
  rw [List.getD_eq_getElem?_getD, List.getD_eq_getElem?_getD, List.getElem?_take_of_lt h, List.getElem?_drop]
theorem RowIs.add {c : Cs} {j v : Nat} {xs : List Nat} (h : RowIs c j xs) (hj : j < 9) (hl : xs.length < rln j) : RowIs (addC c j xs.length (nI v)) j (xs ++ [v]) := by
  have e : (xs ++ [v]).length = xs.length + 1 := by simp
  unfold addC
  refine ⟨by rw [wI_1s, e]; exact pk_us, by omega, fun k hk => ?_⟩
  rw [e] at hk
  rw [wI_1n (by omega), wI_1s]
  by_cases hq : k = xs.length
  · subst hq
    rw [pk_us, getD_r (Nat.le_refl _), Nat.sub_self]
    rfl
  · rw [pk_un hq, getD_l (by omega)]
    exact h.2.2 k (by omega)
theorem RowIs.adp {c : Cs} {i j f k : Nat} {xs ys : List Nat} (h : RowIs c j xs) (g : RowIs c i ys) (hj : j < 9) (hi : i < 9) (h1 : xs.length + k ≤ rln j) (h2 : f + k ≤ ys.length) : RowIs (adpC c i j f k xs.length) j (xs ++ (ys.drop f).take k) := by
  have e : (xs ++ (ys.drop f).take k).length = xs.length + k := by
    rw [List.length_append, List.length_take, List.length_drop]
    omega
  unfold adpC
  refine ⟨by rw [wI_1s, e]; exact pk_us, by omega, fun q hq => ?_⟩
  rw [e] at hq
  rw [wI_1n (by omega), wA_1s]
  by_cases hl : q < xs.length
  · rw [pk_cpy_out (Or.inl hl), getD_l hl]
    exact h.2.2 q hl
  · rw [pk_cpy_in (by omega) (by omega), getD_r (by omega), getD_dt (by omega)]
    exact g.2.2 _ (by omega)
theorem RowIs.arn {c : Cs} {j k v : Nat} {xs : List Nat} (h : RowIs c j xs) (hj : j < 9) (h1 : xs.length + k ≤ rln j) : RowIs (arnC c j xs.length k (nI v)) j (xs ++ List.replicate k v) := by
  have e : (xs ++ List.replicate k v).length = xs.length + k := by simp
  unfold arnC
  refine ⟨by rw [wI_1s, e]; exact pk_us, by omega, fun q hq => ?_⟩
  rw [e] at hq
  rw [wI_1n (by omega), wA_1s]
  unfold fil
  by_cases hl : q < xs.length
  · rw [if_neg (by omega), getD_l hl]
    exact h.2.2 q hl
  · rw [if_pos (by omega), getD_r (by omega), List.getD_eq_getElem?_getD, List.getElem?_replicate, if_pos (by omega)]
    rfl
theorem RowIs.rep {c : Cs} {i j a b f k : Nat} {xs ys : List Nat} (h : RowIs c j xs) (g : RowIs c i ys) (hij : i ≠ j) (hj : j < 9) (hi : i < 9) (h1 : a ≤ b) (h2 : b ≤ xs.length) (h3 : f + k ≤ ys.length) (h4 : xs.length - (b - a) + k ≤ rln j) :
    RowIs (repC c i j a b f k xs.length) j (xs.take a ++ (ys.drop f).take k ++ xs.drop b) := by
  have e1 : (xs.take a).length = a := by rw [List.length_take]; omega
  have e2 : ((ys.drop f).take k).length = k := by rw [List.length_take, List.length_drop]; omega
  have e : (xs.take a ++ (ys.drop f).take k ++ xs.drop b).length = xs.length - (b - a) + k := by
    rw [List.length_append, List.length_append, e1, e2, List.length_drop]
    omega
  have e3 : (xs.take a ++ (ys.drop f).take k).length = a + k := by rw [List.length_append, e1, e2]
  unfold repC
  refine ⟨by rw [wI_1s, e]; exact pk_us, by omega, fun q hq => ?_⟩
  rw [e] at hq
  rw [wI_1n (by omega), wA_1s, wA_1s, wA_1n (by omega)]
  by_cases hl : q < a + k
  · rw [getD_l (by omega)]
    by_cases hl2 : q < a
    · rw [pk_cpy_out (Or.inl hl2), pk_cpy_out (Or.inl hl), getD_l (by omega), h.2.2 q (by omega), List.getD_eq_getElem?_getD, List.getD_eq_getElem?_getD, List.getElem?_take_of_lt hl2]
    · rw [pk_cpy_in (by omega) (by omega), getD_r (by omega), e1, getD_dt (by omega)]
      exact g.2.2 _ (by omega)
  · rw [pk_cpy_out (Or.inr (by omega)), pk_cpy_in (by omega) (by omega), getD_r (by omega), e3, List.getD_eq_getElem?_getD (l := xs.drop b), List.getElem?_drop, ← List.getD_eq_getElem?_getD]
    exact h.2.2 _ (by omega)
