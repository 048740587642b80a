section WR
variable {D : Dt} {c : Cs} {τ : Cs × (Nat → Int64)} {i j : Nat} {xs ys : List Nat}
theorem c_add1 (l : Launch) (hD : OkD D) (hj : j < 9) (h : RowIs c j xs) (hl : xs.length < rln j) {v : Int32} : Ct l D y_Row_add b_Row_add 2 (some .boolean) 2 [.int v, .ref (aRow D j)] ((c, τ) : Sg) (some (.int 1)) ((addC c j xs.length v, τ) : Sg) := by
  have e := c_Row_add (τ := τ) (v := v) l hD hj h.1 h.2.1
  rw [if_pos hl, b1_t hl] at e
  exact e
theorem c_adp1 (l : Launch) (hD : OkD D) (hj : j < 9) (hi : i < 9) (h : RowIs c j xs) (g : RowIs c i ys) {f k : Nat} (h1 : xs.length + k ≤ rln j) (h2 : f + k ≤ ys.length) : Ct l D y_Row_addPart b_Row_addPart 4 (some .boolean) 2 [.int (nI k), .int (nI f), .ref (aRow D i), .ref (aRow D j)] ((c, τ) : Sg) (some (.int 1)) ((adpC c i j f k xs.length, τ) : Sg) := by
  have q1 := rln_le j
  have q2 := rln_le i
  have q3 := g.2.1
  have e := c_Row_addPart (τ := τ) (f := f) (k := k) l hD hj hi h.1 h.2.1 g.1 g.2.1 (by omega) (by omega)
  rw [if_pos ⟨h1, h2⟩, b1_t ⟨h1, h2⟩] at e
  exact e
theorem c_at1 (l : Launch) (hD : OkD D) (hj : j < 9) (h : RowIs c j xs) {k : Nat} (hk : k < 2 ^ 20) : Ct l D y_Row_at b_Row_at 2 (some .int) 2 [.int (nI k), .ref (aRow D j)] ((c, τ) : Sg) (some (.int (nI (xs.getD k 0)))) ((c, τ) : Sg) := by
  have e := c_Row_at (τ := τ) (k := nI k) l hD hj h.1 h.2.1
  rw [h.at hk] at e
  exact e
end WR
/-- bytes -/
def By (t : List Nat) : Prop := ∀ x ∈ t, x < 256
theorem By.get {t : List Nat} (h : By t) (k : Nat) : t.getD k 0 < 256 := by
  rw [List.getD_eq_getElem?_getD]
  cases e : t[k]? with
  | none => decide
  | some x => exact h x (List.mem_of_getElem? e)
theorem dr {t : List Nat} {k : Nat} (h : k < t.length) : t.drop k = t.getD k 0 :: t.drop (k + 1) := by
  rw [List.drop_eq_getElem_cons h, List.getD_eq_getElem?_getD, List.getElem?_eq_getElem h]
  rfl
theorem pkr_len : ∀ (t : List Nat) (r : Nat), (pk r t).length ≤ 2 * t.length
  | [], r => by simp [pk]
  | [v], r => by simp [pk]
  | v :: w :: t, r => by
    unfold pk
    have h1 := pkr_len (w :: t) (r + 1)
    have h2 := pkr_len (w :: t) 0
    split
    · simp only [List.length_cons] at h1 ⊢
      omega
    · simp only [List.length_cons] at h2 ⊢
      omega
theorem pkr_last {t : List Nat} {k r : Nat} (h : k + 1 = t.length) : pk r (t.drop k) = (r + 1) :: t.getD k 0 :: pk 0 (t.drop (k + 1)) := by
  rw [dr (by omega), List.drop_eq_nil_of_le (i := k + 1) (by omega)]
  rfl
theorem pkr_ne {t : List Nat} {k r : Nat} (h : k + 1 < t.length) (hn : t.getD (k + 1) 0 ≠ t.getD k 0) : pk r (t.drop k) = (r + 1) :: t.getD k 0 :: pk 0 (t.drop (k + 1)) := by
  rw [dr (show k < t.length by omega), dr h]
  unfold pk
  rw [if_neg hn]
  cases t.drop (k + 1 + 1) <;> rfl
theorem pkr_eq {t : List Nat} {k r : Nat} (h : k + 1 < t.length) (hn : t.getD (k + 1) 0 = t.getD k 0) : pk r (t.drop k) = pk (r + 1) (t.drop (k + 1)) := by
  rw [dr (show k < t.length by omega), dr h]
  conv => lhs; unfold pk
  rw [if_pos hn]
theorem cpre_1 : ∀ (a b : List Nat), cpre a b ≤ a.length
  | [], b => by cases b <;> simp [cpre]
  | x :: a, [] => by simp [cpre]
  | x :: a, y :: b => by
    have := cpre_1 a b
    unfold cpre
    split
    · simp only [List.length_cons]
      omega
    · exact Nat.zero_le _
theorem cpre_2 : ∀ (a b : List Nat), cpre a b ≤ b.length
  | [], b => by cases b <;> simp [cpre]
  | x :: a, [] => by simp [cpre]
  | x :: a, y :: b => by
    have := cpre_2 a b
    unfold cpre
    split
    · simp only [List.length_cons]
      omega
    · exact Nat.zero_le _
theorem cpre_e {a b : List Nat} {k : Nat} (h1 : k < a.length) (h2 : k < b.length) (h : a.getD k 0 = b.getD k 0) : cpre (a.drop k) (b.drop k) = cpre (a.drop (k + 1)) (b.drop (k + 1)) + 1 := by
  rw [dr h1, dr h2]
  conv => lhs; unfold cpre
  rw [if_pos h]
theorem cpre_n {a b : List Nat} {k : Nat} (h1 : k < a.length) (h2 : k < b.length) (h : ¬ a.getD k 0 = b.getD k 0) : cpre (a.drop k) (b.drop k) = 0 := by
  rw [dr h1, dr h2]
  unfold cpre
  rw [if_neg h]
theorem cpre_0 {a b : List Nat} {k : Nat} (h : a.length ≤ k ∨ b.length ≤ k) : cpre (a.drop k) (b.drop k) = 0 := by
  rcases h with h | h
  · rw [List.drop_eq_nil_of_le h]
    cases b.drop k <;> rfl
  · rw [List.drop_eq_nil_of_le h]
    cases a.drop k <;> rfl
theorem nI_min {a b : Nat} (ha : a < 2 ^ 20) (hb : b < 2 ^ 20) : (if nI b < nI a then nI b else nI a) = nI (min a b) := by
  by_cases h : b < a
  · rw [if_pos (nI_lt h (by omega)), Nat.min_eq_right (by omega)]
  · rw [if_neg (nI_nlt (by omega) (by omega)), Nat.min_eq_left (by omega)]
theorem rev_get {a : List Nat} {p k : Nat} (h : k < a.length - p) : (a.drop p).reverse.getD k 0 = a.getD (a.length - 1 - k) 0 := by
  rw [List.getD_eq_getElem?_getD, List.getD_eq_getElem?_getD, List.getElem?_reverse (by rw [List.length_drop]; omega), List.length_drop, List.getElem?_drop]
  congr 2
  omega
