theorem by_unp : ∀ (r t : List Nat), By r → unp r = some t → By t
  | [], t, _, h => by
    cases h
    intro x hx
    cases hx
  | [_], t, _, h => by cases h
  | n :: v :: r, t, hb, h => by
    rw [unp_c] at h
    split at h
    · cases h
    · cases hu : unp r with
      | none => rw [hu] at h; cases h
      | some u =>
        rw [hu] at h
        cases h
        exact (By.rpl (hb v (by simp)) n).app (by_unp r u (fun x hx => hb x (by simp [hx])) hu)
theorem by_snap {ch t : List Nat} (hb : By ch) (h : snap ch = some t) : By t ∧ t.length ≤ 60 := by
  match ch, hb, h with
  | [], _, h => cases h
  | k :: r, hb, h =>
    have hr : By r := fun x hx => hb x (by simp [hx])
    by_cases h1 : k = 117
    · subst h1
      rw [snap_u] at h
      split at h
      · cases h
        exact ⟨hr, by assumption⟩
      · cases h
    · by_cases h2 : k = 120
      · subst h2
        rw [snap_x] at h
        cases hu : unp r with
        | none => rw [hu] at h; cases h
        | some u =>
          rw [hu] at h
          have h : (if u.length ≤ 60 then some u else none) = some t := h
          split at h
          · cases h
            exact ⟨by_unp r _ hr hu, by assumption⟩
          · cases h
      · rw [snap_n r h1 h2] at h
        cases h
theorem by_dif {ch b t : List Nat} (hb : By ch) (hbb : By b) (h : dif ch b = some t) : By t ∧ t.length ≤ 60 := by
  match ch, hb, h with
  | [], _, h => cases h
  | [_], _, h => cases h
  | [_, _], _, h => cases h
  | [_, _, _], _, h => cases h
  | k :: a :: e :: m :: r, hb, h =>
    rw [dif_cons] at h
    split at h
    · rename_i hc
      cases h
      refine ⟨((hbb.take a).app (fun x hx => hb x (by simp [hx]))).app (hbb.drop e), ?_⟩
      rw [List.length_append, List.length_append, List.length_take, List.length_drop]
      omega
    · cases h
theorem by_txt {d : List Nat} {rs : List Rc} (hd : By d) : ∀ (f n : Nat) (t : List Nat), txt d rs f n = some t → By t ∧ t.length ≤ 60
  | 0, n, t, h => by cases h
  | f + 1, n, t, h => by
    unfold txt at h
    cases hx : rs[n]? with
    | none => rw [hx] at h; cases h
    | some x =>
      simp only [hx] at h
      have hc : By (chnk d x) := (hd.drop _).take _
      cases hb : x.bas with
      | none =>
        simp only [hb] at h
        exact by_snap hc h
      | some b =>
        simp only [hb] at h
        cases ht : txt d rs f b with
        | none => rw [ht] at h; cases h
        | some u =>
          rw [ht] at h
          exact by_dif hc (by_txt hd f b u ht).1 h
theorem by_built {d : List Nat} {rs : List Rc} {n : Nat} {t : List Nat} (hd : By d) (h : built d rs n = some t) : By t ∧ t.length ≤ 60 := by
  cases ht : txt d rs 6 n with
  | none => rw [built_none ht] at h; cases h
  | some u =>
    unfold built at h
    rw [ht] at h
    cases hx : rs[n]? with
    | none => rw [hx] at h; cases h
    | some x =>
      rw [hx] at h
      have h : (if u.length = x.len ∧ nodeOf rs x.pa x.pb u = x.nod then some u else none) = some t := h
      split at h
      · cases h
        exact by_txt hd 6 n _ ht
      · cases h
/-- the scratch cells of a repository -/
def Sc (r : Nat) : Nat → Prop := fun t => t = 24 + r ∨ Rw (2 + 4 * r) t ∨ Rw (3 + 4 * r) t ∨ Rw (4 + 4 * r) t
theorem cand_n {d : List Nat} {rs : List Rc} {t : List Nat} {best : List Nat × Option Nat} {n : Nat} (h : built d rs n = none) : cand d rs t best (some n) = best := by
  unfold cand
  simp only [h]
theorem cand_s {d : List Nat} {rs : List Rc} {t b : List Nat} {best : List Nat × Option Nat} {n : Nat} (h : built d rs n = some b) : cand d rs t best (some n) = if (encD b t).length < best.1.length ∧ fits6 rs n (encD b t).length t.length = true then (encD b t, some n) else best := by
  conv => lhs; unfold cand
  simp only [h]
theorem RowIs.bec {c : Cs} {i j : Nat} {ys xs : List Nat} (h : RowIs c i ys) (g : RowIs c j xs) (hij : i ≠ j) (hi : i < 9) (hj : j < 9) (hl : ys.length ≤ rln j) : RowIs (adpC (wI c (1 + j) 0 (nI 0)) i j 0 ys.length 0) j ys := by
  have s1 : Sm (Rw j) c (wI c (1 + j) 0 (nI 0)) := Sm.wI (Or.inl rfl)
  have g0 : RowIs (wI c (1 + j) 0 (nI 0)) j [] := ⟨by rw [wI_1s]; exact pk_us, Nat.zero_le _, fun k hk => by simp at hk⟩
  have h1 := h.sm s1 (RowIs.ne hij hi hj).1 (RowIs.ne hij hi hj).2
  have h2 := g0.adp (f := 0) (k := ys.length) h1 hj hi (by simpa using hl) (by omega)
  simpa using h2
theorem sm_bec {c : Cs} {i j n : Nat} : Sm (Rw j) c (adpC (wI c (1 + j) 0 (nI 0)) i j 0 n 0) := (Sm.wI (Or.inl rfl)).tr sm_adp
theorem encD_len {b t : List Nat} : (encD b t).length ≤ 4 + t.length := by
  unfold encD
  simp only [List.length_cons, List.length_take, List.length_drop]
  omega
theorem lastR_v (rs : List Rc) : nI rs.length - nI 1 = eo (lastR rs) := by
  unfold lastR
  by_cases h : rs.length = 0
  · rw [if_pos h, h]
    decide +kernel
  · rw [if_neg h, pk_sub (by omega)]
    rfl
