theorem RepIs.gm {P : Nat → Prop} {c c2 : Cs} {q : Nat} {R : Rp} (h : RepIs c q R) (hs : Sm P c c2) (h1 : ∀ t, (t = 20 + q ∨ t = 1 + (1 + 4 * q) ∨ t = 10 + (1 + 4 * q) ∨ 26 ≤ t) → ¬ P t) : RepIs c2 q R := by
  refine ⟨?_, h.2.1.sm hs (h1 _ (Or.inr (Or.inl rfl))) (h1 _ (Or.inr (Or.inr (Or.inl rfl)))), h.2.2.sm hs (fun t ht => h1 t (Or.inr (Or.inr (Or.inr ht))))⟩
  rw [hs.1 _ (h1 _ (Or.inl rfl))]
  exact h.1
theorem Scr.gm {P : Nat → Prop} {c c2 : Cs} (h : Scr c) (hs : Sm P c c2) (h1 : ∀ r, r < 2 → ∀ k, (k = 2 ∨ k = 3 ∨ k = 4) → ¬ P (1 + (k + 4 * r)) ∧ ¬ P (10 + (k + 4 * r))) : Scr c2 := by
  intro r hr
  obtain ⟨⟨y2, a2⟩, ⟨y3, a3⟩, ⟨y4, a4⟩⟩ := h r hr
  exact ⟨⟨y2, a2.sm hs (h1 r hr 2 (by omega)).1 (h1 r hr 2 (by omega)).2⟩, ⟨y3, a3.sm hs (h1 r hr 3 (by omega)).1 (h1 r hr 3 (by omega)).2⟩, ⟨y4, a4.sm hs (h1 r hr 4 (by omega)).1 (h1 r hr 4 (by omega)).2⟩⟩
theorem Scr.sn {r : Nat} {c c2 : Cs} (h : Scr c) (hs : Sn r c c2) (hr : r < 2) (k2 : ∃ y, RowIs c2 (2 + 4 * r) y) (k3 : ∃ y, RowIs c2 (3 + 4 * r) y) (k4 : ∃ y, RowIs c2 (4 + 4 * r) y) : Scr c2 := by
  intro q hq
  by_cases e : q = r
  · subst e
    exact ⟨k2, k3, k4⟩
  · obtain ⟨⟨y2, a2⟩, ⟨y3, a3⟩, ⟨y4, a4⟩⟩ := h q hq
    exact ⟨⟨y2, a2.sn hs (by unfold Sc Pr Rw; omega) (by unfold Sc Pr Rw; omega)⟩, ⟨y3, a3.sn hs (by unfold Sc Pr Rw; omega) (by unfold Sc Pr Rw; omega)⟩, ⟨y4, a4.sn hs (by unfold Sc Pr Rw; omega) (by unfold Sc Pr Rw; omega)⟩⟩
theorem Scr.bp {r : Nat} {c c2 : Cs} (h : Scr c) (hs : Sm (Bp r) c c2) (hr : r < 2) (k2 : ∃ y, RowIs c2 (2 + 4 * r) y) : Scr c2 := by
  intro q hq
  obtain ⟨⟨y2, a2⟩, ⟨y3, a3⟩, ⟨y4, a4⟩⟩ := h q hq
  refine ⟨?_, ⟨y3, a3.sm hs (by unfold Bp Rw; omega) (by unfold Bp Rw; omega)⟩, ⟨y4, a4.sm hs (by unfold Bp Rw; omega) (by unfold Bp Rw; omega)⟩⟩
  by_cases e : q = r
  · subst e
    exact k2
  · exact ⟨y2, a2.sm hs (by unfold Bp Rw; omega) (by unfold Bp Rw; omega)⟩
theorem pull_b {R O : Rp} (h : ¬ (begn R).1 = true) : pullV R O = (-2, (begn R).2) := by
  unfold pullV
  rw [if_neg h]
theorem pull_0 {R O R1 : Rp} (h : (begn R).1 = true) (he : plp O O.rcs.length 0 (begn R).2 = (0, R1)) : pullV R O = (if (fini R1).1 = true then ((R1.rcs.length - R.rcs.length : Nat) : Int) else -2, (fini R1).2) := by
  unfold pullV
  rw [if_pos h, he, if_neg (show ¬ (0 : Int) = -2 by decide), if_neg (show ¬ (0 : Int) = -4 by decide)]
theorem pull_2 {R O R1 : Rp} (h : (begn R).1 = true) (he : plp O O.rcs.length 0 (begn R).2 = (-2, R1)) : pullV R O = (-2, R1) := by
  unfold pullV
  rw [if_pos h, he, if_pos rfl]
theorem pull_4 {R O R1 : Rp} (h : (begn R).1 = true) (he : plp O O.rcs.length 0 (begn R).2 = (-4, R1)) : pullV R O = (-4, R) := by
  unfold pullV
  rw [if_pos h, he, if_neg (show ¬ (-4 : Int) = -2 by decide), if_pos rfl]
theorem begn_all {R : Rp} (h : (begn R).1 = true) (hd : R.dwn = false) : (begn R).2.dat = R.dat ∧ (begn R).2.rcs = R.rcs ∧ (begn R).2.jrn = some (R.dat.length, R.rcs.length) ∧ (begn R).2.dwn = false := by
  by_cases hb : (wrt R).1 = true
  · rw [begn_t hb]
    refine ⟨wrt_d R, wrt_r R, ?_, wrt_w hb hd⟩
    show some ((wrt R).2.dat.length, (wrt R).2.rcs.length) = _
    rw [wrt_d, wrt_r]
  · rw [begn_f hb] at h
    cases h
theorem undoR {R R1 : Rp} (h : (begn R).1 = true) (hd : R.dwn = false) (hj : R.jrn = none) (hp : Pfx (begn R).2 R1) (hd1 : R1.dwn = false) : (R1.dat.take R.dat.length, R1.rcs.take R.rcs.length, (none : Option (Nat × Nat)), R1.dwn, R.fai) = R := by
  obtain ⟨b1, b2, b3, b4⟩ := begn_all h hd
  obtain ⟨⟨u, hu⟩, ⟨v, hv⟩, -⟩ := hp
  rw [b1] at hu
  rw [b2] at hv
  rw [hu, hv, hd1, List.take_left, List.take_left, ← hj, ← hd]
  rfl
theorem stor_d4 {R : Rp} {p q : Option Nat} {t : List Nat} (hd : R.dwn = false) (h : (stor R p q t).1 = -4) : (stor R p q t).2.dwn = false := by
  cases hf : find R.rcs (nodeOf R.rcs p q t) with
  | some k => rw [stor_k hf]; exact hd
  | none =>
    by_cases h4 : 24 ≤ R.rcs.length ∨ 600 < R.dat.length + (choose R.dat R.rcs p q t).1.length
    · rw [stor_4 hf h4]
      exact hd
    · by_cases hb : (wrt R).1 = true
      · by_cases hb2 : (wrt (appR (wrt R).2 (choose R.dat R.rcs p q t).1)).1 = true
        · rw [stor_5 hf h4 hb hb2] at h
          have h : (((wrt (appR (wrt R).2 (choose R.dat R.rcs p q t).1)).2.rcs.length : Nat) : Int) = -4 := h
          omega
        · rw [stor_3 hf h4 hb hb2] at h
          exact absurd h (show ¬ (-2 : Int) = -4 by decide)
      · rw [stor_2 hf h4 hb] at h
        exact absurd h (show ¬ (-2 : Int) = -4 by decide)
