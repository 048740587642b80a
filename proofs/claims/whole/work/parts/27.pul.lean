theorem appR_wf {Q : Rp} {ch : List Nat} (h : WfR Q) (hd : Q.dwn = false) (hc : By ch) (hl : Q.dat.length + ch.length ≤ 600) : WfR (appR Q ch) := by
  obtain ⟨a1, a2, a3, a4, a5, a6, a7⟩ := h
  have e : (appR Q ch).dat = Q.dat ++ ch := rfl
  refine ⟨a1.app hc, by rw [e, List.length_append]; exact hl, a3, a4, a5, fun d n hj => ?_, fun _ => ?_⟩
  · obtain ⟨j1, j2, j3⟩ := a6 d n hj
    exact ⟨by rw [e, List.length_append]; omega, j2, j3⟩
  · rw [e, List.length_append]
    exact (a7 (Or.inr hd)).mono (Nat.le_add_right _ _)
theorem pushR_wf {Q : Rp} {x : Rc} (h : WfR Q) (hd : Q.dwn = false) (hn : Q.rcs.length < 24) (h1 : ∀ b, x.bas = some b → b < Q.rcs.length ∧ chn Q.rcs 5 (some b) ≠ none) (h2 : ∀ b, x.pa = some b → b < Q.rcs.length) (h3 : ∀ b, x.pb = some b → b < Q.rcs.length) (h4 : 1 ≤ x.siz) (h5 : x.siz ≤ 121) (h6 : x.len ≤ 60) (h7 : x.off + x.siz ≤ Q.dat.length) : WfR (Q.dat, Q.rcs ++ [x], Q.jrn, Q.dwn, Q.fai) := by
  obtain ⟨a1, a2, a3, a4, a5, a6, a7⟩ := h
  refine ⟨a1, a2, ?_, a4, a5, fun d n hj => ?_, fun _ => (a7 (Or.inr hd)).push (Nat.le_refl _) h1 h2 h3 h4 h5 h6 h7⟩
  · show (Q.rcs ++ [x]).length ≤ 24
    rw [List.length_append]
    simp
    omega
  · obtain ⟨j1, j2, j3⟩ := a6 d n hj
    refine ⟨j1, ?_, ?_⟩
    · show n ≤ (Q.rcs ++ [x]).length
      rw [List.length_append]
      omega
    · show Wfs d ((Q.rcs ++ [x]).take n)
      rw [List.take_append_of_le_length j2]
      exact j3
/-- what storing leaves as it was -/
def Pfx (R R2 : Rp) : Prop := (∃ u, R2.dat = R.dat ++ u) ∧ (∃ u, R2.rcs = R.rcs ++ u) ∧ R2.jrn = R.jrn
theorem Pfx.rf {R : Rp} : Pfx R R := ⟨⟨[], by simp⟩, ⟨[], by simp⟩, rfl⟩
theorem Pfx.tr {R R2 R3 : Rp} (h : Pfx R R2) (g : Pfx R2 R3) : Pfx R R3 := by
  obtain ⟨⟨u, hu⟩, ⟨v, hv⟩, hj⟩ := h
  obtain ⟨⟨u2, hu2⟩, ⟨v2, hv2⟩, hj2⟩ := g
  exact ⟨⟨u ++ u2, by rw [hu2, hu, List.append_assoc]⟩, ⟨v ++ v2, by rw [hv2, hv, List.append_assoc]⟩, hj2.trans hj⟩
theorem pfx_wrt {R : Rp} : Pfx R (wrt R).2 := ⟨⟨[], by rw [wrt_d, List.append_nil]⟩, ⟨[], by rw [wrt_r, List.append_nil]⟩, wrt_j R⟩
theorem stor_all {R : Rp} {p q : Option Nat} {t : List Nat} (h : WfR R) (hd : R.dwn = false) (hp : ∀ n, p = some n → n < R.rcs.length) (hq : ∀ n, q = some n → n < R.rcs.length) (ht : By t) (hl : t.length ≤ 60) :
    WfR (stor R p q t).2 ∧ Pfx R (stor R p q t).2 ∧ ((stor R p q t).1 = -2 ∨ (stor R p q t).1 = -4 ∨ ((stor R p q t).2.dwn = false ∧ ∃ n : Nat, n ≤ 24 ∧ (stor R p q t).1 = n)) := by
  have a3 := h.2.2.1
  cases hf : find R.rcs (nodeOf R.rcs p q t) with
  | some k =>
    rw [stor_k hf]
    have := find_lt hf
    exact ⟨h, Pfx.rf, Or.inr (Or.inr ⟨hd, k, by omega, rfl⟩)⟩
  | none =>
    have hz := chz (d := R.dat) (rs := R.rcs) (t := t) (p := p) (q := q) h.1 ht hl hp hq
    by_cases h4 : 24 ≤ R.rcs.length ∨ 600 < R.dat.length + (choose R.dat R.rcs p q t).1.length
    · rw [stor_4 hf h4]
      exact ⟨h, Pfx.rf, Or.inr (Or.inl rfl)⟩
    · have hw := wrt_wf h hd
      by_cases hb : (wrt R).1 = true
      · have hdw := wrt_w hb hd
        have hap := appR_wf hw hdw hz.1 (by rw [wrt_d]; omega)
        have pa : Pfx (wrt R).2 (appR (wrt R).2 (choose R.dat R.rcs p q t).1) := ⟨⟨_, rfl⟩, ⟨[], (List.append_nil _).symm⟩, rfl⟩
        by_cases hb2 : (wrt (appR (wrt R).2 (choose R.dat R.rcs p q t).1)).1 = true
        · rw [stor_5 hf h4 hb hb2]
          have e1 : (wrt (appR (wrt R).2 (choose R.dat R.rcs p q t).1)).2.rcs = R.rcs := by rw [wrt_r]; exact wrt_r R
          have e2 : (wrt (appR (wrt R).2 (choose R.dat R.rcs p q t).1)).2.dat = R.dat ++ (choose R.dat R.rcs p q t).1 := by
            rw [wrt_d]
            show (wrt R).2.dat ++ _ = _
            rw [wrt_d]
          have hdw2 := wrt_w hb2 (show (appR (wrt R).2 (choose R.dat R.rcs p q t).1).dwn = false from hdw)
          refine ⟨pushR_wf (wrt_wf hap hdw) hdw2 (by rw [e1]; omega) ?_ ?_ ?_ hz.2.1 hz.2.2.1 hl ?_, ?_, Or.inr (Or.inr ⟨hdw2, R.rcs.length, by omega, by rw [e1]⟩)⟩
          · intro b hbb
            rw [e1]
            exact hz.2.2.2 b hbb
          · intro b hbb
            rw [e1]
            exact hp b hbb
          · intro b hbb
            rw [e1]
            exact hq b hbb
          · rw [e2, List.length_append, wrt_d]
            exact Nat.le_refl _
          · exact ((pfx_wrt.tr pa).tr pfx_wrt).tr ⟨⟨[], (List.append_nil _).symm⟩, ⟨_, rfl⟩, rfl⟩
        · rw [stor_3 hf h4 hb hb2]
          exact ⟨wrt_wf hap hdw, (pfx_wrt.tr pa).tr pfx_wrt, Or.inl rfl⟩
      · rw [stor_2 hf h4 hb]
        exact ⟨hw, pfx_wrt, Or.inl rfl⟩
def twn (R O : Rp) (q : Option Nat) : Option Nat := q.bind (fun n => find R.rcs (nodP O.rcs (some n)))
theorem twn_lt {R O : Rp} {q : Option Nat} : ∀ n, twn R O q = some n → n < R.rcs.length := by
  intro n h
  cases q with
  | none => cases h
  | some k => exact find_lt h
/-- the revisions that come, from the n-th on -/
def plp (O : Rp) : Nat → Nat → Rp → Int × Rp
  | 0, _, R => (0, R)
  | m + 1, n, R => match O.rcs[n]? with
    | none => (0, R)
    | some x => match find R.rcs x.nod with
      | some _ => plp O m (n + 1) R
      | none => match built O.dat O.rcs n with
        | none => (-4, R)
        | some t =>
          if (stor R (twn R O x.pa) (twn R O x.pb) t).1 = -2 ∨ (stor R (twn R O x.pa) (twn R O x.pb) t).1 = -4 then stor R (twn R O x.pa) (twn R O x.pb) t
          else plp O m (n + 1) (stor R (twn R O x.pa) (twn R O x.pb) t).2
def pullV (R O : Rp) : Int × Rp :=
  if (begn R).1 = true then
    if (plp O O.rcs.length 0 (begn R).2).1 = -2 then plp O O.rcs.length 0 (begn R).2
    else if (plp O O.rcs.length 0 (begn R).2).1 = -4 then (-4, R)
    else (if (fini (plp O O.rcs.length 0 (begn R).2).2).1 = true then (((plp O O.rcs.length 0 (begn R).2).2.rcs.length - R.rcs.length : Nat) : Int) else -2, (fini (plp O O.rcs.length 0 (begn R).2).2).2)
  else (-2, (begn R).2)
theorem plp_f {O : Rp} {m n k : Nat} {R : Rp} {x : Rc} (hx : O.rcs[n]? = some x) (hf : find R.rcs x.nod = some k) : plp O (m + 1) n R = plp O m (n + 1) R := by
  conv => lhs; unfold plp
  simp only [hx, hf]
theorem plp_n {O : Rp} {m n : Nat} {R : Rp} {x : Rc} (hx : O.rcs[n]? = some x) (hf : find R.rcs x.nod = none) (hb : built O.dat O.rcs n = none) : plp O (m + 1) n R = (-4, R) := by
  conv => lhs; unfold plp
  simp only [hx, hf, hb]
theorem plp_s {O : Rp} {m n : Nat} {R : Rp} {x : Rc} {t : List Nat} (hx : O.rcs[n]? = some x) (hf : find R.rcs x.nod = none) (hb : built O.dat O.rcs n = some t) : plp O (m + 1) n R = if (stor R (twn R O x.pa) (twn R O x.pb) t).1 = -2 ∨ (stor R (twn R O x.pa) (twn R O x.pb) t).1 = -4 then stor R (twn R O x.pa) (twn R O x.pb) t else plp O m (n + 1) (stor R (twn R O x.pa) (twn R O x.pb) t).2 := by
  conv => lhs; unfold plp
  simp only [hx, hf, hb]
/-- what the scratch rows are, of both repositories -/
def Scr (c : Cs) : Prop := ∀ r, r < 2 → (∃ y, RowIs c (2 + 4 * r) y) ∧ (∃ y, RowIs c (3 + 4 * r) y) ∧ (∃ y, RowIs c (4 + 4 * r) y)
theorem stI_2 {a : Int} (h : a = -2 ∨ a = -4 ∨ ∃ n : Nat, n ≤ 24 ∧ a = n) : stI a = -2 ↔ a = -2 := by
  rcases h with rfl | rfl | ⟨n, hn, rfl⟩
  · exact ⟨fun _ => rfl, fun _ => oi_s2⟩
  · rw [oi_m4]
    exact ⟨fun h => absurd h (by decide), fun h => absurd h (by decide)⟩
  · rw [oi_sn]
    refine ⟨fun h => ?_, fun h => by omega⟩
    have h1 := nI_toInt (n := n) (by omega)
    rw [h] at h1
    have h2 : (-2 : Int32).toInt = -2 := by decide +kernel
    omega
theorem stI_4 {a : Int} (h : a = -2 ∨ a = -4 ∨ ∃ n : Nat, n ≤ 24 ∧ a = n) : stI a = -3 ↔ a = -4 := by
  rcases h with rfl | rfl | ⟨n, hn, rfl⟩
  · rw [oi_s2]
    exact ⟨fun h => absurd h (by decide), fun h => absurd h (by decide)⟩
  · exact ⟨fun _ => rfl, fun _ => oi_m4⟩
  · rw [oi_sn]
    refine ⟨fun h => ?_, fun h => by omega⟩
    have h1 := nI_toInt (n := n) (by omega)
    rw [h] at h1
    have h2 : (-3 : Int32).toInt = -3 := by decide +kernel
    omega
theorem fini_w {R : Rp} (h : (fini R).1 = true) (hd : R.dwn = false) : (fini R).2.dwn = false := by
  by_cases hb : (wrt R).1 = true
  · rw [fini_t hb]
    exact wrt_w hb hd
  · rw [fini_f hb] at h
    cases h
