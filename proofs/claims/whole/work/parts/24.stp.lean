theorem fnd_lt {h : Int64} : ∀ (rs : List Rc) (n k : Nat), fnd h rs n = some k → k < n + rs.length
  | [], n, k, e => by cases e
  | x :: r, n, k, e => by
    unfold fnd at e
    split at e
    · cases e
      simp
    · have := fnd_lt r (n + 1) k e
      simp only [List.length_cons]
      omega
theorem find_lt {h : Int64} {rs : List Rc} {k : Nat} (e : find rs h = some k) : k < rs.length := by
  have := fnd_lt rs 0 k e
  omega
def Wfs (d : Nat) (rs : List Rc) : Prop := ∀ n x, rs[n]? = some x → WfX d rs n x
/-- c2 is c but in the repository r, its scratch and its records -/
def Sn (r : Nat) (c c2 : Cs) : Prop := (∀ t, ¬ (Sc r t ∨ Pr r t ∨ (26 + 24 * r ≤ t ∧ t < 50 + 24 * r)) → c2.1 t = c.1 t) ∧ ∀ i, ¬ (24 * r ≤ i ∧ i < 24 * r + 24) → c2.2 i = c.2 i
theorem Sn.rf {r : Nat} {c : Cs} : Sn r c c := ⟨fun _ _ => rfl, fun _ _ => rfl⟩
theorem Sn.tr {r : Nat} {c c2 c3 : Cs} (h : Sn r c c2) (g : Sn r c2 c3) : Sn r c c3 := ⟨fun t ht => (g.1 t ht).trans (h.1 t ht), fun i hi => (g.2 i hi).trans (h.2 i hi)⟩
theorem Sm.sn {r : Nat} {P : Nat → Prop} {c c2 : Cs} (h : Sm P c c2) (hp : ∀ t, P t → Sc r t ∨ Pr r t ∨ (26 + 24 * r ≤ t ∧ t < 50 + 24 * r)) : Sn r c c2 := ⟨fun t ht => h.1 t (fun q => ht (hp t q)), fun i _ => by rw [h.2]⟩
theorem sn_w {r i k : Nat} {c : Cs} {v : Int32} (hi : 26 + 24 * r ≤ i ∧ i < 50 + 24 * r) : Sn r c (wI c i k v) := ⟨fun t ht => wI_1n (fun e => ht (Or.inr (Or.inr (e ▸ hi)))), fun _ _ => rfl⟩
theorem sn_n {r i : Nat} {c : Cs} {v : Int64} (hi : 24 * r ≤ i ∧ i < 24 * r + 24) : Sn r c (wN c i v) := ⟨fun _ _ => rfl, fun q hq => by
  show vp_updL c.2 i v q = c.2 q
  exact pk_uLn (fun e => hq (e ▸ hi))⟩
theorem RowIs.sn {r j : Nat} {c c2 : Cs} {xs : List Nat} (h : RowIs c j xs) (hs : Sn r c c2) (h1 : ¬ (Sc r (1 + j) ∨ Pr r (1 + j) ∨ (26 + 24 * r ≤ 1 + j ∧ 1 + j < 50 + 24 * r))) (h2 : ¬ (Sc r (10 + j) ∨ Pr r (10 + j) ∨ (26 + 24 * r ≤ 10 + j ∧ 10 + j < 50 + 24 * r))) : RowIs c2 j xs := by
  refine ⟨by rw [hs.1 _ h1]; exact h.1, h.2.1, fun k hk => ?_⟩
  rw [hs.1 _ h2]
  exact h.2.2 k hk
/-- the other repository stays -/
theorem RepIs.sn {r q : Nat} {c c2 : Cs} {R : Rp} (h : RepIs c q R) (hs : Sn r c c2) (hr : r < 2) (hq : q < 2) (hrq : q ≠ r) : RepIs c2 q R := by
  refine ⟨?_, h.2.1.sn hs (by unfold Sc Pr Rw; omega) (by unfold Sc Pr Rw; omega), h.2.2.1, fun n x hx => ?_⟩
  · rw [hs.1 _ (by unfold Sc Pr Rw; omega)]
    exact h.1
  · have hn := h.2.2.lt hx
    have := h.2.2.2 n x hx
    unfold RecIs at this ⊢
    rw [hs.1 _ (by unfold Sc Pr Rw; omega), hs.2 _ (by omega)]
    exact this
theorem RepIs.sc {r : Nat} {c c2 : Cs} {R : Rp} (h : RepIs c r R) (hs : Sm (Sc r) c c2) (hr : r < 2) : RepIs c2 r R := by
  refine ⟨?_, h.2.1.sm hs (by unfold Sc Rw; omega) (by unfold Sc Rw; omega), h.2.2.sm hs (fun t ht => by unfold Sc Rw; omega)⟩
  rw [hs.1 _ (by unfold Sc Rw; omega)]
  exact h.1
theorem RepIs.ap {r : Nat} {c : Cs} {R : Rp} {ch : List Nat} (h : RepIs c r R) (hr : r < 2) (hc : RowIs c (3 + 4 * r) ch) (hl : R.dat.length + ch.length ≤ 600) : RepIs (adpC c (3 + 4 * r) (1 + 4 * r) 0 ch.length R.dat.length) r (R.dat ++ ch, R.rcs, R.jrn, R.dwn, R.fai) := by
  have hs : Sm (Rw (1 + 4 * r)) c (adpC c (3 + 4 * r) (1 + 4 * r) 0 ch.length R.dat.length) := sm_adp
  refine ⟨?_, ?_, h.2.2.sm hs (fun t ht => by unfold Rw; omega)⟩
  · rw [hs.1 _ (by unfold Rw; omega)]
    exact h.1
  · have e := h.2.1.adp (f := 0) (k := ch.length) hc (by omega) (by omega) (by rw [rl_1 hr]; exact hl) (by omega)
    show RowIs _ _ (R.dat ++ ch)
    simpa using e
def pushC (c : Cs) (i r L o s ln : Nat) (b a e : Option Nat) (h : Int64) : Cs :=
  wI (wN (wI (wI (wI (wI (wI (wI c (26 + i) 0 (nI o)) (26 + i) 1 (nI s)) (26 + i) 3 (eo b)) (26 + i) 2 (nI ln)) (26 + i) 4 (eo a)) (26 + i) 5 (eo e)) i h) (20 + r) 0 (nI (L + 1))
theorem pushC_20 {c : Cs} {i r L o s ln : Nat} {b a e : Option Nat} {h : Int64} (hr : r < 2) (t : Nat) (h1 : t ≠ 26 + i) (h2 : t ≠ 20 + r) : (pushC c i r L o s ln b a e h).1 t = c.1 t := by
  unfold pushC
  rw [wI_1n h2]
  show (wI (wI (wI (wI (wI (wI c (26 + i) 0 (nI o)) (26 + i) 1 (nI s)) (26 + i) 3 (eo b)) (26 + i) 2 (nI ln)) (26 + i) 4 (eo a)) (26 + i) 5 (eo e)).1 t = _
  rw [wI_1n h1, wI_1n h1, wI_1n h1, wI_1n h1, wI_1n h1, wI_1n h1]
theorem sn_push {c : Cs} {i r L o s ln : Nat} {b a e : Option Nat} {h : Int64} (hr : r < 2) (hi : 24 * r ≤ i ∧ i < 24 * r + 24) : Sn r c (pushC c i r L o s ln b a e h) := by
  refine ⟨fun t ht => pushC_20 hr t (fun q => ht (Or.inr (Or.inr (by omega)))) (fun q => ht (Or.inr (Or.inl (Or.inl q)))), fun q hq => ?_⟩
  show vp_updL c.2 i h q = c.2 q
  exact pk_uLn (fun e => hq (e ▸ hi))
theorem RepIs.push {r o s ln : Nat} {c : Cs} {R : Rp} {b a e : Option Nat} {h : Int64} (g : RepIs c r R) (hr : r < 2) (hl : R.rcs.length < 24) : RepIs (pushC c (24 * r + R.rcs.length) r R.rcs.length o s ln b a e h) r (R.dat, R.rcs ++ [(o, s, ln, b, a, e, h)], R.jrn, R.dwn, R.fai) := by
  have k20 : (pushC c (24 * r + R.rcs.length) r R.rcs.length o s ln b a e h).1 (20 + r) = upd (c.1 (20 + r)) 0 (nI (R.rcs.length + 1)) := by
    unfold pushC
    rw [wI_1s]
    show upd ((wI (wI (wI (wI (wI (wI c (26 + (24 * r + R.rcs.length)) 0 (nI o)) (26 + (24 * r + R.rcs.length)) 1 (nI s)) (26 + (24 * r + R.rcs.length)) 3 (eo b)) (26 + (24 * r + R.rcs.length)) 2 (nI ln)) (26 + (24 * r + R.rcs.length)) 4 (eo a)) (26 + (24 * r + R.rcs.length)) 5 (eo e)).1 (20 + r)) 0 _ = _
    rw [wI_1n (by omega), wI_1n (by omega), wI_1n (by omega), wI_1n (by omega), wI_1n (by omega), wI_1n (by omega)]
  refine ⟨⟨?_, ?_, fun p hp => ?_, ?_, ?_⟩, ?_, ?_, fun n x hx => ?_⟩
  · rw [k20, pk_us]
    show _ = nI (R.rcs ++ [_]).length
    rw [List.length_append]
    rfl
  · rw [k20, pk_un (by decide)]
    exact g.1.2.1
  · rw [k20, pk_un (by decide), pk_un (by decide)]
    exact g.1.2.2.1 p hp
  · rw [k20, pk_un (by decide)]
    exact g.1.2.2.2.1
  · rw [k20, pk_un (by decide)]
    exact g.1.2.2.2.2
  · refine ⟨?_, g.2.1.2.1, fun k hk => ?_⟩
    · rw [pushC_20 hr _ (by omega) (by omega)]
      exact g.2.1.1
    · rw [pushC_20 hr _ (by omega) (by omega)]
      exact g.2.1.2.2 k hk
  · show (R.rcs ++ [_]).length ≤ 24
    rw [List.length_append]
    simp
    omega
  · have hx : (R.rcs ++ [(o, s, ln, b, a, e, h)])[n]? = some x := hx
    by_cases hn : n < R.rcs.length
    · rw [List.getElem?_append_left hn] at hx
      have g2 := g.2.2.2 n x hx
      unfold RecIs at g2 ⊢
      rw [pushC_20 hr _ (by omega) (by omega)]
      have e2 : (pushC c (24 * r + R.rcs.length) r R.rcs.length o s ln b a e h).2 (24 * r + n) = c.2 (24 * r + n) := by
        show vp_updL c.2 (24 * r + R.rcs.length) h (24 * r + n) = _
        exact pk_uLn (by omega)
      rw [e2]
      exact g2
    · rw [List.getElem?_append_right (by omega)] at hx
      have hz : n - R.rcs.length = 0 := by
        have := (List.getElem?_eq_some_iff.mp hx).1
        simp at this
        omega
      rw [hz] at hx
      cases hx
      have hn2 : n = R.rcs.length := by omega
      subst hn2
      have k26 : (pushC c (24 * r + R.rcs.length) r R.rcs.length o s ln b a e h).1 (26 + (24 * r + R.rcs.length)) = upd (upd (upd (upd (upd (upd (c.1 (26 + (24 * r + R.rcs.length))) 0 (nI o)) 1 (nI s)) 3 (eo b)) 2 (nI ln)) 4 (eo a)) 5 (eo e) := by
        unfold pushC
        rw [wI_1n (by omega)]
        show (wI (wI (wI (wI (wI (wI c (26 + (24 * r + R.rcs.length)) 0 (nI o)) (26 + (24 * r + R.rcs.length)) 1 (nI s)) (26 + (24 * r + R.rcs.length)) 3 (eo b)) (26 + (24 * r + R.rcs.length)) 2 (nI ln)) (26 + (24 * r + R.rcs.length)) 4 (eo a)) (26 + (24 * r + R.rcs.length)) 5 (eo e)).1 _ = _
        rw [wI_1s, wI_1s, wI_1s, wI_1s, wI_1s, wI_1s]
      unfold RecIs
      rw [k26]
      refine ⟨?_, ?_, ?_, ?_, ?_, ?_, ?_⟩
      · rw [pk_un (by decide), pk_un (by decide), pk_un (by decide), pk_un (by decide), pk_un (by decide), pk_us]; rfl
      · rw [pk_un (by decide), pk_un (by decide), pk_un (by decide), pk_un (by decide), pk_us]; rfl
      · rw [pk_un (by decide), pk_un (by decide), pk_us]; rfl
      · rw [pk_un (by decide), pk_un (by decide), pk_un (by decide), pk_us]; rfl
      · rw [pk_un (by decide), pk_us]; rfl
      · rw [pk_us]; rfl
      · show vp_updL c.2 (24 * r + R.rcs.length) h (24 * r + R.rcs.length) = h
        exact pk_uLs
/-- the answer of storing, as the system has it -/
def stI (a : Int) : Int32 := if a = -4 then -3 else Int32.ofInt a
theorem stor_k {R : Rp} {p q : Option Nat} {t : List Nat} {k : Nat} (h : find R.rcs (nodeOf R.rcs p q t) = some k) : stor R p q t = ((k : Int), R) := by
  unfold stor
  simp only [h]
theorem stor_n {R : Rp} {p q : Option Nat} {t : List Nat} (h : find R.rcs (nodeOf R.rcs p q t) = none) : stor R p q t = if 24 ≤ R.rcs.length ∨ 600 < R.dat.length + (choose R.dat R.rcs p q t).1.length then ((-4 : Int), R) else
    match wrt R with
    | (false, R1) => ((-2 : Int), R1)
    | (true, R1) => match wrt (R1.dat ++ (choose R.dat R.rcs p q t).1, R1.rcs, R1.jrn, R1.dwn, R1.fai) with
      | (false, R2) => ((-2 : Int), R2)
      | (true, R2) => (((R2.rcs.length : Nat) : Int), (R2.dat, R2.rcs ++ [(R1.dat.length, (choose R.dat R.rcs p q t).1.length, t.length, (choose R.dat R.rcs p q t).2, p, q, nodeOf R.rcs p q t)], R2.jrn, R2.dwn, R2.fai)) := by
  unfold stor
  simp only [h]
  rfl
def appR (R : Rp) (ch : List Nat) : Rp := (R.dat ++ ch, R.rcs, R.jrn, R.dwn, R.fai)
theorem stor_4 {R : Rp} {p q : Option Nat} {t : List Nat} (h : find R.rcs (nodeOf R.rcs p q t) = none) (h2 : 24 ≤ R.rcs.length ∨ 600 < R.dat.length + (choose R.dat R.rcs p q t).1.length) : stor R p q t = (-4, R) := by
  rw [stor_n h, if_pos h2]
theorem stor_2 {R : Rp} {p q : Option Nat} {t : List Nat} (h : find R.rcs (nodeOf R.rcs p q t) = none) (h2 : ¬ (24 ≤ R.rcs.length ∨ 600 < R.dat.length + (choose R.dat R.rcs p q t).1.length)) (hw : ¬ (wrt R).1 = true) : stor R p q t = (-2, (wrt R).2) := by
  rw [stor_n h, if_neg h2]
  generalize wrt R = w at hw ⊢
  obtain ⟨b, R1⟩ := w
  cases b with
  | false => rfl
  | true => exact absurd rfl hw
theorem stor_3 {R : Rp} {p q : Option Nat} {t : List Nat} (h : find R.rcs (nodeOf R.rcs p q t) = none) (h2 : ¬ (24 ≤ R.rcs.length ∨ 600 < R.dat.length + (choose R.dat R.rcs p q t).1.length)) (hw : (wrt R).1 = true) (hw2 : ¬ (wrt (appR (wrt R).2 (choose R.dat R.rcs p q t).1)).1 = true) : stor R p q t = (-2, (wrt (appR (wrt R).2 (choose R.dat R.rcs p q t).1)).2) := by
  rw [stor_n h, if_neg h2]
  generalize wrt R = w at hw hw2 ⊢
  obtain ⟨b, R1⟩ := w
  cases hw
  show (match wrt (appR R1 (choose R.dat R.rcs p q t).1) with
      | (false, R2) => ((-2 : Int), R2)
      | (true, R2) => _) = _
  generalize wrt (appR R1 (choose R.dat R.rcs p q t).1) = w2 at hw2 ⊢
  obtain ⟨b2, R2⟩ := w2
  cases b2 with
  | false => rfl
  | true => exact absurd rfl hw2
theorem stor_5 {R : Rp} {p q : Option Nat} {t : List Nat} (h : find R.rcs (nodeOf R.rcs p q t) = none) (h2 : ¬ (24 ≤ R.rcs.length ∨ 600 < R.dat.length + (choose R.dat R.rcs p q t).1.length)) (hw : (wrt R).1 = true) (hw2 : (wrt (appR (wrt R).2 (choose R.dat R.rcs p q t).1)).1 = true) : stor R p q t = ((((wrt (appR (wrt R).2 (choose R.dat R.rcs p q t).1)).2.rcs.length : Nat) : Int), ((wrt (appR (wrt R).2 (choose R.dat R.rcs p q t).1)).2.dat, (wrt (appR (wrt R).2 (choose R.dat R.rcs p q t).1)).2.rcs ++ [((wrt R).2.dat.length, (choose R.dat R.rcs p q t).1.length, t.length, (choose R.dat R.rcs p q t).2, p, q, nodeOf R.rcs p q t)], (wrt (appR (wrt R).2 (choose R.dat R.rcs p q t).1)).2.jrn, (wrt (appR (wrt R).2 (choose R.dat R.rcs p q t).1)).2.dwn, (wrt (appR (wrt R).2 (choose R.dat R.rcs p q t).1)).2.fai)) := by
  rw [stor_n h, if_neg h2]
  generalize wrt R = w at hw hw2 ⊢
  obtain ⟨b, R1⟩ := w
  cases hw
  show (match wrt (appR R1 (choose R.dat R.rcs p q t).1) with
      | (false, R2) => ((-2 : Int), R2)
      | (true, R2) => _) = _
  generalize wrt (appR R1 (choose R.dat R.rcs p q t).1) = w2 at hw2 ⊢
  obtain ⟨b2, R2⟩ := w2
  cases hw2
  rfl
theorem oi_m4 : stI (-4) = -3 := by decide +kernel
theorem oi_s2 : stI (-2) = -2 := by decide +kernel
theorem oi_sn (n : Nat) : stI ((n : Nat) : Int) = nI n := by
  unfold stI
  rw [if_neg (by omega)]
  exact oi_n n
theorem RowIs.psh {c : Cs} {i j r L o s ln : Nat} {b a e : Option Nat} {h : Int64} {xs : List Nat} (g : RowIs c j xs) (hr : r < 2) (hj : j < 9) : RowIs (pushC c i r L o s ln b a e h) j xs := by
  refine ⟨?_, g.2.1, fun k hk => ?_⟩
  · rw [pushC_20 hr _ (by omega) (by omega)]
    exact g.1
  · rw [pushC_20 hr _ (by omega) (by omega)]
    exact g.2.2 k hk
