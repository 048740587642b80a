theorem by_pk : ∀ (t : List Nat) (r : Nat), By t → r + t.length < 256 → By (pk r t)
  | [], r, _, _ => fun x hx => by simp [pk] at hx
  | [v], r, hb, hl => fun x hx => by
    simp only [pk, List.mem_cons, List.not_mem_nil, or_false] at hx
    simp only [List.length_cons, List.length_nil] at hl
    rcases hx with rfl | rfl
    · omega
    · exact hb _ (by simp)
  | v :: w :: t, r, hb, hl => by
    have hb2 : By (w :: t) := fun x hx => hb x (List.mem_cons_of_mem _ hx)
    simp only [List.length_cons] at hl
    unfold pk
    split
    · exact by_pk (w :: t) (r + 1) hb2 (by simp only [List.length_cons]; omega)
    · intro x hx
      rcases List.mem_cons.mp hx with rfl | hx
      · omega
      · rcases List.mem_cons.mp hx with rfl | hx
        · exact hb _ (by simp)
        · exact by_pk (w :: t) 0 hb2 (by simp only [List.length_cons]; omega) x hx
theorem by_cons {k : Nat} {t : List Nat} (hk : k < 256) (ht : By t) : By (k :: t) := fun x hx => by
  rcases List.mem_cons.mp hx with rfl | hx
  · exact hk
  · exact ht x hx
theorem by_encS {t : List Nat} (ht : By t) (hl : t.length ≤ 60) : By (encS t) ∧ 1 ≤ (encS t).length ∧ (encS t).length ≤ 121 := by
  unfold encS
  have h1 := pkr_len t 0
  split
  · exact ⟨by_cons (by decide) (by_pk t 0 ht (by omega)), by simp, by simp only [List.length_cons]; unfold pack; omega⟩
  · exact ⟨by_cons (by decide) ht, by simp, by simp only [List.length_cons]; omega⟩
theorem by_encD {b t : List Nat} (ht : By t) (hl : t.length ≤ 60) (hb : b.length ≤ 60) : By (encD b t) ∧ 1 ≤ (encD b t).length ∧ (encD b t).length ≤ 121 := by
  have h1 := encD_len (b := b) (t := t)
  have h2 := cpre_1 b t
  refine ⟨?_, by unfold encD; simp, by omega⟩
  unfold encD
  exact by_cons (by decide) (by_cons (by omega) (by_cons (by omega) (by_cons (by omega) ((ht.drop _).take _))))
/-- what a chosen chunk and base are -/
def Chz (rs : List Rc) (b : List Nat × Option Nat) : Prop := By b.1 ∧ 1 ≤ b.1.length ∧ b.1.length ≤ 121 ∧ ∀ n, b.2 = some n → n < rs.length ∧ chn rs 5 (some n) ≠ none
theorem chz_cand {d : List Nat} {rs : List Rc} {t : List Nat} {b : List Nat × Option Nat} {o : Option Nat} (hd : By d) (ht : By t) (hl : t.length ≤ 60) (ho : ∀ n, o = some n → n < rs.length) (h : Chz rs b) : Chz rs (cand d rs t b o) := by
  cases o with
  | none => exact h
  | some n =>
    cases hb : built d rs n with
    | none => rw [cand_n hb]; exact h
    | some u =>
      rw [cand_s hb]
      split
      · rename_i hc
        have hu := by_built hd hb
        have he := by_encD (b := u) ht hl hu.2
        refine ⟨he.1, he.2.1, he.2.2, fun k hk => ?_⟩
        cases hk
        refine ⟨ho n rfl, fun e => ?_⟩
        have := hc.2
        unfold fits6 at this
        rw [e] at this
        cases this
      · exact h
theorem chz {d : List Nat} {rs : List Rc} {t : List Nat} {p q : Option Nat} (hd : By d) (ht : By t) (hl : t.length ≤ 60) (hp : ∀ n, p = some n → n < rs.length) (hq : ∀ n, q = some n → n < rs.length) : Chz rs (choose d rs p q t) := by
  have h0 : Chz rs (encS t, none) := ⟨(by_encS ht hl).1, (by_encS ht hl).2.1, (by_encS ht hl).2.2, fun n e => by cases e⟩
  exact chz_cand hd ht hl (fun n e => by unfold lastR at e; split at e; cases e; cases e; omega) (chz_cand hd ht hl hq (chz_cand hd ht hl hp h0))
theorem chn_pre {rs rs2 : List Rc} {N : Nat} (he : ∀ n, n < N → rs2[n]? = rs[n]?) (hb : ∀ n x, rs[n]? = some x → n < N → ∀ b, x.bas = some b → b < n) : ∀ (f n : Nat), n < N → chn rs2 f (some n) = chn rs f (some n)
  | 0, n, _ => rfl
  | f + 1, n, hn => by
    cases hx : rs[n]? with
    | none =>
      unfold chn
      rw [he n hn, hx]
    | some x =>
      rw [chn_s hx, chn_s ((he n hn).trans hx)]
      cases hbx : x.bas with
      | none => rw [chn_0, chn_0]
      | some b =>
        have := hb n x hx hn b hbx
        rw [chn_pre he hb f b (by omega)]
theorem Wfs.bas {d : Nat} {rs : List Rc} (h : Wfs d rs) : ∀ (n : Nat) (x : Rc), rs[n]? = some x → ∀ b, x.bas = some b → b < n := fun n x hx b hb => (h n x hx).1 b hb
theorem Wfs.mono {d d2 : Nat} {rs : List Rc} (h : Wfs d rs) (hd : d ≤ d2) : Wfs d2 rs := fun n x hx => by
  obtain ⟨a1, a2, a3, a4, a5, a6, a7, a8⟩ := h n x hx
  exact ⟨a1, a2, a3, a4, a5, a6, by omega, a8⟩
theorem Wfs.push {d d2 : Nat} {rs : List Rc} {x : Rc} (h : Wfs d rs) (hd : d ≤ d2) (h1 : ∀ b, x.bas = some b → b < rs.length ∧ chn rs 5 (some b) ≠ none) (h2 : ∀ b, x.pa = some b → b < rs.length) (h3 : ∀ b, x.pb = some b → b < rs.length) (h4 : 1 ≤ x.siz) (h5 : x.siz ≤ 121) (h6 : x.len ≤ 60) (h7 : x.off + x.siz ≤ d2) : Wfs d2 (rs ++ [x]) := by
  have he : ∀ n, n < rs.length → (rs ++ [x])[n]? = rs[n]? := fun n hn => List.getElem?_append_left hn
  have hp : ∀ f n, n < rs.length → chn (rs ++ [x]) f (some n) = chn rs f (some n) := chn_pre he (fun n y hy _ b hb => h.bas n y hy b hb)
  intro n y hy
  by_cases hn : n < rs.length
  · rw [he n hn] at hy
    obtain ⟨a1, a2, a3, a4, a5, a6, a7, a8⟩ := h n y hy
    exact ⟨a1, a2, a3, a4, a5, a6, by omega, by rw [hp 6 n hn]; exact a8⟩
  · have hl : n < (rs ++ [x]).length := (List.getElem?_eq_some_iff.mp hy).1
    rw [List.length_append] at hl
    have hn2 : n = rs.length := by simp at hl; omega
    subst hn2
    have hyx : (rs ++ [x])[rs.length]? = some x := by rw [List.getElem?_append_right (Nat.le_refl _), Nat.sub_self]; rfl
    rw [hyx] at hy
    cases hy
    refine ⟨fun b hb => (h1 b hb).1, h2, h3, h4, h5, h6, h7, ?_⟩
    rw [chn_s hyx]
    cases hb : x.bas with
    | none => rw [chn_0]; simp
    | some b =>
      rw [hp 5 b (h1 b hb).1]
      cases hc : chn rs 5 (some b) with
      | none => exact absurd hc (h1 b hb).2
      | some q => simp
theorem Wfs.take {d n : Nat} {rs : List Rc} (h : Wfs d rs) : Wfs d (rs.take n) := by
  have hg : ∀ (k : Nat) (x : Rc), (rs.take n)[k]? = some x → rs[k]? = some x ∧ k < n := fun k x hx => by
    have hk := (List.getElem?_eq_some_iff.mp hx).1
    rw [List.length_take] at hk
    rw [List.getElem?_take_of_lt (by omega)] at hx
    exact ⟨hx, by omega⟩
  intro k x hx
  obtain ⟨h1, h2⟩ := hg k x hx
  obtain ⟨a1, a2, a3, a4, a5, a6, a7, a8⟩ := h k x h1
  refine ⟨a1, a2, a3, a4, a5, a6, a7, ?_⟩
  rw [chn_pre (rs := rs) (N := n) (fun m hm => List.getElem?_take_of_lt hm) (fun m y hy _ b hb => h.bas m y hy b hb) 6 k h2]
  exact a8
/-- what holds of a repository between calls -/
def WfR (R : Rp) : Prop := By R.dat ∧ R.dat.length ≤ 600 ∧ R.rcs.length ≤ 24 ∧ R.fai ≤ 100 ∧ (R.dwn = true → R.fai = 0) ∧ (∀ d n, R.jrn = some (d, n) → d ≤ R.dat.length ∧ n ≤ R.rcs.length ∧ Wfs d (R.rcs.take n)) ∧ (R.jrn = none ∨ R.dwn = false → Wfs R.dat.length R.rcs)
theorem wrt_wf {R : Rp} (h : WfR R) (hd : R.dwn = false) : WfR (wrt R).2 := by
  obtain ⟨a1, a2, a3, a4, a5, a6, a7⟩ := h
  have a8 := a7 (Or.inr hd)
  unfold wrt
  split
  · exact ⟨a1, a2, a3, a4, a5, a6, a7⟩
  · split
    · exact ⟨a1, a2, a3, Nat.zero_le _, fun _ => rfl, a6, fun _ => a8⟩
    · exact ⟨a1, a2, a3, Nat.le_trans (Nat.sub_le _ _) a4, (fun e => by cases e), a6, fun _ => a8⟩
theorem begn_wf {R : Rp} (h : WfR R) (hd : R.dwn = false) : WfR (begn R).2 := by
  have hw := wrt_wf h hd
  by_cases hb : (wrt R).1 = true
  · rw [begn_t hb]
    obtain ⟨a1, a2, a3, a4, a5, a6, a7⟩ := hw
    have a8 := a7 (Or.inr (wrt_w hb hd))
    refine ⟨a1, a2, a3, a4, a5, fun d n e => ?_, fun _ => a8⟩
    cases e
    exact ⟨Nat.le_refl _, Nat.le_refl _, a8.take⟩
  · rw [begn_f hb]
    exact hw
theorem fini_wf {R : Rp} (h : WfR R) (hd : R.dwn = false) : WfR (fini R).2 := by
  have hw := wrt_wf h hd
  by_cases hb : (wrt R).1 = true
  · rw [fini_t hb]
    obtain ⟨a1, a2, a3, a4, a5, a6, a7⟩ := hw
    exact ⟨a1, a2, a3, a4, a5, (fun d n e => by cases e), fun _ => a7 (Or.inr (wrt_w hb hd))⟩
  · rw [fini_f hb]
    exact hw
theorem e0_wrt (Q : Rp) (hq : ¬ (wrt Q).1 = true) : (wrt Q).2 = (Q.dat, Q.rcs, Q.jrn, true, 0) := by
  unfold wrt at hq ⊢
  split
  · rename_i h1
    rw [if_pos h1] at hq
    exact absurd rfl hq
  · split
    · rfl
    · rename_i h1 h2
      rw [if_neg h1, if_neg h2] at hq
      exact absurd rfl hq
theorem roll_wfj {dat : List Nat} {rcs : List Rc} {jrn : Option (Nat × Nat)} {k d n : Nat} (a1 : By dat) (a2 : dat.length ≤ 600) (a3 : rcs.length ≤ 24) (hk : k ≤ 100) (hj : jrn = some (d, n)) (j1 : d ≤ dat.length) (j2 : n ≤ rcs.length) (j3 : Wfs d (rcs.take n)) : WfR (roll (dat, rcs, jrn, false, k) d n).2 := by
  subst hj
  obtain ⟨R, hR⟩ : ∃ R : Rp, ((dat, rcs, some (d, n), false, k) : Rp) = R := ⟨_, rfl⟩
  rw [hR]
  have rd : R.dat = dat := by rw [← hR]; rfl
  have rr : R.rcs = rcs := by rw [← hR]; rfl
  have rj : R.jrn = some (d, n) := by rw [← hR]; rfl
  have rw' : R.dwn = false := by rw [← hR]; rfl
  have rf : R.fai = k := by rw [← hR]; rfl
  have w1 := wrt_d R
  have w2 := wrt_r R
  have w3 := wrt_j R
  have w4 := wrt_f R
  have lc : ((wrt R).2.dat.take d).length = d := by rw [List.length_take, w1, rd]; omega
  have jn : ∀ d' n', (wrt R).2.jrn = some (d', n') → d' = d ∧ n' = n := fun d' n' e => by
    rw [w3, rj] at e
    cases e
    exact ⟨rfl, rfl⟩
  by_cases hb : (wrt R).1 = true
  · have hdw := wrt_w hb rw'
    by_cases hb2 : (wrt (cutR (wrt R).2 d)).1 = true
    · rw [roll_3 hb hb2]
      have e1 : (wrt (cutR (wrt R).2 d)).2.dat = (wrt R).2.dat.take d := wrt_d _
      have e2 : (wrt (cutR (wrt R).2 d)).2.rcs = (wrt R).2.rcs := wrt_r _
      have e3 : (wrt (cutR (wrt R).2 d)).2.jrn = (wrt R).2.jrn := wrt_j _
      have e4 := wrt_w hb2 hdw
      have e5 := wrt_f (cutR (wrt R).2 d)
      have e6 : (cutR (wrt R).2 d).fai = (wrt R).2.fai := rfl
      refine fini_wf (R := takR (wrt (cutR (wrt R).2 d)).2 n) ⟨?_, ?_, ?_, ?_, ?_, ?_, ?_⟩ e4
      · show By (wrt (cutR (wrt R).2 d)).2.dat
        rw [e1, w1, rd]
        exact a1.take d
      · show (wrt (cutR (wrt R).2 d)).2.dat.length ≤ 600
        rw [e1, lc]
        omega
      · show ((wrt (cutR (wrt R).2 d)).2.rcs.take n).length ≤ 24
        rw [List.length_take, e2, w2, rr]
        omega
      · show (wrt (cutR (wrt R).2 d)).2.fai ≤ 100
        omega
      · intro e
        exact absurd e (by show ¬ (wrt (cutR (wrt R).2 d)).2.dwn = true; rw [e4]; exact fun q => by cases q)
      · intro d' n' e
        have e : (wrt (cutR (wrt R).2 d)).2.jrn = some (d', n') := e
        rw [e3] at e
        obtain ⟨rfl, rfl⟩ := jn d' n' e
        show d' ≤ (wrt (cutR (wrt R).2 d')).2.dat.length ∧ n' ≤ ((wrt (cutR (wrt R).2 d')).2.rcs.take n').length ∧ Wfs d' (((wrt (cutR (wrt R).2 d')).2.rcs.take n').take n')
        rw [e1, lc, e2, List.length_take, List.take_take, Nat.min_self, w2, rr]
        exact ⟨Nat.le_refl _, by omega, j3⟩
      · intro _
        show Wfs (wrt (cutR (wrt R).2 d)).2.dat.length ((wrt (cutR (wrt R).2 d)).2.rcs.take n)
        rw [e1, lc, e2, w2, rr]
        exact j3
    · rw [roll_2 hb hb2, e0_wrt _ hb2]
      refine ⟨?_, ?_, ?_, Nat.zero_le _, (fun _ => rfl), fun d' n' e => ?_, fun e => ?_⟩
      · show By ((wrt R).2.dat.take d)
        rw [w1, rd]
        exact a1.take d
      · show ((wrt R).2.dat.take d).length ≤ 600
        rw [lc]
        omega
      · show (wrt R).2.rcs.length ≤ 24
        rw [w2, rr]
        exact a3
      · obtain ⟨rfl, rfl⟩ := jn d' n' e
        show d' ≤ ((wrt R).2.dat.take d').length ∧ n' ≤ (wrt R).2.rcs.length ∧ Wfs d' ((wrt R).2.rcs.take n')
        rw [lc, w2, rr]
        exact ⟨Nat.le_refl _, j2, j3⟩
      · rcases e with e | e
        · have e : (wrt R).2.jrn = none := e
          rw [w3, rj] at e
          cases e
        · cases e
  · rw [roll_1 hb, e0_wrt _ hb]
    refine ⟨?_, ?_, ?_, Nat.zero_le _, (fun _ => rfl), fun d' n' e => ?_, fun e => ?_⟩
    · show By R.dat
      rw [rd]
      exact a1
    · show R.dat.length ≤ 600
      rw [rd]
      exact a2
    · show R.rcs.length ≤ 24
      rw [rr]
      exact a3
    · have e : R.jrn = some (d', n') := e
      rw [rj] at e
      cases e
      show d ≤ R.dat.length ∧ n ≤ R.rcs.length ∧ Wfs d (R.rcs.take n)
      rw [rd, rr]
      exact ⟨j1, j2, j3⟩
    · rcases e with e | e
      · have e : R.jrn = none := e
        rw [rj] at e
        cases e
      · cases e
theorem roll_wf {R : Rp} {d n : Nat} (h : WfR R) (hd : R.dwn = false) (hj : R.jrn = some (d, n)) : WfR (roll R d n).2 := by
  obtain ⟨a1, a2, a3, a4, a5, a6, a7⟩ := h
  obtain ⟨j1, j2, j3⟩ := a6 d n hj
  have e : R = (R.dat, R.rcs, R.jrn, false, R.fai) := by rw [← hd]; rfl
  rw [e]
  exact roll_wfj a1 a2 a3 a4 hj j1 j2 j3
theorem recov_wf {R : Rp} {k : Nat} (h : WfR R) (hk : k ≤ 100) : WfR (recov R k).2 := by
  obtain ⟨a1, a2, a3, a4, a5, a6, a7⟩ := h
  cases hj : R.jrn with
  | none =>
    have e : recov R k = (0, (R.dat, R.rcs, none, false, 0)) := by unfold recov; rw [hj]
    rw [e]
    exact ⟨a1, a2, a3, Nat.zero_le _, (fun _ => rfl), (fun d n e => by cases e), fun _ => a7 (Or.inl hj)⟩
  | some p =>
    obtain ⟨d, n⟩ := p
    have e : recov R k = roll (R.dat, R.rcs, R.jrn, false, k) d n := by unfold recov; rw [hj]
    rw [e]
    obtain ⟨j1, j2, j3⟩ := a6 d n hj
    -- rolling back: what is wanted of the start is its journal alone
    exact roll_wfj a1 a2 a3 hk hj j1 j2 j3
