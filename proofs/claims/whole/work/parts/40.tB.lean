theorem eBegin0 {V : Vt} {r : Int32} (h : ¬ (0 ≤ r ∧ r < 2)) : oBegin V r = (.inr 0, V) := onR_n h
theorem eBegin1 {V : Vt} {q : Nat} (hq : q < 2) (h : (V.2 q).dwn = true ∨ (V.2 q).jrn.isSome = true) : oBegin V (nI q) = (.inr 1, V) := (onR_y hq).trans (if_pos h)
theorem eBegin2 {V : Vt} {q : Nat} (hq : q < 2) (h : ¬ ((V.2 q).dwn = true ∨ (V.2 q).jrn.isSome = true)) : oBegin V (nI q) = (.inl (if (begn (V.2 q)).1 = true then 0 else -2), upR V q (begn (V.2 q)).2) := (onR_y hq).trans (if_neg h)
set_option maxRecDepth 100000 in
set_option maxHeartbeats 4000000 in
theorem x_V_begin (l : Launch) {D : Dt} (hD : OkD D) {c : Cs} {τ : Cs × (Nat → Int64)} {V : Vt} {r : Int32} (hC : CAbs c V) (hW : WfV V) {z : Int32} (ho : (oBegin V r).1 = .inl z) : Cp l D y_V_begin b_V_begin 3 (some .int) 8 [.int r, .ref (aVlt D)] ((c, τ) : Sg) (fun a0 u => ∃ c2, u = ((c2, τ) : Sg) ∧ a0 = some (.int z) ∧ CAbs c2 (oBegin V r).2) := by
  by_cases h0 : 0 ≤ r ∧ r < 2
  · skip
    obtain ⟨q, hq, rfl⟩ := okr_n h0
    have g := hC.rep hq
    have wf := hW.rep hq
    have g24 := g.2.2.1
    by_cases h1 : (V.2 q).dwn = true ∨ (V.2 q).jrn.isSome = true
    · skip
      rw [eBegin1 hq h1] at ho
      cases ho
    · skip
      rw [eBegin2 hq h1] at ho ⊢
      cases ho
      refine Cp.of hD (by decide) (Nat.le_of_ble_eq_true rfl) [(0, some (.ref (aVlt D))), (1, some (.int (nI q)))] rfl (fun X hX C => ?_)
      subst hX
      refine g_aload_n (pc := 0) (i := 0) C d_V_begin_0 rfl rfl ?_
      refine g_iload_n (pc := 1) (i := 1) C d_V_begin_1 rfl rfl ?_
      refine g_callV1 (pc := 2) (As := [_]) C my_V_repositoryAt mv_V_repositoryAt cl_V_43 is_V d_V_begin_2 (Nat.le_of_ble_eq_true rfl) rfl (Nat.le_of_ble_eq_true rfl) ⟨Nat.zero_le _, Nat.zero_le _⟩ (c_V_repositoryAt _ hD (by omega)) ?_
      refine g_astore_n (pc := 5) (i := 2) C d_V_begin_5 rfl (by decide) rfl ?_
      refine g_aload_n (pc := 6) (i := 2) C d_V_begin_6 rfl rfl ?_
      refine gf_Rep_down (pc := 7) C (by omega) fl_V_47 d_V_begin_7 ?_
      rw [g.1.2.2.2.1]
      refine g_if_ne (pc := 10) (tgt := 20) C d_V_begin_10 (by decide) (fun h10 => ?_) (fun h10 => ?_)
      · first | exact absurd h10 (b1_f (fun e => h1 (Or.inl e))) | exact absurd (b1_f (fun e => h1 (Or.inl e))) h10
      · skip
        refine g_aload_n (pc := 13) (i := 2) C d_V_begin_13 rfl rfl ?_
        refine gf_Rep_journal (pc := 14) C (by omega) fl_V_51 d_V_begin_14 ?_
        rw [g.1.2.1]
        refine g_if_eq (pc := 17) (tgt := 28) C d_V_begin_17 (by decide) (fun h17 => ?_) (fun h17 => ?_)
        · skip
          refine g_aload_n (pc := 28) (i := 2) C d_V_begin_28 rfl rfl ?_
          refine g_callVp (pc := 29) (As := []) C my_Rep_openJournal mv_Rep_openJournal cl_V_57 (is_Rep (by omega)) d_V_begin_29 (Nat.le_of_ble_eq_true rfl) rfl (Nat.le_of_ble_eq_true rfl) ⟨Nat.zero_le _, Nat.zero_le _⟩ (x_Rep_openJournal _ hD hq g (by simpa using fun e => h1 (Or.inl e)) wf.2.2.2.1) (fun r29 u29 hp29 => ?_)
          obtain ⟨c2, rfl, rfl, gr, s2⟩ := hp29
          refine g_if_eq (pc := 32) (tgt := 39) C d_V_begin_32 (by decide) (fun h32 => ?_) (fun h32 => ?_)
          · have hb := b1_0 h32
            refine g_bipush (pc := 39) C d_V_begin_39 bp_m2 ?_
            refine g_iret (pc := 41) C d_V_begin_41 ?_
            exact ⟨c2, rfl, by rw [if_neg hb], hC.ci hq s2 gr⟩
          · have hb := b1_1 h32
            refine g_iconst (pc := 35) C d_V_begin_35 ic_0 ?_
            refine g_goto (pc := 36) (tgt := 41) C d_V_begin_36 (by decide) ?_
            refine g_iret (pc := 41) C d_V_begin_41 ?_
            exact ⟨c2, rfl, by rw [if_pos hb], hC.ci hq s2 gr⟩
        · first | exact absurd h17 (b1_f (fun e => h1 (Or.inr e))) | exact absurd (b1_f (fun e => h1 (Or.inr e))) h17
  · skip
    rw [eBegin0 h0] at ho
    cases ho
set_option maxRecDepth 100000 in
set_option maxHeartbeats 4000000 in
theorem t_V_begin (l : Launch) {D : Dt} (hD : OkD D) {c : Cs} {τ : Cs × (Nat → Int64)} {V : Vt} {r : Int32} (hO : OkT l D) (hC : CAbs c V) (hW : WfV V) {k : Nat} (ho : (oBegin V r).1 = .inr k) : Tt l D y_V_begin b_V_begin 3 (some .int) 8 [.int r, .ref (aVlt D)] ((c, τ) : Sg) (exN k) (fun u => ∃ c2, u = ((c2, τ) : Sg) ∧ CAbs c2 (oBegin V r).2) := by
  by_cases h0 : 0 ≤ r ∧ r < 2
  · skip
    obtain ⟨q, hq, rfl⟩ := okr_n h0
    have g := hC.rep hq
    have wf := hW.rep hq
    have g24 := g.2.2.1
    by_cases h1 : (V.2 q).dwn = true ∨ (V.2 q).jrn.isSome = true
    · skip
      rw [eBegin1 hq h1] at ho ⊢
      cases ho
      refine Tt.of hD (by decide) (Nat.le_of_ble_eq_true rfl) [(0, some (.ref (aVlt D))), (1, some (.int (nI q)))] rfl (fun X hX C hR => ?_)
      subst hX
      refine g_aload_n (pc := 0) (i := 0) C d_V_begin_0 rfl rfl ?_
      refine g_iload_n (pc := 1) (i := 1) C d_V_begin_1 rfl rfl ?_
      refine g_callV1 (pc := 2) (As := [_]) C my_V_repositoryAt mv_V_repositoryAt cl_V_43 is_V d_V_begin_2 (Nat.le_of_ble_eq_true rfl) rfl (Nat.le_of_ble_eq_true rfl) ⟨Nat.zero_le _, Nat.zero_le _⟩ (c_V_repositoryAt _ hD (by omega)) ?_
      refine g_astore_n (pc := 5) (i := 2) C d_V_begin_5 rfl (by decide) rfl ?_
      refine g_aload_n (pc := 6) (i := 2) C d_V_begin_6 rfl rfl ?_
      refine gf_Rep_down (pc := 7) C (by omega) fl_V_47 d_V_begin_7 ?_
      rw [g.1.2.2.2.1]
      refine g_if_ne (pc := 10) (tgt := 20) C d_V_begin_10 (by decide) (fun h10 => ?_) (fun h10 => ?_)
      · skip
        exact g_throw (pc := 20) C hO hR tw_ISE (⟨c, rfl, hC⟩) (by decide) d_V_begin_20 d_V_begin_23 d_V_begin_24 d_V_begin_27
      · have hd := b1_0 h10
        refine g_aload_n (pc := 13) (i := 2) C d_V_begin_13 rfl rfl ?_
        refine gf_Rep_journal (pc := 14) C (by omega) fl_V_51 d_V_begin_14 ?_
        rw [g.1.2.1]
        refine g_if_eq (pc := 17) (tgt := 28) C d_V_begin_17 (by decide) (fun h17 => ?_) (fun h17 => ?_)
        · first | exact absurd h17 (fun e => b1_0 e (h1.resolve_left hd)) | exact absurd (fun e => b1_0 e (h1.resolve_left hd)) h17
        · skip
          exact g_throw (pc := 20) C hO hR tw_ISE (⟨c, rfl, hC⟩) (by decide) d_V_begin_20 d_V_begin_23 d_V_begin_24 d_V_begin_27
    · skip
      rw [eBegin2 hq h1] at ho
      cases ho
  · skip
    rw [eBegin0 h0] at ho ⊢
    cases ho
    refine Tt.of hD (by decide) (Nat.le_of_ble_eq_true rfl) [(0, some (.ref (aVlt D))), (1, some (.int r))] rfl (fun X hX C hR => ?_)
    subst hX
    refine g_aload_n (pc := 0) (i := 0) C d_V_begin_0 rfl rfl ?_
    refine g_iload_n (pc := 1) (i := 1) C d_V_begin_1 rfl rfl ?_
    exact g_callVt (pc := 2) (As := [_]) C hR my_V_repositoryAt mv_V_repositoryAt ml_V_43 is_V d_V_begin_2 (Nat.le_of_ble_eq_true rfl) rfl (Nat.le_of_ble_eq_true rfl) (t_V_repositoryAt _ hD hO h0 |> Tt.to (fun u e => ⟨c, e, hC⟩))
theorem eCommit0 {V : Vt} {r : Int32} (h : ¬ (0 ≤ r ∧ r < 2)) : oCommit V r = (.inr 0, V) := onR_n h
theorem eCommit1 {V : Vt} {q : Nat} (hq : q < 2) (h : (V.2 q).dwn = true ∨ ¬ (V.2 q).jrn.isSome = true) : oCommit V (nI q) = (.inr 1, V) := (onR_y hq).trans (if_pos h)
theorem eCommit2 {V : Vt} {q : Nat} (hq : q < 2) (h : ¬ ((V.2 q).dwn = true ∨ ¬ (V.2 q).jrn.isSome = true)) : oCommit V (nI q) = (.inl (if (fini (V.2 q)).1 = true then 0 else -2), upR V q (fini (V.2 q)).2) := (onR_y hq).trans (if_neg h)
theorem eAbort0 {V : Vt} {r : Int32} (h : ¬ (0 ≤ r ∧ r < 2)) : oAbort V r = (.inr 0, V) := onR_n h
theorem eAbort1 {V : Vt} {q : Nat} (hq : q < 2) (h : (V.2 q).dwn = true ∨ ¬ (V.2 q).jrn.isSome = true) : oAbort V (nI q) = (.inr 1, V) := by
  refine (onR_y hq).trans ?_
  split
  · rfl
  · rename_i h1
    cases hj : (V.2 q).jrn with
    | none => rfl
    | some p => rw [hj] at h; exact absurd rfl (h.resolve_left h1)
theorem eAbort2 {V : Vt} {q : Nat} {p : Nat × Nat} (hq : q < 2) (h : ¬ (V.2 q).dwn = true) (hj : (V.2 q).jrn = some p) : oAbort V (nI q) = (.inl (Int32.ofInt (roll (V.2 q) p.1 p.2).1), upR V q (roll (V.2 q) p.1 p.2).2) := by
  refine (onR_y hq).trans ?_
  rw [if_neg h, hj]
theorem CAbs.pr {c c2 : Cs} {V : Vt} {q : Nat} {R : Rp} (h : CAbs c V) (hq : q < 2) (hs : Sm (Pr q) c c2) (hR : RepIs c2 q R) : CAbs c2 (upR V q R) := h.up hq (fun k => k.sm hs (by unfold Pr Rw; omega) (by unfold Pr Rw; omega)) hR (fun k hk hn g => g.gm hs (fun t ht => by unfold Pr Rw; omega)) (h.2.2.2.gm hs (fun r hr k hk => by unfold Pr Rw; omega))
theorem jsome {R : Rp} (h : ¬ (R.dwn = true ∨ ¬ R.jrn.isSome = true)) : ¬ R.dwn = true ∧ R.jrn.isSome = true := ⟨fun e => h (Or.inl e), Classical.byContradiction fun e => h (Or.inr e)⟩
theorem dfalse {R : Rp} (h : ¬ R.dwn = true) : R.dwn = false := by simpa using h
set_option maxRecDepth 100000 in
set_option maxHeartbeats 4000000 in
theorem x_V_commit (l : Launch) {D : Dt} (hD : OkD D) {c : Cs} {τ : Cs × (Nat → Int64)} {V : Vt} {r : Int32} (hC : CAbs c V) (hW : WfV V) {z : Int32} (ho : (oCommit V r).1 = .inl z) : Cp l D y_V_commit b_V_commit 2 (some .int) 8 [.int r, .ref (aVlt D)] ((c, τ) : Sg) (fun a0 u => ∃ c2, u = ((c2, τ) : Sg) ∧ a0 = some (.int z) ∧ CAbs c2 (oCommit V r).2) := by
  by_cases h0 : 0 ≤ r ∧ r < 2
  · skip
    obtain ⟨q, hq, rfl⟩ := okr_n h0
    have g := hC.rep hq
    have wf := hW.rep hq
    have g24 := g.2.2.1
    by_cases h1 : (V.2 q).dwn = true ∨ ¬ (V.2 q).jrn.isSome = true
    · skip
      rw [eCommit1 hq h1] at ho
      cases ho
    · skip
      have hdj := jsome h1
      rw [eCommit2 hq h1] at ho ⊢
      cases ho
      refine Cp.of hD (by decide) (Nat.le_of_ble_eq_true rfl) [(0, some (.ref (aVlt D))), (1, some (.int (nI q)))] rfl (fun X hX C => ?_)
      subst hX
      refine g_aload_n (pc := 0) (i := 0) C d_V_commit_0 rfl rfl ?_
      refine g_iload_n (pc := 1) (i := 1) C d_V_commit_1 rfl rfl ?_
      refine g_callV1 (pc := 2) (As := [_]) C my_V_repositoryInTransaction mv_V_repositoryInTransaction cl_V_61 is_V d_V_commit_2 (Nat.le_of_ble_eq_true rfl) rfl (Nat.le_of_ble_eq_true rfl) ⟨Nat.zero_le _, Nat.zero_le _⟩ (c_V_repositoryInTransaction _ hD hq g hdj.1 hdj.2) ?_
      refine g_callVp (pc := 5) (As := []) C my_Rep_removeJournal mv_Rep_removeJournal cl_V_77 (is_Rep (by omega)) d_V_commit_5 (Nat.le_of_ble_eq_true rfl) rfl (Nat.le_of_ble_eq_true rfl) ⟨Nat.zero_le _, Nat.zero_le _⟩ (x_Rep_removeJournal _ hD hq g (dfalse hdj.1) wf.2.2.2.1) (fun r5 u5 hp5 => ?_)
      obtain ⟨c2, rfl, rfl, gr, s2⟩ := hp5
      refine g_if_eq (pc := 8) (tgt := 15) C d_V_commit_8 (by decide) (fun h8 => ?_) (fun h8 => ?_)
      · have hb := b1_0 h8
        refine g_bipush (pc := 15) C d_V_commit_15 bp_m2 ?_
        refine g_iret (pc := 17) C d_V_commit_17 ?_
        exact ⟨c2, rfl, by rw [if_neg hb], hC.ci hq s2 gr⟩
      · have hb := b1_1 h8
        refine g_iconst (pc := 11) C d_V_commit_11 ic_0 ?_
        refine g_goto (pc := 12) (tgt := 17) C d_V_commit_12 (by decide) ?_
        refine g_iret (pc := 17) C d_V_commit_17 ?_
        exact ⟨c2, rfl, by rw [if_pos hb], hC.ci hq s2 gr⟩
  · skip
    rw [eCommit0 h0] at ho
    cases ho
set_option maxRecDepth 100000 in
set_option maxHeartbeats 4000000 in
theorem t_V_commit (l : Launch) {D : Dt} (hD : OkD D) {c : Cs} {τ : Cs × (Nat → Int64)} {V : Vt} {r : Int32} (hO : OkT l D) (hC : CAbs c V) (hW : WfV V) {k : Nat} (ho : (oCommit V r).1 = .inr k) : Tt l D y_V_commit b_V_commit 2 (some .int) 8 [.int r, .ref (aVlt D)] ((c, τ) : Sg) (exN k) (fun u => ∃ c2, u = ((c2, τ) : Sg) ∧ CAbs c2 (oCommit V r).2) := by
  by_cases h0 : 0 ≤ r ∧ r < 2
  · skip
    obtain ⟨q, hq, rfl⟩ := okr_n h0
    have g := hC.rep hq
    have wf := hW.rep hq
    have g24 := g.2.2.1
    by_cases h1 : (V.2 q).dwn = true ∨ ¬ (V.2 q).jrn.isSome = true
    · skip
      rw [eCommit1 hq h1] at ho ⊢
      cases ho
      refine Tt.of hD (by decide) (Nat.le_of_ble_eq_true rfl) [(0, some (.ref (aVlt D))), (1, some (.int (nI q)))] rfl (fun X hX C hR => ?_)
      subst hX
      refine g_aload_n (pc := 0) (i := 0) C d_V_commit_0 rfl rfl ?_
      refine g_iload_n (pc := 1) (i := 1) C d_V_commit_1 rfl rfl ?_
      exact g_callVt (pc := 2) (As := [_]) C hR my_V_repositoryInTransaction mv_V_repositoryInTransaction ml_V_61 is_V d_V_commit_2 (Nat.le_of_ble_eq_true rfl) rfl (Nat.le_of_ble_eq_true rfl) (t2_V_repositoryInTransaction _ hD hO hq g h1 |> Tt.to (fun u e => ⟨c, e, hC⟩))
    · skip
      have hdj := jsome h1
      rw [eCommit2 hq h1] at ho
      cases ho
  · skip
    rw [eCommit0 h0] at ho ⊢
    cases ho
    refine Tt.of hD (by decide) (Nat.le_of_ble_eq_true rfl) [(0, some (.ref (aVlt D))), (1, some (.int r))] rfl (fun X hX C hR => ?_)
    subst hX
    refine g_aload_n (pc := 0) (i := 0) C d_V_commit_0 rfl rfl ?_
    refine g_iload_n (pc := 1) (i := 1) C d_V_commit_1 rfl rfl ?_
    exact g_callVt (pc := 2) (As := [_]) C hR my_V_repositoryInTransaction mv_V_repositoryInTransaction ml_V_61 is_V d_V_commit_2 (Nat.le_of_ble_eq_true rfl) rfl (Nat.le_of_ble_eq_true rfl) (t_V_repositoryInTransaction _ hD hO h0 |> Tt.to (fun u e => ⟨c, e, hC⟩))
set_option maxRecDepth 100000 in
set_option maxHeartbeats 4000000 in
theorem x_V_abort (l : Launch) {D : Dt} (hD : OkD D) {c : Cs} {τ : Cs × (Nat → Int64)} {V : Vt} {r : Int32} (hC : CAbs c V) (hW : WfV V) {z : Int32} (ho : (oAbort V r).1 = .inl z) : Cp l D y_V_abort b_V_abort 2 (some .int) 8 [.int r, .ref (aVlt D)] ((c, τ) : Sg) (fun a0 u => ∃ c2, u = ((c2, τ) : Sg) ∧ a0 = some (.int z) ∧ CAbs c2 (oAbort V r).2) := by
  by_cases h0 : 0 ≤ r ∧ r < 2
  · skip
    obtain ⟨q, hq, rfl⟩ := okr_n h0
    have g := hC.rep hq
    have wf := hW.rep hq
    have g24 := g.2.2.1
    by_cases h1 : (V.2 q).dwn = true ∨ ¬ (V.2 q).jrn.isSome = true
    · skip
      rw [eAbort1 hq h1] at ho
      cases ho
    · skip
      have hdj := jsome h1
      obtain ⟨⟨d, n⟩, hj⟩ := Option.isSome_iff_exists.mp hdj.2
      have w6 := wf.2.2.2.2.2.1 d n hj
      rw [eAbort2 hq hdj.1 hj] at ho ⊢
      cases ho
      refine Cp.of hD (by decide) (Nat.le_of_ble_eq_true rfl) [(0, some (.ref (aVlt D))), (1, some (.int (nI q)))] rfl (fun X hX C => ?_)
      subst hX
      refine g_aload_n (pc := 0) (i := 0) C d_V_abort_0 rfl rfl ?_
      refine g_iload_n (pc := 1) (i := 1) C d_V_abort_1 rfl rfl ?_
      refine g_callV1 (pc := 2) (As := [_]) C my_V_repositoryInTransaction mv_V_repositoryInTransaction cl_V_61 is_V d_V_abort_2 (Nat.le_of_ble_eq_true rfl) rfl (Nat.le_of_ble_eq_true rfl) ⟨Nat.zero_le _, Nat.zero_le _⟩ (c_V_repositoryInTransaction _ hD hq g hdj.1 hdj.2) ?_
      refine g_callVp (pc := 5) (As := []) C my_Rep_rollBack mv_Rep_rollBack cl_V_80 (is_Rep (by omega)) d_V_abort_5 (Nat.le_of_ble_eq_true rfl) rfl (Nat.le_of_ble_eq_true rfl) ⟨Nat.zero_le _, Nat.zero_le _⟩ (x_Rep_rollBack _ hD hq g (dfalse hdj.1) wf.2.2.2.1 hj w6.2.1 (by have := wf.2.1; omega)) (fun r5 u5 hp5 => ?_)
      obtain ⟨c2, rfl, rfl, gr, s2⟩ := hp5
      refine g_iret (pc := 8) C d_V_abort_8 ?_
      exact ⟨c2, rfl, rfl, hC.pr hq s2 gr⟩
  · skip
    rw [eAbort0 h0] at ho
    cases ho
set_option maxRecDepth 100000 in
set_option maxHeartbeats 4000000 in
theorem t_V_abort (l : Launch) {D : Dt} (hD : OkD D) {c : Cs} {τ : Cs × (Nat → Int64)} {V : Vt} {r : Int32} (hO : OkT l D) (hC : CAbs c V) (hW : WfV V) {k : Nat} (ho : (oAbort V r).1 = .inr k) : Tt l D y_V_abort b_V_abort 2 (some .int) 8 [.int r, .ref (aVlt D)] ((c, τ) : Sg) (exN k) (fun u => ∃ c2, u = ((c2, τ) : Sg) ∧ CAbs c2 (oAbort V r).2) := by
  by_cases h0 : 0 ≤ r ∧ r < 2
  · skip
    obtain ⟨q, hq, rfl⟩ := okr_n h0
    have g := hC.rep hq
    have wf := hW.rep hq
    have g24 := g.2.2.1
    by_cases h1 : (V.2 q).dwn = true ∨ ¬ (V.2 q).jrn.isSome = true
    · skip
      rw [eAbort1 hq h1] at ho ⊢
      cases ho
      refine Tt.of hD (by decide) (Nat.le_of_ble_eq_true rfl) [(0, some (.ref (aVlt D))), (1, some (.int (nI q)))] rfl (fun X hX C hR => ?_)
      subst hX
      refine g_aload_n (pc := 0) (i := 0) C d_V_abort_0 rfl rfl ?_
      refine g_iload_n (pc := 1) (i := 1) C d_V_abort_1 rfl rfl ?_
      exact g_callVt (pc := 2) (As := [_]) C hR my_V_repositoryInTransaction mv_V_repositoryInTransaction ml_V_61 is_V d_V_abort_2 (Nat.le_of_ble_eq_true rfl) rfl (Nat.le_of_ble_eq_true rfl) (t2_V_repositoryInTransaction _ hD hO hq g h1 |> Tt.to (fun u e => ⟨c, e, hC⟩))
    · skip
      have hdj := jsome h1
      obtain ⟨⟨d, n⟩, hj⟩ := Option.isSome_iff_exists.mp hdj.2
      have w6 := wf.2.2.2.2.2.1 d n hj
      rw [eAbort2 hq hdj.1 hj] at ho
      cases ho
  · skip
    rw [eAbort0 h0] at ho ⊢
    cases ho
    refine Tt.of hD (by decide) (Nat.le_of_ble_eq_true rfl) [(0, some (.ref (aVlt D))), (1, some (.int r))] rfl (fun X hX C hR => ?_)
    subst hX
    refine g_aload_n (pc := 0) (i := 0) C d_V_abort_0 rfl rfl ?_
    refine g_iload_n (pc := 1) (i := 1) C d_V_abort_1 rfl rfl ?_
    exact g_callVt (pc := 2) (As := [_]) C hR my_V_repositoryInTransaction mv_V_repositoryInTransaction ml_V_61 is_V d_V_abort_2 (Nat.le_of_ble_eq_true rfl) rfl (Nat.le_of_ble_eq_true rfl) (t_V_repositoryInTransaction _ hD hO h0 |> Tt.to (fun u e => ⟨c, e, hC⟩))
theorem eRec0 {V : Vt} {r n : Int32} (h : ¬ (0 ≤ r ∧ r < 2)) : oRecover V r n = (.inr 0, V) := onR_n h
theorem eRec1 {V : Vt} {q : Nat} {n : Int32} (hq : q < 2) (h : ¬ (0 ≤ n ∧ n ≤ 3)) : oRecover V (nI q) n = (.inr 0, V) := (onR_y hq).trans (if_neg h)
theorem eRec2 {V : Vt} {q : Nat} {n : Int32} (hq : q < 2) (h : 0 ≤ n ∧ n ≤ 3) (hd : ¬ (V.2 q).dwn = true) : oRecover V (nI q) n = (.inr 1, V) := (onR_y hq).trans ((if_pos h).trans (if_neg hd))
theorem eRec3 {V : Vt} {q k : Nat} (hq : q < 2) (hk : k ≤ 3) (h : 0 ≤ nI k ∧ nI k ≤ 3) (hd : (V.2 q).dwn = true) : oRecover V (nI q) (nI k) = (.inl (Int32.ofInt (recov (V.2 q) k).1), upR V q (recov (V.2 q) k).2) := by
  refine (onR_y hq).trans ((if_pos h).trans ((if_pos hd).trans ?_))
  rw [nI_clamp (by omega)]
set_option maxRecDepth 100000 in
set_option maxHeartbeats 4000000 in
theorem x_V_recover (l : Launch) {D : Dt} (hD : OkD D) {c : Cs} {τ : Cs × (Nat → Int64)} {V : Vt} {r n : Int32} (hC : CAbs c V) (hW : WfV V) {z : Int32} (ho : (oRecover V r n).1 = .inl z) : Cp l D y_V_recover b_V_recover 4 (some .int) 8 [.int n, .int r, .ref (aVlt D)] ((c, τ) : Sg) (fun a0 u => ∃ c2, u = ((c2, τ) : Sg) ∧ a0 = some (.int z) ∧ CAbs c2 (oRecover V r n).2) := by
  by_cases h0 : 0 ≤ r ∧ r < 2
  · skip
    obtain ⟨q, hq, rfl⟩ := okr_n h0
    have g := hC.rep hq
    have wf := hW.rep hq
    have g24 := g.2.2.1
    by_cases h1 : 0 ≤ n ∧ n ≤ 3
    · skip
      
      by_cases hd : (V.2 q).dwn = true
      · skip
        obtain ⟨m, hm, rfl⟩ := nI_of2 (M := 3) (n := 3) (by decide +kernel) (Int32.not_lt.mpr h1.1) h1.2
        rw [eRec3 hq hm h1 hd] at ho ⊢
        cases ho
        refine Cp.of hD (by decide) (Nat.le_of_ble_eq_true rfl) [(0, some (.ref (aVlt D))), (1, some (.int (nI q))), (2, some (.int (nI m)))] rfl (fun X hX C => ?_)
        subst hX
        refine g_aload_n (pc := 0) (i := 0) C d_V_recover_0 rfl rfl ?_
        refine g_iload_n (pc := 1) (i := 1) C d_V_recover_1 rfl rfl ?_
        refine g_callV1 (pc := 2) (As := [_]) C my_V_repositoryAt mv_V_repositoryAt cl_V_43 is_V d_V_recover_2 (Nat.le_of_ble_eq_true rfl) rfl (Nat.le_of_ble_eq_true rfl) ⟨Nat.zero_le _, Nat.zero_le _⟩ (c_V_repositoryAt _ hD (by omega)) ?_
        refine g_astore_n (pc := 5) (i := 3) C d_V_recover_5 rfl (by decide) rfl ?_
        refine g_iload_n (pc := 6) (i := 2) C d_V_recover_6 rfl rfl ?_
        refine g_if_lt (pc := 7) (tgt := 15) C d_V_recover_7 (by decide) (fun h7 => ?_) (fun h7 => ?_)
        · first | exact absurd h7 (Int32.not_lt.mpr h1.1) | exact absurd (Int32.not_lt.mpr h1.1) h7
        · skip
          refine g_iload_n (pc := 10) (i := 2) C d_V_recover_10 rfl rfl ?_
          refine g_iconst (pc := 11) C d_V_recover_11 ic_3 ?_
          refine g_icmp_le (pc := 12) (tgt := 23) C d_V_recover_12 (by decide) (fun h12 => ?_) (fun h12 => ?_)
          · skip
            refine g_aload_n (pc := 23) (i := 3) C d_V_recover_23 rfl rfl ?_
            refine gf_Rep_down (pc := 24) C (by omega) fl_V_47 d_V_recover_24 ?_
            rw [g.1.2.2.2.1]
            refine g_if_ne (pc := 27) (tgt := 38) C d_V_recover_27 (by decide) (fun h27 => ?_) (fun h27 => ?_)
            · skip
              refine g_aload_n (pc := 38) (i := 3) C d_V_recover_38 rfl rfl ?_
              refine g_iload_n (pc := 39) (i := 2) C d_V_recover_39 rfl rfl ?_
              refine g_callVp (pc := 40) (As := [_]) C my_Rep_comeUp mv_Rep_comeUp cl_V_94 (is_Rep (by omega)) d_V_recover_40 (Nat.le_of_ble_eq_true rfl) rfl (Nat.le_of_ble_eq_true rfl) ⟨Nat.zero_le _, Nat.zero_le _⟩ (x_Rep_comeUp _ hD hq g (wf.2.2.2.2.1 hd) (by omega) (fun p hp => by have := wf.2.2.2.2.2.1 p.1 p.2 hp; have := wf.2.1; constructor <;> omega)) (fun r40 u40 hp40 => ?_)
              obtain ⟨c2, rfl, rfl, gr, s2⟩ := hp40
              refine g_iret (pc := 43) C d_V_recover_43 ?_
              exact ⟨c2, rfl, rfl, hC.pr hq s2 gr⟩
            · first | exact absurd h27 (by rw [b1_t hd]; decide) | exact absurd (by rw [b1_t hd]; decide) h27
          · first | exact absurd h12 (h1.2) | exact absurd (h1.2) h12
      · skip
        rw [eRec2 hq h1 hd] at ho
        cases ho
    · skip
      rw [eRec1 hq h1] at ho
      cases ho
  · skip
    rw [eRec0 h0] at ho
    cases ho
set_option maxRecDepth 100000 in
set_option maxHeartbeats 4000000 in
theorem t_V_recover (l : Launch) {D : Dt} (hD : OkD D) {c : Cs} {τ : Cs × (Nat → Int64)} {V : Vt} {r n : Int32} (hO : OkT l D) (hC : CAbs c V) (hW : WfV V) {k : Nat} (ho : (oRecover V r n).1 = .inr k) : Tt l D y_V_recover b_V_recover 4 (some .int) 8 [.int n, .int r, .ref (aVlt D)] ((c, τ) : Sg) (exN k) (fun u => ∃ c2, u = ((c2, τ) : Sg) ∧ CAbs c2 (oRecover V r n).2) := by
  by_cases h0 : 0 ≤ r ∧ r < 2
  · skip
    obtain ⟨q, hq, rfl⟩ := okr_n h0
    have g := hC.rep hq
    have wf := hW.rep hq
    have g24 := g.2.2.1
    by_cases h1 : 0 ≤ n ∧ n ≤ 3
    · skip
      
      by_cases hd : (V.2 q).dwn = true
      · skip
        obtain ⟨m, hm, rfl⟩ := nI_of2 (M := 3) (n := 3) (by decide +kernel) (Int32.not_lt.mpr h1.1) h1.2
        rw [eRec3 hq hm h1 hd] at ho
        cases ho
      · skip
        rw [eRec2 hq h1 hd] at ho ⊢
        cases ho
        refine Tt.of hD (by decide) (Nat.le_of_ble_eq_true rfl) [(0, some (.ref (aVlt D))), (1, some (.int (nI q))), (2, some (.int n))] rfl (fun X hX C hR => ?_)
        subst hX
        refine g_aload_n (pc := 0) (i := 0) C d_V_recover_0 rfl rfl ?_
        refine g_iload_n (pc := 1) (i := 1) C d_V_recover_1 rfl rfl ?_
        refine g_callV1 (pc := 2) (As := [_]) C my_V_repositoryAt mv_V_repositoryAt cl_V_43 is_V d_V_recover_2 (Nat.le_of_ble_eq_true rfl) rfl (Nat.le_of_ble_eq_true rfl) ⟨Nat.zero_le _, Nat.zero_le _⟩ (c_V_repositoryAt _ hD (by omega)) ?_
        refine g_astore_n (pc := 5) (i := 3) C d_V_recover_5 rfl (by decide) rfl ?_
        refine g_iload_n (pc := 6) (i := 2) C d_V_recover_6 rfl rfl ?_
        refine g_if_lt (pc := 7) (tgt := 15) C d_V_recover_7 (by decide) (fun h7 => ?_) (fun h7 => ?_)
        · first | exact absurd h7 (Int32.not_lt.mpr h1.1) | exact absurd (Int32.not_lt.mpr h1.1) h7
        · skip
          refine g_iload_n (pc := 10) (i := 2) C d_V_recover_10 rfl rfl ?_
          refine g_iconst (pc := 11) C d_V_recover_11 ic_3 ?_
          refine g_icmp_le (pc := 12) (tgt := 23) C d_V_recover_12 (by decide) (fun h12 => ?_) (fun h12 => ?_)
          · skip
            refine g_aload_n (pc := 23) (i := 3) C d_V_recover_23 rfl rfl ?_
            refine gf_Rep_down (pc := 24) C (by omega) fl_V_47 d_V_recover_24 ?_
            rw [g.1.2.2.2.1]
            refine g_if_ne (pc := 27) (tgt := 38) C d_V_recover_27 (by decide) (fun h27 => ?_) (fun h27 => ?_)
            · first | exact absurd h27 (b1_f hd) | exact absurd (b1_f hd) h27
            · skip
              exact g_throw (pc := 30) C hO hR tw_ISE (⟨c, rfl, hC⟩) (by decide) d_V_recover_30 d_V_recover_33 d_V_recover_34 d_V_recover_37
          · first | exact absurd h12 (h1.2) | exact absurd (h1.2) h12
    · skip
      rw [eRec1 hq h1] at ho ⊢
      cases ho
      refine Tt.of hD (by decide) (Nat.le_of_ble_eq_true rfl) [(0, some (.ref (aVlt D))), (1, some (.int (nI q))), (2, some (.int n))] rfl (fun X hX C hR => ?_)
      subst hX
      refine g_aload_n (pc := 0) (i := 0) C d_V_recover_0 rfl rfl ?_
      refine g_iload_n (pc := 1) (i := 1) C d_V_recover_1 rfl rfl ?_
      refine g_callV1 (pc := 2) (As := [_]) C my_V_repositoryAt mv_V_repositoryAt cl_V_43 is_V d_V_recover_2 (Nat.le_of_ble_eq_true rfl) rfl (Nat.le_of_ble_eq_true rfl) ⟨Nat.zero_le _, Nat.zero_le _⟩ (c_V_repositoryAt _ hD (by omega)) ?_
      refine g_astore_n (pc := 5) (i := 3) C d_V_recover_5 rfl (by decide) rfl ?_
      refine g_iload_n (pc := 6) (i := 2) C d_V_recover_6 rfl rfl ?_
      refine g_if_lt (pc := 7) (tgt := 15) C d_V_recover_7 (by decide) (fun h7 => ?_) (fun h7 => ?_)
      · skip
        exact g_throw (pc := 15) C hO hR tw_IOOBE (⟨c, rfl, hC⟩) (by decide) d_V_recover_15 d_V_recover_18 d_V_recover_19 d_V_recover_22
      · skip
        refine g_iload_n (pc := 10) (i := 2) C d_V_recover_10 rfl rfl ?_
        refine g_iconst (pc := 11) C d_V_recover_11 ic_3 ?_
        refine g_icmp_le (pc := 12) (tgt := 23) C d_V_recover_12 (by decide) (fun h12 => ?_) (fun h12 => ?_)
        · first | exact absurd h12 (fun e => h1 ⟨Int32.not_lt.mp h7, e⟩) | exact absurd (fun e => h1 ⟨Int32.not_lt.mp h7, e⟩) h12
        · skip
          exact g_throw (pc := 15) C hO hR tw_IOOBE (⟨c, rfl, hC⟩) (by decide) d_V_recover_15 d_V_recover_18 d_V_recover_19 d_V_recover_22
  · skip
    rw [eRec0 h0] at ho ⊢
    cases ho
    refine Tt.of hD (by decide) (Nat.le_of_ble_eq_true rfl) [(0, some (.ref (aVlt D))), (1, some (.int r)), (2, some (.int n))] rfl (fun X hX C hR => ?_)
    subst hX
    refine g_aload_n (pc := 0) (i := 0) C d_V_recover_0 rfl rfl ?_
    refine g_iload_n (pc := 1) (i := 1) C d_V_recover_1 rfl rfl ?_
    exact g_callVt (pc := 2) (As := [_]) C hR my_V_repositoryAt mv_V_repositoryAt ml_V_43 is_V d_V_recover_2 (Nat.le_of_ble_eq_true rfl) rfl (Nat.le_of_ble_eq_true rfl) (t_V_repositoryAt _ hD hO h0 |> Tt.to (fun u e => ⟨c, e, hC⟩))
theorem eTxt0 {V : Vt} {r n k : Int32} (h : ¬ (0 ≤ r ∧ r < 2)) : oText V r n k = (.inr 0, V) := onR_n h
theorem eTxt1 {V : Vt} {q : Nat} {n k : Int32} (hq : q < 2) (h : ¬ (0 ≤ n ∧ n < nI (V.2 q).rcs.length)) : oText V (nI q) n k = (.inr 0, V) := (onR_y hq).trans (if_neg h)
theorem eTxt2 {V : Vt} {q : Nat} {n k : Int32} (hq : q < 2) (h : 0 ≤ n ∧ n < nI (V.2 q).rcs.length) (hd : (V.2 q).dwn = true) : oText V (nI q) n k = (.inr 1, V) := (onR_y hq).trans ((if_pos h).trans (if_pos hd))
theorem eTxt3 {V : Vt} {q m : Nat} {k : Int32} (hq : q < 2) (hm : m < 2 ^ 20) (h : 0 ≤ nI m ∧ nI m < nI (V.2 q).rcs.length) (hd : ¬ (V.2 q).dwn = true) (hb : built (V.2 q).dat (V.2 q).rcs m = none) : oText V (nI q) (nI m) k = (.inr 3, V) := by
  refine (onR_y hq).trans ((if_pos h).trans ((if_neg hd).trans ?_))
  rw [nI_clamp (by omega), hb]
theorem eTxt4 {V : Vt} {q m : Nat} {k : Int32} {t : List Nat} (hq : q < 2) (hm : m < 2 ^ 20) (h : 0 ≤ nI m ∧ nI m < nI (V.2 q).rcs.length) (hd : ¬ (V.2 q).dwn = true) (hb : built (V.2 q).dat (V.2 q).rcs m = some t) : oText V (nI q) (nI m) k = (.inl (atV t k), V) := by
  refine (onR_y hq).trans ((if_pos h).trans ((if_neg hd).trans ?_))
  rw [nI_clamp (by omega), hb]
theorem CAbs.bp {c c2 : Cs} {V : Vt} {q : Nat} {y : List Nat} (hC : CAbs c V) (hq : q < 2) (s2 : Sm (Bp q) c c2) (y2 : RowIs c2 (2 + 4 * q) y) : CAbs c2 V := ⟨hC.1.sm s2 (by unfold Bp Rw; omega) (by unfold Bp Rw; omega), hC.2.1.gm s2 (fun t ht => by unfold Bp Rw; omega), hC.2.2.1.gm s2 (fun t ht => by unfold Bp Rw; omega), hC.2.2.2.bp s2 hq ⟨y, y2⟩⟩
set_option maxRecDepth 100000 in
set_option maxHeartbeats 4000000 in
theorem x_V_text (l : Launch) {D : Dt} (hD : OkD D) {c : Cs} {τ : Cs × (Nat → Int64)} {V : Vt} {r n k2 : Int32} (hC : CAbs c V) (hW : WfV V) {z : Int32} (ho : (oText V r n k2).1 = .inl z) : Cp l D y_V_text b_V_text 5 (some .int) 8 [.int k2, .int n, .int r, .ref (aVlt D)] ((c, τ) : Sg) (fun a0 u => ∃ c2, u = ((c2, τ) : Sg) ∧ a0 = some (.int z) ∧ CAbs c2 (oText V r n k2).2) := by
  by_cases h0 : 0 ≤ r ∧ r < 2
  · skip
    obtain ⟨q, hq, rfl⟩ := okr_n h0
    have g := hC.rep hq
    have wf := hW.rep hq
    have g24 := g.2.2.1
    obtain ⟨y, hy⟩ := (hC.2.2.2 q hq).1
    by_cases h1 : 0 ≤ n ∧ n < nI (V.2 q).rcs.length
    · skip
      
      by_cases hd : (V.2 q).dwn = true
      · skip
        rw [eTxt2 hq h1 hd] at ho
        cases ho
      · skip
        obtain ⟨m, hm, rfl⟩ := nI_at h1 (by omega)
        cases hb : built (V.2 q).dat (V.2 q).rcs m
        · skip
          rw [eTxt3 hq (by omega) h1 hd hb] at ho
          cases ho
        · skip
          rename_i tx
          rw [eTxt4 hq (by omega) h1 hd hb] at ho ⊢
          cases ho
          refine Cp.of hD (by decide) (Nat.le_of_ble_eq_true rfl) [(0, some (.ref (aVlt D))), (1, some (.int (nI q))), (2, some (.int (nI m))), (3, some (.int k2))] rfl (fun X hX C => ?_)
          subst hX
          refine g_aload_n (pc := 0) (i := 0) C d_V_text_0 rfl rfl ?_
          refine g_iload_n (pc := 1) (i := 1) C d_V_text_1 rfl rfl ?_
          refine g_callV1 (pc := 2) (As := [_]) C my_V_repositoryAt mv_V_repositoryAt cl_V_43 is_V d_V_text_2 (Nat.le_of_ble_eq_true rfl) rfl (Nat.le_of_ble_eq_true rfl) ⟨Nat.zero_le _, Nat.zero_le _⟩ (c_V_repositoryAt _ hD (by omega)) ?_
          refine g_astore (pc := 5) C d_V_text_5 (by decide) rfl ?_
          refine g_aload (pc := 7) C d_V_text_7 rfl ?_
          refine g_iload_n (pc := 9) (i := 2) C d_V_text_9 rfl rfl ?_
          refine g_callV1 (pc := 10) (As := [_]) C my_Rep_hasRevision mv_Rep_hasRevision cl_V_101 (is_Rep (by omega)) d_V_text_10 (Nat.le_of_ble_eq_true rfl) rfl (Nat.le_of_ble_eq_true rfl) ⟨Nat.zero_le _, Nat.zero_le _⟩ (c_Rep_hasRevision _ hD (by omega)) ?_
          rw [g.1.1]
          refine g_if_ne (pc := 13) (tgt := 24) C d_V_text_13 (by decide) (fun h13 => ?_) (fun h13 => ?_)
          · skip
            refine g_aload (pc := 24) C d_V_text_24 rfl ?_
            refine gf_Rep_down (pc := 26) C (by omega) fl_V_47 d_V_text_26 ?_
            rw [g.1.2.2.2.1]
            refine g_if_eq (pc := 29) (tgt := 40) C d_V_text_29 (by decide) (fun h29 => ?_) (fun h29 => ?_)
            · skip
              refine g_aload (pc := 40) C d_V_text_40 rfl ?_
              refine g_iload_n (pc := 42) (i := 2) C d_V_text_42 rfl rfl ?_
              refine g_callVp (pc := 43) (As := [_]) C my_Rep_build mv_Rep_build cl_V_104 (is_Rep (by omega)) d_V_text_43 (Nat.le_of_ble_eq_true rfl) rfl (Nat.le_of_ble_eq_true rfl) ⟨Nat.zero_le _, Nat.zero_le _⟩ (x_Rep_build _ hD hq g.2.2 g.2.1 wf.1 (wf.2.2.2.2.2.2 (Or.inr (dfalse hd))) hm hy) (fun r43 u43 hp43 => ?_)
              obtain ⟨c2, rfl, s2, hbb⟩ := hp43
              rw [hb] at hbb
              rcases hbb with ⟨t, ht, rfl, hy2⟩ | ⟨ht, -⟩
              rotate_left
              · cases ht
              cases ht
              have ltx := (by_built wf.1 hb).2
              refine g_if_ne (pc := 46) (tgt := 57) C d_V_text_46 (by decide) (fun h46 => ?_) (fun h46 => ?_)
              · skip
                refine g_aload (pc := 57) C d_V_text_57 rfl ?_
                refine gf_Rep_built (pc := 59) C (by omega) fl_V_107 d_V_text_59 ?_
                refine g_iload_n (pc := 62) (i := 3) C d_V_text_62 rfl rfl ?_
                refine g_callV1 (pc := 63) (As := [_]) C my_Row_at mv_Row_at cl_V_110 (is_Row (by omega)) d_V_text_63 (Nat.le_of_ble_eq_true rfl) rfl (Nat.le_of_ble_eq_true rfl) ⟨Nat.zero_le _, Nat.zero_le _⟩ (c_Row_at _ hD (by omega) hy2.1 hy2.2.1) ?_
                refine g_iret (pc := 66) C d_V_text_66 ?_
                exact ⟨c2, rfl, by rw [atC_v hy2 (by omega)], hC.bp hq s2 hy2⟩
              · first | exact absurd h46 (by decide) | exact absurd (by decide) h46
            · first | exact absurd h29 (b1_f hd) | exact absurd (b1_f hd) h29
          · first | exact absurd h13 (by rw [b1_t h1]; decide) | exact absurd (by rw [b1_t h1]; decide) h13
    · skip
      rw [eTxt1 hq h1] at ho
      cases ho
  · skip
    rw [eTxt0 h0] at ho
    cases ho
set_option maxRecDepth 100000 in
set_option maxHeartbeats 4000000 in
theorem t_V_text (l : Launch) {D : Dt} (hD : OkD D) {c : Cs} {τ : Cs × (Nat → Int64)} {V : Vt} {r n k2 : Int32} (hO : OkT l D) (hC : CAbs c V) (hW : WfV V) {k : Nat} (ho : (oText V r n k2).1 = .inr k) : Tt l D y_V_text b_V_text 5 (some .int) 8 [.int k2, .int n, .int r, .ref (aVlt D)] ((c, τ) : Sg) (exN k) (fun u => ∃ c2, u = ((c2, τ) : Sg) ∧ CAbs c2 (oText V r n k2).2) := by
  by_cases h0 : 0 ≤ r ∧ r < 2
  · skip
    obtain ⟨q, hq, rfl⟩ := okr_n h0
    have g := hC.rep hq
    have wf := hW.rep hq
    have g24 := g.2.2.1
    obtain ⟨y, hy⟩ := (hC.2.2.2 q hq).1
    by_cases h1 : 0 ≤ n ∧ n < nI (V.2 q).rcs.length
    · skip
      
      by_cases hd : (V.2 q).dwn = true
      · skip
        rw [eTxt2 hq h1 hd] at ho ⊢
        cases ho
        refine Tt.of hD (by decide) (Nat.le_of_ble_eq_true rfl) [(0, some (.ref (aVlt D))), (1, some (.int (nI q))), (2, some (.int n)), (3, some (.int k2))] rfl (fun X hX C hR => ?_)
        subst hX
        refine g_aload_n (pc := 0) (i := 0) C d_V_text_0 rfl rfl ?_
        refine g_iload_n (pc := 1) (i := 1) C d_V_text_1 rfl rfl ?_
        refine g_callV1 (pc := 2) (As := [_]) C my_V_repositoryAt mv_V_repositoryAt cl_V_43 is_V d_V_text_2 (Nat.le_of_ble_eq_true rfl) rfl (Nat.le_of_ble_eq_true rfl) ⟨Nat.zero_le _, Nat.zero_le _⟩ (c_V_repositoryAt _ hD (by omega)) ?_
        refine g_astore (pc := 5) C d_V_text_5 (by decide) rfl ?_
        refine g_aload (pc := 7) C d_V_text_7 rfl ?_
        refine g_iload_n (pc := 9) (i := 2) C d_V_text_9 rfl rfl ?_
        refine g_callV1 (pc := 10) (As := [_]) C my_Rep_hasRevision mv_Rep_hasRevision cl_V_101 (is_Rep (by omega)) d_V_text_10 (Nat.le_of_ble_eq_true rfl) rfl (Nat.le_of_ble_eq_true rfl) ⟨Nat.zero_le _, Nat.zero_le _⟩ (c_Rep_hasRevision _ hD (by omega)) ?_
        rw [g.1.1]
        refine g_if_ne (pc := 13) (tgt := 24) C d_V_text_13 (by decide) (fun h13 => ?_) (fun h13 => ?_)
        · skip
          refine g_aload (pc := 24) C d_V_text_24 rfl ?_
          refine gf_Rep_down (pc := 26) C (by omega) fl_V_47 d_V_text_26 ?_
          rw [g.1.2.2.2.1]
          refine g_if_eq (pc := 29) (tgt := 40) C d_V_text_29 (by decide) (fun h29 => ?_) (fun h29 => ?_)
          · first | exact absurd h29 (by rw [b1_t hd]; decide) | exact absurd (by rw [b1_t hd]; decide) h29
          · skip
            exact g_throw (pc := 32) C hO hR tw_ISE (⟨c, rfl, hC⟩) (by decide) d_V_text_32 d_V_text_35 d_V_text_36 d_V_text_39
        · first | exact absurd h13 (by rw [b1_t h1]; decide) | exact absurd (by rw [b1_t h1]; decide) h13
      · skip
        obtain ⟨m, hm, rfl⟩ := nI_at h1 (by omega)
        cases hb : built (V.2 q).dat (V.2 q).rcs m
        · skip
          rw [eTxt3 hq (by omega) h1 hd hb] at ho ⊢
          cases ho
          refine Tt.of hD (by decide) (Nat.le_of_ble_eq_true rfl) [(0, some (.ref (aVlt D))), (1, some (.int (nI q))), (2, some (.int (nI m))), (3, some (.int k2))] rfl (fun X hX C hR => ?_)
          subst hX
          refine g_aload_n (pc := 0) (i := 0) C d_V_text_0 rfl rfl ?_
          refine g_iload_n (pc := 1) (i := 1) C d_V_text_1 rfl rfl ?_
          refine g_callV1 (pc := 2) (As := [_]) C my_V_repositoryAt mv_V_repositoryAt cl_V_43 is_V d_V_text_2 (Nat.le_of_ble_eq_true rfl) rfl (Nat.le_of_ble_eq_true rfl) ⟨Nat.zero_le _, Nat.zero_le _⟩ (c_V_repositoryAt _ hD (by omega)) ?_
          refine g_astore (pc := 5) C d_V_text_5 (by decide) rfl ?_
          refine g_aload (pc := 7) C d_V_text_7 rfl ?_
          refine g_iload_n (pc := 9) (i := 2) C d_V_text_9 rfl rfl ?_
          refine g_callV1 (pc := 10) (As := [_]) C my_Rep_hasRevision mv_Rep_hasRevision cl_V_101 (is_Rep (by omega)) d_V_text_10 (Nat.le_of_ble_eq_true rfl) rfl (Nat.le_of_ble_eq_true rfl) ⟨Nat.zero_le _, Nat.zero_le _⟩ (c_Rep_hasRevision _ hD (by omega)) ?_
          rw [g.1.1]
          refine g_if_ne (pc := 13) (tgt := 24) C d_V_text_13 (by decide) (fun h13 => ?_) (fun h13 => ?_)
          · skip
            refine g_aload (pc := 24) C d_V_text_24 rfl ?_
            refine gf_Rep_down (pc := 26) C (by omega) fl_V_47 d_V_text_26 ?_
            rw [g.1.2.2.2.1]
            refine g_if_eq (pc := 29) (tgt := 40) C d_V_text_29 (by decide) (fun h29 => ?_) (fun h29 => ?_)
            · skip
              refine g_aload (pc := 40) C d_V_text_40 rfl ?_
              refine g_iload_n (pc := 42) (i := 2) C d_V_text_42 rfl rfl ?_
              refine g_callVp (pc := 43) (As := [_]) C my_Rep_build mv_Rep_build cl_V_104 (is_Rep (by omega)) d_V_text_43 (Nat.le_of_ble_eq_true rfl) rfl (Nat.le_of_ble_eq_true rfl) ⟨Nat.zero_le _, Nat.zero_le _⟩ (x_Rep_build _ hD hq g.2.2 g.2.1 wf.1 (wf.2.2.2.2.2.2 (Or.inr (dfalse hd))) hm hy) (fun r43 u43 hp43 => ?_)
              obtain ⟨c2, rfl, s2, hbb⟩ := hp43
              rw [hb] at hbb
              rcases hbb with ⟨t, ht, -⟩ | ⟨-, rfl, y2, hy2⟩
              · cases ht
              refine g_if_ne (pc := 46) (tgt := 57) C d_V_text_46 (by decide) (fun h46 => ?_) (fun h46 => ?_)
              · first | exact absurd h46 (rfl) | exact absurd (rfl) h46
              · skip
                exact g_throw (pc := 49) C hO hR tw_UOE (⟨c2, rfl, hC.bp hq s2 hy2⟩) (by decide) d_V_text_49 d_V_text_52 d_V_text_53 d_V_text_56
            · first | exact absurd h29 (b1_f hd) | exact absurd (b1_f hd) h29
          · first | exact absurd h13 (by rw [b1_t h1]; decide) | exact absurd (by rw [b1_t h1]; decide) h13
        · skip
          rename_i tx
          rw [eTxt4 hq (by omega) h1 hd hb] at ho
          cases ho
    · skip
      rw [eTxt1 hq h1] at ho ⊢
      cases ho
      refine Tt.of hD (by decide) (Nat.le_of_ble_eq_true rfl) [(0, some (.ref (aVlt D))), (1, some (.int (nI q))), (2, some (.int n)), (3, some (.int k2))] rfl (fun X hX C hR => ?_)
      subst hX
      refine g_aload_n (pc := 0) (i := 0) C d_V_text_0 rfl rfl ?_
      refine g_iload_n (pc := 1) (i := 1) C d_V_text_1 rfl rfl ?_
      refine g_callV1 (pc := 2) (As := [_]) C my_V_repositoryAt mv_V_repositoryAt cl_V_43 is_V d_V_text_2 (Nat.le_of_ble_eq_true rfl) rfl (Nat.le_of_ble_eq_true rfl) ⟨Nat.zero_le _, Nat.zero_le _⟩ (c_V_repositoryAt _ hD (by omega)) ?_
      refine g_astore (pc := 5) C d_V_text_5 (by decide) rfl ?_
      refine g_aload (pc := 7) C d_V_text_7 rfl ?_
      refine g_iload_n (pc := 9) (i := 2) C d_V_text_9 rfl rfl ?_
      refine g_callV1 (pc := 10) (As := [_]) C my_Rep_hasRevision mv_Rep_hasRevision cl_V_101 (is_Rep (by omega)) d_V_text_10 (Nat.le_of_ble_eq_true rfl) rfl (Nat.le_of_ble_eq_true rfl) ⟨Nat.zero_le _, Nat.zero_le _⟩ (c_Rep_hasRevision _ hD (by omega)) ?_
      rw [g.1.1]
      refine g_if_ne (pc := 13) (tgt := 24) C d_V_text_13 (by decide) (fun h13 => ?_) (fun h13 => ?_)
      · first | exact absurd h13 (b1_f h1) | exact absurd (b1_f h1) h13
      · skip
        exact g_throw (pc := 16) C hO hR tw_IOOBE (⟨c, rfl, hC⟩) (by decide) d_V_text_16 d_V_text_19 d_V_text_20 d_V_text_23
  · skip
    rw [eTxt0 h0] at ho ⊢
    cases ho
    refine Tt.of hD (by decide) (Nat.le_of_ble_eq_true rfl) [(0, some (.ref (aVlt D))), (1, some (.int r)), (2, some (.int n)), (3, some (.int k2))] rfl (fun X hX C hR => ?_)
    subst hX
    refine g_aload_n (pc := 0) (i := 0) C d_V_text_0 rfl rfl ?_
    refine g_iload_n (pc := 1) (i := 1) C d_V_text_1 rfl rfl ?_
    exact g_callVt (pc := 2) (As := [_]) C hR my_V_repositoryAt mv_V_repositoryAt ml_V_43 is_V d_V_text_2 (Nat.le_of_ble_eq_true rfl) rfl (Nat.le_of_ble_eq_true rfl) (t_V_repositoryAt _ hD hO h0 |> Tt.to (fun u e => ⟨c, e, hC⟩))
