theorem eBegin0 {V : Vt} {r : Int32} (h : ¬ (0 ≤ r ∧ r < 2)) : oBegin V r = (.inr 0, V) := onR_n h
theorem eBegin1 {V : Vt} {q : Nat} (hq : q < 2) (h : (V.2 q).dwn = true ∨ (V.2 q).jrn.isSome = true) : oBegin V (nI q) = (.inr 1, V) := (onR_y hq).trans (if_pos h)
theorem eBegin2 {V : Vt} {q : Nat} (hq : q < 2) (h : ¬ ((V.2 q).dwn = true ∨ (V.2 q).jrn.isSome = true)) : oBegin V (nI q) = (.inl (if (begn (V.2 q)).1 = true then 0 else -2), upR V q (begn (V.2 q)).2) := (onR_y hq).trans (if_neg h)
set_option maxRecDepth 100000 in
set_option maxHeartbeats 4000000 in
theorem x_V_begin (l : Launch) {D : Dt} (hD : OkD D) {c : Cs} {τ : Cs × (Nat → Int64)} {V : Vt} {r : Int32} (hC : CAbs c V) (hW : WfV V) {z : Int32} (ho : (oBegin V r).1 = .inl z) : Cp l D y_V_begin b_V_begin 3 (some .int) 8 [.int r, .ref (aVlt D)] ((c, τ) : Sg) (fun a u => ∃ c2, u = ((c2, τ) : Sg) ∧ a = some (.int z) ∧ CAbs c2 (oBegin V r).2) := by
  by_cases h0 : 0 ≤ r ∧ r < 2
  · skip
    obtain ⟨q, hq, rfl⟩ := okr_n h0
    have g := hC.rep hq
    have wf := hW.rep hq
    have g24 := g.2.2.1
    by_cases h1 : (V.2 q).dwn = true ∨ (V.2 q).jrn.isSome = true
    · skip
      rw [eBegin1 hq h1] at ho
      cases ho
    · skip
      rw [eBegin2 hq h1] at ho ⊢
      cases ho
      refine Cp.of hD (by decide) (Nat.le_of_ble_eq_true rfl) [(0, some (.ref (aVlt D))), (1, some (.int (nI q)))] rfl (fun X hX C => ?_)
      subst hX
      refine g_aload_n (pc := 0) (i := 0) C d_V_begin_0 rfl rfl ?_
      refine g_iload_n (pc := 1) (i := 1) C d_V_begin_1 rfl rfl ?_
      refine g_callV1 (pc := 2) (As := [_]) C my_V_repositoryAt mv_V_repositoryAt cl_V_43 is_V d_V_begin_2 (Nat.le_of_ble_eq_true rfl) rfl (Nat.le_of_ble_eq_true rfl) ⟨Nat.zero_le _, Nat.zero_le _⟩ (c_V_repositoryAt _ hD (by omega)) ?_
      refine g_astore_n (pc := 5) (i := 2) C d_V_begin_5 rfl (by decide) rfl ?_
      refine g_aload_n (pc := 6) (i := 2) C d_V_begin_6 rfl rfl ?_
      refine gf_Rep_down (pc := 7) C (by omega) fl_V_47 d_V_begin_7 ?_
      rw [g.1.2.2.2.1]
      refine g_if_ne (pc := 10) (tgt := 20) C d_V_begin_10 (by decide) (fun h10 => ?_) (fun h10 => ?_)
      · first | exact absurd h10 (b1_f (fun e => h1 (Or.inl e))) | exact absurd (b1_f (fun e => h1 (Or.inl e))) h10
      · skip
        refine g_aload_n (pc := 13) (i := 2) C d_V_begin_13 rfl rfl ?_
        refine gf_Rep_journal (pc := 14) C (by omega) fl_V_51 d_V_begin_14 ?_
        rw [g.1.2.1]
        refine g_if_eq (pc := 17) (tgt := 28) C d_V_begin_17 (by decide) (fun h17 => ?_) (fun h17 => ?_)
        · skip
          refine g_aload_n (pc := 28) (i := 2) C d_V_begin_28 rfl rfl ?_
          refine g_callVp (pc := 29) (As := []) C my_Rep_openJournal mv_Rep_openJournal cl_V_57 (is_Rep (by omega)) d_V_begin_29 (Nat.le_of_ble_eq_true rfl) rfl (Nat.le_of_ble_eq_true rfl) ⟨Nat.zero_le _, Nat.zero_le _⟩ (x_Rep_openJournal _ hD hq g (by simpa using fun e => h1 (Or.inl e)) wf.2.2.2.1) (fun r29 u29 hp29 => ?_)
          obtain ⟨c2, rfl, rfl, gr, s2⟩ := hp29
          refine g_if_eq (pc := 32) (tgt := 39) C d_V_begin_32 (by decide) (fun h32 => ?_) (fun h32 => ?_)
          · have hb := b1_0 h32
            refine g_bipush (pc := 39) C d_V_begin_39 bp_m2 ?_
            refine g_iret (pc := 41) C d_V_begin_41 ?_
            exact ⟨c2, rfl, by rw [if_neg hb], hC.ci hq s2 gr⟩
          · have hb := b1_1 h32
            refine g_iconst (pc := 35) C d_V_begin_35 ic_0 ?_
            refine g_goto (pc := 36) (tgt := 41) C d_V_begin_36 (by decide) ?_
            refine g_iret (pc := 41) C d_V_begin_41 ?_
            exact ⟨c2, rfl, by rw [if_pos hb], hC.ci hq s2 gr⟩
        · first | exact absurd h17 (b1_f (fun e => h1 (Or.inr e))) | exact absurd (b1_f (fun e => h1 (Or.inr e))) h17
  · skip
    rw [eBegin0 h0] at ho
    cases ho
set_option maxRecDepth 100000 in
set_option maxHeartbeats 4000000 in
theorem t_V_begin (l : Launch) {D : Dt} (hD : OkD D) {c : Cs} {τ : Cs × (Nat → Int64)} {V : Vt} {r : Int32} (hO : OkT l D) (hC : CAbs c V) (hW : WfV V) {k : Nat} (ho : (oBegin V r).1 = .inr k) : Tt l D y_V_begin b_V_begin 3 (some .int) 8 [.int r, .ref (aVlt D)] ((c, τ) : Sg) (exN k) (fun u => ∃ c2, u = ((c2, τ) : Sg) ∧ CAbs c2 (oBegin V r).2) := by
  by_cases h0 : 0 ≤ r ∧ r < 2
  · skip
    obtain ⟨q, hq, rfl⟩ := okr_n h0
    have g := hC.rep hq
    have wf := hW.rep hq
    have g24 := g.2.2.1
    by_cases h1 : (V.2 q).dwn = true ∨ (V.2 q).jrn.isSome = true
    · skip
      rw [eBegin1 hq h1] at ho ⊢
      cases ho
      refine Tt.of hD (by decide) (Nat.le_of_ble_eq_true rfl) [(0, some (.ref (aVlt D))), (1, some (.int (nI q)))] rfl (fun X hX C hR => ?_)
      subst hX
      refine g_aload_n (pc := 0) (i := 0) C d_V_begin_0 rfl rfl ?_
      refine g_iload_n (pc := 1) (i := 1) C d_V_begin_1 rfl rfl ?_
      refine g_callV1 (pc := 2) (As := [_]) C my_V_repositoryAt mv_V_repositoryAt cl_V_43 is_V d_V_begin_2 (Nat.le_of_ble_eq_true rfl) rfl (Nat.le_of_ble_eq_true rfl) ⟨Nat.zero_le _, Nat.zero_le _⟩ (c_V_repositoryAt _ hD (by omega)) ?_
      refine g_astore_n (pc := 5) (i := 2) C d_V_begin_5 rfl (by decide) rfl ?_
      refine g_aload_n (pc := 6) (i := 2) C d_V_begin_6 rfl rfl ?_
      refine gf_Rep_down (pc := 7) C (by omega) fl_V_47 d_V_begin_7 ?_
      rw [g.1.2.2.2.1]
      refine g_if_ne (pc := 10) (tgt := 20) C d_V_begin_10 (by decide) (fun h10 => ?_) (fun h10 => ?_)
      · skip
        exact g_throw (pc := 20) C hO hR tw_ISE (⟨c, rfl, hC⟩) (by decide) d_V_begin_20 d_V_begin_23 d_V_begin_24 d_V_begin_27
      · have hd := b1_0 h10
        refine g_aload_n (pc := 13) (i := 2) C d_V_begin_13 rfl rfl ?_
        refine gf_Rep_journal (pc := 14) C (by omega) fl_V_51 d_V_begin_14 ?_
        rw [g.1.2.1]
        refine g_if_eq (pc := 17) (tgt := 28) C d_V_begin_17 (by decide) (fun h17 => ?_) (fun h17 => ?_)
        · first | exact absurd h17 (fun e => b1_0 e (h1.resolve_left hd)) | exact absurd (fun e => b1_0 e (h1.resolve_left hd)) h17
        · skip
          exact g_throw (pc := 20) C hO hR tw_ISE (⟨c, rfl, hC⟩) (by decide) d_V_begin_20 d_V_begin_23 d_V_begin_24 d_V_begin_27
    · skip
      rw [eBegin2 hq h1] at ho
      cases ho
  · skip
    rw [eBegin0 h0] at ho ⊢
    cases ho
    refine Tt.of hD (by decide) (Nat.le_of_ble_eq_true rfl) [(0, some (.ref (aVlt D))), (1, some (.int r))] rfl (fun X hX C hR => ?_)
    subst hX
    refine g_aload_n (pc := 0) (i := 0) C d_V_begin_0 rfl rfl ?_
    refine g_iload_n (pc := 1) (i := 1) C d_V_begin_1 rfl rfl ?_
    exact g_callVt (pc := 2) (As := [_]) C hR my_V_repositoryAt mv_V_repositoryAt ml_V_43 is_V d_V_begin_2 (Nat.le_of_ble_eq_true rfl) rfl (Nat.le_of_ble_eq_true rfl) (t_V_repositoryAt _ hD hO h0 |> Tt.to (fun u e => ⟨c, e, hC⟩))
