theorem d_L_begin_0 : decode b_L_begin 0 = .ok (.aload_n 2, 1) := by decide +kernel
theorem d_L_begin_1 : decode b_L_begin 1 = .ok (.iconst 0, 1) := by decide +kernel
theorem d_L_begin_2 : decode b_L_begin 2 = .ok (.aload_n 0, 1) := by decide +kernel
theorem d_L_begin_3 : decode b_L_begin 3 = .ok (.iload_n 1, 1) := by decide +kernel
theorem d_L_begin_4 : decode b_L_begin 4 = .ok (.invokevirtual 7, 3) := by decide +kernel
theorem d_L_begin_7 : decode b_L_begin 7 = .ok (.i2l, 1) := by decide +kernel
theorem d_L_begin_8 : decode b_L_begin 8 = .ok (.lastore, 1) := by decide +kernel
theorem d_L_begin_9 : decode b_L_begin 9 = .ok (.goto 9, 3) := by decide +kernel
theorem d_L_begin_12 : decode b_L_begin 12 = .ok (.astore_n 3, 1) := by decide +kernel
theorem d_L_begin_13 : decode b_L_begin 13 = .ok (.iconst 1, 1) := by decide +kernel
theorem d_L_begin_14 : decode b_L_begin 14 = .ok (.ireturn, 1) := by decide +kernel
theorem d_L_begin_15 : decode b_L_begin 15 = .ok (.astore_n 3, 1) := by decide +kernel
theorem d_L_begin_16 : decode b_L_begin 16 = .ok (.iconst 2, 1) := by decide +kernel
theorem d_L_begin_17 : decode b_L_begin 17 = .ok (.ireturn, 1) := by decide +kernel
theorem d_L_begin_18 : decode b_L_begin 18 = .ok (.iconst 0, 1) := by decide +kernel
theorem d_L_begin_19 : decode b_L_begin 19 = .ok (.ireturn, 1) := by decide +kernel
theorem d_L_append_0 : decode b_L_append 0 = .ok (.aload 4, 2) := by decide +kernel
theorem d_L_append_2 : decode b_L_append 2 = .ok (.iconst 0, 1) := by decide +kernel
theorem d_L_append_3 : decode b_L_append 3 = .ok (.aload_n 0, 1) := by decide +kernel
theorem d_L_append_4 : decode b_L_append 4 = .ok (.iload_n 1, 1) := by decide +kernel
theorem d_L_append_5 : decode b_L_append 5 = .ok (.iload_n 2, 1) := by decide +kernel
theorem d_L_append_6 : decode b_L_append 6 = .ok (.iload_n 3, 1) := by decide +kernel
theorem d_L_append_7 : decode b_L_append 7 = .ok (.invokevirtual 17, 3) := by decide +kernel
theorem d_L_append_10 : decode b_L_append 10 = .ok (.i2l, 1) := by decide +kernel
theorem d_L_append_11 : decode b_L_append 11 = .ok (.lastore, 1) := by decide +kernel
theorem d_L_append_12 : decode b_L_append 12 = .ok (.goto 19, 3) := by decide +kernel
theorem d_L_append_15 : decode b_L_append 15 = .ok (.astore 5, 2) := by decide +kernel
theorem d_L_append_17 : decode b_L_append 17 = .ok (.iconst 1, 1) := by decide +kernel
theorem d_L_append_18 : decode b_L_append 18 = .ok (.ireturn, 1) := by decide +kernel
theorem d_L_append_19 : decode b_L_append 19 = .ok (.astore 5, 2) := by decide +kernel
theorem d_L_append_21 : decode b_L_append 21 = .ok (.iconst 2, 1) := by decide +kernel
theorem d_L_append_22 : decode b_L_append 22 = .ok (.ireturn, 1) := by decide +kernel
theorem d_L_append_23 : decode b_L_append 23 = .ok (.astore 5, 2) := by decide +kernel
theorem d_L_append_25 : decode b_L_append 25 = .ok (.iconst 3, 1) := by decide +kernel
theorem d_L_append_26 : decode b_L_append 26 = .ok (.ireturn, 1) := by decide +kernel
theorem d_L_append_27 : decode b_L_append 27 = .ok (.astore 5, 2) := by decide +kernel
theorem d_L_append_29 : decode b_L_append 29 = .ok (.iconst 4, 1) := by decide +kernel
theorem d_L_append_30 : decode b_L_append 30 = .ok (.ireturn, 1) := by decide +kernel
theorem d_L_append_31 : decode b_L_append 31 = .ok (.iconst 0, 1) := by decide +kernel
theorem d_L_append_32 : decode b_L_append 32 = .ok (.ireturn, 1) := by decide +kernel
theorem d_L_commit_0 : decode b_L_commit 0 = .ok (.aload_n 2, 1) := by decide +kernel
theorem d_L_commit_1 : decode b_L_commit 1 = .ok (.iconst 0, 1) := by decide +kernel
theorem d_L_commit_2 : decode b_L_commit 2 = .ok (.aload_n 0, 1) := by decide +kernel
theorem d_L_commit_3 : decode b_L_commit 3 = .ok (.iload_n 1, 1) := by decide +kernel
theorem d_L_commit_4 : decode b_L_commit 4 = .ok (.invokevirtual 25, 3) := by decide +kernel
theorem d_L_commit_7 : decode b_L_commit 7 = .ok (.i2l, 1) := by decide +kernel
theorem d_L_commit_8 : decode b_L_commit 8 = .ok (.lastore, 1) := by decide +kernel
theorem d_L_commit_9 : decode b_L_commit 9 = .ok (.goto 9, 3) := by decide +kernel
theorem d_L_commit_12 : decode b_L_commit 12 = .ok (.astore_n 3, 1) := by decide +kernel
theorem d_L_commit_13 : decode b_L_commit 13 = .ok (.iconst 1, 1) := by decide +kernel
theorem d_L_commit_14 : decode b_L_commit 14 = .ok (.ireturn, 1) := by decide +kernel
theorem d_L_commit_15 : decode b_L_commit 15 = .ok (.astore_n 3, 1) := by decide +kernel
theorem d_L_commit_16 : decode b_L_commit 16 = .ok (.iconst 2, 1) := by decide +kernel
theorem d_L_commit_17 : decode b_L_commit 17 = .ok (.ireturn, 1) := by decide +kernel
theorem d_L_commit_18 : decode b_L_commit 18 = .ok (.iconst 0, 1) := by decide +kernel
theorem d_L_commit_19 : decode b_L_commit 19 = .ok (.ireturn, 1) := by decide +kernel
theorem d_L_abort_0 : decode b_L_abort 0 = .ok (.aload_n 2, 1) := by decide +kernel
theorem d_L_abort_1 : decode b_L_abort 1 = .ok (.iconst 0, 1) := by decide +kernel
theorem d_L_abort_2 : decode b_L_abort 2 = .ok (.aload_n 0, 1) := by decide +kernel
theorem d_L_abort_3 : decode b_L_abort 3 = .ok (.iload_n 1, 1) := by decide +kernel
theorem d_L_abort_4 : decode b_L_abort 4 = .ok (.invokevirtual 28, 3) := by decide +kernel
theorem d_L_abort_7 : decode b_L_abort 7 = .ok (.i2l, 1) := by decide +kernel
theorem d_L_abort_8 : decode b_L_abort 8 = .ok (.lastore, 1) := by decide +kernel
theorem d_L_abort_9 : decode b_L_abort 9 = .ok (.goto 9, 3) := by decide +kernel
theorem d_L_abort_12 : decode b_L_abort 12 = .ok (.astore_n 3, 1) := by decide +kernel
theorem d_L_abort_13 : decode b_L_abort 13 = .ok (.iconst 1, 1) := by decide +kernel
theorem d_L_abort_14 : decode b_L_abort 14 = .ok (.ireturn, 1) := by decide +kernel
theorem d_L_abort_15 : decode b_L_abort 15 = .ok (.astore_n 3, 1) := by decide +kernel
theorem d_L_abort_16 : decode b_L_abort 16 = .ok (.iconst 2, 1) := by decide +kernel
theorem d_L_abort_17 : decode b_L_abort 17 = .ok (.ireturn, 1) := by decide +kernel
theorem d_L_abort_18 : decode b_L_abort 18 = .ok (.iconst 0, 1) := by decide +kernel
theorem d_L_abort_19 : decode b_L_abort 19 = .ok (.ireturn, 1) := by decide +kernel
theorem d_L_recover_0 : decode b_L_recover 0 = .ok (.aload_n 3, 1) := by decide +kernel
theorem d_L_recover_1 : decode b_L_recover 1 = .ok (.iconst 0, 1) := by decide +kernel
theorem d_L_recover_2 : decode b_L_recover 2 = .ok (.aload_n 0, 1) := by decide +kernel
theorem d_L_recover_3 : decode b_L_recover 3 = .ok (.iload_n 1, 1) := by decide +kernel
theorem d_L_recover_4 : decode b_L_recover 4 = .ok (.iload_n 2, 1) := by decide +kernel
theorem d_L_recover_5 : decode b_L_recover 5 = .ok (.invokevirtual 31, 3) := by decide +kernel
theorem d_L_recover_8 : decode b_L_recover 8 = .ok (.i2l, 1) := by decide +kernel
theorem d_L_recover_9 : decode b_L_recover 9 = .ok (.lastore, 1) := by decide +kernel
theorem d_L_recover_10 : decode b_L_recover 10 = .ok (.goto 11, 3) := by decide +kernel
theorem d_L_recover_13 : decode b_L_recover 13 = .ok (.astore 4, 2) := by decide +kernel
theorem d_L_recover_15 : decode b_L_recover 15 = .ok (.iconst 1, 1) := by decide +kernel
theorem d_L_recover_16 : decode b_L_recover 16 = .ok (.ireturn, 1) := by decide +kernel
theorem d_L_recover_17 : decode b_L_recover 17 = .ok (.astore 4, 2) := by decide +kernel
theorem d_L_recover_19 : decode b_L_recover 19 = .ok (.iconst 2, 1) := by decide +kernel
theorem d_L_recover_20 : decode b_L_recover 20 = .ok (.ireturn, 1) := by decide +kernel
theorem d_L_recover_21 : decode b_L_recover 21 = .ok (.iconst 0, 1) := by decide +kernel
theorem d_L_recover_22 : decode b_L_recover 22 = .ok (.ireturn, 1) := by decide +kernel
theorem d_L_pull_0 : decode b_L_pull 0 = .ok (.aload_n 2, 1) := by decide +kernel
theorem d_L_pull_1 : decode b_L_pull 1 = .ok (.iconst 0, 1) := by decide +kernel
theorem d_L_pull_2 : decode b_L_pull 2 = .ok (.aload_n 0, 1) := by decide +kernel
theorem d_L_pull_3 : decode b_L_pull 3 = .ok (.iload_n 1, 1) := by decide +kernel
theorem d_L_pull_4 : decode b_L_pull 4 = .ok (.invokevirtual 35, 3) := by decide +kernel
theorem d_L_pull_7 : decode b_L_pull 7 = .ok (.i2l, 1) := by decide +kernel
theorem d_L_pull_8 : decode b_L_pull 8 = .ok (.lastore, 1) := by decide +kernel
theorem d_L_pull_9 : decode b_L_pull 9 = .ok (.goto 12, 3) := by decide +kernel
theorem d_L_pull_12 : decode b_L_pull 12 = .ok (.astore_n 3, 1) := by decide +kernel
theorem d_L_pull_13 : decode b_L_pull 13 = .ok (.iconst 1, 1) := by decide +kernel
theorem d_L_pull_14 : decode b_L_pull 14 = .ok (.ireturn, 1) := by decide +kernel
theorem d_L_pull_15 : decode b_L_pull 15 = .ok (.astore_n 3, 1) := by decide +kernel
theorem d_L_pull_16 : decode b_L_pull 16 = .ok (.iconst 2, 1) := by decide +kernel
theorem d_L_pull_17 : decode b_L_pull 17 = .ok (.ireturn, 1) := by decide +kernel
theorem d_L_pull_18 : decode b_L_pull 18 = .ok (.astore_n 3, 1) := by decide +kernel
theorem d_L_pull_19 : decode b_L_pull 19 = .ok (.iconst 3, 1) := by decide +kernel
theorem d_L_pull_20 : decode b_L_pull 20 = .ok (.ireturn, 1) := by decide +kernel
theorem d_L_pull_21 : decode b_L_pull 21 = .ok (.iconst 0, 1) := by decide +kernel
theorem d_L_pull_22 : decode b_L_pull 22 = .ok (.ireturn, 1) := by decide +kernel
theorem d_L_text_0 : decode b_L_text 0 = .ok (.aload 4, 2) := by decide +kernel
theorem d_L_text_2 : decode b_L_text 2 = .ok (.iconst 0, 1) := by decide +kernel
theorem d_L_text_3 : decode b_L_text 3 = .ok (.aload_n 0, 1) := by decide +kernel
theorem d_L_text_4 : decode b_L_text 4 = .ok (.iload_n 1, 1) := by decide +kernel
theorem d_L_text_5 : decode b_L_text 5 = .ok (.iload_n 2, 1) := by decide +kernel
theorem d_L_text_6 : decode b_L_text 6 = .ok (.iload_n 3, 1) := by decide +kernel
theorem d_L_text_7 : decode b_L_text 7 = .ok (.invokevirtual 38, 3) := by decide +kernel
theorem d_L_text_10 : decode b_L_text 10 = .ok (.i2l, 1) := by decide +kernel
theorem d_L_text_11 : decode b_L_text 11 = .ok (.lastore, 1) := by decide +kernel
theorem d_L_text_12 : decode b_L_text 12 = .ok (.goto 15, 3) := by decide +kernel
theorem d_L_text_15 : decode b_L_text 15 = .ok (.astore 5, 2) := by decide +kernel
theorem d_L_text_17 : decode b_L_text 17 = .ok (.iconst 1, 1) := by decide +kernel
theorem d_L_text_18 : decode b_L_text 18 = .ok (.ireturn, 1) := by decide +kernel
theorem d_L_text_19 : decode b_L_text 19 = .ok (.astore 5, 2) := by decide +kernel
theorem d_L_text_21 : decode b_L_text 21 = .ok (.iconst 2, 1) := by decide +kernel
theorem d_L_text_22 : decode b_L_text 22 = .ok (.ireturn, 1) := by decide +kernel
theorem d_L_text_23 : decode b_L_text 23 = .ok (.astore 5, 2) := by decide +kernel
theorem d_L_text_25 : decode b_L_text 25 = .ok (.iconst 3, 1) := by decide +kernel
theorem d_L_text_26 : decode b_L_text 26 = .ok (.ireturn, 1) := by decide +kernel
theorem d_L_text_27 : decode b_L_text 27 = .ok (.iconst 0, 1) := by decide +kernel
theorem d_L_text_28 : decode b_L_text 28 = .ok (.ireturn, 1) := by decide +kernel
theorem cl_L_7 : CL R_L 7 y_V_begin := Or.inl (un 653 (by decide +kernel) (by decide +kernel))
theorem cl_L_17 : CL R_L 17 y_V_append := Or.inl (un 710 (by decide +kernel) (by decide +kernel))
theorem cl_L_25 : CL R_L 25 y_V_commit := Or.inl (un 795 (by decide +kernel) (by decide +kernel))
theorem cl_L_28 : CL R_L 28 y_V_abort := Or.inl (un 806 (by decide +kernel) (by decide +kernel))
theorem cl_L_31 : CL R_L 31 y_V_recover := Or.inl (un 818 (by decide +kernel) (by decide +kernel))
theorem cl_L_35 : CL R_L 35 y_V_pull := Or.inl (un 830 (by decide +kernel) (by decide +kernel))
theorem cl_L_38 : CL R_L 38 y_V_text := Or.inl (un 851 (by decide +kernel) (by decide +kernel))
theorem ml_L_7 : Cond.methodLink R_L 7 y_V_begin ∈ UNI := un 653 (by decide +kernel) (by decide +kernel)
theorem ml_L_17 : Cond.methodLink R_L 17 y_V_append ∈ UNI := un 710 (by decide +kernel) (by decide +kernel)
theorem ml_L_25 : Cond.methodLink R_L 25 y_V_commit ∈ UNI := un 795 (by decide +kernel) (by decide +kernel)
theorem ml_L_28 : Cond.methodLink R_L 28 y_V_abort ∈ UNI := un 806 (by decide +kernel) (by decide +kernel)
theorem ml_L_31 : Cond.methodLink R_L 31 y_V_recover ∈ UNI := un 818 (by decide +kernel) (by decide +kernel)
theorem ml_L_35 : Cond.methodLink R_L 35 y_V_pull ∈ UNI := un 830 (by decide +kernel) (by decide +kernel)
theorem ml_L_38 : Cond.methodLink R_L 38 y_V_text ∈ UNI := un 851 (by decide +kernel) (by decide +kernel)
/-- the helpers' codes -/
def cdA (e : Nat) : Int32 := nI (e + 1)
def cdP (e : Nat) : Int32 := if e = 3 then 3 else nI (e + 1)
theorem or_onR {V : Vt} {r : Int32} {f : Nat → Rp → Rs × Vt} {P : Rs × Vt → Prop} (h0 : P (.inr 0, V)) (h : ∀ q, q < 2 → r = nI q → P (f q (V.2 q))) : P (onR V r f) := by
  by_cases h1 : 0 ≤ r ∧ r < 2
  · obtain ⟨q, hq, rfl⟩ := okr_n h1
    rw [onR_y hq]
    exact h q hq rfl
  · rw [onR_n h1]
    exact h0
theorem inr_v {e k : Nat} {x : Vt} (h : ((.inr e, x) : Rs × Vt).1 = .inr k) : k = e := by cases h; rfl
theorem inl_v {z : Int32} {k : Nat} {x : Vt} (h : ((.inl z, x) : Rs × Vt).1 = .inr k) : False := by cases h
theorem er_begin {V : Vt} {r : Int32} : ∀ e, (oBegin V r).1 = .inr e → e = 0 ∨ e = 1 := by
  unfold oBegin
  refine or_onR (P := fun z => ∀ e, z.1 = .inr e → e = 0 ∨ e = 1) ?_ ?_
  · intro e h; have := inr_v h; omega
  · intro q hq hr
    split
    · intro e h; have := inr_v h; omega
    · intro e h; exact (inl_v h).elim
theorem er_append {V : Vt} {r a b : Int32} : ∀ e, (oAppend V r a b).1 = .inr e → e = 0 ∨ e = 1 ∨ e = 2 ∨ e = 3 := by
  unfold oAppend
  refine or_onR (P := fun z => ∀ e, z.1 = .inr e → e = 0 ∨ e = 1 ∨ e = 2 ∨ e = 3) ?_ ?_
  · intro e h; have := inr_v h; omega
  · intro q hq hr
    split
    · intro e h; have := inr_v h; omega
    · split
      · split
        · intro e h; have := inr_v h; omega
        · intro e h; exact (inl_v h).elim
      · intro e h; have := inr_v h; omega
theorem er_commit {V : Vt} {r : Int32} : ∀ e, (oCommit V r).1 = .inr e → e = 0 ∨ e = 1 := by
  unfold oCommit
  refine or_onR (P := fun z => ∀ e, z.1 = .inr e → e = 0 ∨ e = 1) ?_ ?_
  · intro e h; have := inr_v h; omega
  · intro q hq hr
    split
    · intro e h; have := inr_v h; omega
    · intro e h; exact (inl_v h).elim
theorem er_abort {V : Vt} {r : Int32} : ∀ e, (oAbort V r).1 = .inr e → e = 0 ∨ e = 1 := by
  unfold oAbort
  refine or_onR (P := fun z => ∀ e, z.1 = .inr e → e = 0 ∨ e = 1) ?_ ?_
  · intro e h; have := inr_v h; omega
  · intro q hq hr
    split
    · intro e h; have := inr_v h; omega
    · split
      · intro e h; have := inr_v h; omega
      · intro e h; exact (inl_v h).elim
theorem er_recover {V : Vt} {r n : Int32} : ∀ e, (oRecover V r n).1 = .inr e → e = 0 ∨ e = 1 := by
  unfold oRecover
  refine or_onR (P := fun z => ∀ e, z.1 = .inr e → e = 0 ∨ e = 1) ?_ ?_
  · intro e h; have := inr_v h; omega
  · intro q hq hr
    split
    · split
      · intro e h; exact (inl_v h).elim
      · intro e h; have := inr_v h; omega
    · intro e h; have := inr_v h; omega
theorem er_pull {V : Vt} {r : Int32} : ∀ e, (oPull V r).1 = .inr e → e = 0 ∨ e = 1 ∨ e = 3 := by
  unfold oPull
  refine or_onR (P := fun z => ∀ e, z.1 = .inr e → e = 0 ∨ e = 1 ∨ e = 3) ?_ ?_
  · intro e h; have := inr_v h; omega
  · intro q hq hr
    split
    · intro e h; have := inr_v h; omega
    · split
      · intro e h; have := inr_v h; omega
      · intro e h; exact (inl_v h).elim
theorem er_text {V : Vt} {r n k2 : Int32} : ∀ e, (oText V r n k2).1 = .inr e → e = 0 ∨ e = 1 ∨ e = 3 := by
  unfold oText
  refine or_onR (P := fun z => ∀ e, z.1 = .inr e → e = 0 ∨ e = 1 ∨ e = 3) ?_ ?_
  · intro e h; have := inr_v h; omega
  · intro q hq hr
    split
    · split
      · intro e h; have := inr_v h; omega
      · split
        · intro e h; have := inr_v h; omega
        · intro e h; exact (inl_v h).elim
    · intro e h; have := inr_v h; omega
set_option maxRecDepth 100000 in
set_option maxHeartbeats 4000000 in
theorem h_L_begin (l : Launch) {D : Dt} (hD : OkD D) {c m : Cs} {ow : Nat → Int64} {V : Vt} {r : Int32} (hO : OkT l D) (hC : CAbs c V) (hW : WfV V) : Hc l D y_L_begin b_L_begin 4 [(0, 9, 12, 13), (0, 9, 15, 15)] 11 [.ref (aOut D), .int r, .ref (aVlt D)] ((c, m, ow) : Sg) (fun a0 u => ∃ c2, CAbs c2 (oBegin V r).2 ∧ ((∃ z, (oBegin V r).1 = .inl z ∧ a0 = some (.int 0) ∧ u = ((c2, m, vp_updL ow 0 z.toInt64) : Sg)) ∨ (∃ e, (oBegin V r).1 = .inr e ∧ a0 = some (.int (cdA e)) ∧ u = ((c2, m, ow) : Sg)))) := by
  refine Hc.of hD (by decide) (Nat.le_of_ble_eq_true rfl) [(0, some (.ref (aVlt D))), (1, some (.int r)), (2, some (.ref (aOut D)))] rfl (fun X hX C hR => ?_)
  subst hX
  cases ho : (oBegin V r).1 with
  | inl z =>
    refine g_aload_n (pc := 0) (i := 2) C d_L_begin_0 rfl rfl ?_
    refine g_iconst (pc := 1) C d_L_begin_1 icn_0 ?_
    refine g_aload_n (pc := 2) (i := 0) C d_L_begin_2 rfl rfl ?_
    refine g_iload_n (pc := 3) (i := 1) C d_L_begin_3 rfl rfl ?_
    refine g_callVp (pc := 4) (As := [_]) C my_V_begin mv_V_begin cl_L_7 is_V d_L_begin_4 (Nat.le_of_ble_eq_true rfl) rfl (Nat.le_of_ble_eq_true rfl) ⟨Nat.zero_le _, Nat.zero_le _⟩ (x_V_begin _ hD hC hW ho) (fun r4 u4 hp4 => ?_)
    obtain ⟨c2, rfl, rfl, hC2⟩ := hp4
    refine g_i2l (pc := 7) C d_L_begin_7 ?_
    refine gs_out (pc := 8) C (vp_in_nI (by decide) (by decide)) d_L_begin_8 ?_
    refine G.sg (σ' := ((c2, m, vp_updL ow 0 z.toInt64) : Sg)) (by rw [nI_clamp (by decide)]) ?_
    refine g_goto (pc := 9) (tgt := 18) C d_L_begin_9 (by decide) ?_
    refine g_iconst (pc := 18) C d_L_begin_18 ic_0 ?_
    exact g_wid (g_ireth (pc := 19) C d_L_begin_19 ⟨c2, hC2, Or.inl ⟨z, rfl, rfl, rfl⟩⟩)
  | inr e =>
    rcases er_begin e ho with rfl | rfl
    · skip
      refine g_aload_n (pc := 0) (i := 2) C d_L_begin_0 rfl rfl ?_
      refine g_iconst (pc := 1) C d_L_begin_1 icn_0 ?_
      refine g_aload_n (pc := 2) (i := 0) C d_L_begin_2 rfl rfl ?_
      refine g_iload_n (pc := 3) (i := 1) C d_L_begin_3 rfl rfl ?_
      refine g_callVc (pc := 4) (As := [_]) (E := E_IOOBE) (ns := [E_IOOBE, E_ISE]) (hpc := 12) C hR my_V_begin mv_V_begin ml_L_7 is_V d_L_begin_4 (Nat.le_of_ble_eq_true rfl) rfl (Nat.le_of_ble_eq_true rfl) (t_V_begin _ hD hO hC hW ho) tw_IOOBE.2.2.1 (fun cell hc => ⟨⟨by decide, by decide, by decide, C.ts _ lc_IOOBE⟩, Or.inl ⟨docast C.ok ca_IOOBE C.wa hc, rfl⟩⟩) (fun x0 u hu => ?_)
      obtain ⟨c2, rfl, hC2⟩ := hu
      refine g_astore_n (pc := 12) (i := 3) C d_L_begin_12 rfl (by decide) rfl ?_
      refine g_iconst (pc := 13) C d_L_begin_13 ic_1 ?_
      exact g_ireth (pc := 14) C d_L_begin_14 ⟨c2, hC2, Or.inr ⟨_, rfl, rfl, rfl⟩⟩
    · skip
      refine g_aload_n (pc := 0) (i := 2) C d_L_begin_0 rfl rfl ?_
      refine g_iconst (pc := 1) C d_L_begin_1 icn_0 ?_
      refine g_aload_n (pc := 2) (i := 0) C d_L_begin_2 rfl rfl ?_
      refine g_iload_n (pc := 3) (i := 1) C d_L_begin_3 rfl rfl ?_
      refine g_callVc (pc := 4) (As := [_]) (E := E_ISE) (ns := [E_IOOBE, E_ISE]) (hpc := 15) C hR my_V_begin mv_V_begin ml_L_7 is_V d_L_begin_4 (Nat.le_of_ble_eq_true rfl) rfl (Nat.le_of_ble_eq_true rfl) (t_V_begin _ hD hO hC hW ho) tw_ISE.2.2.1 (fun cell hc => ⟨⟨by decide, by decide, by decide, C.ts _ lc_IOOBE⟩, Or.inr ⟨nocast hO nc_ISE_IOOBE C.wa hc, ⟨⟨by decide, by decide, by decide, C.ts _ lc_ISE⟩, Or.inl ⟨docast C.ok ca_ISE C.wa hc, rfl⟩⟩⟩⟩) (fun x0 u hu => ?_)
      obtain ⟨c2, rfl, hC2⟩ := hu
      refine g_astore_n (pc := 15) (i := 3) C d_L_begin_15 rfl (by decide) rfl ?_
      refine g_iconst (pc := 16) C d_L_begin_16 ic_2 ?_
      exact g_ireth (pc := 17) C d_L_begin_17 ⟨c2, hC2, Or.inr ⟨_, rfl, rfl, rfl⟩⟩
set_option maxRecDepth 100000 in
set_option maxHeartbeats 4000000 in
theorem h_L_append (l : Launch) {D : Dt} (hD : OkD D) {c m : Cs} {ow : Nat → Int64} {V : Vt} {r a b : Int32} (hO : OkT l D) (hC : CAbs c V) (hW : WfV V) : Hc l D y_L_append b_L_append 6 [(0, 12, 15, 13), (0, 12, 19, 15), (0, 12, 23, 21), (0, 12, 27, 23)] 11 [.ref (aOut D), .int b, .int a, .int r, .ref (aVlt D)] ((c, m, ow) : Sg) (fun a0 u => ∃ c2, CAbs c2 (oAppend V r a b).2 ∧ ((∃ z, (oAppend V r a b).1 = .inl z ∧ a0 = some (.int 0) ∧ u = ((c2, m, vp_updL ow 0 z.toInt64) : Sg)) ∨ (∃ e, (oAppend V r a b).1 = .inr e ∧ a0 = some (.int (cdA e)) ∧ u = ((c2, m, ow) : Sg)))) := by
  refine Hc.of hD (by decide) (Nat.le_of_ble_eq_true rfl) [(0, some (.ref (aVlt D))), (1, some (.int r)), (2, some (.int a)), (3, some (.int b)), (4, some (.ref (aOut D)))] rfl (fun X hX C hR => ?_)
  subst hX
  cases ho : (oAppend V r a b).1 with
  | inl z =>
    refine g_aload (pc := 0) C d_L_append_0 rfl ?_
    refine g_iconst (pc := 2) C d_L_append_2 icn_0 ?_
    refine g_aload_n (pc := 3) (i := 0) C d_L_append_3 rfl rfl ?_
    refine g_iload_n (pc := 4) (i := 1) C d_L_append_4 rfl rfl ?_
    refine g_iload_n (pc := 5) (i := 2) C d_L_append_5 rfl rfl ?_
    refine g_iload_n (pc := 6) (i := 3) C d_L_append_6 rfl rfl ?_
    refine g_callVp (pc := 7) (As := [_, _, _]) C my_V_append mv_V_append cl_L_17 is_V d_L_append_7 (Nat.le_of_ble_eq_true rfl) rfl (Nat.le_of_ble_eq_true rfl) ⟨Nat.zero_le _, Nat.zero_le _⟩ (x_V_append _ hD hC hW ho) (fun r7 u7 hp7 => ?_)
    obtain ⟨c2, rfl, rfl, hC2⟩ := hp7
    refine g_i2l (pc := 10) C d_L_append_10 ?_
    refine gs_out (pc := 11) C (vp_in_nI (by decide) (by decide)) d_L_append_11 ?_
    refine G.sg (σ' := ((c2, m, vp_updL ow 0 z.toInt64) : Sg)) (by rw [nI_clamp (by decide)]) ?_
    refine g_goto (pc := 12) (tgt := 31) C d_L_append_12 (by decide) ?_
    refine g_iconst (pc := 31) C d_L_append_31 ic_0 ?_
    exact g_wid (g_ireth (pc := 32) C d_L_append_32 ⟨c2, hC2, Or.inl ⟨z, rfl, rfl, rfl⟩⟩)
  | inr e =>
    rcases er_append e ho with rfl | rfl | rfl | rfl
    · skip
      refine g_aload (pc := 0) C d_L_append_0 rfl ?_
      refine g_iconst (pc := 2) C d_L_append_2 icn_0 ?_
      refine g_aload_n (pc := 3) (i := 0) C d_L_append_3 rfl rfl ?_
      refine g_iload_n (pc := 4) (i := 1) C d_L_append_4 rfl rfl ?_
      refine g_iload_n (pc := 5) (i := 2) C d_L_append_5 rfl rfl ?_
      refine g_iload_n (pc := 6) (i := 3) C d_L_append_6 rfl rfl ?_
      refine g_callVc (pc := 7) (As := [_, _, _]) (E := E_IOOBE) (ns := [E_IOOBE, E_ISE, E_IAE, E_UOE]) (hpc := 15) C hR my_V_append mv_V_append ml_L_17 is_V d_L_append_7 (Nat.le_of_ble_eq_true rfl) rfl (Nat.le_of_ble_eq_true rfl) (t_V_append _ hD hO hC hW ho) tw_IOOBE.2.2.1 (fun cell hc => ⟨⟨by decide, by decide, by decide, C.ts _ lc_IOOBE⟩, Or.inl ⟨docast C.ok ca_IOOBE C.wa hc, rfl⟩⟩) (fun x0 u hu => ?_)
      obtain ⟨c2, rfl, hC2⟩ := hu
      refine g_astore (pc := 15) C d_L_append_15 (by decide) rfl ?_
      refine g_iconst (pc := 17) C d_L_append_17 ic_1 ?_
      exact g_ireth (pc := 18) C d_L_append_18 ⟨c2, hC2, Or.inr ⟨_, rfl, rfl, rfl⟩⟩
    · skip
      refine g_aload (pc := 0) C d_L_append_0 rfl ?_
      refine g_iconst (pc := 2) C d_L_append_2 icn_0 ?_
      refine g_aload_n (pc := 3) (i := 0) C d_L_append_3 rfl rfl ?_
      refine g_iload_n (pc := 4) (i := 1) C d_L_append_4 rfl rfl ?_
      refine g_iload_n (pc := 5) (i := 2) C d_L_append_5 rfl rfl ?_
      refine g_iload_n (pc := 6) (i := 3) C d_L_append_6 rfl rfl ?_
      refine g_callVc (pc := 7) (As := [_, _, _]) (E := E_ISE) (ns := [E_IOOBE, E_ISE, E_IAE, E_UOE]) (hpc := 19) C hR my_V_append mv_V_append ml_L_17 is_V d_L_append_7 (Nat.le_of_ble_eq_true rfl) rfl (Nat.le_of_ble_eq_true rfl) (t_V_append _ hD hO hC hW ho) tw_ISE.2.2.1 (fun cell hc => ⟨⟨by decide, by decide, by decide, C.ts _ lc_IOOBE⟩, Or.inr ⟨nocast hO nc_ISE_IOOBE C.wa hc, ⟨⟨by decide, by decide, by decide, C.ts _ lc_ISE⟩, Or.inl ⟨docast C.ok ca_ISE C.wa hc, rfl⟩⟩⟩⟩) (fun x0 u hu => ?_)
      obtain ⟨c2, rfl, hC2⟩ := hu
      refine g_astore (pc := 19) C d_L_append_19 (by decide) rfl ?_
      refine g_iconst (pc := 21) C d_L_append_21 ic_2 ?_
      exact g_ireth (pc := 22) C d_L_append_22 ⟨c2, hC2, Or.inr ⟨_, rfl, rfl, rfl⟩⟩
    · skip
      refine g_aload (pc := 0) C d_L_append_0 rfl ?_
      refine g_iconst (pc := 2) C d_L_append_2 icn_0 ?_
      refine g_aload_n (pc := 3) (i := 0) C d_L_append_3 rfl rfl ?_
      refine g_iload_n (pc := 4) (i := 1) C d_L_append_4 rfl rfl ?_
      refine g_iload_n (pc := 5) (i := 2) C d_L_append_5 rfl rfl ?_
      refine g_iload_n (pc := 6) (i := 3) C d_L_append_6 rfl rfl ?_
      refine g_callVc (pc := 7) (As := [_, _, _]) (E := E_IAE) (ns := [E_IOOBE, E_ISE, E_IAE, E_UOE]) (hpc := 23) C hR my_V_append mv_V_append ml_L_17 is_V d_L_append_7 (Nat.le_of_ble_eq_true rfl) rfl (Nat.le_of_ble_eq_true rfl) (t_V_append _ hD hO hC hW ho) tw_IAE.2.2.1 (fun cell hc => ⟨⟨by decide, by decide, by decide, C.ts _ lc_IOOBE⟩, Or.inr ⟨nocast hO nc_IAE_IOOBE C.wa hc, ⟨⟨by decide, by decide, by decide, C.ts _ lc_ISE⟩, Or.inr ⟨nocast hO nc_IAE_ISE C.wa hc, ⟨⟨by decide, by decide, by decide, C.ts _ lc_IAE⟩, Or.inl ⟨docast C.ok ca_IAE C.wa hc, rfl⟩⟩⟩⟩⟩⟩) (fun x0 u hu => ?_)
      obtain ⟨c2, rfl, hC2⟩ := hu
      refine g_astore (pc := 23) C d_L_append_23 (by decide) rfl ?_
      refine g_iconst (pc := 25) C d_L_append_25 ic_3 ?_
      exact g_ireth (pc := 26) C d_L_append_26 ⟨c2, hC2, Or.inr ⟨_, rfl, rfl, rfl⟩⟩
    · skip
      refine g_aload (pc := 0) C d_L_append_0 rfl ?_
      refine g_iconst (pc := 2) C d_L_append_2 icn_0 ?_
      refine g_aload_n (pc := 3) (i := 0) C d_L_append_3 rfl rfl ?_
      refine g_iload_n (pc := 4) (i := 1) C d_L_append_4 rfl rfl ?_
      refine g_iload_n (pc := 5) (i := 2) C d_L_append_5 rfl rfl ?_
      refine g_iload_n (pc := 6) (i := 3) C d_L_append_6 rfl rfl ?_
      refine g_callVc (pc := 7) (As := [_, _, _]) (E := E_UOE) (ns := [E_IOOBE, E_ISE, E_IAE, E_UOE]) (hpc := 27) C hR my_V_append mv_V_append ml_L_17 is_V d_L_append_7 (Nat.le_of_ble_eq_true rfl) rfl (Nat.le_of_ble_eq_true rfl) (t_V_append _ hD hO hC hW ho) tw_UOE.2.2.1 (fun cell hc => ⟨⟨by decide, by decide, by decide, C.ts _ lc_IOOBE⟩, Or.inr ⟨nocast hO nc_UOE_IOOBE C.wa hc, ⟨⟨by decide, by decide, by decide, C.ts _ lc_ISE⟩, Or.inr ⟨nocast hO nc_UOE_ISE C.wa hc, ⟨⟨by decide, by decide, by decide, C.ts _ lc_IAE⟩, Or.inr ⟨nocast hO nc_UOE_IAE C.wa hc, ⟨⟨by decide, by decide, by decide, C.ts _ lc_UOE⟩, Or.inl ⟨docast C.ok ca_UOE C.wa hc, rfl⟩⟩⟩⟩⟩⟩⟩⟩) (fun x0 u hu => ?_)
      obtain ⟨c2, rfl, hC2⟩ := hu
      refine g_astore (pc := 27) C d_L_append_27 (by decide) rfl ?_
      refine g_iconst (pc := 29) C d_L_append_29 ic_4 ?_
      exact g_ireth (pc := 30) C d_L_append_30 ⟨c2, hC2, Or.inr ⟨_, rfl, rfl, rfl⟩⟩
set_option maxRecDepth 100000 in
set_option maxHeartbeats 4000000 in
theorem h_L_commit (l : Launch) {D : Dt} (hD : OkD D) {c m : Cs} {ow : Nat → Int64} {V : Vt} {r : Int32} (hO : OkT l D) (hC : CAbs c V) (hW : WfV V) : Hc l D y_L_commit b_L_commit 4 [(0, 9, 12, 13), (0, 9, 15, 15)] 11 [.ref (aOut D), .int r, .ref (aVlt D)] ((c, m, ow) : Sg) (fun a0 u => ∃ c2, CAbs c2 (oCommit V r).2 ∧ ((∃ z, (oCommit V r).1 = .inl z ∧ a0 = some (.int 0) ∧ u = ((c2, m, vp_updL ow 0 z.toInt64) : Sg)) ∨ (∃ e, (oCommit V r).1 = .inr e ∧ a0 = some (.int (cdA e)) ∧ u = ((c2, m, ow) : Sg)))) := by
  refine Hc.of hD (by decide) (Nat.le_of_ble_eq_true rfl) [(0, some (.ref (aVlt D))), (1, some (.int r)), (2, some (.ref (aOut D)))] rfl (fun X hX C hR => ?_)
  subst hX
  cases ho : (oCommit V r).1 with
  | inl z =>
    refine g_aload_n (pc := 0) (i := 2) C d_L_commit_0 rfl rfl ?_
    refine g_iconst (pc := 1) C d_L_commit_1 icn_0 ?_
    refine g_aload_n (pc := 2) (i := 0) C d_L_commit_2 rfl rfl ?_
    refine g_iload_n (pc := 3) (i := 1) C d_L_commit_3 rfl rfl ?_
    refine g_callVp (pc := 4) (As := [_]) C my_V_commit mv_V_commit cl_L_25 is_V d_L_commit_4 (Nat.le_of_ble_eq_true rfl) rfl (Nat.le_of_ble_eq_true rfl) ⟨Nat.zero_le _, Nat.zero_le _⟩ (x_V_commit _ hD hC hW ho) (fun r4 u4 hp4 => ?_)
    obtain ⟨c2, rfl, rfl, hC2⟩ := hp4
    refine g_i2l (pc := 7) C d_L_commit_7 ?_
    refine gs_out (pc := 8) C (vp_in_nI (by decide) (by decide)) d_L_commit_8 ?_
    refine G.sg (σ' := ((c2, m, vp_updL ow 0 z.toInt64) : Sg)) (by rw [nI_clamp (by decide)]) ?_
    refine g_goto (pc := 9) (tgt := 18) C d_L_commit_9 (by decide) ?_
    refine g_iconst (pc := 18) C d_L_commit_18 ic_0 ?_
    exact g_wid (g_ireth (pc := 19) C d_L_commit_19 ⟨c2, hC2, Or.inl ⟨z, rfl, rfl, rfl⟩⟩)
  | inr e =>
    rcases er_commit e ho with rfl | rfl
    · skip
      refine g_aload_n (pc := 0) (i := 2) C d_L_commit_0 rfl rfl ?_
      refine g_iconst (pc := 1) C d_L_commit_1 icn_0 ?_
      refine g_aload_n (pc := 2) (i := 0) C d_L_commit_2 rfl rfl ?_
      refine g_iload_n (pc := 3) (i := 1) C d_L_commit_3 rfl rfl ?_
      refine g_callVc (pc := 4) (As := [_]) (E := E_IOOBE) (ns := [E_IOOBE, E_ISE]) (hpc := 12) C hR my_V_commit mv_V_commit ml_L_25 is_V d_L_commit_4 (Nat.le_of_ble_eq_true rfl) rfl (Nat.le_of_ble_eq_true rfl) (t_V_commit _ hD hO hC hW ho) tw_IOOBE.2.2.1 (fun cell hc => ⟨⟨by decide, by decide, by decide, C.ts _ lc_IOOBE⟩, Or.inl ⟨docast C.ok ca_IOOBE C.wa hc, rfl⟩⟩) (fun x0 u hu => ?_)
      obtain ⟨c2, rfl, hC2⟩ := hu
      refine g_astore_n (pc := 12) (i := 3) C d_L_commit_12 rfl (by decide) rfl ?_
      refine g_iconst (pc := 13) C d_L_commit_13 ic_1 ?_
      exact g_ireth (pc := 14) C d_L_commit_14 ⟨c2, hC2, Or.inr ⟨_, rfl, rfl, rfl⟩⟩
    · skip
      refine g_aload_n (pc := 0) (i := 2) C d_L_commit_0 rfl rfl ?_
      refine g_iconst (pc := 1) C d_L_commit_1 icn_0 ?_
      refine g_aload_n (pc := 2) (i := 0) C d_L_commit_2 rfl rfl ?_
      refine g_iload_n (pc := 3) (i := 1) C d_L_commit_3 rfl rfl ?_
      refine g_callVc (pc := 4) (As := [_]) (E := E_ISE) (ns := [E_IOOBE, E_ISE]) (hpc := 15) C hR my_V_commit mv_V_commit ml_L_25 is_V d_L_commit_4 (Nat.le_of_ble_eq_true rfl) rfl (Nat.le_of_ble_eq_true rfl) (t_V_commit _ hD hO hC hW ho) tw_ISE.2.2.1 (fun cell hc => ⟨⟨by decide, by decide, by decide, C.ts _ lc_IOOBE⟩, Or.inr ⟨nocast hO nc_ISE_IOOBE C.wa hc, ⟨⟨by decide, by decide, by decide, C.ts _ lc_ISE⟩, Or.inl ⟨docast C.ok ca_ISE C.wa hc, rfl⟩⟩⟩⟩) (fun x0 u hu => ?_)
      obtain ⟨c2, rfl, hC2⟩ := hu
      refine g_astore_n (pc := 15) (i := 3) C d_L_commit_15 rfl (by decide) rfl ?_
      refine g_iconst (pc := 16) C d_L_commit_16 ic_2 ?_
      exact g_ireth (pc := 17) C d_L_commit_17 ⟨c2, hC2, Or.inr ⟨_, rfl, rfl, rfl⟩⟩
set_option maxRecDepth 100000 in
set_option maxHeartbeats 4000000 in
theorem h_L_abort (l : Launch) {D : Dt} (hD : OkD D) {c m : Cs} {ow : Nat → Int64} {V : Vt} {r : Int32} (hO : OkT l D) (hC : CAbs c V) (hW : WfV V) : Hc l D y_L_abort b_L_abort 4 [(0, 9, 12, 13), (0, 9, 15, 15)] 11 [.ref (aOut D), .int r, .ref (aVlt D)] ((c, m, ow) : Sg) (fun a0 u => ∃ c2, CAbs c2 (oAbort V r).2 ∧ ((∃ z, (oAbort V r).1 = .inl z ∧ a0 = some (.int 0) ∧ u = ((c2, m, vp_updL ow 0 z.toInt64) : Sg)) ∨ (∃ e, (oAbort V r).1 = .inr e ∧ a0 = some (.int (cdA e)) ∧ u = ((c2, m, ow) : Sg)))) := by
  refine Hc.of hD (by decide) (Nat.le_of_ble_eq_true rfl) [(0, some (.ref (aVlt D))), (1, some (.int r)), (2, some (.ref (aOut D)))] rfl (fun X hX C hR => ?_)
  subst hX
  cases ho : (oAbort V r).1 with
  | inl z =>
    refine g_aload_n (pc := 0) (i := 2) C d_L_abort_0 rfl rfl ?_
    refine g_iconst (pc := 1) C d_L_abort_1 icn_0 ?_
    refine g_aload_n (pc := 2) (i := 0) C d_L_abort_2 rfl rfl ?_
    refine g_iload_n (pc := 3) (i := 1) C d_L_abort_3 rfl rfl ?_
    refine g_callVp (pc := 4) (As := [_]) C my_V_abort mv_V_abort cl_L_28 is_V d_L_abort_4 (Nat.le_of_ble_eq_true rfl) rfl (Nat.le_of_ble_eq_true rfl) ⟨Nat.zero_le _, Nat.zero_le _⟩ (x_V_abort _ hD hC hW ho) (fun r4 u4 hp4 => ?_)
    obtain ⟨c2, rfl, rfl, hC2⟩ := hp4
    refine g_i2l (pc := 7) C d_L_abort_7 ?_
    refine gs_out (pc := 8) C (vp_in_nI (by decide) (by decide)) d_L_abort_8 ?_
    refine G.sg (σ' := ((c2, m, vp_updL ow 0 z.toInt64) : Sg)) (by rw [nI_clamp (by decide)]) ?_
    refine g_goto (pc := 9) (tgt := 18) C d_L_abort_9 (by decide) ?_
    refine g_iconst (pc := 18) C d_L_abort_18 ic_0 ?_
    exact g_wid (g_ireth (pc := 19) C d_L_abort_19 ⟨c2, hC2, Or.inl ⟨z, rfl, rfl, rfl⟩⟩)
  | inr e =>
    rcases er_abort e ho with rfl | rfl
    · skip
      refine g_aload_n (pc := 0) (i := 2) C d_L_abort_0 rfl rfl ?_
      refine g_iconst (pc := 1) C d_L_abort_1 icn_0 ?_
      refine g_aload_n (pc := 2) (i := 0) C d_L_abort_2 rfl rfl ?_
      refine g_iload_n (pc := 3) (i := 1) C d_L_abort_3 rfl rfl ?_
      refine g_callVc (pc := 4) (As := [_]) (E := E_IOOBE) (ns := [E_IOOBE, E_ISE]) (hpc := 12) C hR my_V_abort mv_V_abort ml_L_28 is_V d_L_abort_4 (Nat.le_of_ble_eq_true rfl) rfl (Nat.le_of_ble_eq_true rfl) (t_V_abort _ hD hO hC hW ho) tw_IOOBE.2.2.1 (fun cell hc => ⟨⟨by decide, by decide, by decide, C.ts _ lc_IOOBE⟩, Or.inl ⟨docast C.ok ca_IOOBE C.wa hc, rfl⟩⟩) (fun x0 u hu => ?_)
      obtain ⟨c2, rfl, hC2⟩ := hu
      refine g_astore_n (pc := 12) (i := 3) C d_L_abort_12 rfl (by decide) rfl ?_
      refine g_iconst (pc := 13) C d_L_abort_13 ic_1 ?_
      exact g_ireth (pc := 14) C d_L_abort_14 ⟨c2, hC2, Or.inr ⟨_, rfl, rfl, rfl⟩⟩
    · skip
      refine g_aload_n (pc := 0) (i := 2) C d_L_abort_0 rfl rfl ?_
      refine g_iconst (pc := 1) C d_L_abort_1 icn_0 ?_
      refine g_aload_n (pc := 2) (i := 0) C d_L_abort_2 rfl rfl ?_
      refine g_iload_n (pc := 3) (i := 1) C d_L_abort_3 rfl rfl ?_
      refine g_callVc (pc := 4) (As := [_]) (E := E_ISE) (ns := [E_IOOBE, E_ISE]) (hpc := 15) C hR my_V_abort mv_V_abort ml_L_28 is_V d_L_abort_4 (Nat.le_of_ble_eq_true rfl) rfl (Nat.le_of_ble_eq_true rfl) (t_V_abort _ hD hO hC hW ho) tw_ISE.2.2.1 (fun cell hc => ⟨⟨by decide, by decide, by decide, C.ts _ lc_IOOBE⟩, Or.inr ⟨nocast hO nc_ISE_IOOBE C.wa hc, ⟨⟨by decide, by decide, by decide, C.ts _ lc_ISE⟩, Or.inl ⟨docast C.ok ca_ISE C.wa hc, rfl⟩⟩⟩⟩) (fun x0 u hu => ?_)
      obtain ⟨c2, rfl, hC2⟩ := hu
      refine g_astore_n (pc := 15) (i := 3) C d_L_abort_15 rfl (by decide) rfl ?_
      refine g_iconst (pc := 16) C d_L_abort_16 ic_2 ?_
      exact g_ireth (pc := 17) C d_L_abort_17 ⟨c2, hC2, Or.inr ⟨_, rfl, rfl, rfl⟩⟩
set_option maxRecDepth 100000 in
set_option maxHeartbeats 4000000 in
theorem h_L_recover (l : Launch) {D : Dt} (hD : OkD D) {c m : Cs} {ow : Nat → Int64} {V : Vt} {r n : Int32} (hO : OkT l D) (hC : CAbs c V) (hW : WfV V) : Hc l D y_L_recover b_L_recover 5 [(0, 10, 13, 13), (0, 10, 17, 15)] 11 [.ref (aOut D), .int n, .int r, .ref (aVlt D)] ((c, m, ow) : Sg) (fun a0 u => ∃ c2, CAbs c2 (oRecover V r n).2 ∧ ((∃ z, (oRecover V r n).1 = .inl z ∧ a0 = some (.int 0) ∧ u = ((c2, m, vp_updL ow 0 z.toInt64) : Sg)) ∨ (∃ e, (oRecover V r n).1 = .inr e ∧ a0 = some (.int (cdA e)) ∧ u = ((c2, m, ow) : Sg)))) := by
  refine Hc.of hD (by decide) (Nat.le_of_ble_eq_true rfl) [(0, some (.ref (aVlt D))), (1, some (.int r)), (2, some (.int n)), (3, some (.ref (aOut D)))] rfl (fun X hX C hR => ?_)
  subst hX
  cases ho : (oRecover V r n).1 with
  | inl z =>
    refine g_aload_n (pc := 0) (i := 3) C d_L_recover_0 rfl rfl ?_
    refine g_iconst (pc := 1) C d_L_recover_1 icn_0 ?_
    refine g_aload_n (pc := 2) (i := 0) C d_L_recover_2 rfl rfl ?_
    refine g_iload_n (pc := 3) (i := 1) C d_L_recover_3 rfl rfl ?_
    refine g_iload_n (pc := 4) (i := 2) C d_L_recover_4 rfl rfl ?_
    refine g_callVp (pc := 5) (As := [_, _]) C my_V_recover mv_V_recover cl_L_31 is_V d_L_recover_5 (Nat.le_of_ble_eq_true rfl) rfl (Nat.le_of_ble_eq_true rfl) ⟨Nat.zero_le _, Nat.zero_le _⟩ (x_V_recover _ hD hC hW ho) (fun r5 u5 hp5 => ?_)
    obtain ⟨c2, rfl, rfl, hC2⟩ := hp5
    refine g_i2l (pc := 8) C d_L_recover_8 ?_
    refine gs_out (pc := 9) C (vp_in_nI (by decide) (by decide)) d_L_recover_9 ?_
    refine G.sg (σ' := ((c2, m, vp_updL ow 0 z.toInt64) : Sg)) (by rw [nI_clamp (by decide)]) ?_
    refine g_goto (pc := 10) (tgt := 21) C d_L_recover_10 (by decide) ?_
    refine g_iconst (pc := 21) C d_L_recover_21 ic_0 ?_
    exact g_wid (g_ireth (pc := 22) C d_L_recover_22 ⟨c2, hC2, Or.inl ⟨z, rfl, rfl, rfl⟩⟩)
  | inr e =>
    rcases er_recover e ho with rfl | rfl
    · skip
      refine g_aload_n (pc := 0) (i := 3) C d_L_recover_0 rfl rfl ?_
      refine g_iconst (pc := 1) C d_L_recover_1 icn_0 ?_
      refine g_aload_n (pc := 2) (i := 0) C d_L_recover_2 rfl rfl ?_
      refine g_iload_n (pc := 3) (i := 1) C d_L_recover_3 rfl rfl ?_
      refine g_iload_n (pc := 4) (i := 2) C d_L_recover_4 rfl rfl ?_
      refine g_callVc (pc := 5) (As := [_, _]) (E := E_IOOBE) (ns := [E_IOOBE, E_ISE]) (hpc := 13) C hR my_V_recover mv_V_recover ml_L_31 is_V d_L_recover_5 (Nat.le_of_ble_eq_true rfl) rfl (Nat.le_of_ble_eq_true rfl) (t_V_recover _ hD hO hC hW ho) tw_IOOBE.2.2.1 (fun cell hc => ⟨⟨by decide, by decide, by decide, C.ts _ lc_IOOBE⟩, Or.inl ⟨docast C.ok ca_IOOBE C.wa hc, rfl⟩⟩) (fun x0 u hu => ?_)
      obtain ⟨c2, rfl, hC2⟩ := hu
      refine g_astore (pc := 13) C d_L_recover_13 (by decide) rfl ?_
      refine g_iconst (pc := 15) C d_L_recover_15 ic_1 ?_
      exact g_ireth (pc := 16) C d_L_recover_16 ⟨c2, hC2, Or.inr ⟨_, rfl, rfl, rfl⟩⟩
    · skip
      refine g_aload_n (pc := 0) (i := 3) C d_L_recover_0 rfl rfl ?_
      refine g_iconst (pc := 1) C d_L_recover_1 icn_0 ?_
      refine g_aload_n (pc := 2) (i := 0) C d_L_recover_2 rfl rfl ?_
      refine g_iload_n (pc := 3) (i := 1) C d_L_recover_3 rfl rfl ?_
      refine g_iload_n (pc := 4) (i := 2) C d_L_recover_4 rfl rfl ?_
      refine g_callVc (pc := 5) (As := [_, _]) (E := E_ISE) (ns := [E_IOOBE, E_ISE]) (hpc := 17) C hR my_V_recover mv_V_recover ml_L_31 is_V d_L_recover_5 (Nat.le_of_ble_eq_true rfl) rfl (Nat.le_of_ble_eq_true rfl) (t_V_recover _ hD hO hC hW ho) tw_ISE.2.2.1 (fun cell hc => ⟨⟨by decide, by decide, by decide, C.ts _ lc_IOOBE⟩, Or.inr ⟨nocast hO nc_ISE_IOOBE C.wa hc, ⟨⟨by decide, by decide, by decide, C.ts _ lc_ISE⟩, Or.inl ⟨docast C.ok ca_ISE C.wa hc, rfl⟩⟩⟩⟩) (fun x0 u hu => ?_)
      obtain ⟨c2, rfl, hC2⟩ := hu
      refine g_astore (pc := 17) C d_L_recover_17 (by decide) rfl ?_
      refine g_iconst (pc := 19) C d_L_recover_19 ic_2 ?_
      exact g_ireth (pc := 20) C d_L_recover_20 ⟨c2, hC2, Or.inr ⟨_, rfl, rfl, rfl⟩⟩
set_option maxRecDepth 100000 in
set_option maxHeartbeats 4000000 in
theorem h_L_pull (l : Launch) {D : Dt} (hD : OkD D) {c m : Cs} {ow : Nat → Int64} {V : Vt} {r : Int32} (hO : OkT l D) (hC : CAbs c V) (hW : WfV V) : Hc l D y_L_pull b_L_pull 4 [(0, 9, 12, 13), (0, 9, 15, 15), (0, 9, 18, 23)] 11 [.ref (aOut D), .int r, .ref (aVlt D)] ((c, m, ow) : Sg) (fun a0 u => ∃ c2, CAbs c2 (oPull V r).2 ∧ ((∃ z, (oPull V r).1 = .inl z ∧ a0 = some (.int 0) ∧ u = ((c2, m, vp_updL ow 0 z.toInt64) : Sg)) ∨ (∃ e, (oPull V r).1 = .inr e ∧ a0 = some (.int (cdP e)) ∧ u = ((c2, m, ow) : Sg)))) := by
  refine Hc.of hD (by decide) (Nat.le_of_ble_eq_true rfl) [(0, some (.ref (aVlt D))), (1, some (.int r)), (2, some (.ref (aOut D)))] rfl (fun X hX C hR => ?_)
  subst hX
  cases ho : (oPull V r).1 with
  | inl z =>
    refine g_aload_n (pc := 0) (i := 2) C d_L_pull_0 rfl rfl ?_
    refine g_iconst (pc := 1) C d_L_pull_1 icn_0 ?_
    refine g_aload_n (pc := 2) (i := 0) C d_L_pull_2 rfl rfl ?_
    refine g_iload_n (pc := 3) (i := 1) C d_L_pull_3 rfl rfl ?_
    refine g_callVp (pc := 4) (As := [_]) C my_V_pull mv_V_pull cl_L_35 is_V d_L_pull_4 (Nat.le_of_ble_eq_true rfl) rfl (Nat.le_of_ble_eq_true rfl) ⟨Nat.zero_le _, Nat.zero_le _⟩ (x_V_pull _ hD hC hW ho) (fun r4 u4 hp4 => ?_)
    obtain ⟨c2, rfl, rfl, hC2⟩ := hp4
    refine g_i2l (pc := 7) C d_L_pull_7 ?_
    refine gs_out (pc := 8) C (vp_in_nI (by decide) (by decide)) d_L_pull_8 ?_
    refine G.sg (σ' := ((c2, m, vp_updL ow 0 z.toInt64) : Sg)) (by rw [nI_clamp (by decide)]) ?_
    refine g_goto (pc := 9) (tgt := 21) C d_L_pull_9 (by decide) ?_
    refine g_iconst (pc := 21) C d_L_pull_21 ic_0 ?_
    exact g_wid (g_ireth (pc := 22) C d_L_pull_22 ⟨c2, hC2, Or.inl ⟨z, rfl, rfl, rfl⟩⟩)
  | inr e =>
    rcases er_pull e ho with rfl | rfl | rfl
    · skip
      refine g_aload_n (pc := 0) (i := 2) C d_L_pull_0 rfl rfl ?_
      refine g_iconst (pc := 1) C d_L_pull_1 icn_0 ?_
      refine g_aload_n (pc := 2) (i := 0) C d_L_pull_2 rfl rfl ?_
      refine g_iload_n (pc := 3) (i := 1) C d_L_pull_3 rfl rfl ?_
      refine g_callVc (pc := 4) (As := [_]) (E := E_IOOBE) (ns := [E_IOOBE, E_ISE, E_UOE]) (hpc := 12) C hR my_V_pull mv_V_pull ml_L_35 is_V d_L_pull_4 (Nat.le_of_ble_eq_true rfl) rfl (Nat.le_of_ble_eq_true rfl) (t_V_pull _ hD hO hC hW ho) tw_IOOBE.2.2.1 (fun cell hc => ⟨⟨by decide, by decide, by decide, C.ts _ lc_IOOBE⟩, Or.inl ⟨docast C.ok ca_IOOBE C.wa hc, rfl⟩⟩) (fun x0 u hu => ?_)
      obtain ⟨c2, rfl, hC2⟩ := hu
      refine g_astore_n (pc := 12) (i := 3) C d_L_pull_12 rfl (by decide) rfl ?_
      refine g_iconst (pc := 13) C d_L_pull_13 ic_1 ?_
      exact g_ireth (pc := 14) C d_L_pull_14 ⟨c2, hC2, Or.inr ⟨_, rfl, rfl, rfl⟩⟩
    · skip
      refine g_aload_n (pc := 0) (i := 2) C d_L_pull_0 rfl rfl ?_
      refine g_iconst (pc := 1) C d_L_pull_1 icn_0 ?_
      refine g_aload_n (pc := 2) (i := 0) C d_L_pull_2 rfl rfl ?_
      refine g_iload_n (pc := 3) (i := 1) C d_L_pull_3 rfl rfl ?_
      refine g_callVc (pc := 4) (As := [_]) (E := E_ISE) (ns := [E_IOOBE, E_ISE, E_UOE]) (hpc := 15) C hR my_V_pull mv_V_pull ml_L_35 is_V d_L_pull_4 (Nat.le_of_ble_eq_true rfl) rfl (Nat.le_of_ble_eq_true rfl) (t_V_pull _ hD hO hC hW ho) tw_ISE.2.2.1 (fun cell hc => ⟨⟨by decide, by decide, by decide, C.ts _ lc_IOOBE⟩, Or.inr ⟨nocast hO nc_ISE_IOOBE C.wa hc, ⟨⟨by decide, by decide, by decide, C.ts _ lc_ISE⟩, Or.inl ⟨docast C.ok ca_ISE C.wa hc, rfl⟩⟩⟩⟩) (fun x0 u hu => ?_)
      obtain ⟨c2, rfl, hC2⟩ := hu
      refine g_astore_n (pc := 15) (i := 3) C d_L_pull_15 rfl (by decide) rfl ?_
      refine g_iconst (pc := 16) C d_L_pull_16 ic_2 ?_
      exact g_ireth (pc := 17) C d_L_pull_17 ⟨c2, hC2, Or.inr ⟨_, rfl, rfl, rfl⟩⟩
    · skip
      refine g_aload_n (pc := 0) (i := 2) C d_L_pull_0 rfl rfl ?_
      refine g_iconst (pc := 1) C d_L_pull_1 icn_0 ?_
      refine g_aload_n (pc := 2) (i := 0) C d_L_pull_2 rfl rfl ?_
      refine g_iload_n (pc := 3) (i := 1) C d_L_pull_3 rfl rfl ?_
      refine g_callVc (pc := 4) (As := [_]) (E := E_UOE) (ns := [E_IOOBE, E_ISE, E_UOE]) (hpc := 18) C hR my_V_pull mv_V_pull ml_L_35 is_V d_L_pull_4 (Nat.le_of_ble_eq_true rfl) rfl (Nat.le_of_ble_eq_true rfl) (t_V_pull _ hD hO hC hW ho) tw_UOE.2.2.1 (fun cell hc => ⟨⟨by decide, by decide, by decide, C.ts _ lc_IOOBE⟩, Or.inr ⟨nocast hO nc_UOE_IOOBE C.wa hc, ⟨⟨by decide, by decide, by decide, C.ts _ lc_ISE⟩, Or.inr ⟨nocast hO nc_UOE_ISE C.wa hc, ⟨⟨by decide, by decide, by decide, C.ts _ lc_UOE⟩, Or.inl ⟨docast C.ok ca_UOE C.wa hc, rfl⟩⟩⟩⟩⟩⟩) (fun x0 u hu => ?_)
      obtain ⟨c2, rfl, hC2⟩ := hu
      refine g_astore_n (pc := 18) (i := 3) C d_L_pull_18 rfl (by decide) rfl ?_
      refine g_iconst (pc := 19) C d_L_pull_19 ic_3 ?_
      exact g_ireth (pc := 20) C d_L_pull_20 ⟨c2, hC2, Or.inr ⟨_, rfl, rfl, rfl⟩⟩
set_option maxRecDepth 100000 in
set_option maxHeartbeats 4000000 in
theorem h_L_text (l : Launch) {D : Dt} (hD : OkD D) {c m : Cs} {ow : Nat → Int64} {V : Vt} {r n k2 : Int32} (hO : OkT l D) (hC : CAbs c V) (hW : WfV V) : Hc l D y_L_text b_L_text 6 [(0, 12, 15, 13), (0, 12, 19, 15), (0, 12, 23, 23)] 11 [.ref (aOut D), .int k2, .int n, .int r, .ref (aVlt D)] ((c, m, ow) : Sg) (fun a0 u => ∃ c2, CAbs c2 (oText V r n k2).2 ∧ ((∃ z, (oText V r n k2).1 = .inl z ∧ a0 = some (.int 0) ∧ u = ((c2, m, vp_updL ow 0 z.toInt64) : Sg)) ∨ (∃ e, (oText V r n k2).1 = .inr e ∧ a0 = some (.int (cdP e)) ∧ u = ((c2, m, ow) : Sg)))) := by
  refine Hc.of hD (by decide) (Nat.le_of_ble_eq_true rfl) [(0, some (.ref (aVlt D))), (1, some (.int r)), (2, some (.int n)), (3, some (.int k2)), (4, some (.ref (aOut D)))] rfl (fun X hX C hR => ?_)
  subst hX
  cases ho : (oText V r n k2).1 with
  | inl z =>
    refine g_aload (pc := 0) C d_L_text_0 rfl ?_
    refine g_iconst (pc := 2) C d_L_text_2 icn_0 ?_
    refine g_aload_n (pc := 3) (i := 0) C d_L_text_3 rfl rfl ?_
    refine g_iload_n (pc := 4) (i := 1) C d_L_text_4 rfl rfl ?_
    refine g_iload_n (pc := 5) (i := 2) C d_L_text_5 rfl rfl ?_
    refine g_iload_n (pc := 6) (i := 3) C d_L_text_6 rfl rfl ?_
    refine g_callVp (pc := 7) (As := [_, _, _]) C my_V_text mv_V_text cl_L_38 is_V d_L_text_7 (Nat.le_of_ble_eq_true rfl) rfl (Nat.le_of_ble_eq_true rfl) ⟨Nat.zero_le _, Nat.zero_le _⟩ (x_V_text _ hD hC hW ho) (fun r7 u7 hp7 => ?_)
    obtain ⟨c2, rfl, rfl, hC2⟩ := hp7
    refine g_i2l (pc := 10) C d_L_text_10 ?_
    refine gs_out (pc := 11) C (vp_in_nI (by decide) (by decide)) d_L_text_11 ?_
    refine G.sg (σ' := ((c2, m, vp_updL ow 0 z.toInt64) : Sg)) (by rw [nI_clamp (by decide)]) ?_
    refine g_goto (pc := 12) (tgt := 27) C d_L_text_12 (by decide) ?_
    refine g_iconst (pc := 27) C d_L_text_27 ic_0 ?_
    exact g_wid (g_ireth (pc := 28) C d_L_text_28 ⟨c2, hC2, Or.inl ⟨z, rfl, rfl, rfl⟩⟩)
  | inr e =>
    rcases er_text e ho with rfl | rfl | rfl
    · skip
      refine g_aload (pc := 0) C d_L_text_0 rfl ?_
      refine g_iconst (pc := 2) C d_L_text_2 icn_0 ?_
      refine g_aload_n (pc := 3) (i := 0) C d_L_text_3 rfl rfl ?_
      refine g_iload_n (pc := 4) (i := 1) C d_L_text_4 rfl rfl ?_
      refine g_iload_n (pc := 5) (i := 2) C d_L_text_5 rfl rfl ?_
      refine g_iload_n (pc := 6) (i := 3) C d_L_text_6 rfl rfl ?_
      refine g_callVc (pc := 7) (As := [_, _, _]) (E := E_IOOBE) (ns := [E_IOOBE, E_ISE, E_UOE]) (hpc := 15) C hR my_V_text mv_V_text ml_L_38 is_V d_L_text_7 (Nat.le_of_ble_eq_true rfl) rfl (Nat.le_of_ble_eq_true rfl) (t_V_text _ hD hO hC hW ho) tw_IOOBE.2.2.1 (fun cell hc => ⟨⟨by decide, by decide, by decide, C.ts _ lc_IOOBE⟩, Or.inl ⟨docast C.ok ca_IOOBE C.wa hc, rfl⟩⟩) (fun x0 u hu => ?_)
      obtain ⟨c2, rfl, hC2⟩ := hu
      refine g_astore (pc := 15) C d_L_text_15 (by decide) rfl ?_
      refine g_iconst (pc := 17) C d_L_text_17 ic_1 ?_
      exact g_ireth (pc := 18) C d_L_text_18 ⟨c2, hC2, Or.inr ⟨_, rfl, rfl, rfl⟩⟩
    · skip
      refine g_aload (pc := 0) C d_L_text_0 rfl ?_
      refine g_iconst (pc := 2) C d_L_text_2 icn_0 ?_
      refine g_aload_n (pc := 3) (i := 0) C d_L_text_3 rfl rfl ?_
      refine g_iload_n (pc := 4) (i := 1) C d_L_text_4 rfl rfl ?_
      refine g_iload_n (pc := 5) (i := 2) C d_L_text_5 rfl rfl ?_
      refine g_iload_n (pc := 6) (i := 3) C d_L_text_6 rfl rfl ?_
      refine g_callVc (pc := 7) (As := [_, _, _]) (E := E_ISE) (ns := [E_IOOBE, E_ISE, E_UOE]) (hpc := 19) C hR my_V_text mv_V_text ml_L_38 is_V d_L_text_7 (Nat.le_of_ble_eq_true rfl) rfl (Nat.le_of_ble_eq_true rfl) (t_V_text _ hD hO hC hW ho) tw_ISE.2.2.1 (fun cell hc => ⟨⟨by decide, by decide, by decide, C.ts _ lc_IOOBE⟩, Or.inr ⟨nocast hO nc_ISE_IOOBE C.wa hc, ⟨⟨by decide, by decide, by decide, C.ts _ lc_ISE⟩, Or.inl ⟨docast C.ok ca_ISE C.wa hc, rfl⟩⟩⟩⟩) (fun x0 u hu => ?_)
      obtain ⟨c2, rfl, hC2⟩ := hu
      refine g_astore (pc := 19) C d_L_text_19 (by decide) rfl ?_
      refine g_iconst (pc := 21) C d_L_text_21 ic_2 ?_
      exact g_ireth (pc := 22) C d_L_text_22 ⟨c2, hC2, Or.inr ⟨_, rfl, rfl, rfl⟩⟩
    · skip
      refine g_aload (pc := 0) C d_L_text_0 rfl ?_
      refine g_iconst (pc := 2) C d_L_text_2 icn_0 ?_
      refine g_aload_n (pc := 3) (i := 0) C d_L_text_3 rfl rfl ?_
      refine g_iload_n (pc := 4) (i := 1) C d_L_text_4 rfl rfl ?_
      refine g_iload_n (pc := 5) (i := 2) C d_L_text_5 rfl rfl ?_
      refine g_iload_n (pc := 6) (i := 3) C d_L_text_6 rfl rfl ?_
      refine g_callVc (pc := 7) (As := [_, _, _]) (E := E_UOE) (ns := [E_IOOBE, E_ISE, E_UOE]) (hpc := 23) C hR my_V_text mv_V_text ml_L_38 is_V d_L_text_7 (Nat.le_of_ble_eq_true rfl) rfl (Nat.le_of_ble_eq_true rfl) (t_V_text _ hD hO hC hW ho) tw_UOE.2.2.1 (fun cell hc => ⟨⟨by decide, by decide, by decide, C.ts _ lc_IOOBE⟩, Or.inr ⟨nocast hO nc_UOE_IOOBE C.wa hc, ⟨⟨by decide, by decide, by decide, C.ts _ lc_ISE⟩, Or.inr ⟨nocast hO nc_UOE_ISE C.wa hc, ⟨⟨by decide, by decide, by decide, C.ts _ lc_UOE⟩, Or.inl ⟨docast C.ok ca_UOE C.wa hc, rfl⟩⟩⟩⟩⟩⟩) (fun x0 u hu => ?_)
      obtain ⟨c2, rfl, hC2⟩ := hu
      refine g_astore (pc := 23) C d_L_text_23 (by decide) rfl ?_
      refine g_iconst (pc := 25) C d_L_text_25 ic_3 ?_
      exact g_ireth (pc := 26) C d_L_text_26 ⟨c2, hC2, Or.inr ⟨_, rfl, rfl, rfl⟩⟩
