theorem ml_V_43 : Cond.methodLink R_V 43 y_V_repositoryAt ∈ UNI := un 657 (by decide +kernel) (by decide +kernel)
theorem ml_V_61 : Cond.methodLink R_V 61 y_V_repositoryInTransaction ∈ UNI := un 714 (by decide +kernel) (by decide +kernel)
set_option maxRecDepth 100000 in
set_option maxHeartbeats 4000000 in
theorem c_V_repositoryAt (l : Launch) {D : Dt} (hD : OkD D) {q : Nat} {σ : Sg} (hq : q < 2) : Ct l D y_V_repositoryAt b_V_repositoryAt 2 (some (.object "RevisionVault$Repository")) 2 [.int (nI q), .ref (aVlt D)] σ (some (.ref (aRep D q))) σ := by
  refine Ct.of hD (by decide) (Nat.le_of_ble_eq_true rfl) [(0, some (.ref (aVlt D))), (1, some (.int (nI q)))] rfl (fun X hX C => ?_)
  subst hX
  refine g_iload_n (pc := 0) (i := 1) C d_V_repositoryAt_0 rfl rfl ?_
  refine g_callS1 (pc := 1) (As := [_]) C my_V_isRepository ms_V_isRepository cl_V_149 d_V_repositoryAt_1 (Nat.le_of_ble_eq_true rfl) rfl (Nat.le_of_ble_eq_true rfl) ⟨Nat.zero_le _, Nat.zero_le _⟩ (c_V_isRepository _ hD) ?_
  refine g_if_ne (pc := 4) (tgt := 15) C d_V_repositoryAt_4 (by decide) (fun h4 => ?_) (fun h4 => ?_)
  · skip
    refine g_aload_n (pc := 15) (i := 0) C d_V_repositoryAt_15 rfl rfl ?_
    refine gf_V_repositories (pc := 16) C fl_V_20 d_V_repositoryAt_16 ?_
    refine g_iload_n (pc := 19) (i := 1) C d_V_repositoryAt_19 rfl rfl ?_
    refine ga_rps (pc := 20) C (by omega) d_V_repositoryAt_20 ?_
    refine g_aret (pc := 21) C d_V_repositoryAt_21 ?_
    exact ⟨rfl, rfl⟩
  · first | exact absurd h4 (by rw [b1_t (okr_i hq)]; decide) | exact absurd (by rw [b1_t (okr_i hq)]; decide) h4
set_option maxRecDepth 100000 in
set_option maxHeartbeats 4000000 in
theorem t_V_repositoryAt (l : Launch) {D : Dt} (hD : OkD D) {r : Int32} {σ : Sg} (hO : OkT l D) (h : ¬ (0 ≤ r ∧ r < 2)) : Tt l D y_V_repositoryAt b_V_repositoryAt 2 (some (.object "RevisionVault$Repository")) 6 [.int r, .ref (aVlt D)] σ E_IOOBE (fun u => u = σ) := by
  refine Tt.of hD (by decide) (Nat.le_of_ble_eq_true rfl) [(0, some (.ref (aVlt D))), (1, some (.int r))] rfl (fun X hX C hR => ?_)
  subst hX
  refine g_iload_n (pc := 0) (i := 1) C d_V_repositoryAt_0 rfl rfl ?_
  refine g_callS1 (pc := 1) (As := [_]) C my_V_isRepository ms_V_isRepository cl_V_149 d_V_repositoryAt_1 (Nat.le_of_ble_eq_true rfl) rfl (Nat.le_of_ble_eq_true rfl) ⟨Nat.zero_le _, Nat.zero_le _⟩ (c_V_isRepository _ hD) ?_
  refine g_if_ne (pc := 4) (tgt := 15) C d_V_repositoryAt_4 (by decide) (fun h4 => ?_) (fun h4 => ?_)
  · first | exact absurd h4 (b1_f h) | exact absurd (b1_f h) h4
  · skip
    exact g_throw (pc := 7) C hO hR tw_IOOBE (rfl) (by decide) d_V_repositoryAt_7 d_V_repositoryAt_10 d_V_repositoryAt_11 d_V_repositoryAt_14
set_option maxRecDepth 100000 in
set_option maxHeartbeats 4000000 in
theorem c_V_repositoryInTransaction (l : Launch) {D : Dt} (hD : OkD D) {q : Nat} {c : Cs} {τ : Cs × (Nat → Int64)} {R : Rp} (hq : q < 2) (g : RepIs c q R) (hd : ¬ R.dwn = true) (hj : R.jrn.isSome = true) : Ct l D y_V_repositoryInTransaction b_V_repositoryInTransaction 3 (some (.object "RevisionVault$Repository")) 3 [.int (nI q), .ref (aVlt D)] ((c, τ) : Sg) (some (.ref (aRep D q))) ((c, τ) : Sg) := by
  refine Ct.of hD (by decide) (Nat.le_of_ble_eq_true rfl) [(0, some (.ref (aVlt D))), (1, some (.int (nI q)))] rfl (fun X hX C => ?_)
  subst hX
  refine g_aload_n (pc := 0) (i := 0) C d_V_repositoryInTransaction_0 rfl rfl ?_
  refine g_iload_n (pc := 1) (i := 1) C d_V_repositoryInTransaction_1 rfl rfl ?_
  refine g_callV1 (pc := 2) (As := [_]) C my_V_repositoryAt mv_V_repositoryAt cl_V_43 is_V d_V_repositoryInTransaction_2 (Nat.le_of_ble_eq_true rfl) rfl (Nat.le_of_ble_eq_true rfl) ⟨Nat.zero_le _, Nat.zero_le _⟩ (c_V_repositoryAt _ hD (by omega)) ?_
  refine g_astore_n (pc := 5) (i := 2) C d_V_repositoryInTransaction_5 rfl (by decide) rfl ?_
  refine g_aload_n (pc := 6) (i := 2) C d_V_repositoryInTransaction_6 rfl rfl ?_
  refine gf_Rep_down (pc := 7) C (by omega) fl_V_47 d_V_repositoryInTransaction_7 ?_
  rw [g.1.2.2.2.1]
  refine g_if_ne (pc := 10) (tgt := 20) C d_V_repositoryInTransaction_10 (by decide) (fun h10 => ?_) (fun h10 => ?_)
  · first | exact absurd h10 (b1_f hd) | exact absurd (b1_f hd) h10
  · skip
    refine g_aload_n (pc := 13) (i := 2) C d_V_repositoryInTransaction_13 rfl rfl ?_
    refine gf_Rep_journal (pc := 14) C (by omega) fl_V_51 d_V_repositoryInTransaction_14 ?_
    rw [g.1.2.1]
    refine g_if_ne (pc := 17) (tgt := 28) C d_V_repositoryInTransaction_17 (by decide) (fun h17 => ?_) (fun h17 => ?_)
    · skip
      refine g_aload_n (pc := 28) (i := 2) C d_V_repositoryInTransaction_28 rfl rfl ?_
      refine g_aret (pc := 29) C d_V_repositoryInTransaction_29 ?_
      exact ⟨rfl, rfl⟩
    · first | exact absurd h17 (by rw [b1_t hj]; decide) | exact absurd (by rw [b1_t hj]; decide) h17
set_option maxRecDepth 100000 in
set_option maxHeartbeats 4000000 in
theorem t_V_repositoryInTransaction (l : Launch) {D : Dt} (hD : OkD D) {r : Int32} {σ : Sg} (hO : OkT l D) (h : ¬ (0 ≤ r ∧ r < 2)) : Tt l D y_V_repositoryInTransaction b_V_repositoryInTransaction 3 (some (.object "RevisionVault$Repository")) 7 [.int r, .ref (aVlt D)] σ E_IOOBE (fun u => u = σ) := by
  refine Tt.of hD (by decide) (Nat.le_of_ble_eq_true rfl) [(0, some (.ref (aVlt D))), (1, some (.int r))] rfl (fun X hX C hR => ?_)
  subst hX
  refine g_aload_n (pc := 0) (i := 0) C d_V_repositoryInTransaction_0 rfl rfl ?_
  refine g_iload_n (pc := 1) (i := 1) C d_V_repositoryInTransaction_1 rfl rfl ?_
  exact g_callVt (pc := 2) (As := [_]) C hR my_V_repositoryAt mv_V_repositoryAt ml_V_43 is_V d_V_repositoryInTransaction_2 (Nat.le_of_ble_eq_true rfl) rfl (Nat.le_of_ble_eq_true rfl) (t_V_repositoryAt _ hD hO h)
set_option maxRecDepth 100000 in
set_option maxHeartbeats 4000000 in
theorem t2_V_repositoryInTransaction (l : Launch) {D : Dt} (hD : OkD D) {q : Nat} {c : Cs} {τ : Cs × (Nat → Int64)} {R : Rp} (hO : OkT l D) (hq : q < 2) (g : RepIs c q R) (h : R.dwn = true ∨ ¬ R.jrn.isSome = true) : Tt l D y_V_repositoryInTransaction b_V_repositoryInTransaction 3 (some (.object "RevisionVault$Repository")) 7 [.int (nI q), .ref (aVlt D)] ((c, τ) : Sg) E_ISE (fun u => u = ((c, τ) : Sg)) := by
  refine Tt.of hD (by decide) (Nat.le_of_ble_eq_true rfl) [(0, some (.ref (aVlt D))), (1, some (.int (nI q)))] rfl (fun X hX C hR => ?_)
  subst hX
  refine g_aload_n (pc := 0) (i := 0) C d_V_repositoryInTransaction_0 rfl rfl ?_
  refine g_iload_n (pc := 1) (i := 1) C d_V_repositoryInTransaction_1 rfl rfl ?_
  refine g_callV1 (pc := 2) (As := [_]) C my_V_repositoryAt mv_V_repositoryAt cl_V_43 is_V d_V_repositoryInTransaction_2 (Nat.le_of_ble_eq_true rfl) rfl (Nat.le_of_ble_eq_true rfl) ⟨Nat.zero_le _, Nat.zero_le _⟩ (c_V_repositoryAt _ hD (by omega)) ?_
  refine g_astore_n (pc := 5) (i := 2) C d_V_repositoryInTransaction_5 rfl (by decide) rfl ?_
  refine g_aload_n (pc := 6) (i := 2) C d_V_repositoryInTransaction_6 rfl rfl ?_
  refine gf_Rep_down (pc := 7) C (by omega) fl_V_47 d_V_repositoryInTransaction_7 ?_
  rw [g.1.2.2.2.1]
  refine g_if_ne (pc := 10) (tgt := 20) C d_V_repositoryInTransaction_10 (by decide) (fun h10 => ?_) (fun h10 => ?_)
  · skip
    exact g_throw (pc := 20) C hO hR tw_ISE (rfl) (by decide) d_V_repositoryInTransaction_20 d_V_repositoryInTransaction_23 d_V_repositoryInTransaction_24 d_V_repositoryInTransaction_27
  · have hd := b1_0 h10
    refine g_aload_n (pc := 13) (i := 2) C d_V_repositoryInTransaction_13 rfl rfl ?_
    refine gf_Rep_journal (pc := 14) C (by omega) fl_V_51 d_V_repositoryInTransaction_14 ?_
    rw [g.1.2.1]
    refine g_if_ne (pc := 17) (tgt := 28) C d_V_repositoryInTransaction_17 (by decide) (fun h17 => ?_) (fun h17 => ?_)
    · first | exact absurd h17 (b1_f (h.resolve_left hd)) | exact absurd (b1_f (h.resolve_left hd)) h17
    · skip
      exact g_throw (pc := 20) C hO hR tw_ISE (rfl) (by decide) d_V_repositoryInTransaction_20 d_V_repositoryInTransaction_23 d_V_repositoryInTransaction_24 d_V_repositoryInTransaction_27
