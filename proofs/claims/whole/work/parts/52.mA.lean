set_option maxRecDepth 100000 in
set_option maxHeartbeats 4000000 in
theorem c_M_raise (l : Launch) {D : Dt} (hD : OkD D) {c m : Cs} {ow : Nat → Int64} {k : Int32}  : Ct l D y_M_raise b_M_raise 2 (some .int) 1 [.int k, .ref (aMdl D)] ((c, m, ow) : Sg) (some (.int 0)) ((c, wI m 0 0 k, ow) : Sg) := by
  refine Ct.of hD (by decide) (Nat.le_of_ble_eq_true rfl) [(0, some (.ref (aMdl D))), (1, some (.int k))] rfl (fun X hX C => ?_)
  subst hX
  refine g_aload_n (pc := 0) (i := 0) C d_M_raise_0 rfl rfl ?_
  refine g_iload_n (pc := 1) (i := 1) C d_M_raise_1 rfl rfl ?_
  refine gp_M_thrown (pc := 2) C fl_M_69 d_M_raise_2 ?_
  refine g_iconst (pc := 5) C d_M_raise_5 ic_0 ?_
  refine g_iret (pc := 6) C d_M_raise_6 ?_
  exact ⟨rfl, rfl⟩
set_option maxRecDepth 100000 in
set_option maxHeartbeats 4000000 in
theorem c_M_thrown (l : Launch) {D : Dt} (hD : OkD D) {c m : Cs} {ow : Nat → Int64}  : Ct l D y_M_thrown b_M_thrown 1 (some .int) 1 [.ref (aMdl D)] ((c, m, ow) : Sg) (some (.int (m.1 0 0))) ((c, m, ow) : Sg) := by
  refine Ct.of hD (by decide) (Nat.le_of_ble_eq_true rfl) [(0, some (.ref (aMdl D)))] rfl (fun X hX C => ?_)
  subst hX
  refine g_aload_n (pc := 0) (i := 0) C d_M_thrown_0 rfl rfl ?_
  refine gf_M_thrown (pc := 1) C fl_M_69 d_M_thrown_1 ?_
  refine g_iret (pc := 4) C d_M_thrown_4 ?_
  exact ⟨rfl, rfl⟩
theorem isr01 {k : Int32} : (k = 0 ∨ k = 1) ↔ (0 ≤ k ∧ k < 2) := by
  constructor
  · rintro (rfl | rfl) <;> decide
  · intro h
    obtain ⟨q, hq, rfl⟩ := okr_n h
    rcases (show q = 0 ∨ q = 1 by omega) with rfl | rfl
    · exact Or.inl rfl
    · exact Or.inr rfl
set_option maxRecDepth 100000 in
set_option maxHeartbeats 4000000 in
theorem c_M_isRepository (l : Launch) {D : Dt} (hD : OkD D) {k : Int32} {σ : Sg}  : Ct l D y_M_isRepository b_M_isRepository 1 (some .boolean) 1 [.int k] σ (some (.int (b1 (0 ≤ k ∧ k < 2)))) σ := by
  refine Ct.of hD (by decide) (Nat.le_of_ble_eq_true rfl) [(0, some (.int k))] rfl (fun X hX C => ?_)
  subst hX
  refine g_iload_n (pc := 0) (i := 0) C d_M_isRepository_0 rfl rfl ?_
  refine g_if_eq (pc := 1) (tgt := 9) C d_M_isRepository_1 (by decide) (fun h1 => ?_) (fun h1 => ?_)
  · have hx : 0 ≤ k ∧ k < 2 := isr01.mp (Or.inl h1)
    refine g_iconst (pc := 9) C d_M_isRepository_9 ic_1 ?_
    refine g_goto (pc := 10) (tgt := 14) C d_M_isRepository_10 (by decide) ?_
    refine g_zret (pc := 14) C d_M_isRepository_14 (by first | exact Or.inl rfl | exact Or.inr rfl) ?_
    first | exact ⟨by rw [b1_t hx], rfl⟩ | exact ⟨by rw [b1_f hx], rfl⟩
  · skip
    refine g_iload_n (pc := 4) (i := 0) C d_M_isRepository_4 rfl rfl ?_
    refine g_iconst (pc := 5) C d_M_isRepository_5 ic_1 ?_
    refine g_icmp_ne (pc := 6) (tgt := 13) C d_M_isRepository_6 (by decide) (fun h6 => ?_) (fun h6 => ?_)
    · have hx : ¬ (0 ≤ k ∧ k < 2) := fun h => (isr01.mpr h).elim h1 h6
      refine g_iconst (pc := 13) C d_M_isRepository_13 ic_0 ?_
      refine g_zret (pc := 14) C d_M_isRepository_14 (by first | exact Or.inl rfl | exact Or.inr rfl) ?_
      first | exact ⟨by rw [b1_t hx], rfl⟩ | exact ⟨by rw [b1_f hx], rfl⟩
    · have hx : 0 ≤ k ∧ k < 2 := isr01.mp (Or.inr h6)
      refine g_iconst (pc := 9) C d_M_isRepository_9 ic_1 ?_
      refine g_goto (pc := 10) (tgt := 14) C d_M_isRepository_10 (by decide) ?_
      refine g_zret (pc := 14) C d_M_isRepository_14 (by first | exact Or.inl rfl | exact Or.inr rfl) ?_
      first | exact ⟨by rw [b1_t hx], rfl⟩ | exact ⟨by rw [b1_f hx], rfl⟩
set_option maxRecDepth 100000 in
set_option maxHeartbeats 4000000 in
theorem c_M_isRevision (l : Launch) {D : Dt} (hD : OkD D) {c m : Cs} {ow : Nat → Int64} {q : Nat} {k : Int32} {n : Nat} (hq : q < 2) (hn : m.1 4 q = nI n) : Ct l D y_M_isRevision b_M_isRevision 3 (some .boolean) 1 [.int k, .int (nI q), .ref (aMdl D)] ((c, m, ow) : Sg) (some (.int (b1 (0 ≤ k ∧ k < nI n)))) ((c, m, ow) : Sg) := by
  refine Ct.of hD (by decide) (Nat.le_of_ble_eq_true rfl) [(0, some (.ref (aMdl D))), (1, some (.int (nI q))), (2, some (.int k))] rfl (fun X hX C => ?_)
  subst hX
  refine g_iload_n (pc := 0) (i := 2) C d_M_isRevision_0 rfl rfl ?_
  refine g_if_lt (pc := 1) (tgt := 18) C d_M_isRevision_1 (by decide) (fun h1 => ?_) (fun h1 => ?_)
  · have hx : ¬ (0 ≤ k ∧ k < nI n) := fun h => absurd h1 (Int32.not_lt.mpr h.1)
    refine g_iconst (pc := 18) C d_M_isRevision_18 ic_0 ?_
    refine g_zret (pc := 19) C d_M_isRevision_19 (by first | exact Or.inl rfl | exact Or.inr rfl) ?_
    first | exact ⟨by rw [b1_t hx], rfl⟩ | exact ⟨by rw [b1_f hx], rfl⟩
  · skip
    refine g_iload_n (pc := 4) (i := 2) C d_M_isRevision_4 rfl rfl ?_
    refine g_aload_n (pc := 5) (i := 0) C d_M_isRevision_5 rfl rfl ?_
    refine gf_M_count (pc := 6) C fl_M_19 d_M_isRevision_6 ?_
    refine g_iload_n (pc := 9) (i := 1) C d_M_isRevision_9 rfl rfl ?_
    refine ga_mar (pc := 10) C (by decide) (by decide) (vp_in_nI (show q < 2 by omega) (by decide)) d_M_isRevision_10 ?_
    rw [nI_clamp (by omega), hn]
    refine g_icmp_ge (pc := 11) (tgt := 18) C d_M_isRevision_11 (by decide) (fun h11 => ?_) (fun h11 => ?_)
    · have hx : ¬ (0 ≤ k ∧ k < nI n) := fun h => absurd h.2 (Int32.not_lt.mpr h11)
      refine g_iconst (pc := 18) C d_M_isRevision_18 ic_0 ?_
      refine g_zret (pc := 19) C d_M_isRevision_19 (by first | exact Or.inl rfl | exact Or.inr rfl) ?_
      first | exact ⟨by rw [b1_t hx], rfl⟩ | exact ⟨by rw [b1_f hx], rfl⟩
    · have hx : 0 ≤ k ∧ k < nI n := ⟨Int32.not_lt.mp h1, Int32.not_le.mp h11⟩
      refine g_iconst (pc := 14) C d_M_isRevision_14 ic_1 ?_
      refine g_goto (pc := 15) (tgt := 19) C d_M_isRevision_15 (by decide) ?_
      refine g_zret (pc := 19) C d_M_isRevision_19 (by first | exact Or.inl rfl | exact Or.inr rfl) ?_
      first | exact ⟨by rw [b1_t hx], rfl⟩ | exact ⟨by rw [b1_f hx], rfl⟩
set_option maxRecDepth 100000 in
set_option maxHeartbeats 4000000 in
theorem c_M_mixed (l : Launch) {D : Dt} (hD : OkD D) {h : Int64} {b : Int32} {σ : Sg}  : Ct l D y_M_mixed b_M_mixed 3 (some .long) 1 [.int b, .long h] σ (some (.long ((h ^^^ b.toInt64) * 1099511628211))) σ := by
  refine Ct.of hD (by decide) (Nat.le_of_ble_eq_true rfl) [(0, some (.long h)), (2, some (.int b))] rfl (fun X hX C => ?_)
  subst hX
  refine g_lload_n (pc := 0) (i := 0) C d_M_mixed_0 rfl rfl ?_
  refine g_iload_n (pc := 1) (i := 2) C d_M_mixed_1 rfl rfl ?_
  refine g_i2l (pc := 2) C d_M_mixed_2 ?_
  refine g_lxor (pc := 3) C d_M_mixed_3 ?_
  refine g_ldc2 (pc := 4) C kc_M_76 d_M_mixed_4 ?_
  refine g_lmul (pc := 7) C d_M_mixed_7 ?_
  refine g_lret (pc := 8) C d_M_mixed_8 ?_
  exact ⟨rfl, rfl⟩
set_option maxRecDepth 100000 in
set_option maxHeartbeats 4000000 in
theorem c_M_mixedLong (l : Launch) {D : Dt} (hD : OkD D) {h v : Int64} {σ : Sg}  : Ct l D y_M_mixedLong b_M_mixedLong 7 (some .long) 2 [.long v, .long h] σ (some (.long (mixL h v))) σ := by
  refine Ct.of hD (by decide) (Nat.le_of_ble_eq_true rfl) [(0, some (.long h)), (2, some (.long v))] rfl (fun X hX C => ?_)
  subst hX
  have loop : ∀ (k i : Nat) (x : Int64), i + k = 8 → mxg (mxf v) k i x = mixL h v → G X D (Qp X D (fun r2 u => r2 = some (.long (mixL h v)) ∧ u = σ)) (0, 0) σ 7 [(2, some (.long v)), (4, some (.long x)), (6, some (.int (shI i)))] [] := by
    intro k
    induction k with
    | zero =>
      intro i x hi he
      have hi8 : i = 8 := by omega
      subst hi8
      refine g_iload (pc := 7) C d_M_mixedLong_7 rfl ?_
      refine g_if_lt (pc := 9) (tgt := 34) C d_M_mixedLong_9 (by decide) (fun h9 => ?_) (fun h9 => ?_)
      · skip
        refine g_lload (pc := 34) C d_M_mixedLong_34 rfl ?_
        refine g_lret (pc := 36) C d_M_mixedLong_36 ?_
        exact ⟨by rw [← he]; rfl, rfl⟩
      · first | exact absurd h9 (sh_8) | exact absurd (sh_8) h9
    | succ k ih =>
      intro i x hi he
      refine g_iload (pc := 7) C d_M_mixedLong_7 rfl ?_
      refine g_if_lt (pc := 9) (tgt := 34) C d_M_mixedLong_9 (by decide) (fun h9 => ?_) (fun h9 => ?_)
      · first | exact absurd h9 (sh_lt i (by omega)) | exact absurd (sh_lt i (by omega)) h9
      · skip
        refine g_lload (pc := 12) C d_M_mixedLong_12 rfl ?_
        refine g_lload_n (pc := 14) (i := 2) C d_M_mixedLong_14 rfl rfl ?_
        refine g_iload (pc := 15) C d_M_mixedLong_15 rfl ?_
        refine g_lushr (pc := 17) C d_M_mixedLong_17 ?_
        refine g_l2i (pc := 18) C d_M_mixedLong_18 ?_
        refine g_sipush (pc := 19) C d_M_mixedLong_19 sp_255 ?_
        refine g_iand (pc := 22) C d_M_mixedLong_22 ?_
        refine g_callS1 (pc := 23) (As := [_, _]) C my_M_mixed ms_M_mixed cl_M_78 d_M_mixedLong_23 (Nat.le_of_ble_eq_true rfl) rfl (Nat.le_of_ble_eq_true rfl) ⟨Nat.zero_le _, Nat.zero_le _⟩ (c_M_mixed _ hD) ?_
        refine G.eq (st' := [.long (mxf v i x)]) rfl rfl rfl ?_
        refine g_lstore (pc := 26) C d_M_mixedLong_26 (by decide) rfl ?_
        refine g_iinc (pc := 28) C d_M_mixedLong_28 rfl (v := shI (i + 1)) (sh_s i (by omega)) rfl ?_
        refine g_goto (pc := 31) (tgt := 7) C d_M_mixedLong_31 (by decide) ?_
        exact G.lf (ih (i + 1) (mxf v i x) (by omega) ((mxg_s (mxf v) k i x).symm.trans he)) (sb rfl (sb rfl (sb rfl sn)))
  refine g_lload_n (pc := 0) (i := 0) C d_M_mixedLong_0 rfl rfl ?_
  refine g_lstore (pc := 1) C d_M_mixedLong_1 (by decide) rfl ?_
  refine g_bipush (pc := 3) C d_M_mixedLong_3 bp_56 ?_
  refine g_istore (pc := 5) C d_M_mixedLong_5 (by decide) rfl ?_
  exact G.lf (loop 8 0 h (by omega) (mxs_8 h v)) (sb rfl (sb rfl (sb (by rw [sh_0]; rfl) sn)))
