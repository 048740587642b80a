/-! THE REFERENCE: its calls that may raise -/
theorem bj0 {A : Prop} {R : Rp} : (A ∨ ¬ b1 (R.jrn.isSome = true) = 0) ↔ (A ∨ R.jrn.isSome = true) := ⟨fun h => h.imp id b1_1, fun h => h.imp id (fun e => by rw [b1_t e]; decide)⟩
theorem bj1 {A : Prop} {R : Rp} : (A ∨ ¬ b1 (R.jrn.isSome = true) = 1) ↔ (A ∨ ¬ R.jrn.isSome = true) := ⟨fun h => h.imp id (fun e q => e (b1_t q)), fun h => h.imp id (fun e => by rw [b1_f e]; decide)⟩
theorem WfR.jn {R : Rp} (h : WfR R) : ∀ p, R.jrn = some p → p.1 < 2 ^ 31 := fun p hp => by
  have h1 := (h.2.2.2.2.2.1 p.1 p.2 hp).1
  have h2 := h.2.1
  omega
theorem mw0 {m : Cs} {V : Vt} (h : MAbs m V) (k : Int32) : MAbs (wI m 0 0 k) V := h.ms (Mk.wI (Or.inl ⟨rfl, by decide⟩))
theorem ms0 {m : Cs} (k : Int32) : Mk Ms m (wI m 0 0 k) := Mk.wI (Or.inl ⟨rfl, by decide⟩)
theorem some_j {R : Rp} (h : ¬ (R.dwn = true ∨ ¬ R.jrn.isSome = true)) : R.dwn = false ∧ ∃ d n, R.jrn = some (d, n) := by
  refine ⟨by simpa using fun e => h (Or.inl e), ?_⟩
  cases hj : R.jrn with
  | none => exact absurd (Or.inr (by rw [hj]; decide)) h
  | some p => exact ⟨p.1, p.2, rfl⟩
theorem can_ex {R : Rp} {p : Int32} (h : can R p) (h24 : R.rcs.length ≤ 24) : ∃ o, p = eo o ∧ od p = o ∧ ∀ n, o = some n → n < R.rcs.length := by
  obtain ⟨h1, h2⟩ := can_od h h24
  exact ⟨od p, h1.symm, rfl, h2⟩
theorem oi_3 {a : Int} (h : a = -2 ∨ a = -4 ∨ ∃ n : Nat, n ≤ 24 ∧ a = n) : Int32.ofInt a = -4 ↔ a = -4 := by
  rcases h with rfl | rfl | ⟨n, hn, rfl⟩
  · exact ⟨fun e => absurd e (by decide), fun e => by cases e⟩
  · exact ⟨fun _ => rfl, fun _ => by decide⟩
  · refine ⟨fun e => ?_, fun e => by omega⟩
    rw [oi_n] at e
    have h1 := nI_toInt (show n < 2 ^ 31 by omega)
    rw [e] at h1
    have h2 : (-4 : Int32).toInt = -4 := by decide +kernel
    omega
theorem oi_2 {a : Int} (h : a = -2 ∨ a = -4 ∨ ∃ n : Nat, n ≤ 24 ∧ a = n) : Int32.ofInt a = -2 ↔ a = -2 := by
  rcases h with rfl | rfl | ⟨n, hn, rfl⟩
  · exact ⟨fun _ => rfl, fun _ => by decide⟩
  · exact ⟨fun e => absurd e (by decide), fun e => by cases e⟩
  · refine ⟨fun e => ?_, fun e => by omega⟩
    rw [oi_n] at e
    have h1 := nI_toInt (show n < 2 ^ 31 by omega)
    rw [e] at h1
    have h2 : (-2 : Int32).toInt = -2 := by decide +kernel
    omega
theorem stor_w {R : Rp} {p q : Option Nat} {t : List Nat} (h : WfR R) (hd : R.dwn = false) (hp : ∀ n, p = some n → n < R.rcs.length) (hq : ∀ n, q = some n → n < R.rcs.length) (ht : By t) (hl : t.length ≤ 60) : (stor R p q t).1 = -2 ∨ (stor R p q t).1 = -4 ∨ ∃ k : Nat, k ≤ 24 ∧ (stor R p q t).1 = k := (stor_all h hd hp hq ht hl).2.2.elim Or.inl (fun q => Or.inr (q.elim Or.inl (fun q => Or.inr q.2)))
theorem n24 : ¬ (-2 : Int) = -4 := by decide
set_option maxRecDepth 100000 in
set_option maxHeartbeats 4000000 in
theorem x_M_begin (l : Launch) {D : Dt} (hD : OkD D) {c m : Cs} {ow : Nat → Int64} {r : Int32} {V : Vt} (h : MAbs m V) (hW : WfV V) : Cp l D y_M_begin b_M_begin 2 (some .int) 4 [.int r, .ref (aMdl D)] ((c, m, ow) : Sg) (fun a u => ∃ m2, u = ((c, m2, ow) : Sg) ∧ MAbs m2 (oBegin V r).2 ∧ ((∃ z, (oBegin V r).1 = .inl z ∧ a = some (.int z) ∧ m2.1 0 0 = 0) ∨ (∃ e, (oBegin V r).1 = .inr e ∧ a = some (.int 0) ∧ m2.1 0 0 = cdA e))) := by
  refine Cp.of hD (by decide) (Nat.le_of_ble_eq_true rfl) [(0, some (.ref (aMdl D))), (1, some (.int r))] rfl (fun X hX C => ?_)
  subst hX
  refine g_iload_n (pc := 0) (i := 1) C d_M_begin_0 rfl rfl ?_
  refine g_callS1 (pc := 1) (As := [_]) C my_M_isRepository ms_M_isRepository cl_M_159 d_M_begin_1 (Nat.le_of_ble_eq_true rfl) rfl (Nat.le_of_ble_eq_true rfl) ⟨Nat.zero_le _, Nat.zero_le _⟩ (c_M_isRepository _ hD) ?_
  refine g_if_ne (pc := 4) (tgt := 13) C d_M_begin_4 (by decide) (fun h4 => ?_) (fun h4 => ?_)
  · obtain ⟨q, hq, rfl⟩ := okr_n (b1_1 h4)
    have hR := h.rep hq
    have wR := hW.rep hq
    have hf100 := wR.2.2.2.1
    refine g_aload_n (pc := 13) (i := 0) C d_M_begin_13 rfl rfl ?_
    refine g_iload_n (pc := 14) (i := 1) C d_M_begin_14 rfl rfl ?_
    refine g_iconst (pc := 15) C d_M_begin_15 ic_0 ?_
    refine g_callV1 (pc := 16) (As := [_, _]) C my_M_barred mv_M_barred cl_M_165 is_M d_M_begin_16 (Nat.le_of_ble_eq_true rfl) rfl (Nat.le_of_ble_eq_true rfl) ⟨Nat.zero_le _, Nat.zero_le _⟩ (c_M_barred _ hD hq hR wR.jn) ?_
    refine g_if_eq (pc := 19) (tgt := 28) C d_M_begin_19 (by decide) (fun h19 => ?_) (fun h19 => ?_)
    · have hb : ¬ ((V.2 q).dwn = true ∨ (V.2 q).jrn.isSome = true) := fun e => b1_0 h19 (bj0.mpr e)
      have ho : oBegin V (nI q) = (.inl (if (begn (V.2 q)).1 = true then 0 else -2), upR V q (begn (V.2 q)).2) := by unfold oBegin; rw [onR_y hq, if_neg hb]
      have hd : (V.2 q).dwn = false := by simpa using fun e => hb (Or.inl e)
      refine g_aload_n (pc := 28) (i := 0) C d_M_begin_28 rfl rfl ?_
      refine g_iconst (pc := 29) C d_M_begin_29 ic_0 ?_
      refine gp_M_thrown (pc := 30) C fl_M_69 d_M_begin_30 ?_
      refine g_aload_n (pc := 33) (i := 0) C d_M_begin_33 rfl rfl ?_
      refine g_iload_n (pc := 34) (i := 1) C d_M_begin_34 rfl rfl ?_
      refine g_callVp (pc := 35) (As := [_]) C my_M_start mv_M_start cl_M_169 is_M d_M_begin_35 (Nat.le_of_ble_eq_true rfl) rfl (Nat.le_of_ble_eq_true rfl) ⟨Nat.zero_le _, Nat.zero_le _⟩ (x_M_start _ hD hq (hR.ms (ms0 0)) hd hf100) (fun r35 u35 hp35 => ?_)
      obtain ⟨m1, rfl, rfl, g1, s1⟩ := hp35
      have z1 : m1.1 0 0 = 0 := (rq_0 s1).trans rI_s
      have a1 := (mw0 h 0).up hW hq s1.mfR g1
      refine g_if_eq (pc := 38) (tgt := 45) C d_M_begin_38 (by decide) (fun h38 => ?_) (fun h38 => ?_)
      · have hb := b1_0 h38
        rw [if_neg hb] at ho
        refine g_bipush (pc := 45) C d_M_begin_45 bp_m2 ?_
        refine g_iret (pc := 47) C d_M_begin_47 ?_
        rw [ho]
        exact ⟨m1, rfl, a1, Or.inl ⟨_, rfl, rfl, z1⟩⟩
      · have hb := b1_1 h38
        rw [if_pos hb] at ho
        refine g_iconst (pc := 41) C d_M_begin_41 ic_0 ?_
        refine g_goto (pc := 42) (tgt := 47) C d_M_begin_42 (by decide) ?_
        refine g_iret (pc := 47) C d_M_begin_47 ?_
        rw [ho]
        exact ⟨m1, rfl, a1, Or.inl ⟨_, rfl, rfl, z1⟩⟩
    · have hb : (V.2 q).dwn = true ∨ (V.2 q).jrn.isSome = true := bj0.mp (b1_1 h19)
      have ho : oBegin V (nI q) = (.inr 1, V) := by unfold oBegin; rw [onR_y hq, if_pos hb]
      refine g_aload_n (pc := 22) (i := 0) C d_M_begin_22 rfl rfl ?_
      refine g_iconst (pc := 23) C d_M_begin_23 ic_2 ?_
      refine g_callV1 (pc := 24) (As := [_]) C my_M_raise mv_M_raise cl_M_162 is_M d_M_begin_24 (Nat.le_of_ble_eq_true rfl) rfl (Nat.le_of_ble_eq_true rfl) ⟨Nat.zero_le _, Nat.zero_le _⟩ (c_M_raise _ hD) ?_
      refine g_iret (pc := 27) C d_M_begin_27 ?_
      rw [ho]
      exact ⟨_, rfl, mw0 h _, Or.inr ⟨1, rfl, rfl, by rw [rI_s]; decide +kernel⟩⟩
  · have ho : oBegin V r = (.inr 0, V) := by unfold oBegin; rw [onR_n (b1_0 h4)]
    refine g_aload_n (pc := 7) (i := 0) C d_M_begin_7 rfl rfl ?_
    refine g_iconst (pc := 8) C d_M_begin_8 ic_1 ?_
    refine g_callV1 (pc := 9) (As := [_]) C my_M_raise mv_M_raise cl_M_162 is_M d_M_begin_9 (Nat.le_of_ble_eq_true rfl) rfl (Nat.le_of_ble_eq_true rfl) ⟨Nat.zero_le _, Nat.zero_le _⟩ (c_M_raise _ hD) ?_
    refine g_iret (pc := 12) C d_M_begin_12 ?_
    rw [ho]
    exact ⟨_, rfl, mw0 h _, Or.inr ⟨0, rfl, rfl, by rw [rI_s]; decide +kernel⟩⟩
set_option maxRecDepth 100000 in
set_option maxHeartbeats 4000000 in
theorem x_M_commit (l : Launch) {D : Dt} (hD : OkD D) {c m : Cs} {ow : Nat → Int64} {r : Int32} {V : Vt} (h : MAbs m V) (hW : WfV V) : Cp l D y_M_commit b_M_commit 2 (some .int) 4 [.int r, .ref (aMdl D)] ((c, m, ow) : Sg) (fun a u => ∃ m2, u = ((c, m2, ow) : Sg) ∧ MAbs m2 (oCommit V r).2 ∧ ((∃ z, (oCommit V r).1 = .inl z ∧ a = some (.int z) ∧ m2.1 0 0 = 0) ∨ (∃ e, (oCommit V r).1 = .inr e ∧ a = some (.int 0) ∧ m2.1 0 0 = cdA e))) := by
  refine Cp.of hD (by decide) (Nat.le_of_ble_eq_true rfl) [(0, some (.ref (aMdl D))), (1, some (.int r))] rfl (fun X hX C => ?_)
  subst hX
  refine g_iload_n (pc := 0) (i := 1) C d_M_commit_0 rfl rfl ?_
  refine g_callS1 (pc := 1) (As := [_]) C my_M_isRepository ms_M_isRepository cl_M_159 d_M_commit_1 (Nat.le_of_ble_eq_true rfl) rfl (Nat.le_of_ble_eq_true rfl) ⟨Nat.zero_le _, Nat.zero_le _⟩ (c_M_isRepository _ hD) ?_
  refine g_if_ne (pc := 4) (tgt := 13) C d_M_commit_4 (by decide) (fun h4 => ?_) (fun h4 => ?_)
  · obtain ⟨q, hq, rfl⟩ := okr_n (b1_1 h4)
    have hR := h.rep hq
    have wR := hW.rep hq
    have hf100 := wR.2.2.2.1
    refine g_aload_n (pc := 13) (i := 0) C d_M_commit_13 rfl rfl ?_
    refine g_iload_n (pc := 14) (i := 1) C d_M_commit_14 rfl rfl ?_
    refine g_iconst (pc := 15) C d_M_commit_15 ic_1 ?_
    refine g_callV1 (pc := 16) (As := [_, _]) C my_M_barred mv_M_barred cl_M_165 is_M d_M_commit_16 (Nat.le_of_ble_eq_true rfl) rfl (Nat.le_of_ble_eq_true rfl) ⟨Nat.zero_le _, Nat.zero_le _⟩ (c_M_barred _ hD hq hR wR.jn) ?_
    refine g_if_eq (pc := 19) (tgt := 28) C d_M_commit_19 (by decide) (fun h19 => ?_) (fun h19 => ?_)
    · have hb : ¬ ((V.2 q).dwn = true ∨ ¬ (V.2 q).jrn.isSome = true) := fun e => b1_0 h19 (bj1.mpr e)
      have ho : oCommit V (nI q) = (.inl (if (fini (V.2 q)).1 = true then 0 else -2), upR V q (fini (V.2 q)).2) := by unfold oCommit; rw [onR_y hq, if_neg hb]
      have hd : (V.2 q).dwn = false := by simpa using fun e => hb (Or.inl e)
      refine g_aload_n (pc := 28) (i := 0) C d_M_commit_28 rfl rfl ?_
      refine g_iconst (pc := 29) C d_M_commit_29 ic_0 ?_
      refine gp_M_thrown (pc := 30) C fl_M_69 d_M_commit_30 ?_
      refine g_aload_n (pc := 33) (i := 0) C d_M_commit_33 rfl rfl ?_
      refine g_iload_n (pc := 34) (i := 1) C d_M_commit_34 rfl rfl ?_
      refine g_callVp (pc := 35) (As := [_]) C my_M_finish mv_M_finish cl_M_156 is_M d_M_commit_35 (Nat.le_of_ble_eq_true rfl) rfl (Nat.le_of_ble_eq_true rfl) ⟨Nat.zero_le _, Nat.zero_le _⟩ (x_M_finish _ hD hq (hR.ms (ms0 0)) hd hf100) (fun r35 u35 hp35 => ?_)
      obtain ⟨m1, rfl, rfl, g1, s1⟩ := hp35
      have z1 : m1.1 0 0 = 0 := (rq_0 s1).trans rI_s
      have a1 := (mw0 h 0).up hW hq s1.mfR g1
      refine g_if_eq (pc := 38) (tgt := 45) C d_M_commit_38 (by decide) (fun h38 => ?_) (fun h38 => ?_)
      · have hb := b1_0 h38
        rw [if_neg hb] at ho
        refine g_bipush (pc := 45) C d_M_commit_45 bp_m2 ?_
        refine g_iret (pc := 47) C d_M_commit_47 ?_
        rw [ho]
        exact ⟨m1, rfl, a1, Or.inl ⟨_, rfl, rfl, z1⟩⟩
      · have hb := b1_1 h38
        rw [if_pos hb] at ho
        refine g_iconst (pc := 41) C d_M_commit_41 ic_0 ?_
        refine g_goto (pc := 42) (tgt := 47) C d_M_commit_42 (by decide) ?_
        refine g_iret (pc := 47) C d_M_commit_47 ?_
        rw [ho]
        exact ⟨m1, rfl, a1, Or.inl ⟨_, rfl, rfl, z1⟩⟩
    · have hb : (V.2 q).dwn = true ∨ ¬ (V.2 q).jrn.isSome = true := bj1.mp (b1_1 h19)
      have ho : oCommit V (nI q) = (.inr 1, V) := by unfold oCommit; rw [onR_y hq, if_pos hb]
      refine g_aload_n (pc := 22) (i := 0) C d_M_commit_22 rfl rfl ?_
      refine g_iconst (pc := 23) C d_M_commit_23 ic_2 ?_
      refine g_callV1 (pc := 24) (As := [_]) C my_M_raise mv_M_raise cl_M_162 is_M d_M_commit_24 (Nat.le_of_ble_eq_true rfl) rfl (Nat.le_of_ble_eq_true rfl) ⟨Nat.zero_le _, Nat.zero_le _⟩ (c_M_raise _ hD) ?_
      refine g_iret (pc := 27) C d_M_commit_27 ?_
      rw [ho]
      exact ⟨_, rfl, mw0 h _, Or.inr ⟨1, rfl, rfl, by rw [rI_s]; decide +kernel⟩⟩
  · have ho : oCommit V r = (.inr 0, V) := by unfold oCommit; rw [onR_n (b1_0 h4)]
    refine g_aload_n (pc := 7) (i := 0) C d_M_commit_7 rfl rfl ?_
    refine g_iconst (pc := 8) C d_M_commit_8 ic_1 ?_
    refine g_callV1 (pc := 9) (As := [_]) C my_M_raise mv_M_raise cl_M_162 is_M d_M_commit_9 (Nat.le_of_ble_eq_true rfl) rfl (Nat.le_of_ble_eq_true rfl) ⟨Nat.zero_le _, Nat.zero_le _⟩ (c_M_raise _ hD) ?_
    refine g_iret (pc := 12) C d_M_commit_12 ?_
    rw [ho]
    exact ⟨_, rfl, mw0 h _, Or.inr ⟨0, rfl, rfl, by rw [rI_s]; decide +kernel⟩⟩
set_option maxRecDepth 100000 in
set_option maxHeartbeats 4000000 in
theorem x_M_abort (l : Launch) {D : Dt} (hD : OkD D) {c m : Cs} {ow : Nat → Int64} {r : Int32} {V : Vt} (h : MAbs m V) (hW : WfV V) : Cp l D y_M_abort b_M_abort 2 (some .int) 4 [.int r, .ref (aMdl D)] ((c, m, ow) : Sg) (fun a u => ∃ m2, u = ((c, m2, ow) : Sg) ∧ MAbs m2 (oAbort V r).2 ∧ ((∃ z, (oAbort V r).1 = .inl z ∧ a = some (.int z) ∧ m2.1 0 0 = 0) ∨ (∃ e, (oAbort V r).1 = .inr e ∧ a = some (.int 0) ∧ m2.1 0 0 = cdA e))) := by
  refine Cp.of hD (by decide) (Nat.le_of_ble_eq_true rfl) [(0, some (.ref (aMdl D))), (1, some (.int r))] rfl (fun X hX C => ?_)
  subst hX
  refine g_iload_n (pc := 0) (i := 1) C d_M_abort_0 rfl rfl ?_
  refine g_callS1 (pc := 1) (As := [_]) C my_M_isRepository ms_M_isRepository cl_M_159 d_M_abort_1 (Nat.le_of_ble_eq_true rfl) rfl (Nat.le_of_ble_eq_true rfl) ⟨Nat.zero_le _, Nat.zero_le _⟩ (c_M_isRepository _ hD) ?_
  refine g_if_ne (pc := 4) (tgt := 13) C d_M_abort_4 (by decide) (fun h4 => ?_) (fun h4 => ?_)
  · obtain ⟨q, hq, rfl⟩ := okr_n (b1_1 h4)
    have hR := h.rep hq
    have wR := hW.rep hq
    have hf100 := wR.2.2.2.1
    have ho : oAbort V (nI q) = if (V.2 q).dwn = true then (.inr 1, V) else match (V.2 q).jrn with
      | none => (.inr 1, V)
      | some p => (.inl (Int32.ofInt (roll (V.2 q) p.1 p.2).1), upR V q (roll (V.2 q) p.1 p.2).2) := by
      unfold oAbort
      exact onR_y hq
    refine g_aload_n (pc := 13) (i := 0) C d_M_abort_13 rfl rfl ?_
    refine g_iload_n (pc := 14) (i := 1) C d_M_abort_14 rfl rfl ?_
    refine g_iconst (pc := 15) C d_M_abort_15 ic_1 ?_
    refine g_callV1 (pc := 16) (As := [_, _]) C my_M_barred mv_M_barred cl_M_165 is_M d_M_abort_16 (Nat.le_of_ble_eq_true rfl) rfl (Nat.le_of_ble_eq_true rfl) ⟨Nat.zero_le _, Nat.zero_le _⟩ (c_M_barred _ hD hq hR wR.jn) ?_
    refine g_if_eq (pc := 19) (tgt := 28) C d_M_abort_19 (by decide) (fun h19 => ?_) (fun h19 => ?_)
    · have hb : ¬ ((V.2 q).dwn = true ∨ ¬ (V.2 q).jrn.isSome = true) := fun e => b1_0 h19 (bj1.mpr e)
      obtain ⟨hd, d, n, hj⟩ := some_j hb
      rw [if_neg (fun e => hb (Or.inl e)), hj] at ho
      have ho : oAbort V (nI q) = (.inl (Int32.ofInt (roll (V.2 q) d n).1), upR V q (roll (V.2 q) d n).2) := ho
      have hj1 := wR.2.2.2.2.2.1 d n hj
      refine g_aload_n (pc := 28) (i := 0) C d_M_abort_28 rfl rfl ?_
      refine g_iconst (pc := 29) C d_M_abort_29 ic_0 ?_
      refine gp_M_thrown (pc := 30) C fl_M_69 d_M_abort_30 ?_
      refine g_aload_n (pc := 33) (i := 0) C d_M_abort_33 rfl rfl ?_
      refine g_iload_n (pc := 34) (i := 1) C d_M_abort_34 rfl rfl ?_
      refine g_callVp (pc := 35) (As := [_]) C my_M_roll mv_M_roll cl_M_178 is_M d_M_abort_35 (Nat.le_of_ble_eq_true rfl) rfl (Nat.le_of_ble_eq_true rfl) ⟨Nat.zero_le _, Nat.zero_le _⟩ (x_M_roll _ hD hq (hR.ms (ms0 0)) hd hf100 hj hj1.1 hj1.2.1) (fun r35 u35 hp35 => ?_)
      obtain ⟨m1, rfl, rfl, g1, s1⟩ := hp35
      have z1 : m1.1 0 0 = 0 := (rq_0 s1).trans rI_s
      have a1 := (mw0 h 0).up hW hq s1.mfR g1
      refine g_iret (pc := 38) C d_M_abort_38 ?_
      rw [ho]
      exact ⟨m1, rfl, a1, Or.inl ⟨_, rfl, rfl, z1⟩⟩
    · have hb : (V.2 q).dwn = true ∨ ¬ (V.2 q).jrn.isSome = true := bj1.mp (b1_1 h19)
      have ho : oAbort V (nI q) = (.inr 1, V) := by
        rw [ho]
        by_cases hd : (V.2 q).dwn = true
        · rw [if_pos hd]
        · rw [if_neg hd]
          have hj : (V.2 q).jrn = none := by simpa using hb.resolve_left hd
          rw [hj]
      refine g_aload_n (pc := 22) (i := 0) C d_M_abort_22 rfl rfl ?_
      refine g_iconst (pc := 23) C d_M_abort_23 ic_2 ?_
      refine g_callV1 (pc := 24) (As := [_]) C my_M_raise mv_M_raise cl_M_162 is_M d_M_abort_24 (Nat.le_of_ble_eq_true rfl) rfl (Nat.le_of_ble_eq_true rfl) ⟨Nat.zero_le _, Nat.zero_le _⟩ (c_M_raise _ hD) ?_
      refine g_iret (pc := 27) C d_M_abort_27 ?_
      rw [ho]
      exact ⟨_, rfl, mw0 h _, Or.inr ⟨1, rfl, rfl, by rw [rI_s]; decide +kernel⟩⟩
  · have ho : oAbort V r = (.inr 0, V) := by unfold oAbort; rw [onR_n (b1_0 h4)]
    refine g_aload_n (pc := 7) (i := 0) C d_M_abort_7 rfl rfl ?_
    refine g_iconst (pc := 8) C d_M_abort_8 ic_1 ?_
    refine g_callV1 (pc := 9) (As := [_]) C my_M_raise mv_M_raise cl_M_162 is_M d_M_abort_9 (Nat.le_of_ble_eq_true rfl) rfl (Nat.le_of_ble_eq_true rfl) ⟨Nat.zero_le _, Nat.zero_le _⟩ (c_M_raise _ hD) ?_
    refine g_iret (pc := 12) C d_M_abort_12 ?_
    rw [ho]
    exact ⟨_, rfl, mw0 h _, Or.inr ⟨0, rfl, rfl, by rw [rI_s]; decide +kernel⟩⟩
set_option maxRecDepth 100000 in
set_option maxHeartbeats 4000000 in
theorem x_M_recover (l : Launch) {D : Dt} (hD : OkD D) {c m : Cs} {ow : Nat → Int64} {r : Int32} {V : Vt} {n : Int32} (h : MAbs m V) (hW : WfV V) : Cp l D y_M_recover b_M_recover 3 (some .int) 4 [.int n, .int r, .ref (aMdl D)] ((c, m, ow) : Sg) (fun a u => ∃ m2, u = ((c, m2, ow) : Sg) ∧ MAbs m2 (oRecover V r n).2 ∧ ((∃ z, (oRecover V r n).1 = .inl z ∧ a = some (.int z) ∧ m2.1 0 0 = 0) ∨ (∃ e, (oRecover V r n).1 = .inr e ∧ a = some (.int 0) ∧ m2.1 0 0 = cdA e))) := by
  refine Cp.of hD (by decide) (Nat.le_of_ble_eq_true rfl) [(0, some (.ref (aMdl D))), (1, some (.int r)), (2, some (.int n))] rfl (fun X hX C => ?_)
  subst hX
  refine g_iload_n (pc := 0) (i := 1) C d_M_recover_0 rfl rfl ?_
  refine g_callS1 (pc := 1) (As := [_]) C my_M_isRepository ms_M_isRepository cl_M_159 d_M_recover_1 (Nat.le_of_ble_eq_true rfl) rfl (Nat.le_of_ble_eq_true rfl) ⟨Nat.zero_le _, Nat.zero_le _⟩ (c_M_isRepository _ hD) ?_
  refine g_if_eq (pc := 4) (tgt := 16) C d_M_recover_4 (by decide) (fun h4 => ?_) (fun h4 => ?_)
  · have ho : oRecover V r n = (.inr 0, V) := by unfold oRecover; rw [onR_n (b1_0 h4)]
    refine g_aload_n (pc := 16) (i := 0) C d_M_recover_16 rfl rfl ?_
    refine g_iconst (pc := 17) C d_M_recover_17 ic_1 ?_
    refine g_callV1 (pc := 18) (As := [_]) C my_M_raise mv_M_raise cl_M_162 is_M d_M_recover_18 (Nat.le_of_ble_eq_true rfl) rfl (Nat.le_of_ble_eq_true rfl) ⟨Nat.zero_le _, Nat.zero_le _⟩ (c_M_raise _ hD) ?_
    refine g_iret (pc := 21) C d_M_recover_21 ?_
    rw [ho]
    exact ⟨_, rfl, mw0 h _, Or.inr ⟨0, rfl, rfl, by rw [rI_s]; decide +kernel⟩⟩
  · obtain ⟨q, hq, rfl⟩ := okr_n (b1_1 h4)
    have hR := h.rep hq
    have wR := hW.rep hq
    have hf100 := wR.2.2.2.1
    have ho : oRecover V (nI q) n = if 0 ≤ n ∧ n ≤ 3 then (if (V.2 q).dwn = true then (.inl (Int32.ofInt (recov (V.2 q) n.toNatClampNeg).1), upR V q (recov (V.2 q) n.toNatClampNeg).2) else (.inr 1, V)) else (.inr 0, V) := by
      unfold oRecover
      exact onR_y hq
    refine g_iload_n (pc := 7) (i := 2) C d_M_recover_7 rfl rfl ?_
    refine g_if_lt (pc := 8) (tgt := 16) C d_M_recover_8 (by decide) (fun h8 => ?_) (fun h8 => ?_)
    · rw [if_neg (fun e => absurd h8 (Int32.not_lt.mpr e.1))] at ho
      refine g_aload_n (pc := 16) (i := 0) C d_M_recover_16 rfl rfl ?_
      refine g_iconst (pc := 17) C d_M_recover_17 ic_1 ?_
      refine g_callV1 (pc := 18) (As := [_]) C my_M_raise mv_M_raise cl_M_162 is_M d_M_recover_18 (Nat.le_of_ble_eq_true rfl) rfl (Nat.le_of_ble_eq_true rfl) ⟨Nat.zero_le _, Nat.zero_le _⟩ (c_M_raise _ hD) ?_
      refine g_iret (pc := 21) C d_M_recover_21 ?_
      rw [ho]
      exact ⟨_, rfl, mw0 h _, Or.inr ⟨0, rfl, rfl, by rw [rI_s]; decide +kernel⟩⟩
    · skip
      refine g_iload_n (pc := 11) (i := 2) C d_M_recover_11 rfl rfl ?_
      refine g_iconst (pc := 12) C d_M_recover_12 ic_3 ?_
      refine g_icmp_le (pc := 13) (tgt := 22) C d_M_recover_13 (by decide) (fun h13 => ?_) (fun h13 => ?_)
      · obtain ⟨k, hk, rfl⟩ := nI_of2 (M := 3) (n := 3) (by decide +kernel) h8 h13
        rw [if_pos ⟨Int32.not_lt.mp h8, h13⟩, nI_clamp (by omega)] at ho
        refine g_aload_n (pc := 22) (i := 0) C d_M_recover_22 rfl rfl ?_
        refine gf_M_down (pc := 23) C fl_M_50 d_M_recover_23 ?_
        refine g_iload_n (pc := 26) (i := 1) C d_M_recover_26 rfl rfl ?_
        refine ga_dwn (pc := 27) C (vp_in_nI (show q < 2 by omega) (by decide)) d_M_recover_27 ?_
        rw [nI_clamp (show q < 2 ^ 31 by omega), hR.2.2.2.1]
        refine g_if_ne (pc := 28) (tgt := 37) C d_M_recover_28 (by decide) (fun h28 => ?_) (fun h28 => ?_)
        · have hdw := b1_1 h28
          rw [if_pos hdw] at ho
          refine g_aload_n (pc := 37) (i := 0) C d_M_recover_37 rfl rfl ?_
          refine g_iconst (pc := 38) C d_M_recover_38 ic_0 ?_
          refine gp_M_thrown (pc := 39) C fl_M_69 d_M_recover_39 ?_
          refine g_aload_n (pc := 42) (i := 0) C d_M_recover_42 rfl rfl ?_
          refine gf_M_down (pc := 43) C fl_M_50 d_M_recover_43 ?_
          refine g_iload_n (pc := 46) (i := 1) C d_M_recover_46 rfl rfl ?_
          refine g_iconst (pc := 47) C d_M_recover_47 ic_0 ?_
          refine gs_dwn (pc := 48) C (by first | exact Or.inl rfl | exact Or.inr rfl) (vp_in_nI (show q < 2 by omega) (by decide)) d_M_recover_48 ?_
          rw [nI_clamp (show q < 2 ^ 31 by omega)]
          refine g_aload_n (pc := 49) (i := 0) C d_M_recover_49 rfl rfl ?_
          refine gf_M_failing (pc := 50) C fl_M_54 d_M_recover_50 ?_
          refine g_iload_n (pc := 53) (i := 1) C d_M_recover_53 rfl rfl ?_
          refine g_iconst (pc := 54) C d_M_recover_54 icn_0 ?_
          refine gs_mar (pc := 55) C (by decide) (by decide) (vp_in_nI (show q < 2 by omega) (by decide)) d_M_recover_55 ?_
          rw [nI_clamp (show q < 2 ^ 31 by omega)]
          refine g_aload_n (pc := 56) (i := 0) C d_M_recover_56 rfl rfl ?_
          refine gf_M_journalData (pc := 57) C fl_M_44 d_M_recover_57 ?_
          refine g_iload_n (pc := 60) (i := 1) C d_M_recover_60 rfl rfl ?_
          refine ga_mar (pc := 61) C (by decide) (by decide) (vp_in_nI (show q < 2 by omega) (by decide)) d_M_recover_61 ?_
          rw [nI_clamp (show q < 2 ^ 31 by omega), rI_n (Or.inl (by decide)), rI_n (Or.inl (by decide)), rI_n (Or.inl (by decide)), hR.2.2.1.1]
          have hs : Mk (fun a k => (a = 19 ∨ a = 13) ∧ k = q) (wI m 0 0 0) (wI (wI (wI m 0 0 0) 19 q 0) 13 q (nI 0)) := (Mk.wI ⟨Or.inl rfl, rfl⟩).tr (Mk.wI ⟨Or.inr rfl, rfl⟩)
          have hR0 := hR.ms (ms0 0)
          have g0 : MRep (wI (wI (wI m 0 0 0) 19 q 0) 13 q (nI 0)) q ((V.2 q).dat, (V.2 q).rcs, (V.2 q).jrn, false, 0) := by
            refine hR0.fs hs (fun a k e => by omega) ?_ (fun k hk => ⟨hk, rfl⟩) ?_ (fun _ _ e => e) ?_ (fun p hp => ?_) ?_ ?_
            · rw [hs.1 _ _ (by omega)]; exact hR0.1.1
            · rw [hs.1 _ _ (by omega)]; exact hR0.2.1.1
            · rw [hs.1 _ _ (by omega)]; exact hR0.2.2.1.1
            · rw [hs.1 _ _ (by omega)]; exact hR0.2.2.1.2 p hp
            · rw [rI_n (Or.inl (by decide)), rI_s]
              exact (b1_f (fun e => by cases e)).symm
            · rw [rI_s]
              rfl
          have sR : Mk (Rq q) (wI m 0 0 0) (wI (wI (wI m 0 0 0) 19 q 0) 13 q (nI 0)) := hs.up (fun a k e => by unfold Rq; omega)
          refine g_if_ge (pc := 62) (tgt := 67) C d_M_recover_62 (by decide) (fun h62 => ?_) (fun h62 => ?_)
          · obtain ⟨d, e, hj⟩ : ∃ d e, (V.2 q).jrn = some (d, e) := by
              cases hj : (V.2 q).jrn with
              | none => rw [hj] at h62; exact absurd h62 (by decide)
              | some p => exact ⟨p.1, p.2, rfl⟩
            refine g_aload_n (pc := 67) (i := 0) C d_M_recover_67 rfl rfl ?_
            refine gf_M_failing (pc := 68) C fl_M_54 d_M_recover_68 ?_
            refine g_iload_n (pc := 71) (i := 1) C d_M_recover_71 rfl rfl ?_
            refine g_iload_n (pc := 72) (i := 2) C d_M_recover_72 rfl rfl ?_
            refine gs_mar (pc := 73) C (by decide) (by decide) (vp_in_nI (show q < 2 by omega) (by decide)) d_M_recover_73 ?_
            rw [nI_clamp (show q < 2 ^ 31 by omega)]
            refine g_aload_n (pc := 74) (i := 0) C d_M_recover_74 rfl rfl ?_
            refine g_iload_n (pc := 75) (i := 1) C d_M_recover_75 rfl rfl ?_
            have ht : Mk (fun a k => a = 13 ∧ k = q) (wI (wI (wI m 0 0 0) 19 q 0) 13 q (nI 0)) (wI (wI (wI (wI m 0 0 0) 19 q 0) 13 q (nI 0)) 13 q (nI k)) := Mk.wI ⟨rfl, rfl⟩
            have g1 : MRep (wI (wI (wI (wI m 0 0 0) 19 q 0) 13 q (nI 0)) 13 q (nI k)) q ((V.2 q).dat, (V.2 q).rcs, (V.2 q).jrn, false, k) := by
              refine g0.fs ht (fun a k e => by omega) ?_ (fun k hk => ⟨hk, rfl⟩) ?_ (fun _ _ e => e) ?_ (fun p hp => ?_) ?_ ?_
              · rw [ht.1 _ _ (by omega)]; exact g0.1.1
              · rw [ht.1 _ _ (by omega)]; exact g0.2.1.1
              · rw [ht.1 _ _ (by omega)]; exact g0.2.2.1.1
              · rw [ht.1 _ _ (by omega)]; exact g0.2.2.1.2 p hp
              · rw [ht.1 _ _ (by omega)]; exact g0.2.2.2.1
              · rw [rI_s]
                rfl
            have tR : Mk (Rq q) (wI m 0 0 0) (wI (wI (wI (wI m 0 0 0) 19 q 0) 13 q (nI 0)) 13 q (nI k)) := sR.tr (ht.up (fun a k e => by unfold Rq; omega))
            have hj1 := wR.2.2.2.2.2.1 d e hj
            have hr : recov (V.2 q) k = roll ((V.2 q).dat, (V.2 q).rcs, (V.2 q).jrn, false, k) d e := by unfold recov; rw [hj]
            rw [hr] at ho
            refine g_callVp (pc := 76) (As := [_]) C my_M_roll mv_M_roll cl_M_178 is_M d_M_recover_76 (Nat.le_of_ble_eq_true rfl) rfl (Nat.le_of_ble_eq_true rfl) ⟨Nat.zero_le _, Nat.zero_le _⟩ (x_M_roll _ hD hq g1 rfl (show k ≤ 100 by omega) hj hj1.1 hj1.2.1) (fun r76 u76 hp76 => ?_)
            obtain ⟨m2, rfl, rfl, g2, s2⟩ := hp76
            refine g_iret (pc := 79) C d_M_recover_79 ?_
            rw [ho]
            exact ⟨m2, rfl, (mw0 h 0).up hW hq (tR.tr s2).mfR g2, Or.inl ⟨_, rfl, rfl, (rq_0 (tR.tr s2)).trans rI_s⟩⟩
          · have hj : (V.2 q).jrn = none := by
              cases hj : (V.2 q).jrn with
              | none => rfl
              | some p => rw [hj] at h62; exact absurd (nI_pos' (wR.jn p hj)) h62
            refine g_iconst (pc := 65) C d_M_recover_65 ic_0 ?_
            refine g_iret (pc := 66) C d_M_recover_66 ?_
            have hr : recov (V.2 q) k = (0, ((V.2 q).dat, (V.2 q).rcs, none, false, 0)) := by unfold recov; rw [hj]
            rw [hr] at ho
            rw [hj] at g0
            rw [ho]
            exact ⟨_, rfl, (mw0 h 0).up hW hq sR.mfR g0, Or.inl ⟨_, rfl, rfl, (rq_0 sR).trans rI_s⟩⟩
        · rw [if_neg (b1_0 h28)] at ho
          refine g_aload_n (pc := 31) (i := 0) C d_M_recover_31 rfl rfl ?_
          refine g_iconst (pc := 32) C d_M_recover_32 ic_2 ?_
          refine g_callV1 (pc := 33) (As := [_]) C my_M_raise mv_M_raise cl_M_162 is_M d_M_recover_33 (Nat.le_of_ble_eq_true rfl) rfl (Nat.le_of_ble_eq_true rfl) ⟨Nat.zero_le _, Nat.zero_le _⟩ (c_M_raise _ hD) ?_
          refine g_iret (pc := 36) C d_M_recover_36 ?_
          rw [ho]
          exact ⟨_, rfl, mw0 h _, Or.inr ⟨1, rfl, rfl, by rw [rI_s]; decide +kernel⟩⟩
      · rw [if_neg (fun e => h13 e.2)] at ho
        refine g_aload_n (pc := 16) (i := 0) C d_M_recover_16 rfl rfl ?_
        refine g_iconst (pc := 17) C d_M_recover_17 ic_1 ?_
        refine g_callV1 (pc := 18) (As := [_]) C my_M_raise mv_M_raise cl_M_162 is_M d_M_recover_18 (Nat.le_of_ble_eq_true rfl) rfl (Nat.le_of_ble_eq_true rfl) ⟨Nat.zero_le _, Nat.zero_le _⟩ (c_M_raise _ hD) ?_
        refine g_iret (pc := 21) C d_M_recover_21 ?_
        rw [ho]
        exact ⟨_, rfl, mw0 h _, Or.inr ⟨0, rfl, rfl, by rw [rI_s]; decide +kernel⟩⟩
set_option maxRecDepth 100000 in
set_option maxHeartbeats 4000000 in
theorem x_M_text (l : Launch) {D : Dt} (hD : OkD D) {c m : Cs} {ow : Nat → Int64} {r : Int32} {V : Vt} {n k : Int32} (h : MAbs m V) (hW : WfV V) : Cp l D y_M_text b_M_text 4 (some .int) 5 [.int k, .int n, .int r, .ref (aMdl D)] ((c, m, ow) : Sg) (fun a u => ∃ m2, u = ((c, m2, ow) : Sg) ∧ MAbs m2 (oText V r n k).2 ∧ ((∃ z, (oText V r n k).1 = .inl z ∧ a = some (.int z) ∧ m2.1 0 0 = 0) ∨ (∃ e, (oText V r n k).1 = .inr e ∧ a = some (.int 0) ∧ m2.1 0 0 = cdP e))) := by
  refine Cp.of hD (by decide) (Nat.le_of_ble_eq_true rfl) [(0, some (.ref (aMdl D))), (1, some (.int r)), (2, some (.int n)), (3, some (.int k))] rfl (fun X hX C => ?_)
  subst hX
  refine g_iload_n (pc := 0) (i := 1) C d_M_text_0 rfl rfl ?_
  refine g_callS1 (pc := 1) (As := [_]) C my_M_isRepository ms_M_isRepository cl_M_159 d_M_text_1 (Nat.le_of_ble_eq_true rfl) rfl (Nat.le_of_ble_eq_true rfl) ⟨Nat.zero_le _, Nat.zero_le _⟩ (c_M_isRepository _ hD) ?_
  refine g_if_eq (pc := 4) (tgt := 16) C d_M_text_4 (by decide) (fun h4 => ?_) (fun h4 => ?_)
  · have ho : oText V r n k = (.inr 0, V) := by unfold oText; rw [onR_n (b1_0 h4)]
    refine g_aload_n (pc := 16) (i := 0) C d_M_text_16 rfl rfl ?_
    refine g_iconst (pc := 17) C d_M_text_17 ic_1 ?_
    refine g_callV1 (pc := 18) (As := [_]) C my_M_raise mv_M_raise cl_M_162 is_M d_M_text_18 (Nat.le_of_ble_eq_true rfl) rfl (Nat.le_of_ble_eq_true rfl) ⟨Nat.zero_le _, Nat.zero_le _⟩ (c_M_raise _ hD) ?_
    refine g_iret (pc := 21) C d_M_text_21 ?_
    rw [ho]
    exact ⟨_, rfl, mw0 h _, Or.inr ⟨0, rfl, rfl, by rw [rI_s]; decide +kernel⟩⟩
  · obtain ⟨q, hq, rfl⟩ := okr_n (b1_1 h4)
    have hR := h.rep hq
    have wR := hW.rep hq
    have hf100 := wR.2.2.2.1
    have ho : oText V (nI q) n k = if 0 ≤ n ∧ n < nI (V.2 q).rcs.length then (if (V.2 q).dwn = true then (.inr 1, V) else match built (V.2 q).dat (V.2 q).rcs n.toNatClampNeg with
      | none => (.inr 3, V)
      | some t => (.inl (atV t k), V)) else (.inr 0, V) := by
      unfold oText
      exact onR_y hq
    have h24 := wR.2.2.1
    refine g_aload_n (pc := 7) (i := 0) C d_M_text_7 rfl rfl ?_
    refine g_iload_n (pc := 8) (i := 1) C d_M_text_8 rfl rfl ?_
    refine g_iload_n (pc := 9) (i := 2) C d_M_text_9 rfl rfl ?_
    refine g_callV1 (pc := 10) (As := [_, _]) C my_M_isRevision mv_M_isRevision cl_M_172 is_M d_M_text_10 (Nat.le_of_ble_eq_true rfl) rfl (Nat.le_of_ble_eq_true rfl) ⟨Nat.zero_le _, Nat.zero_le _⟩ (c_M_isRevision _ hD hq hR.2.1.1) ?_
    refine g_if_ne (pc := 13) (tgt := 22) C d_M_text_13 (by decide) (fun h13 => ?_) (fun h13 => ?_)
    · have hn := b1_1 h13
      rw [if_pos hn] at ho
      obtain ⟨i, hi, rfl⟩ := nI_at hn (by omega)
      rw [nI_clamp (by omega)] at ho
      refine g_aload_n (pc := 22) (i := 0) C d_M_text_22 rfl rfl ?_
      refine gf_M_down (pc := 23) C fl_M_50 d_M_text_23 ?_
      refine g_iload_n (pc := 26) (i := 1) C d_M_text_26 rfl rfl ?_
      refine ga_dwn (pc := 27) C (vp_in_nI (show q < 2 by omega) (by decide)) d_M_text_27 ?_
      rw [nI_clamp (show q < 2 ^ 31 by omega), hR.2.2.2.1]
      refine g_if_eq (pc := 28) (tgt := 37) C d_M_text_28 (by decide) (fun h28 => ?_) (fun h28 => ?_)
      · have hd : (V.2 q).dwn = false := by simpa using b1_0 h28
        rw [if_neg (b1_0 h28)] at ho
        refine g_aload_n (pc := 37) (i := 0) C d_M_text_37 rfl rfl ?_
        refine g_iload_n (pc := 38) (i := 1) C d_M_text_38 rfl rfl ?_
        refine g_iload_n (pc := 39) (i := 2) C d_M_text_39 rfl rfl ?_
        refine g_callVp (pc := 40) (As := [_, _]) C my_M_build mv_M_build cl_M_124 is_M d_M_text_40 (Nat.le_of_ble_eq_true rfl) rfl (Nat.le_of_ble_eq_true rfl) ⟨Nat.zero_le _, Nat.zero_le _⟩ (x_M_build _ hD hq hR wR.1 wR.2.1 h24 (wR.2.2.2.2.2.2 (Or.inr hd)) hi) (fun r40 u40 hp40 => ?_)
        obtain ⟨m1, rfl, s1, hp1⟩ := hp40
        have a1 := h.ms (s1.up pb_ms)
        rcases hp1 with ⟨t, e1, rfl, hB⟩ | ⟨e1, rfl⟩
        rotate_left
        · rw [e1] at ho
          have ho : oText V (nI q) (nI i) k = (.inr 3, V) := ho
          refine g_if_ne (pc := 43) (tgt := 52) C d_M_text_43 (by decide) (fun h43 => ?_) (fun h43 => ?_)
          · exact absurd rfl h43
          · refine g_aload_n (pc := 46) (i := 0) C d_M_text_46 rfl rfl ?_
            refine g_iconst (pc := 47) C d_M_text_47 ic_3 ?_
            refine g_callV1 (pc := 48) (As := [_]) C my_M_raise mv_M_raise cl_M_162 is_M d_M_text_48 (Nat.le_of_ble_eq_true rfl) rfl (Nat.le_of_ble_eq_true rfl) ⟨Nat.zero_le _, Nat.zero_le _⟩ (c_M_raise _ hD) ?_
            refine g_iret (pc := 51) C d_M_text_51 ?_
            rw [ho]
            exact ⟨_, rfl, mw0 a1 _, Or.inr ⟨3, rfl, rfl, by rw [rI_s]; decide +kernel⟩⟩
        rw [e1] at ho
        have ho : oText V (nI q) (nI i) k = (.inl (atV t k), V) := ho
        have t60 := (by_built wR.1 e1).2
        refine g_if_ne (pc := 43) (tgt := 52) C d_M_text_43 (by decide) (fun h43 => ?_) (fun h43 => ?_)
        · skip
          refine g_aload_n (pc := 52) (i := 0) C d_M_text_52 rfl rfl ?_
          refine g_iconst (pc := 53) C d_M_text_53 ic_0 ?_
          refine gp_M_thrown (pc := 54) C fl_M_69 d_M_text_54 ?_
          refine g_iload_n (pc := 57) (i := 3) C d_M_text_57 rfl rfl ?_
          refine g_if_lt (pc := 58) (tgt := 78) C d_M_text_58 (by decide) (fun h58 => ?_) (fun h58 => ?_)
          · have hx : ¬ (0 ≤ k ∧ k < nI t.length) := fun e => absurd h58 (Int32.not_lt.mpr e.1)
            refine g_iconst (pc := 78) C d_M_text_78 ic_0 ?_
            refine g_iret (pc := 79) C d_M_text_79 ?_
            rw [ho]
            refine ⟨_, rfl, mw0 a1 _, Or.inl ⟨_, rfl, ?_, rI_s⟩⟩
            unfold atV
            first
              | rw [if_neg hx]
              | rw [if_pos hx, nI_clamp (by omega)]
          · skip
            refine g_iload_n (pc := 61) (i := 3) C d_M_text_61 rfl rfl ?_
            refine g_aload_n (pc := 62) (i := 0) C d_M_text_62 rfl rfl ?_
            refine gf_M_builtLen (pc := 63) C fl_M_92 d_M_text_63 ?_
            rw [rI_n (Or.inr (by decide)), hB.1]
            refine g_icmp_ge (pc := 66) (tgt := 78) C d_M_text_66 (by decide) (fun h66 => ?_) (fun h66 => ?_)
            · have hx : ¬ (0 ≤ k ∧ k < nI t.length) := fun e => absurd e.2 (Int32.not_lt.mpr h66)
              refine g_iconst (pc := 78) C d_M_text_78 ic_0 ?_
              refine g_iret (pc := 79) C d_M_text_79 ?_
              rw [ho]
              refine ⟨_, rfl, mw0 a1 _, Or.inl ⟨_, rfl, ?_, rI_s⟩⟩
              unfold atV
              first
                | rw [if_neg hx]
                | rw [if_pos hx, nI_clamp (by omega)]
            · have hx : 0 ≤ k ∧ k < nI t.length := ⟨Int32.not_lt.mp h58, Int32.not_le.mp h66⟩
              obtain ⟨y, hy, rfl⟩ := nI_at hx (by omega)
              refine g_aload_n (pc := 69) (i := 0) C d_M_text_69 rfl rfl ?_
              refine gf_M_built (pc := 70) C fl_M_57 d_M_text_70 ?_
              refine g_iload_n (pc := 73) (i := 3) C d_M_text_73 rfl rfl ?_
              refine ga_mar (pc := 74) C (by decide) (by decide) (vp_in_nI (show y < 60 by omega) (by decide)) d_M_text_74 ?_
              rw [nI_clamp (show y < 2 ^ 31 by omega), rI_n (Or.inl (by decide)), hB.2 y hy]
              refine g_goto (pc := 75) (tgt := 79) C d_M_text_75 (by decide) ?_
              refine g_iret (pc := 79) C d_M_text_79 ?_
              rw [ho]
              refine ⟨_, rfl, mw0 a1 _, Or.inl ⟨_, rfl, ?_, rI_s⟩⟩
              unfold atV
              first
                | rw [if_neg hx]
                | rw [if_pos hx, nI_clamp (by omega)]
        · first | exact absurd h43 (by decide) | exact absurd (by decide) h43
      · rw [if_pos (b1_1 h28)] at ho
        refine g_aload_n (pc := 31) (i := 0) C d_M_text_31 rfl rfl ?_
        refine g_iconst (pc := 32) C d_M_text_32 ic_2 ?_
        refine g_callV1 (pc := 33) (As := [_]) C my_M_raise mv_M_raise cl_M_162 is_M d_M_text_33 (Nat.le_of_ble_eq_true rfl) rfl (Nat.le_of_ble_eq_true rfl) ⟨Nat.zero_le _, Nat.zero_le _⟩ (c_M_raise _ hD) ?_
        refine g_iret (pc := 36) C d_M_text_36 ?_
        rw [ho]
        exact ⟨_, rfl, mw0 h _, Or.inr ⟨1, rfl, rfl, by rw [rI_s]; decide +kernel⟩⟩
    · rw [if_neg (b1_0 h13)] at ho
      refine g_aload_n (pc := 16) (i := 0) C d_M_text_16 rfl rfl ?_
      refine g_iconst (pc := 17) C d_M_text_17 ic_1 ?_
      refine g_callV1 (pc := 18) (As := [_]) C my_M_raise mv_M_raise cl_M_162 is_M d_M_text_18 (Nat.le_of_ble_eq_true rfl) rfl (Nat.le_of_ble_eq_true rfl) ⟨Nat.zero_le _, Nat.zero_le _⟩ (c_M_raise _ hD) ?_
      refine g_iret (pc := 21) C d_M_text_21 ?_
      rw [ho]
      exact ⟨_, rfl, mw0 h _, Or.inr ⟨0, rfl, rfl, by rw [rI_s]; decide +kernel⟩⟩
set_option maxRecDepth 100000 in
set_option maxHeartbeats 4000000 in
theorem x_M_append (l : Launch) {D : Dt} (hD : OkD D) {c m : Cs} {ow : Nat → Int64} {r : Int32} {V : Vt} {a b : Int32} (h : MAbs m V) (hW : WfV V) : Cp l D y_M_append b_M_append 5 (some .int) 7 [.int b, .int a, .int r, .ref (aMdl D)] ((c, m, ow) : Sg) (fun a0 u => ∃ m2, u = ((c, m2, ow) : Sg) ∧ MAbs m2 (oAppend V r a b).2 ∧ ((∃ z, (oAppend V r a b).1 = .inl z ∧ a0 = some (.int z) ∧ m2.1 0 0 = 0) ∨ (∃ e, (oAppend V r a b).1 = .inr e ∧ a0 = some (.int 0) ∧ m2.1 0 0 = cdA e))) := by
  refine Cp.of hD (by decide) (Nat.le_of_ble_eq_true rfl) [(0, some (.ref (aMdl D))), (1, some (.int r)), (2, some (.int a)), (3, some (.int b))] rfl (fun X hX C => ?_)
  subst hX
  have t62 : ∀ (q : Nat) (p1 p2 : Option Nat), q < 2 → (V.2 q).dwn = false → (∀ n, p1 = some n → n < (V.2 q).rcs.length) → (∀ n, p2 = some n → n < (V.2 q).rcs.length) → oAppend V (nI q) (eo p1) (eo p2) = (if (stor (V.2 q) p1 p2 V.1).1 = -4 then (.inr 3, upR V q (stor (V.2 q) p1 p2 V.1).2) else (.inl (Int32.ofInt (stor (V.2 q) p1 p2 V.1).1), upR V q (stor (V.2 q) p1 p2 V.1).2)) → G X D (Qp X D (fun a0 u => ∃ m2, u = ((c, m2, ow) : Sg) ∧ MAbs m2 (oAppend V (nI q) (eo p1) (eo p2)).2 ∧ ((∃ z, (oAppend V (nI q) (eo p1) (eo p2)).1 = .inl z ∧ a0 = some (.int z) ∧ m2.1 0 0 = 0) ∨ (∃ e, (oAppend V (nI q) (eo p1) (eo p2)).1 = .inr e ∧ a0 = some (.int 0) ∧ m2.1 0 0 = cdA e)))) (0, 0) ((c, m, ow) : Sg) 62 [(0, some (.ref (aMdl D))), (1, some (.int (nI q))), (2, some (.int (eo p1))), (3, some (.int (eo p2)))] [] := by
    intro q p1 p2 hq hd l1 l2 ho
    have hR := h.rep hq
    have wR := hW.rep hq
    have v60 := hW.2.1
    have hv := stor_w wR hd l1 l2 hW.1 hW.2.1
    have ms1 : ∀ {m1 : Cs}, Mk (fun a k => (a = 0 ∧ k = 3) ∨ a = 17) m m1 → Mk Ms m m1 := fun s => s.up (fun a k e => by unfold Ms; omega)
    have loop : ∀ (j k : Nat) (m1 : Cs), k + j = V.1.length → Mk (fun a k => (a = 0 ∧ k = 3) ∨ a = 17) m m1 → m1.1 0 3 = nI V.1.length → (∀ i, i < k → m1.1 17 i = (fun i => nI (V.1.getD i 0)) i) → G X D (Qp X D (fun a0 u => ∃ m2, u = ((c, m2, ow) : Sg) ∧ MAbs m2 (oAppend V (nI q) (eo p1) (eo p2)).2 ∧ ((∃ z, (oAppend V (nI q) (eo p1) (eo p2)).1 = .inl z ∧ a0 = some (.int z) ∧ m2.1 0 0 = 0) ∨ (∃ e, (oAppend V (nI q) (eo p1) (eo p2)).1 = .inr e ∧ a0 = some (.int 0) ∧ m2.1 0 0 = cdA e)))) (0, 0) ((c, m1, ow) : Sg) 73 [(0, some (.ref (aMdl D))), (1, some (.int (nI q))), (2, some (.int (eo p1))), (3, some (.int (eo p2))), (4, some (.int (nI k)))] [] := by
      intro j
      induction j with
      | zero =>
        intro k m1 hk s e0 g
        have a1 := h.ms (ms1 s)
        refine g_iload (pc := 73) C d_M_append_73 rfl ?_
        refine g_aload_n (pc := 75) (i := 0) C d_M_append_75 rfl rfl ?_
        refine gf_M_size (pc := 76) C fl_M_73 d_M_append_76 ?_
        rw [a1.1.1]
        refine g_icmp_ge (pc := 79) (tgt := 102) C d_M_append_79 (by decide) (fun h79 => ?_) (fun h79 => ?_)
        · skip
          refine g_aload_n (pc := 102) (i := 0) C d_M_append_102 rfl rfl ?_
          refine g_iload_n (pc := 103) (i := 1) C d_M_append_103 rfl rfl ?_
          refine g_iload_n (pc := 104) (i := 2) C d_M_append_104 rfl rfl ?_
          refine g_iload_n (pc := 105) (i := 3) C d_M_append_105 rfl rfl ?_
          refine g_callVp (pc := 106) (As := [_, _, _]) C my_M_add mv_M_add cl_M_175 is_M d_M_append_106 (Nat.le_of_ble_eq_true rfl) rfl (Nat.le_of_ble_eq_true rfl) ⟨Nat.zero_le _, Nat.zero_le _⟩ (x_M_add _ hD hq (a1.rep hq) wR hd l1 l2 ⟨e0, fun i hi => g i (by omega)⟩ v60 hW.1) (fun r106 u106 hp106 => ?_)
          obtain ⟨m2, rfl, rfl, g2, s2, z2⟩ := hp106
          have a2 := a1.up hW hq s2 g2
          refine g_istore (pc := 109) C d_M_append_109 (by decide) rfl ?_
          refine g_aload_n (pc := 111) (i := 0) C d_M_append_111 rfl rfl ?_
          refine g_iload (pc := 112) C d_M_append_112 rfl ?_
          refine g_bipush (pc := 114) C d_M_append_114 bp_m4 ?_
          refine g_icmp_ne (pc := 116) (tgt := 123) C d_M_append_116 (by decide) (fun h116 => ?_) (fun h116 => ?_)
          · have h4 : ¬ (stor (V.2 q) p1 p2 V.1).1 = -4 := fun e => h116 ((oi_3 hv).mpr e)
            rw [if_neg h4] at ho
            refine g_iconst (pc := 123) C d_M_append_123 ic_0 ?_
            refine gp_M_thrown (pc := 124) C fl_M_69 d_M_append_124 ?_
            refine g_iload (pc := 127) C d_M_append_127 rfl ?_
            refine g_bipush (pc := 129) C d_M_append_129 bp_m4 ?_
            refine g_icmp_ne (pc := 131) (tgt := 138) C d_M_append_131 (by decide) (fun h131 => ?_) (fun h131 => ?_)
            · skip
              refine g_iload (pc := 138) C d_M_append_138 rfl ?_
              refine g_iret (pc := 140) C d_M_append_140 ?_
              rw [ho]
              exact ⟨_, rfl, mw0 a2 _, Or.inl ⟨_, rfl, rfl, rI_s⟩⟩
            · first | exact absurd h131 (h116) | exact absurd (h116) h131
          · have h4 : (stor (V.2 q) p1 p2 V.1).1 = -4 := (oi_3 hv).mp h116
            rw [if_pos h4] at ho
            refine g_iconst (pc := 119) C d_M_append_119 ic_4 ?_
            refine g_goto (pc := 120) (tgt := 124) C d_M_append_120 (by decide) ?_
            refine gp_M_thrown (pc := 124) C fl_M_69 d_M_append_124 ?_
            refine g_iload (pc := 127) C d_M_append_127 rfl ?_
            refine g_bipush (pc := 129) C d_M_append_129 bp_m4 ?_
            refine g_icmp_ne (pc := 131) (tgt := 138) C d_M_append_131 (by decide) (fun h131 => ?_) (fun h131 => ?_)
            · first | exact absurd h131 (h116) | exact absurd (h116) h131
            · skip
              refine g_iconst (pc := 134) C d_M_append_134 ic_0 ?_
              refine g_goto (pc := 135) (tgt := 140) C d_M_append_135 (by decide) ?_
              refine g_iret (pc := 140) C d_M_append_140 ?_
              rw [ho]
              exact ⟨_, rfl, mw0 a2 _, Or.inr ⟨3, rfl, rfl, by rw [rI_s]; decide +kernel⟩⟩
        · first | exact absurd h79 (nI_le (by omega) (by omega)) | exact absurd (nI_le (by omega) (by omega)) h79
      | succ j ih =>
        intro k m1 hk s e0 g
        have a1 := h.ms (ms1 s)
        refine g_iload (pc := 73) C d_M_append_73 rfl ?_
        refine g_aload_n (pc := 75) (i := 0) C d_M_append_75 rfl rfl ?_
        refine gf_M_size (pc := 76) C fl_M_73 d_M_append_76 ?_
        rw [a1.1.1]
        refine g_icmp_ge (pc := 79) (tgt := 102) C d_M_append_79 (by decide) (fun h79 => ?_) (fun h79 => ?_)
        · first | exact absurd h79 (nI_ge (show k < V.1.length by omega) (by omega)) | exact absurd (nI_ge (show k < V.1.length by omega) (by omega)) h79
        · skip
          refine g_aload_n (pc := 82) (i := 0) C d_M_append_82 rfl rfl ?_
          refine gf_M_text (pc := 83) C fl_M_66 d_M_append_83 ?_
          refine g_iload (pc := 86) C d_M_append_86 rfl ?_
          refine g_aload_n (pc := 88) (i := 0) C d_M_append_88 rfl rfl ?_
          refine gf_M_buf (pc := 89) C fl_M_7 d_M_append_89 ?_
          refine g_iload (pc := 92) C d_M_append_92 rfl ?_
          refine ga_mar (pc := 94) C (by decide) (by decide) (vp_in_nI (show k < 60 by omega) (by decide)) d_M_append_94 ?_
          rw [nI_clamp (show k < 2 ^ 31 by omega), a1.1.2 k (by omega)]
          refine gs_mar (pc := 95) C (by decide) (by decide) (vp_in_nI (show k < 60 by omega) (by decide)) d_M_append_95 ?_
          rw [nI_clamp (show k < 2 ^ 31 by omega)]
          refine g_iinc (pc := 96) C d_M_append_96 rfl (v := nI (k + 1)) (nI_inc k) rfl ?_
          refine g_goto (pc := 99) (tgt := 73) C d_M_append_99 (by decide) ?_
          exact G.lf (ih (k + 1) _ (by omega) (s.tr (Mk.wI (Or.inr rfl))) (by rw [rI_n (Or.inl (by decide))]; exact e0) (st_step g)) (sb rfl (sb rfl (sb rfl (sb rfl (sb rfl sn)))))
    refine g_aload_n (pc := 62) (i := 0) C d_M_append_62 rfl rfl ?_
    refine g_aload_n (pc := 63) (i := 0) C d_M_append_63 rfl rfl ?_
    refine gf_M_size (pc := 64) C fl_M_73 d_M_append_64 ?_
    rw [h.1.1]
    refine gp_M_textLen (pc := 67) C fl_M_106 d_M_append_67 ?_
    refine g_iconst (pc := 70) C d_M_append_70 icn_0 ?_
    refine g_istore (pc := 71) C d_M_append_71 (by decide) rfl ?_
    exact G.lf (loop V.1.length 0 _ (by omega) (Mk.wI (Or.inl ⟨rfl, rfl⟩)) rI_s (fun i hi => by omega)) (sb rfl (sb rfl (sb rfl (sb rfl (sb rfl sn)))))
  refine g_iload_n (pc := 0) (i := 1) C d_M_append_0 rfl rfl ?_
  refine g_callS1 (pc := 1) (As := [_]) C my_M_isRepository ms_M_isRepository cl_M_159 d_M_append_1 (Nat.le_of_ble_eq_true rfl) rfl (Nat.le_of_ble_eq_true rfl) ⟨Nat.zero_le _, Nat.zero_le _⟩ (c_M_isRepository _ hD) ?_
  refine g_if_ne (pc := 4) (tgt := 13) C d_M_append_4 (by decide) (fun h4 => ?_) (fun h4 => ?_)
  · obtain ⟨q, hq, rfl⟩ := okr_n (b1_1 h4)
    have hR := h.rep hq
    have wR := hW.rep hq
    have hf100 := wR.2.2.2.1
    have h24 := wR.2.2.1
    have ho : oAppend V (nI q) a b = if (V.2 q).dwn = true ∨ ¬ (V.2 q).jrn.isSome = true then (.inr 1, V) else if can (V.2 q) a ∧ can (V.2 q) b then (if (stor (V.2 q) (od a) (od b) V.1).1 = -4 then (.inr 3, upR V q (stor (V.2 q) (od a) (od b) V.1).2) else (.inl (Int32.ofInt (stor (V.2 q) (od a) (od b) V.1).1), upR V q (stor (V.2 q) (od a) (od b) V.1).2)) else (.inr 2, V) := by
      unfold oAppend
      exact onR_y hq
    refine g_aload_n (pc := 13) (i := 0) C d_M_append_13 rfl rfl ?_
    refine g_iload_n (pc := 14) (i := 1) C d_M_append_14 rfl rfl ?_
    refine g_iconst (pc := 15) C d_M_append_15 ic_1 ?_
    refine g_callV1 (pc := 16) (As := [_, _]) C my_M_barred mv_M_barred cl_M_165 is_M d_M_append_16 (Nat.le_of_ble_eq_true rfl) rfl (Nat.le_of_ble_eq_true rfl) ⟨Nat.zero_le _, Nat.zero_le _⟩ (c_M_barred _ hD hq hR wR.jn) ?_
    refine g_if_eq (pc := 19) (tgt := 28) C d_M_append_19 (by decide) (fun h19 => ?_) (fun h19 => ?_)
    · have hb : ¬ ((V.2 q).dwn = true ∨ ¬ (V.2 q).jrn.isSome = true) := fun e => b1_0 h19 (bj1.mpr e)
      have hd : (V.2 q).dwn = false := by simpa using fun e => hb (Or.inl e)
      rw [if_neg hb] at ho
      refine g_iload_n (pc := 28) (i := 2) C d_M_append_28 rfl rfl ?_
      refine g_iconst (pc := 29) C d_M_append_29 ic_m1 ?_
      refine g_icmp_eq (pc := 30) (tgt := 42) C d_M_append_30 (by decide) (fun h30 => ?_) (fun h30 => ?_)
      · have c1 : can (V.2 q) a := Or.inl h30
        refine g_iload_n (pc := 42) (i := 3) C d_M_append_42 rfl rfl ?_
        refine g_iconst (pc := 43) C d_M_append_43 ic_m1 ?_
        refine g_icmp_eq (pc := 44) (tgt := 62) C d_M_append_44 (by decide) (fun h44 => ?_) (fun h44 => ?_)
        · have c2 : can (V.2 q) b := Or.inl h44
          rw [if_pos ⟨c1, c2⟩] at ho
          obtain ⟨p1, rfl, o1, l1⟩ := can_ex c1 h24
          obtain ⟨p2, rfl, o2, l2⟩ := can_ex c2 h24
          rw [o1, o2] at ho
          exact G.lf (t62 q p1 p2 hq hd l1 l2 ho) (sb rfl (sb rfl (sb rfl (sb rfl sn))))
        · skip
          refine g_aload_n (pc := 47) (i := 0) C d_M_append_47 rfl rfl ?_
          refine g_iload_n (pc := 48) (i := 1) C d_M_append_48 rfl rfl ?_
          refine g_iload_n (pc := 49) (i := 3) C d_M_append_49 rfl rfl ?_
          refine g_callV1 (pc := 50) (As := [_, _]) C my_M_isRevision mv_M_isRevision cl_M_172 is_M d_M_append_50 (Nat.le_of_ble_eq_true rfl) rfl (Nat.le_of_ble_eq_true rfl) ⟨Nat.zero_le _, Nat.zero_le _⟩ (c_M_isRevision _ hD hq hR.2.1.1) ?_
          refine g_if_ne (pc := 53) (tgt := 62) C d_M_append_53 (by decide) (fun h53 => ?_) (fun h53 => ?_)
          · have c2 : can (V.2 q) b := Or.inr (b1_1 h53)
            rw [if_pos ⟨c1, c2⟩] at ho
            obtain ⟨p1, rfl, o1, l1⟩ := can_ex c1 h24
            obtain ⟨p2, rfl, o2, l2⟩ := can_ex c2 h24
            rw [o1, o2] at ho
            exact G.lf (t62 q p1 p2 hq hd l1 l2 ho) (sb rfl (sb rfl (sb rfl (sb rfl sn))))
          · rw [if_neg (fun e => e.2.elim h44 (b1_0 h53))] at ho
            refine g_aload_n (pc := 56) (i := 0) C d_M_append_56 rfl rfl ?_
            refine g_iconst (pc := 57) C d_M_append_57 ic_3 ?_
            refine g_callV1 (pc := 58) (As := [_]) C my_M_raise mv_M_raise cl_M_162 is_M d_M_append_58 (Nat.le_of_ble_eq_true rfl) rfl (Nat.le_of_ble_eq_true rfl) ⟨Nat.zero_le _, Nat.zero_le _⟩ (c_M_raise _ hD) ?_
            refine g_iret (pc := 61) C d_M_append_61 ?_
            rw [ho]
            exact ⟨_, rfl, mw0 h _, Or.inr ⟨2, rfl, rfl, by rw [rI_s]; decide +kernel⟩⟩
      · skip
        refine g_aload_n (pc := 33) (i := 0) C d_M_append_33 rfl rfl ?_
        refine g_iload_n (pc := 34) (i := 1) C d_M_append_34 rfl rfl ?_
        refine g_iload_n (pc := 35) (i := 2) C d_M_append_35 rfl rfl ?_
        refine g_callV1 (pc := 36) (As := [_, _]) C my_M_isRevision mv_M_isRevision cl_M_172 is_M d_M_append_36 (Nat.le_of_ble_eq_true rfl) rfl (Nat.le_of_ble_eq_true rfl) ⟨Nat.zero_le _, Nat.zero_le _⟩ (c_M_isRevision _ hD hq hR.2.1.1) ?_
        refine g_if_eq (pc := 39) (tgt := 56) C d_M_append_39 (by decide) (fun h39 => ?_) (fun h39 => ?_)
        · rw [if_neg (fun e => e.1.elim h30 (b1_0 h39))] at ho
          refine g_aload_n (pc := 56) (i := 0) C d_M_append_56 rfl rfl ?_
          refine g_iconst (pc := 57) C d_M_append_57 ic_3 ?_
          refine g_callV1 (pc := 58) (As := [_]) C my_M_raise mv_M_raise cl_M_162 is_M d_M_append_58 (Nat.le_of_ble_eq_true rfl) rfl (Nat.le_of_ble_eq_true rfl) ⟨Nat.zero_le _, Nat.zero_le _⟩ (c_M_raise _ hD) ?_
          refine g_iret (pc := 61) C d_M_append_61 ?_
          rw [ho]
          exact ⟨_, rfl, mw0 h _, Or.inr ⟨2, rfl, rfl, by rw [rI_s]; decide +kernel⟩⟩
        · have c1 : can (V.2 q) a := Or.inr (b1_1 h39)
          refine g_iload_n (pc := 42) (i := 3) C d_M_append_42 rfl rfl ?_
          refine g_iconst (pc := 43) C d_M_append_43 ic_m1 ?_
          refine g_icmp_eq (pc := 44) (tgt := 62) C d_M_append_44 (by decide) (fun h44 => ?_) (fun h44 => ?_)
          · have c2 : can (V.2 q) b := Or.inl h44
            rw [if_pos ⟨c1, c2⟩] at ho
            obtain ⟨p1, rfl, o1, l1⟩ := can_ex c1 h24
            obtain ⟨p2, rfl, o2, l2⟩ := can_ex c2 h24
            rw [o1, o2] at ho
            exact G.lf (t62 q p1 p2 hq hd l1 l2 ho) (sb rfl (sb rfl (sb rfl (sb rfl sn))))
          · skip
            refine g_aload_n (pc := 47) (i := 0) C d_M_append_47 rfl rfl ?_
            refine g_iload_n (pc := 48) (i := 1) C d_M_append_48 rfl rfl ?_
            refine g_iload_n (pc := 49) (i := 3) C d_M_append_49 rfl rfl ?_
            refine g_callV1 (pc := 50) (As := [_, _]) C my_M_isRevision mv_M_isRevision cl_M_172 is_M d_M_append_50 (Nat.le_of_ble_eq_true rfl) rfl (Nat.le_of_ble_eq_true rfl) ⟨Nat.zero_le _, Nat.zero_le _⟩ (c_M_isRevision _ hD hq hR.2.1.1) ?_
            refine g_if_ne (pc := 53) (tgt := 62) C d_M_append_53 (by decide) (fun h53 => ?_) (fun h53 => ?_)
            · have c2 : can (V.2 q) b := Or.inr (b1_1 h53)
              rw [if_pos ⟨c1, c2⟩] at ho
              obtain ⟨p1, rfl, o1, l1⟩ := can_ex c1 h24
              obtain ⟨p2, rfl, o2, l2⟩ := can_ex c2 h24
              rw [o1, o2] at ho
              exact G.lf (t62 q p1 p2 hq hd l1 l2 ho) (sb rfl (sb rfl (sb rfl (sb rfl sn))))
            · rw [if_neg (fun e => e.2.elim h44 (b1_0 h53))] at ho
              refine g_aload_n (pc := 56) (i := 0) C d_M_append_56 rfl rfl ?_
              refine g_iconst (pc := 57) C d_M_append_57 ic_3 ?_
              refine g_callV1 (pc := 58) (As := [_]) C my_M_raise mv_M_raise cl_M_162 is_M d_M_append_58 (Nat.le_of_ble_eq_true rfl) rfl (Nat.le_of_ble_eq_true rfl) ⟨Nat.zero_le _, Nat.zero_le _⟩ (c_M_raise _ hD) ?_
              refine g_iret (pc := 61) C d_M_append_61 ?_
              rw [ho]
              exact ⟨_, rfl, mw0 h _, Or.inr ⟨2, rfl, rfl, by rw [rI_s]; decide +kernel⟩⟩
    · have hb : (V.2 q).dwn = true ∨ ¬ (V.2 q).jrn.isSome = true := bj1.mp (b1_1 h19)
      rw [if_pos hb] at ho
      refine g_aload_n (pc := 22) (i := 0) C d_M_append_22 rfl rfl ?_
      refine g_iconst (pc := 23) C d_M_append_23 ic_2 ?_
      refine g_callV1 (pc := 24) (As := [_]) C my_M_raise mv_M_raise cl_M_162 is_M d_M_append_24 (Nat.le_of_ble_eq_true rfl) rfl (Nat.le_of_ble_eq_true rfl) ⟨Nat.zero_le _, Nat.zero_le _⟩ (c_M_raise _ hD) ?_
      refine g_iret (pc := 27) C d_M_append_27 ?_
      rw [ho]
      exact ⟨_, rfl, mw0 h _, Or.inr ⟨1, rfl, rfl, by rw [rI_s]; decide +kernel⟩⟩
  · have ho : oAppend V r a b = (.inr 0, V) := by unfold oAppend; rw [onR_n (b1_0 h4)]
    refine g_aload_n (pc := 7) (i := 0) C d_M_append_7 rfl rfl ?_
    refine g_iconst (pc := 8) C d_M_append_8 ic_1 ?_
    refine g_callV1 (pc := 9) (As := [_]) C my_M_raise mv_M_raise cl_M_162 is_M d_M_append_9 (Nat.le_of_ble_eq_true rfl) rfl (Nat.le_of_ble_eq_true rfl) ⟨Nat.zero_le _, Nat.zero_le _⟩ (c_M_raise _ hD) ?_
    refine g_iret (pc := 12) C d_M_append_12 ?_
    rw [ho]
    exact ⟨_, rfl, mw0 h _, Or.inr ⟨0, rfl, rfl, by rw [rI_s]; decide +kernel⟩⟩
set_option maxRecDepth 100000 in
set_option maxHeartbeats 4000000 in
theorem x_M_pull (l : Launch) {D : Dt} (hD : OkD D) {c m : Cs} {ow : Nat → Int64} {r : Int32} {V : Vt} (h : MAbs m V) (hW : WfV V) : Cp l D y_M_pull b_M_pull 8 (some .int) 8 [.int r, .ref (aMdl D)] ((c, m, ow) : Sg) (fun a u => ∃ m2, u = ((c, m2, ow) : Sg) ∧ MAbs m2 (oPull V r).2 ∧ ((∃ z, (oPull V r).1 = .inl z ∧ a = some (.int z) ∧ m2.1 0 0 = 0) ∨ (∃ e, (oPull V r).1 = .inr e ∧ a = some (.int 0) ∧ m2.1 0 0 = cdP e))) := by
  refine Cp.of hD (by decide) (Nat.le_of_ble_eq_true rfl) [(0, some (.ref (aMdl D))), (1, some (.int r))] rfl (fun X hX C => ?_)
  subst hX
  have loop : ∀ (q : Nat) (hq : q < 2) (hd : (V.2 q).dwn = false) (hj : (V.2 q).jrn = none) (hd2 : (V.2 (1 - q)).dwn = false) (hbt : (begn (V.2 q)).1 = true) (ho : oPull V (nI q) = if (pullV (V.2 q) (V.2 (1 - q))).1 = -4 then (.inr 3, upR V q (pullV (V.2 q) (V.2 (1 - q))).2) else (.inl (Int32.ofInt (pullV (V.2 q) (V.2 (1 - q))).1), upR V q (pullV (V.2 q) (V.2 (1 - q))).2)), ∀ (j n : Nat) (m1 : Cs) (R1 : Rp), n + j = (V.2 (1 - q)).rcs.length → Mf q m m1 → m1.1 0 0 = 0 → MRep m1 q R1 → WfR R1 → R1.dwn = false → Pfx (begn (V.2 q)).2 R1 → plp (V.2 (1 - q)) (V.2 (1 - q)).rcs.length 0 (begn (V.2 q)).2 = plp (V.2 (1 - q)) j n R1 → G X D (Qp X D (fun a u => ∃ m2, u = ((c, m2, ow) : Sg) ∧ MAbs m2 (oPull V (nI q)).2 ∧ ((∃ z, (oPull V (nI q)).1 = .inl z ∧ a = some (.int z) ∧ m2.1 0 0 = 0) ∨ (∃ e, (oPull V (nI q)).1 = .inr e ∧ a = some (.int 0) ∧ m2.1 0 0 = cdP e)))) (0, 0) ((c, m1, ow) : Sg) 83 [(0, some (.ref (aMdl D))), (1, some (.int (nI q))), (2, some (.int (nI (1 - q)))), (3, some (.int (nI (V.2 q).dat.length))), (4, some (.int (nI (V.2 q).rcs.length))), (5, some (.int (nI (V.2 q).fai))), (6, some (.int (nI n)))] [] := by
    intro q hq hd hj hd2 hbt ho j
    have hq2 : 1 - q < 2 := by omega
    have hne : 1 - q ≠ q := by omega
    have wR := hW.rep hq
    have wO := hW.rep hq2
    have wOs := wO.2.2.2.2.2.2 (Or.inr hd2)
    have o24 := wO.2.2.1
    have hbs := begn_all hbt hd
    have gO : ∀ {m1 : Cs}, Mf q m m1 → MRep m1 (1 - q) (V.2 (1 - q)) := fun s => (h.rep hq2).ot s hq hq2 hne wO.2.1 o24
    have upA : ∀ {m1 : Cs} {R1 : Rp}, Mf q m m1 → MRep m1 q R1 → MAbs m1 (upR V q R1) := fun s g => h.up hW hq s g
    have hpj : ∀ {R1 : Rp}, Pfx (begn (V.2 q)).2 R1 → R1.jrn = some ((V.2 q).dat.length, (V.2 q).rcs.length) ∧ (V.2 q).rcs.length ≤ R1.rcs.length ∧ (V.2 q).dat.length ≤ R1.dat.length := fun {R1} hp => by
      obtain ⟨⟨u1, e1⟩, ⟨u2, e2⟩, e3⟩ := hp
      refine ⟨e3.trans hbs.2.2.1, ?_, ?_⟩
      · rw [e2, hbs.2.1, List.length_append]
        omega
      · rw [e1, hbs.1, List.length_append]
        omega
    induction j with
    | zero =>
      intro n m1 R1 hn s z1 g1 w1 d1 hp he
      have he : plp (V.2 (1 - q)) (V.2 (1 - q)).rcs.length 0 (begn (V.2 q)).2 = (0, R1) := he
      have l24 := w1.2.2.1
      obtain ⟨j1, l1, l2⟩ := hpj hp
      refine g_iload (pc := 83) C d_M_pull_83 rfl ?_
      refine g_aload_n (pc := 85) (i := 0) C d_M_pull_85 rfl rfl ?_
      refine gf_M_count (pc := 86) C fl_M_19 d_M_pull_86 ?_
      refine g_iload_n (pc := 89) (i := 2) C d_M_pull_89 rfl rfl ?_
      skip
      refine ga_mar (pc := 90) C (by decide) (by decide) (vp_in_nI (show 1 - q < 2 by omega) (by decide)) d_M_pull_90 ?_
      rw [nI_clamp (show 1 - q < 2 ^ 31 by omega), (gO s).2.1.1]
      refine g_icmp_ge (pc := 91) (tgt := 198) C d_M_pull_91 (by decide) (fun h91 => ?_) (fun h91 => ?_)
      · skip
        refine g_aload_n (pc := 198) (i := 0) C d_M_pull_198 rfl rfl ?_
        refine g_iload_n (pc := 199) (i := 1) C d_M_pull_199 rfl rfl ?_
        refine g_callVp (pc := 200) (As := [_]) C my_M_finish mv_M_finish cl_M_156 is_M d_M_pull_200 (Nat.le_of_ble_eq_true rfl) rfl (Nat.le_of_ble_eq_true rfl) ⟨Nat.zero_le _, Nat.zero_le _⟩ (x_M_finish _ hD hq g1 d1 w1.2.2.2.1) (fun r200 u200 hp200 => ?_)
        obtain ⟨m2, rfl, rfl, g2, s2⟩ := hp200
        refine g_if_eq (pc := 203) (tgt := 218) C d_M_pull_203 (by decide) (fun h203 => ?_) (fun h203 => ?_)
        · have hf := b1_0 h203
          refine g_bipush (pc := 218) C d_M_pull_218 bp_m2 ?_
          refine g_iret (pc := 220) C d_M_pull_220 ?_
          rw [pull_0 hbt he, if_neg hf, if_neg n24] at ho
          rw [ho]
          exact ⟨m2, rfl, upA (s.tr s2.mfR) g2, Or.inl ⟨_, rfl, rfl, (rq_0 s2).trans z1⟩⟩
        · have hf := b1_1 h203
          refine g_aload_n (pc := 206) (i := 0) C d_M_pull_206 rfl rfl ?_
          refine gf_M_count (pc := 207) C fl_M_19 d_M_pull_207 ?_
          refine g_iload_n (pc := 210) (i := 1) C d_M_pull_210 rfl rfl ?_
          refine ga_mar (pc := 211) C (by decide) (by decide) (vp_in_nI (show q < 2 by omega) (by decide)) d_M_pull_211 ?_
          rw [nI_clamp (show q < 2 ^ 31 by omega), g2.2.1.1, fini_r R1]
          refine g_iload (pc := 212) C d_M_pull_212 rfl ?_
          refine g_isub (pc := 214) C d_M_pull_214 ?_
          rw [pk_sub l1]
          refine g_goto (pc := 215) (tgt := 220) C d_M_pull_215 (by decide) ?_
          refine g_iret (pc := 220) C d_M_pull_220 ?_
          rw [pull_0 hbt he, if_pos hf, if_neg (by omega)] at ho
          rw [ho]
          exact ⟨m2, rfl, upA (s.tr s2.mfR) g2, Or.inl ⟨_, rfl, rfl, (rq_0 s2).trans z1⟩⟩
      · first | exact absurd h91 (nI_le (by omega) (by omega)) | exact absurd (nI_le (by omega) (by omega)) h91
    | succ j ih =>
      intro n m1 R1 hn s z1 g1 w1 d1 hp he
      obtain ⟨j1, l1, l2⟩ := hpj hp
      have l24 := w1.2.2.1
      have w1s := w1.2.2.2.2.2.2 (Or.inr d1)
      obtain ⟨x, hxn⟩ : ∃ x, (V.2 (1 - q)).rcs[n]? = some x := ⟨_, List.getElem?_eq_getElem (show n < (V.2 (1 - q)).rcs.length by omega)⟩
      have hwx := wOs n x hxn
      have hnO : n < (V.2 (1 - q)).rcs.length := by omega
      have gO1 := gO s
      have hrec := gO1.2.1.2 n x hxn
      have undo : ∀ (m2 : Cs) (R2 : Rp), plp (V.2 (1 - q)) (V.2 (1 - q)).rcs.length 0 (begn (V.2 q)).2 = (-4, R2) → Mf q m m2 → MRep m2 q R2 → R2.dwn = false → Pfx (begn (V.2 q)).2 R2 → G X D (Qp X D (fun a u => ∃ m2, u = ((c, m2, ow) : Sg) ∧ MAbs m2 (oPull V (nI q)).2 ∧ ((∃ z, (oPull V (nI q)).1 = .inl z ∧ a = some (.int z) ∧ m2.1 0 0 = 0) ∨ (∃ e, (oPull V (nI q)).1 = .inr e ∧ a = some (.int 0) ∧ m2.1 0 0 = cdP e)))) (0, 0) ((c, m2, ow) : Sg) 156 [(0, some (.ref (aMdl D))), (1, some (.int (nI q))), (2, some (.int (nI (1 - q)))), (3, some (.int (nI (V.2 q).dat.length))), (4, some (.int (nI (V.2 q).rcs.length))), (5, some (.int (nI (V.2 q).fai))), (6, some (.int (nI n)))] [] := by
        intro m2 R2 he2 s2 g2 d2 hp2
        rw [pull_4 hbt he2, if_pos rfl] at ho
        obtain ⟨j2, k1, k2⟩ := hpj hp2
        obtain ⟨⟨u1, e1⟩, ⟨u2, e2⟩, e3⟩ := hp2
        have hs : Mk (fun a k => (a = 3 ∨ a = 4 ∨ a = 13 ∨ a = 11) ∧ k = q) m2 (wI (wI (wI (wI m2 3 q (nI (V.2 q).dat.length)) 4 q (nI (V.2 q).rcs.length)) 13 q (nI (V.2 q).fai)) 11 q (-1)) := (((Mk.wI ⟨by decide, rfl⟩).tr (Mk.wI ⟨by decide, rfl⟩)).tr (Mk.wI ⟨by decide, rfl⟩)).tr (Mk.wI ⟨by decide, rfl⟩)
        have g3 : MRep (wI (wI (wI (wI m2 3 q (nI (V.2 q).dat.length)) 4 q (nI (V.2 q).rcs.length)) 13 q (nI (V.2 q).fai)) 11 q (-1)) q (V.2 q) := by
          refine g2.fs hs (fun a k e => by omega) ?_ (fun k hk => ⟨by omega, ?_⟩) ?_ (fun k y hy => ?_) ?_ (fun p hp => ?_) ?_ ?_
          · rw [rI_n (Or.inl (by decide)), rI_n (Or.inl (by decide)), rI_n (Or.inl (by decide)), rI_s]
          · rw [e1, hbs.1, List.getD_eq_getElem?_getD, List.getD_eq_getElem?_getD, List.getElem?_append_left hk]
          · rw [rI_n (Or.inl (by decide)), rI_n (Or.inl (by decide)), rI_s]
          · rw [e2, hbs.2.1, List.getElem?_append_left (List.getElem?_eq_some_iff.mp hy).1]
            exact hy
          · rw [rI_s, hj]
            rfl
          · rw [hj] at hp
            cases hp
          · rw [hs.1 _ _ (by omega), g2.2.2.2.1, d2, hd]
          · rw [rI_n (Or.inl (by decide)), rI_s]
        have sR : Mk (Rq q) m2 (wI (wI (wI (wI m2 3 q (nI (V.2 q).dat.length)) 4 q (nI (V.2 q).rcs.length)) 13 q (nI (V.2 q).fai)) 11 q (-1)) := hs.up (fun a k e => by unfold Rq; omega)
        have a3 := upA (s2.tr sR.mfR) g3
        refine g_aload_n (pc := 156) (i := 0) C d_M_pull_156 rfl rfl ?_
        refine gf_M_dataLen (pc := 157) C fl_M_16 d_M_pull_157 ?_
        refine g_iload_n (pc := 160) (i := 1) C d_M_pull_160 rfl rfl ?_
        refine g_iload_n (pc := 161) (i := 3) C d_M_pull_161 rfl rfl ?_
        refine gs_mar (pc := 162) C (by decide) (by decide) (vp_in_nI (show q < 2 by omega) (by decide)) d_M_pull_162 ?_
        rw [nI_clamp (show q < 2 ^ 31 by omega)]
        refine g_aload_n (pc := 163) (i := 0) C d_M_pull_163 rfl rfl ?_
        refine gf_M_count (pc := 164) C fl_M_19 d_M_pull_164 ?_
        refine g_iload_n (pc := 167) (i := 1) C d_M_pull_167 rfl rfl ?_
        refine g_iload (pc := 168) C d_M_pull_168 rfl ?_
        refine gs_mar (pc := 170) C (by decide) (by decide) (vp_in_nI (show q < 2 by omega) (by decide)) d_M_pull_170 ?_
        rw [nI_clamp (show q < 2 ^ 31 by omega)]
        refine g_aload_n (pc := 171) (i := 0) C d_M_pull_171 rfl rfl ?_
        refine gf_M_failing (pc := 172) C fl_M_54 d_M_pull_172 ?_
        refine g_iload_n (pc := 175) (i := 1) C d_M_pull_175 rfl rfl ?_
        refine g_iload (pc := 176) C d_M_pull_176 rfl ?_
        refine gs_mar (pc := 178) C (by decide) (by decide) (vp_in_nI (show q < 2 by omega) (by decide)) d_M_pull_178 ?_
        rw [nI_clamp (show q < 2 ^ 31 by omega)]
        refine g_aload_n (pc := 179) (i := 0) C d_M_pull_179 rfl rfl ?_
        refine gf_M_journalData (pc := 180) C fl_M_44 d_M_pull_180 ?_
        refine g_iload_n (pc := 183) (i := 1) C d_M_pull_183 rfl rfl ?_
        refine g_iconst (pc := 184) C d_M_pull_184 ic_m1 ?_
        refine gs_mar (pc := 185) C (by decide) (by decide) (vp_in_nI (show q < 2 by omega) (by decide)) d_M_pull_185 ?_
        rw [nI_clamp (show q < 2 ^ 31 by omega)]
        refine g_aload_n (pc := 186) (i := 0) C d_M_pull_186 rfl rfl ?_
        refine g_iconst (pc := 187) C d_M_pull_187 ic_3 ?_
        refine g_callV1 (pc := 188) (As := [_]) C my_M_raise mv_M_raise cl_M_162 is_M d_M_pull_188 (Nat.le_of_ble_eq_true rfl) rfl (Nat.le_of_ble_eq_true rfl) ⟨Nat.zero_le _, Nat.zero_le _⟩ (c_M_raise _ hD) ?_
        refine g_iret (pc := 191) C d_M_pull_191 ?_
        rw [ho]
        exact ⟨_, rfl, mw0 a3 _, Or.inr ⟨3, rfl, rfl, by rw [rI_s]; decide +kernel⟩⟩
      refine g_iload (pc := 83) C d_M_pull_83 rfl ?_
      refine g_aload_n (pc := 85) (i := 0) C d_M_pull_85 rfl rfl ?_
      refine gf_M_count (pc := 86) C fl_M_19 d_M_pull_86 ?_
      refine g_iload_n (pc := 89) (i := 2) C d_M_pull_89 rfl rfl ?_
      skip
      refine ga_mar (pc := 90) C (by decide) (by decide) (vp_in_nI (show 1 - q < 2 by omega) (by decide)) d_M_pull_90 ?_
      rw [nI_clamp (show 1 - q < 2 ^ 31 by omega), gO1.2.1.1]
      refine g_icmp_ge (pc := 91) (tgt := 198) C d_M_pull_91 (by decide) (fun h91 => ?_) (fun h91 => ?_)
      · first | exact absurd h91 (nI_ge hnO (by omega)) | exact absurd (nI_ge hnO (by omega)) h91
      · skip
        refine g_aload_n (pc := 94) (i := 0) C d_M_pull_94 rfl rfl ?_
        refine g_iload_n (pc := 95) (i := 1) C d_M_pull_95 rfl rfl ?_
        refine g_aload_n (pc := 96) (i := 0) C d_M_pull_96 rfl rfl ?_
        refine gf_M_nodes (pc := 97) C fl_M_40 d_M_pull_97 ?_
        refine g_bipush (pc := 100) C d_M_pull_100 bpn_24 ?_
        refine g_iload_n (pc := 102) (i := 2) C d_M_pull_102 rfl rfl ?_
        refine g_imul (pc := 103) C d_M_pull_103 ?_
        refine g_iload (pc := 104) C d_M_pull_104 rfl ?_
        refine g_iadd (pc := 106) C d_M_pull_106 ?_
        simp only [nI_mul, nI_add]
        refine ga_nds (pc := 107) C (vp_in_nI (show 24 * (1 - q) + n < 48 by omega) (by decide)) d_M_pull_107 ?_
        rw [nI_clamp (show 24 * (1 - q) + n < 2 ^ 31 by omega), hrec.2.2.2.2.2.2]
        refine g_callV1 (pc := 108) (As := [_, _]) C my_M_found mv_M_found cl_M_138 is_M d_M_pull_108 (Nat.le_of_ble_eq_true rfl) rfl (Nat.le_of_ble_eq_true rfl) ⟨Nat.zero_le _, Nat.zero_le _⟩ (c_M_found _ hD hq g1.2.1.1 (g1.rx l24)) ?_
        refine g_if_ge (pc := 111) (tgt := 192) C d_M_pull_111 (by decide) (fun h111 => ?_) (fun h111 => ?_)
        · obtain ⟨k, hfd⟩ : ∃ k, find R1.rcs x.nod = some k := by
            cases hfd : find R1.rcs x.nod with
            | none => rw [hfd] at h111; exact absurd h111 (by decide)
            | some k => exact ⟨k, rfl⟩
          refine g_iinc (pc := 192) C d_M_pull_192 rfl (v := nI (n + 1)) (nI_inc n) rfl ?_
          refine g_goto (pc := 195) (tgt := 83) C d_M_pull_195 (by decide) ?_
          rw [plp_f hxn hfd] at he
          exact G.lf (ih (n + 1) m1 R1 (by omega) s z1 g1 w1 d1 hp he) (sb rfl (sb rfl (sb rfl (sb rfl (sb rfl (sb rfl (sb rfl sn)))))))
        · have hfd : find R1.rcs x.nod = none := by
            cases hfd : find R1.rcs x.nod with
            | none => rfl
            | some k => rw [hfd] at h111; exact absurd (nI_pos' (by have := find_lt hfd; omega)) h111
          refine g_aload_n (pc := 114) (i := 0) C d_M_pull_114 rfl rfl ?_
          refine g_iload_n (pc := 115) (i := 2) C d_M_pull_115 rfl rfl ?_
          refine g_iload (pc := 116) C d_M_pull_116 rfl ?_
          refine g_callVp (pc := 118) (As := [_, _]) C my_M_build mv_M_build cl_M_124 is_M d_M_pull_118 (Nat.le_of_ble_eq_true rfl) rfl (Nat.le_of_ble_eq_true rfl) ⟨Nat.zero_le _, Nat.zero_le _⟩ (x_M_build _ hD hq2 gO1 wO.1 wO.2.1 o24 wOs hnO) (fun r118 u118 hp118 => ?_)
          obtain ⟨m2, rfl, s2, hp2⟩ := hp118
          have s12 : Mf q m m2 := s.tr (s2.up pb_ms).mfS
          rcases hp2 with ⟨t, e1, rfl, hB⟩ | ⟨e1, rfl⟩
          rotate_left
          · rw [plp_n hxn hfd e1] at he
            refine g_if_eq (pc := 121) (tgt := 135) C d_M_pull_121 (by decide) (fun h121 => ?_) (fun h121 => ?_)
            · refine g_bipush (pc := 135) C d_M_pull_135 bp_m4 ?_
              refine g_istore (pc := 137) C d_M_pull_137 (by decide) rfl ?_
              refine g_iload (pc := 139) C d_M_pull_139 rfl ?_
              refine g_bipush (pc := 141) C d_M_pull_141 bp_m2 ?_
              refine g_icmp_ne (pc := 143) (tgt := 149) C d_M_pull_143 (by decide) (fun h143 => ?_) (fun h143 => ?_)
              · refine g_iload (pc := 149) C d_M_pull_149 rfl ?_
                refine g_bipush (pc := 151) C d_M_pull_151 bp_m4 ?_
                refine g_icmp_ne (pc := 153) (tgt := 192) C d_M_pull_153 (by decide) (fun h153 => ?_) (fun h153 => ?_)
                · exact absurd rfl h153
                · exact G.lf (undo m2 R1 he s12 (g1.pb s2) d1 hp) (sb rfl (sb rfl (sb rfl (sb rfl (sb rfl (sb rfl (sb rfl sn)))))))
              · exact absurd h143 (by decide)
            · exact absurd rfl h121
          have kt := by_built wO.1 e1
          rw [plp_s hxn hfd e1] at he
          refine g_if_eq (pc := 121) (tgt := 135) C d_M_pull_121 (by decide) (fun h121 => ?_) (fun h121 => ?_)
          · first | exact absurd h121 (by decide) | exact absurd (by decide) h121
          · skip
            refine g_aload_n (pc := 124) (i := 0) C d_M_pull_124 rfl rfl ?_
            refine g_iload_n (pc := 125) (i := 1) C d_M_pull_125 rfl rfl ?_
            refine g_iload_n (pc := 126) (i := 2) C d_M_pull_126 rfl rfl ?_
            refine g_iload (pc := 127) C d_M_pull_127 rfl ?_
            refine g_callVp (pc := 129) (As := [_, _, _]) C my_M_bring mv_M_bring cl_M_181 is_M d_M_pull_129 (Nat.le_of_ble_eq_true rfl) rfl (Nat.le_of_ble_eq_true rfl) ⟨Nat.zero_le _, Nat.zero_le _⟩ (x_M_bring _ hD hq hq2 (g1.pb s2) (gO s12) w1 d1 o24 hxn (fun b hb => by have := hwx.2.1 b hb; omega) (fun b hb => by have := hwx.2.2.1 b hb; omega) hB kt.2 kt.1) (fun r129 u129 hp129 => ?_)
            obtain ⟨m3, rfl, rfl, g3, s3, z3⟩ := hp129
            have s13 : Mf q m m3 := s12.tr s3
            have wS := stor_all (p := twn R1 (V.2 (1 - q)) x.pa) (q := twn R1 (V.2 (1 - q)) x.pb) w1 d1 twn_lt twn_lt kt.1 kt.2
            have hv := stor_w (p := twn R1 (V.2 (1 - q)) x.pa) (q := twn R1 (V.2 (1 - q)) x.pb) w1 d1 twn_lt twn_lt kt.1 kt.2
            have z30 : m3.1 0 0 = 0 := z3.trans ((s2.1 _ _ (by unfold Pb; omega)).trans z1)
            refine g_goto (pc := 132) (tgt := 137) C d_M_pull_132 (by decide) ?_
            refine g_istore (pc := 137) C d_M_pull_137 (by decide) rfl ?_
            refine g_iload (pc := 139) C d_M_pull_139 rfl ?_
            refine g_bipush (pc := 141) C d_M_pull_141 bp_m2 ?_
            refine g_icmp_ne (pc := 143) (tgt := 149) C d_M_pull_143 (by decide) (fun h143 => ?_) (fun h143 => ?_)
            · have hn2 := fun e => h143 ((oi_2 hv).mpr e)
              refine g_iload (pc := 149) C d_M_pull_149 rfl ?_
              refine g_bipush (pc := 151) C d_M_pull_151 bp_m4 ?_
              refine g_icmp_ne (pc := 153) (tgt := 192) C d_M_pull_153 (by decide) (fun h153 => ?_) (fun h153 => ?_)
              · have hn4 := fun e => h153 ((oi_3 hv).mpr e)
                rw [if_neg (fun q => q.elim hn2 hn4)] at he
                have dS : (stor R1 (twn R1 (V.2 (1 - q)) x.pa) (twn R1 (V.2 (1 - q)) x.pb) t).2.dwn = false := (wS.2.2.resolve_left hn2 |>.resolve_left hn4).1
                refine g_iinc (pc := 192) C d_M_pull_192 rfl (v := nI (n + 1)) (nI_inc n) rfl ?_
                refine g_goto (pc := 195) (tgt := 83) C d_M_pull_195 (by decide) ?_
                exact G.lf (ih (n + 1) m3 _ (by omega) s13 (z3.trans ((s2.1 _ _ (by unfold Pb; omega)).trans z1)) g3 wS.1 dS (hp.tr wS.2.1) he) (sb rfl (sb rfl (sb rfl (sb rfl (sb rfl (sb rfl (sb rfl sn)))))))
              · have hn4 := (oi_3 hv).mp h153
                rw [if_pos (Or.inr hn4)] at he
                have he2 : plp (V.2 (1 - q)) (V.2 (1 - q)).rcs.length 0 (begn (V.2 q)).2 = (-4, (stor R1 (twn R1 (V.2 (1 - q)) x.pa) (twn R1 (V.2 (1 - q)) x.pb) t).2) := by rw [he, ← hn4]
                exact G.lf (undo m3 _ he2 s13 g3 (stor_d4 d1 hn4) (hp.tr wS.2.1)) (sb rfl (sb rfl (sb rfl (sb rfl (sb rfl (sb rfl (sb rfl sn)))))))
            · have hn2 := (oi_2 hv).mp h143
              rw [if_pos (Or.inl hn2)] at he
              refine g_bipush (pc := 146) C d_M_pull_146 bp_m2 ?_
              refine g_iret (pc := 148) C d_M_pull_148 ?_
              have he2 : plp (V.2 (1 - q)) (V.2 (1 - q)).rcs.length 0 (begn (V.2 q)).2 = (-2, (stor R1 (twn R1 (V.2 (1 - q)) x.pa) (twn R1 (V.2 (1 - q)) x.pb) t).2) := by rw [he, ← hn2]
              rw [pull_2 hbt he2, if_neg n24] at ho
              rw [ho]
              exact ⟨m3, rfl, upA s13 g3, Or.inl ⟨_, rfl, rfl, z30⟩⟩
  refine g_iload_n (pc := 0) (i := 1) C d_M_pull_0 rfl rfl ?_
  refine g_callS1 (pc := 1) (As := [_]) C my_M_isRepository ms_M_isRepository cl_M_159 d_M_pull_1 (Nat.le_of_ble_eq_true rfl) rfl (Nat.le_of_ble_eq_true rfl) ⟨Nat.zero_le _, Nat.zero_le _⟩ (c_M_isRepository _ hD) ?_
  refine g_if_ne (pc := 4) (tgt := 13) C d_M_pull_4 (by decide) (fun h4 => ?_) (fun h4 => ?_)
  · obtain ⟨q, hq, rfl⟩ := okr_n (b1_1 h4)
    have hR := h.rep hq
    have wR := hW.rep hq
    have hf100 := wR.2.2.2.1
    have hq2 : 1 - q < 2 := by omega
    have hO := h.rep hq2
    have wO := hW.rep hq2
    have ho : oPull V (nI q) = if (V.2 q).dwn = true ∨ (V.2 q).jrn.isSome = true ∨ (V.2 (1 - q)).dwn = true ∨ (V.2 (1 - q)).jrn.isSome = true then (.inr 1, V) else if (pullV (V.2 q) (V.2 (1 - q))).1 = -4 then (.inr 3, upR V q (pullV (V.2 q) (V.2 (1 - q))).2) else (.inl (Int32.ofInt (pullV (V.2 q) (V.2 (1 - q))).1), upR V q (pullV (V.2 q) (V.2 (1 - q))).2) := by
      unfold oPull
      exact onR_y hq
    refine g_iconst (pc := 13) C d_M_pull_13 icn_1 ?_
    refine g_iload_n (pc := 14) (i := 1) C d_M_pull_14 rfl rfl ?_
    refine g_isub (pc := 15) C d_M_pull_15 ?_
    rw [pk_sub (by omega)]
    refine g_istore_n (pc := 16) (i := 2) C d_M_pull_16 rfl (by decide) rfl ?_
    refine g_aload_n (pc := 17) (i := 0) C d_M_pull_17 rfl rfl ?_
    refine g_iload_n (pc := 18) (i := 1) C d_M_pull_18 rfl rfl ?_
    refine g_iconst (pc := 19) C d_M_pull_19 ic_0 ?_
    refine g_callV1 (pc := 20) (As := [_, _]) C my_M_barred mv_M_barred cl_M_165 is_M d_M_pull_20 (Nat.le_of_ble_eq_true rfl) rfl (Nat.le_of_ble_eq_true rfl) ⟨Nat.zero_le _, Nat.zero_le _⟩ (c_M_barred _ hD hq hR wR.jn) ?_
    refine g_if_ne (pc := 23) (tgt := 35) C d_M_pull_23 (by decide) (fun h23 => ?_) (fun h23 => ?_)
    · have hb := bj0.mp (b1_1 h23)
      rw [if_pos (hb.elim Or.inl (fun e => Or.inr (Or.inl e)))] at ho
      refine g_aload_n (pc := 35) (i := 0) C d_M_pull_35 rfl rfl ?_
      refine g_iconst (pc := 36) C d_M_pull_36 ic_2 ?_
      refine g_callV1 (pc := 37) (As := [_]) C my_M_raise mv_M_raise cl_M_162 is_M d_M_pull_37 (Nat.le_of_ble_eq_true rfl) rfl (Nat.le_of_ble_eq_true rfl) ⟨Nat.zero_le _, Nat.zero_le _⟩ (c_M_raise _ hD) ?_
      refine g_iret (pc := 40) C d_M_pull_40 ?_
      rw [ho]
      exact ⟨_, rfl, mw0 h _, Or.inr ⟨1, rfl, rfl, by rw [rI_s]; decide +kernel⟩⟩
    · have hb : ¬ ((V.2 q).dwn = true ∨ (V.2 q).jrn.isSome = true) := fun e => b1_0 h23 (bj0.mpr e)
      refine g_aload_n (pc := 26) (i := 0) C d_M_pull_26 rfl rfl ?_
      refine g_iload_n (pc := 27) (i := 2) C d_M_pull_27 rfl rfl ?_
      refine g_iconst (pc := 28) C d_M_pull_28 ic_0 ?_
      refine g_callV1 (pc := 29) (As := [_, _]) C my_M_barred mv_M_barred cl_M_165 is_M d_M_pull_29 (Nat.le_of_ble_eq_true rfl) rfl (Nat.le_of_ble_eq_true rfl) ⟨Nat.zero_le _, Nat.zero_le _⟩ (c_M_barred _ hD hq2 hO wO.jn) ?_
      refine g_if_eq (pc := 32) (tgt := 41) C d_M_pull_32 (by decide) (fun h32 => ?_) (fun h32 => ?_)
      · have hb2 : ¬ ((V.2 (1 - q)).dwn = true ∨ (V.2 (1 - q)).jrn.isSome = true) := fun e => b1_0 h32 (bj0.mpr e)
        rw [if_neg (fun e => e.elim (fun e => hb (Or.inl e)) (fun e => e.elim (fun e => hb (Or.inr e)) hb2))] at ho
        have hd : (V.2 q).dwn = false := by simpa using fun e => hb (Or.inl e)
        have hj : (V.2 q).jrn = none := by simpa using fun e => hb (Or.inr e)
        have hd2 : (V.2 (1 - q)).dwn = false := by simpa using fun e => hb2 (Or.inl e)
        refine g_aload_n (pc := 41) (i := 0) C d_M_pull_41 rfl rfl ?_
        refine g_iconst (pc := 42) C d_M_pull_42 ic_0 ?_
        refine gp_M_thrown (pc := 43) C fl_M_69 d_M_pull_43 ?_
        refine g_aload_n (pc := 46) (i := 0) C d_M_pull_46 rfl rfl ?_
        refine gf_M_dataLen (pc := 47) C fl_M_16 d_M_pull_47 ?_
        refine g_iload_n (pc := 50) (i := 1) C d_M_pull_50 rfl rfl ?_
        refine ga_mar (pc := 51) C (by decide) (by decide) (vp_in_nI (show q < 2 by omega) (by decide)) d_M_pull_51 ?_
        rw [nI_clamp (show q < 2 ^ 31 by omega), rI_n (Or.inl (by decide)), hR.1.1]
        refine g_istore_n (pc := 52) (i := 3) C d_M_pull_52 rfl (by decide) rfl ?_
        refine g_aload_n (pc := 53) (i := 0) C d_M_pull_53 rfl rfl ?_
        refine gf_M_count (pc := 54) C fl_M_19 d_M_pull_54 ?_
        refine g_iload_n (pc := 57) (i := 1) C d_M_pull_57 rfl rfl ?_
        refine ga_mar (pc := 58) C (by decide) (by decide) (vp_in_nI (show q < 2 by omega) (by decide)) d_M_pull_58 ?_
        rw [nI_clamp (show q < 2 ^ 31 by omega), rI_n (Or.inl (by decide)), hR.2.1.1]
        refine g_istore (pc := 59) C d_M_pull_59 (by decide) rfl ?_
        refine g_aload_n (pc := 61) (i := 0) C d_M_pull_61 rfl rfl ?_
        refine gf_M_failing (pc := 62) C fl_M_54 d_M_pull_62 ?_
        refine g_iload_n (pc := 65) (i := 1) C d_M_pull_65 rfl rfl ?_
        refine ga_mar (pc := 66) C (by decide) (by decide) (vp_in_nI (show q < 2 by omega) (by decide)) d_M_pull_66 ?_
        rw [nI_clamp (show q < 2 ^ 31 by omega), rI_n (Or.inl (by decide)), hR.2.2.2.2]
        refine g_istore (pc := 67) C d_M_pull_67 (by decide) rfl ?_
        refine g_aload_n (pc := 69) (i := 0) C d_M_pull_69 rfl rfl ?_
        refine g_iload_n (pc := 70) (i := 1) C d_M_pull_70 rfl rfl ?_
        refine g_callVp (pc := 71) (As := [_]) C my_M_start mv_M_start cl_M_169 is_M d_M_pull_71 (Nat.le_of_ble_eq_true rfl) rfl (Nat.le_of_ble_eq_true rfl) ⟨Nat.zero_le _, Nat.zero_le _⟩ (x_M_start _ hD hq (hR.ms (ms0 0)) hd hf100) (fun r71 u71 hp71 => ?_)
        obtain ⟨m1, rfl, rfl, g1, s1⟩ := hp71
        have z1 : m1.1 0 0 = 0 := (rq_0 s1).trans rI_s
        have f1 : Mf q m m1 := (ms0 0).mfS.tr s1.mfR
        refine g_if_ne (pc := 74) (tgt := 80) C d_M_pull_74 (by decide) (fun h74 => ?_) (fun h74 => ?_)
        · have hbt := b1_1 h74
          refine g_iconst (pc := 80) C d_M_pull_80 icn_0 ?_
          refine g_istore (pc := 81) C d_M_pull_81 (by decide) rfl ?_
          exact G.lf (loop q hq hd hj hd2 hbt ho (V.2 (1 - q)).rcs.length 0 m1 _ (by omega) f1 z1 g1 (begn_wf wR hd) (begn_all hbt hd).2.2.2 Pfx.rf rfl) (sb rfl (sb rfl (sb rfl (sb rfl (sb rfl (sb rfl (sb rfl sn)))))))
        · have hbt := b1_0 h74
          refine g_bipush (pc := 77) C d_M_pull_77 bp_m2 ?_
          refine g_iret (pc := 79) C d_M_pull_79 ?_
          rw [pull_b hbt, if_neg n24] at ho
          rw [ho]
          exact ⟨m1, rfl, h.up hW hq f1 g1, Or.inl ⟨_, rfl, rfl, z1⟩⟩
      · have hb2 := bj0.mp (b1_1 h32)
        rw [if_pos (Or.inr (Or.inr hb2))] at ho
        refine g_aload_n (pc := 35) (i := 0) C d_M_pull_35 rfl rfl ?_
        refine g_iconst (pc := 36) C d_M_pull_36 ic_2 ?_
        refine g_callV1 (pc := 37) (As := [_]) C my_M_raise mv_M_raise cl_M_162 is_M d_M_pull_37 (Nat.le_of_ble_eq_true rfl) rfl (Nat.le_of_ble_eq_true rfl) ⟨Nat.zero_le _, Nat.zero_le _⟩ (c_M_raise _ hD) ?_
        refine g_iret (pc := 40) C d_M_pull_40 ?_
        rw [ho]
        exact ⟨_, rfl, mw0 h _, Or.inr ⟨1, rfl, rfl, by rw [rI_s]; decide +kernel⟩⟩
  · have ho : oPull V r = (.inr 0, V) := by unfold oPull; rw [onR_n (b1_0 h4)]
    refine g_aload_n (pc := 7) (i := 0) C d_M_pull_7 rfl rfl ?_
    refine g_iconst (pc := 8) C d_M_pull_8 ic_1 ?_
    refine g_callV1 (pc := 9) (As := [_]) C my_M_raise mv_M_raise cl_M_162 is_M d_M_pull_9 (Nat.le_of_ble_eq_true rfl) rfl (Nat.le_of_ble_eq_true rfl) ⟨Nat.zero_le _, Nat.zero_le _⟩ (c_M_raise _ hD) ?_
    refine g_iret (pc := 12) C d_M_pull_12 ?_
    rw [ho]
    exact ⟨_, rfl, mw0 h _, Or.inr ⟨0, rfl, rfl, by rw [rI_s]; decide +kernel⟩⟩
