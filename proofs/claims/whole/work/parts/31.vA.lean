theorem i32_2 : (2 : Int32).toInt = 2 := by decide +kernel
set_option maxRecDepth 100000 in
set_option maxHeartbeats 4000000 in
theorem c_V_isRepository (l : Launch) {D : Dt} (hD : OkD D) {k : Int32} {σ : Sg}  : Ct l D y_V_isRepository b_V_isRepository 1 (some .boolean) 1 [.int k] σ (some (.int (b1 (0 ≤ k ∧ k < 2)))) σ := by
  refine Ct.of hD (by decide) (Nat.le_of_ble_eq_true rfl) [(0, some (.int k))] rfl (fun X hX C => ?_)
  subst hX
  refine g_iload_n (pc := 0) (i := 0) C d_V_isRepository_0 rfl rfl ?_
  refine g_if_lt (pc := 1) (tgt := 13) C d_V_isRepository_1 (by decide) (fun h1 => ?_) (fun h1 => ?_)
  · skip
    refine g_iconst (pc := 13) C d_V_isRepository_13 ic_0 ?_
    refine g_zret (pc := 14) C d_V_isRepository_14 (by first | exact Or.inl rfl | exact Or.inr rfl) ?_
    refine ⟨congrArg (fun v => some (Value.int v)) ?_, rfl⟩
    first | exact (b1_t (by constructor <;> (simp only [Int32.lt_iff_toInt_lt, Int32.le_iff_toInt_le, Int32.toInt_zero, i32_1, i32_2] at *; omega))).symm | exact (b1_f (by intro h; obtain ⟨ha, hb⟩ := h; (simp only [Int32.lt_iff_toInt_lt, Int32.le_iff_toInt_le, Int32.toInt_zero, i32_1, i32_2] at *; omega))).symm
  · skip
    refine g_iload_n (pc := 4) (i := 0) C d_V_isRepository_4 rfl rfl ?_
    refine g_iconst (pc := 5) C d_V_isRepository_5 ic_2 ?_
    refine g_icmp_ge (pc := 6) (tgt := 13) C d_V_isRepository_6 (by decide) (fun h6 => ?_) (fun h6 => ?_)
    · skip
      refine g_iconst (pc := 13) C d_V_isRepository_13 ic_0 ?_
      refine g_zret (pc := 14) C d_V_isRepository_14 (by first | exact Or.inl rfl | exact Or.inr rfl) ?_
      refine ⟨congrArg (fun v => some (Value.int v)) ?_, rfl⟩
      first | exact (b1_t (by constructor <;> (simp only [Int32.lt_iff_toInt_lt, Int32.le_iff_toInt_le, Int32.toInt_zero, i32_1, i32_2] at *; omega))).symm | exact (b1_f (by intro h; obtain ⟨ha, hb⟩ := h; (simp only [Int32.lt_iff_toInt_lt, Int32.le_iff_toInt_le, Int32.toInt_zero, i32_1, i32_2] at *; omega))).symm
    · skip
      refine g_iconst (pc := 9) C d_V_isRepository_9 ic_1 ?_
      refine g_goto (pc := 10) (tgt := 14) C d_V_isRepository_10 (by decide) ?_
      refine g_zret (pc := 14) C d_V_isRepository_14 (by first | exact Or.inl rfl | exact Or.inr rfl) ?_
      refine ⟨congrArg (fun v => some (Value.int v)) ?_, rfl⟩
      first | exact (b1_t (by constructor <;> (simp only [Int32.lt_iff_toInt_lt, Int32.le_iff_toInt_le, Int32.toInt_zero, i32_1, i32_2] at *; omega))).symm | exact (b1_f (by intro h; obtain ⟨ha, hb⟩ := h; (simp only [Int32.lt_iff_toInt_lt, Int32.le_iff_toInt_le, Int32.toInt_zero, i32_1, i32_2] at *; omega))).symm
set_option maxRecDepth 100000 in
set_option maxHeartbeats 4000000 in
theorem c_V_barTo (l : Launch) {D : Dt} (hD : OkD D) {c : Cs} {τ : Cs × (Nat → Int64)} {V : Vt} {r : Int32} (hC : CAbs c V) : Ct l D y_V_barTo b_V_barTo 2 (some .int) 2 [.int r, .ref (aVlt D)] ((c, τ) : Sg) (some (.int (barV V r))) ((c, τ) : Sg) := by
  refine Ct.of hD (by decide) (Nat.le_of_ble_eq_true rfl) [(0, some (.ref (aVlt D))), (1, some (.int r))] rfl (fun X hX C => ?_)
  subst hX
  refine g_iload_n (pc := 0) (i := 1) C d_V_barTo_0 rfl rfl ?_
  refine g_callS1 (pc := 1) (As := [_]) C my_V_isRepository ms_V_isRepository cl_V_149 d_V_barTo_1 (Nat.le_of_ble_eq_true rfl) rfl (Nat.le_of_ble_eq_true rfl) ⟨Nat.zero_le _, Nat.zero_le _⟩ (c_V_isRepository _ hD) ?_
  refine g_if_ne (pc := 4) (tgt := 9) C d_V_barTo_4 (by decide) (fun h4 => ?_) (fun h4 => ?_)
  · have hb := b1_1 h4
    obtain ⟨q, hq, rfl⟩ := okr_n hb
    have g := hC.rep hq
    rw [bar_q hq]
    refine g_aload_n (pc := 9) (i := 0) C d_V_barTo_9 rfl rfl ?_
    refine gf_V_repositories (pc := 10) C fl_V_20 d_V_barTo_10 ?_
    refine g_iload_n (pc := 13) (i := 1) C d_V_barTo_13 rfl rfl ?_
    refine ga_rps (pc := 14) C (by omega) d_V_barTo_14 ?_
    refine gf_Rep_down (pc := 15) C (by omega) fl_V_47 d_V_barTo_15 ?_
    rw [g.1.2.2.2.1]
    refine g_if_eq (pc := 18) (tgt := 26) C d_V_barTo_18 (by decide) (fun h18 => ?_) (fun h18 => ?_)
    · have hw := b1_0 h18
      refine g_iconst (pc := 26) C d_V_barTo_26 ic_0 ?_
      refine g_iret (pc := 27) C d_V_barTo_27 ?_
      first | exact ⟨by rw [if_neg hw], rfl⟩ | exact ⟨by rw [if_pos hw], rfl⟩
    · have hw := b1_1 h18
      refine g_bipush (pc := 21) C d_V_barTo_21 bp_m2 ?_
      refine g_goto (pc := 23) (tgt := 27) C d_V_barTo_23 (by decide) ?_
      refine g_iret (pc := 27) C d_V_barTo_27 ?_
      first | exact ⟨by rw [if_neg hw], rfl⟩ | exact ⟨by rw [if_pos hw], rfl⟩
  · have hb := b1_0 h4
    refine g_iconst (pc := 7) C d_V_barTo_7 ic_m1 ?_
    refine g_iret (pc := 8) C d_V_barTo_8 ?_
    exact ⟨by unfold barV; rw [if_neg hb], rfl⟩
set_option maxRecDepth 100000 in
set_option maxHeartbeats 4000000 in
theorem c_V_wipe (l : Launch) {D : Dt} (hD : OkD D) {c : Cs} {τ : Cs × (Nat → Int64)} {V : Vt}  : Ct l D y_V_wipe b_V_wipe 1 none 2 [.ref (aVlt D)] ((c, τ) : Sg) (none) ((cutC c 0 (nI 0), τ) : Sg) := by
  refine Ct.of hD (by decide) (Nat.le_of_ble_eq_true rfl) [(0, some (.ref (aVlt D)))] rfl (fun X hX C => ?_)
  subst hX
  refine g_aload_n (pc := 0) (i := 0) C d_V_wipe_0 rfl rfl ?_
  refine gf_V_buffer (pc := 1) C fl_V_14 d_V_wipe_1 ?_
  refine g_iconst (pc := 4) C d_V_wipe_4 icn_0 ?_
  refine g_callV0 (pc := 5) (As := [_]) C my_Row_cut mv_Row_cut cl_V_40 (is_Row (by omega)) d_V_wipe_5 (Nat.le_of_ble_eq_true rfl) rfl (Nat.le_of_ble_eq_true rfl) ⟨Nat.zero_le _, Nat.zero_le _⟩ (c_Row_cut _ hD (by omega)) ?_
  refine g_vret (pc := 8) C d_V_wipe_8 ?_
  exact ⟨rfl, rfl⟩
set_option maxRecDepth 100000 in
set_option maxHeartbeats 4000000 in
theorem c_V_revisions (l : Launch) {D : Dt} (hD : OkD D) {c : Cs} {τ : Cs × (Nat → Int64)} {V : Vt} {r : Int32} (hC : CAbs c V) : Ct l D y_V_revisions b_V_revisions 3 (some .int) 3 [.int r, .ref (aVlt D)] ((c, τ) : Sg) (some (.int (oRevisions V r))) ((c, τ) : Sg) := by
  refine Ct.of hD (by decide) (Nat.le_of_ble_eq_true rfl) [(0, some (.ref (aVlt D))), (1, some (.int r))] rfl (fun X hX C => ?_)
  subst hX
  refine g_aload_n (pc := 0) (i := 0) C d_V_revisions_0 rfl rfl ?_
  refine g_iload_n (pc := 1) (i := 1) C d_V_revisions_1 rfl rfl ?_
  refine g_callV1 (pc := 2) (As := [_]) C my_V_barTo mv_V_barTo cl_V_84 is_V d_V_revisions_2 (Nat.le_of_ble_eq_true rfl) rfl (Nat.le_of_ble_eq_true rfl) ⟨Nat.zero_le _, Nat.zero_le _⟩ (c_V_barTo _ hD hC) ?_
  refine g_istore_n (pc := 5) (i := 2) C d_V_revisions_5 rfl (by decide) rfl ?_
  refine g_iload_n (pc := 6) (i := 2) C d_V_revisions_6 rfl rfl ?_
  refine g_if_eq (pc := 7) (tgt := 14) C d_V_revisions_7 (by decide) (fun h7 => ?_) (fun h7 => ?_)
  · obtain ⟨q, hq, rfl, hw⟩ := bar_0 h7
    have g := hC.rep hq
    have g24 := g.2.2.1
    have e0 := nI_clamp (n := q) (by omega)
    refine g_aload_n (pc := 14) (i := 0) C d_V_revisions_14 rfl rfl ?_
    refine gf_V_repositories (pc := 15) C fl_V_20 d_V_revisions_15 ?_
    refine g_iload_n (pc := 18) (i := 1) C d_V_revisions_18 rfl rfl ?_
    refine ga_rps (pc := 19) C (by omega) d_V_revisions_19 ?_
    refine gf_Rep_recordCount (pc := 20) C (by omega) fl_V_113 d_V_revisions_20 ?_
    rw [g.1.1]
    refine g_iret (pc := 23) C d_V_revisions_23 ?_
    exact ⟨by unfold oRevisions; rw [if_pos h7, e0], rfl⟩
  · skip
    refine g_iload_n (pc := 10) (i := 2) C d_V_revisions_10 rfl rfl ?_
    refine g_goto (pc := 11) (tgt := 23) C d_V_revisions_11 (by decide) ?_
    refine g_iret (pc := 23) C d_V_revisions_23 ?_
    exact ⟨by unfold oRevisions; rw [if_neg h7], rfl⟩
set_option maxRecDepth 100000 in
set_option maxHeartbeats 4000000 in
theorem c_V_node (l : Launch) {D : Dt} (hD : OkD D) {c : Cs} {τ : Cs × (Nat → Int64)} {V : Vt} {r n : Int32} (hC : CAbs c V) : Ct l D y_V_node b_V_node 3 (some .long) 3 [.int n, .int r, .ref (aVlt D)] ((c, τ) : Sg) (some (.long (oNode V r n))) ((c, τ) : Sg) := by
  refine Ct.of hD (by decide) (Nat.le_of_ble_eq_true rfl) [(0, some (.ref (aVlt D))), (1, some (.int r)), (2, some (.int n))] rfl (fun X hX C => ?_)
  subst hX
  refine g_aload_n (pc := 0) (i := 0) C d_V_node_0 rfl rfl ?_
  refine g_iload_n (pc := 1) (i := 1) C d_V_node_1 rfl rfl ?_
  refine g_callV1 (pc := 2) (As := [_]) C my_V_barTo mv_V_barTo cl_V_84 is_V d_V_node_2 (Nat.le_of_ble_eq_true rfl) rfl (Nat.le_of_ble_eq_true rfl) ⟨Nat.zero_le _, Nat.zero_le _⟩ (c_V_barTo _ hD hC) ?_
  refine g_if_ne (pc := 5) (tgt := 21) C d_V_node_5 (by decide) (fun h5 => ?_) (fun h5 => ?_)
  · have hx : ¬ (barV V r = 0 ∧ 0 ≤ n ∧ n < nI (V.2 r.toNatClampNeg).rcs.length) := fun h => h5 h.1
    refine g_lconst (pc := 21) C d_V_node_21 lc_0 ?_
    refine g_lret (pc := 22) C d_V_node_22 ?_
    exact ⟨by unfold oNode; rw [if_neg hx], rfl⟩
  · obtain ⟨q, hq, rfl, hw⟩ := bar_0 h5
    have g := hC.rep hq
    have g24 := g.2.2.1
    have e0 := nI_clamp (n := q) (by omega)
    refine g_aload_n (pc := 8) (i := 0) C d_V_node_8 rfl rfl ?_
    refine gf_V_repositories (pc := 9) C fl_V_20 d_V_node_9 ?_
    refine g_iload_n (pc := 12) (i := 1) C d_V_node_12 rfl rfl ?_
    refine ga_rps (pc := 13) C (by omega) d_V_node_13 ?_
    refine g_iload_n (pc := 14) (i := 2) C d_V_node_14 rfl rfl ?_
    refine g_callV1 (pc := 15) (As := [_]) C my_Rep_hasRevision mv_Rep_hasRevision cl_V_101 (is_Rep (by omega)) d_V_node_15 (Nat.le_of_ble_eq_true rfl) rfl (Nat.le_of_ble_eq_true rfl) ⟨Nat.zero_le _, Nat.zero_le _⟩ (c_Rep_hasRevision _ hD (by omega)) ?_
    rw [g.1.1]
    refine g_if_ne (pc := 18) (tgt := 23) C d_V_node_18 (by decide) (fun h18 => ?_) (fun h18 => ?_)
    · have hb := b1_1 h18
      obtain ⟨k, hk, rfl⟩ := nI_at hb (by omega)
      obtain ⟨x, hx⟩ : ∃ x, (V.2 q).rcs[k]? = some x := ⟨_, List.getElem?_eq_getElem hk⟩
      have gr := g.2.2.2 k x hx
      refine g_aload_n (pc := 23) (i := 0) C d_V_node_23 rfl rfl ?_
      refine gf_V_repositories (pc := 24) C fl_V_20 d_V_node_24 ?_
      refine g_iload_n (pc := 27) (i := 1) C d_V_node_27 rfl rfl ?_
      refine ga_rps (pc := 28) C (by omega) d_V_node_28 ?_
      refine gf_Rep_records (pc := 29) C (by omega) fl_V_116 d_V_node_29 ?_
      refine g_iload_n (pc := 32) (i := 2) C d_V_node_32 rfl rfl ?_
      refine ga_rcs (pc := 33) C (by omega) (by omega) d_V_node_33 ?_
      refine gf_Rec_node (pc := 34) C (by omega) fl_V_125 d_V_node_34 ?_
      rw [gr.2.2.2.2.2.2]
      refine g_lret (pc := 37) C d_V_node_37 ?_
      exact ⟨by unfold oNode; rw [if_pos ⟨h5, by rw [e0]; exact hb⟩, e0, nI_clamp (by omega), nodP_s hx], rfl⟩
    · have hx : ¬ (barV V (nI q) = 0 ∧ 0 ≤ n ∧ n < nI (V.2 (nI q).toNatClampNeg).rcs.length) := fun h => b1_0 h18 (by rw [e0] at h; exact h.2)
      refine g_lconst (pc := 21) C d_V_node_21 lc_0 ?_
      refine g_lret (pc := 22) C d_V_node_22 ?_
      exact ⟨by unfold oNode; rw [if_neg hx], rfl⟩
set_option maxRecDepth 100000 in
set_option maxHeartbeats 4000000 in
theorem c_V_data (l : Launch) {D : Dt} (hD : OkD D) {c : Cs} {τ : Cs × (Nat → Int64)} {V : Vt} {r k : Int32} (hC : CAbs c V) : Ct l D y_V_data b_V_data 5 (some .int) 3 [.int k, .int r, .ref (aVlt D)] ((c, τ) : Sg) (some (.int (oData V r k))) ((c, τ) : Sg) := by
  refine Ct.of hD (by decide) (Nat.le_of_ble_eq_true rfl) [(0, some (.ref (aVlt D))), (1, some (.int r)), (2, some (.int k))] rfl (fun X hX C => ?_)
  subst hX
  refine g_aload_n (pc := 0) (i := 0) C d_V_data_0 rfl rfl ?_
  refine g_iload_n (pc := 1) (i := 1) C d_V_data_1 rfl rfl ?_
  refine g_callV1 (pc := 2) (As := [_]) C my_V_barTo mv_V_barTo cl_V_84 is_V d_V_data_2 (Nat.le_of_ble_eq_true rfl) rfl (Nat.le_of_ble_eq_true rfl) ⟨Nat.zero_le _, Nat.zero_le _⟩ (c_V_barTo _ hD hC) ?_
  refine g_istore_n (pc := 5) (i := 3) C d_V_data_5 rfl (by decide) rfl ?_
  refine g_iload_n (pc := 6) (i := 3) C d_V_data_6 rfl rfl ?_
  refine g_if_eq (pc := 7) (tgt := 12) C d_V_data_7 (by decide) (fun h7 => ?_) (fun h7 => ?_)
  · obtain ⟨q, hq, rfl, hw⟩ := bar_0 h7
    have g := hC.rep hq
    have gl := g.2.1.2.1
    have gl2 := rl_1 hq
    have e0 := nI_clamp (n := q) (by omega)
    refine g_aload_n (pc := 12) (i := 0) C d_V_data_12 rfl rfl ?_
    refine gf_V_repositories (pc := 13) C fl_V_20 d_V_data_13 ?_
    refine g_iload_n (pc := 16) (i := 1) C d_V_data_16 rfl rfl ?_
    refine ga_rps (pc := 17) C (by omega) d_V_data_17 ?_
    refine gf_Rep_data (pc := 18) C (by omega) fl_V_129 d_V_data_18 ?_
    refine g_astore (pc := 21) C d_V_data_21 (by decide) rfl ?_
    refine g_iload_n (pc := 23) (i := 2) C d_V_data_23 rfl rfl ?_
    refine g_iconst (pc := 24) C d_V_data_24 ic_m1 ?_
    refine g_icmp_ne (pc := 25) (tgt := 34) C d_V_data_25 (by decide) (fun h25 => ?_) (fun h25 => ?_)
    · skip
      refine g_aload (pc := 34) C d_V_data_34 rfl ?_
      refine g_iload_n (pc := 36) (i := 2) C d_V_data_36 rfl rfl ?_
      refine g_callV1 (pc := 37) (As := [_]) C my_Row_has mv_Row_has cl_V_132 (is_Row (by omega)) d_V_data_37 (Nat.le_of_ble_eq_true rfl) rfl (Nat.le_of_ble_eq_true rfl) ⟨Nat.zero_le _, Nat.zero_le _⟩ (c_Row_has _ hD (by omega)) ?_
      rw [g.2.1.1]
      refine g_if_eq (pc := 40) (tgt := 52) C d_V_data_40 (by decide) (fun h40 => ?_) (fun h40 => ?_)
      · have hb := b1_0 h40
        refine g_iconst (pc := 52) C d_V_data_52 ic_m1 ?_
        refine g_iret (pc := 53) C d_V_data_53 ?_
        exact ⟨by unfold oData; rw [if_pos h7, if_neg h25, e0, if_neg hb], rfl⟩
      · have hb := b1_1 h40
        obtain ⟨i, hi, rfl⟩ := nI_at hb (by omega)
        refine g_aload (pc := 43) C d_V_data_43 rfl ?_
        refine g_iload_n (pc := 45) (i := 2) C d_V_data_45 rfl rfl ?_
        refine g_callV1 (pc := 46) (As := [_]) C my_Row_at mv_Row_at cl_V_110 (is_Row (by omega)) d_V_data_46 (Nat.le_of_ble_eq_true rfl) rfl (Nat.le_of_ble_eq_true rfl) ⟨Nat.zero_le _, Nat.zero_le _⟩ (c_at1 _ hD (by omega) g.2.1 (by omega)) ?_
        refine g_goto (pc := 49) (tgt := 53) C d_V_data_49 (by decide) ?_
        refine g_iret (pc := 53) C d_V_data_53 ?_
        exact ⟨by unfold oData; rw [if_pos h7, if_neg h25, e0, if_pos hb, nI_clamp (by omega)], rfl⟩
    · skip
      refine g_aload (pc := 28) C d_V_data_28 rfl ?_
      refine gf_Row_length (pc := 30) C (by omega) fl_V_33 d_V_data_30 ?_
      rw [g.2.1.1]
      refine g_iret (pc := 33) C d_V_data_33 ?_
      exact ⟨by unfold oData; rw [if_pos h7, if_pos h25, e0], rfl⟩
  · skip
    refine g_iload_n (pc := 10) (i := 3) C d_V_data_10 rfl rfl ?_
    refine g_iret (pc := 11) C d_V_data_11 ?_
    exact ⟨by unfold oData; rw [if_neg h7], rfl⟩
set_option maxRecDepth 100000 in
set_option maxHeartbeats 4000000 in
theorem x_V_wrong (l : Launch) {D : Dt} (hD : OkD D) {c : Cs} {τ : Cs × (Nat → Int64)} {V : Vt} {r : Int32} (hC : CAbs c V) (hW : WfV V) : Cp l D y_V_wrong b_V_wrong 3 (some .int) 7 [.int r, .ref (aVlt D)] ((c, τ) : Sg) (fun a u => ∃ c2, u = ((c2, τ) : Sg) ∧ a = some (.int (oWrong V r)) ∧ CAbs c2 V) := by
  refine Cp.of hD (by decide) (Nat.le_of_ble_eq_true rfl) [(0, some (.ref (aVlt D))), (1, some (.int r))] rfl (fun X hX C => ?_)
  subst hX
  refine g_aload_n (pc := 0) (i := 0) C d_V_wrong_0 rfl rfl ?_
  refine g_iload_n (pc := 1) (i := 1) C d_V_wrong_1 rfl rfl ?_
  refine g_callV1 (pc := 2) (As := [_]) C my_V_barTo mv_V_barTo cl_V_84 is_V d_V_wrong_2 (Nat.le_of_ble_eq_true rfl) rfl (Nat.le_of_ble_eq_true rfl) ⟨Nat.zero_le _, Nat.zero_le _⟩ (c_V_barTo _ hD hC) ?_
  refine g_istore_n (pc := 5) (i := 2) C d_V_wrong_5 rfl (by decide) rfl ?_
  refine g_iload_n (pc := 6) (i := 2) C d_V_wrong_6 rfl rfl ?_
  refine g_if_eq (pc := 7) (tgt := 14) C d_V_wrong_7 (by decide) (fun h7 => ?_) (fun h7 => ?_)
  · obtain ⟨q, hq, rfl, hw⟩ := bar_0 h7
    have g := hC.rep hq
    have wf := hW.rep hq
    have e0 := nI_clamp (n := q) (by omega)
    obtain ⟨y, hy⟩ := (hC.2.2.2 q hq).1
    refine g_aload_n (pc := 14) (i := 0) C d_V_wrong_14 rfl rfl ?_
    refine gf_V_repositories (pc := 15) C fl_V_20 d_V_wrong_15 ?_
    refine g_iload_n (pc := 18) (i := 1) C d_V_wrong_18 rfl rfl ?_
    refine ga_rps (pc := 19) C (by omega) d_V_wrong_19 ?_
    refine g_callVp (pc := 20) (As := []) C my_Rep_countWrong mv_Rep_countWrong cl_V_139 (is_Rep (by omega)) d_V_wrong_20 (Nat.le_of_ble_eq_true rfl) rfl (Nat.le_of_ble_eq_true rfl) ⟨Nat.zero_le _, Nat.zero_le _⟩ (x_Rep_countWrong _ hD (by omega) g.1.1 g.2.2 g.2.1 wf.1 (wf.2.2.2.2.2.2 (Or.inr hw)) hy) (fun r20 u20 hp20 => ?_)
    obtain ⟨c2, rfl, rfl, s2, y2⟩ := hp20
    refine g_iret (pc := 23) C d_V_wrong_23 ?_
    refine ⟨c2, rfl, by unfold oWrong; rw [if_pos h7, e0], hC.1.sm s2 (by unfold Bp Rw; omega) (by unfold Bp Rw; omega), hC.2.1.gm s2 (fun t ht => by unfold Bp Rw; omega), hC.2.2.1.gm s2 (fun t ht => by unfold Bp Rw; omega), hC.2.2.2.bp s2 hq y2⟩
  · skip
    refine g_iload_n (pc := 10) (i := 2) C d_V_wrong_10 rfl rfl ?_
    refine g_goto (pc := 11) (tgt := 23) C d_V_wrong_11 (by decide) ?_
    refine g_iret (pc := 23) C d_V_wrong_23 ?_
    exact ⟨c, rfl, by unfold oWrong; rw [if_neg h7], hC⟩
set_option maxRecDepth 100000 in
set_option maxHeartbeats 4000000 in
theorem x_V_fail (l : Launch) {D : Dt} (hD : OkD D) {c : Cs} {τ : Cs × (Nat → Int64)} {V : Vt} {r n : Int32} (hC : CAbs c V) : Cp l D y_V_fail b_V_fail 3 (some .boolean) 3 [.int n, .int r, .ref (aVlt D)] ((c, τ) : Sg) (fun a u => ∃ c2, u = ((c2, τ) : Sg) ∧ a = some (.int (b1 ((oFail V r n).1 = true))) ∧ CAbs c2 (oFail V r n).2) := by
  refine Cp.of hD (by decide) (Nat.le_of_ble_eq_true rfl) [(0, some (.ref (aVlt D))), (1, some (.int r)), (2, some (.int n))] rfl (fun X hX C => ?_)
  subst hX
  refine g_aload_n (pc := 0) (i := 0) C d_V_fail_0 rfl rfl ?_
  refine g_iload_n (pc := 1) (i := 1) C d_V_fail_1 rfl rfl ?_
  refine g_callV1 (pc := 2) (As := [_]) C my_V_barTo mv_V_barTo cl_V_84 is_V d_V_fail_2 (Nat.le_of_ble_eq_true rfl) rfl (Nat.le_of_ble_eq_true rfl) ⟨Nat.zero_le _, Nat.zero_le _⟩ (c_V_barTo _ hD hC) ?_
  refine g_if_ne (pc := 5) (tgt := 18) C d_V_fail_5 (by decide) (fun h5 => ?_) (fun h5 => ?_)
  · have hx : ¬ (barV V r = 0 ∧ 0 ≤ n ∧ n ≤ 100) := fun h => h5 h.1
    refine g_iconst (pc := 18) C d_V_fail_18 ic_0 ?_
    refine g_zret (pc := 19) C d_V_fail_19 (by first | exact Or.inl rfl | exact Or.inr rfl) ?_
    refine ⟨c, rfl, ?_, ?_⟩
    · unfold oFail
      rw [if_neg hx, b1_f (fun e => by cases e)]
    · unfold oFail
      rw [if_neg hx]
      exact hC
  · skip
    refine g_iload_n (pc := 8) (i := 2) C d_V_fail_8 rfl rfl ?_
    refine g_if_lt (pc := 9) (tgt := 18) C d_V_fail_9 (by decide) (fun h9 => ?_) (fun h9 => ?_)
    · have hx : ¬ (barV V r = 0 ∧ 0 ≤ n ∧ n ≤ 100) := fun h => absurd h9 (Int32.not_lt.mpr h.2.1)
      refine g_iconst (pc := 18) C d_V_fail_18 ic_0 ?_
      refine g_zret (pc := 19) C d_V_fail_19 (by first | exact Or.inl rfl | exact Or.inr rfl) ?_
      refine ⟨c, rfl, ?_, ?_⟩
      · unfold oFail
        rw [if_neg hx, b1_f (fun e => by cases e)]
      · unfold oFail
        rw [if_neg hx]
        exact hC
    · skip
      refine g_iload_n (pc := 12) (i := 2) C d_V_fail_12 rfl rfl ?_
      refine g_bipush (pc := 13) C d_V_fail_13 bp_100 ?_
      refine g_icmp_le (pc := 15) (tgt := 20) C d_V_fail_15 (by decide) (fun h15 => ?_) (fun h15 => ?_)
      · have hx : barV V r = 0 ∧ 0 ≤ n ∧ n ≤ 100 := ⟨h5, Int32.not_lt.mp h9, h15⟩
        obtain ⟨q, hq, rfl, hw⟩ := bar_0 h5
        have g := hC.rep hq
        have e0 := nI_clamp (n := q) (by omega)
        obtain ⟨k, hk, rfl⟩ := nI_of2 (M := 100) (n := 100) (by decide +kernel) h9 h15
        refine g_aload_n (pc := 20) (i := 0) C d_V_fail_20 rfl rfl ?_
        refine gf_V_repositories (pc := 21) C fl_V_20 d_V_fail_21 ?_
        refine g_iload_n (pc := 24) (i := 1) C d_V_fail_24 rfl rfl ?_
        refine ga_rps (pc := 25) C (by omega) d_V_fail_25 ?_
        refine g_iload_n (pc := 26) (i := 2) C d_V_fail_26 rfl rfl ?_
        refine gp_Rep_writesToFailure (pc := 27) C (by omega) fl_V_88 d_V_fail_27 ?_
        refine g_iconst (pc := 30) C d_V_fail_30 ic_1 ?_
        refine g_zret (pc := 31) C d_V_fail_31 (by first | exact Or.inl rfl | exact Or.inr rfl) ?_
        refine ⟨_, rfl, ?_, ?_⟩
        · unfold oFail
          rw [if_pos hx, b1_t rfl]
        · unfold oFail
          rw [if_pos hx, e0, nI_clamp (by omega)]
          exact hC.ci hq sm_c1 (g.fa hq)
      · have hx : ¬ (barV V r = 0 ∧ 0 ≤ n ∧ n ≤ 100) := fun h => h15 h.2.2
        refine g_iconst (pc := 18) C d_V_fail_18 ic_0 ?_
        refine g_zret (pc := 19) C d_V_fail_19 (by first | exact Or.inl rfl | exact Or.inr rfl) ?_
        refine ⟨c, rfl, ?_, ?_⟩
        · unfold oFail
          rw [if_neg hx, b1_f (fun e => by cases e)]
        · unfold oFail
          rw [if_neg hx]
          exact hC
