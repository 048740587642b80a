set_option maxRecDepth 100000 in
set_option maxHeartbeats 4000000 in
theorem c_Rec_field (l : Launch) {D : Dt} (hD : OkD D) {i : Nat} {c : Cs} {τ : Cs × (Nat → Int64)} {x : Rc} {k : Int32} (hi : i < 48) (hx : RecIs c i x) : Ct l D y_Rec_field b_Rec_field 2 (some .int) 1 [.int k, .ref (aRec D i)] ((c, τ) : Sg) (some (.int (oFld x k))) ((c, τ) : Sg) := by
  refine Ct.of hD (by decide) (Nat.le_of_ble_eq_true rfl) [(0, some (.ref (aRec D i))), (1, some (.int k))] rfl (fun X hX C => ?_)
  subst hX
  rcases pk_ix k (n := 6) (by decide) with h | h | ⟨j, hj, rfl⟩
  · have hne : ∀ j, j < 6 → ¬ k = nI j := fun j hj e => by
      subst e
      first | exact absurd h (nI_pos (by omega)) | exact absurd h (nI_ge hj (by decide))
    have ho : oFld x k = -1 := by
      unfold oFld
      rw [if_neg (hne 0 (by decide)), if_neg (hne 1 (by decide)), if_neg (hne 2 (by decide)), if_neg (hne 3 (by decide)), if_neg (hne 4 (by decide)), if_neg (hne 5 (by decide))]
    refine g_iload_n (pc := 0) (i := 1) C d_Rec_field_0 rfl rfl ?_
    refine g_tabOut (pc := 1) (tgt := 70) C d_Rec_field_1 (by first | exact Or.inl (Int32.lt_iff_toInt_lt.mp h) | (have h2 := Int32.le_iff_toInt_le.mp h; rw [nI_toInt (by decide)] at h2; exact Or.inr (by omega))) (by decide) ?_
    refine g_iconst (pc := 70) C d_Rec_field_70 ic_m1 ?_
    refine g_iret (pc := 71) C d_Rec_field_71 ?_
    exact ⟨by rw [ho], rfl⟩
  · have hne : ∀ j, j < 6 → ¬ k = nI j := fun j hj e => by
      subst e
      first | exact absurd h (nI_pos (by omega)) | exact absurd h (nI_ge hj (by decide))
    have ho : oFld x k = -1 := by
      unfold oFld
      rw [if_neg (hne 0 (by decide)), if_neg (hne 1 (by decide)), if_neg (hne 2 (by decide)), if_neg (hne 3 (by decide)), if_neg (hne 4 (by decide)), if_neg (hne 5 (by decide))]
    refine g_iload_n (pc := 0) (i := 1) C d_Rec_field_0 rfl rfl ?_
    refine g_tabOut (pc := 1) (tgt := 70) C d_Rec_field_1 (by first | exact Or.inl (Int32.lt_iff_toInt_lt.mp h) | (have h2 := Int32.le_iff_toInt_le.mp h; rw [nI_toInt (by decide)] at h2; exact Or.inr (by omega))) (by decide) ?_
    refine g_iconst (pc := 70) C d_Rec_field_70 ic_m1 ?_
    refine g_iret (pc := 71) C d_Rec_field_71 ?_
    exact ⟨by rw [ho], rfl⟩
  · rcases (show j = 0 ∨ j = 1 ∨ j = 2 ∨ j = 3 ∨ j = 4 ∨ j = 5 by omega) with rfl | rfl | rfl | rfl | rfl | rfl
    · refine g_iload_n (pc := 0) (i := 1) C d_Rec_field_0 rfl rfl ?_
      refine g_tabIn (pc := 1) (tgt := 40) (off := 39) C d_Rec_field_1 (by decide +kernel) (by decide +kernel) (by decide +kernel) (by decide) ?_
      refine g_aload_n (pc := 40) (i := 0) C d_Rec_field_40 rfl rfl ?_
      refine gf_Rec_offset (pc := 41) C (by omega) fl_Rec_9 d_Rec_field_41 ?_
      refine g_iret (pc := 44) C d_Rec_field_44 ?_
      exact ⟨by rw [hx.1]; rfl, rfl⟩
    · refine g_iload_n (pc := 0) (i := 1) C d_Rec_field_0 rfl rfl ?_
      refine g_tabIn (pc := 1) (tgt := 45) (off := 44) C d_Rec_field_1 (by decide +kernel) (by decide +kernel) (by decide +kernel) (by decide) ?_
      refine g_aload_n (pc := 45) (i := 0) C d_Rec_field_45 rfl rfl ?_
      refine gf_Rec_size (pc := 46) C (by omega) fl_Rec_15 d_Rec_field_46 ?_
      refine g_iret (pc := 49) C d_Rec_field_49 ?_
      exact ⟨by rw [hx.2.1]; rfl, rfl⟩
    · refine g_iload_n (pc := 0) (i := 1) C d_Rec_field_0 rfl rfl ?_
      refine g_tabIn (pc := 1) (tgt := 50) (off := 49) C d_Rec_field_1 (by decide +kernel) (by decide +kernel) (by decide +kernel) (by decide) ?_
      refine g_aload_n (pc := 50) (i := 0) C d_Rec_field_50 rfl rfl ?_
      refine gf_Rec_length (pc := 51) C (by omega) fl_Rec_21 d_Rec_field_51 ?_
      refine g_iret (pc := 54) C d_Rec_field_54 ?_
      exact ⟨by rw [hx.2.2.1]; rfl, rfl⟩
    · refine g_iload_n (pc := 0) (i := 1) C d_Rec_field_0 rfl rfl ?_
      refine g_tabIn (pc := 1) (tgt := 55) (off := 54) C d_Rec_field_1 (by decide +kernel) (by decide +kernel) (by decide +kernel) (by decide) ?_
      refine g_aload_n (pc := 55) (i := 0) C d_Rec_field_55 rfl rfl ?_
      refine gf_Rec_base (pc := 56) C (by omega) fl_Rec_18 d_Rec_field_56 ?_
      refine g_iret (pc := 59) C d_Rec_field_59 ?_
      exact ⟨by rw [hx.2.2.2.1]; rfl, rfl⟩
    · refine g_iload_n (pc := 0) (i := 1) C d_Rec_field_0 rfl rfl ?_
      refine g_tabIn (pc := 1) (tgt := 60) (off := 59) C d_Rec_field_1 (by decide +kernel) (by decide +kernel) (by decide +kernel) (by decide) ?_
      refine g_aload_n (pc := 60) (i := 0) C d_Rec_field_60 rfl rfl ?_
      refine gf_Rec_p1 (pc := 61) C (by omega) fl_Rec_24 d_Rec_field_61 ?_
      refine g_iret (pc := 64) C d_Rec_field_64 ?_
      exact ⟨by rw [hx.2.2.2.2.1]; rfl, rfl⟩
    · refine g_iload_n (pc := 0) (i := 1) C d_Rec_field_0 rfl rfl ?_
      refine g_tabIn (pc := 1) (tgt := 65) (off := 64) C d_Rec_field_1 (by decide +kernel) (by decide +kernel) (by decide +kernel) (by decide) ?_
      refine g_aload_n (pc := 65) (i := 0) C d_Rec_field_65 rfl rfl ?_
      refine gf_Rec_p2 (pc := 66) C (by omega) fl_Rec_27 d_Rec_field_66 ?_
      refine g_iret (pc := 69) C d_Rec_field_69 ?_
      exact ⟨by rw [hx.2.2.2.2.2.1]; rfl, rfl⟩
set_option maxRecDepth 100000 in
set_option maxHeartbeats 4000000 in
theorem c_V_record (l : Launch) {D : Dt} (hD : OkD D) {c : Cs} {τ : Cs × (Nat → Int64)} {V : Vt} {r n k : Int32} (hC : CAbs c V) : Ct l D y_V_record b_V_record 5 (some .int) 3 [.int k, .int n, .int r, .ref (aVlt D)] ((c, τ) : Sg) (some (.int (oRecord V r n k))) ((c, τ) : Sg) := by
  refine Ct.of hD (by decide) (Nat.le_of_ble_eq_true rfl) [(0, some (.ref (aVlt D))), (1, some (.int r)), (2, some (.int n)), (3, some (.int k))] rfl (fun X hX C => ?_)
  subst hX
  refine g_aload_n (pc := 0) (i := 0) C d_V_record_0 rfl rfl ?_
  refine g_iload_n (pc := 1) (i := 1) C d_V_record_1 rfl rfl ?_
  refine g_callV1 (pc := 2) (As := [_]) C my_V_barTo mv_V_barTo cl_V_84 is_V d_V_record_2 (Nat.le_of_ble_eq_true rfl) rfl (Nat.le_of_ble_eq_true rfl) ⟨Nat.zero_le _, Nat.zero_le _⟩ (c_V_barTo _ hD hC) ?_
  refine g_istore (pc := 5) C d_V_record_5 (by decide) rfl ?_
  refine g_iload (pc := 7) C d_V_record_7 rfl ?_
  refine g_if_eq (pc := 9) (tgt := 15) C d_V_record_9 (by decide) (fun h9 => ?_) (fun h9 => ?_)
  · obtain ⟨q, hq, rfl, hw⟩ := bar_0 h9
    have g := hC.rep hq
    have g24 := g.2.2.1
    have e0 := nI_clamp (n := q) (by omega)
    refine g_aload_n (pc := 15) (i := 0) C d_V_record_15 rfl rfl ?_
    refine gf_V_repositories (pc := 16) C fl_V_20 d_V_record_16 ?_
    refine g_iload_n (pc := 19) (i := 1) C d_V_record_19 rfl rfl ?_
    refine ga_rps (pc := 20) C (by omega) d_V_record_20 ?_
    refine g_iload_n (pc := 21) (i := 2) C d_V_record_21 rfl rfl ?_
    refine g_callV1 (pc := 22) (As := [_]) C my_Rep_hasRevision mv_Rep_hasRevision cl_V_101 (is_Rep (by omega)) d_V_record_22 (Nat.le_of_ble_eq_true rfl) rfl (Nat.le_of_ble_eq_true rfl) ⟨Nat.zero_le _, Nat.zero_le _⟩ (c_Rep_hasRevision _ hD (by omega)) ?_
    rw [g.1.1]
    refine g_if_eq (pc := 25) (tgt := 46) C d_V_record_25 (by decide) (fun h25 => ?_) (fun h25 => ?_)
    · have hb := b1_0 h25
      refine g_iconst (pc := 46) C d_V_record_46 ic_m1 ?_
      refine g_iret (pc := 47) C d_V_record_47 ?_
      exact ⟨by unfold oRecord; rw [if_pos h9, e0, if_neg hb], rfl⟩
    · have hb := b1_1 h25
      obtain ⟨m, hm, rfl⟩ := nI_at hb (by omega)
      obtain ⟨x, hx⟩ : ∃ x, (V.2 q).rcs[m]? = some x := ⟨_, List.getElem?_eq_getElem hm⟩
      have gr := g.2.2.2 m x hx
      refine g_aload_n (pc := 28) (i := 0) C d_V_record_28 rfl rfl ?_
      refine gf_V_repositories (pc := 29) C fl_V_20 d_V_record_29 ?_
      refine g_iload_n (pc := 32) (i := 1) C d_V_record_32 rfl rfl ?_
      refine ga_rps (pc := 33) C (by omega) d_V_record_33 ?_
      refine gf_Rep_records (pc := 34) C (by omega) fl_V_116 d_V_record_34 ?_
      refine g_iload_n (pc := 37) (i := 2) C d_V_record_37 rfl rfl ?_
      refine ga_rcs (pc := 38) C (by omega) (by omega) d_V_record_38 ?_
      refine g_iload_n (pc := 39) (i := 3) C d_V_record_39 rfl rfl ?_
      refine g_callV1 (pc := 40) (As := [_]) C my_Rec_field mv_Rec_field cl_V_120 (is_Rec (by omega)) d_V_record_40 (Nat.le_of_ble_eq_true rfl) rfl (Nat.le_of_ble_eq_true rfl) ⟨Nat.zero_le _, Nat.zero_le _⟩ (c_Rec_field _ hD (by omega) gr) ?_
      refine g_goto (pc := 43) (tgt := 47) C d_V_record_43 (by decide) ?_
      refine g_iret (pc := 47) C d_V_record_47 ?_
      exact ⟨by unfold oRecord; rw [if_pos h9, e0, if_pos hb, nI_clamp (by omega), hx], rfl⟩
  · skip
    refine g_iload (pc := 12) C d_V_record_12 rfl ?_
    refine g_iret (pc := 14) C d_V_record_14 ?_
    exact ⟨by unfold oRecord; rw [if_neg h9], rfl⟩
set_option maxRecDepth 100000 in
set_option maxHeartbeats 4000000 in
theorem c_V_heads (l : Launch) {D : Dt} (hD : OkD D) {c : Cs} {τ : Cs × (Nat → Int64)} {V : Vt} {r : Int32} (hC : CAbs c V) (hW : WfV V) : Ct l D y_V_heads b_V_heads 3 (some .int) 3 [.int r, .ref (aVlt D)] ((c, τ) : Sg) (some (.int (oHeads V r))) ((c, τ) : Sg) := by
  refine Ct.of hD (by decide) (Nat.le_of_ble_eq_true rfl) [(0, some (.ref (aVlt D))), (1, some (.int r))] rfl (fun X hX C => ?_)
  subst hX
  refine g_aload_n (pc := 0) (i := 0) C d_V_heads_0 rfl rfl ?_
  refine g_iload_n (pc := 1) (i := 1) C d_V_heads_1 rfl rfl ?_
  refine g_callV1 (pc := 2) (As := [_]) C my_V_barTo mv_V_barTo cl_V_84 is_V d_V_heads_2 (Nat.le_of_ble_eq_true rfl) rfl (Nat.le_of_ble_eq_true rfl) ⟨Nat.zero_le _, Nat.zero_le _⟩ (c_V_barTo _ hD hC) ?_
  refine g_istore_n (pc := 5) (i := 2) C d_V_heads_5 rfl (by decide) rfl ?_
  refine g_iload_n (pc := 6) (i := 2) C d_V_heads_6 rfl rfl ?_
  refine g_if_eq (pc := 7) (tgt := 14) C d_V_heads_7 (by decide) (fun h7 => ?_) (fun h7 => ?_)
  · obtain ⟨q, hq, rfl, hw⟩ := bar_0 h7
    have g := hC.rep hq
    have g24 := g.2.2.1
    have wf := hW.rep hq
    have wp := WfR.par (wf.2.2.2.2.2.2 (Or.inr hw))
    have e0 := nI_clamp (n := q) (by omega)
    refine g_aload_n (pc := 14) (i := 0) C d_V_heads_14 rfl rfl ?_
    refine gf_V_repositories (pc := 15) C fl_V_20 d_V_heads_15 ?_
    refine g_iload_n (pc := 18) (i := 1) C d_V_heads_18 rfl rfl ?_
    refine ga_rps (pc := 19) C (by omega) d_V_heads_19 ?_
    refine g_callV1 (pc := 20) (As := []) C my_Rep_countHeads mv_Rep_countHeads cl_V_142 (is_Rep (by omega)) d_V_heads_20 (Nat.le_of_ble_eq_true rfl) rfl (Nat.le_of_ble_eq_true rfl) ⟨Nat.zero_le _, Nat.zero_le _⟩ (c_Rep_countHeads _ hD (by omega) g.2.2 wp g.1.1) ?_
    refine g_iret (pc := 23) C d_V_heads_23 ?_
    exact ⟨by unfold oHeads; rw [if_pos h7, e0], rfl⟩
  · skip
    refine g_iload_n (pc := 10) (i := 2) C d_V_heads_10 rfl rfl ?_
    refine g_goto (pc := 11) (tgt := 23) C d_V_heads_11 (by decide) ?_
    refine g_iret (pc := 23) C d_V_heads_23 ?_
    exact ⟨by unfold oHeads; rw [if_neg h7], rfl⟩
set_option maxRecDepth 100000 in
set_option maxHeartbeats 4000000 in
theorem c_V_common (l : Launch) {D : Dt} (hD : OkD D) {c : Cs} {τ : Cs × (Nat → Int64)} {V : Vt} {r a b : Int32} (hC : CAbs c V) (hW : WfV V) : Ct l D y_V_common b_V_common 6 (some .int) 4 [.int b, .int a, .int r, .ref (aVlt D)] ((c, τ) : Sg) (some (.int (oCommon V r a b))) ((c, τ) : Sg) := by
  refine Ct.of hD (by decide) (Nat.le_of_ble_eq_true rfl) [(0, some (.ref (aVlt D))), (1, some (.int r)), (2, some (.int a)), (3, some (.int b))] rfl (fun X hX C => ?_)
  subst hX
  refine g_aload_n (pc := 0) (i := 0) C d_V_common_0 rfl rfl ?_
  refine g_iload_n (pc := 1) (i := 1) C d_V_common_1 rfl rfl ?_
  refine g_callV1 (pc := 2) (As := [_]) C my_V_barTo mv_V_barTo cl_V_84 is_V d_V_common_2 (Nat.le_of_ble_eq_true rfl) rfl (Nat.le_of_ble_eq_true rfl) ⟨Nat.zero_le _, Nat.zero_le _⟩ (c_V_barTo _ hD hC) ?_
  refine g_istore (pc := 5) C d_V_common_5 (by decide) rfl ?_
  refine g_iload (pc := 7) C d_V_common_7 rfl ?_
  refine g_if_eq (pc := 9) (tgt := 15) C d_V_common_9 (by decide) (fun h9 => ?_) (fun h9 => ?_)
  · obtain ⟨q, hq, rfl, hw⟩ := bar_0 h9
    have g := hC.rep hq
    have g24 := g.2.2.1
    have wf := hW.rep hq
    have wp := WfR.par (wf.2.2.2.2.2.2 (Or.inr hw))
    have e0 := nI_clamp (n := q) (by omega)
    refine g_aload_n (pc := 15) (i := 0) C d_V_common_15 rfl rfl ?_
    refine gf_V_repositories (pc := 16) C fl_V_20 d_V_common_16 ?_
    refine g_iload_n (pc := 19) (i := 1) C d_V_common_19 rfl rfl ?_
    refine ga_rps (pc := 20) C (by omega) d_V_common_20 ?_
    refine g_astore (pc := 21) C d_V_common_21 (by decide) rfl ?_
    refine g_aload (pc := 23) C d_V_common_23 rfl ?_
    refine g_iload_n (pc := 25) (i := 2) C d_V_common_25 rfl rfl ?_
    refine g_callV1 (pc := 26) (As := [_]) C my_Rep_hasRevision mv_Rep_hasRevision cl_V_101 (is_Rep (by omega)) d_V_common_26 (Nat.le_of_ble_eq_true rfl) rfl (Nat.le_of_ble_eq_true rfl) ⟨Nat.zero_le _, Nat.zero_le _⟩ (c_Rep_hasRevision _ hD (by omega)) ?_
    rw [g.1.1]
    refine g_if_eq (pc := 29) (tgt := 41) C d_V_common_29 (by decide) (fun h29 => ?_) (fun h29 => ?_)
    · have hx : ¬ ((0 ≤ a ∧ a < nI (V.2 q).rcs.length) ∧ (0 ≤ b ∧ b < nI (V.2 q).rcs.length)) := fun h => b1_0 h29 h.1
      refine g_iconst (pc := 41) C d_V_common_41 ic_m1 ?_
      refine g_iret (pc := 42) C d_V_common_42 ?_
      exact ⟨by unfold oCommon; rw [if_pos h9, e0, if_neg hx], rfl⟩
    · have ha := b1_1 h29
      obtain ⟨m, hm, rfl⟩ := nI_at ha (by omega)
      refine g_aload (pc := 32) C d_V_common_32 rfl ?_
      refine g_iload_n (pc := 34) (i := 3) C d_V_common_34 rfl rfl ?_
      refine g_callV1 (pc := 35) (As := [_]) C my_Rep_hasRevision mv_Rep_hasRevision cl_V_101 (is_Rep (by omega)) d_V_common_35 (Nat.le_of_ble_eq_true rfl) rfl (Nat.le_of_ble_eq_true rfl) ⟨Nat.zero_le _, Nat.zero_le _⟩ (c_Rep_hasRevision _ hD (by omega)) ?_
      rw [g.1.1]
      refine g_if_ne (pc := 38) (tgt := 43) C d_V_common_38 (by decide) (fun h38 => ?_) (fun h38 => ?_)
      · have hb := b1_1 h38
        obtain ⟨k, hk, rfl⟩ := nI_at hb (by omega)
        refine g_aload (pc := 43) C d_V_common_43 rfl ?_
        refine g_iload_n (pc := 45) (i := 2) C d_V_common_45 rfl rfl ?_
        refine g_iload_n (pc := 46) (i := 3) C d_V_common_46 rfl rfl ?_
        refine g_callV1 (pc := 47) (As := [_, _]) C my_Rep_greatestCommonAncestor mv_Rep_greatestCommonAncestor cl_V_145 (is_Rep (by omega)) d_V_common_47 (Nat.le_of_ble_eq_true rfl) rfl (Nat.le_of_ble_eq_true rfl) ⟨Nat.zero_le _, Nat.zero_le _⟩ (c_Rep_greatestCommonAncestor _ hD (by omega) g.2.2 wp hm hk) ?_
        refine g_iret (pc := 50) C d_V_common_50 ?_
        exact ⟨by unfold oCommon; rw [if_pos h9, e0, if_pos ⟨ha, hb⟩, nI_clamp (by omega), nI_clamp (by omega)], rfl⟩
      · have hx : ¬ ((0 ≤ nI m ∧ nI m < nI (V.2 q).rcs.length) ∧ (0 ≤ b ∧ b < nI (V.2 q).rcs.length)) := fun h => b1_0 h38 h.2
        refine g_iconst (pc := 41) C d_V_common_41 ic_m1 ?_
        refine g_iret (pc := 42) C d_V_common_42 ?_
        exact ⟨by unfold oCommon; rw [if_pos h9, e0, if_neg hx], rfl⟩
  · skip
    refine g_iload (pc := 12) C d_V_common_12 rfl ?_
    refine g_iret (pc := 14) C d_V_common_14 ?_
    exact ⟨by unfold oCommon; rw [if_neg h9], rfl⟩
set_option maxRecDepth 100000 in
set_option maxHeartbeats 4000000 in
theorem x_V_damage (l : Launch) {D : Dt} (hD : OkD D) {c : Cs} {τ : Cs × (Nat → Int64)} {V : Vt} {r k x : Int32} (hC : CAbs c V) : Cp l D y_V_damage b_V_damage 4 (some .boolean) 3 [.int x, .int k, .int r, .ref (aVlt D)] ((c, τ) : Sg) (fun a u => ∃ c2, u = ((c2, τ) : Sg) ∧ a = some (.int (b1 ((oDamage V r k x).1 = true))) ∧ CAbs c2 (oDamage V r k x).2) := by
  refine Cp.of hD (by decide) (Nat.le_of_ble_eq_true rfl) [(0, some (.ref (aVlt D))), (1, some (.int r)), (2, some (.int k)), (3, some (.int x))] rfl (fun X hX C => ?_)
  subst hX
  refine g_aload_n (pc := 0) (i := 0) C d_V_damage_0 rfl rfl ?_
  refine g_iload_n (pc := 1) (i := 1) C d_V_damage_1 rfl rfl ?_
  refine g_callV1 (pc := 2) (As := [_]) C my_V_barTo mv_V_barTo cl_V_84 is_V d_V_damage_2 (Nat.le_of_ble_eq_true rfl) rfl (Nat.le_of_ble_eq_true rfl) ⟨Nat.zero_le _, Nat.zero_le _⟩ (c_V_barTo _ hD hC) ?_
  refine g_if_ne (pc := 5) (tgt := 36) C d_V_damage_5 (by decide) (fun h5 => ?_) (fun h5 => ?_)
  · have hx : ¬ (barV V r = 0 ∧ (1 ≤ x ∧ x ≤ 255) ∧ 0 ≤ k ∧ k < nI (V.2 r.toNatClampNeg).dat.length) := fun h => h5 h.1
    refine g_iconst (pc := 36) C d_V_damage_36 ic_0 ?_
    refine g_zret (pc := 37) C d_V_damage_37 (by first | exact Or.inl rfl | exact Or.inr rfl) ?_
    refine ⟨c, rfl, ?_, ?_⟩
    · unfold oDamage
      rw [if_neg hx, b1_f (fun e => by cases e)]
    · unfold oDamage
      rw [if_neg hx]
      exact hC
  · skip
    refine g_iload_n (pc := 8) (i := 3) C d_V_damage_8 rfl rfl ?_
    refine g_iconst (pc := 9) C d_V_damage_9 ic_1 ?_
    refine g_icmp_lt (pc := 10) (tgt := 36) C d_V_damage_10 (by decide) (fun h10 => ?_) (fun h10 => ?_)
    · have hx : ¬ (barV V r = 0 ∧ (1 ≤ x ∧ x ≤ 255) ∧ 0 ≤ k ∧ k < nI (V.2 r.toNatClampNeg).dat.length) := fun h => absurd h10 (Int32.not_lt.mpr h.2.1.1)
      refine g_iconst (pc := 36) C d_V_damage_36 ic_0 ?_
      refine g_zret (pc := 37) C d_V_damage_37 (by first | exact Or.inl rfl | exact Or.inr rfl) ?_
      refine ⟨c, rfl, ?_, ?_⟩
      · unfold oDamage
        rw [if_neg hx, b1_f (fun e => by cases e)]
      · unfold oDamage
        rw [if_neg hx]
        exact hC
    · skip
      refine g_iload_n (pc := 13) (i := 3) C d_V_damage_13 rfl rfl ?_
      refine g_sipush (pc := 14) C d_V_damage_14 sp_255 ?_
      refine g_icmp_gt (pc := 17) (tgt := 36) C d_V_damage_17 (by decide) (fun h17 => ?_) (fun h17 => ?_)
      · have hx : ¬ (barV V r = 0 ∧ (1 ≤ x ∧ x ≤ 255) ∧ 0 ≤ k ∧ k < nI (V.2 r.toNatClampNeg).dat.length) := fun h => absurd h17 (Int32.not_lt.mpr h.2.1.2)
        refine g_iconst (pc := 36) C d_V_damage_36 ic_0 ?_
        refine g_zret (pc := 37) C d_V_damage_37 (by first | exact Or.inl rfl | exact Or.inr rfl) ?_
        refine ⟨c, rfl, ?_, ?_⟩
        · unfold oDamage
          rw [if_neg hx, b1_f (fun e => by cases e)]
        · unfold oDamage
          rw [if_neg hx]
          exact hC
      · have hxx : 1 ≤ x ∧ x ≤ 255 := ⟨Int32.not_lt.mp h10, Int32.not_lt.mp h17⟩
        obtain ⟨q, hq, rfl, hw⟩ := bar_0 h5
        have g := hC.rep hq
        have gl := g.2.1.2.1
        have gl2 := rl_1 hq
        have e0 := nI_clamp (n := q) (by omega)
        refine g_aload_n (pc := 20) (i := 0) C d_V_damage_20 rfl rfl ?_
        refine gf_V_repositories (pc := 21) C fl_V_20 d_V_damage_21 ?_
        refine g_iload_n (pc := 24) (i := 1) C d_V_damage_24 rfl rfl ?_
        refine ga_rps (pc := 25) C (by omega) d_V_damage_25 ?_
        refine gf_Rep_data (pc := 26) C (by omega) fl_V_129 d_V_damage_26 ?_
        refine g_iload_n (pc := 29) (i := 2) C d_V_damage_29 rfl rfl ?_
        refine g_callV1 (pc := 30) (As := [_]) C my_Row_has mv_Row_has cl_V_132 (is_Row (by omega)) d_V_damage_30 (Nat.le_of_ble_eq_true rfl) rfl (Nat.le_of_ble_eq_true rfl) ⟨Nat.zero_le _, Nat.zero_le _⟩ (c_Row_has _ hD (by omega)) ?_
        rw [g.2.1.1]
        refine g_if_ne (pc := 33) (tgt := 38) C d_V_damage_33 (by decide) (fun h33 => ?_) (fun h33 => ?_)
        · have hb := b1_1 h33
          have hx : barV V (nI q) = 0 ∧ (1 ≤ x ∧ x ≤ 255) ∧ 0 ≤ k ∧ k < nI (V.2 (nI q).toNatClampNeg).dat.length := ⟨h5, hxx, by rw [e0]; exact hb⟩
          obtain ⟨i, hi, rfl⟩ := nI_at hb (by omega)
          obtain ⟨y, hy, rfl⟩ := nI_of2 (M := 255) (n := 255) (by decide +kernel) (fun h => by have h1 := Int32.lt_iff_toInt_lt.mp h; have h2 := Int32.le_iff_toInt_le.mp hxx.1; rw [i32_1] at h2; rw [Int32.toInt_zero] at h1; omega) hxx.2
          refine g_aload_n (pc := 38) (i := 0) C d_V_damage_38 rfl rfl ?_
          refine gf_V_repositories (pc := 39) C fl_V_20 d_V_damage_39 ?_
          refine g_iload_n (pc := 42) (i := 1) C d_V_damage_42 rfl rfl ?_
          refine ga_rps (pc := 43) C (by omega) d_V_damage_43 ?_
          refine gf_Rep_data (pc := 44) C (by omega) fl_V_129 d_V_damage_44 ?_
          refine g_iload_n (pc := 47) (i := 2) C d_V_damage_47 rfl rfl ?_
          refine g_iload_n (pc := 48) (i := 3) C d_V_damage_48 rfl rfl ?_
          refine g_callV0 (pc := 49) (As := [_, _]) C my_Row_flip mv_Row_flip cl_V_135 (is_Row (by omega)) d_V_damage_49 (Nat.le_of_ble_eq_true rfl) rfl (Nat.le_of_ble_eq_true rfl) ⟨Nat.zero_le _, Nat.zero_le _⟩ (c_Row_flip _ hD (by omega) g.2.1.1 g.2.1.2.1) ?_
          rw [g.2.1.1, if_pos hb, nI_clamp (by omega), g.2.1.2.2 i hi]
          refine g_iconst (pc := 52) C d_V_damage_52 ic_1 ?_
          refine g_zret (pc := 53) C d_V_damage_53 (by first | exact Or.inl rfl | exact Or.inr rfl) ?_
          refine ⟨_, rfl, ?_, ?_⟩
          · unfold oDamage
            rw [if_pos hx, b1_t rfl]
          · unfold oDamage
            rw [if_pos hx, e0, nI_clamp (by omega), nI_clamp (by omega)]
            have hs : Sm (Ci (10 + (1 + 4 * q))) c (wI c (10 + (1 + 4 * q)) i (nI ((V.2 q).dat.getD i 0) ^^^ nI y)) := sm_c1
            refine hC.up hq (fun h => h.sm hs (by unfold Ci; omega) (by unfold Ci; omega)) ⟨?_, g.2.1.flp (by omega) hi, g.2.2.sm hs (fun t ht => by unfold Ci; omega)⟩ (fun k hk hn h => h.gm hs (fun t ht => by unfold Ci; omega)) (hC.2.2.2.gm hs (fun r hr k hk => by unfold Ci; omega))
            rw [hs.1 _ (by unfold Ci; omega)]
            exact g.1
        · have hx : ¬ (barV V (nI q) = 0 ∧ (1 ≤ x ∧ x ≤ 255) ∧ 0 ≤ k ∧ k < nI (V.2 (nI q).toNatClampNeg).dat.length) := fun h => b1_0 h33 (by rw [e0] at h; exact h.2.2)
          refine g_iconst (pc := 36) C d_V_damage_36 ic_0 ?_
          refine g_zret (pc := 37) C d_V_damage_37 (by first | exact Or.inl rfl | exact Or.inr rfl) ?_
          refine ⟨c, rfl, ?_, ?_⟩
          · unfold oDamage
            rw [if_neg hx, b1_f (fun e => by cases e)]
          · unfold oDamage
            rw [if_neg hx]
            exact hC
set_option maxRecDepth 100000 in
set_option maxHeartbeats 4000000 in
theorem c_V_isCharacter (l : Launch) {D : Dt} (hD : OkD D) {n : Nat} {σ : Sg} (hn : n < 256) : Ct l D y_V_isCharacter b_V_isCharacter 1 (some .boolean) 1 [.int (nI n)] σ (some (.int (b1 (chr n)))) σ := by
  refine Ct.of hD (by decide) (Nat.le_of_ble_eq_true rfl) [(0, some (.int (nI n)))] rfl (fun X hX C => ?_)
  subst hX
  refine g_iload_n (pc := 0) (i := 0) C d_V_isCharacter_0 rfl rfl ?_
  refine g_bipush (pc := 1) C d_V_isCharacter_1 bpn_10 ?_
  refine g_icmp_eq (pc := 3) (tgt := 18) C d_V_isCharacter_3 (by decide) (fun h3 => ?_) (fun h3 => ?_)
  · have h1 : chr n := Or.inl ((nI_eq (by omega) (by decide)).mp h3)
    refine g_iconst (pc := 18) C d_V_isCharacter_18 ic_1 ?_
    refine g_goto (pc := 19) (tgt := 23) C d_V_isCharacter_19 (by decide) ?_
    refine g_zret (pc := 23) C d_V_isCharacter_23 (by first | exact Or.inl rfl | exact Or.inr rfl) ?_
    first | exact ⟨by rw [b1_t h1], rfl⟩ | exact ⟨by rw [b1_f h1], rfl⟩
  · have h0 : ¬ n = 10 := fun e => h3 (by rw [e])
    refine g_iload_n (pc := 6) (i := 0) C d_V_isCharacter_6 rfl rfl ?_
    refine g_bipush (pc := 7) C d_V_isCharacter_7 bpn_32 ?_
    refine g_icmp_lt (pc := 9) (tgt := 22) C d_V_isCharacter_9 (by decide) (fun h9 => ?_) (fun h9 => ?_)
    · have h1 : ¬ chr n := fun h => by
        have := (nI_ltI (by omega) (by decide)).mp h9
        omega
      refine g_iconst (pc := 22) C d_V_isCharacter_22 ic_0 ?_
      refine g_zret (pc := 23) C d_V_isCharacter_23 (by first | exact Or.inl rfl | exact Or.inr rfl) ?_
      first | exact ⟨by rw [b1_t h1], rfl⟩ | exact ⟨by rw [b1_f h1], rfl⟩
    · skip
      refine g_iload_n (pc := 12) (i := 0) C d_V_isCharacter_12 rfl rfl ?_
      refine g_bipush (pc := 13) C d_V_isCharacter_13 bpn_126 ?_
      refine g_icmp_gt (pc := 15) (tgt := 22) C d_V_isCharacter_15 (by decide) (fun h15 => ?_) (fun h15 => ?_)
      · have h1 : ¬ chr n := fun h => by
          have := (nI_ltI (by decide) (by omega)).mp h15
          omega
        refine g_iconst (pc := 22) C d_V_isCharacter_22 ic_0 ?_
        refine g_zret (pc := 23) C d_V_isCharacter_23 (by first | exact Or.inl rfl | exact Or.inr rfl) ?_
        first | exact ⟨by rw [b1_t h1], rfl⟩ | exact ⟨by rw [b1_f h1], rfl⟩
      · have h1 : chr n := Or.inr ⟨Nat.not_lt.mp fun h => h9 (nI_lt h (by decide)), Nat.not_lt.mp fun h => h15 (nI_lt h (by omega))⟩
        refine g_iconst (pc := 18) C d_V_isCharacter_18 ic_1 ?_
        refine g_goto (pc := 19) (tgt := 23) C d_V_isCharacter_19 (by decide) ?_
        refine g_zret (pc := 23) C d_V_isCharacter_23 (by first | exact Or.inl rfl | exact Or.inr rfl) ?_
        first | exact ⟨by rw [b1_t h1], rfl⟩ | exact ⟨by rw [b1_f h1], rfl⟩
