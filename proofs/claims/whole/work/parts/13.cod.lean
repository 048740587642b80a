set_option maxRecDepth 100000 in
set_option maxHeartbeats 4000000 in
theorem x_Cod_writeWhole (l : Launch) {D : Dt} (hD : OkD D) {i j : Nat} {c : Cs} {τ : Cs × (Nat → Int64)} {t x : List Nat} (hi : i < 9) (hj : j < 9) (hij : i ≠ j) (ht : RowIs c i t) (hx : RowIs c j x) (hl : t.length + 1 ≤ rln j) : Cp l D y_Cod_writeWhole b_Cod_writeWhole 2 none 3 [.ref (aRow D j), .ref (aRow D i)] ((c, τ) : Sg) (fun r u => ∃ c2, u = ((c2, τ) : Sg) ∧ r = none ∧ RowIs c2 j (117 :: t) ∧ Sm (Rw j) c c2) := by
  have ne := RowIs.ne hij hi hj
  have r1 : RowIs (cutC c j (nI 0)) j [] := hx.cut (by decide)
  have t1 : RowIs (cutC c j (nI 0)) i t := ht.sm sm_cut ne.1 ne.2
  have r2 : RowIs (addC (cutC c j (nI 0)) j ([] : List Nat).length (nI 117)) j [117] := r1.add hj (by simp; omega)
  have t2 : RowIs (addC (cutC c j (nI 0)) j ([] : List Nat).length (nI 117)) i t := t1.sm sm_add ne.1 ne.2
  have r3 : RowIs (adpC (addC (cutC c j (nI 0)) j ([] : List Nat).length (nI 117)) i j 0 t.length [117].length) j (117 :: t) := by
    have h := r2.adp (f := 0) (k := t.length) t2 hj hi (by simp; omega) (by omega)
    simpa using h
  have s3 : Sm (Rw j) c (adpC (addC (cutC c j (nI 0)) j ([] : List Nat).length (nI 117)) i j 0 t.length [117].length) := (sm_cut.tr sm_add).tr sm_adp
  refine Cp.of hD (by decide) (Nat.le_of_ble_eq_true rfl) [(0, some (.ref (aRow D i))), (1, some (.ref (aRow D j)))] rfl (fun X hX C => ?_)
  subst hX
  refine g_aload_n (pc := 0) (i := 1) C d_Cod_writeWhole_0 rfl rfl ?_
  refine g_iconst (pc := 1) C d_Cod_writeWhole_1 icn_0 ?_
  refine g_callV0 (pc := 2) (As := [_]) C my_Row_cut mv_Row_cut cl_Cod_9 (is_Row (by omega)) d_Cod_writeWhole_2 (Nat.le_of_ble_eq_true rfl) rfl (Nat.le_of_ble_eq_true rfl) ⟨Nat.zero_le _, Nat.zero_le _⟩ (c_Row_cut _ hD (by omega)) ?_
  refine g_aload_n (pc := 5) (i := 1) C d_Cod_writeWhole_5 rfl rfl ?_
  refine g_bipush (pc := 6) C d_Cod_writeWhole_6 bpn_117 ?_
  refine g_callV1 (pc := 8) (As := [_]) C my_Row_add mv_Row_add cl_Cod_15 (is_Row (by omega)) d_Cod_writeWhole_8 (Nat.le_of_ble_eq_true rfl) rfl (Nat.le_of_ble_eq_true rfl) ⟨Nat.zero_le _, Nat.zero_le _⟩ (c_add1 _ hD (by omega) r1 (by simp; omega)) ?_
  refine g_pop (pc := 11) C d_Cod_writeWhole_11 rfl ?_
  refine g_aload_n (pc := 12) (i := 1) C d_Cod_writeWhole_12 rfl rfl ?_
  refine g_aload_n (pc := 13) (i := 0) C d_Cod_writeWhole_13 rfl rfl ?_
  refine g_iconst (pc := 14) C d_Cod_writeWhole_14 icn_0 ?_
  refine g_aload_n (pc := 15) (i := 0) C d_Cod_writeWhole_15 rfl rfl ?_
  refine gf_Row_length (pc := 16) C (by omega) fl_Cod_19 d_Cod_writeWhole_16 ?_
  rw [t2.1]
  refine g_callV1 (pc := 19) (As := [_, _, _]) C my_Row_addPart mv_Row_addPart cl_Cod_23 (is_Row (by omega)) d_Cod_writeWhole_19 (Nat.le_of_ble_eq_true rfl) rfl (Nat.le_of_ble_eq_true rfl) ⟨Nat.zero_le _, Nat.zero_le _⟩ (c_adp1 _ hD (by omega) (by omega) r2 t2 (by simp; omega) (by omega)) ?_
  refine g_pop (pc := 22) C d_Cod_writeWhole_22 rfl ?_
  refine g_vret (pc := 23) C d_Cod_writeWhole_23 ?_
  exact ⟨_, rfl, rfl, r3, s3⟩
set_option maxRecDepth 100000 in
set_option maxHeartbeats 4000000 in
theorem x_Cod_writePacked (l : Launch) {D : Dt} (hD : OkD D) {i j : Nat} {c : Cs} {τ : Cs × (Nat → Int64)} {t x : List Nat} (hi : i < 9) (hj : j < 9) (hij : i ≠ j) (ht : RowIs c i t) (hx : RowIs c j x) (hb : By t) (hl : t.length ≤ 60) (hq : rln j = 121) : Cp l D y_Cod_writePacked b_Cod_writePacked 4 none 3 [.ref (aRow D j), .ref (aRow D i)] ((c, τ) : Sg) (fun r u => ∃ c2, u = ((c2, τ) : Sg) ∧ r = none ∧ RowIs c2 j (120 :: pack t) ∧ Sm (Rw j) c c2) := by
  have ne := RowIs.ne hij hi hj
  have r1 : RowIs (cutC c j (nI 0)) j [] := hx.cut (by decide)
  have r2 : RowIs (addC (cutC c j (nI 0)) j ([] : List Nat).length (nI 120)) j [120] := r1.add hj (by simp; omega)
  have t2 : RowIs (addC (cutC c j (nI 0)) j ([] : List Nat).length (nI 120)) i t := ht.sm (sm_cut.tr sm_add) ne.1 ne.2
  have pl := pkr_len t 0
  refine Cp.of hD (by decide) (Nat.le_of_ble_eq_true rfl) [(0, some (.ref (aRow D i))), (1, some (.ref (aRow D j)))] rfl (fun X hX C => ?_)
  subst hX
  have loop : ∀ (m k r : Nat) (out : List Nat) (c1 : Cs), k + m = t.length → RowIs c1 j (120 :: out) → RowIs c1 i t → Sm (Rw j) c c1 → out ++ pk r (t.drop k) = pk 0 t → r ≤ k → G X D (Qp X D (fun r u => ∃ c2, u = ((c2, τ) : Sg) ∧ r = none ∧ RowIs c2 j (120 :: pack t) ∧ Sm (Rw j) c c2)) (0, 0) ((c1, τ) : Sg) 16 [(0, some (.ref (aRow D i))), (1, some (.ref (aRow D j))), (2, some (.int (nI r))), (3, some (.int (nI k)))] [] := by
    intro m
    induction m with
    | zero =>
      intro k r out c1 hk hr ht1 hs he hrk
      rw [List.drop_eq_nil_of_le (by omega)] at he
      have he : out = pk 0 t := by simpa [pk] using he
      refine g_iload_n (pc := 16) (i := 3) C d_Cod_writePacked_16 rfl rfl ?_
      refine g_aload_n (pc := 17) (i := 0) C d_Cod_writePacked_17 rfl rfl ?_
      refine gf_Row_length (pc := 18) C (by omega) fl_Cod_19 d_Cod_writePacked_18 ?_
      rw [ht1.1]
      refine g_icmp_ge (pc := 21) (tgt := 76) C d_Cod_writePacked_21 (by decide) (fun h21 => ?_) (fun h21 => ?_)
      · skip
        refine g_vret (pc := 76) C d_Cod_writePacked_76 ?_
        exact ⟨c1, rfl, rfl, by rw [he] at hr; exact hr, hs⟩
      · first | exact absurd h21 (nI_le (by omega) (by omega)) | exact absurd (nI_le (by omega) (by omega)) h21
    | succ m ih =>
      intro k r out c1 hk hr ht1 hs he hrk
      have hlen : out.length + (pk r (t.drop k)).length = (pk 0 t).length := by rw [← he, List.length_append]
      have hv := hb.get k
      have hw := hb.get (k + 1)
      refine g_iload_n (pc := 16) (i := 3) C d_Cod_writePacked_16 rfl rfl ?_
      refine g_aload_n (pc := 17) (i := 0) C d_Cod_writePacked_17 rfl rfl ?_
      refine gf_Row_length (pc := 18) C (by omega) fl_Cod_19 d_Cod_writePacked_18 ?_
      rw [ht1.1]
      refine g_icmp_ge (pc := 21) (tgt := 76) C d_Cod_writePacked_21 (by decide) (fun h21 => ?_) (fun h21 => ?_)
      · first | exact absurd h21 (nI_ge (show k < t.length by omega) (by omega)) | exact absurd (nI_ge (show k < t.length by omega) (by omega)) h21
      · skip
        refine g_iinc (pc := 24) C d_Cod_writePacked_24 rfl (v := nI (r + 1)) (nI_inc r) rfl ?_
        refine g_iload_n (pc := 27) (i := 3) C d_Cod_writePacked_27 rfl rfl ?_
        refine g_iconst (pc := 28) C d_Cod_writePacked_28 icn_1 ?_
        refine g_iadd (pc := 29) C d_Cod_writePacked_29 ?_
        rw [nI_add]
        refine g_aload_n (pc := 30) (i := 0) C d_Cod_writePacked_30 rfl rfl ?_
        refine gf_Row_length (pc := 31) C (by omega) fl_Cod_19 d_Cod_writePacked_31 ?_
        rw [ht1.1]
        refine g_icmp_eq (pc := 34) (tgt := 52) C d_Cod_writePacked_34 (by decide) (fun h34 => ?_) (fun h34 => ?_)
        · have hE := pkr_last (r := r) (show k + 1 = t.length from (nI_eq (by omega) (by omega)).mp h34)
          have hlen2 : out.length + 2 ≤ 120 := by rw [hE] at hlen; simp only [List.length_cons] at hlen; omega
          have r3 : RowIs (addC c1 j (120 :: out).length (nI (r + 1))) j ((120 :: out) ++ [r + 1]) := hr.add hj (by simp only [List.length_cons]; omega)
          have t3 : RowIs (addC c1 j (120 :: out).length (nI (r + 1))) i t := ht1.sm sm_add ne.1 ne.2
          have r4 : RowIs (addC (addC c1 j (120 :: out).length (nI (r + 1))) j ((120 :: out) ++ [r + 1]).length (nI (t.getD k 0))) j (120 :: (out ++ [r + 1, t.getD k 0])) := by
            have h := r3.add (v := t.getD k 0) hj (by simp only [List.length_cons, List.length_append, List.length_nil]; omega)
            simpa using h
          refine g_aload_n (pc := 52) (i := 1) C d_Cod_writePacked_52 rfl rfl ?_
          refine g_iload_n (pc := 53) (i := 2) C d_Cod_writePacked_53 rfl rfl ?_
          refine g_callV1 (pc := 54) (As := [_]) C my_Row_add mv_Row_add cl_Cod_15 (is_Row (by omega)) d_Cod_writePacked_54 (Nat.le_of_ble_eq_true rfl) rfl (Nat.le_of_ble_eq_true rfl) ⟨Nat.zero_le _, Nat.zero_le _⟩ (c_add1 _ hD (by omega) hr (by simp only [List.length_cons]; omega)) ?_
          refine g_pop (pc := 57) C d_Cod_writePacked_57 rfl ?_
          refine g_aload_n (pc := 58) (i := 1) C d_Cod_writePacked_58 rfl rfl ?_
          refine g_aload_n (pc := 59) (i := 0) C d_Cod_writePacked_59 rfl rfl ?_
          refine g_iload_n (pc := 60) (i := 3) C d_Cod_writePacked_60 rfl rfl ?_
          refine g_callV1 (pc := 61) (As := [_]) C my_Row_at mv_Row_at cl_Cod_27 (is_Row (by omega)) d_Cod_writePacked_61 (Nat.le_of_ble_eq_true rfl) rfl (Nat.le_of_ble_eq_true rfl) ⟨Nat.zero_le _, Nat.zero_le _⟩ (c_at1 _ hD (by omega) t3 (by omega)) ?_
          refine g_callV1 (pc := 64) (As := [_]) C my_Row_add mv_Row_add cl_Cod_15 (is_Row (by omega)) d_Cod_writePacked_64 (Nat.le_of_ble_eq_true rfl) rfl (Nat.le_of_ble_eq_true rfl) ⟨Nat.zero_le _, Nat.zero_le _⟩ (c_add1 _ hD (by omega) r3 (by simp only [List.length_cons, List.length_append, List.length_nil]; omega)) ?_
          refine g_pop (pc := 67) C d_Cod_writePacked_67 rfl ?_
          refine g_iconst (pc := 68) C d_Cod_writePacked_68 icn_0 ?_
          refine g_istore_n (pc := 69) (i := 2) C d_Cod_writePacked_69 rfl (by decide) rfl ?_
          refine g_iinc (pc := 70) C d_Cod_writePacked_70 rfl (v := nI (k + 1)) (nI_inc k) rfl ?_
          refine g_goto (pc := 73) (tgt := 16) C d_Cod_writePacked_73 (by decide) ?_
          first
            | exact G.lf (ih (k + 1) 0 (out ++ [r + 1, t.getD k 0]) _ (by omega) r4 (t3.sm sm_add ne.1 ne.2) ((hs.tr sm_add).tr sm_add) (by rw [hE] at he; simpa using he) (by omega)) (sb rfl (sb rfl (sb rfl (sb rfl sn))))
            | exact G.lf (ih (k + 1) (r + 1) out _ (by omega) hr ht1 hs (by rw [hE] at he; exact he) (by omega)) (sb rfl (sb rfl (sb rfl (sb rfl sn))))
        · have hk1 : k + 1 < t.length := by
            have : k + 1 ≠ t.length := fun e => h34 (by rw [e])
            omega
          refine g_aload_n (pc := 37) (i := 0) C d_Cod_writePacked_37 rfl rfl ?_
          refine g_iload_n (pc := 38) (i := 3) C d_Cod_writePacked_38 rfl rfl ?_
          refine g_iconst (pc := 39) C d_Cod_writePacked_39 icn_1 ?_
          refine g_iadd (pc := 40) C d_Cod_writePacked_40 ?_
          rw [nI_add]
          refine g_callV1 (pc := 41) (As := [_]) C my_Row_at mv_Row_at cl_Cod_27 (is_Row (by omega)) d_Cod_writePacked_41 (Nat.le_of_ble_eq_true rfl) rfl (Nat.le_of_ble_eq_true rfl) ⟨Nat.zero_le _, Nat.zero_le _⟩ (c_at1 _ hD (by omega) ht1 (by omega)) ?_
          refine g_aload_n (pc := 44) (i := 0) C d_Cod_writePacked_44 rfl rfl ?_
          refine g_iload_n (pc := 45) (i := 3) C d_Cod_writePacked_45 rfl rfl ?_
          refine g_callV1 (pc := 46) (As := [_]) C my_Row_at mv_Row_at cl_Cod_27 (is_Row (by omega)) d_Cod_writePacked_46 (Nat.le_of_ble_eq_true rfl) rfl (Nat.le_of_ble_eq_true rfl) ⟨Nat.zero_le _, Nat.zero_le _⟩ (c_at1 _ hD (by omega) ht1 (by omega)) ?_
          refine g_icmp_eq (pc := 49) (tgt := 70) C d_Cod_writePacked_49 (by decide) (fun h49 => ?_) (fun h49 => ?_)
          · have hE := pkr_eq (r := r) hk1 ((nI_eq (by omega) (by omega)).mp h49)
            refine g_iinc (pc := 70) C d_Cod_writePacked_70 rfl (v := nI (k + 1)) (nI_inc k) rfl ?_
            refine g_goto (pc := 73) (tgt := 16) C d_Cod_writePacked_73 (by decide) ?_
            first
              | exact G.lf (ih (k + 1) 0 (out ++ [r + 1, t.getD k 0]) _ (by omega) r4 (t3.sm sm_add ne.1 ne.2) ((hs.tr sm_add).tr sm_add) (by rw [hE] at he; simpa using he) (by omega)) (sb rfl (sb rfl (sb rfl (sb rfl sn))))
              | exact G.lf (ih (k + 1) (r + 1) out _ (by omega) hr ht1 hs (by rw [hE] at he; exact he) (by omega)) (sb rfl (sb rfl (sb rfl (sb rfl sn))))
          · have hE := pkr_ne (r := r) hk1 (fun e => h49 (by rw [e]))
            have hlen2 : out.length + 2 ≤ 120 := by rw [hE] at hlen; simp only [List.length_cons] at hlen; omega
            have r3 : RowIs (addC c1 j (120 :: out).length (nI (r + 1))) j ((120 :: out) ++ [r + 1]) := hr.add hj (by simp only [List.length_cons]; omega)
            have t3 : RowIs (addC c1 j (120 :: out).length (nI (r + 1))) i t := ht1.sm sm_add ne.1 ne.2
            have r4 : RowIs (addC (addC c1 j (120 :: out).length (nI (r + 1))) j ((120 :: out) ++ [r + 1]).length (nI (t.getD k 0))) j (120 :: (out ++ [r + 1, t.getD k 0])) := by
              have h := r3.add (v := t.getD k 0) hj (by simp only [List.length_cons, List.length_append, List.length_nil]; omega)
              simpa using h
            refine g_aload_n (pc := 52) (i := 1) C d_Cod_writePacked_52 rfl rfl ?_
            refine g_iload_n (pc := 53) (i := 2) C d_Cod_writePacked_53 rfl rfl ?_
            refine g_callV1 (pc := 54) (As := [_]) C my_Row_add mv_Row_add cl_Cod_15 (is_Row (by omega)) d_Cod_writePacked_54 (Nat.le_of_ble_eq_true rfl) rfl (Nat.le_of_ble_eq_true rfl) ⟨Nat.zero_le _, Nat.zero_le _⟩ (c_add1 _ hD (by omega) hr (by simp only [List.length_cons]; omega)) ?_
            refine g_pop (pc := 57) C d_Cod_writePacked_57 rfl ?_
            refine g_aload_n (pc := 58) (i := 1) C d_Cod_writePacked_58 rfl rfl ?_
            refine g_aload_n (pc := 59) (i := 0) C d_Cod_writePacked_59 rfl rfl ?_
            refine g_iload_n (pc := 60) (i := 3) C d_Cod_writePacked_60 rfl rfl ?_
            refine g_callV1 (pc := 61) (As := [_]) C my_Row_at mv_Row_at cl_Cod_27 (is_Row (by omega)) d_Cod_writePacked_61 (Nat.le_of_ble_eq_true rfl) rfl (Nat.le_of_ble_eq_true rfl) ⟨Nat.zero_le _, Nat.zero_le _⟩ (c_at1 _ hD (by omega) t3 (by omega)) ?_
            refine g_callV1 (pc := 64) (As := [_]) C my_Row_add mv_Row_add cl_Cod_15 (is_Row (by omega)) d_Cod_writePacked_64 (Nat.le_of_ble_eq_true rfl) rfl (Nat.le_of_ble_eq_true rfl) ⟨Nat.zero_le _, Nat.zero_le _⟩ (c_add1 _ hD (by omega) r3 (by simp only [List.length_cons, List.length_append, List.length_nil]; omega)) ?_
            refine g_pop (pc := 67) C d_Cod_writePacked_67 rfl ?_
            refine g_iconst (pc := 68) C d_Cod_writePacked_68 icn_0 ?_
            refine g_istore_n (pc := 69) (i := 2) C d_Cod_writePacked_69 rfl (by decide) rfl ?_
            refine g_iinc (pc := 70) C d_Cod_writePacked_70 rfl (v := nI (k + 1)) (nI_inc k) rfl ?_
            refine g_goto (pc := 73) (tgt := 16) C d_Cod_writePacked_73 (by decide) ?_
            first
              | exact G.lf (ih (k + 1) 0 (out ++ [r + 1, t.getD k 0]) _ (by omega) r4 (t3.sm sm_add ne.1 ne.2) ((hs.tr sm_add).tr sm_add) (by rw [hE] at he; simpa using he) (by omega)) (sb rfl (sb rfl (sb rfl (sb rfl sn))))
              | exact G.lf (ih (k + 1) (r + 1) out _ (by omega) hr ht1 hs (by rw [hE] at he; exact he) (by omega)) (sb rfl (sb rfl (sb rfl (sb rfl sn))))
  refine g_aload_n (pc := 0) (i := 1) C d_Cod_writePacked_0 rfl rfl ?_
  refine g_iconst (pc := 1) C d_Cod_writePacked_1 icn_0 ?_
  refine g_callV0 (pc := 2) (As := [_]) C my_Row_cut mv_Row_cut cl_Cod_9 (is_Row (by omega)) d_Cod_writePacked_2 (Nat.le_of_ble_eq_true rfl) rfl (Nat.le_of_ble_eq_true rfl) ⟨Nat.zero_le _, Nat.zero_le _⟩ (c_Row_cut _ hD (by omega)) ?_
  refine g_aload_n (pc := 5) (i := 1) C d_Cod_writePacked_5 rfl rfl ?_
  refine g_bipush (pc := 6) C d_Cod_writePacked_6 bpn_120 ?_
  refine g_callV1 (pc := 8) (As := [_]) C my_Row_add mv_Row_add cl_Cod_15 (is_Row (by omega)) d_Cod_writePacked_8 (Nat.le_of_ble_eq_true rfl) rfl (Nat.le_of_ble_eq_true rfl) ⟨Nat.zero_le _, Nat.zero_le _⟩ (c_add1 _ hD (by omega) r1 (by simp; omega)) ?_
  refine g_pop (pc := 11) C d_Cod_writePacked_11 rfl ?_
  refine g_iconst (pc := 12) C d_Cod_writePacked_12 icn_0 ?_
  refine g_istore_n (pc := 13) (i := 2) C d_Cod_writePacked_13 rfl (by decide) rfl ?_
  refine g_iconst (pc := 14) C d_Cod_writePacked_14 icn_0 ?_
  refine g_istore_n (pc := 15) (i := 3) C d_Cod_writePacked_15 rfl (by decide) rfl ?_
  exact G.lf (loop t.length 0 0 [] _ (by omega) r2 t2 (sm_cut.tr sm_add) (by simp) (Nat.le_refl _)) (sb rfl (sb rfl (sb rfl (sb rfl sn))))
set_option maxRecDepth 100000 in
set_option maxHeartbeats 4000000 in
theorem c_Cod_commonBeginning (l : Launch) {D : Dt} (hD : OkD D) {i j : Nat} {c : Cs} {τ : Cs × (Nat → Int64)} {a b : List Nat} (hi : i < 9) (hj : j < 9) (ha : RowIs c i a) (hb : RowIs c j b) (ya : By a) (yb : By b) : Ct l D y_Cod_commonBeginning b_Cod_commonBeginning 4 (some .int) 3 [.ref (aRow D j), .ref (aRow D i)] ((c, τ) : Sg) (some (.int (nI (cpre a b)))) ((c, τ) : Sg) := by
  have q1 := rln_le i
  have q2 := rln_le j
  have q3 := ha.2.1
  have q4 := hb.2.1
  refine Ct.of hD (by decide) (Nat.le_of_ble_eq_true rfl) [(0, some (.ref (aRow D i))), (1, some (.ref (aRow D j)))] rfl (fun X hX C => ?_)
  subst hX
  have loop : ∀ (m k : Nat), k + m = min a.length b.length → cpre a b = k + cpre (a.drop k) (b.drop k) → G X D (Qp X D (fun r2 u => r2 = some (.int (nI (cpre a b))) ∧ u = ((c, τ) : Sg))) (0, 0) ((c, τ) : Sg) 14 [(0, some (.ref (aRow D i))), (1, some (.ref (aRow D j))), (2, some (.int (nI (min a.length b.length)))), (3, some (.int (nI k)))] [] := by
    intro m
    induction m with
    | zero =>
      intro k hk he
      rw [cpre_0 (by omega)] at he
      refine g_iload_n (pc := 14) (i := 3) C d_Cod_commonBeginning_14 rfl rfl ?_
      refine g_iload_n (pc := 15) (i := 2) C d_Cod_commonBeginning_15 rfl rfl ?_
      refine g_icmp_ge (pc := 16) (tgt := 38) C d_Cod_commonBeginning_16 (by decide) (fun h16 => ?_) (fun h16 => ?_)
      · skip
        refine g_iload_n (pc := 38) (i := 3) C d_Cod_commonBeginning_38 rfl rfl ?_
        refine g_iret (pc := 39) C d_Cod_commonBeginning_39 ?_
        exact ⟨by rw [he]; rfl, rfl⟩
      · first | exact absurd h16 (nI_le (by omega) (by omega)) | exact absurd (nI_le (by omega) (by omega)) h16
    | succ m ih =>
      intro k hk he
      have hv := ya.get k
      have hw := yb.get k
      refine g_iload_n (pc := 14) (i := 3) C d_Cod_commonBeginning_14 rfl rfl ?_
      refine g_iload_n (pc := 15) (i := 2) C d_Cod_commonBeginning_15 rfl rfl ?_
      refine g_icmp_ge (pc := 16) (tgt := 38) C d_Cod_commonBeginning_16 (by decide) (fun h16 => ?_) (fun h16 => ?_)
      · first | exact absurd h16 (nI_ge (show k < min a.length b.length by omega) (by omega)) | exact absurd (nI_ge (show k < min a.length b.length by omega) (by omega)) h16
      · skip
        refine g_aload_n (pc := 19) (i := 0) C d_Cod_commonBeginning_19 rfl rfl ?_
        refine g_iload_n (pc := 20) (i := 3) C d_Cod_commonBeginning_20 rfl rfl ?_
        refine g_callV1 (pc := 21) (As := [_]) C my_Row_at mv_Row_at cl_Cod_27 (is_Row (by omega)) d_Cod_commonBeginning_21 (Nat.le_of_ble_eq_true rfl) rfl (Nat.le_of_ble_eq_true rfl) ⟨Nat.zero_le _, Nat.zero_le _⟩ (c_at1 _ hD (by omega) ha (by omega)) ?_
        refine g_aload_n (pc := 24) (i := 1) C d_Cod_commonBeginning_24 rfl rfl ?_
        refine g_iload_n (pc := 25) (i := 3) C d_Cod_commonBeginning_25 rfl rfl ?_
        refine g_callV1 (pc := 26) (As := [_]) C my_Row_at mv_Row_at cl_Cod_27 (is_Row (by omega)) d_Cod_commonBeginning_26 (Nat.le_of_ble_eq_true rfl) rfl (Nat.le_of_ble_eq_true rfl) ⟨Nat.zero_le _, Nat.zero_le _⟩ (c_at1 _ hD (by omega) hb (by omega)) ?_
        refine g_icmp_ne (pc := 29) (tgt := 38) C d_Cod_commonBeginning_29 (by decide) (fun h29 => ?_) (fun h29 => ?_)
        · rw [cpre_n (by omega) (by omega) (fun e => h29 (by rw [e]))] at he
          refine g_iload_n (pc := 38) (i := 3) C d_Cod_commonBeginning_38 rfl rfl ?_
          refine g_iret (pc := 39) C d_Cod_commonBeginning_39 ?_
          exact ⟨by rw [he]; rfl, rfl⟩
        · rw [cpre_e (by omega) (by omega) ((nI_eq (by omega) (by omega)).mp h29)] at he
          refine g_iinc (pc := 32) C d_Cod_commonBeginning_32 rfl (v := nI (k + 1)) (nI_inc k) rfl ?_
          refine g_goto (pc := 35) (tgt := 14) C d_Cod_commonBeginning_35 (by decide) ?_
          exact G.lf (ih (k + 1) (by omega) (by omega)) (sb rfl (sb rfl (sb rfl (sb rfl sn))))
  refine g_aload_n (pc := 0) (i := 0) C d_Cod_commonBeginning_0 rfl rfl ?_
  refine gf_Row_length (pc := 1) C (by omega) fl_Cod_19 d_Cod_commonBeginning_1 ?_
  rw [ha.1]
  refine g_aload_n (pc := 4) (i := 1) C d_Cod_commonBeginning_4 rfl rfl ?_
  refine gf_Row_length (pc := 5) C (by omega) fl_Cod_19 d_Cod_commonBeginning_5 ?_
  rw [hb.1]
  refine g_mmin (pc := 8) C jl_Cod_41 d_Cod_commonBeginning_8 (by decide) (Nat.le_of_ble_eq_true rfl) ⟨Nat.zero_le _, Nat.zero_le _⟩ ?_
  rw [nI_min (by omega) (by omega)]
  refine g_istore_n (pc := 11) (i := 2) C d_Cod_commonBeginning_11 rfl (by decide) rfl ?_
  refine g_iconst (pc := 12) C d_Cod_commonBeginning_12 icn_0 ?_
  refine g_istore_n (pc := 13) (i := 3) C d_Cod_commonBeginning_13 rfl (by decide) rfl ?_
  exact G.lf (loop (min a.length b.length) 0 (by omega) (by simp)) (sb rfl (sb rfl (sb rfl (sb rfl sn))))
set_option maxRecDepth 100000 in
set_option maxHeartbeats 4000000 in
theorem c_Cod_commonEnd (l : Launch) {D : Dt} (hD : OkD D) {i j : Nat} {c : Cs} {τ : Cs × (Nat → Int64)} {a b : List Nat} {p : Nat} (hi : i < 9) (hj : j < 9) (ha : RowIs c i a) (hb : RowIs c j b) (ya : By a) (yb : By b) (hp : p ≤ a.length) (hp2 : p ≤ b.length) : Ct l D y_Cod_commonEnd b_Cod_commonEnd 5 (some .int) 3 [.int (nI p), .ref (aRow D j), .ref (aRow D i)] ((c, τ) : Sg) (some (.int (nI (cpre (a.drop p).reverse (b.drop p).reverse)))) ((c, τ) : Sg) := by
  have q1 := rln_le i
  have q2 := rln_le j
  have q3 := ha.2.1
  have q4 := hb.2.1
  have ra : (a.drop p).reverse.length = a.length - p := by rw [List.length_reverse, List.length_drop]
  have rb : (b.drop p).reverse.length = b.length - p := by rw [List.length_reverse, List.length_drop]
  generalize hA : (a.drop p).reverse = A at ra ⊢
  generalize hB : (b.drop p).reverse = B at rb ⊢
  refine Ct.of hD (by decide) (Nat.le_of_ble_eq_true rfl) [(0, some (.ref (aRow D i))), (1, some (.ref (aRow D j))), (2, some (.int (nI p)))] rfl (fun X hX C => ?_)
  subst hX
  have loop : ∀ (m k : Nat), k + m = min a.length b.length - p → cpre A B = k + cpre (A.drop k) (B.drop k) → G X D (Qp X D (fun r2 u => r2 = some (.int (nI (cpre A B))) ∧ u = ((c, τ) : Sg))) (0, 0) ((c, τ) : Sg) 17 [(0, some (.ref (aRow D i))), (1, some (.ref (aRow D j))), (3, some (.int (nI (min a.length b.length - p)))), (4, some (.int (nI k)))] [] := by
    intro m
    induction m with
    | zero =>
      intro k hk he
      rw [cpre_0 (by omega)] at he
      refine g_iload (pc := 17) C d_Cod_commonEnd_17 rfl ?_
      refine g_iload_n (pc := 19) (i := 3) C d_Cod_commonEnd_19 rfl rfl ?_
      refine g_icmp_ge (pc := 20) (tgt := 58) C d_Cod_commonEnd_20 (by decide) (fun h20 => ?_) (fun h20 => ?_)
      · skip
        refine g_iload (pc := 58) C d_Cod_commonEnd_58 rfl ?_
        refine g_iret (pc := 60) C d_Cod_commonEnd_60 ?_
        exact ⟨by rw [he]; rfl, rfl⟩
      · first | exact absurd h20 (nI_le (by omega) (by omega)) | exact absurd (nI_le (by omega) (by omega)) h20
    | succ m ih =>
      intro k hk he
      have hv := ya.get (a.length - 1 - k)
      have hw := yb.get (b.length - 1 - k)
      have ea : A.getD k 0 = a.getD (a.length - 1 - k) 0 := by rw [← hA]; exact rev_get (by omega)
      have eb : B.getD k 0 = b.getD (b.length - 1 - k) 0 := by rw [← hB]; exact rev_get (by omega)
      refine g_iload (pc := 17) C d_Cod_commonEnd_17 rfl ?_
      refine g_iload_n (pc := 19) (i := 3) C d_Cod_commonEnd_19 rfl rfl ?_
      refine g_icmp_ge (pc := 20) (tgt := 58) C d_Cod_commonEnd_20 (by decide) (fun h20 => ?_) (fun h20 => ?_)
      · first | exact absurd h20 (nI_ge (show k < min a.length b.length - p by omega) (by omega)) | exact absurd (nI_ge (show k < min a.length b.length - p by omega) (by omega)) h20
      · skip
        refine g_aload_n (pc := 23) (i := 0) C d_Cod_commonEnd_23 rfl rfl ?_
        refine g_aload_n (pc := 24) (i := 0) C d_Cod_commonEnd_24 rfl rfl ?_
        refine gf_Row_length (pc := 25) C (by omega) fl_Cod_19 d_Cod_commonEnd_25 ?_
        rw [ha.1]
        refine g_iconst (pc := 28) C d_Cod_commonEnd_28 icn_1 ?_
        refine g_isub (pc := 29) C d_Cod_commonEnd_29 ?_
        rw [pk_sub (by omega)]
        refine g_iload (pc := 30) C d_Cod_commonEnd_30 rfl ?_
        refine g_isub (pc := 32) C d_Cod_commonEnd_32 ?_
        rw [pk_sub (by omega)]
        refine g_callV1 (pc := 33) (As := [_]) C my_Row_at mv_Row_at cl_Cod_27 (is_Row (by omega)) d_Cod_commonEnd_33 (Nat.le_of_ble_eq_true rfl) rfl (Nat.le_of_ble_eq_true rfl) ⟨Nat.zero_le _, Nat.zero_le _⟩ (c_at1 _ hD (by omega) ha (by omega)) ?_
        refine g_aload_n (pc := 36) (i := 1) C d_Cod_commonEnd_36 rfl rfl ?_
        refine g_aload_n (pc := 37) (i := 1) C d_Cod_commonEnd_37 rfl rfl ?_
        refine gf_Row_length (pc := 38) C (by omega) fl_Cod_19 d_Cod_commonEnd_38 ?_
        rw [hb.1]
        refine g_iconst (pc := 41) C d_Cod_commonEnd_41 icn_1 ?_
        refine g_isub (pc := 42) C d_Cod_commonEnd_42 ?_
        rw [pk_sub (by omega)]
        refine g_iload (pc := 43) C d_Cod_commonEnd_43 rfl ?_
        refine g_isub (pc := 45) C d_Cod_commonEnd_45 ?_
        rw [pk_sub (by omega)]
        refine g_callV1 (pc := 46) (As := [_]) C my_Row_at mv_Row_at cl_Cod_27 (is_Row (by omega)) d_Cod_commonEnd_46 (Nat.le_of_ble_eq_true rfl) rfl (Nat.le_of_ble_eq_true rfl) ⟨Nat.zero_le _, Nat.zero_le _⟩ (c_at1 _ hD (by omega) hb (by omega)) ?_
        refine g_icmp_ne (pc := 49) (tgt := 58) C d_Cod_commonEnd_49 (by decide) (fun h49 => ?_) (fun h49 => ?_)
        · rw [cpre_n (by omega) (by omega) (fun e => h49 (by rw [← ea, ← eb, e]))] at he
          refine g_iload (pc := 58) C d_Cod_commonEnd_58 rfl ?_
          refine g_iret (pc := 60) C d_Cod_commonEnd_60 ?_
          exact ⟨by rw [he]; rfl, rfl⟩
        · rw [cpre_e (by omega) (by omega) (by rw [ea, eb]; exact (nI_eq (by omega) (by omega)).mp h49)] at he
          refine g_iinc (pc := 52) C d_Cod_commonEnd_52 rfl (v := nI (k + 1)) (nI_inc k) rfl ?_
          refine g_goto (pc := 55) (tgt := 17) C d_Cod_commonEnd_55 (by decide) ?_
          exact G.lf (ih (k + 1) (by omega) (by omega)) (sb rfl (sb rfl (sb rfl (sb rfl sn))))
  refine g_aload_n (pc := 0) (i := 0) C d_Cod_commonEnd_0 rfl rfl ?_
  refine gf_Row_length (pc := 1) C (by omega) fl_Cod_19 d_Cod_commonEnd_1 ?_
  rw [ha.1]
  refine g_aload_n (pc := 4) (i := 1) C d_Cod_commonEnd_4 rfl rfl ?_
  refine gf_Row_length (pc := 5) C (by omega) fl_Cod_19 d_Cod_commonEnd_5 ?_
  rw [hb.1]
  refine g_mmin (pc := 8) C jl_Cod_41 d_Cod_commonEnd_8 (by decide) (Nat.le_of_ble_eq_true rfl) ⟨Nat.zero_le _, Nat.zero_le _⟩ ?_
  rw [nI_min (by omega) (by omega)]
  refine g_iload_n (pc := 11) (i := 2) C d_Cod_commonEnd_11 rfl rfl ?_
  refine g_isub (pc := 12) C d_Cod_commonEnd_12 ?_
  rw [pk_sub (by omega)]
  refine g_istore_n (pc := 13) (i := 3) C d_Cod_commonEnd_13 rfl (by decide) rfl ?_
  refine g_iconst (pc := 14) C d_Cod_commonEnd_14 icn_0 ?_
  refine g_istore (pc := 15) C d_Cod_commonEnd_15 (by decide) rfl ?_
  exact G.lf (loop (min a.length b.length - p) 0 (by omega) (by simp)) (sb rfl (sb rfl (sb rfl (sb rfl sn))))
