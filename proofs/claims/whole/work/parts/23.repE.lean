def cw (d : List Nat) (rs : List Rc) : Nat → Nat
  | 0 => 0
  | n + 1 => cw d rs n + (if built d rs n = none then 1 else 0)
theorem cw_le (d : List Nat) (rs : List Rc) : ∀ n, cw d rs n ≤ n
  | 0 => Nat.le_refl _
  | n + 1 => by
    have := cw_le d rs n
    unfold cw
    split <;> omega
set_option maxRecDepth 100000 in
set_option maxHeartbeats 4000000 in
theorem x_Rep_countWrong (l : Launch) {D : Dt} (hD : OkD D) {r : Nat} {c : Cs} {τ : Cs × (Nat → Int64)} {rs : List Rc} {d y : List Nat} (hr : r < 2) (hct : c.1 (20 + r) 0 = nI rs.length) (hx : RcX c r rs) (hd : RowIs c (1 + 4 * r) d) (yd : By d) (hw : ∀ n x, rs[n]? = some x → WfX d.length rs n x) (hb : RowIs c (2 + 4 * r) y) : Cp l D y_Rep_countWrong b_Rep_countWrong 3 (some .int) 6 [.ref (aRep D r)] ((c, τ) : Sg) (fun a u => ∃ c2, u = ((c2, τ) : Sg) ∧ a = some (.int (nI (cw d rs rs.length))) ∧ Sm (Bp r) c c2 ∧ ∃ y, RowIs c2 (2 + 4 * r) y) := by
  have h24 := hx.1
  have nb : ∀ {c1 : Cs}, Sm (Bp r) c c1 → RowIs c1 (1 + 4 * r) d ∧ RcX c1 r rs ∧ c1.1 (20 + r) 0 = nI rs.length := fun {c1} hs => ⟨hd.sm hs (by unfold Bp Rw; omega) (by unfold Bp Rw; omega), hx.sm hs (fun t ht => by unfold Bp Rw; omega), by rw [hs.1 _ (by unfold Bp Rw; omega)]; exact hct⟩
  refine Cp.of hD (by decide) (Nat.le_of_ble_eq_true rfl) [(0, some (.ref (aRep D r)))] rfl (fun X hX C => ?_)
  subst hX
  have loop : ∀ (m n : Nat) (c1 : Cs), n + m = rs.length → Sm (Bp r) c c1 → (∃ y, RowIs c1 (2 + 4 * r) y) → G X D (Qp X D (fun a u => ∃ c2, u = ((c2, τ) : Sg) ∧ a = some (.int (nI (cw d rs rs.length))) ∧ Sm (Bp r) c c2 ∧ ∃ y, RowIs c2 (2 + 4 * r) y)) (0, 0) ((c1, τ) : Sg) 4 [(0, some (.ref (aRep D r))), (1, some (.int (nI (cw d rs n)))), (2, some (.int (nI n)))] [] := by
    intro m
    induction m with
    | zero =>
      intro n c1 hn hs hy
      obtain ⟨hd1, hx1, hc1⟩ := nb hs
      have hnn : n = rs.length := by omega
      subst hnn
      refine g_iload_n (pc := 4) (i := 2) C d_Rep_countWrong_4 rfl rfl ?_
      refine g_aload_n (pc := 5) (i := 0) C d_Rep_countWrong_5 rfl rfl ?_
      refine gf_Rep_recordCount (pc := 6) C (by omega) fl_Rep_27 d_Rep_countWrong_6 ?_
      rw [hc1]
      refine g_icmp_ge (pc := 9) (tgt := 29) C d_Rep_countWrong_9 (by decide) (fun h9 => ?_) (fun h9 => ?_)
      · skip
        refine g_iload_n (pc := 29) (i := 1) C d_Rep_countWrong_29 rfl rfl ?_
        refine g_iret (pc := 30) C d_Rep_countWrong_30 ?_
        exact ⟨c1, rfl, rfl, hs, hy⟩
      · first | exact absurd h9 (nI_le (Nat.le_refl _) (by omega)) | exact absurd (nI_le (Nat.le_refl _) (by omega)) h9
    | succ m ih =>
      intro n c1 hn hs hy
      obtain ⟨hd1, hx1, hc1⟩ := nb hs
      obtain ⟨y1, hy1⟩ := hy
      refine g_iload_n (pc := 4) (i := 2) C d_Rep_countWrong_4 rfl rfl ?_
      refine g_aload_n (pc := 5) (i := 0) C d_Rep_countWrong_5 rfl rfl ?_
      refine gf_Rep_recordCount (pc := 6) C (by omega) fl_Rep_27 d_Rep_countWrong_6 ?_
      rw [hc1]
      refine g_icmp_ge (pc := 9) (tgt := 29) C d_Rep_countWrong_9 (by decide) (fun h9 => ?_) (fun h9 => ?_)
      · first | exact absurd h9 (nI_ge (show n < rs.length by omega) (by omega)) | exact absurd (nI_ge (show n < rs.length by omega) (by omega)) h9
      · skip
        refine g_aload_n (pc := 12) (i := 0) C d_Rep_countWrong_12 rfl rfl ?_
        refine g_iload_n (pc := 13) (i := 2) C d_Rep_countWrong_13 rfl rfl ?_
        refine g_callVp (pc := 14) (As := [_]) C my_Rep_build mv_Rep_build cl_Rep_92 (is_Rep (by omega)) d_Rep_countWrong_14 (Nat.le_of_ble_eq_true rfl) rfl (Nat.le_of_ble_eq_true rfl) ⟨Nat.zero_le _, Nat.zero_le _⟩ (x_Rep_build _ hD (by omega) hx1 hd1 yd hw (show n < rs.length by omega) hy1) (fun r14 u14 hp14 => ?_)
        obtain ⟨c2, rfl, s2, hp2⟩ := hp14
        rcases hp2 with ⟨t, e1, rfl, r2⟩ | ⟨e1, rfl, y2⟩
        · have ecw : cw d rs (n + 1) = cw d rs n := by
            conv => lhs; unfold cw
            rw [e1]
            simp
          refine g_if_ne (pc := 17) (tgt := 23) C d_Rep_countWrong_17 (by decide) (fun h17 => ?_) (fun h17 => ?_)
          · refine g_iinc (pc := 23) C d_Rep_countWrong_23 rfl (v := nI (n + 1)) (nI_inc n) rfl ?_
            refine g_goto (pc := 26) (tgt := 4) C d_Rep_countWrong_26 (by decide) ?_
            exact G.lf (ih (n + 1) c2 (by omega) (hs.tr s2) ⟨t, r2⟩) (sb rfl (sb (by rw [ecw]; rfl) (sb rfl sn)))
          · exact absurd h17 (by decide)
        · have ecw : cw d rs (n + 1) = cw d rs n + 1 := by
            conv => lhs; unfold cw
            rw [e1]
            simp
          refine g_if_ne (pc := 17) (tgt := 23) C d_Rep_countWrong_17 (by decide) (fun h17 => ?_) (fun h17 => ?_)
          · exact absurd rfl h17
          · refine g_iinc (pc := 20) C d_Rep_countWrong_20 rfl (v := nI (cw d rs n + 1)) (nI_inc _) rfl ?_
            refine g_iinc (pc := 23) C d_Rep_countWrong_23 rfl (v := nI (n + 1)) (nI_inc n) rfl ?_
            refine g_goto (pc := 26) (tgt := 4) C d_Rep_countWrong_26 (by decide) ?_
            exact G.lf (ih (n + 1) c2 (by omega) (hs.tr s2) y2) (sb rfl (sb (by rw [ecw]; rfl) (sb rfl sn)))
  refine g_iconst (pc := 0) C d_Rep_countWrong_0 icn_0 ?_
  refine g_istore_n (pc := 1) (i := 1) C d_Rep_countWrong_1 rfl (by decide) rfl ?_
  refine g_iconst (pc := 2) C d_Rep_countWrong_2 icn_0 ?_
  refine g_istore_n (pc := 3) (i := 2) C d_Rep_countWrong_3 rfl (by decide) rfl ?_
  exact G.lf (loop rs.length 0 c (by omega) Sm.rf ⟨y, hb⟩) (sb rfl (sb rfl (sb rfl sn)))
set_option maxRecDepth 100000 in
set_option maxHeartbeats 4000000 in
theorem x_Rep_chooseChunk (l : Launch) {D : Dt} (hD : OkD D) {r j : Nat} {c : Cs} {τ : Cs × (Nat → Int64)} {rs : List Rc} {d t : List Nat} {q1 q2 : Option Nat} (hr : r < 2) (hj : j < 9) (hj2 : j ≠ 2 + 4 * r ∧ j ≠ 3 + 4 * r ∧ j ≠ 4 + 4 * r) (hct : c.1 (20 + r) 0 = nI rs.length) (hx : RcX c r rs) (hd : RowIs c (1 + 4 * r) d) (yd : By d) (hw : ∀ n x, rs[n]? = some x → WfX d.length rs n x) (h1 : ∀ n, q1 = some n → n < rs.length) (h2 : ∀ n, q2 = some n → n < rs.length) (ht : RowIs c j t) (yt : By t) (tl : t.length ≤ 60) (k2 : ∃ y, RowIs c (2 + 4 * r) y) (k3 : ∃ y, RowIs c (3 + 4 * r) y) (k4 : ∃ y, RowIs c (4 + 4 * r) y) : Cp l D y_Rep_chooseChunk b_Rep_chooseChunk 7 (some .int) 6 [.int (eo q2), .int (eo q1), .ref (aRow D j), .ref (aRep D r)] ((c, τ) : Sg) (fun a u => ∃ c2, u = ((c2, τ) : Sg) ∧ a = some (.int (eo (choose d rs q1 q2 t).2)) ∧ RowIs c2 (3 + 4 * r) (choose d rs q1 q2 t).1 ∧ (∃ y, RowIs c2 (2 + 4 * r) y) ∧ (∃ y, RowIs c2 (4 + 4 * r) y) ∧ Sm (Sc r) c c2) := by
  have h24 := hx.1
  have l2 := rl_2 hr
  have l3 := rl_3 hr
  have l4 := rl_4 hr
  have nb : ∀ {c1 : Cs}, Sm (Sc r) c c1 → RowIs c1 (1 + 4 * r) d ∧ RcX c1 r rs ∧ c1.1 (20 + r) 0 = nI rs.length ∧ RowIs c1 j t := fun {c1} hs => ⟨hd.sm hs (by unfold Sc Rw; omega) (by unfold Sc Rw; omega), hx.sm hs (fun t ht => by unfold Sc Rw; omega), by rw [hs.1 _ (by unfold Sc Rw; omega)]; exact hct, ht.sm hs (by unfold Sc Rw; omega) (by unfold Sc Rw; omega)⟩
  have u0 : ∀ {c1 c2 : Cs}, Sm (Bp r) c1 c2 → Sm (Sc r) c1 c2 := fun h => h.up (fun t q => q.elim Or.inl (fun q => Or.inr (Or.inl q)))
  have u3 : ∀ {c1 c2 : Cs}, Sm (Rw (3 + 4 * r)) c1 c2 → Sm (Sc r) c1 c2 := fun h => h.up (fun t q => Or.inr (Or.inr (Or.inl q)))
  have u4 : ∀ {c1 c2 : Cs}, Sm (Rw (4 + 4 * r)) c1 c2 → Sm (Sc r) c1 c2 := fun h => h.up (fun t q => Or.inr (Or.inr (Or.inr q)))
  obtain ⟨y2, k2⟩ := k2
  obtain ⟨y3, k3⟩ := k3
  obtain ⟨y4, k4⟩ := k4
  refine Cp.of hD (by decide) (Nat.le_of_ble_eq_true rfl) [(0, some (.ref (aRep D r))), (1, some (.ref (aRow D j))), (2, some (.int (eo q1))), (3, some (.int (eo q2)))] rfl (fun X hX C => ?_)
  subst hX
  have step : ∀ (k : Nat) (best : List Nat × Option Nat) (c1 : Cs) (o : Option Nat), (∀ n, o = some n → n < rs.length) → RowIs c1 (3 + 4 * r) best.1 → best.1.length ≤ 121 → (∃ y, RowIs c1 (2 + 4 * r) y) → (∃ y, RowIs c1 (4 + 4 * r) y) → Sm (Sc r) c c1 → (∀ (c2 : Cs), RowIs c2 (3 + 4 * r) (cand d rs t best o).1 → (cand d rs t best o).1.length ≤ 121 → (∃ y, RowIs c2 (2 + 4 * r) y) → (∃ y, RowIs c2 (4 + 4 * r) y) → Sm (Sc r) c c2 → G X D (Qp X D (fun a u => ∃ c2, u = ((c2, τ) : Sg) ∧ a = some (.int (eo (choose d rs q1 q2 t).2)) ∧ RowIs c2 (3 + 4 * r) (choose d rs q1 q2 t).1 ∧ (∃ y, RowIs c2 (2 + 4 * r) y) ∧ (∃ y, RowIs c2 (4 + 4 * r) y) ∧ Sm (Sc r) c c2)) (0, 0) ((c2, τ) : Sg) 155 [(0, some (.ref (aRep D r))), (1, some (.ref (aRow D j))), (2, some (.int (eo q1))), (3, some (.int (eo q2))), (4, some (.int (eo (cand d rs t best o).2))), (5, some (.int (nI k)))] []) → G X D (Qp X D (fun a u => ∃ c2, u = ((c2, τ) : Sg) ∧ a = some (.int (eo (choose d rs q1 q2 t).2)) ∧ RowIs c2 (3 + 4 * r) (choose d rs q1 q2 t).1 ∧ (∃ y, RowIs c2 (2 + 4 * r) y) ∧ (∃ y, RowIs c2 (4 + 4 * r) y) ∧ Sm (Sc r) c c2)) (0, 0) ((c1, τ) : Sg) 81 [(0, some (.ref (aRep D r))), (1, some (.ref (aRow D j))), (2, some (.int (eo q1))), (3, some (.int (eo q2))), (4, some (.int (eo best.2))), (5, some (.int (nI k)))] [.int (eo o)] := by
    intro k best c1 o ho b3 bl b2 b4 hs kk
    obtain ⟨hd1, hx1, hc1, ht1⟩ := nb hs
    cases o with
    | none =>
      refine g_istore (pc := 81) C d_Rep_chooseChunk_81 (by decide) rfl ?_
      refine g_iload (pc := 83) C d_Rep_chooseChunk_83 rfl ?_
      refine g_iconst (pc := 85) C d_Rep_chooseChunk_85 ic_m1 ?_
      refine g_icmp_eq (pc := 86) (tgt := 155) C d_Rep_chooseChunk_86 (by decide) (fun h86 => ?_) (fun h86 => ?_)
      · skip
        exact G.lf (kk c1 b3 bl b2 b4 hs) (sb rfl (sb rfl (sb rfl (sb rfl (sb rfl (sb rfl sn))))))
      · first | exact absurd h86 (rfl) | exact absurd (rfl) h86
    | some n =>
      have hn := ho n rfl
      obtain ⟨z2, b2⟩ := b2
      obtain ⟨z4, b4⟩ := b4
      show G X D _ (0, 0) _ 81 [(0, some (.ref (aRep D r))), (1, some (.ref (aRow D j))), (2, some (.int (eo q1))), (3, some (.int (eo q2))), (4, some (.int (eo best.2))), (5, some (.int (nI k)))] [.int (nI n)]
      refine g_istore (pc := 81) C d_Rep_chooseChunk_81 (by decide) rfl ?_
      refine g_iload (pc := 83) C d_Rep_chooseChunk_83 rfl ?_
      refine g_iconst (pc := 85) C d_Rep_chooseChunk_85 ic_m1 ?_
      refine g_icmp_eq (pc := 86) (tgt := 155) C d_Rep_chooseChunk_86 (by decide) (fun h86 => ?_) (fun h86 => ?_)
      · first | exact absurd h86 (nI_m1 (by omega)) | exact absurd (nI_m1 (by omega)) h86
      · skip
        refine g_aload_n (pc := 89) (i := 0) C d_Rep_chooseChunk_89 rfl rfl ?_
        refine g_iload (pc := 90) C d_Rep_chooseChunk_90 rfl ?_
        refine g_callVp (pc := 92) (As := [_]) C my_Rep_build mv_Rep_build cl_Rep_92 (is_Rep (by omega)) d_Rep_chooseChunk_92 (Nat.le_of_ble_eq_true rfl) rfl (Nat.le_of_ble_eq_true rfl) ⟨Nat.zero_le _, Nat.zero_le _⟩ (x_Rep_build _ hD (by omega) hx1 hd1 yd hw hn b2) (fun r92 u92 hp92 => ?_)
        obtain ⟨c2, rfl, s2, hp2⟩ := hp92
        have b32 : RowIs c2 (3 + 4 * r) best.1 := b3.sm s2 (by unfold Bp Rw; omega) (by unfold Bp Rw; omega)
        have b42 : RowIs c2 (4 + 4 * r) z4 := b4.sm s2 (by unfold Bp Rw; omega) (by unfold Bp Rw; omega)
        have hs2 := hs.tr (u0 s2)
        obtain ⟨hd2, hx2, hc2, ht2⟩ := nb hs2
        rcases hp2 with ⟨b, e1, rfl, r2⟩ | ⟨e1, rfl, y22⟩
        rotate_left
        · refine g_if_eq (pc := 95) (tgt := 155) C d_Rep_chooseChunk_95 (by decide) (fun h95 => ?_) (fun h95 => ?_)
          · rw [cand_n e1] at kk
            exact G.lf (kk c2 b32 bl y22 ⟨_, b42⟩ hs2) (sb rfl (sb rfl (sb rfl (sb rfl (sb rfl (sb rfl sn))))))
          · exact absurd rfl h95
        have kb := by_built yd e1
        rw [cand_s e1] at kk
        refine g_if_eq (pc := 95) (tgt := 155) C d_Rep_chooseChunk_95 (by decide) (fun h95 => ?_) (fun h95 => ?_)
        · first | exact absurd h95 (by decide) | exact absurd (by decide) h95
        · skip
          refine g_aload_n (pc := 98) (i := 0) C d_Rep_chooseChunk_98 rfl rfl ?_
          refine gf_Rep_built (pc := 99) C (by omega) fl_Rep_41 d_Rep_chooseChunk_99 ?_
          refine g_aload_n (pc := 102) (i := 1) C d_Rep_chooseChunk_102 rfl rfl ?_
          refine g_aload_n (pc := 103) (i := 0) C d_Rep_chooseChunk_103 rfl rfl ?_
          refine gf_Rep_trial (pc := 104) C (by omega) fl_Rep_51 d_Rep_chooseChunk_104 ?_
          refine g_callSp (pc := 107) (As := [_, _, _]) C my_Cod_writeDifference ms_Cod_writeDifference cl_Rep_175 d_Rep_chooseChunk_107 (Nat.le_of_ble_eq_true rfl) rfl (Nat.le_of_ble_eq_true rfl) ⟨Nat.zero_le _, Nat.zero_le _⟩ (x_Cod_writeDifference _ hD (by omega) (by omega) (by omega) (by omega) (by omega) r2 ht2 b42 kb.1 yt tl l4) (fun r107 u107 hp107 => ?_)
          obtain ⟨c3, rfl, rfl, r3, s3⟩ := hp107
          have b33 : RowIs c3 (3 + 4 * r) best.1 := b32.sm s3 (by unfold Rw; omega) (by unfold Rw; omega)
          have b23 : RowIs c3 (2 + 4 * r) b := r2.sm s3 (by unfold Rw; omega) (by unfold Rw; omega)
          have hs3 := hs2.tr (u4 s3)
          obtain ⟨hd3, hx3, hc3, ht3⟩ := nb hs3
          have el := encD_len (b := b) (t := t)
          refine g_aload_n (pc := 110) (i := 0) C d_Rep_chooseChunk_110 rfl rfl ?_
          refine gf_Rep_trial (pc := 111) C (by omega) fl_Rep_51 d_Rep_chooseChunk_111 ?_
          refine gf_Row_length (pc := 114) C (by omega) fl_Rep_62 d_Rep_chooseChunk_114 ?_
          rw [r3.1]
          refine g_aload_n (pc := 117) (i := 0) C d_Rep_chooseChunk_117 rfl rfl ?_
          refine gf_Rep_chunk (pc := 118) C (by omega) fl_Rep_48 d_Rep_chooseChunk_118 ?_
          refine gf_Row_length (pc := 121) C (by omega) fl_Rep_62 d_Rep_chooseChunk_121 ?_
          rw [b33.1]
          refine g_icmp_ge (pc := 124) (tgt := 155) C d_Rep_chooseChunk_124 (by decide) (fun h124 => ?_) (fun h124 => ?_)
          · have hq : ¬ ((encD b t).length < best.1.length ∧ fits6 rs n (encD b t).length t.length = true) := fun q => absurd h124 (nI_ge q.1 (by omega))
            rw [if_neg hq] at kk
            first
              | exact G.lf (kk c3 b33 bl ⟨_, b23⟩ ⟨_, r3⟩ hs3) (sb rfl (sb rfl (sb rfl (sb rfl (sb rfl (sb rfl sn))))))
              | exact G.lf (kk _ (r3.bec b33 (by omega) (by omega) (by omega) (by omega)) (show (encD b t).length ≤ 121 by omega) ⟨_, b23.sm sm_bec (by unfold Rw; omega) (by unfold Rw; omega)⟩ ⟨_, r3.sm sm_bec (by unfold Rw; omega) (by unfold Rw; omega)⟩ (hs3.tr (u3 sm_bec))) (sb rfl (sb rfl (sb rfl (sb rfl (sb rfl (sb rfl sn))))))
          · have hq1 : (encD b t).length < best.1.length := Nat.not_le.mp fun q => h124 (nI_le q (by omega))
            refine g_aload_n (pc := 127) (i := 0) C d_Rep_chooseChunk_127 rfl rfl ?_
            refine g_iload (pc := 128) C d_Rep_chooseChunk_128 rfl ?_
            refine g_aload_n (pc := 130) (i := 1) C d_Rep_chooseChunk_130 rfl rfl ?_
            refine gf_Row_length (pc := 131) C (by omega) fl_Rep_62 d_Rep_chooseChunk_131 ?_
            rw [ht3.1]
            refine g_callV1 (pc := 134) (As := [_, _]) C my_Rep_chainFits mv_Rep_chainFits cl_Rep_179 (is_Rep (by omega)) d_Rep_chooseChunk_134 (Nat.le_of_ble_eq_true rfl) rfl (Nat.le_of_ble_eq_true rfl) ⟨Nat.zero_le _, Nat.zero_le _⟩ (c_Rep_chainFits _ hD (by omega) hx3 hw r3 (by omega) (by omega)) ?_
            refine g_if_eq (pc := 137) (tgt := 155) C d_Rep_chooseChunk_137 (by decide) (fun h137 => ?_) (fun h137 => ?_)
            · have hq : ¬ ((encD b t).length < best.1.length ∧ fits6 rs n (encD b t).length t.length = true) := fun q => b1_0 h137 q.2
              rw [if_neg hq] at kk
              first
                | exact G.lf (kk c3 b33 bl ⟨_, b23⟩ ⟨_, r3⟩ hs3) (sb rfl (sb rfl (sb rfl (sb rfl (sb rfl (sb rfl sn))))))
                | exact G.lf (kk _ (r3.bec b33 (by omega) (by omega) (by omega) (by omega)) (show (encD b t).length ≤ 121 by omega) ⟨_, b23.sm sm_bec (by unfold Rw; omega) (by unfold Rw; omega)⟩ ⟨_, r3.sm sm_bec (by unfold Rw; omega) (by unfold Rw; omega)⟩ (hs3.tr (u3 sm_bec))) (sb rfl (sb rfl (sb rfl (sb rfl (sb rfl (sb rfl sn))))))
            · rw [if_pos ⟨hq1, b1_1 h137⟩] at kk
              refine g_aload_n (pc := 140) (i := 0) C d_Rep_chooseChunk_140 rfl rfl ?_
              refine gf_Rep_chunk (pc := 141) C (by omega) fl_Rep_48 d_Rep_chooseChunk_141 ?_
              refine g_aload_n (pc := 144) (i := 0) C d_Rep_chooseChunk_144 rfl rfl ?_
              refine gf_Rep_trial (pc := 145) C (by omega) fl_Rep_51 d_Rep_chooseChunk_145 ?_
              refine g_callV0 (pc := 148) (As := [_]) C my_Row_become mv_Row_become cl_Rep_171 (is_Row (by omega)) d_Rep_chooseChunk_148 (Nat.le_of_ble_eq_true rfl) rfl (Nat.le_of_ble_eq_true rfl) ⟨Nat.zero_le _, Nat.zero_le _⟩ (c_Row_become _ hD (by omega) (by omega) (by omega) r3.1 r3.2.1 (by omega)) ?_
              refine g_iload (pc := 151) C d_Rep_chooseChunk_151 rfl ?_
              refine g_istore (pc := 153) C d_Rep_chooseChunk_153 (by decide) rfl ?_
              first
                | exact G.lf (kk c3 b33 bl ⟨_, b23⟩ ⟨_, r3⟩ hs3) (sb rfl (sb rfl (sb rfl (sb rfl (sb rfl (sb rfl sn))))))
                | exact G.lf (kk _ (r3.bec b33 (by omega) (by omega) (by omega) (by omega)) (show (encD b t).length ≤ 121 by omega) ⟨_, b23.sm sm_bec (by unfold Rw; omega) (by unfold Rw; omega)⟩ ⟨_, r3.sm sm_bec (by unfold Rw; omega) (by unfold Rw; omega)⟩ (hs3.tr (u3 sm_bec))) (sb rfl (sb rfl (sb rfl (sb rfl (sb rfl (sb rfl sn))))))
  have t3 : ∀ (c1 : Cs) (best : List Nat × Option Nat), best = choose d rs q1 q2 t → RowIs c1 (3 + 4 * r) best.1 → best.1.length ≤ 121 → (∃ y, RowIs c1 (2 + 4 * r) y) → (∃ y, RowIs c1 (4 + 4 * r) y) → Sm (Sc r) c c1 → G X D (Qp X D (fun a u => ∃ c2, u = ((c2, τ) : Sg) ∧ a = some (.int (eo (choose d rs q1 q2 t).2)) ∧ RowIs c2 (3 + 4 * r) (choose d rs q1 q2 t).1 ∧ (∃ y, RowIs c2 (2 + 4 * r) y) ∧ (∃ y, RowIs c2 (4 + 4 * r) y) ∧ Sm (Sc r) c c2)) (0, 0) ((c1, τ) : Sg) 50 [(0, some (.ref (aRep D r))), (1, some (.ref (aRow D j))), (2, some (.int (eo q1))), (3, some (.int (eo q2))), (4, some (.int (eo best.2))), (5, some (.int (nI 3)))] [] := by
    intro c1 best hb b3 bl b2 b4 hs
    refine g_iload (pc := 50) C d_Rep_chooseChunk_50 rfl ?_
    refine g_iconst (pc := 52) C d_Rep_chooseChunk_52 icn_3 ?_
    refine g_icmp_ge (pc := 53) (tgt := 161) C d_Rep_chooseChunk_53 (by decide) (fun h53 => ?_) (fun h53 => ?_)
    · skip
      refine g_iload (pc := 161) C d_Rep_chooseChunk_161 rfl ?_
      refine g_iret (pc := 163) C d_Rep_chooseChunk_163 ?_
      subst hb
      exact ⟨c1, rfl, rfl, b3, b2, b4, hs⟩
    · first | exact absurd h53 (nI_le (by decide) (by decide)) | exact absurd (nI_le (by decide) (by decide)) h53
  have t2 : ∀ (c1 : Cs) (best : List Nat × Option Nat), best = cand d rs t (cand d rs t (encS t, none) q1) q2 → RowIs c1 (3 + 4 * r) best.1 → best.1.length ≤ 121 → (∃ y, RowIs c1 (2 + 4 * r) y) → (∃ y, RowIs c1 (4 + 4 * r) y) → Sm (Sc r) c c1 → G X D (Qp X D (fun a u => ∃ c2, u = ((c2, τ) : Sg) ∧ a = some (.int (eo (choose d rs q1 q2 t).2)) ∧ RowIs c2 (3 + 4 * r) (choose d rs q1 q2 t).1 ∧ (∃ y, RowIs c2 (2 + 4 * r) y) ∧ (∃ y, RowIs c2 (4 + 4 * r) y) ∧ Sm (Sc r) c c2)) (0, 0) ((c1, τ) : Sg) 50 [(0, some (.ref (aRep D r))), (1, some (.ref (aRow D j))), (2, some (.int (eo q1))), (3, some (.int (eo q2))), (4, some (.int (eo best.2))), (5, some (.int (nI 2)))] [] := by
    intro c1 best hb b3 bl b2 b4 hs
    obtain ⟨hd1, hx1, hc1, ht1⟩ := nb hs
    refine g_iload (pc := 50) C d_Rep_chooseChunk_50 rfl ?_
    refine g_iconst (pc := 52) C d_Rep_chooseChunk_52 icn_3 ?_
    refine g_icmp_ge (pc := 53) (tgt := 161) C d_Rep_chooseChunk_53 (by decide) (fun h53 => ?_) (fun h53 => ?_)
    · first | exact absurd h53 (nI_ge (by decide) (by decide)) | exact absurd (nI_ge (by decide) (by decide)) h53
    · skip
      refine g_iload (pc := 56) C d_Rep_chooseChunk_56 rfl ?_
      refine g_if_ne (pc := 58) (tgt := 65) C d_Rep_chooseChunk_58 (by decide) (fun h58 => ?_) (fun h58 => ?_)
      · skip
        refine g_iload (pc := 65) C d_Rep_chooseChunk_65 rfl ?_
        refine g_iconst (pc := 67) C d_Rep_chooseChunk_67 icn_1 ?_
        refine g_icmp_ne (pc := 68) (tgt := 75) C d_Rep_chooseChunk_68 (by decide) (fun h68 => ?_) (fun h68 => ?_)
        · skip
          refine g_aload_n (pc := 75) (i := 0) C d_Rep_chooseChunk_75 rfl rfl ?_
          refine gf_Rep_recordCount (pc := 76) C (by omega) fl_Rep_27 d_Rep_chooseChunk_76 ?_
          rw [hc1]
          refine g_iconst (pc := 79) C d_Rep_chooseChunk_79 icn_1 ?_
          refine g_isub (pc := 80) C d_Rep_chooseChunk_80 ?_
          rw [lastR_v]
          refine G.lf (step 2 best c1 (lastR rs) (fun n e => by unfold lastR at e; split at e; cases e; cases e; omega) b3 bl b2 b4 hs (fun c2 b3 bl b2 b4 hs => ?_)) (sb rfl (sb rfl (sb rfl (sb rfl (sb rfl (sb rfl sn))))))
          refine g_iinc (pc := 155) C d_Rep_chooseChunk_155 rfl (v := nI 3) (nI_inc 2) rfl ?_
          refine g_goto (pc := 158) (tgt := 50) C d_Rep_chooseChunk_158 (by decide) ?_
          exact G.lf (t3 c2 _ (by rw [hb]; rfl) b3 bl b2 b4 hs) (sb rfl (sb rfl (sb rfl (sb rfl (sb rfl (sb rfl sn))))))
        · first | exact absurd h68 (fun e => absurd ((nI_eq (by decide) (by decide)).mp e) (by decide)) | exact absurd (fun e => absurd ((nI_eq (by decide) (by decide)).mp e) (by decide)) h68
      · first | exact absurd h58 (nI_ne0 (by decide) (by decide)) | exact absurd (nI_ne0 (by decide) (by decide)) h58
  have t1 : ∀ (c1 : Cs) (best : List Nat × Option Nat), best = cand d rs t (encS t, none) q1 → RowIs c1 (3 + 4 * r) best.1 → best.1.length ≤ 121 → (∃ y, RowIs c1 (2 + 4 * r) y) → (∃ y, RowIs c1 (4 + 4 * r) y) → Sm (Sc r) c c1 → G X D (Qp X D (fun a u => ∃ c2, u = ((c2, τ) : Sg) ∧ a = some (.int (eo (choose d rs q1 q2 t).2)) ∧ RowIs c2 (3 + 4 * r) (choose d rs q1 q2 t).1 ∧ (∃ y, RowIs c2 (2 + 4 * r) y) ∧ (∃ y, RowIs c2 (4 + 4 * r) y) ∧ Sm (Sc r) c c2)) (0, 0) ((c1, τ) : Sg) 50 [(0, some (.ref (aRep D r))), (1, some (.ref (aRow D j))), (2, some (.int (eo q1))), (3, some (.int (eo q2))), (4, some (.int (eo best.2))), (5, some (.int (nI 1)))] [] := by
    intro c1 best hb b3 bl b2 b4 hs
    obtain ⟨hd1, hx1, hc1, ht1⟩ := nb hs
    refine g_iload (pc := 50) C d_Rep_chooseChunk_50 rfl ?_
    refine g_iconst (pc := 52) C d_Rep_chooseChunk_52 icn_3 ?_
    refine g_icmp_ge (pc := 53) (tgt := 161) C d_Rep_chooseChunk_53 (by decide) (fun h53 => ?_) (fun h53 => ?_)
    · first | exact absurd h53 (nI_ge (by decide) (by decide)) | exact absurd (nI_ge (by decide) (by decide)) h53
    · skip
      refine g_iload (pc := 56) C d_Rep_chooseChunk_56 rfl ?_
      refine g_if_ne (pc := 58) (tgt := 65) C d_Rep_chooseChunk_58 (by decide) (fun h58 => ?_) (fun h58 => ?_)
      · skip
        refine g_iload (pc := 65) C d_Rep_chooseChunk_65 rfl ?_
        refine g_iconst (pc := 67) C d_Rep_chooseChunk_67 icn_1 ?_
        refine g_icmp_ne (pc := 68) (tgt := 75) C d_Rep_chooseChunk_68 (by decide) (fun h68 => ?_) (fun h68 => ?_)
        · first | exact absurd h68 (rfl) | exact absurd (rfl) h68
        · skip
          refine g_iload_n (pc := 71) (i := 3) C d_Rep_chooseChunk_71 rfl rfl ?_
          refine g_goto (pc := 72) (tgt := 81) C d_Rep_chooseChunk_72 (by decide) ?_
          refine G.lf (step 1 best c1 q2 h2 b3 bl b2 b4 hs (fun c2 b3 bl b2 b4 hs => ?_)) (sb rfl (sb rfl (sb rfl (sb rfl (sb rfl (sb rfl sn))))))
          refine g_iinc (pc := 155) C d_Rep_chooseChunk_155 rfl (v := nI 2) (nI_inc 1) rfl ?_
          refine g_goto (pc := 158) (tgt := 50) C d_Rep_chooseChunk_158 (by decide) ?_
          exact G.lf (t2 c2 _ (by rw [hb]) b3 bl b2 b4 hs) (sb rfl (sb rfl (sb rfl (sb rfl (sb rfl (sb rfl sn))))))
      · first | exact absurd h58 (nI_ne0 (by decide) (by decide)) | exact absurd (nI_ne0 (by decide) (by decide)) h58
  have t0 : ∀ (c1 : Cs) (best : List Nat × Option Nat), best = (encS t, none) → RowIs c1 (3 + 4 * r) best.1 → best.1.length ≤ 121 → (∃ y, RowIs c1 (2 + 4 * r) y) → (∃ y, RowIs c1 (4 + 4 * r) y) → Sm (Sc r) c c1 → G X D (Qp X D (fun a u => ∃ c2, u = ((c2, τ) : Sg) ∧ a = some (.int (eo (choose d rs q1 q2 t).2)) ∧ RowIs c2 (3 + 4 * r) (choose d rs q1 q2 t).1 ∧ (∃ y, RowIs c2 (2 + 4 * r) y) ∧ (∃ y, RowIs c2 (4 + 4 * r) y) ∧ Sm (Sc r) c c2)) (0, 0) ((c1, τ) : Sg) 50 [(0, some (.ref (aRep D r))), (1, some (.ref (aRow D j))), (2, some (.int (eo q1))), (3, some (.int (eo q2))), (4, some (.int (eo best.2))), (5, some (.int (nI 0)))] [] := by
    intro c1 best hb b3 bl b2 b4 hs
    obtain ⟨hd1, hx1, hc1, ht1⟩ := nb hs
    refine g_iload (pc := 50) C d_Rep_chooseChunk_50 rfl ?_
    refine g_iconst (pc := 52) C d_Rep_chooseChunk_52 icn_3 ?_
    refine g_icmp_ge (pc := 53) (tgt := 161) C d_Rep_chooseChunk_53 (by decide) (fun h53 => ?_) (fun h53 => ?_)
    · first | exact absurd h53 (nI_ge (by decide) (by decide)) | exact absurd (nI_ge (by decide) (by decide)) h53
    · skip
      refine g_iload (pc := 56) C d_Rep_chooseChunk_56 rfl ?_
      refine g_if_ne (pc := 58) (tgt := 65) C d_Rep_chooseChunk_58 (by decide) (fun h58 => ?_) (fun h58 => ?_)
      · first | exact absurd h58 (nI_0) | exact absurd (nI_0) h58
      · skip
        refine g_iload_n (pc := 61) (i := 2) C d_Rep_chooseChunk_61 rfl rfl ?_
        refine g_goto (pc := 62) (tgt := 81) C d_Rep_chooseChunk_62 (by decide) ?_
        refine G.lf (step 0 best c1 q1 h1 b3 bl b2 b4 hs (fun c2 b3 bl b2 b4 hs => ?_)) (sb rfl (sb rfl (sb rfl (sb rfl (sb rfl (sb rfl sn))))))
        refine g_iinc (pc := 155) C d_Rep_chooseChunk_155 rfl (v := nI 1) (nI_inc 0) rfl ?_
        refine g_goto (pc := 158) (tgt := 50) C d_Rep_chooseChunk_158 (by decide) ?_
        exact G.lf (t1 c2 _ (by rw [hb]) b3 bl b2 b4 hs) (sb rfl (sb rfl (sb rfl (sb rfl (sb rfl (sb rfl sn))))))
  refine g_aload_n (pc := 0) (i := 1) C d_Rep_chooseChunk_0 rfl rfl ?_
  refine g_aload_n (pc := 1) (i := 0) C d_Rep_chooseChunk_1 rfl rfl ?_
  refine gf_Rep_chunk (pc := 2) C (by omega) fl_Rep_48 d_Rep_chooseChunk_2 ?_
  refine g_callSp (pc := 5) (As := [_, _]) C my_Cod_writeWhole ms_Cod_writeWhole cl_Rep_162 d_Rep_chooseChunk_5 (Nat.le_of_ble_eq_true rfl) rfl (Nat.le_of_ble_eq_true rfl) ⟨Nat.zero_le _, Nat.zero_le _⟩ (x_Cod_writeWhole _ hD (by omega) (by omega) (by omega) ht k3 (by omega)) (fun r5 u5 hp5 => ?_)
  obtain ⟨c1, rfl, rfl, r1, s1⟩ := hp5
  have hs1 : Sm (Sc r) c c1 := u3 s1
  obtain ⟨hd1, hx1, hc1, ht1⟩ := nb hs1
  have k41 : RowIs c1 (4 + 4 * r) y4 := k4.sm s1 (by unfold Rw; omega) (by unfold Rw; omega)
  have k21 : RowIs c1 (2 + 4 * r) y2 := k2.sm s1 (by unfold Rw; omega) (by unfold Rw; omega)
  refine g_aload_n (pc := 8) (i := 1) C d_Rep_chooseChunk_8 rfl rfl ?_
  refine g_aload_n (pc := 9) (i := 0) C d_Rep_chooseChunk_9 rfl rfl ?_
  refine gf_Rep_trial (pc := 10) C (by omega) fl_Rep_51 d_Rep_chooseChunk_10 ?_
  refine g_callSp (pc := 13) (As := [_, _]) C my_Cod_writePacked ms_Cod_writePacked cl_Rep_168 d_Rep_chooseChunk_13 (Nat.le_of_ble_eq_true rfl) rfl (Nat.le_of_ble_eq_true rfl) ⟨Nat.zero_le _, Nat.zero_le _⟩ (x_Cod_writePacked _ hD (by omega) (by omega) (by omega) ht1 k41 yt tl l4) (fun r13 u13 hp13 => ?_)
  obtain ⟨c2, rfl, rfl, r2, s2⟩ := hp13
  have hs2 : Sm (Sc r) c c2 := hs1.tr (u4 s2)
  have r12 : RowIs c2 (3 + 4 * r) (117 :: t) := r1.sm s2 (by unfold Rw; omega) (by unfold Rw; omega)
  have k22 : RowIs c2 (2 + 4 * r) y2 := k21.sm s2 (by unfold Rw; omega) (by unfold Rw; omega)
  have pl := pkr_len t 0
  have pl2 : (120 :: pack t).length = (pk 0 t).length + 1 := rfl
  have pl3 : (117 :: t).length = t.length + 1 := rfl
  refine g_aload_n (pc := 16) (i := 0) C d_Rep_chooseChunk_16 rfl rfl ?_
  refine gf_Rep_trial (pc := 17) C (by omega) fl_Rep_51 d_Rep_chooseChunk_17 ?_
  refine gf_Row_length (pc := 20) C (by omega) fl_Rep_62 d_Rep_chooseChunk_20 ?_
  rw [r2.1]
  refine g_aload_n (pc := 23) (i := 0) C d_Rep_chooseChunk_23 rfl rfl ?_
  refine gf_Rep_chunk (pc := 24) C (by omega) fl_Rep_48 d_Rep_chooseChunk_24 ?_
  refine gf_Row_length (pc := 27) C (by omega) fl_Rep_62 d_Rep_chooseChunk_27 ?_
  rw [r12.1]
  refine g_icmp_ge (pc := 30) (tgt := 44) C d_Rep_chooseChunk_30 (by decide) (fun h30 => ?_) (fun h30 => ?_)
  · have hq : encS t = 117 :: t := if_neg (fun q => absurd h30 (nI_ge q (by omega)))
    refine g_iconst (pc := 44) C d_Rep_chooseChunk_44 ic_m1 ?_
    refine g_istore (pc := 45) C d_Rep_chooseChunk_45 (by decide) rfl ?_
    refine g_iconst (pc := 47) C d_Rep_chooseChunk_47 icn_0 ?_
    refine g_istore (pc := 48) C d_Rep_chooseChunk_48 (by decide) rfl ?_
    first
      | exact G.lf (t0 c2 (encS t, none) rfl (by rw [hq]; exact r12) (by rw [hq]; show (117 :: t).length ≤ 121; omega) ⟨_, k22⟩ ⟨_, r2⟩ hs2) (sb rfl (sb rfl (sb rfl (sb rfl (sb rfl (sb rfl sn))))))
      | exact G.lf (t0 _ (encS t, none) rfl (by rw [hq]; exact r2.bec r12 (by omega) (by omega) (by omega) (by omega)) (by rw [hq]; show (120 :: pack t).length ≤ 121; omega) ⟨_, k22.sm sm_bec (by unfold Rw; omega) (by unfold Rw; omega)⟩ ⟨_, r2.sm sm_bec (by unfold Rw; omega) (by unfold Rw; omega)⟩ (hs2.tr (u3 sm_bec))) (sb rfl (sb rfl (sb rfl (sb rfl (sb rfl (sb rfl sn))))))
  · have hq1 : (120 :: pack t).length < (117 :: t).length := Nat.not_le.mp fun q => h30 (nI_le q (by omega))
    have hq : encS t = 120 :: pack t := if_pos hq1
    refine g_aload_n (pc := 33) (i := 0) C d_Rep_chooseChunk_33 rfl rfl ?_
    refine gf_Rep_chunk (pc := 34) C (by omega) fl_Rep_48 d_Rep_chooseChunk_34 ?_
    refine g_aload_n (pc := 37) (i := 0) C d_Rep_chooseChunk_37 rfl rfl ?_
    refine gf_Rep_trial (pc := 38) C (by omega) fl_Rep_51 d_Rep_chooseChunk_38 ?_
    refine g_callV0 (pc := 41) (As := [_]) C my_Row_become mv_Row_become cl_Rep_171 (is_Row (by omega)) d_Rep_chooseChunk_41 (Nat.le_of_ble_eq_true rfl) rfl (Nat.le_of_ble_eq_true rfl) ⟨Nat.zero_le _, Nat.zero_le _⟩ (c_Row_become _ hD (by omega) (by omega) (by omega) r2.1 r2.2.1 (by omega)) ?_
    refine g_iconst (pc := 44) C d_Rep_chooseChunk_44 ic_m1 ?_
    refine g_istore (pc := 45) C d_Rep_chooseChunk_45 (by decide) rfl ?_
    refine g_iconst (pc := 47) C d_Rep_chooseChunk_47 icn_0 ?_
    refine g_istore (pc := 48) C d_Rep_chooseChunk_48 (by decide) rfl ?_
    first
      | exact G.lf (t0 c2 (encS t, none) rfl (by rw [hq]; exact r12) (by rw [hq]; show (117 :: t).length ≤ 121; omega) ⟨_, k22⟩ ⟨_, r2⟩ hs2) (sb rfl (sb rfl (sb rfl (sb rfl (sb rfl (sb rfl sn))))))
      | exact G.lf (t0 _ (encS t, none) rfl (by rw [hq]; exact r2.bec r12 (by omega) (by omega) (by omega) (by omega)) (by rw [hq]; show (120 :: pack t).length ≤ 121; omega) ⟨_, k22.sm sm_bec (by unfold Rw; omega) (by unfold Rw; omega)⟩ ⟨_, r2.sm sm_bec (by unfold Rw; omega) (by unfold Rw; omega)⟩ (hs2.tr (u3 sm_bec))) (sb rfl (sb rfl (sb rfl (sb rfl (sb rfl (sb rfl sn))))))
