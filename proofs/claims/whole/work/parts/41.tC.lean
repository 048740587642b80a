theorem eApp0 {V : Vt} {r a b : Int32} (h : ¬ (0 ≤ r ∧ r < 2)) : oAppend V r a b = (.inr 0, V) := onR_n h
theorem eApp1 {V : Vt} {q : Nat} {a b : Int32} (hq : q < 2) (h : (V.2 q).dwn = true ∨ ¬ (V.2 q).jrn.isSome = true) : oAppend V (nI q) a b = (.inr 1, V) := (onR_y hq).trans (if_pos h)
theorem eApp2 {V : Vt} {q : Nat} {a b : Int32} (hq : q < 2) (h : ¬ ((V.2 q).dwn = true ∨ ¬ (V.2 q).jrn.isSome = true)) (h2 : ¬ (can (V.2 q) a ∧ can (V.2 q) b)) : oAppend V (nI q) a b = (.inr 2, V) := (onR_y hq).trans ((if_neg h).trans (if_neg h2))
theorem eApp3 {V : Vt} {q : Nat} {a b : Int32} (hq : q < 2) (h : ¬ ((V.2 q).dwn = true ∨ ¬ (V.2 q).jrn.isSome = true)) (h2 : can (V.2 q) a ∧ can (V.2 q) b) (h3 : (stor (V.2 q) (od a) (od b) V.1).1 = -4) : oAppend V (nI q) a b = (.inr 3, upR V q (stor (V.2 q) (od a) (od b) V.1).2) := (onR_y hq).trans ((if_neg h).trans ((if_pos h2).trans (if_pos h3)))
theorem eApp4 {V : Vt} {q : Nat} {a b : Int32} (hq : q < 2) (h : ¬ ((V.2 q).dwn = true ∨ ¬ (V.2 q).jrn.isSome = true)) (h2 : can (V.2 q) a ∧ can (V.2 q) b) (h3 : ¬ (stor (V.2 q) (od a) (od b) V.1).1 = -4) : oAppend V (nI q) a b = (.inl (Int32.ofInt (stor (V.2 q) (od a) (od b) V.1).1), upR V q (stor (V.2 q) (od a) (od b) V.1).2) := (onR_y hq).trans ((if_neg h).trans ((if_pos h2).trans (if_neg h3)))
theorem CAbs.sn {c c2 : Cs} {V : Vt} {q : Nat} {R : Rp} (h : CAbs c V) (hq : q < 2) (hs : Sn q c c2) (hR : RepIs c2 q R) (k2 : ∃ y, RowIs c2 (2 + 4 * q) y) (k3 : ∃ y, RowIs c2 (3 + 4 * q) y) (k4 : ∃ y, RowIs c2 (4 + 4 * q) y) : CAbs c2 (upR V q R) := h.up hq (fun k => k.sn hs (by unfold Sc Pr Rw; omega) (by unfold Sc Pr Rw; omega)) hR (fun k hk hn g => g.sn hs hq hk hn) (h.2.2.2.sn hs hq k2 k3 k4)
theorem stor_v {R : Rp} {a b : Int32} {t : List Nat} (wf : WfR R) (hd : ¬ R.dwn = true) (h : can R a ∧ can R b) (yt : By t) (tl : t.length ≤ 60) : (stor R (od a) (od b) t).1 = -2 ∨ (stor R (od a) (od b) t).1 = -4 ∨ ∃ n : Nat, n ≤ 24 ∧ (stor R (od a) (od b) t).1 = n := (stor_all wf (dfalse hd) (can_od h.1 wf.2.2.1).2 (can_od h.2 wf.2.2.1).2 yt tl).2.2.elim Or.inl (fun h => Or.inr (h.elim Or.inl (fun h => Or.inr h.2)))
theorem mp3 : (Int8.ofInt (-3)).toInt32 = -3 := by decide +kernel
set_option maxRecDepth 100000 in
set_option maxHeartbeats 4000000 in
theorem x_V_append (l : Launch) {D : Dt} (hD : OkD D) {c : Cs} {τ : Cs × (Nat → Int64)} {V : Vt} {r a b : Int32} (hC : CAbs c V) (hW : WfV V) {z : Int32} (ho : (oAppend V r a b).1 = .inl z) : Cp l D y_V_append b_V_append 6 (some .int) 9 [.int b, .int a, .int r, .ref (aVlt D)] ((c, τ) : Sg) (fun a0 u => ∃ c2, u = ((c2, τ) : Sg) ∧ a0 = some (.int z) ∧ CAbs c2 (oAppend V r a b).2) := by
  by_cases h0 : 0 ≤ r ∧ r < 2
  · skip
    obtain ⟨q, hq, rfl⟩ := okr_n h0
    have g := hC.rep hq
    have wf := hW.rep hq
    have g24 := g.2.2.1
    by_cases h1 : (V.2 q).dwn = true ∨ ¬ (V.2 q).jrn.isSome = true
    · skip
      rw [eApp1 hq h1] at ho
      cases ho
    · skip
      have hdj := jsome h1
      by_cases h2 : can (V.2 q) a ∧ can (V.2 q) b
      · skip
        
        by_cases h3 : (stor (V.2 q) (od a) (od b) V.1).1 = -4
        · skip
          rw [eApp3 hq h1 h2 h3] at ho
          cases ho
        · skip
          rw [eApp4 hq h1 h2 h3] at ho ⊢
          cases ho
          refine Cp.of hD (by decide) (Nat.le_of_ble_eq_true rfl) [(0, some (.ref (aVlt D))), (1, some (.int (nI q))), (2, some (.int a)), (3, some (.int b))] rfl (fun X hX C => ?_)
          subst hX
          refine g_aload_n (pc := 0) (i := 0) C d_V_append_0 rfl rfl ?_
          refine g_iload_n (pc := 1) (i := 1) C d_V_append_1 rfl rfl ?_
          refine g_callV1 (pc := 2) (As := [_]) C my_V_repositoryInTransaction mv_V_repositoryInTransaction cl_V_61 is_V d_V_append_2 (Nat.le_of_ble_eq_true rfl) rfl (Nat.le_of_ble_eq_true rfl) ⟨Nat.zero_le _, Nat.zero_le _⟩ (c_V_repositoryInTransaction _ hD hq g hdj.1 hdj.2) ?_
          refine g_astore (pc := 5) C d_V_append_5 (by decide) rfl ?_
          refine g_aload (pc := 7) C d_V_append_7 rfl ?_
          refine g_iload_n (pc := 9) (i := 2) C d_V_append_9 rfl rfl ?_
          refine g_callV1 (pc := 10) (As := [_]) C my_Rep_canBeParent mv_Rep_canBeParent cl_V_64 (is_Rep (by omega)) d_V_append_10 (Nat.le_of_ble_eq_true rfl) rfl (Nat.le_of_ble_eq_true rfl) ⟨Nat.zero_le _, Nat.zero_le _⟩ (c_Rep_canBeParent _ hD (k := a) hq) ?_
          rw [g.1.1]
          refine g_if_eq (pc := 13) (tgt := 25) C d_V_append_13 (by decide) (fun h13 => ?_) (fun h13 => ?_)
          · first | exact absurd h13 (by rw [b1_t h2.1]; decide) | exact absurd (by rw [b1_t h2.1]; decide) h13
          · skip
            refine g_aload (pc := 16) C d_V_append_16 rfl ?_
            refine g_iload_n (pc := 18) (i := 3) C d_V_append_18 rfl rfl ?_
            refine g_callV1 (pc := 19) (As := [_]) C my_Rep_canBeParent mv_Rep_canBeParent cl_V_64 (is_Rep (by omega)) d_V_append_19 (Nat.le_of_ble_eq_true rfl) rfl (Nat.le_of_ble_eq_true rfl) ⟨Nat.zero_le _, Nat.zero_le _⟩ (c_Rep_canBeParent _ hD (k := b) hq) ?_
            rw [g.1.1]
            refine g_if_ne (pc := 22) (tgt := 33) C d_V_append_22 (by decide) (fun h22 => ?_) (fun h22 => ?_)
            · skip
              refine g_aload (pc := 33) C d_V_append_33 rfl ?_
              refine g_aload_n (pc := 35) (i := 0) C d_V_append_35 rfl rfl ?_
              refine gf_V_buffer (pc := 36) C fl_V_14 d_V_append_36 ?_
              refine g_iload_n (pc := 39) (i := 2) C d_V_append_39 rfl rfl ?_
              refine g_iload_n (pc := 40) (i := 3) C d_V_append_40 rfl rfl ?_
              rw [← (can_od h2.1 g24).1, ← (can_od h2.2 g24).1]
              refine g_callVp (pc := 41) (As := [_, _, _]) C my_Rep_store mv_Rep_store cl_V_70 (is_Rep (by omega)) d_V_append_41 (Nat.le_of_ble_eq_true rfl) rfl (Nat.le_of_ble_eq_true rfl) ⟨Nat.zero_le _, Nat.zero_le _⟩ (x_Rep_store (j := 0) _ hD hq (by decide) (by omega) g wf.1 (wf.2.2.2.2.2.2 (Or.inr (dfalse hdj.1))) (dfalse hdj.1) wf.2.2.2.1 (can_od h2.1 g24).2 (can_od h2.2 g24).2 hC.1 hW.1 hW.2.1 (hC.2.2.2 q hq).1 (hC.2.2.2 q hq).2.1 (hC.2.2.2 q hq).2.2) (fun r41 u41 hp41 => ?_)
              rw [(can_od h2.1 g24).1, (can_od h2.2 g24).1] at *
              obtain ⟨c2, rfl, rfl, gr, k2, k3, k4, s2⟩ := hp41
              have hv := stor_v wf hdj.1 h2 hW.1 hW.2.1
              refine g_istore (pc := 44) C d_V_append_44 (by decide) rfl ?_
              refine g_iload (pc := 46) C d_V_append_46 rfl ?_
              refine g_bipush (pc := 48) C d_V_append_48 bp_m3 ?_
              refine g_icmp_ne (pc := 50) (tgt := 61) C d_V_append_50 (by decide) (fun h50 => ?_) (fun h50 => ?_)
              · skip
                refine g_iload (pc := 61) C d_V_append_61 rfl ?_
                refine g_iret (pc := 63) C d_V_append_63 ?_
                exact ⟨c2, rfl, by rw [stI_n h3], hC.sn hq s2 gr k2 k3 k4⟩
              · first | exact absurd h50 (fun e => h3 ((stI_4 hv).mp e)) | exact absurd (fun e => h3 ((stI_4 hv).mp e)) h50
            · first | exact absurd h22 (by rw [b1_t h2.2]; decide) | exact absurd (by rw [b1_t h2.2]; decide) h22
      · skip
        rw [eApp2 hq h1 h2] at ho
        cases ho
  · skip
    rw [eApp0 h0] at ho
    cases ho
set_option maxRecDepth 100000 in
set_option maxHeartbeats 4000000 in
theorem t_V_append (l : Launch) {D : Dt} (hD : OkD D) {c : Cs} {τ : Cs × (Nat → Int64)} {V : Vt} {r a b : Int32} (hO : OkT l D) (hC : CAbs c V) (hW : WfV V) {k : Nat} (ho : (oAppend V r a b).1 = .inr k) : Tt l D y_V_append b_V_append 6 (some .int) 9 [.int b, .int a, .int r, .ref (aVlt D)] ((c, τ) : Sg) (exN k) (fun u => ∃ c2, u = ((c2, τ) : Sg) ∧ CAbs c2 (oAppend V r a b).2) := by
  by_cases h0 : 0 ≤ r ∧ r < 2
  · skip
    obtain ⟨q, hq, rfl⟩ := okr_n h0
    have g := hC.rep hq
    have wf := hW.rep hq
    have g24 := g.2.2.1
    by_cases h1 : (V.2 q).dwn = true ∨ ¬ (V.2 q).jrn.isSome = true
    · skip
      rw [eApp1 hq h1] at ho ⊢
      cases ho
      refine Tt.of hD (by decide) (Nat.le_of_ble_eq_true rfl) [(0, some (.ref (aVlt D))), (1, some (.int (nI q))), (2, some (.int a)), (3, some (.int b))] rfl (fun X hX C hR => ?_)
      subst hX
      refine g_aload_n (pc := 0) (i := 0) C d_V_append_0 rfl rfl ?_
      refine g_iload_n (pc := 1) (i := 1) C d_V_append_1 rfl rfl ?_
      exact g_callVt (pc := 2) (As := [_]) C hR my_V_repositoryInTransaction mv_V_repositoryInTransaction ml_V_61 is_V d_V_append_2 (Nat.le_of_ble_eq_true rfl) rfl (Nat.le_of_ble_eq_true rfl) (t2_V_repositoryInTransaction _ hD hO hq g h1 |> Tt.to (fun u e => ⟨c, e, hC⟩))
    · skip
      have hdj := jsome h1
      by_cases h2 : can (V.2 q) a ∧ can (V.2 q) b
      · skip
        
        by_cases h3 : (stor (V.2 q) (od a) (od b) V.1).1 = -4
        · skip
          rw [eApp3 hq h1 h2 h3] at ho ⊢
          cases ho
          refine Tt.of hD (by decide) (Nat.le_of_ble_eq_true rfl) [(0, some (.ref (aVlt D))), (1, some (.int (nI q))), (2, some (.int a)), (3, some (.int b))] rfl (fun X hX C hR => ?_)
          subst hX
          refine g_aload_n (pc := 0) (i := 0) C d_V_append_0 rfl rfl ?_
          refine g_iload_n (pc := 1) (i := 1) C d_V_append_1 rfl rfl ?_
          refine g_callV1 (pc := 2) (As := [_]) C my_V_repositoryInTransaction mv_V_repositoryInTransaction cl_V_61 is_V d_V_append_2 (Nat.le_of_ble_eq_true rfl) rfl (Nat.le_of_ble_eq_true rfl) ⟨Nat.zero_le _, Nat.zero_le _⟩ (c_V_repositoryInTransaction _ hD hq g hdj.1 hdj.2) ?_
          refine g_astore (pc := 5) C d_V_append_5 (by decide) rfl ?_
          refine g_aload (pc := 7) C d_V_append_7 rfl ?_
          refine g_iload_n (pc := 9) (i := 2) C d_V_append_9 rfl rfl ?_
          refine g_callV1 (pc := 10) (As := [_]) C my_Rep_canBeParent mv_Rep_canBeParent cl_V_64 (is_Rep (by omega)) d_V_append_10 (Nat.le_of_ble_eq_true rfl) rfl (Nat.le_of_ble_eq_true rfl) ⟨Nat.zero_le _, Nat.zero_le _⟩ (c_Rep_canBeParent _ hD (k := a) hq) ?_
          rw [g.1.1]
          refine g_if_eq (pc := 13) (tgt := 25) C d_V_append_13 (by decide) (fun h13 => ?_) (fun h13 => ?_)
          · first | exact absurd h13 (by rw [b1_t h2.1]; decide) | exact absurd (by rw [b1_t h2.1]; decide) h13
          · skip
            refine g_aload (pc := 16) C d_V_append_16 rfl ?_
            refine g_iload_n (pc := 18) (i := 3) C d_V_append_18 rfl rfl ?_
            refine g_callV1 (pc := 19) (As := [_]) C my_Rep_canBeParent mv_Rep_canBeParent cl_V_64 (is_Rep (by omega)) d_V_append_19 (Nat.le_of_ble_eq_true rfl) rfl (Nat.le_of_ble_eq_true rfl) ⟨Nat.zero_le _, Nat.zero_le _⟩ (c_Rep_canBeParent _ hD (k := b) hq) ?_
            rw [g.1.1]
            refine g_if_ne (pc := 22) (tgt := 33) C d_V_append_22 (by decide) (fun h22 => ?_) (fun h22 => ?_)
            · skip
              refine g_aload (pc := 33) C d_V_append_33 rfl ?_
              refine g_aload_n (pc := 35) (i := 0) C d_V_append_35 rfl rfl ?_
              refine gf_V_buffer (pc := 36) C fl_V_14 d_V_append_36 ?_
              refine g_iload_n (pc := 39) (i := 2) C d_V_append_39 rfl rfl ?_
              refine g_iload_n (pc := 40) (i := 3) C d_V_append_40 rfl rfl ?_
              rw [← (can_od h2.1 g24).1, ← (can_od h2.2 g24).1]
              refine g_callVp (pc := 41) (As := [_, _, _]) C my_Rep_store mv_Rep_store cl_V_70 (is_Rep (by omega)) d_V_append_41 (Nat.le_of_ble_eq_true rfl) rfl (Nat.le_of_ble_eq_true rfl) ⟨Nat.zero_le _, Nat.zero_le _⟩ (x_Rep_store (j := 0) _ hD hq (by decide) (by omega) g wf.1 (wf.2.2.2.2.2.2 (Or.inr (dfalse hdj.1))) (dfalse hdj.1) wf.2.2.2.1 (can_od h2.1 g24).2 (can_od h2.2 g24).2 hC.1 hW.1 hW.2.1 (hC.2.2.2 q hq).1 (hC.2.2.2 q hq).2.1 (hC.2.2.2 q hq).2.2) (fun r41 u41 hp41 => ?_)
              rw [(can_od h2.1 g24).1, (can_od h2.2 g24).1] at *
              obtain ⟨c2, rfl, rfl, gr, k2, k3, k4, s2⟩ := hp41
              have hv := stor_v wf hdj.1 h2 hW.1 hW.2.1
              refine g_istore (pc := 44) C d_V_append_44 (by decide) rfl ?_
              refine g_iload (pc := 46) C d_V_append_46 rfl ?_
              refine g_bipush (pc := 48) C d_V_append_48 bp_m3 ?_
              refine g_icmp_ne (pc := 50) (tgt := 61) C d_V_append_50 (by decide) (fun h50 => ?_) (fun h50 => ?_)
              · first | exact absurd h50 ((stI_4 hv).mpr h3) | exact absurd ((stI_4 hv).mpr h3) h50
              · skip
                exact g_throw (pc := 53) C hO hR tw_UOE (⟨c2, rfl, hC.sn hq s2 gr k2 k3 k4⟩) (by decide) d_V_append_53 d_V_append_56 d_V_append_57 d_V_append_60
            · first | exact absurd h22 (by rw [b1_t h2.2]; decide) | exact absurd (by rw [b1_t h2.2]; decide) h22
        · skip
          rw [eApp4 hq h1 h2 h3] at ho
          cases ho
      · skip
        rw [eApp2 hq h1 h2] at ho ⊢
        cases ho
        refine Tt.of hD (by decide) (Nat.le_of_ble_eq_true rfl) [(0, some (.ref (aVlt D))), (1, some (.int (nI q))), (2, some (.int a)), (3, some (.int b))] rfl (fun X hX C hR => ?_)
        subst hX
        refine g_aload_n (pc := 0) (i := 0) C d_V_append_0 rfl rfl ?_
        refine g_iload_n (pc := 1) (i := 1) C d_V_append_1 rfl rfl ?_
        refine g_callV1 (pc := 2) (As := [_]) C my_V_repositoryInTransaction mv_V_repositoryInTransaction cl_V_61 is_V d_V_append_2 (Nat.le_of_ble_eq_true rfl) rfl (Nat.le_of_ble_eq_true rfl) ⟨Nat.zero_le _, Nat.zero_le _⟩ (c_V_repositoryInTransaction _ hD hq g hdj.1 hdj.2) ?_
        refine g_astore (pc := 5) C d_V_append_5 (by decide) rfl ?_
        refine g_aload (pc := 7) C d_V_append_7 rfl ?_
        refine g_iload_n (pc := 9) (i := 2) C d_V_append_9 rfl rfl ?_
        refine g_callV1 (pc := 10) (As := [_]) C my_Rep_canBeParent mv_Rep_canBeParent cl_V_64 (is_Rep (by omega)) d_V_append_10 (Nat.le_of_ble_eq_true rfl) rfl (Nat.le_of_ble_eq_true rfl) ⟨Nat.zero_le _, Nat.zero_le _⟩ (c_Rep_canBeParent _ hD (k := a) hq) ?_
        rw [g.1.1]
        refine g_if_eq (pc := 13) (tgt := 25) C d_V_append_13 (by decide) (fun h13 => ?_) (fun h13 => ?_)
        · skip
          exact g_throw (pc := 25) C hO hR tw_IAE (⟨c, rfl, hC⟩) (by decide) d_V_append_25 d_V_append_28 d_V_append_29 d_V_append_32
        · have ha := b1_1 h13
          refine g_aload (pc := 16) C d_V_append_16 rfl ?_
          refine g_iload_n (pc := 18) (i := 3) C d_V_append_18 rfl rfl ?_
          refine g_callV1 (pc := 19) (As := [_]) C my_Rep_canBeParent mv_Rep_canBeParent cl_V_64 (is_Rep (by omega)) d_V_append_19 (Nat.le_of_ble_eq_true rfl) rfl (Nat.le_of_ble_eq_true rfl) ⟨Nat.zero_le _, Nat.zero_le _⟩ (c_Rep_canBeParent _ hD (k := b) hq) ?_
          rw [g.1.1]
          refine g_if_ne (pc := 22) (tgt := 33) C d_V_append_22 (by decide) (fun h22 => ?_) (fun h22 => ?_)
          · first | exact absurd h22 (b1_f (fun e => h2 ⟨ha, e⟩)) | exact absurd (b1_f (fun e => h2 ⟨ha, e⟩)) h22
          · skip
            exact g_throw (pc := 25) C hO hR tw_IAE (⟨c, rfl, hC⟩) (by decide) d_V_append_25 d_V_append_28 d_V_append_29 d_V_append_32
  · skip
    rw [eApp0 h0] at ho ⊢
    cases ho
    refine Tt.of hD (by decide) (Nat.le_of_ble_eq_true rfl) [(0, some (.ref (aVlt D))), (1, some (.int r)), (2, some (.int a)), (3, some (.int b))] rfl (fun X hX C hR => ?_)
    subst hX
    refine g_aload_n (pc := 0) (i := 0) C d_V_append_0 rfl rfl ?_
    refine g_iload_n (pc := 1) (i := 1) C d_V_append_1 rfl rfl ?_
    exact g_callVt (pc := 2) (As := [_]) C hR my_V_repositoryInTransaction mv_V_repositoryInTransaction ml_V_61 is_V d_V_append_2 (Nat.le_of_ble_eq_true rfl) rfl (Nat.le_of_ble_eq_true rfl) (t_V_repositoryInTransaction _ hD hO h0 |> Tt.to (fun u e => ⟨c, e, hC⟩))
abbrev busy (V : Vt) (q : Nat) : Prop := (V.2 q).dwn = true ∨ (V.2 q).jrn.isSome = true ∨ (V.2 (1 - q)).dwn = true ∨ (V.2 (1 - q)).jrn.isSome = true
theorem ePull0 {V : Vt} {r : Int32} (h : ¬ (0 ≤ r ∧ r < 2)) : oPull V r = (.inr 0, V) := onR_n h
theorem ePull1 {V : Vt} {q : Nat} (hq : q < 2) (h : busy V q) : oPull V (nI q) = (.inr 1, V) := (onR_y hq).trans (if_pos h)
theorem ePull2 {V : Vt} {q : Nat} (hq : q < 2) (h : ¬ busy V q) (h3 : (pullV (V.2 q) (V.2 (1 - q))).1 = -4) : oPull V (nI q) = (.inr 3, upR V q (pullV (V.2 q) (V.2 (1 - q))).2) := (onR_y hq).trans ((if_neg h).trans (if_pos h3))
theorem ePull3 {V : Vt} {q : Nat} (hq : q < 2) (h : ¬ busy V q) (h3 : ¬ (pullV (V.2 q) (V.2 (1 - q))).1 = -4) : oPull V (nI q) = (.inl (Int32.ofInt (pullV (V.2 q) (V.2 (1 - q))).1), upR V q (pullV (V.2 q) (V.2 (1 - q))).2) := (onR_y hq).trans ((if_neg h).trans (if_neg h3))
theorem one_sub : ∀ q, q < 2 → (1 : Int32) - nI q = nI (1 - q) := by decide +kernel
theorem CAbs.two {c2 : Cs} {V : Vt} {q : Nat} {R : Rp} (hq : q < 2) (hb : RowIs c2 0 V.1) (hR : RepIs c2 q R) (ho : RepIs c2 (1 - q) (V.2 (1 - q))) (hs : Scr c2) : CAbs c2 (upR V q R) := by
  rcases (show q = 0 ∨ q = 1 by omega) with rfl | rfl
  · exact ⟨hb, by rw [upR_s]; exact hR, by rw [upR_n (by decide)]; exact ho, hs⟩
  · exact ⟨hb, by rw [upR_n (by decide)]; exact ho, by rw [upR_s]; exact hR, hs⟩
set_option maxRecDepth 100000 in
set_option maxHeartbeats 4000000 in
theorem x_V_pull (l : Launch) {D : Dt} (hD : OkD D) {c : Cs} {τ : Cs × (Nat → Int64)} {V : Vt} {r : Int32} (hC : CAbs c V) (hW : WfV V) {z : Int32} (ho : (oPull V r).1 = .inl z) : Cp l D y_V_pull b_V_pull 5 (some .int) 10 [.int r, .ref (aVlt D)] ((c, τ) : Sg) (fun a0 u => ∃ c2, u = ((c2, τ) : Sg) ∧ a0 = some (.int z) ∧ CAbs c2 (oPull V r).2) := by
  by_cases h0 : 0 ≤ r ∧ r < 2
  · skip
    obtain ⟨q, hq, rfl⟩ := okr_n h0
    have g := hC.rep hq
    have wf := hW.rep hq
    have g24 := g.2.2.1
    have hq2 : 1 - q < 2 := by omega
    have o := hC.rep hq2
    have wo := hW.rep hq2
    by_cases h1 : busy V q
    · skip
      rw [ePull1 hq h1] at ho
      cases ho
    · skip
      
      by_cases h3 : (pullV (V.2 q) (V.2 (1 - q))).1 = -4
      · skip
        rw [ePull2 hq h1 h3] at ho
        cases ho
      · skip
        rw [ePull3 hq h1 h3] at ho ⊢
        cases ho
        refine Cp.of hD (by decide) (Nat.le_of_ble_eq_true rfl) [(0, some (.ref (aVlt D))), (1, some (.int (nI q)))] rfl (fun X hX C => ?_)
        subst hX
        refine g_aload_n (pc := 0) (i := 0) C d_V_pull_0 rfl rfl ?_
        refine g_iload_n (pc := 1) (i := 1) C d_V_pull_1 rfl rfl ?_
        refine g_callV1 (pc := 2) (As := [_]) C my_V_repositoryAt mv_V_repositoryAt cl_V_43 is_V d_V_pull_2 (Nat.le_of_ble_eq_true rfl) rfl (Nat.le_of_ble_eq_true rfl) ⟨Nat.zero_le _, Nat.zero_le _⟩ (c_V_repositoryAt _ hD hq) ?_
        refine g_astore_n (pc := 5) (i := 2) C d_V_pull_5 rfl (by decide) rfl ?_
        refine g_aload_n (pc := 6) (i := 0) C d_V_pull_6 rfl rfl ?_
        refine g_iconst (pc := 7) C d_V_pull_7 ic_1 ?_
        refine g_iload_n (pc := 8) (i := 1) C d_V_pull_8 rfl rfl ?_
        refine g_isub (pc := 9) C d_V_pull_9 ?_
        rw [one_sub q hq]
        refine g_callV1 (pc := 10) (As := [_]) C my_V_repositoryAt mv_V_repositoryAt cl_V_43 is_V d_V_pull_10 (Nat.le_of_ble_eq_true rfl) rfl (Nat.le_of_ble_eq_true rfl) ⟨Nat.zero_le _, Nat.zero_le _⟩ (c_V_repositoryAt _ hD hq2) ?_
        refine g_astore_n (pc := 13) (i := 3) C d_V_pull_13 rfl (by decide) rfl ?_
        refine g_aload_n (pc := 14) (i := 2) C d_V_pull_14 rfl rfl ?_
        refine gf_Rep_down (pc := 15) C (by omega) fl_V_47 d_V_pull_15 ?_
        rw [g.1.2.2.2.1]
        refine g_if_ne (pc := 18) (tgt := 42) C d_V_pull_18 (by decide) (fun h18 => ?_) (fun h18 => ?_)
        · first | exact absurd h18 (b1_f (fun e => h1 (Or.inl e))) | exact absurd (b1_f (fun e => h1 (Or.inl e))) h18
        · skip
          refine g_aload_n (pc := 21) (i := 2) C d_V_pull_21 rfl rfl ?_
          refine gf_Rep_journal (pc := 22) C (by omega) fl_V_51 d_V_pull_22 ?_
          rw [g.1.2.1]
          refine g_if_ne (pc := 25) (tgt := 42) C d_V_pull_25 (by decide) (fun h25 => ?_) (fun h25 => ?_)
          · first | exact absurd h25 (b1_f (fun e => h1 (Or.inr (Or.inl e)))) | exact absurd (b1_f (fun e => h1 (Or.inr (Or.inl e)))) h25
          · skip
            refine g_aload_n (pc := 28) (i := 3) C d_V_pull_28 rfl rfl ?_
            refine gf_Rep_down (pc := 29) C (by omega) fl_V_47 d_V_pull_29 ?_
            rw [o.1.2.2.2.1]
            refine g_if_ne (pc := 32) (tgt := 42) C d_V_pull_32 (by decide) (fun h32 => ?_) (fun h32 => ?_)
            · first | exact absurd h32 (b1_f (fun e => h1 (Or.inr (Or.inr (Or.inl e))))) | exact absurd (b1_f (fun e => h1 (Or.inr (Or.inr (Or.inl e))))) h32
            · skip
              refine g_aload_n (pc := 35) (i := 3) C d_V_pull_35 rfl rfl ?_
              refine gf_Rep_journal (pc := 36) C (by omega) fl_V_51 d_V_pull_36 ?_
              rw [o.1.2.1]
              refine g_if_eq (pc := 39) (tgt := 50) C d_V_pull_39 (by decide) (fun h39 => ?_) (fun h39 => ?_)
              · skip
                refine g_aload_n (pc := 50) (i := 2) C d_V_pull_50 rfl rfl ?_
                refine g_aload_n (pc := 51) (i := 3) C d_V_pull_51 rfl rfl ?_
                refine g_callVp (pc := 52) (As := [_]) C my_Rep_takeFrom mv_Rep_takeFrom cl_V_97 (is_Rep (by omega)) d_V_pull_52 (Nat.le_of_ble_eq_true rfl) rfl (Nat.le_of_ble_eq_true rfl) ⟨Nat.zero_le _, Nat.zero_le _⟩ (x_Rep_takeFrom _ hD hq hq2 (by omega) g o hC.1 hC.2.2.2 wf wo (dfalse fun e => h1 (Or.inl e)) (by simpa using fun e => h1 (Or.inr (Or.inl e))) (dfalse fun e => h1 (Or.inr (Or.inr (Or.inl e))))) (fun r52 u52 hp52 => ?_)
                obtain ⟨c2, rfl, rfl, gr, go, kb, ks⟩ := hp52
                have hv := (pull_all wf wo (dfalse fun e => h1 (Or.inl e))).2
                refine g_istore (pc := 55) C d_V_pull_55 (by decide) rfl ?_
                refine g_iload (pc := 57) C d_V_pull_57 rfl ?_
                refine g_bipush (pc := 59) C d_V_pull_59 bp_m3 ?_
                refine g_icmp_ne (pc := 61) (tgt := 72) C d_V_pull_61 (by decide) (fun h61 => ?_) (fun h61 => ?_)
                · skip
                  refine g_iload (pc := 72) C d_V_pull_72 rfl ?_
                  refine g_iret (pc := 74) C d_V_pull_74 ?_
                  exact ⟨c2, rfl, by rw [stI_n h3], CAbs.two hq kb gr go ks⟩
                · first | exact absurd h61 (fun e => h3 ((stI_4 hv).mp e)) | exact absurd (fun e => h3 ((stI_4 hv).mp e)) h61
              · first | exact absurd h39 (b1_f (fun e => h1 (Or.inr (Or.inr (Or.inr e))))) | exact absurd (b1_f (fun e => h1 (Or.inr (Or.inr (Or.inr e))))) h39
  · skip
    rw [ePull0 h0] at ho
    cases ho
set_option maxRecDepth 100000 in
set_option maxHeartbeats 4000000 in
theorem t_V_pull (l : Launch) {D : Dt} (hD : OkD D) {c : Cs} {τ : Cs × (Nat → Int64)} {V : Vt} {r : Int32} (hO : OkT l D) (hC : CAbs c V) (hW : WfV V) {k : Nat} (ho : (oPull V r).1 = .inr k) : Tt l D y_V_pull b_V_pull 5 (some .int) 10 [.int r, .ref (aVlt D)] ((c, τ) : Sg) (exN k) (fun u => ∃ c2, u = ((c2, τ) : Sg) ∧ CAbs c2 (oPull V r).2) := by
  by_cases h0 : 0 ≤ r ∧ r < 2
  · skip
    obtain ⟨q, hq, rfl⟩ := okr_n h0
    have g := hC.rep hq
    have wf := hW.rep hq
    have g24 := g.2.2.1
    have hq2 : 1 - q < 2 := by omega
    have o := hC.rep hq2
    have wo := hW.rep hq2
    by_cases h1 : busy V q
    · skip
      rw [ePull1 hq h1] at ho ⊢
      cases ho
      refine Tt.of hD (by decide) (Nat.le_of_ble_eq_true rfl) [(0, some (.ref (aVlt D))), (1, some (.int (nI q)))] rfl (fun X hX C hR => ?_)
      subst hX
      refine g_aload_n (pc := 0) (i := 0) C d_V_pull_0 rfl rfl ?_
      refine g_iload_n (pc := 1) (i := 1) C d_V_pull_1 rfl rfl ?_
      refine g_callV1 (pc := 2) (As := [_]) C my_V_repositoryAt mv_V_repositoryAt cl_V_43 is_V d_V_pull_2 (Nat.le_of_ble_eq_true rfl) rfl (Nat.le_of_ble_eq_true rfl) ⟨Nat.zero_le _, Nat.zero_le _⟩ (c_V_repositoryAt _ hD hq) ?_
      refine g_astore_n (pc := 5) (i := 2) C d_V_pull_5 rfl (by decide) rfl ?_
      refine g_aload_n (pc := 6) (i := 0) C d_V_pull_6 rfl rfl ?_
      refine g_iconst (pc := 7) C d_V_pull_7 ic_1 ?_
      refine g_iload_n (pc := 8) (i := 1) C d_V_pull_8 rfl rfl ?_
      refine g_isub (pc := 9) C d_V_pull_9 ?_
      rw [one_sub q hq]
      refine g_callV1 (pc := 10) (As := [_]) C my_V_repositoryAt mv_V_repositoryAt cl_V_43 is_V d_V_pull_10 (Nat.le_of_ble_eq_true rfl) rfl (Nat.le_of_ble_eq_true rfl) ⟨Nat.zero_le _, Nat.zero_le _⟩ (c_V_repositoryAt _ hD hq2) ?_
      refine g_astore_n (pc := 13) (i := 3) C d_V_pull_13 rfl (by decide) rfl ?_
      refine g_aload_n (pc := 14) (i := 2) C d_V_pull_14 rfl rfl ?_
      refine gf_Rep_down (pc := 15) C (by omega) fl_V_47 d_V_pull_15 ?_
      rw [g.1.2.2.2.1]
      refine g_if_ne (pc := 18) (tgt := 42) C d_V_pull_18 (by decide) (fun h18 => ?_) (fun h18 => ?_)
      · skip
        exact g_throw (pc := 42) C hO hR tw_ISE (⟨c, rfl, hC⟩) (by decide) d_V_pull_42 d_V_pull_45 d_V_pull_46 d_V_pull_49
      · have n1 := b1_0 h18
        refine g_aload_n (pc := 21) (i := 2) C d_V_pull_21 rfl rfl ?_
        refine gf_Rep_journal (pc := 22) C (by omega) fl_V_51 d_V_pull_22 ?_
        rw [g.1.2.1]
        refine g_if_ne (pc := 25) (tgt := 42) C d_V_pull_25 (by decide) (fun h25 => ?_) (fun h25 => ?_)
        · skip
          exact g_throw (pc := 42) C hO hR tw_ISE (⟨c, rfl, hC⟩) (by decide) d_V_pull_42 d_V_pull_45 d_V_pull_46 d_V_pull_49
        · have n2 := b1_0 h25
          refine g_aload_n (pc := 28) (i := 3) C d_V_pull_28 rfl rfl ?_
          refine gf_Rep_down (pc := 29) C (by omega) fl_V_47 d_V_pull_29 ?_
          rw [o.1.2.2.2.1]
          refine g_if_ne (pc := 32) (tgt := 42) C d_V_pull_32 (by decide) (fun h32 => ?_) (fun h32 => ?_)
          · skip
            exact g_throw (pc := 42) C hO hR tw_ISE (⟨c, rfl, hC⟩) (by decide) d_V_pull_42 d_V_pull_45 d_V_pull_46 d_V_pull_49
          · have n3 := b1_0 h32
            refine g_aload_n (pc := 35) (i := 3) C d_V_pull_35 rfl rfl ?_
            refine gf_Rep_journal (pc := 36) C (by omega) fl_V_51 d_V_pull_36 ?_
            rw [o.1.2.1]
            refine g_if_eq (pc := 39) (tgt := 50) C d_V_pull_39 (by decide) (fun h39 => ?_) (fun h39 => ?_)
            · first | exact absurd h39 (fun e => b1_0 e (((h1.resolve_left n1).resolve_left n2).resolve_left n3)) | exact absurd (fun e => b1_0 e (((h1.resolve_left n1).resolve_left n2).resolve_left n3)) h39
            · skip
              exact g_throw (pc := 42) C hO hR tw_ISE (⟨c, rfl, hC⟩) (by decide) d_V_pull_42 d_V_pull_45 d_V_pull_46 d_V_pull_49
    · skip
      
      by_cases h3 : (pullV (V.2 q) (V.2 (1 - q))).1 = -4
      · skip
        rw [ePull2 hq h1 h3] at ho ⊢
        cases ho
        refine Tt.of hD (by decide) (Nat.le_of_ble_eq_true rfl) [(0, some (.ref (aVlt D))), (1, some (.int (nI q)))] rfl (fun X hX C hR => ?_)
        subst hX
        refine g_aload_n (pc := 0) (i := 0) C d_V_pull_0 rfl rfl ?_
        refine g_iload_n (pc := 1) (i := 1) C d_V_pull_1 rfl rfl ?_
        refine g_callV1 (pc := 2) (As := [_]) C my_V_repositoryAt mv_V_repositoryAt cl_V_43 is_V d_V_pull_2 (Nat.le_of_ble_eq_true rfl) rfl (Nat.le_of_ble_eq_true rfl) ⟨Nat.zero_le _, Nat.zero_le _⟩ (c_V_repositoryAt _ hD hq) ?_
        refine g_astore_n (pc := 5) (i := 2) C d_V_pull_5 rfl (by decide) rfl ?_
        refine g_aload_n (pc := 6) (i := 0) C d_V_pull_6 rfl rfl ?_
        refine g_iconst (pc := 7) C d_V_pull_7 ic_1 ?_
        refine g_iload_n (pc := 8) (i := 1) C d_V_pull_8 rfl rfl ?_
        refine g_isub (pc := 9) C d_V_pull_9 ?_
        rw [one_sub q hq]
        refine g_callV1 (pc := 10) (As := [_]) C my_V_repositoryAt mv_V_repositoryAt cl_V_43 is_V d_V_pull_10 (Nat.le_of_ble_eq_true rfl) rfl (Nat.le_of_ble_eq_true rfl) ⟨Nat.zero_le _, Nat.zero_le _⟩ (c_V_repositoryAt _ hD hq2) ?_
        refine g_astore_n (pc := 13) (i := 3) C d_V_pull_13 rfl (by decide) rfl ?_
        refine g_aload_n (pc := 14) (i := 2) C d_V_pull_14 rfl rfl ?_
        refine gf_Rep_down (pc := 15) C (by omega) fl_V_47 d_V_pull_15 ?_
        rw [g.1.2.2.2.1]
        refine g_if_ne (pc := 18) (tgt := 42) C d_V_pull_18 (by decide) (fun h18 => ?_) (fun h18 => ?_)
        · first | exact absurd h18 (b1_f (fun e => h1 (Or.inl e))) | exact absurd (b1_f (fun e => h1 (Or.inl e))) h18
        · skip
          refine g_aload_n (pc := 21) (i := 2) C d_V_pull_21 rfl rfl ?_
          refine gf_Rep_journal (pc := 22) C (by omega) fl_V_51 d_V_pull_22 ?_
          rw [g.1.2.1]
          refine g_if_ne (pc := 25) (tgt := 42) C d_V_pull_25 (by decide) (fun h25 => ?_) (fun h25 => ?_)
          · first | exact absurd h25 (b1_f (fun e => h1 (Or.inr (Or.inl e)))) | exact absurd (b1_f (fun e => h1 (Or.inr (Or.inl e)))) h25
          · skip
            refine g_aload_n (pc := 28) (i := 3) C d_V_pull_28 rfl rfl ?_
            refine gf_Rep_down (pc := 29) C (by omega) fl_V_47 d_V_pull_29 ?_
            rw [o.1.2.2.2.1]
            refine g_if_ne (pc := 32) (tgt := 42) C d_V_pull_32 (by decide) (fun h32 => ?_) (fun h32 => ?_)
            · first | exact absurd h32 (b1_f (fun e => h1 (Or.inr (Or.inr (Or.inl e))))) | exact absurd (b1_f (fun e => h1 (Or.inr (Or.inr (Or.inl e))))) h32
            · skip
              refine g_aload_n (pc := 35) (i := 3) C d_V_pull_35 rfl rfl ?_
              refine gf_Rep_journal (pc := 36) C (by omega) fl_V_51 d_V_pull_36 ?_
              rw [o.1.2.1]
              refine g_if_eq (pc := 39) (tgt := 50) C d_V_pull_39 (by decide) (fun h39 => ?_) (fun h39 => ?_)
              · skip
                refine g_aload_n (pc := 50) (i := 2) C d_V_pull_50 rfl rfl ?_
                refine g_aload_n (pc := 51) (i := 3) C d_V_pull_51 rfl rfl ?_
                refine g_callVp (pc := 52) (As := [_]) C my_Rep_takeFrom mv_Rep_takeFrom cl_V_97 (is_Rep (by omega)) d_V_pull_52 (Nat.le_of_ble_eq_true rfl) rfl (Nat.le_of_ble_eq_true rfl) ⟨Nat.zero_le _, Nat.zero_le _⟩ (x_Rep_takeFrom _ hD hq hq2 (by omega) g o hC.1 hC.2.2.2 wf wo (dfalse fun e => h1 (Or.inl e)) (by simpa using fun e => h1 (Or.inr (Or.inl e))) (dfalse fun e => h1 (Or.inr (Or.inr (Or.inl e))))) (fun r52 u52 hp52 => ?_)
                obtain ⟨c2, rfl, rfl, gr, go, kb, ks⟩ := hp52
                have hv := (pull_all wf wo (dfalse fun e => h1 (Or.inl e))).2
                refine g_istore (pc := 55) C d_V_pull_55 (by decide) rfl ?_
                refine g_iload (pc := 57) C d_V_pull_57 rfl ?_
                refine g_bipush (pc := 59) C d_V_pull_59 bp_m3 ?_
                refine g_icmp_ne (pc := 61) (tgt := 72) C d_V_pull_61 (by decide) (fun h61 => ?_) (fun h61 => ?_)
                · first | exact absurd h61 ((stI_4 hv).mpr h3) | exact absurd ((stI_4 hv).mpr h3) h61
                · skip
                  exact g_throw (pc := 64) C hO hR tw_UOE (⟨c2, rfl, CAbs.two hq kb gr go ks⟩) (by decide) d_V_pull_64 d_V_pull_67 d_V_pull_68 d_V_pull_71
              · first | exact absurd h39 (b1_f (fun e => h1 (Or.inr (Or.inr (Or.inr e))))) | exact absurd (b1_f (fun e => h1 (Or.inr (Or.inr (Or.inr e))))) h39
      · skip
        rw [ePull3 hq h1 h3] at ho
        cases ho
  · skip
    rw [ePull0 h0] at ho ⊢
    cases ho
    refine Tt.of hD (by decide) (Nat.le_of_ble_eq_true rfl) [(0, some (.ref (aVlt D))), (1, some (.int r))] rfl (fun X hX C hR => ?_)
    subst hX
    refine g_aload_n (pc := 0) (i := 0) C d_V_pull_0 rfl rfl ?_
    refine g_iload_n (pc := 1) (i := 1) C d_V_pull_1 rfl rfl ?_
    exact g_callVt (pc := 2) (As := [_]) C hR my_V_repositoryAt mv_V_repositoryAt ml_V_43 is_V d_V_pull_2 (Nat.le_of_ble_eq_true rfl) rfl (Nat.le_of_ble_eq_true rfl) (t_V_repositoryAt _ hD hO h0 |> Tt.to (fun u e => ⟨c, e, hC⟩))
