set_option maxRecDepth 100000 in
set_option maxHeartbeats 4000000 in
theorem x_Rep_takeFrom (l : Launch) {D : Dt} (hD : OkD D) {r r2 : Nat} {c : Cs} {τ : Cs × (Nat → Int64)} {R O : Rp} {b : List Nat} (hr : r < 2) (hr2 : r2 < 2) (hrr : r2 ≠ r) (g : RepIs c r R) (o : RepIs c r2 O) (kb : RowIs c 0 b) (ks : Scr c) (wR : WfR R) (wO : WfR O) (hd : R.dwn = false) (hj : R.jrn = none) (hdO : O.dwn = false) : Cp l D y_Rep_takeFrom b_Rep_takeFrom 6 (some .int) 8 [.ref (aRep D r2), .ref (aRep D r)] ((c, τ) : Sg) (fun a u => ∃ c2, u = ((c2, τ) : Sg) ∧ a = some (.int (stI (pullV R O).1)) ∧ RepIs c2 r (pullV R O).2 ∧ RepIs c2 r2 O ∧ RowIs c2 0 b ∧ Scr c2) := by
  have lO := wO.2.2.1
  have wOs := wO.2.2.2.2.2.2 (Or.inr hdO)
  have fR := wR.2.2.2.1
  have lR := wR.2.2.1
  have dR := wR.2.1
  have uci : ∀ {c1 c2 : Cs} {Q : Rp}, Sm (Ci (20 + r)) c1 c2 → (RepIs c1 r2 Q → RepIs c2 r2 Q) ∧ (RowIs c1 0 b → RowIs c2 0 b) ∧ (Scr c1 → Scr c2) := fun hs => ⟨fun h => h.gm hs (fun t ht => by unfold Ci; omega), fun h => h.sm hs (by unfold Ci; omega) (by unfold Ci; omega), fun h => h.gm hs (fun r hr k hk => by unfold Ci; omega)⟩
  have ubp : ∀ {c1 c2 : Cs} {Q P : Rp}, Sm (Bp r2) c1 c2 → (RepIs c1 r Q → RepIs c2 r Q) ∧ (RepIs c1 r2 P → RepIs c2 r2 P) ∧ (RowIs c1 0 b → RowIs c2 0 b) := fun hs => ⟨fun h => h.gm hs (fun t ht => by unfold Bp Rw; omega), fun h => h.gm hs (fun t ht => by unfold Bp Rw; omega), fun h => h.sm hs (by unfold Bp Rw; omega) (by unfold Bp Rw; omega)⟩
  have upr : ∀ {c1 c2 : Cs} {Q : Rp}, Sm (Pr r) c1 c2 → (RepIs c1 r2 Q → RepIs c2 r2 Q) ∧ (RowIs c1 0 b → RowIs c2 0 b) ∧ (Scr c1 → Scr c2) := fun hs => ⟨fun h => h.gm hs (fun t ht => by unfold Pr Rw; omega), fun h => h.sm hs (by unfold Pr Rw; omega) (by unfold Pr Rw; omega), fun h => h.gm hs (fun r hr k hk => by unfold Pr Rw; omega)⟩
  refine Cp.of hD (by decide) (Nat.le_of_ble_eq_true rfl) [(0, some (.ref (aRep D r))), (1, some (.ref (aRep D r2)))] rfl (fun X hX C => ?_)
  subst hX
  have loop : (begn R).1 = true → ∀ (m n : Nat) (c1 : Cs) (R1 : Rp), n + m = O.rcs.length → RepIs c1 r R1 → RepIs c1 r2 O → RowIs c1 0 b → Scr c1 → WfR R1 → R1.dwn = false → Pfx (begn R).2 R1 → plp O O.rcs.length 0 (begn R).2 = plp O m n R1 → G X D (Qp X D (fun a u => ∃ c2, u = ((c2, τ) : Sg) ∧ a = some (.int (stI (pullV R O).1)) ∧ RepIs c2 r (pullV R O).2 ∧ RepIs c2 r2 O ∧ RowIs c2 0 b ∧ Scr c2)) (0, 0) ((c1, τ) : Sg) 17 [(0, some (.ref (aRep D r))), (1, some (.ref (aRep D r2))), (2, some (.int (nI R.fai))), (3, some (.int (nI n)))] [] := by
    intro hbt m
    obtain ⟨ba, bb, bc, bd⟩ := begn_all hbt hd
    have hpj : ∀ {Q : Rp}, Pfx (begn R).2 Q → Q.jrn = some (R.dat.length, R.rcs.length) ∧ R.rcs.length ≤ Q.rcs.length := fun hp => by
      obtain ⟨-, ⟨v, hv⟩, h3⟩ := hp
      refine ⟨h3.trans bc, ?_⟩
      rw [hv, bb, List.length_append]
      omega
    induction m with
    | zero =>
      intro n c1 R1 hn g1 o1 kb1 ks1 w1 d1 hp he
      have he : plp O O.rcs.length 0 (begn R).2 = (0, R1) := he
      obtain ⟨j1, l1⟩ := hpj hp
      have l24 := w1.2.2.1
      refine g_iload_n (pc := 17) (i := 3) C d_Rep_takeFrom_17 rfl rfl ?_
      refine g_aload_n (pc := 18) (i := 1) C d_Rep_takeFrom_18 rfl rfl ?_
      refine gf_Rep_recordCount (pc := 19) C (by omega) fl_Rep_27 d_Rep_takeFrom_19 ?_
      rw [o1.1.1]
      refine g_icmp_ge (pc := 22) (tgt := 119) C d_Rep_takeFrom_22 (by decide) (fun h22 => ?_) (fun h22 => ?_)
      · skip
        refine g_aload_n (pc := 119) (i := 0) C d_Rep_takeFrom_119 rfl rfl ?_
        refine gf_Rep_recordCount (pc := 120) C (by omega) fl_Rep_27 d_Rep_takeFrom_120 ?_
        rw [g1.1.1]
        refine g_aload_n (pc := 123) (i := 0) C d_Rep_takeFrom_123 rfl rfl ?_
        refine gf_Rep_journalRecords (pc := 124) C (by omega) fl_Rep_68 d_Rep_takeFrom_124 ?_
        rw [(g1.1.2.2.1 _ j1).2]
        refine g_isub (pc := 127) C d_Rep_takeFrom_127 ?_
        rw [pk_sub l1]
        refine g_istore_n (pc := 128) (i := 3) C d_Rep_takeFrom_128 rfl (by decide) rfl ?_
        refine g_aload_n (pc := 129) (i := 0) C d_Rep_takeFrom_129 rfl rfl ?_
        refine g_callVp (pc := 130) (As := []) C my_Rep_removeJournal mv_Rep_removeJournal cl_Rep_74 (is_Rep (by omega)) d_Rep_takeFrom_130 (Nat.le_of_ble_eq_true rfl) rfl (Nat.le_of_ble_eq_true rfl) ⟨Nat.zero_le _, Nat.zero_le _⟩ (x_Rep_removeJournal _ hD (by omega) g1 d1 w1.2.2.2.1) (fun r130 u130 hp130 => ?_)
        obtain ⟨c2, rfl, rfl, g2, s2⟩ := hp130
        obtain ⟨u1, u2, u3⟩ := uci (Q := O) s2
        refine g_if_eq (pc := 133) (tgt := 140) C d_Rep_takeFrom_133 (by decide) (fun h133 => ?_) (fun h133 => ?_)
        · have hf := b1_0 h133
          refine g_bipush (pc := 140) C d_Rep_takeFrom_140 bp_m2 ?_
          refine g_iret (pc := 142) C d_Rep_takeFrom_142 ?_
          rw [pull_0 hbt he, if_neg hf]
          exact ⟨c2, rfl, by rw [oi_s2], g2, u1 o1, u2 kb1, u3 ks1⟩
        · have hf := b1_1 h133
          refine g_iload_n (pc := 136) (i := 3) C d_Rep_takeFrom_136 rfl rfl ?_
          refine g_goto (pc := 137) (tgt := 142) C d_Rep_takeFrom_137 (by decide) ?_
          refine g_iret (pc := 142) C d_Rep_takeFrom_142 ?_
          rw [pull_0 hbt he, if_pos hf]
          exact ⟨c2, rfl, by rw [oi_sn], g2, u1 o1, u2 kb1, u3 ks1⟩
      · first | exact absurd h22 (nI_le (by omega) (by omega)) | exact absurd (nI_le (by omega) (by omega)) h22
    | succ m ih =>
      intro n c1 R1 hn g1 o1 kb1 ks1 w1 d1 hp he
      obtain ⟨j1, l1⟩ := hpj hp
      have l24 := w1.2.2.1
      have w1s := w1.2.2.2.2.2.2 (Or.inr d1)
      obtain ⟨x, hxn⟩ : ∃ x, O.rcs[n]? = some x := ⟨_, List.getElem?_eq_getElem (show n < O.rcs.length by omega)⟩
      have hrec := o1.2.2.2 n x hxn
      have hwx := wOs n x hxn
      have fl : ∀ k, find R1.rcs x.nod = some k → k < 2 ^ 31 := fun k e => by have := find_lt e; omega
      obtain ⟨y2, hy2⟩ := (ks1 r2 hr2).1
      have hnO : n < O.rcs.length := by omega
      refine g_iload_n (pc := 17) (i := 3) C d_Rep_takeFrom_17 rfl rfl ?_
      refine g_aload_n (pc := 18) (i := 1) C d_Rep_takeFrom_18 rfl rfl ?_
      refine gf_Rep_recordCount (pc := 19) C (by omega) fl_Rep_27 d_Rep_takeFrom_19 ?_
      rw [o1.1.1]
      refine g_icmp_ge (pc := 22) (tgt := 119) C d_Rep_takeFrom_22 (by decide) (fun h22 => ?_) (fun h22 => ?_)
      · first | exact absurd h22 (nI_ge hnO (by omega)) | exact absurd (nI_ge hnO (by omega)) h22
      · skip
        refine g_aload_n (pc := 25) (i := 1) C d_Rep_takeFrom_25 rfl rfl ?_
        refine gf_Rep_records (pc := 26) C (by omega) fl_Rep_22 d_Rep_takeFrom_26 ?_
        refine g_iload_n (pc := 29) (i := 3) C d_Rep_takeFrom_29 rfl rfl ?_
        refine ga_rcs (pc := 30) C (by omega) (by omega) d_Rep_takeFrom_30 ?_
        refine g_astore (pc := 31) C d_Rep_takeFrom_31 (by decide) rfl ?_
        refine g_aload_n (pc := 33) (i := 0) C d_Rep_takeFrom_33 rfl rfl ?_
        refine g_aload (pc := 34) C d_Rep_takeFrom_34 rfl ?_
        refine gf_Rec_node (pc := 36) C (by omega) fl_Rep_84 d_Rep_takeFrom_36 ?_
        rw [hrec.2.2.2.2.2.2]
        refine g_callV1 (pc := 39) (As := [_]) C my_Rep_find mv_Rep_find cl_Rep_88 (is_Rep (by omega)) d_Rep_takeFrom_39 (Nat.le_of_ble_eq_true rfl) rfl (Nat.le_of_ble_eq_true rfl) ⟨Nat.zero_le _, Nat.zero_le _⟩ (c_Rep_find _ hD (by omega) g1.1.1 g1.2.2) ?_
        refine g_iconst (pc := 42) C d_Rep_takeFrom_42 ic_m1 ?_
        refine g_icmp_ne (pc := 43) (tgt := 113) C d_Rep_takeFrom_43 (by decide) (fun h43 => ?_) (fun h43 => ?_)
        · obtain ⟨k, hfd⟩ : ∃ k, find R1.rcs x.nod = some k := by
            cases hfd : find R1.rcs x.nod with
            | none => exact absurd (by rw [hfd]; rfl) h43
            | some k => exact ⟨k, rfl⟩
          refine g_iinc (pc := 113) C d_Rep_takeFrom_113 rfl (v := nI (n + 1)) (nI_inc n) rfl ?_
          refine g_goto (pc := 116) (tgt := 17) C d_Rep_takeFrom_116 (by decide) ?_
          rw [plp_f hxn hfd] at he
          exact G.lf (ih (n + 1) c1 R1 (by omega) g1 o1 kb1 ks1 w1 d1 hp he) (sb rfl (sb rfl (sb rfl (sb rfl sn))))
        · have hfd := (eo_m1 fl).mp h43
          refine g_bipush (pc := 46) C d_Rep_takeFrom_46 bp_m3 ?_
          refine g_istore (pc := 48) C d_Rep_takeFrom_48 (by decide) rfl ?_
          refine g_aload_n (pc := 50) (i := 1) C d_Rep_takeFrom_50 rfl rfl ?_
          refine g_iload_n (pc := 51) (i := 3) C d_Rep_takeFrom_51 rfl rfl ?_
          refine g_callVp (pc := 52) (As := [_]) C my_Rep_build mv_Rep_build cl_Rep_92 (is_Rep (by omega)) d_Rep_takeFrom_52 (Nat.le_of_ble_eq_true rfl) rfl (Nat.le_of_ble_eq_true rfl) ⟨Nat.zero_le _, Nat.zero_le _⟩ (x_Rep_build _ hD (by omega) o1.2.2 o1.2.1 wO.1 wOs hnO hy2) (fun r52 u52 hp52 => ?_)
          obtain ⟨c2, rfl, s2, hp2⟩ := hp52
          obtain ⟨v1, v2, v3⟩ := ubp (Q := R1) (P := O) s2
          have g2 := v1 g1
          have o2 := v2 o1
          have kb2 := v3 kb1
          have hrec2 := o2.2.2.2 n x hxn
          have ks2 : Scr c2 := ks1.bp s2 hr2 (by
            rcases hp2 with ⟨t, -, -, h⟩ | ⟨-, -, h⟩
            · exact ⟨t, h⟩
            · exact h)
          rcases hp2 with ⟨t, e1, rfl, r2t⟩ | ⟨e1, rfl, -⟩
          rotate_left
          · rw [plp_n hxn hfd e1] at he
            refine g_if_eq (pc := 55) (tgt := 88) C d_Rep_takeFrom_55 (by decide) (fun h55 => ?_) (fun h55 => ?_)
            · refine g_iload (pc := 88) C d_Rep_takeFrom_88 rfl ?_
              refine g_bipush (pc := 90) C d_Rep_takeFrom_90 bp_m2 ?_
              refine g_icmp_ne (pc := 92) (tgt := 98) C d_Rep_takeFrom_92 (by decide) (fun h92 => ?_) (fun h92 => ?_)
              · refine g_iload (pc := 98) C d_Rep_takeFrom_98 rfl ?_
                refine g_bipush (pc := 100) C d_Rep_takeFrom_100 bp_m3 ?_
                refine g_icmp_ne (pc := 102) (tgt := 113) C d_Rep_takeFrom_102 (by decide) (fun h102 => ?_) (fun h102 => ?_)
                · exact absurd rfl h102
                · refine g_aload_n (pc := 105) (i := 0) C d_Rep_takeFrom_105 rfl rfl ?_
                  refine g_iload_n (pc := 106) (i := 2) C d_Rep_takeFrom_106 rfl rfl ?_
                  refine g_callVp (pc := 107) (As := [_]) C my_Rep_undo mv_Rep_undo cl_Rep_109 (is_Rep (by omega)) d_Rep_takeFrom_107 (Nat.le_of_ble_eq_true rfl) rfl (Nat.le_of_ble_eq_true rfl) ⟨Nat.zero_le _, Nat.zero_le _⟩ (x_Rep_undo _ hD (by omega) g2 j1 l1 (by omega)) (fun r107 u107 hp107 => ?_)
                  obtain ⟨c4, rfl, rfl, g4, s4⟩ := hp107
                  obtain ⟨z1, z2, z3⟩ := upr (Q := O) s4
                  refine g_bipush (pc := 110) C d_Rep_takeFrom_110 bp_m3 ?_
                  refine g_iret (pc := 112) C d_Rep_takeFrom_112 ?_
                  rw [pull_4 hbt he]
                  rw [undoR hbt hd hj hp d1] at g4
                  exact ⟨c4, rfl, by rw [oi_m4], g4, z1 o2, z2 kb2, z3 ks2⟩
              · exact absurd h92 (by decide)
            · exact absurd rfl h55
          have kt := by_built wO.1 e1
          rw [plp_s hxn hfd e1] at he
          refine g_if_eq (pc := 55) (tgt := 88) C d_Rep_takeFrom_55 (by decide) (fun h55 => ?_) (fun h55 => ?_)
          · first | exact absurd h55 (by decide) | exact absurd (by decide) h55
          · skip
            refine g_aload_n (pc := 58) (i := 0) C d_Rep_takeFrom_58 rfl rfl ?_
            refine g_aload_n (pc := 59) (i := 1) C d_Rep_takeFrom_59 rfl rfl ?_
            refine gf_Rep_built (pc := 60) C (by omega) fl_Rep_41 d_Rep_takeFrom_60 ?_
            refine g_aload_n (pc := 63) (i := 0) C d_Rep_takeFrom_63 rfl rfl ?_
            refine g_aload_n (pc := 64) (i := 1) C d_Rep_takeFrom_64 rfl rfl ?_
            refine g_aload (pc := 65) C d_Rep_takeFrom_65 rfl ?_
            refine gf_Rec_p1 (pc := 67) C (by omega) fl_Rep_95 d_Rep_takeFrom_67 ?_
            rw [hrec2.2.2.2.2.1]
            refine g_callV1 (pc := 70) (As := [_, _]) C my_Rep_twinOf mv_Rep_twinOf cl_Rep_98 (is_Rep (by omega)) d_Rep_takeFrom_70 (Nat.le_of_ble_eq_true rfl) rfl (Nat.le_of_ble_eq_true rfl) ⟨Nat.zero_le _, Nat.zero_le _⟩ (c_Rep_twinOf _ hD (by omega) (by omega) g2.1.1 g2.2.2 o2.2.2 (fun q hq => by have := hwx.2.1 q hq; omega)) ?_
            refine g_aload_n (pc := 73) (i := 0) C d_Rep_takeFrom_73 rfl rfl ?_
            refine g_aload_n (pc := 74) (i := 1) C d_Rep_takeFrom_74 rfl rfl ?_
            refine g_aload (pc := 75) C d_Rep_takeFrom_75 rfl ?_
            refine gf_Rec_p2 (pc := 77) C (by omega) fl_Rep_102 d_Rep_takeFrom_77 ?_
            rw [hrec2.2.2.2.2.2.1]
            refine g_callV1 (pc := 80) (As := [_, _]) C my_Rep_twinOf mv_Rep_twinOf cl_Rep_98 (is_Rep (by omega)) d_Rep_takeFrom_80 (Nat.le_of_ble_eq_true rfl) rfl (Nat.le_of_ble_eq_true rfl) ⟨Nat.zero_le _, Nat.zero_le _⟩ (c_Rep_twinOf _ hD (by omega) (by omega) g2.1.1 g2.2.2 o2.2.2 (fun q hq => by have := hwx.2.2.1 q hq; omega)) ?_
            obtain ⟨ka, kc, kd⟩ := ks2 r hr
            refine g_callVp (pc := 83) (As := [_, _, _]) C my_Rep_store mv_Rep_store cl_Rep_105 (is_Rep (by omega)) d_Rep_takeFrom_83 (Nat.le_of_ble_eq_true rfl) rfl (Nat.le_of_ble_eq_true rfl) ⟨Nat.zero_le _, Nat.zero_le _⟩ (x_Rep_store _ hD (q1 := twn R1 O x.pa) (q2 := twn R1 O x.pb) (by omega) (by omega) (by omega) g2 w1.1 w1s d1 w1.2.2.2.1 twn_lt twn_lt r2t kt.1 kt.2 ka kc kd) (fun r83 u83 hp83 => ?_)
            obtain ⟨c3, rfl, rfl, g3, k23, k33, k43, s3⟩ := hp83
            have wS := stor_all (p := twn R1 O x.pa) (q := twn R1 O x.pb) w1 d1 twn_lt twn_lt kt.1 kt.2
            have o3 := o2.sn s3 hr hr2 hrr
            have kb3 : RowIs c3 0 b := kb2.sn s3 (by unfold Sc Pr Rw; omega) (by unfold Sc Pr Rw; omega)
            have ks3 := ks2.sn s3 hr k23 k33 k43
            have hv : (stor R1 (twn R1 O x.pa) (twn R1 O x.pb) t).1 = -2 ∨ (stor R1 (twn R1 O x.pa) (twn R1 O x.pb) t).1 = -4 ∨ ∃ k : Nat, k ≤ 24 ∧ (stor R1 (twn R1 O x.pa) (twn R1 O x.pb) t).1 = k := wS.2.2.elim Or.inl (fun q => Or.inr (q.elim Or.inl (fun q => Or.inr q.2)))
            have hp3 := hp.tr wS.2.1
            obtain ⟨j3, l3⟩ := hpj hp3
            refine g_istore (pc := 86) C d_Rep_takeFrom_86 (by decide) rfl ?_
            refine g_iload (pc := 88) C d_Rep_takeFrom_88 rfl ?_
            refine g_bipush (pc := 90) C d_Rep_takeFrom_90 bp_m2 ?_
            refine g_icmp_ne (pc := 92) (tgt := 98) C d_Rep_takeFrom_92 (by decide) (fun h92 => ?_) (fun h92 => ?_)
            · have hn2 := fun e => h92 ((stI_2 hv).mpr e)
              refine g_iload (pc := 98) C d_Rep_takeFrom_98 rfl ?_
              refine g_bipush (pc := 100) C d_Rep_takeFrom_100 bp_m3 ?_
              refine g_icmp_ne (pc := 102) (tgt := 113) C d_Rep_takeFrom_102 (by decide) (fun h102 => ?_) (fun h102 => ?_)
              · have hn4 := fun e => h102 ((stI_4 hv).mpr e)
                rw [if_neg (fun q => q.elim hn2 hn4)] at he
                have dS : (stor R1 (twn R1 O x.pa) (twn R1 O x.pb) t).2.dwn = false := (wS.2.2.resolve_left hn2 |>.resolve_left hn4).1
                refine g_iinc (pc := 113) C d_Rep_takeFrom_113 rfl (v := nI (n + 1)) (nI_inc n) rfl ?_
                refine g_goto (pc := 116) (tgt := 17) C d_Rep_takeFrom_116 (by decide) ?_
                exact G.lf (ih (n + 1) c3 _ (by omega) g3 o3 kb3 ks3 wS.1 dS (hp.tr wS.2.1) he) (sb rfl (sb rfl (sb rfl (sb rfl sn))))
              · have hn4 := (stI_4 hv).mp h102
                rw [if_pos (Or.inr hn4)] at he
                refine g_aload_n (pc := 105) (i := 0) C d_Rep_takeFrom_105 rfl rfl ?_
                refine g_iload_n (pc := 106) (i := 2) C d_Rep_takeFrom_106 rfl rfl ?_
                refine g_callVp (pc := 107) (As := [_]) C my_Rep_undo mv_Rep_undo cl_Rep_109 (is_Rep (by omega)) d_Rep_takeFrom_107 (Nat.le_of_ble_eq_true rfl) rfl (Nat.le_of_ble_eq_true rfl) ⟨Nat.zero_le _, Nat.zero_le _⟩ (x_Rep_undo _ hD (by omega) g3 j3 l3 (by omega)) (fun r107 u107 hp107 => ?_)
                obtain ⟨c4, rfl, rfl, g4, s4⟩ := hp107
                obtain ⟨z1, z2, z3⟩ := upr (Q := O) s4
                refine g_bipush (pc := 110) C d_Rep_takeFrom_110 bp_m3 ?_
                refine g_iret (pc := 112) C d_Rep_takeFrom_112 ?_
                have he2 : plp O O.rcs.length 0 (begn R).2 = (-4, (stor R1 (twn R1 O x.pa) (twn R1 O x.pb) t).2) := by rw [he, ← hn4]
                rw [pull_4 hbt he2]
                rw [undoR hbt hd hj hp3 (stor_d4 d1 hn4)] at g4
                exact ⟨c4, rfl, by rw [oi_m4], g4, z1 o3, z2 kb3, z3 ks3⟩
            · have hn2 := (stI_2 hv).mp h92
              rw [if_pos (Or.inl hn2)] at he
              refine g_bipush (pc := 95) C d_Rep_takeFrom_95 bp_m2 ?_
              refine g_iret (pc := 97) C d_Rep_takeFrom_97 ?_
              have he2 : plp O O.rcs.length 0 (begn R).2 = (-2, (stor R1 (twn R1 O x.pa) (twn R1 O x.pb) t).2) := by rw [he, ← hn2]
              rw [pull_2 hbt he2]
              exact ⟨c3, rfl, by rw [oi_s2], g3, o3, kb3, ks3⟩
  refine g_aload_n (pc := 0) (i := 0) C d_Rep_takeFrom_0 rfl rfl ?_
  refine gf_Rep_writesToFailure (pc := 1) C (by omega) fl_Rep_38 d_Rep_takeFrom_1 ?_
  rw [g.1.2.2.2.2]
  refine g_istore_n (pc := 4) (i := 2) C d_Rep_takeFrom_4 rfl (by decide) rfl ?_
  refine g_aload_n (pc := 5) (i := 0) C d_Rep_takeFrom_5 rfl rfl ?_
  refine g_callVp (pc := 6) (As := []) C my_Rep_openJournal mv_Rep_openJournal cl_Rep_81 (is_Rep (by omega)) d_Rep_takeFrom_6 (Nat.le_of_ble_eq_true rfl) rfl (Nat.le_of_ble_eq_true rfl) ⟨Nat.zero_le _, Nat.zero_le _⟩ (x_Rep_openJournal _ hD (by omega) g hd fR) (fun r6 u6 hp6 => ?_)
  obtain ⟨c1, rfl, rfl, g1, s1⟩ := hp6
  obtain ⟨u1, u2, u3⟩ := uci (Q := O) s1
  refine g_if_ne (pc := 9) (tgt := 15) C d_Rep_takeFrom_9 (by decide) (fun h9 => ?_) (fun h9 => ?_)
  · have hbt := b1_1 h9
    refine g_iconst (pc := 15) C d_Rep_takeFrom_15 icn_0 ?_
    refine g_istore_n (pc := 16) (i := 3) C d_Rep_takeFrom_16 rfl (by decide) rfl ?_
    exact G.lf (loop hbt O.rcs.length 0 c1 _ (by omega) g1 (u1 o) (u2 kb) (u3 ks) (begn_wf wR hd) (begn_all hbt hd).2.2.2 Pfx.rf rfl) (sb rfl (sb rfl (sb rfl (sb rfl sn))))
  · have hbt := b1_0 h9
    refine g_bipush (pc := 12) C d_Rep_takeFrom_12 bp_m2 ?_
    refine g_iret (pc := 14) C d_Rep_takeFrom_14 ?_
    rw [pull_b hbt]
    exact ⟨c1, rfl, by rw [oi_s2], g1, u1 o, u2 kb, u3 ks⟩
