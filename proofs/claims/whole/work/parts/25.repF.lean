set_option maxRecDepth 100000 in
set_option maxHeartbeats 4000000 in
theorem x_Rep_store (l : Launch) {D : Dt} (hD : OkD D) {r j : Nat} {c : Cs} {τ : Cs × (Nat → Int64)} {R : Rp} {t : List Nat} {q1 q2 : Option Nat} (hr : r < 2) (hj : j < 9) (hj2 : j ≠ 1 + 4 * r ∧ j ≠ 2 + 4 * r ∧ j ≠ 3 + 4 * r ∧ j ≠ 4 + 4 * r) (h : RepIs c r R) (yd : By R.dat) (hw : Wfs R.dat.length R.rcs) (hd : R.dwn = false) (hf : R.fai ≤ 100) (h1 : ∀ n, q1 = some n → n < R.rcs.length) (h2 : ∀ n, q2 = some n → n < R.rcs.length) (ht : RowIs c j t) (yt : By t) (tl : t.length ≤ 60) (k2 : ∃ y, RowIs c (2 + 4 * r) y) (k3 : ∃ y, RowIs c (3 + 4 * r) y) (k4 : ∃ y, RowIs c (4 + 4 * r) y) : Cp l D y_Rep_store b_Rep_store 9 (some .int) 7 [.int (eo q2), .int (eo q1), .ref (aRow D j), .ref (aRep D r)] ((c, τ) : Sg) (fun a u => ∃ c2, u = ((c2, τ) : Sg) ∧ a = some (.int (stI (stor R q1 q2 t).1)) ∧ RepIs c2 r (stor R q1 q2 t).2 ∧ (∃ y, RowIs c2 (2 + 4 * r) y) ∧ (∃ y, RowIs c2 (3 + 4 * r) y) ∧ (∃ y, RowIs c2 (4 + 4 * r) y) ∧ Sn r c c2) := by
  have h24 := h.2.2.1
  have l1 := rl_1 hr
  have l3 := rl_3 hr
  have f1 := wrt_f R
  have eR := wrt_r R
  have eD := wrt_d R
  have fl : ∀ k, find R.rcs (nodeOf R.rcs q1 q2 t) = some k → k < 2 ^ 31 := fun k e => by have := find_lt e; omega
  have u0 : ∀ {c1 c2 : Cs}, Sm (Sc r) c1 c2 → Sn r c1 c2 := fun h => h.sn (fun t q => Or.inl q)
  have u1 : ∀ {c1 c2 : Cs}, Sm (Ci (20 + r)) c1 c2 → Sn r c1 c2 := fun h => h.sn (fun t q => Or.inr (Or.inl (Or.inl q)))
  have u2 : ∀ {c1 c2 : Cs}, Sm (Rw (1 + 4 * r)) c1 c2 → Sn r c1 c2 := fun h => h.sn (fun t q => Or.inr (Or.inl (Or.inr q)))
  refine Cp.of hD (by decide) (Nat.le_of_ble_eq_true rfl) [(0, some (.ref (aRep D r))), (1, some (.ref (aRow D j))), (2, some (.int (eo q1))), (3, some (.int (eo q2)))] rfl (fun X hX C => ?_)
  subst hX
  refine g_aload_n (pc := 0) (i := 0) C d_Rep_store_0 rfl rfl ?_
  refine g_aload_n (pc := 1) (i := 1) C d_Rep_store_1 rfl rfl ?_
  refine g_iload_n (pc := 2) (i := 2) C d_Rep_store_2 rfl rfl ?_
  refine g_iload_n (pc := 3) (i := 3) C d_Rep_store_3 rfl rfl ?_
  refine g_callV1 (pc := 4) (As := [_, _, _]) C my_Rep_nodeOf mv_Rep_nodeOf cl_Rep_112 (is_Rep (by omega)) d_Rep_store_4 (Nat.le_of_ble_eq_true rfl) rfl (Nat.le_of_ble_eq_true rfl) ⟨Nat.zero_le _, Nat.zero_le _⟩ (c_Rep_nodeOf _ hD (by omega) (by omega) h.2.2 h1 h2 ht) ?_
  refine g_lstore (pc := 7) C d_Rep_store_7 (by decide) rfl ?_
  refine g_aload_n (pc := 9) (i := 0) C d_Rep_store_9 rfl rfl ?_
  refine g_lload (pc := 10) C d_Rep_store_10 rfl ?_
  refine g_callV1 (pc := 12) (As := [_]) C my_Rep_find mv_Rep_find cl_Rep_88 (is_Rep (by omega)) d_Rep_store_12 (Nat.le_of_ble_eq_true rfl) rfl (Nat.le_of_ble_eq_true rfl) ⟨Nat.zero_le _, Nat.zero_le _⟩ (c_Rep_find _ hD (by omega) h.1.1 h.2.2) ?_
  refine g_istore (pc := 15) C d_Rep_store_15 (by decide) rfl ?_
  refine g_iload (pc := 17) C d_Rep_store_17 rfl ?_
  refine g_iconst (pc := 19) C d_Rep_store_19 ic_m1 ?_
  refine g_icmp_eq (pc := 20) (tgt := 26) C d_Rep_store_20 (by decide) (fun h20 => ?_) (fun h20 => ?_)
  · have hfd := (eo_m1 fl).mp h20
    refine g_aload_n (pc := 26) (i := 0) C d_Rep_store_26 rfl rfl ?_
    refine g_aload_n (pc := 27) (i := 1) C d_Rep_store_27 rfl rfl ?_
    refine g_iload_n (pc := 28) (i := 2) C d_Rep_store_28 rfl rfl ?_
    refine g_iload_n (pc := 29) (i := 3) C d_Rep_store_29 rfl rfl ?_
    refine g_callVp (pc := 30) (As := [_, _, _]) C my_Rep_chooseChunk mv_Rep_chooseChunk cl_Rep_116 (is_Rep (by omega)) d_Rep_store_30 (Nat.le_of_ble_eq_true rfl) rfl (Nat.le_of_ble_eq_true rfl) ⟨Nat.zero_le _, Nat.zero_le _⟩ (x_Rep_chooseChunk _ hD (by omega) (by omega) (by omega) h.1.1 h.2.2 h.2.1 yd hw h1 h2 ht yt tl k2 k3 k4) (fun r30 u30 hp30 => ?_)
    obtain ⟨c1, rfl, rfl, r1, k21, k41, s1⟩ := hp30
    have g1 := h.sc s1 hr
    have ht1 : RowIs c1 j t := ht.sm s1 (by unfold Sc Rw; omega) (by unfold Sc Rw; omega)
    have lc := r1.2.1
    have ld := g1.2.1.2.1
    obtain ⟨y2, k21⟩ := k21
    obtain ⟨y4, k41⟩ := k41
    refine g_istore (pc := 33) C d_Rep_store_33 (by decide) rfl ?_
    refine g_aload_n (pc := 35) (i := 0) C d_Rep_store_35 rfl rfl ?_
    refine gf_Rep_recordCount (pc := 36) C (by omega) fl_Rep_27 d_Rep_store_36 ?_
    rw [g1.1.1]
    refine g_bipush (pc := 39) C d_Rep_store_39 bpn_24 ?_
    refine g_icmp_ge (pc := 41) (tgt := 61) C d_Rep_store_41 (by decide) (fun h41 => ?_) (fun h41 => ?_)
    · have hq := Or.inl (b := 600 < R.dat.length + (choose R.dat R.rcs q1 q2 t).1.length) ((nI_leI (by omega) (by omega)).mp h41)
      refine g_bipush (pc := 61) C d_Rep_store_61 bp_m3 ?_
      refine g_iret (pc := 63) C d_Rep_store_63 ?_
      rw [stor_4 hfd hq]
      exact ⟨c1, rfl, by rw [oi_m4], g1, ⟨_, k21⟩, ⟨_, r1⟩, ⟨_, k41⟩, u0 s1⟩
    · have hq1 : R.rcs.length < 24 := Nat.not_le.mp fun q => h41 (nI_le q (by omega))
      refine g_aload_n (pc := 44) (i := 0) C d_Rep_store_44 rfl rfl ?_
      refine gf_Rep_data (pc := 45) C (by omega) fl_Rep_14 d_Rep_store_45 ?_
      refine g_aload_n (pc := 48) (i := 0) C d_Rep_store_48 rfl rfl ?_
      refine gf_Rep_chunk (pc := 49) C (by omega) fl_Rep_48 d_Rep_store_49 ?_
      refine gf_Row_length (pc := 52) C (by omega) fl_Rep_62 d_Rep_store_52 ?_
      rw [r1.1]
      refine g_callV1 (pc := 55) (As := [_]) C my_Row_hasRoomFor mv_Row_hasRoomFor cl_Rep_119 (is_Row (by omega)) d_Rep_store_55 (Nat.le_of_ble_eq_true rfl) rfl (Nat.le_of_ble_eq_true rfl) ⟨Nat.zero_le _, Nat.zero_le _⟩ (c_Row_hasRoomFor _ hD (by omega)) ?_
      refine g_if_ne (pc := 58) (tgt := 64) C d_Rep_store_58 (by decide) (fun h58 => ?_) (fun h58 => ?_)
      · have hb := b1_1 h58
        rw [g1.2.1.1] at hb
        have hq2 := (rm_k ld (rln_le _) (by omega)).mp hb
        rw [l1] at hq2
        have hq : ¬ (24 ≤ R.rcs.length ∨ 600 < R.dat.length + (choose R.dat R.rcs q1 q2 t).1.length) := by omega
        refine g_aload_n (pc := 64) (i := 0) C d_Rep_store_64 rfl rfl ?_
        refine gf_Rep_data (pc := 65) C (by omega) fl_Rep_14 d_Rep_store_65 ?_
        refine gf_Row_length (pc := 68) C (by omega) fl_Rep_62 d_Rep_store_68 ?_
        rw [g1.2.1.1]
        refine g_istore (pc := 71) C d_Rep_store_71 (by decide) rfl ?_
        refine g_aload_n (pc := 73) (i := 0) C d_Rep_store_73 rfl rfl ?_
        refine g_callVp (pc := 74) (As := []) C my_Rep_mayWrite mv_Rep_mayWrite cl_Rep_58 (is_Rep (by omega)) d_Rep_store_74 (Nat.le_of_ble_eq_true rfl) rfl (Nat.le_of_ble_eq_true rfl) ⟨Nat.zero_le _, Nat.zero_le _⟩ (x_Rep_mayWrite _ hD (by omega) g1 hd hf) (fun r74 u74 hp74 => ?_)
        obtain ⟨c2, rfl, rfl, g2, s2⟩ := hp74
        have r2 : RowIs c2 (3 + 4 * r) (choose R.dat R.rcs q1 q2 t).1 := r1.sm s2 (by unfold Ci; omega) (by unfold Ci; omega)
        have k22 : RowIs c2 (2 + 4 * r) y2 := k21.sm s2 (by unfold Ci; omega) (by unfold Ci; omega)
        have k42 : RowIs c2 (4 + 4 * r) y4 := k41.sm s2 (by unfold Ci; omega) (by unfold Ci; omega)
        have ht2 : RowIs c2 j t := ht1.sm s2 (by unfold Ci; omega) (by unfold Ci; omega)
        refine g_if_ne (pc := 77) (tgt := 83) C d_Rep_store_77 (by decide) (fun h77 => ?_) (fun h77 => ?_)
        · have hw1 := b1_1 h77
          refine g_aload_n (pc := 83) (i := 0) C d_Rep_store_83 rfl rfl ?_
          refine gf_Rep_data (pc := 84) C (by omega) fl_Rep_14 d_Rep_store_84 ?_
          refine g_aload_n (pc := 87) (i := 0) C d_Rep_store_87 rfl rfl ?_
          refine gf_Rep_chunk (pc := 88) C (by omega) fl_Rep_48 d_Rep_store_88 ?_
          refine g_iconst (pc := 91) C d_Rep_store_91 icn_0 ?_
          refine g_aload_n (pc := 92) (i := 0) C d_Rep_store_92 rfl rfl ?_
          refine gf_Rep_chunk (pc := 93) C (by omega) fl_Rep_48 d_Rep_store_93 ?_
          refine gf_Row_length (pc := 96) C (by omega) fl_Rep_62 d_Rep_store_96 ?_
          rw [r2.1]
          have hl2 : (wrt R).2.dat.length + (choose R.dat R.rcs q1 q2 t).1.length ≤ 600 := by rw [eD]; omega
          refine g_callV1 (pc := 99) (As := [_, _, _]) C my_Row_addPart mv_Row_addPart cl_Rep_122 (is_Row (by omega)) d_Rep_store_99 (Nat.le_of_ble_eq_true rfl) rfl (Nat.le_of_ble_eq_true rfl) ⟨Nat.zero_le _, Nat.zero_le _⟩ (c_adp1 _ hD (by omega) (by omega) g2.2.1 r2 (by rw [l1]; exact hl2) (by omega)) ?_
          have s3 : Sm (Rw (1 + 4 * r)) c2 (adpC c2 (3 + 4 * r) (1 + 4 * r) 0 (choose R.dat R.rcs q1 q2 t).1.length (wrt R).2.dat.length) := sm_adp
          have g3 : RepIs _ r (appR (wrt R).2 (choose R.dat R.rcs q1 q2 t).1) := g2.ap hr r2 hl2
          have r3 := r2.sm s3 (by unfold Rw; omega) (by unfold Rw; omega)
          have k23 := k22.sm s3 (by unfold Rw; omega) (by unfold Rw; omega)
          have k43 := k42.sm s3 (by unfold Rw; omega) (by unfold Rw; omega)
          have ht3 := ht2.sm s3 (by unfold Rw; omega) (by unfold Rw; omega)
          refine g_pop (pc := 102) C d_Rep_store_102 rfl ?_
          refine g_aload_n (pc := 103) (i := 0) C d_Rep_store_103 rfl rfl ?_
          refine g_callVp (pc := 104) (As := []) C my_Rep_mayWrite mv_Rep_mayWrite cl_Rep_58 (is_Rep (by omega)) d_Rep_store_104 (Nat.le_of_ble_eq_true rfl) rfl (Nat.le_of_ble_eq_true rfl) ⟨Nat.zero_le _, Nat.zero_le _⟩ (x_Rep_mayWrite _ hD (by omega) g3 (wrt_w hw1 hd) (show (wrt R).2.fai ≤ 100 by omega)) (fun r104 u104 hp104 => ?_)
          obtain ⟨c4, rfl, rfl, g4, s4⟩ := hp104
          have r4 := r3.sm s4 (by unfold Ci; omega) (by unfold Ci; omega)
          have k24 := k23.sm s4 (by unfold Ci; omega) (by unfold Ci; omega)
          have k44 := k43.sm s4 (by unfold Ci; omega) (by unfold Ci; omega)
          have ht4 := ht3.sm s4 (by unfold Ci; omega) (by unfold Ci; omega)
          have e4 : (wrt (appR (wrt R).2 (choose R.dat R.rcs q1 q2 t).1)).2.rcs = R.rcs := by rw [wrt_r]; exact eR
          have e5 : (wrt (appR (wrt R).2 (choose R.dat R.rcs q1 q2 t).1)).2.rcs.length = R.rcs.length := by rw [e4]
          refine g_if_ne (pc := 107) (tgt := 113) C d_Rep_store_107 (by decide) (fun h107 => ?_) (fun h107 => ?_)
          · have hw2 := b1_1 h107
            refine g_aload_n (pc := 113) (i := 0) C d_Rep_store_113 rfl rfl ?_
            refine gf_Rep_records (pc := 114) C (by omega) fl_Rep_22 d_Rep_store_114 ?_
            refine g_aload_n (pc := 117) (i := 0) C d_Rep_store_117 rfl rfl ?_
            refine gf_Rep_recordCount (pc := 118) C (by omega) fl_Rep_27 d_Rep_store_118 ?_
            rw [g4.1.1, e5]
            refine ga_rcs (pc := 121) C (by omega) (by omega) d_Rep_store_121 ?_
            refine g_iload (pc := 122) C d_Rep_store_122 rfl ?_
            refine g_aload_n (pc := 124) (i := 0) C d_Rep_store_124 rfl rfl ?_
            refine gf_Rep_chunk (pc := 125) C (by omega) fl_Rep_48 d_Rep_store_125 ?_
            refine gf_Row_length (pc := 128) C (by omega) fl_Rep_62 d_Rep_store_128 ?_
            rw [r4.1]
            refine g_iload (pc := 131) C d_Rep_store_131 rfl ?_
            refine g_callV0 (pc := 133) (As := [_, _, _]) C my_Rec_placeChunk mv_Rec_placeChunk cl_Rep_126 (is_Rec (by omega)) d_Rep_store_133 (Nat.le_of_ble_eq_true rfl) rfl (Nat.le_of_ble_eq_true rfl) ⟨Nat.zero_le _, Nat.zero_le _⟩ (c_Rec_placeChunk _ hD (by omega)) ?_
            refine g_aload_n (pc := 136) (i := 0) C d_Rep_store_136 rfl rfl ?_
            refine gf_Rep_records (pc := 137) C (by omega) fl_Rep_22 d_Rep_store_137 ?_
            refine g_aload_n (pc := 140) (i := 0) C d_Rep_store_140 rfl rfl ?_
            refine gf_Rep_recordCount (pc := 141) C (by omega) fl_Rep_27 d_Rep_store_141 ?_
            rw [wI_1n (by omega), wI_1n (by omega), wI_1n (by omega), g4.1.1, e5]
            refine ga_rcs (pc := 144) C (by omega) (by omega) d_Rep_store_144 ?_
            refine g_aload_n (pc := 145) (i := 1) C d_Rep_store_145 rfl rfl ?_
            refine gf_Row_length (pc := 146) C (by omega) fl_Rep_62 d_Rep_store_146 ?_
            rw [wI_1n (by omega), wI_1n (by omega), wI_1n (by omega), ht4.1]
            refine g_iload_n (pc := 149) (i := 2) C d_Rep_store_149 rfl rfl ?_
            refine g_iload_n (pc := 150) (i := 3) C d_Rep_store_150 rfl rfl ?_
            refine g_lload (pc := 151) C d_Rep_store_151 rfl ?_
            refine g_callV0 (pc := 153) (As := [_, _, _, _]) C my_Rec_describe mv_Rec_describe cl_Rep_130 (is_Rec (by omega)) d_Rep_store_153 (Nat.le_of_ble_eq_true rfl) rfl (Nat.le_of_ble_eq_true rfl) ⟨Nat.zero_le _, Nat.zero_le _⟩ (c_Rec_describe _ hD (by omega)) ?_
            refine g_aload_n (pc := 156) (i := 0) C d_Rep_store_156 rfl rfl ?_
            refine g_dup (pc := 157) C d_Rep_store_157 rfl ?_
            refine gf_Rep_recordCount (pc := 158) C (by omega) fl_Rep_27 d_Rep_store_158 ?_
            have hct : ∀ (c : Cs) (i t : Nat) (v : Int64), (wN c i v).1 t = c.1 t := fun _ _ _ _ => rfl
            rw [hct, wI_1n (by omega), wI_1n (by omega), wI_1n (by omega), wI_1n (by omega), wI_1n (by omega), wI_1n (by omega), g4.1.1, e5]
            refine g_iconst (pc := 161) C d_Rep_store_161 icn_1 ?_
            refine g_iadd (pc := 162) C d_Rep_store_162 ?_
            rw [nI_add]
            refine gp_Rep_recordCount (pc := 163) C (by omega) fl_Rep_27 d_Rep_store_163 ?_
            refine g_aload_n (pc := 166) (i := 0) C d_Rep_store_166 rfl rfl ?_
            refine gf_Rep_recordCount (pc := 167) C (by omega) fl_Rep_27 d_Rep_store_167 ?_
            rw [wI_1s, pk_us]
            refine g_iconst (pc := 170) C d_Rep_store_170 icn_1 ?_
            refine g_isub (pc := 171) C d_Rep_store_171 ?_
            rw [pk_sub (by omega), show R.rcs.length + 1 - 1 = R.rcs.length by omega]
            refine g_iret (pc := 172) C d_Rep_store_172 ?_
            rw [stor_5 hfd hq hw1 hw2]
            have g5 := g4.push (o := R.dat.length) (s := (choose R.dat R.rcs q1 q2 t).1.length) (ln := t.length) (b := (choose R.dat R.rcs q1 q2 t).2) (a := q1) (e := q2) (h := nodeOf R.rcs q1 q2 t) hr (by rw [e5]; exact hq1)
            rw [e5] at g5
            have sp : Sn r c4 (pushC c4 (24 * r + R.rcs.length) r R.rcs.length R.dat.length (choose R.dat R.rcs q1 q2 t).1.length t.length (choose R.dat R.rcs q1 q2 t).2 q1 q2 (nodeOf R.rcs q1 q2 t)) := sn_push hr (by omega)
            refine ⟨_, rfl, by rw [oi_sn, e5], ?_, ?_, ?_, ?_, ((((u0 s1).tr (u1 s2)).tr (u2 s3)).tr (u1 s4)).tr sp⟩
            · rw [eD]
              exact g5
            · exact ⟨y2, k24.psh hr (by omega)⟩
            · exact ⟨_, r4.psh hr (by omega)⟩
            · exact ⟨y4, k44.psh hr (by omega)⟩
          · have hw2 := b1_0 h107
            refine g_bipush (pc := 110) C d_Rep_store_110 bp_m2 ?_
            refine g_iret (pc := 112) C d_Rep_store_112 ?_
            rw [stor_3 hfd hq hw1 hw2]
            exact ⟨c4, rfl, by rw [oi_s2], g4, ⟨_, k24⟩, ⟨_, r4⟩, ⟨_, k44⟩, (((u0 s1).tr (u1 s2)).tr (u2 s3)).tr (u1 s4)⟩
        · have hw1 := b1_0 h77
          refine g_bipush (pc := 80) C d_Rep_store_80 bp_m2 ?_
          refine g_iret (pc := 82) C d_Rep_store_82 ?_
          rw [stor_2 hfd hq hw1]
          exact ⟨c2, rfl, by rw [oi_s2], g2, ⟨_, k22⟩, ⟨_, r2⟩, ⟨_, k42⟩, (u0 s1).tr (u1 s2)⟩
      · have hb := b1_0 h58
        rw [g1.2.1.1] at hb
        have hq : 24 ≤ R.rcs.length ∨ 600 < R.dat.length + (choose R.dat R.rcs q1 q2 t).1.length := by
          refine Or.inr (Nat.not_le.mp fun q => hb ((rm_k ld (rln_le _) (by omega)).mpr (by rw [l1]; exact q)))
        refine g_bipush (pc := 61) C d_Rep_store_61 bp_m3 ?_
        refine g_iret (pc := 63) C d_Rep_store_63 ?_
        rw [stor_4 hfd hq]
        exact ⟨c1, rfl, by rw [oi_m4], g1, ⟨_, k21⟩, ⟨_, r1⟩, ⟨_, k41⟩, u0 s1⟩
  · obtain ⟨k, hfd⟩ : ∃ k, find R.rcs (nodeOf R.rcs q1 q2 t) = some k := by
      cases hfd : find R.rcs (nodeOf R.rcs q1 q2 t) with
      | none => exact absurd (by rw [hfd]; rfl) h20
      | some k => exact ⟨k, rfl⟩
    refine g_iload (pc := 23) C d_Rep_store_23 rfl ?_
    refine g_iret (pc := 25) C d_Rep_store_25 ?_
    rw [stor_k hfd]
    exact ⟨c, rfl, by rw [hfd, oi_sn]; rfl, h, k2, k3, k4, Sn.rf⟩
