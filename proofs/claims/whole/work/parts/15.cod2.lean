set_option maxRecDepth 100000 in
set_option maxHeartbeats 4000000 in
theorem x_Cod_writeDifference (l : Launch) {D : Dt} (hD : OkD D) {i j q : Nat} {c : Cs} {τ : Cs × (Nat → Int64)} {b t x : List Nat} (hi : i < 9) (hj : j < 9) (hq : q < 9) (hiq : i ≠ q) (hjq : j ≠ q) (hb : RowIs c i b) (ht : RowIs c j t) (hx : RowIs c q x) (yb : By b) (yt : By t) (hl : t.length ≤ 60) (hc : rln q = 121) : Cp l D y_Cod_writeDifference b_Cod_writeDifference 6 none 4 [.ref (aRow D q), .ref (aRow D j), .ref (aRow D i)] ((c, τ) : Sg) (fun r u => ∃ c2, u = ((c2, τ) : Sg) ∧ r = none ∧ RowIs c2 q (encD b t) ∧ Sm (Rw q) c c2) := by
  have nei := RowIs.ne hiq hi hq
  have nej := RowIs.ne hjq hj hq
  have q1 := rln_le i
  have q2 := rln_le j
  have q3 := hb.2.1
  have q4 := ht.2.1
  have p1 := cpre_1 b t
  have p2 := cpre_2 b t
  have e1 := cpre_1 (b.drop (cpre b t)).reverse (t.drop (cpre b t)).reverse
  have e2 := cpre_2 (b.drop (cpre b t)).reverse (t.drop (cpre b t)).reverse
  rw [List.length_reverse, List.length_drop] at e1 e2
  have r1 : RowIs (cutC c q (nI 0)) q [] := hx.cut (by decide)
  have r2 : RowIs (addC (cutC c q (nI 0)) q ([] : List Nat).length (nI 100)) q [100] := r1.add hq (by simp; omega)
  have r3 : RowIs (addC (addC (cutC c q (nI 0)) q ([] : List Nat).length (nI 100)) q [100].length (nI (cpre b t))) q [100, (cpre b t)] := r2.add hq (by simp; omega)
  have r4 : RowIs (addC (addC (addC (cutC c q (nI 0)) q ([] : List Nat).length (nI 100)) q [100].length (nI (cpre b t))) q [100, (cpre b t)].length (nI (b.length - (cpre (b.drop (cpre b t)).reverse (t.drop (cpre b t)).reverse)))) q [100, (cpre b t), b.length - (cpre (b.drop (cpre b t)).reverse (t.drop (cpre b t)).reverse)] := r3.add hq (by simp; omega)
  have r5 : RowIs (addC (addC (addC (addC (cutC c q (nI 0)) q ([] : List Nat).length (nI 100)) q [100].length (nI (cpre b t))) q [100, (cpre b t)].length (nI (b.length - (cpre (b.drop (cpre b t)).reverse (t.drop (cpre b t)).reverse)))) q [100, (cpre b t), b.length - (cpre (b.drop (cpre b t)).reverse (t.drop (cpre b t)).reverse)].length (nI (t.length - (cpre (b.drop (cpre b t)).reverse (t.drop (cpre b t)).reverse) - (cpre b t)))) q [100, (cpre b t), b.length - (cpre (b.drop (cpre b t)).reverse (t.drop (cpre b t)).reverse), t.length - (cpre (b.drop (cpre b t)).reverse (t.drop (cpre b t)).reverse) - (cpre b t)] := r4.add hq (by simp; omega)
  have s3 : Sm (Rw q) c (addC (addC (cutC c q (nI 0)) q ([] : List Nat).length (nI 100)) q [100].length (nI (cpre b t))) := (sm_cut.tr sm_add).tr sm_add
  have s5 : Sm (Rw q) c (addC (addC (addC (addC (cutC c q (nI 0)) q ([] : List Nat).length (nI 100)) q [100].length (nI (cpre b t))) q [100, (cpre b t)].length (nI (b.length - (cpre (b.drop (cpre b t)).reverse (t.drop (cpre b t)).reverse)))) q [100, (cpre b t), b.length - (cpre (b.drop (cpre b t)).reverse (t.drop (cpre b t)).reverse)].length (nI (t.length - (cpre (b.drop (cpre b t)).reverse (t.drop (cpre b t)).reverse) - (cpre b t)))) := (s3.tr sm_add).tr sm_add
  have b3 : RowIs (addC (addC (cutC c q (nI 0)) q ([] : List Nat).length (nI 100)) q [100].length (nI (cpre b t))) i b := hb.sm s3 nei.1 nei.2
  have t5 : RowIs (addC (addC (addC (addC (cutC c q (nI 0)) q ([] : List Nat).length (nI 100)) q [100].length (nI (cpre b t))) q [100, (cpre b t)].length (nI (b.length - (cpre (b.drop (cpre b t)).reverse (t.drop (cpre b t)).reverse)))) q [100, (cpre b t), b.length - (cpre (b.drop (cpre b t)).reverse (t.drop (cpre b t)).reverse)].length (nI (t.length - (cpre (b.drop (cpre b t)).reverse (t.drop (cpre b t)).reverse) - (cpre b t)))) j t := ht.sm s5 nej.1 nej.2
  have r6 : RowIs (adpC (addC (addC (addC (addC (cutC c q (nI 0)) q ([] : List Nat).length (nI 100)) q [100].length (nI (cpre b t))) q [100, (cpre b t)].length (nI (b.length - (cpre (b.drop (cpre b t)).reverse (t.drop (cpre b t)).reverse)))) q [100, (cpre b t), b.length - (cpre (b.drop (cpre b t)).reverse (t.drop (cpre b t)).reverse)].length (nI (t.length - (cpre (b.drop (cpre b t)).reverse (t.drop (cpre b t)).reverse) - (cpre b t)))) j q (cpre b t) (t.length - (cpre (b.drop (cpre b t)).reverse (t.drop (cpre b t)).reverse) - (cpre b t)) [100, (cpre b t), b.length - (cpre (b.drop (cpre b t)).reverse (t.drop (cpre b t)).reverse), t.length - (cpre (b.drop (cpre b t)).reverse (t.drop (cpre b t)).reverse) - (cpre b t)].length) q (encD b t) := r5.adp t5 hq hj (by simp; omega) (by omega)
  have s6 : Sm (Rw q) c (adpC (addC (addC (addC (addC (cutC c q (nI 0)) q ([] : List Nat).length (nI 100)) q [100].length (nI (cpre b t))) q [100, (cpre b t)].length (nI (b.length - (cpre (b.drop (cpre b t)).reverse (t.drop (cpre b t)).reverse)))) q [100, (cpre b t), b.length - (cpre (b.drop (cpre b t)).reverse (t.drop (cpre b t)).reverse)].length (nI (t.length - (cpre (b.drop (cpre b t)).reverse (t.drop (cpre b t)).reverse) - (cpre b t)))) j q (cpre b t) (t.length - (cpre (b.drop (cpre b t)).reverse (t.drop (cpre b t)).reverse) - (cpre b t)) [100, (cpre b t), b.length - (cpre (b.drop (cpre b t)).reverse (t.drop (cpre b t)).reverse), t.length - (cpre (b.drop (cpre b t)).reverse (t.drop (cpre b t)).reverse) - (cpre b t)].length) := s5.tr sm_adp
  refine Cp.of hD (by decide) (Nat.le_of_ble_eq_true rfl) [(0, some (.ref (aRow D i))), (1, some (.ref (aRow D j))), (2, some (.ref (aRow D q)))] rfl (fun X hX C => ?_)
  subst hX
  refine g_aload_n (pc := 0) (i := 0) C d_Cod_writeDifference_0 rfl rfl ?_
  refine g_aload_n (pc := 1) (i := 1) C d_Cod_writeDifference_1 rfl rfl ?_
  refine g_callS1 (pc := 2) (As := [_, _]) C my_Cod_commonBeginning ms_Cod_commonBeginning cl_Cod_31 d_Cod_writeDifference_2 (Nat.le_of_ble_eq_true rfl) rfl (Nat.le_of_ble_eq_true rfl) ⟨Nat.zero_le _, Nat.zero_le _⟩ (c_Cod_commonBeginning _ hD (by omega) (by omega) hb ht yb yt) ?_
  refine g_istore_n (pc := 5) (i := 3) C d_Cod_writeDifference_5 rfl (by decide) rfl ?_
  refine g_aload_n (pc := 6) (i := 0) C d_Cod_writeDifference_6 rfl rfl ?_
  refine g_aload_n (pc := 7) (i := 1) C d_Cod_writeDifference_7 rfl rfl ?_
  refine g_iload_n (pc := 8) (i := 3) C d_Cod_writeDifference_8 rfl rfl ?_
  refine g_callS1 (pc := 9) (As := [_, _, _]) C my_Cod_commonEnd ms_Cod_commonEnd cl_Cod_37 d_Cod_writeDifference_9 (Nat.le_of_ble_eq_true rfl) rfl (Nat.le_of_ble_eq_true rfl) ⟨Nat.zero_le _, Nat.zero_le _⟩ (c_Cod_commonEnd _ hD (by omega) (by omega) hb ht yb yt p1 p2) ?_
  refine g_istore (pc := 12) C d_Cod_writeDifference_12 (by decide) rfl ?_
  refine g_aload_n (pc := 14) (i := 1) C d_Cod_writeDifference_14 rfl rfl ?_
  refine gf_Row_length (pc := 15) C (by omega) fl_Cod_19 d_Cod_writeDifference_15 ?_
  rw [ht.1]
  refine g_iload (pc := 18) C d_Cod_writeDifference_18 rfl ?_
  refine g_isub (pc := 20) C d_Cod_writeDifference_20 ?_
  rw [pk_sub (by omega)]
  refine g_iload_n (pc := 21) (i := 3) C d_Cod_writeDifference_21 rfl rfl ?_
  refine g_isub (pc := 22) C d_Cod_writeDifference_22 ?_
  rw [pk_sub (by omega)]
  refine g_istore (pc := 23) C d_Cod_writeDifference_23 (by decide) rfl ?_
  refine g_aload_n (pc := 25) (i := 2) C d_Cod_writeDifference_25 rfl rfl ?_
  refine g_iconst (pc := 26) C d_Cod_writeDifference_26 icn_0 ?_
  refine g_callV0 (pc := 27) (As := [_]) C my_Row_cut mv_Row_cut cl_Cod_9 (is_Row (by omega)) d_Cod_writeDifference_27 (Nat.le_of_ble_eq_true rfl) rfl (Nat.le_of_ble_eq_true rfl) ⟨Nat.zero_le _, Nat.zero_le _⟩ (c_Row_cut _ hD (by omega)) ?_
  refine g_aload_n (pc := 30) (i := 2) C d_Cod_writeDifference_30 rfl rfl ?_
  refine g_bipush (pc := 31) C d_Cod_writeDifference_31 bpn_100 ?_
  refine g_callV1 (pc := 33) (As := [_]) C my_Row_add mv_Row_add cl_Cod_15 (is_Row (by omega)) d_Cod_writeDifference_33 (Nat.le_of_ble_eq_true rfl) rfl (Nat.le_of_ble_eq_true rfl) ⟨Nat.zero_le _, Nat.zero_le _⟩ (c_add1 _ hD (by omega) r1 (by simp; omega)) ?_
  refine g_pop (pc := 36) C d_Cod_writeDifference_36 rfl ?_
  refine g_aload_n (pc := 37) (i := 2) C d_Cod_writeDifference_37 rfl rfl ?_
  refine g_iload_n (pc := 38) (i := 3) C d_Cod_writeDifference_38 rfl rfl ?_
  refine g_callV1 (pc := 39) (As := [_]) C my_Row_add mv_Row_add cl_Cod_15 (is_Row (by omega)) d_Cod_writeDifference_39 (Nat.le_of_ble_eq_true rfl) rfl (Nat.le_of_ble_eq_true rfl) ⟨Nat.zero_le _, Nat.zero_le _⟩ (c_add1 _ hD (by omega) r2 (by simp; omega)) ?_
  refine g_pop (pc := 42) C d_Cod_writeDifference_42 rfl ?_
  refine g_aload_n (pc := 43) (i := 2) C d_Cod_writeDifference_43 rfl rfl ?_
  refine g_aload_n (pc := 44) (i := 0) C d_Cod_writeDifference_44 rfl rfl ?_
  refine gf_Row_length (pc := 45) C (by omega) fl_Cod_19 d_Cod_writeDifference_45 ?_
  rw [b3.1]
  refine g_iload (pc := 48) C d_Cod_writeDifference_48 rfl ?_
  refine g_isub (pc := 50) C d_Cod_writeDifference_50 ?_
  rw [pk_sub (by omega)]
  refine g_callV1 (pc := 51) (As := [_]) C my_Row_add mv_Row_add cl_Cod_15 (is_Row (by omega)) d_Cod_writeDifference_51 (Nat.le_of_ble_eq_true rfl) rfl (Nat.le_of_ble_eq_true rfl) ⟨Nat.zero_le _, Nat.zero_le _⟩ (c_add1 _ hD (by omega) r3 (by simp; omega)) ?_
  refine g_pop (pc := 54) C d_Cod_writeDifference_54 rfl ?_
  refine g_aload_n (pc := 55) (i := 2) C d_Cod_writeDifference_55 rfl rfl ?_
  refine g_iload (pc := 56) C d_Cod_writeDifference_56 rfl ?_
  refine g_callV1 (pc := 58) (As := [_]) C my_Row_add mv_Row_add cl_Cod_15 (is_Row (by omega)) d_Cod_writeDifference_58 (Nat.le_of_ble_eq_true rfl) rfl (Nat.le_of_ble_eq_true rfl) ⟨Nat.zero_le _, Nat.zero_le _⟩ (c_add1 _ hD (by omega) r4 (by simp; omega)) ?_
  refine g_pop (pc := 61) C d_Cod_writeDifference_61 rfl ?_
  refine g_aload_n (pc := 62) (i := 2) C d_Cod_writeDifference_62 rfl rfl ?_
  refine g_aload_n (pc := 63) (i := 1) C d_Cod_writeDifference_63 rfl rfl ?_
  refine g_iload_n (pc := 64) (i := 3) C d_Cod_writeDifference_64 rfl rfl ?_
  refine g_iload (pc := 65) C d_Cod_writeDifference_65 rfl ?_
  refine g_callV1 (pc := 67) (As := [_, _, _]) C my_Row_addPart mv_Row_addPart cl_Cod_23 (is_Row (by omega)) d_Cod_writeDifference_67 (Nat.le_of_ble_eq_true rfl) rfl (Nat.le_of_ble_eq_true rfl) ⟨Nat.zero_le _, Nat.zero_le _⟩ (c_adp1 _ hD (by omega) (by omega) r5 t5 (by simp; omega) (by omega)) ?_
  refine g_pop (pc := 70) C d_Cod_writeDifference_70 rfl ?_
  refine g_vret (pc := 71) C d_Cod_writeDifference_71 ?_
  exact ⟨_, rfl, rfl, r6, s6⟩
set_option maxRecDepth 100000 in
set_option maxHeartbeats 4000000 in
theorem x_Cod_readSnapshot (l : Launch) {D : Dt} (hD : OkD D) {i j o s' : Nat} {c : Cs} {τ : Cs × (Nat → Int64)} {d : List Nat} (hi : i < 9) (hj : j < 9) (hij : i ≠ j) (hd : RowIs c i d) (ht : RowIs c j []) (yd : By d) (ho : o + (s' + 1) ≤ d.length) (hc : rln j = 60) : Cp l D y_Cod_readSnapshot b_Cod_readSnapshot 7 (some .boolean) 4 [.ref (aRow D j), .int (nI (s' + 1)), .int (nI o), .ref (aRow D i)] ((c, τ) : Sg) (fun r u => ∃ c2, u = ((c2, τ) : Sg) ∧ Sm (Rw j) c c2 ∧ ((∃ t, snap ((d.drop o).take (s' + 1)) = some t ∧ r = some (.int 1) ∧ RowIs c2 j t) ∨ (snap ((d.drop o).take (s' + 1)) = none ∧ r = some (.int 0) ∧ ∃ x, RowIs c2 j x))) := by
  have ne := RowIs.ne hij hi hj
  have q1 := rln_le i
  have q3 := hd.2.1
  have hch : (d.drop o).take (s' + 1) = d.getD o 0 :: (d.drop (o + 1)).take s' := tk1 (by omega)
  have hrl : ((d.drop (o + 1)).take s').length = s' := tk_len (by omega)
  have yo := yd.get o
  refine Cp.of hD (by decide) (Nat.le_of_ble_eq_true rfl) [(0, some (.ref (aRow D i))), (1, some (.int (nI o))), (2, some (.int (nI (s' + 1)))), (3, some (.ref (aRow D j)))] rfl (fun X hX C => ?_)
  subst hX
  have loop : d.getD o 0 = 120 → ∀ (m k : Nat) (acc : List Nat) (c1 : Cs), k + 2 * m = o + 1 + s' → o + 1 ≤ k → RowIs c1 j acc → RowIs c1 i d → Sm (Rw j) c c1 → unp ((d.drop (o + 1)).take s') = (unp ((d.drop k).take (2 * m))).map (fun t => acc ++ t) → G X D (Qp X D (fun r u => ∃ c2, u = ((c2, τ) : Sg) ∧ Sm (Rw j) c c2 ∧ ((∃ t, snap ((d.drop o).take (s' + 1)) = some t ∧ r = some (.int 1) ∧ RowIs c2 j t) ∨ (snap ((d.drop o).take (s' + 1)) = none ∧ r = some (.int 0) ∧ ∃ x, RowIs c2 j x)))) (0, 0) ((c1, τ) : Sg) 46 [(0, some (.ref (aRow D i))), (1, some (.int (nI o))), (2, some (.int (nI (s' + 1)))), (3, some (.ref (aRow D j))), (5, some (.int (nI k)))] [] := by
    intro h120 m
    induction m with
    | zero =>
      intro k acc c1 hk hk1 hr hd1 hs1 he
      have he : unp ((d.drop (o + 1)).take s') = some acc := by rw [he]; simp [unp]
      have hl := hr.2.1
      refine g_iload (pc := 46) C d_Cod_readSnapshot_46 rfl ?_
      refine g_iload_n (pc := 48) (i := 1) C d_Cod_readSnapshot_48 rfl rfl ?_
      refine g_iload_n (pc := 49) (i := 2) C d_Cod_readSnapshot_49 rfl rfl ?_
      refine g_iadd (pc := 50) C d_Cod_readSnapshot_50 ?_
      rw [nI_add]
      refine g_icmp_ge (pc := 51) (tgt := 92) C d_Cod_readSnapshot_51 (by decide) (fun h51 => ?_) (fun h51 => ?_)
      · skip
        refine g_iconst (pc := 92) C d_Cod_readSnapshot_92 ic_1 ?_
        refine g_zret (pc := 93) C d_Cod_readSnapshot_93 (by first | exact Or.inl rfl | exact Or.inr rfl) ?_
        refine ⟨c1, rfl, hs1, Or.inl ⟨acc, ?_, rfl, hr⟩⟩
        rw [hch, h120, snap_x, he]
        exact if_pos (hc ▸ hl)
      · first | exact absurd h51 (nI_le (by omega) (by omega)) | exact absurd (nI_le (by omega) (by omega)) h51
    | succ m ih =>
      intro k acc c1 hk hk1 hr hd1 hs1 he
      have hv := yd.get k
      have hw := yd.get (k + 1)
      have hR : (d.drop k).take (2 * (m + 1)) = d.getD k 0 :: d.getD (k + 1) 0 :: (d.drop (k + 2)).take (2 * m) := tk2 (n := 2 * m) (by omega)
      rw [hR, unp_c] at he
      have hl := hr.2.1
      rw [hc] at hl
      refine g_iload (pc := 46) C d_Cod_readSnapshot_46 rfl ?_
      refine g_iload_n (pc := 48) (i := 1) C d_Cod_readSnapshot_48 rfl rfl ?_
      refine g_iload_n (pc := 49) (i := 2) C d_Cod_readSnapshot_49 rfl rfl ?_
      refine g_iadd (pc := 50) C d_Cod_readSnapshot_50 ?_
      rw [nI_add]
      refine g_icmp_ge (pc := 51) (tgt := 92) C d_Cod_readSnapshot_51 (by decide) (fun h51 => ?_) (fun h51 => ?_)
      · first | exact absurd h51 (nI_ge (show k < o + (s' + 1) by omega) (by omega)) | exact absurd (nI_ge (show k < o + (s' + 1) by omega) (by omega)) h51
      · skip
        refine g_aload_n (pc := 54) (i := 0) C d_Cod_readSnapshot_54 rfl rfl ?_
        refine g_iload (pc := 55) C d_Cod_readSnapshot_55 rfl ?_
        refine g_callV1 (pc := 57) (As := [_]) C my_Row_at mv_Row_at cl_Cod_27 (is_Row (by omega)) d_Cod_readSnapshot_57 (Nat.le_of_ble_eq_true rfl) rfl (Nat.le_of_ble_eq_true rfl) ⟨Nat.zero_le _, Nat.zero_le _⟩ (c_at1 _ hD (by omega) hd1 (by omega)) ?_
        refine g_istore (pc := 60) C d_Cod_readSnapshot_60 (by decide) rfl ?_
        refine g_iload (pc := 62) C d_Cod_readSnapshot_62 rfl ?_
        refine g_if_eq (pc := 64) (tgt := 84) C d_Cod_readSnapshot_64 (by decide) (fun h64 => ?_) (fun h64 => ?_)
        · have hz : d.getD k 0 = 0 := (nI_eq (by omega) (by decide)).mp (h64.trans nI_0.symm)
          rw [if_pos hz] at he
          refine g_iconst (pc := 84) C d_Cod_readSnapshot_84 ic_0 ?_
          refine g_zret (pc := 85) C d_Cod_readSnapshot_85 (by first | exact Or.inl rfl | exact Or.inr rfl) ?_
          refine ⟨c1, rfl, hs1, Or.inr ⟨?_, rfl, acc, hr⟩⟩
          rw [hch, h120]
          first
            | (rw [snap_x, he]; rfl)
            | (cases hu : unp ((d.drop (k + 2)).take (2 * m)) with
               | none =>
                 rw [hu] at he
                 rw [snap_x, he]
                 rfl
               | some t =>
                 have hlen : ¬ (acc ++ (List.replicate (d.getD k 0) (d.getD (k + 1) 0) ++ t)).length ≤ 60 := by
                   rw [List.length_append, List.length_append, List.length_replicate]
                   omega
                 rw [hu] at he
                 rw [snap_x, he]
                 exact if_neg hlen)
        · have hz : ¬ d.getD k 0 = 0 := fun e => h64 (by rw [e]; exact nI_0)
          rw [if_neg hz] at he
          refine g_aload_n (pc := 67) (i := 3) C d_Cod_readSnapshot_67 rfl rfl ?_
          refine g_aload_n (pc := 68) (i := 0) C d_Cod_readSnapshot_68 rfl rfl ?_
          refine g_iload (pc := 69) C d_Cod_readSnapshot_69 rfl ?_
          refine g_iconst (pc := 71) C d_Cod_readSnapshot_71 icn_1 ?_
          refine g_iadd (pc := 72) C d_Cod_readSnapshot_72 ?_
          rw [nI_add]
          refine g_callV1 (pc := 73) (As := [_]) C my_Row_at mv_Row_at cl_Cod_27 (is_Row (by omega)) d_Cod_readSnapshot_73 (Nat.le_of_ble_eq_true rfl) rfl (Nat.le_of_ble_eq_true rfl) ⟨Nat.zero_le _, Nat.zero_le _⟩ (c_at1 _ hD (by omega) hd1 (by omega)) ?_
          refine g_iload (pc := 76) C d_Cod_readSnapshot_76 rfl ?_
          refine g_callV1 (pc := 78) (As := [_, _]) C my_Row_addRun mv_Row_addRun cl_Cod_47 (is_Row (by omega)) d_Cod_readSnapshot_78 (Nat.le_of_ble_eq_true rfl) rfl (Nat.le_of_ble_eq_true rfl) ⟨Nat.zero_le _, Nat.zero_le _⟩ (c_Row_addRun _ hD (by omega) hr.1 hr.2.1 (by omega)) ?_
          refine g_if_ne (pc := 81) (tgt := 86) C d_Cod_readSnapshot_81 (by decide) (fun h81 => ?_) (fun h81 => ?_)
          · have hb := b1_1 h81
            rw [if_pos hb]
            rw [hc] at hb
            refine g_iinc (pc := 86) C d_Cod_readSnapshot_86 rfl (v := nI (k + 2)) (by rw [icn_2]; exact nI_add k 2) rfl ?_
            refine g_goto (pc := 89) (tgt := 46) C d_Cod_readSnapshot_89 (by decide) ?_
            refine G.lf (ih (k + 2) (acc ++ List.replicate (d.getD k 0) (d.getD (k + 1) 0)) _ (by omega) (by omega) (hr.arn hj (by rw [hc]; omega)) (hd1.sm sm_arn ne.1 ne.2) (hs1.tr sm_arn) ?_) (sb rfl (sb rfl (sb rfl (sb rfl (sb rfl sn)))))
            rw [he]
            cases unp ((d.drop (k + 2)).take (2 * m)) with
            | none => rfl
            | some t => simp
          · have hb := b1_0 h81
            rw [if_neg hb]
            rw [hc] at hb
            refine g_iconst (pc := 84) C d_Cod_readSnapshot_84 ic_0 ?_
            refine g_zret (pc := 85) C d_Cod_readSnapshot_85 (by first | exact Or.inl rfl | exact Or.inr rfl) ?_
            refine ⟨c1, rfl, hs1, Or.inr ⟨?_, rfl, acc, hr⟩⟩
            rw [hch, h120]
            first
              | (rw [snap_x, he]; rfl)
              | (cases hu : unp ((d.drop (k + 2)).take (2 * m)) with
                 | none =>
                   rw [hu] at he
                   rw [snap_x, he]
                   rfl
                 | some t =>
                   have hlen : ¬ (acc ++ (List.replicate (d.getD k 0) (d.getD (k + 1) 0) ++ t)).length ≤ 60 := by
                     rw [List.length_append, List.length_append, List.length_replicate]
                     omega
                   rw [hu] at he
                   rw [snap_x, he]
                   exact if_neg hlen)
  refine g_aload_n (pc := 0) (i := 0) C d_Cod_readSnapshot_0 rfl rfl ?_
  refine g_iload_n (pc := 1) (i := 1) C d_Cod_readSnapshot_1 rfl rfl ?_
  refine g_callV1 (pc := 2) (As := [_]) C my_Row_at mv_Row_at cl_Cod_27 (is_Row (by omega)) d_Cod_readSnapshot_2 (Nat.le_of_ble_eq_true rfl) rfl (Nat.le_of_ble_eq_true rfl) ⟨Nat.zero_le _, Nat.zero_le _⟩ (c_at1 _ hD (by omega) hd (by omega)) ?_
  refine g_istore (pc := 5) C d_Cod_readSnapshot_5 (by decide) rfl ?_
  refine g_iload (pc := 7) C d_Cod_readSnapshot_7 rfl ?_
  refine g_bipush (pc := 9) C d_Cod_readSnapshot_9 bpn_117 ?_
  refine g_icmp_ne (pc := 11) (tgt := 26) C d_Cod_readSnapshot_11 (by decide) (fun h11 => ?_) (fun h11 => ?_)
  · have hu : ¬ d.getD o 0 = 117 := fun e => h11 (by rw [e])
    refine g_iload (pc := 26) C d_Cod_readSnapshot_26 rfl ?_
    refine g_bipush (pc := 28) C d_Cod_readSnapshot_28 bpn_120 ?_
    refine g_icmp_ne (pc := 30) (tgt := 39) C d_Cod_readSnapshot_30 (by decide) (fun h30 => ?_) (fun h30 => ?_)
    · have hx : ¬ d.getD o 0 = 120 := fun e => h30 (by rw [e])
      refine g_iconst (pc := 39) C d_Cod_readSnapshot_39 ic_0 ?_
      refine g_zret (pc := 40) C d_Cod_readSnapshot_40 (by first | exact Or.inl rfl | exact Or.inr rfl) ?_
      refine ⟨c, rfl, Sm.rf, Or.inr ⟨?_, rfl, [], ht⟩⟩
      rw [hch]
      first
        | exact snap_n _ hu hx
        | (have hun := unp_odd (s' / 2) _ (show ((d.drop (o + 1)).take s').length = 2 * (s' / 2) + 1 by rw [hrl]; omega)
           rw [hx, snap_x, hun])
    · have hx : d.getD o 0 = 120 := (nI_eq (by omega) (by decide)).mp h30
      refine g_iload_n (pc := 33) (i := 2) C d_Cod_readSnapshot_33 rfl rfl ?_
      refine g_iconst (pc := 34) C d_Cod_readSnapshot_34 icn_2 ?_
      refine g_irem (pc := 35) C d_Cod_readSnapshot_35 (nI_ne0 (by decide) (by decide)) ?_
      rw [pk_rem (by omega) (by decide) (by decide)]
      refine g_if_ne (pc := 36) (tgt := 41) C d_Cod_readSnapshot_36 (by decide) (fun h36 => ?_) (fun h36 => ?_)
      · have he : ¬ (s' + 1) % 2 = 0 := fun e => h36 (by rw [e]; exact nI_0)
        refine g_iload_n (pc := 41) (i := 1) C d_Cod_readSnapshot_41 rfl rfl ?_
        refine g_iconst (pc := 42) C d_Cod_readSnapshot_42 icn_1 ?_
        refine g_iadd (pc := 43) C d_Cod_readSnapshot_43 ?_
        rw [nI_add]
        refine g_istore (pc := 44) C d_Cod_readSnapshot_44 (by decide) rfl ?_
        exact G.lf (loop hx (s' / 2) (o + 1) [] c (by omega) (Nat.le_refl _) ht hd Sm.rf (by rw [show 2 * (s' / 2) = s' by omega]; simp)) (sb rfl (sb rfl (sb rfl (sb rfl (sb rfl sn)))))
      · have he : (s' + 1) % 2 = 0 := (nI_eq (by omega) (by decide)).mp (h36.trans nI_0.symm)
        refine g_iconst (pc := 39) C d_Cod_readSnapshot_39 ic_0 ?_
        refine g_zret (pc := 40) C d_Cod_readSnapshot_40 (by first | exact Or.inl rfl | exact Or.inr rfl) ?_
        refine ⟨c, rfl, Sm.rf, Or.inr ⟨?_, rfl, [], ht⟩⟩
        rw [hch]
        first
          | exact snap_n _ hu hx
          | (have hun := unp_odd (s' / 2) _ (show ((d.drop (o + 1)).take s').length = 2 * (s' / 2) + 1 by rw [hrl]; omega)
             rw [hx, snap_x, hun])
  · have hu : d.getD o 0 = 117 := (nI_eq (by omega) (by decide)).mp h11
    refine g_aload_n (pc := 14) (i := 3) C d_Cod_readSnapshot_14 rfl rfl ?_
    refine g_aload_n (pc := 15) (i := 0) C d_Cod_readSnapshot_15 rfl rfl ?_
    refine g_iload_n (pc := 16) (i := 1) C d_Cod_readSnapshot_16 rfl rfl ?_
    refine g_iconst (pc := 17) C d_Cod_readSnapshot_17 icn_1 ?_
    refine g_iadd (pc := 18) C d_Cod_readSnapshot_18 ?_
    rw [nI_add]
    refine g_iload_n (pc := 19) (i := 2) C d_Cod_readSnapshot_19 rfl rfl ?_
    refine g_iconst (pc := 20) C d_Cod_readSnapshot_20 icn_1 ?_
    refine g_isub (pc := 21) C d_Cod_readSnapshot_21 ?_
    rw [pk_sub (by omega), show s' + 1 - 1 = s' by omega]
    refine g_callV1 (pc := 22) (As := [_, _, _]) C my_Row_addPart mv_Row_addPart cl_Cod_23 (is_Row (by omega)) d_Cod_readSnapshot_22 (Nat.le_of_ble_eq_true rfl) rfl (Nat.le_of_ble_eq_true rfl) ⟨Nat.zero_le _, Nat.zero_le _⟩ (c_Row_addPart _ hD (by omega) (by omega) ht.1 ht.2.1 hd.1 hd.2.1 (by omega) (by omega)) ?_
    refine g_zret (pc := 25) C d_Cod_readSnapshot_25 (b1_z _) ?_
    by_cases hl : s' ≤ 60
    · have hb : ([] : List Nat).length + s' ≤ rln j ∧ o + 1 + s' ≤ d.length := ⟨by rw [hc]; simpa using hl, by omega⟩
      refine ⟨_, rfl, ?_, Or.inl ⟨(d.drop (o + 1)).take s', ?_, by rw [b1_t hb], ?_⟩⟩
      · rw [if_pos hb]
        exact sm_adp
      · rw [hch, hu, snap_u]
        exact if_pos (by rw [hrl]; exact hl)
      · rw [if_pos hb]
        have h := ht.adp (f := o + 1) (k := s') hd hj hi hb.1 hb.2
        simpa using h
    · have hb : ¬ (([] : List Nat).length + s' ≤ rln j ∧ o + 1 + s' ≤ d.length) := fun h => hl (by have := h.1; rw [hc] at this; simpa using this)
      refine ⟨_, rfl, ?_, Or.inr ⟨?_, by rw [b1_f hb], [], ?_⟩⟩
      · rw [if_neg hb]
        exact Sm.rf
      · rw [hch, hu, snap_u]
        exact if_neg (by rw [hrl]; exact hl)
      · rw [if_neg hb]
        exact ht
set_option maxRecDepth 100000 in
set_option maxHeartbeats 4000000 in
theorem x_Cod_readDifference (l : Launch) {D : Dt} (hD : OkD D) {i j o s : Nat} {c : Cs} {τ : Cs × (Nat → Int64)} {d b : List Nat} (hi : i < 9) (hj : j < 9) (hij : i ≠ j) (hd : RowIs c i d) (ht : RowIs c j b) (yd : By d) (ho : o + s ≤ d.length) (hc : rln j = 60) : Cp l D y_Cod_readDifference b_Cod_readDifference 7 (some .boolean) 3 [.ref (aRow D j), .int (nI s), .int (nI o), .ref (aRow D i)] ((c, τ) : Sg) (fun r u => ∃ c2, u = ((c2, τ) : Sg) ∧ Sm (Rw j) c c2 ∧ ((∃ t, dif ((d.drop o).take s) b = some t ∧ r = some (.int 1) ∧ RowIs c2 j t) ∨ (dif ((d.drop o).take s) b = none ∧ r = some (.int 0) ∧ ∃ x, RowIs c2 j x))) := by
  have ne := RowIs.ne hij hi hj
  have q1 := rln_le i
  have q3 := hd.2.1
  have q4 := ht.2.1
  have y0 := yd.get o
  have y1 := yd.get (o + 1)
  have y2 := yd.get (o + 2)
  have y3 := yd.get (o + 3)
  have hch : 4 ≤ s → (d.drop o).take s = d.getD o 0 :: d.getD (o + 1) 0 :: d.getD (o + 2) 0 :: d.getD (o + 3) 0 :: (d.drop (o + 4)).take (s - 4) := by
    intro h4
    obtain ⟨s', rfl⟩ : ∃ s', s = s' + 4 := ⟨s - 4, by omega⟩
    rw [show s' + 4 = (s' + 2) + 2 by omega, tk2 (by omega), tk2 (by omega)]
    rfl
  have hrl : 4 ≤ s → ((d.drop (o + 4)).take (s - 4)).length = s - 4 := fun h4 => tk_len (by omega)
  refine Cp.of hD (by decide) (Nat.le_of_ble_eq_true rfl) [(0, some (.ref (aRow D i))), (1, some (.int (nI o))), (2, some (.int (nI s))), (3, some (.ref (aRow D j)))] rfl (fun X hX C => ?_)
  subst hX
  refine g_iload_n (pc := 0) (i := 2) C d_Cod_readDifference_0 rfl rfl ?_
  refine g_iconst (pc := 1) C d_Cod_readDifference_1 icn_4 ?_
  refine g_icmp_lt (pc := 2) (tgt := 15) C d_Cod_readDifference_2 (by decide) (fun h2 => ?_) (fun h2 => ?_)
  · have h4 : s < 4 := (nI_ltI (by omega) (by decide)).mp h2
    refine g_iconst (pc := 15) C d_Cod_readDifference_15 ic_0 ?_
    refine g_zret (pc := 16) C d_Cod_readDifference_16 (by first | exact Or.inl rfl | exact Or.inr rfl) ?_
    refine ⟨c, rfl, Sm.rf, Or.inr ⟨?_, rfl, b, ht⟩⟩
    first
      | exact dif_short (by rw [tk_len ho]; exact h4)
      | (rw [hch h4, dif_cons]; exact if_neg (fun h => hk h.1))
  · have h4 : 4 ≤ s := Nat.not_lt.mp fun h => h2 (nI_lt h (by decide))
    refine g_aload_n (pc := 5) (i := 0) C d_Cod_readDifference_5 rfl rfl ?_
    refine g_iload_n (pc := 6) (i := 1) C d_Cod_readDifference_6 rfl rfl ?_
    refine g_callV1 (pc := 7) (As := [_]) C my_Row_at mv_Row_at cl_Cod_27 (is_Row (by omega)) d_Cod_readDifference_7 (Nat.le_of_ble_eq_true rfl) rfl (Nat.le_of_ble_eq_true rfl) ⟨Nat.zero_le _, Nat.zero_le _⟩ (c_at1 _ hD (by omega) hd (by omega)) ?_
    refine g_bipush (pc := 10) C d_Cod_readDifference_10 bpn_100 ?_
    refine g_icmp_eq (pc := 12) (tgt := 17) C d_Cod_readDifference_12 (by decide) (fun h12 => ?_) (fun h12 => ?_)
    · have hk : d.getD o 0 = 100 := (nI_eq (by omega) (by decide)).mp h12
      refine g_aload_n (pc := 17) (i := 0) C d_Cod_readDifference_17 rfl rfl ?_
      refine g_iload_n (pc := 18) (i := 1) C d_Cod_readDifference_18 rfl rfl ?_
      refine g_iconst (pc := 19) C d_Cod_readDifference_19 icn_1 ?_
      refine g_iadd (pc := 20) C d_Cod_readDifference_20 ?_
      rw [nI_add]
      refine g_callV1 (pc := 21) (As := [_]) C my_Row_at mv_Row_at cl_Cod_27 (is_Row (by omega)) d_Cod_readDifference_21 (Nat.le_of_ble_eq_true rfl) rfl (Nat.le_of_ble_eq_true rfl) ⟨Nat.zero_le _, Nat.zero_le _⟩ (c_at1 _ hD (by omega) hd (by omega)) ?_
      refine g_istore (pc := 24) C d_Cod_readDifference_24 (by decide) rfl ?_
      refine g_aload_n (pc := 26) (i := 0) C d_Cod_readDifference_26 rfl rfl ?_
      refine g_iload_n (pc := 27) (i := 1) C d_Cod_readDifference_27 rfl rfl ?_
      refine g_iconst (pc := 28) C d_Cod_readDifference_28 icn_2 ?_
      refine g_iadd (pc := 29) C d_Cod_readDifference_29 ?_
      rw [nI_add]
      refine g_callV1 (pc := 30) (As := [_]) C my_Row_at mv_Row_at cl_Cod_27 (is_Row (by omega)) d_Cod_readDifference_30 (Nat.le_of_ble_eq_true rfl) rfl (Nat.le_of_ble_eq_true rfl) ⟨Nat.zero_le _, Nat.zero_le _⟩ (c_at1 _ hD (by omega) hd (by omega)) ?_
      refine g_istore (pc := 33) C d_Cod_readDifference_33 (by decide) rfl ?_
      refine g_aload_n (pc := 35) (i := 0) C d_Cod_readDifference_35 rfl rfl ?_
      refine g_iload_n (pc := 36) (i := 1) C d_Cod_readDifference_36 rfl rfl ?_
      refine g_iconst (pc := 37) C d_Cod_readDifference_37 icn_3 ?_
      refine g_iadd (pc := 38) C d_Cod_readDifference_38 ?_
      rw [nI_add]
      refine g_callV1 (pc := 39) (As := [_]) C my_Row_at mv_Row_at cl_Cod_27 (is_Row (by omega)) d_Cod_readDifference_39 (Nat.le_of_ble_eq_true rfl) rfl (Nat.le_of_ble_eq_true rfl) ⟨Nat.zero_le _, Nat.zero_le _⟩ (c_at1 _ hD (by omega) hd (by omega)) ?_
      refine g_istore (pc := 42) C d_Cod_readDifference_42 (by decide) rfl ?_
      refine g_iload (pc := 44) C d_Cod_readDifference_44 rfl ?_
      refine g_iload_n (pc := 46) (i := 2) C d_Cod_readDifference_46 rfl rfl ?_
      refine g_iconst (pc := 47) C d_Cod_readDifference_47 icn_4 ?_
      refine g_isub (pc := 48) C d_Cod_readDifference_48 ?_
      rw [pk_sub h4]
      refine g_icmp_eq (pc := 49) (tgt := 54) C d_Cod_readDifference_49 (by decide) (fun h49 => ?_) (fun h49 => ?_)
      · have hm : d.getD (o + 3) 0 = s - 4 := (nI_eq (by omega) (by omega)).mp h49
        refine g_aload_n (pc := 54) (i := 3) C d_Cod_readDifference_54 rfl rfl ?_
        refine g_iload (pc := 55) C d_Cod_readDifference_55 rfl ?_
        refine g_iload (pc := 57) C d_Cod_readDifference_57 rfl ?_
        refine g_aload_n (pc := 59) (i := 0) C d_Cod_readDifference_59 rfl rfl ?_
        refine g_iload_n (pc := 60) (i := 1) C d_Cod_readDifference_60 rfl rfl ?_
        refine g_iconst (pc := 61) C d_Cod_readDifference_61 icn_4 ?_
        refine g_iadd (pc := 62) C d_Cod_readDifference_62 ?_
        rw [nI_add]
        refine g_iload (pc := 63) C d_Cod_readDifference_63 rfl ?_
        refine g_callV1 (pc := 65) (As := [_, _, _, _, _]) C my_Row_replace mv_Row_replace cl_Cod_51 (is_Row (by omega)) d_Cod_readDifference_65 (Nat.le_of_ble_eq_true rfl) rfl (Nat.le_of_ble_eq_true rfl) ⟨Nat.zero_le _, Nat.zero_le _⟩ (c_Row_replace _ hD (by omega) (by omega) ht.1 ht.2.1 hd.1 hd.2.1 (by omega) (by omega) (by omega) (by omega)) ?_
        refine g_zret (pc := 68) C d_Cod_readDifference_68 (b1_z _) ?_
        by_cases hb : d.getD (o + 1) 0 ≤ d.getD (o + 2) 0 ∧ d.getD (o + 2) 0 ≤ b.length ∧ o + 4 + d.getD (o + 3) 0 ≤ d.length ∧ b.length - (d.getD (o + 2) 0 - d.getD (o + 1) 0) + d.getD (o + 3) 0 ≤ rln j
        · refine ⟨_, rfl, ?_, Or.inl ⟨b.take (d.getD (o + 1) 0) ++ (d.drop (o + 4)).take (d.getD (o + 3) 0) ++ b.drop (d.getD (o + 2) 0), ?_, by rw [b1_t hb], ?_⟩⟩
          · rw [if_pos hb]
            exact sm_rep
          · rw [hch h4, dif_cons, if_pos ⟨hk, by rw [hrl h4]; exact hm, hb.1, hb.2.1, by have := hb.2.2.2; rw [hc] at this; exact this⟩, hm]
          · rw [if_pos hb]
            exact ht.rep hd hij hj hi hb.1 hb.2.1 hb.2.2.1 hb.2.2.2
        · refine ⟨_, rfl, ?_, Or.inr ⟨?_, by rw [b1_f hb], b, ?_⟩⟩
          · rw [if_neg hb]
            exact Sm.rf
          · rw [hch h4, dif_cons, if_neg (fun h => hb ⟨h.2.2.1, h.2.2.2.1, by omega, by rw [hc]; exact h.2.2.2.2⟩)]
          · rw [if_neg hb]
            exact ht
      · have hm : ¬ d.getD (o + 3) 0 = s - 4 := fun e => h49 (by rw [e])
        refine g_iconst (pc := 52) C d_Cod_readDifference_52 ic_0 ?_
        refine g_zret (pc := 53) C d_Cod_readDifference_53 (by first | exact Or.inl rfl | exact Or.inr rfl) ?_
        refine ⟨c, rfl, Sm.rf, Or.inr ⟨?_, rfl, b, ht⟩⟩
        rw [hch h4, dif_cons]
        exact if_neg (fun h => hm (by have h5 := h.2.1; rw [hrl h4] at h5; exact h5))
    · have hk : ¬ d.getD o 0 = 100 := fun e => h12 (by rw [e])
      refine g_iconst (pc := 15) C d_Cod_readDifference_15 ic_0 ?_
      refine g_zret (pc := 16) C d_Cod_readDifference_16 (by first | exact Or.inl rfl | exact Or.inr rfl) ?_
      refine ⟨c, rfl, Sm.rf, Or.inr ⟨?_, rfl, b, ht⟩⟩
      first
        | exact dif_short (by rw [tk_len ho]; exact h4)
        | (rw [hch h4, dif_cons]; exact if_neg (fun h => hk h.1))
