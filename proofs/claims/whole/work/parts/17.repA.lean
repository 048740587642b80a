set_option maxRecDepth 100000 in
set_option maxHeartbeats 4000000 in
theorem c_Rep_hasRevision (l : Launch) {D : Dt} (hD : OkD D) {r : Nat} {c : Cs} {τ : Cs × (Nat → Int64)} {k : Int32} (hr : r < 2) : Ct l D y_Rep_hasRevision b_Rep_hasRevision 2 (some .boolean) 1 [.int k, .ref (aRep D r)] ((c, τ) : Sg) (some (.int (b1 (0 ≤ k ∧ k < c.1 (20 + r) 0)))) ((c, τ) : Sg) := by
  refine Ct.of hD (by decide) (Nat.le_of_ble_eq_true rfl) [(0, some (.ref (aRep D r))), (1, some (.int k))] rfl (fun X hX C => ?_)
  subst hX
  refine g_iload_n (pc := 0) (i := 1) C d_Rep_hasRevision_0 rfl rfl ?_
  refine g_if_lt (pc := 1) (tgt := 16) C d_Rep_hasRevision_1 (by decide) (fun h1 => ?_) (fun h1 => ?_)
  · skip
    refine g_iconst (pc := 16) C d_Rep_hasRevision_16 ic_0 ?_
    refine g_zret (pc := 17) C d_Rep_hasRevision_17 (by first | exact Or.inl rfl | exact Or.inr rfl) ?_
    refine ⟨congrArg (fun v => some (Value.int v)) ?_, rfl⟩
    first | exact (b1_t (by constructor <;> (simp only [Int32.lt_iff_toInt_lt, Int32.le_iff_toInt_le, Int32.toInt_zero, i32_1] at *; omega))).symm | exact (b1_f (by intro h; obtain ⟨ha, hb⟩ := h; (simp only [Int32.lt_iff_toInt_lt, Int32.le_iff_toInt_le, Int32.toInt_zero, i32_1] at *; omega))).symm
  · skip
    refine g_iload_n (pc := 4) (i := 1) C d_Rep_hasRevision_4 rfl rfl ?_
    refine g_aload_n (pc := 5) (i := 0) C d_Rep_hasRevision_5 rfl rfl ?_
    refine gf_Rep_recordCount (pc := 6) C (by omega) fl_Rep_27 d_Rep_hasRevision_6 ?_
    refine g_icmp_ge (pc := 9) (tgt := 16) C d_Rep_hasRevision_9 (by decide) (fun h9 => ?_) (fun h9 => ?_)
    · skip
      refine g_iconst (pc := 16) C d_Rep_hasRevision_16 ic_0 ?_
      refine g_zret (pc := 17) C d_Rep_hasRevision_17 (by first | exact Or.inl rfl | exact Or.inr rfl) ?_
      refine ⟨congrArg (fun v => some (Value.int v)) ?_, rfl⟩
      first | exact (b1_t (by constructor <;> (simp only [Int32.lt_iff_toInt_lt, Int32.le_iff_toInt_le, Int32.toInt_zero, i32_1] at *; omega))).symm | exact (b1_f (by intro h; obtain ⟨ha, hb⟩ := h; (simp only [Int32.lt_iff_toInt_lt, Int32.le_iff_toInt_le, Int32.toInt_zero, i32_1] at *; omega))).symm
    · skip
      refine g_iconst (pc := 12) C d_Rep_hasRevision_12 ic_1 ?_
      refine g_goto (pc := 13) (tgt := 17) C d_Rep_hasRevision_13 (by decide) ?_
      refine g_zret (pc := 17) C d_Rep_hasRevision_17 (by first | exact Or.inl rfl | exact Or.inr rfl) ?_
      refine ⟨congrArg (fun v => some (Value.int v)) ?_, rfl⟩
      first | exact (b1_t (by constructor <;> (simp only [Int32.lt_iff_toInt_lt, Int32.le_iff_toInt_le, Int32.toInt_zero, i32_1] at *; omega))).symm | exact (b1_f (by intro h; obtain ⟨ha, hb⟩ := h; (simp only [Int32.lt_iff_toInt_lt, Int32.le_iff_toInt_le, Int32.toInt_zero, i32_1] at *; omega))).symm
set_option maxRecDepth 100000 in
set_option maxHeartbeats 4000000 in
theorem c_Rep_canBeParent (l : Launch) {D : Dt} (hD : OkD D) {r : Nat} {c : Cs} {τ : Cs × (Nat → Int64)} {k : Int32} (hr : r < 2) : Ct l D y_Rep_canBeParent b_Rep_canBeParent 2 (some .boolean) 2 [.int k, .ref (aRep D r)] ((c, τ) : Sg) (some (.int (b1 (k = -1 ∨ (0 ≤ k ∧ k < c.1 (20 + r) 0))))) ((c, τ) : Sg) := by
  refine Ct.of hD (by decide) (Nat.le_of_ble_eq_true rfl) [(0, some (.ref (aRep D r))), (1, some (.int k))] rfl (fun X hX C => ?_)
  subst hX
  refine g_iload_n (pc := 0) (i := 1) C d_Rep_canBeParent_0 rfl rfl ?_
  refine g_iconst (pc := 1) C d_Rep_canBeParent_1 ic_m1 ?_
  refine g_icmp_eq (pc := 2) (tgt := 13) C d_Rep_canBeParent_2 (by decide) (fun h2 => ?_) (fun h2 => ?_)
  · skip
    refine g_iconst (pc := 13) C d_Rep_canBeParent_13 ic_1 ?_
    refine g_goto (pc := 14) (tgt := 18) C d_Rep_canBeParent_14 (by decide) ?_
    refine g_zret (pc := 18) C d_Rep_canBeParent_18 (by first | exact Or.inl rfl | exact Or.inr rfl) ?_
    refine ⟨congrArg (fun v => some (Value.int v)) ?_, rfl⟩
    first | exact (b1_t (Or.inl h2)).symm | exact (b1_t (Or.inr hb)).symm | exact (b1_f (fun h => h.elim h2 hb)).symm
  · skip
    refine g_aload_n (pc := 5) (i := 0) C d_Rep_canBeParent_5 rfl rfl ?_
    refine g_iload_n (pc := 6) (i := 1) C d_Rep_canBeParent_6 rfl rfl ?_
    refine g_callV1 (pc := 7) (As := [_]) C my_Rep_hasRevision mv_Rep_hasRevision cl_Rep_54 (is_Rep (by omega)) d_Rep_canBeParent_7 (Nat.le_of_ble_eq_true rfl) rfl (Nat.le_of_ble_eq_true rfl) ⟨Nat.zero_le _, Nat.zero_le _⟩ (c_Rep_hasRevision _ hD (by omega)) ?_
    refine g_if_eq (pc := 10) (tgt := 17) C d_Rep_canBeParent_10 (by decide) (fun h10 => ?_) (fun h10 => ?_)
    · have hb := b1_0 h10
      refine g_iconst (pc := 17) C d_Rep_canBeParent_17 ic_0 ?_
      refine g_zret (pc := 18) C d_Rep_canBeParent_18 (by first | exact Or.inl rfl | exact Or.inr rfl) ?_
      refine ⟨congrArg (fun v => some (Value.int v)) ?_, rfl⟩
      first | exact (b1_t (Or.inl h2)).symm | exact (b1_t (Or.inr hb)).symm | exact (b1_f (fun h => h.elim h2 hb)).symm
    · have hb := b1_1 h10
      refine g_iconst (pc := 13) C d_Rep_canBeParent_13 ic_1 ?_
      refine g_goto (pc := 14) (tgt := 18) C d_Rep_canBeParent_14 (by decide) ?_
      refine g_zret (pc := 18) C d_Rep_canBeParent_18 (by first | exact Or.inl rfl | exact Or.inr rfl) ?_
      refine ⟨congrArg (fun v => some (Value.int v)) ?_, rfl⟩
      first | exact (b1_t (Or.inl h2)).symm | exact (b1_t (Or.inr hb)).symm | exact (b1_f (fun h => h.elim h2 hb)).symm
set_option maxRecDepth 100000 in
set_option maxHeartbeats 4000000 in
theorem c_V_byteAt (l : Launch) {D : Dt} (hD : OkD D) {v : Int64} {s : Int32} {σ : Sg}  : Ct l D y_V_byteAt b_V_byteAt 3 (some .int) 1 [.int s, .long v] σ (some (.int (byt v s))) σ := by
  refine Ct.of hD (by decide) (Nat.le_of_ble_eq_true rfl) [(0, some (.long v)), (2, some (.int s))] rfl (fun X hX C => ?_)
  subst hX
  refine g_lload_n (pc := 0) (i := 0) C d_V_byteAt_0 rfl rfl ?_
  refine g_iload_n (pc := 1) (i := 2) C d_V_byteAt_1 rfl rfl ?_
  refine g_lushr (pc := 2) C d_V_byteAt_2 ?_
  refine g_l2i (pc := 3) C d_V_byteAt_3 ?_
  refine g_sipush (pc := 4) C d_V_byteAt_4 sp_255 ?_
  refine g_iand (pc := 7) C d_V_byteAt_7 ?_
  refine g_iret (pc := 8) C d_V_byteAt_8 ?_
  exact ⟨rfl, rfl⟩
set_option maxRecDepth 100000 in
set_option maxHeartbeats 4000000 in
theorem c_Rep_mixLong (l : Launch) {D : Dt} (hD : OkD D) {h v : Int64} {σ : Sg}  : Ct l D y_Rep_mixLong b_Rep_mixLong 7 (some .long) 2 [.long v, .long h] σ (some (.long (mixL h v))) σ := by
  refine Ct.of hD (by decide) (Nat.le_of_ble_eq_true rfl) [(0, some (.long h)), (2, some (.long v))] rfl (fun X hX C => ?_)
  subst hX
  refine g_lload_n (pc := 0) (i := 0) C d_Rep_mixLong_0 rfl rfl ?_
  refine g_lstore (pc := 1) C d_Rep_mixLong_1 (by decide) rfl ?_
  refine g_bipush (pc := 3) C d_Rep_mixLong_3 bp_56 ?_
  refine g_istore (pc := 5) C d_Rep_mixLong_5 (by decide) rfl ?_
  refine g_iload (pc := 7) C d_Rep_mixLong_7 rfl ?_
  refine g_if_lt (pc := 9) (tgt := 34) C d_Rep_mixLong_9 (by decide) (fun h9 => ?_) (fun h9 => ?_)
  · first | exact absurd h9 (by decide) | exact absurd (by decide) h9
  · skip
    refine g_lload (pc := 12) C d_Rep_mixLong_12 rfl ?_
    refine g_lload_n (pc := 14) (i := 2) C d_Rep_mixLong_14 rfl rfl ?_
    refine g_iload (pc := 15) C d_Rep_mixLong_15 rfl ?_
    refine g_callS1 (pc := 17) (As := [_, _]) C my_V_byteAt ms_V_byteAt cl_Rep_158 d_Rep_mixLong_17 (Nat.le_of_ble_eq_true rfl) rfl (Nat.le_of_ble_eq_true rfl) ⟨Nat.zero_le _, Nat.zero_le _⟩ (c_V_byteAt _ hD) ?_
    refine g_i2l (pc := 20) C d_Rep_mixLong_20 ?_
    refine g_lxor (pc := 21) C d_Rep_mixLong_21 ?_
    refine g_ldc2 (pc := 22) C kc_Rep_156 d_Rep_mixLong_22 ?_
    refine g_lmul (pc := 25) C d_Rep_mixLong_25 ?_
    refine g_lstore (pc := 26) C d_Rep_mixLong_26 (by decide) rfl ?_
    refine g_iinc (pc := 28) C d_Rep_mixLong_28 rfl (v := 48) (by decide) rfl ?_
    refine g_goto (pc := 31) (tgt := 7) C d_Rep_mixLong_31 (by decide) ?_
    refine g_iload (pc := 7) C d_Rep_mixLong_7 rfl ?_
    refine g_if_lt (pc := 9) (tgt := 34) C d_Rep_mixLong_9 (by decide) (fun h9 => ?_) (fun h9 => ?_)
    · first | exact absurd h9 (by decide) | exact absurd (by decide) h9
    · skip
      refine g_lload (pc := 12) C d_Rep_mixLong_12 rfl ?_
      refine g_lload_n (pc := 14) (i := 2) C d_Rep_mixLong_14 rfl rfl ?_
      refine g_iload (pc := 15) C d_Rep_mixLong_15 rfl ?_
      refine g_callS1 (pc := 17) (As := [_, _]) C my_V_byteAt ms_V_byteAt cl_Rep_158 d_Rep_mixLong_17 (Nat.le_of_ble_eq_true rfl) rfl (Nat.le_of_ble_eq_true rfl) ⟨Nat.zero_le _, Nat.zero_le _⟩ (c_V_byteAt _ hD) ?_
      refine g_i2l (pc := 20) C d_Rep_mixLong_20 ?_
      refine g_lxor (pc := 21) C d_Rep_mixLong_21 ?_
      refine g_ldc2 (pc := 22) C kc_Rep_156 d_Rep_mixLong_22 ?_
      refine g_lmul (pc := 25) C d_Rep_mixLong_25 ?_
      refine g_lstore (pc := 26) C d_Rep_mixLong_26 (by decide) rfl ?_
      refine g_iinc (pc := 28) C d_Rep_mixLong_28 rfl (v := 40) (by decide) rfl ?_
      refine g_goto (pc := 31) (tgt := 7) C d_Rep_mixLong_31 (by decide) ?_
      refine g_iload (pc := 7) C d_Rep_mixLong_7 rfl ?_
      refine g_if_lt (pc := 9) (tgt := 34) C d_Rep_mixLong_9 (by decide) (fun h9 => ?_) (fun h9 => ?_)
      · first | exact absurd h9 (by decide) | exact absurd (by decide) h9
      · skip
        refine g_lload (pc := 12) C d_Rep_mixLong_12 rfl ?_
        refine g_lload_n (pc := 14) (i := 2) C d_Rep_mixLong_14 rfl rfl ?_
        refine g_iload (pc := 15) C d_Rep_mixLong_15 rfl ?_
        refine g_callS1 (pc := 17) (As := [_, _]) C my_V_byteAt ms_V_byteAt cl_Rep_158 d_Rep_mixLong_17 (Nat.le_of_ble_eq_true rfl) rfl (Nat.le_of_ble_eq_true rfl) ⟨Nat.zero_le _, Nat.zero_le _⟩ (c_V_byteAt _ hD) ?_
        refine g_i2l (pc := 20) C d_Rep_mixLong_20 ?_
        refine g_lxor (pc := 21) C d_Rep_mixLong_21 ?_
        refine g_ldc2 (pc := 22) C kc_Rep_156 d_Rep_mixLong_22 ?_
        refine g_lmul (pc := 25) C d_Rep_mixLong_25 ?_
        refine g_lstore (pc := 26) C d_Rep_mixLong_26 (by decide) rfl ?_
        refine g_iinc (pc := 28) C d_Rep_mixLong_28 rfl (v := 32) (by decide) rfl ?_
        refine g_goto (pc := 31) (tgt := 7) C d_Rep_mixLong_31 (by decide) ?_
        refine g_iload (pc := 7) C d_Rep_mixLong_7 rfl ?_
        refine g_if_lt (pc := 9) (tgt := 34) C d_Rep_mixLong_9 (by decide) (fun h9 => ?_) (fun h9 => ?_)
        · first | exact absurd h9 (by decide) | exact absurd (by decide) h9
        · skip
          refine g_lload (pc := 12) C d_Rep_mixLong_12 rfl ?_
          refine g_lload_n (pc := 14) (i := 2) C d_Rep_mixLong_14 rfl rfl ?_
          refine g_iload (pc := 15) C d_Rep_mixLong_15 rfl ?_
          refine g_callS1 (pc := 17) (As := [_, _]) C my_V_byteAt ms_V_byteAt cl_Rep_158 d_Rep_mixLong_17 (Nat.le_of_ble_eq_true rfl) rfl (Nat.le_of_ble_eq_true rfl) ⟨Nat.zero_le _, Nat.zero_le _⟩ (c_V_byteAt _ hD) ?_
          refine g_i2l (pc := 20) C d_Rep_mixLong_20 ?_
          refine g_lxor (pc := 21) C d_Rep_mixLong_21 ?_
          refine g_ldc2 (pc := 22) C kc_Rep_156 d_Rep_mixLong_22 ?_
          refine g_lmul (pc := 25) C d_Rep_mixLong_25 ?_
          refine g_lstore (pc := 26) C d_Rep_mixLong_26 (by decide) rfl ?_
          refine g_iinc (pc := 28) C d_Rep_mixLong_28 rfl (v := 24) (by decide) rfl ?_
          refine g_goto (pc := 31) (tgt := 7) C d_Rep_mixLong_31 (by decide) ?_
          refine g_iload (pc := 7) C d_Rep_mixLong_7 rfl ?_
          refine g_if_lt (pc := 9) (tgt := 34) C d_Rep_mixLong_9 (by decide) (fun h9 => ?_) (fun h9 => ?_)
          · first | exact absurd h9 (by decide) | exact absurd (by decide) h9
          · skip
            refine g_lload (pc := 12) C d_Rep_mixLong_12 rfl ?_
            refine g_lload_n (pc := 14) (i := 2) C d_Rep_mixLong_14 rfl rfl ?_
            refine g_iload (pc := 15) C d_Rep_mixLong_15 rfl ?_
            refine g_callS1 (pc := 17) (As := [_, _]) C my_V_byteAt ms_V_byteAt cl_Rep_158 d_Rep_mixLong_17 (Nat.le_of_ble_eq_true rfl) rfl (Nat.le_of_ble_eq_true rfl) ⟨Nat.zero_le _, Nat.zero_le _⟩ (c_V_byteAt _ hD) ?_
            refine g_i2l (pc := 20) C d_Rep_mixLong_20 ?_
            refine g_lxor (pc := 21) C d_Rep_mixLong_21 ?_
            refine g_ldc2 (pc := 22) C kc_Rep_156 d_Rep_mixLong_22 ?_
            refine g_lmul (pc := 25) C d_Rep_mixLong_25 ?_
            refine g_lstore (pc := 26) C d_Rep_mixLong_26 (by decide) rfl ?_
            refine g_iinc (pc := 28) C d_Rep_mixLong_28 rfl (v := 16) (by decide) rfl ?_
            refine g_goto (pc := 31) (tgt := 7) C d_Rep_mixLong_31 (by decide) ?_
            refine g_iload (pc := 7) C d_Rep_mixLong_7 rfl ?_
            refine g_if_lt (pc := 9) (tgt := 34) C d_Rep_mixLong_9 (by decide) (fun h9 => ?_) (fun h9 => ?_)
            · first | exact absurd h9 (by decide) | exact absurd (by decide) h9
            · skip
              refine g_lload (pc := 12) C d_Rep_mixLong_12 rfl ?_
              refine g_lload_n (pc := 14) (i := 2) C d_Rep_mixLong_14 rfl rfl ?_
              refine g_iload (pc := 15) C d_Rep_mixLong_15 rfl ?_
              refine g_callS1 (pc := 17) (As := [_, _]) C my_V_byteAt ms_V_byteAt cl_Rep_158 d_Rep_mixLong_17 (Nat.le_of_ble_eq_true rfl) rfl (Nat.le_of_ble_eq_true rfl) ⟨Nat.zero_le _, Nat.zero_le _⟩ (c_V_byteAt _ hD) ?_
              refine g_i2l (pc := 20) C d_Rep_mixLong_20 ?_
              refine g_lxor (pc := 21) C d_Rep_mixLong_21 ?_
              refine g_ldc2 (pc := 22) C kc_Rep_156 d_Rep_mixLong_22 ?_
              refine g_lmul (pc := 25) C d_Rep_mixLong_25 ?_
              refine g_lstore (pc := 26) C d_Rep_mixLong_26 (by decide) rfl ?_
              refine g_iinc (pc := 28) C d_Rep_mixLong_28 rfl (v := 8) (by decide) rfl ?_
              refine g_goto (pc := 31) (tgt := 7) C d_Rep_mixLong_31 (by decide) ?_
              refine g_iload (pc := 7) C d_Rep_mixLong_7 rfl ?_
              refine g_if_lt (pc := 9) (tgt := 34) C d_Rep_mixLong_9 (by decide) (fun h9 => ?_) (fun h9 => ?_)
              · first | exact absurd h9 (by decide) | exact absurd (by decide) h9
              · skip
                refine g_lload (pc := 12) C d_Rep_mixLong_12 rfl ?_
                refine g_lload_n (pc := 14) (i := 2) C d_Rep_mixLong_14 rfl rfl ?_
                refine g_iload (pc := 15) C d_Rep_mixLong_15 rfl ?_
                refine g_callS1 (pc := 17) (As := [_, _]) C my_V_byteAt ms_V_byteAt cl_Rep_158 d_Rep_mixLong_17 (Nat.le_of_ble_eq_true rfl) rfl (Nat.le_of_ble_eq_true rfl) ⟨Nat.zero_le _, Nat.zero_le _⟩ (c_V_byteAt _ hD) ?_
                refine g_i2l (pc := 20) C d_Rep_mixLong_20 ?_
                refine g_lxor (pc := 21) C d_Rep_mixLong_21 ?_
                refine g_ldc2 (pc := 22) C kc_Rep_156 d_Rep_mixLong_22 ?_
                refine g_lmul (pc := 25) C d_Rep_mixLong_25 ?_
                refine g_lstore (pc := 26) C d_Rep_mixLong_26 (by decide) rfl ?_
                refine g_iinc (pc := 28) C d_Rep_mixLong_28 rfl (v := 0) (by decide) rfl ?_
                refine g_goto (pc := 31) (tgt := 7) C d_Rep_mixLong_31 (by decide) ?_
                refine g_iload (pc := 7) C d_Rep_mixLong_7 rfl ?_
                refine g_if_lt (pc := 9) (tgt := 34) C d_Rep_mixLong_9 (by decide) (fun h9 => ?_) (fun h9 => ?_)
                · first | exact absurd h9 (by decide) | exact absurd (by decide) h9
                · skip
                  refine g_lload (pc := 12) C d_Rep_mixLong_12 rfl ?_
                  refine g_lload_n (pc := 14) (i := 2) C d_Rep_mixLong_14 rfl rfl ?_
                  refine g_iload (pc := 15) C d_Rep_mixLong_15 rfl ?_
                  refine g_callS1 (pc := 17) (As := [_, _]) C my_V_byteAt ms_V_byteAt cl_Rep_158 d_Rep_mixLong_17 (Nat.le_of_ble_eq_true rfl) rfl (Nat.le_of_ble_eq_true rfl) ⟨Nat.zero_le _, Nat.zero_le _⟩ (c_V_byteAt _ hD) ?_
                  refine g_i2l (pc := 20) C d_Rep_mixLong_20 ?_
                  refine g_lxor (pc := 21) C d_Rep_mixLong_21 ?_
                  refine g_ldc2 (pc := 22) C kc_Rep_156 d_Rep_mixLong_22 ?_
                  refine g_lmul (pc := 25) C d_Rep_mixLong_25 ?_
                  refine g_lstore (pc := 26) C d_Rep_mixLong_26 (by decide) rfl ?_
                  refine g_iinc (pc := 28) C d_Rep_mixLong_28 rfl (v := (-8)) (by decide) rfl ?_
                  refine g_goto (pc := 31) (tgt := 7) C d_Rep_mixLong_31 (by decide) ?_
                  refine g_iload (pc := 7) C d_Rep_mixLong_7 rfl ?_
                  refine g_if_lt (pc := 9) (tgt := 34) C d_Rep_mixLong_9 (by decide) (fun h9 => ?_) (fun h9 => ?_)
                  · skip
                    refine g_lload (pc := 34) C d_Rep_mixLong_34 rfl ?_
                    refine g_lret (pc := 36) C d_Rep_mixLong_36 ?_
                    exact ⟨rfl, rfl⟩
                  · first | exact absurd h9 (by decide) | exact absurd (by decide) h9
theorem fnd_s {h : Int64} {rs : List Rc} {n : Nat} {x : Rc} (hx : rs[n]? = some x) : fnd h (rs.drop n) n = if x.nod = h then some n else fnd h (rs.drop (n + 1)) (n + 1) := by
  obtain ⟨hl, he⟩ := List.getElem?_eq_some_iff.mp hx
  rw [List.drop_eq_getElem_cons hl, he]
  rfl
set_option maxRecDepth 100000 in
set_option maxHeartbeats 4000000 in
theorem c_Rep_find (l : Launch) {D : Dt} (hD : OkD D) {r : Nat} {c : Cs} {τ : Cs × (Nat → Int64)} {h : Int64} {rs : List Rc} (hr : r < 2) (hc : c.1 (20 + r) 0 = nI rs.length) (hx : RcX c r rs) : Ct l D y_Rep_find b_Rep_find 4 (some .int) 1 [.long h, .ref (aRep D r)] ((c, τ) : Sg) (some (.int (eo (find rs h)))) ((c, τ) : Sg) := by
  have q := hx.1
  refine Ct.of hD (by decide) (Nat.le_of_ble_eq_true rfl) [(0, some (.ref (aRep D r))), (1, some (.long h))] rfl (fun X hX C => ?_)
  subst hX
  have loop : ∀ (m n : Nat), n + m = rs.length → find rs h = fnd h (rs.drop n) n → G X D (Qp X D (fun r2 u => r2 = some (.int (eo (find rs h))) ∧ u = ((c, τ) : Sg))) (0, 0) ((c, τ) : Sg) 2 [(0, some (.ref (aRep D r))), (1, some (.long h)), (3, some (.int (nI n)))] [] := by
    intro m
    induction m with
    | zero =>
      intro n hn he
      rw [List.drop_eq_nil_of_le (by omega)] at he
      refine g_iload_n (pc := 2) (i := 3) C d_Rep_find_2 rfl rfl ?_
      refine g_aload_n (pc := 3) (i := 0) C d_Rep_find_3 rfl rfl ?_
      refine gf_Rep_recordCount (pc := 4) C (by omega) fl_Rep_27 d_Rep_find_4 ?_
      rw [hc]
      refine g_icmp_ge (pc := 7) (tgt := 32) C d_Rep_find_7 (by decide) (fun h7 => ?_) (fun h7 => ?_)
      · skip
        refine g_iconst (pc := 32) C d_Rep_find_32 ic_m1 ?_
        refine g_iret (pc := 33) C d_Rep_find_33 ?_
        exact ⟨by rw [he]; rfl, rfl⟩
      · first | exact absurd h7 (nI_le (by omega) (by omega)) | exact absurd (nI_le (by omega) (by omega)) h7
    | succ m ih =>
      intro n hn he
      obtain ⟨x, hxn⟩ : ∃ x, rs[n]? = some x := ⟨_, List.getElem?_eq_getElem (show n < rs.length by omega)⟩
      have hrec := hx.2 n x hxn
      rw [fnd_s hxn] at he
      refine g_iload_n (pc := 2) (i := 3) C d_Rep_find_2 rfl rfl ?_
      refine g_aload_n (pc := 3) (i := 0) C d_Rep_find_3 rfl rfl ?_
      refine gf_Rep_recordCount (pc := 4) C (by omega) fl_Rep_27 d_Rep_find_4 ?_
      rw [hc]
      refine g_icmp_ge (pc := 7) (tgt := 32) C d_Rep_find_7 (by decide) (fun h7 => ?_) (fun h7 => ?_)
      · first | exact absurd h7 (nI_ge (show n < rs.length by omega) (by omega)) | exact absurd (nI_ge (show n < rs.length by omega) (by omega)) h7
      · skip
        refine g_aload_n (pc := 10) (i := 0) C d_Rep_find_10 rfl rfl ?_
        refine gf_Rep_records (pc := 11) C (by omega) fl_Rep_22 d_Rep_find_11 ?_
        refine g_iload_n (pc := 14) (i := 3) C d_Rep_find_14 rfl rfl ?_
        refine ga_rcs (pc := 15) C (by omega) (by omega) d_Rep_find_15 ?_
        refine gf_Rec_node (pc := 16) C (by omega) fl_Rep_84 d_Rep_find_16 ?_
        rw [hrec.2.2.2.2.2.2]
        refine g_lload_n (pc := 19) (i := 1) C d_Rep_find_19 rfl rfl ?_
        refine g_lcmp (pc := 20) C d_Rep_find_20 ?_
        refine g_if_ne (pc := 21) (tgt := 26) C d_Rep_find_21 (by decide) (fun h21 => ?_) (fun h21 => ?_)
        · rw [if_neg (fun e => h21 (lg_c0.mpr e))] at he
          refine g_iinc (pc := 26) C d_Rep_find_26 rfl (v := nI (n + 1)) (nI_inc n) rfl ?_
          refine g_goto (pc := 29) (tgt := 2) C d_Rep_find_29 (by decide) ?_
          exact G.lf (ih (n + 1) (by omega) he) (sb rfl (sb rfl (sb rfl sn)))
        · rw [if_pos (lg_c0.mp h21)] at he
          refine g_iload_n (pc := 24) (i := 3) C d_Rep_find_24 rfl rfl ?_
          refine g_iret (pc := 25) C d_Rep_find_25 ?_
          exact ⟨by rw [he]; rfl, rfl⟩
  refine g_iconst (pc := 0) C d_Rep_find_0 icn_0 ?_
  refine g_istore_n (pc := 1) (i := 3) C d_Rep_find_1 rfl (by decide) rfl ?_
  exact G.lf (loop rs.length 0 (by omega) rfl) (sb rfl (sb rfl (sb rfl sn)))
theorem nodP_s {rs : List Rc} {n : Nat} {x : Rc} (hx : rs[n]? = some x) : nodP rs (some n) = x.nod := by
  simp only [nodP, hx]
set_option maxRecDepth 100000 in
set_option maxHeartbeats 4000000 in
theorem c_Rep_nodeOrZero (l : Launch) {D : Dt} (hD : OkD D) {r : Nat} {c : Cs} {τ : Cs × (Nat → Int64)} {q : Option Nat} {rs : List Rc} (hr : r < 2) (hx : RcX c r rs) (hq : ∀ n, q = some n → n < rs.length) : Ct l D y_Rep_nodeOrZero b_Rep_nodeOrZero 2 (some .long) 1 [.int (eo q), .ref (aRep D r)] ((c, τ) : Sg) (some (.long (nodP rs q))) ((c, τ) : Sg) := by
  have h24 := hx.1
  refine Ct.of hD (by decide) (Nat.le_of_ble_eq_true rfl) [(0, some (.ref (aRep D r))), (1, some (.int (eo q)))] rfl (fun X hX C => ?_)
  subst hX
  cases q with
  | none =>
    refine g_iload_n (pc := 0) (i := 1) C d_Rep_nodeOrZero_0 rfl rfl ?_
    refine g_iconst (pc := 1) C d_Rep_nodeOrZero_1 ic_m1 ?_
    refine g_icmp_ne (pc := 2) (tgt := 9) C d_Rep_nodeOrZero_2 (by decide) (fun h2 => ?_) (fun h2 => ?_)
    · first | exact absurd h2 (rfl) | exact absurd (rfl) h2
    · skip
      refine g_lconst (pc := 5) C d_Rep_nodeOrZero_5 lc_0 ?_
      refine g_goto (pc := 6) (tgt := 18) C d_Rep_nodeOrZero_6 (by decide) ?_
      refine g_lret (pc := 18) C d_Rep_nodeOrZero_18 ?_
      exact ⟨rfl, rfl⟩
  | some n =>
    have hn := hq n rfl
    obtain ⟨x, hxn⟩ : ∃ x, rs[n]? = some x := ⟨_, List.getElem?_eq_getElem hn⟩
    have hrec := hx.2 n x hxn
    rw [nodP_s hxn]
    show G X D _ (0, 0) _ 0 [(0, some (.ref (aRep D r))), (1, some (.int (nI n)))] []
    refine g_iload_n (pc := 0) (i := 1) C d_Rep_nodeOrZero_0 rfl rfl ?_
    refine g_iconst (pc := 1) C d_Rep_nodeOrZero_1 ic_m1 ?_
    refine g_icmp_ne (pc := 2) (tgt := 9) C d_Rep_nodeOrZero_2 (by decide) (fun h2 => ?_) (fun h2 => ?_)
    · skip
      refine g_aload_n (pc := 9) (i := 0) C d_Rep_nodeOrZero_9 rfl rfl ?_
      refine gf_Rep_records (pc := 10) C (by omega) fl_Rep_22 d_Rep_nodeOrZero_10 ?_
      refine g_iload_n (pc := 13) (i := 1) C d_Rep_nodeOrZero_13 rfl rfl ?_
      refine ga_rcs (pc := 14) C (by omega) (by omega) d_Rep_nodeOrZero_14 ?_
      refine gf_Rec_node (pc := 15) C (by omega) fl_Rep_84 d_Rep_nodeOrZero_15 ?_
      rw [hrec.2.2.2.2.2.2]
      refine g_lret (pc := 18) C d_Rep_nodeOrZero_18 ?_
      exact ⟨rfl, rfl⟩
    · first | exact absurd h2 (nI_m1 (by omega)) | exact absurd (nI_m1 (by omega)) h2
set_option maxRecDepth 100000 in
set_option maxHeartbeats 4000000 in
theorem c_Rep_nodeOf (l : Launch) {D : Dt} (hD : OkD D) {r : Nat} {c : Cs} {τ : Cs × (Nat → Int64)} {j : Nat} {q1 q2 : Option Nat} {rs : List Rc} {t : List Nat} (hr : r < 2) (hj : j < 9) (hx : RcX c r rs) (h1 : ∀ n, q1 = some n → n < rs.length) (h2 : ∀ n, q2 = some n → n < rs.length) (ht : RowIs c j t) : Ct l D y_Rep_nodeOf b_Rep_nodeOf 11 (some .long) 3 [.int (eo q2), .int (eo q1), .ref (aRow D j), .ref (aRep D r)] ((c, τ) : Sg) (some (.long (nodeOf rs q1 q2 t))) ((c, τ) : Sg) := by
  have q3 := rln_le j
  have q4 := ht.2.1
  refine Ct.of hD (by decide) (Nat.le_of_ble_eq_true rfl) [(0, some (.ref (aRep D r))), (1, some (.ref (aRow D j))), (2, some (.int (eo q1))), (3, some (.int (eo q2)))] rfl (fun X hX C => ?_)
  subst hX
  have loop : ∀ (m k : Nat), k + m = t.length → G X D (Qp X D (fun r2 u => r2 = some (.long (nodeOf rs q1 q2 t)) ∧ u = ((c, τ) : Sg))) (0, 0) ((c, τ) : Sg) 46 [(1, some (.ref (aRow D j))), (8, some (.long ((t.take k).foldl mix (nodS (nodP rs q1) (nodP rs q2))))), (10, some (.int (nI k)))] [] := by
    intro m
    induction m with
    | zero =>
      intro k hk
      rw [List.take_of_length_le (by omega)]
      refine g_iload (pc := 46) C d_Rep_nodeOf_46 rfl ?_
      refine g_aload_n (pc := 48) (i := 1) C d_Rep_nodeOf_48 rfl rfl ?_
      refine gf_Row_length (pc := 49) C (by omega) fl_Rep_62 d_Rep_nodeOf_49 ?_
      rw [ht.1]
      refine g_icmp_ge (pc := 52) (tgt := 77) C d_Rep_nodeOf_52 (by decide) (fun h52 => ?_) (fun h52 => ?_)
      · skip
        refine g_lload (pc := 77) C d_Rep_nodeOf_77 rfl ?_
        refine g_lret (pc := 79) C d_Rep_nodeOf_79 ?_
        exact ⟨rfl, rfl⟩
      · first | exact absurd h52 (nI_le (by omega) (by omega)) | exact absurd (nI_le (by omega) (by omega)) h52
    | succ m ih =>
      intro k hk
      have ek : mix ((t.take k).foldl mix (nodS (nodP rs q1) (nodP rs q2))) (t.getD k 0) = (t.take (k + 1)).foldl mix (nodS (nodP rs q1) (nodP rs q2)) := by
        have hl : k < t.length := by omega
        rw [List.take_add_one, List.foldl_append, List.getElem?_eq_getElem hl, List.getD_eq_getElem?_getD, List.getElem?_eq_getElem hl]
        rfl
      refine g_iload (pc := 46) C d_Rep_nodeOf_46 rfl ?_
      refine g_aload_n (pc := 48) (i := 1) C d_Rep_nodeOf_48 rfl rfl ?_
      refine gf_Row_length (pc := 49) C (by omega) fl_Rep_62 d_Rep_nodeOf_49 ?_
      rw [ht.1]
      refine g_icmp_ge (pc := 52) (tgt := 77) C d_Rep_nodeOf_52 (by decide) (fun h52 => ?_) (fun h52 => ?_)
      · first | exact absurd h52 (nI_ge (show k < t.length by omega) (by omega)) | exact absurd (nI_ge (show k < t.length by omega) (by omega)) h52
      · skip
        refine g_lload (pc := 55) C d_Rep_nodeOf_55 rfl ?_
        refine g_aload_n (pc := 57) (i := 1) C d_Rep_nodeOf_57 rfl rfl ?_
        refine g_iload (pc := 58) C d_Rep_nodeOf_58 rfl ?_
        refine g_callV1 (pc := 60) (As := [_]) C my_Row_at mv_Row_at cl_Rep_152 (is_Row (by omega)) d_Rep_nodeOf_60 (Nat.le_of_ble_eq_true rfl) rfl (Nat.le_of_ble_eq_true rfl) ⟨Nat.zero_le _, Nat.zero_le _⟩ (c_at1 _ hD (by omega) ht (by omega)) ?_
        refine g_i2l (pc := 63) C d_Rep_nodeOf_63 ?_
        refine g_lxor (pc := 64) C d_Rep_nodeOf_64 ?_
        refine g_ldc2 (pc := 65) C kc_Rep_156 d_Rep_nodeOf_65 ?_
        refine g_lmul (pc := 68) C d_Rep_nodeOf_68 ?_
        refine G.sg rfl ?_
        rw [show (((t.take k).foldl mix (nodS (nodP rs q1) (nodP rs q2))) ^^^ (nI (t.getD k 0)).toInt64) * 1099511628211 = (t.take (k + 1)).foldl mix (nodS (nodP rs q1) (nodP rs q2)) from ek]
        refine g_lstore (pc := 69) C d_Rep_nodeOf_69 (by decide) rfl ?_
        refine g_iinc (pc := 71) C d_Rep_nodeOf_71 rfl (v := nI (k + 1)) (nI_inc k) rfl ?_
        refine g_goto (pc := 74) (tgt := 46) C d_Rep_nodeOf_74 (by decide) ?_
        exact G.lf (ih (k + 1) (by omega)) (sb rfl (sb rfl (sb rfl sn)))
  refine g_aload_n (pc := 0) (i := 0) C d_Rep_nodeOf_0 rfl rfl ?_
  refine g_iload_n (pc := 1) (i := 2) C d_Rep_nodeOf_1 rfl rfl ?_
  refine g_callV1 (pc := 2) (As := [_]) C my_Rep_nodeOrZero mv_Rep_nodeOrZero cl_Rep_134 (is_Rep (by omega)) d_Rep_nodeOf_2 (Nat.le_of_ble_eq_true rfl) rfl (Nat.le_of_ble_eq_true rfl) ⟨Nat.zero_le _, Nat.zero_le _⟩ (c_Rep_nodeOrZero _ hD (by omega) hx h1) ?_
  refine g_lstore (pc := 5) C d_Rep_nodeOf_5 (by decide) rfl ?_
  refine g_aload_n (pc := 7) (i := 0) C d_Rep_nodeOf_7 rfl rfl ?_
  refine g_iload_n (pc := 8) (i := 3) C d_Rep_nodeOf_8 rfl rfl ?_
  refine g_callV1 (pc := 9) (As := [_]) C my_Rep_nodeOrZero mv_Rep_nodeOrZero cl_Rep_134 (is_Rep (by omega)) d_Rep_nodeOf_9 (Nat.le_of_ble_eq_true rfl) rfl (Nat.le_of_ble_eq_true rfl) ⟨Nat.zero_le _, Nat.zero_le _⟩ (c_Rep_nodeOrZero _ hD (by omega) hx h2) ?_
  refine g_lstore (pc := 12) C d_Rep_nodeOf_12 (by decide) rfl ?_
  refine g_ldc2 (pc := 14) C kc_Rep_138 d_Rep_nodeOf_14 ?_
  refine g_lload (pc := 17) C d_Rep_nodeOf_17 rfl ?_
  refine g_lload (pc := 19) C d_Rep_nodeOf_19 rfl ?_
  refine g_mminl (pc := 21) C jl_Rep_140 d_Rep_nodeOf_21 (by decide) (Nat.le_of_ble_eq_true rfl) ⟨Nat.zero_le _, Nat.zero_le _⟩ ?_
  refine g_callS1 (pc := 24) (As := [_, _]) C my_Rep_mixLong ms_Rep_mixLong cl_Rep_146 d_Rep_nodeOf_24 (Nat.le_of_ble_eq_true rfl) rfl (Nat.le_of_ble_eq_true rfl) ⟨Nat.zero_le _, Nat.zero_le _⟩ (c_Rep_mixLong _ hD) ?_
  refine g_lstore (pc := 27) C d_Rep_nodeOf_27 (by decide) rfl ?_
  refine g_lload (pc := 29) C d_Rep_nodeOf_29 rfl ?_
  refine g_lload (pc := 31) C d_Rep_nodeOf_31 rfl ?_
  refine g_lload (pc := 33) C d_Rep_nodeOf_33 rfl ?_
  refine g_mmaxl (pc := 35) C jl_Rep_149 d_Rep_nodeOf_35 (by decide) (Nat.le_of_ble_eq_true rfl) ⟨Nat.zero_le _, Nat.zero_le _⟩ ?_
  refine g_callS1 (pc := 38) (As := [_, _]) C my_Rep_mixLong ms_Rep_mixLong cl_Rep_146 d_Rep_nodeOf_38 (Nat.le_of_ble_eq_true rfl) rfl (Nat.le_of_ble_eq_true rfl) ⟨Nat.zero_le _, Nat.zero_le _⟩ (c_Rep_mixLong _ hD) ?_
  refine g_lstore (pc := 41) C d_Rep_nodeOf_41 (by decide) rfl ?_
  refine g_iconst (pc := 43) C d_Rep_nodeOf_43 icn_0 ?_
  refine g_istore (pc := 44) C d_Rep_nodeOf_44 (by decide) rfl ?_
  exact G.lf (loop t.length 0 (by omega)) (sb rfl (sb rfl (sb rfl sn)))
set_option maxRecDepth 100000 in
set_option maxHeartbeats 4000000 in
theorem c_Rep_twinOf (l : Launch) {D : Dt} (hD : OkD D) {r : Nat} {c : Cs} {τ : Cs × (Nat → Int64)} {r2 : Nat} {q : Option Nat} {rs rs2 : List Rc} (hr : r < 2) (hr2 : r2 < 2) (hc : c.1 (20 + r) 0 = nI rs.length) (hx : RcX c r rs) (hx2 : RcX c r2 rs2) (hq : ∀ n, q = some n → n < rs2.length) : Ct l D y_Rep_twinOf b_Rep_twinOf 3 (some .int) 2 [.int (eo q), .ref (aRep D r2), .ref (aRep D r)] ((c, τ) : Sg) (some (.int (eo (q.bind (fun n => find rs (nodP rs2 (some n))))))) ((c, τ) : Sg) := by
  have h24 := hx2.1
  refine Ct.of hD (by decide) (Nat.le_of_ble_eq_true rfl) [(0, some (.ref (aRep D r))), (1, some (.ref (aRep D r2))), (2, some (.int (eo q)))] rfl (fun X hX C => ?_)
  subst hX
  cases q with
  | none =>
    refine g_iload_n (pc := 0) (i := 2) C d_Rep_twinOf_0 rfl rfl ?_
    refine g_iconst (pc := 1) C d_Rep_twinOf_1 ic_m1 ?_
    refine g_icmp_ne (pc := 2) (tgt := 9) C d_Rep_twinOf_2 (by decide) (fun h2 => ?_) (fun h2 => ?_)
    · first | exact absurd h2 (rfl) | exact absurd (rfl) h2
    · skip
      refine g_iconst (pc := 5) C d_Rep_twinOf_5 ic_m1 ?_
      refine g_goto (pc := 6) (tgt := 22) C d_Rep_twinOf_6 (by decide) ?_
      refine g_iret (pc := 22) C d_Rep_twinOf_22 ?_
      exact ⟨rfl, rfl⟩
  | some n =>
    have hn := hq n rfl
    obtain ⟨x, hxn⟩ : ∃ x, rs2[n]? = some x := ⟨_, List.getElem?_eq_getElem hn⟩
    have hrec := hx2.2 n x hxn
    show G X D (Qp X D (fun a u => a = some (.int (eo (find rs (nodP rs2 (some n))))) ∧ u = ((c, τ) : Sg))) (0, 0) _ 0 [(0, some (.ref (aRep D r))), (1, some (.ref (aRep D r2))), (2, some (.int (nI n)))] []
    rw [nodP_s hxn]
    refine g_iload_n (pc := 0) (i := 2) C d_Rep_twinOf_0 rfl rfl ?_
    refine g_iconst (pc := 1) C d_Rep_twinOf_1 ic_m1 ?_
    refine g_icmp_ne (pc := 2) (tgt := 9) C d_Rep_twinOf_2 (by decide) (fun h2 => ?_) (fun h2 => ?_)
    · skip
      refine g_aload_n (pc := 9) (i := 0) C d_Rep_twinOf_9 rfl rfl ?_
      refine g_aload_n (pc := 10) (i := 1) C d_Rep_twinOf_10 rfl rfl ?_
      refine gf_Rep_records (pc := 11) C (by omega) fl_Rep_22 d_Rep_twinOf_11 ?_
      refine g_iload_n (pc := 14) (i := 2) C d_Rep_twinOf_14 rfl rfl ?_
      refine ga_rcs (pc := 15) C (by omega) (by omega) d_Rep_twinOf_15 ?_
      refine gf_Rec_node (pc := 16) C (by omega) fl_Rep_84 d_Rep_twinOf_16 ?_
      rw [hrec.2.2.2.2.2.2]
      refine g_callV1 (pc := 19) (As := [_]) C my_Rep_find mv_Rep_find cl_Rep_88 (is_Rep (by omega)) d_Rep_twinOf_19 (Nat.le_of_ble_eq_true rfl) rfl (Nat.le_of_ble_eq_true rfl) ⟨Nat.zero_le _, Nat.zero_le _⟩ (c_Rep_find _ hD (by omega) hc hx) ?_
      refine g_iret (pc := 22) C d_Rep_twinOf_22 ?_
      exact ⟨rfl, rfl⟩
    · first | exact absurd h2 (nI_m1 (by omega)) | exact absurd (nI_m1 (by omega)) h2
