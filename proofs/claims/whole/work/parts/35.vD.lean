set_option maxRecDepth 100000 in
set_option maxHeartbeats 4000000 in
theorem x_V_type (l : Launch) {D : Dt} (hD : OkD D) {c : Cs} {τ : Cs × (Nat → Int64)} {V : Vt} {v : Int64} (hC : CAbs c V) : Cp l D y_V_type b_V_type 6 (some .boolean) 3 [.long v, .ref (aVlt D)] ((c, τ) : Sg) (fun a u => ∃ c2, u = ((c2, τ) : Sg) ∧ a = some (.int (b1 ((oType V v).1 = true))) ∧ CAbs c2 (oType V v).2) := by
  have r0 : rln 0 = 60 := rfl
  have lb := hC.1.2.1
  rw [r0] at lb
  have no : ¬ (tyOk v ∧ V.1.length + (tyL v 8).length ≤ 60) → ∃ c2, ((c, τ) : Sg) = ((c2, τ) : Sg) ∧ some (Value.int 0) = some (Value.int (b1 ((oType V v).1 = true))) ∧ CAbs c2 (oType V v).2 := fun hx => by
    refine ⟨c, rfl, ?_, ?_⟩
    · unfold oType
      rw [if_neg hx, b1_f (fun e => by cases e)]
    · unfold oType
      rw [if_neg hx]
      exact hC
  refine Cp.of hD (by decide) (Nat.le_of_ble_eq_true rfl) [(0, some (.ref (aVlt D))), (1, some (.long v))] rfl (fun X hX C => ?_)
  subst hX
  have loop2 : (tyOk v ∧ V.1.length + (tyL v 8).length ≤ 60) → ∀ (m i : Nat) (c1 : Cs), i + m = 8 → RowIs c1 0 (V.1 ++ tyL v i) → Sm (Rw 0) c c1 → G X D (Qp X D (fun a u => ∃ c2, u = ((c2, τ) : Sg) ∧ a = some (.int (b1 ((oType V v).1 = true))) ∧ CAbs c2 (oType V v).2)) (0, 0) ((c1, τ) : Sg) 63 [(0, some (.ref (aVlt D))), (1, some (.long v)), (4, some (.int (shI i)))] [] := by
    intro hx m
    induction m with
    | zero =>
      intro i c1 hi hrow hs
      have hi8 : i = 8 := by omega
      subst hi8
      refine g_iload (pc := 63) C d_V_type_63 rfl ?_
      refine g_if_lt (pc := 65) (tgt := 97) C d_V_type_65 (by decide) (fun h65 => ?_) (fun h65 => ?_)
      · skip
        refine g_iconst (pc := 97) C d_V_type_97 ic_1 ?_
        refine g_zret (pc := 98) C d_V_type_98 (by first | exact Or.inl rfl | exact Or.inr rfl) ?_
        refine ⟨c1, rfl, ?_, ?_⟩
        · unfold oType
          rw [if_pos hx, b1_t rfl]
        · unfold oType
          rw [if_pos hx]
          exact ⟨hrow, hC.2.1.gm hs (fun t ht => by unfold Rw; omega), hC.2.2.1.gm hs (fun t ht => by unfold Rw; omega), hC.2.2.2.gm hs (fun r hr k hk => by unfold Rw; omega)⟩
      · first | exact absurd h65 (sh_8) | exact absurd (sh_8) h65
    | succ m ih =>
      intro i c1 hi hrow hs
      have hmono := tyL_mono v m (i + 1)
      rw [show i + 1 + m = 8 by omega] at hmono
      refine g_iload (pc := 63) C d_V_type_63 rfl ?_
      refine g_if_lt (pc := 65) (tgt := 97) C d_V_type_65 (by decide) (fun h65 => ?_) (fun h65 => ?_)
      · first | exact absurd h65 (sh_lt i (by omega)) | exact absurd (sh_lt i (by omega)) h65
      · skip
        refine g_lload_n (pc := 68) (i := 1) C d_V_type_68 rfl rfl ?_
        refine g_iload (pc := 69) C d_V_type_69 rfl ?_
        refine g_callS1 (pc := 71) (As := [_, _]) C my_V_byteAt ms_V_byteAt cl_V_25 d_V_type_71 (Nat.le_of_ble_eq_true rfl) rfl (Nat.le_of_ble_eq_true rfl) ⟨Nat.zero_le _, Nat.zero_le _⟩ (c_V_byteAt _ hD) ?_
        rw [(bn_v v i).1]
        refine g_istore (pc := 74) C d_V_type_74 (by decide) rfl ?_
        refine g_iload (pc := 76) C d_V_type_76 rfl ?_
        refine g_if_eq (pc := 78) (tgt := 91) C d_V_type_78 (by decide) (fun h78 => ?_) (fun h78 => ?_)
        · have hz : bn v i = 0 := (nI_eq (by have := (bn_v v i).2; omega) (by decide)).mp (h78.trans nI_0.symm)
          refine g_iinc (pc := 91) C d_V_type_91 rfl (v := shI (i + 1)) (sh_s i (by omega)) rfl ?_
          refine g_goto (pc := 94) (tgt := 63) C d_V_type_94 (by decide) ?_
          exact G.lf (ih (i + 1) c1 (by omega) (by rw [tyL_0 hz]; exact hrow) hs) (sb rfl (sb rfl (sb rfl sn)))
        · have hz : ¬ bn v i = 0 := fun e => h78 (by rw [e]; exact nI_0)
          have hl : (V.1 ++ tyL v i).length < rln 0 := by
            rw [tyL_1 hz, List.length_append] at hmono
            rw [List.length_append, r0]
            have := hx.2
            simp only [List.length_cons, List.length_nil] at hmono
            omega
          refine g_aload_n (pc := 81) (i := 0) C d_V_type_81 rfl rfl ?_
          refine gf_V_buffer (pc := 82) C fl_V_14 d_V_type_82 ?_
          refine g_iload (pc := 85) C d_V_type_85 rfl ?_
          refine g_callV1 (pc := 87) (As := [_]) C my_Row_add mv_Row_add cl_V_37 (is_Row (by omega)) d_V_type_87 (Nat.le_of_ble_eq_true rfl) rfl (Nat.le_of_ble_eq_true rfl) ⟨Nat.zero_le _, Nat.zero_le _⟩ (c_add1 _ hD (by decide) hrow hl) ?_
          refine g_pop (pc := 90) C d_V_type_90 rfl ?_
          refine g_iinc (pc := 91) C d_V_type_91 rfl (v := shI (i + 1)) (sh_s i (by omega)) rfl ?_
          refine g_goto (pc := 94) (tgt := 63) C d_V_type_94 (by decide) ?_
          exact G.lf (ih (i + 1) _ (by omega) (by rw [tyL_1 hz, ← List.append_assoc]; exact hrow.add (by decide) hl) (hs.tr sm_add)) (sb rfl (sb rfl (sb rfl sn)))
  have tail : tyOk v → G X D (Qp X D (fun a u => ∃ c2, u = ((c2, τ) : Sg) ∧ a = some (.int (b1 ((oType V v).1 = true))) ∧ CAbs c2 (oType V v).2)) (0, 0) ((c, τ) : Sg) 43 [(0, some (.ref (aVlt D))), (1, some (.long v)), (3, some (.int (nI (tyL v 8).length)))] [] := by
    intro hok
    have l8 := tyL_len v 8
    refine g_iload_n (pc := 43) (i := 3) C d_V_type_43 rfl rfl ?_
    refine g_bipush (pc := 44) C d_V_type_44 bpn_60 ?_
    refine g_aload_n (pc := 46) (i := 0) C d_V_type_46 rfl rfl ?_
    refine gf_V_buffer (pc := 47) C fl_V_14 d_V_type_47 ?_
    refine gf_Row_length (pc := 50) C (by omega) fl_V_33 d_V_type_50 ?_
    rw [hC.1.1]
    refine g_isub (pc := 53) C d_V_type_53 ?_
    rw [pk_sub lb]
    refine g_icmp_le (pc := 54) (tgt := 59) C d_V_type_54 (by decide) (fun h54 => ?_) (fun h54 => ?_)
    · have hx : tyOk v ∧ V.1.length + (tyL v 8).length ≤ 60 := ⟨hok, by have := (nI_leI (by omega) (by omega)).mp h54; omega⟩
      refine g_bipush (pc := 59) C d_V_type_59 bp_56 ?_
      refine g_istore (pc := 61) C d_V_type_61 (by decide) rfl ?_
      exact G.lf (loop2 hx 8 0 c (by omega) (by show RowIs c 0 (V.1 ++ []); rw [List.append_nil]; exact hC.1) Sm.rf) (sb rfl (sb rfl (sb (by rw [sh_0]; rfl) sn)))
    · have hx : ¬ (tyOk v ∧ V.1.length + (tyL v 8).length ≤ 60) := fun h => h54 (nI_le (by omega) (by omega))
      refine g_iconst (pc := 57) C d_V_type_57 ic_0 ?_
      refine g_zret (pc := 58) C d_V_type_58 (by first | exact Or.inl rfl | exact Or.inr rfl) ?_
      exact no hx
  have loop1 : ∀ (m i : Nat), i + m = 8 → (∀ j, j < i → bn v j = 0 ∨ chr (bn v j)) → G X D (Qp X D (fun a u => ∃ c2, u = ((c2, τ) : Sg) ∧ a = some (.int (b1 ((oType V v).1 = true))) ∧ CAbs c2 (oType V v).2)) (0, 0) ((c, τ) : Sg) 6 [(0, some (.ref (aVlt D))), (1, some (.long v)), (3, some (.int (nI (tyL v i).length))), (4, some (.int (shI i)))] [] := by
    intro m
    induction m with
    | zero =>
      intro i hi hok
      have hi8 : i = 8 := by omega
      subst hi8
      refine g_iload (pc := 6) C d_V_type_6 rfl ?_
      refine g_if_lt (pc := 8) (tgt := 43) C d_V_type_8 (by decide) (fun h8 => ?_) (fun h8 => ?_)
      · skip
        exact G.lf (tail hok) (sb rfl (sb rfl (sb rfl sn)))
      · first | exact absurd h8 (sh_8) | exact absurd (sh_8) h8
    | succ m ih =>
      intro i hi hok
      refine g_iload (pc := 6) C d_V_type_6 rfl ?_
      refine g_if_lt (pc := 8) (tgt := 43) C d_V_type_8 (by decide) (fun h8 => ?_) (fun h8 => ?_)
      · first | exact absurd h8 (sh_lt i (by omega)) | exact absurd (sh_lt i (by omega)) h8
      · skip
        refine g_lload_n (pc := 11) (i := 1) C d_V_type_11 rfl rfl ?_
        refine g_iload (pc := 12) C d_V_type_12 rfl ?_
        refine g_callS1 (pc := 14) (As := [_, _]) C my_V_byteAt ms_V_byteAt cl_V_25 d_V_type_14 (Nat.le_of_ble_eq_true rfl) rfl (Nat.le_of_ble_eq_true rfl) ⟨Nat.zero_le _, Nat.zero_le _⟩ (c_V_byteAt _ hD) ?_
        rw [(bn_v v i).1]
        refine g_istore (pc := 17) C d_V_type_17 (by decide) rfl ?_
        refine g_iload (pc := 19) C d_V_type_19 rfl ?_
        refine g_if_eq (pc := 21) (tgt := 37) C d_V_type_21 (by decide) (fun h21 => ?_) (fun h21 => ?_)
        · have hz : bn v i = 0 := (nI_eq (by have := (bn_v v i).2; omega) (by decide)).mp (h21.trans nI_0.symm)
          refine g_iinc (pc := 37) C d_V_type_37 rfl (v := shI (i + 1)) (sh_s i (by omega)) rfl ?_
          refine g_goto (pc := 40) (tgt := 6) C d_V_type_40 (by decide) ?_
          exact G.lf (ih (i + 1) (by omega) (fun j hj => (Nat.lt_or_ge j i).elim (hok j) (fun h => (show i = j by omega) ▸ Or.inl hz))) (sb rfl (sb rfl (sb (by rw [tyL_0 hz]; rfl) (sb rfl sn))))
        · have hz : ¬ bn v i = 0 := fun e => h21 (by rw [e]; exact nI_0)
          refine g_iload (pc := 24) C d_V_type_24 rfl ?_
          refine g_callS1 (pc := 26) (As := [_]) C my_V_isCharacter ms_V_isCharacter cl_V_29 d_V_type_26 (Nat.le_of_ble_eq_true rfl) rfl (Nat.le_of_ble_eq_true rfl) ⟨Nat.zero_le _, Nat.zero_le _⟩ (c_V_isCharacter _ hD (bn_v _ _).2) ?_
          refine g_if_ne (pc := 29) (tgt := 34) C d_V_type_29 (by decide) (fun h29 => ?_) (fun h29 => ?_)
          · have hg := b1_1 h29
            refine g_iinc (pc := 34) C d_V_type_34 rfl (v := nI ((tyL v i).length + 1)) (nI_inc _) rfl ?_
            refine g_iinc (pc := 37) C d_V_type_37 rfl (v := shI (i + 1)) (sh_s i (by omega)) rfl ?_
            refine g_goto (pc := 40) (tgt := 6) C d_V_type_40 (by decide) ?_
            exact G.lf (ih (i + 1) (by omega) (fun j hj => (Nat.lt_or_ge j i).elim (hok j) (fun h => (show i = j by omega) ▸ Or.inr hg))) (sb rfl (sb rfl (sb (by rw [tyL_1 hz, List.length_append]; rfl) (sb rfl sn))))
          · have hg := b1_0 h29
            refine g_iconst (pc := 32) C d_V_type_32 ic_0 ?_
            refine g_zret (pc := 33) C d_V_type_33 (by first | exact Or.inl rfl | exact Or.inr rfl) ?_
            exact no (fun h => (h.1 i (by omega)).elim hz hg)
  refine g_iconst (pc := 0) C d_V_type_0 icn_0 ?_
  refine g_istore_n (pc := 1) (i := 3) C d_V_type_1 rfl (by decide) rfl ?_
  refine g_bipush (pc := 2) C d_V_type_2 bp_56 ?_
  refine g_istore (pc := 4) C d_V_type_4 (by decide) rfl ?_
  exact G.lf (loop1 8 0 (by omega) (fun j hj => by omega)) (sb rfl (sb rfl (sb rfl (sb (by rw [sh_0]; rfl) sn))))
