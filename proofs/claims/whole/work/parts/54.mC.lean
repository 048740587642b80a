set_option maxRecDepth 100000 in
set_option maxHeartbeats 4000000 in
theorem x_M_whole (l : Launch) {D : Dt} (hD : OkD D) {c m : Cs} {ow : Nat → Int64} {q : Nat} {n : Nat} {ch : List Nat} (hq : q < 2) (hn : n < 24) (hc : MCh m q n ch) (h1 : 1 ≤ ch.length) (hb : By ch) : Cp l D y_M_whole b_M_whole 8 (some .boolean) 2 [.int (nI n), .int (nI q), .ref (aMdl D)] ((c, m, ow) : Sg) (fun a u => ∃ m2, u = ((c, m2, ow) : Sg) ∧ Mk Pw m m2 ∧ ((∃ t, snap ch = some t ∧ a = some (.int 1) ∧ Bl m2 14 2 t) ∨ (snap ch = none ∧ a = some (.int 0)))) := by
  obtain ⟨k0, r, rfl⟩ : ∃ k0 r, ch = k0 :: r := by
    cases ch with
    | nil => simp at h1
    | cons k0 r => exact ⟨k0, r, rfl⟩
  obtain ⟨o, ho, hs, hl, -⟩ := id hc
  have hlc : (k0 :: r).length = r.length + 1 := rfl
  have hk0 : k0 < 256 := hb k0 (List.mem_cons_self ..)
  have hb2 : By r := fun x hx => hb x (List.mem_cons_of_mem _ hx)
  refine Cp.of hD (by decide) (Nat.le_of_ble_eq_true rfl) [(0, some (.ref (aMdl D))), (1, some (.int (nI q))), (2, some (.int (nI n)))] rfl (fun X hX C => ?_)
  subst hX
  have loop1 : r.length ≤ 60 → snap (k0 :: r) = some r → ∀ (j k : Nat) (m1 : Cs), k + j = r.length → Mk Pw m m1 → (∀ i, i < k → m1.1 14 i = (fun i => nI (r.getD i 0)) i) → G X D (Qp X D (fun a u => ∃ m2, u = ((c, m2, ow) : Sg) ∧ Mk Pw m m2 ∧ ((∃ t, snap (k0 :: r) = some t ∧ a = some (.int 1) ∧ Bl m2 14 2 t) ∨ (snap (k0 :: r) = none ∧ a = some (.int 0))))) (0, 0) ((c, m1, ow) : Sg) 42 [(0, some (.ref (aMdl D))), (1, some (.int (nI q))), (2, some (.int (nI n))), (3, some (.int (nI (k0 :: r).length))), (5, some (.int (nI (k + 1))))] [] := by
    intro h60 hsn j
    induction j with
    | zero =>
      intro k m1 hk s g
      refine g_iload (pc := 42) C d_M_whole_42 rfl ?_
      refine g_iload_n (pc := 44) (i := 3) C d_M_whole_44 rfl rfl ?_
      refine g_icmp_ge (pc := 45) (tgt := 71) C d_M_whole_45 (by decide) (fun h45 => ?_) (fun h45 => ?_)
      · skip
        refine g_aload_n (pc := 71) (i := 0) C d_M_whole_71 rfl rfl ?_
        refine g_iload_n (pc := 72) (i := 3) C d_M_whole_72 rfl rfl ?_
        refine g_iconst (pc := 73) C d_M_whole_73 icn_1 ?_
        refine g_isub (pc := 74) C d_M_whole_74 ?_
        rw [pk_sub (by omega)]
        refine gp_M_builtLen (pc := 75) C fl_M_92 d_M_whole_75 ?_
        refine g_iconst (pc := 78) C d_M_whole_78 ic_1 ?_
        refine g_zret (pc := 79) C d_M_whole_79 (by first | exact Or.inl rfl | exact Or.inr rfl) ?_
        refine ⟨_, rfl, s.tr (Mk.wI (Or.inl ⟨rfl, rfl⟩)), Or.inl ⟨r, hsn, rfl, ?_, fun i hi => ?_⟩⟩
        · rw [rI_s]
          rfl
        · rw [rI_n (Or.inl (by decide))]
          exact g i (by omega)
      · first | exact absurd h45 (nI_le (by omega) (by omega)) | exact absurd (nI_le (by omega) (by omega)) h45
    | succ j ih =>
      intro k m1 hk s g
      refine g_iload (pc := 42) C d_M_whole_42 rfl ?_
      refine g_iload_n (pc := 44) (i := 3) C d_M_whole_44 rfl rfl ?_
      refine g_icmp_ge (pc := 45) (tgt := 71) C d_M_whole_45 (by decide) (fun h45 => ?_) (fun h45 => ?_)
      · first | exact absurd h45 (nI_ge (show k + 1 < (k0 :: r).length by omega) (by omega)) | exact absurd (nI_ge (show k + 1 < (k0 :: r).length by omega) (by omega)) h45
      · skip
        refine g_aload_n (pc := 48) (i := 0) C d_M_whole_48 rfl rfl ?_
        refine gf_M_built (pc := 49) C fl_M_57 d_M_whole_49 ?_
        refine g_iload (pc := 52) C d_M_whole_52 rfl ?_
        refine g_iconst (pc := 54) C d_M_whole_54 icn_1 ?_
        refine g_isub (pc := 55) C d_M_whole_55 ?_
        rw [pk_sub (by omega), Nat.add_sub_cancel]
        refine g_aload_n (pc := 56) (i := 0) C d_M_whole_56 rfl rfl ?_
        refine g_iload_n (pc := 57) (i := 1) C d_M_whole_57 rfl rfl ?_
        refine g_iload_n (pc := 58) (i := 2) C d_M_whole_58 rfl rfl ?_
        refine g_iload (pc := 59) C d_M_whole_59 rfl ?_
        refine g_callV1 (pc := 61) (As := [_, _, _]) C my_M_byteAt mv_M_byteAt cl_M_88 is_M d_M_whole_61 (Nat.le_of_ble_eq_true rfl) rfl (Nat.le_of_ble_eq_true rfl) ⟨Nat.zero_le _, Nat.zero_le _⟩ (c_M_byteAt _ hD hq hn (hc.pw s) (show k + 1 < (k0 :: r).length by omega)) ?_
        rw [List.getD_cons_succ]
        refine gs_mar (pc := 64) C (by decide) (by decide) (vp_in_nI (show k < 60 by omega) (by decide)) d_M_whole_64 ?_
        rw [nI_clamp (show k < 2 ^ 31 by omega)]
        refine g_iinc (pc := 65) C d_M_whole_65 rfl (v := nI (k + 1 + 1)) (nI_inc (k + 1)) rfl ?_
        refine g_goto (pc := 68) (tgt := 42) C d_M_whole_68 (by decide) ?_
        exact G.lf (ih (k + 1) _ (by omega) (s.tr (Mk.wI (by unfold Pw; omega))) (st_step g)) (sb rfl (sb rfl (sb rfl (sb rfl (sb rfl sn)))))
  have loop2 : ∀ (j k : Nat) (m1 : Cs) (b : List Nat), k + 2 * j = r.length → Mk Pw m m1 → Bl m1 14 2 b → b.length ≤ 60 → snap (k0 :: r) = unR b (unp (r.drop k)) → G X D (Qp X D (fun a u => ∃ m2, u = ((c, m2, ow) : Sg) ∧ Mk Pw m m2 ∧ ((∃ t, snap (k0 :: r) = some t ∧ a = some (.int 1) ∧ Bl m2 14 2 t) ∨ (snap (k0 :: r) = none ∧ a = some (.int 0))))) (0, 0) ((c, m1, ow) : Sg) 98 [(0, some (.ref (aMdl D))), (1, some (.int (nI q))), (2, some (.int (nI n))), (3, some (.int (nI (k0 :: r).length))), (5, some (.int (nI (k + 1))))] [] := by
    intro j
    induction j with
    | zero =>
      intro k m1 b hk s hB h60 he
      rw [List.drop_eq_nil_of_le (by omega)] at he
      have he : snap (k0 :: r) = if (b ++ []).length ≤ 60 then some (b ++ []) else none := he
      rw [List.append_nil, if_pos h60] at he
      refine g_iload (pc := 98) C d_M_whole_98 rfl ?_
      refine g_iload_n (pc := 100) (i := 3) C d_M_whole_100 rfl rfl ?_
      refine g_icmp_ge (pc := 101) (tgt := 184) C d_M_whole_101 (by decide) (fun h101 => ?_) (fun h101 => ?_)
      · skip
        refine g_iconst (pc := 184) C d_M_whole_184 ic_1 ?_
        refine g_zret (pc := 185) C d_M_whole_185 (by first | exact Or.inl rfl | exact Or.inr rfl) ?_
        exact ⟨m1, rfl, s, Or.inl ⟨b, he, rfl, hB⟩⟩
      · first | exact absurd h101 (nI_le (by omega) (by omega)) | exact absurd (nI_le (by omega) (by omega)) h101
    | succ j ih =>
      intro k m1 b hk s hB h60 he
      rw [unp_2 (j := j) (by omega)] at he
      have hv1 : r.getD k 0 < 256 := hb2.get k
      have e1 : (k0 :: r).getD (k + 1) 0 = r.getD k 0 := List.getD_cons_succ ..
      have e2 : (k0 :: r).getD (k + 1 + 1) 0 = r.getD (k + 1) 0 := List.getD_cons_succ ..
      generalize r.getD k 0 = n1 at *
      generalize r.getD (k + 1) 0 = v at *
      have inner : ¬ n1 = 0 → b.length + n1 ≤ 60 → ∀ (i y : Nat) (m2 : Cs), y + i = n1 → Mk Pw m m2 → Bl m2 14 2 (b ++ List.replicate y v) → G X D (Qp X D (fun a u => ∃ m2, u = ((c, m2, ow) : Sg) ∧ Mk Pw m m2 ∧ ((∃ t, snap (k0 :: r) = some t ∧ a = some (.int 1) ∧ Bl m2 14 2 t) ∨ (snap (k0 :: r) = none ∧ a = some (.int 0))))) (0, 0) ((c, m2, ow) : Sg) 136 [(0, some (.ref (aMdl D))), (1, some (.int (nI q))), (2, some (.int (nI n))), (3, some (.int (nI (k0 :: r).length))), (5, some (.int (nI (k + 1)))), (6, some (.int (nI n1))), (7, some (.int (nI y)))] [] := by
        intro hn0 hn60 i
        induction i with
        | zero =>
          intro y m2 hy s2 hB2
          have hy : y = n1 := by omega
          subst hy
          refine g_iload (pc := 136) C d_M_whole_136 rfl ?_
          refine g_iload (pc := 138) C d_M_whole_138 rfl ?_
          refine g_icmp_ge (pc := 140) (tgt := 178) C d_M_whole_140 (by decide) (fun h140 => ?_) (fun h140 => ?_)
          · skip
            refine g_iinc (pc := 178) C d_M_whole_178 rfl (v := nI (k + 2 + 1)) (show nI (k + 1) + nI 2 = nI (k + 2 + 1) by rw [nI_add]) rfl ?_
            refine g_goto (pc := 181) (tgt := 98) C d_M_whole_181 (by decide) ?_
            exact G.lf (ih (k + 2) m2 _ (by omega) s2 hB2 (by rw [List.length_append, List.length_replicate]; omega) (by rw [he, if_neg hn0, unR_go])) (sb rfl (sb rfl (sb rfl (sb rfl (sb rfl sn)))))
          · first | exact absurd h140 (nI_le (by omega) (by omega)) | exact absurd (nI_le (by omega) (by omega)) h140
        | succ i ih2 =>
          intro y m2 hy s2 hB2
          have hlen : (b ++ List.replicate y v).length = b.length + y := by rw [List.length_append, List.length_replicate]
          refine g_iload (pc := 136) C d_M_whole_136 rfl ?_
          refine g_iload (pc := 138) C d_M_whole_138 rfl ?_
          refine g_icmp_ge (pc := 140) (tgt := 178) C d_M_whole_140 (by decide) (fun h140 => ?_) (fun h140 => ?_)
          · first | exact absurd h140 (nI_ge (show y < n1 by omega) (by omega)) | exact absurd (nI_ge (show y < n1 by omega) (by omega)) h140
          · skip
            refine g_aload_n (pc := 143) (i := 0) C d_M_whole_143 rfl rfl ?_
            refine gf_M_built (pc := 144) C fl_M_57 d_M_whole_144 ?_
            refine g_aload_n (pc := 147) (i := 0) C d_M_whole_147 rfl rfl ?_
            refine gf_M_builtLen (pc := 148) C fl_M_92 d_M_whole_148 ?_
            rw [hB2.1]
            refine g_aload_n (pc := 151) (i := 0) C d_M_whole_151 rfl rfl ?_
            refine g_iload_n (pc := 152) (i := 1) C d_M_whole_152 rfl rfl ?_
            refine g_iload_n (pc := 153) (i := 2) C d_M_whole_153 rfl rfl ?_
            refine g_iload (pc := 154) C d_M_whole_154 rfl ?_
            refine g_iconst (pc := 156) C d_M_whole_156 icn_1 ?_
            refine g_iadd (pc := 157) C d_M_whole_157 ?_
            rw [nI_add]
            refine g_callV1 (pc := 158) (As := [_, _, _]) C my_M_byteAt mv_M_byteAt cl_M_88 is_M d_M_whole_158 (Nat.le_of_ble_eq_true rfl) rfl (Nat.le_of_ble_eq_true rfl) ⟨Nat.zero_le _, Nat.zero_le _⟩ (c_M_byteAt _ hD hq hn (hc.pw s2) (show k + 1 + 1 < (k0 :: r).length by omega)) ?_
            rw [e2]
            skip
            refine gs_mar (pc := 161) C (by decide) (by decide) (vp_in_nI (show (b ++ List.replicate y v).length < 60 by omega) (by decide)) d_M_whole_161 ?_
            rw [nI_clamp (show (b ++ List.replicate y v).length < 2 ^ 31 by omega)]
            refine g_aload_n (pc := 162) (i := 0) C d_M_whole_162 rfl rfl ?_
            refine g_dup (pc := 163) C d_M_whole_163 rfl ?_
            refine gf_M_builtLen (pc := 164) C fl_M_92 d_M_whole_164 ?_
            rw [rI_n (Or.inl (by decide)), hB2.1]
            refine g_iconst (pc := 167) C d_M_whole_167 icn_1 ?_
            refine g_iadd (pc := 168) C d_M_whole_168 ?_
            rw [nI_add]
            refine gp_M_builtLen (pc := 169) C fl_M_92 d_M_whole_169 ?_
            refine g_iinc (pc := 172) C d_M_whole_172 rfl (v := nI (y + 1)) (nI_inc y) rfl ?_
            refine g_goto (pc := 175) (tgt := 136) C d_M_whole_175 (by decide) ?_
            refine G.lf (ih2 (y + 1) _ (by omega) (s2.tr ((Mk.wI (by unfold Pw; omega)).tr (Mk.wI (by unfold Pw; omega)))) ?_) (sb rfl (sb rfl (sb rfl (sb rfl (sb rfl (sb rfl (sb rfl sn)))))))
            rw [List.replicate_succ', ← List.append_assoc]
            exact hB2.push (by decide)
      refine g_iload (pc := 98) C d_M_whole_98 rfl ?_
      refine g_iload_n (pc := 100) (i := 3) C d_M_whole_100 rfl rfl ?_
      refine g_icmp_ge (pc := 101) (tgt := 184) C d_M_whole_101 (by decide) (fun h101 => ?_) (fun h101 => ?_)
      · first | exact absurd h101 (nI_ge (show k + 1 < (k0 :: r).length by omega) (by omega)) | exact absurd (nI_ge (show k + 1 < (k0 :: r).length by omega) (by omega)) h101
      · skip
        refine g_aload_n (pc := 104) (i := 0) C d_M_whole_104 rfl rfl ?_
        refine g_iload_n (pc := 105) (i := 1) C d_M_whole_105 rfl rfl ?_
        refine g_iload_n (pc := 106) (i := 2) C d_M_whole_106 rfl rfl ?_
        refine g_iload (pc := 107) C d_M_whole_107 rfl ?_
        refine g_callV1 (pc := 109) (As := [_, _, _]) C my_M_byteAt mv_M_byteAt cl_M_88 is_M d_M_whole_109 (Nat.le_of_ble_eq_true rfl) rfl (Nat.le_of_ble_eq_true rfl) ⟨Nat.zero_le _, Nat.zero_le _⟩ (c_M_byteAt _ hD hq hn (hc.pw s) (show k + 1 < (k0 :: r).length by omega)) ?_
        rw [e1]
        refine g_istore (pc := 112) C d_M_whole_112 (by decide) rfl ?_
        refine g_iload (pc := 114) C d_M_whole_114 rfl ?_
        refine g_if_eq (pc := 116) (tgt := 131) C d_M_whole_116 (by decide) (fun h116 => ?_) (fun h116 => ?_)
        · have hn0 : n1 = 0 := (nI_eq (by omega) (by decide)).mp (h116.trans nI_0.symm)
          rw [if_pos hn0] at he
          refine g_iconst (pc := 131) C d_M_whole_131 ic_0 ?_
          refine g_zret (pc := 132) C d_M_whole_132 (by first | exact Or.inl rfl | exact Or.inr rfl) ?_
          exact ⟨m1, rfl, s, Or.inr ⟨he, rfl⟩⟩
        · have hn0 : ¬ n1 = 0 := fun e => h116 (by rw [e, nI_0])
          refine g_aload_n (pc := 119) (i := 0) C d_M_whole_119 rfl rfl ?_
          refine gf_M_builtLen (pc := 120) C fl_M_92 d_M_whole_120 ?_
          rw [hB.1]
          refine g_iload (pc := 123) C d_M_whole_123 rfl ?_
          refine g_iadd (pc := 125) C d_M_whole_125 ?_
          rw [nI_add]
          refine g_bipush (pc := 126) C d_M_whole_126 bpn_60 ?_
          refine g_icmp_le (pc := 128) (tgt := 133) C d_M_whole_128 (by decide) (fun h128 => ?_) (fun h128 => ?_)
          · have hn60 : b.length + n1 ≤ 60 := (nI_leI (by omega) (by decide)).mp h128
            refine g_iconst (pc := 133) C d_M_whole_133 icn_0 ?_
            refine g_istore (pc := 134) C d_M_whole_134 (by decide) rfl ?_
            exact G.lf (inner hn0 hn60 n1 0 m1 (by omega) s (by rw [show List.replicate 0 v = [] from rfl, List.append_nil]; exact hB)) (sb rfl (sb rfl (sb rfl (sb rfl (sb rfl (sb rfl (sb rfl sn)))))))
          · have hn60 : 60 < b.length + n1 := Nat.not_le.mp fun e => h128 (nI_le e (by decide))
            rw [if_neg hn0, unR_big (by rw [List.length_replicate]; exact hn60)] at he
            refine g_iconst (pc := 131) C d_M_whole_131 ic_0 ?_
            refine g_zret (pc := 132) C d_M_whole_132 (by first | exact Or.inl rfl | exact Or.inr rfl) ?_
            exact ⟨m1, rfl, s, Or.inr ⟨he, rfl⟩⟩
  refine g_aload_n (pc := 0) (i := 0) C d_M_whole_0 rfl rfl ?_
  refine gf_M_chunk (pc := 1) C fl_M_25 d_M_whole_1 ?_
  refine g_bipush (pc := 4) C d_M_whole_4 bpn_24 ?_
  refine g_iload_n (pc := 6) (i := 1) C d_M_whole_6 rfl rfl ?_
  refine g_imul (pc := 7) C d_M_whole_7 ?_
  refine g_iload_n (pc := 8) (i := 2) C d_M_whole_8 rfl rfl ?_
  refine g_iadd (pc := 9) C d_M_whole_9 ?_
  simp only [nI_mul, nI_add]
  refine ga_mar (pc := 10) C (by decide) (by decide) (vp_in_nI (show 24 * q + n < 48 by omega) (by decide)) d_M_whole_10 ?_
  rw [nI_clamp (show 24 * q + n < 2 ^ 31 by omega), hs]
  refine g_istore_n (pc := 11) (i := 3) C d_M_whole_11 rfl (by decide) rfl ?_
  refine g_aload_n (pc := 12) (i := 0) C d_M_whole_12 rfl rfl ?_
  refine g_iload_n (pc := 13) (i := 1) C d_M_whole_13 rfl rfl ?_
  refine g_iload_n (pc := 14) (i := 2) C d_M_whole_14 rfl rfl ?_
  refine g_iconst (pc := 15) C d_M_whole_15 icn_0 ?_
  refine g_callV1 (pc := 16) (As := [_, _, _]) C my_M_byteAt mv_M_byteAt cl_M_88 is_M d_M_whole_16 (Nat.le_of_ble_eq_true rfl) rfl (Nat.le_of_ble_eq_true rfl) ⟨Nat.zero_le _, Nat.zero_le _⟩ (c_M_byteAt _ hD hq hn hc (show 0 < (k0 :: r).length by omega)) ?_
  rw [List.getD_cons_zero]
  refine g_istore (pc := 19) C d_M_whole_19 (by decide) rfl ?_
  refine g_aload_n (pc := 21) (i := 0) C d_M_whole_21 rfl rfl ?_
  refine g_iconst (pc := 22) C d_M_whole_22 icn_0 ?_
  refine gp_M_builtLen (pc := 23) C fl_M_92 d_M_whole_23 ?_
  refine g_iload (pc := 26) C d_M_whole_26 rfl ?_
  refine g_bipush (pc := 28) C d_M_whole_28 bpn_117 ?_
  refine g_icmp_ne (pc := 30) (tgt := 80) C d_M_whole_30 (by decide) (fun h30 => ?_) (fun h30 => ?_)
  · have hk : ¬ k0 = 117 := fun e => h30 (by rw [e])
    refine g_iload (pc := 80) C d_M_whole_80 rfl ?_
    refine g_bipush (pc := 82) C d_M_whole_82 bpn_120 ?_
    refine g_icmp_ne (pc := 84) (tgt := 93) C d_M_whole_84 (by decide) (fun h84 => ?_) (fun h84 => ?_)
    · have hno : snap (k0 :: r) = none := snap_n r hk (fun e => h84 (by rw [e]))
      refine g_iconst (pc := 93) C d_M_whole_93 ic_0 ?_
      refine g_zret (pc := 94) C d_M_whole_94 (by first | exact Or.inl rfl | exact Or.inr rfl) ?_
      exact ⟨_, rfl, Mk.wI (Or.inl ⟨rfl, rfl⟩), Or.inr ⟨hno, rfl⟩⟩
    · have hx : k0 = 120 := (nI_eq (by omega) (by decide)).mp h84
      refine g_iload_n (pc := 87) (i := 3) C d_M_whole_87 rfl rfl ?_
      refine g_iconst (pc := 88) C d_M_whole_88 icn_2 ?_
      refine g_irem (pc := 89) C d_M_whole_89 (by decide) ?_
      rw [pk_rem (by omega) (by decide) (by decide)]
      refine g_if_ne (pc := 90) (tgt := 95) C d_M_whole_90 (by decide) (fun h90 => ?_) (fun h90 => ?_)
      · have ho2 : ¬ (k0 :: r).length % 2 = 0 := fun e => h90 (by rw [e, nI_0])
        refine g_iconst (pc := 95) C d_M_whole_95 icn_1 ?_
        refine g_istore (pc := 96) C d_M_whole_96 (by decide) rfl ?_
        exact G.lf (loop2 (r.length / 2) 0 _ [] (by omega) (Mk.wI (Or.inl ⟨rfl, rfl⟩)) ⟨by rw [rI_s]; rfl, fun i hi => by cases hi⟩ (by decide) (by rw [hx]; exact unR_x)) (sb rfl (sb rfl (sb rfl (sb rfl (sb rfl sn)))))
      · have ho2 : (k0 :: r).length % 2 = 0 := (nI_eq (by omega) (by decide)).mp (h90.trans nI_0.symm)
        have hno : snap (k0 :: r) = none := by rw [hx, snap_x, unp_odd (r.length / 2) r (by omega)]
        refine g_iconst (pc := 93) C d_M_whole_93 ic_0 ?_
        refine g_zret (pc := 94) C d_M_whole_94 (by first | exact Or.inl rfl | exact Or.inr rfl) ?_
        exact ⟨_, rfl, Mk.wI (Or.inl ⟨rfl, rfl⟩), Or.inr ⟨hno, rfl⟩⟩
  · have hk : k0 = 117 := (nI_eq (by omega) (by decide)).mp h30
    refine g_iload_n (pc := 33) (i := 3) C d_M_whole_33 rfl rfl ?_
    refine g_bipush (pc := 34) C d_M_whole_34 bpn_61 ?_
    refine g_icmp_gt (pc := 36) (tgt := 80) C d_M_whole_36 (by decide) (fun h36 => ?_) (fun h36 => ?_)
    · have h61 : 61 < (k0 :: r).length := (nI_ltI (by decide) (by omega)).mp h36
      have hno : snap (k0 :: r) = none := by rw [hk, snap_u, if_neg (by omega)]
      refine g_iload (pc := 80) C d_M_whole_80 rfl ?_
      refine g_bipush (pc := 82) C d_M_whole_82 bpn_120 ?_
      refine g_icmp_ne (pc := 84) (tgt := 93) C d_M_whole_84 (by decide) (fun h84 => ?_) (fun h84 => ?_)
      · skip
        refine g_iconst (pc := 93) C d_M_whole_93 ic_0 ?_
        refine g_zret (pc := 94) C d_M_whole_94 (by first | exact Or.inl rfl | exact Or.inr rfl) ?_
        exact ⟨_, rfl, Mk.wI (Or.inl ⟨rfl, rfl⟩), Or.inr ⟨hno, rfl⟩⟩
      · first | exact absurd h84 (fun e => absurd ((nI_eq (by omega) (by decide)).mp e) (by omega)) | exact absurd (fun e => absurd ((nI_eq (by omega) (by decide)).mp e) (by omega)) h84
    · have h61 : (k0 :: r).length ≤ 61 := Nat.not_lt.mp fun e => h36 (nI_lt e (by omega))
      have hsn : snap (k0 :: r) = some r := by rw [hk, snap_u, if_pos (by omega)]
      refine g_iconst (pc := 39) C d_M_whole_39 icn_1 ?_
      refine g_istore (pc := 40) C d_M_whole_40 (by decide) rfl ?_
      exact G.lf (loop1 (by omega) hsn r.length 0 _ (by omega) (Mk.wI (Or.inl ⟨rfl, rfl⟩)) (fun i hi => by omega)) (sb rfl (sb rfl (sb rfl (sb rfl (sb rfl sn)))))
set_option maxRecDepth 100000 in
set_option maxHeartbeats 4000000 in
theorem x_M_apply (l : Launch) {D : Dt} (hD : OkD D) {c m : Cs} {ow : Nat → Int64} {q : Nat} {n : Nat} {ch b : List Nat} (hq : q < 2) (hn : n < 24) (hc : MCh m q n ch) (h1 : 1 ≤ ch.length) (hb : By ch) (hB : Bl m 14 2 b) (h60 : b.length ≤ 60) : Cp l D y_M_apply b_M_apply 9 (some .boolean) 2 [.int (nI n), .int (nI q), .ref (aMdl D)] ((c, m, ow) : Sg) (fun a u => ∃ m2, u = ((c, m2, ow) : Sg) ∧ Mk (fun a k => (a = 0 ∧ k = 2) ∨ a = 14 ∨ a = 15) m m2 ∧ ((∃ t, dif ch b = some t ∧ a = some (.int 1) ∧ Bl m2 14 2 t) ∨ (dif ch b = none ∧ a = some (.int 0)))) := by
  obtain ⟨o, ho, hs, hl, -⟩ := id hc
  have hg0 := hb.get 0
  refine Cp.of hD (by decide) (Nat.le_of_ble_eq_true rfl) [(0, some (.ref (aMdl D))), (1, some (.int (nI q))), (2, some (.int (nI n)))] rfl (fun X hX C => ?_)
  subst hX
  by_cases h4 : 4 ≤ ch.length
  rotate_left
  · have hno : dif ch b = none := dif_short (by omega)
    refine g_aload_n (pc := 0) (i := 0) C d_M_apply_0 rfl rfl ?_
    refine gf_M_chunk (pc := 1) C fl_M_25 d_M_apply_1 ?_
    refine g_bipush (pc := 4) C d_M_apply_4 bpn_24 ?_
    refine g_iload_n (pc := 6) (i := 1) C d_M_apply_6 rfl rfl ?_
    refine g_imul (pc := 7) C d_M_apply_7 ?_
    refine g_iload_n (pc := 8) (i := 2) C d_M_apply_8 rfl rfl ?_
    refine g_iadd (pc := 9) C d_M_apply_9 ?_
    simp only [nI_mul, nI_add]
    refine ga_mar (pc := 10) C (by decide) (by decide) (vp_in_nI (show 24 * q + n < 48 by omega) (by decide)) d_M_apply_10 ?_
    rw [nI_clamp (show 24 * q + n < 2 ^ 31 by omega), hs]
    refine g_istore_n (pc := 11) (i := 3) C d_M_apply_11 rfl (by decide) rfl ?_
    refine g_aload_n (pc := 12) (i := 0) C d_M_apply_12 rfl rfl ?_
    refine g_iload_n (pc := 13) (i := 1) C d_M_apply_13 rfl rfl ?_
    refine g_iload_n (pc := 14) (i := 2) C d_M_apply_14 rfl rfl ?_
    refine g_iconst (pc := 15) C d_M_apply_15 icn_0 ?_
    refine g_callV1 (pc := 16) (As := [_, _, _]) C my_M_byteAt mv_M_byteAt cl_M_88 is_M d_M_apply_16 (Nat.le_of_ble_eq_true rfl) rfl (Nat.le_of_ble_eq_true rfl) ⟨Nat.zero_le _, Nat.zero_le _⟩ (c_M_byteAt _ hD hq hn hc (by omega)) ?_
    refine g_bipush (pc := 19) C d_M_apply_19 bpn_100 ?_
    refine g_icmp_ne (pc := 21) (tgt := 29) C d_M_apply_21 (by decide) (fun h21 => ?_) (fun h21 => ?_)
    · skip
      refine g_iconst (pc := 29) C d_M_apply_29 ic_0 ?_
      refine g_zret (pc := 30) C d_M_apply_30 (by first | exact Or.inl rfl | exact Or.inr rfl) ?_
      exact ⟨m, rfl, Mk.rf, Or.inr ⟨hno, rfl⟩⟩
    · skip
      refine g_iload_n (pc := 24) (i := 3) C d_M_apply_24 rfl rfl ?_
      refine g_iconst (pc := 25) C d_M_apply_25 icn_4 ?_
      refine g_icmp_ge (pc := 26) (tgt := 31) C d_M_apply_26 (by decide) (fun h26 => ?_) (fun h26 => ?_)
      · first | exact absurd h26 (nI_ge (by omega) (by omega)) | exact absurd (nI_ge (by omega) (by omega)) h26
      · skip
        refine g_iconst (pc := 29) C d_M_apply_29 ic_0 ?_
        refine g_zret (pc := 30) C d_M_apply_30 (by first | exact Or.inl rfl | exact Or.inr rfl) ?_
        exact ⟨m, rfl, Mk.rf, Or.inr ⟨hno, rfl⟩⟩
  obtain ⟨k0, a, e, mm, r, rfl⟩ := ls4 h4
  have hl4 : (k0 :: a :: e :: mm :: r).length - 4 = r.length := by simp
  have ba : a < 256 := hb a (by simp)
  have be : e < 256 := hb e (by simp)
  have bm : mm < 256 := hb mm (by simp)
  have mkP : ∀ {m1 m2 : Cs}, Mk (fun a _ => a = 15) m1 m2 → Mk (fun a k => (a = 0 ∧ k = 2) ∨ a = 14 ∨ a = 15) m1 m2 := fun h => h.up (fun a k e => Or.inr (Or.inr e))
  have mkC : ∀ {m2 : Cs}, Mk (fun a k => (a = 0 ∧ k = 2) ∨ a = 14 ∨ a = 15) m m2 → MCh m2 q n (k0 :: a :: e :: mm :: r) := fun h => hc.mk h (fun a k ha => by omega)
  have loops : a ≤ e → e ≤ b.length → mm = r.length → a + mm + b.length - e ≤ 60 → k0 = 100 → (∀ (j k : Nat) (m1 : Cs), k + j = a + mm + b.length - e → Mk (fun a _ => a = 15) m m1 → (∀ i, i < k → m1.1 15 i = (fun i => nI ((b.take a ++ r ++ b.drop e).getD i 0)) i) → G X D (Qp X D (fun z u => ∃ m2, u = ((c, m2, ow) : Sg) ∧ Mk (fun a k => (a = 0 ∧ k = 2) ∨ a = 14 ∨ a = 15) m m2 ∧ ((∃ t, dif (k0 :: a :: e :: mm :: r) b = some t ∧ z = some (.int 1) ∧ Bl m2 14 2 t) ∨ (dif (k0 :: a :: e :: mm :: r) b = none ∧ z = some (.int 0))))) (0, 0) ((c, m1, ow) : Sg) 109 [(0, some (.ref (aMdl D))), (1, some (.int (nI q))), (2, some (.int (nI n))), (4, some (.int (nI a))), (5, some (.int (nI e))), (6, some (.int (nI mm))), (7, some (.int (nI (a + mm + b.length - e)))), (8, some (.int (nI k)))] []) := by
    intro ha he hm h6 hk
    have hdf : dif (k0 :: a :: e :: mm :: r) b = some (b.take a ++ r ++ b.drop e) := by rw [dif_cons, if_pos ⟨hk, hm, ha, he, by omega⟩]
    have htl : (b.take a ++ r ++ b.drop e).length = a + mm + b.length - e := by
      rw [List.length_append, List.length_append, List.length_take, List.length_drop]
      omega
    have htk : ∀ k, (b.take a ++ r ++ b.drop e).getD k 0 = if k < a then b.getD k 0 else if k < a + r.length then r.getD (k - a) 0 else b.getD (e + k - a - r.length) 0 := fun k => tk3 ha he
    generalize (b.take a ++ r ++ b.drop e) = t at *
    have loopB : ∀ (j k : Nat) (m1 : Cs), k + j = a + mm + b.length - e → Mk (fun a k => (a = 0 ∧ k = 2) ∨ a = 14 ∨ a = 15) m m1 → (∀ i, i < t.length → m1.1 15 i = nI (t.getD i 0)) → (∀ i, i < k → m1.1 14 i = (fun i => nI (t.getD i 0)) i) → G X D (Qp X D (fun z u => ∃ m2, u = ((c, m2, ow) : Sg) ∧ Mk (fun a k => (a = 0 ∧ k = 2) ∨ a = 14 ∨ a = 15) m m2 ∧ ((∃ t, dif (k0 :: a :: e :: mm :: r) b = some t ∧ z = some (.int 1) ∧ Bl m2 14 2 t) ∨ (dif (k0 :: a :: e :: mm :: r) b = none ∧ z = some (.int 0))))) (0, 0) ((c, m1, ow) : Sg) 191 [(0, some (.ref (aMdl D))), (1, some (.int (nI q))), (2, some (.int (nI n))), (4, some (.int (nI a))), (5, some (.int (nI e))), (6, some (.int (nI mm))), (7, some (.int (nI (a + mm + b.length - e)))), (8, some (.int (nI k)))] [] := by
      intro j
      induction j with
      | zero =>
        intro k m1 hk s g1 g2
        refine g_iload (pc := 191) C d_M_apply_191 rfl ?_
        refine g_iload (pc := 193) C d_M_apply_193 rfl ?_
        refine g_icmp_ge (pc := 195) (tgt := 218) C d_M_apply_195 (by decide) (fun h195 => ?_) (fun h195 => ?_)
        · skip
          refine g_aload_n (pc := 218) (i := 0) C d_M_apply_218 rfl rfl ?_
          refine g_iload (pc := 219) C d_M_apply_219 rfl ?_
          refine gp_M_builtLen (pc := 221) C fl_M_92 d_M_apply_221 ?_
          refine g_iconst (pc := 224) C d_M_apply_224 ic_1 ?_
          refine g_zret (pc := 225) C d_M_apply_225 (by first | exact Or.inl rfl | exact Or.inr rfl) ?_
          refine ⟨_, rfl, s.tr (Mk.wI (Or.inl ⟨rfl, rfl⟩)), Or.inl ⟨t, hdf, rfl, ?_, fun i hi => ?_⟩⟩
          · rw [rI_s, htl]
          · rw [rI_n (Or.inl (by decide))]
            exact g2 i (by omega)
        · first | exact absurd h195 (nI_le (by omega) (by omega)) | exact absurd (nI_le (by omega) (by omega)) h195
      | succ j ih =>
        intro k m1 hk s g1 g2
        refine g_iload (pc := 191) C d_M_apply_191 rfl ?_
        refine g_iload (pc := 193) C d_M_apply_193 rfl ?_
        refine g_icmp_ge (pc := 195) (tgt := 218) C d_M_apply_195 (by decide) (fun h195 => ?_) (fun h195 => ?_)
        · first | exact absurd h195 (nI_ge (show k < a + mm + b.length - e by omega) (by omega)) | exact absurd (nI_ge (show k < a + mm + b.length - e by omega) (by omega)) h195
        · skip
          refine g_aload_n (pc := 198) (i := 0) C d_M_apply_198 rfl rfl ?_
          refine gf_M_built (pc := 199) C fl_M_57 d_M_apply_199 ?_
          refine g_iload (pc := 202) C d_M_apply_202 rfl ?_
          refine g_aload_n (pc := 204) (i := 0) C d_M_apply_204 rfl rfl ?_
          refine gf_M_next (pc := 205) C fl_M_60 d_M_apply_205 ?_
          refine g_iload (pc := 208) C d_M_apply_208 rfl ?_
          refine ga_mar (pc := 210) C (by decide) (by decide) (vp_in_nI (show k < 60 by omega) (by decide)) d_M_apply_210 ?_
          rw [nI_clamp (show k < 2 ^ 31 by omega), g1 k (by omega)]
          refine gs_mar (pc := 211) C (by decide) (by decide) (vp_in_nI (show k < 60 by omega) (by decide)) d_M_apply_211 ?_
          rw [nI_clamp (show k < 2 ^ 31 by omega)]
          refine g_iinc (pc := 212) C d_M_apply_212 rfl (v := nI (k + 1)) (nI_inc k) rfl ?_
          refine g_goto (pc := 215) (tgt := 191) C d_M_apply_215 (by decide) ?_
          exact G.lf (ih (k + 1) _ (by omega) (s.tr (Mk.wI (Or.inr (Or.inl rfl)))) (fun i hi => by rw [rI_n (Or.inl (by decide))]; exact g1 i hi) (st_step g2)) (sb rfl (sb rfl (sb rfl (sb rfl (sb rfl (sb rfl (sb rfl (sb rfl sn))))))))
    intro j
    induction j with
    | zero =>
      intro k m1 hk s g
      refine g_iload (pc := 109) C d_M_apply_109 rfl ?_
      refine g_iload (pc := 111) C d_M_apply_111 rfl ?_
      refine g_icmp_ge (pc := 113) (tgt := 188) C d_M_apply_113 (by decide) (fun h113 => ?_) (fun h113 => ?_)
      · skip
        refine g_iconst (pc := 188) C d_M_apply_188 icn_0 ?_
        refine g_istore (pc := 189) C d_M_apply_189 (by decide) rfl ?_
        exact G.lf (loopB (a + mm + b.length - e) 0 m1 (by omega) (mkP s) (fun i hi => g i (by omega)) (fun i hi => by omega)) (sb rfl (sb rfl (sb rfl (sb rfl (sb rfl (sb rfl (sb rfl (sb rfl sn))))))))
      · first | exact absurd h113 (nI_le (by omega) (by omega)) | exact absurd (nI_le (by omega) (by omega)) h113
    | succ j ih =>
      intro k m1 hk s g
      have hB1 : Bl m1 14 2 b := hB.mk s (by omega) (fun i => by omega)
      have hkt := htk k
      refine g_iload (pc := 109) C d_M_apply_109 rfl ?_
      refine g_iload (pc := 111) C d_M_apply_111 rfl ?_
      refine g_icmp_ge (pc := 113) (tgt := 188) C d_M_apply_113 (by decide) (fun h113 => ?_) (fun h113 => ?_)
      · first | exact absurd h113 (nI_ge (show k < a + mm + b.length - e by omega) (by omega)) | exact absurd (nI_ge (show k < a + mm + b.length - e by omega) (by omega)) h113
      · skip
        refine g_aload_n (pc := 116) (i := 0) C d_M_apply_116 rfl rfl ?_
        refine gf_M_next (pc := 117) C fl_M_60 d_M_apply_117 ?_
        refine g_iload (pc := 120) C d_M_apply_120 rfl ?_
        refine g_iload (pc := 122) C d_M_apply_122 rfl ?_
        refine g_iload (pc := 124) C d_M_apply_124 rfl ?_
        refine g_icmp_ge (pc := 126) (tgt := 139) C d_M_apply_126 (by decide) (fun h126 => ?_) (fun h126 => ?_)
        · have hka : a ≤ k := (nI_leI (by omega) (by omega)).mp h126
          rw [if_neg (by omega)] at hkt
          refine g_iload (pc := 139) C d_M_apply_139 rfl ?_
          refine g_iload (pc := 141) C d_M_apply_141 rfl ?_
          refine g_iload (pc := 143) C d_M_apply_143 rfl ?_
          refine g_iadd (pc := 145) C d_M_apply_145 ?_
          rw [nI_add]
          refine g_icmp_ge (pc := 146) (tgt := 165) C d_M_apply_146 (by decide) (fun h146 => ?_) (fun h146 => ?_)
          · have hkm : a + mm ≤ k := (nI_leI (by omega) (by omega)).mp h146
            rw [if_neg (by omega)] at hkt
            refine g_aload_n (pc := 165) (i := 0) C d_M_apply_165 rfl rfl ?_
            refine gf_M_built (pc := 166) C fl_M_57 d_M_apply_166 ?_
            refine g_iload (pc := 169) C d_M_apply_169 rfl ?_
            refine g_iload (pc := 171) C d_M_apply_171 rfl ?_
            refine g_iadd (pc := 173) C d_M_apply_173 ?_
            refine g_iload (pc := 174) C d_M_apply_174 rfl ?_
            refine g_isub (pc := 176) C d_M_apply_176 ?_
            refine g_iload (pc := 177) C d_M_apply_177 rfl ?_
            refine g_isub (pc := 179) C d_M_apply_179 ?_
            rw [nI_add, pk_sub (by omega), pk_sub (by omega)]
            skip
            refine ga_mar (pc := 180) C (by decide) (by decide) (vp_in_nI (show e + k - a - mm < 60 by omega) (by decide)) d_M_apply_180 ?_
            rw [nI_clamp (show e + k - a - mm < 2 ^ 31 by omega), hB1.2 _ (by omega), show b.getD (e + k - a - mm) 0 = t.getD k 0 from by rw [hkt, hm]]
            refine gs_mar (pc := 181) C (by decide) (by decide) (vp_in_nI (show k < 60 by omega) (by decide)) d_M_apply_181 ?_
            rw [nI_clamp (show k < 2 ^ 31 by omega)]
            refine g_iinc (pc := 182) C d_M_apply_182 rfl (v := nI (k + 1)) (nI_inc k) rfl ?_
            refine g_goto (pc := 185) (tgt := 109) C d_M_apply_185 (by decide) ?_
            exact G.lf (ih (k + 1) _ (by omega) (s.tr (Mk.wI rfl)) (st_step g)) (sb rfl (sb rfl (sb rfl (sb rfl (sb rfl (sb rfl (sb rfl (sb rfl sn))))))))
          · have hkm : k < a + mm := Nat.not_le.mp fun e => h146 (nI_le e (by omega))
            rw [if_pos (by omega)] at hkt
            refine g_aload_n (pc := 149) (i := 0) C d_M_apply_149 rfl rfl ?_
            refine g_iload_n (pc := 150) (i := 1) C d_M_apply_150 rfl rfl ?_
            refine g_iload_n (pc := 151) (i := 2) C d_M_apply_151 rfl rfl ?_
            refine g_iconst (pc := 152) C d_M_apply_152 icn_4 ?_
            refine g_iload (pc := 153) C d_M_apply_153 rfl ?_
            refine g_iadd (pc := 155) C d_M_apply_155 ?_
            refine g_iload (pc := 156) C d_M_apply_156 rfl ?_
            refine g_isub (pc := 158) C d_M_apply_158 ?_
            rw [nI_add, pk_sub (by omega)]
            refine g_callV1 (pc := 159) (As := [_, _, _]) C my_M_byteAt mv_M_byteAt cl_M_88 is_M d_M_apply_159 (Nat.le_of_ble_eq_true rfl) rfl (Nat.le_of_ble_eq_true rfl) ⟨Nat.zero_le _, Nat.zero_le _⟩ (c_M_byteAt _ hD hq hn (mkC (mkP s)) (show 4 + k - a < (k0 :: a :: e :: mm :: r).length by simp only [List.length_cons]; omega)) ?_
            rw [show 4 + k - a = (k - a) + 1 + 1 + 1 + 1 by omega, List.getD_cons_succ, List.getD_cons_succ, List.getD_cons_succ, List.getD_cons_succ, ← hkt]
            refine g_goto (pc := 162) (tgt := 181) C d_M_apply_162 (by decide) ?_
            refine gs_mar (pc := 181) C (by decide) (by decide) (vp_in_nI (show k < 60 by omega) (by decide)) d_M_apply_181 ?_
            rw [nI_clamp (show k < 2 ^ 31 by omega)]
            refine g_iinc (pc := 182) C d_M_apply_182 rfl (v := nI (k + 1)) (nI_inc k) rfl ?_
            refine g_goto (pc := 185) (tgt := 109) C d_M_apply_185 (by decide) ?_
            exact G.lf (ih (k + 1) _ (by omega) (s.tr (Mk.wI rfl)) (st_step g)) (sb rfl (sb rfl (sb rfl (sb rfl (sb rfl (sb rfl (sb rfl (sb rfl sn))))))))
        · have hka : k < a := Nat.not_le.mp fun e => h126 (nI_le e (by omega))
          rw [if_pos hka] at hkt
          refine g_aload_n (pc := 129) (i := 0) C d_M_apply_129 rfl rfl ?_
          refine gf_M_built (pc := 130) C fl_M_57 d_M_apply_130 ?_
          refine g_iload (pc := 133) C d_M_apply_133 rfl ?_
          refine ga_mar (pc := 135) C (by decide) (by decide) (vp_in_nI (show k < 60 by omega) (by decide)) d_M_apply_135 ?_
          rw [nI_clamp (show k < 2 ^ 31 by omega), hB1.2 k (by omega), ← hkt]
          refine g_goto (pc := 136) (tgt := 181) C d_M_apply_136 (by decide) ?_
          refine gs_mar (pc := 181) C (by decide) (by decide) (vp_in_nI (show k < 60 by omega) (by decide)) d_M_apply_181 ?_
          rw [nI_clamp (show k < 2 ^ 31 by omega)]
          refine g_iinc (pc := 182) C d_M_apply_182 rfl (v := nI (k + 1)) (nI_inc k) rfl ?_
          refine g_goto (pc := 185) (tgt := 109) C d_M_apply_185 (by decide) ?_
          exact G.lf (ih (k + 1) _ (by omega) (s.tr (Mk.wI rfl)) (st_step g)) (sb rfl (sb rfl (sb rfl (sb rfl (sb rfl (sb rfl (sb rfl (sb rfl sn))))))))
  refine g_aload_n (pc := 0) (i := 0) C d_M_apply_0 rfl rfl ?_
  refine gf_M_chunk (pc := 1) C fl_M_25 d_M_apply_1 ?_
  refine g_bipush (pc := 4) C d_M_apply_4 bpn_24 ?_
  refine g_iload_n (pc := 6) (i := 1) C d_M_apply_6 rfl rfl ?_
  refine g_imul (pc := 7) C d_M_apply_7 ?_
  refine g_iload_n (pc := 8) (i := 2) C d_M_apply_8 rfl rfl ?_
  refine g_iadd (pc := 9) C d_M_apply_9 ?_
  simp only [nI_mul, nI_add]
  refine ga_mar (pc := 10) C (by decide) (by decide) (vp_in_nI (show 24 * q + n < 48 by omega) (by decide)) d_M_apply_10 ?_
  rw [nI_clamp (show 24 * q + n < 2 ^ 31 by omega), hs]
  refine g_istore_n (pc := 11) (i := 3) C d_M_apply_11 rfl (by decide) rfl ?_
  refine g_aload_n (pc := 12) (i := 0) C d_M_apply_12 rfl rfl ?_
  refine g_iload_n (pc := 13) (i := 1) C d_M_apply_13 rfl rfl ?_
  refine g_iload_n (pc := 14) (i := 2) C d_M_apply_14 rfl rfl ?_
  refine g_iconst (pc := 15) C d_M_apply_15 icn_0 ?_
  refine g_callV1 (pc := 16) (As := [_, _, _]) C my_M_byteAt mv_M_byteAt cl_M_88 is_M d_M_apply_16 (Nat.le_of_ble_eq_true rfl) rfl (Nat.le_of_ble_eq_true rfl) ⟨Nat.zero_le _, Nat.zero_le _⟩ (c_M_byteAt _ hD hq hn hc (by omega)) ?_
  rw [List.getD_cons_zero]
  refine g_bipush (pc := 19) C d_M_apply_19 bpn_100 ?_
  refine g_icmp_ne (pc := 21) (tgt := 29) C d_M_apply_21 (by decide) (fun h21 => ?_) (fun h21 => ?_)
  · have hno : dif (k0 :: a :: e :: mm :: r) b = none := by rw [dif_cons, if_neg (fun q => h21 (by rw [q.1]))]
    refine g_iconst (pc := 29) C d_M_apply_29 ic_0 ?_
    refine g_zret (pc := 30) C d_M_apply_30 (by first | exact Or.inl rfl | exact Or.inr rfl) ?_
    exact ⟨m, rfl, Mk.rf, Or.inr ⟨hno, rfl⟩⟩
  · rw [List.getD_cons_zero] at hg0
    have hk : k0 = 100 := (nI_eq (by omega) (by decide)).mp h21
    refine g_iload_n (pc := 24) (i := 3) C d_M_apply_24 rfl rfl ?_
    refine g_iconst (pc := 25) C d_M_apply_25 icn_4 ?_
    refine g_icmp_ge (pc := 26) (tgt := 31) C d_M_apply_26 (by decide) (fun h26 => ?_) (fun h26 => ?_)
    · skip
      refine g_aload_n (pc := 31) (i := 0) C d_M_apply_31 rfl rfl ?_
      refine g_iload_n (pc := 32) (i := 1) C d_M_apply_32 rfl rfl ?_
      refine g_iload_n (pc := 33) (i := 2) C d_M_apply_33 rfl rfl ?_
      refine g_iconst (pc := 34) C d_M_apply_34 icn_1 ?_
      refine g_callV1 (pc := 35) (As := [_, _, _]) C my_M_byteAt mv_M_byteAt cl_M_88 is_M d_M_apply_35 (Nat.le_of_ble_eq_true rfl) rfl (Nat.le_of_ble_eq_true rfl) ⟨Nat.zero_le _, Nat.zero_le _⟩ (c_M_byteAt _ hD hq hn hc (by omega)) ?_
      simp only [List.getD_cons_succ, List.getD_cons_zero]
      refine g_istore (pc := 38) C d_M_apply_38 (by decide) rfl ?_
      refine g_aload_n (pc := 40) (i := 0) C d_M_apply_40 rfl rfl ?_
      refine g_iload_n (pc := 41) (i := 1) C d_M_apply_41 rfl rfl ?_
      refine g_iload_n (pc := 42) (i := 2) C d_M_apply_42 rfl rfl ?_
      refine g_iconst (pc := 43) C d_M_apply_43 icn_2 ?_
      refine g_callV1 (pc := 44) (As := [_, _, _]) C my_M_byteAt mv_M_byteAt cl_M_88 is_M d_M_apply_44 (Nat.le_of_ble_eq_true rfl) rfl (Nat.le_of_ble_eq_true rfl) ⟨Nat.zero_le _, Nat.zero_le _⟩ (c_M_byteAt _ hD hq hn hc (by omega)) ?_
      simp only [List.getD_cons_succ, List.getD_cons_zero]
      refine g_istore (pc := 47) C d_M_apply_47 (by decide) rfl ?_
      refine g_aload_n (pc := 49) (i := 0) C d_M_apply_49 rfl rfl ?_
      refine g_iload_n (pc := 50) (i := 1) C d_M_apply_50 rfl rfl ?_
      refine g_iload_n (pc := 51) (i := 2) C d_M_apply_51 rfl rfl ?_
      refine g_iconst (pc := 52) C d_M_apply_52 icn_3 ?_
      refine g_callV1 (pc := 53) (As := [_, _, _]) C my_M_byteAt mv_M_byteAt cl_M_88 is_M d_M_apply_53 (Nat.le_of_ble_eq_true rfl) rfl (Nat.le_of_ble_eq_true rfl) ⟨Nat.zero_le _, Nat.zero_le _⟩ (c_M_byteAt _ hD hq hn hc (by omega)) ?_
      simp only [List.getD_cons_succ, List.getD_cons_zero]
      refine g_istore (pc := 56) C d_M_apply_56 (by decide) rfl ?_
      refine g_iload (pc := 58) C d_M_apply_58 rfl ?_
      refine g_iload (pc := 60) C d_M_apply_60 rfl ?_
      refine g_iadd (pc := 62) C d_M_apply_62 ?_
      refine g_aload_n (pc := 63) (i := 0) C d_M_apply_63 rfl rfl ?_
      refine gf_M_builtLen (pc := 64) C fl_M_92 d_M_apply_64 ?_
      rw [hB.1, nI_add]
      refine g_iadd (pc := 67) C d_M_apply_67 ?_
      rw [nI_add]
      refine g_iload (pc := 68) C d_M_apply_68 rfl ?_
      refine g_isub (pc := 70) C d_M_apply_70 ?_
      refine g_istore (pc := 71) C d_M_apply_71 (by decide) rfl ?_
      refine g_iload (pc := 73) C d_M_apply_73 rfl ?_
      refine g_iload (pc := 75) C d_M_apply_75 rfl ?_
      refine g_icmp_gt (pc := 77) (tgt := 104) C d_M_apply_77 (by decide) (fun h77 => ?_) (fun h77 => ?_)
      · have hx : e < a := (nI_ltI (by omega) (by omega)).mp h77
        have hno : dif (k0 :: a :: e :: mm :: r) b = none := by rw [dif_cons, if_neg (fun q => absurd q.2.2.1 (by omega))]
        refine g_iconst (pc := 104) C d_M_apply_104 ic_0 ?_
        refine g_zret (pc := 105) C d_M_apply_105 (by first | exact Or.inl rfl | exact Or.inr rfl) ?_
        exact ⟨m, rfl, Mk.rf, Or.inr ⟨hno, rfl⟩⟩
      · have ha : a ≤ e := Nat.not_lt.mp fun e => h77 (nI_lt e (by omega))
        refine g_iload (pc := 80) C d_M_apply_80 rfl ?_
        refine g_aload_n (pc := 82) (i := 0) C d_M_apply_82 rfl rfl ?_
        refine gf_M_builtLen (pc := 83) C fl_M_92 d_M_apply_83 ?_
        rw [hB.1]
        refine g_icmp_gt (pc := 86) (tgt := 104) C d_M_apply_86 (by decide) (fun h86 => ?_) (fun h86 => ?_)
        · have hx : b.length < e := (nI_ltI (by omega) (by omega)).mp h86
          have hno : dif (k0 :: a :: e :: mm :: r) b = none := by rw [dif_cons, if_neg (fun q => absurd q.2.2.2.1 (by omega))]
          refine g_iconst (pc := 104) C d_M_apply_104 ic_0 ?_
          refine g_zret (pc := 105) C d_M_apply_105 (by first | exact Or.inl rfl | exact Or.inr rfl) ?_
          exact ⟨m, rfl, Mk.rf, Or.inr ⟨hno, rfl⟩⟩
        · have he : e ≤ b.length := Nat.not_lt.mp fun e => h86 (nI_lt e (by omega))
          refine g_iload (pc := 89) C d_M_apply_89 rfl ?_
          refine g_iload_n (pc := 91) (i := 3) C d_M_apply_91 rfl rfl ?_
          refine g_iconst (pc := 92) C d_M_apply_92 icn_4 ?_
          refine g_isub (pc := 93) C d_M_apply_93 ?_
          rw [pk_sub h4, hl4]
          refine g_icmp_ne (pc := 94) (tgt := 104) C d_M_apply_94 (by decide) (fun h94 => ?_) (fun h94 => ?_)
          · have hno : dif (k0 :: a :: e :: mm :: r) b = none := by rw [dif_cons, if_neg (fun q => h94 (by rw [q.2.1]))]
            refine g_iconst (pc := 104) C d_M_apply_104 ic_0 ?_
            refine g_zret (pc := 105) C d_M_apply_105 (by first | exact Or.inl rfl | exact Or.inr rfl) ?_
            exact ⟨m, rfl, Mk.rf, Or.inr ⟨hno, rfl⟩⟩
          · have hm : mm = r.length := (nI_eq (by omega) (by omega)).mp h94
            rw [pk_sub (by omega)]
            refine g_iload (pc := 97) C d_M_apply_97 rfl ?_
            refine g_bipush (pc := 99) C d_M_apply_99 bpn_60 ?_
            refine g_icmp_le (pc := 101) (tgt := 106) C d_M_apply_101 (by decide) (fun h101 => ?_) (fun h101 => ?_)
            · have h6 : a + mm + b.length - e ≤ 60 := (nI_leI (by omega) (by decide)).mp h101
              refine g_iconst (pc := 106) C d_M_apply_106 icn_0 ?_
              refine g_istore (pc := 107) C d_M_apply_107 (by decide) rfl ?_
              exact G.lf (loops ha he hm h6 hk (a + mm + b.length - e) 0 m (by omega) Mk.rf (fun i hi => by omega)) (sb rfl (sb rfl (sb rfl (sb rfl (sb rfl (sb rfl (sb rfl (sb rfl sn))))))))
            · have h6 : ¬ a + mm + b.length - e ≤ 60 := fun e => h101 (nI_le e (by decide))
              have hno : dif (k0 :: a :: e :: mm :: r) b = none := by rw [dif_cons, if_neg (fun q => h6 (by have := q.2.2.2.2; omega))]
              refine g_iconst (pc := 104) C d_M_apply_104 ic_0 ?_
              refine g_zret (pc := 105) C d_M_apply_105 (by first | exact Or.inl rfl | exact Or.inr rfl) ?_
              exact ⟨m, rfl, Mk.rf, Or.inr ⟨hno, rfl⟩⟩
    · first | exact absurd h26 (nI_le h4 (by omega)) | exact absurd (nI_le h4 (by omega)) h26
