theorem evl_by {d : List Nat} {rs : List Rc} (hd : By d) : ∀ (l : List Nat) (t : List Nat), evl d rs l = some t → By t ∧ t.length ≤ 60
  | [], t, h => by cases h
  | [a], t, h => by
    have h : snap (chA d rs a) = some t := h
    refine by_snap ?_ h
    unfold chA
    split
    · intro x hx; cases hx
    · exact (hd.drop _).take _
  | a :: b :: r, t, h => by
    rw [evl_c (by simp)] at h
    cases he : evl d rs (b :: r) with
    | none => rw [he] at h; cases h
    | some u =>
      rw [he] at h
      have h : dif (chA d rs a) u = some t := h
      refine by_dif ?_ (evl_by hd (b :: r) u he).1 h
      unfold chA
      split
      · intro x hx; cases hx
      · exact (hd.drop _).take _
theorem fold_s {t : List Nat} {k : Nat} {z : Int64} (hl : k < t.length) : mix ((t.take k).foldl mix z) (t.getD k 0) = (t.take (k + 1)).foldl mix z := by
  rw [List.take_add_one, List.foldl_append, List.getElem?_eq_getElem hl, List.getD_eq_getElem?_getD, List.getElem?_eq_getElem hl]
  rfl
set_option maxRecDepth 100000 in
set_option maxHeartbeats 4000000 in
theorem x_M_build (l : Launch) {D : Dt} (hD : OkD D) {c m : Cs} {ow : Nat → Int64} {q : Nat} {R : Rp} {n : Nat} (hq : q < 2) (h : MRep m q R) (yd : By R.dat) (h600 : R.dat.length ≤ 600) (h24 : R.rcs.length ≤ 24) (hw : Wfs R.dat.length R.rcs) (hn : n < R.rcs.length) : Cp l D y_M_build b_M_build 9 (some .boolean) 4 [.int (nI n), .int (nI q), .ref (aMdl D)] ((c, m, ow) : Sg) (fun a u => ∃ m2, u = ((c, m2, ow) : Sg) ∧ Mk Pb m m2 ∧ ((∃ t, built R.dat R.rcs n = some t ∧ a = some (.int 1) ∧ Bl m2 14 2 t) ∨ (built R.dat R.rcs n = none ∧ a = some (.int 0)))) := by
  obtain ⟨xn, hxn⟩ : ∃ x, R.rcs[n]? = some x := ⟨_, List.getElem?_eq_getElem hn⟩
  have hwn := hw n xn hxn
  have hch := hwn.2.2.2.2.2.2.2
  have hte := txt_evl R.dat R.rcs 6 n hch
  have hll := cl_len R.rcs 6 (some n)
  have hla := cl_at R.rcs 6 (some n) hch
  have hl0 : cl R.rcs 6 (some n) = n :: cl R.rcs 5 xn.bas := cl_s hxn
  generalize hl : cl R.rcs 6 (some n) = l at hte hll hla hl0
  have hl1 : 1 ≤ l.length := by rw [hl0]; simp
  have hlt : ∀ i a, l[i]? = some a → a < 24 := fun i a h => by
    obtain ⟨x, h1, -⟩ := hla i a h
    have := (List.getElem?_eq_some_iff.mp h1).1
    omega
  have hrn : ∀ {m1 : Cs}, Mk Pb m m1 → MRec m1 (24 * q + n) xn := fun s => (h.pb s).2.1.2 n xn hxn
  have l60 := hwn.2.2.2.2.2.1
  have hbe := built_eq (d := R.dat) hxn
  have evn0 : ∀ k, k ≤ l.length → evl R.dat R.rcs (l.drop k) = none → k < l.length → evl R.dat R.rcs l = none := by
    intro k
    induction k with
    | zero => intro _ h _; exact h
    | succ k ih =>
      intro h1 h2 h3
      refine ih (by omega) ?_ (by omega)
      have hm : k < l.length := by omega
      rw [List.drop_eq_getElem_cons hm, evl_c (fun e => by have := congrArg List.length e; rw [List.length_drop] at this; simp at this; omega), h2]
      rfl
  refine Cp.of hD (by decide) (Nat.le_of_ble_eq_true rfl) [(0, some (.ref (aMdl D))), (1, some (.int (nI q))), (2, some (.int (nI n)))] rfl (fun X hX C => ?_)
  subst hX
  have loop3 : ∀ (t : List Nat), t.length ≤ 60 → txt R.dat R.rcs 6 n = some t → t.length = xn.len → ∀ (m1 : Cs), Mk Pb m m1 → Bl m1 14 2 t → ∀ (j k : Nat), k + j = t.length → G X D (Qp X D (fun a u => ∃ m2, u = ((c, m2, ow) : Sg) ∧ Mk Pb m m2 ∧ ((∃ t, built R.dat R.rcs n = some t ∧ a = some (.int 1) ∧ Bl m2 14 2 t) ∨ (built R.dat R.rcs n = none ∧ a = some (.int 0))))) (0, 0) ((c, m1, ow) : Sg) 145 [(0, some (.ref (aMdl D))), (1, some (.int (nI q))), (2, some (.int (nI n))), (6, some (.long ((t.take k).foldl mix (nodS (nodP R.rcs xn.pa) (nodP R.rcs xn.pb))))), (8, some (.int (nI k)))] [] := by
    intro t t60 ht htx m1 s hB j
    rw [ht] at hbe
    have hbe : built R.dat R.rcs n = if t.length = xn.len ∧ nodeOf R.rcs xn.pa xn.pb t = xn.nod then some t else none := hbe
    have hr := hrn s
    induction j with
    | zero =>
      intro k hk
      rw [List.take_of_length_le (by omega)]
      refine g_iload (pc := 145) C d_M_build_145 rfl ?_
      refine g_aload_n (pc := 147) (i := 0) C d_M_build_147 rfl rfl ?_
      refine gf_M_builtLen (pc := 148) C fl_M_92 d_M_build_148 ?_
      rw [hB.1]
      refine g_icmp_ge (pc := 151) (tgt := 174) C d_M_build_151 (by decide) (fun h151 => ?_) (fun h151 => ?_)
      · skip
        refine g_lload (pc := 174) C d_M_build_174 rfl ?_
        refine g_aload_n (pc := 176) (i := 0) C d_M_build_176 rfl rfl ?_
        refine gf_M_nodes (pc := 177) C fl_M_40 d_M_build_177 ?_
        refine g_bipush (pc := 180) C d_M_build_180 bpn_24 ?_
        refine g_iload_n (pc := 182) (i := 1) C d_M_build_182 rfl rfl ?_
        refine g_imul (pc := 183) C d_M_build_183 ?_
        refine g_iload_n (pc := 184) (i := 2) C d_M_build_184 rfl rfl ?_
        refine g_iadd (pc := 185) C d_M_build_185 ?_
        simp only [nI_mul, nI_add]
        refine ga_nds (pc := 186) C (vp_in_nI (show 24 * q + n < 48 by omega) (by decide)) d_M_build_186 ?_
        rw [nI_clamp (show 24 * q + n < 2 ^ 31 by omega), hr.2.2.2.2.2.2]
        refine g_lcmp (pc := 187) C d_M_build_187 ?_
        refine g_if_ne (pc := 188) (tgt := 195) C d_M_build_188 (by decide) (fun h188 => ?_) (fun h188 => ?_)
        · have hne : ¬ (t.length = xn.len ∧ nodeOf R.rcs xn.pa xn.pb t = xn.nod) := fun e => h188 (lg_c0.mpr e.2)
          refine g_iconst (pc := 195) C d_M_build_195 ic_0 ?_
          refine g_zret (pc := 196) C d_M_build_196 (by first | exact Or.inl rfl | exact Or.inr rfl) ?_
          exact ⟨m1, rfl, s, Or.inr ⟨hbe.trans (if_neg hne), rfl⟩⟩
        · have hye : t.length = xn.len ∧ nodeOf R.rcs xn.pa xn.pb t = xn.nod := ⟨htx, lg_c0.mp h188⟩
          refine g_iconst (pc := 191) C d_M_build_191 ic_1 ?_
          refine g_goto (pc := 192) (tgt := 196) C d_M_build_192 (by decide) ?_
          refine g_zret (pc := 196) C d_M_build_196 (by first | exact Or.inl rfl | exact Or.inr rfl) ?_
          exact ⟨m1, rfl, s, Or.inl ⟨t, hbe.trans (if_pos hye), rfl, hB⟩⟩
      · first | exact absurd h151 (nI_le (by omega) (by omega)) | exact absurd (nI_le (by omega) (by omega)) h151
    | succ j ih =>
      intro k hk
      have ek := fold_s (t := t) (k := k) (z := nodS (nodP R.rcs xn.pa) (nodP R.rcs xn.pb)) (by omega)
      refine g_iload (pc := 145) C d_M_build_145 rfl ?_
      refine g_aload_n (pc := 147) (i := 0) C d_M_build_147 rfl rfl ?_
      refine gf_M_builtLen (pc := 148) C fl_M_92 d_M_build_148 ?_
      rw [hB.1]
      refine g_icmp_ge (pc := 151) (tgt := 174) C d_M_build_151 (by decide) (fun h151 => ?_) (fun h151 => ?_)
      · first | exact absurd h151 (nI_ge (show k < t.length by omega) (by omega)) | exact absurd (nI_ge (show k < t.length by omega) (by omega)) h151
      · skip
        refine g_lload (pc := 154) C d_M_build_154 rfl ?_
        refine g_aload_n (pc := 156) (i := 0) C d_M_build_156 rfl rfl ?_
        refine gf_M_built (pc := 157) C fl_M_57 d_M_build_157 ?_
        refine g_iload (pc := 160) C d_M_build_160 rfl ?_
        refine ga_mar (pc := 162) C (by decide) (by decide) (vp_in_nI (show k < 60 by omega) (by decide)) d_M_build_162 ?_
        rw [nI_clamp (show k < 2 ^ 31 by omega), hB.2 k (by omega)]
        refine g_callS1 (pc := 163) (As := [_, _]) C my_M_mixed ms_M_mixed cl_M_78 d_M_build_163 (Nat.le_of_ble_eq_true rfl) rfl (Nat.le_of_ble_eq_true rfl) ⟨Nat.zero_le _, Nat.zero_le _⟩ (c_M_mixed _ hD) ?_
        refine G.sg rfl ?_
        rw [show (((t.take k).foldl mix (nodS (nodP R.rcs xn.pa) (nodP R.rcs xn.pb))) ^^^ (nI (t.getD k 0)).toInt64) * 1099511628211 = (t.take (k + 1)).foldl mix (nodS (nodP R.rcs xn.pa) (nodP R.rcs xn.pb)) from ek]
        refine g_lstore (pc := 166) C d_M_build_166 (by decide) rfl ?_
        refine g_iinc (pc := 168) C d_M_build_168 rfl (v := nI (k + 1)) (nI_inc k) rfl ?_
        refine g_goto (pc := 171) (tgt := 145) C d_M_build_171 (by decide) ?_
        exact G.lf (ih (k + 1) (by omega)) (sb rfl (sb rfl (sb rfl (sb rfl (sb rfl sn)))))
  have t88 : ∀ (m1 : Cs) (v : Int32), Mk Pb m m1 → ((v = 1 ∧ ∃ t, evl R.dat R.rcs l = some t ∧ Bl m1 14 2 t) ∨ (v = 0 ∧ evl R.dat R.rcs l = none)) → G X D (Qp X D (fun a u => ∃ m2, u = ((c, m2, ow) : Sg) ∧ Mk Pb m m2 ∧ ((∃ t, built R.dat R.rcs n = some t ∧ a = some (.int 1) ∧ Bl m2 14 2 t) ∨ (built R.dat R.rcs n = none ∧ a = some (.int 0))))) (0, 0) ((c, m1, ow) : Sg) 88 [(0, some (.ref (aMdl D))), (1, some (.int (nI q))), (2, some (.int (nI n))), (5, some (.int v))] [] := by
    intro m1 v s hv
    have hr := hrn s
    rcases hv with ⟨rfl, t, ht, hB⟩ | ⟨rfl, ht⟩
    rotate_left
    · skip
      refine g_iload (pc := 88) C d_M_build_88 rfl ?_
      refine g_if_eq (pc := 90) (tgt := 111) C d_M_build_90 (by decide) (fun h90 => ?_) (fun h90 => ?_)
      · skip
        refine g_iconst (pc := 111) C d_M_build_111 ic_0 ?_
        refine g_zret (pc := 112) C d_M_build_112 (by first | exact Or.inl rfl | exact Or.inr rfl) ?_
        exact ⟨m1, rfl, s, Or.inr ⟨built_none (hte.trans ht), rfl⟩⟩
      · first | exact absurd h90 (rfl) | exact absurd (rfl) h90
    · have ht2 := hte.trans ht
      have t60 := (evl_by yd l t ht).2
      refine g_iload (pc := 88) C d_M_build_88 rfl ?_
      refine g_if_eq (pc := 90) (tgt := 111) C d_M_build_90 (by decide) (fun h90 => ?_) (fun h90 => ?_)
      · first | exact absurd h90 (by decide) | exact absurd (by decide) h90
      · skip
        refine g_aload_n (pc := 93) (i := 0) C d_M_build_93 rfl rfl ?_
        refine gf_M_builtLen (pc := 94) C fl_M_92 d_M_build_94 ?_
        rw [hB.1]
        refine g_aload_n (pc := 97) (i := 0) C d_M_build_97 rfl rfl ?_
        refine gf_M_length (pc := 98) C fl_M_28 d_M_build_98 ?_
        refine g_bipush (pc := 101) C d_M_build_101 bpn_24 ?_
        refine g_iload_n (pc := 103) (i := 1) C d_M_build_103 rfl rfl ?_
        refine g_imul (pc := 104) C d_M_build_104 ?_
        refine g_iload_n (pc := 105) (i := 2) C d_M_build_105 rfl rfl ?_
        refine g_iadd (pc := 106) C d_M_build_106 ?_
        simp only [nI_mul, nI_add]
        refine ga_mar (pc := 107) C (by decide) (by decide) (vp_in_nI (show 24 * q + n < 48 by omega) (by decide)) d_M_build_107 ?_
        rw [nI_clamp (show 24 * q + n < 2 ^ 31 by omega), hr.2.2.1]
        refine g_icmp_eq (pc := 108) (tgt := 113) C d_M_build_108 (by decide) (fun h108 => ?_) (fun h108 => ?_)
        · have htx : t.length = xn.len := (nI_eq (by omega) (by omega)).mp h108
          refine g_aload_n (pc := 113) (i := 0) C d_M_build_113 rfl rfl ?_
          refine g_iload_n (pc := 114) (i := 1) C d_M_build_114 rfl rfl ?_
          refine g_aload_n (pc := 115) (i := 0) C d_M_build_115 rfl rfl ?_
          refine gf_M_first (pc := 116) C fl_M_34 d_M_build_116 ?_
          refine g_bipush (pc := 119) C d_M_build_119 bpn_24 ?_
          refine g_iload_n (pc := 121) (i := 1) C d_M_build_121 rfl rfl ?_
          refine g_imul (pc := 122) C d_M_build_122 ?_
          refine g_iload_n (pc := 123) (i := 2) C d_M_build_123 rfl rfl ?_
          refine g_iadd (pc := 124) C d_M_build_124 ?_
          simp only [nI_mul, nI_add]
          refine ga_mar (pc := 125) C (by decide) (by decide) (vp_in_nI (show 24 * q + n < 48 by omega) (by decide)) d_M_build_125 ?_
          rw [nI_clamp (show 24 * q + n < 2 ^ 31 by omega), hr.2.2.2.2.1]
          refine g_aload_n (pc := 126) (i := 0) C d_M_build_126 rfl rfl ?_
          refine gf_M_second (pc := 127) C fl_M_37 d_M_build_127 ?_
          refine g_bipush (pc := 130) C d_M_build_130 bpn_24 ?_
          refine g_iload_n (pc := 132) (i := 1) C d_M_build_132 rfl rfl ?_
          refine g_imul (pc := 133) C d_M_build_133 ?_
          refine g_iload_n (pc := 134) (i := 2) C d_M_build_134 rfl rfl ?_
          refine g_iadd (pc := 135) C d_M_build_135 ?_
          simp only [nI_mul, nI_add]
          refine ga_mar (pc := 136) C (by decide) (by decide) (vp_in_nI (show 24 * q + n < 48 by omega) (by decide)) d_M_build_136 ?_
          rw [nI_clamp (show 24 * q + n < 2 ^ 31 by omega), hr.2.2.2.2.2.1]
          refine g_callV1 (pc := 137) (As := [_, _, _]) C my_M_begun mv_M_begun cl_M_102 is_M d_M_build_137 (Nat.le_of_ble_eq_true rfl) rfl (Nat.le_of_ble_eq_true rfl) ⟨Nat.zero_le _, Nat.zero_le _⟩ (c_M_begun _ hD hq ((h.pb s).rx h24) (fun b hb => by have := hwn.2.1 b hb; omega) (fun b hb => by have := hwn.2.2.1 b hb; omega)) ?_
          refine g_lstore (pc := 140) C d_M_build_140 (by decide) rfl ?_
          refine g_iconst (pc := 142) C d_M_build_142 icn_0 ?_
          refine g_istore (pc := 143) C d_M_build_143 (by decide) rfl ?_
          exact G.lf (loop3 t t60 ht2 htx m1 s hB t.length 0 (by omega)) (sb rfl (sb rfl (sb rfl (sb rfl (sb rfl sn)))))
        · have htx : ¬ t.length = xn.len := fun e => h108 (by rw [e])
          refine g_iconst (pc := 111) C d_M_build_111 ic_0 ?_
          refine g_zret (pc := 112) C d_M_build_112 (by first | exact Or.inl rfl | exact Or.inr rfl) ?_
          refine ⟨m1, rfl, s, Or.inr ⟨?_, rfl⟩⟩
          rw [hbe, ht2]
          exact if_neg (fun e => htx e.1)
  have loop2 : ∀ (k : Nat) (m1 : Cs) (v : Int32), k < l.length → (∀ i a, l[i]? = some a → m1.1 16 i = nI a) → Mk Pb m m1 → ((v = 1 ∧ ∃ t, evl R.dat R.rcs (l.drop k) = some t ∧ Bl m1 14 2 t) ∨ (v = 0 ∧ evl R.dat R.rcs (l.drop k) = none)) → G X D (Qp X D (fun a u => ∃ m2, u = ((c, m2, ow) : Sg) ∧ Mk Pb m m2 ∧ ((∃ t, built R.dat R.rcs n = some t ∧ a = some (.int 1) ∧ Bl m2 14 2 t) ∨ (built R.dat R.rcs n = none ∧ a = some (.int 0))))) (0, 0) ((c, m1, ow) : Sg) 58 [(0, some (.ref (aMdl D))), (1, some (.int (nI q))), (2, some (.int (nI n))), (5, some (.int v)), (6, some (.int (eo (pd k))))] [] := by
    intro k
    induction k with
    | zero =>
      intro m1 v hk hc s hv
      refine g_iload (pc := 58) C d_M_build_58 rfl ?_
      refine g_if_lt (pc := 60) (tgt := 88) C d_M_build_60 (by decide) (fun h60 => ?_) (fun h60 => ?_)
      · skip
        exact G.lf (t88 m1 _ s hv) (sb rfl (sb rfl (sb rfl (sb rfl sn))))
      · first | exact absurd h60 (by decide) | exact absurd (by decide) h60
    | succ k ih =>
      intro m1 v hk hc s hv
      obtain ⟨a, ha⟩ : ∃ a, l[k]? = some a := ⟨_, List.getElem?_eq_getElem (show k < l.length by omega)⟩
      obtain ⟨x, hxa, hba⟩ := hla k a ha
      have ha24 := hlt k a ha
      have hwa := hw a x hxa
      have hdm : l.drop k = a :: l.drop (k + 1) := by
        obtain ⟨h1, h2⟩ := List.getElem?_eq_some_iff.mp ha
        rw [List.drop_eq_getElem_cons h1, h2]
      have hne : l.drop (k + 1) ≠ [] := fun e => by
        have := congrArg List.length e
        rw [List.length_drop] at this
        simp at this
        omega
      have hA : chA R.dat R.rcs a = chnk R.dat x := by unfold chA; rw [hxa]
      have hcl : (chnk R.dat x).length = x.siz := tk_len hwa.2.2.2.2.2.2.1
      rcases hv with ⟨rfl, t, ht, hB⟩ | ⟨rfl, ht⟩
      rotate_left
      · skip
        show G X D _ (0, 0) _ 58 [(0, some (.ref (aMdl D))), (1, some (.int (nI q))), (2, some (.int (nI n))), (5, some (.int 0)), (6, some (.int (nI k)))] []
        refine g_iload (pc := 58) C d_M_build_58 rfl ?_
        refine g_if_lt (pc := 60) (tgt := 88) C d_M_build_60 (by decide) (fun h60 => ?_) (fun h60 => ?_)
        · first | exact absurd h60 (nI_pos (by omega)) | exact absurd (nI_pos (by omega)) h60
        · skip
          refine g_iload (pc := 63) C d_M_build_63 rfl ?_
          refine g_if_eq (pc := 65) (tgt := 88) C d_M_build_65 (by decide) (fun h65 => ?_) (fun h65 => ?_)
          · skip
            exact G.lf (t88 m1 _ s (Or.inr ⟨rfl, evn0 (k + 1) (by omega) ht hk⟩)) (sb rfl (sb rfl (sb rfl (sb rfl sn))))
          · first | exact absurd h65 (rfl) | exact absurd (rfl) h65
      · have hev : evl R.dat R.rcs (l.drop k) = dif (chnk R.dat x) t := by rw [hdm, evl_c hne, ht, hA]; rfl
        show G X D _ (0, 0) _ 58 [(0, some (.ref (aMdl D))), (1, some (.int (nI q))), (2, some (.int (nI n))), (5, some (.int 1)), (6, some (.int (nI k)))] []
        refine g_iload (pc := 58) C d_M_build_58 rfl ?_
        refine g_if_lt (pc := 60) (tgt := 88) C d_M_build_60 (by decide) (fun h60 => ?_) (fun h60 => ?_)
        · first | exact absurd h60 (nI_pos (by omega)) | exact absurd (nI_pos (by omega)) h60
        · skip
          refine g_iload (pc := 63) C d_M_build_63 rfl ?_
          refine g_if_eq (pc := 65) (tgt := 88) C d_M_build_65 (by decide) (fun h65 => ?_) (fun h65 => ?_)
          · first | exact absurd h65 (by decide) | exact absurd (by decide) h65
          · skip
            refine g_aload_n (pc := 68) (i := 0) C d_M_build_68 rfl rfl ?_
            refine g_iload_n (pc := 69) (i := 1) C d_M_build_69 rfl rfl ?_
            refine g_aload_n (pc := 70) (i := 0) C d_M_build_70 rfl rfl ?_
            refine gf_M_chain (pc := 71) C fl_M_63 d_M_build_71 ?_
            refine g_iload (pc := 74) C d_M_build_74 rfl ?_
            refine ga_mar (pc := 76) C (by decide) (by decide) (vp_in_nI (show k < 24 by omega) (by decide)) d_M_build_76 ?_
            rw [nI_clamp (show k < 2 ^ 31 by omega), hc k a ha]
            refine g_callVp (pc := 77) (As := [_, _]) C my_M_apply mv_M_apply cl_M_99 is_M d_M_build_77 (Nat.le_of_ble_eq_true rfl) rfl (Nat.le_of_ble_eq_true rfl) ⟨Nat.zero_le _, Nat.zero_le _⟩ (x_M_apply _ hD hq ha24 ((h.pb s).ch hxa hwa.2.2.2.2.2.2.1 h600) (by rw [hcl]; exact hwa.2.2.2.1) ((yd.drop _).take _) hB (evl_by yd _ _ ht).2) (fun r77 u77 hp77 => ?_)
            obtain ⟨m3, rfl, s3, hp3⟩ := hp77
            have s3u : Mk Pb m1 m3 := s3.up (fun a k e => by unfold Pb; omega)
            obtain ⟨v3, rfl, hv3⟩ : ∃ v3 : Int32, r77 = some (.int v3) ∧ ((v3 = 1 ∧ ∃ t, evl R.dat R.rcs (l.drop k) = some t ∧ Bl m3 14 2 t) ∨ (v3 = 0 ∧ evl R.dat R.rcs (l.drop k) = none)) := by
              rcases hp3 with ⟨t3, e1, e2, r3⟩ | ⟨e1, e2⟩
              · exact ⟨1, e2, Or.inl ⟨rfl, t3, hev.trans e1, r3⟩⟩
              · exact ⟨0, e2, Or.inr ⟨rfl, hev.trans e1⟩⟩
            refine g_istore (pc := 80) C d_M_build_80 (by decide) rfl ?_
            refine g_iinc (pc := 82) C d_M_build_82 rfl (v := eo (pd k)) (pd_dec k) rfl ?_
            refine g_goto (pc := 85) (tgt := 58) C d_M_build_85 (by decide) ?_
            exact G.lf (ih m3 _ (by omega) (fun i a e => by rw [s3.1 _ _ (by omega)]; exact hc i a e) (s.tr s3u) hv3) (sb rfl (sb rfl (sb rfl (sb rfl (sb rfl sn)))))
  have t38 : ∀ (m1 : Cs), (∀ i a, l[i]? = some a → m1.1 16 i = nI a) → Mk Pb m m1 → G X D (Qp X D (fun a u => ∃ m2, u = ((c, m2, ow) : Sg) ∧ Mk Pb m m2 ∧ ((∃ t, built R.dat R.rcs n = some t ∧ a = some (.int 1) ∧ Bl m2 14 2 t) ∨ (built R.dat R.rcs n = none ∧ a = some (.int 0))))) (0, 0) ((c, m1, ow) : Sg) 38 [(0, some (.ref (aMdl D))), (1, some (.int (nI q))), (2, some (.int (nI n))), (3, some (.int (nI l.length)))] [] := by
    intro m1 hc s
    obtain ⟨a, ha⟩ : ∃ a, l[l.length - 1]? = some a := ⟨_, List.getElem?_eq_getElem (show l.length - 1 < l.length by omega)⟩
    obtain ⟨x, hxa, hba⟩ := hla _ a ha
    have ha24 := hlt _ a ha
    have hwa := hw a x hxa
    have hA : chA R.dat R.rcs a = chnk R.dat x := by unfold chA; rw [hxa]
    have hcl : (chnk R.dat x).length = x.siz := tk_len hwa.2.2.2.2.2.2.1
    have hev : evl R.dat R.rcs (l.drop (l.length - 1)) = snap (chnk R.dat x) := by
      obtain ⟨h1, h2⟩ := List.getElem?_eq_some_iff.mp ha
      rw [List.drop_eq_getElem_cons h1, h2, List.drop_eq_nil_of_le (by omega), ← hA]
      rfl
    refine g_aload_n (pc := 38) (i := 0) C d_M_build_38 rfl rfl ?_
    refine g_iload_n (pc := 39) (i := 1) C d_M_build_39 rfl rfl ?_
    refine g_aload_n (pc := 40) (i := 0) C d_M_build_40 rfl rfl ?_
    refine gf_M_chain (pc := 41) C fl_M_63 d_M_build_41 ?_
    refine g_iload_n (pc := 44) (i := 3) C d_M_build_44 rfl rfl ?_
    refine g_iconst (pc := 45) C d_M_build_45 icn_1 ?_
    refine g_isub (pc := 46) C d_M_build_46 ?_
    rw [pk_sub hl1]
    skip
    refine ga_mar (pc := 47) C (by decide) (by decide) (vp_in_nI (show l.length - 1 < 24 by omega) (by decide)) d_M_build_47 ?_
    rw [nI_clamp (show l.length - 1 < 2 ^ 31 by omega), hc _ a ha]
    refine g_callVp (pc := 48) (As := [_, _]) C my_M_whole mv_M_whole cl_M_95 is_M d_M_build_48 (Nat.le_of_ble_eq_true rfl) rfl (Nat.le_of_ble_eq_true rfl) ⟨Nat.zero_le _, Nat.zero_le _⟩ (x_M_whole _ hD hq ha24 ((h.pb s).ch hxa hwa.2.2.2.2.2.2.1 h600) (by rw [hcl]; exact hwa.2.2.2.1) ((yd.drop _).take _)) (fun r48 u48 hp48 => ?_)
    obtain ⟨m3, rfl, s3, hp3⟩ := hp48
    obtain ⟨v3, rfl, hv3⟩ : ∃ v3 : Int32, r48 = some (.int v3) ∧ ((v3 = 1 ∧ ∃ t, evl R.dat R.rcs (l.drop (l.length - 1)) = some t ∧ Bl m3 14 2 t) ∨ (v3 = 0 ∧ evl R.dat R.rcs (l.drop (l.length - 1)) = none)) := by
      rcases hp3 with ⟨t3, e1, e2, r3⟩ | ⟨e1, e2⟩
      · exact ⟨1, e2, Or.inl ⟨rfl, t3, hev.trans e1, r3⟩⟩
      · exact ⟨0, e2, Or.inr ⟨rfl, hev.trans e1⟩⟩
    refine g_istore (pc := 51) C d_M_build_51 (by decide) rfl ?_
    refine g_iload_n (pc := 53) (i := 3) C d_M_build_53 rfl rfl ?_
    refine g_iconst (pc := 54) C d_M_build_54 icn_2 ?_
    refine g_isub (pc := 55) C d_M_build_55 ?_
    rw [sub2 hl1]
    refine g_istore (pc := 56) C d_M_build_56 (by decide) rfl ?_
    exact G.lf (loop2 (l.length - 1) m3 _ (by omega) (fun i a e => by rw [s3.1 _ _ (by unfold Pw; omega)]; exact hc i a e) (s.tr s3.pw) hv3) (sb rfl (sb rfl (sb rfl (sb rfl (sb rfl sn)))))
  have loop1 : ∀ (j i : Nat) (m1 : Cs), i + j = l.length → (∀ b a, b < i → l[b]? = some a → m1.1 16 b = nI a) → Mk Pb m m1 → G X D (Qp X D (fun a u => ∃ m2, u = ((c, m2, ow) : Sg) ∧ Mk Pb m m2 ∧ ((∃ t, built R.dat R.rcs n = some t ∧ a = some (.int 1) ∧ Bl m2 14 2 t) ∨ (built R.dat R.rcs n = none ∧ a = some (.int 0))))) (0, 0) ((c, m1, ow) : Sg) 5 [(0, some (.ref (aMdl D))), (1, some (.int (nI q))), (2, some (.int (nI n))), (3, some (.int (nI i))), (4, some (.int (eo l[i]?)))] [] := by
    intro j
    induction j with
    | zero =>
      intro i m1 hi hc s
      have hi : i = l.length := by omega
      subst hi
      rw [List.getElem?_eq_none (Nat.le_refl _)]
      refine g_iload (pc := 5) C d_M_build_5 rfl ?_
      refine g_if_lt (pc := 7) (tgt := 38) C d_M_build_7 (by decide) (fun h7 => ?_) (fun h7 => ?_)
      · skip
        exact G.lf (t38 m1 (fun i a e => hc i a (List.getElem?_eq_some_iff.mp e).1 e) s) (sb rfl (sb rfl (sb rfl (sb rfl sn))))
      · first | exact absurd h7 (by decide) | exact absurd (by decide) h7
    | succ j ih =>
      intro i m1 hi hc s
      obtain ⟨a, ha⟩ : ∃ a, l[i]? = some a := ⟨_, List.getElem?_eq_getElem (show i < l.length by omega)⟩
      obtain ⟨x, hxa, hba⟩ := hla i a ha
      have ha24 := hlt i a ha
      have hra := (h.pb s).2.1.2 a x hxa
      rw [ha]
      show G X D _ (0, 0) _ 5 [(0, some (.ref (aMdl D))), (1, some (.int (nI q))), (2, some (.int (nI n))), (3, some (.int (nI i))), (4, some (.int (nI a)))] []
      refine g_iload (pc := 5) C d_M_build_5 rfl ?_
      refine g_if_lt (pc := 7) (tgt := 38) C d_M_build_7 (by decide) (fun h7 => ?_) (fun h7 => ?_)
      · first | exact absurd h7 (nI_pos (by omega)) | exact absurd (nI_pos (by omega)) h7
      · skip
        refine g_aload_n (pc := 10) (i := 0) C d_M_build_10 rfl rfl ?_
        refine gf_M_chain (pc := 11) C fl_M_63 d_M_build_11 ?_
        refine g_iload_n (pc := 14) (i := 3) C d_M_build_14 rfl rfl ?_
        refine g_iload (pc := 15) C d_M_build_15 rfl ?_
        refine gs_mar (pc := 17) C (by decide) (by decide) (vp_in_nI (show i < 24 by omega) (by decide)) d_M_build_17 ?_
        rw [nI_clamp (show i < 2 ^ 31 by omega)]
        refine g_iinc (pc := 18) C d_M_build_18 rfl (v := nI (i + 1)) (nI_inc i) rfl ?_
        refine g_aload_n (pc := 21) (i := 0) C d_M_build_21 rfl rfl ?_
        refine gf_M_base (pc := 22) C fl_M_31 d_M_build_22 ?_
        refine g_bipush (pc := 25) C d_M_build_25 bpn_24 ?_
        refine g_iload_n (pc := 27) (i := 1) C d_M_build_27 rfl rfl ?_
        refine g_imul (pc := 28) C d_M_build_28 ?_
        refine g_iload (pc := 29) C d_M_build_29 rfl ?_
        refine g_iadd (pc := 31) C d_M_build_31 ?_
        simp only [nI_mul, nI_add]
        refine ga_mar (pc := 32) C (by decide) (by decide) (vp_in_nI (show 24 * q + a < 48 by omega) (by decide)) d_M_build_32 ?_
        rw [nI_clamp (show 24 * q + a < 2 ^ 31 by omega), rI_n (Or.inl (by decide)), hra.2.2.2.1, hba]
        refine g_istore (pc := 33) C d_M_build_33 (by decide) rfl ?_
        refine g_goto (pc := 35) (tgt := 5) C d_M_build_35 (by decide) ?_
        refine G.lf (ih (i + 1) _ (by omega) (fun b y hb e => ?_) (s.tr (Mk.wI (by unfold Pb; omega)))) (sb rfl (sb rfl (sb rfl (sb rfl (sb rfl sn)))))
        by_cases eb : b = i
        · subst eb
          rw [ha] at e
          cases e
          rw [rI_s]
        · rw [rI_n (Or.inr eb)]
          exact hc b y (by omega) e
  refine g_iconst (pc := 0) C d_M_build_0 icn_0 ?_
  refine g_istore_n (pc := 1) (i := 3) C d_M_build_1 rfl (by decide) rfl ?_
  refine g_iload_n (pc := 2) (i := 2) C d_M_build_2 rfl rfl ?_
  refine g_istore (pc := 3) C d_M_build_3 (by decide) rfl ?_
  exact G.lf (loop1 l.length 0 m (by omega) (fun b a hb => by omega) Mk.rf) (sb rfl (sb rfl (sb rfl (sb rfl (sb (by rw [hl0]; rfl) sn)))))
