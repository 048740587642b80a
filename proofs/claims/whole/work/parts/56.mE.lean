/-! THE REFERENCE: runs, candidates -/
def rl : List Nat → Nat
  | [] => 0
  | [_] => 1
  | v :: w :: t => if w = v then rl (w :: t) else rl (w :: t) + 1
theorem rl_pk : ∀ (t : List Nat) (r : Nat), (pk r t).length = 2 * rl t
  | [], r => rfl
  | [_], r => rfl
  | v :: w :: t, r => by
    unfold pk rl
    split
    · exact rl_pk (w :: t) _
    · rw [List.length_cons, List.length_cons, rl_pk (w :: t) 0]
      omega
theorem rlc_2 {t : List Nat} {k : Nat} (h : k + 1 < t.length) : rl (t.drop k) = if t.getD (k + 1) 0 = t.getD k 0 then rl (t.drop (k + 1)) else rl (t.drop (k + 1)) + 1 := by
  have e1 : t.drop k = t.getD k 0 :: t.drop (k + 1) := by
    rw [List.drop_eq_getElem_cons (show k < t.length by omega), List.getD_eq_getElem?_getD, List.getElem?_eq_getElem (show k < t.length by omega)]
    rfl
  have e2 : t.drop (k + 1) = t.getD (k + 1) 0 :: t.drop (k + 2) := by
    rw [List.drop_eq_getElem_cons h, List.getD_eq_getElem?_getD, List.getElem?_eq_getElem h]
    rfl
  rw [e1, e2]
  conv => lhs; unfold rl
theorem rl_le : ∀ (t : List Nat), rl t ≤ t.length
  | [] => Nat.le_refl _
  | [_] => Nat.le_refl _
  | v :: w :: t => by
    have := rl_le (w :: t)
    unfold rl
    split <;> simp only [List.length_cons] at * <;> omega
theorem encS_len (t : List Nat) : (encS t).length = if 1 + 2 * rl t < 1 + t.length then 1 + 2 * rl t else 1 + t.length := by
  have h1 : (120 :: pack t).length = 1 + 2 * rl t := by
    rw [List.length_cons, show (pack t).length = 2 * rl t from rl_pk t 0]
    omega
  have h2 : (117 :: t).length = 1 + t.length := by rw [List.length_cons]; omega
  unfold encS
  rw [h1, h2]
  split
  · exact h1
  · exact h2
theorem encD_l {b t : List Nat} : (encD b t).length = 4 + t.length - cpre b t - cpre (b.drop (cpre b t)).reverse (t.drop (cpre b t)).reverse ∧ cpre (b.drop (cpre b t)).reverse (t.drop (cpre b t)).reverse ≤ t.length - cpre b t ∧ cpre (b.drop (cpre b t)).reverse (t.drop (cpre b t)).reverse ≤ b.length - cpre b t := by
  have h1 := cpre_2 b t
  have h2 := cpre_2 (b.drop (cpre b t)).reverse (t.drop (cpre b t)).reverse
  have h3 := cpre_1 (b.drop (cpre b t)).reverse (t.drop (cpre b t)).reverse
  rw [List.length_reverse, List.length_drop] at h2 h3
  refine ⟨?_, h2, h3⟩
  unfold encD
  simp only [List.length_cons, List.length_take, List.length_drop]
  omega
/-- the candidates, and the best of the first w -/
def cnd (rs : List Rc) (p q : Option Nat) (w : Nat) : Option Nat := if w = 0 then p else if w = 1 then q else lastR rs
def chw (d : List Nat) (rs : List Rc) (p q : Option Nat) (t : List Nat) : Nat → List Nat × Option Nat
  | 0 => (encS t, none)
  | w + 1 => cand d rs t (chw d rs p q t w) (cnd rs p q w)
theorem chw_3 (d : List Nat) (rs : List Rc) (p q : Option Nat) (t : List Nat) : choose d rs p q t = chw d rs p q t 3 := rfl
theorem chw_s {d : List Nat} {rs : List Rc} {p q : Option Nat} {t : List Nat} {w : Nat} : chw d rs p q t (w + 1) = cand d rs t (chw d rs p q t w) (cnd rs p q w) := rfl
theorem lastR_lt {rs : List Rc} {n : Nat} (h : lastR rs = some n) : n < rs.length := by
  unfold lastR at h
  split at h
  · cases h
  · cases h
    omega
set_option maxRecDepth 100000 in
set_option maxHeartbeats 4000000 in
theorem c_M_runs (l : Launch) {D : Dt} (hD : OkD D) {c m : Cs} {ow : Nat → Int64} {t : List Nat} (ht : Bl m 17 3 t) (h60 : t.length ≤ 60) (hy : By t) : Ct l D y_M_runs b_M_runs 3 (some .int) 1 [.ref (aMdl D)] ((c, m, ow) : Sg) (some (.int (nI (rl t)))) ((c, m, ow) : Sg) := by
  refine Ct.of hD (by decide) (Nat.le_of_ble_eq_true rfl) [(0, some (.ref (aMdl D)))] rfl (fun X hX C => ?_)
  subst hX
  have loop : ∀ (j k n : Nat), k + 1 + j = t.length → rl t + 1 = n + rl (t.drop k) → n ≤ k + 1 → G X D (Qp X D (fun r2 u => r2 = some (.int (nI (rl t))) ∧ u = ((c, m, ow) : Sg))) (0, 0) ((c, m, ow) : Sg) 4 [(0, some (.ref (aMdl D))), (1, some (.int (nI n))), (2, some (.int (nI (k + 1))))] [] := by
    intro j
    induction j with
    | zero =>
      intro k n hk he hn
      have h1 : rl (t.drop k) = 1 := by
        have hl : (t.drop k).length = 1 := by rw [List.length_drop]; omega
        obtain ⟨v, hv⟩ := List.length_eq_one_iff.mp hl
        rw [hv]
        rfl
      have he : n = rl t := by omega
      refine g_iload_n (pc := 4) (i := 2) C d_M_runs_4 rfl rfl ?_
      refine g_aload_n (pc := 5) (i := 0) C d_M_runs_5 rfl rfl ?_
      refine gf_M_textLen (pc := 6) C fl_M_106 d_M_runs_6 ?_
      rw [ht.1]
      refine g_icmp_ge (pc := 9) (tgt := 47) C d_M_runs_9 (by decide) (fun h9 => ?_) (fun h9 => ?_)
      · skip
        refine g_iload_n (pc := 47) (i := 1) C d_M_runs_47 rfl rfl ?_
        refine g_iret (pc := 48) C d_M_runs_48 ?_
        exact ⟨by rw [he], rfl⟩
      · first | exact absurd h9 (nI_le (by omega) (by omega)) | exact absurd (nI_le (by omega) (by omega)) h9
    | succ j ih =>
      intro k n hk he hn
      rw [rlc_2 (by omega)] at he
      refine g_iload_n (pc := 4) (i := 2) C d_M_runs_4 rfl rfl ?_
      refine g_aload_n (pc := 5) (i := 0) C d_M_runs_5 rfl rfl ?_
      refine gf_M_textLen (pc := 6) C fl_M_106 d_M_runs_6 ?_
      rw [ht.1]
      refine g_icmp_ge (pc := 9) (tgt := 47) C d_M_runs_9 (by decide) (fun h9 => ?_) (fun h9 => ?_)
      · first | exact absurd h9 (nI_ge (show k + 1 < t.length by omega) (by omega)) | exact absurd (nI_ge (show k + 1 < t.length by omega) (by omega)) h9
      · skip
        refine g_iload_n (pc := 12) (i := 2) C d_M_runs_12 rfl rfl ?_
        refine g_if_eq (pc := 13) (tgt := 33) C d_M_runs_13 (by decide) (fun h13 => ?_) (fun h13 => ?_)
        · first | exact absurd h13 (nI_ne0 (by omega) (by omega)) | exact absurd (nI_ne0 (by omega) (by omega)) h13
        · skip
          refine g_aload_n (pc := 16) (i := 0) C d_M_runs_16 rfl rfl ?_
          refine gf_M_text (pc := 17) C fl_M_66 d_M_runs_17 ?_
          refine g_iload_n (pc := 20) (i := 2) C d_M_runs_20 rfl rfl ?_
          skip
          refine ga_mar (pc := 21) C (by decide) (by decide) (vp_in_nI (show k + 1 < 60 by omega) (by decide)) d_M_runs_21 ?_
          rw [nI_clamp (show k + 1 < 2 ^ 31 by omega), ht.2 _ (by omega)]
          refine g_aload_n (pc := 22) (i := 0) C d_M_runs_22 rfl rfl ?_
          refine gf_M_text (pc := 23) C fl_M_66 d_M_runs_23 ?_
          refine g_iload_n (pc := 26) (i := 2) C d_M_runs_26 rfl rfl ?_
          refine g_iconst (pc := 27) C d_M_runs_27 icn_1 ?_
          refine g_isub (pc := 28) C d_M_runs_28 ?_
          rw [pk_sub (by omega), Nat.add_sub_cancel]
          refine ga_mar (pc := 29) C (by decide) (by decide) (vp_in_nI (show k < 60 by omega) (by decide)) d_M_runs_29 ?_
          rw [nI_clamp (show k < 2 ^ 31 by omega), ht.2 k (by omega)]
          refine g_icmp_eq (pc := 30) (tgt := 39) C d_M_runs_30 (by decide) (fun h30 => ?_) (fun h30 => ?_)
          · have hv : t.getD (k + 1) 0 = t.getD k 0 := (nI_eq (Nat.lt_trans (hy.get _) (by decide)) (Nat.lt_trans (hy.get _) (by decide))).mp h30
            refine g_iload_n (pc := 39) (i := 1) C d_M_runs_39 rfl rfl ?_
            refine g_istore_n (pc := 40) (i := 1) C d_M_runs_40 rfl (by decide) rfl ?_
            refine g_iinc (pc := 41) C d_M_runs_41 rfl (v := nI (k + 1 + 1)) (nI_inc (k + 1)) rfl ?_
            refine g_goto (pc := 44) (tgt := 4) C d_M_runs_44 (by decide) ?_
            rw [if_pos hv] at he
            exact G.lf (ih (k + 1) n (by omega) (by omega) (by omega)) (sb rfl (sb rfl (sb rfl sn)))
          · have hv : ¬ t.getD (k + 1) 0 = t.getD k 0 := fun e => h30 (by rw [e])
            refine g_iload_n (pc := 33) (i := 1) C d_M_runs_33 rfl rfl ?_
            refine g_iconst (pc := 34) C d_M_runs_34 icn_1 ?_
            refine g_iadd (pc := 35) C d_M_runs_35 ?_
            rw [nI_add]
            refine g_goto (pc := 36) (tgt := 40) C d_M_runs_36 (by decide) ?_
            refine g_istore_n (pc := 40) (i := 1) C d_M_runs_40 rfl (by decide) rfl ?_
            refine g_iinc (pc := 41) C d_M_runs_41 rfl (v := nI (k + 1 + 1)) (nI_inc (k + 1)) rfl ?_
            refine g_goto (pc := 44) (tgt := 4) C d_M_runs_44 (by decide) ?_
            rw [if_neg hv] at he
            exact G.lf (ih (k + 1) (n + 1) (by omega) (by omega) (by omega)) (sb rfl (sb rfl (sb rfl sn)))
  cases hlt : t.length with
  | zero =>
    have e : t = [] := List.length_eq_zero_iff.mp hlt
    subst e
    refine g_iconst (pc := 0) C d_M_runs_0 ic_0 ?_
    refine g_istore_n (pc := 1) (i := 1) C d_M_runs_1 rfl (by decide) rfl ?_
    refine g_iconst (pc := 2) C d_M_runs_2 ic_0 ?_
    refine g_istore_n (pc := 3) (i := 2) C d_M_runs_3 rfl (by decide) rfl ?_
    refine g_iload_n (pc := 4) (i := 2) C d_M_runs_4 rfl rfl ?_
    refine g_aload_n (pc := 5) (i := 0) C d_M_runs_5 rfl rfl ?_
    refine gf_M_textLen (pc := 6) C fl_M_106 d_M_runs_6 ?_
    rw [ht.1]
    refine g_icmp_ge (pc := 9) (tgt := 47) C d_M_runs_9 (by decide) (fun h9 => ?_) (fun h9 => ?_)
    · skip
      refine g_iload_n (pc := 47) (i := 1) C d_M_runs_47 rfl rfl ?_
      refine g_iret (pc := 48) C d_M_runs_48 ?_
      exact ⟨rfl, rfl⟩
    · first | exact absurd h9 (by decide) | exact absurd (by decide) h9
  | succ j =>
    refine g_iconst (pc := 0) C d_M_runs_0 icn_0 ?_
    refine g_istore_n (pc := 1) (i := 1) C d_M_runs_1 rfl (by decide) rfl ?_
    refine g_iconst (pc := 2) C d_M_runs_2 icn_0 ?_
    refine g_istore_n (pc := 3) (i := 2) C d_M_runs_3 rfl (by decide) rfl ?_
    refine g_iload_n (pc := 4) (i := 2) C d_M_runs_4 rfl rfl ?_
    refine g_aload_n (pc := 5) (i := 0) C d_M_runs_5 rfl rfl ?_
    refine gf_M_textLen (pc := 6) C fl_M_106 d_M_runs_6 ?_
    rw [ht.1]
    refine g_icmp_ge (pc := 9) (tgt := 47) C d_M_runs_9 (by decide) (fun h9 => ?_) (fun h9 => ?_)
    · first | exact absurd h9 (nI_ge (show 0 < t.length by omega) (by omega)) | exact absurd (nI_ge (show 0 < t.length by omega) (by omega)) h9
    · skip
      refine g_iload_n (pc := 12) (i := 2) C d_M_runs_12 rfl rfl ?_
      refine g_if_eq (pc := 13) (tgt := 33) C d_M_runs_13 (by decide) (fun h13 => ?_) (fun h13 => ?_)
      · skip
        refine g_iload_n (pc := 33) (i := 1) C d_M_runs_33 rfl rfl ?_
        refine g_iconst (pc := 34) C d_M_runs_34 icn_1 ?_
        refine g_iadd (pc := 35) C d_M_runs_35 ?_
        rw [nI_add]
        refine g_goto (pc := 36) (tgt := 40) C d_M_runs_36 (by decide) ?_
        refine g_istore_n (pc := 40) (i := 1) C d_M_runs_40 rfl (by decide) rfl ?_
        refine g_iinc (pc := 41) C d_M_runs_41 rfl (v := nI (0 + 1)) (nI_inc 0) rfl ?_
        refine g_goto (pc := 44) (tgt := 4) C d_M_runs_44 (by decide) ?_
        exact G.lf (loop j 0 (0 + 1) (by omega) (by rw [List.drop_zero]; omega) (by omega)) (sb rfl (sb rfl (sb rfl sn)))
      · first | exact absurd h13 (nI_0) | exact absurd (nI_0) h13
set_option maxRecDepth 100000 in
set_option maxHeartbeats 4000000 in
theorem c_M_commonBegin (l : Launch) {D : Dt} (hD : OkD D) {c m : Cs} {ow : Nat → Int64} {b t : List Nat} (hB : Bl m 14 2 b) (ht : Bl m 17 3 t) (b60 : b.length ≤ 60) (h60 : t.length ≤ 60) (yb : By b) (hy : By t) : Ct l D y_M_commonBegin b_M_commonBegin 2 (some .int) 1 [.ref (aMdl D)] ((c, m, ow) : Sg) (some (.int (nI (cpre b t)))) ((c, m, ow) : Sg) := by
  refine Ct.of hD (by decide) (Nat.le_of_ble_eq_true rfl) [(0, some (.ref (aMdl D)))] rfl (fun X hX C => ?_)
  subst hX
  have loop : ∀ (j k : Nat), k + j = min b.length t.length → cpre b t = k + cpre (b.drop k) (t.drop k) → G X D (Qp X D (fun r2 u => r2 = some (.int (nI (cpre b t))) ∧ u = ((c, m, ow) : Sg))) (0, 0) ((c, m, ow) : Sg) 2 [(0, some (.ref (aMdl D))), (1, some (.int (nI k)))] [] := by
    intro j
    induction j with
    | zero =>
      intro k hk he
      rw [cpre_0 (by omega)] at he
      refine g_iload_n (pc := 2) (i := 1) C d_M_commonBegin_2 rfl rfl ?_
      refine g_aload_n (pc := 3) (i := 0) C d_M_commonBegin_3 rfl rfl ?_
      refine gf_M_builtLen (pc := 4) C fl_M_92 d_M_commonBegin_4 ?_
      rw [hB.1]
      refine g_icmp_ge (pc := 7) (tgt := 39) C d_M_commonBegin_7 (by decide) (fun h7 => ?_) (fun h7 => ?_)
      · skip
        refine g_iload_n (pc := 39) (i := 1) C d_M_commonBegin_39 rfl rfl ?_
        refine g_iret (pc := 40) C d_M_commonBegin_40 ?_
        exact ⟨by rw [he]; rfl, rfl⟩
      · have hk7 : k < b.length := Nat.not_le.mp fun e => h7 (nI_le e (by omega))
        refine g_iload_n (pc := 10) (i := 1) C d_M_commonBegin_10 rfl rfl ?_
        refine g_aload_n (pc := 11) (i := 0) C d_M_commonBegin_11 rfl rfl ?_
        refine gf_M_textLen (pc := 12) C fl_M_106 d_M_commonBegin_12 ?_
        rw [ht.1]
        refine g_icmp_ge (pc := 15) (tgt := 39) C d_M_commonBegin_15 (by decide) (fun h15 => ?_) (fun h15 => ?_)
        · skip
          refine g_iload_n (pc := 39) (i := 1) C d_M_commonBegin_39 rfl rfl ?_
          refine g_iret (pc := 40) C d_M_commonBegin_40 ?_
          exact ⟨by rw [he]; rfl, rfl⟩
        · first | exact absurd h15 (nI_le (show t.length ≤ k by omega) (by omega)) | exact absurd (nI_le (show t.length ≤ k by omega) (by omega)) h15
    | succ j ih =>
      intro k hk he
      have g1 := yb.get k
      have g2 := hy.get k
      refine g_iload_n (pc := 2) (i := 1) C d_M_commonBegin_2 rfl rfl ?_
      refine g_aload_n (pc := 3) (i := 0) C d_M_commonBegin_3 rfl rfl ?_
      refine gf_M_builtLen (pc := 4) C fl_M_92 d_M_commonBegin_4 ?_
      rw [hB.1]
      refine g_icmp_ge (pc := 7) (tgt := 39) C d_M_commonBegin_7 (by decide) (fun h7 => ?_) (fun h7 => ?_)
      · first | exact absurd h7 (nI_ge (show k < b.length by omega) (by omega)) | exact absurd (nI_ge (show k < b.length by omega) (by omega)) h7
      · skip
        refine g_iload_n (pc := 10) (i := 1) C d_M_commonBegin_10 rfl rfl ?_
        refine g_aload_n (pc := 11) (i := 0) C d_M_commonBegin_11 rfl rfl ?_
        refine gf_M_textLen (pc := 12) C fl_M_106 d_M_commonBegin_12 ?_
        rw [ht.1]
        refine g_icmp_ge (pc := 15) (tgt := 39) C d_M_commonBegin_15 (by decide) (fun h15 => ?_) (fun h15 => ?_)
        · first | exact absurd h15 (nI_ge (show k < t.length by omega) (by omega)) | exact absurd (nI_ge (show k < t.length by omega) (by omega)) h15
        · skip
          refine g_aload_n (pc := 18) (i := 0) C d_M_commonBegin_18 rfl rfl ?_
          refine gf_M_built (pc := 19) C fl_M_57 d_M_commonBegin_19 ?_
          refine g_iload_n (pc := 22) (i := 1) C d_M_commonBegin_22 rfl rfl ?_
          refine ga_mar (pc := 23) C (by decide) (by decide) (vp_in_nI (show k < 60 by omega) (by decide)) d_M_commonBegin_23 ?_
          rw [nI_clamp (show k < 2 ^ 31 by omega), hB.2 k (by omega)]
          refine g_aload_n (pc := 24) (i := 0) C d_M_commonBegin_24 rfl rfl ?_
          refine gf_M_text (pc := 25) C fl_M_66 d_M_commonBegin_25 ?_
          refine g_iload_n (pc := 28) (i := 1) C d_M_commonBegin_28 rfl rfl ?_
          refine ga_mar (pc := 29) C (by decide) (by decide) (vp_in_nI (show k < 60 by omega) (by decide)) d_M_commonBegin_29 ?_
          rw [nI_clamp (show k < 2 ^ 31 by omega), ht.2 k (by omega)]
          refine g_icmp_ne (pc := 30) (tgt := 39) C d_M_commonBegin_30 (by decide) (fun h30 => ?_) (fun h30 => ?_)
          · rw [cpre_n (by omega) (by omega) (fun e => h30 (by rw [e]))] at he
            refine g_iload_n (pc := 39) (i := 1) C d_M_commonBegin_39 rfl rfl ?_
            refine g_iret (pc := 40) C d_M_commonBegin_40 ?_
            exact ⟨by rw [he]; rfl, rfl⟩
          · rw [cpre_e (by omega) (by omega) ((nI_eq (by omega) (by omega)).mp h30)] at he
            refine g_iinc (pc := 33) C d_M_commonBegin_33 rfl (v := nI (k + 1)) (nI_inc k) rfl ?_
            refine g_goto (pc := 36) (tgt := 2) C d_M_commonBegin_36 (by decide) ?_
            exact G.lf (ih (k + 1) (by omega) (by omega)) (sb rfl (sb rfl sn))
  refine g_iconst (pc := 0) C d_M_commonBegin_0 icn_0 ?_
  refine g_istore_n (pc := 1) (i := 1) C d_M_commonBegin_1 rfl (by decide) rfl ?_
  exact G.lf (loop _ 0 (Nat.zero_add _) (by rw [List.drop_zero, List.drop_zero]; omega)) (sb rfl (sb rfl sn))
set_option maxRecDepth 100000 in
set_option maxHeartbeats 4000000 in
theorem c_M_commonEnd (l : Launch) {D : Dt} (hD : OkD D) {c m : Cs} {ow : Nat → Int64} {b t : List Nat} {p : Nat} (hB : Bl m 14 2 b) (ht : Bl m 17 3 t) (b60 : b.length ≤ 60) (h60 : t.length ≤ 60) (yb : By b) (hy : By t) (hp : p ≤ b.length) (hp2 : p ≤ t.length) : Ct l D y_M_commonEnd b_M_commonEnd 3 (some .int) 1 [.int (nI p), .ref (aMdl D)] ((c, m, ow) : Sg) (some (.int (nI (cpre (b.drop p).reverse (t.drop p).reverse)))) ((c, m, ow) : Sg) := by
  have ra : (b.drop p).reverse.length = b.length - p := by rw [List.length_reverse, List.length_drop]
  have rb : (t.drop p).reverse.length = t.length - p := by rw [List.length_reverse, List.length_drop]
  generalize hA : (b.drop p).reverse = A at ra ⊢
  generalize hT : (t.drop p).reverse = T at rb ⊢
  refine Ct.of hD (by decide) (Nat.le_of_ble_eq_true rfl) [(0, some (.ref (aMdl D))), (1, some (.int (nI p)))] rfl (fun X hX C => ?_)
  subst hX
  have loop : ∀ (j k : Nat), k + j = min b.length t.length - p → cpre A T = k + cpre (A.drop k) (T.drop k) → G X D (Qp X D (fun r2 u => r2 = some (.int (nI (cpre A T))) ∧ u = ((c, m, ow) : Sg))) (0, 0) ((c, m, ow) : Sg) 2 [(0, some (.ref (aMdl D))), (1, some (.int (nI p))), (2, some (.int (nI k)))] [] := by
    intro j
    induction j with
    | zero =>
      intro k hk he
      rw [cpre_0 (by omega)] at he
      refine g_iload_n (pc := 2) (i := 2) C d_M_commonEnd_2 rfl rfl ?_
      refine g_aload_n (pc := 3) (i := 0) C d_M_commonEnd_3 rfl rfl ?_
      refine gf_M_builtLen (pc := 4) C fl_M_92 d_M_commonEnd_4 ?_
      refine g_iload_n (pc := 7) (i := 1) C d_M_commonEnd_7 rfl rfl ?_
      refine g_isub (pc := 8) C d_M_commonEnd_8 ?_
      rw [hB.1, pk_sub hp]
      refine g_icmp_ge (pc := 9) (tgt := 57) C d_M_commonEnd_9 (by decide) (fun h9 => ?_) (fun h9 => ?_)
      · skip
        refine g_iload_n (pc := 57) (i := 2) C d_M_commonEnd_57 rfl rfl ?_
        refine g_iret (pc := 58) C d_M_commonEnd_58 ?_
        exact ⟨by rw [he]; rfl, rfl⟩
      · have hk7 : k < b.length - p := Nat.not_le.mp fun e => h9 (nI_le e (by omega))
        refine g_iload_n (pc := 12) (i := 2) C d_M_commonEnd_12 rfl rfl ?_
        refine g_aload_n (pc := 13) (i := 0) C d_M_commonEnd_13 rfl rfl ?_
        refine gf_M_textLen (pc := 14) C fl_M_106 d_M_commonEnd_14 ?_
        refine g_iload_n (pc := 17) (i := 1) C d_M_commonEnd_17 rfl rfl ?_
        refine g_isub (pc := 18) C d_M_commonEnd_18 ?_
        rw [ht.1, pk_sub hp2]
        refine g_icmp_ge (pc := 19) (tgt := 57) C d_M_commonEnd_19 (by decide) (fun h19 => ?_) (fun h19 => ?_)
        · skip
          refine g_iload_n (pc := 57) (i := 2) C d_M_commonEnd_57 rfl rfl ?_
          refine g_iret (pc := 58) C d_M_commonEnd_58 ?_
          exact ⟨by rw [he]; rfl, rfl⟩
        · first | exact absurd h19 (nI_le (show t.length - p ≤ k by omega) (by omega)) | exact absurd (nI_le (show t.length - p ≤ k by omega) (by omega)) h19
    | succ j ih =>
      intro k hk he
      have g1 := yb.get (b.length - 1 - k)
      have g2 := hy.get (t.length - 1 - k)
      have ea : A.getD k 0 = b.getD (b.length - 1 - k) 0 := by rw [← hA]; exact rev_get (by omega)
      have eb : T.getD k 0 = t.getD (t.length - 1 - k) 0 := by rw [← hT]; exact rev_get (by omega)
      refine g_iload_n (pc := 2) (i := 2) C d_M_commonEnd_2 rfl rfl ?_
      refine g_aload_n (pc := 3) (i := 0) C d_M_commonEnd_3 rfl rfl ?_
      refine gf_M_builtLen (pc := 4) C fl_M_92 d_M_commonEnd_4 ?_
      refine g_iload_n (pc := 7) (i := 1) C d_M_commonEnd_7 rfl rfl ?_
      refine g_isub (pc := 8) C d_M_commonEnd_8 ?_
      rw [hB.1, pk_sub hp]
      refine g_icmp_ge (pc := 9) (tgt := 57) C d_M_commonEnd_9 (by decide) (fun h9 => ?_) (fun h9 => ?_)
      · first | exact absurd h9 (nI_ge (show k < b.length - p by omega) (by omega)) | exact absurd (nI_ge (show k < b.length - p by omega) (by omega)) h9
      · skip
        refine g_iload_n (pc := 12) (i := 2) C d_M_commonEnd_12 rfl rfl ?_
        refine g_aload_n (pc := 13) (i := 0) C d_M_commonEnd_13 rfl rfl ?_
        refine gf_M_textLen (pc := 14) C fl_M_106 d_M_commonEnd_14 ?_
        refine g_iload_n (pc := 17) (i := 1) C d_M_commonEnd_17 rfl rfl ?_
        refine g_isub (pc := 18) C d_M_commonEnd_18 ?_
        rw [ht.1, pk_sub hp2]
        refine g_icmp_ge (pc := 19) (tgt := 57) C d_M_commonEnd_19 (by decide) (fun h19 => ?_) (fun h19 => ?_)
        · first | exact absurd h19 (nI_ge (show k < t.length - p by omega) (by omega)) | exact absurd (nI_ge (show k < t.length - p by omega) (by omega)) h19
        · skip
          refine g_aload_n (pc := 22) (i := 0) C d_M_commonEnd_22 rfl rfl ?_
          refine gf_M_built (pc := 23) C fl_M_57 d_M_commonEnd_23 ?_
          refine g_aload_n (pc := 26) (i := 0) C d_M_commonEnd_26 rfl rfl ?_
          refine gf_M_builtLen (pc := 27) C fl_M_92 d_M_commonEnd_27 ?_
          refine g_iconst (pc := 30) C d_M_commonEnd_30 icn_1 ?_
          refine g_isub (pc := 31) C d_M_commonEnd_31 ?_
          refine g_iload_n (pc := 32) (i := 2) C d_M_commonEnd_32 rfl rfl ?_
          refine g_isub (pc := 33) C d_M_commonEnd_33 ?_
          rw [hB.1, pk_sub (by omega), pk_sub (by omega)]
          skip
          refine ga_mar (pc := 34) C (by decide) (by decide) (vp_in_nI (show b.length - 1 - k < 60 by omega) (by decide)) d_M_commonEnd_34 ?_
          rw [nI_clamp (show b.length - 1 - k < 2 ^ 31 by omega), hB.2 _ (by omega)]
          refine g_aload_n (pc := 35) (i := 0) C d_M_commonEnd_35 rfl rfl ?_
          refine gf_M_text (pc := 36) C fl_M_66 d_M_commonEnd_36 ?_
          refine g_aload_n (pc := 39) (i := 0) C d_M_commonEnd_39 rfl rfl ?_
          refine gf_M_textLen (pc := 40) C fl_M_106 d_M_commonEnd_40 ?_
          refine g_iconst (pc := 43) C d_M_commonEnd_43 icn_1 ?_
          refine g_isub (pc := 44) C d_M_commonEnd_44 ?_
          refine g_iload_n (pc := 45) (i := 2) C d_M_commonEnd_45 rfl rfl ?_
          refine g_isub (pc := 46) C d_M_commonEnd_46 ?_
          rw [ht.1, pk_sub (by omega), pk_sub (by omega)]
          skip
          refine ga_mar (pc := 47) C (by decide) (by decide) (vp_in_nI (show t.length - 1 - k < 60 by omega) (by decide)) d_M_commonEnd_47 ?_
          rw [nI_clamp (show t.length - 1 - k < 2 ^ 31 by omega), ht.2 _ (by omega)]
          refine g_icmp_ne (pc := 48) (tgt := 57) C d_M_commonEnd_48 (by decide) (fun h48 => ?_) (fun h48 => ?_)
          · rw [cpre_n (by omega) (by omega) (fun e => h48 (by rw [← ea, ← eb, e]))] at he
            refine g_iload_n (pc := 57) (i := 2) C d_M_commonEnd_57 rfl rfl ?_
            refine g_iret (pc := 58) C d_M_commonEnd_58 ?_
            exact ⟨by rw [he]; rfl, rfl⟩
          · rw [cpre_e (by omega) (by omega) (by rw [ea, eb]; exact (nI_eq (by omega) (by omega)).mp h48)] at he
            refine g_iinc (pc := 51) C d_M_commonEnd_51 rfl (v := nI (k + 1)) (nI_inc k) rfl ?_
            refine g_goto (pc := 54) (tgt := 2) C d_M_commonEnd_54 (by decide) ?_
            exact G.lf (ih (k + 1) (by omega) (by omega)) (sb rfl (sb rfl (sb rfl sn)))
  refine g_iconst (pc := 0) C d_M_commonEnd_0 icn_0 ?_
  refine g_istore_n (pc := 1) (i := 2) C d_M_commonEnd_1 rfl (by decide) rfl ?_
  exact G.lf (loop _ 0 (Nat.zero_add _) (by rw [List.drop_zero, List.drop_zero]; omega)) (sb rfl (sb rfl (sb rfl sn)))
set_option maxRecDepth 100000 in
set_option maxHeartbeats 4000000 in
theorem c_M_difference (l : Launch) {D : Dt} (hD : OkD D) {c m : Cs} {ow : Nat → Int64} {b t : List Nat} (hB : Bl m 14 2 b) (ht : Bl m 17 3 t) (b60 : b.length ≤ 60) (h60 : t.length ≤ 60) (yb : By b) (hy : By t) : Ct l D y_M_difference b_M_difference 3 (some .int) 2 [.ref (aMdl D)] ((c, m, ow) : Sg) (some (.int (nI (encD b t).length))) ((c, m, ow) : Sg) := by
  have h1 := cpre_1 b t
  have h2 := cpre_2 b t
  obtain ⟨h3, h4, h5⟩ := encD_l (b := b) (t := t)
  refine Ct.of hD (by decide) (Nat.le_of_ble_eq_true rfl) [(0, some (.ref (aMdl D)))] rfl (fun X hX C => ?_)
  subst hX
  refine g_aload_n (pc := 0) (i := 0) C d_M_difference_0 rfl rfl ?_
  refine g_callV1 (pc := 1) (As := []) C my_M_commonBegin mv_M_commonBegin cl_M_109 is_M d_M_difference_1 (Nat.le_of_ble_eq_true rfl) rfl (Nat.le_of_ble_eq_true rfl) ⟨Nat.zero_le _, Nat.zero_le _⟩ (c_M_commonBegin _ hD hB ht b60 h60 yb hy) ?_
  refine g_istore_n (pc := 4) (i := 1) C d_M_difference_4 rfl (by decide) rfl ?_
  refine g_aload_n (pc := 5) (i := 0) C d_M_difference_5 rfl rfl ?_
  refine g_iload_n (pc := 6) (i := 1) C d_M_difference_6 rfl rfl ?_
  refine g_callV1 (pc := 7) (As := [_]) C my_M_commonEnd mv_M_commonEnd cl_M_113 is_M d_M_difference_7 (Nat.le_of_ble_eq_true rfl) rfl (Nat.le_of_ble_eq_true rfl) ⟨Nat.zero_le _, Nat.zero_le _⟩ (c_M_commonEnd _ hD hB ht b60 h60 yb hy h1 h2) ?_
  refine g_istore_n (pc := 10) (i := 2) C d_M_difference_10 rfl (by decide) rfl ?_
  refine g_iconst (pc := 11) C d_M_difference_11 icn_4 ?_
  refine g_aload_n (pc := 12) (i := 0) C d_M_difference_12 rfl rfl ?_
  refine gf_M_textLen (pc := 13) C fl_M_106 d_M_difference_13 ?_
  rw [ht.1]
  refine g_iadd (pc := 16) C d_M_difference_16 ?_
  rw [nI_add]
  refine g_iload_n (pc := 17) (i := 1) C d_M_difference_17 rfl rfl ?_
  refine g_isub (pc := 18) C d_M_difference_18 ?_
  rw [pk_sub (by omega)]
  refine g_iload_n (pc := 19) (i := 2) C d_M_difference_19 rfl rfl ?_
  refine g_isub (pc := 20) C d_M_difference_20 ?_
  rw [pk_sub (by omega)]
  refine g_iret (pc := 21) C d_M_difference_21 ?_
  exact ⟨by rw [h3], rfl⟩
set_option maxRecDepth 100000 in
set_option maxHeartbeats 4000000 in
theorem c_M_shortChain (l : Launch) {D : Dt} (hD : OkD D) {c m : Cs} {ow : Nat → Int64} {q : Nat} {n sz d : Nat} {rs : List Rc} {t : List Nat} (hq : q < 2) (hx : MRx m q rs) (hw : Wfs d rs) (hn : n < rs.length) (ht : Bl m 17 3 t) (h60 : t.length ≤ 60) (hs : sz ≤ 121) : Ct l D y_M_shortChain b_M_shortChain 7 (some .boolean) 1 [.int (nI sz), .int (nI n), .int (nI q), .ref (aMdl D)] ((c, m, ow) : Sg) (some (.int (b1 (fits6 rs n sz t.length = true)))) ((c, m, ow) : Sg) := by
  have h24 := hx.1
  obtain ⟨xn, hxn⟩ : ∃ x, rs[n]? = some x := ⟨_, List.getElem?_eq_getElem hn⟩
  have hch := (hw n xn hxn).2.2.2.2.2.2.2
  refine Ct.of hD (by decide) (Nat.le_of_ble_eq_true rfl) [(0, some (.ref (aMdl D))), (1, some (.int (nI q))), (2, some (.int (nI n))), (3, some (.int (nI sz)))] rfl (fun X hX C => ?_)
  subst hX
  have loop : ∀ (f k b : Nat) (o : Option Nat), f + k = 6 → chn rs f o ≠ none → b ≤ 121 + 121 * k → (fits6 rs n sz t.length = if k ≤ 5 then fitV rs (5 - k) o b t.length else false) → G X D (Qp X D (fun r2 u => r2 = some (.int (b1 (fits6 rs n sz t.length = true))) ∧ u = ((c, m, ow) : Sg))) (0, 0) ((c, m, ow) : Sg) 9 [(0, some (.ref (aMdl D))), (1, some (.int (nI q))), (4, some (.int (nI (k + 1)))), (5, some (.int (nI b))), (6, some (.int (eo o)))] [] := by
    intro f
    induction f with
    | zero =>
      intro k b o hk hc hb he
      cases o with
      | some a => exact absurd rfl hc
      | none =>
        rw [if_neg (by omega)] at he
        refine g_iload (pc := 9) C d_M_shortChain_9 rfl ?_
        refine g_if_lt (pc := 11) (tgt := 51) C d_M_shortChain_11 (by decide) (fun h11 => ?_) (fun h11 => ?_)
        · skip
          refine g_iload (pc := 51) C d_M_shortChain_51 rfl ?_
          refine g_bipush (pc := 53) C d_M_shortChain_53 bpn_6 ?_
          refine g_icmp_gt (pc := 55) (tgt := 76) C d_M_shortChain_55 (by decide) (fun h55 => ?_) (fun h55 => ?_)
          · skip
            refine g_iconst (pc := 76) C d_M_shortChain_76 ic_0 ?_
            refine g_zret (pc := 77) C d_M_shortChain_77 (by first | exact Or.inl rfl | exact Or.inr rfl) ?_
            exact ⟨by rw [b1_f (by rw [he]; decide)], rfl⟩
          · first | exact absurd h55 (nI_lt (show 6 < k + 1 by omega) (by omega)) | exact absurd (nI_lt (show 6 < k + 1 by omega) (by omega)) h55
        · first | exact absurd h11 (by decide) | exact absurd (by decide) h11
    | succ f ih =>
      intro k b o hk hc hb he
      cases o with
      | none =>
        rw [if_pos (by omega), fitV_0] at he
        refine g_iload (pc := 9) C d_M_shortChain_9 rfl ?_
        refine g_if_lt (pc := 11) (tgt := 51) C d_M_shortChain_11 (by decide) (fun h11 => ?_) (fun h11 => ?_)
        · skip
          refine g_iload (pc := 51) C d_M_shortChain_51 rfl ?_
          refine g_bipush (pc := 53) C d_M_shortChain_53 bpn_6 ?_
          refine g_icmp_gt (pc := 55) (tgt := 76) C d_M_shortChain_55 (by decide) (fun h55 => ?_) (fun h55 => ?_)
          · first | exact absurd h55 (nI_nlt (show k + 1 ≤ 6 by omega) (by omega)) | exact absurd (nI_nlt (show k + 1 ≤ 6 by omega) (by omega)) h55
          · skip
            refine g_iload (pc := 58) C d_M_shortChain_58 rfl ?_
            refine g_iconst (pc := 60) C d_M_shortChain_60 icn_2 ?_
            refine g_aload_n (pc := 61) (i := 0) C d_M_shortChain_61 rfl rfl ?_
            refine gf_M_textLen (pc := 62) C fl_M_106 d_M_shortChain_62 ?_
            rw [ht.1]
            refine g_imul (pc := 65) C d_M_shortChain_65 ?_
            rw [nI_mul]
            refine g_bipush (pc := 66) C d_M_shortChain_66 bpn_16 ?_
            refine g_iadd (pc := 68) C d_M_shortChain_68 ?_
            rw [nI_add]
            refine g_icmp_gt (pc := 69) (tgt := 76) C d_M_shortChain_69 (by decide) (fun h69 => ?_) (fun h69 => ?_)
            · have hq : ¬ b ≤ 2 * t.length + 16 := fun q => absurd h69 (nI_nlt q (by omega))
              refine g_iconst (pc := 76) C d_M_shortChain_76 ic_0 ?_
              refine g_zret (pc := 77) C d_M_shortChain_77 (by first | exact Or.inl rfl | exact Or.inr rfl) ?_
              refine ⟨congrArg (fun v => some (Value.int v)) ?_, rfl⟩
              first | exact (b1_t (by rw [he]; exact decide_eq_true hq)).symm | exact (b1_f (by rw [he]; simpa using hq)).symm
            · have hq : b ≤ 2 * t.length + 16 := Nat.not_lt.mp fun q => h69 (nI_lt q (by omega))
              refine g_iconst (pc := 72) C d_M_shortChain_72 ic_1 ?_
              refine g_goto (pc := 73) (tgt := 77) C d_M_shortChain_73 (by decide) ?_
              refine g_zret (pc := 77) C d_M_shortChain_77 (by first | exact Or.inl rfl | exact Or.inr rfl) ?_
              refine ⟨congrArg (fun v => some (Value.int v)) ?_, rfl⟩
              first | exact (b1_t (by rw [he]; exact decide_eq_true hq)).symm | exact (b1_f (by rw [he]; simpa using hq)).symm
        · first | exact absurd h11 (by decide) | exact absurd (by decide) h11
      | some a =>
        cases hxa : rs[a]? with
        | none =>
          exfalso
          apply hc
          unfold chn
          rw [hxa]
        | some x =>
          have ha := (List.getElem?_eq_some_iff.mp hxa).1
          have hr := hx.2 a x hxa
          have hwx := (hw a x hxa).2.2.2.2.1
          rw [chn_s hxa] at hc
          show G X D _ (0, 0) _ 9 [(0, some (.ref (aMdl D))), (1, some (.int (nI q))), (4, some (.int (nI (k + 1)))), (5, some (.int (nI b))), (6, some (.int (nI a)))] []
          refine g_iload (pc := 9) C d_M_shortChain_9 rfl ?_
          refine g_if_lt (pc := 11) (tgt := 51) C d_M_shortChain_11 (by decide) (fun h11 => ?_) (fun h11 => ?_)
          · first | exact absurd h11 (nI_pos (by omega)) | exact absurd (nI_pos (by omega)) h11
          · skip
            refine g_iinc (pc := 14) C d_M_shortChain_14 rfl (v := nI (k + 1 + 1)) (nI_inc (k + 1)) rfl ?_
            refine g_iload (pc := 17) C d_M_shortChain_17 rfl ?_
            refine g_aload_n (pc := 19) (i := 0) C d_M_shortChain_19 rfl rfl ?_
            refine gf_M_chunk (pc := 20) C fl_M_25 d_M_shortChain_20 ?_
            refine g_bipush (pc := 23) C d_M_shortChain_23 bpn_24 ?_
            refine g_iload_n (pc := 25) (i := 1) C d_M_shortChain_25 rfl rfl ?_
            refine g_imul (pc := 26) C d_M_shortChain_26 ?_
            refine g_iload (pc := 27) C d_M_shortChain_27 rfl ?_
            refine g_iadd (pc := 29) C d_M_shortChain_29 ?_
            simp only [nI_mul, nI_add]
            refine ga_mar (pc := 30) C (by decide) (by decide) (vp_in_nI (show 24 * q + a < 48 by omega) (by decide)) d_M_shortChain_30 ?_
            rw [nI_clamp (show 24 * q + a < 2 ^ 31 by omega), hr.2.1]
            refine g_iadd (pc := 31) C d_M_shortChain_31 ?_
            rw [nI_add]
            refine g_istore (pc := 32) C d_M_shortChain_32 (by decide) rfl ?_
            refine g_aload_n (pc := 34) (i := 0) C d_M_shortChain_34 rfl rfl ?_
            refine gf_M_base (pc := 35) C fl_M_31 d_M_shortChain_35 ?_
            refine g_bipush (pc := 38) C d_M_shortChain_38 bpn_24 ?_
            refine g_iload_n (pc := 40) (i := 1) C d_M_shortChain_40 rfl rfl ?_
            refine g_imul (pc := 41) C d_M_shortChain_41 ?_
            refine g_iload (pc := 42) C d_M_shortChain_42 rfl ?_
            refine g_iadd (pc := 44) C d_M_shortChain_44 ?_
            simp only [nI_mul, nI_add]
            refine ga_mar (pc := 45) C (by decide) (by decide) (vp_in_nI (show 24 * q + a < 48 by omega) (by decide)) d_M_shortChain_45 ?_
            rw [nI_clamp (show 24 * q + a < 2 ^ 31 by omega), hr.2.2.2.1]
            refine g_istore (pc := 46) C d_M_shortChain_46 (by decide) rfl ?_
            refine g_goto (pc := 48) (tgt := 9) C d_M_shortChain_48 (by decide) ?_
            refine G.lf (ih (k + 1) (b + x.siz) x.bas (by omega) (fun e => hc (by rw [e]; rfl)) (by omega) ?_) (sb rfl (sb rfl (sb rfl (sb rfl (sb rfl sn)))))
            rw [he, if_pos (by omega)]
            by_cases h5 : k + 1 ≤ 5
            · rw [if_pos h5, show 5 - k = (5 - (k + 1)) + 1 by omega, fitV_s hxa]
            · rw [if_neg h5, show 5 - k = 0 by omega, fitV_n]
  refine g_iconst (pc := 0) C d_M_shortChain_0 icn_1 ?_
  refine g_istore (pc := 1) C d_M_shortChain_1 (by decide) rfl ?_
  refine g_iload_n (pc := 3) (i := 3) C d_M_shortChain_3 rfl rfl ?_
  refine g_istore (pc := 4) C d_M_shortChain_4 (by decide) rfl ?_
  refine g_iload_n (pc := 6) (i := 2) C d_M_shortChain_6 rfl rfl ?_
  refine g_istore (pc := 7) C d_M_shortChain_7 (by decide) rfl ?_
  exact G.lf (loop 6 0 sz (some n) (by omega) hch (by omega) rfl) (sb rfl (sb rfl (sb rfl (sb rfl (sb rfl sn)))))
set_option maxRecDepth 100000 in
set_option maxHeartbeats 4000000 in
theorem c_M_candidate (l : Launch) {D : Dt} (hD : OkD D) {c m : Cs} {ow : Nat → Int64} {q : Nat} {p1 p2 : Option Nat} {k : Nat} {rs : List Rc} (hq : q < 2) (hc : m.1 4 q = nI rs.length) (hk : k < 3) : Ct l D y_M_candidate b_M_candidate 5 (some .int) 1 [.int (nI k), .int (eo p2), .int (eo p1), .int (nI q), .ref (aMdl D)] ((c, m, ow) : Sg) (some (.int (eo (cnd rs p1 p2 k)))) ((c, m, ow) : Sg) := by
  refine Ct.of hD (by decide) (Nat.le_of_ble_eq_true rfl) [(0, some (.ref (aMdl D))), (1, some (.int (nI q))), (2, some (.int (eo p1))), (3, some (.int (eo p2))), (4, some (.int (nI k)))] rfl (fun X hX C => ?_)
  subst hX
  refine g_iload (pc := 0) C d_M_candidate_0 rfl ?_
  refine g_if_ne (pc := 2) (tgt := 9) C d_M_candidate_2 (by decide) (fun h2 => ?_) (fun h2 => ?_)
  · have h0 : ¬ k = 0 := fun e => h2 (by rw [e, nI_0])
    refine g_iload (pc := 9) C d_M_candidate_9 rfl ?_
    refine g_iconst (pc := 11) C d_M_candidate_11 icn_1 ?_
    refine g_icmp_ne (pc := 12) (tgt := 19) C d_M_candidate_12 (by decide) (fun h12 => ?_) (fun h12 => ?_)
    · have h1 : ¬ k = 1 := fun e => h12 (by rw [e])
      refine g_aload_n (pc := 19) (i := 0) C d_M_candidate_19 rfl rfl ?_
      refine gf_M_count (pc := 20) C fl_M_19 d_M_candidate_20 ?_
      refine g_iload_n (pc := 23) (i := 1) C d_M_candidate_23 rfl rfl ?_
      refine ga_mar (pc := 24) C (by decide) (by decide) (vp_in_nI (show q < 2 by omega) (by decide)) d_M_candidate_24 ?_
      rw [nI_clamp (show q < 2 ^ 31 by omega), hc]
      refine g_iconst (pc := 25) C d_M_candidate_25 icn_1 ?_
      refine g_isub (pc := 26) C d_M_candidate_26 ?_
      refine g_iret (pc := 27) C d_M_candidate_27 ?_
      exact ⟨by unfold cnd; rw [if_neg h0, if_neg h1, lastR_v], rfl⟩
    · have h1 : k = 1 := (nI_eq (by omega) (by decide)).mp h12
      refine g_iload_n (pc := 15) (i := 3) C d_M_candidate_15 rfl rfl ?_
      refine g_goto (pc := 16) (tgt := 27) C d_M_candidate_16 (by decide) ?_
      refine g_iret (pc := 27) C d_M_candidate_27 ?_
      exact ⟨by unfold cnd; rw [if_neg h0, if_pos h1], rfl⟩
  · have h0 : k = 0 := (nI_eq (by omega) (by decide)).mp (h2.trans nI_0.symm)
    refine g_iload_n (pc := 5) (i := 2) C d_M_candidate_5 rfl rfl ?_
    refine g_goto (pc := 6) (tgt := 27) C d_M_candidate_6 (by decide) ?_
    refine g_iret (pc := 27) C d_M_candidate_27 ?_
    exact ⟨by unfold cnd; rw [if_pos h0], rfl⟩
set_option maxRecDepth 100000 in
set_option maxHeartbeats 4000000 in
theorem x_M_chosen (l : Launch) {D : Dt} (hD : OkD D) {c m : Cs} {ow : Nat → Int64} {q : Nat} {p1 p2 : Option Nat} {R : Rp} {t : List Nat} (hq : q < 2) (h : MRep m q R) (yd : By R.dat) (h600 : R.dat.length ≤ 600) (h24 : R.rcs.length ≤ 24) (hw : Wfs R.dat.length R.rcs) (hp1 : ∀ n, p1 = some n → n < R.rcs.length) (hp2 : ∀ n, p2 = some n → n < R.rcs.length) (ht : Bl m 17 3 t) (h60 : t.length ≤ 60) (hy : By t) : Cp l D y_M_chosen b_M_chosen 10 (some .int) 5 [.int (eo p2), .int (eo p1), .int (nI q), .ref (aMdl D)] ((c, m, ow) : Sg) (fun a u => ∃ m2, u = ((c, m2, ow) : Sg) ∧ a = some (.int (eo (choose R.dat R.rcs p1 p2 t).2)) ∧ Mk Pb m m2) := by
  have hcl : ∀ k n, cnd R.rcs p1 p2 k = some n → n < R.rcs.length := fun k n e => by
    unfold cnd at e
    split at e
    · exact hp1 n e
    · split at e
      · exact hp2 n e
      · exact lastR_lt e
  have htk : ∀ {m1 : Cs}, Mk Pb m m1 → Bl m1 17 3 t := fun s => ht.mk s (by unfold Pb; omega) (fun i => by unfold Pb; omega)
  have hle := encS_len t
  have hrl := rl_le t
  refine Cp.of hD (by decide) (Nat.le_of_ble_eq_true rfl) [(0, some (.ref (aMdl D))), (1, some (.int (nI q))), (2, some (.int (eo p1))), (3, some (.int (eo p2)))] rfl (fun X hX C => ?_)
  subst hX
  have loop : ∀ (j k : Nat) (m1 : Cs), k + j = 3 → Mk Pb m m1 → (chw R.dat R.rcs p1 p2 t k).1.length ≤ 121 → G X D (Qp X D (fun a u => ∃ m2, u = ((c, m2, ow) : Sg) ∧ a = some (.int (eo (choose R.dat R.rcs p1 p2 t).2)) ∧ Mk Pb m m2)) (0, 0) ((c, m1, ow) : Sg) 40 [(0, some (.ref (aMdl D))), (1, some (.int (nI q))), (2, some (.int (eo p1))), (3, some (.int (eo p2))), (5, some (.int (nI (chw R.dat R.rcs p1 p2 t k).1.length))), (6, some (.int (eo (chw R.dat R.rcs p1 p2 t k).2))), (7, some (.int (nI k)))] [] := by
    intro j
    induction j with
    | zero =>
      intro k m1 hk s hl
      have hk : k = 3 := by omega
      subst hk
      refine g_iload (pc := 40) C d_M_chosen_40 rfl ?_
      refine g_iconst (pc := 42) C d_M_chosen_42 icn_3 ?_
      refine g_icmp_ge (pc := 43) (tgt := 111) C d_M_chosen_43 (by decide) (fun h43 => ?_) (fun h43 => ?_)
      · skip
        refine g_iload (pc := 111) C d_M_chosen_111 rfl ?_
        refine g_iret (pc := 113) C d_M_chosen_113 ?_
        exact ⟨m1, rfl, by rw [chw_3], s⟩
      · first | exact absurd h43 (nI_le (by omega) (by omega)) | exact absurd (nI_le (by omega) (by omega)) h43
    | succ j ih =>
      intro k m1 hk s hl
      have hst := chw_s (d := R.dat) (rs := R.rcs) (p := p1) (q := p2) (t := t) (w := k)
      cases hcn : cnd R.rcs p1 p2 k with
      | none =>
        rw [hcn] at hst
        have hst : chw R.dat R.rcs p1 p2 t (k + 1) = chw R.dat R.rcs p1 p2 t k := hst
        refine g_iload (pc := 40) C d_M_chosen_40 rfl ?_
        refine g_iconst (pc := 42) C d_M_chosen_42 icn_3 ?_
        refine g_icmp_ge (pc := 43) (tgt := 111) C d_M_chosen_43 (by decide) (fun h43 => ?_) (fun h43 => ?_)
        · first | exact absurd h43 (nI_ge (show k < 3 by omega) (by omega)) | exact absurd (nI_ge (show k < 3 by omega) (by omega)) h43
        · skip
          refine g_aload_n (pc := 46) (i := 0) C d_M_chosen_46 rfl rfl ?_
          refine g_iload_n (pc := 47) (i := 1) C d_M_chosen_47 rfl rfl ?_
          refine g_iload_n (pc := 48) (i := 2) C d_M_chosen_48 rfl rfl ?_
          refine g_iload_n (pc := 49) (i := 3) C d_M_chosen_49 rfl rfl ?_
          refine g_iload (pc := 50) C d_M_chosen_50 rfl ?_
          refine g_callV1 (pc := 52) (As := [_, _, _, _]) C my_M_candidate mv_M_candidate cl_M_120 is_M d_M_chosen_52 (Nat.le_of_ble_eq_true rfl) rfl (Nat.le_of_ble_eq_true rfl) ⟨Nat.zero_le _, Nat.zero_le _⟩ (c_M_candidate _ hD hq (h.pb s).2.1.1 (show k < 3 by omega)) ?_
          rw [hcn]
          refine g_istore (pc := 55) C d_M_chosen_55 (by decide) rfl ?_
          refine g_iload (pc := 57) C d_M_chosen_57 rfl ?_
          refine g_if_lt (pc := 59) (tgt := 105) C d_M_chosen_59 (by decide) (fun h59 => ?_) (fun h59 => ?_)
          · skip
            refine g_iinc (pc := 105) C d_M_chosen_105 rfl (v := nI (k + 1)) (nI_inc k) rfl ?_
            refine g_goto (pc := 108) (tgt := 40) C d_M_chosen_108 (by decide) ?_
            exact G.lf (ih (k + 1) m1 (by omega) (s) (by rw [hst]; exact hl)) (sb rfl (sb rfl (sb rfl (sb rfl (sb (by rw [hst]; rfl) (sb (by rw [hst]; rfl) (sb rfl sn)))))))
          · first | exact absurd h59 (by decide) | exact absurd (by decide) h59
      | some n =>
        have hnl := hcl k n hcn
        rw [hcn] at hst
        refine g_iload (pc := 40) C d_M_chosen_40 rfl ?_
        refine g_iconst (pc := 42) C d_M_chosen_42 icn_3 ?_
        refine g_icmp_ge (pc := 43) (tgt := 111) C d_M_chosen_43 (by decide) (fun h43 => ?_) (fun h43 => ?_)
        · first | exact absurd h43 (nI_ge (show k < 3 by omega) (by omega)) | exact absurd (nI_ge (show k < 3 by omega) (by omega)) h43
        · skip
          refine g_aload_n (pc := 46) (i := 0) C d_M_chosen_46 rfl rfl ?_
          refine g_iload_n (pc := 47) (i := 1) C d_M_chosen_47 rfl rfl ?_
          refine g_iload_n (pc := 48) (i := 2) C d_M_chosen_48 rfl rfl ?_
          refine g_iload_n (pc := 49) (i := 3) C d_M_chosen_49 rfl rfl ?_
          refine g_iload (pc := 50) C d_M_chosen_50 rfl ?_
          refine g_callV1 (pc := 52) (As := [_, _, _, _]) C my_M_candidate mv_M_candidate cl_M_120 is_M d_M_chosen_52 (Nat.le_of_ble_eq_true rfl) rfl (Nat.le_of_ble_eq_true rfl) ⟨Nat.zero_le _, Nat.zero_le _⟩ (c_M_candidate _ hD hq (h.pb s).2.1.1 (show k < 3 by omega)) ?_
          rw [hcn]
          refine G.eq (st' := [.int (nI n)]) rfl rfl rfl ?_
          refine g_istore (pc := 55) C d_M_chosen_55 (by decide) rfl ?_
          refine g_iload (pc := 57) C d_M_chosen_57 rfl ?_
          refine g_if_lt (pc := 59) (tgt := 105) C d_M_chosen_59 (by decide) (fun h59 => ?_) (fun h59 => ?_)
          · first | exact absurd h59 (nI_pos (by omega)) | exact absurd (nI_pos (by omega)) h59
          · skip
            refine g_aload_n (pc := 62) (i := 0) C d_M_chosen_62 rfl rfl ?_
            refine g_iload_n (pc := 63) (i := 1) C d_M_chosen_63 rfl rfl ?_
            refine g_iload (pc := 64) C d_M_chosen_64 rfl ?_
            refine g_callVp (pc := 66) (As := [_, _]) C my_M_build mv_M_build cl_M_124 is_M d_M_chosen_66 (Nat.le_of_ble_eq_true rfl) rfl (Nat.le_of_ble_eq_true rfl) ⟨Nat.zero_le _, Nat.zero_le _⟩ (x_M_build _ hD hq (h.pb s) yd h600 h24 hw hnl) (fun r66 u66 hp66 => ?_)
            obtain ⟨m3, rfl, s3, hp3⟩ := hp66
            have s4 := s.tr s3
            rcases hp3 with ⟨b, e1, rfl, hB⟩ | ⟨e1, rfl⟩
            rotate_left
            · rw [cand_n e1] at hst
              refine g_if_eq (pc := 69) (tgt := 105) C d_M_chosen_69 (by decide) (fun h69 => ?_) (fun h69 => ?_)
              · refine g_iinc (pc := 105) C d_M_chosen_105 rfl (v := nI (k + 1)) (nI_inc k) rfl ?_
                refine g_goto (pc := 108) (tgt := 40) C d_M_chosen_108 (by decide) ?_
                exact G.lf (ih (k + 1) m3 (by omega) (s4) (by rw [hst]; exact hl)) (sb rfl (sb rfl (sb rfl (sb rfl (sb (by rw [hst]; rfl) (sb (by rw [hst]; rfl) (sb rfl sn)))))))
              · exact absurd rfl h69
            have kb := by_built yd e1
            rw [cand_s e1] at hst
            have hlD := encD_l (b := b) (t := t)
            refine g_if_eq (pc := 69) (tgt := 105) C d_M_chosen_69 (by decide) (fun h69 => ?_) (fun h69 => ?_)
            · first | exact absurd h69 (by decide) | exact absurd (by decide) h69
            · skip
              refine g_aload_n (pc := 72) (i := 0) C d_M_chosen_72 rfl rfl ?_
              refine g_callV1 (pc := 73) (As := []) C my_M_difference mv_M_difference cl_M_127 is_M d_M_chosen_73 (Nat.le_of_ble_eq_true rfl) rfl (Nat.le_of_ble_eq_true rfl) ⟨Nat.zero_le _, Nat.zero_le _⟩ (c_M_difference _ hD hB (htk s4) kb.2 h60 kb.1 hy) ?_
              refine g_istore (pc := 76) C d_M_chosen_76 (by decide) rfl ?_
              refine g_iload (pc := 78) C d_M_chosen_78 rfl ?_
              refine g_iload (pc := 80) C d_M_chosen_80 rfl ?_
              refine g_icmp_ge (pc := 82) (tgt := 105) C d_M_chosen_82 (by decide) (fun h82 => ?_) (fun h82 => ?_)
              · have hL : ¬ ((encD b t).length < (chw R.dat R.rcs p1 p2 t k).1.length ∧ fits6 R.rcs n (encD b t).length t.length = true) := fun q => absurd h82 (nI_ge q.1 (by omega))
                rw [if_neg hL] at hst
                refine g_iinc (pc := 105) C d_M_chosen_105 rfl (v := nI (k + 1)) (nI_inc k) rfl ?_
                refine g_goto (pc := 108) (tgt := 40) C d_M_chosen_108 (by decide) ?_
                exact G.lf (ih (k + 1) m3 (by omega) (s4) (by rw [hst]; exact hl)) (sb rfl (sb rfl (sb rfl (sb rfl (sb (by rw [hst]; rfl) (sb (by rw [hst]; rfl) (sb rfl sn)))))))
              · have hL : (encD b t).length < (chw R.dat R.rcs p1 p2 t k).1.length := Nat.not_le.mp fun e => h82 (nI_le e (by omega))
                refine g_aload_n (pc := 85) (i := 0) C d_M_chosen_85 rfl rfl ?_
                refine g_iload_n (pc := 86) (i := 1) C d_M_chosen_86 rfl rfl ?_
                refine g_iload (pc := 87) C d_M_chosen_87 rfl ?_
                refine g_iload (pc := 89) C d_M_chosen_89 rfl ?_
                refine g_callV1 (pc := 91) (As := [_, _, _]) C my_M_shortChain mv_M_shortChain cl_M_130 is_M d_M_chosen_91 (Nat.le_of_ble_eq_true rfl) rfl (Nat.le_of_ble_eq_true rfl) ⟨Nat.zero_le _, Nat.zero_le _⟩ (c_M_shortChain _ hD hq ((h.pb s4).rx h24) hw hnl (htk s4) h60 (by omega)) ?_
                refine g_if_eq (pc := 94) (tgt := 105) C d_M_chosen_94 (by decide) (fun h94 => ?_) (fun h94 => ?_)
                · have hF := b1_0 h94
                  rw [if_neg (fun q => hF q.2)] at hst
                  refine g_iinc (pc := 105) C d_M_chosen_105 rfl (v := nI (k + 1)) (nI_inc k) rfl ?_
                  refine g_goto (pc := 108) (tgt := 40) C d_M_chosen_108 (by decide) ?_
                  exact G.lf (ih (k + 1) m3 (by omega) (s4) (by rw [hst]; exact hl)) (sb rfl (sb rfl (sb rfl (sb rfl (sb (by rw [hst]; rfl) (sb (by rw [hst]; rfl) (sb rfl sn)))))))
                · have hF := b1_1 h94
                  rw [if_pos ⟨hL, hF⟩] at hst
                  refine g_iload (pc := 97) C d_M_chosen_97 rfl ?_
                  refine g_istore (pc := 99) C d_M_chosen_99 (by decide) rfl ?_
                  refine g_iload (pc := 101) C d_M_chosen_101 rfl ?_
                  refine g_istore (pc := 103) C d_M_chosen_103 (by decide) rfl ?_
                  refine g_iinc (pc := 105) C d_M_chosen_105 rfl (v := nI (k + 1)) (nI_inc k) rfl ?_
                  refine g_goto (pc := 108) (tgt := 40) C d_M_chosen_108 (by decide) ?_
                  exact G.lf (ih (k + 1) m3 (by omega) (s4) (by rw [hst]; show (encD b t).length ≤ 121; omega)) (sb rfl (sb rfl (sb rfl (sb rfl (sb (by rw [hst]; rfl ) (sb (by rw [hst]; rfl ) (sb rfl sn)))))))
  refine g_iconst (pc := 0) C d_M_chosen_0 icn_1 ?_
  refine g_iconst (pc := 1) C d_M_chosen_1 icn_2 ?_
  refine g_aload_n (pc := 2) (i := 0) C d_M_chosen_2 rfl rfl ?_
  refine g_callV1 (pc := 3) (As := []) C my_M_runs mv_M_runs cl_M_117 is_M d_M_chosen_3 (Nat.le_of_ble_eq_true rfl) rfl (Nat.le_of_ble_eq_true rfl) ⟨Nat.zero_le _, Nat.zero_le _⟩ (c_M_runs _ hD ht h60 hy) ?_
  refine g_imul (pc := 6) C d_M_chosen_6 ?_
  refine g_iadd (pc := 7) C d_M_chosen_7 ?_
  rw [nI_mul, nI_add]
  refine g_istore (pc := 8) C d_M_chosen_8 (by decide) rfl ?_
  refine g_iload (pc := 10) C d_M_chosen_10 rfl ?_
  refine g_iconst (pc := 12) C d_M_chosen_12 icn_1 ?_
  refine g_aload_n (pc := 13) (i := 0) C d_M_chosen_13 rfl rfl ?_
  refine gf_M_textLen (pc := 14) C fl_M_106 d_M_chosen_14 ?_
  rw [ht.1]
  refine g_iadd (pc := 17) C d_M_chosen_17 ?_
  rw [nI_add]
  refine g_icmp_ge (pc := 18) (tgt := 26) C d_M_chosen_18 (by decide) (fun h18 => ?_) (fun h18 => ?_)
  · have hlt : ¬ 1 + 2 * rl t < 1 + t.length := fun q => absurd h18 (nI_ge q (by omega))
    refine g_iconst (pc := 26) C d_M_chosen_26 icn_1 ?_
    refine g_aload_n (pc := 27) (i := 0) C d_M_chosen_27 rfl rfl ?_
    refine gf_M_textLen (pc := 28) C fl_M_106 d_M_chosen_28 ?_
    refine g_iadd (pc := 31) C d_M_chosen_31 ?_
    rw [ht.1, nI_add]
    refine g_istore (pc := 32) C d_M_chosen_32 (by decide) rfl ?_
    refine g_iconst (pc := 34) C d_M_chosen_34 ic_m1 ?_
    refine g_istore (pc := 35) C d_M_chosen_35 (by decide) rfl ?_
    refine g_iconst (pc := 37) C d_M_chosen_37 icn_0 ?_
    refine g_istore (pc := 38) C d_M_chosen_38 (by decide) rfl ?_
    exact G.lf (loop 3 0 m (by omega) Mk.rf (by show (encS t).length ≤ 121; rw [hle]; split <;> omega)) (sb rfl (sb rfl (sb rfl (sb rfl (sb (by show _ = some (Value.int (nI (encS t).length)); rw [hle, if_neg hlt]; rfl) (sb rfl (sb rfl sn)))))))
  · have hlt : 1 + 2 * rl t < 1 + t.length := Nat.not_le.mp fun e => h18 (nI_le e (by omega))
    refine g_iload (pc := 21) C d_M_chosen_21 rfl ?_
    refine g_goto (pc := 23) (tgt := 32) C d_M_chosen_23 (by decide) ?_
    refine g_istore (pc := 32) C d_M_chosen_32 (by decide) rfl ?_
    refine g_iconst (pc := 34) C d_M_chosen_34 ic_m1 ?_
    refine g_istore (pc := 35) C d_M_chosen_35 (by decide) rfl ?_
    refine g_iconst (pc := 37) C d_M_chosen_37 icn_0 ?_
    refine g_istore (pc := 38) C d_M_chosen_38 (by decide) rfl ?_
    exact G.lf (loop 3 0 m (by omega) Mk.rf (by show (encS t).length ≤ 121; rw [hle]; split <;> omega)) (sb rfl (sb rfl (sb rfl (sb rfl (sb (by show _ = some (Value.int (nI (encS t).length)); rw [hle, if_pos hlt]; rfl) (sb rfl (sb rfl sn)))))))
