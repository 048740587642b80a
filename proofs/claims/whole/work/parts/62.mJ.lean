theorem one_hi : ∀ n, n < 24 → ∀ k, k < 32 → 24 ≤ k → ((1 : Int32) <<< (nI n &&& 31)).toBitVec.getLsbD k = false := by decide +kernel
theorem bitO_hi {o : Option Nat} {k : Nat} (ho : ∀ n, o = some n → n < 24) (hk : 24 ≤ k) : (bitO o).toBitVec.getLsbD k = false := by
  by_cases h : k < 32
  · cases o with
    | none =>
      show (0 : Int32).toBitVec.getLsbD k = _
      simp
    | some n => exact one_hi n (ho n rfl) k h hk
  · exact BitVec.getLsbD_of_ge _ _ (by omega)
theorem pmk_24 {rs : List Rc} {n k : Nat} (hp : Prs rs) (h24 : rs.length ≤ 24) (hk : 24 ≤ k) : (pmk rs n).toBitVec.getLsbD k = false := by
  cases hx : rs[n]? with
  | none =>
    have e : pmk rs n = 0 := by unfold pmk; rw [hx]
    rw [e]
    simp
  | some x =>
    have hn := (List.getElem?_eq_some_iff.mp hx).1
    have e : pmk rs n = bitO x.pa ||| bitO x.pb := by unfold pmk; rw [hx]
    rw [e, or_b, bitO_hi (fun b hb => by have := (hp n x hx).1 b hb; omega) hk, bitO_hi (fun b hb => by have := (hp n x hx).2 b hb; omega) hk]
    rfl
theorem pall_hi {rs : List Rc} {k : Nat} (hp : Prs rs) (h24 : rs.length ≤ 24) : ∀ j, j ≤ k → (pall rs j).toBitVec.getLsbD k = false
  | 0, _ => by
    show (0 : Int32).toBitVec.getLsbD k = _
    simp
  | j + 1, hj => by
    unfold pall
    rw [or_b, pall_hi hp h24 j (by omega)]
    by_cases h : k < 24
    · rw [pmk_hi hp h24 h (by omega)]
      rfl
    · rw [pmk_24 hp h24 (by omega)]
      rfl
theorem pall_lt {rs : List Rc} (hp : Prs rs) (h24 : rs.length ≤ 24) : (pall rs rs.length).toBitVec.toNat < 2 ^ 24 := by
  apply Nat.lt_pow_two_of_testBit
  intro i hi
  rw [BitVec.testBit_toNat]
  exact pall_hi hp h24 _ (by omega)
theorem bct_t {x : Int32} {n : Nat} (h : x.toBitVec.getLsbD n = true) : bct x.toBitVec.toNat (n + 1) = bct x.toBitVec.toNat n + 1 := by
  rw [← BitVec.testBit_toNat, Nat.testBit_eq_decide_div_mod_eq] at h
  show _ + _ = _
  rw [of_decide_eq_true h]
theorem bct_f {x : Int32} {n : Nat} (h : x.toBitVec.getLsbD n = false) : bct x.toBitVec.toNat (n + 1) = bct x.toBitVec.toNat n := by
  rw [← BitVec.testBit_toNat, Nat.testBit_eq_decide_div_mod_eq] at h
  have := of_decide_eq_false h
  show _ + _ = _
  omega
theorem bct_up {x : Int32} {lo : Nat} (h : ∀ k, lo ≤ k → x.toBitVec.getLsbD k = false) : ∀ j, bct x.toBitVec.toNat (lo + j) = bct x.toBitVec.toNat lo
  | 0 => rfl
  | j + 1 => by
    rw [← Nat.add_assoc, bct_f (h _ (by omega)), bct_up h j]
/-- the heads, counted -/
theorem heads_v {rs : List Rc} (hp : Prs rs) (h24 : rs.length ≤ 24) : nI rs.length - bitc (pall rs rs.length) = nI (rs.length - bct (pall rs rs.length).toBitVec.toNat rs.length) := by
  have h := bct_up (x := pall rs rs.length) (lo := rs.length) (fun k hk => pall_hi hp h24 _ hk) (24 - rs.length)
  rw [show rs.length + (24 - rs.length) = 24 by omega] at h
  rw [bitc_b (pall_lt hp h24), h, pk_sub (bct_le _ _)]
theorem WfR.prs {R : Rp} (h : WfR R) (hd : R.dwn = false) : Prs R.rcs := WfR.par (h.2.2.2.2.2.2 (Or.inr hd))
theorem eo_is {o : Option Nat} {n : Nat} (ho : ∀ k, o = some k → k < 2 ^ 31) (hn : n < 2 ^ 31) : eo o = nI n ↔ o = some n := by
  cases o with
  | none => exact ⟨fun e => absurd e.symm (nI_m1 hn), fun e => by cases e⟩
  | some k => exact ⟨fun e => by rw [(nI_eq (ho k rfl) hn).mp e], fun e => by cases e; rfl⟩
set_option maxRecDepth 100000 in
set_option maxHeartbeats 4000000 in
theorem c_M_ancestors (l : Launch) {D : Dt} (hD : OkD D) {c m : Cs} {ow : Nat → Int64} {q : Nat} {n : Nat} {rs : List Rc} (hq : q < 2) (hx : MRx m q rs) (hp : Prs rs) (hn : n < rs.length) : Ct l D y_M_ancestors b_M_ancestors 7 (some .int) 1 [.int (nI n), .int (nI q), .ref (aMdl D)] ((c, m, ow) : Sg) (some (.int (anc rs n))) ((c, m, ow) : Sg) := by
  have h24 := hx.1
  refine Ct.of hD (by decide) (Nat.le_of_ble_eq_true rfl) [(0, some (.ref (aMdl D))), (1, some (.int (nI q))), (2, some (.int (nI n)))] rfl (fun X hX C => ?_)
  subst hX
  have loop : ∀ (k : Nat) (s : Int32), k ≤ rs.length → ancL rs k s = anc rs n → G X D (Qp X D (fun r2 u => r2 = some (.int (anc rs n)) ∧ u = ((c, m, ow) : Sg))) (0, 0) ((c, m, ow) : Sg) 7 [(0, some (.ref (aMdl D))), (1, some (.int (nI q))), (3, some (.int s)), (4, some (.int (eo (pd k))))] [] := by
    intro k
    induction k with
    | zero =>
      intro s hk he
      refine g_iload (pc := 7) C d_M_ancestors_7 rfl ?_
      refine g_if_lt (pc := 9) (tgt := 86) C d_M_ancestors_9 (by decide) (fun h9 => ?_) (fun h9 => ?_)
      · skip
        refine g_iload_n (pc := 86) (i := 3) C d_M_ancestors_86 rfl rfl ?_
        refine g_iret (pc := 87) C d_M_ancestors_87 ?_
        exact ⟨by rw [← he]; rfl, rfl⟩
      · first | exact absurd h9 (by decide) | exact absurd (by decide) h9
    | succ k ih =>
      intro s hk he
      have he : ancL rs k (if bitq s k = 0 then s else s ||| pmk rs k) = anc rs n := he
      obtain ⟨x, hxn⟩ : ∃ x, rs[k]? = some x := ⟨_, List.getElem?_eq_getElem (show k < rs.length by omega)⟩
      have hr := hx.2 k x hxn
      have hpx := hp k x hxn
      have epm : pmk rs k = bitO x.pa ||| bitO x.pb := by unfold pmk; rw [hxn]
      have t64 : ancL rs k (s ||| (bitO x.pa ||| bitO x.pb)) = anc rs n → G X D (Qp X D (fun r2 u => r2 = some (.int (anc rs n)) ∧ u = ((c, m, ow) : Sg))) (0, 0) ((c, m, ow) : Sg) 64 [(0, some (.ref (aMdl D))), (1, some (.int (nI q))), (4, some (.int (nI k))), (6, some (.int (eo x.pb)))] [.int (bitO x.pa), .int s] := by
        intro he
        cases hpb : x.pb with
        | none =>
          rw [hpb] at he
          refine g_iload (pc := 64) C d_M_ancestors_64 rfl ?_
          refine g_if_ge (pc := 66) (tgt := 73) C d_M_ancestors_66 (by decide) (fun h66 => ?_) (fun h66 => ?_)
          · first | exact absurd h66 (by decide) | exact absurd (by decide) h66
          · skip
            refine g_iconst (pc := 69) C d_M_ancestors_69 ic_0 ?_
            refine g_goto (pc := 70) (tgt := 77) C d_M_ancestors_70 (by decide) ?_
            refine g_ior (pc := 77) C d_M_ancestors_77 ?_
            refine g_ior (pc := 78) C d_M_ancestors_78 ?_
            refine g_istore_n (pc := 79) (i := 3) C d_M_ancestors_79 rfl (by decide) rfl ?_
            refine g_iinc (pc := 80) C d_M_ancestors_80 rfl (v := eo (pd k)) (pd_dec k) rfl ?_
            refine g_goto (pc := 83) (tgt := 7) C d_M_ancestors_83 (by decide) ?_
            exact G.lf (ih _ (by omega) he) (sb rfl (sb rfl (sb rfl (sb rfl sn))))
        | some b =>
          have hb := hpx.2 b hpb
          rw [hpb] at he
          show G X D _ (0, 0) _ 64 [(0, some (.ref (aMdl D))), (1, some (.int (nI q))), (4, some (.int (nI k))), (6, some (.int (nI b)))] _
          refine g_iload (pc := 64) C d_M_ancestors_64 rfl ?_
          refine g_if_ge (pc := 66) (tgt := 73) C d_M_ancestors_66 (by decide) (fun h66 => ?_) (fun h66 => ?_)
          · skip
            refine g_iconst (pc := 73) C d_M_ancestors_73 ic_1 ?_
            refine g_iload (pc := 74) C d_M_ancestors_74 rfl ?_
            refine g_ishl (pc := 76) C d_M_ancestors_76 ?_
            refine g_ior (pc := 77) C d_M_ancestors_77 ?_
            refine g_ior (pc := 78) C d_M_ancestors_78 ?_
            refine g_istore_n (pc := 79) (i := 3) C d_M_ancestors_79 rfl (by decide) rfl ?_
            refine g_iinc (pc := 80) C d_M_ancestors_80 rfl (v := eo (pd k)) (pd_dec k) rfl ?_
            refine g_goto (pc := 83) (tgt := 7) C d_M_ancestors_83 (by decide) ?_
            exact G.lf (ih _ (by omega) he) (sb rfl (sb rfl (sb rfl (sb rfl sn))))
          · first | exact absurd h66 (nI_pos' (by omega)) | exact absurd (nI_pos' (by omega)) h66
      show G X D _ (0, 0) _ 7 [(0, some (.ref (aMdl D))), (1, some (.int (nI q))), (3, some (.int s)), (4, some (.int (nI k)))] []
      refine g_iload (pc := 7) C d_M_ancestors_7 rfl ?_
      refine g_if_lt (pc := 9) (tgt := 86) C d_M_ancestors_9 (by decide) (fun h9 => ?_) (fun h9 => ?_)
      · first | exact absurd h9 (nI_pos (by omega)) | exact absurd (nI_pos (by omega)) h9
      · skip
        refine g_iload_n (pc := 12) (i := 3) C d_M_ancestors_12 rfl rfl ?_
        refine g_iload (pc := 13) C d_M_ancestors_13 rfl ?_
        refine g_ishr (pc := 15) C d_M_ancestors_15 ?_
        refine g_iconst (pc := 16) C d_M_ancestors_16 ic_1 ?_
        refine g_iand (pc := 17) C d_M_ancestors_17 ?_
        refine g_iconst (pc := 18) C d_M_ancestors_18 ic_1 ?_
        refine g_icmp_ne (pc := 19) (tgt := 80) C d_M_ancestors_19 (by decide) (fun h19 => ?_) (fun h19 => ?_)
        · have hb : bitq s k = 0 := Classical.byContradiction fun e => h19 ((bq_1 (by omega)).mpr e)
          rw [if_pos hb] at he
          refine g_iinc (pc := 80) C d_M_ancestors_80 rfl (v := eo (pd k)) (pd_dec k) rfl ?_
          refine g_goto (pc := 83) (tgt := 7) C d_M_ancestors_83 (by decide) ?_
          exact G.lf (ih _ (by omega) he) (sb rfl (sb rfl (sb rfl (sb rfl sn))))
        · have hb : ¬ bitq s k = 0 := (bq_1 (by omega)).mp h19
          rw [if_neg hb, epm] at he
          refine g_aload_n (pc := 22) (i := 0) C d_M_ancestors_22 rfl rfl ?_
          refine gf_M_first (pc := 23) C fl_M_34 d_M_ancestors_23 ?_
          refine g_bipush (pc := 26) C d_M_ancestors_26 bpn_24 ?_
          refine g_iload_n (pc := 28) (i := 1) C d_M_ancestors_28 rfl rfl ?_
          refine g_imul (pc := 29) C d_M_ancestors_29 ?_
          refine g_iload (pc := 30) C d_M_ancestors_30 rfl ?_
          refine g_iadd (pc := 32) C d_M_ancestors_32 ?_
          simp only [nI_mul, nI_add]
          refine ga_mar (pc := 33) C (by decide) (by decide) (vp_in_nI (show 24 * q + k < 48 by omega) (by decide)) d_M_ancestors_33 ?_
          rw [nI_clamp (show 24 * q + k < 2 ^ 31 by omega), hr.2.2.2.2.1]
          refine g_istore (pc := 34) C d_M_ancestors_34 (by decide) rfl ?_
          refine g_aload_n (pc := 36) (i := 0) C d_M_ancestors_36 rfl rfl ?_
          refine gf_M_second (pc := 37) C fl_M_37 d_M_ancestors_37 ?_
          refine g_bipush (pc := 40) C d_M_ancestors_40 bpn_24 ?_
          refine g_iload_n (pc := 42) (i := 1) C d_M_ancestors_42 rfl rfl ?_
          refine g_imul (pc := 43) C d_M_ancestors_43 ?_
          refine g_iload (pc := 44) C d_M_ancestors_44 rfl ?_
          refine g_iadd (pc := 46) C d_M_ancestors_46 ?_
          simp only [nI_mul, nI_add]
          refine ga_mar (pc := 47) C (by decide) (by decide) (vp_in_nI (show 24 * q + k < 48 by omega) (by decide)) d_M_ancestors_47 ?_
          rw [nI_clamp (show 24 * q + k < 2 ^ 31 by omega), hr.2.2.2.2.2.1]
          refine g_istore (pc := 48) C d_M_ancestors_48 (by decide) rfl ?_
          refine g_iload_n (pc := 50) (i := 3) C d_M_ancestors_50 rfl rfl ?_
          refine g_iload (pc := 51) C d_M_ancestors_51 rfl ?_
          cases hpa : x.pa with
          | none =>
            rw [hpa] at t64 he
            refine g_if_ge (pc := 53) (tgt := 60) C d_M_ancestors_53 (by decide) (fun h53 => ?_) (fun h53 => ?_)
            · first | exact absurd h53 (by decide) | exact absurd (by decide) h53
            · skip
              refine g_iconst (pc := 56) C d_M_ancestors_56 ic_0 ?_
              refine g_goto (pc := 57) (tgt := 64) C d_M_ancestors_57 (by decide) ?_
              exact G.lf (t64 he) (sb rfl (sb rfl (sb rfl (sb rfl sn))))
          | some b =>
            have hb := hpx.1 b hpa
            rw [hpa] at t64 he
            show G X D _ (0, 0) _ 53 _ [.int (nI b), .int s]
            refine g_if_ge (pc := 53) (tgt := 60) C d_M_ancestors_53 (by decide) (fun h53 => ?_) (fun h53 => ?_)
            · skip
              refine g_iconst (pc := 60) C d_M_ancestors_60 ic_1 ?_
              refine g_iload (pc := 61) C d_M_ancestors_61 rfl ?_
              refine g_ishl (pc := 63) C d_M_ancestors_63 ?_
              exact G.lf (t64 he) (sb rfl (sb rfl (sb rfl (sb rfl sn))))
            · first | exact absurd h53 (nI_pos' (by omega)) | exact absurd (nI_pos' (by omega)) h53
  refine g_iconst (pc := 0) C d_M_ancestors_0 ic_1 ?_
  refine g_iload_n (pc := 1) (i := 2) C d_M_ancestors_1 rfl rfl ?_
  refine g_ishl (pc := 2) C d_M_ancestors_2 ?_
  refine g_istore_n (pc := 3) (i := 3) C d_M_ancestors_3 rfl (by decide) rfl ?_
  refine g_iload_n (pc := 4) (i := 2) C d_M_ancestors_4 rfl rfl ?_
  refine g_istore (pc := 5) C d_M_ancestors_5 (by decide) rfl ?_
  exact G.lf (loop (n + 1) _ (by omega) rfl) (sb rfl (sb rfl (sb rfl (sb rfl sn))))
set_option maxRecDepth 100000 in
set_option maxHeartbeats 4000000 in
theorem c_M_common (l : Launch) {D : Dt} (hD : OkD D) {c m : Cs} {ow : Nat → Int64} {r : Int32} {V : Vt} {a b : Int32} (h : MAbs m V) (hW : WfV V) : Ct l D y_M_common b_M_common 8 (some .int) 3 [.int b, .int a, .int r, .ref (aMdl D)] ((c, m, ow) : Sg) (some (.int (oCommon V r a b))) ((c, wI m 0 0 0, ow) : Sg) := by
  refine Ct.of hD (by decide) (Nat.le_of_ble_eq_true rfl) [(0, some (.ref (aMdl D))), (1, some (.int r)), (2, some (.int a)), (3, some (.int b))] rfl (fun X hX C => ?_)
  subst hX
  have loop : ∀ (y : Int32) (res : Option Nat), gcl y 24 = res → ∀ (j n : Nat), n + j = 24 → G X D (Qp X D (fun r2 u => r2 = some (.int (eo res)) ∧ u = ((c, wI m 0 0 0, ow) : Sg))) (0, 0) ((c, wI m 0 0 0, ow) : Sg) 56 [(5, some (.int y)), (6, some (.int (eo (gcl y n)))), (7, some (.int (nI n)))] [] := by
    intro y res hres j
    induction j with
    | zero =>
      intro n hn
      have hn : n = 24 := by omega
      subst hn
      refine g_iload (pc := 56) C d_M_common_56 rfl ?_
      refine g_bipush (pc := 58) C d_M_common_58 bpn_24 ?_
      refine g_icmp_ge (pc := 60) (tgt := 89) C d_M_common_60 (by decide) (fun h60 => ?_) (fun h60 => ?_)
      · skip
        refine g_iload (pc := 89) C d_M_common_89 rfl ?_
        refine g_iret (pc := 91) C d_M_common_91 ?_
        exact ⟨by rw [hres], rfl⟩
      · first | exact absurd h60 (nI_le (by omega) (by omega)) | exact absurd (nI_le (by omega) (by omega)) h60
    | succ j ih =>
      intro n hn
      have hg : gcl y (n + 1) = if bitq y n = 0 then gcl y n else some n := rfl
      have k1 := ih (n + 1) (by omega)
      refine g_iload (pc := 56) C d_M_common_56 rfl ?_
      refine g_bipush (pc := 58) C d_M_common_58 bpn_24 ?_
      refine g_icmp_ge (pc := 60) (tgt := 89) C d_M_common_60 (by decide) (fun h60 => ?_) (fun h60 => ?_)
      · first | exact absurd h60 (nI_ge (show n < 24 by omega) (by omega)) | exact absurd (nI_ge (show n < 24 by omega) (by omega)) h60
      · skip
        refine g_iload (pc := 63) C d_M_common_63 rfl ?_
        refine g_iload (pc := 65) C d_M_common_65 rfl ?_
        refine g_ishr (pc := 67) C d_M_common_67 ?_
        refine g_iconst (pc := 68) C d_M_common_68 ic_1 ?_
        refine g_iand (pc := 69) C d_M_common_69 ?_
        refine g_iconst (pc := 70) C d_M_common_70 ic_1 ?_
        refine g_icmp_ne (pc := 71) (tgt := 79) C d_M_common_71 (by decide) (fun h71 => ?_) (fun h71 => ?_)
        · have hb : bitq y n = 0 := Classical.byContradiction fun e => h71 ((bq_1 (by omega)).mpr e)
          refine g_iload (pc := 79) C d_M_common_79 rfl ?_
          refine g_istore (pc := 81) C d_M_common_81 (by decide) rfl ?_
          refine g_iinc (pc := 83) C d_M_common_83 rfl (v := nI (n + 1)) (nI_inc n) rfl ?_
          refine g_goto (pc := 86) (tgt := 56) C d_M_common_86 (by decide) ?_
          rw [hg, if_pos hb] at k1
          exact G.lf k1 (sb rfl (sb rfl (sb rfl sn)))
        · have hb : ¬ bitq y n = 0 := (bq_1 (by omega)).mp h71
          refine g_iload (pc := 74) C d_M_common_74 rfl ?_
          refine g_goto (pc := 76) (tgt := 81) C d_M_common_76 (by decide) ?_
          refine g_istore (pc := 81) C d_M_common_81 (by decide) rfl ?_
          refine g_iinc (pc := 83) C d_M_common_83 rfl (v := nI (n + 1)) (nI_inc n) rfl ?_
          refine g_goto (pc := 86) (tgt := 56) C d_M_common_86 (by decide) ?_
          rw [hg, if_neg hb] at k1
          exact G.lf k1 (sb rfl (sb rfl (sb rfl sn)))
  refine g_aload_n (pc := 0) (i := 0) C d_M_common_0 rfl rfl ?_
  refine g_iload_n (pc := 1) (i := 1) C d_M_common_1 rfl rfl ?_
  refine g_callV1 (pc := 2) (As := [_]) C my_M_shut mv_M_shut cl_M_184 is_M d_M_common_2 (Nat.le_of_ble_eq_true rfl) rfl (Nat.le_of_ble_eq_true rfl) ⟨Nat.zero_le _, Nat.zero_le _⟩ (c_M_shut _ hD h) ?_
  refine g_istore (pc := 5) C d_M_common_5 (by decide) rfl ?_
  refine g_iload (pc := 7) C d_M_common_7 rfl ?_
  refine g_if_ge (pc := 9) (tgt := 15) C d_M_common_9 (by decide) (fun h9 => ?_) (fun h9 => ?_)
  · have hb := bar_ge.mp h9
    obtain ⟨q, hq, rfl, hd⟩ := bar_0 hb
    have hR := (mw0 h 0).rep hq
    have wR := hW.rep hq
    have h24 := wR.2.2.1
    have hprs := wR.prs hd
    have ho : oCommon V (nI q) a b = if (0 ≤ a ∧ a < nI (V.2 q).rcs.length) ∧ (0 ≤ b ∧ b < nI (V.2 q).rcs.length) then eo (gcl (anc (V.2 q).rcs a.toNatClampNeg &&& anc (V.2 q).rcs b.toNatClampNeg) (min a.toNatClampNeg b.toNatClampNeg + 1)) else -1 := by unfold oCommon; rw [if_pos hb, nI_clamp (by omega)]
    refine g_aload_n (pc := 15) (i := 0) C d_M_common_15 rfl rfl ?_
    refine g_iload_n (pc := 16) (i := 1) C d_M_common_16 rfl rfl ?_
    refine g_iload_n (pc := 17) (i := 2) C d_M_common_17 rfl rfl ?_
    refine g_callV1 (pc := 18) (As := [_, _]) C my_M_isRevision mv_M_isRevision cl_M_172 is_M d_M_common_18 (Nat.le_of_ble_eq_true rfl) rfl (Nat.le_of_ble_eq_true rfl) ⟨Nat.zero_le _, Nat.zero_le _⟩ (c_M_isRevision _ hD hq hR.2.1.1) ?_
    refine g_if_eq (pc := 21) (tgt := 33) C d_M_common_21 (by decide) (fun h21 => ?_) (fun h21 => ?_)
    · rw [if_neg (fun e => b1_0 h21 e.1)] at ho
      refine g_iconst (pc := 33) C d_M_common_33 ic_m1 ?_
      refine g_iret (pc := 34) C d_M_common_34 ?_
      exact ⟨by rw [ho], rfl⟩
    · have ha := b1_1 h21
      refine g_aload_n (pc := 24) (i := 0) C d_M_common_24 rfl rfl ?_
      refine g_iload_n (pc := 25) (i := 1) C d_M_common_25 rfl rfl ?_
      refine g_iload_n (pc := 26) (i := 3) C d_M_common_26 rfl rfl ?_
      refine g_callV1 (pc := 27) (As := [_, _]) C my_M_isRevision mv_M_isRevision cl_M_172 is_M d_M_common_27 (Nat.le_of_ble_eq_true rfl) rfl (Nat.le_of_ble_eq_true rfl) ⟨Nat.zero_le _, Nat.zero_le _⟩ (c_M_isRevision _ hD hq hR.2.1.1) ?_
      refine g_if_ne (pc := 30) (tgt := 35) C d_M_common_30 (by decide) (fun h30 => ?_) (fun h30 => ?_)
      · have hbb := b1_1 h30
        rw [if_pos ⟨ha, hbb⟩] at ho
        obtain ⟨i, hi, rfl⟩ := nI_at ha (by omega)
        obtain ⟨k, hk, rfl⟩ := nI_at hbb (by omega)
        rw [nI_clamp (by omega), nI_clamp (by omega)] at ho
        refine g_aload_n (pc := 35) (i := 0) C d_M_common_35 rfl rfl ?_
        refine g_iload_n (pc := 36) (i := 1) C d_M_common_36 rfl rfl ?_
        refine g_iload_n (pc := 37) (i := 2) C d_M_common_37 rfl rfl ?_
        refine g_callV1 (pc := 38) (As := [_, _]) C my_M_ancestors mv_M_ancestors cl_M_187 is_M d_M_common_38 (Nat.le_of_ble_eq_true rfl) rfl (Nat.le_of_ble_eq_true rfl) ⟨Nat.zero_le _, Nat.zero_le _⟩ (c_M_ancestors _ hD hq (hR.rx h24) hprs hi) ?_
        refine g_aload_n (pc := 41) (i := 0) C d_M_common_41 rfl rfl ?_
        refine g_iload_n (pc := 42) (i := 1) C d_M_common_42 rfl rfl ?_
        refine g_iload_n (pc := 43) (i := 3) C d_M_common_43 rfl rfl ?_
        refine g_callV1 (pc := 44) (As := [_, _]) C my_M_ancestors mv_M_ancestors cl_M_187 is_M d_M_common_44 (Nat.le_of_ble_eq_true rfl) rfl (Nat.le_of_ble_eq_true rfl) ⟨Nat.zero_le _, Nat.zero_le _⟩ (c_M_ancestors _ hD hq (hR.rx h24) hprs hk) ?_
        refine g_iand (pc := 47) C d_M_common_47 ?_
        refine g_istore (pc := 48) C d_M_common_48 (by decide) rfl ?_
        refine g_iconst (pc := 50) C d_M_common_50 ic_m1 ?_
        refine g_istore (pc := 51) C d_M_common_51 (by decide) rfl ?_
        refine g_iconst (pc := 53) C d_M_common_53 icn_0 ?_
        refine g_istore (pc := 54) C d_M_common_54 (by decide) rfl ?_
        rw [ho]
        exact G.lf (loop _ _ (gcl_24 hprs h24 (by omega) (by omega)) 24 0 (by omega)) (sb rfl (sb rfl (sb rfl sn)))
      · rw [if_neg (fun e => b1_0 h30 e.2)] at ho
        refine g_iconst (pc := 33) C d_M_common_33 ic_m1 ?_
        refine g_iret (pc := 34) C d_M_common_34 ?_
        exact ⟨by rw [ho], rfl⟩
  · have hb : ¬ barV V r = 0 := fun e => h9 (bar_ge.mpr e)
    refine g_iload (pc := 12) C d_M_common_12 rfl ?_
    refine g_iret (pc := 14) C d_M_common_14 ?_
    exact ⟨by unfold oCommon; rw [if_neg hb], rfl⟩
set_option maxRecDepth 100000 in
set_option maxHeartbeats 4000000 in
theorem c_M_heads (l : Launch) {D : Dt} (hD : OkD D) {c m : Cs} {ow : Nat → Int64} {r : Int32} {V : Vt} (h : MAbs m V) (hW : WfV V) : Ct l D y_M_heads b_M_heads 7 (some .int) 3 [.int r, .ref (aMdl D)] ((c, m, ow) : Sg) (some (.int (oHeads V r))) ((c, wI m 0 0 0, ow) : Sg) := by
  refine Ct.of hD (by decide) (Nat.le_of_ble_eq_true rfl) [(0, some (.ref (aMdl D))), (1, some (.int r))] rfl (fun X hX C => ?_)
  subst hX
  have loop : ∀ (q : Nat), q < 2 → (V.2 q).dwn = false → ∀ (j n : Nat), n + j = (V.2 q).rcs.length → G X D (Qp X D (fun r2 u => r2 = some (.int (nI ((V.2 q).rcs.length - (bct (pall (V.2 q).rcs (V.2 q).rcs.length).toBitVec.toNat (V.2 q).rcs.length)))) ∧ u = ((c, wI m 0 0 0, ow) : Sg))) (0, 0) ((c, wI m 0 0 0, ow) : Sg) 11 [(0, some (.ref (aMdl D))), (1, some (.int (nI q))), (2, some (.int 0)), (3, some (.int (nI (n - (bct (pall (V.2 q).rcs (V.2 q).rcs.length).toBitVec.toNat n))))), (4, some (.int (nI n)))] [] := by
    intro q hq hd j
    have hR := (mw0 h 0).rep hq
    have wR := hW.rep hq
    have h24 := wR.2.2.1
    have hprs := wR.prs hd
    induction j with
    | zero =>
      intro n hn
      have hn : n = (V.2 q).rcs.length := by omega
      subst hn
      refine g_iload_n (pc := 11) (i := 2) C d_M_heads_11 rfl rfl ?_
      refine g_if_ne (pc := 12) (tgt := 114) C d_M_heads_12 (by decide) (fun h12 => ?_) (fun h12 => ?_)
      · first | exact absurd h12 (rfl) | exact absurd (rfl) h12
      · skip
        refine g_iload (pc := 15) C d_M_heads_15 rfl ?_
        refine g_aload_n (pc := 17) (i := 0) C d_M_heads_17 rfl rfl ?_
        refine gf_M_count (pc := 18) C fl_M_19 d_M_heads_18 ?_
        refine g_iload_n (pc := 21) (i := 1) C d_M_heads_21 rfl rfl ?_
        refine ga_mar (pc := 22) C (by decide) (by decide) (vp_in_nI (show q < 2 by omega) (by decide)) d_M_heads_22 ?_
        rw [nI_clamp (show q < 2 ^ 31 by omega), hR.2.1.1]
        refine g_icmp_ge (pc := 23) (tgt := 114) C d_M_heads_23 (by decide) (fun h23 => ?_) (fun h23 => ?_)
        · skip
          refine g_iload_n (pc := 114) (i := 2) C d_M_heads_114 rfl rfl ?_
          refine g_if_ge (pc := 115) (tgt := 122) C d_M_heads_115 (by decide) (fun h115 => ?_) (fun h115 => ?_)
          · skip
            refine g_iload_n (pc := 122) (i := 3) C d_M_heads_122 rfl rfl ?_
            refine g_iret (pc := 123) C d_M_heads_123 ?_
            exact ⟨rfl, rfl⟩
          · first | exact absurd h115 (by decide) | exact absurd (by decide) h115
        · first | exact absurd h23 (nI_le (by omega) (by omega)) | exact absurd (nI_le (by omega) (by omega)) h23
    | succ j ih =>
      intro n hn
      have hnl : n < (V.2 q).rcs.length := by omega
      have hle := bct_le (pall (V.2 q).rcs (V.2 q).rcs.length).toBitVec.toNat n
      have k1 := ih (n + 1) (by omega)
      have inner : ∀ (i k : Nat), k + i = (V.2 q).rcs.length → G X D (Qp X D (fun r2 u => r2 = some (.int (nI ((V.2 q).rcs.length - (bct (pall (V.2 q).rcs (V.2 q).rcs.length).toBitVec.toNat (V.2 q).rcs.length)))) ∧ u = ((c, wI m 0 0 0, ow) : Sg))) (0, 0) ((c, wI m 0 0 0, ow) : Sg) 32 [(0, some (.ref (aMdl D))), (1, some (.int (nI q))), (2, some (.int 0)), (3, some (.int (nI (n - (bct (pall (V.2 q).rcs (V.2 q).rcs.length).toBitVec.toNat n))))), (4, some (.int (nI n))), (5, some (.int (b1 ((pall (V.2 q).rcs k).toBitVec.getLsbD n = true)))), (6, some (.int (nI k)))] [] := by
        intro i
        induction i with
        | zero =>
          intro k hk
          have hk : k = (V.2 q).rcs.length := by omega
          subst hk
          refine g_iload (pc := 32) C d_M_heads_32 rfl ?_
          refine g_aload_n (pc := 34) (i := 0) C d_M_heads_34 rfl rfl ?_
          refine gf_M_count (pc := 35) C fl_M_19 d_M_heads_35 ?_
          refine g_iload_n (pc := 38) (i := 1) C d_M_heads_38 rfl rfl ?_
          refine ga_mar (pc := 39) C (by decide) (by decide) (vp_in_nI (show q < 2 by omega) (by decide)) d_M_heads_39 ?_
          rw [nI_clamp (show q < 2 ^ 31 by omega), hR.2.1.1]
          refine g_icmp_ge (pc := 40) (tgt := 95) C d_M_heads_40 (by decide) (fun h40 => ?_) (fun h40 => ?_)
          · skip
            refine g_iload (pc := 95) C d_M_heads_95 rfl ?_
            refine g_if_eq (pc := 97) (tgt := 104) C d_M_heads_97 (by decide) (fun h97 => ?_) (fun h97 => ?_)
            · have hb : (pall (V.2 q).rcs (V.2 q).rcs.length).toBitVec.getLsbD n = false := by simpa using b1_0 h97
              rw [bct_f hb, show n + 1 - (bct (pall (V.2 q).rcs (V.2 q).rcs.length).toBitVec.toNat n) = n - (bct (pall (V.2 q).rcs (V.2 q).rcs.length).toBitVec.toNat n) + 1 by omega] at k1
              refine g_iload_n (pc := 104) (i := 3) C d_M_heads_104 rfl rfl ?_
              refine g_iconst (pc := 105) C d_M_heads_105 icn_1 ?_
              refine g_iadd (pc := 106) C d_M_heads_106 ?_
              rw [nI_add]
              refine g_istore_n (pc := 107) (i := 3) C d_M_heads_107 rfl (by decide) rfl ?_
              refine g_iinc (pc := 108) C d_M_heads_108 rfl (v := nI (n + 1)) (nI_inc n) rfl ?_
              refine g_goto (pc := 111) (tgt := 11) C d_M_heads_111 (by decide) ?_
              exact G.lf k1 (sb rfl (sb rfl (sb rfl (sb rfl (sb rfl sn)))))
            · have hb := b1_1 h97
              rw [bct_t hb, show n + 1 - ((bct (pall (V.2 q).rcs (V.2 q).rcs.length).toBitVec.toNat n) + 1) = n - (bct (pall (V.2 q).rcs (V.2 q).rcs.length).toBitVec.toNat n) by omega] at k1
              refine g_iload_n (pc := 100) (i := 3) C d_M_heads_100 rfl rfl ?_
              refine g_goto (pc := 101) (tgt := 107) C d_M_heads_101 (by decide) ?_
              refine g_istore_n (pc := 107) (i := 3) C d_M_heads_107 rfl (by decide) rfl ?_
              refine g_iinc (pc := 108) C d_M_heads_108 rfl (v := nI (n + 1)) (nI_inc n) rfl ?_
              refine g_goto (pc := 111) (tgt := 11) C d_M_heads_111 (by decide) ?_
              exact G.lf k1 (sb rfl (sb rfl (sb rfl (sb rfl (sb rfl sn)))))
          · first | exact absurd h40 (nI_le (by omega) (by omega)) | exact absurd (nI_le (by omega) (by omega)) h40
        | succ i ih2 =>
          intro k hk
          obtain ⟨x, hxk⟩ : ∃ x, (V.2 q).rcs[k]? = some x := ⟨_, List.getElem?_eq_getElem (show k < (V.2 q).rcs.length by omega)⟩
          have hr := hR.2.1.2 k x hxk
          have hpx := hprs k x hxk
          have hbit : (pall (V.2 q).rcs (k + 1)).toBitVec.getLsbD n = ((pall (V.2 q).rcs k).toBitVec.getLsbD n || (decide (x.pa = some n) || decide (x.pb = some n))) := by
            show (pall (V.2 q).rcs k ||| pmk (V.2 q).rcs k).toBitVec.getLsbD n = _
            rw [or_b, pmk_b hprs h24 hxk (by omega)]
          have t87 : ∀ g : Int32, g = b1 ((pall (V.2 q).rcs (k + 1)).toBitVec.getLsbD n = true) → G X D (Qp X D (fun r2 u => r2 = some (.int (nI ((V.2 q).rcs.length - (bct (pall (V.2 q).rcs (V.2 q).rcs.length).toBitVec.toNat (V.2 q).rcs.length)))) ∧ u = ((c, wI m 0 0 0, ow) : Sg))) (0, 0) ((c, wI m 0 0 0, ow) : Sg) 87 [(0, some (.ref (aMdl D))), (1, some (.int (nI q))), (2, some (.int 0)), (3, some (.int (nI (n - (bct (pall (V.2 q).rcs (V.2 q).rcs.length).toBitVec.toNat n))))), (4, some (.int (nI n))), (6, some (.int (nI k)))] [.int g] := by
            intro g hg
            subst hg
            refine g_istore (pc := 87) C d_M_heads_87 (by decide) rfl ?_
            refine g_iinc (pc := 89) C d_M_heads_89 rfl (v := nI (k + 1)) (nI_inc k) rfl ?_
            refine g_goto (pc := 92) (tgt := 32) C d_M_heads_92 (by decide) ?_
            exact G.lf (ih2 (k + 1) (by omega)) (sb rfl (sb rfl (sb rfl (sb rfl (sb rfl (sb rfl (sb rfl sn)))))))
          refine g_iload (pc := 32) C d_M_heads_32 rfl ?_
          refine g_aload_n (pc := 34) (i := 0) C d_M_heads_34 rfl rfl ?_
          refine gf_M_count (pc := 35) C fl_M_19 d_M_heads_35 ?_
          refine g_iload_n (pc := 38) (i := 1) C d_M_heads_38 rfl rfl ?_
          refine ga_mar (pc := 39) C (by decide) (by decide) (vp_in_nI (show q < 2 by omega) (by decide)) d_M_heads_39 ?_
          rw [nI_clamp (show q < 2 ^ 31 by omega), hR.2.1.1]
          refine g_icmp_ge (pc := 40) (tgt := 95) C d_M_heads_40 (by decide) (fun h40 => ?_) (fun h40 => ?_)
          · first | exact absurd h40 (nI_ge (show k < (V.2 q).rcs.length by omega) (by omega)) | exact absurd (nI_ge (show k < (V.2 q).rcs.length by omega) (by omega)) h40
          · skip
            refine g_iload (pc := 43) C d_M_heads_43 rfl ?_
            refine g_if_ne (pc := 45) (tgt := 82) C d_M_heads_45 (by decide) (fun h45 => ?_) (fun h45 => ?_)
            · have hf := b1_1 h45
              refine g_iconst (pc := 82) C d_M_heads_82 ic_1 ?_
              refine g_goto (pc := 83) (tgt := 87) C d_M_heads_83 (by decide) ?_
              exact G.lf (t87 1 ((b1_t (by rw [hbit, hf]; rfl)).symm)) (sb rfl (sb rfl (sb rfl (sb rfl (sb rfl (sb rfl sn))))))
            · have hf : (pall (V.2 q).rcs k).toBitVec.getLsbD n = false := by simpa using b1_0 h45
              refine g_aload_n (pc := 48) (i := 0) C d_M_heads_48 rfl rfl ?_
              refine gf_M_first (pc := 49) C fl_M_34 d_M_heads_49 ?_
              refine g_bipush (pc := 52) C d_M_heads_52 bpn_24 ?_
              refine g_iload_n (pc := 54) (i := 1) C d_M_heads_54 rfl rfl ?_
              refine g_imul (pc := 55) C d_M_heads_55 ?_
              refine g_iload (pc := 56) C d_M_heads_56 rfl ?_
              refine g_iadd (pc := 58) C d_M_heads_58 ?_
              simp only [nI_mul, nI_add]
              refine ga_mar (pc := 59) C (by decide) (by decide) (vp_in_nI (show 24 * q + k < 48 by omega) (by decide)) d_M_heads_59 ?_
              rw [nI_clamp (show 24 * q + k < 2 ^ 31 by omega), hr.2.2.2.2.1]
              refine g_iload (pc := 60) C d_M_heads_60 rfl ?_
              refine g_icmp_eq (pc := 62) (tgt := 82) C d_M_heads_62 (by decide) (fun h62 => ?_) (fun h62 => ?_)
              · have hpa : x.pa = some n := (eo_is (fun b e => by have := hpx.1 b e; omega) (by omega)).mp h62
                refine g_iconst (pc := 82) C d_M_heads_82 ic_1 ?_
                refine g_goto (pc := 83) (tgt := 87) C d_M_heads_83 (by decide) ?_
                exact G.lf (t87 1 ((b1_t (by rw [hbit, decide_eq_true hpa, Bool.true_or, Bool.or_true])).symm)) (sb rfl (sb rfl (sb rfl (sb rfl (sb rfl (sb rfl sn))))))
              · have hpa : ¬ x.pa = some n := fun e => h62 ((eo_is (fun b e => by have := hpx.1 b e; omega) (by omega)).mpr e)
                refine g_aload_n (pc := 65) (i := 0) C d_M_heads_65 rfl rfl ?_
                refine gf_M_second (pc := 66) C fl_M_37 d_M_heads_66 ?_
                refine g_bipush (pc := 69) C d_M_heads_69 bpn_24 ?_
                refine g_iload_n (pc := 71) (i := 1) C d_M_heads_71 rfl rfl ?_
                refine g_imul (pc := 72) C d_M_heads_72 ?_
                refine g_iload (pc := 73) C d_M_heads_73 rfl ?_
                refine g_iadd (pc := 75) C d_M_heads_75 ?_
                simp only [nI_mul, nI_add]
                refine ga_mar (pc := 76) C (by decide) (by decide) (vp_in_nI (show 24 * q + k < 48 by omega) (by decide)) d_M_heads_76 ?_
                rw [nI_clamp (show 24 * q + k < 2 ^ 31 by omega), hr.2.2.2.2.2.1]
                refine g_iload (pc := 77) C d_M_heads_77 rfl ?_
                refine g_icmp_ne (pc := 79) (tgt := 86) C d_M_heads_79 (by decide) (fun h79 => ?_) (fun h79 => ?_)
                · have hpb : ¬ x.pb = some n := fun e => h79 ((eo_is (fun b e => by have := hpx.2 b e; omega) (by omega)).mpr e)
                  refine g_iconst (pc := 86) C d_M_heads_86 ic_0 ?_
                  exact G.lf (t87 0 ((b1_f (by rw [hbit, hf, decide_eq_false hpa, decide_eq_false hpb]; decide)).symm)) (sb rfl (sb rfl (sb rfl (sb rfl (sb rfl (sb rfl sn))))))
                · have hpb : x.pb = some n := (eo_is (fun b e => by have := hpx.2 b e; omega) (by omega)).mp h79
                  refine g_iconst (pc := 82) C d_M_heads_82 ic_1 ?_
                  refine g_goto (pc := 83) (tgt := 87) C d_M_heads_83 (by decide) ?_
                  exact G.lf (t87 1 ((b1_t (by rw [hbit, decide_eq_true hpb, Bool.or_true, Bool.or_true])).symm)) (sb rfl (sb rfl (sb rfl (sb rfl (sb rfl (sb rfl sn))))))
      refine g_iload_n (pc := 11) (i := 2) C d_M_heads_11 rfl rfl ?_
      refine g_if_ne (pc := 12) (tgt := 114) C d_M_heads_12 (by decide) (fun h12 => ?_) (fun h12 => ?_)
      · first | exact absurd h12 (rfl) | exact absurd (rfl) h12
      · skip
        refine g_iload (pc := 15) C d_M_heads_15 rfl ?_
        refine g_aload_n (pc := 17) (i := 0) C d_M_heads_17 rfl rfl ?_
        refine gf_M_count (pc := 18) C fl_M_19 d_M_heads_18 ?_
        refine g_iload_n (pc := 21) (i := 1) C d_M_heads_21 rfl rfl ?_
        refine ga_mar (pc := 22) C (by decide) (by decide) (vp_in_nI (show q < 2 by omega) (by decide)) d_M_heads_22 ?_
        rw [nI_clamp (show q < 2 ^ 31 by omega), hR.2.1.1]
        refine g_icmp_ge (pc := 23) (tgt := 114) C d_M_heads_23 (by decide) (fun h23 => ?_) (fun h23 => ?_)
        · first | exact absurd h23 (nI_ge hnl (by omega)) | exact absurd (nI_ge hnl (by omega)) h23
        · skip
          refine g_iconst (pc := 26) C d_M_heads_26 ic_0 ?_
          refine g_istore (pc := 27) C d_M_heads_27 (by decide) rfl ?_
          refine g_iconst (pc := 29) C d_M_heads_29 icn_0 ?_
          refine g_istore (pc := 30) C d_M_heads_30 (by decide) rfl ?_
          exact G.lf (inner _ 0 (Nat.zero_add _)) (sb rfl (sb rfl (sb rfl (sb rfl (sb rfl (sb (by show _ = some (Value.int (b1 ((0 : Int32).toBitVec.getLsbD n = true))); rw [b1_f (by simp)]; rfl) (sb rfl sn)))))))
  by_cases hb : barV V r = 0
  · obtain ⟨q, hq, rfl, hd⟩ := bar_0 hb
    have wR := hW.rep hq
    have ho : oHeads V (nI q) = nI ((V.2 q).rcs.length - bct (pall (V.2 q).rcs (V.2 q).rcs.length).toBitVec.toNat (V.2 q).rcs.length) := by
      unfold oHeads
      rw [if_pos hb, nI_clamp (by omega), heads_v (wR.prs hd) wR.2.2.1]
    rw [ho]
    refine g_aload_n (pc := 0) (i := 0) C d_M_heads_0 rfl rfl ?_
    refine g_iload_n (pc := 1) (i := 1) C d_M_heads_1 rfl rfl ?_
    refine g_callV1 (pc := 2) (As := [_]) C my_M_shut mv_M_shut cl_M_184 is_M d_M_heads_2 (Nat.le_of_ble_eq_true rfl) rfl (Nat.le_of_ble_eq_true rfl) ⟨Nat.zero_le _, Nat.zero_le _⟩ (c_M_shut _ hD h) ?_
    rw [hb]
    refine g_istore_n (pc := 5) (i := 2) C d_M_heads_5 rfl (by decide) rfl ?_
    refine g_iconst (pc := 6) C d_M_heads_6 icn_0 ?_
    refine g_istore_n (pc := 7) (i := 3) C d_M_heads_7 rfl (by decide) rfl ?_
    refine g_iconst (pc := 8) C d_M_heads_8 icn_0 ?_
    refine g_istore (pc := 9) C d_M_heads_9 (by decide) rfl ?_
    exact G.lf (loop q hq hd _ 0 (Nat.zero_add _)) (sb rfl (sb rfl (sb rfl (sb rfl (sb rfl sn)))))
  · have ho : oHeads V r = barV V r := by unfold oHeads; rw [if_neg hb]
    refine g_aload_n (pc := 0) (i := 0) C d_M_heads_0 rfl rfl ?_
    refine g_iload_n (pc := 1) (i := 1) C d_M_heads_1 rfl rfl ?_
    refine g_callV1 (pc := 2) (As := [_]) C my_M_shut mv_M_shut cl_M_184 is_M d_M_heads_2 (Nat.le_of_ble_eq_true rfl) rfl (Nat.le_of_ble_eq_true rfl) ⟨Nat.zero_le _, Nat.zero_le _⟩ (c_M_shut _ hD h) ?_
    refine g_istore_n (pc := 5) (i := 2) C d_M_heads_5 rfl (by decide) rfl ?_
    refine g_iconst (pc := 6) C d_M_heads_6 ic_0 ?_
    refine g_istore_n (pc := 7) (i := 3) C d_M_heads_7 rfl (by decide) rfl ?_
    refine g_iconst (pc := 8) C d_M_heads_8 ic_0 ?_
    refine g_istore (pc := 9) C d_M_heads_9 (by decide) rfl ?_
    refine g_iload_n (pc := 11) (i := 2) C d_M_heads_11 rfl rfl ?_
    refine g_if_ne (pc := 12) (tgt := 114) C d_M_heads_12 (by decide) (fun h12 => ?_) (fun h12 => ?_)
    · skip
      refine g_iload_n (pc := 114) (i := 2) C d_M_heads_114 rfl rfl ?_
      refine g_if_ge (pc := 115) (tgt := 122) C d_M_heads_115 (by decide) (fun h115 => ?_) (fun h115 => ?_)
      · first | exact absurd h115 (fun e => hb (bar_ge.mp e)) | exact absurd (fun e => hb (bar_ge.mp e)) h115
      · skip
        refine g_iload_n (pc := 118) (i := 2) C d_M_heads_118 rfl rfl ?_
        refine g_goto (pc := 119) (tgt := 123) C d_M_heads_119 (by decide) ?_
        refine g_iret (pc := 123) C d_M_heads_123 ?_
        exact ⟨by rw [ho], rfl⟩
    · first | exact absurd h12 (hb) | exact absurd (hb) h12
