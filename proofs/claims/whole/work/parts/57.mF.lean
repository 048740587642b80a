/-! THE REFERENCE: writing -/
theorem appR_app {R : Rp} {a b : List Nat} : appR (appR R a) b = appR R (a ++ b) := by
  unfold appR
  show ((R.dat ++ a) ++ b, _) = (R.dat ++ (a ++ b), _)
  rw [List.append_assoc]
  rfl
theorem appR_len {R : Rp} {a : List Nat} : (appR R a).dat.length = R.dat.length + a.length := by
  show (R.dat ++ a).length = _
  rw [List.length_append]
theorem appR_nil {R : Rp} : appR R [] = R := by
  unfold appR
  rw [List.append_nil]
  rfl
theorem MRep.put {m : Cs} {q b : Nat} {R : Rp} (h : MRep m q R) (hq : q < 2) (hl : R.dat.length < 600) : MRep (wI (wI m 2 (600 * q + R.dat.length) (nI b)) 3 q (nI (R.dat.length + 1))) q (appR R [b]) := by
  have hs : Mk (fun a k => (a = 2 ∧ k = 600 * q + R.dat.length) ∨ (a = 3 ∧ k = q)) m (wI (wI m 2 (600 * q + R.dat.length) (nI b)) 3 q (nI (R.dat.length + 1))) := (Mk.wI (Or.inl ⟨rfl, rfl⟩)).tr (Mk.wI (Or.inr ⟨rfl, rfl⟩))
  refine ⟨⟨by rw [rI_s, appR_len]; rfl, fun k hk => ?_⟩, ⟨?_, fun k x hx => (h.2.1.2 k x hx).mk hs (fun a h1 h2 => by omega)⟩, ⟨?_, fun p hp => ?_⟩, ?_, ?_⟩
  · rw [appR_len] at hk
    have hk : k < R.dat.length + 1 := hk
    rw [rI_n (Or.inl (by decide))]
    show _ = nI ((R.dat ++ [b]).getD k 0)
    rw [List.getD_eq_getElem?_getD]
    by_cases e : k = R.dat.length
    · rw [e, rI_s, List.getElem?_append_right (Nat.le_refl _), Nat.sub_self]
      rfl
    · rw [rI_n (Or.inr (by omega)), h.1.2 k (by omega), List.getElem?_append_left (by omega), List.getD_eq_getElem?_getD]
  · rw [hs.1 _ _ (by omega)]; exact h.2.1.1
  · rw [hs.1 _ _ (by omega)]; exact h.2.2.1.1
  · rw [hs.1 _ _ (by omega)]; exact h.2.2.1.2 p hp
  · rw [hs.1 _ _ (by omega)]; exact h.2.2.2.1
  · rw [hs.1 _ _ (by omega)]; exact h.2.2.2.2
theorem Bl.rq {m m2 : Cs} {a k q : Nat} {t : List Nat} (h : Bl m a k t) (hs : Mk (Rq q) m m2) (ha : 14 ≤ a ∧ a ≤ 17) : Bl m2 a k t := h.mk hs (by unfold Rq; omega) (fun i => by unfold Rq; omega)
/-- what storing a chunk touches -/
def Pq (q : Nat) : Nat → Nat → Prop := fun a k => Pb a k ∨ Rq q a k
theorem Mk.pq {q : Nat} {m m2 : Cs} (h : Mk (Rq q) m m2) : Mk (Pq q) m m2 := h.up (fun _ _ => Or.inr)
theorem Mk.pbq {q : Nat} {m m2 : Cs} (h : Mk Pb m m2) : Mk (Pq q) m m2 := h.up (fun _ _ => Or.inl)
theorem Mk.pqm {q : Nat} {m m2 : Cs} (h : Mk (Pq q) m m2) : Mf q m m2 := h.mf (fun a k e => e.elim (fun e => Or.inl (pb_ms a k e)) Or.inr)
theorem Bl.tx {m m2 : Cs} {q : Nat} {t : List Nat} (h : Bl m 17 3 t) (hs : Mk (Pq q) m m2) : Bl m2 17 3 t := h.mk hs (by unfold Pq Pb Rq; omega) (fun i => by unfold Pq Pb Rq; omega)
/-- a run at the beginning -/
theorem pk_run {v : Nat} : ∀ (j r : Nat) (rest : List Nat), (∀ w u, rest = w :: u → ¬ w = v) → pk r (List.replicate (j + 1) v ++ rest) = (r + j + 1) :: v :: pk 0 rest
  | 0, r, [], _ => rfl
  | 0, r, w :: u, h => by
    show pk r (v :: w :: u) = _
    conv => lhs; unfold pk
    rw [if_neg (h w u rfl)]
  | j + 1, r, rest, h => by
    have e : List.replicate (j + 1 + 1) v ++ rest = v :: v :: (List.replicate j v ++ rest) := rfl
    rw [e]
    conv => lhs; unfold pk
    rw [if_pos rfl]
    have := pk_run j (r + 1) rest h
    rw [show (List.replicate (j + 1) v ++ rest) = v :: (List.replicate j v ++ rest) from rfl] at this
    rw [this]
    congr 1
    omega
theorem dr_c {t : List Nat} {k : Nat} (h : k < t.length) : t.drop k = t.getD k 0 :: t.drop (k + 1) := by
  rw [List.drop_eq_getElem_cons h, List.getD_eq_getElem?_getD, List.getElem?_eq_getElem h]
  rfl
theorem tk_s {t : List Nat} {k : Nat} (h : k < t.length) : t.take (k + 1) = t.take k ++ [t.getD k 0] := by
  rw [List.take_add_one, List.getElem?_eq_getElem h, List.getD_eq_getElem?_getD, List.getElem?_eq_getElem h]
  rfl
theorem rpl_s {v j : Nat} {r : List Nat} : List.replicate j v ++ v :: r = List.replicate (j + 1) v ++ r := by
  rw [List.replicate_succ', List.append_assoc]
  rfl
set_option maxRecDepth 100000 in
set_option maxHeartbeats 4000000 in
theorem x_M_putByte (l : Launch) {D : Dt} (hD : OkD D) {c m : Cs} {ow : Nat → Int64} {q : Nat} {R : Rp} {b : Nat} (hq : q < 2) (h : MRep m q R) (hl : R.dat.length < 600) : Cp l D y_M_putByte b_M_putByte 3 none 1 [.int (nI b), .int (nI q), .ref (aMdl D)] ((c, m, ow) : Sg) (fun a u => ∃ m2, u = ((c, m2, ow) : Sg) ∧ a = none ∧ MRep m2 q (appR R [b]) ∧ Mk (Rq q) m m2) := by
  refine Cp.of hD (by decide) (Nat.le_of_ble_eq_true rfl) [(0, some (.ref (aMdl D))), (1, some (.int (nI q))), (2, some (.int (nI b)))] rfl (fun X hX C => ?_)
  subst hX
  refine g_aload_n (pc := 0) (i := 0) C d_M_putByte_0 rfl rfl ?_
  refine gf_M_bytes (pc := 1) C fl_M_13 d_M_putByte_1 ?_
  refine g_sipush (pc := 4) C d_M_putByte_4 spn_600 ?_
  refine g_iload_n (pc := 7) (i := 1) C d_M_putByte_7 rfl rfl ?_
  refine g_imul (pc := 8) C d_M_putByte_8 ?_
  refine g_aload_n (pc := 9) (i := 0) C d_M_putByte_9 rfl rfl ?_
  refine gf_M_dataLen (pc := 10) C fl_M_16 d_M_putByte_10 ?_
  refine g_iload_n (pc := 13) (i := 1) C d_M_putByte_13 rfl rfl ?_
  refine ga_mar (pc := 14) C (by decide) (by decide) (vp_in_nI (show q < 2 by omega) (by decide)) d_M_putByte_14 ?_
  rw [nI_clamp (show q < 2 ^ 31 by omega), h.1.1]
  refine g_iadd (pc := 15) C d_M_putByte_15 ?_
  refine g_iload_n (pc := 16) (i := 2) C d_M_putByte_16 rfl rfl ?_
  simp only [nI_mul, nI_add]
  refine gs_mar (pc := 17) C (by decide) (by decide) (vp_in_nI (show 600 * q + R.dat.length < 1200 by omega) (by decide)) d_M_putByte_17 ?_
  rw [nI_clamp (show 600 * q + R.dat.length < 2 ^ 31 by omega)]
  refine g_aload_n (pc := 18) (i := 0) C d_M_putByte_18 rfl rfl ?_
  refine gf_M_dataLen (pc := 19) C fl_M_16 d_M_putByte_19 ?_
  refine g_iload_n (pc := 22) (i := 1) C d_M_putByte_22 rfl rfl ?_
  refine g_dup2 (pc := 23) C d_M_putByte_23 rfl rfl ?_
  refine ga_mar (pc := 24) C (by decide) (by decide) (vp_in_nI (show q < 2 by omega) (by decide)) d_M_putByte_24 ?_
  rw [nI_clamp (show q < 2 ^ 31 by omega), rI_n (Or.inl (by decide)), h.1.1]
  refine g_iconst (pc := 25) C d_M_putByte_25 icn_1 ?_
  refine g_iadd (pc := 26) C d_M_putByte_26 ?_
  rw [nI_add]
  refine gs_mar (pc := 27) C (by decide) (by decide) (vp_in_nI (show q < 2 by omega) (by decide)) d_M_putByte_27 ?_
  rw [nI_clamp (show q < 2 ^ 31 by omega)]
  refine g_vret (pc := 28) C d_M_putByte_28 ?_
  exact ⟨_, rfl, rfl, h.put hq hl, (Mk.wI (by unfold Rq; omega)).tr (Mk.wI (by unfold Rq; omega))⟩
set_option maxRecDepth 100000 in
set_option maxHeartbeats 4000000 in
theorem x_M_putDifference (l : Launch) {D : Dt} (hD : OkD D) {c m : Cs} {ow : Nat → Int64} {q : Nat} {R : Rp} {n : Nat} {b t : List Nat} (hq : q < 2) (h : MRep m q R) (yd : By R.dat) (h600 : R.dat.length ≤ 600) (h24 : R.rcs.length ≤ 24) (hw : Wfs R.dat.length R.rcs) (hn : n < R.rcs.length) (hb : built R.dat R.rcs n = some b) (ht : Bl m 17 3 t) (h60 : t.length ≤ 60) (hy : By t) (hl : R.dat.length + (encD b t).length ≤ 600) : Cp l D y_M_putDifference b_M_putDifference 6 none 5 [.int (nI n), .int (nI q), .ref (aMdl D)] ((c, m, ow) : Sg) (fun a u => ∃ m2, u = ((c, m2, ow) : Sg) ∧ a = none ∧ MRep m2 q (appR R (encD b t)) ∧ Mk (Pq q) m m2) := by
  have kb := by_built yd hb
  have h1 := cpre_1 b t
  have h2 := cpre_2 b t
  obtain ⟨h3, h4, h5⟩ := encD_l (b := b) (t := t)
  have hE : encD b t = 100 :: cpre b t :: (b.length - cpre (b.drop (cpre b t)).reverse (t.drop (cpre b t)).reverse) :: (t.length - cpre (b.drop (cpre b t)).reverse (t.drop (cpre b t)).reverse - cpre b t) :: (t.drop (cpre b t)).take (t.length - cpre (b.drop (cpre b t)).reverse (t.drop (cpre b t)).reverse - cpre b t) := rfl
  generalize hP : cpre b t = p at *
  generalize hEE : cpre (b.drop p).reverse (t.drop p).reverse = e at *
  refine Cp.of hD (by decide) (Nat.le_of_ble_eq_true rfl) [(0, some (.ref (aMdl D))), (1, some (.int (nI q))), (2, some (.int (nI n)))] rfl (fun X hX C => ?_)
  subst hX
  have loop : ∀ (i j : Nat) (m1 : Cs), j + i = t.length - e - p → Mk (Pq q) m m1 → MRep m1 q (appR R (100 :: p :: (b.length - e) :: (t.length - e - p) :: (t.drop p).take j)) → G X D (Qp X D (fun a u => ∃ m2, u = ((c, m2, ow) : Sg) ∧ a = none ∧ MRep m2 q (appR R (encD b t)) ∧ Mk (Pq q) m m2)) (0, 0) ((c, m1, ow) : Sg) 61 [(0, some (.ref (aMdl D))), (1, some (.int (nI q))), (4, some (.int (nI e))), (5, some (.int (nI (p + j))))] [] := by
    intro i
    induction i with
    | zero =>
      intro j m1 hj s g
      have hj : j = t.length - e - p := by omega
      subst hj
      refine g_iload (pc := 61) C d_M_putDifference_61 rfl ?_
      refine g_aload_n (pc := 63) (i := 0) C d_M_putDifference_63 rfl rfl ?_
      refine gf_M_textLen (pc := 64) C fl_M_106 d_M_putDifference_64 ?_
      refine g_iload (pc := 67) C d_M_putDifference_67 rfl ?_
      refine g_isub (pc := 69) C d_M_putDifference_69 ?_
      rw [(ht.tx s).1, pk_sub (by omega)]
      refine g_icmp_ge (pc := 70) (tgt := 91) C d_M_putDifference_70 (by decide) (fun h70 => ?_) (fun h70 => ?_)
      · skip
        refine g_vret (pc := 91) C d_M_putDifference_91 ?_
        refine ⟨m1, rfl, rfl, ?_, s⟩
        rw [hE]
        exact g
      · first | exact absurd h70 (nI_le (by omega) (by omega)) | exact absurd (nI_le (by omega) (by omega)) h70
    | succ i ih =>
      intro j m1 hj s g
      have hlen : ((t.drop p).take j).length = j := by rw [List.length_take, List.length_drop]; omega
      refine g_iload (pc := 61) C d_M_putDifference_61 rfl ?_
      refine g_aload_n (pc := 63) (i := 0) C d_M_putDifference_63 rfl rfl ?_
      refine gf_M_textLen (pc := 64) C fl_M_106 d_M_putDifference_64 ?_
      refine g_iload (pc := 67) C d_M_putDifference_67 rfl ?_
      refine g_isub (pc := 69) C d_M_putDifference_69 ?_
      rw [(ht.tx s).1, pk_sub (by omega)]
      refine g_icmp_ge (pc := 70) (tgt := 91) C d_M_putDifference_70 (by decide) (fun h70 => ?_) (fun h70 => ?_)
      · first | exact absurd h70 (nI_ge (show p + j < t.length - e by omega) (by omega)) | exact absurd (nI_ge (show p + j < t.length - e by omega) (by omega)) h70
      · skip
        refine g_aload_n (pc := 73) (i := 0) C d_M_putDifference_73 rfl rfl ?_
        refine g_iload_n (pc := 74) (i := 1) C d_M_putDifference_74 rfl rfl ?_
        refine g_aload_n (pc := 75) (i := 0) C d_M_putDifference_75 rfl rfl ?_
        refine gf_M_text (pc := 76) C fl_M_66 d_M_putDifference_76 ?_
        refine g_iload (pc := 79) C d_M_putDifference_79 rfl ?_
        skip
        refine ga_mar (pc := 81) C (by decide) (by decide) (vp_in_nI (show p + j < 60 by omega) (by decide)) d_M_putDifference_81 ?_
        rw [nI_clamp (show p + j < 2 ^ 31 by omega), (ht.tx s).2 _ (by omega)]
        refine g_callVp (pc := 82) (As := [_, _]) C my_M_putByte mv_M_putByte cl_M_134 is_M d_M_putDifference_82 (Nat.le_of_ble_eq_true rfl) rfl (Nat.le_of_ble_eq_true rfl) ⟨Nat.zero_le _, Nat.zero_le _⟩ (x_M_putByte _ hD hq g (by rw [appR_len]; simp only [List.length_cons, hlen]; omega)) (fun r82 u82 hp82 => ?_)
        obtain ⟨m3, rfl, rfl, g3, s3⟩ := hp82
        have g4 : MRep m3 q (appR R (100 :: p :: (b.length - e) :: (t.length - e - p) :: (t.drop p).take (j + 1))) := by
          rw [tk_s (t := t.drop p) (k := j) (by rw [List.length_drop]; omega)]
          rw [appR_app] at g3
          have e1 : (t.drop p).getD j 0 = t.getD (p + j) 0 := by simp only [List.getD_eq_getElem?_getD, List.getElem?_drop]
          rw [e1]
          exact g3
        refine g_iinc (pc := 85) C d_M_putDifference_85 rfl (v := nI (p + (j + 1))) (nI_inc (p + j)) rfl ?_
        refine g_goto (pc := 88) (tgt := 61) C d_M_putDifference_88 (by decide) ?_
        exact G.lf (ih (j + 1) m3 (by omega) (s.tr s3.pq) g4) (sb rfl (sb rfl (sb rfl (sb rfl sn))))
  refine g_aload_n (pc := 0) (i := 0) C d_M_putDifference_0 rfl rfl ?_
  refine g_iload_n (pc := 1) (i := 1) C d_M_putDifference_1 rfl rfl ?_
  refine g_iload_n (pc := 2) (i := 2) C d_M_putDifference_2 rfl rfl ?_
  refine g_callVp (pc := 3) (As := [_, _]) C my_M_build mv_M_build cl_M_124 is_M d_M_putDifference_3 (Nat.le_of_ble_eq_true rfl) rfl (Nat.le_of_ble_eq_true rfl) ⟨Nat.zero_le _, Nat.zero_le _⟩ (x_M_build _ hD hq h yd h600 h24 hw hn) (fun r3 u3 hp3 => ?_)
  obtain ⟨m0, rfl, s0, hp3⟩ := hp3
  obtain ⟨rfl, hB⟩ : r3 = some (.int 1) ∧ Bl m0 14 2 b := by
    rcases hp3 with ⟨b2, e1, e2, hB⟩ | ⟨e1, e2⟩
    · rw [hb] at e1
      cases e1
      exact ⟨e2, hB⟩
    · rw [hb] at e1
      cases e1
  have t0 := ht.tx (q := q) s0.pbq
  have g0 := h.pb s0
  have hlE : R.dat.length + (4 + t.length - p - e) ≤ 600 := by rw [← h3]; exact hl
  refine g_pop (pc := 6) C d_M_putDifference_6 rfl ?_
  refine g_aload_n (pc := 7) (i := 0) C d_M_putDifference_7 rfl rfl ?_
  refine g_callV1 (pc := 8) (As := []) C my_M_commonBegin mv_M_commonBegin cl_M_109 is_M d_M_putDifference_8 (Nat.le_of_ble_eq_true rfl) rfl (Nat.le_of_ble_eq_true rfl) ⟨Nat.zero_le _, Nat.zero_le _⟩ (c_M_commonBegin _ hD hB t0 kb.2 h60 kb.1 hy) ?_
  rw [hP]
  refine g_istore_n (pc := 11) (i := 3) C d_M_putDifference_11 rfl (by decide) rfl ?_
  refine g_aload_n (pc := 12) (i := 0) C d_M_putDifference_12 rfl rfl ?_
  refine g_iload_n (pc := 13) (i := 3) C d_M_putDifference_13 rfl rfl ?_
  refine g_callV1 (pc := 14) (As := [_]) C my_M_commonEnd mv_M_commonEnd cl_M_113 is_M d_M_putDifference_14 (Nat.le_of_ble_eq_true rfl) rfl (Nat.le_of_ble_eq_true rfl) ⟨Nat.zero_le _, Nat.zero_le _⟩ (c_M_commonEnd _ hD hB t0 kb.2 h60 kb.1 hy h1 h2) ?_
  rw [hEE]
  refine g_istore (pc := 17) C d_M_putDifference_17 (by decide) rfl ?_
  refine g_aload_n (pc := 19) (i := 0) C d_M_putDifference_19 rfl rfl ?_
  refine g_iload_n (pc := 20) (i := 1) C d_M_putDifference_20 rfl rfl ?_
  refine g_bipush (pc := 21) C d_M_putDifference_21 bpn_100 ?_
  refine g_callVp (pc := 23) (As := [_, _]) C my_M_putByte mv_M_putByte cl_M_134 is_M d_M_putDifference_23 (Nat.le_of_ble_eq_true rfl) rfl (Nat.le_of_ble_eq_true rfl) ⟨Nat.zero_le _, Nat.zero_le _⟩ (x_M_putByte _ hD hq g0 (by omega)) (fun r23 u23 hp23 => ?_)
  obtain ⟨m1, rfl, rfl, g1, s1⟩ := hp23
  refine g_aload_n (pc := 26) (i := 0) C d_M_putDifference_26 rfl rfl ?_
  refine g_iload_n (pc := 27) (i := 1) C d_M_putDifference_27 rfl rfl ?_
  refine g_iload_n (pc := 28) (i := 3) C d_M_putDifference_28 rfl rfl ?_
  refine g_callVp (pc := 29) (As := [_, _]) C my_M_putByte mv_M_putByte cl_M_134 is_M d_M_putDifference_29 (Nat.le_of_ble_eq_true rfl) rfl (Nat.le_of_ble_eq_true rfl) ⟨Nat.zero_le _, Nat.zero_le _⟩ (x_M_putByte _ hD hq g1 (by simp only [appR_len, List.length_cons, List.length_nil]; omega)) (fun r29 u29 hp29 => ?_)
  obtain ⟨m2, rfl, rfl, g2, s2⟩ := hp29
  refine g_aload_n (pc := 32) (i := 0) C d_M_putDifference_32 rfl rfl ?_
  refine g_iload_n (pc := 33) (i := 1) C d_M_putDifference_33 rfl rfl ?_
  refine g_aload_n (pc := 34) (i := 0) C d_M_putDifference_34 rfl rfl ?_
  refine gf_M_builtLen (pc := 35) C fl_M_92 d_M_putDifference_35 ?_
  rw [((hB.rq s1 (by decide)).rq s2 (by decide)).1]
  refine g_iload (pc := 38) C d_M_putDifference_38 rfl ?_
  refine g_isub (pc := 40) C d_M_putDifference_40 ?_
  rw [pk_sub (by omega)]
  refine g_callVp (pc := 41) (As := [_, _]) C my_M_putByte mv_M_putByte cl_M_134 is_M d_M_putDifference_41 (Nat.le_of_ble_eq_true rfl) rfl (Nat.le_of_ble_eq_true rfl) ⟨Nat.zero_le _, Nat.zero_le _⟩ (x_M_putByte _ hD hq g2 (by simp only [appR_len, List.length_cons, List.length_nil]; omega)) (fun r41 u41 hp41 => ?_)
  obtain ⟨m3, rfl, rfl, g3, s3⟩ := hp41
  refine g_aload_n (pc := 44) (i := 0) C d_M_putDifference_44 rfl rfl ?_
  refine g_iload_n (pc := 45) (i := 1) C d_M_putDifference_45 rfl rfl ?_
  refine g_aload_n (pc := 46) (i := 0) C d_M_putDifference_46 rfl rfl ?_
  refine gf_M_textLen (pc := 47) C fl_M_106 d_M_putDifference_47 ?_
  rw [(((t0.rq s1 (by decide)).rq s2 (by decide)).rq s3 (by decide)).1]
  refine g_iload_n (pc := 50) (i := 3) C d_M_putDifference_50 rfl rfl ?_
  refine g_isub (pc := 51) C d_M_putDifference_51 ?_
  refine g_iload (pc := 52) C d_M_putDifference_52 rfl ?_
  refine g_isub (pc := 54) C d_M_putDifference_54 ?_
  rw [pk_sub (by omega), pk_sub (by omega), Nat.sub_right_comm]
  refine g_callVp (pc := 55) (As := [_, _]) C my_M_putByte mv_M_putByte cl_M_134 is_M d_M_putDifference_55 (Nat.le_of_ble_eq_true rfl) rfl (Nat.le_of_ble_eq_true rfl) ⟨Nat.zero_le _, Nat.zero_le _⟩ (x_M_putByte _ hD hq g3 (by simp only [appR_len, List.length_cons, List.length_nil]; omega)) (fun r55 u55 hp55 => ?_)
  obtain ⟨m4, rfl, rfl, g4, s4⟩ := hp55
  refine g_iload_n (pc := 58) (i := 3) C d_M_putDifference_58 rfl rfl ?_
  refine g_istore (pc := 59) C d_M_putDifference_59 (by decide) rfl ?_
  refine G.lf (loop _ 0 m4 (Nat.zero_add _) (s0.pbq.tr (s1.pq.tr (s2.pq.tr (s3.pq.tr s4.pq)))) ?_) (sb rfl (sb rfl (sb rfl (sb rfl sn))))
  rw [appR_app, appR_app, appR_app] at g4
  exact g4
set_option maxRecDepth 100000 in
set_option maxHeartbeats 4000000 in
theorem x_M_putSnapshot (l : Launch) {D : Dt} (hD : OkD D) {c m : Cs} {ow : Nat → Int64} {q : Nat} {R : Rp} {t : List Nat} (hq : q < 2) (h : MRep m q R) (ht : Bl m 17 3 t) (h60 : t.length ≤ 60) (hy : By t) (hl : R.dat.length + (encS t).length ≤ 600) : Cp l D y_M_putSnapshot b_M_putSnapshot 4 none 2 [.int (nI q), .ref (aMdl D)] ((c, m, ow) : Sg) (fun a u => ∃ m2, u = ((c, m2, ow) : Sg) ∧ a = none ∧ MRep m2 q (appR R (encS t)) ∧ Mk (Rq q) m m2) := by
  have hle := encS_len t
  have hrl := rl_le t
  have h1 : (120 :: pack t).length = 1 + 2 * rl t := by
    rw [List.length_cons, show (pack t).length = 2 * rl t from rl_pk t 0]
    omega
  have h2 : (117 :: t).length = 1 + t.length := by rw [List.length_cons]; omega
  have hE : encS t = if 1 + 2 * rl t < 1 + t.length then 120 :: pack t else 117 :: t := by
    rw [← h1, ← h2]
    rfl
  refine Cp.of hD (by decide) (Nat.le_of_ble_eq_true rfl) [(0, some (.ref (aMdl D))), (1, some (.int (nI q)))] rfl (fun X hX C => ?_)
  subst hX
  have loopU : ¬ 1 + 2 * rl t < 1 + t.length → ∀ (i j : Nat) (m1 : Cs), j + i = t.length → Mk (Rq q) m m1 → MRep m1 q (appR R (117 :: t.take j)) → G X D (Qp X D (fun a u => ∃ m2, u = ((c, m2, ow) : Sg) ∧ a = none ∧ MRep m2 q (appR R (encS t)) ∧ Mk (Rq q) m m2)) (0, 0) ((c, m1, ow) : Sg) 26 [(0, some (.ref (aMdl D))), (1, some (.int (nI q))), (2, some (.int (nI j)))] [] := by
    intro hU i
    rw [if_neg hU] at hE
    rw [hE, h2] at hl
    induction i with
    | zero =>
      intro j m1 hj s g
      rw [List.take_of_length_le (by omega)] at g
      refine g_iload_n (pc := 26) (i := 2) C d_M_putSnapshot_26 rfl rfl ?_
      refine g_aload_n (pc := 27) (i := 0) C d_M_putSnapshot_27 rfl rfl ?_
      refine gf_M_textLen (pc := 28) C fl_M_106 d_M_putSnapshot_28 ?_
      rw [(ht.rq s (by decide)).1]
      refine g_icmp_ge (pc := 31) (tgt := 51) C d_M_putSnapshot_31 (by decide) (fun h31 => ?_) (fun h31 => ?_)
      · skip
        refine g_vret (pc := 51) C d_M_putSnapshot_51 ?_
        refine ⟨m1, rfl, rfl, ?_, s⟩
        rw [hE]
        exact g
      · first | exact absurd h31 (nI_le (by omega) (by omega)) | exact absurd (nI_le (by omega) (by omega)) h31
    | succ i ih =>
      intro j m1 hj s g
      have hlen : (t.take j).length = j := by rw [List.length_take]; omega
      refine g_iload_n (pc := 26) (i := 2) C d_M_putSnapshot_26 rfl rfl ?_
      refine g_aload_n (pc := 27) (i := 0) C d_M_putSnapshot_27 rfl rfl ?_
      refine gf_M_textLen (pc := 28) C fl_M_106 d_M_putSnapshot_28 ?_
      rw [(ht.rq s (by decide)).1]
      refine g_icmp_ge (pc := 31) (tgt := 51) C d_M_putSnapshot_31 (by decide) (fun h31 => ?_) (fun h31 => ?_)
      · first | exact absurd h31 (nI_ge (show j < t.length by omega) (by omega)) | exact absurd (nI_ge (show j < t.length by omega) (by omega)) h31
      · skip
        refine g_aload_n (pc := 34) (i := 0) C d_M_putSnapshot_34 rfl rfl ?_
        refine g_iload_n (pc := 35) (i := 1) C d_M_putSnapshot_35 rfl rfl ?_
        refine g_aload_n (pc := 36) (i := 0) C d_M_putSnapshot_36 rfl rfl ?_
        refine gf_M_text (pc := 37) C fl_M_66 d_M_putSnapshot_37 ?_
        refine g_iload_n (pc := 40) (i := 2) C d_M_putSnapshot_40 rfl rfl ?_
        refine ga_mar (pc := 41) C (by decide) (by decide) (vp_in_nI (show j < 60 by omega) (by decide)) d_M_putSnapshot_41 ?_
        rw [nI_clamp (show j < 2 ^ 31 by omega), (ht.rq s (by decide)).2 j (by omega)]
        refine g_callVp (pc := 42) (As := [_, _]) C my_M_putByte mv_M_putByte cl_M_134 is_M d_M_putSnapshot_42 (Nat.le_of_ble_eq_true rfl) rfl (Nat.le_of_ble_eq_true rfl) ⟨Nat.zero_le _, Nat.zero_le _⟩ (x_M_putByte _ hD hq g (by rw [appR_len]; simp only [List.length_cons, hlen]; omega)) (fun r42 u42 hp42 => ?_)
        obtain ⟨m3, rfl, rfl, g3, s3⟩ := hp42
        rw [appR_app, List.cons_append, ← tk_s (by omega)] at g3
        refine g_iinc (pc := 45) C d_M_putSnapshot_45 rfl (v := nI (j + 1)) (nI_inc j) rfl ?_
        refine g_goto (pc := 48) (tgt := 26) C d_M_putSnapshot_48 (by decide) ?_
        exact G.lf (ih (j + 1) m3 (by omega) (s.tr s3) g3) (sb rfl (sb rfl (sb rfl sn)))
  have loopX : 1 + 2 * rl t < 1 + t.length → ∀ (f k : Nat) (m1 : Cs) (pre : List Nat), t.length ≤ k + f → k ≤ t.length → Mk (Rq q) m m1 → MRep m1 q (appR R (120 :: pre)) → pre ++ pk 0 (t.drop k) = pack t → G X D (Qp X D (fun a u => ∃ m2, u = ((c, m2, ow) : Sg) ∧ a = none ∧ MRep m2 q (appR R (encS t)) ∧ Mk (Rq q) m m2)) (0, 0) ((c, m1, ow) : Sg) 61 [(0, some (.ref (aMdl D))), (1, some (.int (nI q))), (2, some (.int (nI k)))] [] := by
    intro hU f
    rw [if_pos hU] at hE
    rw [hE, h1] at hl
    induction f with
    | zero =>
      intro k m1 pre hf hk s g he
      rw [List.drop_eq_nil_of_le (by omega)] at he
      have he : pre ++ [] = pack t := he
      rw [List.append_nil] at he
      refine g_iload_n (pc := 61) (i := 2) C d_M_putSnapshot_61 rfl rfl ?_
      refine g_aload_n (pc := 62) (i := 0) C d_M_putSnapshot_62 rfl rfl ?_
      refine gf_M_textLen (pc := 63) C fl_M_106 d_M_putSnapshot_63 ?_
      rw [(ht.rq s (by decide)).1]
      refine g_icmp_ge (pc := 66) (tgt := 124) C d_M_putSnapshot_66 (by decide) (fun h66 => ?_) (fun h66 => ?_)
      · skip
        refine g_vret (pc := 124) C d_M_putSnapshot_124 ?_
        refine ⟨m1, rfl, rfl, ?_, s⟩
        rw [hE, ← he]
        exact g
      · first | exact absurd h66 (nI_le (by omega) (by omega)) | exact absurd (nI_le (by omega) (by omega)) h66
    | succ f ih =>
      intro k m1 pre hf hk s g he
      by_cases hkl : t.length ≤ k
      · rw [List.drop_eq_nil_of_le hkl] at he
        have he : pre ++ [] = pack t := he
        rw [List.append_nil] at he
        refine g_iload_n (pc := 61) (i := 2) C d_M_putSnapshot_61 rfl rfl ?_
        refine g_aload_n (pc := 62) (i := 0) C d_M_putSnapshot_62 rfl rfl ?_
        refine gf_M_textLen (pc := 63) C fl_M_106 d_M_putSnapshot_63 ?_
        rw [(ht.rq s (by decide)).1]
        refine g_icmp_ge (pc := 66) (tgt := 124) C d_M_putSnapshot_66 (by decide) (fun h66 => ?_) (fun h66 => ?_)
        · skip
          refine g_vret (pc := 124) C d_M_putSnapshot_124 ?_
          refine ⟨m1, rfl, rfl, ?_, s⟩
          rw [hE, ← he]
          exact g
        · first | exact absurd h66 (nI_le (by omega) (by omega)) | exact absurd (nI_le (by omega) (by omega)) h66
      · have ts := ht.rq s (by decide)
        have gk := hy.get k
        have exit : ∀ e, k < e → e ≤ t.length → t.drop k = List.replicate (e - k) (t.getD k 0) ++ t.drop e → (∀ w u, t.drop e = w :: u → ¬ w = t.getD k 0) → G X D (Qp X D (fun a u => ∃ m2, u = ((c, m2, ow) : Sg) ∧ a = none ∧ MRep m2 q (appR R (encS t)) ∧ Mk (Rq q) m m2)) (0, 0) ((c, m1, ow) : Sg) 100 [(0, some (.ref (aMdl D))), (1, some (.int (nI q))), (2, some (.int (nI k))), (3, some (.int (nI e)))] [] := by
          intro e hke hel hd hne
          have hrun : pk 0 (t.drop k) = (e - k) :: t.getD k 0 :: pk 0 (t.drop e) := by
            rw [hd, show e - k = (e - k - 1) + 1 by omega, pk_run _ _ _ hne]
            congr 1
            omega
          rw [hrun] at he
          have hlp : pre.length + 2 + (pk 0 (t.drop e)).length = (pack t).length := by
            rw [← he]
            simp only [List.length_append, List.length_cons]
            omega
          have hlq : (pack t).length = 2 * rl t := rl_pk t 0
          refine g_aload_n (pc := 100) (i := 0) C d_M_putSnapshot_100 rfl rfl ?_
          refine g_iload_n (pc := 101) (i := 1) C d_M_putSnapshot_101 rfl rfl ?_
          refine g_iload_n (pc := 102) (i := 3) C d_M_putSnapshot_102 rfl rfl ?_
          refine g_iload_n (pc := 103) (i := 2) C d_M_putSnapshot_103 rfl rfl ?_
          refine g_isub (pc := 104) C d_M_putSnapshot_104 ?_
          rw [pk_sub (by omega)]
          refine g_callVp (pc := 105) (As := [_, _]) C my_M_putByte mv_M_putByte cl_M_134 is_M d_M_putSnapshot_105 (Nat.le_of_ble_eq_true rfl) rfl (Nat.le_of_ble_eq_true rfl) ⟨Nat.zero_le _, Nat.zero_le _⟩ (x_M_putByte _ hD hq g (by rw [appR_len, List.length_cons]; omega)) (fun r105 u105 hp105 => ?_)
          obtain ⟨m3, rfl, rfl, g3, s3⟩ := hp105
          refine g_aload_n (pc := 108) (i := 0) C d_M_putSnapshot_108 rfl rfl ?_
          refine g_iload_n (pc := 109) (i := 1) C d_M_putSnapshot_109 rfl rfl ?_
          refine g_aload_n (pc := 110) (i := 0) C d_M_putSnapshot_110 rfl rfl ?_
          refine gf_M_text (pc := 111) C fl_M_66 d_M_putSnapshot_111 ?_
          refine g_iload_n (pc := 114) (i := 2) C d_M_putSnapshot_114 rfl rfl ?_
          refine ga_mar (pc := 115) C (by decide) (by decide) (vp_in_nI (show k < 60 by omega) (by decide)) d_M_putSnapshot_115 ?_
          rw [nI_clamp (show k < 2 ^ 31 by omega), (ts.rq s3 (by decide)).2 k (by omega)]
          refine g_callVp (pc := 116) (As := [_, _]) C my_M_putByte mv_M_putByte cl_M_134 is_M d_M_putSnapshot_116 (Nat.le_of_ble_eq_true rfl) rfl (Nat.le_of_ble_eq_true rfl) ⟨Nat.zero_le _, Nat.zero_le _⟩ (x_M_putByte _ hD hq g3 (by rw [appR_len, appR_len, List.length_cons, List.length_cons, List.length_nil]; omega)) (fun r116 u116 hp116 => ?_)
          obtain ⟨m4, rfl, rfl, g4, s4⟩ := hp116
          rw [appR_app, appR_app] at g4
          have g5 : MRep m4 q (appR R (120 :: (pre ++ [e - k, t.getD k 0]))) := by
            simpa using g4
          refine g_iload_n (pc := 119) (i := 3) C d_M_putSnapshot_119 rfl rfl ?_
          refine g_istore_n (pc := 120) (i := 2) C d_M_putSnapshot_120 rfl (by decide) rfl ?_
          refine g_goto (pc := 121) (tgt := 61) C d_M_putSnapshot_121 (by decide) ?_
          exact G.lf (ih e m4 _ (by omega) hel (s.tr (s3.tr s4)) g5 (by rw [List.append_assoc]; exact he)) (sb rfl (sb rfl (sb rfl sn)))
        have inner : ∀ (i e : Nat), e + i = t.length → k ≤ e → t.drop k = List.replicate (e - k) (t.getD k 0) ++ t.drop e → G X D (Qp X D (fun a u => ∃ m2, u = ((c, m2, ow) : Sg) ∧ a = none ∧ MRep m2 q (appR R (encS t)) ∧ Mk (Rq q) m m2)) (0, 0) ((c, m1, ow) : Sg) 71 [(0, some (.ref (aMdl D))), (1, some (.int (nI q))), (2, some (.int (nI k))), (3, some (.int (nI e)))] [] := by
          intro i
          induction i with
          | zero =>
            intro e hei hke hd
            refine g_iload_n (pc := 71) (i := 3) C d_M_putSnapshot_71 rfl rfl ?_
            refine g_aload_n (pc := 72) (i := 0) C d_M_putSnapshot_72 rfl rfl ?_
            refine gf_M_textLen (pc := 73) C fl_M_106 d_M_putSnapshot_73 ?_
            rw [ts.1]
            refine g_icmp_ge (pc := 76) (tgt := 100) C d_M_putSnapshot_76 (by decide) (fun h76 => ?_) (fun h76 => ?_)
            · skip
              exact G.lf (exit e (by omega) (by omega) hd (fun w u ew => by rw [List.drop_eq_nil_of_le (by omega)] at ew; cases ew)) (sb rfl (sb rfl (sb rfl (sb rfl sn))))
            · first | exact absurd h76 (nI_le (by omega) (by omega)) | exact absurd (nI_le (by omega) (by omega)) h76
          | succ i ih2 =>
            intro e hei hke hd
            have ge := hy.get e
            refine g_iload_n (pc := 71) (i := 3) C d_M_putSnapshot_71 rfl rfl ?_
            refine g_aload_n (pc := 72) (i := 0) C d_M_putSnapshot_72 rfl rfl ?_
            refine gf_M_textLen (pc := 73) C fl_M_106 d_M_putSnapshot_73 ?_
            rw [ts.1]
            refine g_icmp_ge (pc := 76) (tgt := 100) C d_M_putSnapshot_76 (by decide) (fun h76 => ?_) (fun h76 => ?_)
            · first | exact absurd h76 (nI_ge (show e < t.length by omega) (by omega)) | exact absurd (nI_ge (show e < t.length by omega) (by omega)) h76
            · skip
              refine g_aload_n (pc := 79) (i := 0) C d_M_putSnapshot_79 rfl rfl ?_
              refine gf_M_text (pc := 80) C fl_M_66 d_M_putSnapshot_80 ?_
              refine g_iload_n (pc := 83) (i := 3) C d_M_putSnapshot_83 rfl rfl ?_
              refine ga_mar (pc := 84) C (by decide) (by decide) (vp_in_nI (show e < 60 by omega) (by decide)) d_M_putSnapshot_84 ?_
              rw [nI_clamp (show e < 2 ^ 31 by omega), ts.2 e (by omega)]
              refine g_aload_n (pc := 85) (i := 0) C d_M_putSnapshot_85 rfl rfl ?_
              refine gf_M_text (pc := 86) C fl_M_66 d_M_putSnapshot_86 ?_
              refine g_iload_n (pc := 89) (i := 2) C d_M_putSnapshot_89 rfl rfl ?_
              refine ga_mar (pc := 90) C (by decide) (by decide) (vp_in_nI (show k < 60 by omega) (by decide)) d_M_putSnapshot_90 ?_
              rw [nI_clamp (show k < 2 ^ 31 by omega), ts.2 k (by omega)]
              refine g_icmp_ne (pc := 91) (tgt := 100) C d_M_putSnapshot_91 (by decide) (fun h91 => ?_) (fun h91 => ?_)
              · have hv : ¬ t.getD e 0 = t.getD k 0 := fun x => h91 (by rw [x])
                have hek : ¬ e = k := fun x => hv (by rw [x])
                exact G.lf (exit e (by omega) (by omega) hd (fun w u ew => by rw [dr_c (k := e) (by omega)] at ew; cases ew; exact hv)) (sb rfl (sb rfl (sb rfl (sb rfl sn))))
              · have hv : t.getD e 0 = t.getD k 0 := (nI_eq (by omega) (by omega)).mp h91
                refine g_iinc (pc := 94) C d_M_putSnapshot_94 rfl (v := nI (e + 1)) (nI_inc e) rfl ?_
                refine g_goto (pc := 97) (tgt := 71) C d_M_putSnapshot_97 (by decide) ?_
                refine G.lf (ih2 (e + 1) (by omega) (by omega) ?_) (sb rfl (sb rfl (sb rfl (sb rfl sn))))
                rw [hd, dr_c (k := e) (by omega), hv, rpl_s, show e - k + 1 = e + 1 - k by omega]
        refine g_iload_n (pc := 61) (i := 2) C d_M_putSnapshot_61 rfl rfl ?_
        refine g_aload_n (pc := 62) (i := 0) C d_M_putSnapshot_62 rfl rfl ?_
        refine gf_M_textLen (pc := 63) C fl_M_106 d_M_putSnapshot_63 ?_
        rw [ts.1]
        refine g_icmp_ge (pc := 66) (tgt := 124) C d_M_putSnapshot_66 (by decide) (fun h66 => ?_) (fun h66 => ?_)
        · first | exact absurd h66 (nI_ge (show k < t.length by omega) (by omega)) | exact absurd (nI_ge (show k < t.length by omega) (by omega)) h66
        · skip
          refine g_iload_n (pc := 69) (i := 2) C d_M_putSnapshot_69 rfl rfl ?_
          refine g_istore_n (pc := 70) (i := 3) C d_M_putSnapshot_70 rfl (by decide) rfl ?_
          refine G.lf (inner (t.length - k) k (by omega) (by omega) ?_) (sb rfl (sb rfl (sb rfl (sb rfl sn))))
          rw [Nat.sub_self]
          rfl
  refine g_iconst (pc := 0) C d_M_putSnapshot_0 icn_1 ?_
  refine g_iconst (pc := 1) C d_M_putSnapshot_1 icn_2 ?_
  refine g_aload_n (pc := 2) (i := 0) C d_M_putSnapshot_2 rfl rfl ?_
  refine g_callV1 (pc := 3) (As := []) C my_M_runs mv_M_runs cl_M_117 is_M d_M_putSnapshot_3 (Nat.le_of_ble_eq_true rfl) rfl (Nat.le_of_ble_eq_true rfl) ⟨Nat.zero_le _, Nat.zero_le _⟩ (c_M_runs _ hD ht h60 hy) ?_
  refine g_imul (pc := 6) C d_M_putSnapshot_6 ?_
  refine g_iadd (pc := 7) C d_M_putSnapshot_7 ?_
  rw [nI_mul, nI_add]
  refine g_iconst (pc := 8) C d_M_putSnapshot_8 icn_1 ?_
  refine g_aload_n (pc := 9) (i := 0) C d_M_putSnapshot_9 rfl rfl ?_
  refine gf_M_textLen (pc := 10) C fl_M_106 d_M_putSnapshot_10 ?_
  rw [ht.1]
  refine g_iadd (pc := 13) C d_M_putSnapshot_13 ?_
  rw [nI_add]
  refine g_icmp_lt (pc := 14) (tgt := 52) C d_M_putSnapshot_14 (by decide) (fun h14 => ?_) (fun h14 => ?_)
  · have hU : 1 + 2 * rl t < 1 + t.length := (nI_ltI (by omega) (by omega)).mp h14
    rw [if_pos hU] at hle
    refine g_aload_n (pc := 52) (i := 0) C d_M_putSnapshot_52 rfl rfl ?_
    refine g_iload_n (pc := 53) (i := 1) C d_M_putSnapshot_53 rfl rfl ?_
    refine g_bipush (pc := 54) C d_M_putSnapshot_54 bpn_120 ?_
    refine g_callVp (pc := 56) (As := [_, _]) C my_M_putByte mv_M_putByte cl_M_134 is_M d_M_putSnapshot_56 (Nat.le_of_ble_eq_true rfl) rfl (Nat.le_of_ble_eq_true rfl) ⟨Nat.zero_le _, Nat.zero_le _⟩ (x_M_putByte _ hD hq h (by omega)) (fun r56 u56 hp56 => ?_)
    obtain ⟨m1, rfl, rfl, g1, s1⟩ := hp56
    refine g_iconst (pc := 59) C d_M_putSnapshot_59 icn_0 ?_
    refine g_istore_n (pc := 60) (i := 2) C d_M_putSnapshot_60 rfl (by decide) rfl ?_
    exact G.lf (loopX hU t.length 0 m1 [] (by omega) (by omega) s1 g1 (by rw [List.drop_zero]; rfl)) (sb rfl (sb rfl (sb rfl sn)))
  · have hU : ¬ 1 + 2 * rl t < 1 + t.length := fun q => h14 (nI_lt q (by omega))
    rw [if_neg hU] at hle
    refine g_aload_n (pc := 17) (i := 0) C d_M_putSnapshot_17 rfl rfl ?_
    refine g_iload_n (pc := 18) (i := 1) C d_M_putSnapshot_18 rfl rfl ?_
    refine g_bipush (pc := 19) C d_M_putSnapshot_19 bpn_117 ?_
    refine g_callVp (pc := 21) (As := [_, _]) C my_M_putByte mv_M_putByte cl_M_134 is_M d_M_putSnapshot_21 (Nat.le_of_ble_eq_true rfl) rfl (Nat.le_of_ble_eq_true rfl) ⟨Nat.zero_le _, Nat.zero_le _⟩ (x_M_putByte _ hD hq h (by omega)) (fun r21 u21 hp21 => ?_)
    obtain ⟨m1, rfl, rfl, g1, s1⟩ := hp21
    refine g_iconst (pc := 24) C d_M_putSnapshot_24 icn_0 ?_
    refine g_istore_n (pc := 25) (i := 2) C d_M_putSnapshot_25 rfl (by decide) rfl ?_
    exact G.lf (loopU hU t.length 0 m1 (by omega) s1 g1) (sb rfl (sb rfl (sb rfl sn)))
