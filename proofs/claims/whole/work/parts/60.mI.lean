/-! THE REFERENCE: its questions -/
theorem bar_ge {V : Vt} {r : Int32} : 0 ≤ barV V r ↔ barV V r = 0 := by
  unfold barV
  split
  · split
    · exact ⟨fun e => absurd e (by decide), fun e => absurd e (by decide)⟩
    · exact ⟨fun _ => rfl, fun _ => by decide⟩
  · exact ⟨fun e => absurd e (by decide), fun e => absurd e (by decide)⟩
theorem bar_lt {V : Vt} {r : Int32} : barV V r < 0 ↔ ¬ barV V r = 0 := by
  rw [← bar_ge]
  exact ⟨Int32.not_le.mpr, Int32.not_le.mp⟩
theorem MRep.flp {m : Cs} {q i y : Nat} {R : Rp} (h : MRep m q R) (hq : q < 2) (hi : i < R.dat.length) : MRep (wI m 2 (600 * q + i) (nI (R.dat.getD i 0) ^^^ nI y)) q (R.dat.set i (R.dat.getD i 0 ^^^ y), R.rcs, R.jrn, R.dwn, R.fai) := by
  have hs : Mk (fun a k => a = 2 ∧ k = 600 * q + i) m (wI m 2 (600 * q + i) (nI (R.dat.getD i 0) ^^^ nI y)) := Mk.wI ⟨rfl, rfl⟩
  have e : (R.dat.set i (R.dat.getD i 0 ^^^ y)).length = R.dat.length := List.length_set ..
  refine ⟨⟨?_, fun k hk => ?_⟩, ⟨?_, fun k x hx => (h.2.1.2 k x hx).mk hs (fun a h1 h2 => by omega)⟩, ⟨?_, fun p hp => ?_⟩, ?_, ?_⟩
  · show _ = nI (R.dat.set i (R.dat.getD i 0 ^^^ y)).length
    rw [hs.1 _ _ (by omega), e]; exact h.1.1
  · have hk : k < (R.dat.set i (R.dat.getD i 0 ^^^ y)).length := hk
    rw [e] at hk
    show _ = nI ((R.dat.set i (R.dat.getD i 0 ^^^ y)).getD k 0)
    by_cases ek : k = i
    · subst ek
      rw [rI_s, nI_xor, List.getD_eq_getElem?_getD, List.getD_eq_getElem?_getD, List.getElem?_set_self hi]
      rfl
    · rw [rI_n (Or.inr (by omega)), h.1.2 k hk, List.getD_eq_getElem?_getD, List.getD_eq_getElem?_getD, List.getElem?_set_ne (Ne.symm ek)]
  · rw [hs.1 _ _ (by omega)]; exact h.2.1.1
  · rw [hs.1 _ _ (by omega)]; exact h.2.2.1.1
  · rw [hs.1 _ _ (by omega)]; exact h.2.2.1.2 p hp
  · rw [hs.1 _ _ (by omega)]; exact h.2.2.2.1
  · rw [hs.1 _ _ (by omega)]; exact h.2.2.2.2
theorem MRep.fa {m : Cs} {q n : Nat} {R : Rp} (h : MRep m q R) : MRep (wI m 13 q (nI n)) q (R.dat, R.rcs, R.jrn, R.dwn, n) := by
  have ht : Mk (fun a k => a = 13 ∧ k = q) m (wI m 13 q (nI n)) := Mk.wI ⟨rfl, rfl⟩
  refine h.fs ht (fun a k e => by omega) ?_ (fun k hk => ⟨hk, rfl⟩) ?_ (fun _ _ e => e) ?_ (fun p hp => ?_) ?_ ?_
  · rw [ht.1 _ _ (by omega)]; exact h.1.1
  · rw [ht.1 _ _ (by omega)]; exact h.2.1.1
  · rw [ht.1 _ _ (by omega)]; exact h.2.2.1.1
  · rw [ht.1 _ _ (by omega)]; exact h.2.2.1.2 p hp
  · rw [ht.1 _ _ (by omega)]; exact h.2.2.2.1
  · rw [rI_s]
    rfl
/-- typing: good so far -/
def tyG (v : Int64) (i : Nat) : Prop := ∀ k, k < i → bn v k = 0 ∨ chr (bn v k)
theorem tyG_s {v : Int64} {i : Nat} (h : tyG v i) (hc : bn v i = 0 ∨ chr (bn v i)) : tyG v (i + 1) := fun k hk => by
  by_cases e : k = i
  · rw [e]; exact hc
  · exact h k (by omega)
theorem MRep.m0 {P : Nat → Nat → Prop} {m m2 : Cs} {q : Nat} {R : Rp} (g : MRep m q R) (hs : Mk P m m2) (hp : ∀ a k, P a k → a = 0 ∨ a = 1) : MRep m2 q R := by
  have n : ∀ a k, 2 ≤ a → ¬ P a k := fun a k h e => by have := hp a k e; omega
  refine g.fs hs (fun a k e => by have := hp a k e; omega) ?_ (fun k hk => ⟨hk, rfl⟩) ?_ (fun _ _ e => e) ?_ (fun p hp => ?_) ?_ ?_
  · rw [hs.1 _ _ (n _ _ (by decide))]; exact g.1.1
  · rw [hs.1 _ _ (n _ _ (by decide))]; exact g.2.1.1
  · rw [hs.1 _ _ (n _ _ (by decide))]; exact g.2.2.1.1
  · rw [hs.1 _ _ (n _ _ (by decide))]; exact g.2.2.1.2 p hp
  · rw [hs.1 _ _ (n _ _ (by decide))]; exact g.2.2.2.1
  · rw [hs.1 _ _ (n _ _ (by decide))]; exact g.2.2.2.2
theorem MAbs.bf {P : Nat → Nat → Prop} {m m2 : Cs} {V : Vt} {b : List Nat} (h : MAbs m V) (hs : Mk P m m2) (hp : ∀ a k, P a k → a = 0 ∨ a = 1) (hb : Bl m2 1 1 b) : MAbs m2 (b, V.2) := ⟨hb, h.2.1.m0 hs hp, h.2.2.m0 hs hp⟩
set_option maxRecDepth 100000 in
set_option maxHeartbeats 4000000 in
theorem c_M_revisions (l : Launch) {D : Dt} (hD : OkD D) {c m : Cs} {ow : Nat → Int64} {r : Int32} {V : Vt} (h : MAbs m V) (hW : WfV V) : Ct l D y_M_revisions b_M_revisions 3 (some .int) 3 [.int r, .ref (aMdl D)] ((c, m, ow) : Sg) (some (.int (oRevisions V r))) ((c, wI m 0 0 0, ow) : Sg) := by
  refine Ct.of hD (by decide) (Nat.le_of_ble_eq_true rfl) [(0, some (.ref (aMdl D))), (1, some (.int r))] rfl (fun X hX C => ?_)
  subst hX
  refine g_aload_n (pc := 0) (i := 0) C d_M_revisions_0 rfl rfl ?_
  refine g_iload_n (pc := 1) (i := 1) C d_M_revisions_1 rfl rfl ?_
  refine g_callV1 (pc := 2) (As := [_]) C my_M_shut mv_M_shut cl_M_184 is_M d_M_revisions_2 (Nat.le_of_ble_eq_true rfl) rfl (Nat.le_of_ble_eq_true rfl) ⟨Nat.zero_le _, Nat.zero_le _⟩ (c_M_shut _ hD h) ?_
  refine g_istore_n (pc := 5) (i := 2) C d_M_revisions_5 rfl (by decide) rfl ?_
  refine g_iload_n (pc := 6) (i := 2) C d_M_revisions_6 rfl rfl ?_
  refine g_if_ge (pc := 7) (tgt := 14) C d_M_revisions_7 (by decide) (fun h7 => ?_) (fun h7 => ?_)
  · have hb := bar_ge.mp h7
    obtain ⟨q, hq, rfl, hd⟩ := bar_0 hb
    have hR := (mw0 h 0).rep hq
    have wR := hW.rep hq
    have h24 := wR.2.2.1
    have h600 := wR.2.1
    refine g_aload_n (pc := 14) (i := 0) C d_M_revisions_14 rfl rfl ?_
    refine gf_M_count (pc := 15) C fl_M_19 d_M_revisions_15 ?_
    refine g_iload_n (pc := 18) (i := 1) C d_M_revisions_18 rfl rfl ?_
    refine ga_mar (pc := 19) C (by decide) (by decide) (vp_in_nI (show q < 2 by omega) (by decide)) d_M_revisions_19 ?_
    rw [nI_clamp (show q < 2 ^ 31 by omega), hR.2.1.1]
    refine g_iret (pc := 20) C d_M_revisions_20 ?_
    exact ⟨by unfold oRevisions; rw [if_pos hb, nI_clamp (by omega)], rfl⟩
  · have hb : ¬ barV V r = 0 := fun e => h7 (bar_ge.mpr e)
    refine g_iload_n (pc := 10) (i := 2) C d_M_revisions_10 rfl rfl ?_
    refine g_goto (pc := 11) (tgt := 20) C d_M_revisions_11 (by decide) ?_
    refine g_iret (pc := 20) C d_M_revisions_20 ?_
    exact ⟨by unfold oRevisions; rw [if_neg hb], rfl⟩
set_option maxRecDepth 100000 in
set_option maxHeartbeats 4000000 in
theorem c_M_node (l : Launch) {D : Dt} (hD : OkD D) {c m : Cs} {ow : Nat → Int64} {r : Int32} {V : Vt} {n : Int32} (h : MAbs m V) (hW : WfV V) : Ct l D y_M_node b_M_node 3 (some .long) 3 [.int n, .int r, .ref (aMdl D)] ((c, m, ow) : Sg) (some (.long (oNode V r n))) ((c, wI m 0 0 0, ow) : Sg) := by
  refine Ct.of hD (by decide) (Nat.le_of_ble_eq_true rfl) [(0, some (.ref (aMdl D))), (1, some (.int r)), (2, some (.int n))] rfl (fun X hX C => ?_)
  subst hX
  refine g_aload_n (pc := 0) (i := 0) C d_M_node_0 rfl rfl ?_
  refine g_iload_n (pc := 1) (i := 1) C d_M_node_1 rfl rfl ?_
  refine g_callV1 (pc := 2) (As := [_]) C my_M_shut mv_M_shut cl_M_184 is_M d_M_node_2 (Nat.le_of_ble_eq_true rfl) rfl (Nat.le_of_ble_eq_true rfl) ⟨Nat.zero_le _, Nat.zero_le _⟩ (c_M_shut _ hD h) ?_
  refine g_if_lt (pc := 5) (tgt := 17) C d_M_node_5 (by decide) (fun h5 => ?_) (fun h5 => ?_)
  · have hno : ¬ (barV V r = 0 ∧ 0 ≤ n ∧ n < nI (V.2 r.toNatClampNeg).rcs.length) := fun e => bar_lt.mp h5 e.1
    refine g_lconst (pc := 17) C d_M_node_17 lc_0 ?_
    refine g_goto (pc := 18) (tgt := 32) C d_M_node_18 (by decide) ?_
    refine g_lret (pc := 32) C d_M_node_32 ?_
    exact ⟨by unfold oNode; rw [if_neg hno], rfl⟩
  · have hb : barV V r = 0 := Classical.byContradiction fun e => h5 (bar_lt.mpr e)
    obtain ⟨q, hq, rfl, hd⟩ := bar_0 hb
    have hR := (mw0 h 0).rep hq
    have wR := hW.rep hq
    have h24 := wR.2.2.1
    have h600 := wR.2.1
    have hcl := nI_clamp (n := q) (by omega)
    refine g_aload_n (pc := 8) (i := 0) C d_M_node_8 rfl rfl ?_
    refine g_iload_n (pc := 9) (i := 1) C d_M_node_9 rfl rfl ?_
    refine g_iload_n (pc := 10) (i := 2) C d_M_node_10 rfl rfl ?_
    refine g_callV1 (pc := 11) (As := [_, _]) C my_M_isRevision mv_M_isRevision cl_M_172 is_M d_M_node_11 (Nat.le_of_ble_eq_true rfl) rfl (Nat.le_of_ble_eq_true rfl) ⟨Nat.zero_le _, Nat.zero_le _⟩ (c_M_isRevision _ hD hq hR.2.1.1) ?_
    refine g_if_ne (pc := 14) (tgt := 21) C d_M_node_14 (by decide) (fun h14 => ?_) (fun h14 => ?_)
    · have hn := b1_1 h14
      obtain ⟨i, hi, rfl⟩ := nI_at hn (by omega)
      obtain ⟨x, hx⟩ : ∃ x, (V.2 q).rcs[i]? = some x := ⟨_, List.getElem?_eq_getElem hi⟩
      have hr := hR.2.1.2 i x hx
      refine g_aload_n (pc := 21) (i := 0) C d_M_node_21 rfl rfl ?_
      refine gf_M_nodes (pc := 22) C fl_M_40 d_M_node_22 ?_
      refine g_bipush (pc := 25) C d_M_node_25 bpn_24 ?_
      refine g_iload_n (pc := 27) (i := 1) C d_M_node_27 rfl rfl ?_
      refine g_imul (pc := 28) C d_M_node_28 ?_
      refine g_iload_n (pc := 29) (i := 2) C d_M_node_29 rfl rfl ?_
      refine g_iadd (pc := 30) C d_M_node_30 ?_
      simp only [nI_mul, nI_add]
      refine ga_nds (pc := 31) C (vp_in_nI (show 24 * q + i < 48 by omega) (by decide)) d_M_node_31 ?_
      rw [nI_clamp (show 24 * q + i < 2 ^ 31 by omega), hr.2.2.2.2.2.2]
      refine g_lret (pc := 32) C d_M_node_32 ?_
      exact ⟨by unfold oNode; rw [hcl, if_pos ⟨hb, hn⟩, nI_clamp (by omega), nodP_s hx], rfl⟩
    · have hno : ¬ (barV V (nI q) = 0 ∧ 0 ≤ n ∧ n < nI (V.2 (nI q).toNatClampNeg).rcs.length) := fun e => b1_0 h14 (by rw [hcl] at e; exact e.2)
      refine g_lconst (pc := 17) C d_M_node_17 lc_0 ?_
      refine g_goto (pc := 18) (tgt := 32) C d_M_node_18 (by decide) ?_
      refine g_lret (pc := 32) C d_M_node_32 ?_
      exact ⟨by unfold oNode; rw [if_neg hno], rfl⟩
set_option maxRecDepth 100000 in
set_option maxHeartbeats 4000000 in
theorem c_M_data (l : Launch) {D : Dt} (hD : OkD D) {c m : Cs} {ow : Nat → Int64} {r : Int32} {V : Vt} {k : Int32} (h : MAbs m V) (hW : WfV V) : Ct l D y_M_data b_M_data 4 (some .int) 3 [.int k, .int r, .ref (aMdl D)] ((c, m, ow) : Sg) (some (.int (oData V r k))) ((c, wI m 0 0 0, ow) : Sg) := by
  refine Ct.of hD (by decide) (Nat.le_of_ble_eq_true rfl) [(0, some (.ref (aMdl D))), (1, some (.int r)), (2, some (.int k))] rfl (fun X hX C => ?_)
  subst hX
  refine g_aload_n (pc := 0) (i := 0) C d_M_data_0 rfl rfl ?_
  refine g_iload_n (pc := 1) (i := 1) C d_M_data_1 rfl rfl ?_
  refine g_callV1 (pc := 2) (As := [_]) C my_M_shut mv_M_shut cl_M_184 is_M d_M_data_2 (Nat.le_of_ble_eq_true rfl) rfl (Nat.le_of_ble_eq_true rfl) ⟨Nat.zero_le _, Nat.zero_le _⟩ (c_M_shut _ hD h) ?_
  refine g_istore_n (pc := 5) (i := 3) C d_M_data_5 rfl (by decide) rfl ?_
  refine g_iload_n (pc := 6) (i := 3) C d_M_data_6 rfl rfl ?_
  refine g_if_ge (pc := 7) (tgt := 12) C d_M_data_7 (by decide) (fun h7 => ?_) (fun h7 => ?_)
  · have hb := bar_ge.mp h7
    obtain ⟨q, hq, rfl, hd⟩ := bar_0 hb
    have hR := (mw0 h 0).rep hq
    have wR := hW.rep hq
    have h24 := wR.2.2.1
    have h600 := wR.2.1
    have hcl := nI_clamp (n := q) (by omega)
    have ho : oData V (nI q) k = if k = -1 then nI (V.2 q).dat.length else if 0 ≤ k ∧ k < nI (V.2 q).dat.length then nI ((V.2 q).dat.getD k.toNatClampNeg 0) else -1 := by unfold oData; rw [if_pos hb, hcl]
    refine g_iload_n (pc := 12) (i := 2) C d_M_data_12 rfl rfl ?_
    refine g_iconst (pc := 13) C d_M_data_13 ic_m1 ?_
    refine g_icmp_ne (pc := 14) (tgt := 26) C d_M_data_14 (by decide) (fun h14 => ?_) (fun h14 => ?_)
    · rw [if_neg h14] at ho
      refine g_iload_n (pc := 26) (i := 2) C d_M_data_26 rfl rfl ?_
      refine g_if_lt (pc := 27) (tgt := 55) C d_M_data_27 (by decide) (fun h27 => ?_) (fun h27 => ?_)
      · rw [if_neg (fun e => absurd h27 (Int32.not_lt.mpr e.1))] at ho
        refine g_iconst (pc := 55) C d_M_data_55 ic_m1 ?_
        refine g_iret (pc := 56) C d_M_data_56 ?_
        exact ⟨by rw [ho], rfl⟩
      · skip
        refine g_iload_n (pc := 30) (i := 2) C d_M_data_30 rfl rfl ?_
        refine g_aload_n (pc := 31) (i := 0) C d_M_data_31 rfl rfl ?_
        refine gf_M_dataLen (pc := 32) C fl_M_16 d_M_data_32 ?_
        refine g_iload_n (pc := 35) (i := 1) C d_M_data_35 rfl rfl ?_
        refine ga_mar (pc := 36) C (by decide) (by decide) (vp_in_nI (show q < 2 by omega) (by decide)) d_M_data_36 ?_
        rw [nI_clamp (show q < 2 ^ 31 by omega), hR.1.1]
        refine g_icmp_ge (pc := 37) (tgt := 55) C d_M_data_37 (by decide) (fun h37 => ?_) (fun h37 => ?_)
        · rw [if_neg (fun e => absurd e.2 (Int32.not_lt.mpr h37))] at ho
          refine g_iconst (pc := 55) C d_M_data_55 ic_m1 ?_
          refine g_iret (pc := 56) C d_M_data_56 ?_
          exact ⟨by rw [ho], rfl⟩
        · have hk : 0 ≤ k ∧ k < nI (V.2 q).dat.length := ⟨Int32.not_lt.mp h27, Int32.not_le.mp h37⟩
          rw [if_pos hk] at ho
          obtain ⟨i, hi, rfl⟩ := nI_at hk (by omega)
          rw [nI_clamp (by omega)] at ho
          refine g_aload_n (pc := 40) (i := 0) C d_M_data_40 rfl rfl ?_
          refine gf_M_bytes (pc := 41) C fl_M_13 d_M_data_41 ?_
          refine g_sipush (pc := 44) C d_M_data_44 spn_600 ?_
          refine g_iload_n (pc := 47) (i := 1) C d_M_data_47 rfl rfl ?_
          refine g_imul (pc := 48) C d_M_data_48 ?_
          refine g_iload_n (pc := 49) (i := 2) C d_M_data_49 rfl rfl ?_
          refine g_iadd (pc := 50) C d_M_data_50 ?_
          simp only [nI_mul, nI_add]
          refine ga_mar (pc := 51) C (by decide) (by decide) (vp_in_nI (show 600 * q + i < 1200 by omega) (by decide)) d_M_data_51 ?_
          rw [nI_clamp (show 600 * q + i < 2 ^ 31 by omega), hR.1.2 i hi]
          refine g_goto (pc := 52) (tgt := 56) C d_M_data_52 (by decide) ?_
          refine g_iret (pc := 56) C d_M_data_56 ?_
          exact ⟨by rw [ho], rfl⟩
    · rw [if_pos h14] at ho
      refine g_aload_n (pc := 17) (i := 0) C d_M_data_17 rfl rfl ?_
      refine gf_M_dataLen (pc := 18) C fl_M_16 d_M_data_18 ?_
      refine g_iload_n (pc := 21) (i := 1) C d_M_data_21 rfl rfl ?_
      refine ga_mar (pc := 22) C (by decide) (by decide) (vp_in_nI (show q < 2 by omega) (by decide)) d_M_data_22 ?_
      rw [nI_clamp (show q < 2 ^ 31 by omega), hR.1.1]
      refine g_goto (pc := 23) (tgt := 56) C d_M_data_23 (by decide) ?_
      refine g_iret (pc := 56) C d_M_data_56 ?_
      exact ⟨by rw [ho], rfl⟩
  · have hb : ¬ barV V r = 0 := fun e => h7 (bar_ge.mpr e)
    refine g_iload_n (pc := 10) (i := 3) C d_M_data_10 rfl rfl ?_
    refine g_iret (pc := 11) C d_M_data_11 ?_
    exact ⟨by unfold oData; rw [if_neg hb], rfl⟩
set_option maxRecDepth 100000 in
set_option maxHeartbeats 4000000 in
theorem c_M_record (l : Launch) {D : Dt} (hD : OkD D) {c m : Cs} {ow : Nat → Int64} {r : Int32} {V : Vt} {n k : Int32} (h : MAbs m V) (hW : WfV V) : Ct l D y_M_record b_M_record 6 (some .int) 3 [.int k, .int n, .int r, .ref (aMdl D)] ((c, m, ow) : Sg) (some (.int (oRecord V r n k))) ((c, wI m 0 0 0, ow) : Sg) := by
  refine Ct.of hD (by decide) (Nat.le_of_ble_eq_true rfl) [(0, some (.ref (aMdl D))), (1, some (.int r)), (2, some (.int n)), (3, some (.int k))] rfl (fun X hX C => ?_)
  subst hX
  refine g_aload_n (pc := 0) (i := 0) C d_M_record_0 rfl rfl ?_
  refine g_iload_n (pc := 1) (i := 1) C d_M_record_1 rfl rfl ?_
  refine g_callV1 (pc := 2) (As := [_]) C my_M_shut mv_M_shut cl_M_184 is_M d_M_record_2 (Nat.le_of_ble_eq_true rfl) rfl (Nat.le_of_ble_eq_true rfl) ⟨Nat.zero_le _, Nat.zero_le _⟩ (c_M_shut _ hD h) ?_
  refine g_istore (pc := 5) C d_M_record_5 (by decide) rfl ?_
  refine g_iload (pc := 7) C d_M_record_7 rfl ?_
  refine g_if_ge (pc := 9) (tgt := 15) C d_M_record_9 (by decide) (fun h9 => ?_) (fun h9 => ?_)
  · have hb := bar_ge.mp h9
    obtain ⟨q, hq, rfl, hd⟩ := bar_0 hb
    have hR := (mw0 h 0).rep hq
    have wR := hW.rep hq
    have h24 := wR.2.2.1
    have h600 := wR.2.1
    have hcl := nI_clamp (n := q) (by omega)
    have ho : oRecord V (nI q) n k = if 0 ≤ n ∧ n < nI (V.2 q).rcs.length then (match (V.2 q).rcs[n.toNatClampNeg]? with
        | none => -1
        | some x => oFld x k) else -1 := by
      unfold oRecord
      rw [if_pos hb, hcl]
      rfl
    refine g_aload_n (pc := 15) (i := 0) C d_M_record_15 rfl rfl ?_
    refine g_iload_n (pc := 16) (i := 1) C d_M_record_16 rfl rfl ?_
    refine g_iload_n (pc := 17) (i := 2) C d_M_record_17 rfl rfl ?_
    refine g_callV1 (pc := 18) (As := [_, _]) C my_M_isRevision mv_M_isRevision cl_M_172 is_M d_M_record_18 (Nat.le_of_ble_eq_true rfl) rfl (Nat.le_of_ble_eq_true rfl) ⟨Nat.zero_le _, Nat.zero_le _⟩ (c_M_isRevision _ hD hq hR.2.1.1) ?_
    refine g_if_eq (pc := 21) (tgt := 33) C d_M_record_21 (by decide) (fun h21 => ?_) (fun h21 => ?_)
    · rw [if_neg (b1_0 h21)] at ho
      refine g_iconst (pc := 33) C d_M_record_33 ic_m1 ?_
      refine g_iret (pc := 34) C d_M_record_34 ?_
      exact ⟨by rw [ho], rfl⟩
    · have hn := b1_1 h21
      rw [if_pos hn] at ho
      obtain ⟨i, hi, rfl⟩ := nI_at hn (by omega)
      obtain ⟨x, hx⟩ : ∃ x, (V.2 q).rcs[i]? = some x := ⟨_, List.getElem?_eq_getElem hi⟩
      have hr := hR.2.1.2 i x hx
      rw [nI_clamp (by omega), hx] at ho
      have ho : oRecord V (nI q) (nI i) k = oFld x k := ho
      unfold oFld at ho
      refine g_iload_n (pc := 24) (i := 3) C d_M_record_24 rfl rfl ?_
      refine g_if_lt (pc := 25) (tgt := 33) C d_M_record_25 (by decide) (fun h25 => ?_) (fun h25 => ?_)
      · have hkn : ∀ v, v ≤ 5 → ¬ k = nI v := fun v hv e => by rw [e] at h25; exact absurd h25 (nI_pos (by omega))
        rw [if_neg (hkn 0 (by decide)), if_neg (hkn 1 (by decide)), if_neg (hkn 2 (by decide)), if_neg (hkn 3 (by decide)), if_neg (hkn 4 (by decide)), if_neg (hkn 5 (by decide))] at ho
        refine g_iconst (pc := 33) C d_M_record_33 ic_m1 ?_
        refine g_iret (pc := 34) C d_M_record_34 ?_
        exact ⟨by rw [ho], rfl⟩
      · skip
        refine g_iload_n (pc := 28) (i := 3) C d_M_record_28 rfl rfl ?_
        refine g_iconst (pc := 29) C d_M_record_29 icn_5 ?_
        refine g_icmp_le (pc := 30) (tgt := 35) C d_M_record_30 (by decide) (fun h30 => ?_) (fun h30 => ?_)
        · obtain ⟨y, hy, hky⟩ := nI_of2 (M := nI 5) (n := 5) (by decide +kernel) h25 h30
          refine g_bipush (pc := 35) C d_M_record_35 bpn_24 ?_
          refine g_iload_n (pc := 37) (i := 1) C d_M_record_37 rfl rfl ?_
          refine g_imul (pc := 38) C d_M_record_38 ?_
          refine g_iload_n (pc := 39) (i := 2) C d_M_record_39 rfl rfl ?_
          refine g_iadd (pc := 40) C d_M_record_40 ?_
          rw [nI_mul, nI_add]
          refine g_istore (pc := 41) C d_M_record_41 (by decide) rfl ?_
          refine g_iload_n (pc := 43) (i := 3) C d_M_record_43 rfl rfl ?_
          refine g_if_ne (pc := 44) (tgt := 57) C d_M_record_44 (by decide) (fun h44 => ?_) (fun h44 => ?_)
          · have k0 : ¬ k = nI 0 := fun e => h44 (by rw [e]; exact nI_0)
            refine g_iload_n (pc := 57) (i := 3) C d_M_record_57 rfl rfl ?_
            refine g_iconst (pc := 58) C d_M_record_58 icn_1 ?_
            refine g_icmp_ne (pc := 59) (tgt := 72) C d_M_record_59 (by decide) (fun h59 => ?_) (fun h59 => ?_)
            · have k1 : ¬ k = nI 1 := fun e => h59 (by rw [e])
              refine g_iload_n (pc := 72) (i := 3) C d_M_record_72 rfl rfl ?_
              refine g_iconst (pc := 73) C d_M_record_73 icn_2 ?_
              refine g_icmp_ne (pc := 74) (tgt := 87) C d_M_record_74 (by decide) (fun h74 => ?_) (fun h74 => ?_)
              · have k2 : ¬ k = nI 2 := fun e => h74 (by rw [e])
                refine g_iload_n (pc := 87) (i := 3) C d_M_record_87 rfl rfl ?_
                refine g_iconst (pc := 88) C d_M_record_88 icn_3 ?_
                refine g_icmp_ne (pc := 89) (tgt := 102) C d_M_record_89 (by decide) (fun h89 => ?_) (fun h89 => ?_)
                · have k3 : ¬ k = nI 3 := fun e => h89 (by rw [e])
                  refine g_iload_n (pc := 102) (i := 3) C d_M_record_102 rfl rfl ?_
                  refine g_iconst (pc := 103) C d_M_record_103 icn_4 ?_
                  refine g_icmp_ne (pc := 104) (tgt := 117) C d_M_record_104 (by decide) (fun h104 => ?_) (fun h104 => ?_)
                  · have k4 : ¬ k = nI 4 := fun e => h104 (by rw [e])
                    refine g_aload_n (pc := 117) (i := 0) C d_M_record_117 rfl rfl ?_
                    refine gf_M_second (pc := 118) C fl_M_37 d_M_record_118 ?_
                    refine g_iload (pc := 121) C d_M_record_121 rfl ?_
                    skip
                    refine ga_mar (pc := 123) C (by decide) (by decide) (vp_in_nI (show 24 * q + i < 48 by omega) (by decide)) d_M_record_123 ?_
                    rw [nI_clamp (show 24 * q + i < 2 ^ 31 by omega), hr.2.2.2.2.2.1]
                    refine g_iret (pc := 124) C d_M_record_124 ?_
                    have k5 : k = nI 5 := by
                      rcases (show y = 0 ∨ y = 1 ∨ y = 2 ∨ y = 3 ∨ y = 4 ∨ y = 5 by omega) with e | e | e | e | e | e <;> subst e
                      · exact absurd hky k0
                      · exact absurd hky k1
                      · exact absurd hky k2
                      · exact absurd hky k3
                      · exact absurd hky k4
                      · exact hky
                    rw [if_neg k0, if_neg k1, if_neg k2, if_neg k3, if_neg k4, if_pos k5] at ho
                    exact ⟨by rw [ho], rfl⟩
                  · have k4 : k = nI 4 := h104
                    refine g_aload_n (pc := 107) (i := 0) C d_M_record_107 rfl rfl ?_
                    refine gf_M_first (pc := 108) C fl_M_34 d_M_record_108 ?_
                    refine g_iload (pc := 111) C d_M_record_111 rfl ?_
                    skip
                    refine ga_mar (pc := 113) C (by decide) (by decide) (vp_in_nI (show 24 * q + i < 48 by omega) (by decide)) d_M_record_113 ?_
                    rw [nI_clamp (show 24 * q + i < 2 ^ 31 by omega), hr.2.2.2.2.1]
                    refine g_goto (pc := 114) (tgt := 124) C d_M_record_114 (by decide) ?_
                    refine g_iret (pc := 124) C d_M_record_124 ?_
                    rw [if_neg k0, if_neg k1, if_neg k2, if_neg k3, if_pos k4] at ho
                    exact ⟨by rw [ho], rfl⟩
                · have k3 : k = nI 3 := h89
                  refine g_aload_n (pc := 92) (i := 0) C d_M_record_92 rfl rfl ?_
                  refine gf_M_base (pc := 93) C fl_M_31 d_M_record_93 ?_
                  refine g_iload (pc := 96) C d_M_record_96 rfl ?_
                  skip
                  refine ga_mar (pc := 98) C (by decide) (by decide) (vp_in_nI (show 24 * q + i < 48 by omega) (by decide)) d_M_record_98 ?_
                  rw [nI_clamp (show 24 * q + i < 2 ^ 31 by omega), hr.2.2.2.1]
                  refine g_goto (pc := 99) (tgt := 124) C d_M_record_99 (by decide) ?_
                  refine g_iret (pc := 124) C d_M_record_124 ?_
                  rw [if_neg k0, if_neg k1, if_neg k2, if_pos k3] at ho
                  exact ⟨by rw [ho], rfl⟩
              · have k2 : k = nI 2 := h74
                refine g_aload_n (pc := 77) (i := 0) C d_M_record_77 rfl rfl ?_
                refine gf_M_length (pc := 78) C fl_M_28 d_M_record_78 ?_
                refine g_iload (pc := 81) C d_M_record_81 rfl ?_
                skip
                refine ga_mar (pc := 83) C (by decide) (by decide) (vp_in_nI (show 24 * q + i < 48 by omega) (by decide)) d_M_record_83 ?_
                rw [nI_clamp (show 24 * q + i < 2 ^ 31 by omega), hr.2.2.1]
                refine g_goto (pc := 84) (tgt := 124) C d_M_record_84 (by decide) ?_
                refine g_iret (pc := 124) C d_M_record_124 ?_
                rw [if_neg k0, if_neg k1, if_pos k2] at ho
                exact ⟨by rw [ho], rfl⟩
            · have k1 : k = nI 1 := h59
              refine g_aload_n (pc := 62) (i := 0) C d_M_record_62 rfl rfl ?_
              refine gf_M_chunk (pc := 63) C fl_M_25 d_M_record_63 ?_
              refine g_iload (pc := 66) C d_M_record_66 rfl ?_
              skip
              refine ga_mar (pc := 68) C (by decide) (by decide) (vp_in_nI (show 24 * q + i < 48 by omega) (by decide)) d_M_record_68 ?_
              rw [nI_clamp (show 24 * q + i < 2 ^ 31 by omega), hr.2.1]
              refine g_goto (pc := 69) (tgt := 124) C d_M_record_69 (by decide) ?_
              refine g_iret (pc := 124) C d_M_record_124 ?_
              rw [if_neg k0, if_pos k1] at ho
              exact ⟨by rw [ho], rfl⟩
          · have k0 : k = nI 0 := h44.trans nI_0.symm
            refine g_aload_n (pc := 47) (i := 0) C d_M_record_47 rfl rfl ?_
            refine gf_M_offset (pc := 48) C fl_M_22 d_M_record_48 ?_
            refine g_iload (pc := 51) C d_M_record_51 rfl ?_
            skip
            refine ga_mar (pc := 53) C (by decide) (by decide) (vp_in_nI (show 24 * q + i < 48 by omega) (by decide)) d_M_record_53 ?_
            rw [nI_clamp (show 24 * q + i < 2 ^ 31 by omega), hr.1]
            refine g_goto (pc := 54) (tgt := 124) C d_M_record_54 (by decide) ?_
            refine g_iret (pc := 124) C d_M_record_124 ?_
            rw [if_pos k0] at ho
            exact ⟨by rw [ho], rfl⟩
        · have hkn : ∀ v, v ≤ 5 → ¬ k = nI v := fun v hv e => h30 (by rw [e]; exact nI_le hv (by decide))
          rw [if_neg (hkn 0 (by decide)), if_neg (hkn 1 (by decide)), if_neg (hkn 2 (by decide)), if_neg (hkn 3 (by decide)), if_neg (hkn 4 (by decide)), if_neg (hkn 5 (by decide))] at ho
          refine g_iconst (pc := 33) C d_M_record_33 ic_m1 ?_
          refine g_iret (pc := 34) C d_M_record_34 ?_
          exact ⟨by rw [ho], rfl⟩
  · have hb : ¬ barV V r = 0 := fun e => h9 (bar_ge.mpr e)
    refine g_iload (pc := 12) C d_M_record_12 rfl ?_
    refine g_iret (pc := 14) C d_M_record_14 ?_
    exact ⟨by unfold oRecord; rw [if_neg hb], rfl⟩
set_option maxRecDepth 100000 in
set_option maxHeartbeats 4000000 in
theorem x_M_fail (l : Launch) {D : Dt} (hD : OkD D) {c m : Cs} {ow : Nat → Int64} {r : Int32} {V : Vt} {n : Int32} (h : MAbs m V) (hW : WfV V) : Cp l D y_M_fail b_M_fail 3 (some .boolean) 2 [.int n, .int r, .ref (aMdl D)] ((c, m, ow) : Sg) (fun a u => ∃ m2, u = ((c, m2, ow) : Sg) ∧ a = some (.int (b1 ((oFail V r n).1 = true))) ∧ MAbs m2 (oFail V r n).2) := by
  refine Cp.of hD (by decide) (Nat.le_of_ble_eq_true rfl) [(0, some (.ref (aMdl D))), (1, some (.int r)), (2, some (.int n))] rfl (fun X hX C => ?_)
  subst hX
  refine g_aload_n (pc := 0) (i := 0) C d_M_fail_0 rfl rfl ?_
  refine g_iconst (pc := 1) C d_M_fail_1 ic_0 ?_
  refine gp_M_thrown (pc := 2) C fl_M_69 d_M_fail_2 ?_
  refine g_iload_n (pc := 5) (i := 1) C d_M_fail_5 rfl rfl ?_
  refine g_callS1 (pc := 6) (As := [_]) C my_M_isRepository ms_M_isRepository cl_M_159 d_M_fail_6 (Nat.le_of_ble_eq_true rfl) rfl (Nat.le_of_ble_eq_true rfl) ⟨Nat.zero_le _, Nat.zero_le _⟩ (c_M_isRepository _ hD) ?_
  refine g_if_eq (pc := 9) (tgt := 31) C d_M_fail_9 (by decide) (fun h9 => ?_) (fun h9 => ?_)
  · have hno : ¬ (barV V r = 0 ∧ 0 ≤ n ∧ n ≤ 100) := fun e => b1_0 h9 (by obtain ⟨q, hq, rfl, hd⟩ := bar_0 e.1; exact okr_i hq)
    refine g_iconst (pc := 31) C d_M_fail_31 ic_0 ?_
    refine g_zret (pc := 32) C d_M_fail_32 (by first | exact Or.inl rfl | exact Or.inr rfl) ?_
    exact ⟨_, rfl, by unfold oFail; rw [if_neg hno]; rfl, by unfold oFail; rw [if_neg hno]; exact mw0 h 0⟩
  · obtain ⟨q, hq, rfl⟩ := okr_n (b1_1 h9)
    have hR := (mw0 h 0).rep hq
    refine g_aload_n (pc := 12) (i := 0) C d_M_fail_12 rfl rfl ?_
    refine gf_M_down (pc := 13) C fl_M_50 d_M_fail_13 ?_
    refine g_iload_n (pc := 16) (i := 1) C d_M_fail_16 rfl rfl ?_
    refine ga_dwn (pc := 17) C (vp_in_nI (show q < 2 by omega) (by decide)) d_M_fail_17 ?_
    rw [nI_clamp (show q < 2 ^ 31 by omega), hR.2.2.2.1]
    refine g_if_ne (pc := 18) (tgt := 31) C d_M_fail_18 (by decide) (fun h18 => ?_) (fun h18 => ?_)
    · have hno : ¬ (barV V (nI q) = 0 ∧ 0 ≤ n ∧ n ≤ 100) := fun e => absurd e.1 (by rw [bar_q hq, if_pos (b1_1 h18)]; decide)
      refine g_iconst (pc := 31) C d_M_fail_31 ic_0 ?_
      refine g_zret (pc := 32) C d_M_fail_32 (by first | exact Or.inl rfl | exact Or.inr rfl) ?_
      exact ⟨_, rfl, by unfold oFail; rw [if_neg hno]; rfl, by unfold oFail; rw [if_neg hno]; exact mw0 h 0⟩
    · have hb : barV V (nI q) = 0 := by rw [bar_q hq, if_neg (b1_0 h18)]
      refine g_iload_n (pc := 21) (i := 2) C d_M_fail_21 rfl rfl ?_
      refine g_if_lt (pc := 22) (tgt := 31) C d_M_fail_22 (by decide) (fun h22 => ?_) (fun h22 => ?_)
      · have hno : ¬ (barV V (nI q) = 0 ∧ 0 ≤ n ∧ n ≤ 100) := fun e => absurd h22 (Int32.not_lt.mpr e.2.1)
        refine g_iconst (pc := 31) C d_M_fail_31 ic_0 ?_
        refine g_zret (pc := 32) C d_M_fail_32 (by first | exact Or.inl rfl | exact Or.inr rfl) ?_
        exact ⟨_, rfl, by unfold oFail; rw [if_neg hno]; rfl, by unfold oFail; rw [if_neg hno]; exact mw0 h 0⟩
      · skip
        refine g_iload_n (pc := 25) (i := 2) C d_M_fail_25 rfl rfl ?_
        refine g_bipush (pc := 26) C d_M_fail_26 bp_100 ?_
        refine g_icmp_le (pc := 28) (tgt := 33) C d_M_fail_28 (by decide) (fun h28 => ?_) (fun h28 => ?_)
        · have hy : barV V (nI q) = 0 ∧ 0 ≤ n ∧ n ≤ 100 := ⟨hb, Int32.not_lt.mp h22, h28⟩
          obtain ⟨k, hk, rfl⟩ := nI_of2 (M := 100) (n := 100) (by decide +kernel) h22 h28
          refine g_aload_n (pc := 33) (i := 0) C d_M_fail_33 rfl rfl ?_
          refine gf_M_failing (pc := 34) C fl_M_54 d_M_fail_34 ?_
          refine g_iload_n (pc := 37) (i := 1) C d_M_fail_37 rfl rfl ?_
          refine g_iload_n (pc := 38) (i := 2) C d_M_fail_38 rfl rfl ?_
          refine gs_mar (pc := 39) C (by decide) (by decide) (vp_in_nI (show q < 2 by omega) (by decide)) d_M_fail_39 ?_
          rw [nI_clamp (show q < 2 ^ 31 by omega)]
          refine g_iconst (pc := 40) C d_M_fail_40 ic_1 ?_
          refine g_zret (pc := 41) C d_M_fail_41 (by first | exact Or.inl rfl | exact Or.inr rfl) ?_
          have ho : oFail V (nI q) (nI k) = (true, upR V q ((V.2 q).dat, (V.2 q).rcs, (V.2 q).jrn, (V.2 q).dwn, k)) := by unfold oFail; rw [if_pos hy, nI_clamp (by omega), nI_clamp (by omega)]
          rw [ho]
          exact ⟨_, rfl, rfl, (mw0 h 0).up hW hq (Mk.mfR (Mk.wI (by unfold Rq; omega))) hR.fa⟩
        · have hno : ¬ (barV V (nI q) = 0 ∧ 0 ≤ n ∧ n ≤ 100) := fun e => h28 e.2.2
          refine g_iconst (pc := 31) C d_M_fail_31 ic_0 ?_
          refine g_zret (pc := 32) C d_M_fail_32 (by first | exact Or.inl rfl | exact Or.inr rfl) ?_
          exact ⟨_, rfl, by unfold oFail; rw [if_neg hno]; rfl, by unfold oFail; rw [if_neg hno]; exact mw0 h 0⟩
set_option maxRecDepth 100000 in
set_option maxHeartbeats 4000000 in
theorem x_M_damage (l : Launch) {D : Dt} (hD : OkD D) {c m : Cs} {ow : Nat → Int64} {r : Int32} {V : Vt} {k x : Int32} (h : MAbs m V) (hW : WfV V) : Cp l D y_M_damage b_M_damage 4 (some .boolean) 3 [.int x, .int k, .int r, .ref (aMdl D)] ((c, m, ow) : Sg) (fun a u => ∃ m2, u = ((c, m2, ow) : Sg) ∧ a = some (.int (b1 ((oDamage V r k x).1 = true))) ∧ MAbs m2 (oDamage V r k x).2) := by
  refine Cp.of hD (by decide) (Nat.le_of_ble_eq_true rfl) [(0, some (.ref (aMdl D))), (1, some (.int r)), (2, some (.int k)), (3, some (.int x))] rfl (fun X hX C => ?_)
  subst hX
  refine g_aload_n (pc := 0) (i := 0) C d_M_damage_0 rfl rfl ?_
  refine g_iload_n (pc := 1) (i := 1) C d_M_damage_1 rfl rfl ?_
  refine g_callV1 (pc := 2) (As := [_]) C my_M_shut mv_M_shut cl_M_184 is_M d_M_damage_2 (Nat.le_of_ble_eq_true rfl) rfl (Nat.le_of_ble_eq_true rfl) ⟨Nat.zero_le _, Nat.zero_le _⟩ (c_M_shut _ hD h) ?_
  refine g_if_lt (pc := 5) (tgt := 34) C d_M_damage_5 (by decide) (fun h5 => ?_) (fun h5 => ?_)
  · have hno := fun e => bar_lt.mp h5 (show barV V r = 0 from e)
    have ho : oDamage V r k x = (false, V) := by unfold oDamage; rw [if_neg (fun e => hno e.1)]
    refine g_iconst (pc := 34) C d_M_damage_34 ic_0 ?_
    refine g_zret (pc := 35) C d_M_damage_35 (by first | exact Or.inl rfl | exact Or.inr rfl) ?_
    rw [ho]
    exact ⟨_, rfl, rfl, mw0 h 0⟩
  · have hb : barV V r = 0 := Classical.byContradiction fun e => h5 (bar_lt.mpr e)
    obtain ⟨q, hq, rfl, hd⟩ := bar_0 hb
    have hR := (mw0 h 0).rep hq
    have wR := hW.rep hq
    have h24 := wR.2.2.1
    have h600 := wR.2.1
    have hcl := nI_clamp (n := q) (by omega)
    have ho : oDamage V (nI q) k x = if (barV V (nI q) = 0 ∧ (1 ≤ x ∧ x ≤ 255) ∧ 0 ≤ k ∧ k < nI (V.2 q).dat.length) then (true, upR V q ((V.2 q).dat.set k.toNatClampNeg ((V.2 q).dat.getD k.toNatClampNeg 0 ^^^ x.toNatClampNeg), (V.2 q).rcs, (V.2 q).jrn, (V.2 q).dwn, (V.2 q).fai)) else (false, V) := by unfold oDamage; rw [hcl]
    refine g_iload_n (pc := 8) (i := 2) C d_M_damage_8 rfl rfl ?_
    refine g_if_lt (pc := 9) (tgt := 34) C d_M_damage_9 (by decide) (fun h9 => ?_) (fun h9 => ?_)
    · have hno : ¬ (barV V (nI q) = 0 ∧ (1 ≤ x ∧ x ≤ 255) ∧ 0 ≤ k ∧ k < nI (V.2 q).dat.length) := fun e => absurd h9 (Int32.not_lt.mpr e.2.2.1)
      rw [if_neg hno] at ho
      refine g_iconst (pc := 34) C d_M_damage_34 ic_0 ?_
      refine g_zret (pc := 35) C d_M_damage_35 (by first | exact Or.inl rfl | exact Or.inr rfl) ?_
      rw [ho]
      exact ⟨_, rfl, rfl, mw0 h 0⟩
    · skip
      refine g_iload_n (pc := 12) (i := 2) C d_M_damage_12 rfl rfl ?_
      refine g_aload_n (pc := 13) (i := 0) C d_M_damage_13 rfl rfl ?_
      refine gf_M_dataLen (pc := 14) C fl_M_16 d_M_damage_14 ?_
      refine g_iload_n (pc := 17) (i := 1) C d_M_damage_17 rfl rfl ?_
      refine ga_mar (pc := 18) C (by decide) (by decide) (vp_in_nI (show q < 2 by omega) (by decide)) d_M_damage_18 ?_
      rw [nI_clamp (show q < 2 ^ 31 by omega), hR.1.1]
      refine g_icmp_ge (pc := 19) (tgt := 34) C d_M_damage_19 (by decide) (fun h19 => ?_) (fun h19 => ?_)
      · have hno : ¬ (barV V (nI q) = 0 ∧ (1 ≤ x ∧ x ≤ 255) ∧ 0 ≤ k ∧ k < nI (V.2 q).dat.length) := fun e => absurd e.2.2.2 (Int32.not_lt.mpr h19)
        rw [if_neg hno] at ho
        refine g_iconst (pc := 34) C d_M_damage_34 ic_0 ?_
        refine g_zret (pc := 35) C d_M_damage_35 (by first | exact Or.inl rfl | exact Or.inr rfl) ?_
        rw [ho]
        exact ⟨_, rfl, rfl, mw0 h 0⟩
      · skip
        refine g_iload_n (pc := 22) (i := 3) C d_M_damage_22 rfl rfl ?_
        refine g_iconst (pc := 23) C d_M_damage_23 ic_1 ?_
        refine g_icmp_lt (pc := 24) (tgt := 34) C d_M_damage_24 (by decide) (fun h24_ => ?_) (fun h24_ => ?_)
        · have hno : ¬ (barV V (nI q) = 0 ∧ (1 ≤ x ∧ x ≤ 255) ∧ 0 ≤ k ∧ k < nI (V.2 q).dat.length) := fun e => absurd h24_ (Int32.not_lt.mpr e.2.1.1)
          rw [if_neg hno] at ho
          refine g_iconst (pc := 34) C d_M_damage_34 ic_0 ?_
          refine g_zret (pc := 35) C d_M_damage_35 (by first | exact Or.inl rfl | exact Or.inr rfl) ?_
          rw [ho]
          exact ⟨_, rfl, rfl, mw0 h 0⟩
        · skip
          refine g_iload_n (pc := 27) (i := 3) C d_M_damage_27 rfl rfl ?_
          refine g_sipush (pc := 28) C d_M_damage_28 sp_255 ?_
          refine g_icmp_le (pc := 31) (tgt := 36) C d_M_damage_31 (by decide) (fun h31 => ?_) (fun h31 => ?_)
          · have hy : (barV V (nI q) = 0 ∧ (1 ≤ x ∧ x ≤ 255) ∧ 0 ≤ k ∧ k < nI (V.2 q).dat.length) := ⟨hb, ⟨Int32.not_lt.mp h24_, h31⟩, Int32.not_lt.mp h9, Int32.not_le.mp h19⟩
            rw [if_pos hy] at ho
            obtain ⟨i, hi, rfl⟩ := nI_at hy.2.2 (by omega)
            obtain ⟨y, hyy, rfl⟩ := nI_of2 (M := 255) (n := 255) (by decide +kernel) (fun e => h24_ (Int32.lt_trans e (by decide))) h31
            rw [nI_clamp (by omega), nI_clamp (by omega)] at ho
            refine g_aload_n (pc := 36) (i := 0) C d_M_damage_36 rfl rfl ?_
            refine gf_M_bytes (pc := 37) C fl_M_13 d_M_damage_37 ?_
            refine g_sipush (pc := 40) C d_M_damage_40 spn_600 ?_
            refine g_iload_n (pc := 43) (i := 1) C d_M_damage_43 rfl rfl ?_
            refine g_imul (pc := 44) C d_M_damage_44 ?_
            refine g_iload_n (pc := 45) (i := 2) C d_M_damage_45 rfl rfl ?_
            refine g_iadd (pc := 46) C d_M_damage_46 ?_
            rw [nI_mul, nI_add]
            refine g_dup2 (pc := 47) C d_M_damage_47 rfl rfl ?_
            skip
            refine ga_mar (pc := 48) C (by decide) (by decide) (vp_in_nI (show 600 * q + i < 1200 by omega) (by decide)) d_M_damage_48 ?_
            rw [nI_clamp (show 600 * q + i < 2 ^ 31 by omega), hR.1.2 i hi]
            refine g_iload_n (pc := 49) (i := 3) C d_M_damage_49 rfl rfl ?_
            refine g_ixor (pc := 50) C d_M_damage_50 ?_
            skip
            refine gs_mar (pc := 51) C (by decide) (by decide) (vp_in_nI (show 600 * q + i < 1200 by omega) (by decide)) d_M_damage_51 ?_
            rw [nI_clamp (show 600 * q + i < 2 ^ 31 by omega)]
            refine g_iconst (pc := 52) C d_M_damage_52 ic_1 ?_
            refine g_zret (pc := 53) C d_M_damage_53 (by first | exact Or.inl rfl | exact Or.inr rfl) ?_
            rw [ho]
            exact ⟨_, rfl, rfl, (mw0 h 0).up hW hq (Mk.mfR (Mk.wI (by unfold Rq; omega))) (hR.flp hq hi)⟩
          · have hno : ¬ (barV V (nI q) = 0 ∧ (1 ≤ x ∧ x ≤ 255) ∧ 0 ≤ k ∧ k < nI (V.2 q).dat.length) := fun e => h31 e.2.1.2
            rw [if_neg hno] at ho
            refine g_iconst (pc := 34) C d_M_damage_34 ic_0 ?_
            refine g_zret (pc := 35) C d_M_damage_35 (by first | exact Or.inl rfl | exact Or.inr rfl) ?_
            rw [ho]
            exact ⟨_, rfl, rfl, mw0 h 0⟩
set_option maxRecDepth 100000 in
set_option maxHeartbeats 4000000 in
theorem x_M_wrong (l : Launch) {D : Dt} (hD : OkD D) {c m : Cs} {ow : Nat → Int64} {r : Int32} {V : Vt} (h : MAbs m V) (hW : WfV V) : Cp l D y_M_wrong b_M_wrong 5 (some .int) 5 [.int r, .ref (aMdl D)] ((c, m, ow) : Sg) (fun a u => ∃ m2, u = ((c, m2, ow) : Sg) ∧ a = some (.int (oWrong V r)) ∧ MAbs m2 V) := by
  refine Cp.of hD (by decide) (Nat.le_of_ble_eq_true rfl) [(0, some (.ref (aMdl D))), (1, some (.int r))] rfl (fun X hX C => ?_)
  subst hX
  have loop : ∀ (q : Nat), q < 2 → (V.2 q).dwn = false → ∀ (j n : Nat) (m1 : Cs), n + j = (V.2 q).rcs.length → MAbs m1 V → G X D (Qp X D (fun a u => ∃ m2, u = ((c, m2, ow) : Sg) ∧ a = some (.int (nI (cw (V.2 q).dat (V.2 q).rcs (V.2 q).rcs.length))) ∧ MAbs m2 V)) (0, 0) ((c, m1, ow) : Sg) 11 [(0, some (.ref (aMdl D))), (1, some (.int (nI q))), (2, some (.int 0)), (3, some (.int (nI (cw (V.2 q).dat (V.2 q).rcs n)))), (4, some (.int (nI n)))] [] := by
    intro q hq hd j
    have wR := hW.rep hq
    have h24 := wR.2.2.1
    induction j with
    | zero =>
      intro n m1 hn a1
      have hn : n = (V.2 q).rcs.length := by omega
      subst hn
      refine g_iload_n (pc := 11) (i := 2) C d_M_wrong_11 rfl rfl ?_
      refine g_if_ne (pc := 12) (tgt := 50) C d_M_wrong_12 (by decide) (fun h12 => ?_) (fun h12 => ?_)
      · first | exact absurd h12 (rfl) | exact absurd (rfl) h12
      · skip
        refine g_iload (pc := 15) C d_M_wrong_15 rfl ?_
        refine g_aload_n (pc := 17) (i := 0) C d_M_wrong_17 rfl rfl ?_
        refine gf_M_count (pc := 18) C fl_M_19 d_M_wrong_18 ?_
        refine g_iload_n (pc := 21) (i := 1) C d_M_wrong_21 rfl rfl ?_
        refine ga_mar (pc := 22) C (by decide) (by decide) (vp_in_nI (show q < 2 by omega) (by decide)) d_M_wrong_22 ?_
        rw [nI_clamp (show q < 2 ^ 31 by omega), (a1.rep hq).2.1.1]
        refine g_icmp_ge (pc := 23) (tgt := 50) C d_M_wrong_23 (by decide) (fun h23 => ?_) (fun h23 => ?_)
        · skip
          refine g_iload_n (pc := 50) (i := 2) C d_M_wrong_50 rfl rfl ?_
          refine g_if_ge (pc := 51) (tgt := 58) C d_M_wrong_51 (by decide) (fun h51 => ?_) (fun h51 => ?_)
          · skip
            refine g_iload_n (pc := 58) (i := 3) C d_M_wrong_58 rfl rfl ?_
            refine g_iret (pc := 59) C d_M_wrong_59 ?_
            exact ⟨m1, rfl, rfl, a1⟩
          · first | exact absurd h51 (by decide) | exact absurd (by decide) h51
        · first | exact absurd h23 (nI_le (by omega) (by omega)) | exact absurd (nI_le (by omega) (by omega)) h23
    | succ j ih =>
      intro n m1 hn a1
      have hcw : cw (V.2 q).dat (V.2 q).rcs (n + 1) = cw (V.2 q).dat (V.2 q).rcs n + (if built (V.2 q).dat (V.2 q).rcs n = none then 1 else 0) := rfl
      have hcl := cw_le (V.2 q).dat (V.2 q).rcs n
      refine g_iload_n (pc := 11) (i := 2) C d_M_wrong_11 rfl rfl ?_
      refine g_if_ne (pc := 12) (tgt := 50) C d_M_wrong_12 (by decide) (fun h12 => ?_) (fun h12 => ?_)
      · first | exact absurd h12 (rfl) | exact absurd (rfl) h12
      · skip
        refine g_iload (pc := 15) C d_M_wrong_15 rfl ?_
        refine g_aload_n (pc := 17) (i := 0) C d_M_wrong_17 rfl rfl ?_
        refine gf_M_count (pc := 18) C fl_M_19 d_M_wrong_18 ?_
        refine g_iload_n (pc := 21) (i := 1) C d_M_wrong_21 rfl rfl ?_
        refine ga_mar (pc := 22) C (by decide) (by decide) (vp_in_nI (show q < 2 by omega) (by decide)) d_M_wrong_22 ?_
        rw [nI_clamp (show q < 2 ^ 31 by omega), (a1.rep hq).2.1.1]
        refine g_icmp_ge (pc := 23) (tgt := 50) C d_M_wrong_23 (by decide) (fun h23 => ?_) (fun h23 => ?_)
        · first | exact absurd h23 (nI_ge (show n < (V.2 q).rcs.length by omega) (by omega)) | exact absurd (nI_ge (show n < (V.2 q).rcs.length by omega) (by omega)) h23
        · skip
          refine g_aload_n (pc := 26) (i := 0) C d_M_wrong_26 rfl rfl ?_
          refine g_iload_n (pc := 27) (i := 1) C d_M_wrong_27 rfl rfl ?_
          refine g_iload (pc := 28) C d_M_wrong_28 rfl ?_
          refine g_callVp (pc := 30) (As := [_, _]) C my_M_build mv_M_build cl_M_124 is_M d_M_wrong_30 (Nat.le_of_ble_eq_true rfl) rfl (Nat.le_of_ble_eq_true rfl) ⟨Nat.zero_le _, Nat.zero_le _⟩ (x_M_build _ hD hq (a1.rep hq) wR.1 wR.2.1 h24 (wR.2.2.2.2.2.2 (Or.inr hd)) (show n < (V.2 q).rcs.length by omega)) (fun r30 u30 hp30 => ?_)
          obtain ⟨m2, rfl, s2, hp2⟩ := hp30
          have a2 := a1.ms (s2.up pb_ms)
          rcases hp2 with ⟨t, e1, rfl, hB⟩ | ⟨e1, rfl⟩
          rotate_left
          · rw [if_pos e1] at hcw
            refine g_if_eq (pc := 33) (tgt := 40) C d_M_wrong_33 (by decide) (fun h33 => ?_) (fun h33 => ?_)
            · refine g_iload_n (pc := 40) (i := 3) C d_M_wrong_40 rfl rfl ?_
              refine g_iconst (pc := 41) C d_M_wrong_41 icn_1 ?_
              refine g_iadd (pc := 42) C d_M_wrong_42 ?_
              rw [nI_add]
              refine g_istore_n (pc := 43) (i := 3) C d_M_wrong_43 rfl (by decide) rfl ?_
              refine g_iinc (pc := 44) C d_M_wrong_44 rfl (v := nI (n + 1)) (nI_inc n) rfl ?_
              refine g_goto (pc := 47) (tgt := 11) C d_M_wrong_47 (by decide) ?_
              have k1 := ih (n + 1) m2 (by omega) a2
              rw [hcw] at k1
              exact G.lf k1 (sb rfl (sb rfl (sb rfl (sb rfl (sb rfl sn)))))
            · exact absurd rfl h33
          rw [if_neg (by rw [e1]; exact fun e => by cases e), Nat.add_zero] at hcw
          refine g_if_eq (pc := 33) (tgt := 40) C d_M_wrong_33 (by decide) (fun h33 => ?_) (fun h33 => ?_)
          · first | exact absurd h33 (by decide) | exact absurd (by decide) h33
          · skip
            refine g_iload_n (pc := 36) (i := 3) C d_M_wrong_36 rfl rfl ?_
            refine g_goto (pc := 37) (tgt := 43) C d_M_wrong_37 (by decide) ?_
            refine g_istore_n (pc := 43) (i := 3) C d_M_wrong_43 rfl (by decide) rfl ?_
            refine g_iinc (pc := 44) C d_M_wrong_44 rfl (v := nI (n + 1)) (nI_inc n) rfl ?_
            refine g_goto (pc := 47) (tgt := 11) C d_M_wrong_47 (by decide) ?_
            have k1 := ih (n + 1) m2 (by omega) a2
            rw [hcw] at k1
            exact G.lf k1 (sb rfl (sb rfl (sb rfl (sb rfl (sb rfl sn)))))
  by_cases hb : barV V r = 0
  · obtain ⟨q, hq, rfl, hd⟩ := bar_0 hb
    have ho : oWrong V (nI q) = nI (cw (V.2 q).dat (V.2 q).rcs (V.2 q).rcs.length) := by unfold oWrong; rw [if_pos hb, nI_clamp (by omega)]
    rw [ho]
    refine g_aload_n (pc := 0) (i := 0) C d_M_wrong_0 rfl rfl ?_
    refine g_iload_n (pc := 1) (i := 1) C d_M_wrong_1 rfl rfl ?_
    refine g_callV1 (pc := 2) (As := [_]) C my_M_shut mv_M_shut cl_M_184 is_M d_M_wrong_2 (Nat.le_of_ble_eq_true rfl) rfl (Nat.le_of_ble_eq_true rfl) ⟨Nat.zero_le _, Nat.zero_le _⟩ (c_M_shut _ hD h) ?_
    rw [hb]
    refine g_istore_n (pc := 5) (i := 2) C d_M_wrong_5 rfl (by decide) rfl ?_
    refine g_iconst (pc := 6) C d_M_wrong_6 icn_0 ?_
    refine g_istore_n (pc := 7) (i := 3) C d_M_wrong_7 rfl (by decide) rfl ?_
    refine g_iconst (pc := 8) C d_M_wrong_8 icn_0 ?_
    refine g_istore (pc := 9) C d_M_wrong_9 (by decide) rfl ?_
    exact G.lf (loop q hq hd _ 0 _ (Nat.zero_add _) (mw0 h 0)) (sb rfl (sb rfl (sb rfl (sb rfl (sb rfl sn)))))
  · have ho : oWrong V r = barV V r := by unfold oWrong; rw [if_neg hb]
    refine g_aload_n (pc := 0) (i := 0) C d_M_wrong_0 rfl rfl ?_
    refine g_iload_n (pc := 1) (i := 1) C d_M_wrong_1 rfl rfl ?_
    refine g_callV1 (pc := 2) (As := [_]) C my_M_shut mv_M_shut cl_M_184 is_M d_M_wrong_2 (Nat.le_of_ble_eq_true rfl) rfl (Nat.le_of_ble_eq_true rfl) ⟨Nat.zero_le _, Nat.zero_le _⟩ (c_M_shut _ hD h) ?_
    refine g_istore_n (pc := 5) (i := 2) C d_M_wrong_5 rfl (by decide) rfl ?_
    refine g_iconst (pc := 6) C d_M_wrong_6 ic_0 ?_
    refine g_istore_n (pc := 7) (i := 3) C d_M_wrong_7 rfl (by decide) rfl ?_
    refine g_iconst (pc := 8) C d_M_wrong_8 ic_0 ?_
    refine g_istore (pc := 9) C d_M_wrong_9 (by decide) rfl ?_
    refine g_iload_n (pc := 11) (i := 2) C d_M_wrong_11 rfl rfl ?_
    refine g_if_ne (pc := 12) (tgt := 50) C d_M_wrong_12 (by decide) (fun h12 => ?_) (fun h12 => ?_)
    · skip
      refine g_iload_n (pc := 50) (i := 2) C d_M_wrong_50 rfl rfl ?_
      refine g_if_ge (pc := 51) (tgt := 58) C d_M_wrong_51 (by decide) (fun h51 => ?_) (fun h51 => ?_)
      · first | exact absurd h51 (fun e => hb (bar_ge.mp e)) | exact absurd (fun e => hb (bar_ge.mp e)) h51
      · skip
        refine g_iload_n (pc := 54) (i := 2) C d_M_wrong_54 rfl rfl ?_
        refine g_goto (pc := 55) (tgt := 59) C d_M_wrong_55 (by decide) ?_
        refine g_iret (pc := 59) C d_M_wrong_59 ?_
        exact ⟨_, rfl, by rw [ho], mw0 h 0⟩
    · first | exact absurd h12 (hb) | exact absurd (hb) h12
set_option maxRecDepth 100000 in
set_option maxHeartbeats 4000000 in
theorem x_M_wipe (l : Launch) {D : Dt} (hD : OkD D) {c m : Cs} {ow : Nat → Int64} {V : Vt} (h : MAbs m V) : Cp l D y_M_wipe b_M_wipe 1 none 1 [.ref (aMdl D)] ((c, m, ow) : Sg) (fun a u => ∃ m2, u = ((c, m2, ow) : Sg) ∧ a = none ∧ MAbs m2 ([], V.2)) := by
  refine Cp.of hD (by decide) (Nat.le_of_ble_eq_true rfl) [(0, some (.ref (aMdl D)))] rfl (fun X hX C => ?_)
  subst hX
  refine g_aload_n (pc := 0) (i := 0) C d_M_wipe_0 rfl rfl ?_
  refine g_iconst (pc := 1) C d_M_wipe_1 ic_0 ?_
  refine gp_M_thrown (pc := 2) C fl_M_69 d_M_wipe_2 ?_
  refine g_aload_n (pc := 5) (i := 0) C d_M_wipe_5 rfl rfl ?_
  refine g_iconst (pc := 6) C d_M_wipe_6 icn_0 ?_
  refine gp_M_size (pc := 7) C fl_M_73 d_M_wipe_7 ?_
  refine g_vret (pc := 10) C d_M_wipe_10 ?_
  have hs : Mk (fun a k => a = 0 ∧ k = 1) (wI m 0 0 0) (wI (wI m 0 0 0) 0 1 (nI 0)) := Mk.wI ⟨rfl, rfl⟩
  exact ⟨_, rfl, rfl, (mw0 h 0).bf hs (fun a k e => Or.inl e.1) ⟨rI_s, fun k hk => by cases hk⟩⟩
set_option maxRecDepth 100000 in
set_option maxHeartbeats 4000000 in
theorem x_M_type (l : Launch) {D : Dt} (hD : OkD D) {c m : Cs} {ow : Nat → Int64} {V : Vt} {v : Int64} (h : MAbs m V) (hW : WfV V) : Cp l D y_M_type b_M_type 7 (some .boolean) 1 [.long v, .ref (aMdl D)] ((c, m, ow) : Sg) (fun a u => ∃ m2, u = ((c, m2, ow) : Sg) ∧ a = some (.int (b1 ((oType V v).1 = true))) ∧ MAbs m2 (oType V v).2) := by
  have v60 := hW.2.1
  have l8 := tyL_len v
  refine Cp.of hD (by decide) (Nat.le_of_ble_eq_true rfl) [(0, some (.ref (aMdl D))), (1, some (.long v))] rfl (fun X hX C => ?_)
  subst hX
  have loopB : oType V v = (true, (V.1 ++ tyL v 8, V.2)) → V.1.length + (tyL v 8).length ≤ 60 → ∀ (j i : Nat) (m1 : Cs), i + j = 8 → Mk (fun a k => (a = 0 ∧ k = 1) ∨ a = 1) (wI m 0 0 0) m1 → Bl m1 1 1 (V.1 ++ tyL v i) → G X D (Qp X D (fun a u => ∃ m2, u = ((c, m2, ow) : Sg) ∧ a = some (.int (b1 ((oType V v).1 = true))) ∧ MAbs m2 (oType V v).2)) (0, 0) ((c, m1, ow) : Sg) 109 [(0, some (.ref (aMdl D))), (1, some (.long v)), (5, some (.int (shI i)))] [] := by
    intro ho h60 j
    induction j with
    | zero =>
      intro i m1 hi s hB
      have hi : i = 8 := by omega
      subst hi
      refine g_iload (pc := 109) C d_M_type_109 rfl ?_
      refine g_if_lt (pc := 111) (tgt := 157) C d_M_type_111 (by decide) (fun h111 => ?_) (fun h111 => ?_)
      · skip
        refine g_iconst (pc := 157) C d_M_type_157 ic_1 ?_
        refine g_zret (pc := 158) C d_M_type_158 (by first | exact Or.inl rfl | exact Or.inr rfl) ?_
        rw [ho]
        exact ⟨m1, rfl, rfl, (mw0 h 0).bf s (fun a k e => e.elim (fun e => Or.inl e.1) Or.inr) hB⟩
      · first | exact absurd h111 (sh_8) | exact absurd (sh_8) h111
    | succ j ih =>
      intro i m1 hi s hB
      have hbn := (bn_v v i).2
      have hlen : (V.1 ++ tyL v i).length = V.1.length + (tyL v i).length := List.length_append ..
      have hmo := tyL_mono v (8 - (i + 1)) (i + 1)
      rw [show i + 1 + (8 - (i + 1)) = 8 by omega] at hmo
      refine g_iload (pc := 109) C d_M_type_109 rfl ?_
      refine g_if_lt (pc := 111) (tgt := 157) C d_M_type_111 (by decide) (fun h111 => ?_) (fun h111 => ?_)
      · first | exact absurd h111 (sh_lt i (by omega)) | exact absurd (sh_lt i (by omega)) h111
      · skip
        refine g_lload_n (pc := 114) (i := 1) C d_M_type_114 rfl rfl ?_
        refine g_iload (pc := 115) C d_M_type_115 rfl ?_
        refine g_lushr (pc := 117) C d_M_type_117 ?_
        refine g_l2i (pc := 118) C d_M_type_118 ?_
        refine g_sipush (pc := 119) C d_M_type_119 sp_255 ?_
        refine g_iand (pc := 122) C d_M_type_122 ?_
        refine G.eq (st' := [.int (byt v (shI i))]) rfl rfl rfl ?_
        rw [(bn_v v i).1]
        refine g_istore (pc := 123) C d_M_type_123 (by decide) rfl ?_
        refine g_iload (pc := 125) C d_M_type_125 rfl ?_
        refine g_if_eq (pc := 127) (tgt := 151) C d_M_type_127 (by decide) (fun h127 => ?_) (fun h127 => ?_)
        · have h0 : bn v i = 0 := (nI_eq (by omega) (by decide)).mp (h127.trans nI_0.symm)
          refine g_iinc (pc := 151) C d_M_type_151 rfl (v := shI (i + 1)) (sh_s i (by omega)) rfl ?_
          refine g_goto (pc := 154) (tgt := 109) C d_M_type_154 (by decide) ?_
          refine G.lf (ih (i + 1) m1 (by omega) s ?_) (sb rfl (sb rfl (sb rfl sn)))
          rw [tyL_0 h0]
          exact hB
        · have h0 : ¬ bn v i = 0 := fun e => h127 (by rw [e, nI_0])
          rw [tyL_1 h0, List.length_append] at hmo
          have hmo : (tyL v i).length + 1 ≤ (tyL v 8).length := hmo
          refine g_aload_n (pc := 130) (i := 0) C d_M_type_130 rfl rfl ?_
          refine gf_M_buf (pc := 131) C fl_M_7 d_M_type_131 ?_
          refine g_aload_n (pc := 134) (i := 0) C d_M_type_134 rfl rfl ?_
          refine gf_M_size (pc := 135) C fl_M_73 d_M_type_135 ?_
          rw [hB.1]
          refine g_iload (pc := 138) C d_M_type_138 rfl ?_
          skip
          refine gs_mar (pc := 140) C (by decide) (by decide) (vp_in_nI (show (V.1 ++ tyL v i).length < 60 by omega) (by decide)) d_M_type_140 ?_
          rw [nI_clamp (show (V.1 ++ tyL v i).length < 2 ^ 31 by omega)]
          refine g_aload_n (pc := 141) (i := 0) C d_M_type_141 rfl rfl ?_
          refine g_dup (pc := 142) C d_M_type_142 rfl ?_
          refine gf_M_size (pc := 143) C fl_M_73 d_M_type_143 ?_
          rw [rI_n (Or.inl (by decide)), hB.1]
          refine g_iconst (pc := 146) C d_M_type_146 icn_1 ?_
          refine g_iadd (pc := 147) C d_M_type_147 ?_
          rw [nI_add]
          refine gp_M_size (pc := 148) C fl_M_73 d_M_type_148 ?_
          refine g_iinc (pc := 151) C d_M_type_151 rfl (v := shI (i + 1)) (sh_s i (by omega)) rfl ?_
          refine g_goto (pc := 154) (tgt := 109) C d_M_type_154 (by decide) ?_
          refine G.lf (ih (i + 1) _ (by omega) (s.tr ((Mk.wI (Or.inr rfl)).tr (Mk.wI (Or.inl ⟨rfl, rfl⟩)))) ?_) (sb rfl (sb rfl (sb rfl sn)))
          rw [tyL_1 h0, ← List.append_assoc]
          exact hB.push (by decide)
  have loopA : ∀ (j i : Nat) (g : Int32), i + j = 8 → ((g = 1 ∧ tyG v i) ∨ (g = 0 ∧ ¬ tyG v i)) → G X D (Qp X D (fun a u => ∃ m2, u = ((c, m2, ow) : Sg) ∧ a = some (.int (b1 ((oType V v).1 = true))) ∧ MAbs m2 (oType V v).2)) (0, 0) ((c, wI m 0 0 0, ow) : Sg) 14 [(0, some (.ref (aMdl D))), (1, some (.long v)), (3, some (.int (nI (tyL v i).length))), (4, some (.int g)), (5, some (.int (shI i)))] [] := by
    intro j
    induction j with
    | zero =>
      intro i g hi hg
      have hi : i = 8 := by omega
      subst hi
      have hl8 := l8 8
      refine g_iload (pc := 14) C d_M_type_14 rfl ?_
      refine g_if_lt (pc := 16) (tgt := 87) C d_M_type_16 (by decide) (fun h16 => ?_) (fun h16 => ?_)
      · skip
        refine g_iload (pc := 87) C d_M_type_87 rfl ?_
        refine g_if_eq (pc := 89) (tgt := 103) C d_M_type_89 (by decide) (fun h89 => ?_) (fun h89 => ?_)
        · have hG : ¬ tyG v 8 := hg.elim (fun e => absurd (e.1.symm.trans h89) (by decide)) (fun e => e.2)
          have ho : oType V v = (false, V) := by unfold oType; rw [if_neg (fun e => hG e.1)]
          refine g_iconst (pc := 103) C d_M_type_103 ic_0 ?_
          refine g_zret (pc := 104) C d_M_type_104 (by first | exact Or.inl rfl | exact Or.inr rfl) ?_
          rw [ho]
          exact ⟨_, rfl, rfl, mw0 h 0⟩
        · have hG : tyG v 8 := hg.elim (fun e => e.2) (fun e => absurd e.1 h89)
          refine g_aload_n (pc := 92) (i := 0) C d_M_type_92 rfl rfl ?_
          refine gf_M_size (pc := 93) C fl_M_73 d_M_type_93 ?_
          refine g_iload_n (pc := 96) (i := 3) C d_M_type_96 rfl rfl ?_
          rw [(mw0 h 0).1.1]
          refine g_iadd (pc := 97) C d_M_type_97 ?_
          rw [nI_add]
          refine g_bipush (pc := 98) C d_M_type_98 bpn_60 ?_
          refine g_icmp_le (pc := 100) (tgt := 105) C d_M_type_100 (by decide) (fun h100 => ?_) (fun h100 => ?_)
          · have h60 : V.1.length + (tyL v 8).length ≤ 60 := (nI_leI (by omega) (by decide)).mp h100
            have ho : oType V v = (true, (V.1 ++ tyL v 8, V.2)) := by unfold oType; rw [if_pos ⟨hG, h60⟩]
            refine g_bipush (pc := 105) C d_M_type_105 bp_56 ?_
            refine g_istore (pc := 107) C d_M_type_107 (by decide) rfl ?_
            exact G.lf (loopB ho h60 8 0 _ (by omega) Mk.rf (by rw [show V.1 ++ tyL v 0 = V.1 from List.append_nil _]; exact (mw0 h 0).1)) (sb rfl (sb rfl (sb (by rw [sh_0]; rfl) sn)))
          · have h60 : ¬ V.1.length + (tyL v 8).length ≤ 60 := fun e => h100 (nI_le e (by decide))
            have ho : oType V v = (false, V) := by unfold oType; rw [if_neg (fun e => h60 e.2)]
            refine g_iconst (pc := 103) C d_M_type_103 ic_0 ?_
            refine g_zret (pc := 104) C d_M_type_104 (by first | exact Or.inl rfl | exact Or.inr rfl) ?_
            rw [ho]
            exact ⟨_, rfl, rfl, mw0 h 0⟩
      · first | exact absurd h16 (sh_8) | exact absurd (sh_8) h16
    | succ j ih =>
      intro i g hi hg
      have hbn := (bn_v v i).2
      have hli := l8 i
      have t66 : ∀ g2 : Int32, ((g2 = 1 ∧ tyG v (i + 1)) ∨ (g2 = 0 ∧ ¬ tyG v (i + 1))) → G X D (Qp X D (fun a u => ∃ m2, u = ((c, m2, ow) : Sg) ∧ a = some (.int (b1 ((oType V v).1 = true))) ∧ MAbs m2 (oType V v).2)) (0, 0) ((c, wI m 0 0 0, ow) : Sg) 66 [(0, some (.ref (aMdl D))), (1, some (.long v)), (3, some (.int (nI (tyL v i).length))), (5, some (.int (shI i))), (6, some (.int (nI (bn v i))))] [.int g2] := by
        intro g2 hg2
        refine g_istore (pc := 66) C d_M_type_66 (by decide) rfl ?_
        refine g_iload (pc := 68) C d_M_type_68 rfl ?_
        refine g_if_ne (pc := 70) (tgt := 77) C d_M_type_70 (by decide) (fun h70 => ?_) (fun h70 => ?_)
        · have h0 : ¬ bn v i = 0 := fun e => h70 (by rw [e, nI_0])
          refine g_iload_n (pc := 77) (i := 3) C d_M_type_77 rfl rfl ?_
          refine g_iconst (pc := 78) C d_M_type_78 icn_1 ?_
          refine g_iadd (pc := 79) C d_M_type_79 ?_
          rw [nI_add]
          refine g_istore_n (pc := 80) (i := 3) C d_M_type_80 rfl (by decide) rfl ?_
          refine g_iinc (pc := 81) C d_M_type_81 rfl (v := shI (i + 1)) (sh_s i (by omega)) rfl ?_
          refine g_goto (pc := 84) (tgt := 14) C d_M_type_84 (by decide) ?_
          have k1 := ih (i + 1) g2 (by omega) hg2
          rw [tyL_1 h0, List.length_append] at k1
          exact G.lf k1 (sb rfl (sb rfl (sb rfl (sb rfl (sb rfl sn)))))
        · have h0 : bn v i = 0 := (nI_eq (by omega) (by decide)).mp (h70.trans nI_0.symm)
          refine g_iload_n (pc := 73) (i := 3) C d_M_type_73 rfl rfl ?_
          refine g_goto (pc := 74) (tgt := 80) C d_M_type_74 (by decide) ?_
          refine g_istore_n (pc := 80) (i := 3) C d_M_type_80 rfl (by decide) rfl ?_
          refine g_iinc (pc := 81) C d_M_type_81 rfl (v := shI (i + 1)) (sh_s i (by omega)) rfl ?_
          refine g_goto (pc := 84) (tgt := 14) C d_M_type_84 (by decide) ?_
          have k1 := ih (i + 1) g2 (by omega) hg2
          rw [tyL_0 h0] at k1
          exact G.lf k1 (sb rfl (sb rfl (sb rfl (sb rfl (sb rfl sn)))))
      refine g_iload (pc := 14) C d_M_type_14 rfl ?_
      refine g_if_lt (pc := 16) (tgt := 87) C d_M_type_16 (by decide) (fun h16 => ?_) (fun h16 => ?_)
      · first | exact absurd h16 (sh_lt i (by omega)) | exact absurd (sh_lt i (by omega)) h16
      · skip
        refine g_lload_n (pc := 19) (i := 1) C d_M_type_19 rfl rfl ?_
        refine g_iload (pc := 20) C d_M_type_20 rfl ?_
        refine g_lushr (pc := 22) C d_M_type_22 ?_
        refine g_l2i (pc := 23) C d_M_type_23 ?_
        refine g_sipush (pc := 24) C d_M_type_24 sp_255 ?_
        refine g_iand (pc := 27) C d_M_type_27 ?_
        refine G.eq (st' := [.int (byt v (shI i))]) rfl rfl rfl ?_
        rw [(bn_v v i).1]
        refine g_istore (pc := 28) C d_M_type_28 (by decide) rfl ?_
        refine g_iload (pc := 30) C d_M_type_30 rfl ?_
        refine g_if_eq (pc := 32) (tgt := 65) C d_M_type_32 (by decide) (fun h32 => ?_) (fun h32 => ?_)
        · have hG : ¬ tyG v i := hg.elim (fun e => absurd (e.1.symm.trans h32) (by decide)) (fun e => e.2)
          refine g_iconst (pc := 65) C d_M_type_65 ic_0 ?_
          exact G.lf (t66 0 (Or.inr ⟨rfl, fun e => hG (fun k hk => e k (by omega))⟩)) (sb rfl (sb rfl (sb rfl (sb rfl (sb rfl sn)))))
        · have hG : tyG v i := hg.elim (fun e => e.2) (fun e => absurd e.1 h32)
          refine g_iload (pc := 35) C d_M_type_35 rfl ?_
          refine g_if_eq (pc := 37) (tgt := 61) C d_M_type_37 (by decide) (fun h37 => ?_) (fun h37 => ?_)
          · have hok : bn v i = 0 ∨ chr (bn v i) := Or.inl ((nI_eq (by omega) (by decide)).mp (h37.trans nI_0.symm))
            refine g_iconst (pc := 61) C d_M_type_61 ic_1 ?_
            refine g_goto (pc := 62) (tgt := 66) C d_M_type_62 (by decide) ?_
            exact G.lf (t66 1 (Or.inl ⟨rfl, tyG_s hG hok⟩)) (sb rfl (sb rfl (sb rfl (sb rfl (sb rfl sn)))))
          · have h0 : ¬ bn v i = 0 := fun e => h37 (by rw [e, nI_0])
            refine g_iload (pc := 40) C d_M_type_40 rfl ?_
            refine g_bipush (pc := 42) C d_M_type_42 bpn_10 ?_
            refine g_icmp_eq (pc := 44) (tgt := 61) C d_M_type_44 (by decide) (fun h44 => ?_) (fun h44 => ?_)
            · have hok : bn v i = 0 ∨ chr (bn v i) := Or.inr (Or.inl ((nI_eq (by omega) (by decide)).mp h44))
              refine g_iconst (pc := 61) C d_M_type_61 ic_1 ?_
              refine g_goto (pc := 62) (tgt := 66) C d_M_type_62 (by decide) ?_
              exact G.lf (t66 1 (Or.inl ⟨rfl, tyG_s hG hok⟩)) (sb rfl (sb rfl (sb rfl (sb rfl (sb rfl sn)))))
            · have h10 : ¬ bn v i = 10 := fun e => h44 (by rw [e])
              refine g_iload (pc := 47) C d_M_type_47 rfl ?_
              refine g_bipush (pc := 49) C d_M_type_49 bpn_32 ?_
              refine g_icmp_lt (pc := 51) (tgt := 65) C d_M_type_51 (by decide) (fun h51 => ?_) (fun h51 => ?_)
              · have h32b : bn v i < 32 := (nI_ltI (by omega) (by decide)).mp h51
                have hbad : ¬ (bn v i = 0 ∨ chr (bn v i)) := fun e => by unfold chr at e; omega
                refine g_iconst (pc := 65) C d_M_type_65 ic_0 ?_
                exact G.lf (t66 0 (Or.inr ⟨rfl, fun e => hbad (e i (by omega))⟩)) (sb rfl (sb rfl (sb rfl (sb rfl (sb rfl sn)))))
              · have h32b : 32 ≤ bn v i := Nat.not_lt.mp fun e => h51 (nI_lt e (by decide))
                refine g_iload (pc := 54) C d_M_type_54 rfl ?_
                refine g_bipush (pc := 56) C d_M_type_56 bpn_126 ?_
                refine g_icmp_gt (pc := 58) (tgt := 65) C d_M_type_58 (by decide) (fun h58 => ?_) (fun h58 => ?_)
                · have h126 : 126 < bn v i := (nI_ltI (by decide) (by omega)).mp h58
                  have hbad : ¬ (bn v i = 0 ∨ chr (bn v i)) := fun e => by unfold chr at e; omega
                  refine g_iconst (pc := 65) C d_M_type_65 ic_0 ?_
                  exact G.lf (t66 0 (Or.inr ⟨rfl, fun e => hbad (e i (by omega))⟩)) (sb rfl (sb rfl (sb rfl (sb rfl (sb rfl sn)))))
                · have h126 : bn v i ≤ 126 := Nat.not_lt.mp fun e => h58 (nI_lt e (by omega))
                  have hok : bn v i = 0 ∨ chr (bn v i) := Or.inr (Or.inr ⟨h32b, h126⟩)
                  refine g_iconst (pc := 61) C d_M_type_61 ic_1 ?_
                  refine g_goto (pc := 62) (tgt := 66) C d_M_type_62 (by decide) ?_
                  exact G.lf (t66 1 (Or.inl ⟨rfl, tyG_s hG hok⟩)) (sb rfl (sb rfl (sb rfl (sb rfl (sb rfl sn)))))
  refine g_aload_n (pc := 0) (i := 0) C d_M_type_0 rfl rfl ?_
  refine g_iconst (pc := 1) C d_M_type_1 ic_0 ?_
  refine gp_M_thrown (pc := 2) C fl_M_69 d_M_type_2 ?_
  refine g_iconst (pc := 5) C d_M_type_5 icn_0 ?_
  refine g_istore_n (pc := 6) (i := 3) C d_M_type_6 rfl (by decide) rfl ?_
  refine g_iconst (pc := 7) C d_M_type_7 ic_1 ?_
  refine g_istore (pc := 8) C d_M_type_8 (by decide) rfl ?_
  refine g_bipush (pc := 10) C d_M_type_10 bp_56 ?_
  refine g_istore (pc := 12) C d_M_type_12 (by decide) rfl ?_
  exact G.lf (loopA 8 0 1 (by omega) (Or.inl ⟨rfl, fun k hk => by omega⟩)) (sb rfl (sb rfl (sb rfl (sb rfl (sb (by rw [sh_0]; rfl) sn)))))
