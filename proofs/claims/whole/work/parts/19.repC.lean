theorem oi_m2 : Int32.ofInt (-2) = -2 := by decide +kernel
theorem fini_r (R : Rp) : (fini R).2.rcs = R.rcs := by
  by_cases h : (wrt R).1 = true
  · rw [fini_t h]
    exact wrt_r R
  · rw [fini_f h]
    exact wrt_r R
theorem fini_d (R : Rp) : (fini R).2.dat = R.dat := by
  by_cases h : (wrt R).1 = true
  · rw [fini_t h]
    exact wrt_d R
  · rw [fini_f h]
    exact wrt_d R
theorem RepIs.tk {c : Cs} {r n : Nat} {R : Rp} (h : RepIs c r R) (hr : r < 2) (hn : n ≤ R.rcs.length) : RepIs (wI c (20 + r) 0 (nI n)) r (takR R n) := by
  have e : (takR R n).rcs.length = n := by
    show (R.rcs.take n).length = n
    rw [List.length_take]
    omega
  refine h.fs hr sm_c1 ⟨?_, ?_, fun p hp => ?_, ?_, ?_⟩ rfl (by have := h.2.2.1; omega) (fun k x hx => ?_)
  · rw [wI_1s, pk_us, e]
  · rw [wI_1s, pk_un (by decide)]
    exact h.1.2.1
  · rw [wI_1s, pk_un (by decide), pk_un (by decide)]
    exact h.1.2.2.1 p hp
  · rw [wI_1s, pk_un (by decide)]
    exact h.1.2.2.2.1
  · rw [wI_1s, pk_un (by decide)]
    exact h.1.2.2.2.2
  · have hk : k < (R.rcs.take n).length := (List.getElem?_eq_some_iff.mp hx).1
    have hx : (R.rcs.take n)[k]? = some x := hx
    rw [List.getElem?_take_of_lt (by rw [List.length_take] at hk; omega)] at hx
    exact hx
def recov (R : Rp) (k : Nat) : Int × Rp := match R.jrn with
  | none => (0, (R.dat, R.rcs, none, false, 0))
  | some p => roll (R.dat, R.rcs, R.jrn, false, k) p.1 p.2
set_option maxRecDepth 100000 in
set_option maxHeartbeats 4000000 in
theorem x_Rep_rollBack (l : Launch) {D : Dt} (hD : OkD D) {r : Nat} {c : Cs} {τ : Cs × (Nat → Int64)} {R : Rp} {d n : Nat} (hr : r < 2) (h : RepIs c r R) (hd : R.dwn = false) (hf : R.fai ≤ 100) (hj : R.jrn = some (d, n)) (hn : n ≤ R.rcs.length) (hdd : d < 2 ^ 20) : Cp l D y_Rep_rollBack b_Rep_rollBack 2 (some .int) 3 [.ref (aRep D r)] ((c, τ) : Sg) (fun a u => ∃ c2, u = ((c2, τ) : Sg) ∧ a = some (.int (Int32.ofInt (roll R d n).1)) ∧ RepIs c2 r (roll R d n).2 ∧ Sm (Pr r) c c2) := by
  have h24 := h.2.2.1
  have up1 : ∀ {c c2 : Cs}, Sm (Ci (20 + r)) c c2 → Sm (Pr r) c c2 := fun h => h.up (fun t q => Or.inl q)
  have up2 : ∀ {c c2 : Cs}, Sm (Rw (1 + 4 * r)) c c2 → Sm (Pr r) c c2 := fun h => h.up (fun t q => Or.inr q)
  have e1 : (wrt R).2.jrn = some (d, n) := by rw [wrt_j]; exact hj
  have e2 : (wrt (cutR (wrt R).2 d)).2.jrn = some (d, n) := by rw [wrt_j]; exact e1
  have e3 : (wrt (cutR (wrt R).2 d)).2.rcs = R.rcs := by rw [wrt_r]; exact wrt_r R
  have f1 := wrt_f R
  have f2 := wrt_f (cutR (wrt R).2 d)
  have f3 : (cutR (wrt R).2 d).fai = (wrt R).2.fai := rfl
  refine Cp.of hD (by decide) (Nat.le_of_ble_eq_true rfl) [(0, some (.ref (aRep D r)))] rfl (fun X hX C => ?_)
  subst hX
  refine g_aload_n (pc := 0) (i := 0) C d_Rep_rollBack_0 rfl rfl ?_
  refine gf_Rep_recordCount (pc := 1) C (by omega) fl_Rep_27 d_Rep_rollBack_1 ?_
  rw [h.1.1]
  refine g_istore_n (pc := 4) (i := 1) C d_Rep_rollBack_4 rfl (by decide) rfl ?_
  refine g_aload_n (pc := 5) (i := 0) C d_Rep_rollBack_5 rfl rfl ?_
  refine g_callVp (pc := 6) (As := []) C my_Rep_mayWrite mv_Rep_mayWrite cl_Rep_58 (is_Rep (by omega)) d_Rep_rollBack_6 (Nat.le_of_ble_eq_true rfl) rfl (Nat.le_of_ble_eq_true rfl) ⟨Nat.zero_le _, Nat.zero_le _⟩ (x_Rep_mayWrite _ hD (by omega) h hd hf) (fun r6 u6 hp6 => ?_)
  obtain ⟨c1, rfl, rfl, g1, s1⟩ := hp6
  refine g_if_ne (pc := 9) (tgt := 15) C d_Rep_rollBack_9 (by decide) (fun h9 => ?_) (fun h9 => ?_)
  · have hw := b1_1 h9
    refine g_aload_n (pc := 15) (i := 0) C d_Rep_rollBack_15 rfl rfl ?_
    refine gf_Rep_data (pc := 16) C (by omega) fl_Rep_14 d_Rep_rollBack_16 ?_
    refine g_aload_n (pc := 19) (i := 0) C d_Rep_rollBack_19 rfl rfl ?_
    refine gf_Rep_journalData (pc := 20) C (by omega) fl_Rep_65 d_Rep_rollBack_20 ?_
    rw [(g1.1.2.2.1 (d, n) e1).1]
    have g2 : RepIs (cutC c1 (1 + 4 * r) (nI d)) r (cutR (wrt R).2 d) := g1.ct hr hdd
    refine g_callV0 (pc := 23) (As := [_]) C my_Row_cut mv_Row_cut cl_Rep_71 (is_Row (by omega)) d_Rep_rollBack_23 (Nat.le_of_ble_eq_true rfl) rfl (Nat.le_of_ble_eq_true rfl) ⟨Nat.zero_le _, Nat.zero_le _⟩ (c_Row_cut _ hD (by omega)) ?_
    refine g_aload_n (pc := 26) (i := 0) C d_Rep_rollBack_26 rfl rfl ?_
    refine g_callVp (pc := 27) (As := []) C my_Rep_mayWrite mv_Rep_mayWrite cl_Rep_58 (is_Rep (by omega)) d_Rep_rollBack_27 (Nat.le_of_ble_eq_true rfl) rfl (Nat.le_of_ble_eq_true rfl) ⟨Nat.zero_le _, Nat.zero_le _⟩ (x_Rep_mayWrite _ hD (by omega) g2 (wrt_w hw hd) (by omega)) (fun r27 u27 hp27 => ?_)
    obtain ⟨c3, rfl, rfl, g3, s3⟩ := hp27
    refine g_if_ne (pc := 30) (tgt := 36) C d_Rep_rollBack_30 (by decide) (fun h30 => ?_) (fun h30 => ?_)
    · have hw2 := b1_1 h30
      refine g_aload_n (pc := 36) (i := 0) C d_Rep_rollBack_36 rfl rfl ?_
      refine g_aload_n (pc := 37) (i := 0) C d_Rep_rollBack_37 rfl rfl ?_
      refine gf_Rep_journalRecords (pc := 38) C (by omega) fl_Rep_68 d_Rep_rollBack_38 ?_
      rw [(g3.1.2.2.1 (d, n) e2).2]
      have g4 : RepIs (wI c3 (20 + r) 0 (nI n)) r (takR (wrt (cutR (wrt R).2 d)).2 n) := g3.tk hr (by rw [e3]; exact hn)
      refine gp_Rep_recordCount (pc := 41) C (by omega) fl_Rep_27 d_Rep_rollBack_41 ?_
      refine g_aload_n (pc := 44) (i := 0) C d_Rep_rollBack_44 rfl rfl ?_
      refine g_callVp (pc := 45) (As := []) C my_Rep_removeJournal mv_Rep_removeJournal cl_Rep_74 (is_Rep (by omega)) d_Rep_rollBack_45 (Nat.le_of_ble_eq_true rfl) rfl (Nat.le_of_ble_eq_true rfl) ⟨Nat.zero_le _, Nat.zero_le _⟩ (x_Rep_removeJournal _ hD (by omega) g4 (wrt_w hw2 (wrt_w hw hd)) (show (wrt (cutR (wrt R).2 d)).2.fai ≤ 100 by omega)) (fun r45 u45 hp45 => ?_)
      obtain ⟨c5, rfl, rfl, g5, s5⟩ := hp45
      refine g_if_eq (pc := 48) (tgt := 60) C d_Rep_rollBack_48 (by decide) (fun h48 => ?_) (fun h48 => ?_)
      · have hw3 := b1_0 h48
        refine g_bipush (pc := 60) C d_Rep_rollBack_60 bp_m2 ?_
        refine g_iret (pc := 62) C d_Rep_rollBack_62 ?_
        rw [roll_3 hw hw2, if_neg hw3]
        exact ⟨c5, rfl, by rw [oi_m2], g5, ((((up1 s1).tr (up2 sm_cut)).tr (up1 s3)).tr (up1 sm_c1)).tr (up1 s5)⟩
      · have hw3 := b1_1 h48
        refine g_iload_n (pc := 51) (i := 1) C d_Rep_rollBack_51 rfl rfl ?_
        refine g_aload_n (pc := 52) (i := 0) C d_Rep_rollBack_52 rfl rfl ?_
        refine gf_Rep_recordCount (pc := 53) C (by omega) fl_Rep_27 d_Rep_rollBack_53 ?_
        rw [g5.1.1, fini_r]
        refine g_isub (pc := 56) C d_Rep_rollBack_56 ?_
        rw [show (takR (wrt (cutR (wrt R).2 d)).2 n).rcs.length = n by show ((wrt (cutR (wrt R).2 d)).2.rcs.take n).length = n; rw [e3, List.length_take]; omega, pk_sub hn]
        refine g_goto (pc := 57) (tgt := 62) C d_Rep_rollBack_57 (by decide) ?_
        refine g_iret (pc := 62) C d_Rep_rollBack_62 ?_
        rw [roll_3 hw hw2, if_pos hw3]
        exact ⟨c5, rfl, by rw [oi_n, e3], g5, ((((up1 s1).tr (up2 sm_cut)).tr (up1 s3)).tr (up1 sm_c1)).tr (up1 s5)⟩
    · have hw2 := b1_0 h30
      refine g_bipush (pc := 33) C d_Rep_rollBack_33 bp_m2 ?_
      refine g_iret (pc := 35) C d_Rep_rollBack_35 ?_
      rw [roll_2 hw hw2]
      exact ⟨c3, rfl, by rw [oi_m2], g3, ((up1 s1).tr (up2 sm_cut)).tr (up1 s3)⟩
  · have hw := b1_0 h9
    refine g_bipush (pc := 12) C d_Rep_rollBack_12 bp_m2 ?_
    refine g_iret (pc := 14) C d_Rep_rollBack_14 ?_
    rw [roll_1 hw]
    exact ⟨c1, rfl, by rw [oi_m2], g1, up1 s1⟩
set_option maxRecDepth 100000 in
set_option maxHeartbeats 4000000 in
theorem x_Rep_comeUp (l : Launch) {D : Dt} (hD : OkD D) {r : Nat} {c : Cs} {τ : Cs × (Nat → Int64)} {R : Rp} {k : Nat} (hr : r < 2) (h : RepIs c r R) (hf : R.fai = 0) (hk : k ≤ 100) (hj : ∀ q, R.jrn = some q → q.2 ≤ R.rcs.length ∧ q.1 < 2 ^ 20) : Cp l D y_Rep_comeUp b_Rep_comeUp 2 (some .int) 4 [.int (nI k), .ref (aRep D r)] ((c, τ) : Sg) (fun a u => ∃ c2, u = ((c2, τ) : Sg) ∧ a = some (.int (Int32.ofInt (recov R k).1)) ∧ RepIs c2 r (recov R k).2 ∧ Sm (Pr r) c c2) := by
  have up1 : ∀ {c c2 : Cs}, Sm (Ci (20 + r)) c c2 → Sm (Pr r) c c2 := fun h => h.up (fun t q => Or.inl q)
  have g1 : RepIs (wI c (20 + r) 4 0) r (R.dat, R.rcs, R.jrn, false, 0) := by
    refine h.fs hr sm_c1 ⟨?_, ?_, fun p hp => ?_, ?_, ?_⟩ rfl h.2.2.1 (fun _ _ h => h)
    · rw [wI_1s, pk_un (by decide)]
      exact h.1.1
    · rw [wI_1s, pk_un (by decide)]
      exact h.1.2.1
    · rw [wI_1s, pk_un (by decide), pk_un (by decide)]
      exact h.1.2.2.1 p hp
    · rw [wI_1s, pk_us]
      rfl
    · rw [wI_1s, pk_un (by decide), h.1.2.2.2.2, hf]
      rfl
  have g2 : RepIs (wI (wI c (20 + r) 4 0) (20 + r) 5 (nI k)) r (R.dat, R.rcs, R.jrn, false, k) := by
    refine g1.fs hr sm_c1 ⟨?_, ?_, fun p hp => ?_, ?_, ?_⟩ rfl h.2.2.1 (fun _ _ h => h)
    · rw [wI_1s, pk_un (by decide)]
      exact g1.1.1
    · rw [wI_1s, pk_un (by decide)]
      exact g1.1.2.1
    · rw [wI_1s, pk_un (by decide), pk_un (by decide)]
      exact g1.1.2.2.1 p hp
    · rw [wI_1s, pk_un (by decide)]
      exact g1.1.2.2.2.1
    · rw [wI_1s, pk_us]
      rfl
  refine Cp.of hD (by decide) (Nat.le_of_ble_eq_true rfl) [(0, some (.ref (aRep D r))), (1, some (.int (nI k)))] rfl (fun X hX C => ?_)
  subst hX
  refine g_aload_n (pc := 0) (i := 0) C d_Rep_comeUp_0 rfl rfl ?_
  refine g_iconst (pc := 1) C d_Rep_comeUp_1 ic_0 ?_
  refine gp_Rep_down (pc := 2) C (by omega) (by first | exact Or.inl rfl | exact Or.inr rfl) fl_Rep_35 d_Rep_comeUp_2 ?_
  refine g_aload_n (pc := 5) (i := 0) C d_Rep_comeUp_5 rfl rfl ?_
  refine gf_Rep_journal (pc := 6) C (by omega) fl_Rep_31 d_Rep_comeUp_6 ?_
  rw [g1.1.2.1]
  refine g_if_ne (pc := 9) (tgt := 14) C d_Rep_comeUp_9 (by decide) (fun h9 => ?_) (fun h9 => ?_)
  · have hb := b1_1 h9
    obtain ⟨q, hq⟩ : ∃ q, R.jrn = some q := Option.isSome_iff_exists.mp hb
    obtain ⟨d, n⟩ := q
    refine g_aload_n (pc := 14) (i := 0) C d_Rep_comeUp_14 rfl rfl ?_
    refine g_iload_n (pc := 15) (i := 1) C d_Rep_comeUp_15 rfl rfl ?_
    refine gp_Rep_writesToFailure (pc := 16) C (by omega) fl_Rep_38 d_Rep_comeUp_16 ?_
    refine g_aload_n (pc := 19) (i := 0) C d_Rep_comeUp_19 rfl rfl ?_
    refine g_callVp (pc := 20) (As := []) C my_Rep_rollBack mv_Rep_rollBack cl_Rep_77 (is_Rep (by omega)) d_Rep_comeUp_20 (Nat.le_of_ble_eq_true rfl) rfl (Nat.le_of_ble_eq_true rfl) ⟨Nat.zero_le _, Nat.zero_le _⟩ (x_Rep_rollBack _ hD (by omega) g2 rfl hk (d := d) (n := n) hq (hj _ hq).1 (hj _ hq).2) (fun r20 u20 hp20 => ?_)
    obtain ⟨c3, rfl, rfl, g3, s3⟩ := hp20
    refine g_iret (pc := 23) C d_Rep_comeUp_23 ?_
    refine ⟨c3, rfl, ?_, ?_, (up1 (sm_c1.tr sm_c1)).tr s3⟩
    · have e : recov R k = roll (R.dat, R.rcs, R.jrn, false, k) d n := by unfold recov; rw [hq]
      rw [e]
    · have e : recov R k = roll (R.dat, R.rcs, R.jrn, false, k) d n := by unfold recov; rw [hq]
      rw [e]
      exact g3
  · have hb := b1_0 h9
    have hq : R.jrn = none := Option.not_isSome_iff_eq_none.mp hb
    refine g_iconst (pc := 12) C d_Rep_comeUp_12 ic_0 ?_
    refine g_iret (pc := 13) C d_Rep_comeUp_13 ?_
    refine ⟨_, rfl, ?_, ?_, up1 sm_c1⟩
    · unfold recov
      rw [hq]
      rfl
    · unfold recov
      rw [hq] at g1 ⊢
      exact g1
set_option maxRecDepth 100000 in
set_option maxHeartbeats 4000000 in
theorem x_Rep_undo (l : Launch) {D : Dt} (hD : OkD D) {r : Nat} {c : Cs} {τ : Cs × (Nat → Int64)} {R : Rp} {k d n : Nat} (hr : r < 2) (h : RepIs c r R) (hj : R.jrn = some (d, n)) (hn : n ≤ R.rcs.length) (hdd : d < 2 ^ 20) : Cp l D y_Rep_undo b_Rep_undo 2 none 2 [.int (nI k), .ref (aRep D r)] ((c, τ) : Sg) (fun a u => ∃ c2, u = ((c2, τ) : Sg) ∧ a = none ∧ RepIs c2 r (R.dat.take d, R.rcs.take n, none, R.dwn, k) ∧ Sm (Pr r) c c2) := by
  have up1 : ∀ {c c2 : Cs}, Sm (Ci (20 + r)) c c2 → Sm (Pr r) c c2 := fun h => h.up (fun t q => Or.inl q)
  have up2 : ∀ {c c2 : Cs}, Sm (Rw (1 + 4 * r)) c c2 → Sm (Pr r) c c2 := fun h => h.up (fun t q => Or.inr q)
  have g2 : RepIs (cutC c (1 + 4 * r) (nI d)) r (cutR R d) := h.ct hr hdd
  have g4 : RepIs (wI (cutC c (1 + 4 * r) (nI d)) (20 + r) 0 (nI n)) r (takR (cutR R d) n) := g2.tk hr hn
  have g6 : RepIs (wI (wI (wI (cutC c (1 + 4 * r) (nI d)) (20 + r) 0 (nI n)) (20 + r) 1 0) (20 + r) 5 (nI k)) r (R.dat.take d, R.rcs.take n, none, R.dwn, k) := by
    refine g4.fs hr (sm_c1.tr sm_c1) ⟨?_, ?_, fun p hp => ?_, ?_, ?_⟩ rfl g4.2.2.1 (fun _ _ h => h)
    · rw [wI_1s, pk_un (by decide), wI_1s, pk_un (by decide)]
      exact g4.1.1
    · rw [wI_1s, pk_un (by decide), wI_1s, pk_us]
      rfl
    · cases hp
    · rw [wI_1s, pk_un (by decide), wI_1s, pk_un (by decide)]
      exact g4.1.2.2.2.1
    · rw [wI_1s, pk_us]
      rfl
  refine Cp.of hD (by decide) (Nat.le_of_ble_eq_true rfl) [(0, some (.ref (aRep D r))), (1, some (.int (nI k)))] rfl (fun X hX C => ?_)
  subst hX
  refine g_aload_n (pc := 0) (i := 0) C d_Rep_undo_0 rfl rfl ?_
  refine gf_Rep_data (pc := 1) C (by omega) fl_Rep_14 d_Rep_undo_1 ?_
  refine g_aload_n (pc := 4) (i := 0) C d_Rep_undo_4 rfl rfl ?_
  refine gf_Rep_journalData (pc := 5) C (by omega) fl_Rep_65 d_Rep_undo_5 ?_
  rw [(h.1.2.2.1 (d, n) hj).1]
  refine g_callV0 (pc := 8) (As := [_]) C my_Row_cut mv_Row_cut cl_Rep_71 (is_Row (by omega)) d_Rep_undo_8 (Nat.le_of_ble_eq_true rfl) rfl (Nat.le_of_ble_eq_true rfl) ⟨Nat.zero_le _, Nat.zero_le _⟩ (c_Row_cut _ hD (by omega)) ?_
  refine g_aload_n (pc := 11) (i := 0) C d_Rep_undo_11 rfl rfl ?_
  refine g_aload_n (pc := 12) (i := 0) C d_Rep_undo_12 rfl rfl ?_
  refine gf_Rep_journalRecords (pc := 13) C (by omega) fl_Rep_68 d_Rep_undo_13 ?_
  rw [(g2.1.2.2.1 (d, n) hj).2]
  refine gp_Rep_recordCount (pc := 16) C (by omega) fl_Rep_27 d_Rep_undo_16 ?_
  refine g_aload_n (pc := 19) (i := 0) C d_Rep_undo_19 rfl rfl ?_
  refine g_iconst (pc := 20) C d_Rep_undo_20 ic_0 ?_
  refine gp_Rep_journal (pc := 21) C (by omega) (by first | exact Or.inl rfl | exact Or.inr rfl) fl_Rep_31 d_Rep_undo_21 ?_
  refine g_aload_n (pc := 24) (i := 0) C d_Rep_undo_24 rfl rfl ?_
  refine g_iload_n (pc := 25) (i := 1) C d_Rep_undo_25 rfl rfl ?_
  refine gp_Rep_writesToFailure (pc := 26) C (by omega) fl_Rep_38 d_Rep_undo_26 ?_
  refine g_vret (pc := 29) C d_Rep_undo_29 ?_
  exact ⟨_, rfl, rfl, g6, ((up2 sm_cut).tr (up1 sm_c1)).tr (up1 (sm_c1.tr sm_c1))⟩
theorem chn_0 (rs : List Rc) (f : Nat) : chn rs f none = some (0, 0) := by cases f <;> rfl
theorem chn_s {rs : List Rc} {f n : Nat} {x : Rc} (hx : rs[n]? = some x) : chn rs (f + 1) (some n) = (chn rs f x.bas).map (fun q => (q.1 + 1, q.2 + x.siz)) := by
  conv => lhs; unfold chn
  simp only [hx]
  cases chn rs f x.bas <;> rfl
def fitV (rs : List Rc) (f : Nat) (o : Option Nat) (b tl : Nat) : Bool := match chn rs f o with
  | none => false
  | some (_, s) => decide (s + b ≤ 2 * tl + 16)
theorem fitV_s {rs : List Rc} {f n b tl : Nat} {x : Rc} (hx : rs[n]? = some x) : fitV rs (f + 1) (some n) b tl = fitV rs f x.bas (b + x.siz) tl := by
  unfold fitV
  rw [chn_s hx]
  cases chn rs f x.bas with
  | none => rfl
  | some q =>
    obtain ⟨k, s⟩ := q
    show decide (s + x.siz + b ≤ 2 * tl + 16) = decide (s + (b + x.siz) ≤ 2 * tl + 16)
    congr 1
    apply propext
    omega
theorem fitV_0 (rs : List Rc) (f b tl : Nat) : fitV rs f none b tl = decide (b ≤ 2 * tl + 16) := by
  unfold fitV
  rw [chn_0]
  simp
theorem fitV_n (rs : List Rc) (n b tl : Nat) : fitV rs 0 (some n) b tl = false := rfl
set_option maxRecDepth 100000 in
set_option maxHeartbeats 4000000 in
theorem c_Rep_chainFits (l : Launch) {D : Dt} (hD : OkD D) {r : Nat} {c : Cs} {τ : Cs × (Nat → Int64)} {rs : List Rc} {y : List Nat} {n tl dl : Nat} (hr : r < 2) (hx : RcX c r rs) (hw : ∀ n x, rs[n]? = some x → WfX dl rs n x) (hy : RowIs c (4 + 4 * r) y) (hn : n < rs.length) (ht : tl ≤ 60) : Ct l D y_Rep_chainFits b_Rep_chainFits 6 (some .boolean) 1 [.int (nI tl), .int (nI n), .ref (aRep D r)] ((c, τ) : Sg) (some (.int (b1 (fits6 rs n y.length tl = true)))) ((c, τ) : Sg) := by
  have h24 := hx.1
  have q1 := rln_le (4 + 4 * r)
  have q2 := hy.2.1
  refine Ct.of hD (by decide) (Nat.le_of_ble_eq_true rfl) [(0, some (.ref (aRep D r))), (1, some (.int (nI n))), (2, some (.int (nI tl)))] rfl (fun X hX C => ?_)
  subst hX
  have loop : ∀ (f k b : Nat) (o : Option Nat), f + k = 5 → (∀ m, o = some m → m < rs.length) → b ≤ 600 + 121 * k → fits6 rs n y.length tl = fitV rs f o b tl → G X D (Qp X D (fun r2 u => r2 = some (.int (b1 (fits6 rs n y.length tl = true))) ∧ u = ((c, τ) : Sg))) (0, 0) ((c, τ) : Sg) 14 [(0, some (.ref (aRep D r))), (2, some (.int (nI tl))), (3, some (.int (nI (k + 1)))), (4, some (.int (nI b))), (5, some (.int (eo o)))] [] := by
    intro f
    induction f with
    | zero =>
      intro k b o hk ho hb he
      cases o with
      | none =>
        rw [fitV_0] at he
        refine g_iload (pc := 14) C d_Rep_chainFits_14 rfl ?_
        refine g_iconst (pc := 16) C d_Rep_chainFits_16 ic_m1 ?_
        refine g_icmp_eq (pc := 17) (tgt := 59) C d_Rep_chainFits_17 (by decide) (fun h17 => ?_) (fun h17 => ?_)
        · skip
          refine g_iload (pc := 59) C d_Rep_chainFits_59 rfl ?_
          refine g_iconst (pc := 61) C d_Rep_chainFits_61 ic_m1 ?_
          refine g_icmp_ne (pc := 62) (tgt := 80) C d_Rep_chainFits_62 (by decide) (fun h62 => ?_) (fun h62 => ?_)
          · first | exact absurd h62 (rfl) | exact absurd (rfl) h62
          · skip
            refine g_iload (pc := 65) C d_Rep_chainFits_65 rfl ?_
            refine g_iconst (pc := 67) C d_Rep_chainFits_67 icn_2 ?_
            refine g_iload_n (pc := 68) (i := 2) C d_Rep_chainFits_68 rfl rfl ?_
            refine g_imul (pc := 69) C d_Rep_chainFits_69 ?_
            rw [pk_mul]
            refine g_bipush (pc := 70) C d_Rep_chainFits_70 bpn_16 ?_
            refine g_iadd (pc := 72) C d_Rep_chainFits_72 ?_
            rw [nI_add]
            refine g_icmp_gt (pc := 73) (tgt := 80) C d_Rep_chainFits_73 (by decide) (fun h73 => ?_) (fun h73 => ?_)
            · have hq : ¬ b ≤ 2 * tl + 16 := fun q => absurd h73 (nI_nlt q (by omega))
              refine g_iconst (pc := 80) C d_Rep_chainFits_80 ic_0 ?_
              refine g_zret (pc := 81) C d_Rep_chainFits_81 (by first | exact Or.inl rfl | exact Or.inr rfl) ?_
              refine ⟨congrArg (fun v => some (Value.int v)) ?_, rfl⟩
              first | exact (b1_t (by rw [he]; exact decide_eq_true hq)).symm | exact (b1_f (by rw [he]; simpa using hq)).symm
            · have hq : b ≤ 2 * tl + 16 := Nat.not_lt.mp fun q => h73 (nI_lt q (by omega))
              refine g_iconst (pc := 76) C d_Rep_chainFits_76 ic_1 ?_
              refine g_goto (pc := 77) (tgt := 81) C d_Rep_chainFits_77 (by decide) ?_
              refine g_zret (pc := 81) C d_Rep_chainFits_81 (by first | exact Or.inl rfl | exact Or.inr rfl) ?_
              refine ⟨congrArg (fun v => some (Value.int v)) ?_, rfl⟩
              first | exact (b1_t (by rw [he]; exact decide_eq_true hq)).symm | exact (b1_f (by rw [he]; simpa using hq)).symm
        · first | exact absurd h17 (rfl) | exact absurd (rfl) h17
      | some m =>
        have hm := ho m rfl
        rw [fitV_n] at he
        show G X D _ (0, 0) _ 14 [(0, some (.ref (aRep D r))), (2, some (.int (nI tl))), (3, some (.int (nI (k + 1)))), (4, some (.int (nI b))), (5, some (.int (nI m)))] []
        refine g_iload (pc := 14) C d_Rep_chainFits_14 rfl ?_
        refine g_iconst (pc := 16) C d_Rep_chainFits_16 ic_m1 ?_
        refine g_icmp_eq (pc := 17) (tgt := 59) C d_Rep_chainFits_17 (by decide) (fun h17 => ?_) (fun h17 => ?_)
        · first | exact absurd h17 (nI_m1 (by omega)) | exact absurd (nI_m1 (by omega)) h17
        · skip
          refine g_iload_n (pc := 20) (i := 3) C d_Rep_chainFits_20 rfl rfl ?_
          refine g_bipush (pc := 21) C d_Rep_chainFits_21 bpn_6 ?_
          refine g_icmp_ge (pc := 23) (tgt := 59) C d_Rep_chainFits_23 (by decide) (fun h23 => ?_) (fun h23 => ?_)
          · skip
            refine g_iload (pc := 59) C d_Rep_chainFits_59 rfl ?_
            refine g_iconst (pc := 61) C d_Rep_chainFits_61 ic_m1 ?_
            refine g_icmp_ne (pc := 62) (tgt := 80) C d_Rep_chainFits_62 (by decide) (fun h62 => ?_) (fun h62 => ?_)
            · skip
              refine g_iconst (pc := 80) C d_Rep_chainFits_80 ic_0 ?_
              refine g_zret (pc := 81) C d_Rep_chainFits_81 (by first | exact Or.inl rfl | exact Or.inr rfl) ?_
              exact ⟨by rw [b1_f (by rw [he]; exact fun e => by cases e)], rfl⟩
            · first | exact absurd h62 (nI_m1 (by omega)) | exact absurd (nI_m1 (by omega)) h62
          · first | exact absurd h23 (nI_le (by omega) (by omega)) | exact absurd (nI_le (by omega) (by omega)) h23
    | succ f ih =>
      intro k b o hk ho hb he
      cases o with
      | none =>
        rw [fitV_0] at he
        refine g_iload (pc := 14) C d_Rep_chainFits_14 rfl ?_
        refine g_iconst (pc := 16) C d_Rep_chainFits_16 ic_m1 ?_
        refine g_icmp_eq (pc := 17) (tgt := 59) C d_Rep_chainFits_17 (by decide) (fun h17 => ?_) (fun h17 => ?_)
        · skip
          refine g_iload (pc := 59) C d_Rep_chainFits_59 rfl ?_
          refine g_iconst (pc := 61) C d_Rep_chainFits_61 ic_m1 ?_
          refine g_icmp_ne (pc := 62) (tgt := 80) C d_Rep_chainFits_62 (by decide) (fun h62 => ?_) (fun h62 => ?_)
          · first | exact absurd h62 (rfl) | exact absurd (rfl) h62
          · skip
            refine g_iload (pc := 65) C d_Rep_chainFits_65 rfl ?_
            refine g_iconst (pc := 67) C d_Rep_chainFits_67 icn_2 ?_
            refine g_iload_n (pc := 68) (i := 2) C d_Rep_chainFits_68 rfl rfl ?_
            refine g_imul (pc := 69) C d_Rep_chainFits_69 ?_
            rw [pk_mul]
            refine g_bipush (pc := 70) C d_Rep_chainFits_70 bpn_16 ?_
            refine g_iadd (pc := 72) C d_Rep_chainFits_72 ?_
            rw [nI_add]
            refine g_icmp_gt (pc := 73) (tgt := 80) C d_Rep_chainFits_73 (by decide) (fun h73 => ?_) (fun h73 => ?_)
            · have hq : ¬ b ≤ 2 * tl + 16 := fun q => absurd h73 (nI_nlt q (by omega))
              refine g_iconst (pc := 80) C d_Rep_chainFits_80 ic_0 ?_
              refine g_zret (pc := 81) C d_Rep_chainFits_81 (by first | exact Or.inl rfl | exact Or.inr rfl) ?_
              refine ⟨congrArg (fun v => some (Value.int v)) ?_, rfl⟩
              first | exact (b1_t (by rw [he]; exact decide_eq_true hq)).symm | exact (b1_f (by rw [he]; simpa using hq)).symm
            · have hq : b ≤ 2 * tl + 16 := Nat.not_lt.mp fun q => h73 (nI_lt q (by omega))
              refine g_iconst (pc := 76) C d_Rep_chainFits_76 ic_1 ?_
              refine g_goto (pc := 77) (tgt := 81) C d_Rep_chainFits_77 (by decide) ?_
              refine g_zret (pc := 81) C d_Rep_chainFits_81 (by first | exact Or.inl rfl | exact Or.inr rfl) ?_
              refine ⟨congrArg (fun v => some (Value.int v)) ?_, rfl⟩
              first | exact (b1_t (by rw [he]; exact decide_eq_true hq)).symm | exact (b1_f (by rw [he]; simpa using hq)).symm
        · first | exact absurd h17 (rfl) | exact absurd (rfl) h17
      | some m =>
        have hm := ho m rfl
        obtain ⟨x, hxm⟩ : ∃ x, rs[m]? = some x := ⟨_, List.getElem?_eq_getElem hm⟩
        have hrec := hx.2 m x hxm
        have hwx := hw m x hxm
        rw [fitV_s hxm] at he
        show G X D _ (0, 0) _ 14 [(0, some (.ref (aRep D r))), (2, some (.int (nI tl))), (3, some (.int (nI (k + 1)))), (4, some (.int (nI b))), (5, some (.int (nI m)))] []
        refine g_iload (pc := 14) C d_Rep_chainFits_14 rfl ?_
        refine g_iconst (pc := 16) C d_Rep_chainFits_16 ic_m1 ?_
        refine g_icmp_eq (pc := 17) (tgt := 59) C d_Rep_chainFits_17 (by decide) (fun h17 => ?_) (fun h17 => ?_)
        · first | exact absurd h17 (nI_m1 (by omega)) | exact absurd (nI_m1 (by omega)) h17
        · skip
          refine g_iload_n (pc := 20) (i := 3) C d_Rep_chainFits_20 rfl rfl ?_
          refine g_bipush (pc := 21) C d_Rep_chainFits_21 bpn_6 ?_
          refine g_icmp_ge (pc := 23) (tgt := 59) C d_Rep_chainFits_23 (by decide) (fun h23 => ?_) (fun h23 => ?_)
          · first | exact absurd h23 (nI_ge (show k + 1 < 6 by omega) (by omega)) | exact absurd (nI_ge (show k + 1 < 6 by omega) (by omega)) h23
          · skip
            refine g_iinc (pc := 26) C d_Rep_chainFits_26 rfl (v := nI (k + 1 + 1)) (nI_inc (k + 1)) rfl ?_
            refine g_iload (pc := 29) C d_Rep_chainFits_29 rfl ?_
            refine g_aload_n (pc := 31) (i := 0) C d_Rep_chainFits_31 rfl rfl ?_
            refine gf_Rep_records (pc := 32) C (by omega) fl_Rep_22 d_Rep_chainFits_32 ?_
            refine g_iload (pc := 35) C d_Rep_chainFits_35 rfl ?_
            refine ga_rcs (pc := 37) C (by omega) (by omega) d_Rep_chainFits_37 ?_
            refine gf_Rec_size (pc := 38) C (by omega) fl_Rep_183 d_Rep_chainFits_38 ?_
            rw [hrec.2.1]
            refine g_iadd (pc := 41) C d_Rep_chainFits_41 ?_
            rw [nI_add]
            refine g_istore (pc := 42) C d_Rep_chainFits_42 (by decide) rfl ?_
            refine g_aload_n (pc := 44) (i := 0) C d_Rep_chainFits_44 rfl rfl ?_
            refine gf_Rep_records (pc := 45) C (by omega) fl_Rep_22 d_Rep_chainFits_45 ?_
            refine g_iload (pc := 48) C d_Rep_chainFits_48 rfl ?_
            refine ga_rcs (pc := 50) C (by omega) (by omega) d_Rep_chainFits_50 ?_
            refine gf_Rec_base (pc := 51) C (by omega) fl_Rep_186 d_Rep_chainFits_51 ?_
            rw [hrec.2.2.2.1]
            refine g_istore (pc := 54) C d_Rep_chainFits_54 (by decide) rfl ?_
            refine g_goto (pc := 56) (tgt := 14) C d_Rep_chainFits_56 (by decide) ?_
            exact G.lf (ih (k + 1) (b + x.siz) x.bas (by omega) (fun q hq => by have := hwx.1 q hq; omega) (by have := hwx.2.2.2.2.1; omega) he) (sb rfl (sb rfl (sb rfl (sb rfl (sb rfl sn)))))
  refine g_iconst (pc := 0) C d_Rep_chainFits_0 icn_1 ?_
  refine g_istore_n (pc := 1) (i := 3) C d_Rep_chainFits_1 rfl (by decide) rfl ?_
  refine g_aload_n (pc := 2) (i := 0) C d_Rep_chainFits_2 rfl rfl ?_
  refine gf_Rep_trial (pc := 3) C (by omega) fl_Rep_51 d_Rep_chainFits_3 ?_
  refine gf_Row_length (pc := 6) C (by omega) fl_Rep_62 d_Rep_chainFits_6 ?_
  rw [hy.1]
  refine g_istore (pc := 9) C d_Rep_chainFits_9 (by decide) rfl ?_
  refine g_iload_n (pc := 11) (i := 1) C d_Rep_chainFits_11 rfl rfl ?_
  refine g_istore (pc := 12) C d_Rep_chainFits_12 (by decide) rfl ?_
  exact G.lf (loop 5 0 y.length (some n) (by omega) (fun m e => by cases e; exact hn) (by omega) rfl) (sb rfl (sb rfl (sb rfl (sb rfl (sb rfl sn)))))
