def Ci (i : Nat) : Nat → Prop := fun t => t = i
theorem sm_c1 {c : Cs} {i k : Nat} {v : Int32} : Sm (Ci i) c (wI c i k v) := Sm.wI (rfl : i = i)
theorem RepIs.fs {c c2 : Cs} {r : Nat} {R R2 : Rp} (h : RepIs c r R) (hr : r < 2) (hs : Sm (Ci (20 + r)) c c2) (hf : RpF (c2.1 (20 + r)) R2) (hd : R2.dat = R.dat) (hl : R2.rcs.length ≤ 24) (hrc : ∀ (n : Nat) (x : Rc), R2.rcs[n]? = some x → R.rcs[n]? = some x) : RepIs c2 r R2 := by
  refine ⟨hf, ?_, hl, fun n x hx => (h.2.2.2 n x (hrc n x hx)).sm hs (by have := h.2.2.lt (hrc n x hx); unfold Ci; omega)⟩
  rw [hd]
  exact h.2.1.sm hs (by unfold Ci; omega) (by unfold Ci; omega)
theorem RepIs.ct {c : Cs} {r d : Nat} {R : Rp} (h : RepIs c r R) (hr : r < 2) (hd : d < 2 ^ 20) : RepIs (cutC c (1 + 4 * r) (nI d)) r (R.dat.take d, R.rcs, R.jrn, R.dwn, R.fai) := by
  have hs : Sm (Rw (1 + 4 * r)) c (cutC c (1 + 4 * r) (nI d)) := sm_cut
  refine ⟨?_, h.2.1.cut hd, h.2.2.1, fun n x hx => (h.2.2.2 n x hx).sm hs (by have := h.2.2.lt hx; unfold Rw; omega)⟩
  rw [hs.1 _ (by unfold Rw; omega)]
  exact h.1
theorem wrt_d (R : Rp) : (wrt R).2.dat = R.dat := by
  unfold wrt
  split
  · rfl
  · split <;> rfl
theorem wrt_r (R : Rp) : (wrt R).2.rcs = R.rcs := by
  unfold wrt
  split
  · rfl
  · split <;> rfl
theorem wrt_j (R : Rp) : (wrt R).2.jrn = R.jrn := by
  unfold wrt
  split
  · rfl
  · split <;> rfl
theorem wrt_f (R : Rp) : (wrt R).2.fai ≤ R.fai := by
  unfold wrt
  split
  · exact Nat.le_refl _
  · split
    · exact Nat.zero_le _
    · exact Nat.sub_le _ _
theorem wrt_w {R : Rp} (h : (wrt R).1 = true) (hd : R.dwn = false) : (wrt R).2.dwn = false := by
  unfold wrt at h ⊢
  split
  · exact hd
  · split
    · rename_i h1 h2
      rw [if_neg h1, if_pos h2] at h
      cases h
    · rfl
theorem begn_t {R : Rp} (h : (wrt R).1 = true) : begn R = (true, ((wrt R).2.dat, (wrt R).2.rcs, some ((wrt R).2.dat.length, (wrt R).2.rcs.length), (wrt R).2.dwn, (wrt R).2.fai)) := by
  unfold begn
  generalize wrt R = w at h ⊢
  obtain ⟨b, R1⟩ := w
  cases h
  rfl
theorem begn_f {R : Rp} (h : ¬ (wrt R).1 = true) : begn R = (false, (wrt R).2) := by
  unfold begn
  generalize wrt R = w at h ⊢
  obtain ⟨b, R1⟩ := w
  cases b with
  | false => rfl
  | true => exact absurd rfl h
theorem fini_t {R : Rp} (h : (wrt R).1 = true) : fini R = (true, ((wrt R).2.dat, (wrt R).2.rcs, none, (wrt R).2.dwn, (wrt R).2.fai)) := by
  unfold fini
  generalize wrt R = w at h ⊢
  obtain ⟨b, R1⟩ := w
  cases h
  rfl
theorem fini_f {R : Rp} (h : ¬ (wrt R).1 = true) : fini R = (false, (wrt R).2) := by
  unfold fini
  generalize wrt R = w at h ⊢
  obtain ⟨b, R1⟩ := w
  cases b with
  | false => rfl
  | true => exact absurd rfl h
/-- a WRITE under way: data cut -/
def cutR (R : Rp) (d : Nat) : Rp := (R.dat.take d, R.rcs, R.jrn, R.dwn, R.fai)
def takR (R : Rp) (n : Nat) : Rp := (R.dat, R.rcs.take n, R.jrn, R.dwn, R.fai)
theorem roll_1 {R : Rp} {d n : Nat} (h : ¬ (wrt R).1 = true) : roll R d n = (-2, (wrt R).2) := by
  unfold roll
  generalize wrt R = w at h ⊢
  obtain ⟨b, R1⟩ := w
  cases b with
  | false => rfl
  | true => exact absurd rfl h
theorem roll_2 {R : Rp} {d n : Nat} (h : (wrt R).1 = true) (h2 : ¬ (wrt (cutR (wrt R).2 d)).1 = true) : roll R d n = (-2, (wrt (cutR (wrt R).2 d)).2) := by
  unfold roll
  generalize wrt R = w at h h2 ⊢
  obtain ⟨b, R1⟩ := w
  cases h
  show (match wrt (cutR R1 d) with
    | (false, R2) => (-2, R2)
    | (true, R2) => _) = _
  generalize wrt (cutR R1 d) = w2 at h2 ⊢
  obtain ⟨b2, R2⟩ := w2
  cases b2 with
  | false => rfl
  | true => exact absurd rfl h2
theorem roll_3 {R : Rp} {d n : Nat} (h : (wrt R).1 = true) (h2 : (wrt (cutR (wrt R).2 d)).1 = true) : roll R d n = (if (fini (takR (wrt (cutR (wrt R).2 d)).2 n)).1 = true then (((wrt (cutR (wrt R).2 d)).2.rcs.length - n : Nat) : Int) else -2, (fini (takR (wrt (cutR (wrt R).2 d)).2 n)).2) := by
  unfold roll
  generalize wrt R = w at h h2 ⊢
  obtain ⟨b, R1⟩ := w
  cases h
  show (match wrt (cutR R1 d) with
    | (false, R2) => (-2, R2)
    | (true, R2) => match fini (takR R2 n) with
      | (false, R3) => (-2, R3)
      | (true, R3) => (((R2.rcs.length - n : Nat) : Int), R3)) = _
  generalize wrt (cutR R1 d) = w2 at h2 ⊢
  obtain ⟨b2, R2⟩ := w2
  cases h2
  show (match fini (takR R2 n) with
      | (false, R3) => (-2, R3)
      | (true, R3) => (((R2.rcs.length - n : Nat) : Int), R3)) = (if (fini (takR R2 n)).1 = true then _ else _, (fini (takR R2 n)).2)
  generalize fini (takR R2 n) = w3
  obtain ⟨b3, R3⟩ := w3
  cases b3 <;> rfl
theorem oi_n (n : Nat) : Int32.ofInt ((n : Nat) : Int) = nI n := rfl
def Pr (r : Nat) : Nat → Prop := fun t => t = 20 + r ∨ Rw (1 + 4 * r) t
set_option maxRecDepth 100000 in
set_option maxHeartbeats 4000000 in
theorem c_Rec_placeChunk (l : Launch) {D : Dt} (hD : OkD D) {i : Nat} {c : Cs} {τ : Cs × (Nat → Int64)} {o s b : Int32} (hi : i < 48) : Ct l D y_Rec_placeChunk b_Rec_placeChunk 4 none 1 [.int b, .int s, .int o, .ref (aRec D i)] ((c, τ) : Sg) (none) ((wI (wI (wI c (26 + i) 0 o) (26 + i) 1 s) (26 + i) 3 b, τ) : Sg) := by
  refine Ct.of hD (by decide) (Nat.le_of_ble_eq_true rfl) [(0, some (.ref (aRec D i))), (1, some (.int o)), (2, some (.int s)), (3, some (.int b))] rfl (fun X hX C => ?_)
  subst hX
  refine g_aload_n (pc := 0) (i := 0) C d_Rec_placeChunk_0 rfl rfl ?_
  refine g_iload_n (pc := 1) (i := 1) C d_Rec_placeChunk_1 rfl rfl ?_
  refine gp_Rec_offset (pc := 2) C (by omega) fl_Rec_9 d_Rec_placeChunk_2 ?_
  refine g_aload_n (pc := 5) (i := 0) C d_Rec_placeChunk_5 rfl rfl ?_
  refine g_iload_n (pc := 6) (i := 2) C d_Rec_placeChunk_6 rfl rfl ?_
  refine gp_Rec_size (pc := 7) C (by omega) fl_Rec_15 d_Rec_placeChunk_7 ?_
  refine g_aload_n (pc := 10) (i := 0) C d_Rec_placeChunk_10 rfl rfl ?_
  refine g_iload_n (pc := 11) (i := 3) C d_Rec_placeChunk_11 rfl rfl ?_
  refine gp_Rec_base (pc := 12) C (by omega) fl_Rec_18 d_Rec_placeChunk_12 ?_
  refine g_vret (pc := 15) C d_Rec_placeChunk_15 ?_
  exact ⟨rfl, rfl⟩
set_option maxRecDepth 100000 in
set_option maxHeartbeats 4000000 in
theorem c_Rec_describe (l : Launch) {D : Dt} (hD : OkD D) {i : Nat} {c : Cs} {τ : Cs × (Nat → Int64)} {n a b : Int32} {h : Int64} (hi : i < 48) : Ct l D y_Rec_describe b_Rec_describe 6 none 1 [.long h, .int b, .int a, .int n, .ref (aRec D i)] ((c, τ) : Sg) (none) ((wN (wI (wI (wI c (26 + i) 2 n) (26 + i) 4 a) (26 + i) 5 b) i h, τ) : Sg) := by
  refine Ct.of hD (by decide) (Nat.le_of_ble_eq_true rfl) [(0, some (.ref (aRec D i))), (1, some (.int n)), (2, some (.int a)), (3, some (.int b)), (4, some (.long h))] rfl (fun X hX C => ?_)
  subst hX
  refine g_aload_n (pc := 0) (i := 0) C d_Rec_describe_0 rfl rfl ?_
  refine g_iload_n (pc := 1) (i := 1) C d_Rec_describe_1 rfl rfl ?_
  refine gp_Rec_length (pc := 2) C (by omega) fl_Rec_21 d_Rec_describe_2 ?_
  refine g_aload_n (pc := 5) (i := 0) C d_Rec_describe_5 rfl rfl ?_
  refine g_iload_n (pc := 6) (i := 2) C d_Rec_describe_6 rfl rfl ?_
  refine gp_Rec_p1 (pc := 7) C (by omega) fl_Rec_24 d_Rec_describe_7 ?_
  refine g_aload_n (pc := 10) (i := 0) C d_Rec_describe_10 rfl rfl ?_
  refine g_iload_n (pc := 11) (i := 3) C d_Rec_describe_11 rfl rfl ?_
  refine gp_Rec_p2 (pc := 12) C (by omega) fl_Rec_27 d_Rec_describe_12 ?_
  refine g_aload_n (pc := 15) (i := 0) C d_Rec_describe_15 rfl rfl ?_
  refine g_lload (pc := 16) C d_Rec_describe_16 rfl ?_
  refine gp_Rec_node (pc := 18) C (by omega) fl_Rec_30 d_Rec_describe_18 ?_
  refine g_vret (pc := 21) C d_Rec_describe_21 ?_
  exact ⟨rfl, rfl⟩
set_option maxRecDepth 100000 in
set_option maxHeartbeats 4000000 in
theorem x_Rep_mayWrite (l : Launch) {D : Dt} (hD : OkD D) {r : Nat} {c : Cs} {τ : Cs × (Nat → Int64)} {R : Rp} (hr : r < 2) (h : RepIs c r R) (hd : R.dwn = false) (hf : R.fai ≤ 100) : Cp l D y_Rep_mayWrite b_Rep_mayWrite 1 (some .boolean) 1 [.ref (aRep D r)] ((c, τ) : Sg) (fun a u => ∃ c2, u = ((c2, τ) : Sg) ∧ a = some (.int (b1 ((wrt R).1 = true))) ∧ RepIs c2 r (wrt R).2 ∧ Sm (Ci (20 + r)) c c2) := by
  have f0 := h.1.1
  have f1 := h.1.2.1
  have f2 := h.1.2.2.1
  have f4 := h.1.2.2.2.1
  have f5 := h.1.2.2.2.2
  rw [b1_f (by rw [hd]; decide)] at f4
  refine Cp.of hD (by decide) (Nat.le_of_ble_eq_true rfl) [(0, some (.ref (aRep D r)))] rfl (fun X hX C => ?_)
  subst hX
  refine g_aload_n (pc := 0) (i := 0) C d_Rep_mayWrite_0 rfl rfl ?_
  refine gf_Rep_writesToFailure (pc := 1) C (by omega) fl_Rep_38 d_Rep_mayWrite_1 ?_
  rw [f5]
  refine g_if_le (pc := 4) (tgt := 33) C d_Rep_mayWrite_4 (by decide) (fun h4 => ?_) (fun h4 => ?_)
  · have hz : R.fai = 0 := by
      have := (nI_leI (a := R.fai) (b := 0) (by omega) (by decide)).mp (by rw [nI_0]; exact h4)
      omega
    refine g_aload_n (pc := 33) (i := 0) C d_Rep_mayWrite_33 rfl rfl ?_
    refine gf_Rep_down (pc := 34) C (by omega) fl_Rep_35 d_Rep_mayWrite_34 ?_
    rw [f4]
    refine g_if_ne (pc := 37) (tgt := 44) C d_Rep_mayWrite_37 (by decide) (fun h37 => ?_) (fun h37 => ?_)
    · first | exact absurd h37 (rfl) | exact absurd (rfl) h37
    · skip
      refine g_iconst (pc := 40) C d_Rep_mayWrite_40 ic_1 ?_
      refine g_goto (pc := 41) (tgt := 45) C d_Rep_mayWrite_41 (by decide) ?_
      refine g_zret (pc := 45) C d_Rep_mayWrite_45 (by first | exact Or.inl rfl | exact Or.inr rfl) ?_
      refine ⟨c, rfl, ?_, ?_, Sm.rf⟩
      · rw [b1_t (by unfold wrt; rw [if_pos hz])]
      · have e : (wrt R).2 = R := by unfold wrt; rw [if_pos hz]
        rw [e]
        exact h
  · have hz : ¬ R.fai = 0 := fun e => h4 (by rw [e, nI_0]; decide)
    refine g_aload_n (pc := 7) (i := 0) C d_Rep_mayWrite_7 rfl rfl ?_
    refine g_dup (pc := 8) C d_Rep_mayWrite_8 rfl ?_
    refine gf_Rep_writesToFailure (pc := 9) C (by omega) fl_Rep_38 d_Rep_mayWrite_9 ?_
    rw [f5]
    refine g_iconst (pc := 12) C d_Rep_mayWrite_12 icn_1 ?_
    refine g_isub (pc := 13) C d_Rep_mayWrite_13 ?_
    rw [pk_sub (by omega)]
    refine gp_Rep_writesToFailure (pc := 14) C (by omega) fl_Rep_38 d_Rep_mayWrite_14 ?_
    refine g_aload_n (pc := 17) (i := 0) C d_Rep_mayWrite_17 rfl rfl ?_
    refine g_aload_n (pc := 18) (i := 0) C d_Rep_mayWrite_18 rfl rfl ?_
    refine gf_Rep_writesToFailure (pc := 19) C (by omega) fl_Rep_38 d_Rep_mayWrite_19 ?_
    rw [wI_1s, pk_us]
    refine g_if_ne (pc := 22) (tgt := 29) C d_Rep_mayWrite_22 (by decide) (fun h22 => ?_) (fun h22 => ?_)
    · have h1 : ¬ R.fai = 1 := fun e => h22 (by rw [e]; exact nI_0)
      refine g_iconst (pc := 29) C d_Rep_mayWrite_29 ic_0 ?_
      refine gp_Rep_down (pc := 30) C (by omega) (by first | exact Or.inl rfl | exact Or.inr rfl) fl_Rep_35 d_Rep_mayWrite_30 ?_
      refine g_aload_n (pc := 33) (i := 0) C d_Rep_mayWrite_33 rfl rfl ?_
      refine gf_Rep_down (pc := 34) C (by omega) fl_Rep_35 d_Rep_mayWrite_34 ?_
      rw [wI_1s, pk_us]
      refine g_if_ne (pc := 37) (tgt := 44) C d_Rep_mayWrite_37 (by decide) (fun h37 => ?_) (fun h37 => ?_)
      · first | exact absurd h37 (rfl) | exact absurd (rfl) h37
      · skip
        refine g_iconst (pc := 40) C d_Rep_mayWrite_40 ic_1 ?_
        refine g_goto (pc := 41) (tgt := 45) C d_Rep_mayWrite_41 (by decide) ?_
        refine g_zret (pc := 45) C d_Rep_mayWrite_45 (by first | exact Or.inl rfl | exact Or.inr rfl) ?_
        refine ⟨_, rfl, ?_, ?_, sm_c1.tr sm_c1⟩
        · rw [b1_t (by unfold wrt; rw [if_neg hz, if_neg h1])]
        · have e : (wrt R).2 = (R.dat, R.rcs, R.jrn, false, R.fai - 1) := by unfold wrt; rw [if_neg hz, if_neg h1]
          rw [e]
          refine h.fs hr (sm_c1.tr sm_c1) ?_ rfl h.2.2.1 (fun _ _ h => h)
          refine ⟨?_, ?_, fun p hp => ?_, ?_, ?_⟩
          · rw [wI_1s, pk_un (by decide), wI_1s, pk_un (by decide)]
            exact f0
          · rw [wI_1s, pk_un (by decide), wI_1s, pk_un (by decide)]
            exact f1
          · rw [wI_1s, pk_un (by decide), wI_1s, pk_un (by decide), pk_un (by decide), pk_un (by decide)]
            exact f2 p hp
          · rw [wI_1s, pk_us]
            rfl
          · rw [wI_1s, pk_un (by decide), wI_1s, pk_us]
            rfl
    · have h1 : R.fai = 1 := by
        have := (nI_eq (a := R.fai - 1) (b := 0) (by omega) (by decide)).mp (h22.trans nI_0.symm)
        omega
      refine g_iconst (pc := 25) C d_Rep_mayWrite_25 ic_1 ?_
      refine g_goto (pc := 26) (tgt := 30) C d_Rep_mayWrite_26 (by decide) ?_
      refine gp_Rep_down (pc := 30) C (by omega) (by first | exact Or.inl rfl | exact Or.inr rfl) fl_Rep_35 d_Rep_mayWrite_30 ?_
      refine g_aload_n (pc := 33) (i := 0) C d_Rep_mayWrite_33 rfl rfl ?_
      refine gf_Rep_down (pc := 34) C (by omega) fl_Rep_35 d_Rep_mayWrite_34 ?_
      rw [wI_1s, pk_us]
      refine g_if_ne (pc := 37) (tgt := 44) C d_Rep_mayWrite_37 (by decide) (fun h37 => ?_) (fun h37 => ?_)
      · skip
        refine g_iconst (pc := 44) C d_Rep_mayWrite_44 ic_0 ?_
        refine g_zret (pc := 45) C d_Rep_mayWrite_45 (by first | exact Or.inl rfl | exact Or.inr rfl) ?_
        refine ⟨_, rfl, ?_, ?_, sm_c1.tr sm_c1⟩
        · rw [b1_f (by unfold wrt; rw [if_neg hz, if_pos h1]; exact fun e => by cases e)]
        · have e : (wrt R).2 = (R.dat, R.rcs, R.jrn, true, 0) := by unfold wrt; rw [if_neg hz, if_pos h1]
          rw [e]
          refine h.fs hr (sm_c1.tr sm_c1) ?_ rfl h.2.2.1 (fun _ _ h => h)
          refine ⟨?_, ?_, fun p hp => ?_, ?_, ?_⟩
          · rw [wI_1s, pk_un (by decide), wI_1s, pk_un (by decide)]
            exact f0
          · rw [wI_1s, pk_un (by decide), wI_1s, pk_un (by decide)]
            exact f1
          · rw [wI_1s, pk_un (by decide), wI_1s, pk_un (by decide), pk_un (by decide), pk_un (by decide)]
            exact f2 p hp
          · rw [wI_1s, pk_us]
            rfl
          · rw [wI_1s, pk_un (by decide), wI_1s, pk_us, h1]
            rfl
      · first | exact absurd h37 (by decide) | exact absurd (by decide) h37
set_option maxRecDepth 100000 in
set_option maxHeartbeats 4000000 in
theorem x_Rep_openJournal (l : Launch) {D : Dt} (hD : OkD D) {r : Nat} {c : Cs} {τ : Cs × (Nat → Int64)} {R : Rp} (hr : r < 2) (h : RepIs c r R) (hd : R.dwn = false) (hf : R.fai ≤ 100) : Cp l D y_Rep_openJournal b_Rep_openJournal 1 (some .boolean) 2 [.ref (aRep D r)] ((c, τ) : Sg) (fun a u => ∃ c2, u = ((c2, τ) : Sg) ∧ a = some (.int (b1 ((begn R).1 = true))) ∧ RepIs c2 r (begn R).2 ∧ Sm (Ci (20 + r)) c c2) := by
  refine Cp.of hD (by decide) (Nat.le_of_ble_eq_true rfl) [(0, some (.ref (aRep D r)))] rfl (fun X hX C => ?_)
  subst hX
  refine g_aload_n (pc := 0) (i := 0) C d_Rep_openJournal_0 rfl rfl ?_
  refine g_callVp (pc := 1) (As := []) C my_Rep_mayWrite mv_Rep_mayWrite cl_Rep_58 (is_Rep (by omega)) d_Rep_openJournal_1 (Nat.le_of_ble_eq_true rfl) rfl (Nat.le_of_ble_eq_true rfl) ⟨Nat.zero_le _, Nat.zero_le _⟩ (x_Rep_mayWrite _ hD (by omega) h hd hf) (fun r1 u1 hp1 => ?_)
  obtain ⟨c1, rfl, rfl, g1, s1⟩ := hp1
  refine g_if_ne (pc := 4) (tgt := 9) C d_Rep_openJournal_4 (by decide) (fun h4 => ?_) (fun h4 => ?_)
  · have hw := b1_1 h4
    refine g_aload_n (pc := 9) (i := 0) C d_Rep_openJournal_9 rfl rfl ?_
    refine g_iconst (pc := 10) C d_Rep_openJournal_10 ic_1 ?_
    refine gp_Rep_journal (pc := 11) C (by omega) (by first | exact Or.inl rfl | exact Or.inr rfl) fl_Rep_31 d_Rep_openJournal_11 ?_
    refine g_aload_n (pc := 14) (i := 0) C d_Rep_openJournal_14 rfl rfl ?_
    refine g_aload_n (pc := 15) (i := 0) C d_Rep_openJournal_15 rfl rfl ?_
    refine gf_Rep_data (pc := 16) C (by omega) fl_Rep_14 d_Rep_openJournal_16 ?_
    refine gf_Row_length (pc := 19) C (by omega) fl_Rep_62 d_Rep_openJournal_19 ?_
    rw [wI_1n (by omega), show 1 + (1 + 4 * r) = 1 + (1 + 4 * r) from rfl, g1.2.1.1]
    refine gp_Rep_journalData (pc := 22) C (by omega) fl_Rep_65 d_Rep_openJournal_22 ?_
    refine g_aload_n (pc := 25) (i := 0) C d_Rep_openJournal_25 rfl rfl ?_
    refine g_aload_n (pc := 26) (i := 0) C d_Rep_openJournal_26 rfl rfl ?_
    refine gf_Rep_recordCount (pc := 27) C (by omega) fl_Rep_27 d_Rep_openJournal_27 ?_
    rw [wI_1s, pk_un (by decide), wI_1s, pk_un (by decide), g1.1.1]
    refine gp_Rep_journalRecords (pc := 30) C (by omega) fl_Rep_68 d_Rep_openJournal_30 ?_
    refine g_iconst (pc := 33) C d_Rep_openJournal_33 ic_1 ?_
    refine g_zret (pc := 34) C d_Rep_openJournal_34 (by first | exact Or.inl rfl | exact Or.inr rfl) ?_
    rw [begn_t hw]
    refine ⟨_, rfl, by rw [b1_t rfl], ?_, s1.tr ((sm_c1.tr sm_c1).tr sm_c1)⟩
    refine g1.fs hr ((sm_c1.tr sm_c1).tr sm_c1) ?_ rfl g1.2.2.1 (fun _ _ h => h)
    refine ⟨?_, ?_, fun p hp => ?_, ?_, ?_⟩
    · rw [wI_1s, pk_un (by decide), wI_1s, pk_un (by decide), wI_1s, pk_un (by decide)]
      exact g1.1.1
    · rw [wI_1s, pk_un (by decide), wI_1s, pk_un (by decide), wI_1s, pk_us]
      rfl
    · cases hp
      refine ⟨?_, ?_⟩
      · rw [wI_1s, pk_un (by decide), wI_1s, pk_us]
      · rw [wI_1s, pk_us]
    · rw [wI_1s, pk_un (by decide), wI_1s, pk_un (by decide), wI_1s, pk_un (by decide)]
      exact g1.1.2.2.2.1
    · rw [wI_1s, pk_un (by decide), wI_1s, pk_un (by decide), wI_1s, pk_un (by decide)]
      exact g1.1.2.2.2.2
  · have hw := b1_0 h4
    refine g_iconst (pc := 7) C d_Rep_openJournal_7 ic_0 ?_
    refine g_zret (pc := 8) C d_Rep_openJournal_8 (by first | exact Or.inl rfl | exact Or.inr rfl) ?_
    rw [begn_f hw]
    exact ⟨c1, rfl, by rw [b1_f (fun e => by cases e)], g1, s1⟩
set_option maxRecDepth 100000 in
set_option maxHeartbeats 4000000 in
theorem x_Rep_removeJournal (l : Launch) {D : Dt} (hD : OkD D) {r : Nat} {c : Cs} {τ : Cs × (Nat → Int64)} {R : Rp} (hr : r < 2) (h : RepIs c r R) (hd : R.dwn = false) (hf : R.fai ≤ 100) : Cp l D y_Rep_removeJournal b_Rep_removeJournal 1 (some .boolean) 2 [.ref (aRep D r)] ((c, τ) : Sg) (fun a u => ∃ c2, u = ((c2, τ) : Sg) ∧ a = some (.int (b1 ((fini R).1 = true))) ∧ RepIs c2 r (fini R).2 ∧ Sm (Ci (20 + r)) c c2) := by
  refine Cp.of hD (by decide) (Nat.le_of_ble_eq_true rfl) [(0, some (.ref (aRep D r)))] rfl (fun X hX C => ?_)
  subst hX
  refine g_aload_n (pc := 0) (i := 0) C d_Rep_removeJournal_0 rfl rfl ?_
  refine g_callVp (pc := 1) (As := []) C my_Rep_mayWrite mv_Rep_mayWrite cl_Rep_58 (is_Rep (by omega)) d_Rep_removeJournal_1 (Nat.le_of_ble_eq_true rfl) rfl (Nat.le_of_ble_eq_true rfl) ⟨Nat.zero_le _, Nat.zero_le _⟩ (x_Rep_mayWrite _ hD (by omega) h hd hf) (fun r1 u1 hp1 => ?_)
  obtain ⟨c1, rfl, rfl, g1, s1⟩ := hp1
  refine g_if_ne (pc := 4) (tgt := 9) C d_Rep_removeJournal_4 (by decide) (fun h4 => ?_) (fun h4 => ?_)
  · have hw := b1_1 h4
    refine g_aload_n (pc := 9) (i := 0) C d_Rep_removeJournal_9 rfl rfl ?_
    refine g_iconst (pc := 10) C d_Rep_removeJournal_10 ic_0 ?_
    refine gp_Rep_journal (pc := 11) C (by omega) (by first | exact Or.inl rfl | exact Or.inr rfl) fl_Rep_31 d_Rep_removeJournal_11 ?_
    refine g_iconst (pc := 14) C d_Rep_removeJournal_14 ic_1 ?_
    refine g_zret (pc := 15) C d_Rep_removeJournal_15 (by first | exact Or.inl rfl | exact Or.inr rfl) ?_
    rw [fini_t hw]
    refine ⟨_, rfl, by rw [b1_t rfl], ?_, s1.tr sm_c1⟩
    refine g1.fs hr sm_c1 ?_ rfl g1.2.2.1 (fun _ _ h => h)
    refine ⟨?_, ?_, fun p hp => ?_, ?_, ?_⟩
    · rw [wI_1s, pk_un (by decide)]
      exact g1.1.1
    · rw [wI_1s, pk_us]
      rfl
    · cases hp
    · rw [wI_1s, pk_un (by decide)]
      exact g1.1.2.2.2.1
    · rw [wI_1s, pk_un (by decide)]
      exact g1.1.2.2.2.2
  · have hw := b1_0 h4
    refine g_iconst (pc := 7) C d_Rep_removeJournal_7 ic_0 ?_
    refine g_zret (pc := 8) C d_Rep_removeJournal_8 (by first | exact Or.inl rfl | exact Or.inr rfl) ?_
    rw [fini_f hw]
    exact ⟨c1, rfl, by rw [b1_f (fun e => by cases e)], g1, s1⟩
