theorem i32_1 : (1 : Int32).toInt = 1 := by decide +kernel
theorem nI_at {k : Int32} {n : Nat} (h : 0 ≤ k ∧ k < nI n) (hn : n < 2 ^ 31) : ∃ i, i < n ∧ k = nI i := by
  rcases pk_ix k hn with h1 | h1 | h1
  · exact absurd h1 (Int32.not_lt.mpr h.1)
  · exact absurd h1 (Int32.not_le.mpr h.2)
  · exact h1
set_option maxRecDepth 100000 in
set_option maxHeartbeats 4000000 in
theorem c_Row_has (l : Launch) {D : Dt} (hD : OkD D) {j : Nat} {c : Cs} {τ : Cs × (Nat → Int64)} {k : Int32} (hj : j < 9) : Ct l D y_Row_has b_Row_has 2 (some .boolean) 1 [.int k, .ref (aRow D j)] ((c, τ) : Sg) (some (.int (b1 (0 ≤ k ∧ k < c.1 (1 + j) 0)))) ((c, τ) : Sg) := by
  refine Ct.of hD (by decide) (Nat.le_of_ble_eq_true rfl) [(0, some (.ref (aRow D j))), (1, some (.int k))] rfl (fun X hX C => ?_)
  subst hX
  refine g_iload_n (pc := 0) (i := 1) C d_Row_has_0 rfl rfl ?_
  refine g_if_lt (pc := 1) (tgt := 16) C d_Row_has_1 (by decide) (fun h1 => ?_) (fun h1 => ?_)
  · skip
    refine g_iconst (pc := 16) C d_Row_has_16 ic_0 ?_
    refine g_zret (pc := 17) C d_Row_has_17 (by first | exact Or.inl rfl | exact Or.inr rfl) ?_
    refine ⟨congrArg (fun v => some (Value.int v)) ?_, rfl⟩
    first | exact (b1_t (by constructor <;> (simp only [Int32.lt_iff_toInt_lt, Int32.le_iff_toInt_le, Int32.toInt_zero, i32_1] at *; omega))).symm | exact (b1_f (by intro h; obtain ⟨ha, hb⟩ := h; (simp only [Int32.lt_iff_toInt_lt, Int32.le_iff_toInt_le, Int32.toInt_zero, i32_1] at *; omega))).symm
  · skip
    refine g_iload_n (pc := 4) (i := 1) C d_Row_has_4 rfl rfl ?_
    refine g_aload_n (pc := 5) (i := 0) C d_Row_has_5 rfl rfl ?_
    refine gf_Row_length (pc := 6) C (by omega) fl_Row_13 d_Row_has_6 ?_
    refine g_icmp_ge (pc := 9) (tgt := 16) C d_Row_has_9 (by decide) (fun h9 => ?_) (fun h9 => ?_)
    · skip
      refine g_iconst (pc := 16) C d_Row_has_16 ic_0 ?_
      refine g_zret (pc := 17) C d_Row_has_17 (by first | exact Or.inl rfl | exact Or.inr rfl) ?_
      refine ⟨congrArg (fun v => some (Value.int v)) ?_, rfl⟩
      first | exact (b1_t (by constructor <;> (simp only [Int32.lt_iff_toInt_lt, Int32.le_iff_toInt_le, Int32.toInt_zero, i32_1] at *; omega))).symm | exact (b1_f (by intro h; obtain ⟨ha, hb⟩ := h; (simp only [Int32.lt_iff_toInt_lt, Int32.le_iff_toInt_le, Int32.toInt_zero, i32_1] at *; omega))).symm
    · skip
      refine g_iconst (pc := 12) C d_Row_has_12 ic_1 ?_
      refine g_goto (pc := 13) (tgt := 17) C d_Row_has_13 (by decide) ?_
      refine g_zret (pc := 17) C d_Row_has_17 (by first | exact Or.inl rfl | exact Or.inr rfl) ?_
      refine ⟨congrArg (fun v => some (Value.int v)) ?_, rfl⟩
      first | exact (b1_t (by constructor <;> (simp only [Int32.lt_iff_toInt_lt, Int32.le_iff_toInt_le, Int32.toInt_zero, i32_1] at *; omega))).symm | exact (b1_f (by intro h; obtain ⟨ha, hb⟩ := h; (simp only [Int32.lt_iff_toInt_lt, Int32.le_iff_toInt_le, Int32.toInt_zero, i32_1] at *; omega))).symm
set_option maxRecDepth 100000 in
set_option maxHeartbeats 4000000 in
theorem c_Row_hasRoomFor (l : Launch) {D : Dt} (hD : OkD D) {j : Nat} {c : Cs} {τ : Cs × (Nat → Int64)} {k : Int32} (hj : j < 9) : Ct l D y_Row_hasRoomFor b_Row_hasRoomFor 2 (some .boolean) 1 [.int k, .ref (aRow D j)] ((c, τ) : Sg) (some (.int (b1 (0 ≤ k ∧ k ≤ nI (rln j) - c.1 (1 + j) 0)))) ((c, τ) : Sg) := by
  refine Ct.of hD (by decide) (Nat.le_of_ble_eq_true rfl) [(0, some (.ref (aRow D j))), (1, some (.int k))] rfl (fun X hX C => ?_)
  subst hX
  refine g_iload_n (pc := 0) (i := 1) C d_Row_hasRoomFor_0 rfl rfl ?_
  refine g_if_lt (pc := 1) (tgt := 22) C d_Row_hasRoomFor_1 (by decide) (fun h1 => ?_) (fun h1 => ?_)
  · skip
    refine g_iconst (pc := 22) C d_Row_hasRoomFor_22 ic_0 ?_
    refine g_zret (pc := 23) C d_Row_hasRoomFor_23 (by first | exact Or.inl rfl | exact Or.inr rfl) ?_
    refine ⟨congrArg (fun v => some (Value.int v)) ?_, rfl⟩
    first | exact (b1_t (by constructor <;> (simp only [Int32.lt_iff_toInt_lt, Int32.le_iff_toInt_le, Int32.toInt_zero, i32_1] at *; omega))).symm | exact (b1_f (by intro h; obtain ⟨ha, hb⟩ := h; (simp only [Int32.lt_iff_toInt_lt, Int32.le_iff_toInt_le, Int32.toInt_zero, i32_1] at *; omega))).symm
  · skip
    refine g_iload_n (pc := 4) (i := 1) C d_Row_hasRoomFor_4 rfl rfl ?_
    refine g_aload_n (pc := 5) (i := 0) C d_Row_hasRoomFor_5 rfl rfl ?_
    refine gf_Row_codes (pc := 6) C (by omega) fl_Row_7 d_Row_hasRoomFor_6 ?_
    refine gl_row (pc := 9) C (by omega) d_Row_hasRoomFor_9 ?_
    refine g_aload_n (pc := 10) (i := 0) C d_Row_hasRoomFor_10 rfl rfl ?_
    refine gf_Row_length (pc := 11) C (by omega) fl_Row_13 d_Row_hasRoomFor_11 ?_
    refine g_isub (pc := 14) C d_Row_hasRoomFor_14 ?_
    refine g_icmp_gt (pc := 15) (tgt := 22) C d_Row_hasRoomFor_15 (by decide) (fun h15 => ?_) (fun h15 => ?_)
    · skip
      refine g_iconst (pc := 22) C d_Row_hasRoomFor_22 ic_0 ?_
      refine g_zret (pc := 23) C d_Row_hasRoomFor_23 (by first | exact Or.inl rfl | exact Or.inr rfl) ?_
      refine ⟨congrArg (fun v => some (Value.int v)) ?_, rfl⟩
      first | exact (b1_t (by constructor <;> (simp only [Int32.lt_iff_toInt_lt, Int32.le_iff_toInt_le, Int32.toInt_zero, i32_1] at *; omega))).symm | exact (b1_f (by intro h; obtain ⟨ha, hb⟩ := h; (simp only [Int32.lt_iff_toInt_lt, Int32.le_iff_toInt_le, Int32.toInt_zero, i32_1] at *; omega))).symm
    · skip
      refine g_iconst (pc := 18) C d_Row_hasRoomFor_18 ic_1 ?_
      refine g_goto (pc := 19) (tgt := 23) C d_Row_hasRoomFor_19 (by decide) ?_
      refine g_zret (pc := 23) C d_Row_hasRoomFor_23 (by first | exact Or.inl rfl | exact Or.inr rfl) ?_
      refine ⟨congrArg (fun v => some (Value.int v)) ?_, rfl⟩
      first | exact (b1_t (by constructor <;> (simp only [Int32.lt_iff_toInt_lt, Int32.le_iff_toInt_le, Int32.toInt_zero, i32_1] at *; omega))).symm | exact (b1_f (by intro h; obtain ⟨ha, hb⟩ := h; (simp only [Int32.lt_iff_toInt_lt, Int32.le_iff_toInt_le, Int32.toInt_zero, i32_1] at *; omega))).symm
def cutC (c : Cs) (j : Nat) (k : Int32) : Cs := if 0 ≤ k ∧ k < c.1 (1 + j) 0 then wI c (1 + j) 0 k else c
set_option maxRecDepth 100000 in
set_option maxHeartbeats 4000000 in
theorem c_Row_cut (l : Launch) {D : Dt} (hD : OkD D) {j : Nat} {c : Cs} {τ : Cs × (Nat → Int64)} {k : Int32} (hj : j < 9) : Ct l D y_Row_cut b_Row_cut 2 none 1 [.int k, .ref (aRow D j)] ((c, τ) : Sg) (none) ((cutC c j k, τ) : Sg) := by
  refine Ct.of hD (by decide) (Nat.le_of_ble_eq_true rfl) [(0, some (.ref (aRow D j))), (1, some (.int k))] rfl (fun X hX C => ?_)
  subst hX
  refine g_iload_n (pc := 0) (i := 1) C d_Row_cut_0 rfl rfl ?_
  refine g_if_lt (pc := 1) (tgt := 17) C d_Row_cut_1 (by decide) (fun h1 => ?_) (fun h1 => ?_)
  · skip
    refine g_vret (pc := 17) C d_Row_cut_17 ?_
    refine ⟨rfl, ?_⟩
    unfold cutC
    first | exact (congrArg (fun q => (q, τ)) (if_pos (by constructor <;> (simp only [Int32.lt_iff_toInt_lt, Int32.le_iff_toInt_le, Int32.toInt_zero, i32_1] at *; omega)))).symm | exact (congrArg (fun q => (q, τ)) (if_neg (by intro h; obtain ⟨ha, hb⟩ := h; (simp only [Int32.lt_iff_toInt_lt, Int32.le_iff_toInt_le, Int32.toInt_zero, i32_1] at *; omega)))).symm
  · skip
    refine g_iload_n (pc := 4) (i := 1) C d_Row_cut_4 rfl rfl ?_
    refine g_aload_n (pc := 5) (i := 0) C d_Row_cut_5 rfl rfl ?_
    refine gf_Row_length (pc := 6) C (by omega) fl_Row_13 d_Row_cut_6 ?_
    refine g_icmp_ge (pc := 9) (tgt := 17) C d_Row_cut_9 (by decide) (fun h9 => ?_) (fun h9 => ?_)
    · skip
      refine g_vret (pc := 17) C d_Row_cut_17 ?_
      refine ⟨rfl, ?_⟩
      unfold cutC
      first | exact (congrArg (fun q => (q, τ)) (if_pos (by constructor <;> (simp only [Int32.lt_iff_toInt_lt, Int32.le_iff_toInt_le, Int32.toInt_zero, i32_1] at *; omega)))).symm | exact (congrArg (fun q => (q, τ)) (if_neg (by intro h; obtain ⟨ha, hb⟩ := h; (simp only [Int32.lt_iff_toInt_lt, Int32.le_iff_toInt_le, Int32.toInt_zero, i32_1] at *; omega)))).symm
    · skip
      refine g_aload_n (pc := 12) (i := 0) C d_Row_cut_12 rfl rfl ?_
      refine g_iload_n (pc := 13) (i := 1) C d_Row_cut_13 rfl rfl ?_
      refine gp_Row_length (pc := 14) C (by omega) fl_Row_13 d_Row_cut_14 ?_
      refine g_vret (pc := 17) C d_Row_cut_17 ?_
      refine ⟨rfl, ?_⟩
      unfold cutC
      first | exact (congrArg (fun q => (q, τ)) (if_pos (by constructor <;> (simp only [Int32.lt_iff_toInt_lt, Int32.le_iff_toInt_le, Int32.toInt_zero, i32_1] at *; omega)))).symm | exact (congrArg (fun q => (q, τ)) (if_neg (by intro h; obtain ⟨ha, hb⟩ := h; (simp only [Int32.lt_iff_toInt_lt, Int32.le_iff_toInt_le, Int32.toInt_zero, i32_1] at *; omega)))).symm
def atC (c : Cs) (j : Nat) (k : Int32) : Int32 := if 0 ≤ k ∧ k < c.1 (1 + j) 0 then c.1 (10 + j) k.toNatClampNeg else 0
set_option maxRecDepth 100000 in
set_option maxHeartbeats 4000000 in
theorem c_Row_at (l : Launch) {D : Dt} (hD : OkD D) {j : Nat} {c : Cs} {τ : Cs × (Nat → Int64)} {k : Int32} {n : Nat} (hj : j < 9) (hn : c.1 (1 + j) 0 = nI n) (hc : n ≤ rln j) : Ct l D y_Row_at b_Row_at 2 (some .int) 2 [.int k, .ref (aRow D j)] ((c, τ) : Sg) (some (.int (atC c j k))) ((c, τ) : Sg) := by
  refine Ct.of hD (by decide) (Nat.le_of_ble_eq_true rfl) [(0, some (.ref (aRow D j))), (1, some (.int k))] rfl (fun X hX C => ?_)
  subst hX
  refine g_aload_n (pc := 0) (i := 0) C d_Row_at_0 rfl rfl ?_
  refine g_iload_n (pc := 1) (i := 1) C d_Row_at_1 rfl rfl ?_
  refine g_callV1 (pc := 2) (As := [_]) C my_Row_has mv_Row_has cl_Row_17 (is_Row (by omega)) d_Row_at_2 (Nat.le_of_ble_eq_true rfl) rfl (Nat.le_of_ble_eq_true rfl) ⟨Nat.zero_le _, Nat.zero_le _⟩ (c_Row_has _ hD (by omega)) ?_
  refine g_if_eq (pc := 5) (tgt := 17) C d_Row_at_5 (by decide) (fun h5 => ?_) (fun h5 => ?_)
  · have hb := b1_0 h5
    refine g_iconst (pc := 17) C d_Row_at_17 ic_0 ?_
    refine g_iret (pc := 18) C d_Row_at_18 ?_
    refine ⟨congrArg (fun v => some (Value.int v)) ?_, rfl⟩
    unfold atC
    first | rw [if_pos hb] | rw [if_neg hb]
  · have hb := b1_1 h5
    obtain ⟨i, hi, rfl⟩ := nI_at (n := n) (by rw [← hn]; exact b1_1 h5) (by have := rln_le j; omega)
    refine g_aload_n (pc := 8) (i := 0) C d_Row_at_8 rfl rfl ?_
    refine gf_Row_codes (pc := 9) C (by omega) fl_Row_7 d_Row_at_9 ?_
    refine g_iload_n (pc := 12) (i := 1) C d_Row_at_12 rfl rfl ?_
    refine ga_row (pc := 13) C (by omega) (vp_in_nI (Nat.lt_of_lt_of_le hi hc) (by have := rln_le j; omega)) d_Row_at_13 ?_
    refine g_goto (pc := 14) (tgt := 18) C d_Row_at_14 (by decide) ?_
    refine g_iret (pc := 18) C d_Row_at_18 ?_
    refine ⟨congrArg (fun v => some (Value.int v)) ?_, rfl⟩
    unfold atC
    first | rw [if_pos hb] | rw [if_neg hb]
set_option maxRecDepth 100000 in
set_option maxHeartbeats 4000000 in
theorem c_Row_flip (l : Launch) {D : Dt} (hD : OkD D) {j : Nat} {c : Cs} {τ : Cs × (Nat → Int64)} {k x : Int32} {n : Nat} (hj : j < 9) (hn : c.1 (1 + j) 0 = nI n) (hc : n ≤ rln j) : Ct l D y_Row_flip b_Row_flip 3 none 2 [.int x, .int k, .ref (aRow D j)] ((c, τ) : Sg) (none) ((if 0 ≤ k ∧ k < c.1 (1 + j) 0 then wI c (10 + j) k.toNatClampNeg (c.1 (10 + j) k.toNatClampNeg ^^^ x) else c, τ) : Sg) := by
  refine Ct.of hD (by decide) (Nat.le_of_ble_eq_true rfl) [(0, some (.ref (aRow D j))), (1, some (.int k)), (2, some (.int x))] rfl (fun X hX C => ?_)
  subst hX
  refine g_aload_n (pc := 0) (i := 0) C d_Row_flip_0 rfl rfl ?_
  refine g_iload_n (pc := 1) (i := 1) C d_Row_flip_1 rfl rfl ?_
  refine g_callV1 (pc := 2) (As := [_]) C my_Row_has mv_Row_has cl_Row_17 (is_Row (by omega)) d_Row_flip_2 (Nat.le_of_ble_eq_true rfl) rfl (Nat.le_of_ble_eq_true rfl) ⟨Nat.zero_le _, Nat.zero_le _⟩ (c_Row_has _ hD (by omega)) ?_
  refine g_if_eq (pc := 5) (tgt := 18) C d_Row_flip_5 (by decide) (fun h5 => ?_) (fun h5 => ?_)
  · have hb := b1_0 h5
    refine g_vret (pc := 18) C d_Row_flip_18 ?_
    refine ⟨rfl, ?_⟩
    first | rw [if_pos hb] | rw [if_neg hb]
  · have hb := b1_1 h5
    obtain ⟨i, hi, rfl⟩ := nI_at (n := n) (by rw [← hn]; exact b1_1 h5) (by have := rln_le j; omega)
    refine g_aload_n (pc := 8) (i := 0) C d_Row_flip_8 rfl rfl ?_
    refine gf_Row_codes (pc := 9) C (by omega) fl_Row_7 d_Row_flip_9 ?_
    refine g_iload_n (pc := 12) (i := 1) C d_Row_flip_12 rfl rfl ?_
    refine g_dup2 (pc := 13) C d_Row_flip_13 rfl rfl ?_
    refine ga_row (pc := 14) C (by omega) (vp_in_nI (Nat.lt_of_lt_of_le hi hc) (by have := rln_le j; omega)) d_Row_flip_14 ?_
    refine g_iload_n (pc := 15) (i := 2) C d_Row_flip_15 rfl rfl ?_
    refine g_ixor (pc := 16) C d_Row_flip_16 ?_
    refine gs_row (pc := 17) C (by omega) (vp_in_nI (Nat.lt_of_lt_of_le hi hc) (by have := rln_le j; omega)) d_Row_flip_17 ?_
    refine g_vret (pc := 18) C d_Row_flip_18 ?_
    refine ⟨rfl, ?_⟩
    first | rw [if_pos hb] | rw [if_neg hb]
theorem rm_1 {n N : Nat} (hc : n ≤ N) (hN : N ≤ 600) : (0 ≤ (1 : Int32) ∧ (1 : Int32) ≤ nI N - nI n) ↔ n < N := by
  have h1 : nI N - nI n = nI (N - n) := pk_sub hc
  rw [h1]
  have h2 := nI_toInt (n := N - n) (by omega)
  constructor
  · intro h
    have h3 := Int32.le_iff_toInt_le.mp h.2
    rw [h2, i32_1] at h3
    omega
  · intro h
    refine ⟨by decide, Int32.le_iff_toInt_le.mpr ?_⟩
    rw [h2, i32_1]
    omega
def addC (c : Cs) (j n : Nat) (v : Int32) : Cs := wI (wI c (10 + j) n v) (1 + j) 0 (nI (n + 1))
set_option maxRecDepth 100000 in
set_option maxHeartbeats 4000000 in
theorem c_Row_add (l : Launch) {D : Dt} (hD : OkD D) {j : Nat} {c : Cs} {τ : Cs × (Nat → Int64)} {v : Int32} {n : Nat} (hj : j < 9) (hn : c.1 (1 + j) 0 = nI n) (hc : n ≤ rln j) : Ct l D y_Row_add b_Row_add 2 (some .boolean) 2 [.int v, .ref (aRow D j)] ((c, τ) : Sg) (some (.int (b1 (n < rln j)))) ((if n < rln j then addC c j n v else c, τ) : Sg) := by
  refine Ct.of hD (by decide) (Nat.le_of_ble_eq_true rfl) [(0, some (.ref (aRow D j))), (1, some (.int v))] rfl (fun X hX C => ?_)
  subst hX
  refine g_aload_n (pc := 0) (i := 0) C d_Row_add_0 rfl rfl ?_
  refine g_iconst (pc := 1) C d_Row_add_1 ic_1 ?_
  refine g_callV1 (pc := 2) (As := [_]) C my_Row_hasRoomFor mv_Row_hasRoomFor cl_Row_21 (is_Row (by omega)) d_Row_add_2 (Nat.le_of_ble_eq_true rfl) rfl (Nat.le_of_ble_eq_true rfl) ⟨Nat.zero_le _, Nat.zero_le _⟩ (c_Row_hasRoomFor _ hD (by omega)) ?_
  refine g_if_ne (pc := 5) (tgt := 10) C d_Row_add_5 (by decide) (fun h5 => ?_) (fun h5 => ?_)
  · have hb := (rm_1 hc (rln_le j)).mp (by rw [← hn]; exact b1_1 h5)
    refine g_aload_n (pc := 10) (i := 0) C d_Row_add_10 rfl rfl ?_
    refine gf_Row_codes (pc := 11) C (by omega) fl_Row_7 d_Row_add_11 ?_
    refine g_aload_n (pc := 14) (i := 0) C d_Row_add_14 rfl rfl ?_
    refine gf_Row_length (pc := 15) C (by omega) fl_Row_13 d_Row_add_15 ?_
    rw [hn]
    refine g_iload_n (pc := 18) (i := 1) C d_Row_add_18 rfl rfl ?_
    refine gs_row (pc := 19) C (by omega) (vp_in_nI hb (by have := rln_le j; omega)) d_Row_add_19 ?_
    rw [nI_clamp (by have := rln_le j; omega)]
    refine g_aload_n (pc := 20) (i := 0) C d_Row_add_20 rfl rfl ?_
    refine g_dup (pc := 21) C d_Row_add_21 rfl ?_
    refine gf_Row_length (pc := 22) C (by omega) fl_Row_13 d_Row_add_22 ?_
    rw [wI_1n (by omega), hn]
    refine g_iconst (pc := 25) C d_Row_add_25 ic_1 ?_
    refine g_iadd (pc := 26) C d_Row_add_26 ?_
    rw [nI_1]
    refine gp_Row_length (pc := 27) C (by omega) fl_Row_13 d_Row_add_27 ?_
    refine g_iconst (pc := 30) C d_Row_add_30 ic_1 ?_
    refine g_zret (pc := 31) C d_Row_add_31 (by first | exact Or.inl rfl | exact Or.inr rfl) ?_
    refine ⟨congrArg (fun v => some (Value.int v)) ?_, ?_⟩
    · first | exact (b1_t hb).symm | exact (b1_f hb).symm
    · first | rw [if_pos hb]; rfl | rw [if_neg hb]
  · have hb : ¬ n < rln j := fun h => b1_0 h5 (by rw [hn]; exact (rm_1 hc (rln_le j)).mpr h)
    refine g_iconst (pc := 8) C d_Row_add_8 ic_0 ?_
    refine g_zret (pc := 9) C d_Row_add_9 (by first | exact Or.inl rfl | exact Or.inr rfl) ?_
    refine ⟨congrArg (fun v => some (Value.int v)) ?_, ?_⟩
    · first | exact (b1_t hb).symm | exact (b1_f hb).symm
    · first | rw [if_pos hb]; rfl | rw [if_neg hb]
theorem rm_k {n N k : Nat} (hc : n ≤ N) (hN : N ≤ 600) (hk : k < 2 ^ 20) : (0 ≤ nI k ∧ nI k ≤ nI N - nI n) ↔ n + k ≤ N := by
  rw [pk_sub hc, nI_leI (by omega) (by omega)]
  constructor
  · intro h
    have := h.2
    omega
  · intro h
    exact ⟨nI_pos' (by omega), by omega⟩
theorem le_sub {m f k : Nat} (hm : m < 2 ^ 20) (hf : f < 2 ^ 20) (hk : k < 2 ^ 20) : nI k ≤ nI m - nI f ↔ f + k ≤ m := by
  rw [Int32.le_iff_toInt_le, pk_sub_toInt (by omega) (by omega), nI_toInt (by omega)]
  omega
def adpC (c : Cs) (i j f k n : Nat) : Cs := wI (wA c (10 + j) (va_cpy (c.1 (10 + i)) (c.1 (10 + j)) f n k)) (1 + j) 0 (nI (n + k))
set_option maxRecDepth 100000 in
set_option maxHeartbeats 4000000 in
theorem c_Row_addPart (l : Launch) {D : Dt} (hD : OkD D) {j : Nat} {c : Cs} {τ : Cs × (Nat → Int64)} {i n m f k : Nat} (hj : j < 9) (hi : i < 9) (hn : c.1 (1 + j) 0 = nI n) (hc : n ≤ rln j) (hm : c.1 (1 + i) 0 = nI m) (hmc : m ≤ rln i) (hf : f < 2 ^ 20) (hk : k < 2 ^ 20) : Ct l D y_Row_addPart b_Row_addPart 4 (some .boolean) 2 [.int (nI k), .int (nI f), .ref (aRow D i), .ref (aRow D j)] ((c, τ) : Sg) (some (.int (b1 (n + k ≤ rln j ∧ f + k ≤ m)))) ((if n + k ≤ rln j ∧ f + k ≤ m then adpC c i j f k n else c, τ) : Sg) := by
  refine Ct.of hD (by decide) (Nat.le_of_ble_eq_true rfl) [(0, some (.ref (aRow D j))), (1, some (.ref (aRow D i))), (2, some (.int (nI f))), (3, some (.int (nI k)))] rfl (fun X hX C => ?_)
  subst hX
  have q1 := rln_le j
  have q2 := rln_le i
  refine g_aload_n (pc := 0) (i := 0) C d_Row_addPart_0 rfl rfl ?_
  refine g_iload_n (pc := 1) (i := 3) C d_Row_addPart_1 rfl rfl ?_
  refine g_callV1 (pc := 2) (As := [_]) C my_Row_hasRoomFor mv_Row_hasRoomFor cl_Row_21 (is_Row (by omega)) d_Row_addPart_2 (Nat.le_of_ble_eq_true rfl) rfl (Nat.le_of_ble_eq_true rfl) ⟨Nat.zero_le _, Nat.zero_le _⟩ (c_Row_hasRoomFor _ hD (by omega)) ?_
  refine g_if_eq (pc := 5) (tgt := 22) C d_Row_addPart_5 (by decide) (fun h5 => ?_) (fun h5 => ?_)
  · have hb : ¬ (n + k ≤ rln j ∧ f + k ≤ m) := fun h => b1_0 h5 (by rw [hn]; exact (rm_k hc q1 hk).mpr h.1)
    refine g_iconst (pc := 22) C d_Row_addPart_22 ic_0 ?_
    refine g_zret (pc := 23) C d_Row_addPart_23 (by first | exact Or.inl rfl | exact Or.inr rfl) ?_
    exact ⟨by rw [b1_f hb], by rw [if_neg hb]⟩
  · have ha : n + k ≤ rln j := (rm_k hc q1 hk).mp (by rw [← hn]; exact b1_1 h5)
    refine g_iload_n (pc := 8) (i := 2) C d_Row_addPart_8 rfl rfl ?_
    refine g_if_lt (pc := 9) (tgt := 22) C d_Row_addPart_9 (by decide) (fun h9 => ?_) (fun h9 => ?_)
    · first | exact absurd h9 (nI_pos (by omega)) | exact absurd (nI_pos (by omega)) h9
    · skip
      refine g_iload_n (pc := 12) (i := 3) C d_Row_addPart_12 rfl rfl ?_
      refine g_aload_n (pc := 13) (i := 1) C d_Row_addPart_13 rfl rfl ?_
      refine gf_Row_length (pc := 14) C (by omega) fl_Row_13 d_Row_addPart_14 ?_
      rw [hm]
      refine g_iload_n (pc := 17) (i := 2) C d_Row_addPart_17 rfl rfl ?_
      refine g_isub (pc := 18) C d_Row_addPart_18 ?_
      refine g_icmp_le (pc := 19) (tgt := 24) C d_Row_addPart_19 (by decide) (fun h19 => ?_) (fun h19 => ?_)
      · have hb : n + k ≤ rln j ∧ f + k ≤ m := ⟨ha, (le_sub (by omega) hf hk).mp h19⟩
        refine g_aload_n (pc := 24) (i := 1) C d_Row_addPart_24 rfl rfl ?_
        refine gf_Row_codes (pc := 25) C (by omega) fl_Row_7 d_Row_addPart_25 ?_
        refine g_iload_n (pc := 28) (i := 2) C d_Row_addPart_28 rfl rfl ?_
        refine g_aload_n (pc := 29) (i := 0) C d_Row_addPart_29 rfl rfl ?_
        refine gf_Row_codes (pc := 30) C (by omega) fl_Row_7 d_Row_addPart_30 ?_
        refine g_aload_n (pc := 33) (i := 0) C d_Row_addPart_33 rfl rfl ?_
        refine gf_Row_length (pc := 34) C (by omega) fl_Row_13 d_Row_addPart_34 ?_
        rw [hn]
        refine g_iload_n (pc := 37) (i := 3) C d_Row_addPart_37 rfl rfl ?_
        refine g_copy (pc := 38) C (by omega) (by omega) (by omega) (by omega) jl_Row_30 d_Row_addPart_38 (by decide) (Nat.le_of_ble_eq_true rfl) ?_
        refine g_aload_n (pc := 41) (i := 0) C d_Row_addPart_41 rfl rfl ?_
        refine g_dup (pc := 42) C d_Row_addPart_42 rfl ?_
        refine gf_Row_length (pc := 43) C (by omega) fl_Row_13 d_Row_addPart_43 ?_
        rw [wA_1n (by omega), hn]
        refine g_iload_n (pc := 46) (i := 3) C d_Row_addPart_46 rfl rfl ?_
        refine g_iadd (pc := 47) C d_Row_addPart_47 ?_
        rw [nI_add]
        refine gp_Row_length (pc := 48) C (by omega) fl_Row_13 d_Row_addPart_48 ?_
        refine g_iconst (pc := 51) C d_Row_addPart_51 ic_1 ?_
        refine g_zret (pc := 52) C d_Row_addPart_52 (by first | exact Or.inl rfl | exact Or.inr rfl) ?_
        exact ⟨by rw [b1_t hb], by rw [if_pos hb]; rfl⟩
      · have hb : ¬ (n + k ≤ rln j ∧ f + k ≤ m) := fun h => h19 ((le_sub (by omega) hf hk).mpr h.2)
        refine g_iconst (pc := 22) C d_Row_addPart_22 ic_0 ?_
        refine g_zret (pc := 23) C d_Row_addPart_23 (by first | exact Or.inl rfl | exact Or.inr rfl) ?_
        exact ⟨by rw [b1_f hb], by rw [if_neg hb]⟩
set_option maxRecDepth 100000 in
set_option maxHeartbeats 4000000 in
theorem c_JA_rangeCheck (l : Launch) {D : Dt} (hD : OkD D) {N a b : Nat} {σ : Sg} (hab : a ≤ b) (hb : b ≤ N) (hN : N ≤ 600) : Ct l D y_JA_rangeCheck b_JA_rangeCheck 3 none 1 [.int (nI b), .int (nI a), .int (nI N)] σ (none) σ := by
  refine Ct.of hD (by decide) (Nat.le_of_ble_eq_true rfl) [(0, some (.int (nI N))), (1, some (.int (nI a))), (2, some (.int (nI b)))] rfl (fun X hX C => ?_)
  subst hX
  refine g_iload_n (pc := 0) (i := 1) C d_JA_rangeCheck_0 rfl rfl ?_
  refine g_iload_n (pc := 1) (i := 2) C d_JA_rangeCheck_1 rfl rfl ?_
  refine g_icmp_le (pc := 2) (tgt := 46) C d_JA_rangeCheck_2 (by decide) (fun h2 => ?_) (fun h2 => ?_)
  · skip
    refine g_iload_n (pc := 46) (i := 1) C d_JA_rangeCheck_46 rfl rfl ?_
    refine g_if_ge (pc := 47) (tgt := 59) C d_JA_rangeCheck_47 (by decide) (fun h47 => ?_) (fun h47 => ?_)
    · skip
      refine g_iload_n (pc := 59) (i := 2) C d_JA_rangeCheck_59 rfl rfl ?_
      refine g_iload_n (pc := 60) (i := 0) C d_JA_rangeCheck_60 rfl rfl ?_
      refine g_icmp_le (pc := 61) (tgt := 73) C d_JA_rangeCheck_61 (by decide) (fun h61 => ?_) (fun h61 => ?_)
      · skip
        refine g_vret (pc := 73) C d_JA_rangeCheck_73 ?_
        exact ⟨rfl, rfl⟩
      · first | exact absurd h61 (nI_le hb (by omega)) | exact absurd (nI_le hb (by omega)) h61
    · first | exact absurd h47 (nI_pos' (by omega)) | exact absurd (nI_pos' (by omega)) h47
  · first | exact absurd h2 (nI_le hab (by omega)) | exact absurd (nI_le hab (by omega)) h2
def fil (g : Nat → Int32) (a i : Nat) (v : Int32) : Nat → Int32 := fun q => if a ≤ q ∧ q < i then v else g q
theorem fil_0 (g : Nat → Int32) (a : Nat) (v : Int32) : fil g a a v = g := by
  funext q
  unfold fil
  rw [if_neg (by omega)]
theorem fil_s (g : Nat → Int32) {a i : Nat} (h : a ≤ i) (v : Int32) : upd (fil g a i v) i v = fil g a (i + 1) v := by
  funext q
  unfold fil upd
  by_cases hq : q = i
  · subst hq
    rw [if_pos rfl, if_pos (by omega)]
  · rw [if_neg hq]
    show (if a ≤ q ∧ q < i then v else g q) = _
    by_cases h2 : a ≤ q ∧ q < i
    · rw [if_pos h2, if_pos (by omega)]
    · rw [if_neg h2, if_neg (by omega)]
theorem wA_id (c : Cs) (i : Nat) : wA c i (c.1 i) = c := by
  unfold wA upA
  refine Prod.ext ?_ rfl
  funext a
  by_cases h : a = i
  · subst h
    simp
  · simp [h]
theorem wI_wA (c : Cs) (i k : Nat) (g : Nat → Int32) (v : Int32) : wI (wA c i g) i k v = wA c i (upd g k v) := by
  unfold wI wA upA
  refine Prod.ext ?_ rfl
  funext a
  by_cases h : a = i
  · subst h
    simp
  · simp [h]
set_option maxRecDepth 100000 in
set_option maxHeartbeats 4000000 in
theorem c_JA_fill (l : Launch) {D : Dt} (hD : OkD D) {j : Nat} {c : Cs} {τ : Cs × (Nat → Int64)} {a b : Nat} {v : Int32} (hj : j < 9) (hab : a ≤ b) (hb : b ≤ rln j) : Ct l D y_JA_fill b_JA_fill 5 none 2 [.int v, .int (nI b), .int (nI a), .ref (aArr D j)] ((c, τ) : Sg) (none) ((wA c (10 + j) (fil (c.1 (10 + j)) a b v), τ) : Sg) := by
  have q1 := rln_le j
  refine Ct.of hD (by decide) (Nat.le_of_ble_eq_true rfl) [(0, some (.ref (aArr D j))), (1, some (.int (nI a))), (2, some (.int (nI b))), (3, some (.int v))] rfl (fun X hX C => ?_)
  subst hX
  have loop : ∀ (k i : Nat), i + k = b → a ≤ i → G X D (Qp X D (fun r2 u => r2 = none ∧ u = ((wA c (10 + j) (fil (c.1 (10 + j)) a b v), τ) : Sg))) (0, 0) ((wA c (10 + j) (fil (c.1 (10 + j)) a i v), τ) : Sg) 10 [(0, some (.ref (aArr D j))), (2, some (.int (nI b))), (3, some (.int v)), (4, some (.int (nI i)))] [] := by
    intro k
    induction k with
    | zero =>
      intro i hi ha
      have hib : i = b := by omega
      subst hib
      refine g_iload (pc := 10) C d_JA_fill_10 rfl ?_
      refine g_iload_n (pc := 12) (i := 2) C d_JA_fill_12 rfl rfl ?_
      refine g_icmp_ge (pc := 13) (tgt := 27) C d_JA_fill_13 (by decide) (fun h13 => ?_) (fun h13 => ?_)
      · skip
        refine g_vret (pc := 27) C d_JA_fill_27 ?_
        exact ⟨rfl, rfl⟩
      · first | exact absurd h13 (nI_le (Nat.le_refl _) (by omega)) | exact absurd (nI_le (Nat.le_refl _) (by omega)) h13
    | succ k ih =>
      intro i hi ha
      refine g_iload (pc := 10) C d_JA_fill_10 rfl ?_
      refine g_iload_n (pc := 12) (i := 2) C d_JA_fill_12 rfl rfl ?_
      refine g_icmp_ge (pc := 13) (tgt := 27) C d_JA_fill_13 (by decide) (fun h13 => ?_) (fun h13 => ?_)
      · first | exact absurd h13 (nI_ge (show i < b by omega) (by omega)) | exact absurd (nI_ge (show i < b by omega) (by omega)) h13
      · skip
        refine g_aload_n (pc := 16) (i := 0) C d_JA_fill_16 rfl rfl ?_
        refine g_iload (pc := 17) C d_JA_fill_17 rfl ?_
        refine g_iload_n (pc := 19) (i := 3) C d_JA_fill_19 rfl rfl ?_
        refine gs_row (pc := 20) C (by omega) (vp_in_nI (by omega) (by omega)) d_JA_fill_20 ?_
        rw [nI_clamp (by omega), wI_wA, fil_s _ ha]
        refine g_iinc (pc := 21) C d_JA_fill_21 rfl (v := nI (i + 1)) (nI_inc i) rfl ?_
        refine g_goto (pc := 24) (tgt := 10) C d_JA_fill_24 (by decide) ?_
        exact G.lf (ih (i + 1) (by omega) (by omega)) (sb rfl (sb rfl (sb rfl (sb rfl sn))))
  refine g_aload_n (pc := 0) (i := 0) C d_JA_fill_0 rfl rfl ?_
  refine gl_row (pc := 1) C (by omega) d_JA_fill_1 ?_
  refine g_iload_n (pc := 2) (i := 1) C d_JA_fill_2 rfl rfl ?_
  refine g_iload_n (pc := 3) (i := 2) C d_JA_fill_3 rfl rfl ?_
  refine g_callS0 (pc := 4) (As := [_, _, _]) C my_JA_rangeCheck ms_JA_rangeCheck cl_JA_13 d_JA_fill_4 (Nat.le_of_ble_eq_true rfl) rfl (Nat.le_of_ble_eq_true rfl) ⟨Nat.zero_le _, Nat.zero_le _⟩ (c_JA_rangeCheck _ hD (by omega) (by omega) (by omega)) ?_
  refine g_iload_n (pc := 7) (i := 1) C d_JA_fill_7 rfl rfl ?_
  refine g_istore (pc := 8) C d_JA_fill_8 (by decide) rfl ?_
  have h0 := loop (b - a) a (by omega) (Nat.le_refl _)
  rw [fil_0, wA_id] at h0
  exact G.lf h0 (sb rfl (sb rfl (sb rfl (sb rfl sn))))
def arnC (c : Cs) (j n k : Nat) (v : Int32) : Cs := wI (wA c (10 + j) (fil (c.1 (10 + j)) n (n + k) v)) (1 + j) 0 (nI (n + k))
set_option maxRecDepth 100000 in
set_option maxHeartbeats 4000000 in
theorem c_Row_addRun (l : Launch) {D : Dt} (hD : OkD D) {j : Nat} {c : Cs} {τ : Cs × (Nat → Int64)} {n k : Nat} {v : Int32} (hj : j < 9) (hn : c.1 (1 + j) 0 = nI n) (hc : n ≤ rln j) (hk : k < 2 ^ 20) : Ct l D y_Row_addRun b_Row_addRun 3 (some .boolean) 3 [.int (nI k), .int v, .ref (aRow D j)] ((c, τ) : Sg) (some (.int (b1 (n + k ≤ rln j)))) ((if n + k ≤ rln j then arnC c j n k v else c, τ) : Sg) := by
  refine Ct.of hD (by decide) (Nat.le_of_ble_eq_true rfl) [(0, some (.ref (aRow D j))), (1, some (.int v)), (2, some (.int (nI k)))] rfl (fun X hX C => ?_)
  subst hX
  have q1 := rln_le j
  refine g_aload_n (pc := 0) (i := 0) C d_Row_addRun_0 rfl rfl ?_
  refine g_iload_n (pc := 1) (i := 2) C d_Row_addRun_1 rfl rfl ?_
  refine g_callV1 (pc := 2) (As := [_]) C my_Row_hasRoomFor mv_Row_hasRoomFor cl_Row_21 (is_Row (by omega)) d_Row_addRun_2 (Nat.le_of_ble_eq_true rfl) rfl (Nat.le_of_ble_eq_true rfl) ⟨Nat.zero_le _, Nat.zero_le _⟩ (c_Row_hasRoomFor _ hD (by omega)) ?_
  refine g_if_ne (pc := 5) (tgt := 10) C d_Row_addRun_5 (by decide) (fun h5 => ?_) (fun h5 => ?_)
  · have hb : n + k ≤ rln j := (rm_k hc q1 hk).mp (by rw [← hn]; exact b1_1 h5)
    refine g_aload_n (pc := 10) (i := 0) C d_Row_addRun_10 rfl rfl ?_
    refine gf_Row_codes (pc := 11) C (by omega) fl_Row_7 d_Row_addRun_11 ?_
    refine g_aload_n (pc := 14) (i := 0) C d_Row_addRun_14 rfl rfl ?_
    refine gf_Row_length (pc := 15) C (by omega) fl_Row_13 d_Row_addRun_15 ?_
    rw [hn]
    refine g_aload_n (pc := 18) (i := 0) C d_Row_addRun_18 rfl rfl ?_
    refine gf_Row_length (pc := 19) C (by omega) fl_Row_13 d_Row_addRun_19 ?_
    rw [hn]
    refine g_iload_n (pc := 22) (i := 2) C d_Row_addRun_22 rfl rfl ?_
    refine g_iadd (pc := 23) C d_Row_addRun_23 ?_
    rw [nI_add]
    refine g_iload_n (pc := 24) (i := 1) C d_Row_addRun_24 rfl rfl ?_
    refine g_callS0 (pc := 25) (As := [_, _, _, _]) C my_JA_fill ms_JA_fill cl_Row_24 d_Row_addRun_25 (Nat.le_of_ble_eq_true rfl) rfl (Nat.le_of_ble_eq_true rfl) ⟨Nat.zero_le _, Nat.zero_le _⟩ (c_JA_fill _ hD (by omega) (by omega) (by omega)) ?_
    refine g_aload_n (pc := 28) (i := 0) C d_Row_addRun_28 rfl rfl ?_
    refine g_dup (pc := 29) C d_Row_addRun_29 rfl ?_
    refine gf_Row_length (pc := 30) C (by omega) fl_Row_13 d_Row_addRun_30 ?_
    rw [wA_1n (by omega), hn]
    refine g_iload_n (pc := 33) (i := 2) C d_Row_addRun_33 rfl rfl ?_
    refine g_iadd (pc := 34) C d_Row_addRun_34 ?_
    rw [nI_add]
    refine gp_Row_length (pc := 35) C (by omega) fl_Row_13 d_Row_addRun_35 ?_
    refine g_iconst (pc := 38) C d_Row_addRun_38 ic_1 ?_
    refine g_zret (pc := 39) C d_Row_addRun_39 (by first | exact Or.inl rfl | exact Or.inr rfl) ?_
    exact ⟨by rw [b1_t hb], by rw [if_pos hb]; rfl⟩
  · have hb : ¬ (n + k ≤ rln j) := fun h => b1_0 h5 (by rw [hn]; exact (rm_k hc q1 hk).mpr h)
    refine g_iconst (pc := 8) C d_Row_addRun_8 ic_0 ?_
    refine g_zret (pc := 9) C d_Row_addRun_9 (by first | exact Or.inl rfl | exact Or.inr rfl) ?_
    exact ⟨by rw [b1_f hb], by rw [if_neg hb]⟩
def repC (c : Cs) (i j a b f k n : Nat) : Cs :=
  wI (wA (wA c (10 + j) (va_cpy (c.1 (10 + j)) (c.1 (10 + j)) b (a + k) (n - b))) (10 + j) (va_cpy ((wA c (10 + j) (va_cpy (c.1 (10 + j)) (c.1 (10 + j)) b (a + k) (n - b))).1 (10 + i)) ((wA c (10 + j) (va_cpy (c.1 (10 + j)) (c.1 (10 + j)) b (a + k) (n - b))).1 (10 + j)) f a k)) (1 + j) 0 (nI (n - (b - a) + k))
set_option maxRecDepth 100000 in
set_option maxHeartbeats 4000000 in
theorem c_Row_replace (l : Launch) {D : Dt} (hD : OkD D) {j : Nat} {c : Cs} {τ : Cs × (Nat → Int64)} {i n m f k a b : Nat} (hj : j < 9) (hi : i < 9) (hn : c.1 (1 + j) 0 = nI n) (hc : n ≤ rln j) (hm : c.1 (1 + i) 0 = nI m) (hmc : m ≤ rln i) (hf : f < 2 ^ 20) (hk : k < 2 ^ 20) (ha : a < 2 ^ 20) (hb : b < 2 ^ 20) : Ct l D y_Row_replace b_Row_replace 7 (some .boolean) 2 [.int (nI k), .int (nI f), .ref (aRow D i), .int (nI b), .int (nI a), .ref (aRow D j)] ((c, τ) : Sg) (some (.int (b1 (a ≤ b ∧ b ≤ n ∧ f + k ≤ m ∧ n - (b - a) + k ≤ rln j)))) ((if a ≤ b ∧ b ≤ n ∧ f + k ≤ m ∧ n - (b - a) + k ≤ rln j then repC c i j a b f k n else c, τ) : Sg) := by
  refine Ct.of hD (by decide) (Nat.le_of_ble_eq_true rfl) [(0, some (.ref (aRow D j))), (1, some (.int (nI a))), (2, some (.int (nI b))), (3, some (.ref (aRow D i))), (4, some (.int (nI f))), (5, some (.int (nI k)))] rfl (fun X hX C => ?_)
  subst hX
  have q1 := rln_le j
  have q2 := rln_le i
  refine g_iload_n (pc := 0) (i := 1) C d_Row_replace_0 rfl rfl ?_
  refine g_if_lt (pc := 1) (tgt := 17) C d_Row_replace_1 (by decide) (fun h1 => ?_) (fun h1 => ?_)
  · first | exact absurd h1 (nI_pos (by omega)) | exact absurd (nI_pos (by omega)) h1
  · skip
    refine g_iload_n (pc := 4) (i := 1) C d_Row_replace_4 rfl rfl ?_
    refine g_iload_n (pc := 5) (i := 2) C d_Row_replace_5 rfl rfl ?_
    refine g_icmp_gt (pc := 6) (tgt := 17) C d_Row_replace_6 (by decide) (fun h6 => ?_) (fun h6 => ?_)
    · have hx : ¬ (a ≤ b ∧ b ≤ n ∧ f + k ≤ m ∧ n - (b - a) + k ≤ rln j) := fun h => absurd h6 (nI_nlt h.1 (by omega))
      refine g_iconst (pc := 17) C d_Row_replace_17 ic_0 ?_
      refine g_zret (pc := 18) C d_Row_replace_18 (by first | exact Or.inl rfl | exact Or.inr rfl) ?_
      exact ⟨by rw [b1_f hx], by rw [if_neg hx]⟩
    · have h1 : a ≤ b := Nat.not_lt.mp fun h => h6 (nI_lt h (by omega))
      refine g_iload_n (pc := 9) (i := 2) C d_Row_replace_9 rfl rfl ?_
      refine g_aload_n (pc := 10) (i := 0) C d_Row_replace_10 rfl rfl ?_
      refine gf_Row_length (pc := 11) C (by omega) fl_Row_13 d_Row_replace_11 ?_
      rw [hn]
      refine g_icmp_le (pc := 14) (tgt := 19) C d_Row_replace_14 (by decide) (fun h14 => ?_) (fun h14 => ?_)
      · have h2 : b ≤ n := (nI_leI (by omega) (by omega)).mp h14
        refine g_iload (pc := 19) C d_Row_replace_19 rfl ?_
        refine g_if_lt (pc := 21) (tgt := 41) C d_Row_replace_21 (by decide) (fun h21 => ?_) (fun h21 => ?_)
        · first | exact absurd h21 (nI_pos (by omega)) | exact absurd (nI_pos (by omega)) h21
        · skip
          refine g_iload (pc := 24) C d_Row_replace_24 rfl ?_
          refine g_if_lt (pc := 26) (tgt := 41) C d_Row_replace_26 (by decide) (fun h26 => ?_) (fun h26 => ?_)
          · first | exact absurd h26 (nI_pos (by omega)) | exact absurd (nI_pos (by omega)) h26
          · skip
            refine g_iload (pc := 29) C d_Row_replace_29 rfl ?_
            refine g_aload_n (pc := 31) (i := 3) C d_Row_replace_31 rfl rfl ?_
            refine gf_Row_length (pc := 32) C (by omega) fl_Row_13 d_Row_replace_32 ?_
            rw [hm]
            refine g_iload (pc := 35) C d_Row_replace_35 rfl ?_
            refine g_isub (pc := 37) C d_Row_replace_37 ?_
            refine g_icmp_le (pc := 38) (tgt := 43) C d_Row_replace_38 (by decide) (fun h38 => ?_) (fun h38 => ?_)
            · have h3 : f + k ≤ m := (le_sub (by omega) hf hk).mp h38
              refine g_aload_n (pc := 43) (i := 0) C d_Row_replace_43 rfl rfl ?_
              refine gf_Row_length (pc := 44) C (by omega) fl_Row_13 d_Row_replace_44 ?_
              rw [hn]
              refine g_iload_n (pc := 47) (i := 2) C d_Row_replace_47 rfl rfl ?_
              refine g_iload_n (pc := 48) (i := 1) C d_Row_replace_48 rfl rfl ?_
              refine g_isub (pc := 49) C d_Row_replace_49 ?_
              refine g_isub (pc := 50) C d_Row_replace_50 ?_
              refine g_iload (pc := 51) C d_Row_replace_51 rfl ?_
              refine g_iadd (pc := 53) C d_Row_replace_53 ?_
              rw [pk_sub h1, pk_sub (by omega), nI_add]
              refine g_istore (pc := 54) C d_Row_replace_54 (by decide) rfl ?_
              refine g_iload (pc := 56) C d_Row_replace_56 rfl ?_
              refine g_aload_n (pc := 58) (i := 0) C d_Row_replace_58 rfl rfl ?_
              refine gf_Row_codes (pc := 59) C (by omega) fl_Row_7 d_Row_replace_59 ?_
              refine gl_row (pc := 62) C (by omega) d_Row_replace_62 ?_
              refine g_icmp_le (pc := 63) (tgt := 68) C d_Row_replace_63 (by decide) (fun h63 => ?_) (fun h63 => ?_)
              · have hx : a ≤ b ∧ b ≤ n ∧ f + k ≤ m ∧ n - (b - a) + k ≤ rln j := ⟨h1, h2, h3, (nI_leI (by omega) (by omega)).mp h63⟩
                have h4 := hx.2.2.2
                refine g_aload_n (pc := 68) (i := 0) C d_Row_replace_68 rfl rfl ?_
                refine gf_Row_codes (pc := 69) C (by omega) fl_Row_7 d_Row_replace_69 ?_
                refine g_iload_n (pc := 72) (i := 2) C d_Row_replace_72 rfl rfl ?_
                refine g_aload_n (pc := 73) (i := 0) C d_Row_replace_73 rfl rfl ?_
                refine gf_Row_codes (pc := 74) C (by omega) fl_Row_7 d_Row_replace_74 ?_
                refine g_iload_n (pc := 77) (i := 1) C d_Row_replace_77 rfl rfl ?_
                refine g_iload (pc := 78) C d_Row_replace_78 rfl ?_
                refine g_iadd (pc := 80) C d_Row_replace_80 ?_
                rw [nI_add]
                refine g_aload_n (pc := 81) (i := 0) C d_Row_replace_81 rfl rfl ?_
                refine gf_Row_length (pc := 82) C (by omega) fl_Row_13 d_Row_replace_82 ?_
                rw [hn]
                refine g_iload_n (pc := 85) (i := 2) C d_Row_replace_85 rfl rfl ?_
                refine g_isub (pc := 86) C d_Row_replace_86 ?_
                rw [pk_sub h2]
                refine g_copy (pc := 87) C (by omega) (by omega) (by omega) (by omega) jl_Row_30 d_Row_replace_87 (by decide) (Nat.le_of_ble_eq_true rfl) ?_
                refine g_aload_n (pc := 90) (i := 3) C d_Row_replace_90 rfl rfl ?_
                refine gf_Row_codes (pc := 91) C (by omega) fl_Row_7 d_Row_replace_91 ?_
                refine g_iload (pc := 94) C d_Row_replace_94 rfl ?_
                refine g_aload_n (pc := 96) (i := 0) C d_Row_replace_96 rfl rfl ?_
                refine gf_Row_codes (pc := 97) C (by omega) fl_Row_7 d_Row_replace_97 ?_
                refine g_iload_n (pc := 100) (i := 1) C d_Row_replace_100 rfl rfl ?_
                refine g_iload (pc := 101) C d_Row_replace_101 rfl ?_
                refine g_copy (pc := 103) C (by omega) (by omega) (by omega) (by omega) jl_Row_30 d_Row_replace_103 (by decide) (Nat.le_of_ble_eq_true rfl) ?_
                refine g_aload_n (pc := 106) (i := 0) C d_Row_replace_106 rfl rfl ?_
                refine g_iload (pc := 107) C d_Row_replace_107 rfl ?_
                refine gp_Row_length (pc := 109) C (by omega) fl_Row_13 d_Row_replace_109 ?_
                refine g_iconst (pc := 112) C d_Row_replace_112 ic_1 ?_
                refine g_zret (pc := 113) C d_Row_replace_113 (by first | exact Or.inl rfl | exact Or.inr rfl) ?_
                exact ⟨by rw [b1_t hx], by rw [if_pos hx]; rfl⟩
              · have hx : ¬ (a ≤ b ∧ b ≤ n ∧ f + k ≤ m ∧ n - (b - a) + k ≤ rln j) := fun h => h63 ((nI_leI (by omega) (by omega)).mpr h.2.2.2)
                refine g_iconst (pc := 66) C d_Row_replace_66 ic_0 ?_
                refine g_zret (pc := 67) C d_Row_replace_67 (by first | exact Or.inl rfl | exact Or.inr rfl) ?_
                exact ⟨by rw [b1_f hx], by rw [if_neg hx]⟩
            · have hx : ¬ (a ≤ b ∧ b ≤ n ∧ f + k ≤ m ∧ n - (b - a) + k ≤ rln j) := fun h => h38 ((le_sub (by omega) hf hk).mpr h.2.2.1)
              refine g_iconst (pc := 41) C d_Row_replace_41 ic_0 ?_
              refine g_zret (pc := 42) C d_Row_replace_42 (by first | exact Or.inl rfl | exact Or.inr rfl) ?_
              exact ⟨by rw [b1_f hx], by rw [if_neg hx]⟩
      · have hx : ¬ (a ≤ b ∧ b ≤ n ∧ f + k ≤ m ∧ n - (b - a) + k ≤ rln j) := fun h => h14 ((nI_leI (by omega) (by omega)).mpr h.2.1)
        refine g_iconst (pc := 17) C d_Row_replace_17 ic_0 ?_
        refine g_zret (pc := 18) C d_Row_replace_18 (by first | exact Or.inl rfl | exact Or.inr rfl) ?_
        exact ⟨by rw [b1_f hx], by rw [if_neg hx]⟩
set_option maxRecDepth 100000 in
set_option maxHeartbeats 4000000 in
theorem c_Row_become (l : Launch) {D : Dt} (hD : OkD D) {j : Nat} {c : Cs} {τ : Cs × (Nat → Int64)} {i m : Nat} (hj : j < 9) (hi : i < 9) (hij : i ≠ j) (hm : c.1 (1 + i) 0 = nI m) (hmc : m ≤ rln i) (hmj : m ≤ rln j) : Ct l D y_Row_become b_Row_become 2 none 3 [.ref (aRow D i), .ref (aRow D j)] ((c, τ) : Sg) (none) ((adpC (wI c (1 + j) 0 (nI 0)) i j 0 m 0, τ) : Sg) := by
  refine Ct.of hD (by decide) (Nat.le_of_ble_eq_true rfl) [(0, some (.ref (aRow D j))), (1, some (.ref (aRow D i)))] rfl (fun X hX C => ?_)
  subst hX
  have q1 := rln_le j
  have q2 := rln_le i
  refine g_aload_n (pc := 0) (i := 0) C d_Row_become_0 rfl rfl ?_
  refine g_iconst (pc := 1) C d_Row_become_1 icn_0 ?_
  refine gp_Row_length (pc := 2) C (by omega) fl_Row_13 d_Row_become_2 ?_
  refine g_aload_n (pc := 5) (i := 0) C d_Row_become_5 rfl rfl ?_
  refine g_aload_n (pc := 6) (i := 1) C d_Row_become_6 rfl rfl ?_
  refine g_iconst (pc := 7) C d_Row_become_7 icn_0 ?_
  refine g_aload_n (pc := 8) (i := 1) C d_Row_become_8 rfl rfl ?_
  refine gf_Row_length (pc := 9) C (by omega) fl_Row_13 d_Row_become_9 ?_
  rw [wI_1n (by omega), hm]
  refine g_callV1 (pc := 12) (As := [_, _, _]) C my_Row_addPart mv_Row_addPart cl_Row_36 (is_Row (by omega)) d_Row_become_12 (Nat.le_of_ble_eq_true rfl) rfl (Nat.le_of_ble_eq_true rfl) ⟨Nat.zero_le _, Nat.zero_le _⟩ (c_Row_addPart _ hD (by omega) (by omega) (n := 0) (m := m) (by rw [wI_1s]; exact pk_us) (Nat.zero_le _) (by rw [wI_1n (by omega)]; exact hm) hmc (by omega) (by omega)) ?_
  refine g_pop (pc := 15) C d_Row_become_15 rfl ?_
  rw [if_pos ⟨by omega, by omega⟩]
  refine g_vret (pc := 16) C d_Row_become_16 ?_
  exact ⟨rfl, rfl⟩
