section CT
variable {D : Dt} {σ : Sg} {c m : Cs} {τ : Cs × (Nat → Int64)} {ow : Nat → Int64}
theorem ct_V : ct D σ 0 = .inr (0, [.ref (aRow D 0), .ref (aRps D)]) := rfl
theorem ct_row {j : Nat} (h : j < 9) : ct D σ (1 + j) = .inr (1, [.ref (aArr D j), .int (σ.1.1 (1 + j) 0)]) := by
  unfold ct
  rw [if_neg (by omega), if_pos (by omega), show 1 + j - 1 = j by omega]
theorem ct_arr {j : Nat} (h : j < 9) : ct D σ (10 + j) = .inl (D.2.2.1 0, rln j, .inl (σ.1.1 (10 + j))) := by
  unfold ct
  rw [if_neg (by omega), if_neg (by omega), if_pos (by omega), show 10 + j - 10 = j by omega]
theorem ct_rps : ct D σ 19 = .inl (D.2.2.1 3, 2, .inr (.inr (.inr (.inr (fun k => some (aRep D k)))))) := rfl
theorem ct_rep {r : Nat} (h : r < 2) : ct D σ (20 + r) = .inr (2, [.ref (aRow D (1 + 4 * r)), .ref (aRcs D r), .int (σ.1.1 (20 + r) 0), .int (σ.1.1 (20 + r) 1), .int (σ.1.1 (20 + r) 2), .int (σ.1.1 (20 + r) 3), .int (σ.1.1 (20 + r) 4), .int (σ.1.1 (20 + r) 5), .ref (aRow D (2 + 4 * r)), .ref (aChn D r), .ref (aRow D (3 + 4 * r)), .ref (aRow D (4 + 4 * r))]) := by
  unfold ct
  rw [if_neg (by omega), if_neg (by omega), if_neg (by omega), if_neg (by omega), if_pos (by omega), show 20 + r - 20 = r by omega]
theorem ct_rcs {r : Nat} (h : r < 2) : ct D σ (22 + r) = .inl (D.2.2.1 4, 24, .inr (.inr (.inr (.inr (fun k => some (aRec D (24 * r + k))))))) := by
  unfold ct
  rw [if_neg (by omega), if_neg (by omega), if_neg (by omega), if_neg (by omega), if_neg (by omega), if_pos (by omega), show 22 + r - 22 = r by omega]
theorem ct_chn {r : Nat} (h : r < 2) : ct D σ (24 + r) = .inl (D.2.2.1 0, 6, .inl (σ.1.1 (24 + r))) := by
  unfold ct
  rw [if_neg (by omega), if_neg (by omega), if_neg (by omega), if_neg (by omega), if_neg (by omega), if_neg (by omega), if_pos (by omega)]
theorem ct_rec {i : Nat} (h : i < 48) : ct D σ (26 + i) = .inr (3, [.int (σ.1.1 (26 + i) 0), .int (σ.1.1 (26 + i) 1), .int (σ.1.1 (26 + i) 2), .int (σ.1.1 (26 + i) 3), .int (σ.1.1 (26 + i) 4), .int (σ.1.1 (26 + i) 5), .long (σ.1.2 i)]) := by
  unfold ct
  rw [if_neg (by omega), if_neg (by omega), if_neg (by omega), if_neg (by omega), if_neg (by omega), if_neg (by omega), if_neg (by omega), if_pos (by omega), show 26 + i - 26 = i by omega]
theorem ct_mdl : ct D σ 74 = .inr (4, [.int (σ.2.1.1 0 0), .int (σ.2.1.1 0 1), .ref (aMar D 1), .ref (aMar D 2), .ref (aMar D 3), .ref (aMar D 4), .ref (aMar D 5), .ref (aMar D 6), .ref (aMar D 7), .ref (aMar D 8), .ref (aMar D 9), .ref (aMar D 10), .ref (aNds D), .ref (aMar D 11), .ref (aMar D 12), .ref (aDwn D), .ref (aMar D 13), .int (σ.2.1.1 0 2), .ref (aMar D 14), .ref (aMar D 15), .ref (aMar D 16), .int (σ.2.1.1 0 3), .ref (aMar D 17)]) := rfl
theorem ct_mar {a : Nat} (h1 : 1 ≤ a) (h : a ≤ 17) : ct D σ (74 + a) = .inl (D.2.2.1 0, mln a, .inl (σ.2.1.1 a)) := by
  unfold ct
  rw [if_neg (by omega), if_neg (by omega), if_neg (by omega), if_neg (by omega), if_neg (by omega), if_neg (by omega), if_neg (by omega), if_neg (by omega), if_neg (by omega), if_pos (by omega), show 74 + a - 74 = a by omega]
theorem ct_nds : ct D σ 92 = .inl (D.2.2.1 1, 48, .inr (.inl σ.2.1.2)) := rfl
theorem ct_dwn : ct D σ 93 = .inl (D.2.2.1 2, 2, .inl (σ.2.1.1 19)) := rfl
theorem ct_out : ct D σ 94 = .inl (D.2.2.1 1, 1, .inr (.inl σ.2.2)) := rfl
theorem ct_oA {i : Nat} {g : Nat → Int32} : ∀ u, u < 95 → u ≠ i → ct D ((wA c i g, τ) : Sg) u = ct D ((c, τ) : Sg) u := by
  intro u _ hu
  simp only [ct, wA, upA_n hu]
theorem ct_oI {i k : Nat} {v : Int32} : ∀ u, u < 95 → u ≠ i → ct D ((wI c i k v, τ) : Sg) u = ct D ((c, τ) : Sg) u := ct_oA
theorem ct_oN {i : Nat} {v : Int64} : ∀ u, u < 95 → u ≠ 26 + i → ct D ((wN c i v, τ) : Sg) u = ct D ((c, τ) : Sg) u := by
  intro u _ hu
  have h : ¬ u < 26 → vp_updL c.2 i v (u - 26) = c.2 (u - 26) := fun h => by
    unfold vp_updL
    rw [if_neg (by omega)]
  unfold ct wN
  by_cases h26 : u < 26
  · by_cases a1 : u < 1
    · rw [if_pos a1, if_pos a1]
    · rw [if_neg a1, if_neg a1]
      by_cases a2 : u < 10
      · rw [if_pos a2, if_pos a2]
      · rw [if_neg a2, if_neg a2]
        by_cases a3 : u < 19
        · rw [if_pos a3, if_pos a3]
        · rw [if_neg a3, if_neg a3]
          by_cases a4 : u < 20
          · rw [if_pos a4, if_pos a4]
          · rw [if_neg a4, if_neg a4]
            by_cases a5 : u < 22
            · rw [if_pos a5, if_pos a5]
            · rw [if_neg a5, if_neg a5]
              by_cases a6 : u < 24
              · rw [if_pos a6, if_pos a6]
              · rw [if_neg a6, if_neg a6, if_pos h26, if_pos h26]
  · simp only [h h26]
theorem ct_mA {i : Nat} {g : Nat → Int32} : ∀ u, u < 95 → u ≠ 74 + i → ct D ((c, wA m i g, ow) : Sg) u = ct D ((c, m, ow) : Sg) u := by
  intro u _ hu
  unfold ct wA
  by_cases h74 : u < 74
  · by_cases a1 : u < 1
    · rw [if_pos a1, if_pos a1]
    · rw [if_neg a1, if_neg a1]
      by_cases a2 : u < 10
      · rw [if_pos a2, if_pos a2]
      · rw [if_neg a2, if_neg a2]
        by_cases a3 : u < 19
        · rw [if_pos a3, if_pos a3]
        · rw [if_neg a3, if_neg a3]
          by_cases a4 : u < 20
          · rw [if_pos a4, if_pos a4]
          · rw [if_neg a4, if_neg a4]
            by_cases a5 : u < 22
            · rw [if_pos a5, if_pos a5]
            · rw [if_neg a5, if_neg a5]
              by_cases a6 : u < 24
              · rw [if_pos a6, if_pos a6]
              · rw [if_neg a6, if_neg a6]
                by_cases a7 : u < 26
                · rw [if_pos a7, if_pos a7]
                · rw [if_neg a7, if_neg a7, if_pos h74, if_pos h74]
  · rw [if_neg (show ¬ u < 1 by omega), if_neg (show ¬ u < 1 by omega), if_neg (show ¬ u < 10 by omega), if_neg (show ¬ u < 10 by omega), if_neg (show ¬ u < 19 by omega), if_neg (show ¬ u < 19 by omega), if_neg (show ¬ u < 20 by omega), if_neg (show ¬ u < 20 by omega), if_neg (show ¬ u < 22 by omega), if_neg (show ¬ u < 22 by omega), if_neg (show ¬ u < 24 by omega), if_neg (show ¬ u < 24 by omega), if_neg (show ¬ u < 26 by omega), if_neg (show ¬ u < 26 by omega), if_neg h74, if_neg h74]
    by_cases b1 : u < 75
    · simp only [if_pos b1, upA_n (show (0 : Nat) ≠ i by omega)]
    · rw [if_neg b1, if_neg b1]
      by_cases b2 : u < 92
      · simp only [if_pos b2, upA_n (show u - 74 ≠ i by omega)]
      · rw [if_neg b2, if_neg b2]
        by_cases b3 : u < 93
        · rw [if_pos b3, if_pos b3]
        · rw [if_neg b3, if_neg b3]
          by_cases b4 : u < 94
          · simp only [if_pos b4, upA_n (show (19 : Nat) ≠ i by omega)]
          · rw [if_neg b4, if_neg b4]
theorem ct_mI {i k : Nat} {v : Int32} : ∀ u, u < 95 → u ≠ 74 + i → ct D ((c, wI m i k v, ow) : Sg) u = ct D ((c, m, ow) : Sg) u := ct_mA
theorem ct_mN {i : Nat} {v : Int64} : ∀ u, u < 95 → u ≠ 92 → ct D ((c, wN m i v, ow) : Sg) u = ct D ((c, m, ow) : Sg) u := by
  intro u _ hu
  unfold ct wN
  by_cases h : u < 92
  · simp only [h, if_true]
  · simp only [show ¬ u < 93 by omega, if_false]
theorem ct_oo {o2 : Nat → Int64} : ∀ u, u < 95 → u ≠ 94 → ct D ((c, m, o2) : Sg) u = ct D ((c, m, ow) : Sg) u := by
  intro u _ hu
  unfold ct
  simp only [show u < 94 by omega, if_true]
end CT
section IS
variable {D : Dt}
theorem is_V : IsC D (aVlt D) R_V := ⟨0, 0, _, _, by decide, rfl, rfl, fun σ => ⟨_, ct_V⟩⟩
theorem is_Row {j : Nat} (h : j < 9) : IsC D (aRow D j) R_Row := ⟨1 + j, 1, _, _, by omega, rfl, rfl, fun σ => ⟨_, ct_row h⟩⟩
theorem is_Rep {r : Nat} (h : r < 2) : IsC D (aRep D r) R_Rep := ⟨20 + r, 2, _, _, by omega, rfl, rfl, fun σ => ⟨_, ct_rep h⟩⟩
theorem is_Rec {i : Nat} (h : i < 48) : IsC D (aRec D i) R_Rec := ⟨26 + i, 3, _, _, by omega, rfl, rfl, fun σ => ⟨_, ct_rec h⟩⟩
theorem is_M : IsC D (aMdl D) R_M := ⟨74, 4, _, _, by decide, rfl, rfl, fun σ => ⟨_, ct_mdl⟩⟩
end IS
section GFLD
variable {X : Cx} {D : Dt} {Q : State → Prop} {z : Nat × Nat} {c m : Cs} {τ : Cs × (Nat → Int64)} {ow : Nat → Int64} {pc index : Nat} {L : Lc} {st : List Value} {own : String} {cc : ByteArray} {nL d : Nat} {ret : Option FieldType}
theorem gf_V_buffer (C : Fx X D own cc nL d ret) (hl : FL own index R_V "buffer" "LRevisionVault$Row;") (hd : decode cc pc = .ok (.getfield index, 3))
    (kk : G X D Q z ((c, τ) : Sg) (pc + 3) L (.ref (aRow D 0) :: st)) : G X D Q z ((c, τ) : Sg) pc L (.ref (aVlt D) :: st) :=
  g_get C (t := 0) (ci := 0) (k := 0) (T := F_V) (N := 2) (by decide) ct_V rfl in_V (by decide) rfl hl rfl hd kk
theorem gf_V_repositories (C : Fx X D own cc nL d ret) (hl : FL own index R_V "repositories" "[LRevisionVault$Repository;") (hd : decode cc pc = .ok (.getfield index, 3))
    (kk : G X D Q z ((c, τ) : Sg) (pc + 3) L (.ref (aRps D) :: st)) : G X D Q z ((c, τ) : Sg) pc L (.ref (aVlt D) :: st) :=
  g_get C (t := 0) (ci := 0) (k := 1) (T := F_V) (N := 2) (by decide) ct_V rfl in_V (by decide) rfl hl rfl hd kk
theorem gf_Row_codes (C : Fx X D own cc nL d ret) {j : Nat} (hj : j < 9) (hl : FL own index R_Row "codes" "[I") (hd : decode cc pc = .ok (.getfield index, 3))
    (kk : G X D Q z ((c, τ) : Sg) (pc + 3) L (.ref (aArr D j) :: st)) : G X D Q z ((c, τ) : Sg) pc L (.ref (aRow D j) :: st) :=
  g_get C (t := (1 + j)) (ci := 1) (k := 0) (T := F_Row) (N := 2) (by omega) (ct_row hj) rfl in_Row (by decide) rfl hl rfl hd kk
theorem gf_Row_length (C : Fx X D own cc nL d ret) {j : Nat} (hj : j < 9) (hl : FL own index R_Row "length" "I") (hd : decode cc pc = .ok (.getfield index, 3))
    (kk : G X D Q z ((c, τ) : Sg) (pc + 3) L (.int (c.1 (1 + j) 0) :: st)) : G X D Q z ((c, τ) : Sg) pc L (.ref (aRow D j) :: st) :=
  g_get C (t := (1 + j)) (ci := 1) (k := 1) (T := F_Row) (N := 2) (by omega) (ct_row hj) rfl in_Row (by decide) rfl hl rfl hd kk
theorem gp_Row_length (C : Fx X D own cc nL d ret) {j : Nat} (hj : j < 9) {v : Int32} (hl : FL own index R_Row "length" "I") (hd : decode cc pc = .ok (.putfield index, 3))
    (kk : G X D Q z ((wI c (1 + j) 0 v, τ) : Sg) (pc + 3) L st) : G X D Q z ((c, τ) : Sg) pc L (.int v :: .ref (aRow D j) :: st) :=
  g_put C (t := (1 + j)) (ci := 1) (k := 1) (T := F_Row) (N := 2) (ty := .int) t_Row t_Row_ok n_Row (by omega) (ct_row hj) rfl in_Row (by decide) rfl rfl (by decide +kernel) rfl rfl (Nat.le_of_ble_eq_true rfl) (by rw [ct_row hj]; simp [wI, upA, upd]) ct_oI hl hd kk
theorem gf_Rep_data (C : Fx X D own cc nL d ret) {r : Nat} (hr : r < 2) (hl : FL own index R_Rep "data" "LRevisionVault$Row;") (hd : decode cc pc = .ok (.getfield index, 3))
    (kk : G X D Q z ((c, τ) : Sg) (pc + 3) L (.ref (aRow D (1 + 4 * r)) :: st)) : G X D Q z ((c, τ) : Sg) pc L (.ref (aRep D r) :: st) :=
  g_get C (t := (20 + r)) (ci := 2) (k := 0) (T := F_Rep) (N := 12) (by omega) (ct_rep hr) rfl in_Rep (by decide) rfl hl rfl hd kk
theorem gf_Rep_records (C : Fx X D own cc nL d ret) {r : Nat} (hr : r < 2) (hl : FL own index R_Rep "records" "[LRevisionVault$IndexRecord;") (hd : decode cc pc = .ok (.getfield index, 3))
    (kk : G X D Q z ((c, τ) : Sg) (pc + 3) L (.ref (aRcs D r) :: st)) : G X D Q z ((c, τ) : Sg) pc L (.ref (aRep D r) :: st) :=
  g_get C (t := (20 + r)) (ci := 2) (k := 1) (T := F_Rep) (N := 12) (by omega) (ct_rep hr) rfl in_Rep (by decide) rfl hl rfl hd kk
theorem gf_Rep_recordCount (C : Fx X D own cc nL d ret) {r : Nat} (hr : r < 2) (hl : FL own index R_Rep "recordCount" "I") (hd : decode cc pc = .ok (.getfield index, 3))
    (kk : G X D Q z ((c, τ) : Sg) (pc + 3) L (.int (c.1 (20 + r) 0) :: st)) : G X D Q z ((c, τ) : Sg) pc L (.ref (aRep D r) :: st) :=
  g_get C (t := (20 + r)) (ci := 2) (k := 2) (T := F_Rep) (N := 12) (by omega) (ct_rep hr) rfl in_Rep (by decide) rfl hl rfl hd kk
theorem gp_Rep_recordCount (C : Fx X D own cc nL d ret) {r : Nat} (hr : r < 2) {v : Int32} (hl : FL own index R_Rep "recordCount" "I") (hd : decode cc pc = .ok (.putfield index, 3))
    (kk : G X D Q z ((wI c (20 + r) 0 v, τ) : Sg) (pc + 3) L st) : G X D Q z ((c, τ) : Sg) pc L (.int v :: .ref (aRep D r) :: st) :=
  g_put C (t := (20 + r)) (ci := 2) (k := 2) (T := F_Rep) (N := 12) (ty := .int) t_Rep t_Rep_ok n_Rep (by omega) (ct_rep hr) rfl in_Rep (by decide) rfl rfl (by decide +kernel) rfl rfl (Nat.le_of_ble_eq_true rfl) (by rw [ct_rep hr]; simp [wI, upA, upd]) ct_oI hl hd kk
theorem gf_Rep_journal (C : Fx X D own cc nL d ret) {r : Nat} (hr : r < 2) (hl : FL own index R_Rep "journal" "Z") (hd : decode cc pc = .ok (.getfield index, 3))
    (kk : G X D Q z ((c, τ) : Sg) (pc + 3) L (.int (c.1 (20 + r) 1) :: st)) : G X D Q z ((c, τ) : Sg) pc L (.ref (aRep D r) :: st) :=
  g_get C (t := (20 + r)) (ci := 2) (k := 3) (T := F_Rep) (N := 12) (by omega) (ct_rep hr) rfl in_Rep (by decide) rfl hl rfl hd kk
theorem gp_Rep_journal (C : Fx X D own cc nL d ret) {r : Nat} (hr : r < 2) {v : Int32} (hz : v = 0 ∨ v = 1) (hl : FL own index R_Rep "journal" "Z") (hd : decode cc pc = .ok (.putfield index, 3))
    (kk : G X D Q z ((wI c (20 + r) 1 v, τ) : Sg) (pc + 3) L st) : G X D Q z ((c, τ) : Sg) pc L (.int v :: .ref (aRep D r) :: st) :=
  g_put C (t := (20 + r)) (ci := 2) (k := 3) (T := F_Rep) (N := 12) (ty := .boolean) t_Rep t_Rep_ok n_Rep (by omega) (ct_rep hr) rfl in_Rep (by decide) rfl rfl (by decide +kernel) (bz_n hz) (by rcases hz with rfl | rfl <;> rfl) (Nat.le_of_ble_eq_true rfl) (by rw [ct_rep hr]; simp [wI, upA, upd]) ct_oI hl hd kk
theorem gf_Rep_journalData (C : Fx X D own cc nL d ret) {r : Nat} (hr : r < 2) (hl : FL own index R_Rep "journalData" "I") (hd : decode cc pc = .ok (.getfield index, 3))
    (kk : G X D Q z ((c, τ) : Sg) (pc + 3) L (.int (c.1 (20 + r) 2) :: st)) : G X D Q z ((c, τ) : Sg) pc L (.ref (aRep D r) :: st) :=
  g_get C (t := (20 + r)) (ci := 2) (k := 4) (T := F_Rep) (N := 12) (by omega) (ct_rep hr) rfl in_Rep (by decide) rfl hl rfl hd kk
theorem gp_Rep_journalData (C : Fx X D own cc nL d ret) {r : Nat} (hr : r < 2) {v : Int32} (hl : FL own index R_Rep "journalData" "I") (hd : decode cc pc = .ok (.putfield index, 3))
    (kk : G X D Q z ((wI c (20 + r) 2 v, τ) : Sg) (pc + 3) L st) : G X D Q z ((c, τ) : Sg) pc L (.int v :: .ref (aRep D r) :: st) :=
  g_put C (t := (20 + r)) (ci := 2) (k := 4) (T := F_Rep) (N := 12) (ty := .int) t_Rep t_Rep_ok n_Rep (by omega) (ct_rep hr) rfl in_Rep (by decide) rfl rfl (by decide +kernel) rfl rfl (Nat.le_of_ble_eq_true rfl) (by rw [ct_rep hr]; simp [wI, upA, upd]) ct_oI hl hd kk
theorem gf_Rep_journalRecords (C : Fx X D own cc nL d ret) {r : Nat} (hr : r < 2) (hl : FL own index R_Rep "journalRecords" "I") (hd : decode cc pc = .ok (.getfield index, 3))
    (kk : G X D Q z ((c, τ) : Sg) (pc + 3) L (.int (c.1 (20 + r) 3) :: st)) : G X D Q z ((c, τ) : Sg) pc L (.ref (aRep D r) :: st) :=
  g_get C (t := (20 + r)) (ci := 2) (k := 5) (T := F_Rep) (N := 12) (by omega) (ct_rep hr) rfl in_Rep (by decide) rfl hl rfl hd kk
theorem gp_Rep_journalRecords (C : Fx X D own cc nL d ret) {r : Nat} (hr : r < 2) {v : Int32} (hl : FL own index R_Rep "journalRecords" "I") (hd : decode cc pc = .ok (.putfield index, 3))
    (kk : G X D Q z ((wI c (20 + r) 3 v, τ) : Sg) (pc + 3) L st) : G X D Q z ((c, τ) : Sg) pc L (.int v :: .ref (aRep D r) :: st) :=
  g_put C (t := (20 + r)) (ci := 2) (k := 5) (T := F_Rep) (N := 12) (ty := .int) t_Rep t_Rep_ok n_Rep (by omega) (ct_rep hr) rfl in_Rep (by decide) rfl rfl (by decide +kernel) rfl rfl (Nat.le_of_ble_eq_true rfl) (by rw [ct_rep hr]; simp [wI, upA, upd]) ct_oI hl hd kk
theorem gf_Rep_down (C : Fx X D own cc nL d ret) {r : Nat} (hr : r < 2) (hl : FL own index R_Rep "down" "Z") (hd : decode cc pc = .ok (.getfield index, 3))
    (kk : G X D Q z ((c, τ) : Sg) (pc + 3) L (.int (c.1 (20 + r) 4) :: st)) : G X D Q z ((c, τ) : Sg) pc L (.ref (aRep D r) :: st) :=
  g_get C (t := (20 + r)) (ci := 2) (k := 6) (T := F_Rep) (N := 12) (by omega) (ct_rep hr) rfl in_Rep (by decide) rfl hl rfl hd kk
theorem gp_Rep_down (C : Fx X D own cc nL d ret) {r : Nat} (hr : r < 2) {v : Int32} (hz : v = 0 ∨ v = 1) (hl : FL own index R_Rep "down" "Z") (hd : decode cc pc = .ok (.putfield index, 3))
    (kk : G X D Q z ((wI c (20 + r) 4 v, τ) : Sg) (pc + 3) L st) : G X D Q z ((c, τ) : Sg) pc L (.int v :: .ref (aRep D r) :: st) :=
  g_put C (t := (20 + r)) (ci := 2) (k := 6) (T := F_Rep) (N := 12) (ty := .boolean) t_Rep t_Rep_ok n_Rep (by omega) (ct_rep hr) rfl in_Rep (by decide) rfl rfl (by decide +kernel) (bz_n hz) (by rcases hz with rfl | rfl <;> rfl) (Nat.le_of_ble_eq_true rfl) (by rw [ct_rep hr]; simp [wI, upA, upd]) ct_oI hl hd kk
theorem gf_Rep_writesToFailure (C : Fx X D own cc nL d ret) {r : Nat} (hr : r < 2) (hl : FL own index R_Rep "writesToFailure" "I") (hd : decode cc pc = .ok (.getfield index, 3))
    (kk : G X D Q z ((c, τ) : Sg) (pc + 3) L (.int (c.1 (20 + r) 5) :: st)) : G X D Q z ((c, τ) : Sg) pc L (.ref (aRep D r) :: st) :=
  g_get C (t := (20 + r)) (ci := 2) (k := 7) (T := F_Rep) (N := 12) (by omega) (ct_rep hr) rfl in_Rep (by decide) rfl hl rfl hd kk
theorem gp_Rep_writesToFailure (C : Fx X D own cc nL d ret) {r : Nat} (hr : r < 2) {v : Int32} (hl : FL own index R_Rep "writesToFailure" "I") (hd : decode cc pc = .ok (.putfield index, 3))
    (kk : G X D Q z ((wI c (20 + r) 5 v, τ) : Sg) (pc + 3) L st) : G X D Q z ((c, τ) : Sg) pc L (.int v :: .ref (aRep D r) :: st) :=
  g_put C (t := (20 + r)) (ci := 2) (k := 7) (T := F_Rep) (N := 12) (ty := .int) t_Rep t_Rep_ok n_Rep (by omega) (ct_rep hr) rfl in_Rep (by decide) rfl rfl (by decide +kernel) rfl rfl (Nat.le_of_ble_eq_true rfl) (by rw [ct_rep hr]; simp [wI, upA, upd]) ct_oI hl hd kk
theorem gf_Rep_built (C : Fx X D own cc nL d ret) {r : Nat} (hr : r < 2) (hl : FL own index R_Rep "built" "LRevisionVault$Row;") (hd : decode cc pc = .ok (.getfield index, 3))
    (kk : G X D Q z ((c, τ) : Sg) (pc + 3) L (.ref (aRow D (2 + 4 * r)) :: st)) : G X D Q z ((c, τ) : Sg) pc L (.ref (aRep D r) :: st) :=
  g_get C (t := (20 + r)) (ci := 2) (k := 8) (T := F_Rep) (N := 12) (by omega) (ct_rep hr) rfl in_Rep (by decide) rfl hl rfl hd kk
theorem gf_Rep_chain (C : Fx X D own cc nL d ret) {r : Nat} (hr : r < 2) (hl : FL own index R_Rep "chain" "[I") (hd : decode cc pc = .ok (.getfield index, 3))
    (kk : G X D Q z ((c, τ) : Sg) (pc + 3) L (.ref (aChn D r) :: st)) : G X D Q z ((c, τ) : Sg) pc L (.ref (aRep D r) :: st) :=
  g_get C (t := (20 + r)) (ci := 2) (k := 9) (T := F_Rep) (N := 12) (by omega) (ct_rep hr) rfl in_Rep (by decide) rfl hl rfl hd kk
theorem gf_Rep_chunk (C : Fx X D own cc nL d ret) {r : Nat} (hr : r < 2) (hl : FL own index R_Rep "chunk" "LRevisionVault$Row;") (hd : decode cc pc = .ok (.getfield index, 3))
    (kk : G X D Q z ((c, τ) : Sg) (pc + 3) L (.ref (aRow D (3 + 4 * r)) :: st)) : G X D Q z ((c, τ) : Sg) pc L (.ref (aRep D r) :: st) :=
  g_get C (t := (20 + r)) (ci := 2) (k := 10) (T := F_Rep) (N := 12) (by omega) (ct_rep hr) rfl in_Rep (by decide) rfl hl rfl hd kk
theorem gf_Rep_trial (C : Fx X D own cc nL d ret) {r : Nat} (hr : r < 2) (hl : FL own index R_Rep "trial" "LRevisionVault$Row;") (hd : decode cc pc = .ok (.getfield index, 3))
    (kk : G X D Q z ((c, τ) : Sg) (pc + 3) L (.ref (aRow D (4 + 4 * r)) :: st)) : G X D Q z ((c, τ) : Sg) pc L (.ref (aRep D r) :: st) :=
  g_get C (t := (20 + r)) (ci := 2) (k := 11) (T := F_Rep) (N := 12) (by omega) (ct_rep hr) rfl in_Rep (by decide) rfl hl rfl hd kk
theorem gf_Rec_offset (C : Fx X D own cc nL d ret) {i : Nat} (hi : i < 48) (hl : FL own index R_Rec "offset" "I") (hd : decode cc pc = .ok (.getfield index, 3))
    (kk : G X D Q z ((c, τ) : Sg) (pc + 3) L (.int (c.1 (26 + i) 0) :: st)) : G X D Q z ((c, τ) : Sg) pc L (.ref (aRec D i) :: st) :=
  g_get C (t := (26 + i)) (ci := 3) (k := 0) (T := F_Rec) (N := 7) (by omega) (ct_rec hi) rfl in_Rec (by decide) rfl hl rfl hd kk
theorem gp_Rec_offset (C : Fx X D own cc nL d ret) {i : Nat} (hi : i < 48) {v : Int32} (hl : FL own index R_Rec "offset" "I") (hd : decode cc pc = .ok (.putfield index, 3))
    (kk : G X D Q z ((wI c (26 + i) 0 v, τ) : Sg) (pc + 3) L st) : G X D Q z ((c, τ) : Sg) pc L (.int v :: .ref (aRec D i) :: st) :=
  g_put C (t := (26 + i)) (ci := 3) (k := 0) (T := F_Rec) (N := 7) (ty := .int) t_Rec t_Rec_ok n_Rec (by omega) (ct_rec hi) rfl in_Rec (by decide) rfl rfl (by decide +kernel) rfl rfl (Nat.le_of_ble_eq_true rfl) (by rw [ct_rec hi]; simp [wI, upA, upd]) ct_oI hl hd kk
theorem gf_Rec_size (C : Fx X D own cc nL d ret) {i : Nat} (hi : i < 48) (hl : FL own index R_Rec "size" "I") (hd : decode cc pc = .ok (.getfield index, 3))
    (kk : G X D Q z ((c, τ) : Sg) (pc + 3) L (.int (c.1 (26 + i) 1) :: st)) : G X D Q z ((c, τ) : Sg) pc L (.ref (aRec D i) :: st) :=
  g_get C (t := (26 + i)) (ci := 3) (k := 1) (T := F_Rec) (N := 7) (by omega) (ct_rec hi) rfl in_Rec (by decide) rfl hl rfl hd kk
theorem gp_Rec_size (C : Fx X D own cc nL d ret) {i : Nat} (hi : i < 48) {v : Int32} (hl : FL own index R_Rec "size" "I") (hd : decode cc pc = .ok (.putfield index, 3))
    (kk : G X D Q z ((wI c (26 + i) 1 v, τ) : Sg) (pc + 3) L st) : G X D Q z ((c, τ) : Sg) pc L (.int v :: .ref (aRec D i) :: st) :=
  g_put C (t := (26 + i)) (ci := 3) (k := 1) (T := F_Rec) (N := 7) (ty := .int) t_Rec t_Rec_ok n_Rec (by omega) (ct_rec hi) rfl in_Rec (by decide) rfl rfl (by decide +kernel) rfl rfl (Nat.le_of_ble_eq_true rfl) (by rw [ct_rec hi]; simp [wI, upA, upd]) ct_oI hl hd kk
theorem gf_Rec_length (C : Fx X D own cc nL d ret) {i : Nat} (hi : i < 48) (hl : FL own index R_Rec "length" "I") (hd : decode cc pc = .ok (.getfield index, 3))
    (kk : G X D Q z ((c, τ) : Sg) (pc + 3) L (.int (c.1 (26 + i) 2) :: st)) : G X D Q z ((c, τ) : Sg) pc L (.ref (aRec D i) :: st) :=
  g_get C (t := (26 + i)) (ci := 3) (k := 2) (T := F_Rec) (N := 7) (by omega) (ct_rec hi) rfl in_Rec (by decide) rfl hl rfl hd kk
theorem gp_Rec_length (C : Fx X D own cc nL d ret) {i : Nat} (hi : i < 48) {v : Int32} (hl : FL own index R_Rec "length" "I") (hd : decode cc pc = .ok (.putfield index, 3))
    (kk : G X D Q z ((wI c (26 + i) 2 v, τ) : Sg) (pc + 3) L st) : G X D Q z ((c, τ) : Sg) pc L (.int v :: .ref (aRec D i) :: st) :=
  g_put C (t := (26 + i)) (ci := 3) (k := 2) (T := F_Rec) (N := 7) (ty := .int) t_Rec t_Rec_ok n_Rec (by omega) (ct_rec hi) rfl in_Rec (by decide) rfl rfl (by decide +kernel) rfl rfl (Nat.le_of_ble_eq_true rfl) (by rw [ct_rec hi]; simp [wI, upA, upd]) ct_oI hl hd kk
theorem gf_Rec_base (C : Fx X D own cc nL d ret) {i : Nat} (hi : i < 48) (hl : FL own index R_Rec "base" "I") (hd : decode cc pc = .ok (.getfield index, 3))
    (kk : G X D Q z ((c, τ) : Sg) (pc + 3) L (.int (c.1 (26 + i) 3) :: st)) : G X D Q z ((c, τ) : Sg) pc L (.ref (aRec D i) :: st) :=
  g_get C (t := (26 + i)) (ci := 3) (k := 3) (T := F_Rec) (N := 7) (by omega) (ct_rec hi) rfl in_Rec (by decide) rfl hl rfl hd kk
theorem gp_Rec_base (C : Fx X D own cc nL d ret) {i : Nat} (hi : i < 48) {v : Int32} (hl : FL own index R_Rec "base" "I") (hd : decode cc pc = .ok (.putfield index, 3))
    (kk : G X D Q z ((wI c (26 + i) 3 v, τ) : Sg) (pc + 3) L st) : G X D Q z ((c, τ) : Sg) pc L (.int v :: .ref (aRec D i) :: st) :=
  g_put C (t := (26 + i)) (ci := 3) (k := 3) (T := F_Rec) (N := 7) (ty := .int) t_Rec t_Rec_ok n_Rec (by omega) (ct_rec hi) rfl in_Rec (by decide) rfl rfl (by decide +kernel) rfl rfl (Nat.le_of_ble_eq_true rfl) (by rw [ct_rec hi]; simp [wI, upA, upd]) ct_oI hl hd kk
theorem gf_Rec_p1 (C : Fx X D own cc nL d ret) {i : Nat} (hi : i < 48) (hl : FL own index R_Rec "p1" "I") (hd : decode cc pc = .ok (.getfield index, 3))
    (kk : G X D Q z ((c, τ) : Sg) (pc + 3) L (.int (c.1 (26 + i) 4) :: st)) : G X D Q z ((c, τ) : Sg) pc L (.ref (aRec D i) :: st) :=
  g_get C (t := (26 + i)) (ci := 3) (k := 4) (T := F_Rec) (N := 7) (by omega) (ct_rec hi) rfl in_Rec (by decide) rfl hl rfl hd kk
theorem gp_Rec_p1 (C : Fx X D own cc nL d ret) {i : Nat} (hi : i < 48) {v : Int32} (hl : FL own index R_Rec "p1" "I") (hd : decode cc pc = .ok (.putfield index, 3))
    (kk : G X D Q z ((wI c (26 + i) 4 v, τ) : Sg) (pc + 3) L st) : G X D Q z ((c, τ) : Sg) pc L (.int v :: .ref (aRec D i) :: st) :=
  g_put C (t := (26 + i)) (ci := 3) (k := 4) (T := F_Rec) (N := 7) (ty := .int) t_Rec t_Rec_ok n_Rec (by omega) (ct_rec hi) rfl in_Rec (by decide) rfl rfl (by decide +kernel) rfl rfl (Nat.le_of_ble_eq_true rfl) (by rw [ct_rec hi]; simp [wI, upA, upd]) ct_oI hl hd kk
theorem gf_Rec_p2 (C : Fx X D own cc nL d ret) {i : Nat} (hi : i < 48) (hl : FL own index R_Rec "p2" "I") (hd : decode cc pc = .ok (.getfield index, 3))
    (kk : G X D Q z ((c, τ) : Sg) (pc + 3) L (.int (c.1 (26 + i) 5) :: st)) : G X D Q z ((c, τ) : Sg) pc L (.ref (aRec D i) :: st) :=
  g_get C (t := (26 + i)) (ci := 3) (k := 5) (T := F_Rec) (N := 7) (by omega) (ct_rec hi) rfl in_Rec (by decide) rfl hl rfl hd kk
theorem gp_Rec_p2 (C : Fx X D own cc nL d ret) {i : Nat} (hi : i < 48) {v : Int32} (hl : FL own index R_Rec "p2" "I") (hd : decode cc pc = .ok (.putfield index, 3))
    (kk : G X D Q z ((wI c (26 + i) 5 v, τ) : Sg) (pc + 3) L st) : G X D Q z ((c, τ) : Sg) pc L (.int v :: .ref (aRec D i) :: st) :=
  g_put C (t := (26 + i)) (ci := 3) (k := 5) (T := F_Rec) (N := 7) (ty := .int) t_Rec t_Rec_ok n_Rec (by omega) (ct_rec hi) rfl in_Rec (by decide) rfl rfl (by decide +kernel) rfl rfl (Nat.le_of_ble_eq_true rfl) (by rw [ct_rec hi]; simp [wI, upA, upd]) ct_oI hl hd kk
theorem gf_Rec_node (C : Fx X D own cc nL d ret) {i : Nat} (hi : i < 48) (hl : FL own index R_Rec "node" "J") (hd : decode cc pc = .ok (.getfield index, 3))
    (kk : G X D Q z ((c, τ) : Sg) (pc + 3) L (.long (c.2 i) :: st)) : G X D Q z ((c, τ) : Sg) pc L (.ref (aRec D i) :: st) :=
  g_get C (t := (26 + i)) (ci := 3) (k := 6) (T := F_Rec) (N := 7) (by omega) (ct_rec hi) rfl in_Rec (by decide) rfl hl rfl hd kk
theorem gp_Rec_node (C : Fx X D own cc nL d ret) {i : Nat} (hi : i < 48) {v : Int64} (hl : FL own index R_Rec "node" "J") (hd : decode cc pc = .ok (.putfield index, 3))
    (kk : G X D Q z ((wN c i v, τ) : Sg) (pc + 3) L st) : G X D Q z ((c, τ) : Sg) pc L (.long v :: .ref (aRec D i) :: st) :=
  g_put C (t := (26 + i)) (ci := 3) (k := 6) (T := F_Rec) (N := 7) (ty := .long) t_Rec t_Rec_ok n_Rec (by omega) (ct_rec hi) rfl in_Rec (by decide) rfl rfl (by decide +kernel) rfl rfl (Nat.le_of_ble_eq_true rfl) (by rw [ct_rec hi]; simp [wN, vp_updL]) ct_oN hl hd kk
theorem gf_M_thrown (C : Fx X D own cc nL d ret) (hl : FL own index R_M "thrown" "I") (hd : decode cc pc = .ok (.getfield index, 3))
    (kk : G X D Q z ((c, m, ow) : Sg) (pc + 3) L (.int (m.1 0 0) :: st)) : G X D Q z ((c, m, ow) : Sg) pc L (.ref (aMdl D) :: st) :=
  g_get C (t := 74) (ci := 4) (k := 0) (T := F_M) (N := 23) (by decide) ct_mdl rfl in_M (by decide) rfl hl rfl hd kk
theorem gp_M_thrown (C : Fx X D own cc nL d ret) {v : Int32} (hl : FL own index R_M "thrown" "I") (hd : decode cc pc = .ok (.putfield index, 3))
    (kk : G X D Q z ((c, wI m 0 0 v, ow) : Sg) (pc + 3) L st) : G X D Q z ((c, m, ow) : Sg) pc L (.int v :: .ref (aMdl D) :: st) :=
  g_put C (t := 74) (ci := 4) (k := 0) (T := F_M) (N := 23) (ty := .int) t_M t_M_ok n_M (by decide) ct_mdl rfl in_M (by decide) rfl rfl (by decide +kernel) rfl rfl (Nat.le_of_ble_eq_true rfl) (by rw [ct_mdl]; simp [wI, upA, upd]) (ct_mI (i := 0)) hl hd kk
theorem gf_M_size (C : Fx X D own cc nL d ret) (hl : FL own index R_M "size" "I") (hd : decode cc pc = .ok (.getfield index, 3))
    (kk : G X D Q z ((c, m, ow) : Sg) (pc + 3) L (.int (m.1 0 1) :: st)) : G X D Q z ((c, m, ow) : Sg) pc L (.ref (aMdl D) :: st) :=
  g_get C (t := 74) (ci := 4) (k := 1) (T := F_M) (N := 23) (by decide) ct_mdl rfl in_M (by decide) rfl hl rfl hd kk
theorem gp_M_size (C : Fx X D own cc nL d ret) {v : Int32} (hl : FL own index R_M "size" "I") (hd : decode cc pc = .ok (.putfield index, 3))
    (kk : G X D Q z ((c, wI m 0 1 v, ow) : Sg) (pc + 3) L st) : G X D Q z ((c, m, ow) : Sg) pc L (.int v :: .ref (aMdl D) :: st) :=
  g_put C (t := 74) (ci := 4) (k := 1) (T := F_M) (N := 23) (ty := .int) t_M t_M_ok n_M (by decide) ct_mdl rfl in_M (by decide) rfl rfl (by decide +kernel) rfl rfl (Nat.le_of_ble_eq_true rfl) (by rw [ct_mdl]; simp [wI, upA, upd]) (ct_mI (i := 0)) hl hd kk
theorem gf_M_buf (C : Fx X D own cc nL d ret) (hl : FL own index R_M "buf" "[I") (hd : decode cc pc = .ok (.getfield index, 3))
    (kk : G X D Q z ((c, m, ow) : Sg) (pc + 3) L (.ref (aMar D 1) :: st)) : G X D Q z ((c, m, ow) : Sg) pc L (.ref (aMdl D) :: st) :=
  g_get C (t := 74) (ci := 4) (k := 2) (T := F_M) (N := 23) (by decide) ct_mdl rfl in_M (by decide) rfl hl rfl hd kk
theorem gf_M_bytes (C : Fx X D own cc nL d ret) (hl : FL own index R_M "bytes" "[I") (hd : decode cc pc = .ok (.getfield index, 3))
    (kk : G X D Q z ((c, m, ow) : Sg) (pc + 3) L (.ref (aMar D 2) :: st)) : G X D Q z ((c, m, ow) : Sg) pc L (.ref (aMdl D) :: st) :=
  g_get C (t := 74) (ci := 4) (k := 3) (T := F_M) (N := 23) (by decide) ct_mdl rfl in_M (by decide) rfl hl rfl hd kk
theorem gf_M_dataLen (C : Fx X D own cc nL d ret) (hl : FL own index R_M "dataLen" "[I") (hd : decode cc pc = .ok (.getfield index, 3))
    (kk : G X D Q z ((c, m, ow) : Sg) (pc + 3) L (.ref (aMar D 3) :: st)) : G X D Q z ((c, m, ow) : Sg) pc L (.ref (aMdl D) :: st) :=
  g_get C (t := 74) (ci := 4) (k := 4) (T := F_M) (N := 23) (by decide) ct_mdl rfl in_M (by decide) rfl hl rfl hd kk
theorem gf_M_count (C : Fx X D own cc nL d ret) (hl : FL own index R_M "count" "[I") (hd : decode cc pc = .ok (.getfield index, 3))
    (kk : G X D Q z ((c, m, ow) : Sg) (pc + 3) L (.ref (aMar D 4) :: st)) : G X D Q z ((c, m, ow) : Sg) pc L (.ref (aMdl D) :: st) :=
  g_get C (t := 74) (ci := 4) (k := 5) (T := F_M) (N := 23) (by decide) ct_mdl rfl in_M (by decide) rfl hl rfl hd kk
theorem gf_M_offset (C : Fx X D own cc nL d ret) (hl : FL own index R_M "offset" "[I") (hd : decode cc pc = .ok (.getfield index, 3))
    (kk : G X D Q z ((c, m, ow) : Sg) (pc + 3) L (.ref (aMar D 5) :: st)) : G X D Q z ((c, m, ow) : Sg) pc L (.ref (aMdl D) :: st) :=
  g_get C (t := 74) (ci := 4) (k := 6) (T := F_M) (N := 23) (by decide) ct_mdl rfl in_M (by decide) rfl hl rfl hd kk
theorem gf_M_chunk (C : Fx X D own cc nL d ret) (hl : FL own index R_M "chunk" "[I") (hd : decode cc pc = .ok (.getfield index, 3))
    (kk : G X D Q z ((c, m, ow) : Sg) (pc + 3) L (.ref (aMar D 6) :: st)) : G X D Q z ((c, m, ow) : Sg) pc L (.ref (aMdl D) :: st) :=
  g_get C (t := 74) (ci := 4) (k := 7) (T := F_M) (N := 23) (by decide) ct_mdl rfl in_M (by decide) rfl hl rfl hd kk
theorem gf_M_length (C : Fx X D own cc nL d ret) (hl : FL own index R_M "length" "[I") (hd : decode cc pc = .ok (.getfield index, 3))
    (kk : G X D Q z ((c, m, ow) : Sg) (pc + 3) L (.ref (aMar D 7) :: st)) : G X D Q z ((c, m, ow) : Sg) pc L (.ref (aMdl D) :: st) :=
  g_get C (t := 74) (ci := 4) (k := 8) (T := F_M) (N := 23) (by decide) ct_mdl rfl in_M (by decide) rfl hl rfl hd kk
theorem gf_M_base (C : Fx X D own cc nL d ret) (hl : FL own index R_M "base" "[I") (hd : decode cc pc = .ok (.getfield index, 3))
    (kk : G X D Q z ((c, m, ow) : Sg) (pc + 3) L (.ref (aMar D 8) :: st)) : G X D Q z ((c, m, ow) : Sg) pc L (.ref (aMdl D) :: st) :=
  g_get C (t := 74) (ci := 4) (k := 9) (T := F_M) (N := 23) (by decide) ct_mdl rfl in_M (by decide) rfl hl rfl hd kk
theorem gf_M_first (C : Fx X D own cc nL d ret) (hl : FL own index R_M "first" "[I") (hd : decode cc pc = .ok (.getfield index, 3))
    (kk : G X D Q z ((c, m, ow) : Sg) (pc + 3) L (.ref (aMar D 9) :: st)) : G X D Q z ((c, m, ow) : Sg) pc L (.ref (aMdl D) :: st) :=
  g_get C (t := 74) (ci := 4) (k := 10) (T := F_M) (N := 23) (by decide) ct_mdl rfl in_M (by decide) rfl hl rfl hd kk
theorem gf_M_second (C : Fx X D own cc nL d ret) (hl : FL own index R_M "second" "[I") (hd : decode cc pc = .ok (.getfield index, 3))
    (kk : G X D Q z ((c, m, ow) : Sg) (pc + 3) L (.ref (aMar D 10) :: st)) : G X D Q z ((c, m, ow) : Sg) pc L (.ref (aMdl D) :: st) :=
  g_get C (t := 74) (ci := 4) (k := 11) (T := F_M) (N := 23) (by decide) ct_mdl rfl in_M (by decide) rfl hl rfl hd kk
theorem gf_M_nodes (C : Fx X D own cc nL d ret) (hl : FL own index R_M "nodes" "[J") (hd : decode cc pc = .ok (.getfield index, 3))
    (kk : G X D Q z ((c, m, ow) : Sg) (pc + 3) L (.ref (aNds D) :: st)) : G X D Q z ((c, m, ow) : Sg) pc L (.ref (aMdl D) :: st) :=
  g_get C (t := 74) (ci := 4) (k := 12) (T := F_M) (N := 23) (by decide) ct_mdl rfl in_M (by decide) rfl hl rfl hd kk
theorem gf_M_journalData (C : Fx X D own cc nL d ret) (hl : FL own index R_M "journalData" "[I") (hd : decode cc pc = .ok (.getfield index, 3))
    (kk : G X D Q z ((c, m, ow) : Sg) (pc + 3) L (.ref (aMar D 11) :: st)) : G X D Q z ((c, m, ow) : Sg) pc L (.ref (aMdl D) :: st) :=
  g_get C (t := 74) (ci := 4) (k := 13) (T := F_M) (N := 23) (by decide) ct_mdl rfl in_M (by decide) rfl hl rfl hd kk
theorem gf_M_journalCount (C : Fx X D own cc nL d ret) (hl : FL own index R_M "journalCount" "[I") (hd : decode cc pc = .ok (.getfield index, 3))
    (kk : G X D Q z ((c, m, ow) : Sg) (pc + 3) L (.ref (aMar D 12) :: st)) : G X D Q z ((c, m, ow) : Sg) pc L (.ref (aMdl D) :: st) :=
  g_get C (t := 74) (ci := 4) (k := 14) (T := F_M) (N := 23) (by decide) ct_mdl rfl in_M (by decide) rfl hl rfl hd kk
theorem gf_M_down (C : Fx X D own cc nL d ret) (hl : FL own index R_M "down" "[Z") (hd : decode cc pc = .ok (.getfield index, 3))
    (kk : G X D Q z ((c, m, ow) : Sg) (pc + 3) L (.ref (aDwn D) :: st)) : G X D Q z ((c, m, ow) : Sg) pc L (.ref (aMdl D) :: st) :=
  g_get C (t := 74) (ci := 4) (k := 15) (T := F_M) (N := 23) (by decide) ct_mdl rfl in_M (by decide) rfl hl rfl hd kk
theorem gf_M_failing (C : Fx X D own cc nL d ret) (hl : FL own index R_M "failing" "[I") (hd : decode cc pc = .ok (.getfield index, 3))
    (kk : G X D Q z ((c, m, ow) : Sg) (pc + 3) L (.ref (aMar D 13) :: st)) : G X D Q z ((c, m, ow) : Sg) pc L (.ref (aMdl D) :: st) :=
  g_get C (t := 74) (ci := 4) (k := 16) (T := F_M) (N := 23) (by decide) ct_mdl rfl in_M (by decide) rfl hl rfl hd kk
theorem gf_M_builtLen (C : Fx X D own cc nL d ret) (hl : FL own index R_M "builtLen" "I") (hd : decode cc pc = .ok (.getfield index, 3))
    (kk : G X D Q z ((c, m, ow) : Sg) (pc + 3) L (.int (m.1 0 2) :: st)) : G X D Q z ((c, m, ow) : Sg) pc L (.ref (aMdl D) :: st) :=
  g_get C (t := 74) (ci := 4) (k := 17) (T := F_M) (N := 23) (by decide) ct_mdl rfl in_M (by decide) rfl hl rfl hd kk
theorem gp_M_builtLen (C : Fx X D own cc nL d ret) {v : Int32} (hl : FL own index R_M "builtLen" "I") (hd : decode cc pc = .ok (.putfield index, 3))
    (kk : G X D Q z ((c, wI m 0 2 v, ow) : Sg) (pc + 3) L st) : G X D Q z ((c, m, ow) : Sg) pc L (.int v :: .ref (aMdl D) :: st) :=
  g_put C (t := 74) (ci := 4) (k := 17) (T := F_M) (N := 23) (ty := .int) t_M t_M_ok n_M (by decide) ct_mdl rfl in_M (by decide) rfl rfl (by decide +kernel) rfl rfl (Nat.le_of_ble_eq_true rfl) (by rw [ct_mdl]; simp [wI, upA, upd]) (ct_mI (i := 0)) hl hd kk
theorem gf_M_built (C : Fx X D own cc nL d ret) (hl : FL own index R_M "built" "[I") (hd : decode cc pc = .ok (.getfield index, 3))
    (kk : G X D Q z ((c, m, ow) : Sg) (pc + 3) L (.ref (aMar D 14) :: st)) : G X D Q z ((c, m, ow) : Sg) pc L (.ref (aMdl D) :: st) :=
  g_get C (t := 74) (ci := 4) (k := 18) (T := F_M) (N := 23) (by decide) ct_mdl rfl in_M (by decide) rfl hl rfl hd kk
theorem gf_M_next (C : Fx X D own cc nL d ret) (hl : FL own index R_M "next" "[I") (hd : decode cc pc = .ok (.getfield index, 3))
    (kk : G X D Q z ((c, m, ow) : Sg) (pc + 3) L (.ref (aMar D 15) :: st)) : G X D Q z ((c, m, ow) : Sg) pc L (.ref (aMdl D) :: st) :=
  g_get C (t := 74) (ci := 4) (k := 19) (T := F_M) (N := 23) (by decide) ct_mdl rfl in_M (by decide) rfl hl rfl hd kk
theorem gf_M_chain (C : Fx X D own cc nL d ret) (hl : FL own index R_M "chain" "[I") (hd : decode cc pc = .ok (.getfield index, 3))
    (kk : G X D Q z ((c, m, ow) : Sg) (pc + 3) L (.ref (aMar D 16) :: st)) : G X D Q z ((c, m, ow) : Sg) pc L (.ref (aMdl D) :: st) :=
  g_get C (t := 74) (ci := 4) (k := 20) (T := F_M) (N := 23) (by decide) ct_mdl rfl in_M (by decide) rfl hl rfl hd kk
theorem gf_M_textLen (C : Fx X D own cc nL d ret) (hl : FL own index R_M "textLen" "I") (hd : decode cc pc = .ok (.getfield index, 3))
    (kk : G X D Q z ((c, m, ow) : Sg) (pc + 3) L (.int (m.1 0 3) :: st)) : G X D Q z ((c, m, ow) : Sg) pc L (.ref (aMdl D) :: st) :=
  g_get C (t := 74) (ci := 4) (k := 21) (T := F_M) (N := 23) (by decide) ct_mdl rfl in_M (by decide) rfl hl rfl hd kk
theorem gp_M_textLen (C : Fx X D own cc nL d ret) {v : Int32} (hl : FL own index R_M "textLen" "I") (hd : decode cc pc = .ok (.putfield index, 3))
    (kk : G X D Q z ((c, wI m 0 3 v, ow) : Sg) (pc + 3) L st) : G X D Q z ((c, m, ow) : Sg) pc L (.int v :: .ref (aMdl D) :: st) :=
  g_put C (t := 74) (ci := 4) (k := 21) (T := F_M) (N := 23) (ty := .int) t_M t_M_ok n_M (by decide) ct_mdl rfl in_M (by decide) rfl rfl (by decide +kernel) rfl rfl (Nat.le_of_ble_eq_true rfl) (by rw [ct_mdl]; simp [wI, upA, upd]) (ct_mI (i := 0)) hl hd kk
theorem gf_M_text (C : Fx X D own cc nL d ret) (hl : FL own index R_M "text" "[I") (hd : decode cc pc = .ok (.getfield index, 3))
    (kk : G X D Q z ((c, m, ow) : Sg) (pc + 3) L (.ref (aMar D 17) :: st)) : G X D Q z ((c, m, ow) : Sg) pc L (.ref (aMdl D) :: st) :=
  g_get C (t := 74) (ci := 4) (k := 22) (T := F_M) (N := 23) (by decide) ct_mdl rfl in_M (by decide) rfl hl rfl hd kk
theorem ga_row (C : Fx X D own cc nL d ret) {j : Nat} {x : Int32} (hj : j < 9) (hi : vp_in x (rln j)) (hd : decode cc pc = .ok (.iaload, 1)) (kk : G X D Q z ((c, τ) : Sg) (pc + 1) L (.int (c.1 (10 + j) x.toNatClampNeg) :: st)) : G X D Q z ((c, τ) : Sg) pc L (.int x :: .ref (aArr D j) :: st) := g_ial C (t := 10 + j) (by omega) (ct_arr hj) hi hd kk
theorem gs_row (C : Fx X D own cc nL d ret) {j : Nat} {x v : Int32} (hj : j < 9) (hi : vp_in x (rln j)) (hd : decode cc pc = .ok (.iastore, 1)) (kk : G X D Q z ((wI c (10 + j) x.toNatClampNeg v, τ) : Sg) (pc + 1) L st) : G X D Q z ((c, τ) : Sg) pc L (.int v :: .int x :: .ref (aArr D j) :: st) := g_ias C (t := 10 + j) (by omega) (ct_arr hj) (by rw [ct_arr hj]; simp [wI, upA]) ct_oI hi hd kk
theorem gl_row (C : Fx X D own cc nL d ret) {j : Nat} (hj : j < 9) (hd : decode cc pc = .ok (.arraylength, 1)) (kk : G X D Q z ((c, τ) : Sg) (pc + 1) L (.int (nI (rln j)) :: st)) : G X D Q z ((c, τ) : Sg) pc L (.ref (aArr D j) :: st) := g_alen C (t := 10 + j) (t0 := 0) (by omega) (ct_arr hj) rfl rfl hd kk
theorem ga_chn (C : Fx X D own cc nL d ret) {r : Nat} {x : Int32} (hr : r < 2) (hi : vp_in x 6) (hd : decode cc pc = .ok (.iaload, 1)) (kk : G X D Q z ((c, τ) : Sg) (pc + 1) L (.int (c.1 (24 + r) x.toNatClampNeg) :: st)) : G X D Q z ((c, τ) : Sg) pc L (.int x :: .ref (aChn D r) :: st) := g_ial C (t := 24 + r) (by omega) (ct_chn hr) hi hd kk
theorem gs_chn (C : Fx X D own cc nL d ret) {r : Nat} {x v : Int32} (hr : r < 2) (hi : vp_in x 6) (hd : decode cc pc = .ok (.iastore, 1)) (kk : G X D Q z ((wI c (24 + r) x.toNatClampNeg v, τ) : Sg) (pc + 1) L st) : G X D Q z ((c, τ) : Sg) pc L (.int v :: .int x :: .ref (aChn D r) :: st) := g_ias C (t := 24 + r) (by omega) (ct_chn hr) (by rw [ct_chn hr]; simp [wI, upA]) ct_oI hi hd kk
theorem ga_rps (C : Fx X D own cc nL d ret) {r : Nat} (hr : r < 2) (hd : decode cc pc = .ok (.aaload, 1)) (kk : G X D Q z ((c, τ) : Sg) (pc + 1) L (.ref (aRep D r) :: st)) : G X D Q z ((c, τ) : Sg) pc L (.int (nI r) :: .ref (aRps D) :: st) := g_aal C (t := 19) (t0 := 3) (by decide) rfl ct_rps (vp_in_nI hr (by decide)) (by rw [nI_clamp (by omega)]) hd kk
theorem ga_rcs (C : Fx X D own cc nL d ret) {r n : Nat} (hr : r < 2) (hn : n < 24) (hd : decode cc pc = .ok (.aaload, 1)) (kk : G X D Q z ((c, τ) : Sg) (pc + 1) L (.ref (aRec D (24 * r + n)) :: st)) : G X D Q z ((c, τ) : Sg) pc L (.int (nI n) :: .ref (aRcs D r) :: st) := g_aal C (t := 22 + r) (t0 := 4) (by omega) rfl (ct_rcs hr) (vp_in_nI hn (by decide)) (by rw [nI_clamp (by omega)]) hd kk
theorem ga_mar (C : Fx X D own cc nL d ret) {a : Nat} {x : Int32} (h1 : 1 ≤ a) (ha : a ≤ 17) (hi : vp_in x (mln a)) (hd : decode cc pc = .ok (.iaload, 1)) (kk : G X D Q z ((c, m, ow) : Sg) (pc + 1) L (.int (m.1 a x.toNatClampNeg) :: st)) : G X D Q z ((c, m, ow) : Sg) pc L (.int x :: .ref (aMar D a) :: st) := g_ial C (t := 74 + a) (by omega) (ct_mar h1 ha) hi hd kk
theorem gs_mar (C : Fx X D own cc nL d ret) {a : Nat} {x v : Int32} (h1 : 1 ≤ a) (ha : a ≤ 17) (hi : vp_in x (mln a)) (hd : decode cc pc = .ok (.iastore, 1)) (kk : G X D Q z ((c, wI m a x.toNatClampNeg v, ow) : Sg) (pc + 1) L st) : G X D Q z ((c, m, ow) : Sg) pc L (.int v :: .int x :: .ref (aMar D a) :: st) := g_ias C (t := 74 + a) (by omega) (ct_mar h1 ha) (by rw [ct_mar h1 ha]; simp [wI, upA]) ct_mI hi hd kk
theorem ga_nds (C : Fx X D own cc nL d ret) {x : Int32} (hi : vp_in x 48) (hd : decode cc pc = .ok (.laload, 1)) (kk : G X D Q z ((c, m, ow) : Sg) (pc + 1) L (.long (m.2 x.toNatClampNeg) :: st)) : G X D Q z ((c, m, ow) : Sg) pc L (.int x :: .ref (aNds D) :: st) := g_lal C (t := 92) (by decide) ct_nds hi hd kk
theorem gs_nds (C : Fx X D own cc nL d ret) {x : Int32} {v : Int64} (hi : vp_in x 48) (hd : decode cc pc = .ok (.lastore, 1)) (kk : G X D Q z ((c, wN m x.toNatClampNeg v, ow) : Sg) (pc + 1) L st) : G X D Q z ((c, m, ow) : Sg) pc L (.long v :: .int x :: .ref (aNds D) :: st) := g_las C (t := 92) (by decide) ct_nds ct_nds ct_mN hi hd kk
theorem ga_dwn (C : Fx X D own cc nL d ret) {x : Int32} (hi : vp_in x 2) (hd : decode cc pc = .ok (.baload, 1)) (kk : G X D Q z ((c, m, ow) : Sg) (pc + 1) L (.int (m.1 19 x.toNatClampNeg) :: st)) : G X D Q z ((c, m, ow) : Sg) pc L (.int x :: .ref (aDwn D) :: st) := g_zal C (t := 93) (by decide) ct_dwn hi hd kk
theorem nar_b {v : Int32} (h : v = 0 ∨ v = 1) : vp_nar .boolean v = v := by rcases h with rfl | rfl <;> rfl
theorem gs_dwn (C : Fx X D own cc nL d ret) {x v : Int32} (hz : v = 0 ∨ v = 1) (hi : vp_in x 2) (hd : decode cc pc = .ok (.bastore, 1)) (kk : G X D Q z ((c, wI m 19 x.toNatClampNeg v, ow) : Sg) (pc + 1) L st) : G X D Q z ((c, m, ow) : Sg) pc L (.int v :: .int x :: .ref (aDwn D) :: st) := g_zas C (t := 93) (by decide) ct_dwn (by rw [ct_dwn, nar_b hz]; simp [wI, upA]) (ct_mI (i := 19)) hi hd kk
end GFLD
