set_option maxRecDepth 100000 in
set_option maxHeartbeats 4000000 in
theorem x_Rep_build (l : Launch) {D : Dt} (hD : OkD D) {r : Nat} {c : Cs} {τ : Cs × (Nat → Int64)} {rs : List Rc} {d y : List Nat} {n : Nat} (hr : r < 2) (hx : RcX c r rs) (hd : RowIs c (1 + 4 * r) d) (yd : By d) (hw : ∀ n x, rs[n]? = some x → WfX d.length rs n x) (hn : n < rs.length) (hb : RowIs c (2 + 4 * r) y) : Cp l D y_Rep_build b_Rep_build 7 (some .boolean) 5 [.int (nI n), .ref (aRep D r)] ((c, τ) : Sg) (fun a u => ∃ c2, u = ((c2, τ) : Sg) ∧ Sm (Bp r) c c2 ∧ ((∃ t, built d rs n = some t ∧ a = some (.int 1) ∧ RowIs c2 (2 + 4 * r) t) ∨ (built d rs n = none ∧ a = some (.int 0) ∧ ∃ y, RowIs c2 (2 + 4 * r) y))) := by
  have h24 := hx.1
  have q1 := rl_1 hr
  have q2 := rl_2 hr
  have q3 := hd.2.1
  obtain ⟨xn, hxn⟩ : ∃ x, rs[n]? = some x := ⟨_, List.getElem?_eq_getElem hn⟩
  have hwn := hw n xn hxn
  have hch := hwn.2.2.2.2.2.2.2
  have hte := txt_evl d rs 6 n hch
  have hll := cl_len rs 6 (some n)
  have hla := cl_at rs 6 (some n) hch
  have hl0 : cl rs 6 (some n) = n :: cl rs 5 xn.bas := cl_s hxn
  generalize hl : cl rs 6 (some n) = l at hte hll hla hl0
  have hl1 : 1 ≤ l.length := by rw [hl0]; simp
  have nb : ∀ {c1 : Cs}, Sm (Bp r) c c1 → RowIs c1 (1 + 4 * r) d ∧ RcX c1 r rs := fun {c1} hs => ⟨hd.sm hs (by unfold Bp Rw; omega) (by unfold Bp Rw; omega), hx.sm hs (fun t ht => by unfold Bp Rw; omega)⟩
  have hlt : ∀ i a, l[i]? = some a → a < 24 := fun i a h => by
    obtain ⟨x, h1, -⟩ := hla i a h
    exact hx.lt h1
  refine Cp.of hD (by decide) (Nat.le_of_ble_eq_true rfl) [(0, some (.ref (aRep D r))), (1, some (.int (nI n)))] rfl (fun X hX C => ?_)
  subst hX
  have evn0 : ∀ m, m ≤ l.length → evl d rs (l.drop m) = none → m < l.length → evl d rs l = none := by
    intro m
    induction m with
    | zero => intro _ h _; exact h
    | succ m ih =>
      intro h1 h2 h3
      refine ih (by omega) ?_ (by omega)
      have hm : m < l.length := by omega
      rw [List.drop_eq_getElem_cons hm, evl_c (fun e => by have := congrArg List.length e; rw [List.length_drop] at this; simp at this; omega), h2]
      rfl
  have k124 : ∀ (m : Nat), (∀ (c1 : Cs), m ≤ l.length → (∀ i a, l[i]? = some a → c1.1 (24 + r) i = nI a) → Sm (Bp r) c c1 → ((m = l.length ∧ RowIs c1 (2 + 4 * r) []) ∨ (m < l.length ∧ ∃ t, evl d rs (l.drop m) = some t ∧ RowIs c1 (2 + 4 * r) t)) → G X D (Qp X D (fun a u => ∃ c2, u = ((c2, τ) : Sg) ∧ Sm (Bp r) c c2 ∧ ((∃ t, built d rs n = some t ∧ a = some (.int 1) ∧ RowIs c2 (2 + 4 * r) t) ∨ (built d rs n = none ∧ a = some (.int 0) ∧ ∃ y, RowIs c2 (2 + 4 * r) y)))) (0, 0) ((c1, τ) : Sg) 51 [(0, some (.ref (aRep D r))), (1, some (.int (nI n))), (4, some (.int (eo (pd m))))] []) → ∀ {c1 : Cs}, m + 1 ≤ l.length → (∀ i a, l[i]? = some a → c1.1 (24 + r) i = nI a) → Sm (Bp r) c c1 → ∀ (c3 : Cs) (v : Int32), Sm (Rw (2 + 4 * r)) c1 c3 → ((∃ t, evl d rs (l.drop m) = some t ∧ v = 1 ∧ RowIs c3 (2 + 4 * r) t) ∨ (evl d rs (l.drop m) = none ∧ v = 0 ∧ ∃ x, RowIs c3 (2 + 4 * r) x)) → G X D (Qp X D (fun a u => ∃ c2, u = ((c2, τ) : Sg) ∧ Sm (Bp r) c c2 ∧ ((∃ t, built d rs n = some t ∧ a = some (.int 1) ∧ RowIs c2 (2 + 4 * r) t) ∨ (built d rs n = none ∧ a = some (.int 0) ∧ ∃ y, RowIs c2 (2 + 4 * r) y)))) (0, 0) ((c3, τ) : Sg) 124 [(0, some (.ref (aRep D r))), (1, some (.int (nI n))), (4, some (.int (nI m)))] [.int v] := by
    intro m ih c1 hm hc hs c3 v s3 hp
    have s3u : Sm (Bp r) c1 c3 := s3.up (fun t q => Or.inr q)
    rcases hp with ⟨t3, e1, rfl, r3⟩ | ⟨e1, rfl, y3⟩
    · skip
      refine g_istore (pc := 124) C d_Rep_build_124 (by decide) rfl ?_
      refine g_iload (pc := 126) C d_Rep_build_126 rfl ?_
      refine g_if_ne (pc := 128) (tgt := 133) C d_Rep_build_128 (by decide) (fun h128 => ?_) (fun h128 => ?_)
      · skip
        refine g_iinc (pc := 133) C d_Rep_build_133 rfl (v := eo (pd m)) (pd_dec m) rfl ?_
        refine g_goto (pc := 136) (tgt := 51) C d_Rep_build_136 (by decide) ?_
        exact G.lf (ih c3 (by omega) (fun i a h => by rw [s3.1 _ (by unfold Rw; omega)]; exact hc i a h) (hs.tr s3u) (Or.inr ⟨by omega, t3, e1, r3⟩)) (sb rfl (sb rfl (sb rfl sn)))
      · first | exact absurd h128 (by decide) | exact absurd (by decide) h128
    · skip
      refine g_istore (pc := 124) C d_Rep_build_124 (by decide) rfl ?_
      refine g_iload (pc := 126) C d_Rep_build_126 rfl ?_
      refine g_if_ne (pc := 128) (tgt := 133) C d_Rep_build_128 (by decide) (fun h128 => ?_) (fun h128 => ?_)
      · first | exact absurd h128 (rfl) | exact absurd (rfl) h128
      · skip
        refine g_iconst (pc := 131) C d_Rep_build_131 ic_0 ?_
        refine g_zret (pc := 132) C d_Rep_build_132 (by first | exact Or.inl rfl | exact Or.inr rfl) ?_
        refine ⟨c3, rfl, hs.tr s3u, Or.inr ⟨?_, rfl, y3⟩⟩
        apply built_none
        rw [hte]
        exact evn0 m (by omega) e1 (by omega)
  have loop2 : ∀ (m : Nat) (c1 : Cs), m ≤ l.length → (∀ i a, l[i]? = some a → c1.1 (24 + r) i = nI a) → Sm (Bp r) c c1 → ((m = l.length ∧ RowIs c1 (2 + 4 * r) []) ∨ (m < l.length ∧ ∃ t, evl d rs (l.drop m) = some t ∧ RowIs c1 (2 + 4 * r) t)) → G X D (Qp X D (fun a u => ∃ c2, u = ((c2, τ) : Sg) ∧ Sm (Bp r) c c2 ∧ ((∃ t, built d rs n = some t ∧ a = some (.int 1) ∧ RowIs c2 (2 + 4 * r) t) ∨ (built d rs n = none ∧ a = some (.int 0) ∧ ∃ y, RowIs c2 (2 + 4 * r) y)))) (0, 0) ((c1, τ) : Sg) 51 [(0, some (.ref (aRep D r))), (1, some (.int (nI n))), (4, some (.int (eo (pd m))))] [] := by
    intro m
    induction m with
    | zero =>
      intro c1 hm hc hs hI
      obtain ⟨t, ht, hrow⟩ : ∃ t, evl d rs l = some t ∧ RowIs c1 (2 + 4 * r) t := by
        rcases hI with ⟨h, -⟩ | ⟨-, h⟩
        · omega
        · exact h
      obtain ⟨hd1, hx1⟩ := nb hs
      have hrec := hx1.2 n xn hxn
      have hbe := built_eq (d := d) hxn
      rw [hte, ht] at hbe
      have q4 := hrow.2.1
      have q5 := hwn.2.2.2.2.2.1
      refine g_iload (pc := 51) C d_Rep_build_51 rfl ?_
      refine g_if_lt (pc := 53) (tgt := 139) C d_Rep_build_53 (by decide) (fun h53 => ?_) (fun h53 => ?_)
      · skip
        refine g_aload_n (pc := 139) (i := 0) C d_Rep_build_139 rfl rfl ?_
        refine gf_Rep_records (pc := 140) C (by omega) fl_Rep_22 d_Rep_build_140 ?_
        refine g_iload_n (pc := 143) (i := 1) C d_Rep_build_143 rfl rfl ?_
        refine ga_rcs (pc := 144) C (by omega) (by omega) d_Rep_build_144 ?_
        refine g_astore (pc := 145) C d_Rep_build_145 (by decide) rfl ?_
        refine g_aload_n (pc := 147) (i := 0) C d_Rep_build_147 rfl rfl ?_
        refine gf_Rep_built (pc := 148) C (by omega) fl_Rep_41 d_Rep_build_148 ?_
        refine gf_Row_length (pc := 151) C (by omega) fl_Rep_62 d_Rep_build_151 ?_
        rw [hrow.1]
        refine g_aload (pc := 154) C d_Rep_build_154 rfl ?_
        refine gf_Rec_length (pc := 156) C (by omega) fl_Rep_199 d_Rep_build_156 ?_
        rw [hrec.2.2.1]
        refine g_icmp_ne (pc := 159) (tgt := 193) C d_Rep_build_159 (by decide) (fun h159 => ?_) (fun h159 => ?_)
        · have hq : ¬ (t.length = xn.len ∧ nodeOf rs xn.pa xn.pb t = xn.nod) := fun q => h159 (by rw [q.1])
          refine g_iconst (pc := 193) C d_Rep_build_193 ic_0 ?_
          refine g_zret (pc := 194) C d_Rep_build_194 (by first | exact Or.inl rfl | exact Or.inr rfl) ?_
          first
            | exact ⟨c1, rfl, hs, Or.inl ⟨t, hbe.trans (if_pos hq), rfl, hrow⟩⟩
            | exact ⟨c1, rfl, hs, Or.inr ⟨hbe.trans (if_neg hq), rfl, t, hrow⟩⟩
        · have hq1 : t.length = xn.len := (nI_eq (by omega) (by omega)).mp h159
          refine g_aload_n (pc := 162) (i := 0) C d_Rep_build_162 rfl rfl ?_
          refine g_aload_n (pc := 163) (i := 0) C d_Rep_build_163 rfl rfl ?_
          refine gf_Rep_built (pc := 164) C (by omega) fl_Rep_41 d_Rep_build_164 ?_
          refine g_aload (pc := 167) C d_Rep_build_167 rfl ?_
          refine gf_Rec_p1 (pc := 169) C (by omega) fl_Rep_95 d_Rep_build_169 ?_
          rw [hrec.2.2.2.2.1]
          refine g_aload (pc := 172) C d_Rep_build_172 rfl ?_
          refine gf_Rec_p2 (pc := 174) C (by omega) fl_Rep_102 d_Rep_build_174 ?_
          rw [hrec.2.2.2.2.2.1]
          refine g_callV1 (pc := 177) (As := [_, _, _]) C my_Rep_nodeOf mv_Rep_nodeOf cl_Rep_112 (is_Rep (by omega)) d_Rep_build_177 (Nat.le_of_ble_eq_true rfl) rfl (Nat.le_of_ble_eq_true rfl) ⟨Nat.zero_le _, Nat.zero_le _⟩ (c_Rep_nodeOf _ hD (by omega) (by omega) hx1 (fun q hq => by have := hwn.2.1 q hq; omega) (fun q hq => by have := hwn.2.2.1 q hq; omega) hrow) ?_
          refine g_aload (pc := 180) C d_Rep_build_180 rfl ?_
          refine gf_Rec_node (pc := 182) C (by omega) fl_Rep_84 d_Rep_build_182 ?_
          rw [hrec.2.2.2.2.2.2]
          refine g_lcmp (pc := 185) C d_Rep_build_185 ?_
          refine g_if_ne (pc := 186) (tgt := 193) C d_Rep_build_186 (by decide) (fun h186 => ?_) (fun h186 => ?_)
          · have hq : ¬ (t.length = xn.len ∧ nodeOf rs xn.pa xn.pb t = xn.nod) := fun q => h186 (lg_c0.mpr q.2)
            refine g_iconst (pc := 193) C d_Rep_build_193 ic_0 ?_
            refine g_zret (pc := 194) C d_Rep_build_194 (by first | exact Or.inl rfl | exact Or.inr rfl) ?_
            first
              | exact ⟨c1, rfl, hs, Or.inl ⟨t, hbe.trans (if_pos hq), rfl, hrow⟩⟩
              | exact ⟨c1, rfl, hs, Or.inr ⟨hbe.trans (if_neg hq), rfl, t, hrow⟩⟩
          · have hq : t.length = xn.len ∧ nodeOf rs xn.pa xn.pb t = xn.nod := ⟨hq1, lg_c0.mp h186⟩
            refine g_iconst (pc := 189) C d_Rep_build_189 ic_1 ?_
            refine g_goto (pc := 190) (tgt := 194) C d_Rep_build_190 (by decide) ?_
            refine g_zret (pc := 194) C d_Rep_build_194 (by first | exact Or.inl rfl | exact Or.inr rfl) ?_
            first
              | exact ⟨c1, rfl, hs, Or.inl ⟨t, hbe.trans (if_pos hq), rfl, hrow⟩⟩
              | exact ⟨c1, rfl, hs, Or.inr ⟨hbe.trans (if_neg hq), rfl, t, hrow⟩⟩
      · first | exact absurd h53 (by decide) | exact absurd (by decide) h53
    | succ m ih =>
      intro c1 hm hc hs hI
      obtain ⟨hd1, hx1⟩ := nb hs
      obtain ⟨a, ha⟩ : ∃ a, l[m]? = some a := ⟨_, List.getElem?_eq_getElem (show m < l.length by omega)⟩
      obtain ⟨x, hxa, hba⟩ := hla m a ha
      have ha24 := hlt m a ha
      have hrec := hx1.2 a x hxa
      have hwa := hw a x hxa
      have w1 := hwa.2.2.2.1
      have w2 := hwa.2.2.2.2.2.2.1
      have hA : chA d rs a = (d.drop x.off).take x.siz := by unfold chA; rw [hxa]; rfl
      have hdm : l.drop m = a :: l.drop (m + 1) := by
        obtain ⟨h1, h2⟩ := List.getElem?_eq_some_iff.mp ha
        rw [List.drop_eq_getElem_cons h1, h2]
      show G X D _ (0, 0) _ 51 [(0, some (.ref (aRep D r))), (1, some (.int (nI n))), (4, some (.int (nI m)))] []
      refine g_iload (pc := 51) C d_Rep_build_51 rfl ?_
      refine g_if_lt (pc := 53) (tgt := 139) C d_Rep_build_53 (by decide) (fun h53 => ?_) (fun h53 => ?_)
      · first | exact absurd h53 (nI_pos (by omega)) | exact absurd (nI_pos (by omega)) h53
      · skip
        refine g_aload_n (pc := 56) (i := 0) C d_Rep_build_56 rfl rfl ?_
        refine gf_Rep_records (pc := 57) C (by omega) fl_Rep_22 d_Rep_build_57 ?_
        refine g_aload_n (pc := 60) (i := 0) C d_Rep_build_60 rfl rfl ?_
        refine gf_Rep_chain (pc := 61) C (by omega) fl_Rep_44 d_Rep_build_61 ?_
        refine g_iload (pc := 64) C d_Rep_build_64 rfl ?_
        refine ga_chn (pc := 66) C (by omega) (vp_in_nI (by omega) (by decide)) d_Rep_build_66 ?_
        rw [nI_clamp (by omega), hc m a ha]
        refine ga_rcs (pc := 67) C (by omega) (by omega) d_Rep_build_67 ?_
        refine g_astore (pc := 68) C d_Rep_build_68 (by decide) rfl ?_
        refine g_aload (pc := 70) C d_Rep_build_70 rfl ?_
        refine gf_Rec_base (pc := 72) C (by omega) fl_Rep_186 d_Rep_build_72 ?_
        rw [hrec.2.2.2.1]
        refine g_iconst (pc := 75) C d_Rep_build_75 ic_m1 ?_
        refine g_icmp_ne (pc := 76) (tgt := 103) C d_Rep_build_76 (by decide) (fun h76 => ?_) (fun h76 => ?_)
        · have hbn : ¬ x.bas = none := fun e => h76 (by rw [e]; rfl)
          obtain ⟨t, ht, hrow⟩ : ∃ t, evl d rs (l.drop (m + 1)) = some t ∧ RowIs c1 (2 + 4 * r) t := by
            rcases hI with ⟨h, -⟩ | ⟨-, h⟩
            · exact absurd (by rw [hba, List.getElem?_eq_none (by omega)]) hbn
            · exact h
          have hml : m + 1 < l.length := by
            rcases hI with ⟨h, -⟩ | ⟨h, -⟩
            · exact absurd (by rw [hba, List.getElem?_eq_none (by omega)]) hbn
            · exact h
          have hne : l.drop (m + 1) ≠ [] := fun e => by
            have := congrArg List.length e
            rw [List.length_drop] at this
            simp at this
            omega
          have hev : evl d rs (l.drop m) = dif ((d.drop x.off).take x.siz) t := by rw [hdm, evl_c hne, ht, hA]; rfl
          refine g_aload_n (pc := 103) (i := 0) C d_Rep_build_103 rfl rfl ?_
          refine gf_Rep_data (pc := 104) C (by omega) fl_Rep_14 d_Rep_build_104 ?_
          refine g_aload (pc := 107) C d_Rep_build_107 rfl ?_
          refine gf_Rec_offset (pc := 109) C (by omega) fl_Rep_189 d_Rep_build_109 ?_
          rw [hrec.1]
          refine g_aload (pc := 112) C d_Rep_build_112 rfl ?_
          refine gf_Rec_size (pc := 114) C (by omega) fl_Rep_183 d_Rep_build_114 ?_
          rw [hrec.2.1]
          refine g_aload_n (pc := 117) (i := 0) C d_Rep_build_117 rfl rfl ?_
          refine gf_Rep_built (pc := 118) C (by omega) fl_Rep_41 d_Rep_build_118 ?_
          refine g_callSp (pc := 121) (As := [_, _, _, _]) C my_Cod_readDifference ms_Cod_readDifference cl_Rep_196 d_Rep_build_121 (Nat.le_of_ble_eq_true rfl) rfl (Nat.le_of_ble_eq_true rfl) ⟨Nat.zero_le _, Nat.zero_le _⟩ (x_Cod_readDifference _ hD (by omega) (by omega) (by omega) hd1 hrow yd (by omega) q2) (fun r121 u121 hp121 => ?_)
          obtain ⟨c3, rfl, s3, hp3⟩ := hp121
          have s3u : Sm (Bp r) c1 c3 := s3.up (fun t q => Or.inr q)
          have kk : ∀ (c3 : Cs) (v : Int32), Sm (Rw (2 + 4 * r)) c1 c3 → ((∃ t, evl d rs (l.drop m) = some t ∧ v = 1 ∧ RowIs c3 (2 + 4 * r) t) ∨ (evl d rs (l.drop m) = none ∧ v = 0 ∧ ∃ x, RowIs c3 (2 + 4 * r) x)) → G X D (Qp X D (fun a u => ∃ c2, u = ((c2, τ) : Sg) ∧ Sm (Bp r) c c2 ∧ ((∃ t, built d rs n = some t ∧ a = some (.int 1) ∧ RowIs c2 (2 + 4 * r) t) ∨ (built d rs n = none ∧ a = some (.int 0) ∧ ∃ y, RowIs c2 (2 + 4 * r) y)))) (0, 0) ((c3, τ) : Sg) 124 [(0, some (.ref (aRep D r))), (1, some (.int (nI n))), (4, some (.int (nI m)))] [.int v] := k124 m ih hm hc hs
          rcases hp3 with ⟨t3, e1, rfl, r3⟩ | ⟨e1, rfl, y3⟩
          · exact G.lf (kk c3 1 s3 (Or.inl ⟨t3, hev.trans e1, rfl, r3⟩)) (sb rfl (sb rfl (sb rfl sn)))
          · exact G.lf (kk c3 0 s3 (Or.inr ⟨hev.trans e1, rfl, y3⟩)) (sb rfl (sb rfl (sb rfl sn)))
        · have hbn : x.bas = none := by
            cases hbb : x.bas with
            | none => rfl
            | some b => rw [hbb] at h76; exact absurd h76 (nI_m1 (by have := hwa.1 b hbb; omega))
          have hrow : RowIs c1 (2 + 4 * r) [] := by
            rcases hI with ⟨-, h⟩ | ⟨h, -⟩
            · exact h
            · rw [hbn, List.getElem?_eq_getElem h] at hba
              cases hba
          have hml : m + 1 = l.length := by
            rcases hI with ⟨h, -⟩ | ⟨h, -⟩
            · exact h
            · rw [hbn, List.getElem?_eq_getElem h] at hba
              cases hba
          have hev : evl d rs (l.drop m) = snap ((d.drop x.off).take x.siz) := by rw [hdm, List.drop_eq_nil_of_le (i := m + 1) (by omega), ← hA]; rfl
          refine g_aload_n (pc := 79) (i := 0) C d_Rep_build_79 rfl rfl ?_
          refine gf_Rep_data (pc := 80) C (by omega) fl_Rep_14 d_Rep_build_80 ?_
          refine g_aload (pc := 83) C d_Rep_build_83 rfl ?_
          refine gf_Rec_offset (pc := 85) C (by omega) fl_Rep_189 d_Rep_build_85 ?_
          rw [hrec.1]
          refine g_aload (pc := 88) C d_Rep_build_88 rfl ?_
          refine gf_Rec_size (pc := 90) C (by omega) fl_Rep_183 d_Rep_build_90 ?_
          rw [hrec.2.1]
          obtain ⟨z, hz⟩ : ∃ z, x.siz = z + 1 := ⟨x.siz - 1, by omega⟩
          rw [hz] at hev ⊢
          refine g_aload_n (pc := 93) (i := 0) C d_Rep_build_93 rfl rfl ?_
          refine gf_Rep_built (pc := 94) C (by omega) fl_Rep_41 d_Rep_build_94 ?_
          refine g_callSp (pc := 97) (As := [_, _, _, _]) C my_Cod_readSnapshot ms_Cod_readSnapshot cl_Rep_192 d_Rep_build_97 (Nat.le_of_ble_eq_true rfl) rfl (Nat.le_of_ble_eq_true rfl) ⟨Nat.zero_le _, Nat.zero_le _⟩ (x_Cod_readSnapshot _ hD (by omega) (by omega) (by omega) hd1 hrow yd (by omega) q2) (fun r97 u97 hp97 => ?_)
          obtain ⟨c3, rfl, s3, hp3⟩ := hp97
          have s3u : Sm (Bp r) c1 c3 := s3.up (fun t q => Or.inr q)
          refine g_goto (pc := 100) (tgt := 124) C d_Rep_build_100 (by decide) ?_
          have kk : ∀ (c3 : Cs) (v : Int32), Sm (Rw (2 + 4 * r)) c1 c3 → ((∃ t, evl d rs (l.drop m) = some t ∧ v = 1 ∧ RowIs c3 (2 + 4 * r) t) ∨ (evl d rs (l.drop m) = none ∧ v = 0 ∧ ∃ x, RowIs c3 (2 + 4 * r) x)) → G X D (Qp X D (fun a u => ∃ c2, u = ((c2, τ) : Sg) ∧ Sm (Bp r) c c2 ∧ ((∃ t, built d rs n = some t ∧ a = some (.int 1) ∧ RowIs c2 (2 + 4 * r) t) ∨ (built d rs n = none ∧ a = some (.int 0) ∧ ∃ y, RowIs c2 (2 + 4 * r) y)))) (0, 0) ((c3, τ) : Sg) 124 [(0, some (.ref (aRep D r))), (1, some (.int (nI n))), (4, some (.int (nI m)))] [.int v] := k124 m ih hm hc hs
          rcases hp3 with ⟨t3, e1, rfl, r3⟩ | ⟨e1, rfl, y3⟩
          · exact G.lf (kk c3 1 s3 (Or.inl ⟨t3, hev.trans e1, rfl, r3⟩)) (sb rfl (sb rfl (sb rfl sn)))
          · exact G.lf (kk c3 0 s3 (Or.inr ⟨hev.trans e1, rfl, y3⟩)) (sb rfl (sb rfl (sb rfl sn)))
  have tail : ∀ (c1 : Cs), (∀ i a, l[i]? = some a → c1.1 (24 + r) i = nI a) → Sm (Ci (24 + r)) c c1 → G X D (Qp X D (fun a u => ∃ c2, u = ((c2, τ) : Sg) ∧ Sm (Bp r) c c2 ∧ ((∃ t, built d rs n = some t ∧ a = some (.int 1) ∧ RowIs c2 (2 + 4 * r) t) ∨ (built d rs n = none ∧ a = some (.int 0) ∧ ∃ y, RowIs c2 (2 + 4 * r) y)))) (0, 0) ((c1, τ) : Sg) 38 [(0, some (.ref (aRep D r))), (1, some (.int (nI n))), (2, some (.int (nI l.length)))] [] := by
    intro c1 hc hs
    have hb1 : RowIs c1 (2 + 4 * r) y := hb.sm hs (by unfold Ci; omega) (by unfold Ci; omega)
    have hb2 : RowIs (cutC c1 (2 + 4 * r) (nI 0)) (2 + 4 * r) [] := hb1.cut (by decide)
    refine g_aload_n (pc := 38) (i := 0) C d_Rep_build_38 rfl rfl ?_
    refine gf_Rep_built (pc := 39) C (by omega) fl_Rep_41 d_Rep_build_39 ?_
    refine g_iconst (pc := 42) C d_Rep_build_42 icn_0 ?_
    refine g_callV0 (pc := 43) (As := [_]) C my_Row_cut mv_Row_cut cl_Rep_71 (is_Row (by omega)) d_Rep_build_43 (Nat.le_of_ble_eq_true rfl) rfl (Nat.le_of_ble_eq_true rfl) ⟨Nat.zero_le _, Nat.zero_le _⟩ (c_Row_cut _ hD (by omega)) ?_
    refine g_iload_n (pc := 46) (i := 2) C d_Rep_build_46 rfl rfl ?_
    refine g_iconst (pc := 47) C d_Rep_build_47 icn_1 ?_
    refine g_isub (pc := 48) C d_Rep_build_48 ?_
    rw [pk_sub hl1]
    refine g_istore (pc := 49) C d_Rep_build_49 (by decide) rfl ?_
    refine G.lf (loop2 l.length _ (Nat.le_refl _) (fun i a h => by rw [(sm_cut (c := c1) (j := 2 + 4 * r) (k := nI 0)).1 _ (by unfold Rw; omega)]; exact hc i a h) ((hs.up (fun t q => Or.inl q)).tr (sm_cut.up (fun t q => Or.inr q))) (Or.inl ⟨rfl, hb2⟩)) (sb rfl (sb rfl (sb ?_ sn)))
    show some (Value.int (nI (l.length - 1))) = some (Value.int (eo (pd l.length)))
    cases l with
    | nil => simp at hl1
    | cons a l => rfl
  have loop1 : ∀ (f k : Nat) (o : Option Nat) (pre : List Nat) (c1 : Cs), f + k = 6 → (∀ m, o = some m → m < rs.length) → chn rs f o ≠ none → pre.length = k → pre ++ cl rs f o = l → (∀ i a, pre[i]? = some a → c1.1 (24 + r) i = nI a) → Sm (Ci (24 + r)) c c1 → G X D (Qp X D (fun a u => ∃ c2, u = ((c2, τ) : Sg) ∧ Sm (Bp r) c c2 ∧ ((∃ t, built d rs n = some t ∧ a = some (.int 1) ∧ RowIs c2 (2 + 4 * r) t) ∨ (built d rs n = none ∧ a = some (.int 0) ∧ ∃ y, RowIs c2 (2 + 4 * r) y)))) (0, 0) ((c1, τ) : Sg) 4 [(0, some (.ref (aRep D r))), (1, some (.int (nI n))), (2, some (.int (nI k))), (3, some (.int (eo o)))] [] := by
    intro f
    induction f with
    | zero =>
      intro k o pre c1 hk ho hco hp he hc hs
      cases o with
      | some m => exact absurd rfl hco
      | none =>
        rw [cl_0, List.append_nil] at he
        subst he
        refine g_iload_n (pc := 4) (i := 3) C d_Rep_build_4 rfl rfl ?_
        refine g_iconst (pc := 5) C d_Rep_build_5 ic_m1 ?_
        refine g_icmp_eq (pc := 6) (tgt := 38) C d_Rep_build_6 (by decide) (fun h6 => ?_) (fun h6 => ?_)
        · skip
          rw [← hp]
          exact G.lf (tail c1 hc hs) (sb rfl (sb rfl (sb rfl sn)))
        · first | exact absurd h6 (rfl) | exact absurd (rfl) h6
    | succ f ih =>
      intro k o pre c1 hk ho hco hp he hc hs
      cases o with
      | none =>
        rw [cl_0, List.append_nil] at he
        subst he
        refine g_iload_n (pc := 4) (i := 3) C d_Rep_build_4 rfl rfl ?_
        refine g_iconst (pc := 5) C d_Rep_build_5 ic_m1 ?_
        refine g_icmp_eq (pc := 6) (tgt := 38) C d_Rep_build_6 (by decide) (fun h6 => ?_) (fun h6 => ?_)
        · skip
          rw [← hp]
          exact G.lf (tail c1 hc hs) (sb rfl (sb rfl (sb rfl sn)))
        · first | exact absurd h6 (rfl) | exact absurd (rfl) h6
      | some m =>
        have hm := ho m rfl
        obtain ⟨x, hxm⟩ : ∃ x, rs[m]? = some x := ⟨_, List.getElem?_eq_getElem hm⟩
        have hx1 : RcX c1 r rs := hx.sm hs (fun t ht => by unfold Ci; omega)
        have hrec := hx1.2 m x hxm
        have hwm := hw m x hxm
        rw [cl_s hxm] at he
        rw [chn_s hxm] at hco
        have hco2 : chn rs f x.bas ≠ none := fun e => hco (by rw [e]; rfl)
        show G X D _ (0, 0) _ 4 [(0, some (.ref (aRep D r))), (1, some (.int (nI n))), (2, some (.int (nI k))), (3, some (.int (nI m)))] []
        refine g_iload_n (pc := 4) (i := 3) C d_Rep_build_4 rfl rfl ?_
        refine g_iconst (pc := 5) C d_Rep_build_5 ic_m1 ?_
        refine g_icmp_eq (pc := 6) (tgt := 38) C d_Rep_build_6 (by decide) (fun h6 => ?_) (fun h6 => ?_)
        · first | exact absurd h6 (nI_m1 (by omega)) | exact absurd (nI_m1 (by omega)) h6
        · skip
          refine g_iload_n (pc := 9) (i := 2) C d_Rep_build_9 rfl rfl ?_
          refine g_bipush (pc := 10) C d_Rep_build_10 bpn_6 ?_
          refine g_icmp_ge (pc := 12) (tgt := 38) C d_Rep_build_12 (by decide) (fun h12 => ?_) (fun h12 => ?_)
          · first | exact absurd h12 (nI_ge (show k < 6 by omega) (by omega)) | exact absurd (nI_ge (show k < 6 by omega) (by omega)) h12
          · skip
            refine g_aload_n (pc := 15) (i := 0) C d_Rep_build_15 rfl rfl ?_
            refine gf_Rep_chain (pc := 16) C (by omega) fl_Rep_44 d_Rep_build_16 ?_
            refine g_iload_n (pc := 19) (i := 2) C d_Rep_build_19 rfl rfl ?_
            refine g_iload_n (pc := 20) (i := 3) C d_Rep_build_20 rfl rfl ?_
            refine gs_chn (pc := 21) C (by omega) (vp_in_nI (by omega) (by decide)) d_Rep_build_21 ?_
            rw [nI_clamp (by omega)]
            refine g_iinc (pc := 22) C d_Rep_build_22 rfl (v := nI (k + 1)) (nI_inc k) rfl ?_
            refine g_aload_n (pc := 25) (i := 0) C d_Rep_build_25 rfl rfl ?_
            refine gf_Rep_records (pc := 26) C (by omega) fl_Rep_22 d_Rep_build_26 ?_
            refine g_iload_n (pc := 29) (i := 3) C d_Rep_build_29 rfl rfl ?_
            refine ga_rcs (pc := 30) C (by omega) (by omega) d_Rep_build_30 ?_
            refine G.sg rfl ?_
            refine gf_Rec_base (pc := 31) C (by omega) fl_Rep_186 d_Rep_build_31 ?_
            rw [wI_1n (by omega), hrec.2.2.2.1]
            refine g_istore_n (pc := 34) (i := 3) C d_Rep_build_34 rfl (by decide) rfl ?_
            refine g_goto (pc := 35) (tgt := 4) C d_Rep_build_35 (by decide) ?_
            refine G.lf (ih (k + 1) x.bas (pre ++ [m]) _ (by omega) (fun q hq => by have := hwm.1 q hq; omega) hco2 (by simp [hp]) (by rw [← he]; simp) (fun i a hi => ?_) (hs.tr sm_c1)) (sb rfl (sb rfl (sb rfl (sb rfl sn))))
            rw [wI_1s]
            by_cases hik : i = k
            · subst hik
              rw [← hp, List.getElem?_append_right (Nat.le_refl _), Nat.sub_self] at hi
              cases hi
              exact pk_us
            · rw [pk_un hik]
              have hi2 : i < (pre ++ [m]).length := (List.getElem?_eq_some_iff.mp hi).1
              rw [List.length_append, hp] at hi2
              rw [List.getElem?_append_left (by simp at hi2; omega)] at hi
              exact hc i a hi
  refine g_iconst (pc := 0) C d_Rep_build_0 icn_0 ?_
  refine g_istore_n (pc := 1) (i := 2) C d_Rep_build_1 rfl (by decide) rfl ?_
  refine g_iload_n (pc := 2) (i := 1) C d_Rep_build_2 rfl rfl ?_
  refine g_istore_n (pc := 3) (i := 3) C d_Rep_build_3 rfl (by decide) rfl ?_
  exact G.lf (loop1 6 0 (some n) [] c (by omega) (fun m e => by cases e; exact hn) hch rfl (by rw [List.nil_append]; exact hl) (fun i a h => by simp at h) Sm.rf) (sb rfl (sb rfl (sb rfl (sb rfl sn))))
