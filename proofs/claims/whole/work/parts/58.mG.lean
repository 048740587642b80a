/-! THE REFERENCE: a record more -/
theorem rN_s {m : Cs} {k : Nat} {v : Int64} : (wN m k v).2 k = v := pk_uLs
theorem rN_n {m : Cs} {k j : Nat} {v : Int64} (h : j ≠ k) : (wN m k v).2 j = m.2 j := pk_uLn h
theorem rN_1 {m : Cs} {k a j : Nat} {v : Int64} : (wN m k v).1 a j = m.1 a j := rfl
theorem oi_4 : Int32.ofInt (-4) = -4 := by decide +kernel
def addM (m : Cs) (q i L : Nat) (x : Rc) : Cs := wI (wN (wI (wI (wI (wI (wI (wI m 5 i (nI x.off)) 6 i (nI x.siz)) 7 i (nI x.len)) 8 i (eo x.bas)) 9 i (eo x.pa)) 10 i (eo x.pb)) i x.nod) 4 q (nI (L + 1))
theorem addM_1 {m : Cs} {q i L : Nat} {x : Rc} {a k : Nat} (h : ¬ (5 ≤ a ∧ a ≤ 10 ∧ k = i)) (h4 : ¬ (a = 4 ∧ k = q)) : (addM m q i L x).1 a k = m.1 a k := by
  unfold addM
  rw [rI_n (by omega)]
  show (wI (wI (wI (wI (wI (wI m 5 i (nI x.off)) 6 i (nI x.siz)) 7 i (nI x.len)) 8 i (eo x.bas)) 9 i (eo x.pa)) 10 i (eo x.pb)).1 a k = m.1 a k
  rw [rI_n (by omega), rI_n (by omega), rI_n (by omega), rI_n (by omega), rI_n (by omega), rI_n (by omega)]
theorem addM_2 {m : Cs} {q i L : Nat} {x : Rc} {j : Nat} (h : j ≠ i) : (addM m q i L x).2 j = m.2 j := rN_n h
theorem addM_r {m : Cs} {q i L : Nat} {x : Rc} : MRec (addM m q i L x) i x := by
  have e : ∀ a, 5 ≤ a → a ≤ 10 → (addM m q i L x).1 a i = (wI (wI (wI (wI (wI (wI m 5 i (nI x.off)) 6 i (nI x.siz)) 7 i (nI x.len)) 8 i (eo x.bas)) 9 i (eo x.pa)) 10 i (eo x.pb)).1 a i := fun a h1 h2 => by
    unfold addM
    rw [rI_n (by omega)]
    rfl
  refine ⟨?_, ?_, ?_, ?_, ?_, ?_, ?_⟩
  · rw [e 5 (by decide) (by decide), rI_n (Or.inl (by decide)), rI_n (Or.inl (by decide)), rI_n (Or.inl (by decide)), rI_n (Or.inl (by decide)), rI_n (Or.inl (by decide)), rI_s]
  · rw [e 6 (by decide) (by decide), rI_n (Or.inl (by decide)), rI_n (Or.inl (by decide)), rI_n (Or.inl (by decide)), rI_n (Or.inl (by decide)), rI_s]
  · rw [e 7 (by decide) (by decide), rI_n (Or.inl (by decide)), rI_n (Or.inl (by decide)), rI_n (Or.inl (by decide)), rI_s]
  · rw [e 8 (by decide) (by decide), rI_n (Or.inl (by decide)), rI_n (Or.inl (by decide)), rI_s]
  · rw [e 9 (by decide) (by decide), rI_n (Or.inl (by decide)), rI_s]
  · rw [e 10 (by decide) (by decide), rI_s]
  · exact rN_s
theorem MRep.add {m : Cs} {q : Nat} {R : Rp} {x : Rc} (h : MRep m q R) (hq : q < 2) (hl : R.rcs.length < 24) : MRep (addM m q (24 * q + R.rcs.length) R.rcs.length x) q (R.dat, R.rcs ++ [x], R.jrn, R.dwn, R.fai) := by
  have f : ∀ a k, a ≠ 4 → ¬ (5 ≤ a ∧ a ≤ 10) → (addM m q (24 * q + R.rcs.length) R.rcs.length x).1 a k = m.1 a k := fun a k h1 h2 => addM_1 (by omega) (by omega)
  refine ⟨⟨?_, fun k hk => ?_⟩, ⟨?_, fun k y hy => ?_⟩, ⟨?_, fun p hp => ?_⟩, ?_, ?_⟩
  · rw [f _ _ (by decide) (by decide)]; exact h.1.1
  · rw [f _ _ (by decide) (by decide)]; exact h.1.2 k hk
  · show _ = nI (R.rcs ++ [x]).length
    rw [List.length_append]
    exact rI_s
  · have hy : (R.rcs ++ [x])[k]? = some y := hy
    have hk := (List.getElem?_eq_some_iff.mp hy).1
    rw [List.length_append] at hk
    have hk : k < R.rcs.length + 1 := hk
    by_cases e : k = R.rcs.length
    · subst e
      rw [List.getElem?_append_right (Nat.le_refl _), Nat.sub_self] at hy
      cases hy
      exact addM_r
    · rw [List.getElem?_append_left (by omega)] at hy
      have g := h.2.1.2 k y hy
      unfold MRec
      rw [addM_1 (by omega) (by omega), addM_1 (by omega) (by omega), addM_1 (by omega) (by omega), addM_1 (by omega) (by omega), addM_1 (by omega) (by omega), addM_1 (by omega) (by omega), addM_2 (by omega)]
      exact g
  · rw [f _ _ (by decide) (by decide)]; exact h.2.2.1.1
  · rw [f _ _ (by decide) (by decide)]; exact h.2.2.1.2 p hp
  · rw [f _ _ (by decide) (by decide)]; exact h.2.2.2.1
  · rw [f _ _ (by decide) (by decide)]; exact h.2.2.2.2
theorem mf_add {m : Cs} {q L : Nat} {x : Rc} (hL : L < 24) : Mf q m (addM m q (24 * q + L) L x) := ⟨fun a k hk => addM_1 (fun e => hk (Or.inr (by unfold Rq; omega))) (fun e => hk (Or.inr (by unfold Rq; omega))), fun i hi => addM_2 (by omega)⟩
theorem chw_i {d : List Nat} {rs : List Rc} {p q : Option Nat} {t : List Nat} : ∀ w, ((chw d rs p q t w).2 = none ∧ (chw d rs p q t w).1 = encS t) ∨ ∃ n b, (chw d rs p q t w).2 = some n ∧ built d rs n = some b ∧ (chw d rs p q t w).1 = encD b t
  | 0 => Or.inl ⟨rfl, rfl⟩
  | w + 1 => by
    rw [chw_s]
    cases hc : cnd rs p q w with
    | none => exact chw_i w
    | some n =>
      cases hb : built d rs n with
      | none => rw [cand_n hb]; exact chw_i w
      | some b =>
        rw [cand_s hb]
        split
        · exact Or.inr ⟨n, b, rfl, hb, rfl⟩
        · exact chw_i w
theorem Mf.rf {q : Nat} {m : Cs} : Mf q m m := ⟨fun _ _ _ => rfl, fun _ _ => rfl⟩
theorem pq_0 {q : Nat} {m m2 : Cs} (h : Mk (Pq q) m m2) : m2.1 0 0 = m.1 0 0 := h.1 0 0 (by unfold Pq Pb Rq; omega)
theorem rq_0 {q : Nat} {m m2 : Cs} (h : Mk (Rq q) m m2) : m2.1 0 0 = m.1 0 0 := h.1 0 0 (by unfold Rq; omega)
set_option maxRecDepth 100000 in
set_option maxHeartbeats 4000000 in
theorem x_M_add (l : Launch) {D : Dt} (hD : OkD D) {c m : Cs} {ow : Nat → Int64} {q : Nat} {R : Rp} {p1 p2 : Option Nat} {t : List Nat} (hq : q < 2) (h : MRep m q R) (wR : WfR R) (hd : R.dwn = false) (hp1 : ∀ n, p1 = some n → n < R.rcs.length) (hp2 : ∀ n, p2 = some n → n < R.rcs.length) (ht : Bl m 17 3 t) (h60 : t.length ≤ 60) (hy : By t) : Cp l D y_M_add b_M_add 12 (some .int) 6 [.int (eo p2), .int (eo p1), .int (nI q), .ref (aMdl D)] ((c, m, ow) : Sg) (fun a u => ∃ m2, u = ((c, m2, ow) : Sg) ∧ a = some (.int (Int32.ofInt (stor R p1 p2 t).1)) ∧ MRep m2 q (stor R p1 p2 t).2 ∧ Mf q m m2 ∧ m2.1 0 0 = m.1 0 0) := by
  have yd := wR.1
  have h600 := wR.2.1
  have h24 := wR.2.2.1
  have hf100 := wR.2.2.2.1
  have hw := wR.2.2.2.2.2.2 (Or.inr hd)
  have hci := chw_i (d := R.dat) (rs := R.rcs) (p := p1) (q := p2) (t := t) 3
  rw [← chw_3] at hci
  have hle := encS_len t
  have hrl := rl_le t
  have k2 : ∀ {m2 : Cs}, find R.rcs (nodeOf R.rcs p1 p2 t) = none → True := fun _ => trivial
  refine Cp.of hD (by decide) (Nat.le_of_ble_eq_true rfl) [(0, some (.ref (aMdl D))), (1, some (.int (nI q))), (2, some (.int (eo p1))), (3, some (.int (eo p2)))] rfl (fun X hX C => ?_)
  subst hX
  have t188 : find R.rcs (nodeOf R.rcs p1 p2 t) = none → ¬ (24 ≤ R.rcs.length ∨ 600 < R.dat.length + (choose R.dat R.rcs p1 p2 t).1.length) → (wrt R).1 = true → ∀ (m1 : Cs), Mk (Pq q) m m1 → MRep m1 q (appR (wrt R).2 (choose R.dat R.rcs p1 p2 t).1) → G X D (Qp X D (fun a u => ∃ m2, u = ((c, m2, ow) : Sg) ∧ a = some (.int (Int32.ofInt (stor R p1 p2 t).1)) ∧ MRep m2 q (stor R p1 p2 t).2 ∧ Mf q m m2 ∧ m2.1 0 0 = m.1 0 0)) (0, 0) ((c, m1, ow) : Sg) 188 [(0, some (.ref (aMdl D))), (1, some (.int (nI q))), (2, some (.int (eo p1))), (3, some (.int (eo p2))), (4, some (.long (nodeOf R.rcs p1 p2 t))), (7, some (.int (eo (choose R.dat R.rcs p1 p2 t).2))), (9, some (.int (nI (choose R.dat R.rcs p1 p2 t).1.length))), (10, some (.int (nI R.dat.length)))] [] := by
    intro hfn hno hb1 m1 s g
    have d1 : (appR (wrt R).2 (choose R.dat R.rcs p1 p2 t).1).dwn = false := wrt_w hb1 hd
    have f1 := wrt_f R
    have f2 : (appR (wrt R).2 (choose R.dat R.rcs p1 p2 t).1).fai = (wrt R).2.fai := rfl
    have r2 : (wrt (appR (wrt R).2 (choose R.dat R.rcs p1 p2 t).1)).2.rcs = R.rcs := (wrt_r _).trans (wrt_r R)
    refine g_aload_n (pc := 188) (i := 0) C d_M_add_188 rfl rfl ?_
    refine g_iload_n (pc := 189) (i := 1) C d_M_add_189 rfl rfl ?_
    refine g_callVp (pc := 190) (As := [_]) C my_M_write mv_M_write cl_M_145 is_M d_M_add_190 (Nat.le_of_ble_eq_true rfl) rfl (Nat.le_of_ble_eq_true rfl) ⟨Nat.zero_le _, Nat.zero_le _⟩ (x_M_write _ hD hq g d1 (by omega)) (fun r190 u190 hp190 => ?_)
    obtain ⟨m3, rfl, rfl, g3, s3⟩ := hp190
    have t3 := (ht.tx s).tx s3.pq
    refine g_if_ne (pc := 193) (tgt := 199) C d_M_add_193 (by decide) (fun h193 => ?_) (fun h193 => ?_)
    · have hb2 := b1_1 h193
      refine g_bipush (pc := 199) C d_M_add_199 bpn_24 ?_
      refine g_iload_n (pc := 201) (i := 1) C d_M_add_201 rfl rfl ?_
      refine g_imul (pc := 202) C d_M_add_202 ?_
      refine g_aload_n (pc := 203) (i := 0) C d_M_add_203 rfl rfl ?_
      refine gf_M_count (pc := 204) C fl_M_19 d_M_add_204 ?_
      refine g_iload_n (pc := 207) (i := 1) C d_M_add_207 rfl rfl ?_
      refine ga_mar (pc := 208) C (by decide) (by decide) (vp_in_nI (show q < 2 by omega) (by decide)) d_M_add_208 ?_
      rw [nI_clamp (show q < 2 ^ 31 by omega), g3.2.1.1, r2]
      refine g_iadd (pc := 209) C d_M_add_209 ?_
      rw [nI_mul, nI_add]
      refine g_istore (pc := 210) C d_M_add_210 (by decide) rfl ?_
      refine g_aload_n (pc := 212) (i := 0) C d_M_add_212 rfl rfl ?_
      refine gf_M_offset (pc := 213) C fl_M_22 d_M_add_213 ?_
      refine g_iload (pc := 216) C d_M_add_216 rfl ?_
      refine g_iload (pc := 218) C d_M_add_218 rfl ?_
      skip
      refine gs_mar (pc := 220) C (by decide) (by decide) (vp_in_nI (show 24 * q + R.rcs.length < 48 by omega) (by decide)) d_M_add_220 ?_
      rw [nI_clamp (show 24 * q + R.rcs.length < 2 ^ 31 by omega)]
      refine g_aload_n (pc := 221) (i := 0) C d_M_add_221 rfl rfl ?_
      refine gf_M_chunk (pc := 222) C fl_M_25 d_M_add_222 ?_
      refine g_iload (pc := 225) C d_M_add_225 rfl ?_
      refine g_iload (pc := 227) C d_M_add_227 rfl ?_
      skip
      refine gs_mar (pc := 229) C (by decide) (by decide) (vp_in_nI (show 24 * q + R.rcs.length < 48 by omega) (by decide)) d_M_add_229 ?_
      rw [nI_clamp (show 24 * q + R.rcs.length < 2 ^ 31 by omega)]
      refine g_aload_n (pc := 230) (i := 0) C d_M_add_230 rfl rfl ?_
      refine gf_M_length (pc := 231) C fl_M_28 d_M_add_231 ?_
      refine g_iload (pc := 234) C d_M_add_234 rfl ?_
      refine g_aload_n (pc := 236) (i := 0) C d_M_add_236 rfl rfl ?_
      refine gf_M_textLen (pc := 237) C fl_M_106 d_M_add_237 ?_
      rw [rI_n (Or.inl (by decide)), rI_n (Or.inl (by decide)), t3.1]
      skip
      refine gs_mar (pc := 240) C (by decide) (by decide) (vp_in_nI (show 24 * q + R.rcs.length < 48 by omega) (by decide)) d_M_add_240 ?_
      rw [nI_clamp (show 24 * q + R.rcs.length < 2 ^ 31 by omega)]
      refine g_aload_n (pc := 241) (i := 0) C d_M_add_241 rfl rfl ?_
      refine gf_M_base (pc := 242) C fl_M_31 d_M_add_242 ?_
      refine g_iload (pc := 245) C d_M_add_245 rfl ?_
      refine g_iload (pc := 247) C d_M_add_247 rfl ?_
      skip
      refine gs_mar (pc := 249) C (by decide) (by decide) (vp_in_nI (show 24 * q + R.rcs.length < 48 by omega) (by decide)) d_M_add_249 ?_
      rw [nI_clamp (show 24 * q + R.rcs.length < 2 ^ 31 by omega)]
      refine g_aload_n (pc := 250) (i := 0) C d_M_add_250 rfl rfl ?_
      refine gf_M_first (pc := 251) C fl_M_34 d_M_add_251 ?_
      refine g_iload (pc := 254) C d_M_add_254 rfl ?_
      refine g_iload_n (pc := 256) (i := 2) C d_M_add_256 rfl rfl ?_
      skip
      refine gs_mar (pc := 257) C (by decide) (by decide) (vp_in_nI (show 24 * q + R.rcs.length < 48 by omega) (by decide)) d_M_add_257 ?_
      rw [nI_clamp (show 24 * q + R.rcs.length < 2 ^ 31 by omega)]
      refine g_aload_n (pc := 258) (i := 0) C d_M_add_258 rfl rfl ?_
      refine gf_M_second (pc := 259) C fl_M_37 d_M_add_259 ?_
      refine g_iload (pc := 262) C d_M_add_262 rfl ?_
      refine g_iload_n (pc := 264) (i := 3) C d_M_add_264 rfl rfl ?_
      skip
      refine gs_mar (pc := 265) C (by decide) (by decide) (vp_in_nI (show 24 * q + R.rcs.length < 48 by omega) (by decide)) d_M_add_265 ?_
      rw [nI_clamp (show 24 * q + R.rcs.length < 2 ^ 31 by omega)]
      refine g_aload_n (pc := 266) (i := 0) C d_M_add_266 rfl rfl ?_
      refine gf_M_nodes (pc := 267) C fl_M_40 d_M_add_267 ?_
      refine g_iload (pc := 270) C d_M_add_270 rfl ?_
      refine g_lload (pc := 272) C d_M_add_272 rfl ?_
      skip
      refine gs_nds (pc := 274) C (vp_in_nI (show 24 * q + R.rcs.length < 48 by omega) (by decide)) d_M_add_274 ?_
      rw [nI_clamp (show 24 * q + R.rcs.length < 2 ^ 31 by omega)]
      refine g_aload_n (pc := 275) (i := 0) C d_M_add_275 rfl rfl ?_
      refine gf_M_count (pc := 276) C fl_M_19 d_M_add_276 ?_
      refine g_iload_n (pc := 279) (i := 1) C d_M_add_279 rfl rfl ?_
      refine g_dup2 (pc := 280) C d_M_add_280 rfl rfl ?_
      refine ga_mar (pc := 281) C (by decide) (by decide) (vp_in_nI (show q < 2 by omega) (by decide)) d_M_add_281 ?_
      rw [nI_clamp (show q < 2 ^ 31 by omega), rN_1, rI_n (Or.inl (by decide)), rI_n (Or.inl (by decide)), rI_n (Or.inl (by decide)), rI_n (Or.inl (by decide)), rI_n (Or.inl (by decide)), rI_n (Or.inl (by decide)), g3.2.1.1, r2]
      refine g_iconst (pc := 282) C d_M_add_282 icn_1 ?_
      refine g_iadd (pc := 283) C d_M_add_283 ?_
      rw [nI_add]
      refine gs_mar (pc := 284) C (by decide) (by decide) (vp_in_nI (show q < 2 by omega) (by decide)) d_M_add_284 ?_
      rw [nI_clamp (show q < 2 ^ 31 by omega)]
      refine g_aload_n (pc := 285) (i := 0) C d_M_add_285 rfl rfl ?_
      refine gf_M_count (pc := 286) C fl_M_19 d_M_add_286 ?_
      refine g_iload_n (pc := 289) (i := 1) C d_M_add_289 rfl rfl ?_
      refine ga_mar (pc := 290) C (by decide) (by decide) (vp_in_nI (show q < 2 by omega) (by decide)) d_M_add_290 ?_
      rw [nI_clamp (show q < 2 ^ 31 by omega), rI_s]
      refine g_iconst (pc := 291) C d_M_add_291 icn_1 ?_
      refine g_isub (pc := 292) C d_M_add_292 ?_
      rw [pk_sub (by omega), Nat.add_sub_cancel]
      refine g_iret (pc := 293) C d_M_add_293 ?_
      rw [stor_5 hfn hno hb1 hb2]
      have g4 := g3.add (x := (R.dat.length, (choose R.dat R.rcs p1 p2 t).1.length, t.length, (choose R.dat R.rcs p1 p2 t).2, p1, p2, nodeOf R.rcs p1 p2 t)) hq (by rw [r2]; omega)
      have f3 := mf_add (m := m3) (q := q) (L := R.rcs.length) (x := (R.dat.length, (choose R.dat R.rcs p1 p2 t).1.length, t.length, (choose R.dat R.rcs p1 p2 t).2, p1, p2, nodeOf R.rcs p1 p2 t)) (by omega)
      rw [show (wrt R).2.dat = R.dat from wrt_d R]
      refine ⟨addM m3 q (24 * q + R.rcs.length) R.rcs.length (R.dat.length, (choose R.dat R.rcs p1 p2 t).1.length, t.length, (choose R.dat R.rcs p1 p2 t).2, p1, p2, nodeOf R.rcs p1 p2 t), rfl, by rw [oi_n, r2], ?_, s.pqm.tr (s3.mfR.tr f3), ?_⟩
      · rw [r2] at g4 ⊢
        exact g4
      · rw [addM_1 (by omega) (by omega)]
        exact (rq_0 s3).trans (pq_0 s)
    · have hb2 := b1_0 h193
      refine g_bipush (pc := 196) C d_M_add_196 bp_m2 ?_
      refine g_iret (pc := 198) C d_M_add_198 ?_
      rw [stor_3 hfn hno hb1 hb2, oi_m2]
      exact ⟨m3, rfl, rfl, g3, s.pqm.tr s3.mfR, (rq_0 s3).trans (pq_0 s)⟩
  have t120 : find R.rcs (nodeOf R.rcs p1 p2 t) = none → (choose R.dat R.rcs p1 p2 t).1.length ≤ 121 → ∀ (m1 : Cs), Mk Pb m m1 → G X D (Qp X D (fun a u => ∃ m2, u = ((c, m2, ow) : Sg) ∧ a = some (.int (Int32.ofInt (stor R p1 p2 t).1)) ∧ MRep m2 q (stor R p1 p2 t).2 ∧ Mf q m m2 ∧ m2.1 0 0 = m.1 0 0)) (0, 0) ((c, m1, ow) : Sg) 120 [(0, some (.ref (aMdl D))), (1, some (.int (nI q))), (2, some (.int (eo p1))), (3, some (.int (eo p2))), (4, some (.long (nodeOf R.rcs p1 p2 t))), (7, some (.int (eo (choose R.dat R.rcs p1 p2 t).2))), (9, some (.int (nI (choose R.dat R.rcs p1 p2 t).1.length)))] [] := by
    intro hfn h121 m1 s
    have g := h.pb s
    have f1 := wrt_f R
    refine g_aload_n (pc := 120) (i := 0) C d_M_add_120 rfl rfl ?_
    refine gf_M_count (pc := 121) C fl_M_19 d_M_add_121 ?_
    refine g_iload_n (pc := 124) (i := 1) C d_M_add_124 rfl rfl ?_
    refine ga_mar (pc := 125) C (by decide) (by decide) (vp_in_nI (show q < 2 by omega) (by decide)) d_M_add_125 ?_
    rw [nI_clamp (show q < 2 ^ 31 by omega), g.2.1.1]
    refine g_bipush (pc := 126) C d_M_add_126 bpn_24 ?_
    refine g_icmp_eq (pc := 128) (tgt := 146) C d_M_add_128 (by decide) (fun h128 => ?_) (fun h128 => ?_)
    · have h24e : R.rcs.length = 24 := (nI_eq (by omega) (by decide)).mp h128
      have hno : 24 ≤ R.rcs.length ∨ 600 < R.dat.length + (choose R.dat R.rcs p1 p2 t).1.length := Or.inl (by omega)
      refine g_bipush (pc := 146) C d_M_add_146 bp_m4 ?_
      refine g_iret (pc := 148) C d_M_add_148 ?_
      rw [stor_4 hfn hno, oi_4]
      exact ⟨m1, rfl, rfl, g, s.pbq.pqm, pq_0 (q := q) s.pbq⟩
    · have h24e : ¬ R.rcs.length = 24 := fun e => h128 (by rw [e])
      refine g_aload_n (pc := 131) (i := 0) C d_M_add_131 rfl rfl ?_
      refine gf_M_dataLen (pc := 132) C fl_M_16 d_M_add_132 ?_
      refine g_iload_n (pc := 135) (i := 1) C d_M_add_135 rfl rfl ?_
      refine ga_mar (pc := 136) C (by decide) (by decide) (vp_in_nI (show q < 2 by omega) (by decide)) d_M_add_136 ?_
      rw [nI_clamp (show q < 2 ^ 31 by omega), g.1.1]
      refine g_iload (pc := 137) C d_M_add_137 rfl ?_
      refine g_iadd (pc := 139) C d_M_add_139 ?_
      rw [nI_add]
      refine g_sipush (pc := 140) C d_M_add_140 spn_600 ?_
      refine g_icmp_le (pc := 143) (tgt := 149) C d_M_add_143 (by decide) (fun h143 => ?_) (fun h143 => ?_)
      · have hno : ¬ (24 ≤ R.rcs.length ∨ 600 < R.dat.length + (choose R.dat R.rcs p1 p2 t).1.length) := fun e => by
          have := (nI_leI (by omega) (by decide)).mp h143
          omega
        refine g_aload_n (pc := 149) (i := 0) C d_M_add_149 rfl rfl ?_
        refine gf_M_dataLen (pc := 150) C fl_M_16 d_M_add_150 ?_
        refine g_iload_n (pc := 153) (i := 1) C d_M_add_153 rfl rfl ?_
        refine ga_mar (pc := 154) C (by decide) (by decide) (vp_in_nI (show q < 2 by omega) (by decide)) d_M_add_154 ?_
        rw [nI_clamp (show q < 2 ^ 31 by omega), g.1.1]
        refine g_istore (pc := 155) C d_M_add_155 (by decide) rfl ?_
        refine g_aload_n (pc := 157) (i := 0) C d_M_add_157 rfl rfl ?_
        refine g_iload_n (pc := 158) (i := 1) C d_M_add_158 rfl rfl ?_
        refine g_callVp (pc := 159) (As := [_]) C my_M_write mv_M_write cl_M_145 is_M d_M_add_159 (Nat.le_of_ble_eq_true rfl) rfl (Nat.le_of_ble_eq_true rfl) ⟨Nat.zero_le _, Nat.zero_le _⟩ (x_M_write _ hD hq g hd hf100) (fun r159 u159 hp159 => ?_)
        obtain ⟨m2, rfl, rfl, g2, s2⟩ := hp159
        have t2 := (ht.tx (q := q) s.pbq).tx s2.pq
        refine g_if_ne (pc := 162) (tgt := 168) C d_M_add_162 (by decide) (fun h162 => ?_) (fun h162 => ?_)
        · have hb1 := b1_1 h162
          rcases hci with ⟨e1, e2⟩ | ⟨n, b, e1, e2, e3⟩
          · skip
            refine g_iload (pc := 168) C d_M_add_168 rfl ?_
            rw [e1]
            refine g_if_lt (pc := 170) (tgt := 183) C d_M_add_170 (by decide) (fun h170 => ?_) (fun h170 => ?_)
            · skip
              refine g_aload_n (pc := 183) (i := 0) C d_M_add_183 rfl rfl ?_
              refine g_iload_n (pc := 184) (i := 1) C d_M_add_184 rfl rfl ?_
              refine g_callVp (pc := 185) (As := [_]) C my_M_putSnapshot mv_M_putSnapshot cl_M_152 is_M d_M_add_185 (Nat.le_of_ble_eq_true rfl) rfl (Nat.le_of_ble_eq_true rfl) ⟨Nat.zero_le _, Nat.zero_le _⟩ (x_M_putSnapshot _ hD hq g2 t2 h60 hy (by rw [wrt_d, ← e2]; omega)) (fun r185 u185 hp185 => ?_)
              obtain ⟨m3, rfl, rfl, g3, s3⟩ := hp185
              rw [← e2] at g3
              have k188 := t188 hfn hno hb1 m3 (s.pbq.tr (s2.pq.tr s3.pq)) g3
              rw [e1] at k188
              exact G.lf k188 (sb rfl (sb rfl (sb rfl (sb rfl (sb rfl (sb rfl (sb rfl (sb rfl sn))))))))
            · first | exact absurd h170 (by decide) | exact absurd (by decide) h170
          · have hnl : n < R.rcs.length := by
              have := (chz (p := p1) (q := p2) yd hy h60 hp1 hp2).2.2.2 n e1
              exact this.1
            rw [show eo (choose R.dat R.rcs p1 p2 t).2 = nI n from by rw [e1]; rfl]
            refine g_iload (pc := 168) C d_M_add_168 rfl ?_
            refine g_if_lt (pc := 170) (tgt := 183) C d_M_add_170 (by decide) (fun h170 => ?_) (fun h170 => ?_)
            · first | exact absurd h170 (nI_pos (by omega)) | exact absurd (nI_pos (by omega)) h170
            · skip
              refine g_aload_n (pc := 173) (i := 0) C d_M_add_173 rfl rfl ?_
              refine g_iload_n (pc := 174) (i := 1) C d_M_add_174 rfl rfl ?_
              refine g_iload (pc := 175) C d_M_add_175 rfl ?_
              refine g_callVp (pc := 177) (As := [_, _]) C my_M_putDifference mv_M_putDifference cl_M_149 is_M d_M_add_177 (Nat.le_of_ble_eq_true rfl) rfl (Nat.le_of_ble_eq_true rfl) ⟨Nat.zero_le _, Nat.zero_le _⟩ (x_M_putDifference _ hD hq g2 (by rw [wrt_d]; exact yd) (by rw [wrt_d]; exact h600) (by rw [wrt_r]; exact h24) (by rw [wrt_d, wrt_r]; exact hw) (by rw [wrt_r]; exact hnl) (by rw [wrt_d, wrt_r]; exact e2) t2 h60 hy (by rw [wrt_d, ← e3]; omega)) (fun r177 u177 hp177 => ?_)
              obtain ⟨m3, rfl, rfl, g3, s3⟩ := hp177
              rw [← e3] at g3
              refine g_goto (pc := 180) (tgt := 188) C d_M_add_180 (by decide) ?_
              have k188 := t188 hfn hno hb1 m3 (s.pbq.tr (s2.pq.tr s3)) g3
              rw [show eo (choose R.dat R.rcs p1 p2 t).2 = nI n from by rw [e1]; rfl] at k188
              exact G.lf k188 (sb rfl (sb rfl (sb rfl (sb rfl (sb rfl (sb rfl (sb rfl (sb rfl sn))))))))
        · have hb1 := b1_0 h162
          refine g_bipush (pc := 165) C d_M_add_165 bp_m2 ?_
          refine g_iret (pc := 167) C d_M_add_167 ?_
          rw [stor_2 hfn hno hb1, oi_m2]
          exact ⟨m2, rfl, rfl, g2, s.pbq.pqm.tr s2.mfR, (rq_0 s2).trans (pq_0 (q := q) s.pbq)⟩
      · have hno : 24 ≤ R.rcs.length ∨ 600 < R.dat.length + (choose R.dat R.rcs p1 p2 t).1.length := Or.inr (Nat.not_le.mp fun e => h143 (nI_le e (by decide)))
        refine g_bipush (pc := 146) C d_M_add_146 bp_m4 ?_
        refine g_iret (pc := 148) C d_M_add_148 ?_
        rw [stor_4 hfn hno, oi_4]
        exact ⟨m1, rfl, rfl, g, s.pbq.pqm, pq_0 (q := q) s.pbq⟩
  have t41 : G X D (Qp X D (fun a u => ∃ m2, u = ((c, m2, ow) : Sg) ∧ a = some (.int (Int32.ofInt (stor R p1 p2 t).1)) ∧ MRep m2 q (stor R p1 p2 t).2 ∧ Mf q m m2 ∧ m2.1 0 0 = m.1 0 0)) (0, 0) ((c, m, ow) : Sg) 41 [(0, some (.ref (aMdl D))), (1, some (.int (nI q))), (2, some (.int (eo p1))), (3, some (.int (eo p2))), (4, some (.long (nodeOf R.rcs p1 p2 t)))] [] := by
    cases hfn : find R.rcs (nodeOf R.rcs p1 p2 t) with
    | some k =>
      have hk := find_lt hfn
      refine g_aload_n (pc := 41) (i := 0) C d_M_add_41 rfl rfl ?_
      refine g_iload_n (pc := 42) (i := 1) C d_M_add_42 rfl rfl ?_
      refine g_lload (pc := 43) C d_M_add_43 rfl ?_
      refine g_callV1 (pc := 45) (As := [_, _]) C my_M_found mv_M_found cl_M_138 is_M d_M_add_45 (Nat.le_of_ble_eq_true rfl) rfl (Nat.le_of_ble_eq_true rfl) ⟨Nat.zero_le _, Nat.zero_le _⟩ (c_M_found _ hD hq h.2.1.1 (h.rx h24)) ?_
      rw [hfn]
      refine G.eq (st' := [.int (nI k)]) rfl rfl rfl ?_
      refine g_istore (pc := 48) C d_M_add_48 (by decide) rfl ?_
      refine g_iload (pc := 50) C d_M_add_50 rfl ?_
      refine g_if_lt (pc := 52) (tgt := 58) C d_M_add_52 (by decide) (fun h52 => ?_) (fun h52 => ?_)
      · first | exact absurd h52 (nI_pos (by omega)) | exact absurd (nI_pos (by omega)) h52
      · skip
        refine g_iload (pc := 55) C d_M_add_55 rfl ?_
        refine g_iret (pc := 57) C d_M_add_57 ?_
        rw [stor_k hfn, oi_n]
        exact ⟨m, rfl, rfl, h, Mf.rf, rfl⟩
    | none =>
      refine g_aload_n (pc := 41) (i := 0) C d_M_add_41 rfl rfl ?_
      refine g_iload_n (pc := 42) (i := 1) C d_M_add_42 rfl rfl ?_
      refine g_lload (pc := 43) C d_M_add_43 rfl ?_
      refine g_callV1 (pc := 45) (As := [_, _]) C my_M_found mv_M_found cl_M_138 is_M d_M_add_45 (Nat.le_of_ble_eq_true rfl) rfl (Nat.le_of_ble_eq_true rfl) ⟨Nat.zero_le _, Nat.zero_le _⟩ (c_M_found _ hD hq h.2.1.1 (h.rx h24)) ?_
      rw [hfn]
      refine g_istore (pc := 48) C d_M_add_48 (by decide) rfl ?_
      refine g_iload (pc := 50) C d_M_add_50 rfl ?_
      refine g_if_lt (pc := 52) (tgt := 58) C d_M_add_52 (by decide) (fun h52 => ?_) (fun h52 => ?_)
      · skip
        refine g_aload_n (pc := 58) (i := 0) C d_M_add_58 rfl rfl ?_
        refine g_iload_n (pc := 59) (i := 1) C d_M_add_59 rfl rfl ?_
        refine g_iload_n (pc := 60) (i := 2) C d_M_add_60 rfl rfl ?_
        refine g_iload_n (pc := 61) (i := 3) C d_M_add_61 rfl rfl ?_
        refine g_callVp (pc := 62) (As := [_, _, _]) C my_M_chosen mv_M_chosen cl_M_142 is_M d_M_add_62 (Nat.le_of_ble_eq_true rfl) rfl (Nat.le_of_ble_eq_true rfl) ⟨Nat.zero_le _, Nat.zero_le _⟩ (x_M_chosen _ hD hq h yd h600 h24 hw hp1 hp2 ht h60 hy) (fun r62 u62 hp62 => ?_)
        obtain ⟨m1, rfl, rfl, s1⟩ := hp62
        have t1 := ht.tx (q := q) s1.pbq
        refine g_istore (pc := 65) C d_M_add_65 (by decide) rfl ?_
        refine g_iconst (pc := 67) C d_M_add_67 icn_1 ?_
        refine g_iconst (pc := 68) C d_M_add_68 icn_2 ?_
        refine g_aload_n (pc := 69) (i := 0) C d_M_add_69 rfl rfl ?_
        refine g_callV1 (pc := 70) (As := []) C my_M_runs mv_M_runs cl_M_117 is_M d_M_add_70 (Nat.le_of_ble_eq_true rfl) rfl (Nat.le_of_ble_eq_true rfl) ⟨Nat.zero_le _, Nat.zero_le _⟩ (c_M_runs _ hD t1 h60 hy) ?_
        refine g_imul (pc := 73) C d_M_add_73 ?_
        refine g_iadd (pc := 74) C d_M_add_74 ?_
        rw [nI_mul, nI_add]
        refine g_istore (pc := 75) C d_M_add_75 (by decide) rfl ?_
        refine g_iload (pc := 77) C d_M_add_77 rfl ?_
        refine g_iconst (pc := 79) C d_M_add_79 icn_1 ?_
        refine g_aload_n (pc := 80) (i := 0) C d_M_add_80 rfl rfl ?_
        refine gf_M_textLen (pc := 81) C fl_M_106 d_M_add_81 ?_
        rw [t1.1]
        refine g_iadd (pc := 84) C d_M_add_84 ?_
        rw [nI_add]
        refine g_icmp_ge (pc := 85) (tgt := 93) C d_M_add_85 (by decide) (fun h85 => ?_) (fun h85 => ?_)
        · have hlt : ¬ 1 + 2 * rl t < 1 + t.length := fun q => absurd h85 (nI_ge q (by omega))
          rw [if_neg hlt] at hle
          refine g_iconst (pc := 93) C d_M_add_93 icn_1 ?_
          refine g_aload_n (pc := 94) (i := 0) C d_M_add_94 rfl rfl ?_
          refine gf_M_textLen (pc := 95) C fl_M_106 d_M_add_95 ?_
          refine g_iadd (pc := 98) C d_M_add_98 ?_
          rw [t1.1, nI_add, ← hle]
          refine g_istore (pc := 99) C d_M_add_99 (by decide) rfl ?_
          rcases hci with ⟨e1, e2⟩ | ⟨n, b, e1, e2, e3⟩
          · skip
            refine g_iload (pc := 101) C d_M_add_101 rfl ?_
            rw [e1]
            refine g_if_lt (pc := 103) (tgt := 120) C d_M_add_103 (by decide) (fun h103 => ?_) (fun h103 => ?_)
            · skip
              exact G.lf (t120 hfn (by rw [e2]; omega) m1 s1) (sb rfl (sb rfl (sb rfl (sb rfl (sb rfl (sb (by rw [e1]; rfl) (sb (by rw [e2]; rfl) sn)))))))
            · first | exact absurd h103 (by decide) | exact absurd (by decide) h103
          · have hnl : n < R.rcs.length := by
              have := (chz (p := p1) (q := p2) yd hy h60 hp1 hp2).2.2.2 n e1
              exact this.1
            have kb := by_built yd e2
            have hlD := encD_l (b := b) (t := t)
            rw [show eo (choose R.dat R.rcs p1 p2 t).2 = nI n from by rw [e1]; rfl]
            refine g_iload (pc := 101) C d_M_add_101 rfl ?_
            refine g_if_lt (pc := 103) (tgt := 120) C d_M_add_103 (by decide) (fun h103 => ?_) (fun h103 => ?_)
            · first | exact absurd h103 (nI_pos (by omega)) | exact absurd (nI_pos (by omega)) h103
            · skip
              refine g_aload_n (pc := 106) (i := 0) C d_M_add_106 rfl rfl ?_
              refine g_iload_n (pc := 107) (i := 1) C d_M_add_107 rfl rfl ?_
              refine g_iload (pc := 108) C d_M_add_108 rfl ?_
              refine g_callVp (pc := 110) (As := [_, _]) C my_M_build mv_M_build cl_M_124 is_M d_M_add_110 (Nat.le_of_ble_eq_true rfl) rfl (Nat.le_of_ble_eq_true rfl) ⟨Nat.zero_le _, Nat.zero_le _⟩ (x_M_build _ hD hq (h.pb s1) yd h600 h24 hw hnl) (fun r110 u110 hp110 => ?_)
              obtain ⟨m2, rfl, s2, hp3⟩ := hp110
              obtain ⟨rfl, hB⟩ : r110 = some (.int 1) ∧ Bl m2 14 2 b := by
                rcases hp3 with ⟨b2, x1, x2, hB⟩ | ⟨x1, x2⟩
                · rw [e2] at x1
                  cases x1
                  exact ⟨x2, hB⟩
                · rw [e2] at x1
                  cases x1
              refine g_pop (pc := 113) C d_M_add_113 rfl ?_
              refine g_aload_n (pc := 114) (i := 0) C d_M_add_114 rfl rfl ?_
              refine g_callV1 (pc := 115) (As := []) C my_M_difference mv_M_difference cl_M_127 is_M d_M_add_115 (Nat.le_of_ble_eq_true rfl) rfl (Nat.le_of_ble_eq_true rfl) ⟨Nat.zero_le _, Nat.zero_le _⟩ (c_M_difference _ hD hB (t1.tx (q := q) s2.pbq) kb.2 h60 kb.1 hy) ?_
              refine g_istore (pc := 118) C d_M_add_118 (by decide) rfl ?_
              exact G.lf (t120 hfn (by rw [e3]; omega) m2 (s1.tr s2)) (sb rfl (sb rfl (sb rfl (sb rfl (sb rfl (sb (by rw [e1]; rfl) (sb (by rw [e3]; rfl) sn)))))))
        · have hlt : 1 + 2 * rl t < 1 + t.length := Nat.not_le.mp fun e => h85 (nI_le e (by omega))
          rw [if_pos hlt] at hle
          refine g_iload (pc := 88) C d_M_add_88 rfl ?_
          refine g_goto (pc := 90) (tgt := 99) C d_M_add_90 (by decide) ?_
          rw [← hle]
          refine g_istore (pc := 99) C d_M_add_99 (by decide) rfl ?_
          rcases hci with ⟨e1, e2⟩ | ⟨n, b, e1, e2, e3⟩
          · skip
            refine g_iload (pc := 101) C d_M_add_101 rfl ?_
            rw [e1]
            refine g_if_lt (pc := 103) (tgt := 120) C d_M_add_103 (by decide) (fun h103 => ?_) (fun h103 => ?_)
            · skip
              exact G.lf (t120 hfn (by rw [e2]; omega) m1 s1) (sb rfl (sb rfl (sb rfl (sb rfl (sb rfl (sb (by rw [e1]; rfl) (sb (by rw [e2]; rfl) sn)))))))
            · first | exact absurd h103 (by decide) | exact absurd (by decide) h103
          · have hnl : n < R.rcs.length := by
              have := (chz (p := p1) (q := p2) yd hy h60 hp1 hp2).2.2.2 n e1
              exact this.1
            have kb := by_built yd e2
            have hlD := encD_l (b := b) (t := t)
            rw [show eo (choose R.dat R.rcs p1 p2 t).2 = nI n from by rw [e1]; rfl]
            refine g_iload (pc := 101) C d_M_add_101 rfl ?_
            refine g_if_lt (pc := 103) (tgt := 120) C d_M_add_103 (by decide) (fun h103 => ?_) (fun h103 => ?_)
            · first | exact absurd h103 (nI_pos (by omega)) | exact absurd (nI_pos (by omega)) h103
            · skip
              refine g_aload_n (pc := 106) (i := 0) C d_M_add_106 rfl rfl ?_
              refine g_iload_n (pc := 107) (i := 1) C d_M_add_107 rfl rfl ?_
              refine g_iload (pc := 108) C d_M_add_108 rfl ?_
              refine g_callVp (pc := 110) (As := [_, _]) C my_M_build mv_M_build cl_M_124 is_M d_M_add_110 (Nat.le_of_ble_eq_true rfl) rfl (Nat.le_of_ble_eq_true rfl) ⟨Nat.zero_le _, Nat.zero_le _⟩ (x_M_build _ hD hq (h.pb s1) yd h600 h24 hw hnl) (fun r110 u110 hp110 => ?_)
              obtain ⟨m2, rfl, s2, hp3⟩ := hp110
              obtain ⟨rfl, hB⟩ : r110 = some (.int 1) ∧ Bl m2 14 2 b := by
                rcases hp3 with ⟨b2, x1, x2, hB⟩ | ⟨x1, x2⟩
                · rw [e2] at x1
                  cases x1
                  exact ⟨x2, hB⟩
                · rw [e2] at x1
                  cases x1
              refine g_pop (pc := 113) C d_M_add_113 rfl ?_
              refine g_aload_n (pc := 114) (i := 0) C d_M_add_114 rfl rfl ?_
              refine g_callV1 (pc := 115) (As := []) C my_M_difference mv_M_difference cl_M_127 is_M d_M_add_115 (Nat.le_of_ble_eq_true rfl) rfl (Nat.le_of_ble_eq_true rfl) ⟨Nat.zero_le _, Nat.zero_le _⟩ (c_M_difference _ hD hB (t1.tx (q := q) s2.pbq) kb.2 h60 kb.1 hy) ?_
              refine g_istore (pc := 118) C d_M_add_118 (by decide) rfl ?_
              exact G.lf (t120 hfn (by rw [e3]; omega) m2 (s1.tr s2)) (sb rfl (sb rfl (sb rfl (sb rfl (sb rfl (sb (by rw [e1]; rfl) (sb (by rw [e3]; rfl) sn)))))))
      · first | exact absurd h52 (by decide) | exact absurd (by decide) h52
  have loop : ∀ (j k : Nat), k + j = t.length → G X D (Qp X D (fun a u => ∃ m2, u = ((c, m2, ow) : Sg) ∧ a = some (.int (Int32.ofInt (stor R p1 p2 t).1)) ∧ MRep m2 q (stor R p1 p2 t).2 ∧ Mf q m m2 ∧ m2.1 0 0 = m.1 0 0)) (0, 0) ((c, m, ow) : Sg) 12 [(0, some (.ref (aMdl D))), (1, some (.int (nI q))), (2, some (.int (eo p1))), (3, some (.int (eo p2))), (4, some (.long ((t.take k).foldl mix (nodS (nodP R.rcs p1) (nodP R.rcs p2))))), (6, some (.int (nI k)))] [] := by
    intro j
    induction j with
    | zero =>
      intro k hk
      rw [List.take_of_length_le (by omega)]
      refine g_iload (pc := 12) C d_M_add_12 rfl ?_
      refine g_aload_n (pc := 14) (i := 0) C d_M_add_14 rfl rfl ?_
      refine gf_M_textLen (pc := 15) C fl_M_106 d_M_add_15 ?_
      rw [ht.1]
      refine g_icmp_ge (pc := 18) (tgt := 41) C d_M_add_18 (by decide) (fun h18 => ?_) (fun h18 => ?_)
      · skip
        exact G.lf t41 (sb rfl (sb rfl (sb rfl (sb rfl (sb rfl sn)))))
      · first | exact absurd h18 (nI_le (by omega) (by omega)) | exact absurd (nI_le (by omega) (by omega)) h18
    | succ j ih =>
      intro k hk
      have ek := fold_s (t := t) (k := k) (z := (nodS (nodP R.rcs p1) (nodP R.rcs p2))) (by omega)
      refine g_iload (pc := 12) C d_M_add_12 rfl ?_
      refine g_aload_n (pc := 14) (i := 0) C d_M_add_14 rfl rfl ?_
      refine gf_M_textLen (pc := 15) C fl_M_106 d_M_add_15 ?_
      rw [ht.1]
      refine g_icmp_ge (pc := 18) (tgt := 41) C d_M_add_18 (by decide) (fun h18 => ?_) (fun h18 => ?_)
      · first | exact absurd h18 (nI_ge (show k < t.length by omega) (by omega)) | exact absurd (nI_ge (show k < t.length by omega) (by omega)) h18
      · skip
        refine g_lload (pc := 21) C d_M_add_21 rfl ?_
        refine g_aload_n (pc := 23) (i := 0) C d_M_add_23 rfl rfl ?_
        refine gf_M_text (pc := 24) C fl_M_66 d_M_add_24 ?_
        refine g_iload (pc := 27) C d_M_add_27 rfl ?_
        refine ga_mar (pc := 29) C (by decide) (by decide) (vp_in_nI (show k < 60 by omega) (by decide)) d_M_add_29 ?_
        rw [nI_clamp (show k < 2 ^ 31 by omega), ht.2 k (by omega)]
        refine g_callS1 (pc := 30) (As := [_, _]) C my_M_mixed ms_M_mixed cl_M_78 d_M_add_30 (Nat.le_of_ble_eq_true rfl) rfl (Nat.le_of_ble_eq_true rfl) ⟨Nat.zero_le _, Nat.zero_le _⟩ (c_M_mixed _ hD) ?_
        refine G.sg rfl ?_
        rw [show (((t.take k).foldl mix (nodS (nodP R.rcs p1) (nodP R.rcs p2))) ^^^ (nI (t.getD k 0)).toInt64) * 1099511628211 = (t.take (k + 1)).foldl mix (nodS (nodP R.rcs p1) (nodP R.rcs p2)) from ek]
        refine g_lstore (pc := 33) C d_M_add_33 (by decide) rfl ?_
        refine g_iinc (pc := 35) C d_M_add_35 rfl (v := nI (k + 1)) (nI_inc k) rfl ?_
        refine g_goto (pc := 38) (tgt := 12) C d_M_add_38 (by decide) ?_
        exact G.lf (ih (k + 1) (by omega)) (sb rfl (sb rfl (sb rfl (sb rfl (sb rfl (sb rfl sn))))))
  refine g_aload_n (pc := 0) (i := 0) C d_M_add_0 rfl rfl ?_
  refine g_iload_n (pc := 1) (i := 1) C d_M_add_1 rfl rfl ?_
  refine g_iload_n (pc := 2) (i := 2) C d_M_add_2 rfl rfl ?_
  refine g_iload_n (pc := 3) (i := 3) C d_M_add_3 rfl rfl ?_
  refine g_callV1 (pc := 4) (As := [_, _, _]) C my_M_begun mv_M_begun cl_M_102 is_M d_M_add_4 (Nat.le_of_ble_eq_true rfl) rfl (Nat.le_of_ble_eq_true rfl) ⟨Nat.zero_le _, Nat.zero_le _⟩ (c_M_begun _ hD hq (h.rx h24) hp1 hp2) ?_
  refine g_lstore (pc := 7) C d_M_add_7 (by decide) rfl ?_
  refine g_iconst (pc := 9) C d_M_add_9 icn_0 ?_
  refine g_istore (pc := 10) C d_M_add_10 (by decide) rfl ?_
  exact G.lf (loop t.length 0 (by omega)) (sb rfl (sb rfl (sb rfl (sb rfl (sb rfl (sb rfl sn))))))
set_option maxRecDepth 100000 in
set_option maxHeartbeats 4000000 in
theorem x_M_bring (l : Launch) {D : Dt} (hD : OkD D) {c m : Cs} {ow : Nat → Int64} {q : Nat} {R : Rp} {O : Rp} {o n : Nat} {x : Rc} {t : List Nat} (hq : q < 2) (ho : o < 2) (h : MRep m q R) (hO : MRep m o O) (wR : WfR R) (hd : R.dwn = false) (o24 : O.rcs.length ≤ 24) (hx : O.rcs[n]? = some x) (hpx : ∀ b, x.pa = some b → b < O.rcs.length) (hqx : ∀ b, x.pb = some b → b < O.rcs.length) (hB : Bl m 14 2 t) (h60 : t.length ≤ 60) (hy : By t) : Cp l D y_M_bring b_M_bring 8 (some .int) 7 [.int (nI n), .int (nI o), .int (nI q), .ref (aMdl D)] ((c, m, ow) : Sg) (fun a u => ∃ m2, u = ((c, m2, ow) : Sg) ∧ a = some (.int (Int32.ofInt (stor R (twn R O x.pa) (twn R O x.pb) t).1)) ∧ MRep m2 q (stor R (twn R O x.pa) (twn R O x.pb) t).2 ∧ Mf q m m2 ∧ m2.1 0 0 = m.1 0 0) := by
  have h24 := wR.2.2.1
  have hnl := (List.getElem?_eq_some_iff.mp hx).1
  have la : ∀ n, twn R O x.pa = some n → n < R.rcs.length := twn_lt
  have lb : ∀ n, twn R O x.pb = some n → n < R.rcs.length := twn_lt
  generalize hTa : twn R O x.pa = ta at la ⊢
  generalize hTb : twn R O x.pb = tb at lb ⊢
  refine Cp.of hD (by decide) (Nat.le_of_ble_eq_true rfl) [(0, some (.ref (aMdl D))), (1, some (.int (nI q))), (2, some (.int (nI o))), (3, some (.int (nI n)))] rfl (fun X hX C => ?_)
  subst hX
  have ms1 : ∀ {m1 : Cs}, Mk (fun a k => (a = 0 ∧ k = 3) ∨ a = 17) m m1 → Mk Ms m m1 := fun s => s.up (fun a k e => by unfold Ms; omega)
  have t120 : ∀ (m1 : Cs), Mk (fun a k => (a = 0 ∧ k = 3) ∨ a = 17) m m1 → Bl m1 17 3 t → G X D (Qp X D (fun a u => ∃ m2, u = ((c, m2, ow) : Sg) ∧ a = some (.int (Int32.ofInt (stor R ta tb t).1)) ∧ MRep m2 q (stor R ta tb t).2 ∧ Mf q m m2 ∧ m2.1 0 0 = m.1 0 0)) (0, 0) ((c, m1, ow) : Sg) 120 [(0, some (.ref (aMdl D))), (1, some (.int (nI q))), (2, some (.int (nI o))), (3, some (.int (nI n))), (6, some (.int (eo ta)))] [.int (eo tb)] := by
    intro m1 s b1
    refine g_istore (pc := 120) C d_M_bring_120 (by decide) rfl ?_
    refine g_aload_n (pc := 122) (i := 0) C d_M_bring_122 rfl rfl ?_
    refine g_iload_n (pc := 123) (i := 1) C d_M_bring_123 rfl rfl ?_
    refine g_iload (pc := 124) C d_M_bring_124 rfl ?_
    refine g_iload (pc := 126) C d_M_bring_126 rfl ?_
    refine g_callVp (pc := 128) (As := [_, _, _]) C my_M_add mv_M_add cl_M_175 is_M d_M_bring_128 (Nat.le_of_ble_eq_true rfl) rfl (Nat.le_of_ble_eq_true rfl) ⟨Nat.zero_le _, Nat.zero_le _⟩ (x_M_add _ hD hq (h.ms (ms1 s)) wR hd la lb b1 h60 hy) (fun r128 u128 hp128 => ?_)
    obtain ⟨m2, rfl, rfl, g2, s2, z2⟩ := hp128
    refine g_iret (pc := 131) C d_M_bring_131 ?_
    exact ⟨m2, rfl, rfl, g2, (ms1 s).mfS.tr s2, z2.trans (s.1 _ _ (by omega))⟩
  have t92 : ∀ (m1 : Cs), Mk (fun a k => (a = 0 ∧ k = 3) ∨ a = 17) m m1 → Bl m1 17 3 t → G X D (Qp X D (fun a u => ∃ m2, u = ((c, m2, ow) : Sg) ∧ a = some (.int (Int32.ofInt (stor R ta tb t).1)) ∧ MRep m2 q (stor R ta tb t).2 ∧ Mf q m m2 ∧ m2.1 0 0 = m.1 0 0)) (0, 0) ((c, m1, ow) : Sg) 92 [(0, some (.ref (aMdl D))), (1, some (.int (nI q))), (2, some (.int (nI o))), (3, some (.int (nI n))), (5, some (.int (eo x.pb)))] [.int (eo ta)] := by
    intro m1 s b1
    have k120 := t120 m1 s b1
    have gO := hO.ms (ms1 s)
    have gR := h.ms (ms1 s)
    cases hpb : x.pb with
    | none =>
      rw [hpb] at hTb
      have hTb : none = tb := hTb
      subst hTb
      refine g_istore (pc := 92) C d_M_bring_92 (by decide) rfl ?_
      refine g_iload (pc := 94) C d_M_bring_94 rfl ?_
      refine g_if_ge (pc := 96) (tgt := 103) C d_M_bring_96 (by decide) (fun h96 => ?_) (fun h96 => ?_)
      · first | exact absurd h96 (by decide) | exact absurd (by decide) h96
      · skip
        refine g_iconst (pc := 99) C d_M_bring_99 ic_m1 ?_
        refine g_goto (pc := 100) (tgt := 120) C d_M_bring_100 (by decide) ?_
        exact G.lf k120 (sb rfl (sb rfl (sb rfl (sb rfl (sb rfl sn)))))
    | some b =>
      have hbl := hqx b hpb
      obtain ⟨y, hyb⟩ : ∃ y, O.rcs[b]? = some y := ⟨_, List.getElem?_eq_getElem hbl⟩
      have hry := gO.2.1.2 b y hyb
      have htw : twn R O (some b) = find R.rcs y.nod := by
        show find R.rcs (nodP O.rcs (some b)) = _
        rw [nodP_s hyb]
      rw [hpb, htw] at hTb
      show G X D _ (0, 0) _ 92 [(0, some (.ref (aMdl D))), (1, some (.int (nI q))), (2, some (.int (nI o))), (3, some (.int (nI n))), (5, some (.int (nI b)))] _
      refine g_istore (pc := 92) C d_M_bring_92 (by decide) rfl ?_
      refine g_iload (pc := 94) C d_M_bring_94 rfl ?_
      refine g_if_ge (pc := 96) (tgt := 103) C d_M_bring_96 (by decide) (fun h96 => ?_) (fun h96 => ?_)
      · skip
        refine g_aload_n (pc := 103) (i := 0) C d_M_bring_103 rfl rfl ?_
        refine g_iload_n (pc := 104) (i := 1) C d_M_bring_104 rfl rfl ?_
        refine g_aload_n (pc := 105) (i := 0) C d_M_bring_105 rfl rfl ?_
        refine gf_M_nodes (pc := 106) C fl_M_40 d_M_bring_106 ?_
        refine g_bipush (pc := 109) C d_M_bring_109 bpn_24 ?_
        refine g_iload_n (pc := 111) (i := 2) C d_M_bring_111 rfl rfl ?_
        refine g_imul (pc := 112) C d_M_bring_112 ?_
        refine g_iload (pc := 113) C d_M_bring_113 rfl ?_
        refine g_iadd (pc := 115) C d_M_bring_115 ?_
        simp only [nI_mul, nI_add]
        refine ga_nds (pc := 116) C (vp_in_nI (show 24 * o + b < 48 by omega) (by decide)) d_M_bring_116 ?_
        rw [nI_clamp (show 24 * o + b < 2 ^ 31 by omega), hry.2.2.2.2.2.2]
        refine g_callV1 (pc := 117) (As := [_, _]) C my_M_found mv_M_found cl_M_138 is_M d_M_bring_117 (Nat.le_of_ble_eq_true rfl) rfl (Nat.le_of_ble_eq_true rfl) ⟨Nat.zero_le _, Nat.zero_le _⟩ (c_M_found _ hD hq gR.2.1.1 (gR.rx h24)) ?_
        rw [hTb]
        exact G.lf k120 (sb rfl (sb rfl (sb rfl (sb rfl (sb rfl sn)))))
      · first | exact absurd h96 (nI_pos' (by omega)) | exact absurd (nI_pos' (by omega)) h96
  have t40 : ∀ (m1 : Cs), Mk (fun a k => (a = 0 ∧ k = 3) ∨ a = 17) m m1 → Bl m1 17 3 t → G X D (Qp X D (fun a u => ∃ m2, u = ((c, m2, ow) : Sg) ∧ a = some (.int (Int32.ofInt (stor R ta tb t).1)) ∧ MRep m2 q (stor R ta tb t).2 ∧ Mf q m m2 ∧ m2.1 0 0 = m.1 0 0)) (0, 0) ((c, m1, ow) : Sg) 40 [(0, some (.ref (aMdl D))), (1, some (.int (nI q))), (2, some (.int (nI o))), (3, some (.int (nI n)))] [] := by
    intro m1 s b1
    have k92 := t92 m1 s b1
    have gO := hO.ms (ms1 s)
    have gR := h.ms (ms1 s)
    have hr := gO.2.1.2 n x hx
    cases hpa : x.pa with
    | none =>
      rw [hpa] at hTa
      have hTa : none = ta := hTa
      subst hTa
      have hra : m1.1 9 (24 * o + n) = -1 := by rw [hr.2.2.2.2.1, hpa]; rfl
      refine g_aload_n (pc := 40) (i := 0) C d_M_bring_40 rfl rfl ?_
      refine gf_M_first (pc := 41) C fl_M_34 d_M_bring_41 ?_
      refine g_bipush (pc := 44) C d_M_bring_44 bpn_24 ?_
      refine g_iload_n (pc := 46) (i := 2) C d_M_bring_46 rfl rfl ?_
      refine g_imul (pc := 47) C d_M_bring_47 ?_
      refine g_iload_n (pc := 48) (i := 3) C d_M_bring_48 rfl rfl ?_
      refine g_iadd (pc := 49) C d_M_bring_49 ?_
      simp only [nI_mul, nI_add]
      refine ga_mar (pc := 50) C (by decide) (by decide) (vp_in_nI (show 24 * o + n < 48 by omega) (by decide)) d_M_bring_50 ?_
      rw [nI_clamp (show 24 * o + n < 2 ^ 31 by omega), hra]
      refine g_istore (pc := 51) C d_M_bring_51 (by decide) rfl ?_
      refine g_aload_n (pc := 53) (i := 0) C d_M_bring_53 rfl rfl ?_
      refine gf_M_second (pc := 54) C fl_M_37 d_M_bring_54 ?_
      refine g_bipush (pc := 57) C d_M_bring_57 bpn_24 ?_
      refine g_iload_n (pc := 59) (i := 2) C d_M_bring_59 rfl rfl ?_
      refine g_imul (pc := 60) C d_M_bring_60 ?_
      refine g_iload_n (pc := 61) (i := 3) C d_M_bring_61 rfl rfl ?_
      refine g_iadd (pc := 62) C d_M_bring_62 ?_
      simp only [nI_mul, nI_add]
      refine ga_mar (pc := 63) C (by decide) (by decide) (vp_in_nI (show 24 * o + n < 48 by omega) (by decide)) d_M_bring_63 ?_
      rw [nI_clamp (show 24 * o + n < 2 ^ 31 by omega), hr.2.2.2.2.2.1]
      refine g_istore (pc := 64) C d_M_bring_64 (by decide) rfl ?_
      refine g_iload (pc := 66) C d_M_bring_66 rfl ?_
      refine g_if_ge (pc := 68) (tgt := 75) C d_M_bring_68 (by decide) (fun h68 => ?_) (fun h68 => ?_)
      · first | exact absurd h68 (by decide) | exact absurd (by decide) h68
      · skip
        refine g_iconst (pc := 71) C d_M_bring_71 ic_m1 ?_
        refine g_goto (pc := 72) (tgt := 92) C d_M_bring_72 (by decide) ?_
        exact G.lf k92 (sb rfl (sb rfl (sb rfl (sb rfl (sb rfl sn)))))
    | some b =>
      have hbl := hpx b hpa
      obtain ⟨y, hyb⟩ : ∃ y, O.rcs[b]? = some y := ⟨_, List.getElem?_eq_getElem hbl⟩
      have hry := gO.2.1.2 b y hyb
      have htw : twn R O (some b) = find R.rcs y.nod := by
        show find R.rcs (nodP O.rcs (some b)) = _
        rw [nodP_s hyb]
      rw [hpa, htw] at hTa
      have hra : m1.1 9 (24 * o + n) = nI b := by rw [hr.2.2.2.2.1, hpa]; rfl
      refine g_aload_n (pc := 40) (i := 0) C d_M_bring_40 rfl rfl ?_
      refine gf_M_first (pc := 41) C fl_M_34 d_M_bring_41 ?_
      refine g_bipush (pc := 44) C d_M_bring_44 bpn_24 ?_
      refine g_iload_n (pc := 46) (i := 2) C d_M_bring_46 rfl rfl ?_
      refine g_imul (pc := 47) C d_M_bring_47 ?_
      refine g_iload_n (pc := 48) (i := 3) C d_M_bring_48 rfl rfl ?_
      refine g_iadd (pc := 49) C d_M_bring_49 ?_
      simp only [nI_mul, nI_add]
      refine ga_mar (pc := 50) C (by decide) (by decide) (vp_in_nI (show 24 * o + n < 48 by omega) (by decide)) d_M_bring_50 ?_
      rw [nI_clamp (show 24 * o + n < 2 ^ 31 by omega), hra]
      refine g_istore (pc := 51) C d_M_bring_51 (by decide) rfl ?_
      refine g_aload_n (pc := 53) (i := 0) C d_M_bring_53 rfl rfl ?_
      refine gf_M_second (pc := 54) C fl_M_37 d_M_bring_54 ?_
      refine g_bipush (pc := 57) C d_M_bring_57 bpn_24 ?_
      refine g_iload_n (pc := 59) (i := 2) C d_M_bring_59 rfl rfl ?_
      refine g_imul (pc := 60) C d_M_bring_60 ?_
      refine g_iload_n (pc := 61) (i := 3) C d_M_bring_61 rfl rfl ?_
      refine g_iadd (pc := 62) C d_M_bring_62 ?_
      simp only [nI_mul, nI_add]
      refine ga_mar (pc := 63) C (by decide) (by decide) (vp_in_nI (show 24 * o + n < 48 by omega) (by decide)) d_M_bring_63 ?_
      rw [nI_clamp (show 24 * o + n < 2 ^ 31 by omega), hr.2.2.2.2.2.1]
      refine g_istore (pc := 64) C d_M_bring_64 (by decide) rfl ?_
      refine g_iload (pc := 66) C d_M_bring_66 rfl ?_
      refine g_if_ge (pc := 68) (tgt := 75) C d_M_bring_68 (by decide) (fun h68 => ?_) (fun h68 => ?_)
      · skip
        refine g_aload_n (pc := 75) (i := 0) C d_M_bring_75 rfl rfl ?_
        refine g_iload_n (pc := 76) (i := 1) C d_M_bring_76 rfl rfl ?_
        refine g_aload_n (pc := 77) (i := 0) C d_M_bring_77 rfl rfl ?_
        refine gf_M_nodes (pc := 78) C fl_M_40 d_M_bring_78 ?_
        refine g_bipush (pc := 81) C d_M_bring_81 bpn_24 ?_
        refine g_iload_n (pc := 83) (i := 2) C d_M_bring_83 rfl rfl ?_
        refine g_imul (pc := 84) C d_M_bring_84 ?_
        refine g_iload (pc := 85) C d_M_bring_85 rfl ?_
        refine g_iadd (pc := 87) C d_M_bring_87 ?_
        simp only [nI_mul, nI_add]
        refine ga_nds (pc := 88) C (vp_in_nI (show 24 * o + b < 48 by omega) (by decide)) d_M_bring_88 ?_
        rw [nI_clamp (show 24 * o + b < 2 ^ 31 by omega), hry.2.2.2.2.2.2]
        refine g_callV1 (pc := 89) (As := [_, _]) C my_M_found mv_M_found cl_M_138 is_M d_M_bring_89 (Nat.le_of_ble_eq_true rfl) rfl (Nat.le_of_ble_eq_true rfl) ⟨Nat.zero_le _, Nat.zero_le _⟩ (c_M_found _ hD hq gR.2.1.1 (gR.rx h24)) ?_
        rw [hTa]
        exact G.lf k92 (sb rfl (sb rfl (sb rfl (sb rfl (sb rfl sn)))))
      · first | exact absurd h68 (nI_pos' (by omega)) | exact absurd (nI_pos' (by omega)) h68
  have loop : ∀ (j k : Nat) (m1 : Cs), k + j = t.length → Mk (fun a k => (a = 0 ∧ k = 3) ∨ a = 17) m m1 → m1.1 0 3 = nI t.length → (∀ i, i < k → m1.1 17 i = (fun i => nI (t.getD i 0)) i) → G X D (Qp X D (fun a u => ∃ m2, u = ((c, m2, ow) : Sg) ∧ a = some (.int (Int32.ofInt (stor R ta tb t).1)) ∧ MRep m2 q (stor R ta tb t).2 ∧ Mf q m m2 ∧ m2.1 0 0 = m.1 0 0)) (0, 0) ((c, m1, ow) : Sg) 11 [(0, some (.ref (aMdl D))), (1, some (.int (nI q))), (2, some (.int (nI o))), (3, some (.int (nI n))), (4, some (.int (nI k)))] [] := by
    intro j
    induction j with
    | zero =>
      intro k m1 hk s e0 g
      have hB1 : Bl m1 14 2 t := hB.mk s (by omega) (fun i => by omega)
      refine g_iload (pc := 11) C d_M_bring_11 rfl ?_
      refine g_aload_n (pc := 13) (i := 0) C d_M_bring_13 rfl rfl ?_
      refine gf_M_builtLen (pc := 14) C fl_M_92 d_M_bring_14 ?_
      rw [hB1.1]
      refine g_icmp_ge (pc := 17) (tgt := 40) C d_M_bring_17 (by decide) (fun h17 => ?_) (fun h17 => ?_)
      · skip
        exact G.lf (t40 m1 s ⟨e0, fun i hi => g i (by omega)⟩) (sb rfl (sb rfl (sb rfl (sb rfl sn))))
      · first | exact absurd h17 (nI_le (by omega) (by omega)) | exact absurd (nI_le (by omega) (by omega)) h17
    | succ j ih =>
      intro k m1 hk s e0 g
      have hB1 : Bl m1 14 2 t := hB.mk s (by omega) (fun i => by omega)
      refine g_iload (pc := 11) C d_M_bring_11 rfl ?_
      refine g_aload_n (pc := 13) (i := 0) C d_M_bring_13 rfl rfl ?_
      refine gf_M_builtLen (pc := 14) C fl_M_92 d_M_bring_14 ?_
      rw [hB1.1]
      refine g_icmp_ge (pc := 17) (tgt := 40) C d_M_bring_17 (by decide) (fun h17 => ?_) (fun h17 => ?_)
      · first | exact absurd h17 (nI_ge (show k < t.length by omega) (by omega)) | exact absurd (nI_ge (show k < t.length by omega) (by omega)) h17
      · skip
        refine g_aload_n (pc := 20) (i := 0) C d_M_bring_20 rfl rfl ?_
        refine gf_M_text (pc := 21) C fl_M_66 d_M_bring_21 ?_
        refine g_iload (pc := 24) C d_M_bring_24 rfl ?_
        refine g_aload_n (pc := 26) (i := 0) C d_M_bring_26 rfl rfl ?_
        refine gf_M_built (pc := 27) C fl_M_57 d_M_bring_27 ?_
        refine g_iload (pc := 30) C d_M_bring_30 rfl ?_
        refine ga_mar (pc := 32) C (by decide) (by decide) (vp_in_nI (show k < 60 by omega) (by decide)) d_M_bring_32 ?_
        rw [nI_clamp (show k < 2 ^ 31 by omega), hB1.2 k (by omega)]
        refine gs_mar (pc := 33) C (by decide) (by decide) (vp_in_nI (show k < 60 by omega) (by decide)) d_M_bring_33 ?_
        rw [nI_clamp (show k < 2 ^ 31 by omega)]
        refine g_iinc (pc := 34) C d_M_bring_34 rfl (v := nI (k + 1)) (nI_inc k) rfl ?_
        refine g_goto (pc := 37) (tgt := 11) C d_M_bring_37 (by decide) ?_
        exact G.lf (ih (k + 1) _ (by omega) (s.tr (Mk.wI (Or.inr rfl))) (by rw [rI_n (Or.inl (by decide))]; exact e0) (st_step g)) (sb rfl (sb rfl (sb rfl (sb rfl (sb rfl sn)))))
  refine g_aload_n (pc := 0) (i := 0) C d_M_bring_0 rfl rfl ?_
  refine g_aload_n (pc := 1) (i := 0) C d_M_bring_1 rfl rfl ?_
  refine gf_M_builtLen (pc := 2) C fl_M_92 d_M_bring_2 ?_
  rw [hB.1]
  refine gp_M_textLen (pc := 5) C fl_M_106 d_M_bring_5 ?_
  refine g_iconst (pc := 8) C d_M_bring_8 icn_0 ?_
  refine g_istore (pc := 9) C d_M_bring_9 (by decide) rfl ?_
  exact G.lf (loop t.length 0 _ (by omega) (Mk.wI (Or.inl ⟨rfl, rfl⟩)) rI_s (fun i hi => by omega)) (sb rfl (sb rfl (sb rfl (sb rfl (sb rfl sn)))))
