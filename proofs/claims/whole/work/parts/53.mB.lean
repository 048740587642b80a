/-! THE REFERENCE: records, chunks, what a call touches -/
theorem lg_ge {x y : Int64} : 0 ≤ lg_cmp x y ↔ ¬ x < y := by
  unfold lg_cmp
  split
  · rename_i h
    refine ⟨fun _ e => ?_, fun _ => by decide⟩
    simp only [GT.gt, Int64.lt_iff_toInt_lt] at h e
    omega
  · rename_i h
    split
    · rename_i h2
      subst h2
      exact ⟨fun _ => h, fun _ => by decide⟩
    · rename_i h2
      refine ⟨fun e => absurd e (by decide), fun e => absurd ?_ h2⟩
      simp only [GT.gt, Int64.lt_iff_toInt_lt] at h e
      exact Int64.toInt_inj.mp (by omega)
theorem nodS_lt {a b : Int64} (h : a < b) : mixL (mixL 1469598103934665603 a) b = nodS a b := by
  have h2 : ¬ b < a := by
    simp only [Int64.lt_iff_toInt_lt] at h ⊢
    omega
  unfold nodS
  rw [if_neg h2, if_neg h2]
theorem nodS_ge {a b : Int64} (h : ¬ a < b) : mixL (mixL 1469598103934665603 b) a = nodS a b := by
  unfold nodS
  by_cases h2 : b < a
  · rw [if_pos h2, if_pos h2]
  · have e : a = b := by
      simp only [Int64.lt_iff_toInt_lt] at h h2
      exact Int64.toInt_inj.mp (by omega)
    rw [if_neg h2, if_neg h2, e]
theorem eo_lt {o : Option Nat} (h : ∀ n, o = some n → n < 2 ^ 31) : eo o < 0 ↔ o = none := by
  cases o with
  | none => exact ⟨fun _ => rfl, fun _ => by decide⟩
  | some n => exact ⟨fun e => absurd e (nI_pos (h n rfl)), fun e => by cases e⟩
theorem eo_ge {o : Option Nat} (h : ∀ n, o = some n → n < 2 ^ 31) : 0 ≤ eo o ↔ ¬ o = none := by
  rw [← eo_lt h]
  exact Int32.not_lt.symm
def MRx (m : Cs) (q : Nat) (rs : List Rc) : Prop := rs.length ≤ 24 ∧ ∀ (n : Nat) (x : Rc), rs[n]? = some x → MRec m (24 * q + n) x
theorem MRep.rx {m : Cs} {q : Nat} {R : Rp} (h : MRep m q R) (h24 : R.rcs.length ≤ 24) : MRx m q R.rcs := ⟨h24, h.2.1.2⟩
/-- a chunk as it lies in DATA -/
def MCh (m : Cs) (q n : Nat) (ch : List Nat) : Prop := ∃ o, m.1 5 (24 * q + n) = nI o ∧ m.1 6 (24 * q + n) = nI ch.length ∧ o + ch.length ≤ 600 ∧ ∀ k, k < ch.length → m.1 2 (600 * q + o + k) = nI (ch.getD k 0)
theorem MRep.ch {m : Cs} {q n : Nat} {R : Rp} {x : Rc} (h : MRep m q R) (hx : R.rcs[n]? = some x) (hw : x.off + x.siz ≤ R.dat.length) (hd : R.dat.length ≤ 600) : MCh m q n (chnk R.dat x) := by
  have hl : (chnk R.dat x).length = x.siz := tk_len hw
  have hr := h.2.1.2 n x hx
  refine ⟨x.off, hr.1, by rw [hl]; exact hr.2.1, by rw [hl]; omega, fun k hk => ?_⟩
  rw [hl] at hk
  rw [show 600 * q + x.off + k = 600 * q + (x.off + k) by omega, h.1.2 _ (by omega)]
  unfold chnk
  simp only [List.getD_eq_getElem?_getD, List.getElem?_take, List.getElem?_drop]
  rw [if_pos hk]
theorem MCh.mk {P : Nat → Nat → Prop} {m m2 : Cs} {q n : Nat} {ch : List Nat} (h : MCh m q n ch) (hs : Mk P m m2) (hp : ∀ a k, (a = 2 ∨ a = 5 ∨ a = 6) → ¬ P a k) : MCh m2 q n ch := by
  obtain ⟨o, h1, h2, h3, h4⟩ := h
  refine ⟨o, ?_, ?_, h3, fun k hk => ?_⟩
  · rw [hs.1 _ _ (hp _ _ (by decide))]; exact h1
  · rw [hs.1 _ _ (hp _ _ (by decide))]; exact h2
  · rw [hs.1 _ _ (hp _ _ (by decide))]; exact h4 k hk
/-- what belongs to a repository -/
def Rq (q : Nat) : Nat → Nat → Prop := fun a k => ((a = 3 ∨ a = 4 ∨ (11 ≤ a ∧ a ≤ 13) ∨ a = 19) ∧ k = q) ∨ (a = 2 ∧ 600 * q ≤ k ∧ k < 600 * q + 600) ∨ (5 ≤ a ∧ a ≤ 10 ∧ 24 * q ≤ k ∧ k < 24 * q + 24)
def Mf (q : Nat) (m m2 : Cs) : Prop := (∀ a k, ¬ (Ms a k ∨ Rq q a k) → m2.1 a k = m.1 a k) ∧ ∀ i, ¬ (24 * q ≤ i ∧ i < 24 * q + 24) → m2.2 i = m.2 i
theorem Mf.tr {q : Nat} {m m2 m3 : Cs} (h : Mf q m m2) (g : Mf q m2 m3) : Mf q m m3 := ⟨fun a k hp => (g.1 a k hp).trans (h.1 a k hp), fun i hi => (g.2 i hi).trans (h.2 i hi)⟩
theorem Mk.mf {P : Nat → Nat → Prop} {q : Nat} {m m2 : Cs} (h : Mk P m m2) (hp : ∀ a k, P a k → Ms a k ∨ Rq q a k) : Mf q m m2 := ⟨fun a k hk => h.1 a k (fun e => hk (hp a k e)), fun i _ => by rw [h.2]⟩
theorem Mk.mfR {q : Nat} {m m2 : Cs} (h : Mk (Rq q) m m2) : Mf q m m2 := h.mf (fun _ _ => Or.inr)
theorem Mk.mfS {q : Nat} {m m2 : Cs} (h : Mk Ms m m2) : Mf q m m2 := h.mf (fun _ _ => Or.inl)
theorem MRep.ot {m m2 : Cs} {q k : Nat} {R : Rp} (h : MRep m k R) (hs : Mf q m m2) (hq : q < 2) (hk : k < 2) (hn : k ≠ q) (hd : R.dat.length ≤ 600) (h24 : R.rcs.length ≤ 24) : MRep m2 k R := by
  obtain ⟨⟨h1, h2⟩, ⟨h3, h4⟩, ⟨h5, h6⟩, h7, h8⟩ := h
  have f : ∀ a, (a = 3 ∨ a = 4 ∨ (11 ≤ a ∧ a ≤ 13) ∨ a = 19) → m2.1 a k = m.1 a k := fun a ha => hs.1 a k (by unfold Ms Rq; omega)
  refine ⟨⟨?_, fun j hj => ?_⟩, ⟨?_, fun j x hx => ?_⟩, ⟨?_, fun p hp => ?_⟩, ?_, ?_⟩
  · rw [f 3 (by decide)]; exact h1
  · rw [hs.1 _ _ (by unfold Ms Rq; omega)]; exact h2 j hj
  · rw [f 4 (by decide)]; exact h3
  · have hj := (List.getElem?_eq_some_iff.mp hx).1
    have g : ∀ a, 5 ≤ a → a ≤ 10 → m2.1 a (24 * k + j) = m.1 a (24 * k + j) := fun a h1 h2 => hs.1 a _ (by unfold Ms Rq; omega)
    unfold MRec
    rw [g 5 (by decide) (by decide), g 6 (by decide) (by decide), g 7 (by decide) (by decide), g 8 (by decide) (by decide), g 9 (by decide) (by decide), g 10 (by decide) (by decide), hs.2 _ (by omega)]
    exact h4 j x hx
  · rw [f 11 (by decide)]; exact h5
  · rw [f 12 (by decide)]; exact h6 p hp
  · rw [f 19 (by decide)]; exact h7
  · rw [f 13 (by decide)]; exact h8
theorem MAbs.up {m m2 : Cs} {V : Vt} {q : Nat} {R : Rp} (h : MAbs m V) (w : WfV V) (hq : q < 2) (hs : Mf q m m2) (hR : MRep m2 q R) : MAbs m2 (upR V q R) := by
  refine ⟨⟨?_, fun k hk => ?_⟩, ?_, ?_⟩
  · rw [hs.1 _ _ (by unfold Ms Rq; omega)]; exact h.1.1
  · rw [hs.1 _ _ (by unfold Ms Rq; omega)]; exact h.1.2 k hk
  · by_cases e : 0 = q
    · subst e
      rw [upR_s]
      exact hR
    · rw [upR_n e]
      exact h.2.1.ot hs hq (by decide) e w.2.2.1.2.1 w.2.2.1.2.2.1
  · by_cases e : 1 = q
    · subst e
      rw [upR_s]
      exact hR
    · rw [upR_n e]
      exact h.2.2.ot hs hq (by decide) e w.2.2.2.2.1 w.2.2.2.2.2.1
theorem MRep.fs {P : Nat → Nat → Prop} {m m2 : Cs} {q : Nat} {R R2 : Rp} (h : MRep m q R) (hs : Mk P m m2) (hp : ∀ a k, P a k → a ≠ 2 ∧ ¬ (5 ≤ a ∧ a ≤ 10)) (f3 : m2.1 3 q = nI R2.dat.length) (hd : ∀ k, k < R2.dat.length → k < R.dat.length ∧ R2.dat.getD k 0 = R.dat.getD k 0) (f4 : m2.1 4 q = nI R2.rcs.length) (hr : ∀ (n : Nat) (x : Rc), R2.rcs[n]? = some x → R.rcs[n]? = some x) (f11 : m2.1 11 q = jd R2.jrn) (f12 : ∀ p, R2.jrn = some p → m2.1 12 q = nI p.2) (f19 : m2.1 19 q = b1 (R2.dwn = true)) (f13 : m2.1 13 q = nI R2.fai) : MRep m2 q R2 := by
  refine ⟨⟨f3, fun k hk => ?_⟩, ⟨f4, fun k x hx => (h.2.1.2 k x (hr k x hx)).mk hs (fun a h1 h2 e => (hp a _ e).2 ⟨h1, h2⟩)⟩, ⟨f11, f12⟩, f19, f13⟩
  rw [hs.1 _ _ (fun e => (hp _ _ e).1 rfl), (hd k hk).2]
  exact h.1.2 k (hd k hk).1
/-- a row of the reference: its length and its places -/
def Bl (m : Cs) (a k : Nat) (t : List Nat) : Prop := m.1 0 k = nI t.length ∧ ∀ i, i < t.length → m.1 a i = nI (t.getD i 0)
theorem Bl.mk {P : Nat → Nat → Prop} {m m2 : Cs} {a k : Nat} {t : List Nat} (h : Bl m a k t) (hs : Mk P m m2) (h0 : ¬ P 0 k) (ha : ∀ i, ¬ P a i) : Bl m2 a k t := by
  refine ⟨?_, fun i hi => ?_⟩
  · rw [hs.1 _ _ h0]; exact h.1
  · rw [hs.1 _ _ (ha i)]; exact h.2 i hi
/-- what building touches -/
def Pb : Nat → Nat → Prop := fun a k => (a = 0 ∧ k = 2) ∨ (14 ≤ a ∧ a ≤ 16)
theorem pb_ms : ∀ a k, Pb a k → Ms a k := fun a k h => by unfold Pb at h; unfold Ms; omega
theorem MCh.pb {m m2 : Cs} {q n : Nat} {ch : List Nat} (h : MCh m q n ch) (hs : Mk Pb m m2) : MCh m2 q n ch := h.mk hs (fun a k ha => by unfold Pb; omega)
theorem MRep.pb {m m2 : Cs} {q : Nat} {R : Rp} (h : MRep m q R) (hs : Mk Pb m m2) : MRep m2 q R := h.ms (hs.up pb_ms)
def Pw : Nat → Nat → Prop := fun a k => (a = 0 ∧ k = 2) ∨ a = 14 ∨ a = 15
theorem MCh.pw {m m2 : Cs} {q n : Nat} {ch : List Nat} (h : MCh m q n ch) (hs : Mk Pw m m2) : MCh m2 q n ch := h.mk hs (fun a k ha => by unfold Pw; omega)
theorem Mk.pw {m m2 : Cs} (h : Mk Pw m m2) : Mk Pb m m2 := h.up (fun a k e => by unfold Pw at e; unfold Pb; omega)
/-! THE REFERENCE: texts -/
theorem jd_lt {j : Option (Nat × Nat)} (h : ∀ p, j = some p → p.1 < 2 ^ 31) : jd j < 0 ↔ ¬ j.isSome = true := by
  cases j with
  | none => exact ⟨fun _ => by decide, fun _ => by decide⟩
  | some p => exact ⟨fun e => absurd e (nI_pos (h p rfl)), fun e => absurd rfl e⟩
theorem st_step {m : Cs} {a k : Nat} {f : Nat → Int32} (h : ∀ i, i < k → m.1 a i = f i) : ∀ i, i < k + 1 → (wI m a k (f k)).1 a i = f i := fun i hi => by
  by_cases e : i = k
  · rw [e, rI_s]
  · rw [rI_n (Or.inr e)]
    exact h i (by omega)
theorem Bl.push {m : Cs} {a k v : Nat} {t : List Nat} (h : Bl m a k t) (ha : a ≠ 0) : Bl (wI (wI m a t.length (nI v)) 0 k (nI (t.length + 1))) a k (t ++ [v]) := by
  refine ⟨?_, fun i hi => ?_⟩
  · rw [rI_s, List.length_append]
    rfl
  · rw [List.length_append] at hi
    have hi : i < t.length + 1 := hi
    rw [rI_n (Or.inl ha), List.getD_eq_getElem?_getD]
    by_cases e : i = t.length
    · rw [e, rI_s, List.getElem?_append_right (Nat.le_refl _), Nat.sub_self]
      rfl
    · rw [rI_n (Or.inr e), List.getElem?_append_left (by omega), h.2 i (by omega), List.getD_eq_getElem?_getD]
theorem dif_0 {ch b : List Nat} (h : ¬ ch.getD 0 0 = 100) : dif ch b = none := by
  match ch with
  | [] => rfl
  | [_] => rfl
  | [_, _] => rfl
  | [_, _, _] => rfl
  | k :: a :: e :: m :: r =>
    rw [dif_cons, if_neg (fun q => h q.1)]
theorem ls4 {ch : List Nat} (h : 4 ≤ ch.length) : ∃ k a e m r, ch = k :: a :: e :: m :: r := by
  match ch with
  | k :: a :: e :: m :: r => exact ⟨k, a, e, m, r, rfl⟩
  | [] => simp at h
  | [_] => simp at h
  | [_, _] => simp at h
  | [_, _, _] => simp at h
theorem tk3 {b r : List Nat} {a e k : Nat} (ha : a ≤ e) (he : e ≤ b.length) : (b.take a ++ r ++ b.drop e).getD k 0 = if k < a then b.getD k 0 else if k < a + r.length then r.getD (k - a) 0 else b.getD (e + k - a - r.length) 0 := by
  have h1 : (b.take a).length = a := by rw [List.length_take]; omega
  simp only [List.getD_eq_getElem?_getD]
  split
  · rw [List.append_assoc, List.getElem?_append_left (by omega), List.getElem?_take]
    rename_i h
    rw [if_pos h]
  · split
    · rw [List.append_assoc, List.getElem?_append_right (by omega), List.getElem?_append_left (by omega), h1]
    · rw [List.getElem?_append_right (by rw [List.length_append]; omega), List.length_append, h1, List.getElem?_drop, show e + (k - (a + r.length)) = e + k - a - r.length by omega]
theorem sub2 {k : Nat} (h : 1 ≤ k) : nI k - nI 2 = eo (pd (k - 1)) := by
  match k, h with
  | 1, _ => decide
  | k + 2, _ => exact pk_sub (by omega)
theorem unp_2 {r : List Nat} {k j : Nat} (h : k + 2 * (j + 1) = r.length) : unp (r.drop k) = if r.getD k 0 = 0 then none else (unp (r.drop (k + 2))).map (fun t => List.replicate (r.getD k 0) (r.getD (k + 1) 0) ++ t) := by
  have e1 : r.drop k = r.getD k 0 :: r.getD (k + 1) 0 :: r.drop (k + 2) := by
    rw [List.drop_eq_getElem_cons (show k < r.length by omega), List.drop_eq_getElem_cons (show k + 1 < r.length by omega)]
    simp only [List.getD_eq_getElem?_getD, List.getElem?_eq_getElem (show k < r.length by omega), List.getElem?_eq_getElem (show k + 1 < r.length by omega)]
    rfl
  rw [e1, unp_c]
/-- the rest of a packed snapshot, with what has been read -/
def unR (b : List Nat) (o : Option (List Nat)) : Option (List Nat) := match o with
  | none => none
  | some t => if (b ++ t).length ≤ 60 then some (b ++ t) else none
theorem unR_x {r : List Nat} : snap (120 :: r) = unR [] (unp r) := by
  rw [snap_x]
  cases unp r <;> rfl
theorem unR_big {b c : List Nat} {o : Option (List Nat)} (h : 60 < b.length + c.length) : unR b (o.map (fun t => c ++ t)) = none := by
  cases o with
  | none => rfl
  | some t =>
    show (if (b ++ (c ++ t)).length ≤ 60 then _ else none) = none
    rw [if_neg (by simp only [List.length_append]; omega)]
theorem unR_go {b c : List Nat} {o : Option (List Nat)} : unR b (o.map (fun t => c ++ t)) = unR (b ++ c) o := by
  cases o with
  | none => rfl
  | some t =>
    show (if (b ++ (c ++ t)).length ≤ 60 then some (b ++ (c ++ t)) else none) = if ((b ++ c) ++ t).length ≤ 60 then some ((b ++ c) ++ t) else none
    rw [List.append_assoc]
set_option maxRecDepth 100000 in
set_option maxHeartbeats 4000000 in
theorem c_M_begun (l : Launch) {D : Dt} (hD : OkD D) {c m : Cs} {ow : Nat → Int64} {q : Nat} {p1 p2 : Option Nat} {rs : List Rc} (hq : q < 2) (hx : MRx m q rs) (h1 : ∀ n, p1 = some n → n < rs.length) (h2 : ∀ n, p2 = some n → n < rs.length) : Ct l D y_M_begun b_M_begun 10 (some .long) 3 [.int (eo p2), .int (eo p1), .int (nI q), .ref (aMdl D)] ((c, m, ow) : Sg) (some (.long (nodS (nodP rs p1) (nodP rs p2)))) ((c, m, ow) : Sg) := by
  have h24 := hx.1
  refine Ct.of hD (by decide) (Nat.le_of_ble_eq_true rfl) [(0, some (.ref (aMdl D))), (1, some (.int (nI q))), (2, some (.int (eo p1))), (3, some (.int (eo p2)))] rfl (fun X hX C => ?_)
  subst hX
  have t40 : G X D (Qp X D (fun r2 u => r2 = some (.long (nodS (nodP rs p1) (nodP rs p2))) ∧ u = ((c, m, ow) : Sg))) (0, 0) ((c, m, ow) : Sg) 40 [(4, some (.long (nodP rs p1)))] [.long (nodP rs p2)] := by
    refine g_lstore (pc := 40) C d_M_begun_40 (by decide) rfl ?_
    refine g_ldc2 (pc := 42) C kc_M_82 d_M_begun_42 ?_
    refine g_lload (pc := 45) C d_M_begun_45 rfl ?_
    refine g_lload (pc := 47) C d_M_begun_47 rfl ?_
    refine g_lcmp (pc := 49) C d_M_begun_49 ?_
    refine g_if_ge (pc := 50) (tgt := 58) C d_M_begun_50 (by decide) (fun h50 => ?_) (fun h50 => ?_)
    · have hx2 := lg_ge.mp h50
      refine g_lload (pc := 58) C d_M_begun_58 rfl ?_
      refine g_callS1 (pc := 60) (As := [_, _]) C my_M_mixedLong ms_M_mixedLong cl_M_84 d_M_begun_60 (Nat.le_of_ble_eq_true rfl) rfl (Nat.le_of_ble_eq_true rfl) ⟨Nat.zero_le _, Nat.zero_le _⟩ (c_M_mixedLong _ hD) ?_
      refine g_lstore (pc := 63) C d_M_begun_63 (by decide) rfl ?_
      refine g_lload (pc := 65) C d_M_begun_65 rfl ?_
      refine g_lload (pc := 67) C d_M_begun_67 rfl ?_
      refine g_lload (pc := 69) C d_M_begun_69 rfl ?_
      refine g_lcmp (pc := 71) C d_M_begun_71 ?_
      refine g_if_ge (pc := 72) (tgt := 80) C d_M_begun_72 (by decide) (fun h72 => ?_) (fun h72 => ?_)
      · skip
        refine g_lload (pc := 80) C d_M_begun_80 rfl ?_
        refine g_callS1 (pc := 82) (As := [_, _]) C my_M_mixedLong ms_M_mixedLong cl_M_84 d_M_begun_82 (Nat.le_of_ble_eq_true rfl) rfl (Nat.le_of_ble_eq_true rfl) ⟨Nat.zero_le _, Nat.zero_le _⟩ (c_M_mixedLong _ hD) ?_
        refine g_lret (pc := 85) C d_M_begun_85 ?_
        exact ⟨by rw [nodS_ge hx2], rfl⟩
      · first | exact absurd h72 (h50) | exact absurd (h50) h72
    · have hx2 := fun e => h50 (lg_ge.mpr e)
      refine g_lload (pc := 53) C d_M_begun_53 rfl ?_
      refine g_goto (pc := 55) (tgt := 60) C d_M_begun_55 (by decide) ?_
      refine g_callS1 (pc := 60) (As := [_, _]) C my_M_mixedLong ms_M_mixedLong cl_M_84 d_M_begun_60 (Nat.le_of_ble_eq_true rfl) rfl (Nat.le_of_ble_eq_true rfl) ⟨Nat.zero_le _, Nat.zero_le _⟩ (c_M_mixedLong _ hD) ?_
      refine g_lstore (pc := 63) C d_M_begun_63 (by decide) rfl ?_
      refine g_lload (pc := 65) C d_M_begun_65 rfl ?_
      refine g_lload (pc := 67) C d_M_begun_67 rfl ?_
      refine g_lload (pc := 69) C d_M_begun_69 rfl ?_
      refine g_lcmp (pc := 71) C d_M_begun_71 ?_
      refine g_if_ge (pc := 72) (tgt := 80) C d_M_begun_72 (by decide) (fun h72 => ?_) (fun h72 => ?_)
      · first | exact absurd h72 (h50) | exact absurd (h50) h72
      · skip
        refine g_lload (pc := 75) C d_M_begun_75 rfl ?_
        refine g_goto (pc := 77) (tgt := 82) C d_M_begun_77 (by decide) ?_
        refine g_callS1 (pc := 82) (As := [_, _]) C my_M_mixedLong ms_M_mixedLong cl_M_84 d_M_begun_82 (Nat.le_of_ble_eq_true rfl) rfl (Nat.le_of_ble_eq_true rfl) ⟨Nat.zero_le _, Nat.zero_le _⟩ (c_M_mixedLong _ hD) ?_
        refine g_lret (pc := 85) C d_M_begun_85 ?_
        exact ⟨by rw [nodS_lt (Classical.byContradiction hx2)], rfl⟩
  have t19 : G X D (Qp X D (fun r2 u => r2 = some (.long (nodS (nodP rs p1) (nodP rs p2))) ∧ u = ((c, m, ow) : Sg))) (0, 0) ((c, m, ow) : Sg) 19 [(0, some (.ref (aMdl D))), (1, some (.int (nI q))), (3, some (.int (eo p2)))] [.long (nodP rs p1)] := by
    cases p2 with
    | none =>
      refine g_lstore (pc := 19) C d_M_begun_19 (by decide) rfl ?_
      refine g_iload_n (pc := 21) (i := 3) C d_M_begun_21 rfl rfl ?_
      refine g_if_ge (pc := 22) (tgt := 29) C d_M_begun_22 (by decide) (fun h22 => ?_) (fun h22 => ?_)
      · first | exact absurd h22 (by decide) | exact absurd (by decide) h22
      · skip
        refine g_lconst (pc := 25) C d_M_begun_25 lc_0 ?_
        refine g_goto (pc := 26) (tgt := 40) C d_M_begun_26 (by decide) ?_
        exact G.lf t40 (sb rfl sn)
    | some n =>
      have hn := h2 n rfl
      obtain ⟨x, hxn⟩ : ∃ x, rs[n]? = some x := ⟨_, List.getElem?_eq_getElem hn⟩
      have hrec := hx.2 n x hxn
      rw [nodP_s hxn] at t40
      show G X D _ (0, 0) _ 19 [(0, some (.ref (aMdl D))), (1, some (.int (nI q))), (3, some (.int (nI n)))] _
      refine g_lstore (pc := 19) C d_M_begun_19 (by decide) rfl ?_
      refine g_iload_n (pc := 21) (i := 3) C d_M_begun_21 rfl rfl ?_
      refine g_if_ge (pc := 22) (tgt := 29) C d_M_begun_22 (by decide) (fun h22 => ?_) (fun h22 => ?_)
      · skip
        refine g_aload_n (pc := 29) (i := 0) C d_M_begun_29 rfl rfl ?_
        refine gf_M_nodes (pc := 30) C fl_M_40 d_M_begun_30 ?_
        refine g_bipush (pc := 33) C d_M_begun_33 bpn_24 ?_
        refine g_iload_n (pc := 35) (i := 1) C d_M_begun_35 rfl rfl ?_
        refine g_imul (pc := 36) C d_M_begun_36 ?_
        refine g_iload_n (pc := 37) (i := 3) C d_M_begun_37 rfl rfl ?_
        refine g_iadd (pc := 38) C d_M_begun_38 ?_
        simp only [nI_mul, nI_add]
        refine ga_nds (pc := 39) C (vp_in_nI (show 24 * q + n < 48 by omega) (by decide)) d_M_begun_39 ?_
        rw [nI_clamp (show 24 * q + n < 2 ^ 31 by omega), hrec.2.2.2.2.2.2]
        rw [nodP_s hxn]
        exact G.lf t40 (sb rfl sn)
      · first | exact absurd h22 (nI_pos' (by omega)) | exact absurd (nI_pos' (by omega)) h22
  cases p1 with
  | none =>
    refine g_iload_n (pc := 0) (i := 2) C d_M_begun_0 rfl rfl ?_
    refine g_if_ge (pc := 1) (tgt := 8) C d_M_begun_1 (by decide) (fun h1 => ?_) (fun h1 => ?_)
    · first | exact absurd h1 (by decide) | exact absurd (by decide) h1
    · skip
      refine g_lconst (pc := 4) C d_M_begun_4 lc_0 ?_
      refine g_goto (pc := 5) (tgt := 19) C d_M_begun_5 (by decide) ?_
      exact G.lf t19 (sb rfl (sb rfl (sb rfl sn)))
  | some n =>
    have hn := h1 n rfl
    obtain ⟨x, hxn⟩ : ∃ x, rs[n]? = some x := ⟨_, List.getElem?_eq_getElem hn⟩
    have hrec := hx.2 n x hxn
    rw [nodP_s hxn] at t19
    show G X D _ (0, 0) _ 0 [(0, some (.ref (aMdl D))), (1, some (.int (nI q))), (2, some (.int (nI n))), (3, some (.int (eo p2)))] _
    refine g_iload_n (pc := 0) (i := 2) C d_M_begun_0 rfl rfl ?_
    refine g_if_ge (pc := 1) (tgt := 8) C d_M_begun_1 (by decide) (fun h1 => ?_) (fun h1 => ?_)
    · skip
      refine g_aload_n (pc := 8) (i := 0) C d_M_begun_8 rfl rfl ?_
      refine gf_M_nodes (pc := 9) C fl_M_40 d_M_begun_9 ?_
      refine g_bipush (pc := 12) C d_M_begun_12 bpn_24 ?_
      refine g_iload_n (pc := 14) (i := 1) C d_M_begun_14 rfl rfl ?_
      refine g_imul (pc := 15) C d_M_begun_15 ?_
      refine g_iload_n (pc := 16) (i := 2) C d_M_begun_16 rfl rfl ?_
      refine g_iadd (pc := 17) C d_M_begun_17 ?_
      simp only [nI_mul, nI_add]
      refine ga_nds (pc := 18) C (vp_in_nI (show 24 * q + n < 48 by omega) (by decide)) d_M_begun_18 ?_
      rw [nI_clamp (show 24 * q + n < 2 ^ 31 by omega), hrec.2.2.2.2.2.2]
      rw [nodP_s hxn]
      exact G.lf t19 (sb rfl (sb rfl (sb rfl sn)))
    · first | exact absurd h1 (nI_pos' (by omega)) | exact absurd (nI_pos' (by omega)) h1
set_option maxRecDepth 100000 in
set_option maxHeartbeats 4000000 in
theorem c_M_found (l : Launch) {D : Dt} (hD : OkD D) {c m : Cs} {ow : Nat → Int64} {q : Nat} {h : Int64} {rs : List Rc} (hq : q < 2) (hc : m.1 4 q = nI rs.length) (hx : MRx m q rs) : Ct l D y_M_found b_M_found 5 (some .int) 1 [.long h, .int (nI q), .ref (aMdl D)] ((c, m, ow) : Sg) (some (.int (eo (find rs h)))) ((c, m, ow) : Sg) := by
  have h24 := hx.1
  refine Ct.of hD (by decide) (Nat.le_of_ble_eq_true rfl) [(0, some (.ref (aMdl D))), (1, some (.int (nI q))), (2, some (.long h))] rfl (fun X hX C => ?_)
  subst hX
  have loop : ∀ (k n : Nat), n + k = rs.length → find rs h = fnd h (rs.drop n) n → G X D (Qp X D (fun r2 u => r2 = some (.int (eo (find rs h))) ∧ u = ((c, m, ow) : Sg))) (0, 0) ((c, m, ow) : Sg) 3 [(0, some (.ref (aMdl D))), (1, some (.int (nI q))), (2, some (.long h)), (4, some (.int (nI n)))] [] := by
    intro k
    induction k with
    | zero =>
      intro n hn he
      rw [List.drop_eq_nil_of_le (by omega)] at he
      refine g_iload (pc := 3) C d_M_found_3 rfl ?_
      refine g_aload_n (pc := 5) (i := 0) C d_M_found_5 rfl rfl ?_
      refine gf_M_count (pc := 6) C fl_M_19 d_M_found_6 ?_
      refine g_iload_n (pc := 9) (i := 1) C d_M_found_9 rfl rfl ?_
      refine ga_mar (pc := 10) C (by decide) (by decide) (vp_in_nI (show q < 2 by omega) (by decide)) d_M_found_10 ?_
      rw [nI_clamp (show q < 2 ^ 31 by omega), hc]
      refine g_icmp_ge (pc := 11) (tgt := 40) C d_M_found_11 (by decide) (fun h11 => ?_) (fun h11 => ?_)
      · skip
        refine g_iconst (pc := 40) C d_M_found_40 ic_m1 ?_
        refine g_iret (pc := 41) C d_M_found_41 ?_
        exact ⟨by rw [he]; rfl, rfl⟩
      · first | exact absurd h11 (nI_le (by omega) (by omega)) | exact absurd (nI_le (by omega) (by omega)) h11
    | succ k ih =>
      intro n hn he
      obtain ⟨x, hxn⟩ : ∃ x, rs[n]? = some x := ⟨_, List.getElem?_eq_getElem (show n < rs.length by omega)⟩
      have hrec := hx.2 n x hxn
      rw [fnd_s hxn] at he
      refine g_iload (pc := 3) C d_M_found_3 rfl ?_
      refine g_aload_n (pc := 5) (i := 0) C d_M_found_5 rfl rfl ?_
      refine gf_M_count (pc := 6) C fl_M_19 d_M_found_6 ?_
      refine g_iload_n (pc := 9) (i := 1) C d_M_found_9 rfl rfl ?_
      refine ga_mar (pc := 10) C (by decide) (by decide) (vp_in_nI (show q < 2 by omega) (by decide)) d_M_found_10 ?_
      rw [nI_clamp (show q < 2 ^ 31 by omega), hc]
      refine g_icmp_ge (pc := 11) (tgt := 40) C d_M_found_11 (by decide) (fun h11 => ?_) (fun h11 => ?_)
      · first | exact absurd h11 (nI_ge (show n < rs.length by omega) (by omega)) | exact absurd (nI_ge (show n < rs.length by omega) (by omega)) h11
      · skip
        refine g_aload_n (pc := 14) (i := 0) C d_M_found_14 rfl rfl ?_
        refine gf_M_nodes (pc := 15) C fl_M_40 d_M_found_15 ?_
        refine g_bipush (pc := 18) C d_M_found_18 bpn_24 ?_
        refine g_iload_n (pc := 20) (i := 1) C d_M_found_20 rfl rfl ?_
        refine g_imul (pc := 21) C d_M_found_21 ?_
        refine g_iload (pc := 22) C d_M_found_22 rfl ?_
        refine g_iadd (pc := 24) C d_M_found_24 ?_
        simp only [nI_mul, nI_add]
        refine ga_nds (pc := 25) C (vp_in_nI (show 24 * q + n < 48 by omega) (by decide)) d_M_found_25 ?_
        rw [nI_clamp (show 24 * q + n < 2 ^ 31 by omega), hrec.2.2.2.2.2.2]
        refine g_lload_n (pc := 26) (i := 2) C d_M_found_26 rfl rfl ?_
        refine g_lcmp (pc := 27) C d_M_found_27 ?_
        refine g_if_ne (pc := 28) (tgt := 34) C d_M_found_28 (by decide) (fun h28 => ?_) (fun h28 => ?_)
        · rw [if_neg (fun e => h28 (lg_c0.mpr e))] at he
          refine g_iinc (pc := 34) C d_M_found_34 rfl (v := nI (n + 1)) (nI_inc n) rfl ?_
          refine g_goto (pc := 37) (tgt := 3) C d_M_found_37 (by decide) ?_
          exact G.lf (ih (n + 1) (by omega) he) (sb rfl (sb rfl (sb rfl (sb rfl sn))))
        · rw [if_pos (lg_c0.mp h28)] at he
          refine g_iload (pc := 31) C d_M_found_31 rfl ?_
          refine g_iret (pc := 33) C d_M_found_33 ?_
          exact ⟨by rw [he]; rfl, rfl⟩
  refine g_iconst (pc := 0) C d_M_found_0 icn_0 ?_
  refine g_istore (pc := 1) C d_M_found_1 (by decide) rfl ?_
  exact G.lf (loop rs.length 0 (by omega) rfl) (sb rfl (sb rfl (sb rfl (sb rfl sn))))
set_option maxRecDepth 100000 in
set_option maxHeartbeats 4000000 in
theorem c_M_byteAt (l : Launch) {D : Dt} (hD : OkD D) {c m : Cs} {ow : Nat → Int64} {q : Nat} {n k : Nat} {ch : List Nat} (hq : q < 2) (hn : n < 24) (hc : MCh m q n ch) (hk : k < ch.length) : Ct l D y_M_byteAt b_M_byteAt 4 (some .int) 1 [.int (nI k), .int (nI n), .int (nI q), .ref (aMdl D)] ((c, m, ow) : Sg) (some (.int (nI (ch.getD k 0)))) ((c, m, ow) : Sg) := by
  obtain ⟨o, ho, hs, hl, hb⟩ := hc
  refine Ct.of hD (by decide) (Nat.le_of_ble_eq_true rfl) [(0, some (.ref (aMdl D))), (1, some (.int (nI q))), (2, some (.int (nI n))), (3, some (.int (nI k)))] rfl (fun X hX C => ?_)
  subst hX
  refine g_aload_n (pc := 0) (i := 0) C d_M_byteAt_0 rfl rfl ?_
  refine gf_M_bytes (pc := 1) C fl_M_13 d_M_byteAt_1 ?_
  refine g_sipush (pc := 4) C d_M_byteAt_4 spn_600 ?_
  refine g_iload_n (pc := 7) (i := 1) C d_M_byteAt_7 rfl rfl ?_
  refine g_imul (pc := 8) C d_M_byteAt_8 ?_
  refine g_aload_n (pc := 9) (i := 0) C d_M_byteAt_9 rfl rfl ?_
  refine gf_M_offset (pc := 10) C fl_M_22 d_M_byteAt_10 ?_
  refine g_bipush (pc := 13) C d_M_byteAt_13 bpn_24 ?_
  refine g_iload_n (pc := 15) (i := 1) C d_M_byteAt_15 rfl rfl ?_
  refine g_imul (pc := 16) C d_M_byteAt_16 ?_
  refine g_iload_n (pc := 17) (i := 2) C d_M_byteAt_17 rfl rfl ?_
  refine g_iadd (pc := 18) C d_M_byteAt_18 ?_
  simp only [nI_mul, nI_add]
  refine ga_mar (pc := 19) C (by decide) (by decide) (vp_in_nI (show 24 * q + n < 48 by omega) (by decide)) d_M_byteAt_19 ?_
  rw [nI_clamp (show 24 * q + n < 2 ^ 31 by omega), ho]
  refine g_iadd (pc := 20) C d_M_byteAt_20 ?_
  refine g_iload_n (pc := 21) (i := 3) C d_M_byteAt_21 rfl rfl ?_
  refine g_iadd (pc := 22) C d_M_byteAt_22 ?_
  simp only [nI_mul, nI_add]
  refine ga_mar (pc := 23) C (by decide) (by decide) (vp_in_nI (show 600 * q + o + k < 1200 by omega) (by decide)) d_M_byteAt_23 ?_
  rw [nI_clamp (show 600 * q + o + k < 2 ^ 31 by omega), hb k hk]
  refine g_iret (pc := 24) C d_M_byteAt_24 ?_
  exact ⟨rfl, rfl⟩
set_option maxRecDepth 100000 in
set_option maxHeartbeats 4000000 in
theorem x_M_write (l : Launch) {D : Dt} (hD : OkD D) {c m : Cs} {ow : Nat → Int64} {q : Nat} {R : Rp} (hq : q < 2) (h : MRep m q R) (hd : R.dwn = false) (hf : R.fai ≤ 100) : Cp l D y_M_write b_M_write 2 (some .boolean) 1 [.int (nI q), .ref (aMdl D)] ((c, m, ow) : Sg) (fun a u => ∃ m2, u = ((c, m2, ow) : Sg) ∧ a = some (.int (b1 ((wrt R).1 = true))) ∧ MRep m2 q (wrt R).2 ∧ Mk (Rq q) m m2) := by
  have f5 := h.2.2.2.2
  have hw : wrt R = if R.fai = 0 then (true, R) else if R.fai = 1 then (false, (R.dat, R.rcs, R.jrn, true, 0)) else (true, (R.dat, R.rcs, R.jrn, false, R.fai - 1)) := rfl
  have hs : Mk (fun a k => (a = 13 ∨ a = 19) ∧ k = q) m (wI (wI m 13 q (nI (R.fai - 1))) 19 q (b1 (R.fai = 1))) := (Mk.wI ⟨Or.inl rfl, rfl⟩).tr (Mk.wI ⟨Or.inr rfl, rfl⟩)
  have hs2 : Mk (Rq q) m (wI (wI m 13 q (nI (R.fai - 1))) 19 q (b1 (R.fai = 1))) := hs.up (fun a k e => by unfold Rq; omega)
  have hR : ∀ z : Bool, z = decide (R.fai = 1) → MRep (wI (wI m 13 q (nI (R.fai - 1))) 19 q (b1 (R.fai = 1))) q (R.dat, R.rcs, R.jrn, z, R.fai - 1) := by
    intro z hz
    refine h.fs hs (fun a k e => by omega) ?_ (fun k hk => ⟨hk, rfl⟩) ?_ (fun _ _ e => e) ?_ (fun p hp => ?_) ?_ ?_
    · rw [hs.1 _ _ (by omega)]; exact h.1.1
    · rw [hs.1 _ _ (by omega)]; exact h.2.1.1
    · rw [hs.1 _ _ (by omega)]; exact h.2.2.1.1
    · rw [hs.1 _ _ (by omega)]; exact h.2.2.1.2 p hp
    · rw [rI_s, hz]
      by_cases e : R.fai = 1
      · rw [b1_t e]
        exact (b1_t (decide_eq_true e)).symm
      · rw [b1_f e]
        exact (b1_f (fun q => e (of_decide_eq_true q))).symm
    · rw [rI_n (Or.inl (by decide)), rI_s]
      rfl
  refine Cp.of hD (by decide) (Nat.le_of_ble_eq_true rfl) [(0, some (.ref (aMdl D))), (1, some (.int (nI q)))] rfl (fun X hX C => ?_)
  subst hX
  refine g_aload_n (pc := 0) (i := 0) C d_M_write_0 rfl rfl ?_
  refine gf_M_failing (pc := 1) C fl_M_54 d_M_write_1 ?_
  refine g_iload_n (pc := 4) (i := 1) C d_M_write_4 rfl rfl ?_
  refine ga_mar (pc := 5) C (by decide) (by decide) (vp_in_nI (show q < 2 by omega) (by decide)) d_M_write_5 ?_
  rw [nI_clamp (show q < 2 ^ 31 by omega), f5]
  refine g_if_ne (pc := 6) (tgt := 11) C d_M_write_6 (by decide) (fun h6 => ?_) (fun h6 => ?_)
  · have hz : ¬ R.fai = 0 := fun e => h6 (by rw [e, nI_0])
    refine g_aload_n (pc := 11) (i := 0) C d_M_write_11 rfl rfl ?_
    refine gf_M_failing (pc := 12) C fl_M_54 d_M_write_12 ?_
    refine g_iload_n (pc := 15) (i := 1) C d_M_write_15 rfl rfl ?_
    refine g_dup2 (pc := 16) C d_M_write_16 rfl rfl ?_
    refine ga_mar (pc := 17) C (by decide) (by decide) (vp_in_nI (show q < 2 by omega) (by decide)) d_M_write_17 ?_
    rw [nI_clamp (show q < 2 ^ 31 by omega), f5]
    refine g_iconst (pc := 18) C d_M_write_18 icn_1 ?_
    refine g_isub (pc := 19) C d_M_write_19 ?_
    rw [pk_sub (by omega)]
    refine gs_mar (pc := 20) C (by decide) (by decide) (vp_in_nI (show q < 2 by omega) (by decide)) d_M_write_20 ?_
    rw [nI_clamp (show q < 2 ^ 31 by omega)]
    refine g_aload_n (pc := 21) (i := 0) C d_M_write_21 rfl rfl ?_
    refine gf_M_down (pc := 22) C fl_M_50 d_M_write_22 ?_
    refine g_iload_n (pc := 25) (i := 1) C d_M_write_25 rfl rfl ?_
    refine g_aload_n (pc := 26) (i := 0) C d_M_write_26 rfl rfl ?_
    refine gf_M_failing (pc := 27) C fl_M_54 d_M_write_27 ?_
    refine g_iload_n (pc := 30) (i := 1) C d_M_write_30 rfl rfl ?_
    refine ga_mar (pc := 31) C (by decide) (by decide) (vp_in_nI (show q < 2 by omega) (by decide)) d_M_write_31 ?_
    rw [nI_clamp (show q < 2 ^ 31 by omega), rI_s]
    refine g_if_ne (pc := 32) (tgt := 39) C d_M_write_32 (by decide) (fun h32 => ?_) (fun h32 => ?_)
    · have h1 : ¬ R.fai = 1 := fun e => h32 (by rw [e]; exact nI_0)
      rw [b1_f h1] at hs hs2 hR
      rw [if_neg hz, if_neg h1] at hw
      refine g_iconst (pc := 39) C d_M_write_39 ic_0 ?_
      refine gs_dwn (pc := 40) C (by first | exact Or.inl rfl | exact Or.inr rfl) (vp_in_nI (show q < 2 by omega) (by decide)) d_M_write_40 ?_
      rw [nI_clamp (show q < 2 ^ 31 by omega)]
      refine g_aload_n (pc := 41) (i := 0) C d_M_write_41 rfl rfl ?_
      refine gf_M_down (pc := 42) C fl_M_50 d_M_write_42 ?_
      refine g_iload_n (pc := 45) (i := 1) C d_M_write_45 rfl rfl ?_
      refine ga_dwn (pc := 46) C (vp_in_nI (show q < 2 by omega) (by decide)) d_M_write_46 ?_
      rw [nI_clamp (show q < 2 ^ 31 by omega), rI_s]
      refine g_if_ne (pc := 47) (tgt := 54) C d_M_write_47 (by decide) (fun h47 => ?_) (fun h47 => ?_)
      · first | exact absurd h47 (rfl) | exact absurd (rfl) h47
      · skip
        refine g_iconst (pc := 50) C d_M_write_50 ic_1 ?_
        refine g_goto (pc := 51) (tgt := 55) C d_M_write_51 (by decide) ?_
        refine g_zret (pc := 55) C d_M_write_55 (by first | exact Or.inl rfl | exact Or.inr rfl) ?_
        rw [hw]
        exact ⟨_, rfl, rfl, hR false (by simpa using h1), hs2⟩
    · have h1 : R.fai = 1 := by
        have := (nI_eq (a := R.fai - 1) (b := 0) (by omega) (by decide)).mp (h32.trans nI_0.symm)
        omega
      rw [b1_t h1] at hs hs2 hR
      rw [if_neg hz, if_pos h1] at hw
      refine g_iconst (pc := 35) C d_M_write_35 ic_1 ?_
      refine g_goto (pc := 36) (tgt := 40) C d_M_write_36 (by decide) ?_
      refine gs_dwn (pc := 40) C (by first | exact Or.inl rfl | exact Or.inr rfl) (vp_in_nI (show q < 2 by omega) (by decide)) d_M_write_40 ?_
      rw [nI_clamp (show q < 2 ^ 31 by omega)]
      refine g_aload_n (pc := 41) (i := 0) C d_M_write_41 rfl rfl ?_
      refine gf_M_down (pc := 42) C fl_M_50 d_M_write_42 ?_
      refine g_iload_n (pc := 45) (i := 1) C d_M_write_45 rfl rfl ?_
      refine ga_dwn (pc := 46) C (vp_in_nI (show q < 2 by omega) (by decide)) d_M_write_46 ?_
      rw [nI_clamp (show q < 2 ^ 31 by omega), rI_s]
      refine g_if_ne (pc := 47) (tgt := 54) C d_M_write_47 (by decide) (fun h47 => ?_) (fun h47 => ?_)
      · skip
        refine g_iconst (pc := 54) C d_M_write_54 ic_0 ?_
        refine g_zret (pc := 55) C d_M_write_55 (by first | exact Or.inl rfl | exact Or.inr rfl) ?_
        rw [hw]
        refine ⟨_, rfl, rfl, ?_, hs2⟩
        have hR := hR true (by simpa using h1)
        rw [h1] at hR ⊢
        exact hR
      · first | exact absurd h47 (by decide) | exact absurd (by decide) h47
  · have hz : R.fai = 0 := (nI_eq (by omega) (by decide)).mp (h6.trans nI_0.symm)
    rw [if_pos hz] at hw
    refine g_iconst (pc := 9) C d_M_write_9 ic_1 ?_
    refine g_zret (pc := 10) C d_M_write_10 (by first | exact Or.inl rfl | exact Or.inr rfl) ?_
    rw [hw]
    exact ⟨m, rfl, rfl, h, Mk.rf⟩
set_option maxRecDepth 100000 in
set_option maxHeartbeats 4000000 in
theorem x_M_start (l : Launch) {D : Dt} (hD : OkD D) {c m : Cs} {ow : Nat → Int64} {q : Nat} {R : Rp} (hq : q < 2) (h : MRep m q R) (hd : R.dwn = false) (hf : R.fai ≤ 100) : Cp l D y_M_start b_M_start 2 (some .boolean) 2 [.int (nI q), .ref (aMdl D)] ((c, m, ow) : Sg) (fun a u => ∃ m2, u = ((c, m2, ow) : Sg) ∧ a = some (.int (b1 ((begn R).1 = true))) ∧ MRep m2 q (begn R).2 ∧ Mk (Rq q) m m2) := by
  refine Cp.of hD (by decide) (Nat.le_of_ble_eq_true rfl) [(0, some (.ref (aMdl D))), (1, some (.int (nI q)))] rfl (fun X hX C => ?_)
  subst hX
  refine g_aload_n (pc := 0) (i := 0) C d_M_start_0 rfl rfl ?_
  refine g_iload_n (pc := 1) (i := 1) C d_M_start_1 rfl rfl ?_
  refine g_callVp (pc := 2) (As := [_]) C my_M_write mv_M_write cl_M_145 is_M d_M_start_2 (Nat.le_of_ble_eq_true rfl) rfl (Nat.le_of_ble_eq_true rfl) ⟨Nat.zero_le _, Nat.zero_le _⟩ (x_M_write _ hD hq h hd hf) (fun r2 u2 hp2 => ?_)
  obtain ⟨m1, rfl, rfl, g1, s1⟩ := hp2
  refine g_if_ne (pc := 5) (tgt := 10) C d_M_start_5 (by decide) (fun h5 => ?_) (fun h5 => ?_)
  · have hb := b1_1 h5
    refine g_aload_n (pc := 10) (i := 0) C d_M_start_10 rfl rfl ?_
    refine gf_M_journalData (pc := 11) C fl_M_44 d_M_start_11 ?_
    refine g_iload_n (pc := 14) (i := 1) C d_M_start_14 rfl rfl ?_
    refine g_aload_n (pc := 15) (i := 0) C d_M_start_15 rfl rfl ?_
    refine gf_M_dataLen (pc := 16) C fl_M_16 d_M_start_16 ?_
    refine g_iload_n (pc := 19) (i := 1) C d_M_start_19 rfl rfl ?_
    refine ga_mar (pc := 20) C (by decide) (by decide) (vp_in_nI (show q < 2 by omega) (by decide)) d_M_start_20 ?_
    rw [nI_clamp (show q < 2 ^ 31 by omega), g1.1.1]
    refine gs_mar (pc := 21) C (by decide) (by decide) (vp_in_nI (show q < 2 by omega) (by decide)) d_M_start_21 ?_
    rw [nI_clamp (show q < 2 ^ 31 by omega)]
    refine g_aload_n (pc := 22) (i := 0) C d_M_start_22 rfl rfl ?_
    refine gf_M_journalCount (pc := 23) C fl_M_47 d_M_start_23 ?_
    refine g_iload_n (pc := 26) (i := 1) C d_M_start_26 rfl rfl ?_
    refine g_aload_n (pc := 27) (i := 0) C d_M_start_27 rfl rfl ?_
    refine gf_M_count (pc := 28) C fl_M_19 d_M_start_28 ?_
    refine g_iload_n (pc := 31) (i := 1) C d_M_start_31 rfl rfl ?_
    refine ga_mar (pc := 32) C (by decide) (by decide) (vp_in_nI (show q < 2 by omega) (by decide)) d_M_start_32 ?_
    rw [nI_clamp (show q < 2 ^ 31 by omega), rI_n (Or.inl (by decide)), g1.2.1.1]
    refine gs_mar (pc := 33) C (by decide) (by decide) (vp_in_nI (show q < 2 by omega) (by decide)) d_M_start_33 ?_
    rw [nI_clamp (show q < 2 ^ 31 by omega)]
    refine g_iconst (pc := 34) C d_M_start_34 ic_1 ?_
    refine g_zret (pc := 35) C d_M_start_35 (by first | exact Or.inl rfl | exact Or.inr rfl) ?_
    rw [begn_t hb]
    have hs : Mk (fun a k => (a = 11 ∨ a = 12) ∧ k = q) m1 (wI (wI m1 11 q (nI (wrt R).2.dat.length)) 12 q (nI (wrt R).2.rcs.length)) := (Mk.wI ⟨Or.inl rfl, rfl⟩).tr (Mk.wI ⟨Or.inr rfl, rfl⟩)
    refine ⟨_, rfl, rfl, g1.fs hs (fun a k e => by omega) ?_ (fun k hk => ⟨hk, rfl⟩) ?_ (fun _ _ e => e) ?_ (fun p hp => ?_) ?_ ?_, s1.tr (hs.up (fun a k e => by unfold Rq; omega))⟩
    · rw [hs.1 _ _ (by omega)]; exact g1.1.1
    · rw [hs.1 _ _ (by omega)]; exact g1.2.1.1
    · rw [rI_n (Or.inl (by decide)), rI_s]
      rfl
    · rw [rI_s]
      cases hp
      rfl
    · rw [hs.1 _ _ (by omega)]; exact g1.2.2.2.1
    · rw [hs.1 _ _ (by omega)]; exact g1.2.2.2.2
  · have hb := b1_0 h5
    refine g_iconst (pc := 8) C d_M_start_8 ic_0 ?_
    refine g_zret (pc := 9) C d_M_start_9 (by first | exact Or.inl rfl | exact Or.inr rfl) ?_
    rw [begn_f hb]
    exact ⟨m1, rfl, rfl, g1, s1⟩
set_option maxRecDepth 100000 in
set_option maxHeartbeats 4000000 in
theorem x_M_finish (l : Launch) {D : Dt} (hD : OkD D) {c m : Cs} {ow : Nat → Int64} {q : Nat} {R : Rp} (hq : q < 2) (h : MRep m q R) (hd : R.dwn = false) (hf : R.fai ≤ 100) : Cp l D y_M_finish b_M_finish 2 (some .boolean) 2 [.int (nI q), .ref (aMdl D)] ((c, m, ow) : Sg) (fun a u => ∃ m2, u = ((c, m2, ow) : Sg) ∧ a = some (.int (b1 ((fini R).1 = true))) ∧ MRep m2 q (fini R).2 ∧ Mk (Rq q) m m2) := by
  refine Cp.of hD (by decide) (Nat.le_of_ble_eq_true rfl) [(0, some (.ref (aMdl D))), (1, some (.int (nI q)))] rfl (fun X hX C => ?_)
  subst hX
  refine g_aload_n (pc := 0) (i := 0) C d_M_finish_0 rfl rfl ?_
  refine g_iload_n (pc := 1) (i := 1) C d_M_finish_1 rfl rfl ?_
  refine g_callVp (pc := 2) (As := [_]) C my_M_write mv_M_write cl_M_145 is_M d_M_finish_2 (Nat.le_of_ble_eq_true rfl) rfl (Nat.le_of_ble_eq_true rfl) ⟨Nat.zero_le _, Nat.zero_le _⟩ (x_M_write _ hD hq h hd hf) (fun r2 u2 hp2 => ?_)
  obtain ⟨m1, rfl, rfl, g1, s1⟩ := hp2
  refine g_if_ne (pc := 5) (tgt := 10) C d_M_finish_5 (by decide) (fun h5 => ?_) (fun h5 => ?_)
  · have hb := b1_1 h5
    refine g_aload_n (pc := 10) (i := 0) C d_M_finish_10 rfl rfl ?_
    refine gf_M_journalData (pc := 11) C fl_M_44 d_M_finish_11 ?_
    refine g_iload_n (pc := 14) (i := 1) C d_M_finish_14 rfl rfl ?_
    refine g_iconst (pc := 15) C d_M_finish_15 ic_m1 ?_
    refine gs_mar (pc := 16) C (by decide) (by decide) (vp_in_nI (show q < 2 by omega) (by decide)) d_M_finish_16 ?_
    rw [nI_clamp (show q < 2 ^ 31 by omega)]
    refine g_iconst (pc := 17) C d_M_finish_17 ic_1 ?_
    refine g_zret (pc := 18) C d_M_finish_18 (by first | exact Or.inl rfl | exact Or.inr rfl) ?_
    rw [fini_t hb]
    have hs : Mk (fun a k => a = 11 ∧ k = q) m1 (wI m1 11 q (-1)) := Mk.wI ⟨rfl, rfl⟩
    refine ⟨_, rfl, rfl, g1.fs hs (fun a k e => by omega) ?_ (fun k hk => ⟨hk, rfl⟩) ?_ (fun _ _ e => e) ?_ (fun p hp => ?_) ?_ ?_, s1.tr (hs.up (fun a k e => by unfold Rq; omega))⟩
    · rw [hs.1 _ _ (by omega)]; exact g1.1.1
    · rw [hs.1 _ _ (by omega)]; exact g1.2.1.1
    · rw [rI_s]
      rfl
    · cases hp
    · rw [hs.1 _ _ (by omega)]; exact g1.2.2.2.1
    · rw [hs.1 _ _ (by omega)]; exact g1.2.2.2.2
  · have hb := b1_0 h5
    refine g_iconst (pc := 8) C d_M_finish_8 ic_0 ?_
    refine g_zret (pc := 9) C d_M_finish_9 (by first | exact Or.inl rfl | exact Or.inr rfl) ?_
    rw [fini_f hb]
    exact ⟨m1, rfl, rfl, g1, s1⟩
set_option maxRecDepth 100000 in
set_option maxHeartbeats 4000000 in
theorem x_M_roll (l : Launch) {D : Dt} (hD : OkD D) {c m : Cs} {ow : Nat → Int64} {q : Nat} {R : Rp} {d n : Nat} (hq : q < 2) (h : MRep m q R) (hd : R.dwn = false) (hf : R.fai ≤ 100) (hj : R.jrn = some (d, n)) (hd1 : d ≤ R.dat.length) (hn1 : n ≤ R.rcs.length) : Cp l D y_M_roll b_M_roll 3 (some .int) 3 [.int (nI q), .ref (aMdl D)] ((c, m, ow) : Sg) (fun a u => ∃ m2, u = ((c, m2, ow) : Sg) ∧ a = some (.int (Int32.ofInt (roll R d n).1)) ∧ MRep m2 q (roll R d n).2 ∧ Mk (Rq q) m m2) := by
  have j1 : (wrt R).2.jrn = some (d, n) := (wrt_j R).trans hj
  have f1 := wrt_f R
  have f2 := wrt_f (cutR (wrt R).2 d)
  have f3 : (cutR (wrt R).2 d).fai = (wrt R).2.fai := rfl
  have j2 : (wrt (cutR (wrt R).2 d)).2.jrn = some (d, n) := (wrt_j _).trans j1
  have r2 : (wrt (cutR (wrt R).2 d)).2.rcs = R.rcs := (wrt_r _).trans (wrt_r R)
  refine Cp.of hD (by decide) (Nat.le_of_ble_eq_true rfl) [(0, some (.ref (aMdl D))), (1, some (.int (nI q)))] rfl (fun X hX C => ?_)
  subst hX
  refine g_aload_n (pc := 0) (i := 0) C d_M_roll_0 rfl rfl ?_
  refine g_iload_n (pc := 1) (i := 1) C d_M_roll_1 rfl rfl ?_
  refine g_callVp (pc := 2) (As := [_]) C my_M_write mv_M_write cl_M_145 is_M d_M_roll_2 (Nat.le_of_ble_eq_true rfl) rfl (Nat.le_of_ble_eq_true rfl) ⟨Nat.zero_le _, Nat.zero_le _⟩ (x_M_write _ hD hq h hd hf) (fun r2 u2 hp2 => ?_)
  obtain ⟨m1, rfl, rfl, g1, s1⟩ := hp2
  refine g_if_ne (pc := 5) (tgt := 11) C d_M_roll_5 (by decide) (fun h5 => ?_) (fun h5 => ?_)
  · have hb := b1_1 h5
    refine g_aload_n (pc := 11) (i := 0) C d_M_roll_11 rfl rfl ?_
    refine gf_M_dataLen (pc := 12) C fl_M_16 d_M_roll_12 ?_
    refine g_iload_n (pc := 15) (i := 1) C d_M_roll_15 rfl rfl ?_
    refine g_aload_n (pc := 16) (i := 0) C d_M_roll_16 rfl rfl ?_
    refine gf_M_journalData (pc := 17) C fl_M_44 d_M_roll_17 ?_
    refine g_iload_n (pc := 20) (i := 1) C d_M_roll_20 rfl rfl ?_
    refine ga_mar (pc := 21) C (by decide) (by decide) (vp_in_nI (show q < 2 by omega) (by decide)) d_M_roll_21 ?_
    rw [nI_clamp (show q < 2 ^ 31 by omega), g1.2.2.1.1, j1]
    refine gs_mar (pc := 22) C (by decide) (by decide) (vp_in_nI (show q < 2 by omega) (by decide)) d_M_roll_22 ?_
    rw [nI_clamp (show q < 2 ^ 31 by omega)]
    have hs : Mk (fun a k => a = 3 ∧ k = q) m1 (wI m1 3 q (nI d)) := Mk.wI ⟨rfl, rfl⟩
    have ld : (cutR (wrt R).2 d).dat.length = d := by
      show ((wrt R).2.dat.take d).length = d
      rw [List.length_take, wrt_d]
      omega
    have g2 : MRep (wI m1 3 q (nI d)) q (cutR (wrt R).2 d) := by
      refine g1.fs hs (fun a k e => by omega) (by rw [rI_s, ld]) (fun k hk => ?_) ?_ (fun _ _ e => e) ?_ (fun p hp => ?_) ?_ ?_
      · rw [ld] at hk
        refine ⟨by rw [wrt_d]; omega, ?_⟩
        show ((wrt R).2.dat.take d).getD k 0 = _
        simp only [List.getD_eq_getElem?_getD, List.getElem?_take]
        rw [if_pos hk]
      · rw [hs.1 _ _ (by omega)]; exact g1.2.1.1
      · rw [hs.1 _ _ (by omega)]; exact g1.2.2.1.1
      · rw [hs.1 _ _ (by omega)]; exact g1.2.2.1.2 p hp
      · rw [hs.1 _ _ (by omega)]; exact g1.2.2.2.1
      · rw [hs.1 _ _ (by omega)]; exact g1.2.2.2.2
    have hsR : Mk (Rq q) m1 (wI m1 3 q (nI d)) := hs.up (fun a k e => by unfold Rq; omega)
    have d2 : (cutR (wrt R).2 d).dwn = false := wrt_w hb hd
    refine G.eq (st' := []) rfl rfl rfl ?_
    refine g_aload_n (pc := 23) (i := 0) C d_M_roll_23 rfl rfl ?_
    refine g_iload_n (pc := 24) (i := 1) C d_M_roll_24 rfl rfl ?_
    refine g_callVp (pc := 25) (As := [_]) C my_M_write mv_M_write cl_M_145 is_M d_M_roll_25 (Nat.le_of_ble_eq_true rfl) rfl (Nat.le_of_ble_eq_true rfl) ⟨Nat.zero_le _, Nat.zero_le _⟩ (x_M_write _ hD hq g2 d2 (by omega)) (fun r25 u25 hp25 => ?_)
    obtain ⟨m3, rfl, rfl, g3, s3⟩ := hp25
    refine g_if_ne (pc := 28) (tgt := 34) C d_M_roll_28 (by decide) (fun h28 => ?_) (fun h28 => ?_)
    · have hb2 := b1_1 h28
      refine g_aload_n (pc := 34) (i := 0) C d_M_roll_34 rfl rfl ?_
      refine gf_M_count (pc := 35) C fl_M_19 d_M_roll_35 ?_
      refine g_iload_n (pc := 38) (i := 1) C d_M_roll_38 rfl rfl ?_
      refine ga_mar (pc := 39) C (by decide) (by decide) (vp_in_nI (show q < 2 by omega) (by decide)) d_M_roll_39 ?_
      rw [nI_clamp (show q < 2 ^ 31 by omega), g3.2.1.1]
      refine g_aload_n (pc := 40) (i := 0) C d_M_roll_40 rfl rfl ?_
      refine gf_M_journalCount (pc := 41) C fl_M_47 d_M_roll_41 ?_
      refine g_iload_n (pc := 44) (i := 1) C d_M_roll_44 rfl rfl ?_
      refine ga_mar (pc := 45) C (by decide) (by decide) (vp_in_nI (show q < 2 by omega) (by decide)) d_M_roll_45 ?_
      rw [nI_clamp (show q < 2 ^ 31 by omega), g3.2.2.1.2 _ j2]
      rw [r2]
      refine g_isub (pc := 46) C d_M_roll_46 ?_
      rw [pk_sub hn1]
      refine g_istore_n (pc := 47) (i := 2) C d_M_roll_47 rfl (by decide) rfl ?_
      refine g_aload_n (pc := 48) (i := 0) C d_M_roll_48 rfl rfl ?_
      refine gf_M_count (pc := 49) C fl_M_19 d_M_roll_49 ?_
      refine g_iload_n (pc := 52) (i := 1) C d_M_roll_52 rfl rfl ?_
      refine g_aload_n (pc := 53) (i := 0) C d_M_roll_53 rfl rfl ?_
      refine gf_M_journalCount (pc := 54) C fl_M_47 d_M_roll_54 ?_
      refine g_iload_n (pc := 57) (i := 1) C d_M_roll_57 rfl rfl ?_
      refine ga_mar (pc := 58) C (by decide) (by decide) (vp_in_nI (show q < 2 by omega) (by decide)) d_M_roll_58 ?_
      rw [nI_clamp (show q < 2 ^ 31 by omega), g3.2.2.1.2 _ j2]
      refine gs_mar (pc := 59) C (by decide) (by decide) (vp_in_nI (show q < 2 by omega) (by decide)) d_M_roll_59 ?_
      rw [nI_clamp (show q < 2 ^ 31 by omega)]
      have ht : Mk (fun a k => a = 4 ∧ k = q) m3 (wI m3 4 q (nI n)) := Mk.wI ⟨rfl, rfl⟩
      have g4 : MRep (wI m3 4 q (nI n)) q (takR (wrt (cutR (wrt R).2 d)).2 n) := by
        refine g3.fs ht (fun a k e => by omega) ?_ (fun k hk => ⟨hk, rfl⟩) ?_ (fun k x e => ?_) ?_ (fun p hp => ?_) ?_ ?_
        · rw [ht.1 _ _ (by omega)]; exact g3.1.1
        · rw [rI_s]
          show nI n = nI ((wrt (cutR (wrt R).2 d)).2.rcs.take n).length
          rw [r2, List.length_take, Nat.min_eq_left hn1]
        · have e : ((wrt (cutR (wrt R).2 d)).2.rcs.take n)[k]? = some x := e
          rw [List.getElem?_take] at e
          split at e
          · exact e
          · cases e
        · rw [ht.1 _ _ (by omega)]; exact g3.2.2.1.1
        · rw [ht.1 _ _ (by omega)]; exact g3.2.2.1.2 p hp
        · rw [ht.1 _ _ (by omega)]; exact g3.2.2.2.1
        · rw [ht.1 _ _ (by omega)]; exact g3.2.2.2.2
      have htR : Mk (Rq q) m3 (wI m3 4 q (nI n)) := ht.up (fun a k e => by unfold Rq; omega)
      have d4 : (takR (wrt (cutR (wrt R).2 d)).2 n).dwn = false := wrt_w hb2 d2
      have f4 : (takR (wrt (cutR (wrt R).2 d)).2 n).fai = (wrt (cutR (wrt R).2 d)).2.fai := rfl
      refine g_aload_n (pc := 60) (i := 0) C d_M_roll_60 rfl rfl ?_
      refine g_iload_n (pc := 61) (i := 1) C d_M_roll_61 rfl rfl ?_
      refine g_callVp (pc := 62) (As := [_]) C my_M_finish mv_M_finish cl_M_156 is_M d_M_roll_62 (Nat.le_of_ble_eq_true rfl) rfl (Nat.le_of_ble_eq_true rfl) ⟨Nat.zero_le _, Nat.zero_le _⟩ (x_M_finish _ hD hq g4 d4 (by omega)) (fun r62 u62 hp62 => ?_)
      obtain ⟨m5, rfl, rfl, g5, s5⟩ := hp62
      refine g_if_eq (pc := 65) (tgt := 72) C d_M_roll_65 (by decide) (fun h65 => ?_) (fun h65 => ?_)
      · have hb3 := b1_0 h65
        refine g_bipush (pc := 72) C d_M_roll_72 bp_m2 ?_
        refine g_iret (pc := 74) C d_M_roll_74 ?_
        rw [roll_3 hb hb2, if_neg hb3]
        exact ⟨m5, rfl, by rw [oi_m2], g5, s1.tr (hsR.tr (s3.tr (htR.tr s5)))⟩
      · have hb3 := b1_1 h65
        refine g_iload_n (pc := 68) (i := 2) C d_M_roll_68 rfl rfl ?_
        refine g_goto (pc := 69) (tgt := 74) C d_M_roll_69 (by decide) ?_
        refine g_iret (pc := 74) C d_M_roll_74 ?_
        rw [roll_3 hb hb2, if_pos hb3, r2]
        exact ⟨m5, rfl, by rw [oi_n], g5, s1.tr (hsR.tr (s3.tr (htR.tr s5)))⟩
    · have hb2 := b1_0 h28
      refine g_bipush (pc := 31) C d_M_roll_31 bp_m2 ?_
      refine g_iret (pc := 33) C d_M_roll_33 ?_
      rw [roll_2 hb hb2, oi_m2]
      exact ⟨m3, rfl, rfl, g3, s1.tr (hsR.tr s3)⟩
  · have hb := b1_0 h5
    refine g_bipush (pc := 8) C d_M_roll_8 bp_m2 ?_
    refine g_iret (pc := 10) C d_M_roll_10 ?_
    rw [roll_1 hb, oi_m2]
    exact ⟨m1, rfl, rfl, g1, s1⟩
set_option maxRecDepth 100000 in
set_option maxHeartbeats 4000000 in
theorem c_M_shut (l : Launch) {D : Dt} (hD : OkD D) {c m : Cs} {ow : Nat → Int64} {r : Int32} {V : Vt} (h : MAbs m V) : Ct l D y_M_shut b_M_shut 2 (some .int) 2 [.int r, .ref (aMdl D)] ((c, m, ow) : Sg) (some (.int (barV V r))) ((c, wI m 0 0 0, ow) : Sg) := by
  refine Ct.of hD (by decide) (Nat.le_of_ble_eq_true rfl) [(0, some (.ref (aMdl D))), (1, some (.int r))] rfl (fun X hX C => ?_)
  subst hX
  refine g_aload_n (pc := 0) (i := 0) C d_M_shut_0 rfl rfl ?_
  refine g_iconst (pc := 1) C d_M_shut_1 ic_0 ?_
  refine gp_M_thrown (pc := 2) C fl_M_69 d_M_shut_2 ?_
  refine g_iload_n (pc := 5) (i := 1) C d_M_shut_5 rfl rfl ?_
  refine g_callS1 (pc := 6) (As := [_]) C my_M_isRepository ms_M_isRepository cl_M_159 d_M_shut_6 (Nat.le_of_ble_eq_true rfl) rfl (Nat.le_of_ble_eq_true rfl) ⟨Nat.zero_le _, Nat.zero_le _⟩ (c_M_isRepository _ hD) ?_
  refine g_if_ne (pc := 9) (tgt := 16) C d_M_shut_9 (by decide) (fun h9 => ?_) (fun h9 => ?_)
  · obtain ⟨q, hq, rfl⟩ := okr_n (b1_1 h9)
    refine g_aload_n (pc := 16) (i := 0) C d_M_shut_16 rfl rfl ?_
    refine gf_M_down (pc := 17) C fl_M_50 d_M_shut_17 ?_
    refine g_iload_n (pc := 20) (i := 1) C d_M_shut_20 rfl rfl ?_
    refine ga_dwn (pc := 21) C (vp_in_nI (show q < 2 by omega) (by decide)) d_M_shut_21 ?_
    rw [nI_clamp (show q < 2 ^ 31 by omega), rI_n (Or.inl (by decide)), (h.rep hq).2.2.2.1]
    refine g_if_eq (pc := 22) (tgt := 30) C d_M_shut_22 (by decide) (fun h22 => ?_) (fun h22 => ?_)
    · have hb := b1_0 h22
      refine g_iconst (pc := 30) C d_M_shut_30 ic_0 ?_
      refine g_iret (pc := 31) C d_M_shut_31 ?_
      exact ⟨by rw [bar_q hq, if_neg hb], rfl⟩
    · have hb := b1_1 h22
      refine g_bipush (pc := 25) C d_M_shut_25 bp_m2 ?_
      refine g_goto (pc := 27) (tgt := 31) C d_M_shut_27 (by decide) ?_
      refine g_iret (pc := 31) C d_M_shut_31 ?_
      exact ⟨by rw [bar_q hq, if_pos hb], rfl⟩
  · have hb := b1_0 h9
    refine g_iconst (pc := 12) C d_M_shut_12 ic_m1 ?_
    refine g_goto (pc := 13) (tgt := 31) C d_M_shut_13 (by decide) ?_
    refine g_iret (pc := 31) C d_M_shut_31 ?_
    exact ⟨by unfold barV; rw [if_neg hb], rfl⟩
set_option maxRecDepth 100000 in
set_option maxHeartbeats 4000000 in
theorem c_M_barred (l : Launch) {D : Dt} (hD : OkD D) {c m : Cs} {ow : Nat → Int64} {q : Nat} {R : Rp} {j : Int32} (hq : q < 2) (h : MRep m q R) (hp : ∀ p, R.jrn = some p → p.1 < 2 ^ 31) : Ct l D y_M_barred b_M_barred 3 (some .boolean) 1 [.int j, .int (nI q), .ref (aMdl D)] ((c, m, ow) : Sg) (some (.int (b1 (R.dwn = true ∨ ¬ b1 (R.jrn.isSome = true) = j)))) ((c, m, ow) : Sg) := by
  refine Ct.of hD (by decide) (Nat.le_of_ble_eq_true rfl) [(0, some (.ref (aMdl D))), (1, some (.int (nI q))), (2, some (.int j))] rfl (fun X hX C => ?_)
  subst hX
  refine g_aload_n (pc := 0) (i := 0) C d_M_barred_0 rfl rfl ?_
  refine gf_M_down (pc := 1) C fl_M_50 d_M_barred_1 ?_
  refine g_iload_n (pc := 4) (i := 1) C d_M_barred_4 rfl rfl ?_
  refine ga_dwn (pc := 5) C (vp_in_nI (show q < 2 by omega) (by decide)) d_M_barred_5 ?_
  rw [nI_clamp (show q < 2 ^ 31 by omega), h.2.2.2.1]
  refine g_if_ne (pc := 6) (tgt := 27) C d_M_barred_6 (by decide) (fun h6 => ?_) (fun h6 => ?_)
  · have hb := b1_1 h6
    refine g_iconst (pc := 27) C d_M_barred_27 ic_1 ?_
    refine g_goto (pc := 28) (tgt := 32) C d_M_barred_28 (by decide) ?_
    refine g_zret (pc := 32) C d_M_barred_32 (by first | exact Or.inl rfl | exact Or.inr rfl) ?_
    first
      | exact ⟨by rw [b1_t (Or.inl hb)], rfl⟩
      | exact ⟨by rw [b1_t (Or.inr (by rw [hz]; exact h24))], rfl⟩
      | exact ⟨by rw [b1_f (fun q => q.elim hb (fun q => q (by rw [hz]; exact h24)))], rfl⟩
  · have hb := b1_0 h6
    refine g_aload_n (pc := 9) (i := 0) C d_M_barred_9 rfl rfl ?_
    refine gf_M_journalData (pc := 10) C fl_M_44 d_M_barred_10 ?_
    refine g_iload_n (pc := 13) (i := 1) C d_M_barred_13 rfl rfl ?_
    refine ga_mar (pc := 14) C (by decide) (by decide) (vp_in_nI (show q < 2 by omega) (by decide)) d_M_barred_14 ?_
    rw [nI_clamp (show q < 2 ^ 31 by omega), h.2.2.1.1]
    refine g_if_lt (pc := 15) (tgt := 22) C d_M_barred_15 (by decide) (fun h15 => ?_) (fun h15 => ?_)
    · have hz : b1 (R.jrn.isSome = true) = 0 := b1_f ((jd_lt hp).mp h15)
      refine g_iconst (pc := 22) C d_M_barred_22 ic_0 ?_
      refine g_iload_n (pc := 23) (i := 2) C d_M_barred_23 rfl rfl ?_
      refine g_icmp_eq (pc := 24) (tgt := 31) C d_M_barred_24 (by decide) (fun h24 => ?_) (fun h24 => ?_)
      · skip
        refine g_iconst (pc := 31) C d_M_barred_31 ic_0 ?_
        refine g_zret (pc := 32) C d_M_barred_32 (by first | exact Or.inl rfl | exact Or.inr rfl) ?_
        first
          | exact ⟨by rw [b1_t (Or.inl hb)], rfl⟩
          | exact ⟨by rw [b1_t (Or.inr (by rw [hz]; exact h24))], rfl⟩
          | exact ⟨by rw [b1_f (fun q => q.elim hb (fun q => q (by rw [hz]; exact h24)))], rfl⟩
      · skip
        refine g_iconst (pc := 27) C d_M_barred_27 ic_1 ?_
        refine g_goto (pc := 28) (tgt := 32) C d_M_barred_28 (by decide) ?_
        refine g_zret (pc := 32) C d_M_barred_32 (by first | exact Or.inl rfl | exact Or.inr rfl) ?_
        first
          | exact ⟨by rw [b1_t (Or.inl hb)], rfl⟩
          | exact ⟨by rw [b1_t (Or.inr (by rw [hz]; exact h24))], rfl⟩
          | exact ⟨by rw [b1_f (fun q => q.elim hb (fun q => q (by rw [hz]; exact h24)))], rfl⟩
    · have hz : b1 (R.jrn.isSome = true) = 1 := b1_t (Classical.byContradiction fun e => h15 ((jd_lt hp).mpr e))
      refine g_iconst (pc := 18) C d_M_barred_18 ic_1 ?_
      refine g_goto (pc := 19) (tgt := 23) C d_M_barred_19 (by decide) ?_
      refine g_iload_n (pc := 23) (i := 2) C d_M_barred_23 rfl rfl ?_
      refine g_icmp_eq (pc := 24) (tgt := 31) C d_M_barred_24 (by decide) (fun h24 => ?_) (fun h24 => ?_)
      · skip
        refine g_iconst (pc := 31) C d_M_barred_31 ic_0 ?_
        refine g_zret (pc := 32) C d_M_barred_32 (by first | exact Or.inl rfl | exact Or.inr rfl) ?_
        first
          | exact ⟨by rw [b1_t (Or.inl hb)], rfl⟩
          | exact ⟨by rw [b1_t (Or.inr (by rw [hz]; exact h24))], rfl⟩
          | exact ⟨by rw [b1_f (fun q => q.elim hb (fun q => q (by rw [hz]; exact h24)))], rfl⟩
      · skip
        refine g_iconst (pc := 27) C d_M_barred_27 ic_1 ?_
        refine g_goto (pc := 28) (tgt := 32) C d_M_barred_28 (by decide) ?_
        refine g_zret (pc := 32) C d_M_barred_32 (by first | exact Or.inl rfl | exact Or.inr rfl) ?_
        first
          | exact ⟨by rw [b1_t (Or.inl hb)], rfl⟩
          | exact ⟨by rw [b1_t (Or.inr (by rw [hz]; exact h24))], rfl⟩
          | exact ⟨by rw [b1_f (fun q => q.elim hb (fun q => q (by rw [hz]; exact h24)))], rfl⟩
