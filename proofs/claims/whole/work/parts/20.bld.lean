theorem rl_1 {r : Nat} (h : r < 2) : rln (1 + 4 * r) = 600 := by
  rcases (show r = 0 ∨ r = 1 by omega) with rfl | rfl <;> rfl
theorem rl_2 {r : Nat} (h : r < 2) : rln (2 + 4 * r) = 60 := by
  rcases (show r = 0 ∨ r = 1 by omega) with rfl | rfl <;> rfl
theorem rl_3 {r : Nat} (h : r < 2) : rln (3 + 4 * r) = 121 := by
  rcases (show r = 0 ∨ r = 1 by omega) with rfl | rfl <;> rfl
theorem rl_4 {r : Nat} (h : r < 2) : rln (4 + 4 * r) = 121 := by
  rcases (show r = 0 ∨ r = 1 by omega) with rfl | rfl <;> rfl
def pd : Nat → Option Nat
  | 0 => none
  | k + 1 => some k
/-- a chain, as a list -/
def cl (rs : List Rc) : Nat → Option Nat → List Nat
  | _, none => []
  | 0, some _ => []
  | f + 1, some n => n :: match rs[n]? with
    | none => []
    | some x => cl rs f x.bas
theorem cl_0 (rs : List Rc) (f : Nat) : cl rs f none = [] := by cases f <;> rfl
theorem cl_s {rs : List Rc} {f n : Nat} {x : Rc} (hx : rs[n]? = some x) : cl rs (f + 1) (some n) = n :: cl rs f x.bas := by
  conv => lhs; unfold cl
  simp only [hx]
theorem cl_len (rs : List Rc) : ∀ (f : Nat) (o : Option Nat), (cl rs f o).length ≤ f
  | f, none => by rw [cl_0]; exact Nat.zero_le _
  | 0, some _ => by simp [cl]
  | f + 1, some n => by
    unfold cl
    cases rs[n]? with
    | none => simp
    | some x =>
      have := cl_len rs f x.bas
      simp only [List.length_cons]
      omega
theorem cl_at (rs : List Rc) : ∀ (f : Nat) (o : Option Nat), chn rs f o ≠ none → ∀ i a, (cl rs f o)[i]? = some a → ∃ x, rs[a]? = some x ∧ x.bas = (cl rs f o)[i + 1]?
  | f, none, _, i, a, h => by rw [cl_0] at h; simp at h
  | 0, some _, hc, _, _, _ => absurd rfl hc
  | f + 1, some n, hc, i, a, h => by
    cases hx : rs[n]? with
    | none =>
      exfalso
      apply hc
      unfold chn
      rw [hx]
    | some x =>
      rw [chn_s hx] at hc
      have hc2 : chn rs f x.bas ≠ none := fun e => hc (by rw [e]; rfl)
      rw [cl_s hx] at h ⊢
      cases i with
      | zero =>
        rw [List.getElem?_cons_zero] at h
        cases h
        refine ⟨x, hx, ?_⟩
        rw [List.getElem?_cons_succ]
        cases hb : x.bas with
        | none => rw [cl_0]; rfl
        | some b =>
          rw [hb] at hc2
          cases f with
          | zero => exact absurd rfl hc2
          | succ f =>
            unfold cl
            rfl
      | succ i =>
        rw [List.getElem?_cons_succ] at h
        obtain ⟨x2, h1, h2⟩ := cl_at rs f x.bas hc2 i a h
        exact ⟨x2, h1, by rw [List.getElem?_cons_succ]; exact h2⟩
def chA (d : List Nat) (rs : List Rc) (a : Nat) : List Nat := match rs[a]? with
  | none => []
  | some x => chnk d x
def evl (d : List Nat) (rs : List Rc) : List Nat → Option (List Nat)
  | [] => none
  | [a] => snap (chA d rs a)
  | a :: b :: r => match evl d rs (b :: r) with
    | none => none
    | some t => dif (chA d rs a) t
theorem evl_c {d : List Nat} {rs : List Rc} {a : Nat} {r : List Nat} (h : r ≠ []) : evl d rs (a :: r) = (evl d rs r).bind (fun t => dif (chA d rs a) t) := by
  cases r with
  | nil => exact absurd rfl h
  | cons b r =>
    conv => lhs; unfold evl
    cases evl d rs (b :: r) <;> rfl
theorem txt_evl (d : List Nat) (rs : List Rc) : ∀ (f n : Nat), chn rs f (some n) ≠ none → txt d rs f n = evl d rs (cl rs f (some n))
  | 0, n, h => absurd rfl h
  | f + 1, n, h => by
    cases hx : rs[n]? with
    | none =>
      exfalso
      apply h
      unfold chn
      rw [hx]
    | some x =>
      rw [chn_s hx] at h
      have hc2 : chn rs f x.bas ≠ none := fun e => h (by rw [e]; rfl)
      rw [cl_s hx]
      have hA : chA d rs n = chnk d x := by unfold chA; rw [hx]
      unfold txt
      simp only [hx]
      cases hb : x.bas with
      | none =>
        rw [cl_0]
        show snap (chnk d x) = snap (chA d rs n)
        rw [hA]
      | some b =>
        rw [hb] at hc2
        have ih := txt_evl d rs f b hc2
        cases f with
        | zero => exact absurd rfl hc2
        | succ f =>
          rw [evl_c (by unfold cl; exact List.cons_ne_nil _ _), hA]
          show (match txt d rs (f + 1) b with
            | none => none
            | some t => dif (chnk d x) t) = _
          rw [ih]
          cases evl d rs (cl rs (f + 1) (some b)) <;> rfl
def Bp (r : Nat) : Nat → Prop := fun t => t = 24 + r ∨ Rw (2 + 4 * r) t
theorem built_eq {d : List Nat} {rs : List Rc} {n : Nat} {x : Rc} (hx : rs[n]? = some x) : built d rs n = match txt d rs 6 n with
    | none => none
    | some t => if t.length = x.len ∧ nodeOf rs x.pa x.pb t = x.nod then some t else none := by
  unfold built
  simp only [hx]
  cases txt d rs 6 n <;> rfl
theorem built_none {d : List Nat} {rs : List Rc} {n : Nat} (h : txt d rs 6 n = none) : built d rs n = none := by
  unfold built
  rw [h]
  cases rs[n]? <;> rfl
theorem pd_dec (m : Nat) : nI m + Int32.ofInt (-1) = eo (pd m) := by
  cases m with
  | zero => decide +kernel
  | succ m =>
    show nI (m + 1) + Int32.ofInt (-1) = nI m
    rw [show Int32.ofInt (-1) = -1 from by decide +kernel]
    exact pk_m1 m
