theorem tk1 {d : List Nat} {k n : Nat} (h : k < d.length) : (d.drop k).take (n + 1) = d.getD k 0 :: (d.drop (k + 1)).take n := by
  rw [dr h, List.take_succ_cons]
theorem tk2 {d : List Nat} {k n : Nat} (h : k + 1 < d.length) : (d.drop k).take (n + 2) = d.getD k 0 :: d.getD (k + 1) 0 :: (d.drop (k + 2)).take n := by
  rw [tk1 (by omega), tk1 h]
theorem tk_len {d : List Nat} {k n : Nat} (h : k + n ≤ d.length) : ((d.drop k).take n).length = n := by
  rw [List.length_take, List.length_drop]
  omega
theorem unp_odd : ∀ (m : Nat) (r : List Nat), r.length = 2 * m + 1 → unp r = none
  | 0, [v], _ => rfl
  | 0, [], h => by simp at h
  | 0, v :: w :: r, h => by simp at h
  | m + 1, [], h => by simp at h
  | m + 1, [v], h => by simp at h
  | m + 1, v :: w :: r, h => by
    have h1 := unp_odd m r (by simp only [List.length_cons] at h; omega)
    unfold unp
    rw [h1]
    split <;> rfl
theorem dif_short {ch b : List Nat} (h : ch.length < 4) : dif ch b = none := by
  match ch, h with
  | [], _ => rfl
  | [_], _ => rfl
  | [_, _], _ => rfl
  | [_, _, _], _ => rfl
  | _ :: _ :: _ :: _ :: _, h => simp only [List.length_cons] at h; omega
theorem By.take {t : List Nat} (h : By t) (k : Nat) : By (t.take k) := fun x hx => h x (List.mem_of_mem_take hx)
theorem By.drop {t : List Nat} (h : By t) (k : Nat) : By (t.drop k) := fun x hx => h x (List.mem_of_mem_drop hx)
theorem By.app {t u : List Nat} (h : By t) (g : By u) : By (t ++ u) := fun x hx => (List.mem_append.mp hx).elim (h x) (g x)
theorem By.rpl {v : Nat} (h : v < 256) (k : Nat) : By (List.replicate k v) := fun x hx => by rw [(List.mem_replicate.mp hx).2]; exact h
theorem dif_cons (k a b m : Nat) (r base : List Nat) : dif (k :: a :: b :: m :: r) base = if k = 100 ∧ m = r.length ∧ a ≤ b ∧ b ≤ base.length ∧ base.length - (b - a) + m ≤ 60 then some (base.take a ++ r ++ base.drop b) else none := rfl
theorem unp_c (n v : Nat) (r : List Nat) : unp (n :: v :: r) = if n = 0 then none else (unp r).map (fun t => List.replicate n v ++ t) := by
  conv => lhs; unfold unp
  cases unp r <;> rfl
theorem snap_x (r : List Nat) : snap (120 :: r) = match unp r with
    | none => none
    | some t => if t.length ≤ 60 then some t else none := rfl
theorem snap_u (r : List Nat) : snap (117 :: r) = if r.length ≤ 60 then some r else none := rfl
theorem snap_n {k : Nat} (r : List Nat) (h1 : ¬ k = 117) (h2 : ¬ k = 120) : snap (k :: r) = none := by
  simp only [snap]
  rw [if_neg h1, if_neg h2]
