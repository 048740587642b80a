/-! bits -/
theorem smk : ∀ k, k < 24 → ((nI k &&& 31).toBitVec.smod 32).toNat = k := by decide +kernel
theorem bq {s : Int32} {k : Nat} (hk : k < 24) : bitq s k = b1 (s.toBitVec.getLsbD k = true) := by
  have e2 : (s >>> (nI k &&& 31)).toBitVec.getLsbD 0 = s.toBitVec.getLsbD k := by
    rw [Int32.toBitVec_shiftRight]
    show BitVec.getLsbD (s.toBitVec.sshiftRight ((nI k &&& 31).toBitVec.smod 32).toNat) 0 = _
    rw [smk k hk, BitVec.getLsbD_sshiftRight, if_pos (by omega)]
    rfl
  have h := pk_and (s >>> (nI k &&& 31)) (m := 1) 1 (by decide +kernel)
  unfold bitq
  rw [h, ← e2, ← BitVec.testBit_toNat, Nat.testBit_eq_decide_div_mod_eq, Nat.pow_zero, Nat.div_one, Nat.pow_one]
  by_cases e : (s >>> (nI k &&& 31)).toBitVec.toNat % 2 = 1
  · rw [b1_t (decide_eq_true e), e]
    rfl
  · rw [b1_f (fun q => e (of_decide_eq_true q)), show (s >>> (nI k &&& 31)).toBitVec.toNat % 2 = 0 by omega]
    rfl
theorem bq_0 {s : Int32} {k : Nat} (hk : k < 24) : bitq s k = 0 ↔ s.toBitVec.getLsbD k = false := by
  rw [bq hk]
  constructor
  · intro h
    simpa using b1_0 h
  · intro h
    exact b1_f (by rw [h]; decide)
theorem bq_1 {s : Int32} {k : Nat} (hk : k < 24) : bitq s k = 1 ↔ ¬ bitq s k = 0 := by
  rw [bq hk]
  rcases b1_z (s.toBitVec.getLsbD k = true) with h | h <;> rw [h] <;> decide
theorem one_bit : ∀ n, n < 24 → ∀ k, k < 24 → ((1 : Int32) <<< (nI n &&& 31)).toBitVec.getLsbD k = decide (k = n) := by decide +kernel
theorem bitO_b {o : Option Nat} {k : Nat} (ho : ∀ n, o = some n → n < 24) (hk : k < 24) : (bitO o).toBitVec.getLsbD k = decide (o = some k) := by
  cases o with
  | none =>
    show (0 : Int32).toBitVec.getLsbD k = _
    simp
  | some n =>
    show ((1 : Int32) <<< (nI n &&& 31)).toBitVec.getLsbD k = _
    rw [one_bit n (ho n rfl) k hk]
    by_cases e : k = n
    · rw [decide_eq_true e, decide_eq_true (by rw [e])]
    · rw [decide_eq_false e, decide_eq_false (fun q => e (by cases q; rfl))]
theorem or_b {s t : Int32} {k : Nat} : (s ||| t).toBitVec.getLsbD k = (s.toBitVec.getLsbD k || t.toBitVec.getLsbD k) := by
  rw [Int32.toBitVec_or, BitVec.getLsbD_or]
theorem and_b {s t : Int32} {k : Nat} : (s &&& t).toBitVec.getLsbD k = (s.toBitVec.getLsbD k && t.toBitVec.getLsbD k) := by
  rw [Int32.toBitVec_and, BitVec.getLsbD_and]
/-- records whose parents lie before them -/
def Prs (rs : List Rc) : Prop := ∀ (n : Nat) (x : Rc), rs[n]? = some x → (∀ b, x.pa = some b → b < n) ∧ ∀ b, x.pb = some b → b < n
theorem pmk_b {rs : List Rc} {n k : Nat} {x : Rc} (hp : Prs rs) (h24 : rs.length ≤ 24) (hx : rs[n]? = some x) (hk : k < 24) : (pmk rs n).toBitVec.getLsbD k = (decide (x.pa = some k) || decide (x.pb = some k)) := by
  have hn := (List.getElem?_eq_some_iff.mp hx).1
  have e : pmk rs n = bitO x.pa ||| bitO x.pb := by unfold pmk; rw [hx]
  rw [e, or_b, bitO_b (fun b hb => by have := (hp n x hx).1 b hb; omega) hk, bitO_b (fun b hb => by have := (hp n x hx).2 b hb; omega) hk]
theorem pmk_hi {rs : List Rc} {n k : Nat} (hp : Prs rs) (h24 : rs.length ≤ 24) (hk : k < 24) (hn : n ≤ k) : (pmk rs n).toBitVec.getLsbD k = false := by
  cases hx : rs[n]? with
  | none =>
    have e : pmk rs n = 0 := by unfold pmk; rw [hx]
    rw [e]
    simp
  | some x =>
    rw [pmk_b hp h24 hx hk]
    have h1 := (hp n x hx).1 k
    have h2 := (hp n x hx).2 k
    rw [decide_eq_false (fun e => by have := h1 e; omega), decide_eq_false (fun e => by have := h2 e; omega)]
    rfl
theorem ancL_hi {rs : List Rc} {k : Nat} (hp : Prs rs) (h24 : rs.length ≤ 24) (hk : k < 24) : ∀ (j : Nat) (s : Int32), j ≤ k + 1 → s.toBitVec.getLsbD k = false → (ancL rs j s).toBitVec.getLsbD k = false
  | 0, s, _, h => h
  | j + 1, s, hj, h => by
    unfold ancL
    refine ancL_hi hp h24 hk j _ (by omega) ?_
    split
    · exact h
    · rw [or_b, h, pmk_hi hp h24 hk (by omega)]
      rfl
theorem anc_hi {rs : List Rc} {n k : Nat} (hp : Prs rs) (h24 : rs.length ≤ 24) (hk : k < 24) (hn : n < k) : (anc rs n).toBitVec.getLsbD k = false := by
  unfold anc
  refine ancL_hi hp h24 hk _ _ (by omega) ?_
  rw [one_bit n (by omega) k hk]
  exact decide_eq_false (by omega)
theorem gcl_hi {b : Int32} {lo : Nat} : ∀ (j : Nat), lo + j ≤ 24 → (∀ k, lo ≤ k → k < 24 → b.toBitVec.getLsbD k = false) → gcl b (lo + j) = gcl b lo
  | 0, _, _ => rfl
  | j + 1, hj, h => by
    have e : gcl b (lo + (j + 1)) = if bitq b (lo + j) = 0 then gcl b (lo + j) else some (lo + j) := rfl
    rw [e, if_pos ((bq_0 (by omega)).mpr (h _ (by omega) (by omega)))]
    exact gcl_hi j (by omega) h
theorem gcl_24 {rs : List Rc} {a b : Nat} (hp : Prs rs) (h24 : rs.length ≤ 24) (ha : a < 24) (hb : b < 24) : gcl (anc rs a &&& anc rs b) 24 = gcl (anc rs a &&& anc rs b) (min a b + 1) := by
  have h := gcl_hi (b := anc rs a &&& anc rs b) (lo := min a b + 1) (24 - (min a b + 1)) (by omega) (fun k h1 h2 => by
    rw [and_b]
    by_cases e : a < k
    · rw [anc_hi hp h24 h2 e]
      rfl
    · rw [anc_hi (n := b) hp h24 h2 (by omega), Bool.and_false])
  rw [← h]
  congr 1
  omega
theorem gcl_lt {b : Int32} : ∀ (j n : Nat), gcl b j = some n → n < j
  | 0, n, h => by cases h
  | j + 1, n, h => by
    unfold gcl at h
    split at h
    · have := gcl_lt j n h
      omega
    · cases h
      omega
/-- how many bits lie below -/
def bct (X : Nat) : Nat → Nat
  | 0 => 0
  | n + 1 => bct X n + X / 2 ^ n % 2
theorem bct_le (X : Nat) : ∀ n, bct X n ≤ n
  | 0 => Nat.le_refl _
  | n + 1 => by
    have := bct_le X n
    show bct X n + X / 2 ^ n % 2 ≤ n + 1
    omega
def pA (b : Nat) : Nat := b - (b / 2 &&& 85)
def pB (b : Nat) : Nat := (b &&& 51) + (b / 4 &&& 51)
def pC (b : Nat) : Nat := (b + b / 16) &&& 15
theorem pA_1 : ∀ b, b < 256 → (b / 2 &&& 85) ≤ b ∧ pA b < 256 := by decide +kernel
theorem pA_2 : ∀ b, b < 256 → ∀ c, c < 2 → (b / 2 + 128 * c) &&& 85 = b / 2 &&& 85 := by decide +kernel
theorem pB_2 : ∀ b, b < 256 → ∀ c, c < 4 → (b / 4 + 64 * c) &&& 51 = b / 4 &&& 51 := by decide +kernel
theorem pB_1 : ∀ b, b < 256 → pB (pA b) < 256 ∧ pB (pA b) % 16 ≤ 4 ∧ pB (pA b) / 16 ≤ 4 := by decide +kernel
theorem pC_2 : ∀ b, b < 256 → ∀ c, c < 5 → (pB (pA b) + pB (pA b) / 16 + 16 * c) &&& 15 = pC (pB (pA b)) := by decide +kernel
theorem pC_1 : ∀ b, b < 256 → pC (pB (pA b)) = bct b 8 ∧ bct b 8 ≤ 8 := by decide +kernel
theorem and2 {h l mh ml : Nat} (hl : l < 256) (hm : ml < 256) : (256 * h + l) &&& (256 * mh + ml) = 256 * (h &&& mh) + (l &&& ml) := by
  apply Nat.eq_of_testBit_eq
  intro j
  have hlm : l &&& ml < 2 ^ 8 := Nat.and_lt_two_pow l hm
  rw [Nat.testBit_and, show 256 * h + l = 2 ^ 8 * h + l from rfl, show 256 * mh + ml = 2 ^ 8 * mh + ml from rfl, show 256 * (h &&& mh) + (l &&& ml) = 2 ^ 8 * (h &&& mh) + (l &&& ml) from rfl, Nat.testBit_two_pow_mul_add h hl, Nat.testBit_two_pow_mul_add mh hm, Nat.testBit_two_pow_mul_add _ hlm]
  split
  · rw [Nat.testBit_and]
  · rw [Nat.testBit_and]
theorem and3 {a b c m : Nat} (ha : a < 256) (hb : b < 256) (hc : c < 256) (hm : m < 256) : (256 * (256 * c + b) + a) &&& (256 * (256 * (256 * m + m) + m) + m) = 256 * (256 * (c &&& m) + (b &&& m)) + (a &&& m) := by
  rw [and2 ha hm, and2 hb hm]
  have h := and2 (h := 0) (mh := m) hc hm
  rw [Nat.mul_zero, Nat.zero_add, Nat.zero_and, Nat.mul_zero, Nat.zero_add] at h
  rw [h]
theorem nI_and (a b : Nat) : nI a &&& nI b = nI (a &&& b) := by
  unfold nI
  apply Int32.toBitVec_inj.mp
  simp [BitVec.ofNat_and]
theorem us_n {X : Nat} (k : Int32) (j : Nat) (hX : X < 2 ^ 32) (hk : ((k.toUInt32 &&& Int32.toUInt32 31).toBitVec % 32).toNat = j) : us (nI X) k = nI (X / 2 ^ j) := pk_ushrN hX k j hk
theorem bitc_3 {a b c : Nat} (ha : a < 256) (hb : b < 256) (hc : c < 256) : bitc (nI (256 * (256 * c + b) + a)) = nI (bct a 8 + bct b 8 + bct c 8) := by
  obtain ⟨a1, a2⟩ := pA_1 a ha
  obtain ⟨b1, b2⟩ := pA_1 b hb
  obtain ⟨c1, c2⟩ := pA_1 c hc
  obtain ⟨a3, a4, a5⟩ := pB_1 a ha
  obtain ⟨b3, b4, b5⟩ := pB_1 b hb
  obtain ⟨c3, c4, c5⟩ := pB_1 c hc
  obtain ⟨a6, a7⟩ := pC_1 a ha
  obtain ⟨b6, b7⟩ := pC_1 b hb
  obtain ⟨c6, c7⟩ := pC_1 c hc
  have s1 : bc1 (nI (256 * (256 * c + b) + a)) = nI (256 * (256 * pA c + pA b) + pA a) := by
    unfold bc1
    rw [us_n 1 1 (by omega) (by decide), show (1431655765 : Int32) = nI (256 * (256 * (256 * 85 + 85) + 85) + 85) by decide +kernel, nI_and, show (256 * (256 * c + b) + a) / 2 ^ 1 = 256 * (256 * (c / 2) + (b / 2 + 128 * (c % 2))) + (a / 2 + 128 * (b % 2)) by omega, and3 (by omega) (by omega) (by omega) (by decide), pA_2 a ha _ (by omega), pA_2 b hb _ (by omega), pk_sub (by omega)]
    congr 1
    unfold pA
    omega
  have s2 : bc2 (nI (256 * (256 * pA c + pA b) + pA a)) = nI (256 * (256 * pB (pA c) + pB (pA b)) + pB (pA a)) := by
    unfold bc2
    rw [us_n 2 2 (by omega) (by decide), show (858993459 : Int32) = nI (256 * (256 * (256 * 51 + 51) + 51) + 51) by decide +kernel, nI_and, nI_and, show (256 * (256 * pA c + pA b) + pA a) / 2 ^ 2 = 256 * (256 * (pA c / 4) + (pA b / 4 + 64 * (pA c % 4))) + (pA a / 4 + 64 * (pA b % 4)) by omega, and3 a2 b2 c2 (by decide), and3 (by omega) (by omega) (by omega) (by decide), pB_2 _ a2 _ (by omega), pB_2 _ b2 _ (by omega), nI_add]
    congr 1
    unfold pB
    omega
  have s3 : bc3 (nI (256 * (256 * pB (pA c) + pB (pA b)) + pB (pA a))) = nI (256 * (256 * bct c 8 + bct b 8) + bct a 8) := by
    unfold bc3
    have e1 := pC_2 a ha (pB (pA b) % 16) (by omega)
    have e2 := pC_2 b hb (pB (pA c) % 16) (by omega)
    have e3 := pC_2 c hc 0 (by omega)
    rw [us_n 4 4 (by omega) (by decide), show (252645135 : Int32) = nI (256 * (256 * (256 * 15 + 15) + 15) + 15) by decide +kernel, nI_add, nI_and, show (256 * (256 * pB (pA c) + pB (pA b)) + pB (pA a)) + (256 * (256 * pB (pA c) + pB (pA b)) + pB (pA a)) / 2 ^ 4 = 256 * (256 * (pB (pA c) + pB (pA c) / 16 + 16 * 0) + (pB (pA b) + pB (pA b) / 16 + 16 * (pB (pA c) % 16))) + (pB (pA a) + pB (pA a) / 16 + 16 * (pB (pA b) % 16)) by omega, and3 (by omega) (by omega) (by omega) (by decide), e1, e2, e3, a6, b6, c6]
  have s4 : bc4 (nI (256 * (256 * bct c 8 + bct b 8) + bct a 8)) = nI (256 * (256 * bct c 8 + (bct b 8 + bct c 8)) + (bct a 8 + bct b 8)) := by
    unfold bc4
    rw [us_n 8 8 (by omega) (by decide), nI_add]
    congr 1
    omega
  have s5 : bc5 (nI (256 * (256 * bct c 8 + (bct b 8 + bct c 8)) + (bct a 8 + bct b 8))) = nI (256 * (256 * bct c 8 + (bct b 8 + bct c 8)) + (bct a 8 + bct b 8 + bct c 8)) := by
    unfold bc5
    rw [us_n 16 16 (by omega) (by decide), nI_add]
    congr 1
    omega
  unfold bitc
  rw [s1, s2, s3, s4, s5, pk_andN (by omega) 6 (by decide +kernel)]
  congr 1
  omega
theorem bit_lo {h l n : Nat} (hl : l < 256) (hn : n < 8) : (256 * h + l) / 2 ^ n % 2 = l / 2 ^ n % 2 := by
  rcases (show n = 0 ∨ n = 1 ∨ n = 2 ∨ n = 3 ∨ n = 4 ∨ n = 5 ∨ n = 6 ∨ n = 7 by omega) with rfl | rfl | rfl | rfl | rfl | rfl | rfl | rfl <;> simp only [Nat.reducePow] <;> omega
theorem bct_lo {h l : Nat} (hl : l < 256) : ∀ n, n ≤ 8 → bct (256 * h + l) n = bct l n
  | 0, _ => rfl
  | n + 1, hn => by
    show bct (256 * h + l) n + (256 * h + l) / 2 ^ n % 2 = bct l n + l / 2 ^ n % 2
    rw [bct_lo hl n (by omega), bit_lo hl (by omega)]
theorem bct_hi {h l : Nat} (hl : l < 256) : ∀ n, bct (256 * h + l) (8 + n) = bct l 8 + bct h n
  | 0 => bct_lo hl 8 (Nat.le_refl _)
  | n + 1 => by
    show bct (256 * h + l) (8 + n) + (256 * h + l) / 2 ^ (8 + n) % 2 = bct l 8 + (bct h n + h / 2 ^ n % 2)
    rw [bct_hi hl n, Nat.pow_add, ← Nat.div_div_eq_div_mul, show (256 * h + l) / 2 ^ 8 = h by omega, Nat.add_assoc]
theorem bct_3 {a b c : Nat} (ha : a < 256) (hb : b < 256) (hc : c < 256) : bct (256 * (256 * c + b) + a) 24 = bct a 8 + bct b 8 + bct c 8 := by
  rw [show 24 = 8 + (8 + 8) from rfl, bct_hi ha, bct_hi hb, Nat.add_assoc]
theorem bitc_b {x : Int32} (h : x.toBitVec.toNat < 2 ^ 24) : bitc x = nI (bct x.toBitVec.toNat 24) := by
  generalize hX : x.toBitVec.toNat = X at h
  have e : x = nI X := by
    rw [← hX]
    apply Int32.toBitVec_inj.mp
    apply BitVec.eq_of_toNat_eq
    rw [pk_tn (by omega)]
  have e2 : X = 256 * (256 * (X / 65536) + X / 256 % 256) + X % 256 := by omega
  rw [e]
  conv => lhs; rw [e2]
  rw [bitc_3 (by omega) (by omega) (by omega), ← bct_3 (by omega) (by omega) (by omega), ← e2]
