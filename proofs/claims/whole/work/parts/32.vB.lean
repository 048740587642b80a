theorem kw_265 : Cond.constant R_JI 265 1431655765 ∈ UNI := un 632 (by decide +kernel) (by decide +kernel)
theorem kw_266 : Cond.constant R_JI 266 858993459 ∈ UNI := un 633 (by decide +kernel) (by decide +kernel)
theorem kw_267 : Cond.constant R_JI 267 252645135 ∈ UNI := un 634 (by decide +kernel) (by decide +kernel)
section GW
variable {X : Cx} {D : Dt} {Q : State → Prop} {z : Nat × Nat} {σ : Sg} {pc : Nat} {L : Lc} {st : List Value} {own : String} {cc : ByteArray} {nL d : Nat} {ret : Option FieldType}
theorem g_ldcw (C : Fx X D own cc nL d ret) {index : Nat} {v : Int32} (hc : Cond.constant own index v ∈ UNI) (hd : decode cc pc = .ok (.ldc_w index, 3)) (kk : G X D Q z σ (pc + 3) L (.int v :: st)) : G X D Q z σ pc L st := fun H locs ls hP hS hL => lv_ldcw C.ex C.bt C.ow (C.ts _ hc) hd (kk H locs ls hP hS hL)
theorem g_tabIn (C : Fx X D own cc nL d ret) {dflt lo hi : Int} {offs : Array Int} {len : Nat} {x : Int32} {off : Int} {tgt : Nat} (hd : decode cc pc = .ok (.tableswitch dflt lo hi offs, len)) (h1 : ¬ x.toInt < lo) (h2 : ¬ hi < x.toInt) (ho : offs[(x.toInt - lo).toNat]? = some off) (ht : (pc : Int) + off = (tgt : Int)) (kk : G X D Q z σ tgt L st) : G X D Q z σ pc L (.int x :: st) := fun H locs ls hP hS hL => lv_tableIn C.ex C.bt hd h1 h2 ho ht (kk H locs ls hP hS hL)
theorem g_tabOut (C : Fx X D own cc nL d ret) {dflt lo hi : Int} {offs : Array Int} {len : Nat} {x : Int32} {tgt : Nat} (hd : decode cc pc = .ok (.tableswitch dflt lo hi offs, len)) (h : x.toInt < lo ∨ hi < x.toInt) (ht : (pc : Int) + dflt = (tgt : Int)) (kk : G X D Q z σ tgt L st) : G X D Q z σ pc L (.int x :: st) := fun H locs ls hP hS hL => lv_tableOut C.ex C.bt hd h ht (kk H locs ls hP hS hL)
end GW
/-- sets of revisions as bits -/
def bitO : Option Nat → Int32
  | none => 0
  | some k => 1 <<< (nI k &&& 31)
def pmk (rs : List Rc) (n : Nat) : Int32 := match rs[n]? with
  | none => 0
  | some x => bitO x.pa ||| bitO x.pb
def bitq (s : Int32) (k : Nat) : Int32 := (s >>> (nI k &&& 31)) &&& 1
def ancL (rs : List Rc) : Nat → Int32 → Int32
  | 0, s => s
  | k + 1, s => ancL rs k (if bitq s k = 0 then s else s ||| pmk rs k)
def anc (rs : List Rc) (n : Nat) : Int32 := ancL rs (n + 1) (1 <<< (nI n &&& 31))
def gcl (b : Int32) : Nat → Option Nat
  | 0 => none
  | k + 1 => if bitq b k = 0 then gcl b k else some k
def pall (rs : List Rc) : Nat → Int32
  | 0 => 0
  | n + 1 => pall rs n ||| pmk rs n
def us (x : Int32) (k : Int32) : Int32 := (x.toUInt32 >>> (k.toUInt32 &&& Int32.toUInt32 31)).toInt32
def bc1 (x : Int32) : Int32 := x - (us x 1 &&& 1431655765)
def bc2 (x : Int32) : Int32 := (x &&& 858993459) + (us x 2 &&& 858993459)
def bc3 (x : Int32) : Int32 := (x + us x 4) &&& 252645135
def bc4 (x : Int32) : Int32 := x + us x 8
def bc5 (x : Int32) : Int32 := x + us x 16
def bitc (x : Int32) : Int32 := bc5 (bc4 (bc3 (bc2 (bc1 x)))) &&& 63
set_option maxRecDepth 100000 in
set_option maxHeartbeats 4000000 in
theorem c_JI_bitCount (l : Launch) {D : Dt} (hD : OkD D) {x : Int32} {σ : Sg}  : Ct l D y_JI_bitCount b_JI_bitCount 1 (some .int) 1 [.int x] σ (some (.int (bitc x))) σ := by
  refine Ct.of hD (by decide) (Nat.le_of_ble_eq_true rfl) [(0, some (.int x))] rfl (fun X hX C => ?_)
  subst hX
  refine g_iload_n (pc := 0) (i := 0) C d_JI_bitCount_0 rfl rfl ?_
  refine g_iload_n (pc := 1) (i := 0) C d_JI_bitCount_1 rfl rfl ?_
  refine g_iconst (pc := 2) C d_JI_bitCount_2 ic_1 ?_
  refine g_iushr (pc := 3) C d_JI_bitCount_3 ?_
  refine g_ldcw (pc := 4) C kw_265 d_JI_bitCount_4 ?_
  refine g_iand (pc := 7) C d_JI_bitCount_7 ?_
  refine g_isub (pc := 8) C d_JI_bitCount_8 ?_
  refine g_istore_n (pc := 9) (i := 0) C d_JI_bitCount_9 rfl (by decide) rfl ?_
  refine g_iload_n (pc := 10) (i := 0) C d_JI_bitCount_10 rfl rfl ?_
  refine g_ldcw (pc := 11) C kw_266 d_JI_bitCount_11 ?_
  refine g_iand (pc := 14) C d_JI_bitCount_14 ?_
  refine g_iload_n (pc := 15) (i := 0) C d_JI_bitCount_15 rfl rfl ?_
  refine g_iconst (pc := 16) C d_JI_bitCount_16 ic_2 ?_
  refine g_iushr (pc := 17) C d_JI_bitCount_17 ?_
  refine g_ldcw (pc := 18) C kw_266 d_JI_bitCount_18 ?_
  refine g_iand (pc := 21) C d_JI_bitCount_21 ?_
  refine g_iadd (pc := 22) C d_JI_bitCount_22 ?_
  refine g_istore_n (pc := 23) (i := 0) C d_JI_bitCount_23 rfl (by decide) rfl ?_
  refine g_iload_n (pc := 24) (i := 0) C d_JI_bitCount_24 rfl rfl ?_
  refine g_iload_n (pc := 25) (i := 0) C d_JI_bitCount_25 rfl rfl ?_
  refine g_iconst (pc := 26) C d_JI_bitCount_26 ic_4 ?_
  refine g_iushr (pc := 27) C d_JI_bitCount_27 ?_
  refine g_iadd (pc := 28) C d_JI_bitCount_28 ?_
  refine g_ldcw (pc := 29) C kw_267 d_JI_bitCount_29 ?_
  refine g_iand (pc := 32) C d_JI_bitCount_32 ?_
  refine g_istore_n (pc := 33) (i := 0) C d_JI_bitCount_33 rfl (by decide) rfl ?_
  refine g_iload_n (pc := 34) (i := 0) C d_JI_bitCount_34 rfl rfl ?_
  refine g_iload_n (pc := 35) (i := 0) C d_JI_bitCount_35 rfl rfl ?_
  refine g_bipush (pc := 36) C d_JI_bitCount_36 bp_8 ?_
  refine g_iushr (pc := 38) C d_JI_bitCount_38 ?_
  refine g_iadd (pc := 39) C d_JI_bitCount_39 ?_
  refine g_istore_n (pc := 40) (i := 0) C d_JI_bitCount_40 rfl (by decide) rfl ?_
  refine g_iload_n (pc := 41) (i := 0) C d_JI_bitCount_41 rfl rfl ?_
  refine g_iload_n (pc := 42) (i := 0) C d_JI_bitCount_42 rfl rfl ?_
  refine g_bipush (pc := 43) C d_JI_bitCount_43 bp_16 ?_
  refine g_iushr (pc := 45) C d_JI_bitCount_45 ?_
  refine g_iadd (pc := 46) C d_JI_bitCount_46 ?_
  refine g_istore_n (pc := 47) (i := 0) C d_JI_bitCount_47 rfl (by decide) rfl ?_
  refine g_iload_n (pc := 48) (i := 0) C d_JI_bitCount_48 rfl rfl ?_
  refine g_bipush (pc := 49) C d_JI_bitCount_49 bp_63 ?_
  refine g_iand (pc := 51) C d_JI_bitCount_51 ?_
  refine g_iret (pc := 52) C d_JI_bitCount_52 ?_
  exact ⟨rfl, rfl⟩
set_option maxRecDepth 100000 in
set_option maxHeartbeats 4000000 in
theorem c_Rep_parentsOf (l : Launch) {D : Dt} (hD : OkD D) {r : Nat} {c : Cs} {τ : Cs × (Nat → Int64)} {rs : List Rc} {n : Nat} (hr : r < 2) (hx : RcX c r rs) (hw : ∀ (n : Nat) (x : Rc), rs[n]? = some x → (∀ b, x.pa = some b → b < n) ∧ ∀ b, x.pb = some b → b < n) (hn : n < rs.length) : Ct l D y_Rep_parentsOf b_Rep_parentsOf 5 (some .int) 1 [.int (nI n), .ref (aRep D r)] ((c, τ) : Sg) (some (.int (pmk rs n))) ((c, τ) : Sg) := by
  have h24 := hx.1
  obtain ⟨x, hxn⟩ : ∃ x, rs[n]? = some x := ⟨_, List.getElem?_eq_getElem hn⟩
  have g := hx.2 n x hxn
  obtain ⟨wa, wb⟩ := hw n x hxn
  have e : pmk rs n = bitO x.pa ||| bitO x.pb := by unfold pmk; rw [hxn]
  rw [e]
  have ga := g.2.2.2.2.1
  have gb := g.2.2.2.2.2.1
  refine Ct.of hD (by decide) (Nat.le_of_ble_eq_true rfl) [(0, some (.ref (aRep D r))), (1, some (.int (nI n)))] rfl (fun X hX C => ?_)
  subst hX
  rcases hpa : x.pa with _ | a <;> rcases hpb : x.pb with _ | b <;> rw [hpa] at ga wa <;> rw [hpb] at gb wb
  · skip
    refine g_aload_n (pc := 0) (i := 0) C d_Rep_parentsOf_0 rfl rfl ?_
    refine gf_Rep_records (pc := 1) C (by omega) fl_Rep_22 d_Rep_parentsOf_1 ?_
    refine g_iload_n (pc := 4) (i := 1) C d_Rep_parentsOf_4 rfl rfl ?_
    refine ga_rcs (pc := 5) C (by omega) (by omega) d_Rep_parentsOf_5 ?_
    refine g_astore_n (pc := 6) (i := 2) C d_Rep_parentsOf_6 rfl (by decide) rfl ?_
    refine g_aload_n (pc := 7) (i := 2) C d_Rep_parentsOf_7 rfl rfl ?_
    refine gf_Rec_p1 (pc := 8) C (by omega) fl_Rep_95 d_Rep_parentsOf_8 ?_
    refine g_iconst (pc := 11) C d_Rep_parentsOf_11 ic_m1 ?_
    rw [ga]
    refine g_icmp_ne (pc := 12) (tgt := 19) C d_Rep_parentsOf_12 (by decide) (fun h12 => ?_) (fun h12 => ?_)
    · first | exact absurd h12 (rfl) | exact absurd (rfl) h12
    · skip
      refine g_iconst (pc := 15) C d_Rep_parentsOf_15 ic_0 ?_
      refine g_goto (pc := 16) (tgt := 25) C d_Rep_parentsOf_16 (by decide) ?_
      refine g_istore_n (pc := 25) (i := 3) C d_Rep_parentsOf_25 rfl (by decide) rfl ?_
      refine g_aload_n (pc := 26) (i := 2) C d_Rep_parentsOf_26 rfl rfl ?_
      refine gf_Rec_p2 (pc := 27) C (by omega) fl_Rep_102 d_Rep_parentsOf_27 ?_
      refine g_iconst (pc := 30) C d_Rep_parentsOf_30 ic_m1 ?_
      rw [gb]
      refine g_icmp_ne (pc := 31) (tgt := 38) C d_Rep_parentsOf_31 (by decide) (fun h31 => ?_) (fun h31 => ?_)
      · first | exact absurd h31 (rfl) | exact absurd (rfl) h31
      · skip
        refine g_iconst (pc := 34) C d_Rep_parentsOf_34 ic_0 ?_
        refine g_goto (pc := 35) (tgt := 44) C d_Rep_parentsOf_35 (by decide) ?_
        refine g_istore (pc := 44) C d_Rep_parentsOf_44 (by decide) rfl ?_
        refine g_iload_n (pc := 46) (i := 3) C d_Rep_parentsOf_46 rfl rfl ?_
        refine g_iload (pc := 47) C d_Rep_parentsOf_47 rfl ?_
        refine g_ior (pc := 49) C d_Rep_parentsOf_49 ?_
        refine g_iret (pc := 50) C d_Rep_parentsOf_50 ?_
        exact ⟨rfl, rfl⟩
  · skip
    refine g_aload_n (pc := 0) (i := 0) C d_Rep_parentsOf_0 rfl rfl ?_
    refine gf_Rep_records (pc := 1) C (by omega) fl_Rep_22 d_Rep_parentsOf_1 ?_
    refine g_iload_n (pc := 4) (i := 1) C d_Rep_parentsOf_4 rfl rfl ?_
    refine ga_rcs (pc := 5) C (by omega) (by omega) d_Rep_parentsOf_5 ?_
    refine g_astore_n (pc := 6) (i := 2) C d_Rep_parentsOf_6 rfl (by decide) rfl ?_
    refine g_aload_n (pc := 7) (i := 2) C d_Rep_parentsOf_7 rfl rfl ?_
    refine gf_Rec_p1 (pc := 8) C (by omega) fl_Rep_95 d_Rep_parentsOf_8 ?_
    refine g_iconst (pc := 11) C d_Rep_parentsOf_11 ic_m1 ?_
    rw [ga]
    refine g_icmp_ne (pc := 12) (tgt := 19) C d_Rep_parentsOf_12 (by decide) (fun h12 => ?_) (fun h12 => ?_)
    · first | exact absurd h12 (rfl) | exact absurd (rfl) h12
    · skip
      refine g_iconst (pc := 15) C d_Rep_parentsOf_15 ic_0 ?_
      refine g_goto (pc := 16) (tgt := 25) C d_Rep_parentsOf_16 (by decide) ?_
      refine g_istore_n (pc := 25) (i := 3) C d_Rep_parentsOf_25 rfl (by decide) rfl ?_
      refine g_aload_n (pc := 26) (i := 2) C d_Rep_parentsOf_26 rfl rfl ?_
      refine gf_Rec_p2 (pc := 27) C (by omega) fl_Rep_102 d_Rep_parentsOf_27 ?_
      refine g_iconst (pc := 30) C d_Rep_parentsOf_30 ic_m1 ?_
      rw [gb]
      refine g_icmp_ne (pc := 31) (tgt := 38) C d_Rep_parentsOf_31 (by decide) (fun h31 => ?_) (fun h31 => ?_)
      · skip
        refine g_iconst (pc := 38) C d_Rep_parentsOf_38 ic_1 ?_
        refine g_aload_n (pc := 39) (i := 2) C d_Rep_parentsOf_39 rfl rfl ?_
        refine gf_Rec_p2 (pc := 40) C (by omega) fl_Rep_102 d_Rep_parentsOf_40 ?_
        rw [gb]
        refine g_ishl (pc := 43) C d_Rep_parentsOf_43 ?_
        refine g_istore (pc := 44) C d_Rep_parentsOf_44 (by decide) rfl ?_
        refine g_iload_n (pc := 46) (i := 3) C d_Rep_parentsOf_46 rfl rfl ?_
        refine g_iload (pc := 47) C d_Rep_parentsOf_47 rfl ?_
        refine g_ior (pc := 49) C d_Rep_parentsOf_49 ?_
        refine g_iret (pc := 50) C d_Rep_parentsOf_50 ?_
        exact ⟨rfl, rfl⟩
      · first | exact absurd h31 (nI_m1 (by have := wb _ rfl; omega)) | exact absurd (nI_m1 (by have := wb _ rfl; omega)) h31
  · skip
    refine g_aload_n (pc := 0) (i := 0) C d_Rep_parentsOf_0 rfl rfl ?_
    refine gf_Rep_records (pc := 1) C (by omega) fl_Rep_22 d_Rep_parentsOf_1 ?_
    refine g_iload_n (pc := 4) (i := 1) C d_Rep_parentsOf_4 rfl rfl ?_
    refine ga_rcs (pc := 5) C (by omega) (by omega) d_Rep_parentsOf_5 ?_
    refine g_astore_n (pc := 6) (i := 2) C d_Rep_parentsOf_6 rfl (by decide) rfl ?_
    refine g_aload_n (pc := 7) (i := 2) C d_Rep_parentsOf_7 rfl rfl ?_
    refine gf_Rec_p1 (pc := 8) C (by omega) fl_Rep_95 d_Rep_parentsOf_8 ?_
    refine g_iconst (pc := 11) C d_Rep_parentsOf_11 ic_m1 ?_
    rw [ga]
    refine g_icmp_ne (pc := 12) (tgt := 19) C d_Rep_parentsOf_12 (by decide) (fun h12 => ?_) (fun h12 => ?_)
    · skip
      refine g_iconst (pc := 19) C d_Rep_parentsOf_19 ic_1 ?_
      refine g_aload_n (pc := 20) (i := 2) C d_Rep_parentsOf_20 rfl rfl ?_
      refine gf_Rec_p1 (pc := 21) C (by omega) fl_Rep_95 d_Rep_parentsOf_21 ?_
      rw [ga]
      refine g_ishl (pc := 24) C d_Rep_parentsOf_24 ?_
      refine g_istore_n (pc := 25) (i := 3) C d_Rep_parentsOf_25 rfl (by decide) rfl ?_
      refine g_aload_n (pc := 26) (i := 2) C d_Rep_parentsOf_26 rfl rfl ?_
      refine gf_Rec_p2 (pc := 27) C (by omega) fl_Rep_102 d_Rep_parentsOf_27 ?_
      refine g_iconst (pc := 30) C d_Rep_parentsOf_30 ic_m1 ?_
      rw [gb]
      refine g_icmp_ne (pc := 31) (tgt := 38) C d_Rep_parentsOf_31 (by decide) (fun h31 => ?_) (fun h31 => ?_)
      · first | exact absurd h31 (rfl) | exact absurd (rfl) h31
      · skip
        refine g_iconst (pc := 34) C d_Rep_parentsOf_34 ic_0 ?_
        refine g_goto (pc := 35) (tgt := 44) C d_Rep_parentsOf_35 (by decide) ?_
        refine g_istore (pc := 44) C d_Rep_parentsOf_44 (by decide) rfl ?_
        refine g_iload_n (pc := 46) (i := 3) C d_Rep_parentsOf_46 rfl rfl ?_
        refine g_iload (pc := 47) C d_Rep_parentsOf_47 rfl ?_
        refine g_ior (pc := 49) C d_Rep_parentsOf_49 ?_
        refine g_iret (pc := 50) C d_Rep_parentsOf_50 ?_
        exact ⟨rfl, rfl⟩
    · first | exact absurd h12 (nI_m1 (by have := wa _ rfl; omega)) | exact absurd (nI_m1 (by have := wa _ rfl; omega)) h12
  · skip
    refine g_aload_n (pc := 0) (i := 0) C d_Rep_parentsOf_0 rfl rfl ?_
    refine gf_Rep_records (pc := 1) C (by omega) fl_Rep_22 d_Rep_parentsOf_1 ?_
    refine g_iload_n (pc := 4) (i := 1) C d_Rep_parentsOf_4 rfl rfl ?_
    refine ga_rcs (pc := 5) C (by omega) (by omega) d_Rep_parentsOf_5 ?_
    refine g_astore_n (pc := 6) (i := 2) C d_Rep_parentsOf_6 rfl (by decide) rfl ?_
    refine g_aload_n (pc := 7) (i := 2) C d_Rep_parentsOf_7 rfl rfl ?_
    refine gf_Rec_p1 (pc := 8) C (by omega) fl_Rep_95 d_Rep_parentsOf_8 ?_
    refine g_iconst (pc := 11) C d_Rep_parentsOf_11 ic_m1 ?_
    rw [ga]
    refine g_icmp_ne (pc := 12) (tgt := 19) C d_Rep_parentsOf_12 (by decide) (fun h12 => ?_) (fun h12 => ?_)
    · skip
      refine g_iconst (pc := 19) C d_Rep_parentsOf_19 ic_1 ?_
      refine g_aload_n (pc := 20) (i := 2) C d_Rep_parentsOf_20 rfl rfl ?_
      refine gf_Rec_p1 (pc := 21) C (by omega) fl_Rep_95 d_Rep_parentsOf_21 ?_
      rw [ga]
      refine g_ishl (pc := 24) C d_Rep_parentsOf_24 ?_
      refine g_istore_n (pc := 25) (i := 3) C d_Rep_parentsOf_25 rfl (by decide) rfl ?_
      refine g_aload_n (pc := 26) (i := 2) C d_Rep_parentsOf_26 rfl rfl ?_
      refine gf_Rec_p2 (pc := 27) C (by omega) fl_Rep_102 d_Rep_parentsOf_27 ?_
      refine g_iconst (pc := 30) C d_Rep_parentsOf_30 ic_m1 ?_
      rw [gb]
      refine g_icmp_ne (pc := 31) (tgt := 38) C d_Rep_parentsOf_31 (by decide) (fun h31 => ?_) (fun h31 => ?_)
      · skip
        refine g_iconst (pc := 38) C d_Rep_parentsOf_38 ic_1 ?_
        refine g_aload_n (pc := 39) (i := 2) C d_Rep_parentsOf_39 rfl rfl ?_
        refine gf_Rec_p2 (pc := 40) C (by omega) fl_Rep_102 d_Rep_parentsOf_40 ?_
        rw [gb]
        refine g_ishl (pc := 43) C d_Rep_parentsOf_43 ?_
        refine g_istore (pc := 44) C d_Rep_parentsOf_44 (by decide) rfl ?_
        refine g_iload_n (pc := 46) (i := 3) C d_Rep_parentsOf_46 rfl rfl ?_
        refine g_iload (pc := 47) C d_Rep_parentsOf_47 rfl ?_
        refine g_ior (pc := 49) C d_Rep_parentsOf_49 ?_
        refine g_iret (pc := 50) C d_Rep_parentsOf_50 ?_
        exact ⟨rfl, rfl⟩
      · first | exact absurd h31 (nI_m1 (by have := wb _ rfl; omega)) | exact absurd (nI_m1 (by have := wb _ rfl; omega)) h31
    · first | exact absurd h12 (nI_m1 (by have := wa _ rfl; omega)) | exact absurd (nI_m1 (by have := wa _ rfl; omega)) h12
set_option maxRecDepth 100000 in
set_option maxHeartbeats 4000000 in
theorem c_Rep_ancestorsOf (l : Launch) {D : Dt} (hD : OkD D) {r : Nat} {c : Cs} {τ : Cs × (Nat → Int64)} {rs : List Rc} {n : Nat} (hr : r < 2) (hx : RcX c r rs) (hw : ∀ (n : Nat) (x : Rc), rs[n]? = some x → (∀ b, x.pa = some b → b < n) ∧ ∀ b, x.pb = some b → b < n) (hn : n < rs.length) : Ct l D y_Rep_ancestorsOf b_Rep_ancestorsOf 4 (some .int) 2 [.int (nI n), .ref (aRep D r)] ((c, τ) : Sg) (some (.int (anc rs n))) ((c, τ) : Sg) := by
  have h24 := hx.1
  refine Ct.of hD (by decide) (Nat.le_of_ble_eq_true rfl) [(0, some (.ref (aRep D r))), (1, some (.int (nI n)))] rfl (fun X hX C => ?_)
  subst hX
  have loop : ∀ (m : Nat) (s : Int32), m ≤ rs.length → ancL rs m s = anc rs n → G X D (Qp X D (fun r2 u => r2 = some (.int (anc rs n)) ∧ u = ((c, τ) : Sg))) (0, 0) ((c, τ) : Sg) 6 [(0, some (.ref (aRep D r))), (2, some (.int s)), (3, some (.int (eo (pd m))))] [] := by
    intro m
    induction m with
    | zero =>
      intro s hm he
      refine g_iload_n (pc := 6) (i := 3) C d_Rep_ancestorsOf_6 rfl rfl ?_
      refine g_if_lt (pc := 7) (tgt := 32) C d_Rep_ancestorsOf_7 (by decide) (fun h7 => ?_) (fun h7 => ?_)
      · skip
        refine g_iload_n (pc := 32) (i := 2) C d_Rep_ancestorsOf_32 rfl rfl ?_
        refine g_iret (pc := 33) C d_Rep_ancestorsOf_33 ?_
        exact ⟨by rw [← he]; rfl, rfl⟩
      · first | exact absurd h7 (by decide) | exact absurd (by decide) h7
    | succ m ih =>
      intro s hm he
      show G X D _ (0, 0) _ 6 [(0, some (.ref (aRep D r))), (2, some (.int s)), (3, some (.int (nI m)))] []
      refine g_iload_n (pc := 6) (i := 3) C d_Rep_ancestorsOf_6 rfl rfl ?_
      refine g_if_lt (pc := 7) (tgt := 32) C d_Rep_ancestorsOf_7 (by decide) (fun h7 => ?_) (fun h7 => ?_)
      · first | exact absurd h7 (nI_pos (by omega)) | exact absurd (nI_pos (by omega)) h7
      · skip
        refine g_iload_n (pc := 10) (i := 2) C d_Rep_ancestorsOf_10 rfl rfl ?_
        refine g_iload_n (pc := 11) (i := 3) C d_Rep_ancestorsOf_11 rfl rfl ?_
        refine g_ishr (pc := 12) C d_Rep_ancestorsOf_12 ?_
        refine g_iconst (pc := 13) C d_Rep_ancestorsOf_13 ic_1 ?_
        refine g_iand (pc := 14) C d_Rep_ancestorsOf_14 ?_
        refine G.eq (st' := [.int (bitq s m)]) rfl rfl rfl ?_
        refine g_if_eq (pc := 15) (tgt := 26) C d_Rep_ancestorsOf_15 (by decide) (fun h15 => ?_) (fun h15 => ?_)
        · skip
          refine g_iinc (pc := 26) C d_Rep_ancestorsOf_26 rfl (v := eo (pd m)) (pd_dec m) rfl ?_
          refine g_goto (pc := 29) (tgt := 6) C d_Rep_ancestorsOf_29 (by decide) ?_
          exact G.lf (ih s (by omega) (by rw [← he]; conv => rhs; unfold ancL; rw [if_pos h15])) (sb rfl (sb rfl (sb rfl sn)))
        · skip
          refine g_iload_n (pc := 18) (i := 2) C d_Rep_ancestorsOf_18 rfl rfl ?_
          refine g_aload_n (pc := 19) (i := 0) C d_Rep_ancestorsOf_19 rfl rfl ?_
          refine g_iload_n (pc := 20) (i := 3) C d_Rep_ancestorsOf_20 rfl rfl ?_
          refine g_callV1 (pc := 21) (As := [_]) C my_Rep_parentsOf mv_Rep_parentsOf cl_Rep_200 (is_Rep (by omega)) d_Rep_ancestorsOf_21 (Nat.le_of_ble_eq_true rfl) rfl (Nat.le_of_ble_eq_true rfl) ⟨Nat.zero_le _, Nat.zero_le _⟩ (c_Rep_parentsOf _ hD (by omega) hx hw (by omega)) ?_
          refine g_ior (pc := 24) C d_Rep_ancestorsOf_24 ?_
          refine g_istore_n (pc := 25) (i := 2) C d_Rep_ancestorsOf_25 rfl (by decide) rfl ?_
          refine g_iinc (pc := 26) C d_Rep_ancestorsOf_26 rfl (v := eo (pd m)) (pd_dec m) rfl ?_
          refine g_goto (pc := 29) (tgt := 6) C d_Rep_ancestorsOf_29 (by decide) ?_
          exact G.lf (ih (s ||| pmk rs m) (by omega) (by rw [← he]; conv => rhs; unfold ancL; rw [if_neg h15])) (sb rfl (sb rfl (sb rfl sn)))
  refine g_iconst (pc := 0) C d_Rep_ancestorsOf_0 ic_1 ?_
  refine g_iload_n (pc := 1) (i := 1) C d_Rep_ancestorsOf_1 rfl rfl ?_
  refine g_ishl (pc := 2) C d_Rep_ancestorsOf_2 ?_
  refine g_istore_n (pc := 3) (i := 2) C d_Rep_ancestorsOf_3 rfl (by decide) rfl ?_
  refine g_iload_n (pc := 4) (i := 1) C d_Rep_ancestorsOf_4 rfl rfl ?_
  refine g_istore_n (pc := 5) (i := 3) C d_Rep_ancestorsOf_5 rfl (by decide) rfl ?_
  exact G.lf (loop (n + 1) _ (by omega) rfl) (sb rfl (sb rfl (sb rfl sn)))
set_option maxRecDepth 100000 in
set_option maxHeartbeats 4000000 in
theorem c_Rep_greatestCommonAncestor (l : Launch) {D : Dt} (hD : OkD D) {r : Nat} {c : Cs} {τ : Cs × (Nat → Int64)} {rs : List Rc} {a b : Nat} (hr : r < 2) (hx : RcX c r rs) (hw : ∀ (n : Nat) (x : Rc), rs[n]? = some x → (∀ b, x.pa = some b → b < n) ∧ ∀ b, x.pb = some b → b < n) (ha : a < rs.length) (hb : b < rs.length) : Ct l D y_Rep_greatestCommonAncestor b_Rep_greatestCommonAncestor 5 (some .int) 3 [.int (nI b), .int (nI a), .ref (aRep D r)] ((c, τ) : Sg) (some (.int (eo (gcl (anc rs a &&& anc rs b) (min a b + 1))))) ((c, τ) : Sg) := by
  have h24 := hx.1
  refine Ct.of hD (by decide) (Nat.le_of_ble_eq_true rfl) [(0, some (.ref (aRep D r))), (1, some (.int (nI a))), (2, some (.int (nI b)))] rfl (fun X hX C => ?_)
  subst hX
  have loop : ∀ (m : Nat), m ≤ 24 → gcl (anc rs a &&& anc rs b) m = gcl (anc rs a &&& anc rs b) (min a b + 1) → G X D (Qp X D (fun r2 u => r2 = some (.int (eo (gcl (anc rs a &&& anc rs b) (min a b + 1)))) ∧ u = ((c, τ) : Sg))) (0, 0) ((c, τ) : Sg) 19 [(3, some (.int (anc rs a &&& anc rs b))), (4, some (.int (eo (pd m))))] [] := by
    intro m
    induction m with
    | zero =>
      intro hm he
      refine g_iload (pc := 19) C d_Rep_greatestCommonAncestor_19 rfl ?_
      refine g_if_lt (pc := 21) (tgt := 42) C d_Rep_greatestCommonAncestor_21 (by decide) (fun h21 => ?_) (fun h21 => ?_)
      · skip
        refine g_iconst (pc := 42) C d_Rep_greatestCommonAncestor_42 ic_m1 ?_
        refine g_iret (pc := 43) C d_Rep_greatestCommonAncestor_43 ?_
        exact ⟨by rw [← he]; rfl, rfl⟩
      · first | exact absurd h21 (by decide) | exact absurd (by decide) h21
    | succ m ih =>
      intro hm he
      show G X D _ (0, 0) _ 19 [(3, some (.int (anc rs a &&& anc rs b))), (4, some (.int (nI m)))] []
      refine g_iload (pc := 19) C d_Rep_greatestCommonAncestor_19 rfl ?_
      refine g_if_lt (pc := 21) (tgt := 42) C d_Rep_greatestCommonAncestor_21 (by decide) (fun h21 => ?_) (fun h21 => ?_)
      · first | exact absurd h21 (nI_pos (by omega)) | exact absurd (nI_pos (by omega)) h21
      · skip
        refine g_iload_n (pc := 24) (i := 3) C d_Rep_greatestCommonAncestor_24 rfl rfl ?_
        refine g_iload (pc := 25) C d_Rep_greatestCommonAncestor_25 rfl ?_
        refine g_ishr (pc := 27) C d_Rep_greatestCommonAncestor_27 ?_
        refine g_iconst (pc := 28) C d_Rep_greatestCommonAncestor_28 ic_1 ?_
        refine g_iand (pc := 29) C d_Rep_greatestCommonAncestor_29 ?_
        refine G.eq (st' := [.int (bitq (anc rs a &&& anc rs b) m)]) rfl rfl rfl ?_
        refine g_if_eq (pc := 30) (tgt := 36) C d_Rep_greatestCommonAncestor_30 (by decide) (fun h30 => ?_) (fun h30 => ?_)
        · skip
          refine g_iinc (pc := 36) C d_Rep_greatestCommonAncestor_36 rfl (v := eo (pd m)) (pd_dec m) rfl ?_
          refine g_goto (pc := 39) (tgt := 19) C d_Rep_greatestCommonAncestor_39 (by decide) ?_
          exact G.lf (ih (by omega) (by rw [← he]; conv => rhs; unfold gcl; rw [if_pos h30])) (sb rfl (sb rfl sn))
        · skip
          refine g_iload (pc := 33) C d_Rep_greatestCommonAncestor_33 rfl ?_
          refine g_iret (pc := 35) C d_Rep_greatestCommonAncestor_35 ?_
          refine ⟨?_, rfl⟩
          rw [← he]
          conv => rhs; unfold gcl
          rw [if_neg h30]
          rfl
  refine g_aload_n (pc := 0) (i := 0) C d_Rep_greatestCommonAncestor_0 rfl rfl ?_
  refine g_iload_n (pc := 1) (i := 1) C d_Rep_greatestCommonAncestor_1 rfl rfl ?_
  refine g_callV1 (pc := 2) (As := [_]) C my_Rep_ancestorsOf mv_Rep_ancestorsOf cl_Rep_208 (is_Rep (by omega)) d_Rep_greatestCommonAncestor_2 (Nat.le_of_ble_eq_true rfl) rfl (Nat.le_of_ble_eq_true rfl) ⟨Nat.zero_le _, Nat.zero_le _⟩ (c_Rep_ancestorsOf _ hD (by omega) hx hw (by omega)) ?_
  refine g_aload_n (pc := 5) (i := 0) C d_Rep_greatestCommonAncestor_5 rfl rfl ?_
  refine g_iload_n (pc := 6) (i := 2) C d_Rep_greatestCommonAncestor_6 rfl rfl ?_
  refine g_callV1 (pc := 7) (As := [_]) C my_Rep_ancestorsOf mv_Rep_ancestorsOf cl_Rep_208 (is_Rep (by omega)) d_Rep_greatestCommonAncestor_7 (Nat.le_of_ble_eq_true rfl) rfl (Nat.le_of_ble_eq_true rfl) ⟨Nat.zero_le _, Nat.zero_le _⟩ (c_Rep_ancestorsOf _ hD (by omega) hx hw (by omega)) ?_
  refine g_iand (pc := 10) C d_Rep_greatestCommonAncestor_10 ?_
  refine g_istore_n (pc := 11) (i := 3) C d_Rep_greatestCommonAncestor_11 rfl (by decide) rfl ?_
  refine g_iload_n (pc := 12) (i := 1) C d_Rep_greatestCommonAncestor_12 rfl rfl ?_
  refine g_iload_n (pc := 13) (i := 2) C d_Rep_greatestCommonAncestor_13 rfl rfl ?_
  refine g_mmin (pc := 14) C jl_Rep_211 d_Rep_greatestCommonAncestor_14 (by decide) (Nat.le_of_ble_eq_true rfl) ⟨Nat.zero_le _, Nat.zero_le _⟩ ?_
  rw [nI_min (by omega) (by omega)]
  refine g_istore (pc := 17) C d_Rep_greatestCommonAncestor_17 (by decide) rfl ?_
  exact G.lf (loop (min a b + 1) (by omega) rfl) (sb rfl (sb rfl sn))
set_option maxRecDepth 100000 in
set_option maxHeartbeats 4000000 in
theorem c_Rep_countHeads (l : Launch) {D : Dt} (hD : OkD D) {r : Nat} {c : Cs} {τ : Cs × (Nat → Int64)} {rs : List Rc} (hr : r < 2) (hx : RcX c r rs) (hw : ∀ (n : Nat) (x : Rc), rs[n]? = some x → (∀ b, x.pa = some b → b < n) ∧ ∀ b, x.pb = some b → b < n) (hct : c.1 (20 + r) 0 = nI rs.length) : Ct l D y_Rep_countHeads b_Rep_countHeads 3 (some .int) 2 [.ref (aRep D r)] ((c, τ) : Sg) (some (.int (nI rs.length - bitc (pall rs rs.length)))) ((c, τ) : Sg) := by
  have h24 := hx.1
  refine Ct.of hD (by decide) (Nat.le_of_ble_eq_true rfl) [(0, some (.ref (aRep D r)))] rfl (fun X hX C => ?_)
  subst hX
  have loop : ∀ (m n : Nat), n + m = rs.length → G X D (Qp X D (fun r2 u => r2 = some (.int (nI rs.length - bitc (pall rs rs.length))) ∧ u = ((c, τ) : Sg))) (0, 0) ((c, τ) : Sg) 4 [(0, some (.ref (aRep D r))), (1, some (.int (pall rs n))), (2, some (.int (nI n)))] [] := by
    intro m
    induction m with
    | zero =>
      intro n hn
      have hn2 : n = rs.length := by omega
      subst hn2
      refine g_iload_n (pc := 4) (i := 2) C d_Rep_countHeads_4 rfl rfl ?_
      refine g_aload_n (pc := 5) (i := 0) C d_Rep_countHeads_5 rfl rfl ?_
      refine gf_Rep_recordCount (pc := 6) C (by omega) fl_Rep_27 d_Rep_countHeads_6 ?_
      rw [hct]
      refine g_icmp_ge (pc := 9) (tgt := 26) C d_Rep_countHeads_9 (by decide) (fun h9 => ?_) (fun h9 => ?_)
      · skip
        refine g_aload_n (pc := 26) (i := 0) C d_Rep_countHeads_26 rfl rfl ?_
        refine gf_Rep_recordCount (pc := 27) C (by omega) fl_Rep_27 d_Rep_countHeads_27 ?_
        rw [hct]
        refine g_iload_n (pc := 30) (i := 1) C d_Rep_countHeads_30 rfl rfl ?_
        refine g_callS1 (pc := 31) (As := [_]) C my_JI_bitCount ms_JI_bitCount cl_Rep_203 d_Rep_countHeads_31 (Nat.le_of_ble_eq_true rfl) rfl (Nat.le_of_ble_eq_true rfl) ⟨Nat.zero_le _, Nat.zero_le _⟩ (c_JI_bitCount _ hD) ?_
        refine g_isub (pc := 34) C d_Rep_countHeads_34 ?_
        refine g_iret (pc := 35) C d_Rep_countHeads_35 ?_
        exact ⟨rfl, rfl⟩
      · first | exact absurd h9 (nI_le (Nat.le_refl _) (by omega)) | exact absurd (nI_le (Nat.le_refl _) (by omega)) h9
    | succ m ih =>
      intro n hn
      refine g_iload_n (pc := 4) (i := 2) C d_Rep_countHeads_4 rfl rfl ?_
      refine g_aload_n (pc := 5) (i := 0) C d_Rep_countHeads_5 rfl rfl ?_
      refine gf_Rep_recordCount (pc := 6) C (by omega) fl_Rep_27 d_Rep_countHeads_6 ?_
      rw [hct]
      refine g_icmp_ge (pc := 9) (tgt := 26) C d_Rep_countHeads_9 (by decide) (fun h9 => ?_) (fun h9 => ?_)
      · first | exact absurd h9 (nI_ge (show n < rs.length by omega) (by omega)) | exact absurd (nI_ge (show n < rs.length by omega) (by omega)) h9
      · skip
        refine g_iload_n (pc := 12) (i := 1) C d_Rep_countHeads_12 rfl rfl ?_
        refine g_aload_n (pc := 13) (i := 0) C d_Rep_countHeads_13 rfl rfl ?_
        refine g_iload_n (pc := 14) (i := 2) C d_Rep_countHeads_14 rfl rfl ?_
        refine g_callV1 (pc := 15) (As := [_]) C my_Rep_parentsOf mv_Rep_parentsOf cl_Rep_200 (is_Rep (by omega)) d_Rep_countHeads_15 (Nat.le_of_ble_eq_true rfl) rfl (Nat.le_of_ble_eq_true rfl) ⟨Nat.zero_le _, Nat.zero_le _⟩ (c_Rep_parentsOf _ hD (by omega) hx hw (by omega)) ?_
        refine g_ior (pc := 18) C d_Rep_countHeads_18 ?_
        refine g_istore_n (pc := 19) (i := 1) C d_Rep_countHeads_19 rfl (by decide) rfl ?_
        refine g_iinc (pc := 20) C d_Rep_countHeads_20 rfl (v := nI (n + 1)) (nI_inc n) rfl ?_
        refine g_goto (pc := 23) (tgt := 4) C d_Rep_countHeads_23 (by decide) ?_
        exact G.lf (ih (n + 1) (by omega)) (sb rfl (sb rfl (sb rfl sn)))
  refine g_iconst (pc := 0) C d_Rep_countHeads_0 ic_0 ?_
  refine g_istore_n (pc := 1) (i := 1) C d_Rep_countHeads_1 rfl (by decide) rfl ?_
  refine g_iconst (pc := 2) C d_Rep_countHeads_2 ic_0 ?_
  refine g_istore_n (pc := 3) (i := 2) C d_Rep_countHeads_3 rfl (by decide) rfl ?_
  exact G.lf (loop rs.length 0 (by omega)) (sb rfl (sb rfl (sb rfl sn)))
