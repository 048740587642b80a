theorem ol_V_3 : Cond.methodLink R_V 3 Lib.objectInit ∈ UNI := un 31 (by decide +kernel) (by decide +kernel)
theorem kl_V_9 : Cond.classLink R_V 9 R_Row ∈ UNI := un 34 (by decide +kernel) (by decide +kernel)
theorem ki_Row : Cond.instantiable R_Row 2 ∈ UNI := un 35 (by decide +kernel) (by decide +kernel)
theorem kt_Row : Cond.initialized R_Row ∈ UNI := un 2 (by decide +kernel) (by decide +kernel)
theorem oi_Row_init : Cond.instanceMethod y_Row_init ∈ UNI := un 37 (by decide +kernel) (by decide +kernel)
theorem wf_V_14 : Cond.fieldLink R_V 14 R_V "buffer" "LRevisionVault$Row;" ∈ UNI := un 141 (by decide +kernel) (by decide +kernel)
theorem kl_V_18 : Cond.classLink R_V 18 R_Rep ∈ UNI := un 51 (by decide +kernel) (by decide +kernel)
theorem wf_V_20 : Cond.fieldLink R_V 20 R_V "repositories" "[LRevisionVault$Repository;" ∈ UNI := un 142 (by decide +kernel) (by decide +kernel)
theorem ki_Rep : Cond.instantiable R_Rep 12 ∈ UNI := un 53 (by decide +kernel) (by decide +kernel)
theorem kt_Rep : Cond.initialized R_Rep ∈ UNI := un 3 (by decide +kernel) (by decide +kernel)
theorem oi_Rep_init : Cond.instanceMethod y_Rep_init ∈ UNI := un 55 (by decide +kernel) (by decide +kernel)
theorem ol_Row_1 : Cond.methodLink R_Row 1 Lib.objectInit ∈ UNI := un 39 (by decide +kernel) (by decide +kernel)
theorem wf_Row_7 : Cond.fieldLink R_Row 7 R_Row "codes" "[I" ∈ UNI := un 40 (by decide +kernel) (by decide +kernel)
theorem wf_Row_13 : Cond.fieldLink R_Row 13 R_Row "length" "I" ∈ UNI := un 41 (by decide +kernel) (by decide +kernel)
theorem ol_Rep_3 : Cond.methodLink R_Rep 3 Lib.objectInit ∈ UNI := un 57 (by decide +kernel) (by decide +kernel)
theorem kl_Rep_9 : Cond.classLink R_Rep 9 R_Row ∈ UNI := un 58 (by decide +kernel) (by decide +kernel)
theorem wf_Rep_14 : Cond.fieldLink R_Rep 14 R_Rep "data" "LRevisionVault$Row;" ∈ UNI := un 97 (by decide +kernel) (by decide +kernel)
theorem kl_Rep_20 : Cond.classLink R_Rep 20 R_Rec ∈ UNI := un 60 (by decide +kernel) (by decide +kernel)
theorem wf_Rep_22 : Cond.fieldLink R_Rep 22 R_Rep "records" "[LRevisionVault$IndexRecord;" ∈ UNI := un 99 (by decide +kernel) (by decide +kernel)
theorem ki_Rec : Cond.instantiable R_Rec 7 ∈ UNI := un 62 (by decide +kernel) (by decide +kernel)
theorem kt_Rec : Cond.initialized R_Rec ∈ UNI := un 4 (by decide +kernel) (by decide +kernel)
theorem oi_Rec_init : Cond.instanceMethod y_Rec_init ∈ UNI := un 64 (by decide +kernel) (by decide +kernel)
theorem wf_Rep_27 : Cond.fieldLink R_Rep 27 R_Rep "recordCount" "I" ∈ UNI := un 101 (by decide +kernel) (by decide +kernel)
theorem wf_Rep_31 : Cond.fieldLink R_Rep 31 R_Rep "journal" "Z" ∈ UNI := un 103 (by decide +kernel) (by decide +kernel)
theorem wf_Rep_35 : Cond.fieldLink R_Rep 35 R_Rep "down" "Z" ∈ UNI := un 107 (by decide +kernel) (by decide +kernel)
theorem wf_Rep_38 : Cond.fieldLink R_Rep 38 R_Rep "writesToFailure" "I" ∈ UNI := un 109 (by decide +kernel) (by decide +kernel)
theorem wf_Rep_41 : Cond.fieldLink R_Rep 41 R_Rep "built" "LRevisionVault$Row;" ∈ UNI := un 111 (by decide +kernel) (by decide +kernel)
theorem wf_Rep_44 : Cond.fieldLink R_Rep 44 R_Rep "chain" "[I" ∈ UNI := un 113 (by decide +kernel) (by decide +kernel)
theorem wf_Rep_48 : Cond.fieldLink R_Rep 48 R_Rep "chunk" "LRevisionVault$Row;" ∈ UNI := un 114 (by decide +kernel) (by decide +kernel)
theorem wf_Rep_51 : Cond.fieldLink R_Rep 51 R_Rep "trial" "LRevisionVault$Row;" ∈ UNI := un 115 (by decide +kernel) (by decide +kernel)
theorem ol_Rec_3 : Cond.methodLink R_Rec 3 Lib.objectInit ∈ UNI := un 66 (by decide +kernel) (by decide +kernel)
theorem ol_M_1 : Cond.methodLink R_M 1 Lib.objectInit ∈ UNI := un 861 (by decide +kernel) (by decide +kernel)
theorem wf_M_7 : Cond.fieldLink R_M 7 R_M "buf" "[I" ∈ UNI := un 864 (by decide +kernel) (by decide +kernel)
theorem wf_M_13 : Cond.fieldLink R_M 13 R_M "bytes" "[I" ∈ UNI := un 865 (by decide +kernel) (by decide +kernel)
theorem wf_M_16 : Cond.fieldLink R_M 16 R_M "dataLen" "[I" ∈ UNI := un 866 (by decide +kernel) (by decide +kernel)
theorem wf_M_19 : Cond.fieldLink R_M 19 R_M "count" "[I" ∈ UNI := un 867 (by decide +kernel) (by decide +kernel)
theorem wf_M_22 : Cond.fieldLink R_M 22 R_M "offset" "[I" ∈ UNI := un 868 (by decide +kernel) (by decide +kernel)
theorem wf_M_25 : Cond.fieldLink R_M 25 R_M "chunk" "[I" ∈ UNI := un 869 (by decide +kernel) (by decide +kernel)
theorem wf_M_28 : Cond.fieldLink R_M 28 R_M "length" "[I" ∈ UNI := un 870 (by decide +kernel) (by decide +kernel)
theorem wf_M_31 : Cond.fieldLink R_M 31 R_M "base" "[I" ∈ UNI := un 871 (by decide +kernel) (by decide +kernel)
theorem wf_M_34 : Cond.fieldLink R_M 34 R_M "first" "[I" ∈ UNI := un 872 (by decide +kernel) (by decide +kernel)
theorem wf_M_37 : Cond.fieldLink R_M 37 R_M "second" "[I" ∈ UNI := un 873 (by decide +kernel) (by decide +kernel)
theorem wf_M_40 : Cond.fieldLink R_M 40 R_M "nodes" "[J" ∈ UNI := un 874 (by decide +kernel) (by decide +kernel)
theorem wf_M_44 : Cond.fieldLink R_M 44 R_M "journalData" "[I" ∈ UNI := un 875 (by decide +kernel) (by decide +kernel)
theorem wf_M_47 : Cond.fieldLink R_M 47 R_M "journalCount" "[I" ∈ UNI := un 876 (by decide +kernel) (by decide +kernel)
theorem wf_M_50 : Cond.fieldLink R_M 50 R_M "down" "[Z" ∈ UNI := un 877 (by decide +kernel) (by decide +kernel)
theorem wf_M_54 : Cond.fieldLink R_M 54 R_M "failing" "[I" ∈ UNI := un 878 (by decide +kernel) (by decide +kernel)
theorem wf_M_57 : Cond.fieldLink R_M 57 R_M "built" "[I" ∈ UNI := un 880 (by decide +kernel) (by decide +kernel)
theorem wf_M_60 : Cond.fieldLink R_M 60 R_M "next" "[I" ∈ UNI := un 881 (by decide +kernel) (by decide +kernel)
theorem wf_M_63 : Cond.fieldLink R_M 63 R_M "chain" "[I" ∈ UNI := un 882 (by decide +kernel) (by decide +kernel)
theorem wf_M_66 : Cond.fieldLink R_M 66 R_M "text" "[I" ∈ UNI := un 884 (by decide +kernel) (by decide +kernel)
theorem arI : Cond.arrayClass .int ∈ UNI := un 50 (by decide +kernel) (by decide +kernel)
theorem arJ : Cond.arrayClass .long ∈ UNI := un 932 (by decide +kernel) (by decide +kernel)
theorem arZ : Cond.arrayClass .boolean ∈ UNI := un 933 (by decide +kernel) (by decide +kernel)
theorem df_arI (n : Nat) : ∀ cA : ClassId, vp_cell cA (n, .inl (fun _ => 0)) = arrV cA n (fun _ => defaultValue .int) := fun cA => by rw [vp_cell_i]; rfl
theorem df_arZ (n : Nat) : ∀ cA : ClassId, vp_cell cA (n, .inl (fun _ => 0)) = arrV cA n (fun _ => defaultValue .boolean) := fun cA => by rw [vp_cell_i]; rfl
theorem df_arJ (n : Nat) : ∀ cA : ClassId, vp_cell cA (n, .inr (.inl (fun _ => 0))) = arrV cA n (fun _ => defaultValue .long) := fun cA => by rw [vp_cell_l]; rfl
theorem df_V : ∀ j, j < 2 → defaultValue (t_V j) = vp_V [.null, .null] j := by decide +kernel
theorem df_Row : ∀ j, j < 2 → defaultValue (t_Row j) = vp_V [.null, .int 0] j := by decide +kernel
theorem df_Rep : ∀ j, j < 12 → defaultValue (t_Rep j) = vp_V [.null, .null, .int 0, .int 0, .int 0, .int 0, .int 0, .int 0, .null, .null, .null, .null] j := by decide +kernel
theorem df_Rec : ∀ j, j < 7 → defaultValue (t_Rec j) = vp_V [.int 0, .int 0, .int 0, .int 0, .int 0, .int 0, .long 0] j := by decide +kernel
theorem df_M : ∀ j, j < 23 → defaultValue (t_M j) = vp_V [.int 0, .int 0, .null, .null, .null, .null, .null, .null, .null, .null, .null, .null, .null, .null, .null, .null, .null, .int 0, .null, .null, .null, .int 0, .null] j := by decide +kernel
def eRow (D : Dt) (a n : Nat) : Nat → va_E := fun i => if i = 0 then .inr (1, [.ref (a + 1), .int 0]) else .inl (D.2.2.1 0, n, .inl (fun _ => 0))
set_option maxRecDepth 100000 in
set_option maxHeartbeats 4000000 in
theorem n_Row_init (l : Launch) {D : Dt} (hD : OkD D) {a n : Nat} (hN : n < 2 ^ 20) : Cn l D y_Row_init b_Row_init 2 1 1 n [.int (nI n)] (.inr (1, [.null, .int 0])) (a, 2, eRow D a n) := by
  refine Cn.of hD (by decide) (Nat.le_of_ble_eq_true rfl) rfl [(0, some (.ref a)), (1, some (.int (nI n)))] rfl (fun X hX C hI hR => ?_)
  subst hX
  refine k_aload_n (pc := 0) (i := 0) C d_Row_init_0 rfl rfl ?_
  refine k_obj (pc := 1) C ol_Row_1 d_Row_init_1 (by decide) (Nat.le_of_ble_eq_true rfl) ?_
  refine k_aload_n (pc := 4) (i := 0) C d_Row_init_4 rfl rfl ?_
  refine k_iload_n (pc := 5) (i := 1) C d_Row_init_5 rfl rfl ?_
  refine k_newa (pc := 6) (n := 1) (kx := 0) (N := n) (ty := .int) (a0 := (n, .inl (fun _ => 0))) C rfl (fun _ _ h => h) rfl arI (df_arI n) (by omega) (by show n * 4 ≤ 536870912; omega) (⟨by rw [hR.1]; decide, by rw [hR.2]; show 0 + n ≤ n; omega⟩) d_Row_init_6 ?_
  refine k_put (pc := 8) (i := 0) (ci := 1) (k := 0) (T := F_Row) (N := 2) (ty := .array .int) C hI t_Row t_Row_ok n_Row (by decide) rfl rfl in_Row (by decide) rfl rfl (by decide +kernel) rfl rfl (Nat.le_of_ble_eq_true rfl) wf_Row_7 d_Row_init_8 ?_
  refine k_aload_n (pc := 11) (i := 0) C d_Row_init_11 rfl rfl ?_
  refine k_iconst (pc := 12) C d_Row_init_12 ic_0 ?_
  refine k_put (pc := 13) (i := 0) (ci := 1) (k := 1) (T := F_Row) (N := 2) (ty := .int) C hI t_Row t_Row_ok n_Row (by decide) rfl rfl in_Row (by decide) rfl rfl (by decide +kernel) rfl rfl (Nat.le_of_ble_eq_true rfl) wf_Row_13 d_Row_init_13 ?_
  refine K.wid (z' := (1, n)) (show 0 + 1 ≤ 1 by decide) (by show 0 + n ≤ n; omega) (K.ee (E' := eRow D a n) (fun i hi => ?_) (k_vret C d_Row_init_16))
  rcases (show i = 0 ∨ i = 1 by omega) with rfl | rfl <;> rfl
set_option maxRecDepth 100000 in
set_option maxHeartbeats 4000000 in
theorem n_Rec_init (l : Launch) {D : Dt} (hD : OkD D) {a : Nat} : Cn l D y_Rec_init b_Rec_init 1 1 0 0 [] (.inr (3, [.int 0, .int 0, .int 0, .int 0, .int 0, .int 0, .long 0])) (a, 1, fun _ => .inr (3, [.int 0, .int 0, .int 0, .int 0, .int 0, .int 0, .long 0])) := by
  refine Cn.of hD (by decide) (Nat.le_of_ble_eq_true rfl) rfl [(0, some (.ref a))] rfl (fun X hX C hI hR => ?_)
  subst hX
  refine k_aload_n (pc := 0) (i := 0) C d_Rec_init_0 rfl rfl ?_
  refine k_obj (pc := 1) C ol_Rec_3 d_Rec_init_1 (by decide) (Nat.le_of_ble_eq_true rfl) ?_
  exact k_vret C d_Rec_init_4
def eM (D : Dt) (a : Nat) : Nat → va_E := fun i => if i = 0 then .inr (4, [.int 0, .int 0, .ref (a + 1), .ref (a + 2), .ref (a + 3), .ref (a + 4), .ref (a + 5), .ref (a + 6), .ref (a + 7), .ref (a + 8), .ref (a + 9), .ref (a + 10), .ref (a + 11), .ref (a + 12), .ref (a + 13), .ref (a + 14), .ref (a + 15), .int 0, .ref (a + 16), .ref (a + 17), .ref (a + 18), .int 0, .ref (a + 19)]) else if i = 1 then .inl (D.2.2.1 0, 60, .inl (fun _ => 0)) else if i = 2 then .inl (D.2.2.1 0, 1200, .inl (fun _ => 0)) else if i = 3 then .inl (D.2.2.1 0, 2, .inl (fun _ => 0)) else if i = 4 then .inl (D.2.2.1 0, 2, .inl (fun _ => 0)) else if i = 5 then .inl (D.2.2.1 0, 48, .inl (fun _ => 0)) else if i = 6 then .inl (D.2.2.1 0, 48, .inl (fun _ => 0)) else if i = 7 then .inl (D.2.2.1 0, 48, .inl (fun _ => 0)) else if i = 8 then .inl (D.2.2.1 0, 48, .inl (fun _ => 0)) else if i = 9 then .inl (D.2.2.1 0, 48, .inl (fun _ => 0)) else if i = 10 then .inl (D.2.2.1 0, 48, .inl (fun _ => 0)) else if i = 11 then .inl (D.2.2.1 1, 48, .inr (.inl (fun _ => 0))) else if i = 12 then .inl (D.2.2.1 0, 2, .inl (upd (upd (fun _ => 0) (nI 0).toNatClampNeg (-1)) (nI 1).toNatClampNeg (-1))) else if i = 13 then .inl (D.2.2.1 0, 2, .inl (fun _ => 0)) else if i = 14 then .inl (D.2.2.1 2, 2, .inl (fun _ => 0)) else if i = 15 then .inl (D.2.2.1 0, 2, .inl (fun _ => 0)) else if i = 16 then .inl (D.2.2.1 0, 60, .inl (fun _ => 0)) else if i = 17 then .inl (D.2.2.1 0, 60, .inl (fun _ => 0)) else if i = 18 then .inl (D.2.2.1 0, 24, .inl (fun _ => 0)) else .inl (D.2.2.1 0, 60, .inl (fun _ => 0))
set_option maxRecDepth 100000 in
set_option maxHeartbeats 4000000 in
theorem n_M_init (l : Launch) {D : Dt} (hD : OkD D) {a : Nat} : Cn l D y_M_init b_M_init 1 1 19 1812 [] (.inr (4, [.int 0, .int 0, .null, .null, .null, .null, .null, .null, .null, .null, .null, .null, .null, .null, .null, .null, .null, .int 0, .null, .null, .null, .int 0, .null])) (a, 20, eM D a) := by
  refine Cn.of hD (by decide) (Nat.le_of_ble_eq_true rfl) rfl [(0, some (.ref a))] rfl (fun X hX C hI hR => ?_)
  subst hX
  refine k_aload_n (pc := 0) (i := 0) C d_M_init_0 rfl rfl ?_
  refine k_obj (pc := 1) C ol_M_1 d_M_init_1 (by decide) (Nat.le_of_ble_eq_true rfl) ?_
  refine k_aload_n (pc := 4) (i := 0) C d_M_init_4 rfl rfl ?_
  refine k_bipush (pc := 5) C d_M_init_5 bpn_60 ?_
  refine k_newa (pc := 7) (n := 1) (kx := 0) (N := 60) (ty := .int) (a0 := (60, .inl (fun _ => 0))) C rfl (fun _ _ h => h) rfl arI (df_arI 60) (by decide) (by decide) (⟨by rw [hR.1]; decide, by rw [hR.2]; decide⟩) d_M_init_7 ?_
  refine k_put (pc := 9) (i := 0) (ci := 4) (k := 2) (T := F_M) (N := 23) (ty := .array .int) C hI t_M t_M_ok n_M (by decide) rfl rfl in_M (by decide) rfl rfl (by decide +kernel) rfl rfl (Nat.le_of_ble_eq_true rfl) wf_M_7 d_M_init_9 ?_
  refine K.zz (z' := (1, 60)) rfl ?_
  refine K.ee (E' := fun i => if i = 0 then .inr (4, [.int 0, .int 0, .ref (a + 1), .null, .null, .null, .null, .null, .null, .null, .null, .null, .null, .null, .null, .null, .null, .int 0, .null, .null, .null, .int 0, .null]) else eM D a i) (fun i hi => by rcases (show i = 0 ∨ i = 1 by omega) with rfl | rfl <;> rfl) ?_
  refine k_aload_n (pc := 12) (i := 0) C d_M_init_12 rfl rfl ?_
  refine k_sipush (pc := 13) C d_M_init_13 spn_1200 ?_
  refine k_newa (pc := 16) (n := 2) (kx := 0) (N := 1200) (ty := .int) (a0 := (1200, .inl (fun _ => 0))) C rfl (fun _ _ h => h) rfl arI (df_arI 1200) (by decide) (by decide) (⟨by rw [hR.1]; decide, by rw [hR.2]; decide⟩) d_M_init_16 ?_
  refine k_put (pc := 18) (i := 0) (ci := 4) (k := 3) (T := F_M) (N := 23) (ty := .array .int) C hI t_M t_M_ok n_M (by decide) rfl rfl in_M (by decide) rfl rfl (by decide +kernel) rfl rfl (Nat.le_of_ble_eq_true rfl) wf_M_13 d_M_init_18 ?_
  refine K.zz (z' := (2, 1260)) rfl ?_
  refine K.ee (E' := fun i => if i = 0 then .inr (4, [.int 0, .int 0, .ref (a + 1), .ref (a + 2), .null, .null, .null, .null, .null, .null, .null, .null, .null, .null, .null, .null, .null, .int 0, .null, .null, .null, .int 0, .null]) else eM D a i) (fun i hi => by rcases (show i = 0 ∨ i = 1 ∨ i = 2 by omega) with rfl | rfl | rfl <;> rfl) ?_
  refine k_aload_n (pc := 21) (i := 0) C d_M_init_21 rfl rfl ?_
  refine k_iconst (pc := 22) C d_M_init_22 icn_2 ?_
  refine k_newa (pc := 23) (n := 3) (kx := 0) (N := 2) (ty := .int) (a0 := (2, .inl (fun _ => 0))) C rfl (fun _ _ h => h) rfl arI (df_arI 2) (by decide) (by decide) (⟨by rw [hR.1]; decide, by rw [hR.2]; decide⟩) d_M_init_23 ?_
  refine k_put (pc := 25) (i := 0) (ci := 4) (k := 4) (T := F_M) (N := 23) (ty := .array .int) C hI t_M t_M_ok n_M (by decide) rfl rfl in_M (by decide) rfl rfl (by decide +kernel) rfl rfl (Nat.le_of_ble_eq_true rfl) wf_M_16 d_M_init_25 ?_
  refine K.zz (z' := (3, 1262)) rfl ?_
  refine K.ee (E' := fun i => if i = 0 then .inr (4, [.int 0, .int 0, .ref (a + 1), .ref (a + 2), .ref (a + 3), .null, .null, .null, .null, .null, .null, .null, .null, .null, .null, .null, .null, .int 0, .null, .null, .null, .int 0, .null]) else eM D a i) (fun i hi => by rcases (show i = 0 ∨ i = 1 ∨ i = 2 ∨ i = 3 by omega) with rfl | rfl | rfl | rfl <;> rfl) ?_
  refine k_aload_n (pc := 28) (i := 0) C d_M_init_28 rfl rfl ?_
  refine k_iconst (pc := 29) C d_M_init_29 icn_2 ?_
  refine k_newa (pc := 30) (n := 4) (kx := 0) (N := 2) (ty := .int) (a0 := (2, .inl (fun _ => 0))) C rfl (fun _ _ h => h) rfl arI (df_arI 2) (by decide) (by decide) (⟨by rw [hR.1]; decide, by rw [hR.2]; decide⟩) d_M_init_30 ?_
  refine k_put (pc := 32) (i := 0) (ci := 4) (k := 5) (T := F_M) (N := 23) (ty := .array .int) C hI t_M t_M_ok n_M (by decide) rfl rfl in_M (by decide) rfl rfl (by decide +kernel) rfl rfl (Nat.le_of_ble_eq_true rfl) wf_M_19 d_M_init_32 ?_
  refine K.zz (z' := (4, 1264)) rfl ?_
  refine K.ee (E' := fun i => if i = 0 then .inr (4, [.int 0, .int 0, .ref (a + 1), .ref (a + 2), .ref (a + 3), .ref (a + 4), .null, .null, .null, .null, .null, .null, .null, .null, .null, .null, .null, .int 0, .null, .null, .null, .int 0, .null]) else eM D a i) (fun i hi => by rcases (show i = 0 ∨ i = 1 ∨ i = 2 ∨ i = 3 ∨ i = 4 by omega) with rfl | rfl | rfl | rfl | rfl <;> rfl) ?_
  refine k_aload_n (pc := 35) (i := 0) C d_M_init_35 rfl rfl ?_
  refine k_bipush (pc := 36) C d_M_init_36 bpn_48 ?_
  refine k_newa (pc := 38) (n := 5) (kx := 0) (N := 48) (ty := .int) (a0 := (48, .inl (fun _ => 0))) C rfl (fun _ _ h => h) rfl arI (df_arI 48) (by decide) (by decide) (⟨by rw [hR.1]; decide, by rw [hR.2]; decide⟩) d_M_init_38 ?_
  refine k_put (pc := 40) (i := 0) (ci := 4) (k := 6) (T := F_M) (N := 23) (ty := .array .int) C hI t_M t_M_ok n_M (by decide) rfl rfl in_M (by decide) rfl rfl (by decide +kernel) rfl rfl (Nat.le_of_ble_eq_true rfl) wf_M_22 d_M_init_40 ?_
  refine K.zz (z' := (5, 1312)) rfl ?_
  refine K.ee (E' := fun i => if i = 0 then .inr (4, [.int 0, .int 0, .ref (a + 1), .ref (a + 2), .ref (a + 3), .ref (a + 4), .ref (a + 5), .null, .null, .null, .null, .null, .null, .null, .null, .null, .null, .int 0, .null, .null, .null, .int 0, .null]) else eM D a i) (fun i hi => by rcases (show i = 0 ∨ i = 1 ∨ i = 2 ∨ i = 3 ∨ i = 4 ∨ i = 5 by omega) with rfl | rfl | rfl | rfl | rfl | rfl <;> rfl) ?_
  refine k_aload_n (pc := 43) (i := 0) C d_M_init_43 rfl rfl ?_
  refine k_bipush (pc := 44) C d_M_init_44 bpn_48 ?_
  refine k_newa (pc := 46) (n := 6) (kx := 0) (N := 48) (ty := .int) (a0 := (48, .inl (fun _ => 0))) C rfl (fun _ _ h => h) rfl arI (df_arI 48) (by decide) (by decide) (⟨by rw [hR.1]; decide, by rw [hR.2]; decide⟩) d_M_init_46 ?_
  refine k_put (pc := 48) (i := 0) (ci := 4) (k := 7) (T := F_M) (N := 23) (ty := .array .int) C hI t_M t_M_ok n_M (by decide) rfl rfl in_M (by decide) rfl rfl (by decide +kernel) rfl rfl (Nat.le_of_ble_eq_true rfl) wf_M_25 d_M_init_48 ?_
  refine K.zz (z' := (6, 1360)) rfl ?_
  refine K.ee (E' := fun i => if i = 0 then .inr (4, [.int 0, .int 0, .ref (a + 1), .ref (a + 2), .ref (a + 3), .ref (a + 4), .ref (a + 5), .ref (a + 6), .null, .null, .null, .null, .null, .null, .null, .null, .null, .int 0, .null, .null, .null, .int 0, .null]) else eM D a i) (fun i hi => by rcases (show i = 0 ∨ i = 1 ∨ i = 2 ∨ i = 3 ∨ i = 4 ∨ i = 5 ∨ i = 6 by omega) with rfl | rfl | rfl | rfl | rfl | rfl | rfl <;> rfl) ?_
  refine k_aload_n (pc := 51) (i := 0) C d_M_init_51 rfl rfl ?_
  refine k_bipush (pc := 52) C d_M_init_52 bpn_48 ?_
  refine k_newa (pc := 54) (n := 7) (kx := 0) (N := 48) (ty := .int) (a0 := (48, .inl (fun _ => 0))) C rfl (fun _ _ h => h) rfl arI (df_arI 48) (by decide) (by decide) (⟨by rw [hR.1]; decide, by rw [hR.2]; decide⟩) d_M_init_54 ?_
  refine k_put (pc := 56) (i := 0) (ci := 4) (k := 8) (T := F_M) (N := 23) (ty := .array .int) C hI t_M t_M_ok n_M (by decide) rfl rfl in_M (by decide) rfl rfl (by decide +kernel) rfl rfl (Nat.le_of_ble_eq_true rfl) wf_M_28 d_M_init_56 ?_
  refine K.zz (z' := (7, 1408)) rfl ?_
  refine K.ee (E' := fun i => if i = 0 then .inr (4, [.int 0, .int 0, .ref (a + 1), .ref (a + 2), .ref (a + 3), .ref (a + 4), .ref (a + 5), .ref (a + 6), .ref (a + 7), .null, .null, .null, .null, .null, .null, .null, .null, .int 0, .null, .null, .null, .int 0, .null]) else eM D a i) (fun i hi => by rcases (show i = 0 ∨ i = 1 ∨ i = 2 ∨ i = 3 ∨ i = 4 ∨ i = 5 ∨ i = 6 ∨ i = 7 by omega) with rfl | rfl | rfl | rfl | rfl | rfl | rfl | rfl <;> rfl) ?_
  refine k_aload_n (pc := 59) (i := 0) C d_M_init_59 rfl rfl ?_
  refine k_bipush (pc := 60) C d_M_init_60 bpn_48 ?_
  refine k_newa (pc := 62) (n := 8) (kx := 0) (N := 48) (ty := .int) (a0 := (48, .inl (fun _ => 0))) C rfl (fun _ _ h => h) rfl arI (df_arI 48) (by decide) (by decide) (⟨by rw [hR.1]; decide, by rw [hR.2]; decide⟩) d_M_init_62 ?_
  refine k_put (pc := 64) (i := 0) (ci := 4) (k := 9) (T := F_M) (N := 23) (ty := .array .int) C hI t_M t_M_ok n_M (by decide) rfl rfl in_M (by decide) rfl rfl (by decide +kernel) rfl rfl (Nat.le_of_ble_eq_true rfl) wf_M_31 d_M_init_64 ?_
  refine K.zz (z' := (8, 1456)) rfl ?_
  refine K.ee (E' := fun i => if i = 0 then .inr (4, [.int 0, .int 0, .ref (a + 1), .ref (a + 2), .ref (a + 3), .ref (a + 4), .ref (a + 5), .ref (a + 6), .ref (a + 7), .ref (a + 8), .null, .null, .null, .null, .null, .null, .null, .int 0, .null, .null, .null, .int 0, .null]) else eM D a i) (fun i hi => by rcases (show i = 0 ∨ i = 1 ∨ i = 2 ∨ i = 3 ∨ i = 4 ∨ i = 5 ∨ i = 6 ∨ i = 7 ∨ i = 8 by omega) with rfl | rfl | rfl | rfl | rfl | rfl | rfl | rfl | rfl <;> rfl) ?_
  refine k_aload_n (pc := 67) (i := 0) C d_M_init_67 rfl rfl ?_
  refine k_bipush (pc := 68) C d_M_init_68 bpn_48 ?_
  refine k_newa (pc := 70) (n := 9) (kx := 0) (N := 48) (ty := .int) (a0 := (48, .inl (fun _ => 0))) C rfl (fun _ _ h => h) rfl arI (df_arI 48) (by decide) (by decide) (⟨by rw [hR.1]; decide, by rw [hR.2]; decide⟩) d_M_init_70 ?_
  refine k_put (pc := 72) (i := 0) (ci := 4) (k := 10) (T := F_M) (N := 23) (ty := .array .int) C hI t_M t_M_ok n_M (by decide) rfl rfl in_M (by decide) rfl rfl (by decide +kernel) rfl rfl (Nat.le_of_ble_eq_true rfl) wf_M_34 d_M_init_72 ?_
  refine K.zz (z' := (9, 1504)) rfl ?_
  refine K.ee (E' := fun i => if i = 0 then .inr (4, [.int 0, .int 0, .ref (a + 1), .ref (a + 2), .ref (a + 3), .ref (a + 4), .ref (a + 5), .ref (a + 6), .ref (a + 7), .ref (a + 8), .ref (a + 9), .null, .null, .null, .null, .null, .null, .int 0, .null, .null, .null, .int 0, .null]) else eM D a i) (fun i hi => by rcases (show i = 0 ∨ i = 1 ∨ i = 2 ∨ i = 3 ∨ i = 4 ∨ i = 5 ∨ i = 6 ∨ i = 7 ∨ i = 8 ∨ i = 9 by omega) with rfl | rfl | rfl | rfl | rfl | rfl | rfl | rfl | rfl | rfl <;> rfl) ?_
  refine k_aload_n (pc := 75) (i := 0) C d_M_init_75 rfl rfl ?_
  refine k_bipush (pc := 76) C d_M_init_76 bpn_48 ?_
  refine k_newa (pc := 78) (n := 10) (kx := 0) (N := 48) (ty := .int) (a0 := (48, .inl (fun _ => 0))) C rfl (fun _ _ h => h) rfl arI (df_arI 48) (by decide) (by decide) (⟨by rw [hR.1]; decide, by rw [hR.2]; decide⟩) d_M_init_78 ?_
  refine k_put (pc := 80) (i := 0) (ci := 4) (k := 11) (T := F_M) (N := 23) (ty := .array .int) C hI t_M t_M_ok n_M (by decide) rfl rfl in_M (by decide) rfl rfl (by decide +kernel) rfl rfl (Nat.le_of_ble_eq_true rfl) wf_M_37 d_M_init_80 ?_
  refine K.zz (z' := (10, 1552)) rfl ?_
  refine K.ee (E' := fun i => if i = 0 then .inr (4, [.int 0, .int 0, .ref (a + 1), .ref (a + 2), .ref (a + 3), .ref (a + 4), .ref (a + 5), .ref (a + 6), .ref (a + 7), .ref (a + 8), .ref (a + 9), .ref (a + 10), .null, .null, .null, .null, .null, .int 0, .null, .null, .null, .int 0, .null]) else eM D a i) (fun i hi => by rcases (show i = 0 ∨ i = 1 ∨ i = 2 ∨ i = 3 ∨ i = 4 ∨ i = 5 ∨ i = 6 ∨ i = 7 ∨ i = 8 ∨ i = 9 ∨ i = 10 by omega) with rfl | rfl | rfl | rfl | rfl | rfl | rfl | rfl | rfl | rfl | rfl <;> rfl) ?_
  refine k_aload_n (pc := 83) (i := 0) C d_M_init_83 rfl rfl ?_
  refine k_bipush (pc := 84) C d_M_init_84 bpn_48 ?_
  refine k_newa (pc := 86) (n := 11) (kx := 1) (N := 48) (ty := .long) (a0 := (48, .inr (.inl (fun _ => 0)))) C rfl (fun _ _ h => h) rfl arJ (df_arJ 48) (by decide) (by decide) (⟨by rw [hR.1]; decide, by rw [hR.2]; decide⟩) d_M_init_86 ?_
  refine k_put (pc := 88) (i := 0) (ci := 4) (k := 12) (T := F_M) (N := 23) (ty := .array .long) C hI t_M t_M_ok n_M (by decide) rfl rfl in_M (by decide) rfl rfl (by decide +kernel) rfl rfl (Nat.le_of_ble_eq_true rfl) wf_M_40 d_M_init_88 ?_
  refine K.zz (z' := (11, 1600)) rfl ?_
  refine K.ee (E' := fun i => if i = 0 then .inr (4, [.int 0, .int 0, .ref (a + 1), .ref (a + 2), .ref (a + 3), .ref (a + 4), .ref (a + 5), .ref (a + 6), .ref (a + 7), .ref (a + 8), .ref (a + 9), .ref (a + 10), .ref (a + 11), .null, .null, .null, .null, .int 0, .null, .null, .null, .int 0, .null]) else eM D a i) (fun i hi => by rcases (show i = 0 ∨ i = 1 ∨ i = 2 ∨ i = 3 ∨ i = 4 ∨ i = 5 ∨ i = 6 ∨ i = 7 ∨ i = 8 ∨ i = 9 ∨ i = 10 ∨ i = 11 by omega) with rfl | rfl | rfl | rfl | rfl | rfl | rfl | rfl | rfl | rfl | rfl | rfl <;> rfl) ?_
  refine k_aload_n (pc := 91) (i := 0) C d_M_init_91 rfl rfl ?_
  refine k_iconst (pc := 92) C d_M_init_92 icn_2 ?_
  refine k_newa (pc := 93) (n := 12) (kx := 0) (N := 2) (ty := .int) (a0 := (2, .inl (fun _ => 0))) C rfl (fun _ _ h => h) rfl arI (df_arI 2) (by decide) (by decide) (⟨by rw [hR.1]; decide, by rw [hR.2]; decide⟩) d_M_init_93 ?_
  refine k_dup (pc := 95) C d_M_init_95 rfl ?_
  refine k_iconst (pc := 96) C d_M_init_96 icn_0 ?_
  refine k_iconst (pc := 97) C d_M_init_97 ic_m1 ?_
  refine k_iast (pc := 98) (i := 12) C (by decide) rfl (vp_in_nI (show 0 < 2 by decide) (by decide)) d_M_init_98 ?_
  refine k_dup (pc := 99) C d_M_init_99 rfl ?_
  refine k_iconst (pc := 100) C d_M_init_100 icn_1 ?_
  refine k_iconst (pc := 101) C d_M_init_101 ic_m1 ?_
  refine k_iast (pc := 102) (i := 12) C (by decide) rfl (vp_in_nI (show 1 < 2 by decide) (by decide)) d_M_init_102 ?_
  refine k_put (pc := 103) (i := 0) (ci := 4) (k := 13) (T := F_M) (N := 23) (ty := .array .int) C hI t_M t_M_ok n_M (by decide) rfl rfl in_M (by decide) rfl rfl (by decide +kernel) rfl rfl (Nat.le_of_ble_eq_true rfl) wf_M_44 d_M_init_103 ?_
  refine K.zz (z' := (12, 1602)) rfl ?_
  refine K.ee (E' := fun i => if i = 0 then .inr (4, [.int 0, .int 0, .ref (a + 1), .ref (a + 2), .ref (a + 3), .ref (a + 4), .ref (a + 5), .ref (a + 6), .ref (a + 7), .ref (a + 8), .ref (a + 9), .ref (a + 10), .ref (a + 11), .ref (a + 12), .null, .null, .null, .int 0, .null, .null, .null, .int 0, .null]) else eM D a i) (fun i hi => by rcases (show i = 0 ∨ i = 1 ∨ i = 2 ∨ i = 3 ∨ i = 4 ∨ i = 5 ∨ i = 6 ∨ i = 7 ∨ i = 8 ∨ i = 9 ∨ i = 10 ∨ i = 11 ∨ i = 12 by omega) with rfl | rfl | rfl | rfl | rfl | rfl | rfl | rfl | rfl | rfl | rfl | rfl | rfl <;> rfl) ?_
  refine k_aload_n (pc := 106) (i := 0) C d_M_init_106 rfl rfl ?_
  refine k_iconst (pc := 107) C d_M_init_107 icn_2 ?_
  refine k_newa (pc := 108) (n := 13) (kx := 0) (N := 2) (ty := .int) (a0 := (2, .inl (fun _ => 0))) C rfl (fun _ _ h => h) rfl arI (df_arI 2) (by decide) (by decide) (⟨by rw [hR.1]; decide, by rw [hR.2]; decide⟩) d_M_init_108 ?_
  refine k_put (pc := 110) (i := 0) (ci := 4) (k := 14) (T := F_M) (N := 23) (ty := .array .int) C hI t_M t_M_ok n_M (by decide) rfl rfl in_M (by decide) rfl rfl (by decide +kernel) rfl rfl (Nat.le_of_ble_eq_true rfl) wf_M_47 d_M_init_110 ?_
  refine K.zz (z' := (13, 1604)) rfl ?_
  refine K.ee (E' := fun i => if i = 0 then .inr (4, [.int 0, .int 0, .ref (a + 1), .ref (a + 2), .ref (a + 3), .ref (a + 4), .ref (a + 5), .ref (a + 6), .ref (a + 7), .ref (a + 8), .ref (a + 9), .ref (a + 10), .ref (a + 11), .ref (a + 12), .ref (a + 13), .null, .null, .int 0, .null, .null, .null, .int 0, .null]) else eM D a i) (fun i hi => by rcases (show i = 0 ∨ i = 1 ∨ i = 2 ∨ i = 3 ∨ i = 4 ∨ i = 5 ∨ i = 6 ∨ i = 7 ∨ i = 8 ∨ i = 9 ∨ i = 10 ∨ i = 11 ∨ i = 12 ∨ i = 13 by omega) with rfl | rfl | rfl | rfl | rfl | rfl | rfl | rfl | rfl | rfl | rfl | rfl | rfl | rfl <;> rfl) ?_
  refine k_aload_n (pc := 113) (i := 0) C d_M_init_113 rfl rfl ?_
  refine k_iconst (pc := 114) C d_M_init_114 icn_2 ?_
  refine k_newa (pc := 115) (n := 14) (kx := 2) (N := 2) (ty := .boolean) (a0 := (2, .inl (fun _ => 0))) C rfl (fun _ _ h => h) rfl arZ (df_arZ 2) (by decide) (by decide) (⟨by rw [hR.1]; decide, by rw [hR.2]; decide⟩) d_M_init_115 ?_
  refine k_put (pc := 117) (i := 0) (ci := 4) (k := 15) (T := F_M) (N := 23) (ty := .array .boolean) C hI t_M t_M_ok n_M (by decide) rfl rfl in_M (by decide) rfl rfl (by decide +kernel) rfl rfl (Nat.le_of_ble_eq_true rfl) wf_M_50 d_M_init_117 ?_
  refine K.zz (z' := (14, 1606)) rfl ?_
  refine K.ee (E' := fun i => if i = 0 then .inr (4, [.int 0, .int 0, .ref (a + 1), .ref (a + 2), .ref (a + 3), .ref (a + 4), .ref (a + 5), .ref (a + 6), .ref (a + 7), .ref (a + 8), .ref (a + 9), .ref (a + 10), .ref (a + 11), .ref (a + 12), .ref (a + 13), .ref (a + 14), .null, .int 0, .null, .null, .null, .int 0, .null]) else eM D a i) (fun i hi => by rcases (show i = 0 ∨ i = 1 ∨ i = 2 ∨ i = 3 ∨ i = 4 ∨ i = 5 ∨ i = 6 ∨ i = 7 ∨ i = 8 ∨ i = 9 ∨ i = 10 ∨ i = 11 ∨ i = 12 ∨ i = 13 ∨ i = 14 by omega) with rfl | rfl | rfl | rfl | rfl | rfl | rfl | rfl | rfl | rfl | rfl | rfl | rfl | rfl | rfl <;> rfl) ?_
  refine k_aload_n (pc := 120) (i := 0) C d_M_init_120 rfl rfl ?_
  refine k_iconst (pc := 121) C d_M_init_121 icn_2 ?_
  refine k_newa (pc := 122) (n := 15) (kx := 0) (N := 2) (ty := .int) (a0 := (2, .inl (fun _ => 0))) C rfl (fun _ _ h => h) rfl arI (df_arI 2) (by decide) (by decide) (⟨by rw [hR.1]; decide, by rw [hR.2]; decide⟩) d_M_init_122 ?_
  refine k_put (pc := 124) (i := 0) (ci := 4) (k := 16) (T := F_M) (N := 23) (ty := .array .int) C hI t_M t_M_ok n_M (by decide) rfl rfl in_M (by decide) rfl rfl (by decide +kernel) rfl rfl (Nat.le_of_ble_eq_true rfl) wf_M_54 d_M_init_124 ?_
  refine K.zz (z' := (15, 1608)) rfl ?_
  refine K.ee (E' := fun i => if i = 0 then .inr (4, [.int 0, .int 0, .ref (a + 1), .ref (a + 2), .ref (a + 3), .ref (a + 4), .ref (a + 5), .ref (a + 6), .ref (a + 7), .ref (a + 8), .ref (a + 9), .ref (a + 10), .ref (a + 11), .ref (a + 12), .ref (a + 13), .ref (a + 14), .ref (a + 15), .int 0, .null, .null, .null, .int 0, .null]) else eM D a i) (fun i hi => by rcases (show i = 0 ∨ i = 1 ∨ i = 2 ∨ i = 3 ∨ i = 4 ∨ i = 5 ∨ i = 6 ∨ i = 7 ∨ i = 8 ∨ i = 9 ∨ i = 10 ∨ i = 11 ∨ i = 12 ∨ i = 13 ∨ i = 14 ∨ i = 15 by omega) with rfl | rfl | rfl | rfl | rfl | rfl | rfl | rfl | rfl | rfl | rfl | rfl | rfl | rfl | rfl | rfl <;> rfl) ?_
  refine k_aload_n (pc := 127) (i := 0) C d_M_init_127 rfl rfl ?_
  refine k_bipush (pc := 128) C d_M_init_128 bpn_60 ?_
  refine k_newa (pc := 130) (n := 16) (kx := 0) (N := 60) (ty := .int) (a0 := (60, .inl (fun _ => 0))) C rfl (fun _ _ h => h) rfl arI (df_arI 60) (by decide) (by decide) (⟨by rw [hR.1]; decide, by rw [hR.2]; decide⟩) d_M_init_130 ?_
  refine k_put (pc := 132) (i := 0) (ci := 4) (k := 18) (T := F_M) (N := 23) (ty := .array .int) C hI t_M t_M_ok n_M (by decide) rfl rfl in_M (by decide) rfl rfl (by decide +kernel) rfl rfl (Nat.le_of_ble_eq_true rfl) wf_M_57 d_M_init_132 ?_
  refine K.zz (z' := (16, 1668)) rfl ?_
  refine K.ee (E' := fun i => if i = 0 then .inr (4, [.int 0, .int 0, .ref (a + 1), .ref (a + 2), .ref (a + 3), .ref (a + 4), .ref (a + 5), .ref (a + 6), .ref (a + 7), .ref (a + 8), .ref (a + 9), .ref (a + 10), .ref (a + 11), .ref (a + 12), .ref (a + 13), .ref (a + 14), .ref (a + 15), .int 0, .ref (a + 16), .null, .null, .int 0, .null]) else eM D a i) (fun i hi => by rcases (show i = 0 ∨ i = 1 ∨ i = 2 ∨ i = 3 ∨ i = 4 ∨ i = 5 ∨ i = 6 ∨ i = 7 ∨ i = 8 ∨ i = 9 ∨ i = 10 ∨ i = 11 ∨ i = 12 ∨ i = 13 ∨ i = 14 ∨ i = 15 ∨ i = 16 by omega) with rfl | rfl | rfl | rfl | rfl | rfl | rfl | rfl | rfl | rfl | rfl | rfl | rfl | rfl | rfl | rfl | rfl <;> rfl) ?_
  refine k_aload_n (pc := 135) (i := 0) C d_M_init_135 rfl rfl ?_
  refine k_bipush (pc := 136) C d_M_init_136 bpn_60 ?_
  refine k_newa (pc := 138) (n := 17) (kx := 0) (N := 60) (ty := .int) (a0 := (60, .inl (fun _ => 0))) C rfl (fun _ _ h => h) rfl arI (df_arI 60) (by decide) (by decide) (⟨by rw [hR.1]; decide, by rw [hR.2]; decide⟩) d_M_init_138 ?_
  refine k_put (pc := 140) (i := 0) (ci := 4) (k := 19) (T := F_M) (N := 23) (ty := .array .int) C hI t_M t_M_ok n_M (by decide) rfl rfl in_M (by decide) rfl rfl (by decide +kernel) rfl rfl (Nat.le_of_ble_eq_true rfl) wf_M_60 d_M_init_140 ?_
  refine K.zz (z' := (17, 1728)) rfl ?_
  refine K.ee (E' := fun i => if i = 0 then .inr (4, [.int 0, .int 0, .ref (a + 1), .ref (a + 2), .ref (a + 3), .ref (a + 4), .ref (a + 5), .ref (a + 6), .ref (a + 7), .ref (a + 8), .ref (a + 9), .ref (a + 10), .ref (a + 11), .ref (a + 12), .ref (a + 13), .ref (a + 14), .ref (a + 15), .int 0, .ref (a + 16), .ref (a + 17), .null, .int 0, .null]) else eM D a i) (fun i hi => by rcases (show i = 0 ∨ i = 1 ∨ i = 2 ∨ i = 3 ∨ i = 4 ∨ i = 5 ∨ i = 6 ∨ i = 7 ∨ i = 8 ∨ i = 9 ∨ i = 10 ∨ i = 11 ∨ i = 12 ∨ i = 13 ∨ i = 14 ∨ i = 15 ∨ i = 16 ∨ i = 17 by omega) with rfl | rfl | rfl | rfl | rfl | rfl | rfl | rfl | rfl | rfl | rfl | rfl | rfl | rfl | rfl | rfl | rfl | rfl <;> rfl) ?_
  refine k_aload_n (pc := 143) (i := 0) C d_M_init_143 rfl rfl ?_
  refine k_bipush (pc := 144) C d_M_init_144 bpn_24 ?_
  refine k_newa (pc := 146) (n := 18) (kx := 0) (N := 24) (ty := .int) (a0 := (24, .inl (fun _ => 0))) C rfl (fun _ _ h => h) rfl arI (df_arI 24) (by decide) (by decide) (⟨by rw [hR.1]; decide, by rw [hR.2]; decide⟩) d_M_init_146 ?_
  refine k_put (pc := 148) (i := 0) (ci := 4) (k := 20) (T := F_M) (N := 23) (ty := .array .int) C hI t_M t_M_ok n_M (by decide) rfl rfl in_M (by decide) rfl rfl (by decide +kernel) rfl rfl (Nat.le_of_ble_eq_true rfl) wf_M_63 d_M_init_148 ?_
  refine K.zz (z' := (18, 1752)) rfl ?_
  refine K.ee (E' := fun i => if i = 0 then .inr (4, [.int 0, .int 0, .ref (a + 1), .ref (a + 2), .ref (a + 3), .ref (a + 4), .ref (a + 5), .ref (a + 6), .ref (a + 7), .ref (a + 8), .ref (a + 9), .ref (a + 10), .ref (a + 11), .ref (a + 12), .ref (a + 13), .ref (a + 14), .ref (a + 15), .int 0, .ref (a + 16), .ref (a + 17), .ref (a + 18), .int 0, .null]) else eM D a i) (fun i hi => by rcases (show i = 0 ∨ i = 1 ∨ i = 2 ∨ i = 3 ∨ i = 4 ∨ i = 5 ∨ i = 6 ∨ i = 7 ∨ i = 8 ∨ i = 9 ∨ i = 10 ∨ i = 11 ∨ i = 12 ∨ i = 13 ∨ i = 14 ∨ i = 15 ∨ i = 16 ∨ i = 17 ∨ i = 18 by omega) with rfl | rfl | rfl | rfl | rfl | rfl | rfl | rfl | rfl | rfl | rfl | rfl | rfl | rfl | rfl | rfl | rfl | rfl | rfl <;> rfl) ?_
  refine k_aload_n (pc := 151) (i := 0) C d_M_init_151 rfl rfl ?_
  refine k_bipush (pc := 152) C d_M_init_152 bpn_60 ?_
  refine k_newa (pc := 154) (n := 19) (kx := 0) (N := 60) (ty := .int) (a0 := (60, .inl (fun _ => 0))) C rfl (fun _ _ h => h) rfl arI (df_arI 60) (by decide) (by decide) (⟨by rw [hR.1]; decide, by rw [hR.2]; decide⟩) d_M_init_154 ?_
  refine k_put (pc := 156) (i := 0) (ci := 4) (k := 22) (T := F_M) (N := 23) (ty := .array .int) C hI t_M t_M_ok n_M (by decide) rfl rfl in_M (by decide) rfl rfl (by decide +kernel) rfl rfl (Nat.le_of_ble_eq_true rfl) wf_M_66 d_M_init_156 ?_
  refine K.zz (z' := (19, 1812)) rfl ?_
  refine K.ee (E' := fun i => if i = 0 then .inr (4, [.int 0, .int 0, .ref (a + 1), .ref (a + 2), .ref (a + 3), .ref (a + 4), .ref (a + 5), .ref (a + 6), .ref (a + 7), .ref (a + 8), .ref (a + 9), .ref (a + 10), .ref (a + 11), .ref (a + 12), .ref (a + 13), .ref (a + 14), .ref (a + 15), .int 0, .ref (a + 16), .ref (a + 17), .ref (a + 18), .int 0, .ref (a + 19)]) else eM D a i) (fun i hi => by rcases (show i = 0 ∨ i = 1 ∨ i = 2 ∨ i = 3 ∨ i = 4 ∨ i = 5 ∨ i = 6 ∨ i = 7 ∨ i = 8 ∨ i = 9 ∨ i = 10 ∨ i = 11 ∨ i = 12 ∨ i = 13 ∨ i = 14 ∨ i = 15 ∨ i = 16 ∨ i = 17 ∨ i = 18 ∨ i = 19 by omega) with rfl | rfl | rfl | rfl | rfl | rfl | rfl | rfl | rfl | rfl | rfl | rfl | rfl | rfl | rfl | rfl | rfl | rfl | rfl | rfl <;> rfl) ?_
  refine K.wid (z' := (19, 1812)) (by decide) (by decide) (K.ee (E' := eM D a) (fun i hi => ?_) (k_vret C d_M_init_159))
  rcases (show i = 0 ∨ i = 1 ∨ i = 2 ∨ i = 3 ∨ i = 4 ∨ i = 5 ∨ i = 6 ∨ i = 7 ∨ i = 8 ∨ i = 9 ∨ i = 10 ∨ i = 11 ∨ i = 12 ∨ i = 13 ∨ i = 14 ∨ i = 15 ∨ i = 16 ∨ i = 17 ∨ i = 18 ∨ i = 19 by omega) with rfl | rfl | rfl | rfl | rfl | rfl | rfl | rfl | rfl | rfl | rfl | rfl | rfl | rfl | rfl | rfl | rfl | rfl | rfl | rfl <;> rfl
def eRep0 (D : Dt) (a k : Nat) : Nat → va_E := fun i => if i = 0 then .inr (2, [.ref (a + 1), .ref (a + 3), .int 0, .int 0, .int 0, .int 0, .int 0, .int 0, .null, .null, .null, .null]) else if i = 1 then .inr (1, [.ref (a + 2), .int 0]) else if i = 2 then .inl (D.2.2.1 0, 600, .inl (fun _ => 0)) else if i = 3 then .inl (D.2.2.1 4, 24, .inr (.inr (.inr (.inr (fun j => if j < k then some (a + (4 + j)) else none))))) else .inr (3, [.int 0, .int 0, .int 0, .int 0, .int 0, .int 0, .long 0])
def eRep (D : Dt) (a : Nat) : Nat → va_E := fun i => if i = 0 then .inr (2, [.ref (a + 1), .ref (a + 3), .int 0, .int 0, .int 0, .int 0, .int 0, .int 0, .ref (a + 28), .ref (a + 30), .ref (a + 31), .ref (a + 33)]) else if i = 1 then .inr (1, [.ref (a + 2), .int 0]) else if i = 2 then .inl (D.2.2.1 0, 600, .inl (fun _ => 0)) else if i = 3 then .inl (D.2.2.1 4, 24, .inr (.inr (.inr (.inr (fun j => if j < 24 then some (a + (4 + j)) else none))))) else if i < 28 then .inr (3, [.int 0, .int 0, .int 0, .int 0, .int 0, .int 0, .long 0]) else if i = 28 then .inr (1, [.ref (a + 29), .int 0]) else if i = 29 then .inl (D.2.2.1 0, 60, .inl (fun _ => 0)) else if i = 30 then .inl (D.2.2.1 0, 6, .inl (fun _ => 0)) else if i = 31 then .inr (1, [.ref (a + 32), .int 0]) else if i = 32 then .inl (D.2.2.1 0, 121, .inl (fun _ => 0)) else if i = 33 then .inr (1, [.ref (a + 34), .int 0]) else .inl (D.2.2.1 0, 121, .inl (fun _ => 0))
set_option maxRecDepth 100000 in
set_option maxHeartbeats 4000000 in
theorem n_Rep_init (l : Launch) {D : Dt} (hD : OkD D) (aoRec : va_AO R_Rec D.2.2.2) {a : Nat} (hlo : D.2.2.2.heap.size ≤ a) : Cn l D y_Rep_init b_Rep_init 2 2 34 1108 [] (.inr (2, [.null, .null, .int 0, .int 0, .int 0, .int 0, .int 0, .int 0, .null, .null, .null, .null])) (a, 35, eRep D a) := by
  refine Cn.of hD (by decide) (Nat.le_of_ble_eq_true rfl) rfl [(0, some (.ref a))] rfl (fun X hX C hI hR => ?_)
  subst hX
  have tail : K X D (Qn X D (a, 35, eRep D a) 34 1108) (27, 794) (a, 28, eRep0 D a 24) 54 [(0, some (.ref a))] [] := by
    refine K.zz (z' := (27, 794)) rfl ?_
    refine K.ee (E' := fun i => if i = 0 then .inr (2, [.ref (a + 1), .ref (a + 3), .int 0, .int 0, .int 0, .int 0, .int 0, .int 0, .null, .null, .null, .null]) else eRep D a i) (fun i hi => by rcases (show i = 0 ∨ i = 1 ∨ i = 2 ∨ i = 3 ∨ i = 4 ∨ i = 5 ∨ i = 6 ∨ i = 7 ∨ i = 8 ∨ i = 9 ∨ i = 10 ∨ i = 11 ∨ i = 12 ∨ i = 13 ∨ i = 14 ∨ i = 15 ∨ i = 16 ∨ i = 17 ∨ i = 18 ∨ i = 19 ∨ i = 20 ∨ i = 21 ∨ i = 22 ∨ i = 23 ∨ i = 24 ∨ i = 25 ∨ i = 26 ∨ i = 27 by omega) with rfl | rfl | rfl | rfl | rfl | rfl | rfl | rfl | rfl | rfl | rfl | rfl | rfl | rfl | rfl | rfl | rfl | rfl | rfl | rfl | rfl | rfl | rfl | rfl | rfl | rfl | rfl | rfl <;> rfl) ?_
    refine k_aload_n (pc := 54) (i := 0) C d_Rep_init_54 rfl rfl ?_
    refine k_iconst (pc := 55) C d_Rep_init_55 ic_0 ?_
    refine k_put (pc := 56) (i := 0) (ci := 2) (k := 2) (T := F_Rep) (N := 12) (ty := .int) C hI t_Rep t_Rep_ok n_Rep (by decide) rfl rfl in_Rep (by decide) rfl rfl (by decide +kernel) rfl rfl (Nat.le_of_ble_eq_true rfl) wf_Rep_27 d_Rep_init_56 ?_
    refine K.zz (z' := (27, 794)) rfl ?_
    refine K.ee (E' := fun i => if i = 0 then .inr (2, [.ref (a + 1), .ref (a + 3), .int 0, .int 0, .int 0, .int 0, .int 0, .int 0, .null, .null, .null, .null]) else eRep D a i) (fun i hi => by rcases (show i = 0 ∨ i = 1 ∨ i = 2 ∨ i = 3 ∨ i = 4 ∨ i = 5 ∨ i = 6 ∨ i = 7 ∨ i = 8 ∨ i = 9 ∨ i = 10 ∨ i = 11 ∨ i = 12 ∨ i = 13 ∨ i = 14 ∨ i = 15 ∨ i = 16 ∨ i = 17 ∨ i = 18 ∨ i = 19 ∨ i = 20 ∨ i = 21 ∨ i = 22 ∨ i = 23 ∨ i = 24 ∨ i = 25 ∨ i = 26 ∨ i = 27 by omega) with rfl | rfl | rfl | rfl | rfl | rfl | rfl | rfl | rfl | rfl | rfl | rfl | rfl | rfl | rfl | rfl | rfl | rfl | rfl | rfl | rfl | rfl | rfl | rfl | rfl | rfl | rfl | rfl <;> rfl) ?_
    refine k_aload_n (pc := 59) (i := 0) C d_Rep_init_59 rfl rfl ?_
    refine k_iconst (pc := 60) C d_Rep_init_60 ic_0 ?_
    refine k_put (pc := 61) (i := 0) (ci := 2) (k := 3) (T := F_Rep) (N := 12) (ty := .boolean) C hI t_Rep t_Rep_ok n_Rep (by decide) rfl rfl in_Rep (by decide) rfl rfl (by decide +kernel) rfl rfl (Nat.le_of_ble_eq_true rfl) wf_Rep_31 d_Rep_init_61 ?_
    refine K.zz (z' := (27, 794)) rfl ?_
    refine K.ee (E' := fun i => if i = 0 then .inr (2, [.ref (a + 1), .ref (a + 3), .int 0, .int 0, .int 0, .int 0, .int 0, .int 0, .null, .null, .null, .null]) else eRep D a i) (fun i hi => by rcases (show i = 0 ∨ i = 1 ∨ i = 2 ∨ i = 3 ∨ i = 4 ∨ i = 5 ∨ i = 6 ∨ i = 7 ∨ i = 8 ∨ i = 9 ∨ i = 10 ∨ i = 11 ∨ i = 12 ∨ i = 13 ∨ i = 14 ∨ i = 15 ∨ i = 16 ∨ i = 17 ∨ i = 18 ∨ i = 19 ∨ i = 20 ∨ i = 21 ∨ i = 22 ∨ i = 23 ∨ i = 24 ∨ i = 25 ∨ i = 26 ∨ i = 27 by omega) with rfl | rfl | rfl | rfl | rfl | rfl | rfl | rfl | rfl | rfl | rfl | rfl | rfl | rfl | rfl | rfl | rfl | rfl | rfl | rfl | rfl | rfl | rfl | rfl | rfl | rfl | rfl | rfl <;> rfl) ?_
    refine k_aload_n (pc := 64) (i := 0) C d_Rep_init_64 rfl rfl ?_
    refine k_iconst (pc := 65) C d_Rep_init_65 ic_0 ?_
    refine k_put (pc := 66) (i := 0) (ci := 2) (k := 6) (T := F_Rep) (N := 12) (ty := .boolean) C hI t_Rep t_Rep_ok n_Rep (by decide) rfl rfl in_Rep (by decide) rfl rfl (by decide +kernel) rfl rfl (Nat.le_of_ble_eq_true rfl) wf_Rep_35 d_Rep_init_66 ?_
    refine K.zz (z' := (27, 794)) rfl ?_
    refine K.ee (E' := fun i => if i = 0 then .inr (2, [.ref (a + 1), .ref (a + 3), .int 0, .int 0, .int 0, .int 0, .int 0, .int 0, .null, .null, .null, .null]) else eRep D a i) (fun i hi => by rcases (show i = 0 ∨ i = 1 ∨ i = 2 ∨ i = 3 ∨ i = 4 ∨ i = 5 ∨ i = 6 ∨ i = 7 ∨ i = 8 ∨ i = 9 ∨ i = 10 ∨ i = 11 ∨ i = 12 ∨ i = 13 ∨ i = 14 ∨ i = 15 ∨ i = 16 ∨ i = 17 ∨ i = 18 ∨ i = 19 ∨ i = 20 ∨ i = 21 ∨ i = 22 ∨ i = 23 ∨ i = 24 ∨ i = 25 ∨ i = 26 ∨ i = 27 by omega) with rfl | rfl | rfl | rfl | rfl | rfl | rfl | rfl | rfl | rfl | rfl | rfl | rfl | rfl | rfl | rfl | rfl | rfl | rfl | rfl | rfl | rfl | rfl | rfl | rfl | rfl | rfl | rfl <;> rfl) ?_
    refine k_aload_n (pc := 69) (i := 0) C d_Rep_init_69 rfl rfl ?_
    refine k_iconst (pc := 70) C d_Rep_init_70 ic_0 ?_
    refine k_put (pc := 71) (i := 0) (ci := 2) (k := 7) (T := F_Rep) (N := 12) (ty := .int) C hI t_Rep t_Rep_ok n_Rep (by decide) rfl rfl in_Rep (by decide) rfl rfl (by decide +kernel) rfl rfl (Nat.le_of_ble_eq_true rfl) wf_Rep_38 d_Rep_init_71 ?_
    refine K.zz (z' := (27, 794)) rfl ?_
    refine K.ee (E' := fun i => if i = 0 then .inr (2, [.ref (a + 1), .ref (a + 3), .int 0, .int 0, .int 0, .int 0, .int 0, .int 0, .null, .null, .null, .null]) else eRep D a i) (fun i hi => by rcases (show i = 0 ∨ i = 1 ∨ i = 2 ∨ i = 3 ∨ i = 4 ∨ i = 5 ∨ i = 6 ∨ i = 7 ∨ i = 8 ∨ i = 9 ∨ i = 10 ∨ i = 11 ∨ i = 12 ∨ i = 13 ∨ i = 14 ∨ i = 15 ∨ i = 16 ∨ i = 17 ∨ i = 18 ∨ i = 19 ∨ i = 20 ∨ i = 21 ∨ i = 22 ∨ i = 23 ∨ i = 24 ∨ i = 25 ∨ i = 26 ∨ i = 27 by omega) with rfl | rfl | rfl | rfl | rfl | rfl | rfl | rfl | rfl | rfl | rfl | rfl | rfl | rfl | rfl | rfl | rfl | rfl | rfl | rfl | rfl | rfl | rfl | rfl | rfl | rfl | rfl | rfl <;> rfl) ?_
    refine k_aload_n (pc := 74) (i := 0) C d_Rep_init_74 rfl rfl ?_
    refine k_new (pc := 75) (n := 28) (ci := 1) (N := 2) (T := F_Row) (fs := [.null, .int 0]) C t_Row t_Row_ok rfl in_Row kl_Rep_9 ki_Row kt_Row df_Row (⟨by rw [hR.1]; decide, by rw [hR.2]; decide⟩) d_Rep_init_75 ?_
    refine k_dup (pc := 78) C d_Rep_init_78 rfl ?_
    refine k_bipush (pc := 79) C d_Rep_init_79 bpn_60 ?_
    refine k_call (pc := 81) (As := [_]) (k := 28) C my_Row_init oi_Row_init rfl cl_Rep_11 d_Rep_init_81 (Nat.le_of_ble_eq_true rfl) rfl (Nat.le_of_ble_eq_true rfl) (⟨by rw [hR.1]; decide, by rw [hR.2]; decide⟩) hlo (n_Row_init _ hD (n := 60) (by decide)) ?_
    refine k_put (pc := 84) (i := 0) (ci := 2) (k := 8) (T := F_Rep) (N := 12) (ty := .object "RevisionVault$Row") C hI t_Rep t_Rep_ok n_Rep (by decide) rfl rfl in_Rep (by decide) rfl rfl (by decide +kernel) rfl rfl (Nat.le_of_ble_eq_true rfl) wf_Rep_41 d_Rep_init_84 ?_
    refine K.zz (z' := (29, 856)) rfl ?_
    refine K.ee (E' := fun i => if i = 0 then .inr (2, [.ref (a + 1), .ref (a + 3), .int 0, .int 0, .int 0, .int 0, .int 0, .int 0, .ref (a + 28), .null, .null, .null]) else eRep D a i) (fun i hi => by rcases (show i = 0 ∨ i = 1 ∨ i = 2 ∨ i = 3 ∨ i = 4 ∨ i = 5 ∨ i = 6 ∨ i = 7 ∨ i = 8 ∨ i = 9 ∨ i = 10 ∨ i = 11 ∨ i = 12 ∨ i = 13 ∨ i = 14 ∨ i = 15 ∨ i = 16 ∨ i = 17 ∨ i = 18 ∨ i = 19 ∨ i = 20 ∨ i = 21 ∨ i = 22 ∨ i = 23 ∨ i = 24 ∨ i = 25 ∨ i = 26 ∨ i = 27 ∨ i = 28 ∨ i = 29 by omega) with rfl | rfl | rfl | rfl | rfl | rfl | rfl | rfl | rfl | rfl | rfl | rfl | rfl | rfl | rfl | rfl | rfl | rfl | rfl | rfl | rfl | rfl | rfl | rfl | rfl | rfl | rfl | rfl | rfl | rfl <;> rfl) ?_
    refine k_aload_n (pc := 87) (i := 0) C d_Rep_init_87 rfl rfl ?_
    refine k_bipush (pc := 88) C d_Rep_init_88 bpn_6 ?_
    refine k_newa (pc := 90) (n := 30) (kx := 0) (N := 6) (ty := .int) (a0 := (6, .inl (fun _ => 0))) C rfl (fun _ _ h => h) rfl arI (df_arI 6) (by decide) (by decide) (⟨by rw [hR.1]; decide, by rw [hR.2]; decide⟩) d_Rep_init_90 ?_
    refine k_put (pc := 92) (i := 0) (ci := 2) (k := 9) (T := F_Rep) (N := 12) (ty := .array .int) C hI t_Rep t_Rep_ok n_Rep (by decide) rfl rfl in_Rep (by decide) rfl rfl (by decide +kernel) rfl rfl (Nat.le_of_ble_eq_true rfl) wf_Rep_44 d_Rep_init_92 ?_
    refine K.zz (z' := (30, 862)) rfl ?_
    refine K.ee (E' := fun i => if i = 0 then .inr (2, [.ref (a + 1), .ref (a + 3), .int 0, .int 0, .int 0, .int 0, .int 0, .int 0, .ref (a + 28), .ref (a + 30), .null, .null]) else eRep D a i) (fun i hi => by rcases (show i = 0 ∨ i = 1 ∨ i = 2 ∨ i = 3 ∨ i = 4 ∨ i = 5 ∨ i = 6 ∨ i = 7 ∨ i = 8 ∨ i = 9 ∨ i = 10 ∨ i = 11 ∨ i = 12 ∨ i = 13 ∨ i = 14 ∨ i = 15 ∨ i = 16 ∨ i = 17 ∨ i = 18 ∨ i = 19 ∨ i = 20 ∨ i = 21 ∨ i = 22 ∨ i = 23 ∨ i = 24 ∨ i = 25 ∨ i = 26 ∨ i = 27 ∨ i = 28 ∨ i = 29 ∨ i = 30 by omega) with rfl | rfl | rfl | rfl | rfl | rfl | rfl | rfl | rfl | rfl | rfl | rfl | rfl | rfl | rfl | rfl | rfl | rfl | rfl | rfl | rfl | rfl | rfl | rfl | rfl | rfl | rfl | rfl | rfl | rfl | rfl <;> rfl) ?_
    refine k_aload_n (pc := 95) (i := 0) C d_Rep_init_95 rfl rfl ?_
    refine k_new (pc := 96) (n := 31) (ci := 1) (N := 2) (T := F_Row) (fs := [.null, .int 0]) C t_Row t_Row_ok rfl in_Row kl_Rep_9 ki_Row kt_Row df_Row (⟨by rw [hR.1]; decide, by rw [hR.2]; decide⟩) d_Rep_init_96 ?_
    refine k_dup (pc := 99) C d_Rep_init_99 rfl ?_
    refine k_bipush (pc := 100) C d_Rep_init_100 bpn_121 ?_
    refine k_call (pc := 102) (As := [_]) (k := 31) C my_Row_init oi_Row_init rfl cl_Rep_11 d_Rep_init_102 (Nat.le_of_ble_eq_true rfl) rfl (Nat.le_of_ble_eq_true rfl) (⟨by rw [hR.1]; decide, by rw [hR.2]; decide⟩) hlo (n_Row_init _ hD (n := 121) (by decide)) ?_
    refine k_put (pc := 105) (i := 0) (ci := 2) (k := 10) (T := F_Rep) (N := 12) (ty := .object "RevisionVault$Row") C hI t_Rep t_Rep_ok n_Rep (by decide) rfl rfl in_Rep (by decide) rfl rfl (by decide +kernel) rfl rfl (Nat.le_of_ble_eq_true rfl) wf_Rep_48 d_Rep_init_105 ?_
    refine K.zz (z' := (32, 985)) rfl ?_
    refine K.ee (E' := fun i => if i = 0 then .inr (2, [.ref (a + 1), .ref (a + 3), .int 0, .int 0, .int 0, .int 0, .int 0, .int 0, .ref (a + 28), .ref (a + 30), .ref (a + 31), .null]) else eRep D a i) (fun i hi => by rcases (show i = 0 ∨ i = 1 ∨ i = 2 ∨ i = 3 ∨ i = 4 ∨ i = 5 ∨ i = 6 ∨ i = 7 ∨ i = 8 ∨ i = 9 ∨ i = 10 ∨ i = 11 ∨ i = 12 ∨ i = 13 ∨ i = 14 ∨ i = 15 ∨ i = 16 ∨ i = 17 ∨ i = 18 ∨ i = 19 ∨ i = 20 ∨ i = 21 ∨ i = 22 ∨ i = 23 ∨ i = 24 ∨ i = 25 ∨ i = 26 ∨ i = 27 ∨ i = 28 ∨ i = 29 ∨ i = 30 ∨ i = 31 ∨ i = 32 by omega) with rfl | rfl | rfl | rfl | rfl | rfl | rfl | rfl | rfl | rfl | rfl | rfl | rfl | rfl | rfl | rfl | rfl | rfl | rfl | rfl | rfl | rfl | rfl | rfl | rfl | rfl | rfl | rfl | rfl | rfl | rfl | rfl | rfl <;> rfl) ?_
    refine k_aload_n (pc := 108) (i := 0) C d_Rep_init_108 rfl rfl ?_
    refine k_new (pc := 109) (n := 33) (ci := 1) (N := 2) (T := F_Row) (fs := [.null, .int 0]) C t_Row t_Row_ok rfl in_Row kl_Rep_9 ki_Row kt_Row df_Row (⟨by rw [hR.1]; decide, by rw [hR.2]; decide⟩) d_Rep_init_109 ?_
    refine k_dup (pc := 112) C d_Rep_init_112 rfl ?_
    refine k_bipush (pc := 113) C d_Rep_init_113 bpn_121 ?_
    refine k_call (pc := 115) (As := [_]) (k := 33) C my_Row_init oi_Row_init rfl cl_Rep_11 d_Rep_init_115 (Nat.le_of_ble_eq_true rfl) rfl (Nat.le_of_ble_eq_true rfl) (⟨by rw [hR.1]; decide, by rw [hR.2]; decide⟩) hlo (n_Row_init _ hD (n := 121) (by decide)) ?_
    refine k_put (pc := 118) (i := 0) (ci := 2) (k := 11) (T := F_Rep) (N := 12) (ty := .object "RevisionVault$Row") C hI t_Rep t_Rep_ok n_Rep (by decide) rfl rfl in_Rep (by decide) rfl rfl (by decide +kernel) rfl rfl (Nat.le_of_ble_eq_true rfl) wf_Rep_51 d_Rep_init_118 ?_
    refine K.zz (z' := (34, 1108)) rfl ?_
    refine K.ee (E' := fun i => if i = 0 then .inr (2, [.ref (a + 1), .ref (a + 3), .int 0, .int 0, .int 0, .int 0, .int 0, .int 0, .ref (a + 28), .ref (a + 30), .ref (a + 31), .ref (a + 33)]) else eRep D a i) (fun i hi => by rcases (show i = 0 ∨ i = 1 ∨ i = 2 ∨ i = 3 ∨ i = 4 ∨ i = 5 ∨ i = 6 ∨ i = 7 ∨ i = 8 ∨ i = 9 ∨ i = 10 ∨ i = 11 ∨ i = 12 ∨ i = 13 ∨ i = 14 ∨ i = 15 ∨ i = 16 ∨ i = 17 ∨ i = 18 ∨ i = 19 ∨ i = 20 ∨ i = 21 ∨ i = 22 ∨ i = 23 ∨ i = 24 ∨ i = 25 ∨ i = 26 ∨ i = 27 ∨ i = 28 ∨ i = 29 ∨ i = 30 ∨ i = 31 ∨ i = 32 ∨ i = 33 ∨ i = 34 by omega) with rfl | rfl | rfl | rfl | rfl | rfl | rfl | rfl | rfl | rfl | rfl | rfl | rfl | rfl | rfl | rfl | rfl | rfl | rfl | rfl | rfl | rfl | rfl | rfl | rfl | rfl | rfl | rfl | rfl | rfl | rfl | rfl | rfl | rfl | rfl <;> rfl) ?_
    refine K.ee (E' := eRep D a) (fun i hi => by rcases (show i = 0 ∨ i = 1 ∨ i = 2 ∨ i = 3 ∨ i = 4 ∨ i = 5 ∨ i = 6 ∨ i = 7 ∨ i = 8 ∨ i = 9 ∨ i = 10 ∨ i = 11 ∨ i = 12 ∨ i = 13 ∨ i = 14 ∨ i = 15 ∨ i = 16 ∨ i = 17 ∨ i = 18 ∨ i = 19 ∨ i = 20 ∨ i = 21 ∨ i = 22 ∨ i = 23 ∨ i = 24 ∨ i = 25 ∨ i = 26 ∨ i = 27 ∨ i = 28 ∨ i = 29 ∨ i = 30 ∨ i = 31 ∨ i = 32 ∨ i = 33 ∨ i = 34 by omega) with rfl | rfl | rfl | rfl | rfl | rfl | rfl | rfl | rfl | rfl | rfl | rfl | rfl | rfl | rfl | rfl | rfl | rfl | rfl | rfl | rfl | rfl | rfl | rfl | rfl | rfl | rfl | rfl | rfl | rfl | rfl | rfl | rfl | rfl | rfl <;> rfl) ?_
    exact k_vret (z := (34, 1108)) C d_Rep_init_121
  have loop : ∀ (j k : Nat), k + j = 24 → K X D (Qn X D (a, 35, eRep D a) 34 1108) (3 + k, 626 + 7 * k) (a, 4 + k, eRep0 D a k) 29 [(0, some (.ref a)), (1, some (.int (nI k)))] [] := by
    intro j
    induction j with
    | zero =>
      intro k hk
      have hk : k = 24 := by omega
      subst hk
      refine k_iload_n (pc := 29) (i := 1) C d_Rep_init_29 rfl rfl ?_
      refine k_bipush (pc := 30) C d_Rep_init_30 bpn_24 ?_
      refine k_icmp_ge (pc := 32) (tgt := 54) C d_Rep_init_32 (by decide) (fun h32 => ?_) (fun h32 => ?_)
      rotate_left
      · exact absurd (nI_le (by omega) (by omega)) h32
      exact K.lf tail (sb rfl sn)
    | succ j ih =>
      intro k hk
      refine k_iload_n (pc := 29) (i := 1) C d_Rep_init_29 rfl rfl ?_
      refine k_bipush (pc := 30) C d_Rep_init_30 bpn_24 ?_
      refine k_icmp_ge (pc := 32) (tgt := 54) C d_Rep_init_32 (by decide) (fun h32 => ?_) (fun h32 => ?_)
      · exact absurd h32 (nI_ge (show k < 24 by omega) (by omega))
      skip
      refine k_aload_n (pc := 35) (i := 0) C d_Rep_init_35 rfl rfl ?_
      refine k_get (pc := 36) (i := 0) (ci := 2) (k := 1) (T := F_Rep) (N := 12) C (by omega) rfl rfl in_Rep (by decide) rfl wf_Rep_22 rfl d_Rep_init_36 ?_
      refine k_iload_n (pc := 39) (i := 1) C d_Rep_init_39 rfl rfl ?_
      refine k_new (pc := 40) (n := (4 + k)) (ci := 3) (N := 7) (T := F_Rec) (fs := [.int 0, .int 0, .int 0, .int 0, .int 0, .int 0, .long 0]) C t_Rec t_Rec_ok rfl in_Rec kl_Rep_20 ki_Rec kt_Rec df_Rec (⟨by rw [hR.1]; show 3 + k + 1 ≤ 34; omega, by rw [hR.2]; show 626 + 7 * k + 7 ≤ 1108; omega⟩) d_Rep_init_40 ?_
      refine k_dup (pc := 43) C d_Rep_init_43 rfl ?_
      refine k_call (pc := 44) (As := []) (k := (4 + k)) C my_Rec_init oi_Rec_init rfl cl_Rep_26 d_Rep_init_44 (Nat.le_of_ble_eq_true rfl) rfl (Nat.le_of_ble_eq_true rfl) (⟨by rw [hR.1]; show 3 + k + 1 + 0 ≤ 34; omega, by rw [hR.2]; show 626 + 7 * k + 7 + 0 ≤ 1108; omega⟩) hlo (by rw [upE_s]; exact n_Rec_init _ hD) ?_
      refine k_aast (pc := 47) (i := 3) (i2 := 4 + k) (ci := 3) (kx := 4) (N := 24) (r := (R_Rec, F_Rec, 7)) C (by omega) (by show (if 3 < 4 + k then upE (eRep0 D a k) (4 + k) _ 3 else _) = _; rw [if_pos (by omega), upE_n (by omega)]; rfl) rfl (by omega) (by show (if 4 + k < 4 + k then _ else _) = _; rw [if_neg (by omega)]) rfl (vp_in_nI (show k < 24 by omega) (by decide)) d_Rep_init_47 ?_
      refine k_iinc (pc := 48) C d_Rep_init_48 rfl (v := nI (k + 1)) (nI_inc k) rfl ?_
      refine k_goto (pc := 51) (tgt := 29) C d_Rep_init_51 (by decide) ?_
      refine K.wid (z' := (3 + (k + 1), 626 + 7 * (k + 1))) (by show 3 + k + 1 + 0 ≤ 3 + (k + 1); omega) (by show 626 + 7 * k + 7 + 0 ≤ 626 + 7 * (k + 1); omega) ?_
      refine K.lf (K.ee (E' := eRep0 D a (k + 1)) (fun i hi => ?_) (ih (k + 1) (by omega))) (sb rfl (sb rfl sn))
      by_cases h3 : i = 3
      · subst h3
        show Sum.inl (D.2.2.1 4, 24, Sum.inr (Sum.inr (Sum.inr (Sum.inr (va_up (fun j => if j < k then some (a + (4 + j)) else none) (nI k).toNatClampNeg (some (a + (4 + k)))))))) = Sum.inl (D.2.2.1 4, 24, Sum.inr (Sum.inr (Sum.inr (Sum.inr (fun j => if j < k + 1 then some (a + (4 + j)) else none)))))
        rw [nI_clamp (by omega)]
        refine congrArg (fun f : Nat → Option Nat => (Sum.inl (D.2.2.1 4, 24, Sum.inr (Sum.inr (Sum.inr (Sum.inr f)))) : va_E)) (funext fun q => ?_)
        unfold va_up
        by_cases hq : q = k
        · rw [if_pos hq, hq, if_pos (by omega)]
        · rw [if_neg hq]
          show (if q < k then some (a + (4 + q)) else none) = if q < k + 1 then some (a + (4 + q)) else none
          by_cases h5 : q < k
          · rw [if_pos h5, if_pos (by omega)]
          · rw [if_neg h5, if_neg (by omega)]
      · rw [upE_n h3]
        by_cases h6 : i < 4 + k
        · show (if i < 4 + k then upE (eRep0 D a k) (4 + k) _ i else _) = _
          rw [if_pos h6, upE_n (by omega)]
          unfold eRep0
          by_cases e0 : i = 0
          · rw [if_pos e0, if_pos e0]
          · by_cases e1 : i = 1
            · rw [if_neg e0, if_neg e0, if_pos e1, if_pos e1]
            · by_cases e2 : i = 2
              · rw [if_neg e0, if_neg e0, if_neg e1, if_neg e1, if_pos e2, if_pos e2]
              · rw [if_neg e0, if_neg e0, if_neg e1, if_neg e1, if_neg e2, if_neg e2, if_neg h3, if_neg h3]
        · show (if i < 4 + k then _ else _) = _
          rw [if_neg h6]
          unfold eRep0
          rw [if_neg (by omega), if_neg (by omega), if_neg (by omega), if_neg (by omega)]
  refine k_aload_n (pc := 0) (i := 0) C d_Rep_init_0 rfl rfl ?_
  refine k_obj (pc := 1) C ol_Rep_3 d_Rep_init_1 (by decide) (Nat.le_of_ble_eq_true rfl) ?_
  refine k_aload_n (pc := 4) (i := 0) C d_Rep_init_4 rfl rfl ?_
  refine k_new (pc := 5) (n := 1) (ci := 1) (N := 2) (T := F_Row) (fs := [.null, .int 0]) C t_Row t_Row_ok rfl in_Row kl_Rep_9 ki_Row kt_Row df_Row (⟨by rw [hR.1]; decide, by rw [hR.2]; decide⟩) d_Rep_init_5 ?_
  refine k_dup (pc := 8) C d_Rep_init_8 rfl ?_
  refine k_sipush (pc := 9) C d_Rep_init_9 spn_600 ?_
  refine k_call (pc := 12) (As := [_]) (k := 1) C my_Row_init oi_Row_init rfl cl_Rep_11 d_Rep_init_12 (Nat.le_of_ble_eq_true rfl) rfl (Nat.le_of_ble_eq_true rfl) (⟨by rw [hR.1]; decide, by rw [hR.2]; decide⟩) hlo (n_Row_init _ hD (n := 600) (by decide)) ?_
  refine k_put (pc := 15) (i := 0) (ci := 2) (k := 0) (T := F_Rep) (N := 12) (ty := .object "RevisionVault$Row") C hI t_Rep t_Rep_ok n_Rep (by decide) rfl rfl in_Rep (by decide) rfl rfl (by decide +kernel) rfl rfl (Nat.le_of_ble_eq_true rfl) wf_Rep_14 d_Rep_init_15 ?_
  refine k_aload_n (pc := 18) (i := 0) C d_Rep_init_18 rfl rfl ?_
  refine k_bipush (pc := 19) C d_Rep_init_19 bpn_24 ?_
  refine k_anew (pc := 21) (n := 3) (kx := 4) (N := 24) C rfl kl_Rep_20 aoRec (by decide) (⟨by rw [hR.1]; decide, by rw [hR.2]; decide⟩) d_Rep_init_21 ?_
  refine k_put (pc := 24) (i := 0) (ci := 2) (k := 1) (T := F_Rep) (N := 12) (ty := .array (.object "RevisionVault$IndexRecord")) C hI t_Rep t_Rep_ok n_Rep (by decide) rfl rfl in_Rep (by decide) rfl rfl (by decide +kernel) rfl rfl (Nat.le_of_ble_eq_true rfl) wf_Rep_22 d_Rep_init_24 ?_
  refine k_iconst (pc := 27) C d_Rep_init_27 icn_0 ?_
  refine k_istore_n (pc := 28) (i := 1) C d_Rep_init_28 rfl (by decide) rfl ?_
  refine K.wid (z' := (3 + 0, 626 + 7 * 0)) (by decide) (by decide) (K.lf (K.ee (E' := eRep0 D a 0) (fun i hi => ?_) (loop 24 0 (by omega))) (sb rfl (sb rfl sn)))
  rcases (show i = 0 ∨ i = 1 ∨ i = 2 ∨ i = 3 by omega) with rfl | rfl | rfl | rfl
  · rfl
  · rfl
  · rfl
  · show Sum.inl (D.2.2.1 4, 24, Sum.inr (Sum.inr (Sum.inr (Sum.inr (fun _ => none))))) = Sum.inl (D.2.2.1 4, 24, Sum.inr (Sum.inr (Sum.inr (Sum.inr (fun j => if j < 0 then some (a + (4 + j)) else none)))))
    refine congrArg (fun f : Nat → Option Nat => (Sum.inl (D.2.2.1 4, 24, Sum.inr (Sum.inr (Sum.inr (Sum.inr f)))) : va_E)) (funext fun q => ?_)
    rw [if_neg (by omega)]
def eV (D : Dt) (a : Nat) : Nat → va_E := fun i => if i = 0 then .inr (0, [.ref (a + 1), .ref (a + 3)]) else if i = 1 then .inr (1, [.ref (a + 2), .int 0]) else if i = 2 then .inl (D.2.2.1 0, 60, .inl (fun _ => 0)) else if i = 3 then .inl (D.2.2.1 3, 2, .inr (.inr (.inr (.inr (va_up (va_up (fun _ => none) (nI 0).toNatClampNeg (some (a + 4))) (nI 1).toNatClampNeg (some (a + 39))))))) else if i < 39 then eRep D (a + 4) (i - 4) else eRep D (a + 39) (i - 39)
theorem eV_mid {D : Dt} {a i : Nat} (h : 4 ≤ i) (h2 : i < 39) : eV D a i = eRep D (a + 4) (i - 4) := by
  unfold eV
  rw [if_neg (by omega), if_neg (by omega), if_neg (by omega), if_neg (by omega), if_pos h2]
theorem eV_hi {D : Dt} {a i : Nat} (h : 39 ≤ i) : eV D a i = eRep D (a + 39) (i - 39) := by
  unfold eV
  rw [if_neg (by omega), if_neg (by omega), if_neg (by omega), if_neg (by omega), if_neg (by omega)]
set_option maxRecDepth 100000 in
set_option maxHeartbeats 4000000 in
theorem n_V_init (l : Launch) {D : Dt} (hD : OkD D) (aoRec : va_AO R_Rec D.2.2.2) (aoRep : va_AO R_Rep D.2.2.2) {a : Nat} (hlo : D.2.2.2.heap.size ≤ a) : Cn l D y_V_init b_V_init 2 3 73 2304 [] (.inr (0, [.null, .null])) (a, 74, eV D a) := by
  refine Cn.of hD (by decide) (Nat.le_of_ble_eq_true rfl) rfl [(0, some (.ref a))] rfl (fun X hX C hI hR => ?_)
  subst hX
  refine k_aload_n (pc := 0) (i := 0) C d_V_init_0 rfl rfl ?_
  refine k_obj (pc := 1) C ol_V_3 d_V_init_1 (by decide) (Nat.le_of_ble_eq_true rfl) ?_
  refine k_aload_n (pc := 4) (i := 0) C d_V_init_4 rfl rfl ?_
  refine k_new (pc := 5) (n := 1) (ci := 1) (N := 2) (T := F_Row) (fs := [.null, .int 0]) C t_Row t_Row_ok rfl in_Row kl_V_9 ki_Row kt_Row df_Row (⟨by rw [hR.1]; decide, by rw [hR.2]; decide⟩) d_V_init_5 ?_
  refine k_dup (pc := 8) C d_V_init_8 rfl ?_
  refine k_bipush (pc := 9) C d_V_init_9 bpn_60 ?_
  refine k_call (pc := 11) (As := [_]) (k := 1) C my_Row_init oi_Row_init rfl cl_V_11 d_V_init_11 (Nat.le_of_ble_eq_true rfl) rfl (Nat.le_of_ble_eq_true rfl) (⟨by rw [hR.1]; decide, by rw [hR.2]; decide⟩) hlo (n_Row_init _ hD (n := 60) (by decide)) ?_
  refine k_put (pc := 14) (i := 0) (ci := 0) (k := 0) (T := F_V) (N := 2) (ty := .object "RevisionVault$Row") C hI t_V t_V_ok n_V (by decide) rfl rfl in_V (by decide) rfl rfl (by decide +kernel) rfl rfl (Nat.le_of_ble_eq_true rfl) wf_V_14 d_V_init_14 ?_
  refine K.zz (z' := (2, 62)) rfl ?_
  refine K.ee (E' := fun i => if i = 0 then .inr (0, [.ref (a + 1), .null]) else eV D a i) (fun i hi => by rcases (show i = 0 ∨ i = 1 ∨ i = 2 by omega) with rfl | rfl | rfl <;> rfl) ?_
  refine k_aload_n (pc := 17) (i := 0) C d_V_init_17 rfl rfl ?_
  refine k_iconst (pc := 18) C d_V_init_18 icn_2 ?_
  refine k_anew (pc := 19) (n := 3) (kx := 3) (N := 2) C rfl kl_V_18 aoRep (by decide) (⟨by rw [hR.1]; decide, by rw [hR.2]; decide⟩) d_V_init_19 ?_
  refine k_put (pc := 22) (i := 0) (ci := 0) (k := 1) (T := F_V) (N := 2) (ty := .array (.object "RevisionVault$Repository")) C hI t_V t_V_ok n_V (by decide) rfl rfl in_V (by decide) rfl rfl (by decide +kernel) rfl rfl (Nat.le_of_ble_eq_true rfl) wf_V_20 d_V_init_22 ?_
  refine K.zz (z' := (3, 64)) rfl ?_
  refine K.ee (E' := fun i => if i = 3 then .inl (D.2.2.1 3, 2, .inr (.inr (.inr (.inr (fun _ => none))))) else eV D a i) (fun i hi => by rcases (show i = 0 ∨ i = 1 ∨ i = 2 ∨ i = 3 by omega) with rfl | rfl | rfl | rfl <;> rfl) ?_
  refine k_iconst (pc := 25) C d_V_init_25 icn_0 ?_
  refine k_istore_n (pc := 26) (i := 1) C d_V_init_26 rfl (by decide) rfl ?_
  refine k_iload_n (pc := 27) (i := 1) C d_V_init_27 rfl rfl ?_
  refine k_iconst (pc := 28) C d_V_init_28 icn_2 ?_
  refine k_icmp_ge (pc := 29) (tgt := 51) C d_V_init_29 (by decide) (fun h29 => ?_) (fun h29 => ?_)
  · exact absurd h29 (nI_ge (show 0 < 2 by decide) (by decide))
  skip
  refine k_aload_n (pc := 32) (i := 0) C d_V_init_32 rfl rfl ?_
  refine k_get (pc := 33) (i := 0) (ci := 0) (k := 1) (T := F_V) (N := 2) C (by decide) rfl rfl in_V (by decide) rfl wf_V_20 rfl d_V_init_33 ?_
  refine k_iload_n (pc := 36) (i := 1) C d_V_init_36 rfl rfl ?_
  refine k_new (pc := 37) (n := 4) (ci := 2) (N := 12) (T := F_Rep) (fs := [.null, .null, .int 0, .int 0, .int 0, .int 0, .int 0, .int 0, .null, .null, .null, .null]) C t_Rep t_Rep_ok rfl in_Rep kl_V_18 ki_Rep kt_Rep df_Rep (⟨by rw [hR.1]; decide, by rw [hR.2]; decide⟩) d_V_init_37 ?_
  refine k_dup (pc := 40) C d_V_init_40 rfl ?_
  refine k_call (pc := 41) (As := []) (k := 4) C my_Rep_init oi_Rep_init rfl cl_V_24 d_V_init_41 (Nat.le_of_ble_eq_true rfl) rfl (Nat.le_of_ble_eq_true rfl) (⟨by rw [hR.1]; decide, by rw [hR.2]; decide⟩) hlo (n_Rep_init _ hD aoRec (by omega)) ?_
  refine k_aast (pc := 44) (i := 3) (i2 := 4) (ci := 2) (kx := 3) (N := 2) (r := (R_Rep, F_Rep, 12)) C (by decide) rfl rfl (by decide) rfl rfl (vp_in_nI (show 0 < 2 by decide) (by decide)) d_V_init_44 ?_
  refine K.zz (z' := (38, 1184)) rfl ?_
  refine K.ee (E' := fun i => if i = 3 then .inl (D.2.2.1 3, 2, .inr (.inr (.inr (.inr (va_up (fun _ => none) (nI 0).toNatClampNeg (some (a + 4))))))) else eV D a i) (fun i hi => ?_) ?_
  · by_cases h4 : i < 4
    · rcases (show i = 0 ∨ i = 1 ∨ i = 2 ∨ i = 3 by omega) with rfl | rfl | rfl | rfl <;> rfl
    · rw [upE_n (by omega)]
      show (if i < 4 then _ else eRep D (a + 4) (i - 4)) = if i = 3 then _ else eV D a i
      rw [if_neg h4, if_neg (by omega), eV_mid (by omega) (by omega)]
  refine k_iinc (pc := 45) C d_V_init_45 rfl (v := nI (0 + 1)) (nI_inc 0) rfl ?_
  refine k_goto (pc := 48) (tgt := 27) C d_V_init_48 (by decide) ?_
  refine k_iload_n (pc := 27) (i := 1) C d_V_init_27 rfl rfl ?_
  refine k_iconst (pc := 28) C d_V_init_28 icn_2 ?_
  refine k_icmp_ge (pc := 29) (tgt := 51) C d_V_init_29 (by decide) (fun h29 => ?_) (fun h29 => ?_)
  · exact absurd h29 (nI_ge (show 1 < 2 by decide) (by decide))
  skip
  refine k_aload_n (pc := 32) (i := 0) C d_V_init_32 rfl rfl ?_
  refine k_get (pc := 33) (i := 0) (ci := 0) (k := 1) (T := F_V) (N := 2) C (by decide) rfl rfl in_V (by decide) rfl wf_V_20 rfl d_V_init_33 ?_
  refine k_iload_n (pc := 36) (i := 1) C d_V_init_36 rfl rfl ?_
  refine k_new (pc := 37) (n := 39) (ci := 2) (N := 12) (T := F_Rep) (fs := [.null, .null, .int 0, .int 0, .int 0, .int 0, .int 0, .int 0, .null, .null, .null, .null]) C t_Rep t_Rep_ok rfl in_Rep kl_V_18 ki_Rep kt_Rep df_Rep (⟨by rw [hR.1]; decide, by rw [hR.2]; decide⟩) d_V_init_37 ?_
  refine k_dup (pc := 40) C d_V_init_40 rfl ?_
  refine k_call (pc := 41) (As := []) (k := 39) C my_Rep_init oi_Rep_init rfl cl_V_24 d_V_init_41 (Nat.le_of_ble_eq_true rfl) rfl (Nat.le_of_ble_eq_true rfl) (⟨by rw [hR.1]; decide, by rw [hR.2]; decide⟩) hlo (n_Rep_init _ hD aoRec (by omega)) ?_
  refine k_aast (pc := 44) (i := 3) (i2 := 39) (ci := 2) (kx := 3) (N := 2) (r := (R_Rep, F_Rep, 12)) C (by decide) rfl rfl (by decide) rfl rfl (vp_in_nI (show 1 < 2 by decide) (by decide)) d_V_init_44 ?_
  refine K.zz (z' := (73, 2304)) rfl ?_
  refine K.ee (E' := eV D a) (fun i hi => ?_) ?_
  · by_cases h4 : i < 4
    · rcases (show i = 0 ∨ i = 1 ∨ i = 2 ∨ i = 3 by omega) with rfl | rfl | rfl | rfl <;> rfl
    · rw [upE_n (by omega)]
      show (if i < 39 then upE (fun i => if i = 3 then .inl (D.2.2.1 3, 2, .inr (.inr (.inr (.inr (va_up (fun _ => none) (nI 0).toNatClampNeg (some (a + 4))))))) else eV D a i) 39 _ i else eRep D (a + 39) (i - 39)) = _
      by_cases h39 : i < 39
      · rw [if_pos h39, upE_n (by omega)]
        show (if i = 3 then _ else eV D a i) = _
        rw [if_neg (by omega)]
      · rw [if_neg h39, eV_hi (by omega)]
  refine k_iinc (pc := 45) C d_V_init_45 rfl (v := nI (1 + 1)) (nI_inc 1) rfl ?_
  refine k_goto (pc := 48) (tgt := 27) C d_V_init_48 (by decide) ?_
  refine k_iload_n (pc := 27) (i := 1) C d_V_init_27 rfl rfl ?_
  refine k_iconst (pc := 28) C d_V_init_28 icn_2 ?_
  refine k_icmp_ge (pc := 29) (tgt := 51) C d_V_init_29 (by decide) (fun h29 => ?_) (fun h29 => ?_)
  rotate_left
  · exact absurd (nI_le (show 2 ≤ 2 by decide) (by decide)) h29
  exact k_vret (z := (73, 2304)) C d_V_init_51
