theorem kl_L_8 : Cond.classLink R_L 8 R_V ∈ UNI := un 26 (by decide +kernel) (by decide +kernel)
theorem ki_V : Cond.instantiable R_V 2 ∈ UNI := un 27 (by decide +kernel) (by decide +kernel)
theorem kt_V : Cond.initialized R_V ∈ UNI := un 1 (by decide +kernel) (by decide +kernel)
theorem oi_V_init : Cond.instanceMethod y_V_init ∈ UNI := un 29 (by decide +kernel) (by decide +kernel)
theorem kl_L_42 : Cond.classLink R_L 42 R_M ∈ UNI := un 856 (by decide +kernel) (by decide +kernel)
theorem ki_M : Cond.instantiable R_M 23 ∈ UNI := un 857 (by decide +kernel) (by decide +kernel)
theorem kt_M : Cond.initialized R_M ∈ UNI := un 5 (by decide +kernel) (by decide +kernel)
theorem oi_M_init : Cond.instanceMethod y_M_init ∈ UNI := un 859 (by decide +kernel) (by decide +kernel)
theorem cl_L_41 : CL R_L 41 y_V_init := Or.inl (un 28 (by decide +kernel) (by decide +kernel))
theorem cl_L_44 : CL R_L 44 y_M_init := Or.inl (un 858 (by decide +kernel) (by decide +kernel))
theorem ao_Rep : Cond.arrayOver (.object R_Rep) ∈ lw_tbl := List.mem_append_right _ (List.mem_of_getElem? (i := 52) (by decide +kernel))
theorem ao_Rec : Cond.arrayOver (.object R_Rec) ∈ lw_tbl := List.mem_append_right _ (List.mem_of_getElem? (i := 61) (by decide +kernel))
def pi (t : Nat) : Nat := [0, 1, 5, 32, 35, 37, 40, 67, 70, 72, 2, 6, 33, 36, 38, 41, 68, 71, 73, 3, 4, 39, 7, 42, 34, 69, 8, 9, 10, 11, 12, 13, 14, 15, 16, 17, 18, 19, 20, 21, 22, 23, 24, 25, 26, 27, 28, 29, 30, 31, 43, 44, 45, 46, 47, 48, 49, 50, 51, 52, 53, 54, 55, 56, 57, 58, 59, 60, 61, 62, 63, 64, 65, 66, 74, 75, 76, 77, 78, 79, 80, 81, 82, 83, 84, 86, 87, 89, 90, 91, 92, 93, 85, 88, 94].getD t 0
theorem pi_in : ∀ i, i < 95 → ∀ j, j < 95 → pi i = pi j → i = j := by decide +kernel
theorem pi_lt : ∀ i, i < 95 → pi i < 95 := by decide +kernel
def mkD (dG : va_G) (kd : Nat → ClassId) (s : State) : Dt := (dG, fun t => s.heap.size + pi t, kd, s)
def eL (D : Dt) (h : Nat) : Nat → va_E := fun i => if i < 74 then eV D h i else if i < 94 then eM D (h + 74) (i - 74) else .inl (D.2.2.1 1, 1, .inr (.inl (fun _ => 0)))
def c0 : Cs := (fun _ _ => 0, fun _ => 0)
def m0 : Cs := (fun a => if a = 11 then upd (upd (fun _ => 0) (nI 0).toNatClampNeg (-1)) (nI 1).toNatClampNeg (-1) else fun _ => 0, fun _ => 0)
def σ0 : Sg := (c0, m0, fun _ => 0)
def V0 : Vt := ([], fun _ => ([], [], none, false, 0))
theorem rf_eq {D : Dt} {q n : Nat} {cA : ClassId} {f g : Nat → Option Nat} {H : Heap} (h : va_at D.1 cls (q, .inl (cA, n, .inr (.inr (.inr (.inr f))))) H) (he : ∀ j, j < n → f j = g j) : va_at D.1 cls (q, .inl (cA, n, .inr (.inr (.inr (.inr g))))) H := by
  have e : arrV cA n (fun j => va_rf (f j)) = arrV cA n (fun j => va_rf (g j)) := by
    unfold arrV
    congr 1
    congr 1
    funext j
    show va_rf (f j.val) = va_rf (g j.val)
    rw [he j.val j.isLt]
  have h : H[q]? = some (arrV cA n (fun j => va_rf (f j))) := h
  rw [e] at h
  exact h
theorem pm_0 {dG : va_G} {kd : Nat → ClassId} {s : State} : eL (mkD dG kd s) s.heap.size 0 = ct (mkD dG kd s) σ0 0 := rfl
theorem pm_1 {dG : va_G} {kd : Nat → ClassId} {s : State} : eL (mkD dG kd s) s.heap.size 1 = ct (mkD dG kd s) σ0 1 := rfl
theorem pm_2 {dG : va_G} {kd : Nat → ClassId} {s : State} : eL (mkD dG kd s) s.heap.size 5 = ct (mkD dG kd s) σ0 2 := rfl
theorem pm_3 {dG : va_G} {kd : Nat → ClassId} {s : State} : eL (mkD dG kd s) s.heap.size 32 = ct (mkD dG kd s) σ0 3 := rfl
theorem pm_4 {dG : va_G} {kd : Nat → ClassId} {s : State} : eL (mkD dG kd s) s.heap.size 35 = ct (mkD dG kd s) σ0 4 := rfl
theorem pm_5 {dG : va_G} {kd : Nat → ClassId} {s : State} : eL (mkD dG kd s) s.heap.size 37 = ct (mkD dG kd s) σ0 5 := rfl
theorem pm_6 {dG : va_G} {kd : Nat → ClassId} {s : State} : eL (mkD dG kd s) s.heap.size 40 = ct (mkD dG kd s) σ0 6 := rfl
theorem pm_7 {dG : va_G} {kd : Nat → ClassId} {s : State} : eL (mkD dG kd s) s.heap.size 67 = ct (mkD dG kd s) σ0 7 := rfl
theorem pm_8 {dG : va_G} {kd : Nat → ClassId} {s : State} : eL (mkD dG kd s) s.heap.size 70 = ct (mkD dG kd s) σ0 8 := rfl
theorem pm_9 {dG : va_G} {kd : Nat → ClassId} {s : State} : eL (mkD dG kd s) s.heap.size 72 = ct (mkD dG kd s) σ0 9 := rfl
theorem pm_10 {dG : va_G} {kd : Nat → ClassId} {s : State} : eL (mkD dG kd s) s.heap.size 2 = ct (mkD dG kd s) σ0 10 := rfl
theorem pm_11 {dG : va_G} {kd : Nat → ClassId} {s : State} : eL (mkD dG kd s) s.heap.size 6 = ct (mkD dG kd s) σ0 11 := rfl
theorem pm_12 {dG : va_G} {kd : Nat → ClassId} {s : State} : eL (mkD dG kd s) s.heap.size 33 = ct (mkD dG kd s) σ0 12 := rfl
theorem pm_13 {dG : va_G} {kd : Nat → ClassId} {s : State} : eL (mkD dG kd s) s.heap.size 36 = ct (mkD dG kd s) σ0 13 := rfl
theorem pm_14 {dG : va_G} {kd : Nat → ClassId} {s : State} : eL (mkD dG kd s) s.heap.size 38 = ct (mkD dG kd s) σ0 14 := rfl
theorem pm_15 {dG : va_G} {kd : Nat → ClassId} {s : State} : eL (mkD dG kd s) s.heap.size 41 = ct (mkD dG kd s) σ0 15 := rfl
theorem pm_16 {dG : va_G} {kd : Nat → ClassId} {s : State} : eL (mkD dG kd s) s.heap.size 68 = ct (mkD dG kd s) σ0 16 := rfl
theorem pm_17 {dG : va_G} {kd : Nat → ClassId} {s : State} : eL (mkD dG kd s) s.heap.size 71 = ct (mkD dG kd s) σ0 17 := rfl
theorem pm_18 {dG : va_G} {kd : Nat → ClassId} {s : State} : eL (mkD dG kd s) s.heap.size 73 = ct (mkD dG kd s) σ0 18 := rfl
theorem pm_20 {dG : va_G} {kd : Nat → ClassId} {s : State} : eL (mkD dG kd s) s.heap.size 4 = ct (mkD dG kd s) σ0 20 := rfl
theorem pm_21 {dG : va_G} {kd : Nat → ClassId} {s : State} : eL (mkD dG kd s) s.heap.size 39 = ct (mkD dG kd s) σ0 21 := rfl
theorem pm_24 {dG : va_G} {kd : Nat → ClassId} {s : State} : eL (mkD dG kd s) s.heap.size 34 = ct (mkD dG kd s) σ0 24 := rfl
theorem pm_25 {dG : va_G} {kd : Nat → ClassId} {s : State} : eL (mkD dG kd s) s.heap.size 69 = ct (mkD dG kd s) σ0 25 := rfl
theorem pm_26 {dG : va_G} {kd : Nat → ClassId} {s : State} : eL (mkD dG kd s) s.heap.size 8 = ct (mkD dG kd s) σ0 26 := rfl
theorem pm_27 {dG : va_G} {kd : Nat → ClassId} {s : State} : eL (mkD dG kd s) s.heap.size 9 = ct (mkD dG kd s) σ0 27 := rfl
theorem pm_28 {dG : va_G} {kd : Nat → ClassId} {s : State} : eL (mkD dG kd s) s.heap.size 10 = ct (mkD dG kd s) σ0 28 := rfl
theorem pm_29 {dG : va_G} {kd : Nat → ClassId} {s : State} : eL (mkD dG kd s) s.heap.size 11 = ct (mkD dG kd s) σ0 29 := rfl
theorem pm_30 {dG : va_G} {kd : Nat → ClassId} {s : State} : eL (mkD dG kd s) s.heap.size 12 = ct (mkD dG kd s) σ0 30 := rfl
theorem pm_31 {dG : va_G} {kd : Nat → ClassId} {s : State} : eL (mkD dG kd s) s.heap.size 13 = ct (mkD dG kd s) σ0 31 := rfl
theorem pm_32 {dG : va_G} {kd : Nat → ClassId} {s : State} : eL (mkD dG kd s) s.heap.size 14 = ct (mkD dG kd s) σ0 32 := rfl
theorem pm_33 {dG : va_G} {kd : Nat → ClassId} {s : State} : eL (mkD dG kd s) s.heap.size 15 = ct (mkD dG kd s) σ0 33 := rfl
theorem pm_34 {dG : va_G} {kd : Nat → ClassId} {s : State} : eL (mkD dG kd s) s.heap.size 16 = ct (mkD dG kd s) σ0 34 := rfl
theorem pm_35 {dG : va_G} {kd : Nat → ClassId} {s : State} : eL (mkD dG kd s) s.heap.size 17 = ct (mkD dG kd s) σ0 35 := rfl
theorem pm_36 {dG : va_G} {kd : Nat → ClassId} {s : State} : eL (mkD dG kd s) s.heap.size 18 = ct (mkD dG kd s) σ0 36 := rfl
theorem pm_37 {dG : va_G} {kd : Nat → ClassId} {s : State} : eL (mkD dG kd s) s.heap.size 19 = ct (mkD dG kd s) σ0 37 := rfl
theorem pm_38 {dG : va_G} {kd : Nat → ClassId} {s : State} : eL (mkD dG kd s) s.heap.size 20 = ct (mkD dG kd s) σ0 38 := rfl
theorem pm_39 {dG : va_G} {kd : Nat → ClassId} {s : State} : eL (mkD dG kd s) s.heap.size 21 = ct (mkD dG kd s) σ0 39 := rfl
theorem pm_40 {dG : va_G} {kd : Nat → ClassId} {s : State} : eL (mkD dG kd s) s.heap.size 22 = ct (mkD dG kd s) σ0 40 := rfl
theorem pm_41 {dG : va_G} {kd : Nat → ClassId} {s : State} : eL (mkD dG kd s) s.heap.size 23 = ct (mkD dG kd s) σ0 41 := rfl
theorem pm_42 {dG : va_G} {kd : Nat → ClassId} {s : State} : eL (mkD dG kd s) s.heap.size 24 = ct (mkD dG kd s) σ0 42 := rfl
theorem pm_43 {dG : va_G} {kd : Nat → ClassId} {s : State} : eL (mkD dG kd s) s.heap.size 25 = ct (mkD dG kd s) σ0 43 := rfl
theorem pm_44 {dG : va_G} {kd : Nat → ClassId} {s : State} : eL (mkD dG kd s) s.heap.size 26 = ct (mkD dG kd s) σ0 44 := rfl
theorem pm_45 {dG : va_G} {kd : Nat → ClassId} {s : State} : eL (mkD dG kd s) s.heap.size 27 = ct (mkD dG kd s) σ0 45 := rfl
theorem pm_46 {dG : va_G} {kd : Nat → ClassId} {s : State} : eL (mkD dG kd s) s.heap.size 28 = ct (mkD dG kd s) σ0 46 := rfl
theorem pm_47 {dG : va_G} {kd : Nat → ClassId} {s : State} : eL (mkD dG kd s) s.heap.size 29 = ct (mkD dG kd s) σ0 47 := rfl
theorem pm_48 {dG : va_G} {kd : Nat → ClassId} {s : State} : eL (mkD dG kd s) s.heap.size 30 = ct (mkD dG kd s) σ0 48 := rfl
theorem pm_49 {dG : va_G} {kd : Nat → ClassId} {s : State} : eL (mkD dG kd s) s.heap.size 31 = ct (mkD dG kd s) σ0 49 := rfl
theorem pm_50 {dG : va_G} {kd : Nat → ClassId} {s : State} : eL (mkD dG kd s) s.heap.size 43 = ct (mkD dG kd s) σ0 50 := rfl
theorem pm_51 {dG : va_G} {kd : Nat → ClassId} {s : State} : eL (mkD dG kd s) s.heap.size 44 = ct (mkD dG kd s) σ0 51 := rfl
theorem pm_52 {dG : va_G} {kd : Nat → ClassId} {s : State} : eL (mkD dG kd s) s.heap.size 45 = ct (mkD dG kd s) σ0 52 := rfl
theorem pm_53 {dG : va_G} {kd : Nat → ClassId} {s : State} : eL (mkD dG kd s) s.heap.size 46 = ct (mkD dG kd s) σ0 53 := rfl
theorem pm_54 {dG : va_G} {kd : Nat → ClassId} {s : State} : eL (mkD dG kd s) s.heap.size 47 = ct (mkD dG kd s) σ0 54 := rfl
theorem pm_55 {dG : va_G} {kd : Nat → ClassId} {s : State} : eL (mkD dG kd s) s.heap.size 48 = ct (mkD dG kd s) σ0 55 := rfl
theorem pm_56 {dG : va_G} {kd : Nat → ClassId} {s : State} : eL (mkD dG kd s) s.heap.size 49 = ct (mkD dG kd s) σ0 56 := rfl
theorem pm_57 {dG : va_G} {kd : Nat → ClassId} {s : State} : eL (mkD dG kd s) s.heap.size 50 = ct (mkD dG kd s) σ0 57 := rfl
theorem pm_58 {dG : va_G} {kd : Nat → ClassId} {s : State} : eL (mkD dG kd s) s.heap.size 51 = ct (mkD dG kd s) σ0 58 := rfl
theorem pm_59 {dG : va_G} {kd : Nat → ClassId} {s : State} : eL (mkD dG kd s) s.heap.size 52 = ct (mkD dG kd s) σ0 59 := rfl
theorem pm_60 {dG : va_G} {kd : Nat → ClassId} {s : State} : eL (mkD dG kd s) s.heap.size 53 = ct (mkD dG kd s) σ0 60 := rfl
theorem pm_61 {dG : va_G} {kd : Nat → ClassId} {s : State} : eL (mkD dG kd s) s.heap.size 54 = ct (mkD dG kd s) σ0 61 := rfl
theorem pm_62 {dG : va_G} {kd : Nat → ClassId} {s : State} : eL (mkD dG kd s) s.heap.size 55 = ct (mkD dG kd s) σ0 62 := rfl
theorem pm_63 {dG : va_G} {kd : Nat → ClassId} {s : State} : eL (mkD dG kd s) s.heap.size 56 = ct (mkD dG kd s) σ0 63 := rfl
theorem pm_64 {dG : va_G} {kd : Nat → ClassId} {s : State} : eL (mkD dG kd s) s.heap.size 57 = ct (mkD dG kd s) σ0 64 := rfl
theorem pm_65 {dG : va_G} {kd : Nat → ClassId} {s : State} : eL (mkD dG kd s) s.heap.size 58 = ct (mkD dG kd s) σ0 65 := rfl
theorem pm_66 {dG : va_G} {kd : Nat → ClassId} {s : State} : eL (mkD dG kd s) s.heap.size 59 = ct (mkD dG kd s) σ0 66 := rfl
theorem pm_67 {dG : va_G} {kd : Nat → ClassId} {s : State} : eL (mkD dG kd s) s.heap.size 60 = ct (mkD dG kd s) σ0 67 := rfl
theorem pm_68 {dG : va_G} {kd : Nat → ClassId} {s : State} : eL (mkD dG kd s) s.heap.size 61 = ct (mkD dG kd s) σ0 68 := rfl
theorem pm_69 {dG : va_G} {kd : Nat → ClassId} {s : State} : eL (mkD dG kd s) s.heap.size 62 = ct (mkD dG kd s) σ0 69 := rfl
theorem pm_70 {dG : va_G} {kd : Nat → ClassId} {s : State} : eL (mkD dG kd s) s.heap.size 63 = ct (mkD dG kd s) σ0 70 := rfl
theorem pm_71 {dG : va_G} {kd : Nat → ClassId} {s : State} : eL (mkD dG kd s) s.heap.size 64 = ct (mkD dG kd s) σ0 71 := rfl
theorem pm_72 {dG : va_G} {kd : Nat → ClassId} {s : State} : eL (mkD dG kd s) s.heap.size 65 = ct (mkD dG kd s) σ0 72 := rfl
theorem pm_73 {dG : va_G} {kd : Nat → ClassId} {s : State} : eL (mkD dG kd s) s.heap.size 66 = ct (mkD dG kd s) σ0 73 := rfl
theorem pm_74 {dG : va_G} {kd : Nat → ClassId} {s : State} : eL (mkD dG kd s) s.heap.size 74 = ct (mkD dG kd s) σ0 74 := rfl
theorem pm_75 {dG : va_G} {kd : Nat → ClassId} {s : State} : eL (mkD dG kd s) s.heap.size 75 = ct (mkD dG kd s) σ0 75 := rfl
theorem pm_76 {dG : va_G} {kd : Nat → ClassId} {s : State} : eL (mkD dG kd s) s.heap.size 76 = ct (mkD dG kd s) σ0 76 := rfl
theorem pm_77 {dG : va_G} {kd : Nat → ClassId} {s : State} : eL (mkD dG kd s) s.heap.size 77 = ct (mkD dG kd s) σ0 77 := rfl
theorem pm_78 {dG : va_G} {kd : Nat → ClassId} {s : State} : eL (mkD dG kd s) s.heap.size 78 = ct (mkD dG kd s) σ0 78 := rfl
theorem pm_79 {dG : va_G} {kd : Nat → ClassId} {s : State} : eL (mkD dG kd s) s.heap.size 79 = ct (mkD dG kd s) σ0 79 := rfl
theorem pm_80 {dG : va_G} {kd : Nat → ClassId} {s : State} : eL (mkD dG kd s) s.heap.size 80 = ct (mkD dG kd s) σ0 80 := rfl
theorem pm_81 {dG : va_G} {kd : Nat → ClassId} {s : State} : eL (mkD dG kd s) s.heap.size 81 = ct (mkD dG kd s) σ0 81 := rfl
theorem pm_82 {dG : va_G} {kd : Nat → ClassId} {s : State} : eL (mkD dG kd s) s.heap.size 82 = ct (mkD dG kd s) σ0 82 := rfl
theorem pm_83 {dG : va_G} {kd : Nat → ClassId} {s : State} : eL (mkD dG kd s) s.heap.size 83 = ct (mkD dG kd s) σ0 83 := rfl
theorem pm_84 {dG : va_G} {kd : Nat → ClassId} {s : State} : eL (mkD dG kd s) s.heap.size 84 = ct (mkD dG kd s) σ0 84 := rfl
theorem pm_85 {dG : va_G} {kd : Nat → ClassId} {s : State} : eL (mkD dG kd s) s.heap.size 86 = ct (mkD dG kd s) σ0 85 := rfl
theorem pm_86 {dG : va_G} {kd : Nat → ClassId} {s : State} : eL (mkD dG kd s) s.heap.size 87 = ct (mkD dG kd s) σ0 86 := rfl
theorem pm_87 {dG : va_G} {kd : Nat → ClassId} {s : State} : eL (mkD dG kd s) s.heap.size 89 = ct (mkD dG kd s) σ0 87 := rfl
theorem pm_88 {dG : va_G} {kd : Nat → ClassId} {s : State} : eL (mkD dG kd s) s.heap.size 90 = ct (mkD dG kd s) σ0 88 := rfl
theorem pm_89 {dG : va_G} {kd : Nat → ClassId} {s : State} : eL (mkD dG kd s) s.heap.size 91 = ct (mkD dG kd s) σ0 89 := rfl
theorem pm_90 {dG : va_G} {kd : Nat → ClassId} {s : State} : eL (mkD dG kd s) s.heap.size 92 = ct (mkD dG kd s) σ0 90 := rfl
theorem pm_91 {dG : va_G} {kd : Nat → ClassId} {s : State} : eL (mkD dG kd s) s.heap.size 93 = ct (mkD dG kd s) σ0 91 := rfl
theorem pm_92 {dG : va_G} {kd : Nat → ClassId} {s : State} : eL (mkD dG kd s) s.heap.size 85 = ct (mkD dG kd s) σ0 92 := rfl
theorem pm_93 {dG : va_G} {kd : Nat → ClassId} {s : State} : eL (mkD dG kd s) s.heap.size 88 = ct (mkD dG kd s) σ0 93 := rfl
theorem pm_94 {dG : va_G} {kd : Nat → ClassId} {s : State} : eL (mkD dG kd s) s.heap.size 94 = ct (mkD dG kd s) σ0 94 := rfl
theorem pr_a : ∀ j, j < 24 → 8 + j = pi (26 + (24 * 0 + j)) ∧ 43 + j = pi (26 + (24 * 1 + j)) := by decide +kernel
theorem pm {dG : va_G} {kd : Nat → ClassId} {s : State} {H : Heap} (hP : Seg (mkD dG kd s) (s.heap.size, 95, eL (mkD dG kd s) s.heap.size) H) : ∀ t, t < 95 → va_at (mkD dG kd s).1 cls (ad (mkD dG kd s) t, ct (mkD dG kd s) σ0 t) H := by
  intro t ht
  have h := hP.at (i := pi t) (pi_lt t ht)
  have h : va_at (mkD dG kd s).1 cls (s.heap.size + pi t, eL (mkD dG kd s) s.heap.size (pi t)) H := h
  show va_at (mkD dG kd s).1 cls (s.heap.size + pi t, ct (mkD dG kd s) σ0 t) H
  rcases (show t = 0 ∨ t = 1 ∨ t = 2 ∨ t = 3 ∨ t = 4 ∨ t = 5 ∨ t = 6 ∨ t = 7 ∨ t = 8 ∨ t = 9 ∨ t = 10 ∨ t = 11 ∨ t = 12 ∨ t = 13 ∨ t = 14 ∨ t = 15 ∨ t = 16 ∨ t = 17 ∨ t = 18 ∨ t = 19 ∨ t = 20 ∨ t = 21 ∨ t = 22 ∨ t = 23 ∨ t = 24 ∨ t = 25 ∨ t = 26 ∨ t = 27 ∨ t = 28 ∨ t = 29 ∨ t = 30 ∨ t = 31 ∨ t = 32 ∨ t = 33 ∨ t = 34 ∨ t = 35 ∨ t = 36 ∨ t = 37 ∨ t = 38 ∨ t = 39 ∨ t = 40 ∨ t = 41 ∨ t = 42 ∨ t = 43 ∨ t = 44 ∨ t = 45 ∨ t = 46 ∨ t = 47 ∨ t = 48 ∨ t = 49 ∨ t = 50 ∨ t = 51 ∨ t = 52 ∨ t = 53 ∨ t = 54 ∨ t = 55 ∨ t = 56 ∨ t = 57 ∨ t = 58 ∨ t = 59 ∨ t = 60 ∨ t = 61 ∨ t = 62 ∨ t = 63 ∨ t = 64 ∨ t = 65 ∨ t = 66 ∨ t = 67 ∨ t = 68 ∨ t = 69 ∨ t = 70 ∨ t = 71 ∨ t = 72 ∨ t = 73 ∨ t = 74 ∨ t = 75 ∨ t = 76 ∨ t = 77 ∨ t = 78 ∨ t = 79 ∨ t = 80 ∨ t = 81 ∨ t = 82 ∨ t = 83 ∨ t = 84 ∨ t = 85 ∨ t = 86 ∨ t = 87 ∨ t = 88 ∨ t = 89 ∨ t = 90 ∨ t = 91 ∨ t = 92 ∨ t = 93 ∨ t = 94 by omega) with rfl | rfl | rfl | rfl | rfl | rfl | rfl | rfl | rfl | rfl | rfl | rfl | rfl | rfl | rfl | rfl | rfl | rfl | rfl | rfl | rfl | rfl | rfl | rfl | rfl | rfl | rfl | rfl | rfl | rfl | rfl | rfl | rfl | rfl | rfl | rfl | rfl | rfl | rfl | rfl | rfl | rfl | rfl | rfl | rfl | rfl | rfl | rfl | rfl | rfl | rfl | rfl | rfl | rfl | rfl | rfl | rfl | rfl | rfl | rfl | rfl | rfl | rfl | rfl | rfl | rfl | rfl | rfl | rfl | rfl | rfl | rfl | rfl | rfl | rfl | rfl | rfl | rfl | rfl | rfl | rfl | rfl | rfl | rfl | rfl | rfl | rfl | rfl | rfl | rfl | rfl | rfl | rfl | rfl | rfl
  · rw [← pm_0]; exact h
  · rw [← pm_1]; exact h
  · rw [← pm_2]; exact h
  · rw [← pm_3]; exact h
  · rw [← pm_4]; exact h
  · rw [← pm_5]; exact h
  · rw [← pm_6]; exact h
  · rw [← pm_7]; exact h
  · rw [← pm_8]; exact h
  · rw [← pm_9]; exact h
  · rw [← pm_10]; exact h
  · rw [← pm_11]; exact h
  · rw [← pm_12]; exact h
  · rw [← pm_13]; exact h
  · rw [← pm_14]; exact h
  · rw [← pm_15]; exact h
  · rw [← pm_16]; exact h
  · rw [← pm_17]; exact h
  · rw [← pm_18]; exact h
  · refine rf_eq (f := va_up (va_up (fun _ => none) (nI 0).toNatClampNeg (some (s.heap.size + 4))) (nI 1).toNatClampNeg (some (s.heap.size + 39))) h (fun j hj => ?_)
    rcases (show j = 0 ∨ j = 1 by omega) with rfl | rfl <;> rfl
  · rw [← pm_20]; exact h
  · rw [← pm_21]; exact h
  · refine rf_eq (f := fun j => if j < 24 then some (s.heap.size + 4 + (4 + j)) else none) h (fun j hj => ?_)
    show (if j < 24 then some (s.heap.size + 4 + (4 + j)) else none) = some (s.heap.size + pi (26 + (24 * 0 + j)))
    rw [if_pos hj, ← (pr_a j hj).1]
    congr 1
    omega
  · refine rf_eq (f := fun j => if j < 24 then some (s.heap.size + 39 + (4 + j)) else none) h (fun j hj => ?_)
    show (if j < 24 then some (s.heap.size + 39 + (4 + j)) else none) = some (s.heap.size + pi (26 + (24 * 1 + j)))
    rw [if_pos hj, ← (pr_a j hj).2]
    congr 1
    omega
  · rw [← pm_24]; exact h
  · rw [← pm_25]; exact h
  · rw [← pm_26]; exact h
  · rw [← pm_27]; exact h
  · rw [← pm_28]; exact h
  · rw [← pm_29]; exact h
  · rw [← pm_30]; exact h
  · rw [← pm_31]; exact h
  · rw [← pm_32]; exact h
  · rw [← pm_33]; exact h
  · rw [← pm_34]; exact h
  · rw [← pm_35]; exact h
  · rw [← pm_36]; exact h
  · rw [← pm_37]; exact h
  · rw [← pm_38]; exact h
  · rw [← pm_39]; exact h
  · rw [← pm_40]; exact h
  · rw [← pm_41]; exact h
  · rw [← pm_42]; exact h
  · rw [← pm_43]; exact h
  · rw [← pm_44]; exact h
  · rw [← pm_45]; exact h
  · rw [← pm_46]; exact h
  · rw [← pm_47]; exact h
  · rw [← pm_48]; exact h
  · rw [← pm_49]; exact h
  · rw [← pm_50]; exact h
  · rw [← pm_51]; exact h
  · rw [← pm_52]; exact h
  · rw [← pm_53]; exact h
  · rw [← pm_54]; exact h
  · rw [← pm_55]; exact h
  · rw [← pm_56]; exact h
  · rw [← pm_57]; exact h
  · rw [← pm_58]; exact h
  · rw [← pm_59]; exact h
  · rw [← pm_60]; exact h
  · rw [← pm_61]; exact h
  · rw [← pm_62]; exact h
  · rw [← pm_63]; exact h
  · rw [← pm_64]; exact h
  · rw [← pm_65]; exact h
  · rw [← pm_66]; exact h
  · rw [← pm_67]; exact h
  · rw [← pm_68]; exact h
  · rw [← pm_69]; exact h
  · rw [← pm_70]; exact h
  · rw [← pm_71]; exact h
  · rw [← pm_72]; exact h
  · rw [← pm_73]; exact h
  · rw [← pm_74]; exact h
  · rw [← pm_75]; exact h
  · rw [← pm_76]; exact h
  · rw [← pm_77]; exact h
  · rw [← pm_78]; exact h
  · rw [← pm_79]; exact h
  · rw [← pm_80]; exact h
  · rw [← pm_81]; exact h
  · rw [← pm_82]; exact h
  · rw [← pm_83]; exact h
  · rw [← pm_84]; exact h
  · rw [← pm_85]; exact h
  · rw [← pm_86]; exact h
  · rw [← pm_87]; exact h
  · rw [← pm_88]; exact h
  · rw [← pm_89]; exact h
  · rw [← pm_90]; exact h
  · rw [← pm_91]; exact h
  · rw [← pm_92]; exact h
  · rw [← pm_93]; exact h
  · rw [← pm_94]; exact h
theorem kg {X : Cx} {dG : va_G} {kd : Nat → ClassId} {s : State} {Q : State → Prop} {z : Nat × Nat} {pc : Nat} {L : Lc} {st : List Value} (hs : X.2.2.2.2.1 = s) (kk : G X (mkD dG kd s) Q z σ0 pc L st) : K X (mkD dG kd s) Q z (s.heap.size, 95, eL (mkD dG kd s) s.heap.size) pc L st := by
  intro H locs ls hP hS hL
  subst hs
  refine va_forget (fun q hq => hS.2.2 q hq) (kk H [] ls (fun k q hq => ?_) ⟨hS.1, fun q h1 h2 => hS.2.1 q h1 (fun h => by have h : X.2.2.2.2.1.heap.size ≤ q := h; omega), fun _ h => by cases h⟩ hL)
  obtain ⟨h1, rfl⟩ := wld_in hq
  exact pm hP k h1
theorem ok_start {s : State} {a0 : Array Value} (hts : ∀ w ∈ lw_tbl, w.before a0 s = true) : ∃ (dG : va_G) (kd : Nat → ClassId), OkD (mkD dG kd s) ∧ va_AO R_Rec s ∧ va_AO R_Rep s := by
  have hw : ∀ w ∈ UNI, w.before a0 s = true := fun w h => hts w (List.mem_filter.mp h).1
  obtain ⟨cV, iV, kV⟩ := u_known hw in_V (hw _ ki_V)
  obtain ⟨cR, iR, kR⟩ := u_known hw in_Row (hw _ ki_Row)
  obtain ⟨cP, iP, kP⟩ := u_known hw in_Rep (hw _ ki_Rep)
  obtain ⟨cE, iE, kE⟩ := u_known hw in_Rec (hw _ ki_Rec)
  obtain ⟨cM, iM, kM⟩ := u_known hw in_M (hw _ ki_M)
  obtain ⟨aI, aIk, aIc, aI1, aI2, aI3⟩ := Cond.arrayClass_spec (hw _ arI)
  obtain ⟨aJ, aJk, aJc, aJ1, aJ2, aJ3⟩ := Cond.arrayClass_spec (hw _ arJ)
  obtain ⟨aZ, aZk, aZc, aZ1, aZ2, aZ3⟩ := Cond.arrayClass_spec (hw _ arZ)
  have oP : va_AO R_Rep s := va_AO.of (hts _ ao_Rep)
  have oE : va_AO R_Rec s := va_AO.of (hts _ ao_Rec)
  obtain ⟨pc, pi0, pk, p1, p2, p3, p4, p5⟩ := Cond.arrayOver_spec (va_AO.use (A := a0) oP)
  obtain ⟨ec, ei0, ek, e1, e2, e3, e4, e5⟩ := Cond.arrayOver_spec (va_AO.use (A := a0) oE)
  refine ⟨(fun k => if k = 0 then cV else if k = 1 then cR else if k = 2 then cP else if k = 3 then cE else cM, fun k => if k = 0 then iV else if k = 1 then iR else if k = 2 then iP else if k = 3 then iE else iM), fun k => if k = 0 then aI else if k = 1 then aJ else if k = 2 then aZ else if k = 3 then pi0 else ei0, ?_, oE, oP⟩
  refine ⟨fun i j hi hj h => ?_, fun i hi => Nat.le_add_right _ _, ⟨fun c q hq => ?_, fun k q hq => ?_⟩, a0, hts⟩
  · have h : s.heap.size + pi i = s.heap.size + pi j := h
    exact pi_in i hi j hj (by omega)
  · have hc : c < 5 := (List.getElem?_eq_some_iff.mp hq).1
    rcases (show c = 0 ∨ c = 1 ∨ c = 2 ∨ c = 3 ∨ c = 4 by omega) with rfl | rfl | rfl | rfl | rfl <;> cases hq
    · exact kV
    · exact kR
    · exact kP
    · exact kE
    · exact kM
  · have hc : k < 5 := (List.getElem?_eq_some_iff.mp hq).1
    rcases (show k = 0 ∨ k = 1 ∨ k = 2 ∨ k = 3 ∨ k = 4 by omega) with rfl | rfl | rfl | rfl | rfl <;> cases hq
    · exact ⟨fun n z => ⟨fun k h => (by cases h), aIk, aI2, aIc, aI3⟩, aI1⟩
    · exact ⟨fun n z => ⟨fun k h => (by cases h), aJk, aJ2, aJc, aJ3⟩, aJ1⟩
    · exact ⟨fun n z => ⟨fun k h => (by cases h), aZk, aZ2, aZc, aZ3⟩, aZ1⟩
    · exact ⟨fun n z => ⟨fun k h => (by cases h), pk, p3, pc, p4⟩, pk, pc, p3, p4, p1, p5⟩
    · exact ⟨fun n z => ⟨fun k h => (by cases h), ek, e3, ec, e4⟩, ek, ec, e3, e4, e1, e5⟩
theorem rw0 {j : Nat} : RowIs c0 j [] := ⟨nI_0.symm, Nat.zero_le _, fun k hk => by cases hk⟩
theorem nx0 {n : Nat} {x : Rc} {P : Prop} (h : ([] : List Rc)[n]? = some x) : P := by
  rw [List.getElem?_nil] at h
  cases h
theorem rp0 {r : Nat} : RepIs c0 r ([], [], none, false, 0) := ⟨⟨nI_0.symm, rfl, fun p hp => (by cases hp), rfl, nI_0.symm⟩, rw0, Nat.zero_le _, fun n x hx => nx0 hx⟩
theorem ca0 : CAbs c0 V0 := ⟨rw0, rp0, rp0, fun r hr => ⟨⟨[], rw0⟩, ⟨[], rw0⟩, ⟨[], rw0⟩⟩⟩
theorem mr0 {q : Nat} (hq : q < 2) : MRep m0 q ([], [], none, false, 0) := by
  refine ⟨⟨nI_0.symm, fun k hk => (by cases hk)⟩, ⟨nI_0.symm, fun n x hx => nx0 hx⟩, ⟨?_, fun p hp => (by cases hp)⟩, rfl, nI_0.symm⟩
  rcases (show q = 0 ∨ q = 1 by omega) with rfl | rfl <;> decide +kernel
theorem ma0 : MAbs m0 V0 := ⟨⟨nI_0.symm, fun k hk => by cases hk⟩, mr0 (by decide), mr0 (by decide)⟩
theorem wr0 : WfR ([], [], none, false, 0) := ⟨fun x hx => (by cases hx), Nat.zero_le _, Nat.zero_le _, Nat.zero_le _, fun _ => rfl, fun d n h => (by cases h), fun _ n x hx => nx0 hx⟩
theorem wv0 : WfV V0 := ⟨fun x hx => (by cases hx), Nat.zero_le _, wr0, wr0⟩
