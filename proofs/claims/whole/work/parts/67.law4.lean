/-- what comes behind a step of the script -/
def Nx (X : Cx) (D : Dt) (Q : State → Prop) (b n k : Nat) : Prop := ∀ (c m : Cs) (ow : Nat → Int64) (V : Vt) (z : Nat × Nat), CAbs c V → MAbs m V → WfV V → z.1 + k ≤ 601024 → z.2 + 6 * k ≤ 7293034 → G X D Q z ((c, m, ow) : Sg) 978 [(0, some (.ref b)), (1, some (.ref (aVlt D))), (2, some (.ref (aMdl D))), (3, some (.ref (aOut D))), (4, some (.int (nI (4 * n))))] []
set_option maxRecDepth 100000 in
set_option maxHeartbeats 4000000 in
theorem lcs_0 {X : Cx} {D : Dt} {Q : State → Prop} {b Ls n k : Nat} {xs : Nat → Int32} {c m : Cs} {ow : Nat → Int64} {V : Vt} {z : Nat × Nat} (C : Fx X D R_L code 7 12 (some .boolean)) (hO : OkT X.2.1 D) (hX : va_X b Ls xs X.2.2.2.2.1 X.2.2.2.2.1.heap) (hb : b < D.2.2.2.heap.size) (hL : Ls ≤ 2048) (hrm : X.2.2.2.1 = room_1) (hn : 4 * n + 4 ≤ Ls) (hN : Nx X D Q b n k) (hC : CAbs c V) (hM : MAbs m V) (hW : WfV V) (hz1 : z.1 + (k + 1) ≤ 601024) (hz2 : z.2 + 6 * (k + 1) ≤ 7293034) : G X D Q z ((c, m, ow) : Sg) 124 [(0, some (.ref b)), (1, some (.ref (aVlt D))), (2, some (.ref (aMdl D))), (3, some (.ref (aOut D))), (4, some (.int (nI (4 * n))))] [] := by
  have hD := C.ok
  refine g_aload_n (pc := 124) (i := 1) C d_L_law_124 rfl rfl ?_
  refine g_aload_n (pc := 125) (i := 0) C d_L_law_125 rfl rfl ?_
  refine g_iload (pc := 126) C d_L_law_126 rfl ?_
  refine g_iconst (pc := 128) C d_L_law_128 icn_1 ?_
  refine g_iadd (pc := 129) C d_L_law_129 ?_
  refine g_sld (pc := 130) C hX hb (by rw [nI_add]; exact vp_in_nI (by omega) (by omega)) d_L_law_130 ?_
  refine g_i2l (pc := 131) C d_L_law_131 ?_
  refine g_bipush (pc := 132) C d_L_law_132 bp_32 ?_
  refine g_lshl (pc := 134) C d_L_law_134 ?_
  refine g_aload_n (pc := 135) (i := 0) C d_L_law_135 rfl rfl ?_
  refine g_iload (pc := 136) C d_L_law_136 rfl ?_
  refine g_iconst (pc := 138) C d_L_law_138 icn_2 ?_
  refine g_iadd (pc := 139) C d_L_law_139 ?_
  refine g_sld (pc := 140) C hX hb (by rw [nI_add]; exact vp_in_nI (by omega) (by omega)) d_L_law_140 ?_
  refine g_i2l (pc := 141) C d_L_law_141 ?_
  refine g_ldc2 (pc := 142) C kc_L_45 d_L_law_142 ?_
  refine g_land (pc := 145) C d_L_law_145 ?_
  refine g_lor (pc := 146) C d_L_law_146 ?_
  refine g_callVp (pc := 147) (As := [_]) C my_V_type mv_V_type cl_L_47 is_V d_L_law_147 (Nat.le_of_ble_eq_true rfl) rfl (Nat.le_of_ble_eq_true rfl) ⟨by rw [hrm]; show z.1 ≤ 601024; omega, by rw [hrm]; show z.2 ≤ 7293034; omega⟩ (x_V_type _ hD hC) (fun r147 u147 hp147 => ?_)
  obtain ⟨c2, rfl, rfl, hC2⟩ := hp147
  refine g_aload_n (pc := 150) (i := 2) C d_L_law_150 rfl rfl ?_
  refine g_aload_n (pc := 151) (i := 0) C d_L_law_151 rfl rfl ?_
  refine g_iload (pc := 152) C d_L_law_152 rfl ?_
  refine g_iconst (pc := 154) C d_L_law_154 icn_1 ?_
  refine g_iadd (pc := 155) C d_L_law_155 ?_
  refine g_sld (pc := 156) C hX hb (by rw [nI_add]; exact vp_in_nI (by omega) (by omega)) d_L_law_156 ?_
  refine g_i2l (pc := 157) C d_L_law_157 ?_
  refine g_bipush (pc := 158) C d_L_law_158 bp_32 ?_
  refine g_lshl (pc := 160) C d_L_law_160 ?_
  refine g_aload_n (pc := 161) (i := 0) C d_L_law_161 rfl rfl ?_
  refine g_iload (pc := 162) C d_L_law_162 rfl ?_
  refine g_iconst (pc := 164) C d_L_law_164 icn_2 ?_
  refine g_iadd (pc := 165) C d_L_law_165 ?_
  refine g_sld (pc := 166) C hX hb (by rw [nI_add]; exact vp_in_nI (by omega) (by omega)) d_L_law_166 ?_
  refine g_i2l (pc := 167) C d_L_law_167 ?_
  refine g_ldc2 (pc := 168) C kc_L_45 d_L_law_168 ?_
  refine g_land (pc := 171) C d_L_law_171 ?_
  refine g_lor (pc := 172) C d_L_law_172 ?_
  refine g_callVp (pc := 173) (As := [_]) C my_M_type mv_M_type cl_L_51 is_M d_L_law_173 (Nat.le_of_ble_eq_true rfl) rfl (Nat.le_of_ble_eq_true rfl) ⟨by rw [hrm]; show z.1 ≤ 601024; omega, by rw [hrm]; show z.2 ≤ 7293034; omega⟩ (x_M_type _ hD hM hW) (fun r173 u173 hp173 => ?_)
  obtain ⟨m2, rfl, rfl, hM2⟩ := hp173
  refine g_icmp_eq (pc := 176) (tgt := 978) C d_L_law_176 (by decide) (fun h176 => ?_) (fun h176 => ?_)
  · skip
    exact hN c2 m2 ow _ z hC2 hM2 (type_wf hW) (by omega) (by omega)
  · first | exact absurd h176 (rfl) | exact absurd (rfl) h176
set_option maxRecDepth 100000 in
set_option maxHeartbeats 4000000 in
theorem lcs_6 {X : Cx} {D : Dt} {Q : State → Prop} {b Ls n k : Nat} {xs : Nat → Int32} {c m : Cs} {ow : Nat → Int64} {V : Vt} {z : Nat × Nat} (C : Fx X D R_L code 7 12 (some .boolean)) (hO : OkT X.2.1 D) (hX : va_X b Ls xs X.2.2.2.2.1 X.2.2.2.2.1.heap) (hb : b < D.2.2.2.heap.size) (hL : Ls ≤ 2048) (hrm : X.2.2.2.1 = room_1) (hn : 4 * n + 4 ≤ Ls) (hN : Nx X D Q b n k) (hC : CAbs c V) (hM : MAbs m V) (hW : WfV V) (hz1 : z.1 + (k + 1) ≤ 601024) (hz2 : z.2 + 6 * (k + 1) ≤ 7293034) : G X D Q z ((c, m, ow) : Sg) 440 [(0, some (.ref b)), (1, some (.ref (aVlt D))), (2, some (.ref (aMdl D))), (3, some (.ref (aOut D))), (4, some (.int (nI (4 * n))))] [] := by
  have hD := C.ok
  refine g_aload_n (pc := 440) (i := 1) C d_L_law_440 rfl rfl ?_
  refine g_aload_n (pc := 441) (i := 0) C d_L_law_441 rfl rfl ?_
  refine g_iload (pc := 442) C d_L_law_442 rfl ?_
  refine g_iconst (pc := 444) C d_L_law_444 icn_1 ?_
  refine g_iadd (pc := 445) C d_L_law_445 ?_
  refine g_sld (pc := 446) C hX hb (by rw [nI_add]; exact vp_in_nI (by omega) (by omega)) d_L_law_446 ?_
  refine g_aload_n (pc := 447) (i := 0) C d_L_law_447 rfl rfl ?_
  refine g_iload (pc := 448) C d_L_law_448 rfl ?_
  refine g_iconst (pc := 450) C d_L_law_450 icn_2 ?_
  refine g_iadd (pc := 451) C d_L_law_451 ?_
  refine g_sld (pc := 452) C hX hb (by rw [nI_add]; exact vp_in_nI (by omega) (by omega)) d_L_law_452 ?_
  refine g_callVp (pc := 453) (As := [_, _]) C my_V_fail mv_V_fail cl_L_76 is_V d_L_law_453 (Nat.le_of_ble_eq_true rfl) rfl (Nat.le_of_ble_eq_true rfl) ⟨by rw [hrm]; show z.1 ≤ 601024; omega, by rw [hrm]; show z.2 ≤ 7293034; omega⟩ (x_V_fail _ hD hC) (fun r453 u453 hp453 => ?_)
  obtain ⟨c2, rfl, rfl, hC2⟩ := hp453
  refine g_aload_n (pc := 456) (i := 2) C d_L_law_456 rfl rfl ?_
  refine g_aload_n (pc := 457) (i := 0) C d_L_law_457 rfl rfl ?_
  refine g_iload (pc := 458) C d_L_law_458 rfl ?_
  refine g_iconst (pc := 460) C d_L_law_460 icn_1 ?_
  refine g_iadd (pc := 461) C d_L_law_461 ?_
  refine g_sld (pc := 462) C hX hb (by rw [nI_add]; exact vp_in_nI (by omega) (by omega)) d_L_law_462 ?_
  refine g_aload_n (pc := 463) (i := 0) C d_L_law_463 rfl rfl ?_
  refine g_iload (pc := 464) C d_L_law_464 rfl ?_
  refine g_iconst (pc := 466) C d_L_law_466 icn_2 ?_
  refine g_iadd (pc := 467) C d_L_law_467 ?_
  refine g_sld (pc := 468) C hX hb (by rw [nI_add]; exact vp_in_nI (by omega) (by omega)) d_L_law_468 ?_
  refine g_callVp (pc := 469) (As := [_, _]) C my_M_fail mv_M_fail cl_L_80 is_M d_L_law_469 (Nat.le_of_ble_eq_true rfl) rfl (Nat.le_of_ble_eq_true rfl) ⟨by rw [hrm]; show z.1 ≤ 601024; omega, by rw [hrm]; show z.2 ≤ 7293034; omega⟩ (x_M_fail _ hD hM hW) (fun r469 u469 hp469 => ?_)
  obtain ⟨m2, rfl, rfl, hM2⟩ := hp469
  refine g_icmp_eq (pc := 472) (tgt := 978) C d_L_law_472 (by decide) (fun h472 => ?_) (fun h472 => ?_)
  · skip
    exact hN c2 m2 ow _ z hC2 hM2 (oFail_wf hW) (by omega) (by omega)
  · first | exact absurd h472 (rfl) | exact absurd (rfl) h472
set_option maxRecDepth 100000 in
set_option maxHeartbeats 4000000 in
theorem lcs_10 {X : Cx} {D : Dt} {Q : State → Prop} {b Ls n k : Nat} {xs : Nat → Int32} {c m : Cs} {ow : Nat → Int64} {V : Vt} {z : Nat × Nat} (C : Fx X D R_L code 7 12 (some .boolean)) (hO : OkT X.2.1 D) (hX : va_X b Ls xs X.2.2.2.2.1 X.2.2.2.2.1.heap) (hb : b < D.2.2.2.heap.size) (hL : Ls ≤ 2048) (hrm : X.2.2.2.1 = room_1) (hn : 4 * n + 4 ≤ Ls) (hN : Nx X D Q b n k) (hC : CAbs c V) (hM : MAbs m V) (hW : WfV V) (hz1 : z.1 + (k + 1) ≤ 601024) (hz2 : z.2 + 6 * (k + 1) ≤ 7293034) : G X D Q z ((c, m, ow) : Sg) 681 [(0, some (.ref b)), (1, some (.ref (aVlt D))), (2, some (.ref (aMdl D))), (3, some (.ref (aOut D))), (4, some (.int (nI (4 * n))))] [] := by
  have hD := C.ok
  refine g_aload_n (pc := 681) (i := 1) C d_L_law_681 rfl rfl ?_
  refine g_aload_n (pc := 682) (i := 0) C d_L_law_682 rfl rfl ?_
  refine g_iload (pc := 683) C d_L_law_683 rfl ?_
  refine g_iconst (pc := 685) C d_L_law_685 icn_1 ?_
  refine g_iadd (pc := 686) C d_L_law_686 ?_
  refine g_sld (pc := 687) C hX hb (by rw [nI_add]; exact vp_in_nI (by omega) (by omega)) d_L_law_687 ?_
  refine g_callV1 (pc := 688) (As := [_]) C my_V_revisions mv_V_revisions cl_L_91 is_V d_L_law_688 (Nat.le_of_ble_eq_true rfl) rfl (Nat.le_of_ble_eq_true rfl) ⟨by rw [hrm]; show z.1 ≤ 601024; omega, by rw [hrm]; show z.2 ≤ 7293034; omega⟩ (c_V_revisions _ hD hC) ?_
  refine g_aload_n (pc := 691) (i := 2) C d_L_law_691 rfl rfl ?_
  refine g_aload_n (pc := 692) (i := 0) C d_L_law_692 rfl rfl ?_
  refine g_iload (pc := 693) C d_L_law_693 rfl ?_
  refine g_iconst (pc := 695) C d_L_law_695 icn_1 ?_
  refine g_iadd (pc := 696) C d_L_law_696 ?_
  refine g_sld (pc := 697) C hX hb (by rw [nI_add]; exact vp_in_nI (by omega) (by omega)) d_L_law_697 ?_
  refine g_callV1 (pc := 698) (As := [_]) C my_M_revisions mv_M_revisions cl_L_94 is_M d_L_law_698 (Nat.le_of_ble_eq_true rfl) rfl (Nat.le_of_ble_eq_true rfl) ⟨by rw [hrm]; show z.1 ≤ 601024; omega, by rw [hrm]; show z.2 ≤ 7293034; omega⟩ (c_M_revisions _ hD hM hW) ?_
  refine g_icmp_eq (pc := 701) (tgt := 978) C d_L_law_701 (by decide) (fun h701 => ?_) (fun h701 => ?_)
  · skip
    exact hN c (wI m 0 0 0) ow _ z hC (mw0 hM 0) (hW) (by omega) (by omega)
  · first | exact absurd h701 (rfl) | exact absurd (rfl) h701
set_option maxRecDepth 100000 in
set_option maxHeartbeats 4000000 in
theorem lcs_11 {X : Cx} {D : Dt} {Q : State → Prop} {b Ls n k : Nat} {xs : Nat → Int32} {c m : Cs} {ow : Nat → Int64} {V : Vt} {z : Nat × Nat} (C : Fx X D R_L code 7 12 (some .boolean)) (hO : OkT X.2.1 D) (hX : va_X b Ls xs X.2.2.2.2.1 X.2.2.2.2.1.heap) (hb : b < D.2.2.2.heap.size) (hL : Ls ≤ 2048) (hrm : X.2.2.2.1 = room_1) (hn : 4 * n + 4 ≤ Ls) (hN : Nx X D Q b n k) (hC : CAbs c V) (hM : MAbs m V) (hW : WfV V) (hz1 : z.1 + (k + 1) ≤ 601024) (hz2 : z.2 + 6 * (k + 1) ≤ 7293034) : G X D Q z ((c, m, ow) : Sg) 706 [(0, some (.ref b)), (1, some (.ref (aVlt D))), (2, some (.ref (aMdl D))), (3, some (.ref (aOut D))), (4, some (.int (nI (4 * n))))] [] := by
  have hD := C.ok
  refine g_aload_n (pc := 706) (i := 1) C d_L_law_706 rfl rfl ?_
  refine g_aload_n (pc := 707) (i := 0) C d_L_law_707 rfl rfl ?_
  refine g_iload (pc := 708) C d_L_law_708 rfl ?_
  refine g_iconst (pc := 710) C d_L_law_710 icn_1 ?_
  refine g_iadd (pc := 711) C d_L_law_711 ?_
  refine g_sld (pc := 712) C hX hb (by rw [nI_add]; exact vp_in_nI (by omega) (by omega)) d_L_law_712 ?_
  refine g_aload_n (pc := 713) (i := 0) C d_L_law_713 rfl rfl ?_
  refine g_iload (pc := 714) C d_L_law_714 rfl ?_
  refine g_iconst (pc := 716) C d_L_law_716 icn_2 ?_
  refine g_iadd (pc := 717) C d_L_law_717 ?_
  refine g_sld (pc := 718) C hX hb (by rw [nI_add]; exact vp_in_nI (by omega) (by omega)) d_L_law_718 ?_
  refine g_aload_n (pc := 719) (i := 0) C d_L_law_719 rfl rfl ?_
  refine g_iload (pc := 720) C d_L_law_720 rfl ?_
  refine g_iconst (pc := 722) C d_L_law_722 icn_3 ?_
  refine g_iadd (pc := 723) C d_L_law_723 ?_
  refine g_sld (pc := 724) C hX hb (by rw [nI_add]; exact vp_in_nI (by omega) (by omega)) d_L_law_724 ?_
  refine g_callV1 (pc := 725) (As := [_, _, _]) C my_V_record mv_V_record cl_L_95 is_V d_L_law_725 (Nat.le_of_ble_eq_true rfl) rfl (Nat.le_of_ble_eq_true rfl) ⟨by rw [hrm]; show z.1 ≤ 601024; omega, by rw [hrm]; show z.2 ≤ 7293034; omega⟩ (c_V_record _ hD hC) ?_
  refine g_aload_n (pc := 728) (i := 2) C d_L_law_728 rfl rfl ?_
  refine g_aload_n (pc := 729) (i := 0) C d_L_law_729 rfl rfl ?_
  refine g_iload (pc := 730) C d_L_law_730 rfl ?_
  refine g_iconst (pc := 732) C d_L_law_732 icn_1 ?_
  refine g_iadd (pc := 733) C d_L_law_733 ?_
  refine g_sld (pc := 734) C hX hb (by rw [nI_add]; exact vp_in_nI (by omega) (by omega)) d_L_law_734 ?_
  refine g_aload_n (pc := 735) (i := 0) C d_L_law_735 rfl rfl ?_
  refine g_iload (pc := 736) C d_L_law_736 rfl ?_
  refine g_iconst (pc := 738) C d_L_law_738 icn_2 ?_
  refine g_iadd (pc := 739) C d_L_law_739 ?_
  refine g_sld (pc := 740) C hX hb (by rw [nI_add]; exact vp_in_nI (by omega) (by omega)) d_L_law_740 ?_
  refine g_aload_n (pc := 741) (i := 0) C d_L_law_741 rfl rfl ?_
  refine g_iload (pc := 742) C d_L_law_742 rfl ?_
  refine g_iconst (pc := 744) C d_L_law_744 icn_3 ?_
  refine g_iadd (pc := 745) C d_L_law_745 ?_
  refine g_sld (pc := 746) C hX hb (by rw [nI_add]; exact vp_in_nI (by omega) (by omega)) d_L_law_746 ?_
  refine g_callV1 (pc := 747) (As := [_, _, _]) C my_M_record mv_M_record cl_L_98 is_M d_L_law_747 (Nat.le_of_ble_eq_true rfl) rfl (Nat.le_of_ble_eq_true rfl) ⟨by rw [hrm]; show z.1 ≤ 601024; omega, by rw [hrm]; show z.2 ≤ 7293034; omega⟩ (c_M_record _ hD hM hW) ?_
  refine g_icmp_eq (pc := 750) (tgt := 978) C d_L_law_750 (by decide) (fun h750 => ?_) (fun h750 => ?_)
  · skip
    exact hN c (wI m 0 0 0) ow _ z hC (mw0 hM 0) (hW) (by omega) (by omega)
  · first | exact absurd h750 (rfl) | exact absurd (rfl) h750
set_option maxRecDepth 100000 in
set_option maxHeartbeats 4000000 in
theorem lcs_12 {X : Cx} {D : Dt} {Q : State → Prop} {b Ls n k : Nat} {xs : Nat → Int32} {c m : Cs} {ow : Nat → Int64} {V : Vt} {z : Nat × Nat} (C : Fx X D R_L code 7 12 (some .boolean)) (hO : OkT X.2.1 D) (hX : va_X b Ls xs X.2.2.2.2.1 X.2.2.2.2.1.heap) (hb : b < D.2.2.2.heap.size) (hL : Ls ≤ 2048) (hrm : X.2.2.2.1 = room_1) (hn : 4 * n + 4 ≤ Ls) (hN : Nx X D Q b n k) (hC : CAbs c V) (hM : MAbs m V) (hW : WfV V) (hz1 : z.1 + (k + 1) ≤ 601024) (hz2 : z.2 + 6 * (k + 1) ≤ 7293034) : G X D Q z ((c, m, ow) : Sg) 755 [(0, some (.ref b)), (1, some (.ref (aVlt D))), (2, some (.ref (aMdl D))), (3, some (.ref (aOut D))), (4, some (.int (nI (4 * n))))] [] := by
  have hD := C.ok
  refine g_aload_n (pc := 755) (i := 1) C d_L_law_755 rfl rfl ?_
  refine g_aload_n (pc := 756) (i := 0) C d_L_law_756 rfl rfl ?_
  refine g_iload (pc := 757) C d_L_law_757 rfl ?_
  refine g_iconst (pc := 759) C d_L_law_759 icn_1 ?_
  refine g_iadd (pc := 760) C d_L_law_760 ?_
  refine g_sld (pc := 761) C hX hb (by rw [nI_add]; exact vp_in_nI (by omega) (by omega)) d_L_law_761 ?_
  refine g_aload_n (pc := 762) (i := 0) C d_L_law_762 rfl rfl ?_
  refine g_iload (pc := 763) C d_L_law_763 rfl ?_
  refine g_iconst (pc := 765) C d_L_law_765 icn_2 ?_
  refine g_iadd (pc := 766) C d_L_law_766 ?_
  refine g_sld (pc := 767) C hX hb (by rw [nI_add]; exact vp_in_nI (by omega) (by omega)) d_L_law_767 ?_
  refine g_callV1 (pc := 768) (As := [_, _]) C my_V_node mv_V_node cl_L_99 is_V d_L_law_768 (Nat.le_of_ble_eq_true rfl) rfl (Nat.le_of_ble_eq_true rfl) ⟨by rw [hrm]; show z.1 ≤ 601024; omega, by rw [hrm]; show z.2 ≤ 7293034; omega⟩ (c_V_node _ hD hC) ?_
  refine g_aload_n (pc := 771) (i := 2) C d_L_law_771 rfl rfl ?_
  refine g_aload_n (pc := 772) (i := 0) C d_L_law_772 rfl rfl ?_
  refine g_iload (pc := 773) C d_L_law_773 rfl ?_
  refine g_iconst (pc := 775) C d_L_law_775 icn_1 ?_
  refine g_iadd (pc := 776) C d_L_law_776 ?_
  refine g_sld (pc := 777) C hX hb (by rw [nI_add]; exact vp_in_nI (by omega) (by omega)) d_L_law_777 ?_
  refine g_aload_n (pc := 778) (i := 0) C d_L_law_778 rfl rfl ?_
  refine g_iload (pc := 779) C d_L_law_779 rfl ?_
  refine g_iconst (pc := 781) C d_L_law_781 icn_2 ?_
  refine g_iadd (pc := 782) C d_L_law_782 ?_
  refine g_sld (pc := 783) C hX hb (by rw [nI_add]; exact vp_in_nI (by omega) (by omega)) d_L_law_783 ?_
  refine g_callV1 (pc := 784) (As := [_, _]) C my_M_node mv_M_node cl_L_103 is_M d_L_law_784 (Nat.le_of_ble_eq_true rfl) rfl (Nat.le_of_ble_eq_true rfl) ⟨by rw [hrm]; show z.1 ≤ 601024; omega, by rw [hrm]; show z.2 ≤ 7293034; omega⟩ (c_M_node _ hD hM hW) ?_
  refine g_lcmp (pc := 787) C d_L_law_787 ?_
  refine g_if_eq (pc := 788) (tgt := 978) C d_L_law_788 (by decide) (fun h788 => ?_) (fun h788 => ?_)
  · skip
    exact hN c (wI m 0 0 0) ow _ z hC (mw0 hM 0) (hW) (by omega) (by omega)
  · first | exact absurd h788 (lg_c0.mpr rfl) | exact absurd (lg_c0.mpr rfl) h788
set_option maxRecDepth 100000 in
set_option maxHeartbeats 4000000 in
theorem lcs_13 {X : Cx} {D : Dt} {Q : State → Prop} {b Ls n k : Nat} {xs : Nat → Int32} {c m : Cs} {ow : Nat → Int64} {V : Vt} {z : Nat × Nat} (C : Fx X D R_L code 7 12 (some .boolean)) (hO : OkT X.2.1 D) (hX : va_X b Ls xs X.2.2.2.2.1 X.2.2.2.2.1.heap) (hb : b < D.2.2.2.heap.size) (hL : Ls ≤ 2048) (hrm : X.2.2.2.1 = room_1) (hn : 4 * n + 4 ≤ Ls) (hN : Nx X D Q b n k) (hC : CAbs c V) (hM : MAbs m V) (hW : WfV V) (hz1 : z.1 + (k + 1) ≤ 601024) (hz2 : z.2 + 6 * (k + 1) ≤ 7293034) : G X D Q z ((c, m, ow) : Sg) 793 [(0, some (.ref b)), (1, some (.ref (aVlt D))), (2, some (.ref (aMdl D))), (3, some (.ref (aOut D))), (4, some (.int (nI (4 * n))))] [] := by
  have hD := C.ok
  refine g_aload_n (pc := 793) (i := 1) C d_L_law_793 rfl rfl ?_
  refine g_aload_n (pc := 794) (i := 0) C d_L_law_794 rfl rfl ?_
  refine g_iload (pc := 795) C d_L_law_795 rfl ?_
  refine g_iconst (pc := 797) C d_L_law_797 icn_1 ?_
  refine g_iadd (pc := 798) C d_L_law_798 ?_
  refine g_sld (pc := 799) C hX hb (by rw [nI_add]; exact vp_in_nI (by omega) (by omega)) d_L_law_799 ?_
  refine g_aload_n (pc := 800) (i := 0) C d_L_law_800 rfl rfl ?_
  refine g_iload (pc := 801) C d_L_law_801 rfl ?_
  refine g_iconst (pc := 803) C d_L_law_803 icn_2 ?_
  refine g_iadd (pc := 804) C d_L_law_804 ?_
  refine g_sld (pc := 805) C hX hb (by rw [nI_add]; exact vp_in_nI (by omega) (by omega)) d_L_law_805 ?_
  refine g_callV1 (pc := 806) (As := [_, _]) C my_V_data mv_V_data cl_L_104 is_V d_L_law_806 (Nat.le_of_ble_eq_true rfl) rfl (Nat.le_of_ble_eq_true rfl) ⟨by rw [hrm]; show z.1 ≤ 601024; omega, by rw [hrm]; show z.2 ≤ 7293034; omega⟩ (c_V_data _ hD hC) ?_
  refine g_aload_n (pc := 809) (i := 2) C d_L_law_809 rfl rfl ?_
  refine g_aload_n (pc := 810) (i := 0) C d_L_law_810 rfl rfl ?_
  refine g_iload (pc := 811) C d_L_law_811 rfl ?_
  refine g_iconst (pc := 813) C d_L_law_813 icn_1 ?_
  refine g_iadd (pc := 814) C d_L_law_814 ?_
  refine g_sld (pc := 815) C hX hb (by rw [nI_add]; exact vp_in_nI (by omega) (by omega)) d_L_law_815 ?_
  refine g_aload_n (pc := 816) (i := 0) C d_L_law_816 rfl rfl ?_
  refine g_iload (pc := 817) C d_L_law_817 rfl ?_
  refine g_iconst (pc := 819) C d_L_law_819 icn_2 ?_
  refine g_iadd (pc := 820) C d_L_law_820 ?_
  refine g_sld (pc := 821) C hX hb (by rw [nI_add]; exact vp_in_nI (by omega) (by omega)) d_L_law_821 ?_
  refine g_callV1 (pc := 822) (As := [_, _]) C my_M_data mv_M_data cl_L_107 is_M d_L_law_822 (Nat.le_of_ble_eq_true rfl) rfl (Nat.le_of_ble_eq_true rfl) ⟨by rw [hrm]; show z.1 ≤ 601024; omega, by rw [hrm]; show z.2 ≤ 7293034; omega⟩ (c_M_data _ hD hM hW) ?_
  refine g_icmp_eq (pc := 825) (tgt := 978) C d_L_law_825 (by decide) (fun h825 => ?_) (fun h825 => ?_)
  · skip
    exact hN c (wI m 0 0 0) ow _ z hC (mw0 hM 0) (hW) (by omega) (by omega)
  · first | exact absurd h825 (rfl) | exact absurd (rfl) h825
set_option maxRecDepth 100000 in
set_option maxHeartbeats 4000000 in
theorem lcs_14 {X : Cx} {D : Dt} {Q : State → Prop} {b Ls n k : Nat} {xs : Nat → Int32} {c m : Cs} {ow : Nat → Int64} {V : Vt} {z : Nat × Nat} (C : Fx X D R_L code 7 12 (some .boolean)) (hO : OkT X.2.1 D) (hX : va_X b Ls xs X.2.2.2.2.1 X.2.2.2.2.1.heap) (hb : b < D.2.2.2.heap.size) (hL : Ls ≤ 2048) (hrm : X.2.2.2.1 = room_1) (hn : 4 * n + 4 ≤ Ls) (hN : Nx X D Q b n k) (hC : CAbs c V) (hM : MAbs m V) (hW : WfV V) (hz1 : z.1 + (k + 1) ≤ 601024) (hz2 : z.2 + 6 * (k + 1) ≤ 7293034) : G X D Q z ((c, m, ow) : Sg) 830 [(0, some (.ref b)), (1, some (.ref (aVlt D))), (2, some (.ref (aMdl D))), (3, some (.ref (aOut D))), (4, some (.int (nI (4 * n))))] [] := by
  have hD := C.ok
  refine g_aload_n (pc := 830) (i := 1) C d_L_law_830 rfl rfl ?_
  refine g_aload_n (pc := 831) (i := 0) C d_L_law_831 rfl rfl ?_
  refine g_iload (pc := 832) C d_L_law_832 rfl ?_
  refine g_iconst (pc := 834) C d_L_law_834 icn_1 ?_
  refine g_iadd (pc := 835) C d_L_law_835 ?_
  refine g_sld (pc := 836) C hX hb (by rw [nI_add]; exact vp_in_nI (by omega) (by omega)) d_L_law_836 ?_
  refine g_aload_n (pc := 837) (i := 0) C d_L_law_837 rfl rfl ?_
  refine g_iload (pc := 838) C d_L_law_838 rfl ?_
  refine g_iconst (pc := 840) C d_L_law_840 icn_2 ?_
  refine g_iadd (pc := 841) C d_L_law_841 ?_
  refine g_sld (pc := 842) C hX hb (by rw [nI_add]; exact vp_in_nI (by omega) (by omega)) d_L_law_842 ?_
  refine g_aload_n (pc := 843) (i := 0) C d_L_law_843 rfl rfl ?_
  refine g_iload (pc := 844) C d_L_law_844 rfl ?_
  refine g_iconst (pc := 846) C d_L_law_846 icn_3 ?_
  refine g_iadd (pc := 847) C d_L_law_847 ?_
  refine g_sld (pc := 848) C hX hb (by rw [nI_add]; exact vp_in_nI (by omega) (by omega)) d_L_law_848 ?_
  refine g_callVp (pc := 849) (As := [_, _, _]) C my_V_damage mv_V_damage cl_L_108 is_V d_L_law_849 (Nat.le_of_ble_eq_true rfl) rfl (Nat.le_of_ble_eq_true rfl) ⟨by rw [hrm]; show z.1 ≤ 601024; omega, by rw [hrm]; show z.2 ≤ 7293034; omega⟩ (x_V_damage _ hD hC) (fun r849 u849 hp849 => ?_)
  obtain ⟨c2, rfl, rfl, hC2⟩ := hp849
  refine g_aload_n (pc := 852) (i := 2) C d_L_law_852 rfl rfl ?_
  refine g_aload_n (pc := 853) (i := 0) C d_L_law_853 rfl rfl ?_
  refine g_iload (pc := 854) C d_L_law_854 rfl ?_
  refine g_iconst (pc := 856) C d_L_law_856 icn_1 ?_
  refine g_iadd (pc := 857) C d_L_law_857 ?_
  refine g_sld (pc := 858) C hX hb (by rw [nI_add]; exact vp_in_nI (by omega) (by omega)) d_L_law_858 ?_
  refine g_aload_n (pc := 859) (i := 0) C d_L_law_859 rfl rfl ?_
  refine g_iload (pc := 860) C d_L_law_860 rfl ?_
  refine g_iconst (pc := 862) C d_L_law_862 icn_2 ?_
  refine g_iadd (pc := 863) C d_L_law_863 ?_
  refine g_sld (pc := 864) C hX hb (by rw [nI_add]; exact vp_in_nI (by omega) (by omega)) d_L_law_864 ?_
  refine g_aload_n (pc := 865) (i := 0) C d_L_law_865 rfl rfl ?_
  refine g_iload (pc := 866) C d_L_law_866 rfl ?_
  refine g_iconst (pc := 868) C d_L_law_868 icn_3 ?_
  refine g_iadd (pc := 869) C d_L_law_869 ?_
  refine g_sld (pc := 870) C hX hb (by rw [nI_add]; exact vp_in_nI (by omega) (by omega)) d_L_law_870 ?_
  refine g_callVp (pc := 871) (As := [_, _, _]) C my_M_damage mv_M_damage cl_L_112 is_M d_L_law_871 (Nat.le_of_ble_eq_true rfl) rfl (Nat.le_of_ble_eq_true rfl) ⟨by rw [hrm]; show z.1 ≤ 601024; omega, by rw [hrm]; show z.2 ≤ 7293034; omega⟩ (x_M_damage _ hD hM hW) (fun r871 u871 hp871 => ?_)
  obtain ⟨m2, rfl, rfl, hM2⟩ := hp871
  refine g_icmp_eq (pc := 874) (tgt := 978) C d_L_law_874 (by decide) (fun h874 => ?_) (fun h874 => ?_)
  · skip
    exact hN c2 m2 ow _ z hC2 hM2 (oDamage_wf hW) (by omega) (by omega)
  · first | exact absurd h874 (rfl) | exact absurd (rfl) h874
set_option maxRecDepth 100000 in
set_option maxHeartbeats 4000000 in
theorem lcs_15 {X : Cx} {D : Dt} {Q : State → Prop} {b Ls n k : Nat} {xs : Nat → Int32} {c m : Cs} {ow : Nat → Int64} {V : Vt} {z : Nat × Nat} (C : Fx X D R_L code 7 12 (some .boolean)) (hO : OkT X.2.1 D) (hX : va_X b Ls xs X.2.2.2.2.1 X.2.2.2.2.1.heap) (hb : b < D.2.2.2.heap.size) (hL : Ls ≤ 2048) (hrm : X.2.2.2.1 = room_1) (hn : 4 * n + 4 ≤ Ls) (hN : Nx X D Q b n k) (hC : CAbs c V) (hM : MAbs m V) (hW : WfV V) (hz1 : z.1 + (k + 1) ≤ 601024) (hz2 : z.2 + 6 * (k + 1) ≤ 7293034) : G X D Q z ((c, m, ow) : Sg) 879 [(0, some (.ref b)), (1, some (.ref (aVlt D))), (2, some (.ref (aMdl D))), (3, some (.ref (aOut D))), (4, some (.int (nI (4 * n))))] [] := by
  have hD := C.ok
  refine g_aload_n (pc := 879) (i := 1) C d_L_law_879 rfl rfl ?_
  refine g_aload_n (pc := 880) (i := 0) C d_L_law_880 rfl rfl ?_
  refine g_iload (pc := 881) C d_L_law_881 rfl ?_
  refine g_iconst (pc := 883) C d_L_law_883 icn_1 ?_
  refine g_iadd (pc := 884) C d_L_law_884 ?_
  refine g_sld (pc := 885) C hX hb (by rw [nI_add]; exact vp_in_nI (by omega) (by omega)) d_L_law_885 ?_
  refine g_callVp (pc := 886) (As := [_]) C my_V_wrong mv_V_wrong cl_L_113 is_V d_L_law_886 (Nat.le_of_ble_eq_true rfl) rfl (Nat.le_of_ble_eq_true rfl) ⟨by rw [hrm]; show z.1 ≤ 601024; omega, by rw [hrm]; show z.2 ≤ 7293034; omega⟩ (x_V_wrong _ hD hC hW) (fun r886 u886 hp886 => ?_)
  obtain ⟨c2, rfl, rfl, hC2⟩ := hp886
  refine g_aload_n (pc := 889) (i := 2) C d_L_law_889 rfl rfl ?_
  refine g_aload_n (pc := 890) (i := 0) C d_L_law_890 rfl rfl ?_
  refine g_iload (pc := 891) C d_L_law_891 rfl ?_
  refine g_iconst (pc := 893) C d_L_law_893 icn_1 ?_
  refine g_iadd (pc := 894) C d_L_law_894 ?_
  refine g_sld (pc := 895) C hX hb (by rw [nI_add]; exact vp_in_nI (by omega) (by omega)) d_L_law_895 ?_
  refine g_callVp (pc := 896) (As := [_]) C my_M_wrong mv_M_wrong cl_L_116 is_M d_L_law_896 (Nat.le_of_ble_eq_true rfl) rfl (Nat.le_of_ble_eq_true rfl) ⟨by rw [hrm]; show z.1 ≤ 601024; omega, by rw [hrm]; show z.2 ≤ 7293034; omega⟩ (x_M_wrong _ hD hM hW) (fun r896 u896 hp896 => ?_)
  obtain ⟨m2, rfl, rfl, hM2⟩ := hp896
  refine g_icmp_eq (pc := 899) (tgt := 978) C d_L_law_899 (by decide) (fun h899 => ?_) (fun h899 => ?_)
  · skip
    exact hN c2 m2 ow _ z hC2 hM2 (hW) (by omega) (by omega)
  · first | exact absurd h899 (rfl) | exact absurd (rfl) h899
set_option maxRecDepth 100000 in
set_option maxHeartbeats 4000000 in
theorem lcs_16 {X : Cx} {D : Dt} {Q : State → Prop} {b Ls n k : Nat} {xs : Nat → Int32} {c m : Cs} {ow : Nat → Int64} {V : Vt} {z : Nat × Nat} (C : Fx X D R_L code 7 12 (some .boolean)) (hO : OkT X.2.1 D) (hX : va_X b Ls xs X.2.2.2.2.1 X.2.2.2.2.1.heap) (hb : b < D.2.2.2.heap.size) (hL : Ls ≤ 2048) (hrm : X.2.2.2.1 = room_1) (hn : 4 * n + 4 ≤ Ls) (hN : Nx X D Q b n k) (hC : CAbs c V) (hM : MAbs m V) (hW : WfV V) (hz1 : z.1 + (k + 1) ≤ 601024) (hz2 : z.2 + 6 * (k + 1) ≤ 7293034) : G X D Q z ((c, m, ow) : Sg) 904 [(0, some (.ref b)), (1, some (.ref (aVlt D))), (2, some (.ref (aMdl D))), (3, some (.ref (aOut D))), (4, some (.int (nI (4 * n))))] [] := by
  have hD := C.ok
  refine g_aload_n (pc := 904) (i := 1) C d_L_law_904 rfl rfl ?_
  refine g_aload_n (pc := 905) (i := 0) C d_L_law_905 rfl rfl ?_
  refine g_iload (pc := 906) C d_L_law_906 rfl ?_
  refine g_iconst (pc := 908) C d_L_law_908 icn_1 ?_
  refine g_iadd (pc := 909) C d_L_law_909 ?_
  refine g_sld (pc := 910) C hX hb (by rw [nI_add]; exact vp_in_nI (by omega) (by omega)) d_L_law_910 ?_
  refine g_callV1 (pc := 911) (As := [_]) C my_V_heads mv_V_heads cl_L_117 is_V d_L_law_911 (Nat.le_of_ble_eq_true rfl) rfl (Nat.le_of_ble_eq_true rfl) ⟨by rw [hrm]; show z.1 ≤ 601024; omega, by rw [hrm]; show z.2 ≤ 7293034; omega⟩ (c_V_heads _ hD hC hW) ?_
  refine g_aload_n (pc := 914) (i := 2) C d_L_law_914 rfl rfl ?_
  refine g_aload_n (pc := 915) (i := 0) C d_L_law_915 rfl rfl ?_
  refine g_iload (pc := 916) C d_L_law_916 rfl ?_
  refine g_iconst (pc := 918) C d_L_law_918 icn_1 ?_
  refine g_iadd (pc := 919) C d_L_law_919 ?_
  refine g_sld (pc := 920) C hX hb (by rw [nI_add]; exact vp_in_nI (by omega) (by omega)) d_L_law_920 ?_
  refine g_callV1 (pc := 921) (As := [_]) C my_M_heads mv_M_heads cl_L_120 is_M d_L_law_921 (Nat.le_of_ble_eq_true rfl) rfl (Nat.le_of_ble_eq_true rfl) ⟨by rw [hrm]; show z.1 ≤ 601024; omega, by rw [hrm]; show z.2 ≤ 7293034; omega⟩ (c_M_heads _ hD hM hW) ?_
  refine g_icmp_eq (pc := 924) (tgt := 978) C d_L_law_924 (by decide) (fun h924 => ?_) (fun h924 => ?_)
  · skip
    exact hN c (wI m 0 0 0) ow _ z hC (mw0 hM 0) (hW) (by omega) (by omega)
  · first | exact absurd h924 (rfl) | exact absurd (rfl) h924
set_option maxRecDepth 100000 in
set_option maxHeartbeats 4000000 in
theorem lcs_17 {X : Cx} {D : Dt} {Q : State → Prop} {b Ls n k : Nat} {xs : Nat → Int32} {c m : Cs} {ow : Nat → Int64} {V : Vt} {z : Nat × Nat} (C : Fx X D R_L code 7 12 (some .boolean)) (hO : OkT X.2.1 D) (hX : va_X b Ls xs X.2.2.2.2.1 X.2.2.2.2.1.heap) (hb : b < D.2.2.2.heap.size) (hL : Ls ≤ 2048) (hrm : X.2.2.2.1 = room_1) (hn : 4 * n + 4 ≤ Ls) (hN : Nx X D Q b n k) (hC : CAbs c V) (hM : MAbs m V) (hW : WfV V) (hz1 : z.1 + (k + 1) ≤ 601024) (hz2 : z.2 + 6 * (k + 1) ≤ 7293034) : G X D Q z ((c, m, ow) : Sg) 929 [(0, some (.ref b)), (1, some (.ref (aVlt D))), (2, some (.ref (aMdl D))), (3, some (.ref (aOut D))), (4, some (.int (nI (4 * n))))] [] := by
  have hD := C.ok
  refine g_aload_n (pc := 929) (i := 1) C d_L_law_929 rfl rfl ?_
  refine g_aload_n (pc := 930) (i := 0) C d_L_law_930 rfl rfl ?_
  refine g_iload (pc := 931) C d_L_law_931 rfl ?_
  refine g_iconst (pc := 933) C d_L_law_933 icn_1 ?_
  refine g_iadd (pc := 934) C d_L_law_934 ?_
  refine g_sld (pc := 935) C hX hb (by rw [nI_add]; exact vp_in_nI (by omega) (by omega)) d_L_law_935 ?_
  refine g_aload_n (pc := 936) (i := 0) C d_L_law_936 rfl rfl ?_
  refine g_iload (pc := 937) C d_L_law_937 rfl ?_
  refine g_iconst (pc := 939) C d_L_law_939 icn_2 ?_
  refine g_iadd (pc := 940) C d_L_law_940 ?_
  refine g_sld (pc := 941) C hX hb (by rw [nI_add]; exact vp_in_nI (by omega) (by omega)) d_L_law_941 ?_
  refine g_aload_n (pc := 942) (i := 0) C d_L_law_942 rfl rfl ?_
  refine g_iload (pc := 943) C d_L_law_943 rfl ?_
  refine g_iconst (pc := 945) C d_L_law_945 icn_3 ?_
  refine g_iadd (pc := 946) C d_L_law_946 ?_
  refine g_sld (pc := 947) C hX hb (by rw [nI_add]; exact vp_in_nI (by omega) (by omega)) d_L_law_947 ?_
  refine g_callV1 (pc := 948) (As := [_, _, _]) C my_V_common mv_V_common cl_L_121 is_V d_L_law_948 (Nat.le_of_ble_eq_true rfl) rfl (Nat.le_of_ble_eq_true rfl) ⟨by rw [hrm]; show z.1 ≤ 601024; omega, by rw [hrm]; show z.2 ≤ 7293034; omega⟩ (c_V_common _ hD hC hW) ?_
  refine g_aload_n (pc := 951) (i := 2) C d_L_law_951 rfl rfl ?_
  refine g_aload_n (pc := 952) (i := 0) C d_L_law_952 rfl rfl ?_
  refine g_iload (pc := 953) C d_L_law_953 rfl ?_
  refine g_iconst (pc := 955) C d_L_law_955 icn_1 ?_
  refine g_iadd (pc := 956) C d_L_law_956 ?_
  refine g_sld (pc := 957) C hX hb (by rw [nI_add]; exact vp_in_nI (by omega) (by omega)) d_L_law_957 ?_
  refine g_aload_n (pc := 958) (i := 0) C d_L_law_958 rfl rfl ?_
  refine g_iload (pc := 959) C d_L_law_959 rfl ?_
  refine g_iconst (pc := 961) C d_L_law_961 icn_2 ?_
  refine g_iadd (pc := 962) C d_L_law_962 ?_
  refine g_sld (pc := 963) C hX hb (by rw [nI_add]; exact vp_in_nI (by omega) (by omega)) d_L_law_963 ?_
  refine g_aload_n (pc := 964) (i := 0) C d_L_law_964 rfl rfl ?_
  refine g_iload (pc := 965) C d_L_law_965 rfl ?_
  refine g_iconst (pc := 967) C d_L_law_967 icn_3 ?_
  refine g_iadd (pc := 968) C d_L_law_968 ?_
  refine g_sld (pc := 969) C hX hb (by rw [nI_add]; exact vp_in_nI (by omega) (by omega)) d_L_law_969 ?_
  refine g_callV1 (pc := 970) (As := [_, _, _]) C my_M_common mv_M_common cl_L_124 is_M d_L_law_970 (Nat.le_of_ble_eq_true rfl) rfl (Nat.le_of_ble_eq_true rfl) ⟨by rw [hrm]; show z.1 ≤ 601024; omega, by rw [hrm]; show z.2 ≤ 7293034; omega⟩ (c_M_common _ hD hM hW) ?_
  refine g_icmp_eq (pc := 973) (tgt := 978) C d_L_law_973 (by decide) (fun h973 => ?_) (fun h973 => ?_)
  · skip
    exact hN c (wI m 0 0 0) ow _ z hC (mw0 hM 0) (hW) (by omega) (by omega)
  · first | exact absurd h973 (rfl) | exact absurd (rfl) h973
set_option maxRecDepth 100000 in
set_option maxHeartbeats 4000000 in
theorem lcs_1 {X : Cx} {D : Dt} {Q : State → Prop} {b Ls n k : Nat} {xs : Nat → Int32} {c m : Cs} {ow : Nat → Int64} {V : Vt} {z : Nat × Nat} (C : Fx X D R_L code 7 12 (some .boolean)) (hO : OkT X.2.1 D) (hX : va_X b Ls xs X.2.2.2.2.1 X.2.2.2.2.1.heap) (hb : b < D.2.2.2.heap.size) (hL : Ls ≤ 2048) (hrm : X.2.2.2.1 = room_1) (hn : 4 * n + 4 ≤ Ls) (hN : Nx X D Q b n k) (hC : CAbs c V) (hM : MAbs m V) (hW : WfV V) (hz1 : z.1 + (k + 1) ≤ 601024) (hz2 : z.2 + 6 * (k + 1) ≤ 7293034) : G X D Q z ((c, m, ow) : Sg) 181 [(0, some (.ref b)), (1, some (.ref (aVlt D))), (2, some (.ref (aMdl D))), (3, some (.ref (aOut D))), (4, some (.int (nI (4 * n))))] [] := by
  have hD := C.ok
  refine g_aload_n (pc := 181) (i := 1) C d_L_law_181 rfl rfl ?_
  refine g_callV0 (pc := 182) (As := []) C my_V_wipe mv_V_wipe cl_L_52 is_V d_L_law_182 (Nat.le_of_ble_eq_true rfl) rfl (Nat.le_of_ble_eq_true rfl) ⟨by rw [hrm]; show z.1 ≤ 601024; omega, by rw [hrm]; show z.2 ≤ 7293034; omega⟩ (c_V_wipe (V := V) _ hD) ?_
  refine g_aload_n (pc := 185) (i := 2) C d_L_law_185 rfl rfl ?_
  refine g_callVp (pc := 186) (As := []) C my_M_wipe mv_M_wipe cl_L_55 is_M d_L_law_186 (Nat.le_of_ble_eq_true rfl) rfl (Nat.le_of_ble_eq_true rfl) ⟨by rw [hrm]; show z.1 ≤ 601024; omega, by rw [hrm]; show z.2 ≤ 7293034; omega⟩ (x_M_wipe _ hD hM) (fun r186 u186 hp186 => ?_)
  obtain ⟨m2, rfl, rfl, hM2⟩ := hp186
  refine g_goto (pc := 189) (tgt := 978) C d_L_law_189 (by decide) ?_
  exact hN _ m2 ow _ z hC.wipe hM2 hW.wipe (by omega) (by omega)
set_option maxRecDepth 100000 in
set_option maxHeartbeats 4000000 in
theorem lcs_2 {X : Cx} {D : Dt} {Q : State → Prop} {b Ls n k : Nat} {xs : Nat → Int32} {c m : Cs} {ow : Nat → Int64} {V : Vt} {z : Nat × Nat} (C : Fx X D R_L code 7 12 (some .boolean)) (hO : OkT X.2.1 D) (hX : va_X b Ls xs X.2.2.2.2.1 X.2.2.2.2.1.heap) (hb : b < D.2.2.2.heap.size) (hL : Ls ≤ 2048) (hrm : X.2.2.2.1 = room_1) (hn : 4 * n + 4 ≤ Ls) (hN : Nx X D Q b n k) (hC : CAbs c V) (hM : MAbs m V) (hW : WfV V) (hz1 : z.1 + (k + 1) ≤ 601024) (hz2 : z.2 + 6 * (k + 1) ≤ 7293034) : G X D Q z ((c, m, ow) : Sg) 192 [(0, some (.ref b)), (1, some (.ref (aVlt D))), (2, some (.ref (aMdl D))), (3, some (.ref (aOut D))), (4, some (.int (nI (4 * n))))] [] := by
  have hD := C.ok
  refine g_aload_n (pc := 192) (i := 1) C d_L_law_192 rfl rfl ?_
  refine g_aload_n (pc := 193) (i := 0) C d_L_law_193 rfl rfl ?_
  refine g_iload (pc := 194) C d_L_law_194 rfl ?_
  refine g_iconst (pc := 196) C d_L_law_196 icn_1 ?_
  refine g_iadd (pc := 197) C d_L_law_197 ?_
  refine g_sld (pc := 198) C hX hb (by rw [nI_add]; exact vp_in_nI (by omega) (by omega)) d_L_law_198 ?_
  refine g_aload_n (pc := 199) (i := 3) C d_L_law_199 rfl rfl ?_
  refine g_callSh (pc := 200) (As := [_, _, _]) (rest := []) C mw_L_begin d_L_law_200 (Nat.le_of_ble_eq_true rfl) rfl (Nat.le_of_ble_eq_true rfl) ⟨by rw [hrm]; show z.1 + 1 ≤ 601024; omega, by rw [hrm]; show z.2 + 6 ≤ 7293034; omega⟩ (h_L_begin _ hD hO hC hW) (fun r200 u200 hp200 => ?_)
  obtain ⟨c2, hC2, hcs⟩ := hp200
  rcases hcs with ⟨zv, ho, rfl, rfl⟩ | ⟨e, ho, rfl, rfl⟩
  · skip
    refine g_istore (pc := 203) C d_L_law_203 (by decide) rfl ?_
    refine g_aload_n (pc := 205) (i := 2) C d_L_law_205 rfl rfl ?_
    refine g_aload_n (pc := 206) (i := 0) C d_L_law_206 rfl rfl ?_
    refine g_iload (pc := 207) C d_L_law_207 rfl ?_
    refine g_iconst (pc := 209) C d_L_law_209 icn_1 ?_
    refine g_iadd (pc := 210) C d_L_law_210 ?_
    refine g_sld (pc := 211) C hX hb (by rw [nI_add]; exact vp_in_nI (by omega) (by omega)) d_L_law_211 ?_
    refine g_callVp (pc := 212) (As := [_]) C my_M_begin mv_M_begin cl_L_61 is_M d_L_law_212 (Nat.le_of_ble_eq_true rfl) rfl (Nat.le_of_ble_eq_true rfl) ⟨by rw [hrm]; show z.1 + 1 ≤ 601024; omega, by rw [hrm]; show z.2 + 6 ≤ 7293034; omega⟩ (x_M_begin _ hD hM hW) (fun r212 u212 hp212 => ?_)
    obtain ⟨m2, rfl, hM2, hk2⟩ := hp212
    obtain ⟨rfl, ht⟩ : r212 = some (.int zv) ∧ m2.1 0 0 = 0 := by
      rcases hk2 with ⟨z2, ho2, hr2, ht2⟩ | ⟨e2, ho2, -, -⟩
      · rw [ho] at ho2
        cases ho2
        exact ⟨hr2, ht2⟩
      · rw [ho] at ho2
        cases ho2
    refine g_istore (pc := 215) C d_L_law_215 (by decide) rfl ?_
    refine g_aload_n (pc := 217) (i := 2) C d_L_law_217 rfl rfl ?_
    refine g_callV1 (pc := 218) (As := []) C my_M_thrown mv_M_thrown cl_L_62 is_M d_L_law_218 (Nat.le_of_ble_eq_true rfl) rfl (Nat.le_of_ble_eq_true rfl) ⟨by rw [hrm]; show z.1 + 1 ≤ 601024; omega, by rw [hrm]; show z.2 + 6 ≤ 7293034; omega⟩ (c_M_thrown _ hD) ?_
    rw [ht]
    refine g_iload (pc := 221) C d_L_law_221 rfl ?_
    refine g_icmp_eq (pc := 223) (tgt := 228) C d_L_law_223 (by decide) (fun h223 => ?_) (fun h223 => ?_)
    · skip
      refine g_iload (pc := 228) C d_L_law_228 rfl ?_
      refine g_if_ne (pc := 230) (tgt := 245) C d_L_law_230 (by decide) (fun h230 => ?_) (fun h230 => ?_)
      · first | exact absurd h230 (rfl) | exact absurd (rfl) h230
      · skip
        refine g_aload_n (pc := 233) (i := 3) C d_L_law_233 rfl rfl ?_
        refine g_iconst (pc := 234) C d_L_law_234 icn_0 ?_
        refine ga_out (pc := 235) C (vp_in_nI (show 0 < 1 by decide) (by decide)) d_L_law_235 ?_
        rw [nI_clamp (by decide), pk_uLs]
        refine g_iload (pc := 236) C d_L_law_236 rfl ?_
        refine g_i2l (pc := 238) C d_L_law_238 ?_
        refine g_lcmp (pc := 239) C d_L_law_239 ?_
        refine g_if_eq (pc := 240) (tgt := 245) C d_L_law_240 (by decide) (fun h240 => ?_) (fun h240 => ?_)
        · skip
          refine g_goto (pc := 245) (tgt := 978) C d_L_law_245 (by decide) ?_
          exact G.lf (hN c2 m2 _ _ (z.1 + 1, z.2 + 6) hC2 hM2 (oBegin_wf hW) (by show z.1 + 1 + k ≤ 601024; omega) (by show z.2 + 6 + 6 * k ≤ 7293034; omega)) (sb rfl (sb rfl (sb rfl (sb rfl (sb rfl sn)))))
        · first | exact absurd h240 (lg_c0.mpr rfl) | exact absurd (lg_c0.mpr rfl) h240
    · first | exact absurd h223 (rfl) | exact absurd (rfl) h223
  · skip
    refine g_istore (pc := 203) C d_L_law_203 (by decide) rfl ?_
    refine g_aload_n (pc := 205) (i := 2) C d_L_law_205 rfl rfl ?_
    refine g_aload_n (pc := 206) (i := 0) C d_L_law_206 rfl rfl ?_
    refine g_iload (pc := 207) C d_L_law_207 rfl ?_
    refine g_iconst (pc := 209) C d_L_law_209 icn_1 ?_
    refine g_iadd (pc := 210) C d_L_law_210 ?_
    refine g_sld (pc := 211) C hX hb (by rw [nI_add]; exact vp_in_nI (by omega) (by omega)) d_L_law_211 ?_
    refine g_callVp (pc := 212) (As := [_]) C my_M_begin mv_M_begin cl_L_61 is_M d_L_law_212 (Nat.le_of_ble_eq_true rfl) rfl (Nat.le_of_ble_eq_true rfl) ⟨by rw [hrm]; show z.1 + 1 ≤ 601024; omega, by rw [hrm]; show z.2 + 6 ≤ 7293034; omega⟩ (x_M_begin _ hD hM hW) (fun r212 u212 hp212 => ?_)
    obtain ⟨m2, rfl, hM2, hk2⟩ := hp212
    obtain ⟨rfl, ht⟩ : r212 = some (.int 0) ∧ m2.1 0 0 = cdA e := by
      rcases hk2 with ⟨z2, ho2, -, -⟩ | ⟨e2, ho2, hr2, ht2⟩
      · rw [ho] at ho2
        cases ho2
      · rw [ho] at ho2
        cases ho2
        exact ⟨hr2, ht2⟩
    refine g_istore (pc := 215) C d_L_law_215 (by decide) rfl ?_
    refine g_aload_n (pc := 217) (i := 2) C d_L_law_217 rfl rfl ?_
    refine g_callV1 (pc := 218) (As := []) C my_M_thrown mv_M_thrown cl_L_62 is_M d_L_law_218 (Nat.le_of_ble_eq_true rfl) rfl (Nat.le_of_ble_eq_true rfl) ⟨by rw [hrm]; show z.1 + 1 ≤ 601024; omega, by rw [hrm]; show z.2 + 6 ≤ 7293034; omega⟩ (c_M_thrown _ hD) ?_
    rw [ht]
    refine g_iload (pc := 221) C d_L_law_221 rfl ?_
    refine g_icmp_eq (pc := 223) (tgt := 228) C d_L_law_223 (by decide) (fun h223 => ?_) (fun h223 => ?_)
    · skip
      refine g_iload (pc := 228) C d_L_law_228 rfl ?_
      refine g_if_ne (pc := 230) (tgt := 245) C d_L_law_230 (by decide) (fun h230 => ?_) (fun h230 => ?_)
      · skip
        refine g_goto (pc := 245) (tgt := 978) C d_L_law_245 (by decide) ?_
        exact G.lf (hN c2 m2 _ _ (z.1 + 1, z.2 + 6) hC2 hM2 (oBegin_wf hW) (by show z.1 + 1 + k ≤ 601024; omega) (by show z.2 + 6 + 6 * k ≤ 7293034; omega)) (sb rfl (sb rfl (sb rfl (sb rfl (sb rfl sn)))))
      · first | exact absurd h230 (cdA_0 (by have := er_begin e ho; omega)) | exact absurd (cdA_0 (by have := er_begin e ho; omega)) h230
    · first | exact absurd h223 (rfl) | exact absurd (rfl) h223
set_option maxRecDepth 100000 in
set_option maxHeartbeats 4000000 in
theorem lcs_3 {X : Cx} {D : Dt} {Q : State → Prop} {b Ls n k : Nat} {xs : Nat → Int32} {c m : Cs} {ow : Nat → Int64} {V : Vt} {z : Nat × Nat} (C : Fx X D R_L code 7 12 (some .boolean)) (hO : OkT X.2.1 D) (hX : va_X b Ls xs X.2.2.2.2.1 X.2.2.2.2.1.heap) (hb : b < D.2.2.2.heap.size) (hL : Ls ≤ 2048) (hrm : X.2.2.2.1 = room_1) (hn : 4 * n + 4 ≤ Ls) (hN : Nx X D Q b n k) (hC : CAbs c V) (hM : MAbs m V) (hW : WfV V) (hz1 : z.1 + (k + 1) ≤ 601024) (hz2 : z.2 + 6 * (k + 1) ≤ 7293034) : G X D Q z ((c, m, ow) : Sg) 248 [(0, some (.ref b)), (1, some (.ref (aVlt D))), (2, some (.ref (aMdl D))), (3, some (.ref (aOut D))), (4, some (.int (nI (4 * n))))] [] := by
  have hD := C.ok
  refine g_aload_n (pc := 248) (i := 1) C d_L_law_248 rfl rfl ?_
  refine g_aload_n (pc := 249) (i := 0) C d_L_law_249 rfl rfl ?_
  refine g_iload (pc := 250) C d_L_law_250 rfl ?_
  refine g_iconst (pc := 252) C d_L_law_252 icn_1 ?_
  refine g_iadd (pc := 253) C d_L_law_253 ?_
  refine g_sld (pc := 254) C hX hb (by rw [nI_add]; exact vp_in_nI (by omega) (by omega)) d_L_law_254 ?_
  refine g_aload_n (pc := 255) (i := 0) C d_L_law_255 rfl rfl ?_
  refine g_iload (pc := 256) C d_L_law_256 rfl ?_
  refine g_iconst (pc := 258) C d_L_law_258 icn_2 ?_
  refine g_iadd (pc := 259) C d_L_law_259 ?_
  refine g_sld (pc := 260) C hX hb (by rw [nI_add]; exact vp_in_nI (by omega) (by omega)) d_L_law_260 ?_
  refine g_aload_n (pc := 261) (i := 0) C d_L_law_261 rfl rfl ?_
  refine g_iload (pc := 262) C d_L_law_262 rfl ?_
  refine g_iconst (pc := 264) C d_L_law_264 icn_3 ?_
  refine g_iadd (pc := 265) C d_L_law_265 ?_
  refine g_sld (pc := 266) C hX hb (by rw [nI_add]; exact vp_in_nI (by omega) (by omega)) d_L_law_266 ?_
  refine g_aload_n (pc := 267) (i := 3) C d_L_law_267 rfl rfl ?_
  refine g_callSh (pc := 268) (As := [_, _, _, _, _]) (rest := []) C mw_L_append d_L_law_268 (Nat.le_of_ble_eq_true rfl) rfl (Nat.le_of_ble_eq_true rfl) ⟨by rw [hrm]; show z.1 + 1 ≤ 601024; omega, by rw [hrm]; show z.2 + 6 ≤ 7293034; omega⟩ (h_L_append _ hD hO hC hW) (fun r268 u268 hp268 => ?_)
  obtain ⟨c2, hC2, hcs⟩ := hp268
  rcases hcs with ⟨zv, ho, rfl, rfl⟩ | ⟨e, ho, rfl, rfl⟩
  · skip
    refine g_istore (pc := 271) C d_L_law_271 (by decide) rfl ?_
    refine g_aload_n (pc := 273) (i := 2) C d_L_law_273 rfl rfl ?_
    refine g_aload_n (pc := 274) (i := 0) C d_L_law_274 rfl rfl ?_
    refine g_iload (pc := 275) C d_L_law_275 rfl ?_
    refine g_iconst (pc := 277) C d_L_law_277 icn_1 ?_
    refine g_iadd (pc := 278) C d_L_law_278 ?_
    refine g_sld (pc := 279) C hX hb (by rw [nI_add]; exact vp_in_nI (by omega) (by omega)) d_L_law_279 ?_
    refine g_aload_n (pc := 280) (i := 0) C d_L_law_280 rfl rfl ?_
    refine g_iload (pc := 281) C d_L_law_281 rfl ?_
    refine g_iconst (pc := 283) C d_L_law_283 icn_2 ?_
    refine g_iadd (pc := 284) C d_L_law_284 ?_
    refine g_sld (pc := 285) C hX hb (by rw [nI_add]; exact vp_in_nI (by omega) (by omega)) d_L_law_285 ?_
    refine g_aload_n (pc := 286) (i := 0) C d_L_law_286 rfl rfl ?_
    refine g_iload (pc := 287) C d_L_law_287 rfl ?_
    refine g_iconst (pc := 289) C d_L_law_289 icn_3 ?_
    refine g_iadd (pc := 290) C d_L_law_290 ?_
    refine g_sld (pc := 291) C hX hb (by rw [nI_add]; exact vp_in_nI (by omega) (by omega)) d_L_law_291 ?_
    refine g_callVp (pc := 292) (As := [_, _, _]) C my_M_append mv_M_append cl_L_69 is_M d_L_law_292 (Nat.le_of_ble_eq_true rfl) rfl (Nat.le_of_ble_eq_true rfl) ⟨by rw [hrm]; show z.1 + 1 ≤ 601024; omega, by rw [hrm]; show z.2 + 6 ≤ 7293034; omega⟩ (x_M_append _ hD hM hW) (fun r292 u292 hp292 => ?_)
    obtain ⟨m2, rfl, hM2, hk2⟩ := hp292
    obtain ⟨rfl, ht⟩ : r292 = some (.int zv) ∧ m2.1 0 0 = 0 := by
      rcases hk2 with ⟨z2, ho2, hr2, ht2⟩ | ⟨e2, ho2, -, -⟩
      · rw [ho] at ho2
        cases ho2
        exact ⟨hr2, ht2⟩
      · rw [ho] at ho2
        cases ho2
    refine g_istore (pc := 295) C d_L_law_295 (by decide) rfl ?_
    refine g_aload_n (pc := 297) (i := 2) C d_L_law_297 rfl rfl ?_
    refine g_callV1 (pc := 298) (As := []) C my_M_thrown mv_M_thrown cl_L_62 is_M d_L_law_298 (Nat.le_of_ble_eq_true rfl) rfl (Nat.le_of_ble_eq_true rfl) ⟨by rw [hrm]; show z.1 + 1 ≤ 601024; omega, by rw [hrm]; show z.2 + 6 ≤ 7293034; omega⟩ (c_M_thrown _ hD) ?_
    rw [ht]
    refine g_iload (pc := 301) C d_L_law_301 rfl ?_
    refine g_icmp_eq (pc := 303) (tgt := 308) C d_L_law_303 (by decide) (fun h303 => ?_) (fun h303 => ?_)
    · skip
      refine g_iload (pc := 308) C d_L_law_308 rfl ?_
      refine g_if_ne (pc := 310) (tgt := 325) C d_L_law_310 (by decide) (fun h310 => ?_) (fun h310 => ?_)
      · first | exact absurd h310 (rfl) | exact absurd (rfl) h310
      · skip
        refine g_aload_n (pc := 313) (i := 3) C d_L_law_313 rfl rfl ?_
        refine g_iconst (pc := 314) C d_L_law_314 icn_0 ?_
        refine ga_out (pc := 315) C (vp_in_nI (show 0 < 1 by decide) (by decide)) d_L_law_315 ?_
        rw [nI_clamp (by decide), pk_uLs]
        refine g_iload (pc := 316) C d_L_law_316 rfl ?_
        refine g_i2l (pc := 318) C d_L_law_318 ?_
        refine g_lcmp (pc := 319) C d_L_law_319 ?_
        refine g_if_eq (pc := 320) (tgt := 325) C d_L_law_320 (by decide) (fun h320 => ?_) (fun h320 => ?_)
        · skip
          refine g_goto (pc := 325) (tgt := 978) C d_L_law_325 (by decide) ?_
          exact G.lf (hN c2 m2 _ _ (z.1 + 1, z.2 + 6) hC2 hM2 (oAppend_wf hW) (by show z.1 + 1 + k ≤ 601024; omega) (by show z.2 + 6 + 6 * k ≤ 7293034; omega)) (sb rfl (sb rfl (sb rfl (sb rfl (sb rfl sn)))))
        · first | exact absurd h320 (lg_c0.mpr rfl) | exact absurd (lg_c0.mpr rfl) h320
    · first | exact absurd h303 (rfl) | exact absurd (rfl) h303
  · skip
    refine g_istore (pc := 271) C d_L_law_271 (by decide) rfl ?_
    refine g_aload_n (pc := 273) (i := 2) C d_L_law_273 rfl rfl ?_
    refine g_aload_n (pc := 274) (i := 0) C d_L_law_274 rfl rfl ?_
    refine g_iload (pc := 275) C d_L_law_275 rfl ?_
    refine g_iconst (pc := 277) C d_L_law_277 icn_1 ?_
    refine g_iadd (pc := 278) C d_L_law_278 ?_
    refine g_sld (pc := 279) C hX hb (by rw [nI_add]; exact vp_in_nI (by omega) (by omega)) d_L_law_279 ?_
    refine g_aload_n (pc := 280) (i := 0) C d_L_law_280 rfl rfl ?_
    refine g_iload (pc := 281) C d_L_law_281 rfl ?_
    refine g_iconst (pc := 283) C d_L_law_283 icn_2 ?_
    refine g_iadd (pc := 284) C d_L_law_284 ?_
    refine g_sld (pc := 285) C hX hb (by rw [nI_add]; exact vp_in_nI (by omega) (by omega)) d_L_law_285 ?_
    refine g_aload_n (pc := 286) (i := 0) C d_L_law_286 rfl rfl ?_
    refine g_iload (pc := 287) C d_L_law_287 rfl ?_
    refine g_iconst (pc := 289) C d_L_law_289 icn_3 ?_
    refine g_iadd (pc := 290) C d_L_law_290 ?_
    refine g_sld (pc := 291) C hX hb (by rw [nI_add]; exact vp_in_nI (by omega) (by omega)) d_L_law_291 ?_
    refine g_callVp (pc := 292) (As := [_, _, _]) C my_M_append mv_M_append cl_L_69 is_M d_L_law_292 (Nat.le_of_ble_eq_true rfl) rfl (Nat.le_of_ble_eq_true rfl) ⟨by rw [hrm]; show z.1 + 1 ≤ 601024; omega, by rw [hrm]; show z.2 + 6 ≤ 7293034; omega⟩ (x_M_append _ hD hM hW) (fun r292 u292 hp292 => ?_)
    obtain ⟨m2, rfl, hM2, hk2⟩ := hp292
    obtain ⟨rfl, ht⟩ : r292 = some (.int 0) ∧ m2.1 0 0 = cdA e := by
      rcases hk2 with ⟨z2, ho2, -, -⟩ | ⟨e2, ho2, hr2, ht2⟩
      · rw [ho] at ho2
        cases ho2
      · rw [ho] at ho2
        cases ho2
        exact ⟨hr2, ht2⟩
    refine g_istore (pc := 295) C d_L_law_295 (by decide) rfl ?_
    refine g_aload_n (pc := 297) (i := 2) C d_L_law_297 rfl rfl ?_
    refine g_callV1 (pc := 298) (As := []) C my_M_thrown mv_M_thrown cl_L_62 is_M d_L_law_298 (Nat.le_of_ble_eq_true rfl) rfl (Nat.le_of_ble_eq_true rfl) ⟨by rw [hrm]; show z.1 + 1 ≤ 601024; omega, by rw [hrm]; show z.2 + 6 ≤ 7293034; omega⟩ (c_M_thrown _ hD) ?_
    rw [ht]
    refine g_iload (pc := 301) C d_L_law_301 rfl ?_
    refine g_icmp_eq (pc := 303) (tgt := 308) C d_L_law_303 (by decide) (fun h303 => ?_) (fun h303 => ?_)
    · skip
      refine g_iload (pc := 308) C d_L_law_308 rfl ?_
      refine g_if_ne (pc := 310) (tgt := 325) C d_L_law_310 (by decide) (fun h310 => ?_) (fun h310 => ?_)
      · skip
        refine g_goto (pc := 325) (tgt := 978) C d_L_law_325 (by decide) ?_
        exact G.lf (hN c2 m2 _ _ (z.1 + 1, z.2 + 6) hC2 hM2 (oAppend_wf hW) (by show z.1 + 1 + k ≤ 601024; omega) (by show z.2 + 6 + 6 * k ≤ 7293034; omega)) (sb rfl (sb rfl (sb rfl (sb rfl (sb rfl sn)))))
      · first | exact absurd h310 (cdA_0 (by have := er_append e ho; omega)) | exact absurd (cdA_0 (by have := er_append e ho; omega)) h310
    · first | exact absurd h303 (rfl) | exact absurd (rfl) h303
set_option maxRecDepth 100000 in
set_option maxHeartbeats 4000000 in
theorem lcs_4 {X : Cx} {D : Dt} {Q : State → Prop} {b Ls n k : Nat} {xs : Nat → Int32} {c m : Cs} {ow : Nat → Int64} {V : Vt} {z : Nat × Nat} (C : Fx X D R_L code 7 12 (some .boolean)) (hO : OkT X.2.1 D) (hX : va_X b Ls xs X.2.2.2.2.1 X.2.2.2.2.1.heap) (hb : b < D.2.2.2.heap.size) (hL : Ls ≤ 2048) (hrm : X.2.2.2.1 = room_1) (hn : 4 * n + 4 ≤ Ls) (hN : Nx X D Q b n k) (hC : CAbs c V) (hM : MAbs m V) (hW : WfV V) (hz1 : z.1 + (k + 1) ≤ 601024) (hz2 : z.2 + 6 * (k + 1) ≤ 7293034) : G X D Q z ((c, m, ow) : Sg) 328 [(0, some (.ref b)), (1, some (.ref (aVlt D))), (2, some (.ref (aMdl D))), (3, some (.ref (aOut D))), (4, some (.int (nI (4 * n))))] [] := by
  have hD := C.ok
  refine g_aload_n (pc := 328) (i := 1) C d_L_law_328 rfl rfl ?_
  refine g_aload_n (pc := 329) (i := 0) C d_L_law_329 rfl rfl ?_
  refine g_iload (pc := 330) C d_L_law_330 rfl ?_
  refine g_iconst (pc := 332) C d_L_law_332 icn_1 ?_
  refine g_iadd (pc := 333) C d_L_law_333 ?_
  refine g_sld (pc := 334) C hX hb (by rw [nI_add]; exact vp_in_nI (by omega) (by omega)) d_L_law_334 ?_
  refine g_aload_n (pc := 335) (i := 3) C d_L_law_335 rfl rfl ?_
  refine g_callSh (pc := 336) (As := [_, _, _]) (rest := []) C mw_L_commit d_L_law_336 (Nat.le_of_ble_eq_true rfl) rfl (Nat.le_of_ble_eq_true rfl) ⟨by rw [hrm]; show z.1 + 1 ≤ 601024; omega, by rw [hrm]; show z.2 + 6 ≤ 7293034; omega⟩ (h_L_commit _ hD hO hC hW) (fun r336 u336 hp336 => ?_)
  obtain ⟨c2, hC2, hcs⟩ := hp336
  rcases hcs with ⟨zv, ho, rfl, rfl⟩ | ⟨e, ho, rfl, rfl⟩
  · skip
    refine g_istore (pc := 339) C d_L_law_339 (by decide) rfl ?_
    refine g_aload_n (pc := 341) (i := 2) C d_L_law_341 rfl rfl ?_
    refine g_aload_n (pc := 342) (i := 0) C d_L_law_342 rfl rfl ?_
    refine g_iload (pc := 343) C d_L_law_343 rfl ?_
    refine g_iconst (pc := 345) C d_L_law_345 icn_1 ?_
    refine g_iadd (pc := 346) C d_L_law_346 ?_
    refine g_sld (pc := 347) C hX hb (by rw [nI_add]; exact vp_in_nI (by omega) (by omega)) d_L_law_347 ?_
    refine g_callVp (pc := 348) (As := [_]) C my_M_commit mv_M_commit cl_L_72 is_M d_L_law_348 (Nat.le_of_ble_eq_true rfl) rfl (Nat.le_of_ble_eq_true rfl) ⟨by rw [hrm]; show z.1 + 1 ≤ 601024; omega, by rw [hrm]; show z.2 + 6 ≤ 7293034; omega⟩ (x_M_commit _ hD hM hW) (fun r348 u348 hp348 => ?_)
    obtain ⟨m2, rfl, hM2, hk2⟩ := hp348
    obtain ⟨rfl, ht⟩ : r348 = some (.int zv) ∧ m2.1 0 0 = 0 := by
      rcases hk2 with ⟨z2, ho2, hr2, ht2⟩ | ⟨e2, ho2, -, -⟩
      · rw [ho] at ho2
        cases ho2
        exact ⟨hr2, ht2⟩
      · rw [ho] at ho2
        cases ho2
    refine g_istore (pc := 351) C d_L_law_351 (by decide) rfl ?_
    refine g_aload_n (pc := 353) (i := 2) C d_L_law_353 rfl rfl ?_
    refine g_callV1 (pc := 354) (As := []) C my_M_thrown mv_M_thrown cl_L_62 is_M d_L_law_354 (Nat.le_of_ble_eq_true rfl) rfl (Nat.le_of_ble_eq_true rfl) ⟨by rw [hrm]; show z.1 + 1 ≤ 601024; omega, by rw [hrm]; show z.2 + 6 ≤ 7293034; omega⟩ (c_M_thrown _ hD) ?_
    rw [ht]
    refine g_iload (pc := 357) C d_L_law_357 rfl ?_
    refine g_icmp_eq (pc := 359) (tgt := 364) C d_L_law_359 (by decide) (fun h359 => ?_) (fun h359 => ?_)
    · skip
      refine g_iload (pc := 364) C d_L_law_364 rfl ?_
      refine g_if_ne (pc := 366) (tgt := 381) C d_L_law_366 (by decide) (fun h366 => ?_) (fun h366 => ?_)
      · first | exact absurd h366 (rfl) | exact absurd (rfl) h366
      · skip
        refine g_aload_n (pc := 369) (i := 3) C d_L_law_369 rfl rfl ?_
        refine g_iconst (pc := 370) C d_L_law_370 icn_0 ?_
        refine ga_out (pc := 371) C (vp_in_nI (show 0 < 1 by decide) (by decide)) d_L_law_371 ?_
        rw [nI_clamp (by decide), pk_uLs]
        refine g_iload (pc := 372) C d_L_law_372 rfl ?_
        refine g_i2l (pc := 374) C d_L_law_374 ?_
        refine g_lcmp (pc := 375) C d_L_law_375 ?_
        refine g_if_eq (pc := 376) (tgt := 381) C d_L_law_376 (by decide) (fun h376 => ?_) (fun h376 => ?_)
        · skip
          refine g_goto (pc := 381) (tgt := 978) C d_L_law_381 (by decide) ?_
          exact G.lf (hN c2 m2 _ _ (z.1 + 1, z.2 + 6) hC2 hM2 (oCommit_wf hW) (by show z.1 + 1 + k ≤ 601024; omega) (by show z.2 + 6 + 6 * k ≤ 7293034; omega)) (sb rfl (sb rfl (sb rfl (sb rfl (sb rfl sn)))))
        · first | exact absurd h376 (lg_c0.mpr rfl) | exact absurd (lg_c0.mpr rfl) h376
    · first | exact absurd h359 (rfl) | exact absurd (rfl) h359
  · skip
    refine g_istore (pc := 339) C d_L_law_339 (by decide) rfl ?_
    refine g_aload_n (pc := 341) (i := 2) C d_L_law_341 rfl rfl ?_
    refine g_aload_n (pc := 342) (i := 0) C d_L_law_342 rfl rfl ?_
    refine g_iload (pc := 343) C d_L_law_343 rfl ?_
    refine g_iconst (pc := 345) C d_L_law_345 icn_1 ?_
    refine g_iadd (pc := 346) C d_L_law_346 ?_
    refine g_sld (pc := 347) C hX hb (by rw [nI_add]; exact vp_in_nI (by omega) (by omega)) d_L_law_347 ?_
    refine g_callVp (pc := 348) (As := [_]) C my_M_commit mv_M_commit cl_L_72 is_M d_L_law_348 (Nat.le_of_ble_eq_true rfl) rfl (Nat.le_of_ble_eq_true rfl) ⟨by rw [hrm]; show z.1 + 1 ≤ 601024; omega, by rw [hrm]; show z.2 + 6 ≤ 7293034; omega⟩ (x_M_commit _ hD hM hW) (fun r348 u348 hp348 => ?_)
    obtain ⟨m2, rfl, hM2, hk2⟩ := hp348
    obtain ⟨rfl, ht⟩ : r348 = some (.int 0) ∧ m2.1 0 0 = cdA e := by
      rcases hk2 with ⟨z2, ho2, -, -⟩ | ⟨e2, ho2, hr2, ht2⟩
      · rw [ho] at ho2
        cases ho2
      · rw [ho] at ho2
        cases ho2
        exact ⟨hr2, ht2⟩
    refine g_istore (pc := 351) C d_L_law_351 (by decide) rfl ?_
    refine g_aload_n (pc := 353) (i := 2) C d_L_law_353 rfl rfl ?_
    refine g_callV1 (pc := 354) (As := []) C my_M_thrown mv_M_thrown cl_L_62 is_M d_L_law_354 (Nat.le_of_ble_eq_true rfl) rfl (Nat.le_of_ble_eq_true rfl) ⟨by rw [hrm]; show z.1 + 1 ≤ 601024; omega, by rw [hrm]; show z.2 + 6 ≤ 7293034; omega⟩ (c_M_thrown _ hD) ?_
    rw [ht]
    refine g_iload (pc := 357) C d_L_law_357 rfl ?_
    refine g_icmp_eq (pc := 359) (tgt := 364) C d_L_law_359 (by decide) (fun h359 => ?_) (fun h359 => ?_)
    · skip
      refine g_iload (pc := 364) C d_L_law_364 rfl ?_
      refine g_if_ne (pc := 366) (tgt := 381) C d_L_law_366 (by decide) (fun h366 => ?_) (fun h366 => ?_)
      · skip
        refine g_goto (pc := 381) (tgt := 978) C d_L_law_381 (by decide) ?_
        exact G.lf (hN c2 m2 _ _ (z.1 + 1, z.2 + 6) hC2 hM2 (oCommit_wf hW) (by show z.1 + 1 + k ≤ 601024; omega) (by show z.2 + 6 + 6 * k ≤ 7293034; omega)) (sb rfl (sb rfl (sb rfl (sb rfl (sb rfl sn)))))
      · first | exact absurd h366 (cdA_0 (by have := er_commit e ho; omega)) | exact absurd (cdA_0 (by have := er_commit e ho; omega)) h366
    · first | exact absurd h359 (rfl) | exact absurd (rfl) h359
set_option maxRecDepth 100000 in
set_option maxHeartbeats 4000000 in
theorem lcs_5 {X : Cx} {D : Dt} {Q : State → Prop} {b Ls n k : Nat} {xs : Nat → Int32} {c m : Cs} {ow : Nat → Int64} {V : Vt} {z : Nat × Nat} (C : Fx X D R_L code 7 12 (some .boolean)) (hO : OkT X.2.1 D) (hX : va_X b Ls xs X.2.2.2.2.1 X.2.2.2.2.1.heap) (hb : b < D.2.2.2.heap.size) (hL : Ls ≤ 2048) (hrm : X.2.2.2.1 = room_1) (hn : 4 * n + 4 ≤ Ls) (hN : Nx X D Q b n k) (hC : CAbs c V) (hM : MAbs m V) (hW : WfV V) (hz1 : z.1 + (k + 1) ≤ 601024) (hz2 : z.2 + 6 * (k + 1) ≤ 7293034) : G X D Q z ((c, m, ow) : Sg) 384 [(0, some (.ref b)), (1, some (.ref (aVlt D))), (2, some (.ref (aMdl D))), (3, some (.ref (aOut D))), (4, some (.int (nI (4 * n))))] [] := by
  have hD := C.ok
  refine g_aload_n (pc := 384) (i := 1) C d_L_law_384 rfl rfl ?_
  refine g_aload_n (pc := 385) (i := 0) C d_L_law_385 rfl rfl ?_
  refine g_iload (pc := 386) C d_L_law_386 rfl ?_
  refine g_iconst (pc := 388) C d_L_law_388 icn_1 ?_
  refine g_iadd (pc := 389) C d_L_law_389 ?_
  refine g_sld (pc := 390) C hX hb (by rw [nI_add]; exact vp_in_nI (by omega) (by omega)) d_L_law_390 ?_
  refine g_aload_n (pc := 391) (i := 3) C d_L_law_391 rfl rfl ?_
  refine g_callSh (pc := 392) (As := [_, _, _]) (rest := []) C mw_L_abort d_L_law_392 (Nat.le_of_ble_eq_true rfl) rfl (Nat.le_of_ble_eq_true rfl) ⟨by rw [hrm]; show z.1 + 1 ≤ 601024; omega, by rw [hrm]; show z.2 + 6 ≤ 7293034; omega⟩ (h_L_abort _ hD hO hC hW) (fun r392 u392 hp392 => ?_)
  obtain ⟨c2, hC2, hcs⟩ := hp392
  rcases hcs with ⟨zv, ho, rfl, rfl⟩ | ⟨e, ho, rfl, rfl⟩
  · skip
    refine g_istore (pc := 395) C d_L_law_395 (by decide) rfl ?_
    refine g_aload_n (pc := 397) (i := 2) C d_L_law_397 rfl rfl ?_
    refine g_aload_n (pc := 398) (i := 0) C d_L_law_398 rfl rfl ?_
    refine g_iload (pc := 399) C d_L_law_399 rfl ?_
    refine g_iconst (pc := 401) C d_L_law_401 icn_1 ?_
    refine g_iadd (pc := 402) C d_L_law_402 ?_
    refine g_sld (pc := 403) C hX hb (by rw [nI_add]; exact vp_in_nI (by omega) (by omega)) d_L_law_403 ?_
    refine g_callVp (pc := 404) (As := [_]) C my_M_abort mv_M_abort cl_L_75 is_M d_L_law_404 (Nat.le_of_ble_eq_true rfl) rfl (Nat.le_of_ble_eq_true rfl) ⟨by rw [hrm]; show z.1 + 1 ≤ 601024; omega, by rw [hrm]; show z.2 + 6 ≤ 7293034; omega⟩ (x_M_abort _ hD hM hW) (fun r404 u404 hp404 => ?_)
    obtain ⟨m2, rfl, hM2, hk2⟩ := hp404
    obtain ⟨rfl, ht⟩ : r404 = some (.int zv) ∧ m2.1 0 0 = 0 := by
      rcases hk2 with ⟨z2, ho2, hr2, ht2⟩ | ⟨e2, ho2, -, -⟩
      · rw [ho] at ho2
        cases ho2
        exact ⟨hr2, ht2⟩
      · rw [ho] at ho2
        cases ho2
    refine g_istore (pc := 407) C d_L_law_407 (by decide) rfl ?_
    refine g_aload_n (pc := 409) (i := 2) C d_L_law_409 rfl rfl ?_
    refine g_callV1 (pc := 410) (As := []) C my_M_thrown mv_M_thrown cl_L_62 is_M d_L_law_410 (Nat.le_of_ble_eq_true rfl) rfl (Nat.le_of_ble_eq_true rfl) ⟨by rw [hrm]; show z.1 + 1 ≤ 601024; omega, by rw [hrm]; show z.2 + 6 ≤ 7293034; omega⟩ (c_M_thrown _ hD) ?_
    rw [ht]
    refine g_iload (pc := 413) C d_L_law_413 rfl ?_
    refine g_icmp_eq (pc := 415) (tgt := 420) C d_L_law_415 (by decide) (fun h415 => ?_) (fun h415 => ?_)
    · skip
      refine g_iload (pc := 420) C d_L_law_420 rfl ?_
      refine g_if_ne (pc := 422) (tgt := 437) C d_L_law_422 (by decide) (fun h422 => ?_) (fun h422 => ?_)
      · first | exact absurd h422 (rfl) | exact absurd (rfl) h422
      · skip
        refine g_aload_n (pc := 425) (i := 3) C d_L_law_425 rfl rfl ?_
        refine g_iconst (pc := 426) C d_L_law_426 icn_0 ?_
        refine ga_out (pc := 427) C (vp_in_nI (show 0 < 1 by decide) (by decide)) d_L_law_427 ?_
        rw [nI_clamp (by decide), pk_uLs]
        refine g_iload (pc := 428) C d_L_law_428 rfl ?_
        refine g_i2l (pc := 430) C d_L_law_430 ?_
        refine g_lcmp (pc := 431) C d_L_law_431 ?_
        refine g_if_eq (pc := 432) (tgt := 437) C d_L_law_432 (by decide) (fun h432 => ?_) (fun h432 => ?_)
        · skip
          refine g_goto (pc := 437) (tgt := 978) C d_L_law_437 (by decide) ?_
          exact G.lf (hN c2 m2 _ _ (z.1 + 1, z.2 + 6) hC2 hM2 (oAbort_wf hW) (by show z.1 + 1 + k ≤ 601024; omega) (by show z.2 + 6 + 6 * k ≤ 7293034; omega)) (sb rfl (sb rfl (sb rfl (sb rfl (sb rfl sn)))))
        · first | exact absurd h432 (lg_c0.mpr rfl) | exact absurd (lg_c0.mpr rfl) h432
    · first | exact absurd h415 (rfl) | exact absurd (rfl) h415
  · skip
    refine g_istore (pc := 395) C d_L_law_395 (by decide) rfl ?_
    refine g_aload_n (pc := 397) (i := 2) C d_L_law_397 rfl rfl ?_
    refine g_aload_n (pc := 398) (i := 0) C d_L_law_398 rfl rfl ?_
    refine g_iload (pc := 399) C d_L_law_399 rfl ?_
    refine g_iconst (pc := 401) C d_L_law_401 icn_1 ?_
    refine g_iadd (pc := 402) C d_L_law_402 ?_
    refine g_sld (pc := 403) C hX hb (by rw [nI_add]; exact vp_in_nI (by omega) (by omega)) d_L_law_403 ?_
    refine g_callVp (pc := 404) (As := [_]) C my_M_abort mv_M_abort cl_L_75 is_M d_L_law_404 (Nat.le_of_ble_eq_true rfl) rfl (Nat.le_of_ble_eq_true rfl) ⟨by rw [hrm]; show z.1 + 1 ≤ 601024; omega, by rw [hrm]; show z.2 + 6 ≤ 7293034; omega⟩ (x_M_abort _ hD hM hW) (fun r404 u404 hp404 => ?_)
    obtain ⟨m2, rfl, hM2, hk2⟩ := hp404
    obtain ⟨rfl, ht⟩ : r404 = some (.int 0) ∧ m2.1 0 0 = cdA e := by
      rcases hk2 with ⟨z2, ho2, -, -⟩ | ⟨e2, ho2, hr2, ht2⟩
      · rw [ho] at ho2
        cases ho2
      · rw [ho] at ho2
        cases ho2
        exact ⟨hr2, ht2⟩
    refine g_istore (pc := 407) C d_L_law_407 (by decide) rfl ?_
    refine g_aload_n (pc := 409) (i := 2) C d_L_law_409 rfl rfl ?_
    refine g_callV1 (pc := 410) (As := []) C my_M_thrown mv_M_thrown cl_L_62 is_M d_L_law_410 (Nat.le_of_ble_eq_true rfl) rfl (Nat.le_of_ble_eq_true rfl) ⟨by rw [hrm]; show z.1 + 1 ≤ 601024; omega, by rw [hrm]; show z.2 + 6 ≤ 7293034; omega⟩ (c_M_thrown _ hD) ?_
    rw [ht]
    refine g_iload (pc := 413) C d_L_law_413 rfl ?_
    refine g_icmp_eq (pc := 415) (tgt := 420) C d_L_law_415 (by decide) (fun h415 => ?_) (fun h415 => ?_)
    · skip
      refine g_iload (pc := 420) C d_L_law_420 rfl ?_
      refine g_if_ne (pc := 422) (tgt := 437) C d_L_law_422 (by decide) (fun h422 => ?_) (fun h422 => ?_)
      · skip
        refine g_goto (pc := 437) (tgt := 978) C d_L_law_437 (by decide) ?_
        exact G.lf (hN c2 m2 _ _ (z.1 + 1, z.2 + 6) hC2 hM2 (oAbort_wf hW) (by show z.1 + 1 + k ≤ 601024; omega) (by show z.2 + 6 + 6 * k ≤ 7293034; omega)) (sb rfl (sb rfl (sb rfl (sb rfl (sb rfl sn)))))
      · first | exact absurd h422 (cdA_0 (by have := er_abort e ho; omega)) | exact absurd (cdA_0 (by have := er_abort e ho; omega)) h422
    · first | exact absurd h415 (rfl) | exact absurd (rfl) h415
set_option maxRecDepth 100000 in
set_option maxHeartbeats 4000000 in
theorem lcs_7 {X : Cx} {D : Dt} {Q : State → Prop} {b Ls n k : Nat} {xs : Nat → Int32} {c m : Cs} {ow : Nat → Int64} {V : Vt} {z : Nat × Nat} (C : Fx X D R_L code 7 12 (some .boolean)) (hO : OkT X.2.1 D) (hX : va_X b Ls xs X.2.2.2.2.1 X.2.2.2.2.1.heap) (hb : b < D.2.2.2.heap.size) (hL : Ls ≤ 2048) (hrm : X.2.2.2.1 = room_1) (hn : 4 * n + 4 ≤ Ls) (hN : Nx X D Q b n k) (hC : CAbs c V) (hM : MAbs m V) (hW : WfV V) (hz1 : z.1 + (k + 1) ≤ 601024) (hz2 : z.2 + 6 * (k + 1) ≤ 7293034) : G X D Q z ((c, m, ow) : Sg) 477 [(0, some (.ref b)), (1, some (.ref (aVlt D))), (2, some (.ref (aMdl D))), (3, some (.ref (aOut D))), (4, some (.int (nI (4 * n))))] [] := by
  have hD := C.ok
  refine g_aload_n (pc := 477) (i := 1) C d_L_law_477 rfl rfl ?_
  refine g_aload_n (pc := 478) (i := 0) C d_L_law_478 rfl rfl ?_
  refine g_iload (pc := 479) C d_L_law_479 rfl ?_
  refine g_iconst (pc := 481) C d_L_law_481 icn_1 ?_
  refine g_iadd (pc := 482) C d_L_law_482 ?_
  refine g_sld (pc := 483) C hX hb (by rw [nI_add]; exact vp_in_nI (by omega) (by omega)) d_L_law_483 ?_
  refine g_aload_n (pc := 484) (i := 0) C d_L_law_484 rfl rfl ?_
  refine g_iload (pc := 485) C d_L_law_485 rfl ?_
  refine g_iconst (pc := 487) C d_L_law_487 icn_2 ?_
  refine g_iadd (pc := 488) C d_L_law_488 ?_
  refine g_sld (pc := 489) C hX hb (by rw [nI_add]; exact vp_in_nI (by omega) (by omega)) d_L_law_489 ?_
  refine g_aload_n (pc := 490) (i := 3) C d_L_law_490 rfl rfl ?_
  refine g_callSh (pc := 491) (As := [_, _, _, _]) (rest := []) C mw_L_recover d_L_law_491 (Nat.le_of_ble_eq_true rfl) rfl (Nat.le_of_ble_eq_true rfl) ⟨by rw [hrm]; show z.1 + 1 ≤ 601024; omega, by rw [hrm]; show z.2 + 6 ≤ 7293034; omega⟩ (h_L_recover _ hD hO hC hW) (fun r491 u491 hp491 => ?_)
  obtain ⟨c2, hC2, hcs⟩ := hp491
  rcases hcs with ⟨zv, ho, rfl, rfl⟩ | ⟨e, ho, rfl, rfl⟩
  · skip
    refine g_istore (pc := 494) C d_L_law_494 (by decide) rfl ?_
    refine g_aload_n (pc := 496) (i := 2) C d_L_law_496 rfl rfl ?_
    refine g_aload_n (pc := 497) (i := 0) C d_L_law_497 rfl rfl ?_
    refine g_iload (pc := 498) C d_L_law_498 rfl ?_
    refine g_iconst (pc := 500) C d_L_law_500 icn_1 ?_
    refine g_iadd (pc := 501) C d_L_law_501 ?_
    refine g_sld (pc := 502) C hX hb (by rw [nI_add]; exact vp_in_nI (by omega) (by omega)) d_L_law_502 ?_
    refine g_aload_n (pc := 503) (i := 0) C d_L_law_503 rfl rfl ?_
    refine g_iload (pc := 504) C d_L_law_504 rfl ?_
    refine g_iconst (pc := 506) C d_L_law_506 icn_2 ?_
    refine g_iadd (pc := 507) C d_L_law_507 ?_
    refine g_sld (pc := 508) C hX hb (by rw [nI_add]; exact vp_in_nI (by omega) (by omega)) d_L_law_508 ?_
    refine g_callVp (pc := 509) (As := [_, _]) C my_M_recover mv_M_recover cl_L_84 is_M d_L_law_509 (Nat.le_of_ble_eq_true rfl) rfl (Nat.le_of_ble_eq_true rfl) ⟨by rw [hrm]; show z.1 + 1 ≤ 601024; omega, by rw [hrm]; show z.2 + 6 ≤ 7293034; omega⟩ (x_M_recover _ hD hM hW) (fun r509 u509 hp509 => ?_)
    obtain ⟨m2, rfl, hM2, hk2⟩ := hp509
    obtain ⟨rfl, ht⟩ : r509 = some (.int zv) ∧ m2.1 0 0 = 0 := by
      rcases hk2 with ⟨z2, ho2, hr2, ht2⟩ | ⟨e2, ho2, -, -⟩
      · rw [ho] at ho2
        cases ho2
        exact ⟨hr2, ht2⟩
      · rw [ho] at ho2
        cases ho2
    refine g_istore (pc := 512) C d_L_law_512 (by decide) rfl ?_
    refine g_aload_n (pc := 514) (i := 2) C d_L_law_514 rfl rfl ?_
    refine g_callV1 (pc := 515) (As := []) C my_M_thrown mv_M_thrown cl_L_62 is_M d_L_law_515 (Nat.le_of_ble_eq_true rfl) rfl (Nat.le_of_ble_eq_true rfl) ⟨by rw [hrm]; show z.1 + 1 ≤ 601024; omega, by rw [hrm]; show z.2 + 6 ≤ 7293034; omega⟩ (c_M_thrown _ hD) ?_
    rw [ht]
    refine g_iload (pc := 518) C d_L_law_518 rfl ?_
    refine g_icmp_eq (pc := 520) (tgt := 525) C d_L_law_520 (by decide) (fun h520 => ?_) (fun h520 => ?_)
    · skip
      refine g_iload (pc := 525) C d_L_law_525 rfl ?_
      refine g_if_ne (pc := 527) (tgt := 542) C d_L_law_527 (by decide) (fun h527 => ?_) (fun h527 => ?_)
      · first | exact absurd h527 (rfl) | exact absurd (rfl) h527
      · skip
        refine g_aload_n (pc := 530) (i := 3) C d_L_law_530 rfl rfl ?_
        refine g_iconst (pc := 531) C d_L_law_531 icn_0 ?_
        refine ga_out (pc := 532) C (vp_in_nI (show 0 < 1 by decide) (by decide)) d_L_law_532 ?_
        rw [nI_clamp (by decide), pk_uLs]
        refine g_iload (pc := 533) C d_L_law_533 rfl ?_
        refine g_i2l (pc := 535) C d_L_law_535 ?_
        refine g_lcmp (pc := 536) C d_L_law_536 ?_
        refine g_if_eq (pc := 537) (tgt := 542) C d_L_law_537 (by decide) (fun h537 => ?_) (fun h537 => ?_)
        · skip
          refine g_goto (pc := 542) (tgt := 978) C d_L_law_542 (by decide) ?_
          exact G.lf (hN c2 m2 _ _ (z.1 + 1, z.2 + 6) hC2 hM2 (oRecover_wf hW) (by show z.1 + 1 + k ≤ 601024; omega) (by show z.2 + 6 + 6 * k ≤ 7293034; omega)) (sb rfl (sb rfl (sb rfl (sb rfl (sb rfl sn)))))
        · first | exact absurd h537 (lg_c0.mpr rfl) | exact absurd (lg_c0.mpr rfl) h537
    · first | exact absurd h520 (rfl) | exact absurd (rfl) h520
  · skip
    refine g_istore (pc := 494) C d_L_law_494 (by decide) rfl ?_
    refine g_aload_n (pc := 496) (i := 2) C d_L_law_496 rfl rfl ?_
    refine g_aload_n (pc := 497) (i := 0) C d_L_law_497 rfl rfl ?_
    refine g_iload (pc := 498) C d_L_law_498 rfl ?_
    refine g_iconst (pc := 500) C d_L_law_500 icn_1 ?_
    refine g_iadd (pc := 501) C d_L_law_501 ?_
    refine g_sld (pc := 502) C hX hb (by rw [nI_add]; exact vp_in_nI (by omega) (by omega)) d_L_law_502 ?_
    refine g_aload_n (pc := 503) (i := 0) C d_L_law_503 rfl rfl ?_
    refine g_iload (pc := 504) C d_L_law_504 rfl ?_
    refine g_iconst (pc := 506) C d_L_law_506 icn_2 ?_
    refine g_iadd (pc := 507) C d_L_law_507 ?_
    refine g_sld (pc := 508) C hX hb (by rw [nI_add]; exact vp_in_nI (by omega) (by omega)) d_L_law_508 ?_
    refine g_callVp (pc := 509) (As := [_, _]) C my_M_recover mv_M_recover cl_L_84 is_M d_L_law_509 (Nat.le_of_ble_eq_true rfl) rfl (Nat.le_of_ble_eq_true rfl) ⟨by rw [hrm]; show z.1 + 1 ≤ 601024; omega, by rw [hrm]; show z.2 + 6 ≤ 7293034; omega⟩ (x_M_recover _ hD hM hW) (fun r509 u509 hp509 => ?_)
    obtain ⟨m2, rfl, hM2, hk2⟩ := hp509
    obtain ⟨rfl, ht⟩ : r509 = some (.int 0) ∧ m2.1 0 0 = cdA e := by
      rcases hk2 with ⟨z2, ho2, -, -⟩ | ⟨e2, ho2, hr2, ht2⟩
      · rw [ho] at ho2
        cases ho2
      · rw [ho] at ho2
        cases ho2
        exact ⟨hr2, ht2⟩
    refine g_istore (pc := 512) C d_L_law_512 (by decide) rfl ?_
    refine g_aload_n (pc := 514) (i := 2) C d_L_law_514 rfl rfl ?_
    refine g_callV1 (pc := 515) (As := []) C my_M_thrown mv_M_thrown cl_L_62 is_M d_L_law_515 (Nat.le_of_ble_eq_true rfl) rfl (Nat.le_of_ble_eq_true rfl) ⟨by rw [hrm]; show z.1 + 1 ≤ 601024; omega, by rw [hrm]; show z.2 + 6 ≤ 7293034; omega⟩ (c_M_thrown _ hD) ?_
    rw [ht]
    refine g_iload (pc := 518) C d_L_law_518 rfl ?_
    refine g_icmp_eq (pc := 520) (tgt := 525) C d_L_law_520 (by decide) (fun h520 => ?_) (fun h520 => ?_)
    · skip
      refine g_iload (pc := 525) C d_L_law_525 rfl ?_
      refine g_if_ne (pc := 527) (tgt := 542) C d_L_law_527 (by decide) (fun h527 => ?_) (fun h527 => ?_)
      · skip
        refine g_goto (pc := 542) (tgt := 978) C d_L_law_542 (by decide) ?_
        exact G.lf (hN c2 m2 _ _ (z.1 + 1, z.2 + 6) hC2 hM2 (oRecover_wf hW) (by show z.1 + 1 + k ≤ 601024; omega) (by show z.2 + 6 + 6 * k ≤ 7293034; omega)) (sb rfl (sb rfl (sb rfl (sb rfl (sb rfl sn)))))
      · first | exact absurd h527 (cdA_0 (by have := er_recover e ho; omega)) | exact absurd (cdA_0 (by have := er_recover e ho; omega)) h527
    · first | exact absurd h520 (rfl) | exact absurd (rfl) h520
set_option maxRecDepth 100000 in
set_option maxHeartbeats 4000000 in
theorem lcs_8 {X : Cx} {D : Dt} {Q : State → Prop} {b Ls n k : Nat} {xs : Nat → Int32} {c m : Cs} {ow : Nat → Int64} {V : Vt} {z : Nat × Nat} (C : Fx X D R_L code 7 12 (some .boolean)) (hO : OkT X.2.1 D) (hX : va_X b Ls xs X.2.2.2.2.1 X.2.2.2.2.1.heap) (hb : b < D.2.2.2.heap.size) (hL : Ls ≤ 2048) (hrm : X.2.2.2.1 = room_1) (hn : 4 * n + 4 ≤ Ls) (hN : Nx X D Q b n k) (hC : CAbs c V) (hM : MAbs m V) (hW : WfV V) (hz1 : z.1 + (k + 1) ≤ 601024) (hz2 : z.2 + 6 * (k + 1) ≤ 7293034) : G X D Q z ((c, m, ow) : Sg) 545 [(0, some (.ref b)), (1, some (.ref (aVlt D))), (2, some (.ref (aMdl D))), (3, some (.ref (aOut D))), (4, some (.int (nI (4 * n))))] [] := by
  have hD := C.ok
  refine g_aload_n (pc := 545) (i := 1) C d_L_law_545 rfl rfl ?_
  refine g_aload_n (pc := 546) (i := 0) C d_L_law_546 rfl rfl ?_
  refine g_iload (pc := 547) C d_L_law_547 rfl ?_
  refine g_iconst (pc := 549) C d_L_law_549 icn_1 ?_
  refine g_iadd (pc := 550) C d_L_law_550 ?_
  refine g_sld (pc := 551) C hX hb (by rw [nI_add]; exact vp_in_nI (by omega) (by omega)) d_L_law_551 ?_
  refine g_aload_n (pc := 552) (i := 3) C d_L_law_552 rfl rfl ?_
  refine g_callSh (pc := 553) (As := [_, _, _]) (rest := []) C mw_L_pull d_L_law_553 (Nat.le_of_ble_eq_true rfl) rfl (Nat.le_of_ble_eq_true rfl) ⟨by rw [hrm]; show z.1 + 1 ≤ 601024; omega, by rw [hrm]; show z.2 + 6 ≤ 7293034; omega⟩ (h_L_pull _ hD hO hC hW) (fun r553 u553 hp553 => ?_)
  obtain ⟨c2, hC2, hcs⟩ := hp553
  rcases hcs with ⟨zv, ho, rfl, rfl⟩ | ⟨e, ho, rfl, rfl⟩
  · skip
    refine g_istore (pc := 556) C d_L_law_556 (by decide) rfl ?_
    refine g_aload_n (pc := 558) (i := 2) C d_L_law_558 rfl rfl ?_
    refine g_aload_n (pc := 559) (i := 0) C d_L_law_559 rfl rfl ?_
    refine g_iload (pc := 560) C d_L_law_560 rfl ?_
    refine g_iconst (pc := 562) C d_L_law_562 icn_1 ?_
    refine g_iadd (pc := 563) C d_L_law_563 ?_
    refine g_sld (pc := 564) C hX hb (by rw [nI_add]; exact vp_in_nI (by omega) (by omega)) d_L_law_564 ?_
    refine g_callVp (pc := 565) (As := [_]) C my_M_pull mv_M_pull cl_L_87 is_M d_L_law_565 (Nat.le_of_ble_eq_true rfl) rfl (Nat.le_of_ble_eq_true rfl) ⟨by rw [hrm]; show z.1 + 1 ≤ 601024; omega, by rw [hrm]; show z.2 + 6 ≤ 7293034; omega⟩ (x_M_pull _ hD hM hW) (fun r565 u565 hp565 => ?_)
    obtain ⟨m2, rfl, hM2, hk2⟩ := hp565
    obtain ⟨rfl, ht⟩ : r565 = some (.int zv) ∧ m2.1 0 0 = 0 := by
      rcases hk2 with ⟨z2, ho2, hr2, ht2⟩ | ⟨e2, ho2, -, -⟩
      · rw [ho] at ho2
        cases ho2
        exact ⟨hr2, ht2⟩
      · rw [ho] at ho2
        cases ho2
    refine g_istore (pc := 568) C d_L_law_568 (by decide) rfl ?_
    refine g_aload_n (pc := 570) (i := 2) C d_L_law_570 rfl rfl ?_
    refine g_callV1 (pc := 571) (As := []) C my_M_thrown mv_M_thrown cl_L_62 is_M d_L_law_571 (Nat.le_of_ble_eq_true rfl) rfl (Nat.le_of_ble_eq_true rfl) ⟨by rw [hrm]; show z.1 + 1 ≤ 601024; omega, by rw [hrm]; show z.2 + 6 ≤ 7293034; omega⟩ (c_M_thrown _ hD) ?_
    rw [ht]
    refine g_iload (pc := 574) C d_L_law_574 rfl ?_
    refine g_icmp_eq (pc := 576) (tgt := 581) C d_L_law_576 (by decide) (fun h576 => ?_) (fun h576 => ?_)
    · skip
      refine g_iload (pc := 581) C d_L_law_581 rfl ?_
      refine g_if_ne (pc := 583) (tgt := 598) C d_L_law_583 (by decide) (fun h583 => ?_) (fun h583 => ?_)
      · first | exact absurd h583 (rfl) | exact absurd (rfl) h583
      · skip
        refine g_aload_n (pc := 586) (i := 3) C d_L_law_586 rfl rfl ?_
        refine g_iconst (pc := 587) C d_L_law_587 icn_0 ?_
        refine ga_out (pc := 588) C (vp_in_nI (show 0 < 1 by decide) (by decide)) d_L_law_588 ?_
        rw [nI_clamp (by decide), pk_uLs]
        refine g_iload (pc := 589) C d_L_law_589 rfl ?_
        refine g_i2l (pc := 591) C d_L_law_591 ?_
        refine g_lcmp (pc := 592) C d_L_law_592 ?_
        refine g_if_eq (pc := 593) (tgt := 598) C d_L_law_593 (by decide) (fun h593 => ?_) (fun h593 => ?_)
        · skip
          refine g_goto (pc := 598) (tgt := 978) C d_L_law_598 (by decide) ?_
          exact G.lf (hN c2 m2 _ _ (z.1 + 1, z.2 + 6) hC2 hM2 (oPull_wf hW) (by show z.1 + 1 + k ≤ 601024; omega) (by show z.2 + 6 + 6 * k ≤ 7293034; omega)) (sb rfl (sb rfl (sb rfl (sb rfl (sb rfl sn)))))
        · first | exact absurd h593 (lg_c0.mpr rfl) | exact absurd (lg_c0.mpr rfl) h593
    · first | exact absurd h576 (rfl) | exact absurd (rfl) h576
  · skip
    refine g_istore (pc := 556) C d_L_law_556 (by decide) rfl ?_
    refine g_aload_n (pc := 558) (i := 2) C d_L_law_558 rfl rfl ?_
    refine g_aload_n (pc := 559) (i := 0) C d_L_law_559 rfl rfl ?_
    refine g_iload (pc := 560) C d_L_law_560 rfl ?_
    refine g_iconst (pc := 562) C d_L_law_562 icn_1 ?_
    refine g_iadd (pc := 563) C d_L_law_563 ?_
    refine g_sld (pc := 564) C hX hb (by rw [nI_add]; exact vp_in_nI (by omega) (by omega)) d_L_law_564 ?_
    refine g_callVp (pc := 565) (As := [_]) C my_M_pull mv_M_pull cl_L_87 is_M d_L_law_565 (Nat.le_of_ble_eq_true rfl) rfl (Nat.le_of_ble_eq_true rfl) ⟨by rw [hrm]; show z.1 + 1 ≤ 601024; omega, by rw [hrm]; show z.2 + 6 ≤ 7293034; omega⟩ (x_M_pull _ hD hM hW) (fun r565 u565 hp565 => ?_)
    obtain ⟨m2, rfl, hM2, hk2⟩ := hp565
    obtain ⟨rfl, ht⟩ : r565 = some (.int 0) ∧ m2.1 0 0 = cdP e := by
      rcases hk2 with ⟨z2, ho2, -, -⟩ | ⟨e2, ho2, hr2, ht2⟩
      · rw [ho] at ho2
        cases ho2
      · rw [ho] at ho2
        cases ho2
        exact ⟨hr2, ht2⟩
    refine g_istore (pc := 568) C d_L_law_568 (by decide) rfl ?_
    refine g_aload_n (pc := 570) (i := 2) C d_L_law_570 rfl rfl ?_
    refine g_callV1 (pc := 571) (As := []) C my_M_thrown mv_M_thrown cl_L_62 is_M d_L_law_571 (Nat.le_of_ble_eq_true rfl) rfl (Nat.le_of_ble_eq_true rfl) ⟨by rw [hrm]; show z.1 + 1 ≤ 601024; omega, by rw [hrm]; show z.2 + 6 ≤ 7293034; omega⟩ (c_M_thrown _ hD) ?_
    rw [ht]
    refine g_iload (pc := 574) C d_L_law_574 rfl ?_
    refine g_icmp_eq (pc := 576) (tgt := 581) C d_L_law_576 (by decide) (fun h576 => ?_) (fun h576 => ?_)
    · skip
      refine g_iload (pc := 581) C d_L_law_581 rfl ?_
      refine g_if_ne (pc := 583) (tgt := 598) C d_L_law_583 (by decide) (fun h583 => ?_) (fun h583 => ?_)
      · skip
        refine g_goto (pc := 598) (tgt := 978) C d_L_law_598 (by decide) ?_
        exact G.lf (hN c2 m2 _ _ (z.1 + 1, z.2 + 6) hC2 hM2 (oPull_wf hW) (by show z.1 + 1 + k ≤ 601024; omega) (by show z.2 + 6 + 6 * k ≤ 7293034; omega)) (sb rfl (sb rfl (sb rfl (sb rfl (sb rfl sn)))))
      · first | exact absurd h583 (cdP_0 (by have := er_pull e ho; omega)) | exact absurd (cdP_0 (by have := er_pull e ho; omega)) h583
    · first | exact absurd h576 (rfl) | exact absurd (rfl) h576
set_option maxRecDepth 100000 in
set_option maxHeartbeats 4000000 in
theorem lcs_9 {X : Cx} {D : Dt} {Q : State → Prop} {b Ls n k : Nat} {xs : Nat → Int32} {c m : Cs} {ow : Nat → Int64} {V : Vt} {z : Nat × Nat} (C : Fx X D R_L code 7 12 (some .boolean)) (hO : OkT X.2.1 D) (hX : va_X b Ls xs X.2.2.2.2.1 X.2.2.2.2.1.heap) (hb : b < D.2.2.2.heap.size) (hL : Ls ≤ 2048) (hrm : X.2.2.2.1 = room_1) (hn : 4 * n + 4 ≤ Ls) (hN : Nx X D Q b n k) (hC : CAbs c V) (hM : MAbs m V) (hW : WfV V) (hz1 : z.1 + (k + 1) ≤ 601024) (hz2 : z.2 + 6 * (k + 1) ≤ 7293034) : G X D Q z ((c, m, ow) : Sg) 601 [(0, some (.ref b)), (1, some (.ref (aVlt D))), (2, some (.ref (aMdl D))), (3, some (.ref (aOut D))), (4, some (.int (nI (4 * n))))] [] := by
  have hD := C.ok
  refine g_aload_n (pc := 601) (i := 1) C d_L_law_601 rfl rfl ?_
  refine g_aload_n (pc := 602) (i := 0) C d_L_law_602 rfl rfl ?_
  refine g_iload (pc := 603) C d_L_law_603 rfl ?_
  refine g_iconst (pc := 605) C d_L_law_605 icn_1 ?_
  refine g_iadd (pc := 606) C d_L_law_606 ?_
  refine g_sld (pc := 607) C hX hb (by rw [nI_add]; exact vp_in_nI (by omega) (by omega)) d_L_law_607 ?_
  refine g_aload_n (pc := 608) (i := 0) C d_L_law_608 rfl rfl ?_
  refine g_iload (pc := 609) C d_L_law_609 rfl ?_
  refine g_iconst (pc := 611) C d_L_law_611 icn_2 ?_
  refine g_iadd (pc := 612) C d_L_law_612 ?_
  refine g_sld (pc := 613) C hX hb (by rw [nI_add]; exact vp_in_nI (by omega) (by omega)) d_L_law_613 ?_
  refine g_aload_n (pc := 614) (i := 0) C d_L_law_614 rfl rfl ?_
  refine g_iload (pc := 615) C d_L_law_615 rfl ?_
  refine g_iconst (pc := 617) C d_L_law_617 icn_3 ?_
  refine g_iadd (pc := 618) C d_L_law_618 ?_
  refine g_sld (pc := 619) C hX hb (by rw [nI_add]; exact vp_in_nI (by omega) (by omega)) d_L_law_619 ?_
  refine g_aload_n (pc := 620) (i := 3) C d_L_law_620 rfl rfl ?_
  refine g_callSh (pc := 621) (As := [_, _, _, _, _]) (rest := []) C mw_L_text d_L_law_621 (Nat.le_of_ble_eq_true rfl) rfl (Nat.le_of_ble_eq_true rfl) ⟨by rw [hrm]; show z.1 + 1 ≤ 601024; omega, by rw [hrm]; show z.2 + 6 ≤ 7293034; omega⟩ (h_L_text _ hD hO hC hW) (fun r621 u621 hp621 => ?_)
  obtain ⟨c2, hC2, hcs⟩ := hp621
  rcases hcs with ⟨zv, ho, rfl, rfl⟩ | ⟨e, ho, rfl, rfl⟩
  · skip
    refine g_istore (pc := 624) C d_L_law_624 (by decide) rfl ?_
    refine g_aload_n (pc := 626) (i := 2) C d_L_law_626 rfl rfl ?_
    refine g_aload_n (pc := 627) (i := 0) C d_L_law_627 rfl rfl ?_
    refine g_iload (pc := 628) C d_L_law_628 rfl ?_
    refine g_iconst (pc := 630) C d_L_law_630 icn_1 ?_
    refine g_iadd (pc := 631) C d_L_law_631 ?_
    refine g_sld (pc := 632) C hX hb (by rw [nI_add]; exact vp_in_nI (by omega) (by omega)) d_L_law_632 ?_
    refine g_aload_n (pc := 633) (i := 0) C d_L_law_633 rfl rfl ?_
    refine g_iload (pc := 634) C d_L_law_634 rfl ?_
    refine g_iconst (pc := 636) C d_L_law_636 icn_2 ?_
    refine g_iadd (pc := 637) C d_L_law_637 ?_
    refine g_sld (pc := 638) C hX hb (by rw [nI_add]; exact vp_in_nI (by omega) (by omega)) d_L_law_638 ?_
    refine g_aload_n (pc := 639) (i := 0) C d_L_law_639 rfl rfl ?_
    refine g_iload (pc := 640) C d_L_law_640 rfl ?_
    refine g_iconst (pc := 642) C d_L_law_642 icn_3 ?_
    refine g_iadd (pc := 643) C d_L_law_643 ?_
    refine g_sld (pc := 644) C hX hb (by rw [nI_add]; exact vp_in_nI (by omega) (by omega)) d_L_law_644 ?_
    refine g_callVp (pc := 645) (As := [_, _, _]) C my_M_text mv_M_text cl_L_90 is_M d_L_law_645 (Nat.le_of_ble_eq_true rfl) rfl (Nat.le_of_ble_eq_true rfl) ⟨by rw [hrm]; show z.1 + 1 ≤ 601024; omega, by rw [hrm]; show z.2 + 6 ≤ 7293034; omega⟩ (x_M_text _ hD hM hW) (fun r645 u645 hp645 => ?_)
    obtain ⟨m2, rfl, hM2, hk2⟩ := hp645
    obtain ⟨rfl, ht⟩ : r645 = some (.int zv) ∧ m2.1 0 0 = 0 := by
      rcases hk2 with ⟨z2, ho2, hr2, ht2⟩ | ⟨e2, ho2, -, -⟩
      · rw [ho] at ho2
        cases ho2
        exact ⟨hr2, ht2⟩
      · rw [ho] at ho2
        cases ho2
    refine g_istore (pc := 648) C d_L_law_648 (by decide) rfl ?_
    refine g_aload_n (pc := 650) (i := 2) C d_L_law_650 rfl rfl ?_
    refine g_callV1 (pc := 651) (As := []) C my_M_thrown mv_M_thrown cl_L_62 is_M d_L_law_651 (Nat.le_of_ble_eq_true rfl) rfl (Nat.le_of_ble_eq_true rfl) ⟨by rw [hrm]; show z.1 + 1 ≤ 601024; omega, by rw [hrm]; show z.2 + 6 ≤ 7293034; omega⟩ (c_M_thrown _ hD) ?_
    rw [ht]
    refine g_iload (pc := 654) C d_L_law_654 rfl ?_
    refine g_icmp_eq (pc := 656) (tgt := 661) C d_L_law_656 (by decide) (fun h656 => ?_) (fun h656 => ?_)
    · skip
      refine g_iload (pc := 661) C d_L_law_661 rfl ?_
      refine g_if_ne (pc := 663) (tgt := 678) C d_L_law_663 (by decide) (fun h663 => ?_) (fun h663 => ?_)
      · first | exact absurd h663 (rfl) | exact absurd (rfl) h663
      · skip
        refine g_aload_n (pc := 666) (i := 3) C d_L_law_666 rfl rfl ?_
        refine g_iconst (pc := 667) C d_L_law_667 icn_0 ?_
        refine ga_out (pc := 668) C (vp_in_nI (show 0 < 1 by decide) (by decide)) d_L_law_668 ?_
        rw [nI_clamp (by decide), pk_uLs]
        refine g_iload (pc := 669) C d_L_law_669 rfl ?_
        refine g_i2l (pc := 671) C d_L_law_671 ?_
        refine g_lcmp (pc := 672) C d_L_law_672 ?_
        refine g_if_eq (pc := 673) (tgt := 678) C d_L_law_673 (by decide) (fun h673 => ?_) (fun h673 => ?_)
        · skip
          refine g_goto (pc := 678) (tgt := 978) C d_L_law_678 (by decide) ?_
          exact G.lf (hN c2 m2 _ _ (z.1 + 1, z.2 + 6) hC2 hM2 (by rw [oText_wf hW]; exact hW) (by show z.1 + 1 + k ≤ 601024; omega) (by show z.2 + 6 + 6 * k ≤ 7293034; omega)) (sb rfl (sb rfl (sb rfl (sb rfl (sb rfl sn)))))
        · first | exact absurd h673 (lg_c0.mpr rfl) | exact absurd (lg_c0.mpr rfl) h673
    · first | exact absurd h656 (rfl) | exact absurd (rfl) h656
  · skip
    refine g_istore (pc := 624) C d_L_law_624 (by decide) rfl ?_
    refine g_aload_n (pc := 626) (i := 2) C d_L_law_626 rfl rfl ?_
    refine g_aload_n (pc := 627) (i := 0) C d_L_law_627 rfl rfl ?_
    refine g_iload (pc := 628) C d_L_law_628 rfl ?_
    refine g_iconst (pc := 630) C d_L_law_630 icn_1 ?_
    refine g_iadd (pc := 631) C d_L_law_631 ?_
    refine g_sld (pc := 632) C hX hb (by rw [nI_add]; exact vp_in_nI (by omega) (by omega)) d_L_law_632 ?_
    refine g_aload_n (pc := 633) (i := 0) C d_L_law_633 rfl rfl ?_
    refine g_iload (pc := 634) C d_L_law_634 rfl ?_
    refine g_iconst (pc := 636) C d_L_law_636 icn_2 ?_
    refine g_iadd (pc := 637) C d_L_law_637 ?_
    refine g_sld (pc := 638) C hX hb (by rw [nI_add]; exact vp_in_nI (by omega) (by omega)) d_L_law_638 ?_
    refine g_aload_n (pc := 639) (i := 0) C d_L_law_639 rfl rfl ?_
    refine g_iload (pc := 640) C d_L_law_640 rfl ?_
    refine g_iconst (pc := 642) C d_L_law_642 icn_3 ?_
    refine g_iadd (pc := 643) C d_L_law_643 ?_
    refine g_sld (pc := 644) C hX hb (by rw [nI_add]; exact vp_in_nI (by omega) (by omega)) d_L_law_644 ?_
    refine g_callVp (pc := 645) (As := [_, _, _]) C my_M_text mv_M_text cl_L_90 is_M d_L_law_645 (Nat.le_of_ble_eq_true rfl) rfl (Nat.le_of_ble_eq_true rfl) ⟨by rw [hrm]; show z.1 + 1 ≤ 601024; omega, by rw [hrm]; show z.2 + 6 ≤ 7293034; omega⟩ (x_M_text _ hD hM hW) (fun r645 u645 hp645 => ?_)
    obtain ⟨m2, rfl, hM2, hk2⟩ := hp645
    obtain ⟨rfl, ht⟩ : r645 = some (.int 0) ∧ m2.1 0 0 = cdP e := by
      rcases hk2 with ⟨z2, ho2, -, -⟩ | ⟨e2, ho2, hr2, ht2⟩
      · rw [ho] at ho2
        cases ho2
      · rw [ho] at ho2
        cases ho2
        exact ⟨hr2, ht2⟩
    refine g_istore (pc := 648) C d_L_law_648 (by decide) rfl ?_
    refine g_aload_n (pc := 650) (i := 2) C d_L_law_650 rfl rfl ?_
    refine g_callV1 (pc := 651) (As := []) C my_M_thrown mv_M_thrown cl_L_62 is_M d_L_law_651 (Nat.le_of_ble_eq_true rfl) rfl (Nat.le_of_ble_eq_true rfl) ⟨by rw [hrm]; show z.1 + 1 ≤ 601024; omega, by rw [hrm]; show z.2 + 6 ≤ 7293034; omega⟩ (c_M_thrown _ hD) ?_
    rw [ht]
    refine g_iload (pc := 654) C d_L_law_654 rfl ?_
    refine g_icmp_eq (pc := 656) (tgt := 661) C d_L_law_656 (by decide) (fun h656 => ?_) (fun h656 => ?_)
    · skip
      refine g_iload (pc := 661) C d_L_law_661 rfl ?_
      refine g_if_ne (pc := 663) (tgt := 678) C d_L_law_663 (by decide) (fun h663 => ?_) (fun h663 => ?_)
      · skip
        refine g_goto (pc := 678) (tgt := 978) C d_L_law_678 (by decide) ?_
        exact G.lf (hN c2 m2 _ _ (z.1 + 1, z.2 + 6) hC2 hM2 (by rw [oText_wf hW]; exact hW) (by show z.1 + 1 + k ≤ 601024; omega) (by show z.2 + 6 + 6 * k ≤ 7293034; omega)) (sb rfl (sb rfl (sb rfl (sb rfl (sb rfl sn)))))
      · first | exact absurd h663 (cdP_0 (by have := er_text e ho; omega)) | exact absurd (cdP_0 (by have := er_text e ho; omega)) h663
    · first | exact absurd h656 (rfl) | exact absurd (rfl) h656
set_option maxRecDepth 100000 in
set_option maxHeartbeats 4000000 in
theorem law_loop {X : Cx} {D : Dt} {Q : State → Prop} {b Ls : Nat} {xs : Nat → Int32} (C : Fx X D R_L code 7 12 (some .boolean)) (hO : OkT X.2.1 D) (hX : va_X b Ls xs X.2.2.2.2.1 X.2.2.2.2.1.heap) (hb : b < D.2.2.2.heap.size) (hL : Ls ≤ 2048) (hrm : X.2.2.2.1 = room_1) (hQ : ∀ (σ : Sg) (z : Nat × Nat) (L : Lc), z.1 ≤ 601024 → z.2 ≤ 7293034 → G X D Q z σ 985 L [.int 1]) :
    ∀ (k n : Nat) (c m : Cs) (ow : Nat → Int64) (V : Vt) (z : Nat × Nat), n + k = Ls / 4 → CAbs c V → MAbs m V → WfV V → z.1 + k ≤ 601024 → z.2 + 6 * k ≤ 7293034 → G X D Q z ((c, m, ow) : Sg) 23 [(0, some (.ref b)), (1, some (.ref (aVlt D))), (2, some (.ref (aMdl D))), (3, some (.ref (aOut D))), (4, some (.int (nI (4 * n))))] [] := by
  intro k
  induction k with
  | zero =>
    intro n c m ow V z hk hC hM hW hz1 hz2
    refine g_iload (pc := 23) C d_L_law_23 rfl ?_
    refine g_aload_n (pc := 25) (i := 0) C d_L_law_25 rfl rfl ?_
    refine g_slen (pc := 26) C hX hb d_L_law_26 ?_
    refine g_iconst (pc := 27) C d_L_law_27 icn_4 ?_
    refine g_isub (pc := 28) C d_L_law_28 ?_
    refine g_icmp_gt (pc := 29) (tgt := 984) C d_L_law_29 (by decide) (fun h29 => ?_) (fun h29 => ?_)
    · skip
      refine g_iconst (pc := 984) C d_L_law_984 ic_1 ?_
      exact hQ _ z _ (by omega) (by omega)
    · first | exact absurd h29 (ls_end (by omega) hL (by omega)) | exact absurd (ls_end (by omega) hL (by omega)) h29
  | succ k ih =>
    intro n c m ow V z hk hC hM hW hz1 hz2
    have hn : 4 * n + 4 ≤ Ls := by omega
    have hN : Nx X D Q b n k := by
      intro c2 m2 ow2 V2 z2 hC2 hM2 hW2 hz12 hz22
      refine g_iinc (pc := 978) C d_L_law_978 rfl (v := nI (4 * (n + 1))) (show nI (4 * n) + nI 4 = nI (4 * (n + 1)) by rw [nI_add]; rfl) rfl ?_
      refine g_goto (pc := 981) (tgt := 23) C d_L_law_981 (by decide) ?_
      exact G.lf (ih (n + 1) c2 m2 ow2 V2 z2 (by omega) hC2 hM2 hW2 hz12 hz22) (sb rfl (sb rfl (sb rfl (sb rfl (sb rfl sn)))))
    refine g_iload (pc := 23) C d_L_law_23 rfl ?_
    refine g_aload_n (pc := 25) (i := 0) C d_L_law_25 rfl rfl ?_
    refine g_slen (pc := 26) C hX hb d_L_law_26 ?_
    refine g_iconst (pc := 27) C d_L_law_27 icn_4 ?_
    refine g_isub (pc := 28) C d_L_law_28 ?_
    refine g_icmp_gt (pc := 29) (tgt := 984) C d_L_law_29 (by decide) (fun h29 => ?_) (fun h29 => ?_)
    · first | exact absurd h29 (ls_in hn hL) | exact absurd (ls_in hn hL) h29
    · skip
      refine g_aload_n (pc := 32) (i := 0) C d_L_law_32 rfl rfl ?_
      refine g_iload (pc := 33) C d_L_law_33 rfl ?_
      refine g_sld (pc := 35) C hX hb (vp_in_nI (by omega) (by omega)) d_L_law_35 ?_
      refine g_bipush (pc := 36) C d_L_law_36 bp_31 ?_
      refine g_iand (pc := 38) C d_L_law_38 ?_
      obtain ⟨v, hv32, hv⟩ := pk_andE (xs (nI (4 * n)).toNatClampNeg) (m := 31) 5 (by decide +kernel)
      rw [show (xs (nI (4 * n)).toNatClampNeg &&& 31) = nI v from hv]
      rcases (show v = 0 ∨ v = 1 ∨ v = 2 ∨ v = 3 ∨ v = 4 ∨ v = 5 ∨ v = 6 ∨ v = 7 ∨ v = 8 ∨ v = 9 ∨ v = 10 ∨ v = 11 ∨ v = 12 ∨ v = 13 ∨ v = 14 ∨ v = 15 ∨ v = 16 ∨ v = 17 ∨ 18 ≤ v by omega) with rfl | rfl | rfl | rfl | rfl | rfl | rfl | rfl | rfl | rfl | rfl | rfl | rfl | rfl | rfl | rfl | rfl | rfl | hv18
      · exact g_tabIn (pc := 39) (off := 85) (tgt := 124) C d_L_law_39 (by decide) (by decide) (by decide) (by decide) (lcs_0 C hO hX hb hL hrm hn hN hC hM hW hz1 hz2)
      · exact g_tabIn (pc := 39) (off := 142) (tgt := 181) C d_L_law_39 (by decide) (by decide) (by decide) (by decide) (lcs_1 C hO hX hb hL hrm hn hN hC hM hW hz1 hz2)
      · exact g_tabIn (pc := 39) (off := 153) (tgt := 192) C d_L_law_39 (by decide) (by decide) (by decide) (by decide) (lcs_2 C hO hX hb hL hrm hn hN hC hM hW hz1 hz2)
      · exact g_tabIn (pc := 39) (off := 209) (tgt := 248) C d_L_law_39 (by decide) (by decide) (by decide) (by decide) (lcs_3 C hO hX hb hL hrm hn hN hC hM hW hz1 hz2)
      · exact g_tabIn (pc := 39) (off := 289) (tgt := 328) C d_L_law_39 (by decide) (by decide) (by decide) (by decide) (lcs_4 C hO hX hb hL hrm hn hN hC hM hW hz1 hz2)
      · exact g_tabIn (pc := 39) (off := 345) (tgt := 384) C d_L_law_39 (by decide) (by decide) (by decide) (by decide) (lcs_5 C hO hX hb hL hrm hn hN hC hM hW hz1 hz2)
      · exact g_tabIn (pc := 39) (off := 401) (tgt := 440) C d_L_law_39 (by decide) (by decide) (by decide) (by decide) (lcs_6 C hO hX hb hL hrm hn hN hC hM hW hz1 hz2)
      · exact g_tabIn (pc := 39) (off := 438) (tgt := 477) C d_L_law_39 (by decide) (by decide) (by decide) (by decide) (lcs_7 C hO hX hb hL hrm hn hN hC hM hW hz1 hz2)
      · exact g_tabIn (pc := 39) (off := 506) (tgt := 545) C d_L_law_39 (by decide) (by decide) (by decide) (by decide) (lcs_8 C hO hX hb hL hrm hn hN hC hM hW hz1 hz2)
      · exact g_tabIn (pc := 39) (off := 562) (tgt := 601) C d_L_law_39 (by decide) (by decide) (by decide) (by decide) (lcs_9 C hO hX hb hL hrm hn hN hC hM hW hz1 hz2)
      · exact g_tabIn (pc := 39) (off := 642) (tgt := 681) C d_L_law_39 (by decide) (by decide) (by decide) (by decide) (lcs_10 C hO hX hb hL hrm hn hN hC hM hW hz1 hz2)
      · exact g_tabIn (pc := 39) (off := 667) (tgt := 706) C d_L_law_39 (by decide) (by decide) (by decide) (by decide) (lcs_11 C hO hX hb hL hrm hn hN hC hM hW hz1 hz2)
      · exact g_tabIn (pc := 39) (off := 716) (tgt := 755) C d_L_law_39 (by decide) (by decide) (by decide) (by decide) (lcs_12 C hO hX hb hL hrm hn hN hC hM hW hz1 hz2)
      · exact g_tabIn (pc := 39) (off := 754) (tgt := 793) C d_L_law_39 (by decide) (by decide) (by decide) (by decide) (lcs_13 C hO hX hb hL hrm hn hN hC hM hW hz1 hz2)
      · exact g_tabIn (pc := 39) (off := 791) (tgt := 830) C d_L_law_39 (by decide) (by decide) (by decide) (by decide) (lcs_14 C hO hX hb hL hrm hn hN hC hM hW hz1 hz2)
      · exact g_tabIn (pc := 39) (off := 840) (tgt := 879) C d_L_law_39 (by decide) (by decide) (by decide) (by decide) (lcs_15 C hO hX hb hL hrm hn hN hC hM hW hz1 hz2)
      · exact g_tabIn (pc := 39) (off := 865) (tgt := 904) C d_L_law_39 (by decide) (by decide) (by decide) (by decide) (lcs_16 C hO hX hb hL hrm hn hN hC hM hW hz1 hz2)
      · exact g_tabIn (pc := 39) (off := 890) (tgt := 929) C d_L_law_39 (by decide) (by decide) (by decide) (by decide) (lcs_17 C hO hX hb hL hrm hn hN hC hM hW hz1 hz2)
      · exact g_tabOut (pc := 39) (tgt := 978) C d_L_law_39 (Or.inr (by rw [nI_toInt (by omega)]; omega)) (by decide) (hN c m ow V z hC hM hW (by omega) (by omega))
