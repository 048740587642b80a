theorem bp_m4 : (Int8.ofInt (-4)).toInt32 = (-4) := by decide +kernel
theorem bp_m3 : (Int8.ofInt (-3)).toInt32 = (-3) := by decide +kernel
theorem bp_m2 : (Int8.ofInt (-2)).toInt32 = (-2) := by decide +kernel
theorem bp_6 : (Int8.ofInt 6).toInt32 = 6 := by decide +kernel
theorem bpn_6 : (Int8.ofInt 6).toInt32 = nI 6 := by decide +kernel
theorem bp_8 : (Int8.ofInt 8).toInt32 = 8 := by decide +kernel
theorem bpn_8 : (Int8.ofInt 8).toInt32 = nI 8 := by decide +kernel
theorem bp_10 : (Int8.ofInt 10).toInt32 = 10 := by decide +kernel
theorem bpn_10 : (Int8.ofInt 10).toInt32 = nI 10 := by decide +kernel
theorem bp_16 : (Int8.ofInt 16).toInt32 = 16 := by decide +kernel
theorem bpn_16 : (Int8.ofInt 16).toInt32 = nI 16 := by decide +kernel
theorem bp_24 : (Int8.ofInt 24).toInt32 = 24 := by decide +kernel
theorem bpn_24 : (Int8.ofInt 24).toInt32 = nI 24 := by decide +kernel
theorem bp_32 : (Int8.ofInt 32).toInt32 = 32 := by decide +kernel
theorem bpn_32 : (Int8.ofInt 32).toInt32 = nI 32 := by decide +kernel
theorem bp_48 : (Int8.ofInt 48).toInt32 = 48 := by decide +kernel
theorem bpn_48 : (Int8.ofInt 48).toInt32 = nI 48 := by decide +kernel
theorem bp_56 : (Int8.ofInt 56).toInt32 = 56 := by decide +kernel
theorem bpn_56 : (Int8.ofInt 56).toInt32 = nI 56 := by decide +kernel
theorem bp_60 : (Int8.ofInt 60).toInt32 = 60 := by decide +kernel
theorem bpn_60 : (Int8.ofInt 60).toInt32 = nI 60 := by decide +kernel
theorem bp_61 : (Int8.ofInt 61).toInt32 = 61 := by decide +kernel
theorem bpn_61 : (Int8.ofInt 61).toInt32 = nI 61 := by decide +kernel
theorem bp_63 : (Int8.ofInt 63).toInt32 = 63 := by decide +kernel
theorem bpn_63 : (Int8.ofInt 63).toInt32 = nI 63 := by decide +kernel
theorem bp_100 : (Int8.ofInt 100).toInt32 = 100 := by decide +kernel
theorem bpn_100 : (Int8.ofInt 100).toInt32 = nI 100 := by decide +kernel
theorem bp_117 : (Int8.ofInt 117).toInt32 = 117 := by decide +kernel
theorem bpn_117 : (Int8.ofInt 117).toInt32 = nI 117 := by decide +kernel
theorem bp_120 : (Int8.ofInt 120).toInt32 = 120 := by decide +kernel
theorem bpn_120 : (Int8.ofInt 120).toInt32 = nI 120 := by decide +kernel
theorem bp_121 : (Int8.ofInt 121).toInt32 = 121 := by decide +kernel
theorem bpn_121 : (Int8.ofInt 121).toInt32 = nI 121 := by decide +kernel
theorem bp_126 : (Int8.ofInt 126).toInt32 = 126 := by decide +kernel
theorem bpn_126 : (Int8.ofInt 126).toInt32 = nI 126 := by decide +kernel
theorem ic_m1 : Int32.ofInt (-1) = (-1) := by decide +kernel
theorem ic_0 : Int32.ofInt 0 = 0 := by decide +kernel
theorem icn_0 : Int32.ofInt 0 = nI 0 := by decide +kernel
theorem ic_1 : Int32.ofInt 1 = 1 := by decide +kernel
theorem icn_1 : Int32.ofInt 1 = nI 1 := by decide +kernel
theorem ic_2 : Int32.ofInt 2 = 2 := by decide +kernel
theorem icn_2 : Int32.ofInt 2 = nI 2 := by decide +kernel
theorem ic_3 : Int32.ofInt 3 = 3 := by decide +kernel
theorem icn_3 : Int32.ofInt 3 = nI 3 := by decide +kernel
theorem ic_4 : Int32.ofInt 4 = 4 := by decide +kernel
theorem icn_4 : Int32.ofInt 4 = nI 4 := by decide +kernel
theorem ic_5 : Int32.ofInt 5 = 5 := by decide +kernel
theorem icn_5 : Int32.ofInt 5 = nI 5 := by decide +kernel
theorem lc_0 : Int64.ofNat ((0 : Fin 2) : Nat) = 0 := by decide +kernel
theorem sp_255 : (Int16.ofInt 255).toInt32 = 255 := by decide +kernel
theorem spn_255 : (Int16.ofInt 255).toInt32 = nI 255 := by decide +kernel
theorem sp_600 : (Int16.ofInt 600).toInt32 = 600 := by decide +kernel
theorem spn_600 : (Int16.ofInt 600).toInt32 = nI 600 := by decide +kernel
theorem sp_1200 : (Int16.ofInt 1200).toInt32 = 1200 := by decide +kernel
theorem spn_1200 : (Int16.ofInt 1200).toInt32 = nI 1200 := by decide +kernel
theorem nI_inc (i : Nat) : nI i + Int32.ofInt 1 = nI (i + 1) := by rw [ic_1]; exact (nI_succ i).symm
theorem sn {L : Lc} : sub L [] := trivial
theorem G.lf {X : Cx} {D : Dt} {Q : State → Prop} {z : Nat × Nat} {σ : Sg} {pc : Nat} {L L' : Lc} {st : List Value} (kk : G X D Q z σ pc L' st) (hs : sub L L') : G X D Q z σ pc L st := G.lc hs kk
