section
-- ===== PART A: goes FIRST, ahead of the names: the tables' words, and 'selects' of the private methods out of them =====
/-- a private method of a class that the tables say can be made, by its rows of tables_1 -/
def lw_okq (q : MethodName × Nat) : Prop := (q.1.cls ≠ "java/lang/invoke/MethodHandle" ∧ q.1.cls ≠ "java/lang/invoke/VarHandle") ∧ Cond.instantiable q.1.cls q.2 ∈ tables_1 ∧ Cond.privateMethod q.1 ∈ tables_1 ∧ Cond.instanceMethod q.1 ∈ tables_1
theorem lw_p0 : lw_okq (⟨"RevisionVault", "barTo", "(I)I"⟩, 2) := ⟨⟨by decide +kernel, by decide +kernel⟩, List.mem_of_getElem? (i := 27) (by decide +kernel), List.mem_of_getElem? (i := 179) (by decide +kernel), List.mem_of_getElem? (i := 180) (by decide +kernel)⟩
theorem lw_p1 : lw_okq (⟨"java/lang/Throwable", "fillInStackTrace", "(I)Ljava/lang/Throwable;"⟩, 6) := ⟨⟨by decide +kernel, by decide +kernel⟩, List.mem_of_getElem? (i := 301) (by decide +kernel), List.mem_of_getElem? (i := 299) (by decide +kernel), List.mem_of_getElem? (i := 300) (by decide +kernel)⟩
theorem lw_p2 : lw_okq (⟨"RevisionVault$Repository", "nodeOf", "(LRevisionVault$Row;II)J"⟩, 12) := ⟨⟨by decide +kernel, by decide +kernel⟩, List.mem_of_getElem? (i := 53) (by decide +kernel), List.mem_of_getElem? (i := 597) (by decide +kernel), List.mem_of_getElem? (i := 598) (by decide +kernel)⟩
theorem lw_p3 : lw_okq (⟨"RevisionVault$Repository", "nodeOrZero", "(I)J"⟩, 12) := ⟨⟨by decide +kernel, by decide +kernel⟩, List.mem_of_getElem? (i := 53) (by decide +kernel), List.mem_of_getElem? (i := 601) (by decide +kernel), List.mem_of_getElem? (i := 602) (by decide +kernel)⟩
theorem lw_p4 : lw_okq (⟨"RevisionVault$Repository", "parentsOf", "(I)I"⟩, 12) := ⟨⟨by decide +kernel, by decide +kernel⟩, List.mem_of_getElem? (i := 53) (by decide +kernel), List.mem_of_getElem? (i := 626) (by decide +kernel), List.mem_of_getElem? (i := 627) (by decide +kernel)⟩
theorem lw_p5 : lw_okq (⟨"RevisionVault$Repository", "ancestorsOf", "(I)I"⟩, 12) := ⟨⟨by decide +kernel, by decide +kernel⟩, List.mem_of_getElem? (i := 53) (by decide +kernel), List.mem_of_getElem? (i := 644) (by decide +kernel), List.mem_of_getElem? (i := 645) (by decide +kernel)⟩
theorem lw_p6 : lw_okq (⟨"RevisionVault", "repositoryAt", "(I)LRevisionVault$Repository;"⟩, 2) := ⟨⟨by decide +kernel, by decide +kernel⟩, List.mem_of_getElem? (i := 27) (by decide +kernel), List.mem_of_getElem? (i := 658) (by decide +kernel), List.mem_of_getElem? (i := 659) (by decide +kernel)⟩
theorem lw_p7 : lw_okq (⟨"RevisionVault$Repository", "mayWrite", "()Z"⟩, 12) := ⟨⟨by decide +kernel, by decide +kernel⟩, List.mem_of_getElem? (i := 53) (by decide +kernel), List.mem_of_getElem? (i := 702) (by decide +kernel), List.mem_of_getElem? (i := 703) (by decide +kernel)⟩
theorem lw_p8 : lw_okq (⟨"RevisionVault", "repositoryInTransaction", "(I)LRevisionVault$Repository;"⟩, 2) := ⟨⟨by decide +kernel, by decide +kernel⟩, List.mem_of_getElem? (i := 27) (by decide +kernel), List.mem_of_getElem? (i := 715) (by decide +kernel), List.mem_of_getElem? (i := 716) (by decide +kernel)⟩
theorem lw_p9 : lw_okq (⟨"RevisionVault$Repository", "find", "(J)I"⟩, 12) := ⟨⟨by decide +kernel, by decide +kernel⟩, List.mem_of_getElem? (i := 53) (by decide +kernel), List.mem_of_getElem? (i := 733) (by decide +kernel), List.mem_of_getElem? (i := 734) (by decide +kernel)⟩
theorem lw_p10 : lw_okq (⟨"RevisionVault$Repository", "chooseChunk", "(LRevisionVault$Row;II)I"⟩, 12) := ⟨⟨by decide +kernel, by decide +kernel⟩, List.mem_of_getElem? (i := 53) (by decide +kernel), List.mem_of_getElem? (i := 737) (by decide +kernel), List.mem_of_getElem? (i := 738) (by decide +kernel)⟩
theorem lw_p11 : lw_okq (⟨"RevisionVault$Repository", "chainFits", "(II)Z"⟩, 12) := ⟨⟨by decide +kernel, by decide +kernel⟩, List.mem_of_getElem? (i := 53) (by decide +kernel), List.mem_of_getElem? (i := 764) (by decide +kernel), List.mem_of_getElem? (i := 765) (by decide +kernel)⟩
theorem lw_p12 : lw_okq (⟨"RevisionVault$Repository", "twinOf", "(LRevisionVault$Repository;I)I"⟩, 12) := ⟨⟨by decide +kernel, by decide +kernel⟩, List.mem_of_getElem? (i := 53) (by decide +kernel), List.mem_of_getElem? (i := 840) (by decide +kernel), List.mem_of_getElem? (i := 841) (by decide +kernel)⟩
theorem lw_p13 : lw_okq (⟨"RevisionVault$Repository", "undo", "(I)V"⟩, 12) := ⟨⟨by decide +kernel, by decide +kernel⟩, List.mem_of_getElem? (i := 53) (by decide +kernel), List.mem_of_getElem? (i := 845) (by decide +kernel), List.mem_of_getElem? (i := 846) (by decide +kernel)⟩
theorem lw_p14 : lw_okq (⟨"RevisionVaultModel", "raise", "(I)I"⟩, 23) := ⟨⟨by decide +kernel, by decide +kernel⟩, List.mem_of_getElem? (i := 857) (by decide +kernel), List.mem_of_getElem? (i := 954) (by decide +kernel), List.mem_of_getElem? (i := 955) (by decide +kernel)⟩
theorem lw_p15 : lw_okq (⟨"RevisionVaultModel", "barred", "(IZ)Z"⟩, 23) := ⟨⟨by decide +kernel, by decide +kernel⟩, List.mem_of_getElem? (i := 857) (by decide +kernel), List.mem_of_getElem? (i := 958) (by decide +kernel), List.mem_of_getElem? (i := 959) (by decide +kernel)⟩
def lw_privs_1 : List (MethodName × Nat) := [(⟨"RevisionVault", "barTo", "(I)I"⟩, 2), (⟨"java/lang/Throwable", "fillInStackTrace", "(I)Ljava/lang/Throwable;"⟩, 6), (⟨"RevisionVault$Repository", "nodeOf", "(LRevisionVault$Row;II)J"⟩, 12), (⟨"RevisionVault$Repository", "nodeOrZero", "(I)J"⟩, 12), (⟨"RevisionVault$Repository", "parentsOf", "(I)I"⟩, 12), (⟨"RevisionVault$Repository", "ancestorsOf", "(I)I"⟩, 12), (⟨"RevisionVault", "repositoryAt", "(I)LRevisionVault$Repository;"⟩, 2), (⟨"RevisionVault$Repository", "mayWrite", "()Z"⟩, 12), (⟨"RevisionVault", "repositoryInTransaction", "(I)LRevisionVault$Repository;"⟩, 2), (⟨"RevisionVault$Repository", "find", "(J)I"⟩, 12), (⟨"RevisionVault$Repository", "chooseChunk", "(LRevisionVault$Row;II)I"⟩, 12), (⟨"RevisionVault$Repository", "chainFits", "(II)Z"⟩, 12), (⟨"RevisionVault$Repository", "twinOf", "(LRevisionVault$Repository;I)I"⟩, 12), (⟨"RevisionVault$Repository", "undo", "(I)V"⟩, 12), (⟨"RevisionVaultModel", "raise", "(I)I"⟩, 23), (⟨"RevisionVaultModel", "barred", "(IZ)Z"⟩, 23)]
theorem lw_r1 : ∀ q ∈ lw_privs_1, lw_okq q := List.forall_mem_cons.mpr ⟨lw_p0, List.forall_mem_cons.mpr ⟨lw_p1, List.forall_mem_cons.mpr ⟨lw_p2, List.forall_mem_cons.mpr ⟨lw_p3, List.forall_mem_cons.mpr ⟨lw_p4, List.forall_mem_cons.mpr ⟨lw_p5, List.forall_mem_cons.mpr ⟨lw_p6, List.forall_mem_cons.mpr ⟨lw_p7, List.forall_mem_cons.mpr ⟨lw_p8, List.forall_mem_cons.mpr ⟨lw_p9, List.forall_mem_cons.mpr ⟨lw_p10, List.forall_mem_cons.mpr ⟨lw_p11, List.forall_mem_cons.mpr ⟨lw_p12, List.forall_mem_cons.mpr ⟨lw_p13, List.forall_mem_cons.mpr ⟨lw_p14, List.forall_mem_cons.mpr ⟨lw_p15, fun _ h => absurd h List.not_mem_nil⟩⟩⟩⟩⟩⟩⟩⟩⟩⟩⟩⟩⟩⟩⟩⟩
theorem lw_p16 : lw_okq (⟨"RevisionVaultModel", "start", "(I)Z"⟩, 23) := ⟨⟨by decide +kernel, by decide +kernel⟩, List.mem_of_getElem? (i := 857) (by decide +kernel), List.mem_of_getElem? (i := 962) (by decide +kernel), List.mem_of_getElem? (i := 963) (by decide +kernel)⟩
theorem lw_p17 : lw_okq (⟨"RevisionVaultModel", "write", "(I)Z"⟩, 23) := ⟨⟨by decide +kernel, by decide +kernel⟩, List.mem_of_getElem? (i := 857) (by decide +kernel), List.mem_of_getElem? (i := 966) (by decide +kernel), List.mem_of_getElem? (i := 967) (by decide +kernel)⟩
theorem lw_p18 : lw_okq (⟨"RevisionVaultModel", "isRevision", "(II)Z"⟩, 23) := ⟨⟨by decide +kernel, by decide +kernel⟩, List.mem_of_getElem? (i := 857) (by decide +kernel), List.mem_of_getElem? (i := 974) (by decide +kernel), List.mem_of_getElem? (i := 975) (by decide +kernel)⟩
theorem lw_p19 : lw_okq (⟨"RevisionVaultModel", "add", "(III)I"⟩, 23) := ⟨⟨by decide +kernel, by decide +kernel⟩, List.mem_of_getElem? (i := 857) (by decide +kernel), List.mem_of_getElem? (i := 978) (by decide +kernel), List.mem_of_getElem? (i := 979) (by decide +kernel)⟩
theorem lw_p20 : lw_okq (⟨"RevisionVaultModel", "begun", "(III)J"⟩, 23) := ⟨⟨by decide +kernel, by decide +kernel⟩, List.mem_of_getElem? (i := 857) (by decide +kernel), List.mem_of_getElem? (i := 982) (by decide +kernel), List.mem_of_getElem? (i := 983) (by decide +kernel)⟩
theorem lw_p21 : lw_okq (⟨"RevisionVaultModel", "found", "(IJ)I"⟩, 23) := ⟨⟨by decide +kernel, by decide +kernel⟩, List.mem_of_getElem? (i := 857) (by decide +kernel), List.mem_of_getElem? (i := 994) (by decide +kernel), List.mem_of_getElem? (i := 995) (by decide +kernel)⟩
theorem lw_p22 : lw_okq (⟨"RevisionVaultModel", "chosen", "(III)I"⟩, 23) := ⟨⟨by decide +kernel, by decide +kernel⟩, List.mem_of_getElem? (i := 857) (by decide +kernel), List.mem_of_getElem? (i := 998) (by decide +kernel), List.mem_of_getElem? (i := 999) (by decide +kernel)⟩
theorem lw_p23 : lw_okq (⟨"RevisionVaultModel", "runs", "()I"⟩, 23) := ⟨⟨by decide +kernel, by decide +kernel⟩, List.mem_of_getElem? (i := 857) (by decide +kernel), List.mem_of_getElem? (i := 1002) (by decide +kernel), List.mem_of_getElem? (i := 1003) (by decide +kernel)⟩
theorem lw_p24 : lw_okq (⟨"RevisionVaultModel", "candidate", "(IIII)I"⟩, 23) := ⟨⟨by decide +kernel, by decide +kernel⟩, List.mem_of_getElem? (i := 857) (by decide +kernel), List.mem_of_getElem? (i := 1006) (by decide +kernel), List.mem_of_getElem? (i := 1007) (by decide +kernel)⟩
theorem lw_p25 : lw_okq (⟨"RevisionVaultModel", "build", "(II)Z"⟩, 23) := ⟨⟨by decide +kernel, by decide +kernel⟩, List.mem_of_getElem? (i := 857) (by decide +kernel), List.mem_of_getElem? (i := 1010) (by decide +kernel), List.mem_of_getElem? (i := 1011) (by decide +kernel)⟩
theorem lw_p26 : lw_okq (⟨"RevisionVaultModel", "whole", "(II)Z"⟩, 23) := ⟨⟨by decide +kernel, by decide +kernel⟩, List.mem_of_getElem? (i := 857) (by decide +kernel), List.mem_of_getElem? (i := 1014) (by decide +kernel), List.mem_of_getElem? (i := 1015) (by decide +kernel)⟩
theorem lw_p27 : lw_okq (⟨"RevisionVaultModel", "byteAt", "(III)I"⟩, 23) := ⟨⟨by decide +kernel, by decide +kernel⟩, List.mem_of_getElem? (i := 857) (by decide +kernel), List.mem_of_getElem? (i := 1018) (by decide +kernel), List.mem_of_getElem? (i := 1019) (by decide +kernel)⟩
theorem lw_p28 : lw_okq (⟨"RevisionVaultModel", "apply", "(II)Z"⟩, 23) := ⟨⟨by decide +kernel, by decide +kernel⟩, List.mem_of_getElem? (i := 857) (by decide +kernel), List.mem_of_getElem? (i := 1022) (by decide +kernel), List.mem_of_getElem? (i := 1023) (by decide +kernel)⟩
theorem lw_p29 : lw_okq (⟨"RevisionVaultModel", "difference", "()I"⟩, 23) := ⟨⟨by decide +kernel, by decide +kernel⟩, List.mem_of_getElem? (i := 857) (by decide +kernel), List.mem_of_getElem? (i := 1026) (by decide +kernel), List.mem_of_getElem? (i := 1027) (by decide +kernel)⟩
theorem lw_p30 : lw_okq (⟨"RevisionVaultModel", "commonBegin", "()I"⟩, 23) := ⟨⟨by decide +kernel, by decide +kernel⟩, List.mem_of_getElem? (i := 857) (by decide +kernel), List.mem_of_getElem? (i := 1030) (by decide +kernel), List.mem_of_getElem? (i := 1031) (by decide +kernel)⟩
theorem lw_p31 : lw_okq (⟨"RevisionVaultModel", "commonEnd", "(I)I"⟩, 23) := ⟨⟨by decide +kernel, by decide +kernel⟩, List.mem_of_getElem? (i := 857) (by decide +kernel), List.mem_of_getElem? (i := 1034) (by decide +kernel), List.mem_of_getElem? (i := 1035) (by decide +kernel)⟩
def lw_privs_2 : List (MethodName × Nat) := [(⟨"RevisionVaultModel", "start", "(I)Z"⟩, 23), (⟨"RevisionVaultModel", "write", "(I)Z"⟩, 23), (⟨"RevisionVaultModel", "isRevision", "(II)Z"⟩, 23), (⟨"RevisionVaultModel", "add", "(III)I"⟩, 23), (⟨"RevisionVaultModel", "begun", "(III)J"⟩, 23), (⟨"RevisionVaultModel", "found", "(IJ)I"⟩, 23), (⟨"RevisionVaultModel", "chosen", "(III)I"⟩, 23), (⟨"RevisionVaultModel", "runs", "()I"⟩, 23), (⟨"RevisionVaultModel", "candidate", "(IIII)I"⟩, 23), (⟨"RevisionVaultModel", "build", "(II)Z"⟩, 23), (⟨"RevisionVaultModel", "whole", "(II)Z"⟩, 23), (⟨"RevisionVaultModel", "byteAt", "(III)I"⟩, 23), (⟨"RevisionVaultModel", "apply", "(II)Z"⟩, 23), (⟨"RevisionVaultModel", "difference", "()I"⟩, 23), (⟨"RevisionVaultModel", "commonBegin", "()I"⟩, 23), (⟨"RevisionVaultModel", "commonEnd", "(I)I"⟩, 23)]
theorem lw_r2 : ∀ q ∈ lw_privs_2, lw_okq q := List.forall_mem_cons.mpr ⟨lw_p16, List.forall_mem_cons.mpr ⟨lw_p17, List.forall_mem_cons.mpr ⟨lw_p18, List.forall_mem_cons.mpr ⟨lw_p19, List.forall_mem_cons.mpr ⟨lw_p20, List.forall_mem_cons.mpr ⟨lw_p21, List.forall_mem_cons.mpr ⟨lw_p22, List.forall_mem_cons.mpr ⟨lw_p23, List.forall_mem_cons.mpr ⟨lw_p24, List.forall_mem_cons.mpr ⟨lw_p25, List.forall_mem_cons.mpr ⟨lw_p26, List.forall_mem_cons.mpr ⟨lw_p27, List.forall_mem_cons.mpr ⟨lw_p28, List.forall_mem_cons.mpr ⟨lw_p29, List.forall_mem_cons.mpr ⟨lw_p30, List.forall_mem_cons.mpr ⟨lw_p31, fun _ h => absurd h List.not_mem_nil⟩⟩⟩⟩⟩⟩⟩⟩⟩⟩⟩⟩⟩⟩⟩⟩
theorem lw_p32 : lw_okq (⟨"RevisionVaultModel", "shortChain", "(III)Z"⟩, 23) := ⟨⟨by decide +kernel, by decide +kernel⟩, List.mem_of_getElem? (i := 857) (by decide +kernel), List.mem_of_getElem? (i := 1038) (by decide +kernel), List.mem_of_getElem? (i := 1039) (by decide +kernel)⟩
theorem lw_p33 : lw_okq (⟨"RevisionVaultModel", "putDifference", "(II)V"⟩, 23) := ⟨⟨by decide +kernel, by decide +kernel⟩, List.mem_of_getElem? (i := 857) (by decide +kernel), List.mem_of_getElem? (i := 1042) (by decide +kernel), List.mem_of_getElem? (i := 1043) (by decide +kernel)⟩
theorem lw_p34 : lw_okq (⟨"RevisionVaultModel", "putByte", "(II)V"⟩, 23) := ⟨⟨by decide +kernel, by decide +kernel⟩, List.mem_of_getElem? (i := 857) (by decide +kernel), List.mem_of_getElem? (i := 1046) (by decide +kernel), List.mem_of_getElem? (i := 1047) (by decide +kernel)⟩
theorem lw_p35 : lw_okq (⟨"RevisionVaultModel", "putSnapshot", "(I)V"⟩, 23) := ⟨⟨by decide +kernel, by decide +kernel⟩, List.mem_of_getElem? (i := 857) (by decide +kernel), List.mem_of_getElem? (i := 1050) (by decide +kernel), List.mem_of_getElem? (i := 1051) (by decide +kernel)⟩
theorem lw_p36 : lw_okq (⟨"RevisionVaultModel", "finish", "(I)Z"⟩, 23) := ⟨⟨by decide +kernel, by decide +kernel⟩, List.mem_of_getElem? (i := 857) (by decide +kernel), List.mem_of_getElem? (i := 1058) (by decide +kernel), List.mem_of_getElem? (i := 1059) (by decide +kernel)⟩
theorem lw_p37 : lw_okq (⟨"RevisionVaultModel", "roll", "(I)I"⟩, 23) := ⟨⟨by decide +kernel, by decide +kernel⟩, List.mem_of_getElem? (i := 857) (by decide +kernel), List.mem_of_getElem? (i := 1066) (by decide +kernel), List.mem_of_getElem? (i := 1067) (by decide +kernel)⟩
theorem lw_p38 : lw_okq (⟨"RevisionVaultModel", "bring", "(III)I"⟩, 23) := ⟨⟨by decide +kernel, by decide +kernel⟩, List.mem_of_getElem? (i := 857) (by decide +kernel), List.mem_of_getElem? (i := 1082) (by decide +kernel), List.mem_of_getElem? (i := 1083) (by decide +kernel)⟩
theorem lw_p39 : lw_okq (⟨"RevisionVaultModel", "shut", "(I)I"⟩, 23) := ⟨⟨by decide +kernel, by decide +kernel⟩, List.mem_of_getElem? (i := 857) (by decide +kernel), List.mem_of_getElem? (i := 1094) (by decide +kernel), List.mem_of_getElem? (i := 1095) (by decide +kernel)⟩
theorem lw_p40 : lw_okq (⟨"RevisionVaultModel", "ancestors", "(II)I"⟩, 23) := ⟨⟨by decide +kernel, by decide +kernel⟩, List.mem_of_getElem? (i := 857) (by decide +kernel), List.mem_of_getElem? (i := 1126) (by decide +kernel), List.mem_of_getElem? (i := 1127) (by decide +kernel)⟩
def lw_privs_3 : List (MethodName × Nat) := [(⟨"RevisionVaultModel", "shortChain", "(III)Z"⟩, 23), (⟨"RevisionVaultModel", "putDifference", "(II)V"⟩, 23), (⟨"RevisionVaultModel", "putByte", "(II)V"⟩, 23), (⟨"RevisionVaultModel", "putSnapshot", "(I)V"⟩, 23), (⟨"RevisionVaultModel", "finish", "(I)Z"⟩, 23), (⟨"RevisionVaultModel", "roll", "(I)I"⟩, 23), (⟨"RevisionVaultModel", "bring", "(III)I"⟩, 23), (⟨"RevisionVaultModel", "shut", "(I)I"⟩, 23), (⟨"RevisionVaultModel", "ancestors", "(II)I"⟩, 23)]
theorem lw_r3 : ∀ q ∈ lw_privs_3, lw_okq q := List.forall_mem_cons.mpr ⟨lw_p32, List.forall_mem_cons.mpr ⟨lw_p33, List.forall_mem_cons.mpr ⟨lw_p34, List.forall_mem_cons.mpr ⟨lw_p35, List.forall_mem_cons.mpr ⟨lw_p36, List.forall_mem_cons.mpr ⟨lw_p37, List.forall_mem_cons.mpr ⟨lw_p38, List.forall_mem_cons.mpr ⟨lw_p39, List.forall_mem_cons.mpr ⟨lw_p40, fun _ h => absurd h List.not_mem_nil⟩⟩⟩⟩⟩⟩⟩⟩⟩
def lw_privs : List (MethodName × Nat) := lw_privs_1 ++ (lw_privs_2 ++ (lw_privs_3))
def lw_tbl : List Cond := k2_sels lw_privs ++ tables_1
theorem lw_privs_ok : ∀ q ∈ lw_privs, lw_okq q := by
  show ∀ q ∈ lw_privs_1 ++ (lw_privs_2 ++ (lw_privs_3)), lw_okq q
  exact List.forall_mem_append.mpr ⟨lw_r1, List.forall_mem_append.mpr ⟨lw_r2, lw_r3⟩⟩
end
section
def R_V : String := "RevisionVault"
def R_Row : String := "RevisionVault$Row"
def R_Cod : String := "RevisionVault$Coding"
def R_Rep : String := "RevisionVault$Repository"
def R_Rec : String := "RevisionVault$IndexRecord"
def R_M : String := "RevisionVaultModel"
def R_JA : String := "java/util/Arrays"
def R_JI : String := "java/lang/Integer"
def F_V : u_T := fun k => match k with
  | 0 => (R_V, "buffer", "LRevisionVault$Row;", true)
  | _ => (R_V, "repositories", "[LRevisionVault$Repository;", true)
def t_V : Nat → FieldType := fun k => match k with
  | 0 => .object "RevisionVault$Row"
  | _ => .array (.object "RevisionVault$Repository")
theorem n_V : ∀ a, a < 2 → ∀ b, b < 2 → a ≠ b → (F_V a).2.1 ≠ (F_V b).2.1 := by decide +kernel
theorem t_V_ok : ∀ k, k < 2 → parseFieldDescriptor (F_V k).2.2.1 = some (t_V k) := by decide +kernel
def F_Row : u_T := fun k => match k with
  | 0 => (R_Row, "codes", "[I", true)
  | _ => (R_Row, "length", "I", false)
def t_Row : Nat → FieldType := fun k => match k with
  | 0 => .array .int
  | _ => .int
theorem n_Row : ∀ a, a < 2 → ∀ b, b < 2 → a ≠ b → (F_Row a).2.1 ≠ (F_Row b).2.1 := by decide +kernel
theorem t_Row_ok : ∀ k, k < 2 → parseFieldDescriptor (F_Row k).2.2.1 = some (t_Row k) := by decide +kernel
def F_Rep : u_T := fun k => match k with
  | 0 => (R_Rep, "data", "LRevisionVault$Row;", true)
  | 1 => (R_Rep, "records", "[LRevisionVault$IndexRecord;", true)
  | 2 => (R_Rep, "recordCount", "I", false)
  | 3 => (R_Rep, "journal", "Z", false)
  | 4 => (R_Rep, "journalData", "I", false)
  | 5 => (R_Rep, "journalRecords", "I", false)
  | 6 => (R_Rep, "down", "Z", false)
  | 7 => (R_Rep, "writesToFailure", "I", false)
  | 8 => (R_Rep, "built", "LRevisionVault$Row;", true)
  | 9 => (R_Rep, "chain", "[I", true)
  | 10 => (R_Rep, "chunk", "LRevisionVault$Row;", true)
  | _ => (R_Rep, "trial", "LRevisionVault$Row;", true)
def t_Rep : Nat → FieldType := fun k => match k with
  | 0 => .object "RevisionVault$Row"
  | 1 => .array (.object "RevisionVault$IndexRecord")
  | 2 => .int
  | 3 => .boolean
  | 4 => .int
  | 5 => .int
  | 6 => .boolean
  | 7 => .int
  | 8 => .object "RevisionVault$Row"
  | 9 => .array .int
  | 10 => .object "RevisionVault$Row"
  | _ => .object "RevisionVault$Row"
theorem n_Rep : ∀ a, a < 12 → ∀ b, b < 12 → a ≠ b → (F_Rep a).2.1 ≠ (F_Rep b).2.1 := by decide +kernel
theorem t_Rep_ok : ∀ k, k < 12 → parseFieldDescriptor (F_Rep k).2.2.1 = some (t_Rep k) := by decide +kernel
def F_Rec : u_T := fun k => match k with
  | 0 => (R_Rec, "offset", "I", false)
  | 1 => (R_Rec, "size", "I", false)
  | 2 => (R_Rec, "length", "I", false)
  | 3 => (R_Rec, "base", "I", false)
  | 4 => (R_Rec, "p1", "I", false)
  | 5 => (R_Rec, "p2", "I", false)
  | _ => (R_Rec, "node", "J", false)
def t_Rec : Nat → FieldType := fun k => match k with
  | 0 => .int
  | 1 => .int
  | 2 => .int
  | 3 => .int
  | 4 => .int
  | 5 => .int
  | _ => .long
theorem n_Rec : ∀ a, a < 7 → ∀ b, b < 7 → a ≠ b → (F_Rec a).2.1 ≠ (F_Rec b).2.1 := by decide +kernel
theorem t_Rec_ok : ∀ k, k < 7 → parseFieldDescriptor (F_Rec k).2.2.1 = some (t_Rec k) := by decide +kernel
def F_M : u_T := fun k => match k with
  | 0 => (R_M, "thrown", "I", false)
  | 1 => (R_M, "size", "I", false)
  | 2 => (R_M, "buf", "[I", true)
  | 3 => (R_M, "bytes", "[I", true)
  | 4 => (R_M, "dataLen", "[I", true)
  | 5 => (R_M, "count", "[I", true)
  | 6 => (R_M, "offset", "[I", true)
  | 7 => (R_M, "chunk", "[I", true)
  | 8 => (R_M, "length", "[I", true)
  | 9 => (R_M, "base", "[I", true)
  | 10 => (R_M, "first", "[I", true)
  | 11 => (R_M, "second", "[I", true)
  | 12 => (R_M, "nodes", "[J", true)
  | 13 => (R_M, "journalData", "[I", true)
  | 14 => (R_M, "journalCount", "[I", true)
  | 15 => (R_M, "down", "[Z", true)
  | 16 => (R_M, "failing", "[I", true)
  | 17 => (R_M, "builtLen", "I", false)
  | 18 => (R_M, "built", "[I", true)
  | 19 => (R_M, "next", "[I", true)
  | 20 => (R_M, "chain", "[I", true)
  | 21 => (R_M, "textLen", "I", false)
  | _ => (R_M, "text", "[I", true)
def t_M : Nat → FieldType := fun k => match k with
  | 0 => .int
  | 1 => .int
  | 2 => .array .int
  | 3 => .array .int
  | 4 => .array .int
  | 5 => .array .int
  | 6 => .array .int
  | 7 => .array .int
  | 8 => .array .int
  | 9 => .array .int
  | 10 => .array .int
  | 11 => .array .int
  | 12 => .array .long
  | 13 => .array .int
  | 14 => .array .int
  | 15 => .array .boolean
  | 16 => .array .int
  | 17 => .int
  | 18 => .array .int
  | 19 => .array .int
  | 20 => .array .int
  | 21 => .int
  | _ => .array .int
theorem n_M : ∀ a, a < 23 → ∀ b, b < 23 → a ≠ b → (F_M a).2.1 ≠ (F_M b).2.1 := by decide +kernel
theorem t_M_ok : ∀ k, k < 23 → parseFieldDescriptor (F_M k).2.2.1 = some (t_M k) := by decide +kernel
abbrev cls : List vw_C := [(R_V, F_V, 2), (R_Row, F_Row, 2), (R_Rep, F_Rep, 12), (R_Rec, F_Rec, 7), (R_M, F_M, 23)]
abbrev b_Cod_commonBeginning : ByteArray := prog_2_method_5_code
def y_Cod_commonBeginning : MethodName := ⟨"RevisionVault$Coding", "commonBeginning", "(LRevisionVault$Row;LRevisionVault$Row;)I"⟩
abbrev b_Cod_commonEnd : ByteArray := prog_2_method_6_code
def y_Cod_commonEnd : MethodName := ⟨"RevisionVault$Coding", "commonEnd", "(LRevisionVault$Row;LRevisionVault$Row;I)I"⟩
abbrev b_Cod_readDifference : ByteArray := prog_2_method_8_code
def y_Cod_readDifference : MethodName := ⟨"RevisionVault$Coding", "readDifference", "(LRevisionVault$Row;IILRevisionVault$Row;)Z"⟩
abbrev b_Cod_readSnapshot : ByteArray := prog_2_method_7_code
def y_Cod_readSnapshot : MethodName := ⟨"RevisionVault$Coding", "readSnapshot", "(LRevisionVault$Row;IILRevisionVault$Row;)Z"⟩
abbrev b_Cod_writeDifference : ByteArray := prog_2_method_4_code
def y_Cod_writeDifference : MethodName := ⟨"RevisionVault$Coding", "writeDifference", "(LRevisionVault$Row;LRevisionVault$Row;LRevisionVault$Row;)V"⟩
abbrev b_Cod_writePacked : ByteArray := prog_2_method_3_code
def y_Cod_writePacked : MethodName := ⟨"RevisionVault$Coding", "writePacked", "(LRevisionVault$Row;LRevisionVault$Row;)V"⟩
abbrev b_Cod_writeWhole : ByteArray := prog_2_method_2_code
def y_Cod_writeWhole : MethodName := ⟨"RevisionVault$Coding", "writeWhole", "(LRevisionVault$Row;LRevisionVault$Row;)V"⟩
abbrev b_JA_fill : ByteArray := prog_25_method_104_code
def y_JA_fill : MethodName := ⟨"java/util/Arrays", "fill", "([IIII)V"⟩
abbrev b_JA_rangeCheck : ByteArray := prog_25_method_30_code
def y_JA_rangeCheck : MethodName := ⟨"java/util/Arrays", "rangeCheck", "(III)V"⟩
abbrev b_JI_bitCount : ByteArray := prog_15_method_49_code
def y_JI_bitCount : MethodName := ⟨"java/lang/Integer", "bitCount", "(I)I"⟩
abbrev b_L_abort : ByteArray := method_6_code
def y_L_abort : MethodName := ⟨"RevisionVaultLaw", "abort", "(LRevisionVault;I[J)I"⟩
abbrev b_L_append : ByteArray := method_4_code
def y_L_append : MethodName := ⟨"RevisionVaultLaw", "append", "(LRevisionVault;III[J)I"⟩
abbrev b_L_begin : ByteArray := method_3_code
def y_L_begin : MethodName := ⟨"RevisionVaultLaw", "begin", "(LRevisionVault;I[J)I"⟩
abbrev b_L_commit : ByteArray := method_5_code
def y_L_commit : MethodName := ⟨"RevisionVaultLaw", "commit", "(LRevisionVault;I[J)I"⟩
abbrev b_L_pull : ByteArray := method_8_code
def y_L_pull : MethodName := ⟨"RevisionVaultLaw", "pull", "(LRevisionVault;I[J)I"⟩
abbrev b_L_recover : ByteArray := method_7_code
def y_L_recover : MethodName := ⟨"RevisionVaultLaw", "recover", "(LRevisionVault;II[J)I"⟩
abbrev b_L_text : ByteArray := method_9_code
def y_L_text : MethodName := ⟨"RevisionVaultLaw", "text", "(LRevisionVault;III[J)I"⟩
abbrev b_M_abort : ByteArray := prog_7_method_35_code
def y_M_abort : MethodName := ⟨"RevisionVaultModel", "abort", "(I)I"⟩
abbrev b_M_add : ByteArray := prog_7_method_27_code
def y_M_add : MethodName := ⟨"RevisionVaultModel", "add", "(III)I"⟩
abbrev b_M_ancestors : ByteArray := prog_7_method_49_code
def y_M_ancestors : MethodName := ⟨"RevisionVaultModel", "ancestors", "(II)I"⟩
abbrev b_M_append : ByteArray := prog_7_method_33_code
def y_M_append : MethodName := ⟨"RevisionVaultModel", "append", "(III)I"⟩
abbrev b_M_apply : ByteArray := prog_7_method_14_code
def y_M_apply : MethodName := ⟨"RevisionVaultModel", "apply", "(II)Z"⟩
abbrev b_M_barred : ByteArray := prog_7_method_28_code
def y_M_barred : MethodName := ⟨"RevisionVaultModel", "barred", "(IZ)Z"⟩
abbrev b_M_begin : ByteArray := prog_7_method_32_code
def y_M_begin : MethodName := ⟨"RevisionVaultModel", "begin", "(I)I"⟩
abbrev b_M_begun : ByteArray := prog_7_method_10_code
def y_M_begun : MethodName := ⟨"RevisionVaultModel", "begun", "(III)J"⟩
abbrev b_M_bring : ByteArray := prog_7_method_39_code
def y_M_bring : MethodName := ⟨"RevisionVaultModel", "bring", "(III)I"⟩
abbrev b_M_build : ByteArray := prog_7_method_15_code
def y_M_build : MethodName := ⟨"RevisionVaultModel", "build", "(II)Z"⟩
abbrev b_M_byteAt : ByteArray := prog_7_method_12_code
def y_M_byteAt : MethodName := ⟨"RevisionVaultModel", "byteAt", "(III)I"⟩
abbrev b_M_candidate : ByteArray := prog_7_method_22_code
def y_M_candidate : MethodName := ⟨"RevisionVaultModel", "candidate", "(IIII)I"⟩
abbrev b_M_chosen : ByteArray := prog_7_method_23_code
def y_M_chosen : MethodName := ⟨"RevisionVaultModel", "chosen", "(III)I"⟩
abbrev b_M_commit : ByteArray := prog_7_method_34_code
def y_M_commit : MethodName := ⟨"RevisionVaultModel", "commit", "(I)I"⟩
abbrev b_M_common : ByteArray := prog_7_method_50_code
def y_M_common : MethodName := ⟨"RevisionVaultModel", "common", "(III)I"⟩
abbrev b_M_commonBegin : ByteArray := prog_7_method_18_code
def y_M_commonBegin : MethodName := ⟨"RevisionVaultModel", "commonBegin", "()I"⟩
abbrev b_M_commonEnd : ByteArray := prog_7_method_19_code
def y_M_commonEnd : MethodName := ⟨"RevisionVaultModel", "commonEnd", "(I)I"⟩
abbrev b_M_damage : ByteArray := prog_7_method_46_code
def y_M_damage : MethodName := ⟨"RevisionVaultModel", "damage", "(III)Z"⟩
abbrev b_M_data : ByteArray := prog_7_method_45_code
def y_M_data : MethodName := ⟨"RevisionVaultModel", "data", "(II)I"⟩
abbrev b_M_difference : ByteArray := prog_7_method_20_code
def y_M_difference : MethodName := ⟨"RevisionVaultModel", "difference", "()I"⟩
abbrev b_M_fail : ByteArray := prog_7_method_36_code
def y_M_fail : MethodName := ⟨"RevisionVaultModel", "fail", "(II)Z"⟩
abbrev b_M_finish : ByteArray := prog_7_method_30_code
def y_M_finish : MethodName := ⟨"RevisionVaultModel", "finish", "(I)Z"⟩
abbrev b_M_found : ByteArray := prog_7_method_11_code
def y_M_found : MethodName := ⟨"RevisionVaultModel", "found", "(IJ)I"⟩
abbrev b_M_heads : ByteArray := prog_7_method_48_code
def y_M_heads : MethodName := ⟨"RevisionVaultModel", "heads", "(I)I"⟩
abbrev b_M_init : ByteArray := prog_7_method_1_code
def y_M_init : MethodName := ⟨"RevisionVaultModel", "<init>", "()V"⟩
abbrev b_M_isRepository : ByteArray := prog_7_method_4_code
def y_M_isRepository : MethodName := ⟨"RevisionVaultModel", "isRepository", "(I)Z"⟩
abbrev b_M_isRevision : ByteArray := prog_7_method_5_code
def y_M_isRevision : MethodName := ⟨"RevisionVaultModel", "isRevision", "(II)Z"⟩
abbrev b_M_mixed : ByteArray := prog_7_method_8_code
def y_M_mixed : MethodName := ⟨"RevisionVaultModel", "mixed", "(JI)J"⟩
abbrev b_M_mixedLong : ByteArray := prog_7_method_9_code
def y_M_mixedLong : MethodName := ⟨"RevisionVaultModel", "mixedLong", "(JJ)J"⟩
abbrev b_M_node : ByteArray := prog_7_method_44_code
def y_M_node : MethodName := ⟨"RevisionVaultModel", "node", "(II)J"⟩
abbrev b_M_pull : ByteArray := prog_7_method_38_code
def y_M_pull : MethodName := ⟨"RevisionVaultModel", "pull", "(I)I"⟩
abbrev b_M_putByte : ByteArray := prog_7_method_24_code
def y_M_putByte : MethodName := ⟨"RevisionVaultModel", "putByte", "(II)V"⟩
abbrev b_M_putDifference : ByteArray := prog_7_method_25_code
def y_M_putDifference : MethodName := ⟨"RevisionVaultModel", "putDifference", "(II)V"⟩
abbrev b_M_putSnapshot : ByteArray := prog_7_method_26_code
def y_M_putSnapshot : MethodName := ⟨"RevisionVaultModel", "putSnapshot", "(I)V"⟩
abbrev b_M_raise : ByteArray := prog_7_method_3_code
def y_M_raise : MethodName := ⟨"RevisionVaultModel", "raise", "(I)I"⟩
abbrev b_M_record : ByteArray := prog_7_method_43_code
def y_M_record : MethodName := ⟨"RevisionVaultModel", "record", "(III)I"⟩
abbrev b_M_recover : ByteArray := prog_7_method_37_code
def y_M_recover : MethodName := ⟨"RevisionVaultModel", "recover", "(II)I"⟩
abbrev b_M_revisions : ByteArray := prog_7_method_42_code
def y_M_revisions : MethodName := ⟨"RevisionVaultModel", "revisions", "(I)I"⟩
abbrev b_M_roll : ByteArray := prog_7_method_31_code
def y_M_roll : MethodName := ⟨"RevisionVaultModel", "roll", "(I)I"⟩
abbrev b_M_runs : ByteArray := prog_7_method_17_code
def y_M_runs : MethodName := ⟨"RevisionVaultModel", "runs", "()I"⟩
abbrev b_M_shortChain : ByteArray := prog_7_method_21_code
def y_M_shortChain : MethodName := ⟨"RevisionVaultModel", "shortChain", "(III)Z"⟩
abbrev b_M_shut : ByteArray := prog_7_method_41_code
def y_M_shut : MethodName := ⟨"RevisionVaultModel", "shut", "(I)I"⟩
abbrev b_M_start : ByteArray := prog_7_method_29_code
def y_M_start : MethodName := ⟨"RevisionVaultModel", "start", "(I)Z"⟩
abbrev b_M_text : ByteArray := prog_7_method_40_code
def y_M_text : MethodName := ⟨"RevisionVaultModel", "text", "(III)I"⟩
abbrev b_M_thrown : ByteArray := prog_7_method_2_code
def y_M_thrown : MethodName := ⟨"RevisionVaultModel", "thrown", "()I"⟩
abbrev b_M_type : ByteArray := prog_7_method_6_code
def y_M_type : MethodName := ⟨"RevisionVaultModel", "type", "(J)Z"⟩
abbrev b_M_whole : ByteArray := prog_7_method_13_code
def y_M_whole : MethodName := ⟨"RevisionVaultModel", "whole", "(II)Z"⟩
abbrev b_M_wipe : ByteArray := prog_7_method_7_code
def y_M_wipe : MethodName := ⟨"RevisionVaultModel", "wipe", "()V"⟩
abbrev b_M_write : ByteArray := prog_7_method_16_code
def y_M_write : MethodName := ⟨"RevisionVaultModel", "write", "(I)Z"⟩
abbrev b_M_wrong : ByteArray := prog_7_method_47_code
def y_M_wrong : MethodName := ⟨"RevisionVaultModel", "wrong", "(I)I"⟩
abbrev b_Rec_describe : ByteArray := prog_3_method_3_code
def y_Rec_describe : MethodName := ⟨"RevisionVault$IndexRecord", "describe", "(IIIJ)V"⟩
abbrev b_Rec_field : ByteArray := prog_3_method_4_code
def y_Rec_field : MethodName := ⟨"RevisionVault$IndexRecord", "field", "(I)I"⟩
abbrev b_Rec_init : ByteArray := prog_3_method_1_code
def y_Rec_init : MethodName := ⟨"RevisionVault$IndexRecord", "<init>", "()V"⟩
abbrev b_Rec_placeChunk : ByteArray := prog_3_method_2_code
def y_Rec_placeChunk : MethodName := ⟨"RevisionVault$IndexRecord", "placeChunk", "(III)V"⟩
abbrev b_Rep_ancestorsOf : ByteArray := prog_4_method_23_code
def y_Rep_ancestorsOf : MethodName := ⟨"RevisionVault$Repository", "ancestorsOf", "(I)I"⟩
abbrev b_Rep_build : ByteArray := prog_4_method_19_code
def y_Rep_build : MethodName := ⟨"RevisionVault$Repository", "build", "(I)Z"⟩
abbrev b_Rep_canBeParent : ByteArray := prog_4_method_3_code
def y_Rep_canBeParent : MethodName := ⟨"RevisionVault$Repository", "canBeParent", "(I)Z"⟩
abbrev b_Rep_chainFits : ByteArray := prog_4_method_18_code
def y_Rep_chainFits : MethodName := ⟨"RevisionVault$Repository", "chainFits", "(II)Z"⟩
abbrev b_Rep_chooseChunk : ByteArray := prog_4_method_17_code
def y_Rep_chooseChunk : MethodName := ⟨"RevisionVault$Repository", "chooseChunk", "(LRevisionVault$Row;II)I"⟩
abbrev b_Rep_comeUp : ByteArray := prog_4_method_8_code
def y_Rep_comeUp : MethodName := ⟨"RevisionVault$Repository", "comeUp", "(I)I"⟩
abbrev b_Rep_countHeads : ByteArray := prog_4_method_21_code
def y_Rep_countHeads : MethodName := ⟨"RevisionVault$Repository", "countHeads", "()I"⟩
abbrev b_Rep_countWrong : ByteArray := prog_4_method_20_code
def y_Rep_countWrong : MethodName := ⟨"RevisionVault$Repository", "countWrong", "()I"⟩
abbrev b_Rep_find : ByteArray := prog_4_method_13_code
def y_Rep_find : MethodName := ⟨"RevisionVault$Repository", "find", "(J)I"⟩
abbrev b_Rep_greatestCommonAncestor : ByteArray := prog_4_method_22_code
def y_Rep_greatestCommonAncestor : MethodName := ⟨"RevisionVault$Repository", "greatestCommonAncestor", "(II)I"⟩
abbrev b_Rep_hasRevision : ByteArray := prog_4_method_2_code
def y_Rep_hasRevision : MethodName := ⟨"RevisionVault$Repository", "hasRevision", "(I)Z"⟩
abbrev b_Rep_init : ByteArray := prog_4_method_1_code
def y_Rep_init : MethodName := ⟨"RevisionVault$Repository", "<init>", "()V"⟩
abbrev b_Rep_mayWrite : ByteArray := prog_4_method_4_code
def y_Rep_mayWrite : MethodName := ⟨"RevisionVault$Repository", "mayWrite", "()Z"⟩
abbrev b_Rep_mixLong : ByteArray := prog_4_method_16_code
def y_Rep_mixLong : MethodName := ⟨"RevisionVault$Repository", "mixLong", "(JJ)J"⟩
abbrev b_Rep_nodeOf : ByteArray := prog_4_method_15_code
def y_Rep_nodeOf : MethodName := ⟨"RevisionVault$Repository", "nodeOf", "(LRevisionVault$Row;II)J"⟩
abbrev b_Rep_nodeOrZero : ByteArray := prog_4_method_14_code
def y_Rep_nodeOrZero : MethodName := ⟨"RevisionVault$Repository", "nodeOrZero", "(I)J"⟩
abbrev b_Rep_openJournal : ByteArray := prog_4_method_5_code
def y_Rep_openJournal : MethodName := ⟨"RevisionVault$Repository", "openJournal", "()Z"⟩
abbrev b_Rep_parentsOf : ByteArray := prog_4_method_24_code
def y_Rep_parentsOf : MethodName := ⟨"RevisionVault$Repository", "parentsOf", "(I)I"⟩
abbrev b_Rep_removeJournal : ByteArray := prog_4_method_6_code
def y_Rep_removeJournal : MethodName := ⟨"RevisionVault$Repository", "removeJournal", "()Z"⟩
abbrev b_Rep_rollBack : ByteArray := prog_4_method_7_code
def y_Rep_rollBack : MethodName := ⟨"RevisionVault$Repository", "rollBack", "()I"⟩
abbrev b_Rep_store : ByteArray := prog_4_method_12_code
def y_Rep_store : MethodName := ⟨"RevisionVault$Repository", "store", "(LRevisionVault$Row;II)I"⟩
abbrev b_Rep_takeFrom : ByteArray := prog_4_method_9_code
def y_Rep_takeFrom : MethodName := ⟨"RevisionVault$Repository", "takeFrom", "(LRevisionVault$Repository;)I"⟩
abbrev b_Rep_twinOf : ByteArray := prog_4_method_10_code
def y_Rep_twinOf : MethodName := ⟨"RevisionVault$Repository", "twinOf", "(LRevisionVault$Repository;I)I"⟩
abbrev b_Rep_undo : ByteArray := prog_4_method_11_code
def y_Rep_undo : MethodName := ⟨"RevisionVault$Repository", "undo", "(I)V"⟩
abbrev b_Row_add : ByteArray := prog_5_method_7_code
def y_Row_add : MethodName := ⟨"RevisionVault$Row", "add", "(I)Z"⟩
abbrev b_Row_addPart : ByteArray := prog_5_method_9_code
def y_Row_addPart : MethodName := ⟨"RevisionVault$Row", "addPart", "(LRevisionVault$Row;II)Z"⟩
abbrev b_Row_addRun : ByteArray := prog_5_method_8_code
def y_Row_addRun : MethodName := ⟨"RevisionVault$Row", "addRun", "(II)Z"⟩
abbrev b_Row_at : ByteArray := prog_5_method_3_code
def y_Row_at : MethodName := ⟨"RevisionVault$Row", "at", "(I)I"⟩
abbrev b_Row_become : ByteArray := prog_5_method_11_code
def y_Row_become : MethodName := ⟨"RevisionVault$Row", "become", "(LRevisionVault$Row;)V"⟩
abbrev b_Row_cut : ByteArray := prog_5_method_5_code
def y_Row_cut : MethodName := ⟨"RevisionVault$Row", "cut", "(I)V"⟩
abbrev b_Row_flip : ByteArray := prog_5_method_6_code
def y_Row_flip : MethodName := ⟨"RevisionVault$Row", "flip", "(II)V"⟩
abbrev b_Row_has : ByteArray := prog_5_method_2_code
def y_Row_has : MethodName := ⟨"RevisionVault$Row", "has", "(I)Z"⟩
abbrev b_Row_hasRoomFor : ByteArray := prog_5_method_4_code
def y_Row_hasRoomFor : MethodName := ⟨"RevisionVault$Row", "hasRoomFor", "(I)Z"⟩
abbrev b_Row_init : ByteArray := prog_5_method_1_code
def y_Row_init : MethodName := ⟨"RevisionVault$Row", "<init>", "(I)V"⟩
abbrev b_Row_replace : ByteArray := prog_5_method_10_code
def y_Row_replace : MethodName := ⟨"RevisionVault$Row", "replace", "(IILRevisionVault$Row;II)Z"⟩
abbrev b_V_abort : ByteArray := prog_1_method_7_code
def y_V_abort : MethodName := ⟨"RevisionVault", "abort", "(I)I"⟩
abbrev b_V_append : ByteArray := prog_1_method_5_code
def y_V_append : MethodName := ⟨"RevisionVault", "append", "(III)I"⟩
abbrev b_V_barTo : ByteArray := prog_1_method_23_code
def y_V_barTo : MethodName := ⟨"RevisionVault", "barTo", "(I)I"⟩
abbrev b_V_begin : ByteArray := prog_1_method_4_code
def y_V_begin : MethodName := ⟨"RevisionVault", "begin", "(I)I"⟩
abbrev b_V_byteAt : ByteArray := prog_1_method_20_code
def y_V_byteAt : MethodName := ⟨"RevisionVault", "byteAt", "(JI)I"⟩
abbrev b_V_commit : ByteArray := prog_1_method_6_code
def y_V_commit : MethodName := ⟨"RevisionVault", "commit", "(I)I"⟩
abbrev b_V_common : ByteArray := prog_1_method_19_code
def y_V_common : MethodName := ⟨"RevisionVault", "common", "(III)I"⟩
abbrev b_V_damage : ByteArray := prog_1_method_16_code
def y_V_damage : MethodName := ⟨"RevisionVault", "damage", "(III)Z"⟩
abbrev b_V_data : ByteArray := prog_1_method_15_code
def y_V_data : MethodName := ⟨"RevisionVault", "data", "(II)I"⟩
abbrev b_V_fail : ByteArray := prog_1_method_8_code
def y_V_fail : MethodName := ⟨"RevisionVault", "fail", "(II)Z"⟩
abbrev b_V_heads : ByteArray := prog_1_method_18_code
def y_V_heads : MethodName := ⟨"RevisionVault", "heads", "(I)I"⟩
abbrev b_V_init : ByteArray := prog_1_method_1_code
def y_V_init : MethodName := ⟨"RevisionVault", "<init>", "()V"⟩
abbrev b_V_isCharacter : ByteArray := prog_1_method_21_code
def y_V_isCharacter : MethodName := ⟨"RevisionVault", "isCharacter", "(I)Z"⟩
abbrev b_V_isRepository : ByteArray := prog_1_method_22_code
def y_V_isRepository : MethodName := ⟨"RevisionVault", "isRepository", "(I)Z"⟩
abbrev b_V_node : ByteArray := prog_1_method_14_code
def y_V_node : MethodName := ⟨"RevisionVault", "node", "(II)J"⟩
abbrev b_V_pull : ByteArray := prog_1_method_10_code
def y_V_pull : MethodName := ⟨"RevisionVault", "pull", "(I)I"⟩
abbrev b_V_record : ByteArray := prog_1_method_13_code
def y_V_record : MethodName := ⟨"RevisionVault", "record", "(III)I"⟩
abbrev b_V_recover : ByteArray := prog_1_method_9_code
def y_V_recover : MethodName := ⟨"RevisionVault", "recover", "(II)I"⟩
abbrev b_V_repositoryAt : ByteArray := prog_1_method_24_code
def y_V_repositoryAt : MethodName := ⟨"RevisionVault", "repositoryAt", "(I)LRevisionVault$Repository;"⟩
abbrev b_V_repositoryInTransaction : ByteArray := prog_1_method_25_code
def y_V_repositoryInTransaction : MethodName := ⟨"RevisionVault", "repositoryInTransaction", "(I)LRevisionVault$Repository;"⟩
abbrev b_V_revisions : ByteArray := prog_1_method_12_code
def y_V_revisions : MethodName := ⟨"RevisionVault", "revisions", "(I)I"⟩
abbrev b_V_text : ByteArray := prog_1_method_11_code
def y_V_text : MethodName := ⟨"RevisionVault", "text", "(III)I"⟩
abbrev b_V_type : ByteArray := prog_1_method_2_code
def y_V_type : MethodName := ⟨"RevisionVault", "type", "(J)Z"⟩
abbrev b_V_wipe : ByteArray := prog_1_method_3_code
def y_V_wipe : MethodName := ⟨"RevisionVault", "wipe", "()V"⟩
abbrev b_V_wrong : ByteArray := prog_1_method_17_code
def y_V_wrong : MethodName := ⟨"RevisionVault", "wrong", "(I)I"⟩
end
section
/-! THE STATE. The system's ints by cell and place, nodes of its records; the reference's ints and nodes; the law's answer cell -/
abbrev Cs : Type := (Nat → Nat → Int32) × (Nat → Int64)
abbrev Sg : Type := Cs × Cs × (Nat → Int64)
/-- the world's places: class numbers and slots; addresses by cell; array kinds; the state at the law's start -/
abbrev Dt : Type := va_G × (Nat → Nat) × (Nat → ClassId) × State
def upA (f : Nat → Nat → Int32) (i : Nat) (g : Nat → Int32) : Nat → Nat → Int32 := fun a => if a = i then g else f a
theorem upA_s {f : Nat → Nat → Int32} {i : Nat} {g : Nat → Int32} : upA f i g i = g := by simp [upA]
theorem upA_n {f : Nat → Nat → Int32} {i a : Nat} {g : Nat → Int32} (h : a ≠ i) : upA f i g a = f a := by simp [upA, h]
def wA (c : Cs) (i : Nat) (g : Nat → Int32) : Cs := (upA c.1 i g, c.2)
def wI (c : Cs) (i k : Nat) (v : Int32) : Cs := (upA c.1 i (upd (c.1 i) k v), c.2)
def wN (c : Cs) (i : Nat) (v : Int64) : Cs := (c.1, vp_updL c.2 i v)
theorem wA_1s {c : Cs} {i : Nat} {g : Nat → Int32} : (wA c i g).1 i = g := upA_s
theorem wA_1n {c : Cs} {i a : Nat} {g : Nat → Int32} (h : a ≠ i) : (wA c i g).1 a = c.1 a := upA_n h
theorem wI_1s {c : Cs} {i k : Nat} {v : Int32} : (wI c i k v).1 i = upd (c.1 i) k v := upA_s
theorem wI_1n {c : Cs} {i k a : Nat} {v : Int32} (h : a ≠ i) : (wI c i k v).1 a = c.1 a := upA_n h
/-- lengths of the rows' arrays, of the reference's int arrays -/
def rln (j : Nat) : Nat := if j = 0 then 60 else if (j - 1) % 4 = 0 then 600 else if (j - 1) % 4 = 1 then 60 else 121
theorem rln_le (j : Nat) : rln j ≤ 600 := by
  unfold rln
  split
  · decide
  · split
    · decide
    · split <;> decide
def mln (a : Nat) : Nat := [0, 60, 1200, 2, 2, 48, 48, 48, 48, 48, 48, 2, 2, 2, 60, 60, 24, 60].getD a 0
def ad (D : Dt) (t : Nat) : Nat := D.2.1 t
def aVlt (D : Dt) : Nat := ad D 0
def aRow (D : Dt) (j : Nat) : Nat := ad D (1 + j)
def aArr (D : Dt) (j : Nat) : Nat := ad D (10 + j)
def aRps (D : Dt) : Nat := ad D 19
def aRep (D : Dt) (r : Nat) : Nat := ad D (20 + r)
def aRcs (D : Dt) (r : Nat) : Nat := ad D (22 + r)
def aChn (D : Dt) (r : Nat) : Nat := ad D (24 + r)
def aRec (D : Dt) (i : Nat) : Nat := ad D (26 + i)
def aMdl (D : Dt) : Nat := ad D 74
def aMar (D : Dt) (a : Nat) : Nat := ad D (74 + a)
def aNds (D : Dt) : Nat := ad D 92
def aDwn (D : Dt) : Nat := ad D 93
def aOut (D : Dt) : Nat := ad D 94
/-- what stands in a cell -/
def ct (D : Dt) (σ : Sg) (t : Nat) : va_E :=
  if t < 1 then .inr (0, [.ref (aRow D 0), .ref (aRps D)])
  else if t < 10 then .inr (1, [.ref (aArr D (t - 1)), .int (σ.1.1 t 0)])
  else if t < 19 then .inl (D.2.2.1 0, rln (t - 10), .inl (σ.1.1 t))
  else if t < 20 then .inl (D.2.2.1 3, 2, .inr (.inr (.inr (.inr (fun k => some (aRep D k))))))
  else if t < 22 then .inr (2, [.ref (aRow D (1 + 4 * (t - 20))), .ref (aRcs D (t - 20)), .int (σ.1.1 t 0), .int (σ.1.1 t 1), .int (σ.1.1 t 2), .int (σ.1.1 t 3), .int (σ.1.1 t 4), .int (σ.1.1 t 5), .ref (aRow D (2 + 4 * (t - 20))), .ref (aChn D (t - 20)), .ref (aRow D (3 + 4 * (t - 20))), .ref (aRow D (4 + 4 * (t - 20)))])
  else if t < 24 then .inl (D.2.2.1 4, 24, .inr (.inr (.inr (.inr (fun k => some (aRec D (24 * (t - 22) + k)))))))
  else if t < 26 then .inl (D.2.2.1 0, 6, .inl (σ.1.1 t))
  else if t < 74 then .inr (3, [.int (σ.1.1 t 0), .int (σ.1.1 t 1), .int (σ.1.1 t 2), .int (σ.1.1 t 3), .int (σ.1.1 t 4), .int (σ.1.1 t 5), .long (σ.1.2 (t - 26))])
  else if t < 75 then .inr (4, [.int (σ.2.1.1 0 0), .int (σ.2.1.1 0 1), .ref (aMar D 1), .ref (aMar D 2), .ref (aMar D 3), .ref (aMar D 4), .ref (aMar D 5), .ref (aMar D 6), .ref (aMar D 7), .ref (aMar D 8), .ref (aMar D 9), .ref (aMar D 10), .ref (aNds D), .ref (aMar D 11), .ref (aMar D 12), .ref (aDwn D), .ref (aMar D 13), .int (σ.2.1.1 0 2), .ref (aMar D 14), .ref (aMar D 15), .ref (aMar D 16), .int (σ.2.1.1 0 3), .ref (aMar D 17)])
  else if t < 92 then .inl (D.2.2.1 0, mln (t - 74), .inl (σ.2.1.1 (t - 74)))
  else if t < 93 then .inl (D.2.2.1 1, 48, .inr (.inl σ.2.1.2))
  else if t < 94 then .inl (D.2.2.1 2, 2, .inl (σ.2.1.1 19))
  else .inl (D.2.2.1 1, 1, .inr (.inl σ.2.2))
def wld (D : Dt) (σ : Sg) : va_W := (List.range 95).map (fun t => (ad D t, ct D σ t))
def tys (D : Dt) : List (ClassId × FieldType) := [(D.2.2.1 0, .int), (D.2.2.1 1, .long), (D.2.2.1 2, .boolean), (D.2.2.1 3, .object R_Rep), (D.2.2.1 4, .object R_Rec)]
def Ab (D : Dt) : Nat → Prop := fun q => D.2.2.2.heap.size ≤ q
def OkD (D : Dt) : Prop := (∀ i j, i < 95 → j < 95 → ad D i = ad D j → i = j) ∧ (∀ i, i < 95 → D.2.2.2.heap.size ≤ ad D i) ∧ va_K D.1 cls (tys D) D.2.2.2 ∧ ∃ a0 : Array Value, ∀ w ∈ lw_tbl, w.before a0 D.2.2.2 = true
theorem wld_at {D : Dt} {σ : Sg} {t : Nat} (h : t < 95) : (wld D σ)[t]? = some (ad D t, ct D σ t) := by
  simp [wld, List.getElem?_map, List.getElem?_range h]
theorem wld_in {D : Dt} {σ : Sg} {t : Nat} {q : Nat × va_E} (h : (wld D σ)[t]? = some q) : t < 95 ∧ q = (ad D t, ct D σ t) := by
  have hl : t < (wld D σ).length := (List.getElem?_eq_some_iff.mp h).1
  have hl : t < 95 := by simpa [wld] using hl
  rw [wld_at hl] at h
  exact ⟨hl, (Option.some.inj h).symm⟩
theorem wld_D {D : Dt} (hD : OkD D) (σ : Sg) : va_D (Ab D) (wld D σ) := by
  refine ⟨fun i j p q hi hj hpq => ?_, fun k q hk => ?_⟩
  · obtain ⟨h1, rfl⟩ := wld_in hi
    obtain ⟨h2, rfl⟩ := wld_in hj
    exact hD.1 i j h1 h2 hpq
  · obtain ⟨h1, rfl⟩ := wld_in hk
    exact hD.2.1 k h1
theorem wld_set {D : Dt} {σ σ' : Sg} {t : Nat} {x : va_E} (ht : t < 95) (he : ct D σ' t = x) (ho : ∀ u, u < 95 → u ≠ t → ct D σ' u = ct D σ u) : (wld D σ).set t (ad D t, x) = wld D σ' := by
  apply List.ext_getElem?
  intro k
  by_cases hk : k = t
  · subst hk
    rw [List.getElem?_set_self (by simpa [wld] using ht), wld_at ht, he]
  · rw [List.getElem?_set_ne (Ne.symm hk)]
    by_cases h : k < 95
    · rw [wld_at h, wld_at h, ho k h hk]
    · rw [List.getElem?_eq_none (by simpa [wld] using Nat.le_of_not_lt h), List.getElem?_eq_none (by simpa [wld] using Nat.le_of_not_lt h)]
/-! the words that every contract stands on: the tables' good ones -/
def UNI : List Cond := lw_tbl.filter goodWord
theorem un_in {w : Cond} (h : w ∈ lw_tbl) (hg : goodWord w = true) : w ∈ UNI := List.mem_filter.mpr ⟨h, hg⟩
theorem un {w : Cond} (i : Nat) (h : tables_1[i]? = some w) (hg : goodWord w = true) : w ∈ UNI := un_in (List.mem_append_right _ (List.mem_of_getElem? h)) hg
theorem unS {q : MethodName × Nat} (i : Nat) (h : lw_privs[i]? = some q) (hg : goodWord (Cond.selects q.1.cls q.1 q.1) = true) : Cond.selects q.1.cls q.1 q.1 ∈ UNI := un_in (List.mem_append_left _ (List.mem_map.mpr ⟨q, List.mem_of_getElem? h, rfl⟩)) hg
theorem OkD.ts {D : Dt} (hD : OkD D) {U : State} (hW : D.2.2.2.WarmedH U.vm) (a : Array Value) : ∀ w ∈ UNI, w.before a U = true := by
  obtain ⟨a0, h⟩ := hD.2.2.2
  intro w hw
  obtain ⟨h1, h2⟩ := List.mem_filter.mp hw
  exact word_at hW (good_of_word h2) (h w h1)
/-! locals: a list, the first entry counts; none: nothing is known -/
abbrev Lc : Type := List (Nat × Option Value)
def lk : Lc → Nat → Option Value
  | [], _ => none
  | q :: l, i => bif Nat.beq q.1 i then q.2 else lk l i
theorem lk_cons (q : Nat × Option Value) (l : Lc) (i : Nat) : lk (q :: l) i = if q.1 = i then q.2 else lk l i := by
  by_cases h : q.1 = i
  · have hb : Nat.beq q.1 i = true := by subst h; exact Nat.beq_refl _
    rw [if_pos h, lk, hb]
    rfl
  · have hb : Nat.beq q.1 i = false := by
      cases hb : Nat.beq q.1 i with
      | false => rfl
      | true => exact absurd (Nat.eq_of_beq_eq_true hb) h
    rw [if_neg h, lk, hb]
    rfl
def Lh (ls : Array Slot) (n : Nat) (L : Lc) : Prop := ls.size = n ∧ lv_wf ls ∧ ∀ i v, lk L i = some v → ls[i]? = some (.val v)
def toL (L : Lc) (n : Nat) : List (Nat × Value) := (List.range n).filterMap (fun i => (lk L i).map (fun v => (i, v)))
theorem Lh.has {ls : Array Slot} {n : Nat} {L : Lc} (h : Lh ls n L) : lv_has ls n (toL L n) := by
  refine ⟨h.1, h.2.1, fun q hq => ?_⟩
  obtain ⟨i, -, hi⟩ := List.mem_filterMap.mp hq
  cases hv : lk L i with
  | none => rw [hv] at hi; cases hi
  | some v =>
    rw [hv] at hi
    cases hi
    exact h.2.2 i v hv
theorem toL_in {L : Lc} {n i : Nat} {v : Value} (hi : i < n) (h : lk L i = some v) : (i, v) ∈ toL L n := List.mem_filterMap.mpr ⟨i, List.mem_range.mpr hi, by rw [h]; rfl⟩
theorem Lh.lt {ls : Array Slot} {n : Nat} {L : Lc} (h : Lh ls n L) {i : Nat} {v : Value} (hv : lk L i = some v) : i < n := by
  rw [← h.1]
  exact lv_lt (h.2.2 i v hv)
/-- storing at i harms no long before it -/
def kl (L : Lc) : Nat → Bool
  | 0 => true
  | j + 1 => match lk L j with
    | some v => decide (v.category = 1)
    | none => true
theorem Lh.st1 {ls ls' : Array Slot} {n i : Nat} {L : Lc} {v : Value} (h : Lh ls n L) (hk : kl L i = true)
    (h' : lv_has ls' n ((i, v) :: (toL L n).filter (fun q => !(q.1 == i) && !(q.1 + 1 == i && q.2.category == 2)))) : Lh ls' n ((i, some v) :: L) := by
  refine ⟨h'.1, h'.2.1, fun j w hj => ?_⟩
  by_cases hij : i = j
  · subst hij
    rw [lk_cons, if_pos rfl] at hj
    cases hj
    exact h'.2.2 (i, v) List.mem_cons_self
  · rw [lk_cons, if_neg hij] at hj
    refine h'.2.2 (j, w) (List.mem_cons_of_mem _ (List.mem_filter.mpr ⟨toL_in (h.lt hj) hj, ?_⟩))
    have h1 : (j == i) = false := by simpa using fun e : j = i => hij e.symm
    by_cases h2 : j + 1 = i
    · subst h2
      simp only [kl, hj, decide_eq_true_eq] at hk
      simp [hk]
    · simp [h1, h2, Ne.symm hij]
theorem Lh.st2 {ls ls' : Array Slot} {n i : Nat} {L : Lc} {v : Value} (h : Lh ls n L) (hk : kl L i = true)
    (h' : lv_has ls' n ((i, v) :: (toL L n).filter (fun q => !(q.1 == i) && (!(q.1 == i + 1) && !(q.1 + 1 == i && q.2.category == 2))))) : Lh ls' n ((i, some v) :: (i + 1, none) :: L) := by
  refine ⟨h'.1, h'.2.1, fun j w hj => ?_⟩
  by_cases hij : i = j
  · subst hij
    rw [lk_cons, if_pos rfl] at hj
    cases hj
    exact h'.2.2 (i, v) List.mem_cons_self
  · rw [lk_cons, if_neg hij] at hj
    rw [lk_cons] at hj
    by_cases hij2 : i + 1 = j
    · rw [if_pos hij2] at hj
      cases hj
    · rw [if_neg hij2] at hj
      refine h'.2.2 (j, w) (List.mem_cons_of_mem _ (List.mem_filter.mpr ⟨toL_in (h.lt hj) hj, ?_⟩))
      by_cases h2 : j + 1 = i
      · subst h2
        simp only [kl, hj, decide_eq_true_eq] at hk
        simp [hk, Ne.symm hij2]
      · simp [h2, Ne.symm hij, Ne.symm hij2]
/-- fewer known locals -/
def sub (L : Lc) : Lc → Prop
  | [] => True
  | q :: l => (∀ v, q.2 = some v → lk L q.1 = some v) ∧ sub L l
theorem sub_lk {L : Lc} : ∀ {L' : Lc}, sub L L' → ∀ i v, lk L' i = some v → lk L i = some v
  | [], _, i, v, h => by cases h
  | q :: l, hs, i, v, h => by
    rw [lk_cons] at h
    split at h
    · rename_i e
      subst e
      exact hs.1 v h
    · exact sub_lk hs.2 i v h
theorem Lh.sub {ls : Array Slot} {n : Nat} {L L' : Lc} (h : Lh ls n L) (hs : sub L L') : Lh ls n L' := ⟨h.1, h.2.1, fun i v hv => h.2.2 i v (sub_lk hs i v hv)⟩
theorem sb {L l : Lc} {i : Nat} {v : Value} (h : lk L i = some v) (hs : sub L l) : sub L ((i, some v) :: l) := ⟨fun w hw => by cases hw; exact h, hs⟩
def la (i : Nat) (vs : List Value) : Lc := (lv_args i vs).map (fun q => (q.1, some q.2))
end
section
/-! A METHOD'S WALK: G says that from this place of the walk, with this state, the method comes to an end with 'post' -/
abbrev Cx : Type := Program × Launch × Env × Room × State × MethodId × Array Value × List Frame × Method × Code
def Wd (D : Dt) (σ : Sg) (U : State) : Prop := va_P D.1 cls (wld D σ) U.heap ∧ D.2.2.2.WarmedH U.vm ∧ D.2.2.2.heap.size ≤ U.heap.size ∧ ∀ q, q < D.2.2.2.heap.size → U.heap[q]? = D.2.2.2.heap[q]?
def Qk (D : Dt) (post : Option Value → Sg → Prop) : Array Value → State → Outcome → State → Prop := fun _ st o t => (∃ r u, o = .returned r ∧ post r u ∧ Wd D u t) ∧ va_F (Ab D) st t
def Qp (X : Cx) (D : Dt) (post : Option Value → Sg → Prop) : State → Prop := MQ X.2.2.2.2.2.2.2.1 (Qk D post) X.2.2.2.2.2.2.1 X.2.2.2.2.1 0 0 (Ab D)
def G (X : Cx) (D : Dt) (Q : State → Prop) (z : Nat × Nat) (σ : Sg) (pc : Nat) (L : Lc) (st : List Value) : Prop :=
  ∀ (H : Heap) (locs : List Loc) (ls : Array Slot), va_P D.1 cls (wld D σ) H → va_S (Ab D) X.2.2.2.2.1.heap H locs → Lh ls X.2.2.2.2.2.2.2.2.2.maxLocals L →
    W X.1 X.2.1 X.2.2.1 X.2.2.2.1 X.2.2.2.2.1 X.2.2.2.2.2.1 X.2.2.2.2.2.2.1 X.2.2.2.2.2.2.2.1 X.2.2.2.2.2.2.2.2.1 X.2.2.2.2.2.2.2.2.2 H locs z.1 z.2 Q (F0 X.2.2.2.2.2.1 pc ls st)
def rmk (d : Nat) : Room := { frames := d, cells := 0, slots := 0, locals := 60 * d }
/-- what holds all along a walk -/
def Fx (X : Cx) (D : Dt) (own : String) (cc : ByteArray) (nL d : Nat) (ret : Option FieldType) : Prop :=
  X.1.tables.exec = Jvm.exec ∧ X.2.2.2.2.2.2.2.2.2.code = cc ∧ X.2.2.2.2.1.vm.findClass own = some X.2.2.2.2.2.1.cls ∧ D.2.2.2.WarmedH X.2.2.2.2.1.vm ∧ OkD D ∧ (d ≤ X.2.2.2.1.frames ∧ 60 * d ≤ X.2.2.2.1.locals) ∧ X.2.2.2.2.2.2.2.2.1.sig.returnType = ret ∧ X.2.2.2.2.2.2.2.2.1.locks = false ∧ X.2.2.2.2.2.2.2.2.2.maxLocals = nL ∧ D.2.2.2.heap.size ≤ X.2.2.2.2.1.heap.size ∧ ∀ q, q < D.2.2.2.heap.size → X.2.2.2.2.1.heap[q]? = D.2.2.2.heap[q]?
section GR
variable {X : Cx} {D : Dt} {Q : State → Prop} {z : Nat × Nat} {σ : Sg} {pc : Nat} {L : Lc} {st : List Value} {own : String} {cc : ByteArray} {nL d : Nat} {ret : Option FieldType}
theorem Fx.ex (C : Fx X D own cc nL d ret) : X.1.tables.exec = Jvm.exec := C.1
theorem Fx.bt (C : Fx X D own cc nL d ret) : X.2.2.2.2.2.2.2.2.2.code = cc := C.2.1
theorem Fx.ow (C : Fx X D own cc nL d ret) : X.2.2.2.2.1.vm.findClass own = some X.2.2.2.2.2.1.cls := C.2.2.1
theorem Fx.wa (C : Fx X D own cc nL d ret) : D.2.2.2.WarmedH X.2.2.2.2.1.vm := C.2.2.2.1
theorem Fx.ok (C : Fx X D own cc nL d ret) : OkD D := C.2.2.2.2.1
theorem Fx.ts (C : Fx X D own cc nL d ret) : ∀ w ∈ UNI, w.before X.2.2.2.2.2.2.1 X.2.2.2.2.1 = true := C.ok.ts C.wa _
theorem Fx.kk (C : Fx X D own cc nL d ret) : va_K D.1 cls (tys D) X.2.2.2.2.1 := va_K.moved C.wa.alike C.ok.2.2.1
theorem Fx.rm (C : Fx X D own cc nL d ret) : d ≤ X.2.2.2.1.frames ∧ 60 * d ≤ X.2.2.2.1.locals := C.2.2.2.2.2.1
theorem Fx.rt (C : Fx X D own cc nL d ret) : X.2.2.2.2.2.2.2.2.1.sig.returnType = ret := C.2.2.2.2.2.2.1
theorem Fx.lo (C : Fx X D own cc nL d ret) : X.2.2.2.2.2.2.2.2.1.locks = false := C.2.2.2.2.2.2.2.1
theorem Fx.ml (C : Fx X D own cc nL d ret) : X.2.2.2.2.2.2.2.2.2.maxLocals = nL := C.2.2.2.2.2.2.2.2.1
theorem Fx.sz (C : Fx X D own cc nL d ret) : D.2.2.2.heap.size ≤ X.2.2.2.2.1.heap.size := C.2.2.2.2.2.2.2.2.2.1
theorem Fx.lw (C : Fx X D own cc nL d ret) : ∀ q, q < D.2.2.2.heap.size → X.2.2.2.2.1.heap[q]? = D.2.2.2.heap[q]? := C.2.2.2.2.2.2.2.2.2.2
theorem Fx.frees (C : Fx X D own cc nL d ret) : ∀ q, X.2.2.2.2.1.heap.size ≤ q → Ab D q := fun _ h => Nat.le_trans C.sz h
theorem G.lc {L' : Lc} (hs : sub L L') (kk : G X D Q z σ pc L' st) : G X D Q z σ pc L st := fun H locs ls hP hS hL => kk H locs ls hP hS (hL.sub hs)
theorem G.eq {pc' : Nat} {σ' : Sg} {st' : List Value} (h1 : σ = σ') (h2 : st = st') (h3 : pc = pc') (kk : G X D Q z σ' pc' L st') : G X D Q z σ pc L st := by subst h1; subst h2; subst h3; exact kk
theorem G.sg {σ' : Sg} (h1 : σ = σ') (kk : G X D Q z σ' pc L st) : G X D Q z σ pc L st := by subst h1; exact kk
theorem g_iconst (C : Fx X D own cc nL d ret) {n : Int} {v : Int32} (hd : decode cc pc = .ok (.iconst n, 1)) (hv : Int32.ofInt n = v)
    (kk : G X D Q z σ (pc + 1) L (.int v :: st)) : G X D Q z σ pc L (st) := fun H locs ls hP hS hL => lv_iconst C.ex C.bt hd hv (kk H locs ls hP hS hL)
theorem g_bipush (C : Fx X D own cc nL d ret) {n : Int} {v : Int32} (hd : decode cc pc = .ok (.bipush n, 2)) (hv : (Int8.ofInt n).toInt32 = v)
    (kk : G X D Q z σ (pc + 2) L (.int v :: st)) : G X D Q z σ pc L (st) := fun H locs ls hP hS hL => lv_bipush C.ex C.bt hd hv (kk H locs ls hP hS hL)
theorem g_sipush (C : Fx X D own cc nL d ret) {n : Int} {v : Int32} (hd : decode cc pc = .ok (.sipush n, 3)) (hv : (Int16.ofInt n).toInt32 = v)
    (kk : G X D Q z σ (pc + 3) L (.int v :: st)) : G X D Q z σ pc L (st) := fun H locs ls hP hS hL => lv_sipush C.ex C.bt hd hv (kk H locs ls hP hS hL)
theorem g_lconst (C : Fx X D own cc nL d ret) {n : Fin 2} {v : Int64} (hd : decode cc pc = .ok (.lconst n, 1)) (hv : Int64.ofNat (n : Nat) = v)
    (kk : G X D Q z σ (pc + 1) L (.long v :: st)) : G X D Q z σ pc L (st) := fun H locs ls hP hS hL => lv_lconst C.ex C.bt hd hv (kk H locs ls hP hS hL)
theorem g_ldc (C : Fx X D own cc nL d ret) {index : Nat} {v : Int32} (hc : Cond.constant own index v ∈ UNI) (hd : decode cc pc = .ok (.ldc index, 2))
    (kk : G X D Q z σ (pc + 2) L (.int v :: st)) : G X D Q z σ pc L (st) := fun H locs ls hP hS hL => lv_ldc C.ex C.bt C.ow (C.ts _ hc) hd (kk H locs ls hP hS hL)
theorem g_ldc2 (C : Fx X D own cc nL d ret) {index : Nat} {v : Int64} (hc : Cond.constantLong own index v ∈ UNI) (hd : decode cc pc = .ok (.ldc2_w index, 3))
    (kk : G X D Q z σ (pc + 3) L (.long v :: st)) : G X D Q z σ pc L (st) := fun H locs ls hP hS hL => lv_ldc2 C.ex C.bt C.ow (C.ts _ hc) hd (kk H locs ls hP hS hL)
theorem g_iload_n (C : Fx X D own cc nL d ret) {k : Fin 4} {i : Nat} {x : Int32} (hd : decode cc pc = .ok (.iload_n k, 1)) (hi : (k : Nat) = i) (hl : lk L i = some (.int x))
    (kk : G X D Q z σ (pc + 1) L (.int x :: st)) : G X D Q z σ pc L (st) := fun H locs ls hP hS hL => lv_iload_n C.ex C.bt hd hi (hL.2.2 _ _ hl) (kk H locs ls hP hS hL)
theorem g_iload (C : Fx X D own cc nL d ret) {i : Nat} {x : Int32} (hd : decode cc pc = .ok (.iload i, 2)) (hl : lk L i = some (.int x))
    (kk : G X D Q z σ (pc + 2) L (.int x :: st)) : G X D Q z σ pc L (st) := fun H locs ls hP hS hL => lv_iload C.ex C.bt hd (hL.2.2 _ _ hl) (kk H locs ls hP hS hL)
theorem g_lload_n (C : Fx X D own cc nL d ret) {k : Fin 4} {i : Nat} {x : Int64} (hd : decode cc pc = .ok (.lload_n k, 1)) (hi : (k : Nat) = i) (hl : lk L i = some (.long x))
    (kk : G X D Q z σ (pc + 1) L (.long x :: st)) : G X D Q z σ pc L (st) := fun H locs ls hP hS hL => lv_lload_n C.ex C.bt hd hi (hL.2.2 _ _ hl) (kk H locs ls hP hS hL)
theorem g_lload (C : Fx X D own cc nL d ret) {i : Nat} {x : Int64} (hd : decode cc pc = .ok (.lload i, 2)) (hl : lk L i = some (.long x))
    (kk : G X D Q z σ (pc + 2) L (.long x :: st)) : G X D Q z σ pc L (st) := fun H locs ls hP hS hL => lv_lload C.ex C.bt hd (hL.2.2 _ _ hl) (kk H locs ls hP hS hL)
theorem g_aload_n (C : Fx X D own cc nL d ret) {k : Fin 4} {i : Nat} {x : Nat} (hd : decode cc pc = .ok (.aload_n k, 1)) (hi : (k : Nat) = i) (hl : lk L i = some (.ref x))
    (kk : G X D Q z σ (pc + 1) L (.ref x :: st)) : G X D Q z σ pc L (st) := fun H locs ls hP hS hL => lv_aload_n C.ex C.bt hd hi (hL.2.2 _ _ hl) (kk H locs ls hP hS hL)
theorem g_aload (C : Fx X D own cc nL d ret) {i : Nat} {x : Nat} (hd : decode cc pc = .ok (.aload i, 2)) (hl : lk L i = some (.ref x))
    (kk : G X D Q z σ (pc + 2) L (.ref x :: st)) : G X D Q z σ pc L (st) := fun H locs ls hP hS hL => lv_aload C.ex C.bt hd (hL.2.2 _ _ hl) (kk H locs ls hP hS hL)
theorem g_istore_n (C : Fx X D own cc nL d ret) {k : Fin 4} {i : Nat} {x : Int32} (hd : decode cc pc = .ok (.istore_n k, 1)) (hi : (k : Nat) = i) (hn : i < nL) (hk : kl L i = true)
    (kk : G X D Q z σ (pc + 1) ((i, some (.int x)) :: L) (st)) : G X D Q z σ pc L (.int x :: st) := fun H locs ls hP hS hL => lv_istore_n C.ex C.bt hd hi hL.has (by rw [C.ml]; exact hn) rfl (fun ls2 h2 => kk H locs ls2 hP hS (hL.st1 hk h2))
theorem g_istore (C : Fx X D own cc nL d ret) {i : Nat} {x : Int32} (hd : decode cc pc = .ok (.istore i, 2)) (hn : i < nL) (hk : kl L i = true)
    (kk : G X D Q z σ (pc + 2) ((i, some (.int x)) :: L) (st)) : G X D Q z σ pc L (.int x :: st) := fun H locs ls hP hS hL => lv_istore C.ex C.bt hd hL.has (by rw [C.ml]; exact hn) rfl (fun ls2 h2 => kk H locs ls2 hP hS (hL.st1 hk h2))
theorem g_astore_n (C : Fx X D own cc nL d ret) {k : Fin 4} {i : Nat} {x : Nat} (hd : decode cc pc = .ok (.astore_n k, 1)) (hi : (k : Nat) = i) (hn : i < nL) (hk : kl L i = true)
    (kk : G X D Q z σ (pc + 1) ((i, some (.ref x)) :: L) (st)) : G X D Q z σ pc L (.ref x :: st) := fun H locs ls hP hS hL => lv_astore_n C.ex C.bt hd hi hL.has (by rw [C.ml]; exact hn) rfl (fun ls2 h2 => kk H locs ls2 hP hS (hL.st1 hk h2))
theorem g_astore (C : Fx X D own cc nL d ret) {i : Nat} {x : Nat} (hd : decode cc pc = .ok (.astore i, 2)) (hn : i < nL) (hk : kl L i = true)
    (kk : G X D Q z σ (pc + 2) ((i, some (.ref x)) :: L) (st)) : G X D Q z σ pc L (.ref x :: st) := fun H locs ls hP hS hL => lv_astore C.ex C.bt hd hL.has (by rw [C.ml]; exact hn) rfl (fun ls2 h2 => kk H locs ls2 hP hS (hL.st1 hk h2))
theorem g_lstore_n (C : Fx X D own cc nL d ret) {k : Fin 4} {i : Nat} {x : Int64} (hd : decode cc pc = .ok (.lstore_n k, 1)) (hi : (k : Nat) = i) (hn : i + 1 < nL) (hk : kl L i = true)
    (kk : G X D Q z σ (pc + 1) ((i, some (.long x)) :: (i + 1, none) :: L) (st)) : G X D Q z σ pc L (.long x :: st) := fun H locs ls hP hS hL => lv_lstore_n C.ex C.bt hd hi hL.has (by rw [C.ml]; exact hn) rfl (fun ls2 h2 => kk H locs ls2 hP hS (hL.st2 hk h2))
theorem g_lstore (C : Fx X D own cc nL d ret) {i : Nat} {x : Int64} (hd : decode cc pc = .ok (.lstore i, 2)) (hn : i + 1 < nL) (hk : kl L i = true)
    (kk : G X D Q z σ (pc + 2) ((i, some (.long x)) :: (i + 1, none) :: L) (st)) : G X D Q z σ pc L (.long x :: st) := fun H locs ls hP hS hL => lv_lstore C.ex C.bt hd hL.has (by rw [C.ml]; exact hn) rfl (fun ls2 h2 => kk H locs ls2 hP hS (hL.st2 hk h2))
theorem g_iinc (C : Fx X D own cc nL d ret) {i : Nat} {n : Int} {x v : Int32} (hd : decode cc pc = .ok (.iinc i n, 3)) (hl : lk L i = some (.int x)) (hv : x + Int32.ofInt n = v) (hk : kl L i = true)
    (kk : G X D Q z σ (pc + 3) ((i, some (.int v)) :: L) st) : G X D Q z σ pc L st := by
  intro H locs ls hP hS hL
  obtain ⟨k, hk2⟩ := List.getElem?_of_mem (toL_in (n := X.2.2.2.2.2.2.2.2.2.maxLocals) (hL.lt hl) hl)
  exact lv_iinc C.ex C.bt hd hL.has hk2 hv (hL.lt hl) rfl (fun ls2 h2 => kk H locs ls2 hP hS (hL.st1 hk h2))
theorem g_iadd (C : Fx X D own cc nL d ret) {x y : Int32} (hd : decode cc pc = .ok (.iadd, 1))
    (kk : G X D Q z σ (pc + 1) L (.int (x + y) :: st)) : G X D Q z σ pc L (.int y :: .int x :: st) := fun H locs ls hP hS hL => lv_iadd C.ex C.bt hd (kk H locs ls hP hS hL)
theorem g_isub (C : Fx X D own cc nL d ret) {x y : Int32} (hd : decode cc pc = .ok (.isub, 1))
    (kk : G X D Q z σ (pc + 1) L (.int (x - y) :: st)) : G X D Q z σ pc L (.int y :: .int x :: st) := fun H locs ls hP hS hL => lv_isub C.ex C.bt hd (kk H locs ls hP hS hL)
theorem g_imul (C : Fx X D own cc nL d ret) {x y : Int32} (hd : decode cc pc = .ok (.imul, 1))
    (kk : G X D Q z σ (pc + 1) L (.int (x * y) :: st)) : G X D Q z σ pc L (.int y :: .int x :: st) := fun H locs ls hP hS hL => lv_imul C.ex C.bt hd (kk H locs ls hP hS hL)
theorem g_iand (C : Fx X D own cc nL d ret) {x y : Int32} (hd : decode cc pc = .ok (.iand, 1))
    (kk : G X D Q z σ (pc + 1) L (.int (x &&& y) :: st)) : G X D Q z σ pc L (.int y :: .int x :: st) := fun H locs ls hP hS hL => lv_iand C.ex C.bt hd (kk H locs ls hP hS hL)
theorem g_ior (C : Fx X D own cc nL d ret) {x y : Int32} (hd : decode cc pc = .ok (.ior, 1))
    (kk : G X D Q z σ (pc + 1) L (.int (x ||| y) :: st)) : G X D Q z σ pc L (.int y :: .int x :: st) := fun H locs ls hP hS hL => lv_ior C.ex C.bt hd (kk H locs ls hP hS hL)
theorem g_ixor (C : Fx X D own cc nL d ret) {x y : Int32} (hd : decode cc pc = .ok (.ixor, 1))
    (kk : G X D Q z σ (pc + 1) L (.int (x ^^^ y) :: st)) : G X D Q z σ pc L (.int y :: .int x :: st) := fun H locs ls hP hS hL => lv_ixor C.ex C.bt hd (kk H locs ls hP hS hL)
theorem g_ishl (C : Fx X D own cc nL d ret) {x y : Int32} (hd : decode cc pc = .ok (.ishl, 1))
    (kk : G X D Q z σ (pc + 1) L (.int (x <<< (y &&& 31)) :: st)) : G X D Q z σ pc L (.int y :: .int x :: st) := fun H locs ls hP hS hL => lv_ishl C.ex C.bt hd (kk H locs ls hP hS hL)
theorem g_ishr (C : Fx X D own cc nL d ret) {x y : Int32} (hd : decode cc pc = .ok (.ishr, 1))
    (kk : G X D Q z σ (pc + 1) L (.int (x >>> (y &&& 31)) :: st)) : G X D Q z σ pc L (.int y :: .int x :: st) := fun H locs ls hP hS hL => lv_ishr C.ex C.bt hd (kk H locs ls hP hS hL)
theorem g_irem (C : Fx X D own cc nL d ret) {x y : Int32} (hd : decode cc pc = .ok (.irem, 1)) (hne : ¬ y = 0)
    (kk : G X D Q z σ (pc + 1) L (.int (x - x / y * y) :: st)) : G X D Q z σ pc L (.int y :: .int x :: st) := fun H locs ls hP hS hL => lv_irem C.ex C.bt hd hne (kk H locs ls hP hS hL)
theorem g_ladd (C : Fx X D own cc nL d ret) {x y : Int64} (hd : decode cc pc = .ok (.ladd, 1))
    (kk : G X D Q z σ (pc + 1) L (.long (x + y) :: st)) : G X D Q z σ pc L (.long y :: .long x :: st) := fun H locs ls hP hS hL => lv_ladd C.ex C.bt hd (kk H locs ls hP hS hL)
theorem g_lsub (C : Fx X D own cc nL d ret) {x y : Int64} (hd : decode cc pc = .ok (.lsub, 1))
    (kk : G X D Q z σ (pc + 1) L (.long (x - y) :: st)) : G X D Q z σ pc L (.long y :: .long x :: st) := fun H locs ls hP hS hL => lv_lsub C.ex C.bt hd (kk H locs ls hP hS hL)
theorem g_lmul (C : Fx X D own cc nL d ret) {x y : Int64} (hd : decode cc pc = .ok (.lmul, 1))
    (kk : G X D Q z σ (pc + 1) L (.long (x * y) :: st)) : G X D Q z σ pc L (.long y :: .long x :: st) := fun H locs ls hP hS hL => lv_lmul C.ex C.bt hd (kk H locs ls hP hS hL)
theorem g_land (C : Fx X D own cc nL d ret) {x y : Int64} (hd : decode cc pc = .ok (.land, 1))
    (kk : G X D Q z σ (pc + 1) L (.long (x &&& y) :: st)) : G X D Q z σ pc L (.long y :: .long x :: st) := fun H locs ls hP hS hL => lv_land C.ex C.bt hd (kk H locs ls hP hS hL)
theorem g_lor (C : Fx X D own cc nL d ret) {x y : Int64} (hd : decode cc pc = .ok (.lor, 1))
    (kk : G X D Q z σ (pc + 1) L (.long (x ||| y) :: st)) : G X D Q z σ pc L (.long y :: .long x :: st) := fun H locs ls hP hS hL => lv_lor C.ex C.bt hd (kk H locs ls hP hS hL)
theorem g_lxor (C : Fx X D own cc nL d ret) {x y : Int64} (hd : decode cc pc = .ok (.lxor, 1))
    (kk : G X D Q z σ (pc + 1) L (.long (x ^^^ y) :: st)) : G X D Q z σ pc L (.long y :: .long x :: st) := fun H locs ls hP hS hL => lv_lxor C.ex C.bt hd (kk H locs ls hP hS hL)
theorem g_lushr (C : Fx X D own cc nL d ret) {x : Int64} {y : Int32} (hd : decode cc pc = .ok (.lushr, 1))
    (kk : G X D Q z σ (pc + 1) L (.long (x.toUInt64 >>> (y.toInt64.toUInt64 &&& Int64.toUInt64 63)).toInt64 :: st)) : G X D Q z σ pc L (.int y :: .long x :: st) := fun H locs ls hP hS hL => lv_lushr C.ex C.bt hd rfl (kk H locs ls hP hS hL)
theorem g_lshl (C : Fx X D own cc nL d ret) {x : Int64} {y : Int32} (hd : decode cc pc = .ok (.lshl, 1))
    (kk : G X D Q z σ (pc + 1) L (.long (x <<< (y.toInt64 &&& 63)) :: st)) : G X D Q z σ pc L (.int y :: .long x :: st) := fun H locs ls hP hS hL => lv_lshl C.ex C.bt hd rfl (kk H locs ls hP hS hL)
theorem g_iushr (C : Fx X D own cc nL d ret) {x y : Int32} (hd : decode cc pc = .ok (.iushr, 1))
    (kk : G X D Q z σ (pc + 1) L (.int (x.toUInt32 >>> (y.toUInt32 &&& Int32.toUInt32 31)).toInt32 :: st)) : G X D Q z σ pc L (.int y :: .int x :: st) := fun H locs ls hP hS hL => lv_iushr C.ex C.bt hd rfl (kk H locs ls hP hS hL)
theorem g_i2l (C : Fx X D own cc nL d ret) {x : Int32} (hd : decode cc pc = .ok (.i2l, 1))
    (kk : G X D Q z σ (pc + 1) L (.long x.toInt64 :: st)) : G X D Q z σ pc L (.int x :: st) := fun H locs ls hP hS hL => lv_i2l C.ex C.bt hd rfl (kk H locs ls hP hS hL)
theorem g_l2i (C : Fx X D own cc nL d ret) {x : Int64} (hd : decode cc pc = .ok (.l2i, 1))
    (kk : G X D Q z σ (pc + 1) L (.int x.toInt32 :: st)) : G X D Q z σ pc L (.long x :: st) := fun H locs ls hP hS hL => lv_l2i C.ex C.bt hd rfl (kk H locs ls hP hS hL)
theorem g_lcmp (C : Fx X D own cc nL d ret) {x y : Int64} (hd : decode cc pc = .ok (.lcmp, 1))
    (kk : G X D Q z σ (pc + 1) L (.int (lg_cmp x y) :: st)) : G X D Q z σ pc L (.long y :: .long x :: st) := fun H locs ls hP hS hL => W.lcmp C.ex C.bt hd (kk H locs ls hP hS hL)
theorem g_dup (C : Fx X D own cc nL d ret) {va : Value} (hd : decode cc pc = .ok (.dup, 1)) (hc : va.category = 1)
    (kk : G X D Q z σ (pc + 1) L (va :: va :: st)) : G X D Q z σ pc L (va :: st) := fun H locs ls hP hS hL => lv_dup C.ex C.bt hd hc (kk H locs ls hP hS hL)
theorem g_pop (C : Fx X D own cc nL d ret) {va : Value} (hd : decode cc pc = .ok (.pop, 1)) (hc : va.category = 1)
    (kk : G X D Q z σ (pc + 1) L (st)) : G X D Q z σ pc L (va :: st) := fun H locs ls hP hS hL => lv_pop C.ex C.bt hd hc (kk H locs ls hP hS hL)
theorem g_dup_x1 (C : Fx X D own cc nL d ret) {va vb : Value} (hd : decode cc pc = .ok (.dup_x1, 1)) (hc : va.category = 1) (hc2 : vb.category = 1)
    (kk : G X D Q z σ (pc + 1) L (va :: vb :: va :: st)) : G X D Q z σ pc L (va :: vb :: st) := fun H locs ls hP hS hL => lv_dup_x1 C.ex C.bt hd hc hc2 (kk H locs ls hP hS hL)
theorem g_dup2 (C : Fx X D own cc nL d ret) {va vb : Value} (hd : decode cc pc = .ok (.dup2, 1)) (hc : va.category = 1) (hc2 : vb.category = 1)
    (kk : G X D Q z σ (pc + 1) L (va :: vb :: va :: vb :: st)) : G X D Q z σ pc L (va :: vb :: st) := fun H locs ls hP hS hL => lv_dup2_11 C.ex C.bt hd hc hc2 (kk H locs ls hP hS hL)
theorem g_icmp_eq (C : Fx X D own cc nL d ret) {x y : Int32} {off : Int} {tgt : Nat} (hd : decode cc pc = .ok (.if_icmp .eq off, 3)) (ht : (pc : Int) + off = (tgt : Int))
    (kt : x = y → G X D Q z σ tgt L st) (kf : ¬ x = y → G X D Q z σ (pc + 3) L st) : G X D Q z σ pc L (.int y :: .int x :: st) := fun H locs ls hP hS hL => lv_icmp_eq C.ex C.bt hd ht (fun h => kt h H locs ls hP hS hL) (fun h => kf h H locs ls hP hS hL)
theorem g_if_eq (C : Fx X D own cc nL d ret) {x : Int32} {off : Int} {tgt : Nat} (hd : decode cc pc = .ok (.ifCond .eq off, 3)) (ht : (pc : Int) + off = (tgt : Int))
    (kt : x = 0 → G X D Q z σ tgt L st) (kf : ¬ x = 0 → G X D Q z σ (pc + 3) L st) : G X D Q z σ pc L (.int x :: st) := fun H locs ls hP hS hL => lv_if_eq C.ex C.bt hd ht (fun h => kt h H locs ls hP hS hL) (fun h => kf h H locs ls hP hS hL)
theorem g_icmp_ne (C : Fx X D own cc nL d ret) {x y : Int32} {off : Int} {tgt : Nat} (hd : decode cc pc = .ok (.if_icmp .ne off, 3)) (ht : (pc : Int) + off = (tgt : Int))
    (kt : ¬ x = y → G X D Q z σ tgt L st) (kf : x = y → G X D Q z σ (pc + 3) L st) : G X D Q z σ pc L (.int y :: .int x :: st) := fun H locs ls hP hS hL => lv_icmp_ne C.ex C.bt hd ht (fun h => kt h H locs ls hP hS hL) (fun h => kf h H locs ls hP hS hL)
theorem g_if_ne (C : Fx X D own cc nL d ret) {x : Int32} {off : Int} {tgt : Nat} (hd : decode cc pc = .ok (.ifCond .ne off, 3)) (ht : (pc : Int) + off = (tgt : Int))
    (kt : ¬ x = 0 → G X D Q z σ tgt L st) (kf : x = 0 → G X D Q z σ (pc + 3) L st) : G X D Q z σ pc L (.int x :: st) := fun H locs ls hP hS hL => lv_if_ne C.ex C.bt hd ht (fun h => kt h H locs ls hP hS hL) (fun h => kf h H locs ls hP hS hL)
theorem g_icmp_lt (C : Fx X D own cc nL d ret) {x y : Int32} {off : Int} {tgt : Nat} (hd : decode cc pc = .ok (.if_icmp .lt off, 3)) (ht : (pc : Int) + off = (tgt : Int))
    (kt : x < y → G X D Q z σ tgt L st) (kf : ¬ x < y → G X D Q z σ (pc + 3) L st) : G X D Q z σ pc L (.int y :: .int x :: st) := fun H locs ls hP hS hL => lv_icmp_lt C.ex C.bt hd ht (fun h => kt h H locs ls hP hS hL) (fun h => kf h H locs ls hP hS hL)
theorem g_if_lt (C : Fx X D own cc nL d ret) {x : Int32} {off : Int} {tgt : Nat} (hd : decode cc pc = .ok (.ifCond .lt off, 3)) (ht : (pc : Int) + off = (tgt : Int))
    (kt : x < 0 → G X D Q z σ tgt L st) (kf : ¬ x < 0 → G X D Q z σ (pc + 3) L st) : G X D Q z σ pc L (.int x :: st) := fun H locs ls hP hS hL => lv_if_lt C.ex C.bt hd ht (fun h => kt h H locs ls hP hS hL) (fun h => kf h H locs ls hP hS hL)
theorem g_icmp_ge (C : Fx X D own cc nL d ret) {x y : Int32} {off : Int} {tgt : Nat} (hd : decode cc pc = .ok (.if_icmp .ge off, 3)) (ht : (pc : Int) + off = (tgt : Int))
    (kt : y ≤ x → G X D Q z σ tgt L st) (kf : ¬ y ≤ x → G X D Q z σ (pc + 3) L st) : G X D Q z σ pc L (.int y :: .int x :: st) := fun H locs ls hP hS hL => lv_icmp_ge C.ex C.bt hd ht (fun h => kt h H locs ls hP hS hL) (fun h => kf h H locs ls hP hS hL)
theorem g_if_ge (C : Fx X D own cc nL d ret) {x : Int32} {off : Int} {tgt : Nat} (hd : decode cc pc = .ok (.ifCond .ge off, 3)) (ht : (pc : Int) + off = (tgt : Int))
    (kt : 0 ≤ x → G X D Q z σ tgt L st) (kf : ¬ 0 ≤ x → G X D Q z σ (pc + 3) L st) : G X D Q z σ pc L (.int x :: st) := fun H locs ls hP hS hL => lv_if_ge C.ex C.bt hd ht (fun h => kt h H locs ls hP hS hL) (fun h => kf h H locs ls hP hS hL)
theorem g_icmp_gt (C : Fx X D own cc nL d ret) {x y : Int32} {off : Int} {tgt : Nat} (hd : decode cc pc = .ok (.if_icmp .gt off, 3)) (ht : (pc : Int) + off = (tgt : Int))
    (kt : y < x → G X D Q z σ tgt L st) (kf : ¬ y < x → G X D Q z σ (pc + 3) L st) : G X D Q z σ pc L (.int y :: .int x :: st) := fun H locs ls hP hS hL => lv_icmp_gt C.ex C.bt hd ht (fun h => kt h H locs ls hP hS hL) (fun h => kf h H locs ls hP hS hL)
theorem g_if_gt (C : Fx X D own cc nL d ret) {x : Int32} {off : Int} {tgt : Nat} (hd : decode cc pc = .ok (.ifCond .gt off, 3)) (ht : (pc : Int) + off = (tgt : Int))
    (kt : 0 < x → G X D Q z σ tgt L st) (kf : ¬ 0 < x → G X D Q z σ (pc + 3) L st) : G X D Q z σ pc L (.int x :: st) := fun H locs ls hP hS hL => lv_if_gt C.ex C.bt hd ht (fun h => kt h H locs ls hP hS hL) (fun h => kf h H locs ls hP hS hL)
theorem g_icmp_le (C : Fx X D own cc nL d ret) {x y : Int32} {off : Int} {tgt : Nat} (hd : decode cc pc = .ok (.if_icmp .le off, 3)) (ht : (pc : Int) + off = (tgt : Int))
    (kt : x ≤ y → G X D Q z σ tgt L st) (kf : ¬ x ≤ y → G X D Q z σ (pc + 3) L st) : G X D Q z σ pc L (.int y :: .int x :: st) := fun H locs ls hP hS hL => lv_icmp_le C.ex C.bt hd ht (fun h => kt h H locs ls hP hS hL) (fun h => kf h H locs ls hP hS hL)
theorem g_if_le (C : Fx X D own cc nL d ret) {x : Int32} {off : Int} {tgt : Nat} (hd : decode cc pc = .ok (.ifCond .le off, 3)) (ht : (pc : Int) + off = (tgt : Int))
    (kt : x ≤ 0 → G X D Q z σ tgt L st) (kf : ¬ x ≤ 0 → G X D Q z σ (pc + 3) L st) : G X D Q z σ pc L (.int x :: st) := fun H locs ls hP hS hL => lv_if_le C.ex C.bt hd ht (fun h => kt h H locs ls hP hS hL) (fun h => kf h H locs ls hP hS hL)
theorem g_goto (C : Fx X D own cc nL d ret) {off : Int} {tgt : Nat} (hd : decode cc pc = .ok (.goto off, 3)) (ht : (pc : Int) + off = (tgt : Int)) (kk : G X D Q z σ tgt L st) : G X D Q z σ pc L st := fun H locs ls hP hS hL => lv_goto C.ex C.bt hd ht (kk H locs ls hP hS hL)
theorem Fx.done (C : Fx X D own cc nL d ret) {post : Option Value → Sg → Prop} {H : Heap} {locs : List Loc} (hP : va_P D.1 cls (wld D σ) H) (hS : va_S (Ab D) X.2.2.2.2.1.heap H locs) {r : Option Value} (hp : post r σ) : ∀ t : State, t.heap = H → X.2.2.2.2.1.WarmedH t.vm → Qk D post X.2.2.2.2.2.2.1 X.2.2.2.2.1 (.returned r) t := by
  intro t ht hW
  refine ⟨⟨r, σ, rfl, hp, by rw [ht]; exact hP, State.WarmedH.trans C.wa hW, by rw [ht]; exact Nat.le_trans C.sz hS.1, fun q hq => ?_⟩, hS.F ht⟩
  rw [ht, hS.2.1 q (Nat.lt_of_lt_of_le hq C.sz) (Nat.not_le.mpr hq)]
  exact C.lw q hq
theorem g_iret {post : Option Value → Sg → Prop} (C : Fx X D own cc nL d (some .int)) {v : Int32} (hd : decode cc pc = .ok (.ireturn, 1)) (hp : post (some (.int v)) σ) : G X D (Qp X D post) (0, 0) σ pc L [.int v] := fun H locs ls hP hS hL => W.iret C.ex C.bt C.rt (C.done hP hS hp) hS.2.2 hd C.lo
theorem bz_n {v : Int32} (h : v = 0 ∨ v = 1) : narrow .boolean (.int v) = .int v := by rcases h with rfl | rfl <;> rfl
theorem g_zret {post : Option Value → Sg → Prop} (C : Fx X D own cc nL d (some .boolean)) {v : Int32} (hd : decode cc pc = .ok (.ireturn, 1)) (hz : v = 0 ∨ v = 1) (hp : post (some (.int v)) σ) : G X D (Qp X D post) (0, 0) σ pc L [.int v] := fun H locs ls hP hS hL => W.zret C.ex C.bt C.rt (bz_n hz) (C.done hP hS hp) hS.2.2 hd C.lo
theorem g_lret {post : Option Value → Sg → Prop} (C : Fx X D own cc nL d (some .long)) {v : Int64} (hd : decode cc pc = .ok (.lreturn, 1)) (hp : post (some (.long v)) σ) : G X D (Qp X D post) (0, 0) σ pc L [.long v] := fun H locs ls hP hS hL => W.lret C.ex C.bt C.rt (C.done hP hS hp) hS.2.2 hd C.lo
theorem g_vret {post : Option Value → Sg → Prop} (C : Fx X D own cc nL d none) (hd : decode cc pc = .ok (.return_, 1)) (hp : post none σ) : G X D (Qp X D post) (0, 0) σ pc L [] := fun H locs ls hP hS hL => W.vret C.ex C.bt C.rt (C.done hP hS hp) hS.2.2 hd C.lo
theorem g_aret {post : Option Value → Sg → Prop} {n : String} (C : Fx X D own cc nL d (some (.object n))) {v : Nat} (hd : decode cc pc = .ok (.areturn, 1)) (hp : post (some (.ref v)) σ) : G X D (Qp X D post) (0, 0) σ pc L [.ref v] := fun H locs ls hP hS hL => W.aret C.ex C.bt C.rt (Or.inl ⟨_, rfl⟩) (Or.inr ⟨_, rfl⟩) (C.done hP hS hp) hS.2.2 hd C.lo
/-- a field's link, by the method's own words -/
def FL (own : String) (index : Nat) (C0 name desc : String) : Prop := Cond.fieldLink own index C0 name desc ∈ UNI ∨ ∃ host, Cond.fieldLinkNest own index C0 name desc host ∈ UNI
theorem g_get (C : Fx X D own cc nL d ret) {t ci index k : Nat} {C0 : String} {T : u_T} {N : Nat} {fs : List Value} {v : Value} (ht : t < 95) (hct : ct D σ t = .inr (ci, fs)) (hc : cls[ci]? = some (C0, T, N)) (hin : ∀ w ∈ u_ws C0 T N, w ∈ UNI) (hk : k < N) (hT : (T k).1 = C0) (hl : FL own index C0 (T k).2.1 (T k).2.2.1) (hv : fs[k]? = some v) (hd : decode cc pc = .ok (.getfield index, 3))
    (kk : G X D Q z σ (pc + 3) L (v :: st)) : G X D Q z σ pc L (.ref (ad D t) :: st) := by
  intro H locs ls hP hS hL
  rcases hl with hl | ⟨host, hl⟩
  · exact va_get C.ex C.bt C.ts hin C.ow C.kk hP t (by rw [wld_at ht, hct]) hc k hk (C.ts _ hl) (fun x hx => by rw [hT] at hx; exact hx) hv hd (kk H locs ls hP hS hL)
  · exact va_getN C.ex C.bt C.ts hin C.ow C.kk hP t (by rw [wld_at ht, hct]) hc k hk (C.ts _ hl) (fun x hx => by rw [hT] at hx; exact hx) hv hd (kk H locs ls hP hS hL)
theorem g_put (C : Fx X D own cc nL d ret) {t ci index k : Nat} {C0 : String} {T : u_T} {N : Nat} {fs : List Value} {v : Value} {σ2 : Sg} {ty : FieldType} (ty0 : Nat → FieldType) (hty : ∀ k, k < N → parseFieldDescriptor (T k).2.2.1 = some (ty0 k)) (hnm : ∀ a, a < N → ∀ b, b < N → a ≠ b → (T a).2.1 ≠ (T b).2.1) (ht : t < 95) (hct : ct D σ t = .inr (ci, fs)) (hc : cls[ci]? = some (C0, T, N)) (hin : ∀ w ∈ u_ws C0 T N, w ∈ UNI) (hk : k < N) (hT : (T k).1 = C0) (hfin : (T k).2.2.2 = false) (hdt : parseFieldDescriptor (T k).2.2.1 = some ty) (hn : narrow ty v = v) (hfit : fits ty v = true) (hlen : k < fs.length)
    (hct2 : ct D σ2 t = .inr (ci, fs.set k v)) (ho : ∀ u, u < 95 → u ≠ t → ct D σ2 u = ct D σ u) (hl : FL own index C0 (T k).2.1 (T k).2.2.1) (hd : decode cc pc = .ok (.putfield index, 3))
    (kk : G X D Q z σ2 (pc + 3) L st) : G X D Q z σ pc L (v :: .ref (ad D t) :: st) := by
  intro H locs ls hP hS hL
  rcases hl with hl | ⟨host, hl⟩
  · exact va_put C.ex C.bt C.ts hin ty0 hty hnm C.ow C.kk hP (wld_D C.ok σ) hS t (by rw [wld_at ht, hct]) hc k hk (C.ts _ hl) (fun x hx => by rw [hT] at hx; exact hx) hfin hdt hn hfit hlen hd (fun H1 locs1 hP1 _ hS1 => kk H1 locs1 ls (by rw [wld_set ht hct2 ho] at hP1; exact hP1) hS1 hL)
  · exact va_putN C.ex C.bt C.ts hin ty0 hty hnm C.ow C.kk hP (wld_D C.ok σ) hS t (by rw [wld_at ht, hct]) hc k hk (C.ts _ hl) (fun x hx => by rw [hT] at hx; exact hx) hfin hdt hn hfit hlen hd (fun H1 locs1 hP1 _ hS1 => kk H1 locs1 ls (by rw [wld_set ht hct2 ho] at hP1; exact hP1) hS1 hL)
theorem g_ial (C : Fx X D own cc nL d ret) {t n : Nat} {f : Nat → Int32} {i : Int32} (ht : t < 95) (hct : ct D σ t = .inl (D.2.2.1 0, n, .inl f)) (hi : vp_in i n) (hd : decode cc pc = .ok (.iaload, 1))
    (kk : G X D Q z σ (pc + 1) L (.int (f i.toNatClampNeg) :: st)) : G X D Q z σ pc L (.int i :: .ref (ad D t) :: st) := fun H locs ls hP hS hL => va_iald C.ex C.bt C.kk hP t 0 (by rw [wld_at ht, hct]) rfl hi hd (kk H locs ls hP hS hL)
theorem g_zal (C : Fx X D own cc nL d ret) {t n : Nat} {f : Nat → Int32} {i : Int32} (ht : t < 95) (hct : ct D σ t = .inl (D.2.2.1 2, n, .inl f)) (hi : vp_in i n) (hd : decode cc pc = .ok (.baload, 1))
    (kk : G X D Q z σ (pc + 1) L (.int (f i.toNatClampNeg) :: st)) : G X D Q z σ pc L (.int i :: .ref (ad D t) :: st) := fun H locs ls hP hS hL => va_zald C.ex C.bt C.kk hP t 2 (by rw [wld_at ht, hct]) rfl hi hd (kk H locs ls hP hS hL)
theorem g_lal (C : Fx X D own cc nL d ret) {t n : Nat} {f : Nat → Int64} {i : Int32} (ht : t < 95) (hct : ct D σ t = .inl (D.2.2.1 1, n, .inr (.inl f))) (hi : vp_in i n) (hd : decode cc pc = .ok (.laload, 1))
    (kk : G X D Q z σ (pc + 1) L (.long (f i.toNatClampNeg) :: st)) : G X D Q z σ pc L (.int i :: .ref (ad D t) :: st) := fun H locs ls hP hS hL => va_lald C.ex C.bt C.kk hP t 1 (by rw [wld_at ht, hct]) rfl hi hd (kk H locs ls hP hS hL)
theorem g_aal (C : Fx X D own cc nL d ret) {t n t0 : Nat} {C0 : String} {f : Nat → Option Nat} {i : Int32} {a : Nat} (ht : t < 95) (ht0 : (tys D)[t0]? = some (D.2.2.1 t0, .object C0)) (hct : ct D σ t = .inl (D.2.2.1 t0, n, .inr (.inr (.inr (.inr f))))) (hi : vp_in i n) (hf : f i.toNatClampNeg = some a) (hd : decode cc pc = .ok (.aaload, 1))
    (kk : G X D Q z σ (pc + 1) L (.ref a :: st)) : G X D Q z σ pc L (.int i :: .ref (ad D t) :: st) := fun H locs ls hP hS hL => va_aldq C.ex C.bt C.kk hP t t0 (by rw [wld_at ht, hct]) ht0 hi hd (by rw [hf]; exact kk H locs ls hP hS hL)
theorem g_ias (C : Fx X D own cc nL d ret) {t n : Nat} {f : Nat → Int32} {i x : Int32} {σ2 : Sg} (ht : t < 95) (hct : ct D σ t = .inl (D.2.2.1 0, n, .inl f)) (hct2 : ct D σ2 t = .inl (D.2.2.1 0, n, .inl (upd f i.toNatClampNeg x))) (ho : ∀ u, u < 95 → u ≠ t → ct D σ2 u = ct D σ u) (hi : vp_in i n) (hd : decode cc pc = .ok (.iastore, 1))
    (kk : G X D Q z σ2 (pc + 1) L st) : G X D Q z σ pc L (.int x :: .int i :: .ref (ad D t) :: st) := fun H locs ls hP hS hL => va_iast C.ex C.bt C.kk hP (wld_D C.ok σ) hS t 0 (by rw [wld_at ht, hct]) rfl hi hd (fun H1 locs1 hP1 _ hS1 => kk H1 locs1 ls (by rw [wld_set ht hct2 ho] at hP1; exact hP1) hS1 hL)
theorem g_zas (C : Fx X D own cc nL d ret) {t n : Nat} {f : Nat → Int32} {i x : Int32} {σ2 : Sg} (ht : t < 95) (hct : ct D σ t = .inl (D.2.2.1 2, n, .inl f)) (hct2 : ct D σ2 t = .inl (D.2.2.1 2, n, .inl (upd f i.toNatClampNeg (vp_nar .boolean x)))) (ho : ∀ u, u < 95 → u ≠ t → ct D σ2 u = ct D σ u) (hi : vp_in i n) (hd : decode cc pc = .ok (.bastore, 1))
    (kk : G X D Q z σ2 (pc + 1) L st) : G X D Q z σ pc L (.int x :: .int i :: .ref (ad D t) :: st) := fun H locs ls hP hS hL => va_zast C.ex C.bt C.kk hP (wld_D C.ok σ) hS t 2 (by rw [wld_at ht, hct]) rfl hi hd (fun H1 locs1 hP1 _ hS1 => kk H1 locs1 ls (by rw [wld_set ht hct2 ho] at hP1; exact hP1) hS1 hL)
theorem g_las (C : Fx X D own cc nL d ret) {t n : Nat} {f : Nat → Int64} {i : Int32} {x : Int64} {σ2 : Sg} (ht : t < 95) (hct : ct D σ t = .inl (D.2.2.1 1, n, .inr (.inl f))) (hct2 : ct D σ2 t = .inl (D.2.2.1 1, n, .inr (.inl (vp_updL f i.toNatClampNeg x)))) (ho : ∀ u, u < 95 → u ≠ t → ct D σ2 u = ct D σ u) (hi : vp_in i n) (hd : decode cc pc = .ok (.lastore, 1))
    (kk : G X D Q z σ2 (pc + 1) L st) : G X D Q z σ pc L (.long x :: .int i :: .ref (ad D t) :: st) := fun H locs ls hP hS hL => va_last C.ex C.bt C.kk hP (wld_D C.ok σ) hS t 1 (by rw [wld_at ht, hct]) rfl hi hd (fun H1 locs1 hP1 _ hS1 => kk H1 locs1 ls (by rw [wld_set ht hct2 ho] at hP1; exact hP1) hS1 hL)
theorem g_alen (C : Fx X D own cc nL d ret) {t t0 : Nat} {x : vp_A} {ty : FieldType} {cA : ClassId} {v : Int32} (ht : t < 95) (hct : ct D σ t = .inl (cA, x)) (ht0 : (tys D)[t0]? = some (cA, ty)) (hv : Int32.ofNat x.1 = v) (hd : decode cc pc = .ok (.arraylength, 1))
    (kk : G X D Q z σ (pc + 1) L (.int v :: st)) : G X D Q z σ pc L (.ref (ad D t) :: st) := fun H locs ls hP hS hL => va_alen C.ex C.bt C.kk hP t t0 (by rw [wld_at ht, hct]) ht0 hv hd (kk H locs ls hP hS hL)
end GR
/-! CONTRACTS: y, with these arguments (last first), from this state: returns r, in that state -/
def Ct (l : Launch) (D : Dt) (y : MethodName) (bytes : ByteArray) (maxL : Nat) (rty : Option FieldType) (d : Nat) (RA : List Value) (σ : Sg) (r : Option Value) (σ2 : Sg) : Prop :=
  Met l y [.code y bytes maxL rty] (rmk d) (fun v U => v = RA.reverse.toArray ∧ Wd D σ U) (Qk D (fun r2 u => r2 = r ∧ u = σ2)) 0 0 (Ab D)
theorem Wd_blind {D : Dt} {σ : Sg} {RA : List Value} : FrameBlind (fun v U => v = RA.reverse.toArray ∧ Wd D σ U) := fun _ _ _ _ h => h
theorem Ct.of {l : Launch} {D : Dt} {y : MethodName} {bytes : ByteArray} {maxL : Nat} {rty : Option FieldType} {d : Nat} {RA : List Value} {σ : Sg} {r : Option Value} {σ2 : Sg} (hD : OkD D) (hy : plainName y.cls = true) (hn : (lg_sl RA.reverse).length ≤ maxL) (L : Lc) (hL : la 0 RA.reverse = L)
    (body : ∀ X : Cx, X.2.1 = l → Fx X D y.cls bytes maxL d rty → G X D (Qp X D (fun r2 u => r2 = r ∧ u = σ2)) (0, 0) σ 0 L []) : Ct l D y bytes maxL rty d RA σ r σ2 := by
  refine Met.ofW (cc := bytes) (maxL := maxL) (ret := rty) hy rfl ?_
  intro p e s m args below meth c s₁ B hml hv
  obtain ⟨rfl, hW⟩ := hv
  have hl := lv_entry RA.reverse (n := maxL) hn
  rw [lg_entry_eq]
  refine body (p, l, e, (headSpec [.code y bytes maxL rty] (rmk d)).room, s, m, RA.reverse.toArray, below, meth, c) rfl ⟨B.exec, B.bytes, findClass_of_methodNamed B.named, hW.2.1, hD, ⟨Nat.le_refl _, Nat.le_refl _⟩, B.returns, B.notSynchronized, hml, hW.2.2.1, hW.2.2.2⟩ s.heap [] _ hW.1 va_S.rf ⟨?_, hl.2.1, fun i v hv => ?_⟩
  · show _ = c.maxLocals
    rw [hml]
    exact hl.1
  · rw [← hL] at hv
    have key : ∀ (q : List (Nat × Value)) (i : Nat) (v : Value), lk (q.map (fun q => (q.1, some q.2))) i = some v → (i, v) ∈ q := by
      intro q
      induction q with
      | nil => intro i v h; cases h
      | cons a q ih =>
        intro i v h
        rw [List.map_cons, lk_cons] at h
        split at h
        · rename_i e
          cases h
          subst e
          exact List.mem_cons_self
        · exact List.mem_cons_of_mem _ (ih i v h)
    exact hl.2.2 (i, v) (key _ i v hv)
/-- a called method's words -/
def CL (own : String) (index : Nat) (y : MethodName) : Prop := Cond.methodLink own index y ∈ UNI ∨ ∃ host, Cond.methodLinkNest own index y host ∈ UNI
def My (y : MethodName) (bytes : ByteArray) (maxL : Nat) (rty : Option FieldType) (n : Nat) : Prop := Cond.code y bytes maxL rty ∈ UNI ∧ Cond.initialized y.cls ∈ UNI ∧ (y.cls ≠ "java/lang/invoke/MethodHandle" ∧ y.cls ≠ "java/lang/invoke/VarHandle") ∧ (parseMethodDescriptor y.desc).map (fun d => d.parameters.length) = some n ∧ maxL ≤ 41
def MV (y : MethodName) : Prop := Cond.instanceMethod y ∈ UNI ∧ Cond.selects y.cls y y ∈ UNI
def MS (y : MethodName) : Prop := Cond.static y ∈ UNI
/-- the cell at b is an object of that name -/
def IsC (D : Dt) (b : Nat) (C0 : String) : Prop := ∃ t ci T N, t < 95 ∧ b = ad D t ∧ cls[ci]? = some (C0, T, N) ∧ ∀ σ, ∃ fs, ct D σ t = .inr (ci, fs)
section GC
variable {X : Cx} {D : Dt} {Q : State → Prop} {z : Nat × Nat} {σ σ2 : Sg} {pc : Nat} {L : Lc} {st : List Value} {own : String} {cc : ByteArray} {nL d d2 index n maxL : Nat} {ret rty : Option FieldType} {y : MethodName} {bytes : ByteArray} {As rest : List Value} {b : Nat} {r : Option Value}
theorem cx_room (C : Fx X D own cc nL d ret) (h : d2 + 1 ≤ d) (hm : maxL ≤ 41) : (rmk d2).frames + 1 ≤ X.2.2.2.1.frames ∧ 8 + (maxL + 11) + (rmk d2).locals ≤ X.2.2.2.1.locals := by
  have h1 := C.rm.1
  have h2 := C.rm.2
  simp only [rmk]
  omega
theorem cx_back (C : Fx X D own cc nL d ret) {H : Heap} {locs : List Loc} (hS : va_S (Ab D) X.2.2.2.2.1.heap H locs) {g : JFrame} {Qa : Array Value}
    (hr : va_Run X.1 X.2.1 X.2.2.1 X.2.2.2.1 X.2.2.2.2.1 X.2.2.2.2.2.1 X.2.2.2.2.2.2.1 X.2.2.2.2.2.2.2.1 X.2.2.2.2.2.2.2.2.1 X.2.2.2.2.2.2.2.2.2 H locs z.1 z.2 0 0 g rest (Qk D (fun r2 u => r2 = r ∧ u = σ2) Qa) (Ab D))
    (kk : ∀ (H1 : Heap) (locs1 : List Loc), va_P D.1 cls (wld D σ2) H1 → va_S (Ab D) X.2.2.2.2.1.heap H1 locs1 → W X.1 X.2.1 X.2.2.1 X.2.2.2.1 X.2.2.2.2.1 X.2.2.2.2.2.1 X.2.2.2.2.2.2.1 X.2.2.2.2.2.2.2.1 X.2.2.2.2.2.2.2.2.1 X.2.2.2.2.2.2.2.2.2 H1 locs1 z.1 z.2 Q { g with pc := g.pc + 3, stack := r.toList ++ rest }) :
    W X.1 X.2.1 X.2.2.1 X.2.2.2.1 X.2.2.2.2.1 X.2.2.2.2.2.1 X.2.2.2.2.2.2.1 X.2.2.2.2.2.2.2.1 X.2.2.2.2.2.2.2.2.1 X.2.2.2.2.2.2.2.2.2 H locs z.1 z.2 Q g := by
  intro T hT X0
  obtain ⟨v, st₀, t, T2, L2, h0, X2, hL, e1, e2, ⟨⟨r2, u, hv, ⟨rfl, rfl⟩, hb⟩, hz, hk⟩, stp⟩ := hr T hT X0
  cases hv
  rw [h0] at hz hk
  obtain ⟨t2, a1, b1⟩ := kk T2.heap (locs ++ L2) (by rw [e1]; exact hb.1) ⟨Nat.le_trans hS.1 (by rw [e1]; exact hz), fun q h1 h2 => by rw [e1, hk q (Nat.lt_of_lt_of_le h1 hS.1) h2]; exact hS.2.1 q h1 h2, fun q hq => by
      rcases List.mem_append.mp hq with h | h
      · exact hS.2.2 q h
      · exact hL q h⟩ T2 rfl X2
  exact ⟨t2, stp t2 a1, b1⟩
theorem cx_pre (C : Fx X D own cc nL d ret) {H : Heap} {locs : List Loc} (hP : va_P D.1 cls (wld D σ) H) (hS : va_S (Ab D) X.2.2.2.2.1.heap H locs) : ∀ U : State, U.heap = H → X.2.2.2.2.1.WarmedH U.vm → Wd D σ U := by
  intro U hU hW
  refine ⟨by rw [hU]; exact hP, State.WarmedH.trans C.wa hW, by rw [hU]; exact Nat.le_trans C.sz hS.1, fun q hq => ?_⟩
  rw [hU, hS.2.1 q (Nat.lt_of_lt_of_le hq C.sz) (Nat.not_le.mpr hq)]
  exact C.lw q hq
theorem cx_lk {U : State} {a : Array Value} {own : String} {index : Nat} {y : MethodName} (hts : ∀ w ∈ UNI, w.before a U = true) (h : CL own index y) : (Cond.methodLink own index y).before a U = true ∨ ∃ host, (Cond.methodLinkNest own index y host).before a U = true := by
  rcases h with h | ⟨host, h⟩
  · exact Or.inl (hts _ h)
  · exact Or.inr ⟨host, hts _ h⟩
theorem rl1 {As rest : List Value} {v : Value} {g : List Value} (h : g = As ++ v :: rest) : g = (As.reverse).reverse ++ v :: rest := by rw [List.reverse_reverse]; exact h
theorem rl0 {As rest : List Value} {g : List Value} (h : g = As ++ rest) : g = (As.reverse).reverse ++ rest := by rw [List.reverse_reverse]; exact h
theorem rl2 {As : List Value} {v : Value} : (As ++ [v]).reverse = v :: As.reverse := by simp
theorem g_callV (C : Fx X D own cc nL d ret) (hm : My y bytes maxL rty n) (hv : MV y) (hl : CL own index y) (hb : IsC D b y.cls) (hd : decode cc pc = .ok (.invokevirtual index, 3)) (hd2 : d2 + 1 ≤ d) (hn : As.length = n) (hr : (rest.map fun v => v.category).sum ≤ 8) (hz : z.1 ≤ X.2.2.2.1.cells ∧ z.2 ≤ X.2.2.2.1.slots)
    (hc : Ct X.2.1 D y bytes maxL rty d2 (As ++ [.ref b]) σ r σ2) (kk : G X D Q z σ2 (pc + 3) L (r.toList ++ rest)) : G X D Q z σ pc L (As ++ .ref b :: rest) := by
  intro H locs ls hP hS hL
  obtain ⟨hcode, hini, hy, hpar, hml⟩ := hm
  obtain ⟨t, ci, T, N, ht, rfl, hci, hct⟩ := hb
  obtain ⟨fs, hfs⟩ := hct σ
  have hrec := va_recv C.kk hP hci (q0 := t) (fs := fs) (by rw [wld_at ht, hfs])
  have hall : ∀ w ∈ ([Cond.code y bytes maxL rty] : List Cond), ∀ (a' : Array Value) (U : State), X.2.2.2.2.1.WarmedH U.vm → w.before a' U = true := fun w hw a' U hW => by
    rw [List.mem_singleton.mp hw]
    exact C.ok.ts (State.WarmedH.trans C.wa hW) a' _ hcode
  have hpre := cx_pre C hP hS
  have hlen : ∀ sig, parseMethodDescriptor y.desc = some sig → n = sig.parameters.length := fun sig h => by rw [h] at hpar; exact (Option.some.inj hpar).symm
  have hK : Back X.2.1 X.2.2.2.1 X.1 X.2.2.1 X.2.2.2.2.2.2.2.1 X.2.2.2.2.1 X.2.2.2.2.2.2.1 y 3 8 (PreOf X.2.2.2.1 0 0 (fun v U => v = (As ++ [Value.ref (ad D t)]).reverse.toArray ∧ Wd D σ U)) (PostOf (Qk D (fun r2 u => r2 = r ∧ u = σ2)) 0 0 (Ab D)) :=
    back_of (bytes := bytes) (maxL := maxL) (ret := rty) hc Wd_blind rfl rfl (cx_room C hd2 hml).1 (cx_room C hd2 hml).2 hall List.mem_cons_self (fun a' U hW => C.ok.ts (State.WarmedH.trans C.wa hW) a' _ hini)
  refine cx_back C hS (g := F0 X.2.2.2.2.2.1 pc ls (As ++ .ref (ad D t) :: rest)) (Qa := (Value.ref (ad D t) :: As.reverse).toArray) (r := r) (σ2 := σ2) (rest := rest) ?_ (fun H1 locs1 hP1 hS1 => kk H1 locs1 ls hP1 hS1 hL)
  intro T0 hT X0
  have hW : 2 * (F0 X.2.2.2.2.2.1 pc ls (As ++ .ref (ad D t) :: rest)).monitorRoom + (rest.map fun v => v.category).sum ≤ 8 := lv_room hr
  obtain ⟨cellB, hcB, hoB, hclB⟩ := hrec
  have hsz : ls.size = X.2.2.2.2.2.2.2.2.2.maxLocals := hL.1
  rcases cx_lk C.ts hl with hl | ⟨host, hl⟩
  · obtain ⟨v, vm₁, ⟨U2, l2, c2, s2⟩, hW₁, X2, ⟨g2, mk, t2, L2, e1, e2, hq, h1, hL2, h2, h3⟩, stp⟩ := callV X0 C.ex (C := y.cls) (bytes := bytes) (maxL := maxL) (ret := rty) C.ow hl (C.ts _ hv.1) (C.ts _ hv.2) (C.ts _ hcode) hy hK (by rw [hT]; exact hcB) hoB hclB (g := F0 X.2.2.2.2.2.1 pc ls (As ++ .ref (ad D t) :: rest)) rfl hsz (argsL := As.reverse) (rest := rest) (fun sig h => by rw [List.length_reverse, hn]; exact hlen sig h) (rl1 rfl) hW (by rw [C.bt]; exact hd)
      (fun vm₁ hW₁ => ⟨hz.1, hz.2, by rw [rl2], hpre (T0.setVm vm₁) hT hW₁⟩)
    dsimp only [Pt.U, Pt.locs, Pt.cells, Pt.slots] at X2 e1 e2 h1 h2 h3 stp
    subst h1; subst h2; subst h3
    exact ⟨v, (T0.setVm vm₁).calling g2 mk (Value.ref (ad D t) :: As.reverse).toArray, t2, U2, L2, hT, X2, hL2, e1, e2, hq, stp⟩
  · obtain ⟨v, vm₁, ⟨U2, l2, c2, s2⟩, hW₁, X2, ⟨g2, mk, t2, L2, e1, e2, hq, h1, hL2, h2, h3⟩, stp⟩ := va_callVN X0 C.ex (C := y.cls) (bytes := bytes) (maxL := maxL) (ret := rty) C.ow hl (C.ts _ hv.1) (C.ts _ hv.2) (C.ts _ hcode) hy hK (by rw [hT]; exact hcB) hoB hclB (g := F0 X.2.2.2.2.2.1 pc ls (As ++ .ref (ad D t) :: rest)) rfl hsz (argsL := As.reverse) (rest := rest) (fun sig h => by rw [List.length_reverse, hn]; exact hlen sig h) (rl1 rfl) hW (by rw [C.bt]; exact hd)
      (fun vm₁ hW₁ => ⟨hz.1, hz.2, by rw [rl2], hpre (T0.setVm vm₁) hT hW₁⟩)
    dsimp only [Pt.U, Pt.locs, Pt.cells, Pt.slots] at X2 e1 e2 h1 h2 h3 stp
    subst h1; subst h2; subst h3
    exact ⟨v, (T0.setVm vm₁).calling g2 mk (Value.ref (ad D t) :: As.reverse).toArray, t2, U2, L2, hT, X2, hL2, e1, e2, hq, stp⟩
theorem g_callS (C : Fx X D own cc nL d ret) (hm : My y bytes maxL rty n) (hv : MS y) (hl : CL own index y) (hd : decode cc pc = .ok (.invokestatic index, 3)) (hd2 : d2 + 1 ≤ d) (hn : As.length = n) (hr : (rest.map fun v => v.category).sum ≤ 8) (hz : z.1 ≤ X.2.2.2.1.cells ∧ z.2 ≤ X.2.2.2.1.slots)
    (hc : Ct X.2.1 D y bytes maxL rty d2 As σ r σ2) (kk : G X D Q z σ2 (pc + 3) L (r.toList ++ rest)) : G X D Q z σ pc L (As ++ rest) := by
  intro H locs ls hP hS hL
  obtain ⟨hcode, hini, hy, hpar, hml⟩ := hm
  have hall : ∀ w ∈ ([Cond.code y bytes maxL rty] : List Cond), ∀ (a' : Array Value) (U : State), X.2.2.2.2.1.WarmedH U.vm → w.before a' U = true := fun w hw a' U hW => by
    rw [List.mem_singleton.mp hw]
    exact C.ok.ts (State.WarmedH.trans C.wa hW) a' _ hcode
  have hpre := cx_pre C hP hS
  have hlen : ∀ sig, parseMethodDescriptor y.desc = some sig → n = sig.parameters.length := fun sig h => by rw [h] at hpar; exact (Option.some.inj hpar).symm
  have hK : Back X.2.1 X.2.2.2.1 X.1 X.2.2.1 X.2.2.2.2.2.2.2.1 X.2.2.2.2.1 X.2.2.2.2.2.2.1 y 3 8 (PreOf X.2.2.2.1 0 0 (fun v U => v = As.reverse.toArray ∧ Wd D σ U)) (PostOf (Qk D (fun r2 u => r2 = r ∧ u = σ2)) 0 0 (Ab D)) :=
    back_of (bytes := bytes) (maxL := maxL) (ret := rty) hc Wd_blind rfl rfl (cx_room C hd2 hml).1 (cx_room C hd2 hml).2 hall List.mem_cons_self (fun a' U hW => C.ok.ts (State.WarmedH.trans C.wa hW) a' _ hini)
  refine cx_back C hS (g := F0 X.2.2.2.2.2.1 pc ls (As ++ rest)) (Qa := As.reverse.toArray) (r := r) (σ2 := σ2) (rest := rest) ?_ (fun H1 locs1 hP1 hS1 => kk H1 locs1 ls hP1 hS1 hL)
  intro T0 hT X0
  have hW : 2 * (F0 X.2.2.2.2.2.1 pc ls (As ++ rest)).monitorRoom + (rest.map fun v => v.category).sum ≤ 8 := lv_room hr
  have hsz : ls.size = X.2.2.2.2.2.2.2.2.2.maxLocals := hL.1
  rcases cx_lk C.ts hl with hl | ⟨host, hl⟩
  · obtain ⟨v, vm₁, ⟨U2, l2, c2, s2⟩, hW₁, X2, ⟨g2, mk, t2, L2, e1, e2, hq, h1, hL2, h2, h3⟩, stp⟩ := callS X0 C.ex (bytes := bytes) (maxL := maxL) (ret := rty) C.ow hl (C.ts _ hv) (C.ts _ hini) (C.ts _ hcode) hy hK (g := F0 X.2.2.2.2.2.1 pc ls (As ++ rest)) rfl hsz (argsL := As.reverse) (rest := rest) (fun sig h => by rw [List.length_reverse, hn]; exact hlen sig h) (rl0 rfl) hW (by rw [C.bt]; exact hd)
      (fun vm₁ hW₁ => ⟨hz.1, hz.2, rfl, hpre (T0.setVm vm₁) hT hW₁⟩)
    dsimp only [Pt.U, Pt.locs, Pt.cells, Pt.slots] at X2 e1 e2 h1 h2 h3 stp
    subst h1; subst h2; subst h3
    exact ⟨v, (T0.setVm vm₁).calling g2 mk As.reverse.toArray, t2, U2, L2, hT, X2, hL2, e1, e2, hq, stp⟩
  · obtain ⟨v, vm₁, ⟨U2, l2, c2, s2⟩, hW₁, X2, ⟨g2, mk, t2, L2, e1, e2, hq, h1, hL2, h2, h3⟩, stp⟩ := va_callSN X0 C.ex (bytes := bytes) (maxL := maxL) (ret := rty) C.ow hl (C.ts _ hv) (C.ts _ hini) (C.ts _ hcode) hy hK (g := F0 X.2.2.2.2.2.1 pc ls (As ++ rest)) rfl hsz (argsL := As.reverse) (rest := rest) (fun sig h => by rw [List.length_reverse, hn]; exact hlen sig h) (rl0 rfl) hW (by rw [C.bt]; exact hd)
      (fun vm₁ hW₁ => ⟨hz.1, hz.2, rfl, hpre (T0.setVm vm₁) hT hW₁⟩)
    dsimp only [Pt.U, Pt.locs, Pt.cells, Pt.slots] at X2 e1 e2 h1 h2 h3 stp
    subst h1; subst h2; subst h3
    exact ⟨v, (T0.setVm vm₁).calling g2 mk As.reverse.toArray, t2, U2, L2, hT, X2, hL2, e1, e2, hq, stp⟩
theorem g_callV1 (C : Fx X D own cc nL d ret) {v : Value} (hm : My y bytes maxL rty n) (hv : MV y) (hl : CL own index y) (hb : IsC D b y.cls) (hd : decode cc pc = .ok (.invokevirtual index, 3)) (hd2 : d2 + 1 ≤ d) (hn : As.length = n) (hr : (rest.map fun v => v.category).sum ≤ 8) (hz : z.1 ≤ X.2.2.2.1.cells ∧ z.2 ≤ X.2.2.2.1.slots)
    (hc : Ct X.2.1 D y bytes maxL rty d2 (As ++ [.ref b]) σ (some v) σ2) (kk : G X D Q z σ2 (pc + 3) L (v :: rest)) : G X D Q z σ pc L (As ++ .ref b :: rest) := g_callV C hm hv hl hb hd hd2 hn hr hz hc kk
theorem g_callV0 (C : Fx X D own cc nL d ret) (hm : My y bytes maxL rty n) (hv : MV y) (hl : CL own index y) (hb : IsC D b y.cls) (hd : decode cc pc = .ok (.invokevirtual index, 3)) (hd2 : d2 + 1 ≤ d) (hn : As.length = n) (hr : (rest.map fun v => v.category).sum ≤ 8) (hz : z.1 ≤ X.2.2.2.1.cells ∧ z.2 ≤ X.2.2.2.1.slots)
    (hc : Ct X.2.1 D y bytes maxL rty d2 (As ++ [.ref b]) σ none σ2) (kk : G X D Q z σ2 (pc + 3) L rest) : G X D Q z σ pc L (As ++ .ref b :: rest) := g_callV C hm hv hl hb hd hd2 hn hr hz hc kk
theorem g_callS1 (C : Fx X D own cc nL d ret) {v : Value} (hm : My y bytes maxL rty n) (hv : MS y) (hl : CL own index y) (hd : decode cc pc = .ok (.invokestatic index, 3)) (hd2 : d2 + 1 ≤ d) (hn : As.length = n) (hr : (rest.map fun v => v.category).sum ≤ 8) (hz : z.1 ≤ X.2.2.2.1.cells ∧ z.2 ≤ X.2.2.2.1.slots)
    (hc : Ct X.2.1 D y bytes maxL rty d2 As σ (some v) σ2) (kk : G X D Q z σ2 (pc + 3) L (v :: rest)) : G X D Q z σ pc L (As ++ rest) := g_callS C hm hv hl hd hd2 hn hr hz hc kk
theorem g_callS0 (C : Fx X D own cc nL d ret) (hm : My y bytes maxL rty n) (hv : MS y) (hl : CL own index y) (hd : decode cc pc = .ok (.invokestatic index, 3)) (hd2 : d2 + 1 ≤ d) (hn : As.length = n) (hr : (rest.map fun v => v.category).sum ≤ 8) (hz : z.1 ≤ X.2.2.2.1.cells ∧ z.2 ≤ X.2.2.2.1.slots)
    (hc : Ct X.2.1 D y bytes maxL rty d2 As σ none σ2) (kk : G X D Q z σ2 (pc + 3) L rest) : G X D Q z σ pc L (As ++ rest) := g_callS C hm hv hl hd hd2 hn hr hz hc kk
end GC
end
