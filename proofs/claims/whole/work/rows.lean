section
-- ===== PART A: goes FIRST, ahead of the names: the tables' words, and 'selects' of the private methods out of them =====
/-- a private method of a class that the tables say can be made, by its rows of tables_1 -/
def lw_okq (q : MethodName × Nat) : Prop := (q.1.cls ≠ "java/lang/invoke/MethodHandle" ∧ q.1.cls ≠ "java/lang/invoke/VarHandle") ∧ Cond.instantiable q.1.cls q.2 ∈ tables_1 ∧ Cond.privateMethod q.1 ∈ tables_1 ∧ Cond.instanceMethod q.1 ∈ tables_1
theorem lw_p0 : lw_okq (⟨"RevisionVault", "barTo", "(I)I"⟩, 2) := ⟨⟨by decide +kernel, by decide +kernel⟩, List.mem_of_getElem? (i := 27) (by decide +kernel), List.mem_of_getElem? (i := 179) (by decide +kernel), List.mem_of_getElem? (i := 180) (by decide +kernel)⟩
theorem lw_p1 : lw_okq (⟨"java/lang/Throwable", "fillInStackTrace", "(I)Ljava/lang/Throwable;"⟩, 6) := ⟨⟨by decide +kernel, by decide +kernel⟩, List.mem_of_getElem? (i := 301) (by decide +kernel), List.mem_of_getElem? (i := 299) (by decide +kernel), List.mem_of_getElem? (i := 300) (by decide +kernel)⟩
theorem lw_p2 : lw_okq (⟨"RevisionVault$Repository", "nodeOf", "(LRevisionVault$Row;II)J"⟩, 12) := ⟨⟨by decide +kernel, by decide +kernel⟩, List.mem_of_getElem? (i := 53) (by decide +kernel), List.mem_of_getElem? (i := 597) (by decide +kernel), List.mem_of_getElem? (i := 598) (by decide +kernel)⟩
theorem lw_p3 : lw_okq (⟨"RevisionVault$Repository", "nodeOrZero", "(I)J"⟩, 12) := ⟨⟨by decide +kernel, by decide +kernel⟩, List.mem_of_getElem? (i := 53) (by decide +kernel), List.mem_of_getElem? (i := 601) (by decide +kernel), List.mem_of_getElem? (i := 602) (by decide +kernel)⟩
theorem lw_p4 : lw_okq (⟨"RevisionVault$Repository", "parentsOf", "(I)I"⟩, 12) := ⟨⟨by decide +kernel, by decide +kernel⟩, List.mem_of_getElem? (i := 53) (by decide +kernel), List.mem_of_getElem? (i := 626) (by decide +kernel), List.mem_of_getElem? (i := 627) (by decide +kernel)⟩
theorem lw_p5 : lw_okq (⟨"RevisionVault$Repository", "ancestorsOf", "(I)I"⟩, 12) := ⟨⟨by decide +kernel, by decide +kernel⟩, List.mem_of_getElem? (i := 53) (by decide +kernel), List.mem_of_getElem? (i := 644) (by decide +kernel), List.mem_of_getElem? (i := 645) (by decide +kernel)⟩
theorem lw_p6 : lw_okq (⟨"RevisionVault", "repositoryAt", "(I)LRevisionVault$Repository;"⟩, 2) := ⟨⟨by decide +kernel, by decide +kernel⟩, List.mem_of_getElem? (i := 27) (by decide +kernel), List.mem_of_getElem? (i := 658) (by decide +kernel), List.mem_of_getElem? (i := 659) (by decide +kernel)⟩
theorem lw_p7 : lw_okq (⟨"RevisionVault$Repository", "mayWrite", "()Z"⟩, 12) := ⟨⟨by decide +kernel, by decide +kernel⟩, List.mem_of_getElem? (i := 53) (by decide +kernel), List.mem_of_getElem? (i := 702) (by decide +kernel), List.mem_of_getElem? (i := 703) (by decide +kernel)⟩
theorem lw_p8 : lw_okq (⟨"RevisionVault", "repositoryInTransaction", "(I)LRevisionVault$Repository;"⟩, 2) := ⟨⟨by decide +kernel, by decide +kernel⟩, List.mem_of_getElem? (i := 27) (by decide +kernel), List.mem_of_getElem? (i := 715) (by decide +kernel), List.mem_of_getElem? (i := 716) (by decide +kernel)⟩
theorem lw_p9 : lw_okq (⟨"RevisionVault$Repository", "find", "(J)I"⟩, 12) := ⟨⟨by decide +kernel, by decide +kernel⟩, List.mem_of_getElem? (i := 53) (by decide +kernel), List.mem_of_getElem? (i := 733) (by decide +kernel), List.mem_of_getElem? (i := 734) (by decide +kernel)⟩
theorem lw_p10 : lw_okq (⟨"RevisionVault$Repository", "chooseChunk", "(LRevisionVault$Row;II)I"⟩, 12) := ⟨⟨by decide +kernel, by decide +kernel⟩, List.mem_of_getElem? (i := 53) (by decide +kernel), List.mem_of_getElem? (i := 737) (by decide +kernel), List.mem_of_getElem? (i := 738) (by decide +kernel)⟩
theorem lw_p11 : lw_okq (⟨"RevisionVault$Repository", "chainFits", "(II)Z"⟩, 12) := ⟨⟨by decide +kernel, by decide +kernel⟩, List.mem_of_getElem? (i := 53) (by decide +kernel), List.mem_of_getElem? (i := 764) (by decide +kernel), List.mem_of_getElem? (i := 765) (by decide +kernel)⟩
theorem lw_p12 : lw_okq (⟨"RevisionVault$Repository", "twinOf", "(LRevisionVault$Repository;I)I"⟩, 12) := ⟨⟨by decide +kernel, by decide +kernel⟩, List.mem_of_getElem? (i := 53) (by decide +kernel), List.mem_of_getElem? (i := 840) (by decide +kernel), List.mem_of_getElem? (i := 841) (by decide +kernel)⟩
theorem lw_p13 : lw_okq (⟨"RevisionVault$Repository", "undo", "(I)V"⟩, 12) := ⟨⟨by decide +kernel, by decide +kernel⟩, List.mem_of_getElem? (i := 53) (by decide +kernel), List.mem_of_getElem? (i := 845) (by decide +kernel), List.mem_of_getElem? (i := 846) (by decide +kernel)⟩
theorem lw_p14 : lw_okq (⟨"RevisionVaultModel", "raise", "(I)I"⟩, 23) := ⟨⟨by decide +kernel, by decide +kernel⟩, List.mem_of_getElem? (i := 857) (by decide +kernel), List.mem_of_getElem? (i := 954) (by decide +kernel), List.mem_of_getElem? (i := 955) (by decide +kernel)⟩
theorem lw_p15 : lw_okq (⟨"RevisionVaultModel", "barred", "(IZ)Z"⟩, 23) := ⟨⟨by decide +kernel, by decide +kernel⟩, List.mem_of_getElem? (i := 857) (by decide +kernel), List.mem_of_getElem? (i := 958) (by decide +kernel), List.mem_of_getElem? (i := 959) (by decide +kernel)⟩
def lw_privs_1 : List (MethodName × Nat) := [(⟨"RevisionVault", "barTo", "(I)I"⟩, 2), (⟨"java/lang/Throwable", "fillInStackTrace", "(I)Ljava/lang/Throwable;"⟩, 6), (⟨"RevisionVault$Repository", "nodeOf", "(LRevisionVault$Row;II)J"⟩, 12), (⟨"RevisionVault$Repository", "nodeOrZero", "(I)J"⟩, 12), (⟨"RevisionVault$Repository", "parentsOf", "(I)I"⟩, 12), (⟨"RevisionVault$Repository", "ancestorsOf", "(I)I"⟩, 12), (⟨"RevisionVault", "repositoryAt", "(I)LRevisionVault$Repository;"⟩, 2), (⟨"RevisionVault$Repository", "mayWrite", "()Z"⟩, 12), (⟨"RevisionVault", "repositoryInTransaction", "(I)LRevisionVault$Repository;"⟩, 2), (⟨"RevisionVault$Repository", "find", "(J)I"⟩, 12), (⟨"RevisionVault$Repository", "chooseChunk", "(LRevisionVault$Row;II)I"⟩, 12), (⟨"RevisionVault$Repository", "chainFits", "(II)Z"⟩, 12), (⟨"RevisionVault$Repository", "twinOf", "(LRevisionVault$Repository;I)I"⟩, 12), (⟨"RevisionVault$Repository", "undo", "(I)V"⟩, 12), (⟨"RevisionVaultModel", "raise", "(I)I"⟩, 23), (⟨"RevisionVaultModel", "barred", "(IZ)Z"⟩, 23)]
theorem lw_r1 : ∀ q ∈ lw_privs_1, lw_okq q := List.forall_mem_cons.mpr ⟨lw_p0, List.forall_mem_cons.mpr ⟨lw_p1, List.forall_mem_cons.mpr ⟨lw_p2, List.forall_mem_cons.mpr ⟨lw_p3, List.forall_mem_cons.mpr ⟨lw_p4, List.forall_mem_cons.mpr ⟨lw_p5, List.forall_mem_cons.mpr ⟨lw_p6, List.forall_mem_cons.mpr ⟨lw_p7, List.forall_mem_cons.mpr ⟨lw_p8, List.forall_mem_cons.mpr ⟨lw_p9, List.forall_mem_cons.mpr ⟨lw_p10, List.forall_mem_cons.mpr ⟨lw_p11, List.forall_mem_cons.mpr ⟨lw_p12, List.forall_mem_cons.mpr ⟨lw_p13, List.forall_mem_cons.mpr ⟨lw_p14, List.forall_mem_cons.mpr ⟨lw_p15, fun _ h => absurd h List.not_mem_nil⟩⟩⟩⟩⟩⟩⟩⟩⟩⟩⟩⟩⟩⟩⟩⟩
theorem lw_p16 : lw_okq (⟨"RevisionVaultModel", "start", "(I)Z"⟩, 23) := ⟨⟨by decide +kernel, by decide +kernel⟩, List.mem_of_getElem? (i := 857) (by decide +kernel), List.mem_of_getElem? (i := 962) (by decide +kernel), List.mem_of_getElem? (i := 963) (by decide +kernel)⟩
theorem lw_p17 : lw_okq (⟨"RevisionVaultModel", "write", "(I)Z"⟩, 23) := ⟨⟨by decide +kernel, by decide +kernel⟩, List.mem_of_getElem? (i := 857) (by decide +kernel), List.mem_of_getElem? (i := 966) (by decide +kernel), List.mem_of_getElem? (i := 967) (by decide +kernel)⟩
theorem lw_p18 : lw_okq (⟨"RevisionVaultModel", "isRevision", "(II)Z"⟩, 23) := ⟨⟨by decide +kernel, by decide +kernel⟩, List.mem_of_getElem? (i := 857) (by decide +kernel), List.mem_of_getElem? (i := 974) (by decide +kernel), List.mem_of_getElem? (i := 975) (by decide +kernel)⟩
theorem lw_p19 : lw_okq (⟨"RevisionVaultModel", "add", "(III)I"⟩, 23) := ⟨⟨by decide +kernel, by decide +kernel⟩, List.mem_of_getElem? (i := 857) (by decide +kernel), List.mem_of_getElem? (i := 978) (by decide +kernel), List.mem_of_getElem? (i := 979) (by decide +kernel)⟩
theorem lw_p20 : lw_okq (⟨"RevisionVaultModel", "begun", "(III)J"⟩, 23) := ⟨⟨by decide +kernel, by decide +kernel⟩, List.mem_of_getElem? (i := 857) (by decide +kernel), List.mem_of_getElem? (i := 982) (by decide +kernel), List.mem_of_getElem? (i := 983) (by decide +kernel)⟩
theorem lw_p21 : lw_okq (⟨"RevisionVaultModel", "found", "(IJ)I"⟩, 23) := ⟨⟨by decide +kernel, by decide +kernel⟩, List.mem_of_getElem? (i := 857) (by decide +kernel), List.mem_of_getElem? (i := 994) (by decide +kernel), List.mem_of_getElem? (i := 995) (by decide +kernel)⟩
theorem lw_p22 : lw_okq (⟨"RevisionVaultModel", "chosen", "(III)I"⟩, 23) := ⟨⟨by decide +kernel, by decide +kernel⟩, List.mem_of_getElem? (i := 857) (by decide +kernel), List.mem_of_getElem? (i := 998) (by decide +kernel), List.mem_of_getElem? (i := 999) (by decide +kernel)⟩
theorem lw_p23 : lw_okq (⟨"RevisionVaultModel", "runs", "()I"⟩, 23) := ⟨⟨by decide +kernel, by decide +kernel⟩, List.mem_of_getElem? (i := 857) (by decide +kernel), List.mem_of_getElem? (i := 1002) (by decide +kernel), List.mem_of_getElem? (i := 1003) (by decide +kernel)⟩
theorem lw_p24 : lw_okq (⟨"RevisionVaultModel", "candidate", "(IIII)I"⟩, 23) := ⟨⟨by decide +kernel, by decide +kernel⟩, List.mem_of_getElem? (i := 857) (by decide +kernel), List.mem_of_getElem? (i := 1006) (by decide +kernel), List.mem_of_getElem? (i := 1007) (by decide +kernel)⟩
theorem lw_p25 : lw_okq (⟨"RevisionVaultModel", "build", "(II)Z"⟩, 23) := ⟨⟨by decide +kernel, by decide +kernel⟩, List.mem_of_getElem? (i := 857) (by decide +kernel), List.mem_of_getElem? (i := 1010) (by decide +kernel), List.mem_of_getElem? (i := 1011) (by decide +kernel)⟩
theorem lw_p26 : lw_okq (⟨"RevisionVaultModel", "whole", "(II)Z"⟩, 23) := ⟨⟨by decide +kernel, by decide +kernel⟩, List.mem_of_getElem? (i := 857) (by decide +kernel), List.mem_of_getElem? (i := 1014) (by decide +kernel), List.mem_of_getElem? (i := 1015) (by decide +kernel)⟩
theorem lw_p27 : lw_okq (⟨"RevisionVaultModel", "byteAt", "(III)I"⟩, 23) := ⟨⟨by decide +kernel, by decide +kernel⟩, List.mem_of_getElem? (i := 857) (by decide +kernel), List.mem_of_getElem? (i := 1018) (by decide +kernel), List.mem_of_getElem? (i := 1019) (by decide +kernel)⟩
theorem lw_p28 : lw_okq (⟨"RevisionVaultModel", "apply", "(II)Z"⟩, 23) := ⟨⟨by decide +kernel, by decide +kernel⟩, List.mem_of_getElem? (i := 857) (by decide +kernel), List.mem_of_getElem? (i := 1022) (by decide +kernel), List.mem_of_getElem? (i := 1023) (by decide +kernel)⟩
theorem lw_p29 : lw_okq (⟨"RevisionVaultModel", "difference", "()I"⟩, 23) := ⟨⟨by decide +kernel, by decide +kernel⟩, List.mem_of_getElem? (i := 857) (by decide +kernel), List.mem_of_getElem? (i := 1026) (by decide +kernel), List.mem_of_getElem? (i := 1027) (by decide +kernel)⟩
theorem lw_p30 : lw_okq (⟨"RevisionVaultModel", "commonBegin", "()I"⟩, 23) := ⟨⟨by decide +kernel, by decide +kernel⟩, List.mem_of_getElem? (i := 857) (by decide +kernel), List.mem_of_getElem? (i := 1030) (by decide +kernel), List.mem_of_getElem? (i := 1031) (by decide +kernel)⟩
theorem lw_p31 : lw_okq (⟨"RevisionVaultModel", "commonEnd", "(I)I"⟩, 23) := ⟨⟨by decide +kernel, by decide +kernel⟩, List.mem_of_getElem? (i := 857) (by decide +kernel), List.mem_of_getElem? (i := 1034) (by decide +kernel), List.mem_of_getElem? (i := 1035) (by decide +kernel)⟩
def lw_privs_2 : List (MethodName × Nat) := [(⟨"RevisionVaultModel", "start", "(I)Z"⟩, 23), (⟨"RevisionVaultModel", "write", "(I)Z"⟩, 23), (⟨"RevisionVaultModel", "isRevision", "(II)Z"⟩, 23), (⟨"RevisionVaultModel", "add", "(III)I"⟩, 23), (⟨"RevisionVaultModel", "begun", "(III)J"⟩, 23), (⟨"RevisionVaultModel", "found", "(IJ)I"⟩, 23), (⟨"RevisionVaultModel", "chosen", "(III)I"⟩, 23), (⟨"RevisionVaultModel", "runs", "()I"⟩, 23), (⟨"RevisionVaultModel", "candidate", "(IIII)I"⟩, 23), (⟨"RevisionVaultModel", "build", "(II)Z"⟩, 23), (⟨"RevisionVaultModel", "whole", "(II)Z"⟩, 23), (⟨"RevisionVaultModel", "byteAt", "(III)I"⟩, 23), (⟨"RevisionVaultModel", "apply", "(II)Z"⟩, 23), (⟨"RevisionVaultModel", "difference", "()I"⟩, 23), (⟨"RevisionVaultModel", "commonBegin", "()I"⟩, 23), (⟨"RevisionVaultModel", "commonEnd", "(I)I"⟩, 23)]
theorem lw_r2 : ∀ q ∈ lw_privs_2, lw_okq q := List.forall_mem_cons.mpr ⟨lw_p16, List.forall_mem_cons.mpr ⟨lw_p17, List.forall_mem_cons.mpr ⟨lw_p18, List.forall_mem_cons.mpr ⟨lw_p19, List.forall_mem_cons.mpr ⟨lw_p20, List.forall_mem_cons.mpr ⟨lw_p21, List.forall_mem_cons.mpr ⟨lw_p22, List.forall_mem_cons.mpr ⟨lw_p23, List.forall_mem_cons.mpr ⟨lw_p24, List.forall_mem_cons.mpr ⟨lw_p25, List.forall_mem_cons.mpr ⟨lw_p26, List.forall_mem_cons.mpr ⟨lw_p27, List.forall_mem_cons.mpr ⟨lw_p28, List.forall_mem_cons.mpr ⟨lw_p29, List.forall_mem_cons.mpr ⟨lw_p30, List.forall_mem_cons.mpr ⟨lw_p31, fun _ h => absurd h List.not_mem_nil⟩⟩⟩⟩⟩⟩⟩⟩⟩⟩⟩⟩⟩⟩⟩⟩
theorem lw_p32 : lw_okq (⟨"RevisionVaultModel", "shortChain", "(III)Z"⟩, 23) := ⟨⟨by decide +kernel, by decide +kernel⟩, List.mem_of_getElem? (i := 857) (by decide +kernel), List.mem_of_getElem? (i := 1038) (by decide +kernel), List.mem_of_getElem? (i := 1039) (by decide +kernel)⟩
theorem lw_p33 : lw_okq (⟨"RevisionVaultModel", "putDifference", "(II)V"⟩, 23) := ⟨⟨by decide +kernel, by decide +kernel⟩, List.mem_of_getElem? (i := 857) (by decide +kernel), List.mem_of_getElem? (i := 1042) (by decide +kernel), List.mem_of_getElem? (i := 1043) (by decide +kernel)⟩
theorem lw_p34 : lw_okq (⟨"RevisionVaultModel", "putByte", "(II)V"⟩, 23) := ⟨⟨by decide +kernel, by decide +kernel⟩, List.mem_of_getElem? (i := 857) (by decide +kernel), List.mem_of_getElem? (i := 1046) (by decide +kernel), List.mem_of_getElem? (i := 1047) (by decide +kernel)⟩
theorem lw_p35 : lw_okq (⟨"RevisionVaultModel", "putSnapshot", "(I)V"⟩, 23) := ⟨⟨by decide +kernel, by decide +kernel⟩, List.mem_of_getElem? (i := 857) (by decide +kernel), List.mem_of_getElem? (i := 1050) (by decide +kernel), List.mem_of_getElem? (i := 1051) (by decide +kernel)⟩
theorem lw_p36 : lw_okq (⟨"RevisionVaultModel", "finish", "(I)Z"⟩, 23) := ⟨⟨by decide +kernel, by decide +kernel⟩, List.mem_of_getElem? (i := 857) (by decide +kernel), List.mem_of_getElem? (i := 1058) (by decide +kernel), List.mem_of_getElem? (i := 1059) (by decide +kernel)⟩
theorem lw_p37 : lw_okq (⟨"RevisionVaultModel", "roll", "(I)I"⟩, 23) := ⟨⟨by decide +kernel, by decide +kernel⟩, List.mem_of_getElem? (i := 857) (by decide +kernel), List.mem_of_getElem? (i := 1066) (by decide +kernel), List.mem_of_getElem? (i := 1067) (by decide +kernel)⟩
theorem lw_p38 : lw_okq (⟨"RevisionVaultModel", "bring", "(III)I"⟩, 23) := ⟨⟨by decide +kernel, by decide +kernel⟩, List.mem_of_getElem? (i := 857) (by decide +kernel), List.mem_of_getElem? (i := 1082) (by decide +kernel), List.mem_of_getElem? (i := 1083) (by decide +kernel)⟩
theorem lw_p39 : lw_okq (⟨"RevisionVaultModel", "shut", "(I)I"⟩, 23) := ⟨⟨by decide +kernel, by decide +kernel⟩, List.mem_of_getElem? (i := 857) (by decide +kernel), List.mem_of_getElem? (i := 1094) (by decide +kernel), List.mem_of_getElem? (i := 1095) (by decide +kernel)⟩
theorem lw_p40 : lw_okq (⟨"RevisionVaultModel", "ancestors", "(II)I"⟩, 23) := ⟨⟨by decide +kernel, by decide +kernel⟩, List.mem_of_getElem? (i := 857) (by decide +kernel), List.mem_of_getElem? (i := 1126) (by decide +kernel), List.mem_of_getElem? (i := 1127) (by decide +kernel)⟩
def lw_privs_3 : List (MethodName × Nat) := [(⟨"RevisionVaultModel", "shortChain", "(III)Z"⟩, 23), (⟨"RevisionVaultModel", "putDifference", "(II)V"⟩, 23), (⟨"RevisionVaultModel", "putByte", "(II)V"⟩, 23), (⟨"RevisionVaultModel", "putSnapshot", "(I)V"⟩, 23), (⟨"RevisionVaultModel", "finish", "(I)Z"⟩, 23), (⟨"RevisionVaultModel", "roll", "(I)I"⟩, 23), (⟨"RevisionVaultModel", "bring", "(III)I"⟩, 23), (⟨"RevisionVaultModel", "shut", "(I)I"⟩, 23), (⟨"RevisionVaultModel", "ancestors", "(II)I"⟩, 23)]
theorem lw_r3 : ∀ q ∈ lw_privs_3, lw_okq q := List.forall_mem_cons.mpr ⟨lw_p32, List.forall_mem_cons.mpr ⟨lw_p33, List.forall_mem_cons.mpr ⟨lw_p34, List.forall_mem_cons.mpr ⟨lw_p35, List.forall_mem_cons.mpr ⟨lw_p36, List.forall_mem_cons.mpr ⟨lw_p37, List.forall_mem_cons.mpr ⟨lw_p38, List.forall_mem_cons.mpr ⟨lw_p39, List.forall_mem_cons.mpr ⟨lw_p40, fun _ h => absurd h List.not_mem_nil⟩⟩⟩⟩⟩⟩⟩⟩⟩
def lw_privs : List (MethodName × Nat) := lw_privs_1 ++ (lw_privs_2 ++ (lw_privs_3))
def lw_tbl : List Cond := k2_sels lw_privs ++ tables_1
theorem lw_privs_ok : ∀ q ∈ lw_privs, lw_okq q := by
  show ∀ q ∈ lw_privs_1 ++ (lw_privs_2 ++ (lw_privs_3)), lw_okq q
  exact List.forall_mem_append.mpr ⟨lw_r1, List.forall_mem_append.mpr ⟨lw_r2, lw_r3⟩⟩
end
section
def R_V : String := "RevisionVault"
def R_Row : String := "RevisionVault$Row"
def R_Cod : String := "RevisionVault$Coding"
def R_Rep : String := "RevisionVault$Repository"
def R_Rec : String := "RevisionVault$IndexRecord"
def R_M : String := "RevisionVaultModel"
def R_JA : String := "java/util/Arrays"
def R_JI : String := "java/lang/Integer"
def F_V : u_T := fun k => match k with
  | 0 => (R_V, "buffer", "LRevisionVault$Row;", true)
  | _ => (R_V, "repositories", "[LRevisionVault$Repository;", true)
def t_V : Nat → FieldType := fun k => match k with
  | 0 => .object "RevisionVault$Row"
  | _ => .array (.object "RevisionVault$Repository")
theorem n_V : ∀ a, a < 2 → ∀ b, b < 2 → a ≠ b → (F_V a).2.1 ≠ (F_V b).2.1 := by decide +kernel
theorem t_V_ok : ∀ k, k < 2 → parseFieldDescriptor (F_V k).2.2.1 = some (t_V k) := by decide +kernel
def F_Row : u_T := fun k => match k with
  | 0 => (R_Row, "codes", "[I", true)
  | _ => (R_Row, "length", "I", false)
def t_Row : Nat → FieldType := fun k => match k with
  | 0 => .array .int
  | _ => .int
theorem n_Row : ∀ a, a < 2 → ∀ b, b < 2 → a ≠ b → (F_Row a).2.1 ≠ (F_Row b).2.1 := by decide +kernel
theorem t_Row_ok : ∀ k, k < 2 → parseFieldDescriptor (F_Row k).2.2.1 = some (t_Row k) := by decide +kernel
def F_Rep : u_T := fun k => match k with
  | 0 => (R_Rep, "data", "LRevisionVault$Row;", true)
  | 1 => (R_Rep, "records", "[LRevisionVault$IndexRecord;", true)
  | 2 => (R_Rep, "recordCount", "I", false)
  | 3 => (R_Rep, "journal", "Z", false)
  | 4 => (R_Rep, "journalData", "I", false)
  | 5 => (R_Rep, "journalRecords", "I", false)
  | 6 => (R_Rep, "down", "Z", false)
  | 7 => (R_Rep, "writesToFailure", "I", false)
  | 8 => (R_Rep, "built", "LRevisionVault$Row;", true)
  | 9 => (R_Rep, "chain", "[I", true)
  | 10 => (R_Rep, "chunk", "LRevisionVault$Row;", true)
  | _ => (R_Rep, "trial", "LRevisionVault$Row;", true)
def t_Rep : Nat → FieldType := fun k => match k with
  | 0 => .object "RevisionVault$Row"
  | 1 => .array (.object "RevisionVault$IndexRecord")
  | 2 => .int
  | 3 => .boolean
  | 4 => .int
  | 5 => .int
  | 6 => .boolean
  | 7 => .int
  | 8 => .object "RevisionVault$Row"
  | 9 => .array .int
  | 10 => .object "RevisionVault$Row"
  | _ => .object "RevisionVault$Row"
theorem n_Rep : ∀ a, a < 12 → ∀ b, b < 12 → a ≠ b → (F_Rep a).2.1 ≠ (F_Rep b).2.1 := by decide +kernel
theorem t_Rep_ok : ∀ k, k < 12 → parseFieldDescriptor (F_Rep k).2.2.1 = some (t_Rep k) := by decide +kernel
def F_Rec : u_T := fun k => match k with
  | 0 => (R_Rec, "offset", "I", false)
  | 1 => (R_Rec, "size", "I", false)
  | 2 => (R_Rec, "length", "I", false)
  | 3 => (R_Rec, "base", "I", false)
  | 4 => (R_Rec, "p1", "I", false)
  | 5 => (R_Rec, "p2", "I", false)
  | _ => (R_Rec, "node", "J", false)
def t_Rec : Nat → FieldType := fun k => match k with
  | 0 => .int
  | 1 => .int
  | 2 => .int
  | 3 => .int
  | 4 => .int
  | 5 => .int
  | _ => .long
theorem n_Rec : ∀ a, a < 7 → ∀ b, b < 7 → a ≠ b → (F_Rec a).2.1 ≠ (F_Rec b).2.1 := by decide +kernel
theorem t_Rec_ok : ∀ k, k < 7 → parseFieldDescriptor (F_Rec k).2.2.1 = some (t_Rec k) := by decide +kernel
def F_M : u_T := fun k => match k with
  | 0 => (R_M, "thrown", "I", false)
  | 1 => (R_M, "size", "I", false)
  | 2 => (R_M, "buf", "[I", true)
  | 3 => (R_M, "bytes", "[I", true)
  | 4 => (R_M, "dataLen", "[I", true)
  | 5 => (R_M, "count", "[I", true)
  | 6 => (R_M, "offset", "[I", true)
  | 7 => (R_M, "chunk", "[I", true)
  | 8 => (R_M, "length", "[I", true)
  | 9 => (R_M, "base", "[I", true)
  | 10 => (R_M, "first", "[I", true)
  | 11 => (R_M, "second", "[I", true)
  | 12 => (R_M, "nodes", "[J", true)
  | 13 => (R_M, "journalData", "[I", true)
  | 14 => (R_M, "journalCount", "[I", true)
  | 15 => (R_M, "down", "[Z", true)
  | 16 => (R_M, "failing", "[I", true)
  | 17 => (R_M, "builtLen", "I", false)
  | 18 => (R_M, "built", "[I", true)
  | 19 => (R_M, "next", "[I", true)
  | 20 => (R_M, "chain", "[I", true)
  | 21 => (R_M, "textLen", "I", false)
  | _ => (R_M, "text", "[I", true)
def t_M : Nat → FieldType := fun k => match k with
  | 0 => .int
  | 1 => .int
  | 2 => .array .int
  | 3 => .array .int
  | 4 => .array .int
  | 5 => .array .int
  | 6 => .array .int
  | 7 => .array .int
  | 8 => .array .int
  | 9 => .array .int
  | 10 => .array .int
  | 11 => .array .int
  | 12 => .array .long
  | 13 => .array .int
  | 14 => .array .int
  | 15 => .array .boolean
  | 16 => .array .int
  | 17 => .int
  | 18 => .array .int
  | 19 => .array .int
  | 20 => .array .int
  | 21 => .int
  | _ => .array .int
theorem n_M : ∀ a, a < 23 → ∀ b, b < 23 → a ≠ b → (F_M a).2.1 ≠ (F_M b).2.1 := by decide +kernel
theorem t_M_ok : ∀ k, k < 23 → parseFieldDescriptor (F_M k).2.2.1 = some (t_M k) := by decide +kernel
abbrev cls : List vw_C := [(R_V, F_V, 2), (R_Row, F_Row, 2), (R_Rep, F_Rep, 12), (R_Rec, F_Rec, 7), (R_M, F_M, 23)]
abbrev b_Cod_commonBeginning : ByteArray := prog_2_method_5_code
def y_Cod_commonBeginning : MethodName := ⟨"RevisionVault$Coding", "commonBeginning", "(LRevisionVault$Row;LRevisionVault$Row;)I"⟩
abbrev b_Cod_commonEnd : ByteArray := prog_2_method_6_code
def y_Cod_commonEnd : MethodName := ⟨"RevisionVault$Coding", "commonEnd", "(LRevisionVault$Row;LRevisionVault$Row;I)I"⟩
abbrev b_Cod_readDifference : ByteArray := prog_2_method_8_code
def y_Cod_readDifference : MethodName := ⟨"RevisionVault$Coding", "readDifference", "(LRevisionVault$Row;IILRevisionVault$Row;)Z"⟩
abbrev b_Cod_readSnapshot : ByteArray := prog_2_method_7_code
def y_Cod_readSnapshot : MethodName := ⟨"RevisionVault$Coding", "readSnapshot", "(LRevisionVault$Row;IILRevisionVault$Row;)Z"⟩
abbrev b_Cod_writeDifference : ByteArray := prog_2_method_4_code
def y_Cod_writeDifference : MethodName := ⟨"RevisionVault$Coding", "writeDifference", "(LRevisionVault$Row;LRevisionVault$Row;LRevisionVault$Row;)V"⟩
abbrev b_Cod_writePacked : ByteArray := prog_2_method_3_code
def y_Cod_writePacked : MethodName := ⟨"RevisionVault$Coding", "writePacked", "(LRevisionVault$Row;LRevisionVault$Row;)V"⟩
abbrev b_Cod_writeWhole : ByteArray := prog_2_method_2_code
def y_Cod_writeWhole : MethodName := ⟨"RevisionVault$Coding", "writeWhole", "(LRevisionVault$Row;LRevisionVault$Row;)V"⟩
abbrev b_JA_fill : ByteArray := prog_25_method_104_code
def y_JA_fill : MethodName := ⟨"java/util/Arrays", "fill", "([IIII)V"⟩
abbrev b_JA_rangeCheck : ByteArray := prog_25_method_30_code
def y_JA_rangeCheck : MethodName := ⟨"java/util/Arrays", "rangeCheck", "(III)V"⟩
abbrev b_JI_bitCount : ByteArray := prog_15_method_49_code
def y_JI_bitCount : MethodName := ⟨"java/lang/Integer", "bitCount", "(I)I"⟩
abbrev b_L_abort : ByteArray := method_6_code
def y_L_abort : MethodName := ⟨"RevisionVaultLaw", "abort", "(LRevisionVault;I[J)I"⟩
abbrev b_L_append : ByteArray := method_4_code
def y_L_append : MethodName := ⟨"RevisionVaultLaw", "append", "(LRevisionVault;III[J)I"⟩
abbrev b_L_begin : ByteArray := method_3_code
def y_L_begin : MethodName := ⟨"RevisionVaultLaw", "begin", "(LRevisionVault;I[J)I"⟩
abbrev b_L_commit : ByteArray := method_5_code
def y_L_commit : MethodName := ⟨"RevisionVaultLaw", "commit", "(LRevisionVault;I[J)I"⟩
abbrev b_L_pull : ByteArray := method_8_code
def y_L_pull : MethodName := ⟨"RevisionVaultLaw", "pull", "(LRevisionVault;I[J)I"⟩
abbrev b_L_recover : ByteArray := method_7_code
def y_L_recover : MethodName := ⟨"RevisionVaultLaw", "recover", "(LRevisionVault;II[J)I"⟩
abbrev b_L_text : ByteArray := method_9_code
def y_L_text : MethodName := ⟨"RevisionVaultLaw", "text", "(LRevisionVault;III[J)I"⟩
abbrev b_M_abort : ByteArray := prog_7_method_35_code
def y_M_abort : MethodName := ⟨"RevisionVaultModel", "abort", "(I)I"⟩
abbrev b_M_add : ByteArray := prog_7_method_27_code
def y_M_add : MethodName := ⟨"RevisionVaultModel", "add", "(III)I"⟩
abbrev b_M_ancestors : ByteArray := prog_7_method_49_code
def y_M_ancestors : MethodName := ⟨"RevisionVaultModel", "ancestors", "(II)I"⟩
abbrev b_M_append : ByteArray := prog_7_method_33_code
def y_M_append : MethodName := ⟨"RevisionVaultModel", "append", "(III)I"⟩
abbrev b_M_apply : ByteArray := prog_7_method_14_code
def y_M_apply : MethodName := ⟨"RevisionVaultModel", "apply", "(II)Z"⟩
abbrev b_M_barred : ByteArray := prog_7_method_28_code
def y_M_barred : MethodName := ⟨"RevisionVaultModel", "barred", "(IZ)Z"⟩
abbrev b_M_begin : ByteArray := prog_7_method_32_code
def y_M_begin : MethodName := ⟨"RevisionVaultModel", "begin", "(I)I"⟩
abbrev b_M_begun : ByteArray := prog_7_method_10_code
def y_M_begun : MethodName := ⟨"RevisionVaultModel", "begun", "(III)J"⟩
abbrev b_M_bring : ByteArray := prog_7_method_39_code
def y_M_bring : MethodName := ⟨"RevisionVaultModel", "bring", "(III)I"⟩
abbrev b_M_build : ByteArray := prog_7_method_15_code
def y_M_build : MethodName := ⟨"RevisionVaultModel", "build", "(II)Z"⟩
abbrev b_M_byteAt : ByteArray := prog_7_method_12_code
def y_M_byteAt : MethodName := ⟨"RevisionVaultModel", "byteAt", "(III)I"⟩
abbrev b_M_candidate : ByteArray := prog_7_method_22_code
def y_M_candidate : MethodName := ⟨"RevisionVaultModel", "candidate", "(IIII)I"⟩
abbrev b_M_chosen : ByteArray := prog_7_method_23_code
def y_M_chosen : MethodName := ⟨"RevisionVaultModel", "chosen", "(III)I"⟩
abbrev b_M_commit : ByteArray := prog_7_method_34_code
def y_M_commit : MethodName := ⟨"RevisionVaultModel", "commit", "(I)I"⟩
abbrev b_M_common : ByteArray := prog_7_method_50_code
def y_M_common : MethodName := ⟨"RevisionVaultModel", "common", "(III)I"⟩
abbrev b_M_commonBegin : ByteArray := prog_7_method_18_code
def y_M_commonBegin : MethodName := ⟨"RevisionVaultModel", "commonBegin", "()I"⟩
abbrev b_M_commonEnd : ByteArray := prog_7_method_19_code
def y_M_commonEnd : MethodName := ⟨"RevisionVaultModel", "commonEnd", "(I)I"⟩
abbrev b_M_damage : ByteArray := prog_7_method_46_code
def y_M_damage : MethodName := ⟨"RevisionVaultModel", "damage", "(III)Z"⟩
abbrev b_M_data : ByteArray := prog_7_method_45_code
def y_M_data : MethodName := ⟨"RevisionVaultModel", "data", "(II)I"⟩
abbrev b_M_difference : ByteArray := prog_7_method_20_code
def y_M_difference : MethodName := ⟨"RevisionVaultModel", "difference", "()I"⟩
abbrev b_M_fail : ByteArray := prog_7_method_36_code
def y_M_fail : MethodName := ⟨"RevisionVaultModel", "fail", "(II)Z"⟩
abbrev b_M_finish : ByteArray := prog_7_method_30_code
def y_M_finish : MethodName := ⟨"RevisionVaultModel", "finish", "(I)Z"⟩
abbrev b_M_found : ByteArray := prog_7_method_11_code
def y_M_found : MethodName := ⟨"RevisionVaultModel", "found", "(IJ)I"⟩
abbrev b_M_heads : ByteArray := prog_7_method_48_code
def y_M_heads : MethodName := ⟨"RevisionVaultModel", "heads", "(I)I"⟩
abbrev b_M_init : ByteArray := prog_7_method_1_code
def y_M_init : MethodName := ⟨"RevisionVaultModel", "<init>", "()V"⟩
abbrev b_M_isRepository : ByteArray := prog_7_method_4_code
def y_M_isRepository : MethodName := ⟨"RevisionVaultModel", "isRepository", "(I)Z"⟩
abbrev b_M_isRevision : ByteArray := prog_7_method_5_code
def y_M_isRevision : MethodName := ⟨"RevisionVaultModel", "isRevision", "(II)Z"⟩
abbrev b_M_mixed : ByteArray := prog_7_method_8_code
def y_M_mixed : MethodName := ⟨"RevisionVaultModel", "mixed", "(JI)J"⟩
abbrev b_M_mixedLong : ByteArray := prog_7_method_9_code
def y_M_mixedLong : MethodName := ⟨"RevisionVaultModel", "mixedLong", "(JJ)J"⟩
abbrev b_M_node : ByteArray := prog_7_method_44_code
def y_M_node : MethodName := ⟨"RevisionVaultModel", "node", "(II)J"⟩
abbrev b_M_pull : ByteArray := prog_7_method_38_code
def y_M_pull : MethodName := ⟨"RevisionVaultModel", "pull", "(I)I"⟩
abbrev b_M_putByte : ByteArray := prog_7_method_24_code
def y_M_putByte : MethodName := ⟨"RevisionVaultModel", "putByte", "(II)V"⟩
abbrev b_M_putDifference : ByteArray := prog_7_method_25_code
def y_M_putDifference : MethodName := ⟨"RevisionVaultModel", "putDifference", "(II)V"⟩
abbrev b_M_putSnapshot : ByteArray := prog_7_method_26_code
def y_M_putSnapshot : MethodName := ⟨"RevisionVaultModel", "putSnapshot", "(I)V"⟩
abbrev b_M_raise : ByteArray := prog_7_method_3_code
def y_M_raise : MethodName := ⟨"RevisionVaultModel", "raise", "(I)I"⟩
abbrev b_M_record : ByteArray := prog_7_method_43_code
def y_M_record : MethodName := ⟨"RevisionVaultModel", "record", "(III)I"⟩
abbrev b_M_recover : ByteArray := prog_7_method_37_code
def y_M_recover : MethodName := ⟨"RevisionVaultModel", "recover", "(II)I"⟩
abbrev b_M_revisions : ByteArray := prog_7_method_42_code
def y_M_revisions : MethodName := ⟨"RevisionVaultModel", "revisions", "(I)I"⟩
abbrev b_M_roll : ByteArray := prog_7_method_31_code
def y_M_roll : MethodName := ⟨"RevisionVaultModel", "roll", "(I)I"⟩
abbrev b_M_runs : ByteArray := prog_7_method_17_code
def y_M_runs : MethodName := ⟨"RevisionVaultModel", "runs", "()I"⟩
abbrev b_M_shortChain : ByteArray := prog_7_method_21_code
def y_M_shortChain : MethodName := ⟨"RevisionVaultModel", "shortChain", "(III)Z"⟩
abbrev b_M_shut : ByteArray := prog_7_method_41_code
def y_M_shut : MethodName := ⟨"RevisionVaultModel", "shut", "(I)I"⟩
abbrev b_M_start : ByteArray := prog_7_method_29_code
def y_M_start : MethodName := ⟨"RevisionVaultModel", "start", "(I)Z"⟩
abbrev b_M_text : ByteArray := prog_7_method_40_code
def y_M_text : MethodName := ⟨"RevisionVaultModel", "text", "(III)I"⟩
abbrev b_M_thrown : ByteArray := prog_7_method_2_code
def y_M_thrown : MethodName := ⟨"RevisionVaultModel", "thrown", "()I"⟩
abbrev b_M_type : ByteArray := prog_7_method_6_code
def y_M_type : MethodName := ⟨"RevisionVaultModel", "type", "(J)Z"⟩
abbrev b_M_whole : ByteArray := prog_7_method_13_code
def y_M_whole : MethodName := ⟨"RevisionVaultModel", "whole", "(II)Z"⟩
abbrev b_M_wipe : ByteArray := prog_7_method_7_code
def y_M_wipe : MethodName := ⟨"RevisionVaultModel", "wipe", "()V"⟩
abbrev b_M_write : ByteArray := prog_7_method_16_code
def y_M_write : MethodName := ⟨"RevisionVaultModel", "write", "(I)Z"⟩
abbrev b_M_wrong : ByteArray := prog_7_method_47_code
def y_M_wrong : MethodName := ⟨"RevisionVaultModel", "wrong", "(I)I"⟩
abbrev b_Rec_describe : ByteArray := prog_3_method_3_code
def y_Rec_describe : MethodName := ⟨"RevisionVault$IndexRecord", "describe", "(IIIJ)V"⟩
abbrev b_Rec_field : ByteArray := prog_3_method_4_code
def y_Rec_field : MethodName := ⟨"RevisionVault$IndexRecord", "field", "(I)I"⟩
abbrev b_Rec_init : ByteArray := prog_3_method_1_code
def y_Rec_init : MethodName := ⟨"RevisionVault$IndexRecord", "<init>", "()V"⟩
abbrev b_Rec_placeChunk : ByteArray := prog_3_method_2_code
def y_Rec_placeChunk : MethodName := ⟨"RevisionVault$IndexRecord", "placeChunk", "(III)V"⟩
abbrev b_Rep_ancestorsOf : ByteArray := prog_4_method_23_code
def y_Rep_ancestorsOf : MethodName := ⟨"RevisionVault$Repository", "ancestorsOf", "(I)I"⟩
abbrev b_Rep_build : ByteArray := prog_4_method_19_code
def y_Rep_build : MethodName := ⟨"RevisionVault$Repository", "build", "(I)Z"⟩
abbrev b_Rep_canBeParent : ByteArray := prog_4_method_3_code
def y_Rep_canBeParent : MethodName := ⟨"RevisionVault$Repository", "canBeParent", "(I)Z"⟩
abbrev b_Rep_chainFits : ByteArray := prog_4_method_18_code
def y_Rep_chainFits : MethodName := ⟨"RevisionVault$Repository", "chainFits", "(II)Z"⟩
abbrev b_Rep_chooseChunk : ByteArray := prog_4_method_17_code
def y_Rep_chooseChunk : MethodName := ⟨"RevisionVault$Repository", "chooseChunk", "(LRevisionVault$Row;II)I"⟩
abbrev b_Rep_comeUp : ByteArray := prog_4_method_8_code
def y_Rep_comeUp : MethodName := ⟨"RevisionVault$Repository", "comeUp", "(I)I"⟩
abbrev b_Rep_countHeads : ByteArray := prog_4_method_21_code
def y_Rep_countHeads : MethodName := ⟨"RevisionVault$Repository", "countHeads", "()I"⟩
abbrev b_Rep_countWrong : ByteArray := prog_4_method_20_code
def y_Rep_countWrong : MethodName := ⟨"RevisionVault$Repository", "countWrong", "()I"⟩
abbrev b_Rep_find : ByteArray := prog_4_method_13_code
def y_Rep_find : MethodName := ⟨"RevisionVault$Repository", "find", "(J)I"⟩
abbrev b_Rep_greatestCommonAncestor : ByteArray := prog_4_method_22_code
def y_Rep_greatestCommonAncestor : MethodName := ⟨"RevisionVault$Repository", "greatestCommonAncestor", "(II)I"⟩
abbrev b_Rep_hasRevision : ByteArray := prog_4_method_2_code
def y_Rep_hasRevision : MethodName := ⟨"RevisionVault$Repository", "hasRevision", "(I)Z"⟩
abbrev b_Rep_init : ByteArray := prog_4_method_1_code
def y_Rep_init : MethodName := ⟨"RevisionVault$Repository", "<init>", "()V"⟩
abbrev b_Rep_mayWrite : ByteArray := prog_4_method_4_code
def y_Rep_mayWrite : MethodName := ⟨"RevisionVault$Repository", "mayWrite", "()Z"⟩
abbrev b_Rep_mixLong : ByteArray := prog_4_method_16_code
def y_Rep_mixLong : MethodName := ⟨"RevisionVault$Repository", "mixLong", "(JJ)J"⟩
abbrev b_Rep_nodeOf : ByteArray := prog_4_method_15_code
def y_Rep_nodeOf : MethodName := ⟨"RevisionVault$Repository", "nodeOf", "(LRevisionVault$Row;II)J"⟩
abbrev b_Rep_nodeOrZero : ByteArray := prog_4_method_14_code
def y_Rep_nodeOrZero : MethodName := ⟨"RevisionVault$Repository", "nodeOrZero", "(I)J"⟩
abbrev b_Rep_openJournal : ByteArray := prog_4_method_5_code
def y_Rep_openJournal : MethodName := ⟨"RevisionVault$Repository", "openJournal", "()Z"⟩
abbrev b_Rep_parentsOf : ByteArray := prog_4_method_24_code
def y_Rep_parentsOf : MethodName := ⟨"RevisionVault$Repository", "parentsOf", "(I)I"⟩
abbrev b_Rep_removeJournal : ByteArray := prog_4_method_6_code
def y_Rep_removeJournal : MethodName := ⟨"RevisionVault$Repository", "removeJournal", "()Z"⟩
abbrev b_Rep_rollBack : ByteArray := prog_4_method_7_code
def y_Rep_rollBack : MethodName := ⟨"RevisionVault$Repository", "rollBack", "()I"⟩
abbrev b_Rep_store : ByteArray := prog_4_method_12_code
def y_Rep_store : MethodName := ⟨"RevisionVault$Repository", "store", "(LRevisionVault$Row;II)I"⟩
abbrev b_Rep_takeFrom : ByteArray := prog_4_method_9_code
def y_Rep_takeFrom : MethodName := ⟨"RevisionVault$Repository", "takeFrom", "(LRevisionVault$Repository;)I"⟩
abbrev b_Rep_twinOf : ByteArray := prog_4_method_10_code
def y_Rep_twinOf : MethodName := ⟨"RevisionVault$Repository", "twinOf", "(LRevisionVault$Repository;I)I"⟩
abbrev b_Rep_undo : ByteArray := prog_4_method_11_code
def y_Rep_undo : MethodName := ⟨"RevisionVault$Repository", "undo", "(I)V"⟩
abbrev b_Row_add : ByteArray := prog_5_method_7_code
def y_Row_add : MethodName := ⟨"RevisionVault$Row", "add", "(I)Z"⟩
abbrev b_Row_addPart : ByteArray := prog_5_method_9_code
def y_Row_addPart : MethodName := ⟨"RevisionVault$Row", "addPart", "(LRevisionVault$Row;II)Z"⟩
abbrev b_Row_addRun : ByteArray := prog_5_method_8_code
def y_Row_addRun : MethodName := ⟨"RevisionVault$Row", "addRun", "(II)Z"⟩
abbrev b_Row_at : ByteArray := prog_5_method_3_code
def y_Row_at : MethodName := ⟨"RevisionVault$Row", "at", "(I)I"⟩
abbrev b_Row_become : ByteArray := prog_5_method_11_code
def y_Row_become : MethodName := ⟨"RevisionVault$Row", "become", "(LRevisionVault$Row;)V"⟩
abbrev b_Row_cut : ByteArray := prog_5_method_5_code
def y_Row_cut : MethodName := ⟨"RevisionVault$Row", "cut", "(I)V"⟩
abbrev b_Row_flip : ByteArray := prog_5_method_6_code
def y_Row_flip : MethodName := ⟨"RevisionVault$Row", "flip", "(II)V"⟩
abbrev b_Row_has : ByteArray := prog_5_method_2_code
def y_Row_has : MethodName := ⟨"RevisionVault$Row", "has", "(I)Z"⟩
abbrev b_Row_hasRoomFor : ByteArray := prog_5_method_4_code
def y_Row_hasRoomFor : MethodName := ⟨"RevisionVault$Row", "hasRoomFor", "(I)Z"⟩
abbrev b_Row_init : ByteArray := prog_5_method_1_code
def y_Row_init : MethodName := ⟨"RevisionVault$Row", "<init>", "(I)V"⟩
abbrev b_Row_replace : ByteArray := prog_5_method_10_code
def y_Row_replace : MethodName := ⟨"RevisionVault$Row", "replace", "(IILRevisionVault$Row;II)Z"⟩
abbrev b_V_abort : ByteArray := prog_1_method_7_code
def y_V_abort : MethodName := ⟨"RevisionVault", "abort", "(I)I"⟩
abbrev b_V_append : ByteArray := prog_1_method_5_code
def y_V_append : MethodName := ⟨"RevisionVault", "append", "(III)I"⟩
abbrev b_V_barTo : ByteArray := prog_1_method_23_code
def y_V_barTo : MethodName := ⟨"RevisionVault", "barTo", "(I)I"⟩
abbrev b_V_begin : ByteArray := prog_1_method_4_code
def y_V_begin : MethodName := ⟨"RevisionVault", "begin", "(I)I"⟩
abbrev b_V_byteAt : ByteArray := prog_1_method_20_code
def y_V_byteAt : MethodName := ⟨"RevisionVault", "byteAt", "(JI)I"⟩
abbrev b_V_commit : ByteArray := prog_1_method_6_code
def y_V_commit : MethodName := ⟨"RevisionVault", "commit", "(I)I"⟩
abbrev b_V_common : ByteArray := prog_1_method_19_code
def y_V_common : MethodName := ⟨"RevisionVault", "common", "(III)I"⟩
abbrev b_V_damage : ByteArray := prog_1_method_16_code
def y_V_damage : MethodName := ⟨"RevisionVault", "damage", "(III)Z"⟩
abbrev b_V_data : ByteArray := prog_1_method_15_code
def y_V_data : MethodName := ⟨"RevisionVault", "data", "(II)I"⟩
abbrev b_V_fail : ByteArray := prog_1_method_8_code
def y_V_fail : MethodName := ⟨"RevisionVault", "fail", "(II)Z"⟩
abbrev b_V_heads : ByteArray := prog_1_method_18_code
def y_V_heads : MethodName := ⟨"RevisionVault", "heads", "(I)I"⟩
abbrev b_V_init : ByteArray := prog_1_method_1_code
def y_V_init : MethodName := ⟨"RevisionVault", "<init>", "()V"⟩
abbrev b_V_isCharacter : ByteArray := prog_1_method_21_code
def y_V_isCharacter : MethodName := ⟨"RevisionVault", "isCharacter", "(I)Z"⟩
abbrev b_V_isRepository : ByteArray := prog_1_method_22_code
def y_V_isRepository : MethodName := ⟨"RevisionVault", "isRepository", "(I)Z"⟩
abbrev b_V_node : ByteArray := prog_1_method_14_code
def y_V_node : MethodName := ⟨"RevisionVault", "node", "(II)J"⟩
abbrev b_V_pull : ByteArray := prog_1_method_10_code
def y_V_pull : MethodName := ⟨"RevisionVault", "pull", "(I)I"⟩
abbrev b_V_record : ByteArray := prog_1_method_13_code
def y_V_record : MethodName := ⟨"RevisionVault", "record", "(III)I"⟩
abbrev b_V_recover : ByteArray := prog_1_method_9_code
def y_V_recover : MethodName := ⟨"RevisionVault", "recover", "(II)I"⟩
abbrev b_V_repositoryAt : ByteArray := prog_1_method_24_code
def y_V_repositoryAt : MethodName := ⟨"RevisionVault", "repositoryAt", "(I)LRevisionVault$Repository;"⟩
abbrev b_V_repositoryInTransaction : ByteArray := prog_1_method_25_code
def y_V_repositoryInTransaction : MethodName := ⟨"RevisionVault", "repositoryInTransaction", "(I)LRevisionVault$Repository;"⟩
abbrev b_V_revisions : ByteArray := prog_1_method_12_code
def y_V_revisions : MethodName := ⟨"RevisionVault", "revisions", "(I)I"⟩
abbrev b_V_text : ByteArray := prog_1_method_11_code
def y_V_text : MethodName := ⟨"RevisionVault", "text", "(III)I"⟩
abbrev b_V_type : ByteArray := prog_1_method_2_code
def y_V_type : MethodName := ⟨"RevisionVault", "type", "(J)Z"⟩
abbrev b_V_wipe : ByteArray := prog_1_method_3_code
def y_V_wipe : MethodName := ⟨"RevisionVault", "wipe", "()V"⟩
abbrev b_V_wrong : ByteArray := prog_1_method_17_code
def y_V_wrong : MethodName := ⟨"RevisionVault", "wrong", "(I)I"⟩
end
section
/-! THE STATE. The system's ints by cell and place, nodes of its records; the reference's ints and nodes; the law's answer cell -/
abbrev Cs : Type := (Nat → Nat → Int32) × (Nat → Int64)
abbrev Sg : Type := Cs × Cs × (Nat → Int64)
/-- the world's places: class numbers and slots; addresses by cell; array kinds; the state at the law's start -/
abbrev Dt : Type := va_G × (Nat → Nat) × (Nat → ClassId) × State
def upA (f : Nat → Nat → Int32) (i : Nat) (g : Nat → Int32) : Nat → Nat → Int32 := fun a => if a = i then g else f a
theorem upA_s {f : Nat → Nat → Int32} {i : Nat} {g : Nat → Int32} : upA f i g i = g := by simp [upA]
theorem upA_n {f : Nat → Nat → Int32} {i a : Nat} {g : Nat → Int32} (h : a ≠ i) : upA f i g a = f a := by simp [upA, h]
def wA (c : Cs) (i : Nat) (g : Nat → Int32) : Cs := (upA c.1 i g, c.2)
def wI (c : Cs) (i k : Nat) (v : Int32) : Cs := (upA c.1 i (upd (c.1 i) k v), c.2)
def wN (c : Cs) (i : Nat) (v : Int64) : Cs := (c.1, vp_updL c.2 i v)
theorem wA_1s {c : Cs} {i : Nat} {g : Nat → Int32} : (wA c i g).1 i = g := upA_s
theorem wA_1n {c : Cs} {i a : Nat} {g : Nat → Int32} (h : a ≠ i) : (wA c i g).1 a = c.1 a := upA_n h
theorem wI_1s {c : Cs} {i k : Nat} {v : Int32} : (wI c i k v).1 i = upd (c.1 i) k v := upA_s
theorem wI_1n {c : Cs} {i k a : Nat} {v : Int32} (h : a ≠ i) : (wI c i k v).1 a = c.1 a := upA_n h
/-- lengths of the rows' arrays, of the reference's int arrays -/
def rln (j : Nat) : Nat := if j = 0 then 60 else if (j - 1) % 4 = 0 then 600 else if (j - 1) % 4 = 1 then 60 else 121
theorem rln_le (j : Nat) : rln j ≤ 600 := by
  unfold rln
  split
  · decide
  · split
    · decide
    · split <;> decide
def mln (a : Nat) : Nat := [0, 60, 1200, 2, 2, 48, 48, 48, 48, 48, 48, 2, 2, 2, 60, 60, 24, 60].getD a 0
def ad (D : Dt) (t : Nat) : Nat := D.2.1 t
def aVlt (D : Dt) : Nat := ad D 0
def aRow (D : Dt) (j : Nat) : Nat := ad D (1 + j)
def aArr (D : Dt) (j : Nat) : Nat := ad D (10 + j)
def aRps (D : Dt) : Nat := ad D 19
def aRep (D : Dt) (r : Nat) : Nat := ad D (20 + r)
def aRcs (D : Dt) (r : Nat) : Nat := ad D (22 + r)
def aChn (D : Dt) (r : Nat) : Nat := ad D (24 + r)
def aRec (D : Dt) (i : Nat) : Nat := ad D (26 + i)
def aMdl (D : Dt) : Nat := ad D 74
def aMar (D : Dt) (a : Nat) : Nat := ad D (74 + a)
def aNds (D : Dt) : Nat := ad D 92
def aDwn (D : Dt) : Nat := ad D 93
def aOut (D : Dt) : Nat := ad D 94
/-- what stands in a cell -/
def ct (D : Dt) (σ : Sg) (t : Nat) : va_E :=
  if t < 1 then .inr (0, [.ref (aRow D 0), .ref (aRps D)])
  else if t < 10 then .inr (1, [.ref (aArr D (t - 1)), .int (σ.1.1 t 0)])
  else if t < 19 then .inl (D.2.2.1 0, rln (t - 10), .inl (σ.1.1 t))
  else if t < 20 then .inl (D.2.2.1 3, 2, .inr (.inr (.inr (.inr (fun k => some (aRep D k))))))
  else if t < 22 then .inr (2, [.ref (aRow D (1 + 4 * (t - 20))), .ref (aRcs D (t - 20)), .int (σ.1.1 t 0), .int (σ.1.1 t 1), .int (σ.1.1 t 2), .int (σ.1.1 t 3), .int (σ.1.1 t 4), .int (σ.1.1 t 5), .ref (aRow D (2 + 4 * (t - 20))), .ref (aChn D (t - 20)), .ref (aRow D (3 + 4 * (t - 20))), .ref (aRow D (4 + 4 * (t - 20)))])
  else if t < 24 then .inl (D.2.2.1 4, 24, .inr (.inr (.inr (.inr (fun k => some (aRec D (24 * (t - 22) + k)))))))
  else if t < 26 then .inl (D.2.2.1 0, 6, .inl (σ.1.1 t))
  else if t < 74 then .inr (3, [.int (σ.1.1 t 0), .int (σ.1.1 t 1), .int (σ.1.1 t 2), .int (σ.1.1 t 3), .int (σ.1.1 t 4), .int (σ.1.1 t 5), .long (σ.1.2 (t - 26))])
  else if t < 75 then .inr (4, [.int (σ.2.1.1 0 0), .int (σ.2.1.1 0 1), .ref (aMar D 1), .ref (aMar D 2), .ref (aMar D 3), .ref (aMar D 4), .ref (aMar D 5), .ref (aMar D 6), .ref (aMar D 7), .ref (aMar D 8), .ref (aMar D 9), .ref (aMar D 10), .ref (aNds D), .ref (aMar D 11), .ref (aMar D 12), .ref (aDwn D), .ref (aMar D 13), .int (σ.2.1.1 0 2), .ref (aMar D 14), .ref (aMar D 15), .ref (aMar D 16), .int (σ.2.1.1 0 3), .ref (aMar D 17)])
  else if t < 92 then .inl (D.2.2.1 0, mln (t - 74), .inl (σ.2.1.1 (t - 74)))
  else if t < 93 then .inl (D.2.2.1 1, 48, .inr (.inl σ.2.1.2))
  else if t < 94 then .inl (D.2.2.1 2, 2, .inl (σ.2.1.1 19))
  else .inl (D.2.2.1 1, 1, .inr (.inl σ.2.2))
def wld (D : Dt) (σ : Sg) : va_W := (List.range 95).map (fun t => (ad D t, ct D σ t))
def tys (D : Dt) : List (ClassId × FieldType) := [(D.2.2.1 0, .int), (D.2.2.1 1, .long), (D.2.2.1 2, .boolean), (D.2.2.1 3, .object R_Rep), (D.2.2.1 4, .object R_Rec)]
def Ab (D : Dt) : Nat → Prop := fun q => ∃ t, t < 95 ∧ q = ad D t
def OkD (D : Dt) : Prop := (∀ i j, i < 95 → j < 95 → ad D i = ad D j → i = j) ∧ (∀ i, i < 95 → D.2.2.2.heap.size ≤ ad D i) ∧ va_K D.1 cls (tys D) D.2.2.2 ∧ ∃ a0 : Array Value, ∀ w ∈ lw_tbl, w.before a0 D.2.2.2 = true
theorem Ab.lo {D : Dt} (hD : OkD D) {q : Nat} (h : q < D.2.2.2.heap.size) : ¬ Ab D q := by
  rintro ⟨t, ht, rfl⟩
  exact Nat.not_le.mpr h (hD.2.1 t ht)
theorem wld_at {D : Dt} {σ : Sg} {t : Nat} (h : t < 95) : (wld D σ)[t]? = some (ad D t, ct D σ t) := by
  simp [wld, List.getElem?_map, List.getElem?_range h]
theorem wld_in {D : Dt} {σ : Sg} {t : Nat} {q : Nat × va_E} (h : (wld D σ)[t]? = some q) : t < 95 ∧ q = (ad D t, ct D σ t) := by
  have hl : t < (wld D σ).length := (List.getElem?_eq_some_iff.mp h).1
  have hl : t < 95 := by simpa [wld] using hl
  rw [wld_at hl] at h
  exact ⟨hl, (Option.some.inj h).symm⟩
theorem wld_D {D : Dt} (hD : OkD D) (σ : Sg) : va_D (Ab D) (wld D σ) := by
  refine ⟨fun i j p q hi hj hpq => ?_, fun k q hk => ?_⟩
  · obtain ⟨h1, rfl⟩ := wld_in hi
    obtain ⟨h2, rfl⟩ := wld_in hj
    exact hD.1 i j h1 h2 hpq
  · obtain ⟨h1, rfl⟩ := wld_in hk
    exact ⟨k, h1, rfl⟩
theorem wld_set {D : Dt} {σ σ' : Sg} {t : Nat} {x : va_E} (ht : t < 95) (he : ct D σ' t = x) (ho : ∀ u, u < 95 → u ≠ t → ct D σ' u = ct D σ u) : (wld D σ).set t (ad D t, x) = wld D σ' := by
  apply List.ext_getElem?
  intro k
  by_cases hk : k = t
  · subst hk
    rw [List.getElem?_set_self (by simpa [wld] using ht), wld_at ht, he]
  · rw [List.getElem?_set_ne (Ne.symm hk)]
    by_cases h : k < 95
    · rw [wld_at h, wld_at h, ho k h hk]
    · rw [List.getElem?_eq_none (by simpa [wld] using Nat.le_of_not_lt h), List.getElem?_eq_none (by simpa [wld] using Nat.le_of_not_lt h)]
/-! the words that every contract stands on: the tables' good ones -/
def gw : Cond → Bool
  | .fieldLinkNest .. => true
  | .methodLinkNest .. => true
  | .castable .. => true
  | .declares _ => true
  | w => goodWord w
theorem gw_at {w : Cond} (hg : gw w = true) {s U : State} (hW : s.WarmedH U.vm) {a0 a : Array Value} (h : w.before a0 s = true) : w.before a U = true := by
  cases w with
  | fieldLinkNest => exact va_Nw.use rfl (va_Nw.warmF hW (va_Nw.of rfl h))
  | methodLinkNest => exact va_Nw.use rfl (va_Nw.warmM hW (va_Nw.of rfl h))
  | castable => exact va_Nw.use rfl (va_Nw.warmC hW (va_Nw.of rfl h))
  | declares => exact va_Nw.use rfl (va_Nw.warmD hW (va_Nw.of rfl h))
  | _ => exact word_at hW (good_of_word hg) h
def UNI : List Cond := lw_tbl.filter gw
theorem un_in {w : Cond} (h : w ∈ lw_tbl) (hg : gw w = true) : w ∈ UNI := List.mem_filter.mpr ⟨h, hg⟩
theorem un {w : Cond} (i : Nat) (h : tables_1[i]? = some w) (hg : gw w = true) : w ∈ UNI := un_in (List.mem_append_right _ (List.mem_of_getElem? h)) hg
theorem unS {q : MethodName × Nat} (i : Nat) (h : lw_privs[i]? = some q) (hg : gw (Cond.selects q.1.cls q.1 q.1) = true) : Cond.selects q.1.cls q.1 q.1 ∈ UNI := un_in (List.mem_append_left _ (List.mem_map.mpr ⟨q, List.mem_of_getElem? h, rfl⟩)) hg
theorem OkD.ts {D : Dt} (hD : OkD D) {U : State} (hW : D.2.2.2.WarmedH U.vm) (a : Array Value) : ∀ w ∈ UNI, w.before a U = true := by
  obtain ⟨a0, h⟩ := hD.2.2.2
  intro w hw
  obtain ⟨h1, h2⟩ := List.mem_filter.mp hw
  exact gw_at h2 hW (h w h1)
/-! locals: a list, the first entry counts; none: nothing is known -/
abbrev Lc : Type := List (Nat × Option Value)
def lk : Lc → Nat → Option Value
  | [], _ => none
  | q :: l, i => bif Nat.beq q.1 i then q.2 else lk l i
theorem lk_cons (q : Nat × Option Value) (l : Lc) (i : Nat) : lk (q :: l) i = if q.1 = i then q.2 else lk l i := by
  by_cases h : q.1 = i
  · have hb : Nat.beq q.1 i = true := by subst h; exact Nat.beq_refl _
    rw [if_pos h, lk, hb]
    rfl
  · have hb : Nat.beq q.1 i = false := by
      cases hb : Nat.beq q.1 i with
      | false => rfl
      | true => exact absurd (Nat.eq_of_beq_eq_true hb) h
    rw [if_neg h, lk, hb]
    rfl
def Lh (ls : Array Slot) (n : Nat) (L : Lc) : Prop := ls.size = n ∧ lv_wf ls ∧ ∀ i v, lk L i = some v → ls[i]? = some (.val v)
def toL (L : Lc) (n : Nat) : List (Nat × Value) := (List.range n).filterMap (fun i => (lk L i).map (fun v => (i, v)))
theorem Lh.has {ls : Array Slot} {n : Nat} {L : Lc} (h : Lh ls n L) : lv_has ls n (toL L n) := by
  refine ⟨h.1, h.2.1, fun q hq => ?_⟩
  obtain ⟨i, -, hi⟩ := List.mem_filterMap.mp hq
  cases hv : lk L i with
  | none => rw [hv] at hi; cases hi
  | some v =>
    rw [hv] at hi
    cases hi
    exact h.2.2 i v hv
theorem toL_in {L : Lc} {n i : Nat} {v : Value} (hi : i < n) (h : lk L i = some v) : (i, v) ∈ toL L n := List.mem_filterMap.mpr ⟨i, List.mem_range.mpr hi, by rw [h]; rfl⟩
theorem Lh.lt {ls : Array Slot} {n : Nat} {L : Lc} (h : Lh ls n L) {i : Nat} {v : Value} (hv : lk L i = some v) : i < n := by
  rw [← h.1]
  exact lv_lt (h.2.2 i v hv)
/-- storing at i harms no long before it -/
def kl (L : Lc) : Nat → Bool
  | 0 => true
  | j + 1 => match lk L j with
    | some v => decide (v.category = 1)
    | none => true
theorem Lh.st1 {ls ls' : Array Slot} {n i : Nat} {L : Lc} {v : Value} (h : Lh ls n L) (hk : kl L i = true)
    (h' : lv_has ls' n ((i, v) :: (toL L n).filter (fun q => !(q.1 == i) && !(q.1 + 1 == i && q.2.category == 2)))) : Lh ls' n ((i, some v) :: L) := by
  refine ⟨h'.1, h'.2.1, fun j w hj => ?_⟩
  by_cases hij : i = j
  · subst hij
    rw [lk_cons, if_pos rfl] at hj
    cases hj
    exact h'.2.2 (i, v) List.mem_cons_self
  · rw [lk_cons, if_neg hij] at hj
    refine h'.2.2 (j, w) (List.mem_cons_of_mem _ (List.mem_filter.mpr ⟨toL_in (h.lt hj) hj, ?_⟩))
    have h1 : (j == i) = false := by simpa using fun e : j = i => hij e.symm
    by_cases h2 : j + 1 = i
    · subst h2
      simp only [kl, hj, decide_eq_true_eq] at hk
      simp [hk]
    · simp [h1, h2, Ne.symm hij]
theorem Lh.st2 {ls ls' : Array Slot} {n i : Nat} {L : Lc} {v : Value} (h : Lh ls n L) (hk : kl L i = true)
    (h' : lv_has ls' n ((i, v) :: (toL L n).filter (fun q => !(q.1 == i) && (!(q.1 == i + 1) && !(q.1 + 1 == i && q.2.category == 2))))) : Lh ls' n ((i, some v) :: (i + 1, none) :: L) := by
  refine ⟨h'.1, h'.2.1, fun j w hj => ?_⟩
  by_cases hij : i = j
  · subst hij
    rw [lk_cons, if_pos rfl] at hj
    cases hj
    exact h'.2.2 (i, v) List.mem_cons_self
  · rw [lk_cons, if_neg hij] at hj
    rw [lk_cons] at hj
    by_cases hij2 : i + 1 = j
    · rw [if_pos hij2] at hj
      cases hj
    · rw [if_neg hij2] at hj
      refine h'.2.2 (j, w) (List.mem_cons_of_mem _ (List.mem_filter.mpr ⟨toL_in (h.lt hj) hj, ?_⟩))
      by_cases h2 : j + 1 = i
      · subst h2
        simp only [kl, hj, decide_eq_true_eq] at hk
        simp [hk, Ne.symm hij2]
      · simp [h2, Ne.symm hij, Ne.symm hij2]
/-- fewer known locals -/
def sub (L : Lc) : Lc → Prop
  | [] => True
  | q :: l => (∀ v, q.2 = some v → lk L q.1 = some v) ∧ sub L l
theorem sub_lk {L : Lc} : ∀ {L' : Lc}, sub L L' → ∀ i v, lk L' i = some v → lk L i = some v
  | [], _, i, v, h => by cases h
  | q :: l, hs, i, v, h => by
    rw [lk_cons] at h
    split at h
    · rename_i e
      subst e
      exact hs.1 v h
    · exact sub_lk hs.2 i v h
theorem Lh.sub {ls : Array Slot} {n : Nat} {L L' : Lc} (h : Lh ls n L) (hs : sub L L') : Lh ls n L' := ⟨h.1, h.2.1, fun i v hv => h.2.2 i v (sub_lk hs i v hv)⟩
theorem sb {L l : Lc} {i : Nat} {v : Value} (h : lk L i = some v) (hs : sub L l) : sub L ((i, some v) :: l) := ⟨fun w hw => by cases hw; exact h, hs⟩
def la (i : Nat) (vs : List Value) : Lc := (lv_args i vs).map (fun q => (q.1, some q.2))
end
section
/-! A METHOD'S WALK: G says that from this place of the walk, with this state, the method comes to an end with 'post' -/
abbrev Cx : Type := Program × Launch × Env × Room × State × MethodId × Array Value × List Frame × Method × Code
def Wd (D : Dt) (σ : Sg) (U : State) : Prop := va_P D.1 cls (wld D σ) U.heap ∧ D.2.2.2.WarmedH U.vm ∧ D.2.2.2.heap.size ≤ U.heap.size ∧ ∀ q, q < D.2.2.2.heap.size → U.heap[q]? = D.2.2.2.heap[q]?
def Qk (D : Dt) (post : Option Value → Sg → Prop) : Array Value → State → Outcome → State → Prop := fun _ st o t => (∃ r u, o = .returned r ∧ post r u ∧ Wd D u t) ∧ va_F (Ab D) st t
def Qp (X : Cx) (D : Dt) (post : Option Value → Sg → Prop) : State → Prop := MQ X.2.2.2.2.2.2.2.1 (Qk D post) X.2.2.2.2.2.2.1 X.2.2.2.2.1 0 0 (Ab D)
def G (X : Cx) (D : Dt) (Q : State → Prop) (z : Nat × Nat) (σ : Sg) (pc : Nat) (L : Lc) (st : List Value) : Prop :=
  ∀ (H : Heap) (locs : List Loc) (ls : Array Slot), va_P D.1 cls (wld D σ) H → va_S (Ab D) X.2.2.2.2.1.heap H locs → Lh ls X.2.2.2.2.2.2.2.2.2.maxLocals L →
    W X.1 X.2.1 X.2.2.1 X.2.2.2.1 X.2.2.2.2.1 X.2.2.2.2.2.1 X.2.2.2.2.2.2.1 X.2.2.2.2.2.2.2.1 X.2.2.2.2.2.2.2.2.1 X.2.2.2.2.2.2.2.2.2 H locs z.1 z.2 Q (F0 X.2.2.2.2.2.1 pc ls st)
def rmk (d : Nat) : Room := { frames := d, cells := 0, slots := 0, locals := 60 * d }
/-- what holds all along a walk -/
def Fx (X : Cx) (D : Dt) (own : String) (cc : ByteArray) (nL d : Nat) (ret : Option FieldType) : Prop :=
  X.1.tables.exec = Jvm.exec ∧ X.2.2.2.2.2.2.2.2.2.code = cc ∧ X.2.2.2.2.1.vm.findClass own = some X.2.2.2.2.2.1.cls ∧ D.2.2.2.WarmedH X.2.2.2.2.1.vm ∧ OkD D ∧ (d ≤ X.2.2.2.1.frames ∧ 60 * d ≤ X.2.2.2.1.locals) ∧ X.2.2.2.2.2.2.2.2.1.sig.returnType = ret ∧ X.2.2.2.2.2.2.2.2.1.locks = false ∧ X.2.2.2.2.2.2.2.2.2.maxLocals = nL ∧ D.2.2.2.heap.size ≤ X.2.2.2.2.1.heap.size ∧ ∀ q, q < D.2.2.2.heap.size → X.2.2.2.2.1.heap[q]? = D.2.2.2.heap[q]?
section GR
variable {X : Cx} {D : Dt} {Q : State → Prop} {z : Nat × Nat} {σ : Sg} {pc : Nat} {L : Lc} {st : List Value} {own : String} {cc : ByteArray} {nL d : Nat} {ret : Option FieldType}
theorem Fx.ex (C : Fx X D own cc nL d ret) : X.1.tables.exec = Jvm.exec := C.1
theorem Fx.bt (C : Fx X D own cc nL d ret) : X.2.2.2.2.2.2.2.2.2.code = cc := C.2.1
theorem Fx.ow (C : Fx X D own cc nL d ret) : X.2.2.2.2.1.vm.findClass own = some X.2.2.2.2.2.1.cls := C.2.2.1
theorem Fx.wa (C : Fx X D own cc nL d ret) : D.2.2.2.WarmedH X.2.2.2.2.1.vm := C.2.2.2.1
theorem Fx.ok (C : Fx X D own cc nL d ret) : OkD D := C.2.2.2.2.1
theorem Fx.ts (C : Fx X D own cc nL d ret) : ∀ w ∈ UNI, w.before X.2.2.2.2.2.2.1 X.2.2.2.2.1 = true := C.ok.ts C.wa _
theorem Fx.kk (C : Fx X D own cc nL d ret) : va_K D.1 cls (tys D) X.2.2.2.2.1 := va_K.moved C.wa.alike C.ok.2.2.1
theorem Fx.rm (C : Fx X D own cc nL d ret) : d ≤ X.2.2.2.1.frames ∧ 60 * d ≤ X.2.2.2.1.locals := C.2.2.2.2.2.1
theorem Fx.rt (C : Fx X D own cc nL d ret) : X.2.2.2.2.2.2.2.2.1.sig.returnType = ret := C.2.2.2.2.2.2.1
theorem Fx.lo (C : Fx X D own cc nL d ret) : X.2.2.2.2.2.2.2.2.1.locks = false := C.2.2.2.2.2.2.2.1
theorem Fx.ml (C : Fx X D own cc nL d ret) : X.2.2.2.2.2.2.2.2.2.maxLocals = nL := C.2.2.2.2.2.2.2.2.1
theorem Fx.sz (C : Fx X D own cc nL d ret) : D.2.2.2.heap.size ≤ X.2.2.2.2.1.heap.size := C.2.2.2.2.2.2.2.2.2.1
theorem Fx.lw (C : Fx X D own cc nL d ret) : ∀ q, q < D.2.2.2.heap.size → X.2.2.2.2.1.heap[q]? = D.2.2.2.heap[q]? := C.2.2.2.2.2.2.2.2.2.2
theorem G.lc {L' : Lc} (hs : sub L L') (kk : G X D Q z σ pc L' st) : G X D Q z σ pc L st := fun H locs ls hP hS hL => kk H locs ls hP hS (hL.sub hs)
theorem G.eq {pc' : Nat} {σ' : Sg} {st' : List Value} (h1 : σ = σ') (h2 : st = st') (h3 : pc = pc') (kk : G X D Q z σ' pc' L st') : G X D Q z σ pc L st := by subst h1; subst h2; subst h3; exact kk
theorem G.sg {σ' : Sg} (h1 : σ = σ') (kk : G X D Q z σ' pc L st) : G X D Q z σ pc L st := by subst h1; exact kk
theorem g_iconst (C : Fx X D own cc nL d ret) {n : Int} {v : Int32} (hd : decode cc pc = .ok (.iconst n, 1)) (hv : Int32.ofInt n = v)
    (kk : G X D Q z σ (pc + 1) L (.int v :: st)) : G X D Q z σ pc L (st) := fun H locs ls hP hS hL => lv_iconst C.ex C.bt hd hv (kk H locs ls hP hS hL)
theorem g_bipush (C : Fx X D own cc nL d ret) {n : Int} {v : Int32} (hd : decode cc pc = .ok (.bipush n, 2)) (hv : (Int8.ofInt n).toInt32 = v)
    (kk : G X D Q z σ (pc + 2) L (.int v :: st)) : G X D Q z σ pc L (st) := fun H locs ls hP hS hL => lv_bipush C.ex C.bt hd hv (kk H locs ls hP hS hL)
theorem g_sipush (C : Fx X D own cc nL d ret) {n : Int} {v : Int32} (hd : decode cc pc = .ok (.sipush n, 3)) (hv : (Int16.ofInt n).toInt32 = v)
    (kk : G X D Q z σ (pc + 3) L (.int v :: st)) : G X D Q z σ pc L (st) := fun H locs ls hP hS hL => lv_sipush C.ex C.bt hd hv (kk H locs ls hP hS hL)
theorem g_lconst (C : Fx X D own cc nL d ret) {n : Fin 2} {v : Int64} (hd : decode cc pc = .ok (.lconst n, 1)) (hv : Int64.ofNat (n : Nat) = v)
    (kk : G X D Q z σ (pc + 1) L (.long v :: st)) : G X D Q z σ pc L (st) := fun H locs ls hP hS hL => lv_lconst C.ex C.bt hd hv (kk H locs ls hP hS hL)
theorem g_ldc (C : Fx X D own cc nL d ret) {index : Nat} {v : Int32} (hc : Cond.constant own index v ∈ UNI) (hd : decode cc pc = .ok (.ldc index, 2))
    (kk : G X D Q z σ (pc + 2) L (.int v :: st)) : G X D Q z σ pc L (st) := fun H locs ls hP hS hL => lv_ldc C.ex C.bt C.ow (C.ts _ hc) hd (kk H locs ls hP hS hL)
theorem g_ldc2 (C : Fx X D own cc nL d ret) {index : Nat} {v : Int64} (hc : Cond.constantLong own index v ∈ UNI) (hd : decode cc pc = .ok (.ldc2_w index, 3))
    (kk : G X D Q z σ (pc + 3) L (.long v :: st)) : G X D Q z σ pc L (st) := fun H locs ls hP hS hL => lv_ldc2 C.ex C.bt C.ow (C.ts _ hc) hd (kk H locs ls hP hS hL)
theorem g_iload_n (C : Fx X D own cc nL d ret) {k : Fin 4} {i : Nat} {x : Int32} (hd : decode cc pc = .ok (.iload_n k, 1)) (hi : (k : Nat) = i) (hl : lk L i = some (.int x))
    (kk : G X D Q z σ (pc + 1) L (.int x :: st)) : G X D Q z σ pc L (st) := fun H locs ls hP hS hL => lv_iload_n C.ex C.bt hd hi (hL.2.2 _ _ hl) (kk H locs ls hP hS hL)
theorem g_iload (C : Fx X D own cc nL d ret) {i : Nat} {x : Int32} (hd : decode cc pc = .ok (.iload i, 2)) (hl : lk L i = some (.int x))
    (kk : G X D Q z σ (pc + 2) L (.int x :: st)) : G X D Q z σ pc L (st) := fun H locs ls hP hS hL => lv_iload C.ex C.bt hd (hL.2.2 _ _ hl) (kk H locs ls hP hS hL)
theorem g_lload_n (C : Fx X D own cc nL d ret) {k : Fin 4} {i : Nat} {x : Int64} (hd : decode cc pc = .ok (.lload_n k, 1)) (hi : (k : Nat) = i) (hl : lk L i = some (.long x))
    (kk : G X D Q z σ (pc + 1) L (.long x :: st)) : G X D Q z σ pc L (st) := fun H locs ls hP hS hL => lv_lload_n C.ex C.bt hd hi (hL.2.2 _ _ hl) (kk H locs ls hP hS hL)
theorem g_lload (C : Fx X D own cc nL d ret) {i : Nat} {x : Int64} (hd : decode cc pc = .ok (.lload i, 2)) (hl : lk L i = some (.long x))
    (kk : G X D Q z σ (pc + 2) L (.long x :: st)) : G X D Q z σ pc L (st) := fun H locs ls hP hS hL => lv_lload C.ex C.bt hd (hL.2.2 _ _ hl) (kk H locs ls hP hS hL)
theorem g_aload_n (C : Fx X D own cc nL d ret) {k : Fin 4} {i : Nat} {x : Nat} (hd : decode cc pc = .ok (.aload_n k, 1)) (hi : (k : Nat) = i) (hl : lk L i = some (.ref x))
    (kk : G X D Q z σ (pc + 1) L (.ref x :: st)) : G X D Q z σ pc L (st) := fun H locs ls hP hS hL => lv_aload_n C.ex C.bt hd hi (hL.2.2 _ _ hl) (kk H locs ls hP hS hL)
theorem g_aload (C : Fx X D own cc nL d ret) {i : Nat} {x : Nat} (hd : decode cc pc = .ok (.aload i, 2)) (hl : lk L i = some (.ref x))
    (kk : G X D Q z σ (pc + 2) L (.ref x :: st)) : G X D Q z σ pc L (st) := fun H locs ls hP hS hL => lv_aload C.ex C.bt hd (hL.2.2 _ _ hl) (kk H locs ls hP hS hL)
theorem g_istore_n (C : Fx X D own cc nL d ret) {k : Fin 4} {i : Nat} {x : Int32} (hd : decode cc pc = .ok (.istore_n k, 1)) (hi : (k : Nat) = i) (hn : i < nL) (hk : kl L i = true)
    (kk : G X D Q z σ (pc + 1) ((i, some (.int x)) :: L) (st)) : G X D Q z σ pc L (.int x :: st) := fun H locs ls hP hS hL => lv_istore_n C.ex C.bt hd hi hL.has (by rw [C.ml]; exact hn) rfl (fun ls2 h2 => kk H locs ls2 hP hS (hL.st1 hk h2))
theorem g_istore (C : Fx X D own cc nL d ret) {i : Nat} {x : Int32} (hd : decode cc pc = .ok (.istore i, 2)) (hn : i < nL) (hk : kl L i = true)
    (kk : G X D Q z σ (pc + 2) ((i, some (.int x)) :: L) (st)) : G X D Q z σ pc L (.int x :: st) := fun H locs ls hP hS hL => lv_istore C.ex C.bt hd hL.has (by rw [C.ml]; exact hn) rfl (fun ls2 h2 => kk H locs ls2 hP hS (hL.st1 hk h2))
theorem g_astore_n (C : Fx X D own cc nL d ret) {k : Fin 4} {i : Nat} {x : Nat} (hd : decode cc pc = .ok (.astore_n k, 1)) (hi : (k : Nat) = i) (hn : i < nL) (hk : kl L i = true)
    (kk : G X D Q z σ (pc + 1) ((i, some (.ref x)) :: L) (st)) : G X D Q z σ pc L (.ref x :: st) := fun H locs ls hP hS hL => lv_astore_n C.ex C.bt hd hi hL.has (by rw [C.ml]; exact hn) rfl (fun ls2 h2 => kk H locs ls2 hP hS (hL.st1 hk h2))
theorem g_astore (C : Fx X D own cc nL d ret) {i : Nat} {x : Nat} (hd : decode cc pc = .ok (.astore i, 2)) (hn : i < nL) (hk : kl L i = true)
    (kk : G X D Q z σ (pc + 2) ((i, some (.ref x)) :: L) (st)) : G X D Q z σ pc L (.ref x :: st) := fun H locs ls hP hS hL => lv_astore C.ex C.bt hd hL.has (by rw [C.ml]; exact hn) rfl (fun ls2 h2 => kk H locs ls2 hP hS (hL.st1 hk h2))
theorem g_lstore_n (C : Fx X D own cc nL d ret) {k : Fin 4} {i : Nat} {x : Int64} (hd : decode cc pc = .ok (.lstore_n k, 1)) (hi : (k : Nat) = i) (hn : i + 1 < nL) (hk : kl L i = true)
    (kk : G X D Q z σ (pc + 1) ((i, some (.long x)) :: (i + 1, none) :: L) (st)) : G X D Q z σ pc L (.long x :: st) := fun H locs ls hP hS hL => lv_lstore_n C.ex C.bt hd hi hL.has (by rw [C.ml]; exact hn) rfl (fun ls2 h2 => kk H locs ls2 hP hS (hL.st2 hk h2))
theorem g_lstore (C : Fx X D own cc nL d ret) {i : Nat} {x : Int64} (hd : decode cc pc = .ok (.lstore i, 2)) (hn : i + 1 < nL) (hk : kl L i = true)
    (kk : G X D Q z σ (pc + 2) ((i, some (.long x)) :: (i + 1, none) :: L) (st)) : G X D Q z σ pc L (.long x :: st) := fun H locs ls hP hS hL => lv_lstore C.ex C.bt hd hL.has (by rw [C.ml]; exact hn) rfl (fun ls2 h2 => kk H locs ls2 hP hS (hL.st2 hk h2))
theorem g_iinc (C : Fx X D own cc nL d ret) {i : Nat} {n : Int} {x v : Int32} (hd : decode cc pc = .ok (.iinc i n, 3)) (hl : lk L i = some (.int x)) (hv : x + Int32.ofInt n = v) (hk : kl L i = true)
    (kk : G X D Q z σ (pc + 3) ((i, some (.int v)) :: L) st) : G X D Q z σ pc L st := by
  intro H locs ls hP hS hL
  obtain ⟨k, hk2⟩ := List.getElem?_of_mem (toL_in (n := X.2.2.2.2.2.2.2.2.2.maxLocals) (hL.lt hl) hl)
  exact lv_iinc C.ex C.bt hd hL.has hk2 hv (hL.lt hl) rfl (fun ls2 h2 => kk H locs ls2 hP hS (hL.st1 hk h2))
theorem g_iadd (C : Fx X D own cc nL d ret) {x y : Int32} (hd : decode cc pc = .ok (.iadd, 1))
    (kk : G X D Q z σ (pc + 1) L (.int (x + y) :: st)) : G X D Q z σ pc L (.int y :: .int x :: st) := fun H locs ls hP hS hL => lv_iadd C.ex C.bt hd (kk H locs ls hP hS hL)
theorem g_isub (C : Fx X D own cc nL d ret) {x y : Int32} (hd : decode cc pc = .ok (.isub, 1))
    (kk : G X D Q z σ (pc + 1) L (.int (x - y) :: st)) : G X D Q z σ pc L (.int y :: .int x :: st) := fun H locs ls hP hS hL => lv_isub C.ex C.bt hd (kk H locs ls hP hS hL)
theorem g_imul (C : Fx X D own cc nL d ret) {x y : Int32} (hd : decode cc pc = .ok (.imul, 1))
    (kk : G X D Q z σ (pc + 1) L (.int (x * y) :: st)) : G X D Q z σ pc L (.int y :: .int x :: st) := fun H locs ls hP hS hL => lv_imul C.ex C.bt hd (kk H locs ls hP hS hL)
theorem g_iand (C : Fx X D own cc nL d ret) {x y : Int32} (hd : decode cc pc = .ok (.iand, 1))
    (kk : G X D Q z σ (pc + 1) L (.int (x &&& y) :: st)) : G X D Q z σ pc L (.int y :: .int x :: st) := fun H locs ls hP hS hL => lv_iand C.ex C.bt hd (kk H locs ls hP hS hL)
theorem g_ior (C : Fx X D own cc nL d ret) {x y : Int32} (hd : decode cc pc = .ok (.ior, 1))
    (kk : G X D Q z σ (pc + 1) L (.int (x ||| y) :: st)) : G X D Q z σ pc L (.int y :: .int x :: st) := fun H locs ls hP hS hL => lv_ior C.ex C.bt hd (kk H locs ls hP hS hL)
theorem g_ixor (C : Fx X D own cc nL d ret) {x y : Int32} (hd : decode cc pc = .ok (.ixor, 1))
    (kk : G X D Q z σ (pc + 1) L (.int (x ^^^ y) :: st)) : G X D Q z σ pc L (.int y :: .int x :: st) := fun H locs ls hP hS hL => lv_ixor C.ex C.bt hd (kk H locs ls hP hS hL)
theorem g_ishl (C : Fx X D own cc nL d ret) {x y : Int32} (hd : decode cc pc = .ok (.ishl, 1))
    (kk : G X D Q z σ (pc + 1) L (.int (x <<< (y &&& 31)) :: st)) : G X D Q z σ pc L (.int y :: .int x :: st) := fun H locs ls hP hS hL => lv_ishl C.ex C.bt hd (kk H locs ls hP hS hL)
theorem g_ishr (C : Fx X D own cc nL d ret) {x y : Int32} (hd : decode cc pc = .ok (.ishr, 1))
    (kk : G X D Q z σ (pc + 1) L (.int (x >>> (y &&& 31)) :: st)) : G X D Q z σ pc L (.int y :: .int x :: st) := fun H locs ls hP hS hL => lv_ishr C.ex C.bt hd (kk H locs ls hP hS hL)
theorem g_irem (C : Fx X D own cc nL d ret) {x y : Int32} (hd : decode cc pc = .ok (.irem, 1)) (hne : ¬ y = 0)
    (kk : G X D Q z σ (pc + 1) L (.int (x - x / y * y) :: st)) : G X D Q z σ pc L (.int y :: .int x :: st) := fun H locs ls hP hS hL => lv_irem C.ex C.bt hd hne (kk H locs ls hP hS hL)
theorem g_ladd (C : Fx X D own cc nL d ret) {x y : Int64} (hd : decode cc pc = .ok (.ladd, 1))
    (kk : G X D Q z σ (pc + 1) L (.long (x + y) :: st)) : G X D Q z σ pc L (.long y :: .long x :: st) := fun H locs ls hP hS hL => lv_ladd C.ex C.bt hd (kk H locs ls hP hS hL)
theorem g_lsub (C : Fx X D own cc nL d ret) {x y : Int64} (hd : decode cc pc = .ok (.lsub, 1))
    (kk : G X D Q z σ (pc + 1) L (.long (x - y) :: st)) : G X D Q z σ pc L (.long y :: .long x :: st) := fun H locs ls hP hS hL => lv_lsub C.ex C.bt hd (kk H locs ls hP hS hL)
theorem g_lmul (C : Fx X D own cc nL d ret) {x y : Int64} (hd : decode cc pc = .ok (.lmul, 1))
    (kk : G X D Q z σ (pc + 1) L (.long (x * y) :: st)) : G X D Q z σ pc L (.long y :: .long x :: st) := fun H locs ls hP hS hL => lv_lmul C.ex C.bt hd (kk H locs ls hP hS hL)
theorem g_land (C : Fx X D own cc nL d ret) {x y : Int64} (hd : decode cc pc = .ok (.land, 1))
    (kk : G X D Q z σ (pc + 1) L (.long (x &&& y) :: st)) : G X D Q z σ pc L (.long y :: .long x :: st) := fun H locs ls hP hS hL => lv_land C.ex C.bt hd (kk H locs ls hP hS hL)
theorem g_lor (C : Fx X D own cc nL d ret) {x y : Int64} (hd : decode cc pc = .ok (.lor, 1))
    (kk : G X D Q z σ (pc + 1) L (.long (x ||| y) :: st)) : G X D Q z σ pc L (.long y :: .long x :: st) := fun H locs ls hP hS hL => lv_lor C.ex C.bt hd (kk H locs ls hP hS hL)
theorem g_lxor (C : Fx X D own cc nL d ret) {x y : Int64} (hd : decode cc pc = .ok (.lxor, 1))
    (kk : G X D Q z σ (pc + 1) L (.long (x ^^^ y) :: st)) : G X D Q z σ pc L (.long y :: .long x :: st) := fun H locs ls hP hS hL => lv_lxor C.ex C.bt hd (kk H locs ls hP hS hL)
theorem g_lushr (C : Fx X D own cc nL d ret) {x : Int64} {y : Int32} (hd : decode cc pc = .ok (.lushr, 1))
    (kk : G X D Q z σ (pc + 1) L (.long (x.toUInt64 >>> (y.toInt64.toUInt64 &&& Int64.toUInt64 63)).toInt64 :: st)) : G X D Q z σ pc L (.int y :: .long x :: st) := fun H locs ls hP hS hL => lv_lushr C.ex C.bt hd rfl (kk H locs ls hP hS hL)
theorem g_lshl (C : Fx X D own cc nL d ret) {x : Int64} {y : Int32} (hd : decode cc pc = .ok (.lshl, 1))
    (kk : G X D Q z σ (pc + 1) L (.long (x <<< (y.toInt64 &&& 63)) :: st)) : G X D Q z σ pc L (.int y :: .long x :: st) := fun H locs ls hP hS hL => lv_lshl C.ex C.bt hd rfl (kk H locs ls hP hS hL)
theorem g_iushr (C : Fx X D own cc nL d ret) {x y : Int32} (hd : decode cc pc = .ok (.iushr, 1))
    (kk : G X D Q z σ (pc + 1) L (.int (x.toUInt32 >>> (y.toUInt32 &&& Int32.toUInt32 31)).toInt32 :: st)) : G X D Q z σ pc L (.int y :: .int x :: st) := fun H locs ls hP hS hL => lv_iushr C.ex C.bt hd rfl (kk H locs ls hP hS hL)
theorem g_i2l (C : Fx X D own cc nL d ret) {x : Int32} (hd : decode cc pc = .ok (.i2l, 1))
    (kk : G X D Q z σ (pc + 1) L (.long x.toInt64 :: st)) : G X D Q z σ pc L (.int x :: st) := fun H locs ls hP hS hL => lv_i2l C.ex C.bt hd rfl (kk H locs ls hP hS hL)
theorem g_l2i (C : Fx X D own cc nL d ret) {x : Int64} (hd : decode cc pc = .ok (.l2i, 1))
    (kk : G X D Q z σ (pc + 1) L (.int x.toInt32 :: st)) : G X D Q z σ pc L (.long x :: st) := fun H locs ls hP hS hL => lv_l2i C.ex C.bt hd rfl (kk H locs ls hP hS hL)
theorem g_lcmp (C : Fx X D own cc nL d ret) {x y : Int64} (hd : decode cc pc = .ok (.lcmp, 1))
    (kk : G X D Q z σ (pc + 1) L (.int (lg_cmp x y) :: st)) : G X D Q z σ pc L (.long y :: .long x :: st) := fun H locs ls hP hS hL => W.lcmp C.ex C.bt hd (kk H locs ls hP hS hL)
theorem g_dup (C : Fx X D own cc nL d ret) {va : Value} (hd : decode cc pc = .ok (.dup, 1)) (hc : va.category = 1)
    (kk : G X D Q z σ (pc + 1) L (va :: va :: st)) : G X D Q z σ pc L (va :: st) := fun H locs ls hP hS hL => lv_dup C.ex C.bt hd hc (kk H locs ls hP hS hL)
theorem g_pop (C : Fx X D own cc nL d ret) {va : Value} (hd : decode cc pc = .ok (.pop, 1)) (hc : va.category = 1)
    (kk : G X D Q z σ (pc + 1) L (st)) : G X D Q z σ pc L (va :: st) := fun H locs ls hP hS hL => lv_pop C.ex C.bt hd hc (kk H locs ls hP hS hL)
theorem g_dup_x1 (C : Fx X D own cc nL d ret) {va vb : Value} (hd : decode cc pc = .ok (.dup_x1, 1)) (hc : va.category = 1) (hc2 : vb.category = 1)
    (kk : G X D Q z σ (pc + 1) L (va :: vb :: va :: st)) : G X D Q z σ pc L (va :: vb :: st) := fun H locs ls hP hS hL => lv_dup_x1 C.ex C.bt hd hc hc2 (kk H locs ls hP hS hL)
theorem g_dup2 (C : Fx X D own cc nL d ret) {va vb : Value} (hd : decode cc pc = .ok (.dup2, 1)) (hc : va.category = 1) (hc2 : vb.category = 1)
    (kk : G X D Q z σ (pc + 1) L (va :: vb :: va :: vb :: st)) : G X D Q z σ pc L (va :: vb :: st) := fun H locs ls hP hS hL => lv_dup2_11 C.ex C.bt hd hc hc2 (kk H locs ls hP hS hL)
theorem g_icmp_eq (C : Fx X D own cc nL d ret) {x y : Int32} {off : Int} {tgt : Nat} (hd : decode cc pc = .ok (.if_icmp .eq off, 3)) (ht : (pc : Int) + off = (tgt : Int))
    (kt : x = y → G X D Q z σ tgt L st) (kf : ¬ x = y → G X D Q z σ (pc + 3) L st) : G X D Q z σ pc L (.int y :: .int x :: st) := fun H locs ls hP hS hL => lv_icmp_eq C.ex C.bt hd ht (fun h => kt h H locs ls hP hS hL) (fun h => kf h H locs ls hP hS hL)
theorem g_if_eq (C : Fx X D own cc nL d ret) {x : Int32} {off : Int} {tgt : Nat} (hd : decode cc pc = .ok (.ifCond .eq off, 3)) (ht : (pc : Int) + off = (tgt : Int))
    (kt : x = 0 → G X D Q z σ tgt L st) (kf : ¬ x = 0 → G X D Q z σ (pc + 3) L st) : G X D Q z σ pc L (.int x :: st) := fun H locs ls hP hS hL => lv_if_eq C.ex C.bt hd ht (fun h => kt h H locs ls hP hS hL) (fun h => kf h H locs ls hP hS hL)
theorem g_icmp_ne (C : Fx X D own cc nL d ret) {x y : Int32} {off : Int} {tgt : Nat} (hd : decode cc pc = .ok (.if_icmp .ne off, 3)) (ht : (pc : Int) + off = (tgt : Int))
    (kt : ¬ x = y → G X D Q z σ tgt L st) (kf : x = y → G X D Q z σ (pc + 3) L st) : G X D Q z σ pc L (.int y :: .int x :: st) := fun H locs ls hP hS hL => lv_icmp_ne C.ex C.bt hd ht (fun h => kt h H locs ls hP hS hL) (fun h => kf h H locs ls hP hS hL)
theorem g_if_ne (C : Fx X D own cc nL d ret) {x : Int32} {off : Int} {tgt : Nat} (hd : decode cc pc = .ok (.ifCond .ne off, 3)) (ht : (pc : Int) + off = (tgt : Int))
    (kt : ¬ x = 0 → G X D Q z σ tgt L st) (kf : x = 0 → G X D Q z σ (pc + 3) L st) : G X D Q z σ pc L (.int x :: st) := fun H locs ls hP hS hL => lv_if_ne C.ex C.bt hd ht (fun h => kt h H locs ls hP hS hL) (fun h => kf h H locs ls hP hS hL)
theorem g_icmp_lt (C : Fx X D own cc nL d ret) {x y : Int32} {off : Int} {tgt : Nat} (hd : decode cc pc = .ok (.if_icmp .lt off, 3)) (ht : (pc : Int) + off = (tgt : Int))
    (kt : x < y → G X D Q z σ tgt L st) (kf : ¬ x < y → G X D Q z σ (pc + 3) L st) : G X D Q z σ pc L (.int y :: .int x :: st) := fun H locs ls hP hS hL => lv_icmp_lt C.ex C.bt hd ht (fun h => kt h H locs ls hP hS hL) (fun h => kf h H locs ls hP hS hL)
theorem g_if_lt (C : Fx X D own cc nL d ret) {x : Int32} {off : Int} {tgt : Nat} (hd : decode cc pc = .ok (.ifCond .lt off, 3)) (ht : (pc : Int) + off = (tgt : Int))
    (kt : x < 0 → G X D Q z σ tgt L st) (kf : ¬ x < 0 → G X D Q z σ (pc + 3) L st) : G X D Q z σ pc L (.int x :: st) := fun H locs ls hP hS hL => lv_if_lt C.ex C.bt hd ht (fun h => kt h H locs ls hP hS hL) (fun h => kf h H locs ls hP hS hL)
theorem g_icmp_ge (C : Fx X D own cc nL d ret) {x y : Int32} {off : Int} {tgt : Nat} (hd : decode cc pc = .ok (.if_icmp .ge off, 3)) (ht : (pc : Int) + off = (tgt : Int))
    (kt : y ≤ x → G X D Q z σ tgt L st) (kf : ¬ y ≤ x → G X D Q z σ (pc + 3) L st) : G X D Q z σ pc L (.int y :: .int x :: st) := fun H locs ls hP hS hL => lv_icmp_ge C.ex C.bt hd ht (fun h => kt h H locs ls hP hS hL) (fun h => kf h H locs ls hP hS hL)
theorem g_if_ge (C : Fx X D own cc nL d ret) {x : Int32} {off : Int} {tgt : Nat} (hd : decode cc pc = .ok (.ifCond .ge off, 3)) (ht : (pc : Int) + off = (tgt : Int))
    (kt : 0 ≤ x → G X D Q z σ tgt L st) (kf : ¬ 0 ≤ x → G X D Q z σ (pc + 3) L st) : G X D Q z σ pc L (.int x :: st) := fun H locs ls hP hS hL => lv_if_ge C.ex C.bt hd ht (fun h => kt h H locs ls hP hS hL) (fun h => kf h H locs ls hP hS hL)
theorem g_icmp_gt (C : Fx X D own cc nL d ret) {x y : Int32} {off : Int} {tgt : Nat} (hd : decode cc pc = .ok (.if_icmp .gt off, 3)) (ht : (pc : Int) + off = (tgt : Int))
    (kt : y < x → G X D Q z σ tgt L st) (kf : ¬ y < x → G X D Q z σ (pc + 3) L st) : G X D Q z σ pc L (.int y :: .int x :: st) := fun H locs ls hP hS hL => lv_icmp_gt C.ex C.bt hd ht (fun h => kt h H locs ls hP hS hL) (fun h => kf h H locs ls hP hS hL)
theorem g_if_gt (C : Fx X D own cc nL d ret) {x : Int32} {off : Int} {tgt : Nat} (hd : decode cc pc = .ok (.ifCond .gt off, 3)) (ht : (pc : Int) + off = (tgt : Int))
    (kt : 0 < x → G X D Q z σ tgt L st) (kf : ¬ 0 < x → G X D Q z σ (pc + 3) L st) : G X D Q z σ pc L (.int x :: st) := fun H locs ls hP hS hL => lv_if_gt C.ex C.bt hd ht (fun h => kt h H locs ls hP hS hL) (fun h => kf h H locs ls hP hS hL)
theorem g_icmp_le (C : Fx X D own cc nL d ret) {x y : Int32} {off : Int} {tgt : Nat} (hd : decode cc pc = .ok (.if_icmp .le off, 3)) (ht : (pc : Int) + off = (tgt : Int))
    (kt : x ≤ y → G X D Q z σ tgt L st) (kf : ¬ x ≤ y → G X D Q z σ (pc + 3) L st) : G X D Q z σ pc L (.int y :: .int x :: st) := fun H locs ls hP hS hL => lv_icmp_le C.ex C.bt hd ht (fun h => kt h H locs ls hP hS hL) (fun h => kf h H locs ls hP hS hL)
theorem g_if_le (C : Fx X D own cc nL d ret) {x : Int32} {off : Int} {tgt : Nat} (hd : decode cc pc = .ok (.ifCond .le off, 3)) (ht : (pc : Int) + off = (tgt : Int))
    (kt : x ≤ 0 → G X D Q z σ tgt L st) (kf : ¬ x ≤ 0 → G X D Q z σ (pc + 3) L st) : G X D Q z σ pc L (.int x :: st) := fun H locs ls hP hS hL => lv_if_le C.ex C.bt hd ht (fun h => kt h H locs ls hP hS hL) (fun h => kf h H locs ls hP hS hL)
theorem g_goto (C : Fx X D own cc nL d ret) {off : Int} {tgt : Nat} (hd : decode cc pc = .ok (.goto off, 3)) (ht : (pc : Int) + off = (tgt : Int)) (kk : G X D Q z σ tgt L st) : G X D Q z σ pc L st := fun H locs ls hP hS hL => lv_goto C.ex C.bt hd ht (kk H locs ls hP hS hL)
theorem Fx.done (C : Fx X D own cc nL d ret) {post : Option Value → Sg → Prop} {H : Heap} {locs : List Loc} (hP : va_P D.1 cls (wld D σ) H) (hS : va_S (Ab D) X.2.2.2.2.1.heap H locs) {r : Option Value} (hp : post r σ) : ∀ t : State, t.heap = H → X.2.2.2.2.1.WarmedH t.vm → Qk D post X.2.2.2.2.2.2.1 X.2.2.2.2.1 (.returned r) t := by
  intro t ht hW
  refine ⟨⟨r, σ, rfl, hp, by rw [ht]; exact hP, State.WarmedH.trans C.wa hW, by rw [ht]; exact Nat.le_trans C.sz hS.1, fun q hq => ?_⟩, hS.F ht⟩
  rw [ht, hS.2.1 q (Nat.lt_of_lt_of_le hq C.sz) (Ab.lo C.ok hq)]
  exact C.lw q hq
theorem g_iret {post : Option Value → Sg → Prop} (C : Fx X D own cc nL d (some .int)) {v : Int32} (hd : decode cc pc = .ok (.ireturn, 1)) (hp : post (some (.int v)) σ) : G X D (Qp X D post) (0, 0) σ pc L [.int v] := fun H locs ls hP hS hL => W.iret C.ex C.bt C.rt (C.done hP hS hp) hS.2.2 hd C.lo
theorem bz_n {v : Int32} (h : v = 0 ∨ v = 1) : narrow .boolean (.int v) = .int v := by rcases h with rfl | rfl <;> rfl
theorem g_zret {post : Option Value → Sg → Prop} (C : Fx X D own cc nL d (some .boolean)) {v : Int32} (hd : decode cc pc = .ok (.ireturn, 1)) (hz : v = 0 ∨ v = 1) (hp : post (some (.int v)) σ) : G X D (Qp X D post) (0, 0) σ pc L [.int v] := fun H locs ls hP hS hL => W.zret C.ex C.bt C.rt (bz_n hz) (C.done hP hS hp) hS.2.2 hd C.lo
theorem g_lret {post : Option Value → Sg → Prop} (C : Fx X D own cc nL d (some .long)) {v : Int64} (hd : decode cc pc = .ok (.lreturn, 1)) (hp : post (some (.long v)) σ) : G X D (Qp X D post) (0, 0) σ pc L [.long v] := fun H locs ls hP hS hL => W.lret C.ex C.bt C.rt (C.done hP hS hp) hS.2.2 hd C.lo
theorem g_vret {post : Option Value → Sg → Prop} (C : Fx X D own cc nL d none) (hd : decode cc pc = .ok (.return_, 1)) (hp : post none σ) : G X D (Qp X D post) (0, 0) σ pc L [] := fun H locs ls hP hS hL => W.vret C.ex C.bt C.rt (C.done hP hS hp) hS.2.2 hd C.lo
theorem g_aret {post : Option Value → Sg → Prop} {n : String} (C : Fx X D own cc nL d (some (.object n))) {v : Nat} (hd : decode cc pc = .ok (.areturn, 1)) (hp : post (some (.ref v)) σ) : G X D (Qp X D post) (0, 0) σ pc L [.ref v] := fun H locs ls hP hS hL => W.aret C.ex C.bt C.rt (Or.inl ⟨_, rfl⟩) (Or.inr ⟨_, rfl⟩) (C.done hP hS hp) hS.2.2 hd C.lo
/-- a field's link, by the method's own words -/
def FL (own : String) (index : Nat) (C0 name desc : String) : Prop := Cond.fieldLink own index C0 name desc ∈ UNI ∨ ∃ host, Cond.fieldLinkNest own index C0 name desc host ∈ UNI
theorem g_get (C : Fx X D own cc nL d ret) {t ci index k : Nat} {C0 : String} {T : u_T} {N : Nat} {fs : List Value} {v : Value} (ht : t < 95) (hct : ct D σ t = .inr (ci, fs)) (hc : cls[ci]? = some (C0, T, N)) (hin : ∀ w ∈ u_ws C0 T N, w ∈ UNI) (hk : k < N) (hT : (T k).1 = C0) (hl : FL own index C0 (T k).2.1 (T k).2.2.1) (hv : fs[k]? = some v) (hd : decode cc pc = .ok (.getfield index, 3))
    (kk : G X D Q z σ (pc + 3) L (v :: st)) : G X D Q z σ pc L (.ref (ad D t) :: st) := by
  intro H locs ls hP hS hL
  rcases hl with hl | ⟨host, hl⟩
  · exact va_get C.ex C.bt C.ts hin C.ow C.kk hP t (by rw [wld_at ht, hct]) hc k hk (C.ts _ hl) (fun x hx => by rw [hT] at hx; exact hx) hv hd (kk H locs ls hP hS hL)
  · exact va_getN C.ex C.bt C.ts hin C.ow C.kk hP t (by rw [wld_at ht, hct]) hc k hk (C.ts _ hl) (fun x hx => by rw [hT] at hx; exact hx) hv hd (kk H locs ls hP hS hL)
theorem g_put (C : Fx X D own cc nL d ret) {t ci index k : Nat} {C0 : String} {T : u_T} {N : Nat} {fs : List Value} {v : Value} {σ2 : Sg} {ty : FieldType} (ty0 : Nat → FieldType) (hty : ∀ k, k < N → parseFieldDescriptor (T k).2.2.1 = some (ty0 k)) (hnm : ∀ a, a < N → ∀ b, b < N → a ≠ b → (T a).2.1 ≠ (T b).2.1) (ht : t < 95) (hct : ct D σ t = .inr (ci, fs)) (hc : cls[ci]? = some (C0, T, N)) (hin : ∀ w ∈ u_ws C0 T N, w ∈ UNI) (hk : k < N) (hT : (T k).1 = C0) (hfin : (T k).2.2.2 = false) (hdt : parseFieldDescriptor (T k).2.2.1 = some ty) (hn : narrow ty v = v) (hfit : fits ty v = true) (hlen : k < fs.length)
    (hct2 : ct D σ2 t = .inr (ci, fs.set k v)) (ho : ∀ u, u < 95 → u ≠ t → ct D σ2 u = ct D σ u) (hl : FL own index C0 (T k).2.1 (T k).2.2.1) (hd : decode cc pc = .ok (.putfield index, 3))
    (kk : G X D Q z σ2 (pc + 3) L st) : G X D Q z σ pc L (v :: .ref (ad D t) :: st) := by
  intro H locs ls hP hS hL
  rcases hl with hl | ⟨host, hl⟩
  · exact va_put C.ex C.bt C.ts hin ty0 hty hnm C.ow C.kk hP (wld_D C.ok σ) hS t (by rw [wld_at ht, hct]) hc k hk (C.ts _ hl) (fun x hx => by rw [hT] at hx; exact hx) hfin hdt hn hfit hlen hd (fun H1 locs1 hP1 _ hS1 => kk H1 locs1 ls (by rw [wld_set ht hct2 ho] at hP1; exact hP1) hS1 hL)
  · exact va_putN C.ex C.bt C.ts hin ty0 hty hnm C.ow C.kk hP (wld_D C.ok σ) hS t (by rw [wld_at ht, hct]) hc k hk (C.ts _ hl) (fun x hx => by rw [hT] at hx; exact hx) hfin hdt hn hfit hlen hd (fun H1 locs1 hP1 _ hS1 => kk H1 locs1 ls (by rw [wld_set ht hct2 ho] at hP1; exact hP1) hS1 hL)
theorem g_ial (C : Fx X D own cc nL d ret) {t n : Nat} {f : Nat → Int32} {i : Int32} (ht : t < 95) (hct : ct D σ t = .inl (D.2.2.1 0, n, .inl f)) (hi : vp_in i n) (hd : decode cc pc = .ok (.iaload, 1))
    (kk : G X D Q z σ (pc + 1) L (.int (f i.toNatClampNeg) :: st)) : G X D Q z σ pc L (.int i :: .ref (ad D t) :: st) := fun H locs ls hP hS hL => va_iald C.ex C.bt C.kk hP t 0 (by rw [wld_at ht, hct]) rfl hi hd (kk H locs ls hP hS hL)
theorem g_zal (C : Fx X D own cc nL d ret) {t n : Nat} {f : Nat → Int32} {i : Int32} (ht : t < 95) (hct : ct D σ t = .inl (D.2.2.1 2, n, .inl f)) (hi : vp_in i n) (hd : decode cc pc = .ok (.baload, 1))
    (kk : G X D Q z σ (pc + 1) L (.int (f i.toNatClampNeg) :: st)) : G X D Q z σ pc L (.int i :: .ref (ad D t) :: st) := fun H locs ls hP hS hL => va_zald C.ex C.bt C.kk hP t 2 (by rw [wld_at ht, hct]) rfl hi hd (kk H locs ls hP hS hL)
theorem g_lal (C : Fx X D own cc nL d ret) {t n : Nat} {f : Nat → Int64} {i : Int32} (ht : t < 95) (hct : ct D σ t = .inl (D.2.2.1 1, n, .inr (.inl f))) (hi : vp_in i n) (hd : decode cc pc = .ok (.laload, 1))
    (kk : G X D Q z σ (pc + 1) L (.long (f i.toNatClampNeg) :: st)) : G X D Q z σ pc L (.int i :: .ref (ad D t) :: st) := fun H locs ls hP hS hL => va_lald C.ex C.bt C.kk hP t 1 (by rw [wld_at ht, hct]) rfl hi hd (kk H locs ls hP hS hL)
theorem g_aal (C : Fx X D own cc nL d ret) {t n t0 : Nat} {C0 : String} {f : Nat → Option Nat} {i : Int32} {a : Nat} (ht : t < 95) (ht0 : (tys D)[t0]? = some (D.2.2.1 t0, .object C0)) (hct : ct D σ t = .inl (D.2.2.1 t0, n, .inr (.inr (.inr (.inr f))))) (hi : vp_in i n) (hf : f i.toNatClampNeg = some a) (hd : decode cc pc = .ok (.aaload, 1))
    (kk : G X D Q z σ (pc + 1) L (.ref a :: st)) : G X D Q z σ pc L (.int i :: .ref (ad D t) :: st) := fun H locs ls hP hS hL => va_aldq C.ex C.bt C.kk hP t t0 (by rw [wld_at ht, hct]) ht0 hi hd (by rw [hf]; exact kk H locs ls hP hS hL)
theorem g_ias (C : Fx X D own cc nL d ret) {t n : Nat} {f : Nat → Int32} {i x : Int32} {σ2 : Sg} (ht : t < 95) (hct : ct D σ t = .inl (D.2.2.1 0, n, .inl f)) (hct2 : ct D σ2 t = .inl (D.2.2.1 0, n, .inl (upd f i.toNatClampNeg x))) (ho : ∀ u, u < 95 → u ≠ t → ct D σ2 u = ct D σ u) (hi : vp_in i n) (hd : decode cc pc = .ok (.iastore, 1))
    (kk : G X D Q z σ2 (pc + 1) L st) : G X D Q z σ pc L (.int x :: .int i :: .ref (ad D t) :: st) := fun H locs ls hP hS hL => va_iast C.ex C.bt C.kk hP (wld_D C.ok σ) hS t 0 (by rw [wld_at ht, hct]) rfl hi hd (fun H1 locs1 hP1 _ hS1 => kk H1 locs1 ls (by rw [wld_set ht hct2 ho] at hP1; exact hP1) hS1 hL)
theorem g_zas (C : Fx X D own cc nL d ret) {t n : Nat} {f : Nat → Int32} {i x : Int32} {σ2 : Sg} (ht : t < 95) (hct : ct D σ t = .inl (D.2.2.1 2, n, .inl f)) (hct2 : ct D σ2 t = .inl (D.2.2.1 2, n, .inl (upd f i.toNatClampNeg (vp_nar .boolean x)))) (ho : ∀ u, u < 95 → u ≠ t → ct D σ2 u = ct D σ u) (hi : vp_in i n) (hd : decode cc pc = .ok (.bastore, 1))
    (kk : G X D Q z σ2 (pc + 1) L st) : G X D Q z σ pc L (.int x :: .int i :: .ref (ad D t) :: st) := fun H locs ls hP hS hL => va_zast C.ex C.bt C.kk hP (wld_D C.ok σ) hS t 2 (by rw [wld_at ht, hct]) rfl hi hd (fun H1 locs1 hP1 _ hS1 => kk H1 locs1 ls (by rw [wld_set ht hct2 ho] at hP1; exact hP1) hS1 hL)
theorem g_las (C : Fx X D own cc nL d ret) {t n : Nat} {f : Nat → Int64} {i : Int32} {x : Int64} {σ2 : Sg} (ht : t < 95) (hct : ct D σ t = .inl (D.2.2.1 1, n, .inr (.inl f))) (hct2 : ct D σ2 t = .inl (D.2.2.1 1, n, .inr (.inl (vp_updL f i.toNatClampNeg x)))) (ho : ∀ u, u < 95 → u ≠ t → ct D σ2 u = ct D σ u) (hi : vp_in i n) (hd : decode cc pc = .ok (.lastore, 1))
    (kk : G X D Q z σ2 (pc + 1) L st) : G X D Q z σ pc L (.long x :: .int i :: .ref (ad D t) :: st) := fun H locs ls hP hS hL => va_last C.ex C.bt C.kk hP (wld_D C.ok σ) hS t 1 (by rw [wld_at ht, hct]) rfl hi hd (fun H1 locs1 hP1 _ hS1 => kk H1 locs1 ls (by rw [wld_set ht hct2 ho] at hP1; exact hP1) hS1 hL)
theorem g_alen (C : Fx X D own cc nL d ret) {t t0 : Nat} {x : vp_A} {ty : FieldType} {cA : ClassId} {v : Int32} (ht : t < 95) (hct : ct D σ t = .inl (cA, x)) (ht0 : (tys D)[t0]? = some (cA, ty)) (hv : Int32.ofNat x.1 = v) (hd : decode cc pc = .ok (.arraylength, 1))
    (kk : G X D Q z σ (pc + 1) L (.int v :: st)) : G X D Q z σ pc L (.ref (ad D t) :: st) := fun H locs ls hP hS hL => va_alen C.ex C.bt C.kk hP t t0 (by rw [wld_at ht, hct]) ht0 hv hd (kk H locs ls hP hS hL)
end GR
/-! CONTRACTS: y, with these arguments (last first), from this state: returns r, in that state -/
def Ct (l : Launch) (D : Dt) (y : MethodName) (bytes : ByteArray) (maxL : Nat) (rty : Option FieldType) (d : Nat) (RA : List Value) (σ : Sg) (r : Option Value) (σ2 : Sg) : Prop :=
  Met l y [.code y bytes maxL rty] (rmk d) (fun v U => v = RA.reverse.toArray ∧ Wd D σ U) (Qk D (fun r2 u => r2 = r ∧ u = σ2)) 0 0 (Ab D)
theorem Wd_blind {D : Dt} {σ : Sg} {RA : List Value} : FrameBlind (fun v U => v = RA.reverse.toArray ∧ Wd D σ U) := fun _ _ _ _ h => h
theorem Ct.of {l : Launch} {D : Dt} {y : MethodName} {bytes : ByteArray} {maxL : Nat} {rty : Option FieldType} {d : Nat} {RA : List Value} {σ : Sg} {r : Option Value} {σ2 : Sg} (hD : OkD D) (hy : plainName y.cls = true) (hn : (lg_sl RA.reverse).length ≤ maxL) (L : Lc) (hL : la 0 RA.reverse = L)
    (body : ∀ X : Cx, X.2.1 = l → Fx X D y.cls bytes maxL d rty → G X D (Qp X D (fun r2 u => r2 = r ∧ u = σ2)) (0, 0) σ 0 L []) : Ct l D y bytes maxL rty d RA σ r σ2 := by
  refine Met.ofW (cc := bytes) (maxL := maxL) (ret := rty) hy rfl ?_
  intro p e s m args below meth c s₁ B hml hv
  obtain ⟨rfl, hW⟩ := hv
  have hl := lv_entry RA.reverse (n := maxL) hn
  rw [lg_entry_eq]
  refine body (p, l, e, (headSpec [.code y bytes maxL rty] (rmk d)).room, s, m, RA.reverse.toArray, below, meth, c) rfl ⟨B.exec, B.bytes, findClass_of_methodNamed B.named, hW.2.1, hD, ⟨Nat.le_refl _, Nat.le_refl _⟩, B.returns, B.notSynchronized, hml, hW.2.2.1, hW.2.2.2⟩ s.heap [] _ hW.1 va_S.rf ⟨?_, hl.2.1, fun i v hv => ?_⟩
  · show _ = c.maxLocals
    rw [hml]
    exact hl.1
  · rw [← hL] at hv
    have key : ∀ (q : List (Nat × Value)) (i : Nat) (v : Value), lk (q.map (fun q => (q.1, some q.2))) i = some v → (i, v) ∈ q := by
      intro q
      induction q with
      | nil => intro i v h; cases h
      | cons a q ih =>
        intro i v h
        rw [List.map_cons, lk_cons] at h
        split at h
        · rename_i e
          cases h
          subst e
          exact List.mem_cons_self
        · exact List.mem_cons_of_mem _ (ih i v h)
    exact hl.2.2 (i, v) (key _ i v hv)
/-- a called method's words -/
def CL (own : String) (index : Nat) (y : MethodName) : Prop := Cond.methodLink own index y ∈ UNI ∨ ∃ host, Cond.methodLinkNest own index y host ∈ UNI
def My (y : MethodName) (bytes : ByteArray) (maxL : Nat) (rty : Option FieldType) (n : Nat) : Prop := Cond.code y bytes maxL rty ∈ UNI ∧ Cond.initialized y.cls ∈ UNI ∧ (y.cls ≠ "java/lang/invoke/MethodHandle" ∧ y.cls ≠ "java/lang/invoke/VarHandle") ∧ (parseMethodDescriptor y.desc).map (fun d => d.parameters.length) = some n ∧ maxL ≤ 41
def MV (y : MethodName) : Prop := Cond.instanceMethod y ∈ UNI ∧ Cond.selects y.cls y y ∈ UNI
def MS (y : MethodName) : Prop := Cond.static y ∈ UNI
/-- the cell at b is an object of that name -/
def IsC (D : Dt) (b : Nat) (C0 : String) : Prop := ∃ t ci T N, t < 95 ∧ b = ad D t ∧ cls[ci]? = some (C0, T, N) ∧ ∀ σ, ∃ fs, ct D σ t = .inr (ci, fs)
section GC
variable {X : Cx} {D : Dt} {Q : State → Prop} {z : Nat × Nat} {σ σ2 : Sg} {pc : Nat} {L : Lc} {st : List Value} {own : String} {cc : ByteArray} {nL d d2 index n maxL : Nat} {ret rty : Option FieldType} {y : MethodName} {bytes : ByteArray} {As rest : List Value} {b : Nat} {r : Option Value}
theorem cx_room (C : Fx X D own cc nL d ret) (h : d2 + 1 ≤ d) (hm : maxL ≤ 41) : (rmk d2).frames + 1 ≤ X.2.2.2.1.frames ∧ 8 + (maxL + 11) + (rmk d2).locals ≤ X.2.2.2.1.locals := by
  have h1 := C.rm.1
  have h2 := C.rm.2
  simp only [rmk]
  omega
theorem cx_back (C : Fx X D own cc nL d ret) {H : Heap} {locs : List Loc} (hS : va_S (Ab D) X.2.2.2.2.1.heap H locs) {g : JFrame} {Qa : Array Value}
    (hr : va_Run X.1 X.2.1 X.2.2.1 X.2.2.2.1 X.2.2.2.2.1 X.2.2.2.2.2.1 X.2.2.2.2.2.2.1 X.2.2.2.2.2.2.2.1 X.2.2.2.2.2.2.2.2.1 X.2.2.2.2.2.2.2.2.2 H locs z.1 z.2 0 0 g rest (Qk D (fun r2 u => r2 = r ∧ u = σ2) Qa) (Ab D))
    (kk : ∀ (H1 : Heap) (locs1 : List Loc), va_P D.1 cls (wld D σ2) H1 → va_S (Ab D) X.2.2.2.2.1.heap H1 locs1 → W X.1 X.2.1 X.2.2.1 X.2.2.2.1 X.2.2.2.2.1 X.2.2.2.2.2.1 X.2.2.2.2.2.2.1 X.2.2.2.2.2.2.2.1 X.2.2.2.2.2.2.2.2.1 X.2.2.2.2.2.2.2.2.2 H1 locs1 z.1 z.2 Q { g with pc := g.pc + 3, stack := r.toList ++ rest }) :
    W X.1 X.2.1 X.2.2.1 X.2.2.2.1 X.2.2.2.2.1 X.2.2.2.2.2.1 X.2.2.2.2.2.2.1 X.2.2.2.2.2.2.2.1 X.2.2.2.2.2.2.2.2.1 X.2.2.2.2.2.2.2.2.2 H locs z.1 z.2 Q g := by
  intro T hT X0
  obtain ⟨v, st₀, t, T2, L2, h0, X2, hL, e1, e2, ⟨⟨r2, u, hv, ⟨rfl, rfl⟩, hb⟩, hz, hk⟩, stp⟩ := hr T hT X0
  cases hv
  rw [h0] at hz hk
  obtain ⟨t2, a1, b1⟩ := kk T2.heap (locs ++ L2) (by rw [e1]; exact hb.1) ⟨Nat.le_trans hS.1 (by rw [e1]; exact hz), fun q h1 h2 => by rw [e1, hk q (Nat.lt_of_lt_of_le h1 hS.1) h2]; exact hS.2.1 q h1 h2, fun q hq => by
      rcases List.mem_append.mp hq with h | h
      · exact hS.2.2 q h
      · exact hL q h⟩ T2 rfl X2
  exact ⟨t2, stp t2 a1, b1⟩
theorem cx_pre (C : Fx X D own cc nL d ret) {H : Heap} {locs : List Loc} (hP : va_P D.1 cls (wld D σ) H) (hS : va_S (Ab D) X.2.2.2.2.1.heap H locs) : ∀ U : State, U.heap = H → X.2.2.2.2.1.WarmedH U.vm → Wd D σ U := by
  intro U hU hW
  refine ⟨by rw [hU]; exact hP, State.WarmedH.trans C.wa hW, by rw [hU]; exact Nat.le_trans C.sz hS.1, fun q hq => ?_⟩
  rw [hU, hS.2.1 q (Nat.lt_of_lt_of_le hq C.sz) (Ab.lo C.ok hq)]
  exact C.lw q hq
theorem cx_lk {U : State} {a : Array Value} {own : String} {index : Nat} {y : MethodName} (hts : ∀ w ∈ UNI, w.before a U = true) (h : CL own index y) : (Cond.methodLink own index y).before a U = true ∨ ∃ host, (Cond.methodLinkNest own index y host).before a U = true := by
  rcases h with h | ⟨host, h⟩
  · exact Or.inl (hts _ h)
  · exact Or.inr ⟨host, hts _ h⟩
theorem rl1 {As rest : List Value} {v : Value} {g : List Value} (h : g = As ++ v :: rest) : g = (As.reverse).reverse ++ v :: rest := by rw [List.reverse_reverse]; exact h
theorem rl0 {As rest : List Value} {g : List Value} (h : g = As ++ rest) : g = (As.reverse).reverse ++ rest := by rw [List.reverse_reverse]; exact h
theorem rl2 {As : List Value} {v : Value} : (As ++ [v]).reverse = v :: As.reverse := by simp
theorem g_callV (C : Fx X D own cc nL d ret) (hm : My y bytes maxL rty n) (hv : MV y) (hl : CL own index y) (hb : IsC D b y.cls) (hd : decode cc pc = .ok (.invokevirtual index, 3)) (hd2 : d2 + 1 ≤ d) (hn : As.length = n) (hr : (rest.map fun v => v.category).sum ≤ 8) (hz : z.1 ≤ X.2.2.2.1.cells ∧ z.2 ≤ X.2.2.2.1.slots)
    (hc : Ct X.2.1 D y bytes maxL rty d2 (As ++ [.ref b]) σ r σ2) (kk : G X D Q z σ2 (pc + 3) L (r.toList ++ rest)) : G X D Q z σ pc L (As ++ .ref b :: rest) := by
  intro H locs ls hP hS hL
  obtain ⟨hcode, hini, hy, hpar, hml⟩ := hm
  obtain ⟨t, ci, T, N, ht, rfl, hci, hct⟩ := hb
  obtain ⟨fs, hfs⟩ := hct σ
  have hrec := va_recv C.kk hP hci (q0 := t) (fs := fs) (by rw [wld_at ht, hfs])
  have hall : ∀ w ∈ ([Cond.code y bytes maxL rty] : List Cond), ∀ (a' : Array Value) (U : State), X.2.2.2.2.1.WarmedH U.vm → w.before a' U = true := fun w hw a' U hW => by
    rw [List.mem_singleton.mp hw]
    exact C.ok.ts (State.WarmedH.trans C.wa hW) a' _ hcode
  have hpre := cx_pre C hP hS
  have hlen : ∀ sig, parseMethodDescriptor y.desc = some sig → n = sig.parameters.length := fun sig h => by rw [h] at hpar; exact (Option.some.inj hpar).symm
  have hK : Back X.2.1 X.2.2.2.1 X.1 X.2.2.1 X.2.2.2.2.2.2.2.1 X.2.2.2.2.1 X.2.2.2.2.2.2.1 y 3 8 (PreOf X.2.2.2.1 0 0 (fun v U => v = (As ++ [Value.ref (ad D t)]).reverse.toArray ∧ Wd D σ U)) (PostOf (Qk D (fun r2 u => r2 = r ∧ u = σ2)) 0 0 (Ab D)) :=
    back_of (bytes := bytes) (maxL := maxL) (ret := rty) hc Wd_blind rfl rfl (cx_room C hd2 hml).1 (cx_room C hd2 hml).2 hall List.mem_cons_self (fun a' U hW => C.ok.ts (State.WarmedH.trans C.wa hW) a' _ hini)
  refine cx_back C hS (g := F0 X.2.2.2.2.2.1 pc ls (As ++ .ref (ad D t) :: rest)) (Qa := (Value.ref (ad D t) :: As.reverse).toArray) (r := r) (σ2 := σ2) (rest := rest) ?_ (fun H1 locs1 hP1 hS1 => kk H1 locs1 ls hP1 hS1 hL)
  intro T0 hT X0
  have hW : 2 * (F0 X.2.2.2.2.2.1 pc ls (As ++ .ref (ad D t) :: rest)).monitorRoom + (rest.map fun v => v.category).sum ≤ 8 := lv_room hr
  obtain ⟨cellB, hcB, hoB, hclB⟩ := hrec
  have hsz : ls.size = X.2.2.2.2.2.2.2.2.2.maxLocals := hL.1
  rcases cx_lk C.ts hl with hl | ⟨host, hl⟩
  · obtain ⟨v, vm₁, ⟨U2, l2, c2, s2⟩, hW₁, X2, ⟨g2, mk, t2, L2, e1, e2, hq, h1, hL2, h2, h3⟩, stp⟩ := callV X0 C.ex (C := y.cls) (bytes := bytes) (maxL := maxL) (ret := rty) C.ow hl (C.ts _ hv.1) (C.ts _ hv.2) (C.ts _ hcode) hy hK (by rw [hT]; exact hcB) hoB hclB (g := F0 X.2.2.2.2.2.1 pc ls (As ++ .ref (ad D t) :: rest)) rfl hsz (argsL := As.reverse) (rest := rest) (fun sig h => by rw [List.length_reverse, hn]; exact hlen sig h) (rl1 rfl) hW (by rw [C.bt]; exact hd)
      (fun vm₁ hW₁ => ⟨hz.1, hz.2, by rw [rl2], hpre (T0.setVm vm₁) hT hW₁⟩)
    dsimp only [Pt.U, Pt.locs, Pt.cells, Pt.slots] at X2 e1 e2 h1 h2 h3 stp
    subst h1; subst h2; subst h3
    exact ⟨v, (T0.setVm vm₁).calling g2 mk (Value.ref (ad D t) :: As.reverse).toArray, t2, U2, L2, hT, X2, hL2, e1, e2, hq, stp⟩
  · obtain ⟨v, vm₁, ⟨U2, l2, c2, s2⟩, hW₁, X2, ⟨g2, mk, t2, L2, e1, e2, hq, h1, hL2, h2, h3⟩, stp⟩ := va_callVN X0 C.ex (C := y.cls) (bytes := bytes) (maxL := maxL) (ret := rty) C.ow hl (C.ts _ hv.1) (C.ts _ hv.2) (C.ts _ hcode) hy hK (by rw [hT]; exact hcB) hoB hclB (g := F0 X.2.2.2.2.2.1 pc ls (As ++ .ref (ad D t) :: rest)) rfl hsz (argsL := As.reverse) (rest := rest) (fun sig h => by rw [List.length_reverse, hn]; exact hlen sig h) (rl1 rfl) hW (by rw [C.bt]; exact hd)
      (fun vm₁ hW₁ => ⟨hz.1, hz.2, by rw [rl2], hpre (T0.setVm vm₁) hT hW₁⟩)
    dsimp only [Pt.U, Pt.locs, Pt.cells, Pt.slots] at X2 e1 e2 h1 h2 h3 stp
    subst h1; subst h2; subst h3
    exact ⟨v, (T0.setVm vm₁).calling g2 mk (Value.ref (ad D t) :: As.reverse).toArray, t2, U2, L2, hT, X2, hL2, e1, e2, hq, stp⟩
theorem g_callS (C : Fx X D own cc nL d ret) (hm : My y bytes maxL rty n) (hv : MS y) (hl : CL own index y) (hd : decode cc pc = .ok (.invokestatic index, 3)) (hd2 : d2 + 1 ≤ d) (hn : As.length = n) (hr : (rest.map fun v => v.category).sum ≤ 8) (hz : z.1 ≤ X.2.2.2.1.cells ∧ z.2 ≤ X.2.2.2.1.slots)
    (hc : Ct X.2.1 D y bytes maxL rty d2 As σ r σ2) (kk : G X D Q z σ2 (pc + 3) L (r.toList ++ rest)) : G X D Q z σ pc L (As ++ rest) := by
  intro H locs ls hP hS hL
  obtain ⟨hcode, hini, hy, hpar, hml⟩ := hm
  have hall : ∀ w ∈ ([Cond.code y bytes maxL rty] : List Cond), ∀ (a' : Array Value) (U : State), X.2.2.2.2.1.WarmedH U.vm → w.before a' U = true := fun w hw a' U hW => by
    rw [List.mem_singleton.mp hw]
    exact C.ok.ts (State.WarmedH.trans C.wa hW) a' _ hcode
  have hpre := cx_pre C hP hS
  have hlen : ∀ sig, parseMethodDescriptor y.desc = some sig → n = sig.parameters.length := fun sig h => by rw [h] at hpar; exact (Option.some.inj hpar).symm
  have hK : Back X.2.1 X.2.2.2.1 X.1 X.2.2.1 X.2.2.2.2.2.2.2.1 X.2.2.2.2.1 X.2.2.2.2.2.2.1 y 3 8 (PreOf X.2.2.2.1 0 0 (fun v U => v = As.reverse.toArray ∧ Wd D σ U)) (PostOf (Qk D (fun r2 u => r2 = r ∧ u = σ2)) 0 0 (Ab D)) :=
    back_of (bytes := bytes) (maxL := maxL) (ret := rty) hc Wd_blind rfl rfl (cx_room C hd2 hml).1 (cx_room C hd2 hml).2 hall List.mem_cons_self (fun a' U hW => C.ok.ts (State.WarmedH.trans C.wa hW) a' _ hini)
  refine cx_back C hS (g := F0 X.2.2.2.2.2.1 pc ls (As ++ rest)) (Qa := As.reverse.toArray) (r := r) (σ2 := σ2) (rest := rest) ?_ (fun H1 locs1 hP1 hS1 => kk H1 locs1 ls hP1 hS1 hL)
  intro T0 hT X0
  have hW : 2 * (F0 X.2.2.2.2.2.1 pc ls (As ++ rest)).monitorRoom + (rest.map fun v => v.category).sum ≤ 8 := lv_room hr
  have hsz : ls.size = X.2.2.2.2.2.2.2.2.2.maxLocals := hL.1
  rcases cx_lk C.ts hl with hl | ⟨host, hl⟩
  · obtain ⟨v, vm₁, ⟨U2, l2, c2, s2⟩, hW₁, X2, ⟨g2, mk, t2, L2, e1, e2, hq, h1, hL2, h2, h3⟩, stp⟩ := callS X0 C.ex (bytes := bytes) (maxL := maxL) (ret := rty) C.ow hl (C.ts _ hv) (C.ts _ hini) (C.ts _ hcode) hy hK (g := F0 X.2.2.2.2.2.1 pc ls (As ++ rest)) rfl hsz (argsL := As.reverse) (rest := rest) (fun sig h => by rw [List.length_reverse, hn]; exact hlen sig h) (rl0 rfl) hW (by rw [C.bt]; exact hd)
      (fun vm₁ hW₁ => ⟨hz.1, hz.2, rfl, hpre (T0.setVm vm₁) hT hW₁⟩)
    dsimp only [Pt.U, Pt.locs, Pt.cells, Pt.slots] at X2 e1 e2 h1 h2 h3 stp
    subst h1; subst h2; subst h3
    exact ⟨v, (T0.setVm vm₁).calling g2 mk As.reverse.toArray, t2, U2, L2, hT, X2, hL2, e1, e2, hq, stp⟩
  · obtain ⟨v, vm₁, ⟨U2, l2, c2, s2⟩, hW₁, X2, ⟨g2, mk, t2, L2, e1, e2, hq, h1, hL2, h2, h3⟩, stp⟩ := va_callSN X0 C.ex (bytes := bytes) (maxL := maxL) (ret := rty) C.ow hl (C.ts _ hv) (C.ts _ hini) (C.ts _ hcode) hy hK (g := F0 X.2.2.2.2.2.1 pc ls (As ++ rest)) rfl hsz (argsL := As.reverse) (rest := rest) (fun sig h => by rw [List.length_reverse, hn]; exact hlen sig h) (rl0 rfl) hW (by rw [C.bt]; exact hd)
      (fun vm₁ hW₁ => ⟨hz.1, hz.2, rfl, hpre (T0.setVm vm₁) hT hW₁⟩)
    dsimp only [Pt.U, Pt.locs, Pt.cells, Pt.slots] at X2 e1 e2 h1 h2 h3 stp
    subst h1; subst h2; subst h3
    exact ⟨v, (T0.setVm vm₁).calling g2 mk As.reverse.toArray, t2, U2, L2, hT, X2, hL2, e1, e2, hq, stp⟩
theorem g_callV1 (C : Fx X D own cc nL d ret) {v : Value} (hm : My y bytes maxL rty n) (hv : MV y) (hl : CL own index y) (hb : IsC D b y.cls) (hd : decode cc pc = .ok (.invokevirtual index, 3)) (hd2 : d2 + 1 ≤ d) (hn : As.length = n) (hr : (rest.map fun v => v.category).sum ≤ 8) (hz : z.1 ≤ X.2.2.2.1.cells ∧ z.2 ≤ X.2.2.2.1.slots)
    (hc : Ct X.2.1 D y bytes maxL rty d2 (As ++ [.ref b]) σ (some v) σ2) (kk : G X D Q z σ2 (pc + 3) L (v :: rest)) : G X D Q z σ pc L (As ++ .ref b :: rest) := g_callV C hm hv hl hb hd hd2 hn hr hz hc kk
theorem g_callV0 (C : Fx X D own cc nL d ret) (hm : My y bytes maxL rty n) (hv : MV y) (hl : CL own index y) (hb : IsC D b y.cls) (hd : decode cc pc = .ok (.invokevirtual index, 3)) (hd2 : d2 + 1 ≤ d) (hn : As.length = n) (hr : (rest.map fun v => v.category).sum ≤ 8) (hz : z.1 ≤ X.2.2.2.1.cells ∧ z.2 ≤ X.2.2.2.1.slots)
    (hc : Ct X.2.1 D y bytes maxL rty d2 (As ++ [.ref b]) σ none σ2) (kk : G X D Q z σ2 (pc + 3) L rest) : G X D Q z σ pc L (As ++ .ref b :: rest) := g_callV C hm hv hl hb hd hd2 hn hr hz hc kk
theorem g_callS1 (C : Fx X D own cc nL d ret) {v : Value} (hm : My y bytes maxL rty n) (hv : MS y) (hl : CL own index y) (hd : decode cc pc = .ok (.invokestatic index, 3)) (hd2 : d2 + 1 ≤ d) (hn : As.length = n) (hr : (rest.map fun v => v.category).sum ≤ 8) (hz : z.1 ≤ X.2.2.2.1.cells ∧ z.2 ≤ X.2.2.2.1.slots)
    (hc : Ct X.2.1 D y bytes maxL rty d2 As σ (some v) σ2) (kk : G X D Q z σ2 (pc + 3) L (v :: rest)) : G X D Q z σ pc L (As ++ rest) := g_callS C hm hv hl hd hd2 hn hr hz hc kk
theorem g_callS0 (C : Fx X D own cc nL d ret) (hm : My y bytes maxL rty n) (hv : MS y) (hl : CL own index y) (hd : decode cc pc = .ok (.invokestatic index, 3)) (hd2 : d2 + 1 ≤ d) (hn : As.length = n) (hr : (rest.map fun v => v.category).sum ≤ 8) (hz : z.1 ≤ X.2.2.2.1.cells ∧ z.2 ≤ X.2.2.2.1.slots)
    (hc : Ct X.2.1 D y bytes maxL rty d2 As σ none σ2) (kk : G X D Q z σ2 (pc + 3) L rest) : G X D Q z σ pc L (As ++ rest) := g_callS C hm hv hl hd hd2 hn hr hz hc kk
end GC
end
section
theorem d_Cod_commonBeginning_0 : decode b_Cod_commonBeginning 0 = .ok (.aload_n 0, 1) := by decide +kernel
theorem d_Cod_commonBeginning_1 : decode b_Cod_commonBeginning 1 = .ok (.getfield 19, 3) := by decide +kernel
theorem d_Cod_commonBeginning_4 : decode b_Cod_commonBeginning 4 = .ok (.aload_n 1, 1) := by decide +kernel
theorem d_Cod_commonBeginning_5 : decode b_Cod_commonBeginning 5 = .ok (.getfield 19, 3) := by decide +kernel
theorem d_Cod_commonBeginning_8 : decode b_Cod_commonBeginning 8 = .ok (.invokestatic 41, 3) := by decide +kernel
theorem d_Cod_commonBeginning_11 : decode b_Cod_commonBeginning 11 = .ok (.istore_n 2, 1) := by decide +kernel
theorem d_Cod_commonBeginning_12 : decode b_Cod_commonBeginning 12 = .ok (.iconst 0, 1) := by decide +kernel
theorem d_Cod_commonBeginning_13 : decode b_Cod_commonBeginning 13 = .ok (.istore_n 3, 1) := by decide +kernel
theorem d_Cod_commonBeginning_14 : decode b_Cod_commonBeginning 14 = .ok (.iload_n 3, 1) := by decide +kernel
theorem d_Cod_commonBeginning_15 : decode b_Cod_commonBeginning 15 = .ok (.iload_n 2, 1) := by decide +kernel
theorem d_Cod_commonBeginning_16 : decode b_Cod_commonBeginning 16 = .ok (.if_icmp .ge 22, 3) := by decide +kernel
theorem d_Cod_commonBeginning_19 : decode b_Cod_commonBeginning 19 = .ok (.aload_n 0, 1) := by decide +kernel
theorem d_Cod_commonBeginning_20 : decode b_Cod_commonBeginning 20 = .ok (.iload_n 3, 1) := by decide +kernel
theorem d_Cod_commonBeginning_21 : decode b_Cod_commonBeginning 21 = .ok (.invokevirtual 27, 3) := by decide +kernel
theorem d_Cod_commonBeginning_24 : decode b_Cod_commonBeginning 24 = .ok (.aload_n 1, 1) := by decide +kernel
theorem d_Cod_commonBeginning_25 : decode b_Cod_commonBeginning 25 = .ok (.iload_n 3, 1) := by decide +kernel
theorem d_Cod_commonBeginning_26 : decode b_Cod_commonBeginning 26 = .ok (.invokevirtual 27, 3) := by decide +kernel
theorem d_Cod_commonBeginning_29 : decode b_Cod_commonBeginning 29 = .ok (.if_icmp .ne 9, 3) := by decide +kernel
theorem d_Cod_commonBeginning_32 : decode b_Cod_commonBeginning 32 = .ok (.iinc 3 1, 3) := by decide +kernel
theorem d_Cod_commonBeginning_35 : decode b_Cod_commonBeginning 35 = .ok (.goto (-21), 3) := by decide +kernel
theorem d_Cod_commonBeginning_38 : decode b_Cod_commonBeginning 38 = .ok (.iload_n 3, 1) := by decide +kernel
theorem d_Cod_commonBeginning_39 : decode b_Cod_commonBeginning 39 = .ok (.ireturn, 1) := by decide +kernel
theorem d_Cod_commonEnd_0 : decode b_Cod_commonEnd 0 = .ok (.aload_n 0, 1) := by decide +kernel
theorem d_Cod_commonEnd_1 : decode b_Cod_commonEnd 1 = .ok (.getfield 19, 3) := by decide +kernel
theorem d_Cod_commonEnd_4 : decode b_Cod_commonEnd 4 = .ok (.aload_n 1, 1) := by decide +kernel
theorem d_Cod_commonEnd_5 : decode b_Cod_commonEnd 5 = .ok (.getfield 19, 3) := by decide +kernel
theorem d_Cod_commonEnd_8 : decode b_Cod_commonEnd 8 = .ok (.invokestatic 41, 3) := by decide +kernel
theorem d_Cod_commonEnd_11 : decode b_Cod_commonEnd 11 = .ok (.iload_n 2, 1) := by decide +kernel
theorem d_Cod_commonEnd_12 : decode b_Cod_commonEnd 12 = .ok (.isub, 1) := by decide +kernel
theorem d_Cod_commonEnd_13 : decode b_Cod_commonEnd 13 = .ok (.istore_n 3, 1) := by decide +kernel
theorem d_Cod_commonEnd_14 : decode b_Cod_commonEnd 14 = .ok (.iconst 0, 1) := by decide +kernel
theorem d_Cod_commonEnd_15 : decode b_Cod_commonEnd 15 = .ok (.istore 4, 2) := by decide +kernel
theorem d_Cod_commonEnd_17 : decode b_Cod_commonEnd 17 = .ok (.iload 4, 2) := by decide +kernel
theorem d_Cod_commonEnd_19 : decode b_Cod_commonEnd 19 = .ok (.iload_n 3, 1) := by decide +kernel
theorem d_Cod_commonEnd_20 : decode b_Cod_commonEnd 20 = .ok (.if_icmp .ge 38, 3) := by decide +kernel
theorem d_Cod_commonEnd_23 : decode b_Cod_commonEnd 23 = .ok (.aload_n 0, 1) := by decide +kernel
theorem d_Cod_commonEnd_24 : decode b_Cod_commonEnd 24 = .ok (.aload_n 0, 1) := by decide +kernel
theorem d_Cod_commonEnd_25 : decode b_Cod_commonEnd 25 = .ok (.getfield 19, 3) := by decide +kernel
theorem d_Cod_commonEnd_28 : decode b_Cod_commonEnd 28 = .ok (.iconst 1, 1) := by decide +kernel
theorem d_Cod_commonEnd_29 : decode b_Cod_commonEnd 29 = .ok (.isub, 1) := by decide +kernel
theorem d_Cod_commonEnd_30 : decode b_Cod_commonEnd 30 = .ok (.iload 4, 2) := by decide +kernel
theorem d_Cod_commonEnd_32 : decode b_Cod_commonEnd 32 = .ok (.isub, 1) := by decide +kernel
theorem d_Cod_commonEnd_33 : decode b_Cod_commonEnd 33 = .ok (.invokevirtual 27, 3) := by decide +kernel
theorem d_Cod_commonEnd_36 : decode b_Cod_commonEnd 36 = .ok (.aload_n 1, 1) := by decide +kernel
theorem d_Cod_commonEnd_37 : decode b_Cod_commonEnd 37 = .ok (.aload_n 1, 1) := by decide +kernel
theorem d_Cod_commonEnd_38 : decode b_Cod_commonEnd 38 = .ok (.getfield 19, 3) := by decide +kernel
theorem d_Cod_commonEnd_41 : decode b_Cod_commonEnd 41 = .ok (.iconst 1, 1) := by decide +kernel
theorem d_Cod_commonEnd_42 : decode b_Cod_commonEnd 42 = .ok (.isub, 1) := by decide +kernel
theorem d_Cod_commonEnd_43 : decode b_Cod_commonEnd 43 = .ok (.iload 4, 2) := by decide +kernel
theorem d_Cod_commonEnd_45 : decode b_Cod_commonEnd 45 = .ok (.isub, 1) := by decide +kernel
theorem d_Cod_commonEnd_46 : decode b_Cod_commonEnd 46 = .ok (.invokevirtual 27, 3) := by decide +kernel
theorem d_Cod_commonEnd_49 : decode b_Cod_commonEnd 49 = .ok (.if_icmp .ne 9, 3) := by decide +kernel
theorem d_Cod_commonEnd_52 : decode b_Cod_commonEnd 52 = .ok (.iinc 4 1, 3) := by decide +kernel
theorem d_Cod_commonEnd_55 : decode b_Cod_commonEnd 55 = .ok (.goto (-38), 3) := by decide +kernel
theorem d_Cod_commonEnd_58 : decode b_Cod_commonEnd 58 = .ok (.iload 4, 2) := by decide +kernel
theorem d_Cod_commonEnd_60 : decode b_Cod_commonEnd 60 = .ok (.ireturn, 1) := by decide +kernel
theorem d_Cod_readDifference_0 : decode b_Cod_readDifference 0 = .ok (.iload_n 2, 1) := by decide +kernel
theorem d_Cod_readDifference_1 : decode b_Cod_readDifference 1 = .ok (.iconst 4, 1) := by decide +kernel
theorem d_Cod_readDifference_2 : decode b_Cod_readDifference 2 = .ok (.if_icmp .lt 13, 3) := by decide +kernel
theorem d_Cod_readDifference_5 : decode b_Cod_readDifference 5 = .ok (.aload_n 0, 1) := by decide +kernel
theorem d_Cod_readDifference_6 : decode b_Cod_readDifference 6 = .ok (.iload_n 1, 1) := by decide +kernel
theorem d_Cod_readDifference_7 : decode b_Cod_readDifference 7 = .ok (.invokevirtual 27, 3) := by decide +kernel
theorem d_Cod_readDifference_10 : decode b_Cod_readDifference 10 = .ok (.bipush 100, 2) := by decide +kernel
theorem d_Cod_readDifference_12 : decode b_Cod_readDifference 12 = .ok (.if_icmp .eq 5, 3) := by decide +kernel
theorem d_Cod_readDifference_15 : decode b_Cod_readDifference 15 = .ok (.iconst 0, 1) := by decide +kernel
theorem d_Cod_readDifference_16 : decode b_Cod_readDifference 16 = .ok (.ireturn, 1) := by decide +kernel
theorem d_Cod_readDifference_17 : decode b_Cod_readDifference 17 = .ok (.aload_n 0, 1) := by decide +kernel
theorem d_Cod_readDifference_18 : decode b_Cod_readDifference 18 = .ok (.iload_n 1, 1) := by decide +kernel
theorem d_Cod_readDifference_19 : decode b_Cod_readDifference 19 = .ok (.iconst 1, 1) := by decide +kernel
theorem d_Cod_readDifference_20 : decode b_Cod_readDifference 20 = .ok (.iadd, 1) := by decide +kernel
theorem d_Cod_readDifference_21 : decode b_Cod_readDifference 21 = .ok (.invokevirtual 27, 3) := by decide +kernel
theorem d_Cod_readDifference_24 : decode b_Cod_readDifference 24 = .ok (.istore 4, 2) := by decide +kernel
theorem d_Cod_readDifference_26 : decode b_Cod_readDifference 26 = .ok (.aload_n 0, 1) := by decide +kernel
theorem d_Cod_readDifference_27 : decode b_Cod_readDifference 27 = .ok (.iload_n 1, 1) := by decide +kernel
theorem d_Cod_readDifference_28 : decode b_Cod_readDifference 28 = .ok (.iconst 2, 1) := by decide +kernel
theorem d_Cod_readDifference_29 : decode b_Cod_readDifference 29 = .ok (.iadd, 1) := by decide +kernel
theorem d_Cod_readDifference_30 : decode b_Cod_readDifference 30 = .ok (.invokevirtual 27, 3) := by decide +kernel
theorem d_Cod_readDifference_33 : decode b_Cod_readDifference 33 = .ok (.istore 5, 2) := by decide +kernel
theorem d_Cod_readDifference_35 : decode b_Cod_readDifference 35 = .ok (.aload_n 0, 1) := by decide +kernel
theorem d_Cod_readDifference_36 : decode b_Cod_readDifference 36 = .ok (.iload_n 1, 1) := by decide +kernel
theorem d_Cod_readDifference_37 : decode b_Cod_readDifference 37 = .ok (.iconst 3, 1) := by decide +kernel
theorem d_Cod_readDifference_38 : decode b_Cod_readDifference 38 = .ok (.iadd, 1) := by decide +kernel
theorem d_Cod_readDifference_39 : decode b_Cod_readDifference 39 = .ok (.invokevirtual 27, 3) := by decide +kernel
theorem d_Cod_readDifference_42 : decode b_Cod_readDifference 42 = .ok (.istore 6, 2) := by decide +kernel
theorem d_Cod_readDifference_44 : decode b_Cod_readDifference 44 = .ok (.iload 6, 2) := by decide +kernel
theorem d_Cod_readDifference_46 : decode b_Cod_readDifference 46 = .ok (.iload_n 2, 1) := by decide +kernel
theorem d_Cod_readDifference_47 : decode b_Cod_readDifference 47 = .ok (.iconst 4, 1) := by decide +kernel
theorem d_Cod_readDifference_48 : decode b_Cod_readDifference 48 = .ok (.isub, 1) := by decide +kernel
theorem d_Cod_readDifference_49 : decode b_Cod_readDifference 49 = .ok (.if_icmp .eq 5, 3) := by decide +kernel
theorem d_Cod_readDifference_52 : decode b_Cod_readDifference 52 = .ok (.iconst 0, 1) := by decide +kernel
theorem d_Cod_readDifference_53 : decode b_Cod_readDifference 53 = .ok (.ireturn, 1) := by decide +kernel
theorem d_Cod_readDifference_54 : decode b_Cod_readDifference 54 = .ok (.aload_n 3, 1) := by decide +kernel
theorem d_Cod_readDifference_55 : decode b_Cod_readDifference 55 = .ok (.iload 4, 2) := by decide +kernel
theorem d_Cod_readDifference_57 : decode b_Cod_readDifference 57 = .ok (.iload 5, 2) := by decide +kernel
theorem d_Cod_readDifference_59 : decode b_Cod_readDifference 59 = .ok (.aload_n 0, 1) := by decide +kernel
theorem d_Cod_readDifference_60 : decode b_Cod_readDifference 60 = .ok (.iload_n 1, 1) := by decide +kernel
theorem d_Cod_readDifference_61 : decode b_Cod_readDifference 61 = .ok (.iconst 4, 1) := by decide +kernel
theorem d_Cod_readDifference_62 : decode b_Cod_readDifference 62 = .ok (.iadd, 1) := by decide +kernel
theorem d_Cod_readDifference_63 : decode b_Cod_readDifference 63 = .ok (.iload 6, 2) := by decide +kernel
theorem d_Cod_readDifference_65 : decode b_Cod_readDifference 65 = .ok (.invokevirtual 51, 3) := by decide +kernel
theorem d_Cod_readDifference_68 : decode b_Cod_readDifference 68 = .ok (.ireturn, 1) := by decide +kernel
theorem d_Cod_readSnapshot_0 : decode b_Cod_readSnapshot 0 = .ok (.aload_n 0, 1) := by decide +kernel
theorem d_Cod_readSnapshot_1 : decode b_Cod_readSnapshot 1 = .ok (.iload_n 1, 1) := by decide +kernel
theorem d_Cod_readSnapshot_2 : decode b_Cod_readSnapshot 2 = .ok (.invokevirtual 27, 3) := by decide +kernel
theorem d_Cod_readSnapshot_5 : decode b_Cod_readSnapshot 5 = .ok (.istore 4, 2) := by decide +kernel
theorem d_Cod_readSnapshot_7 : decode b_Cod_readSnapshot 7 = .ok (.iload 4, 2) := by decide +kernel
theorem d_Cod_readSnapshot_9 : decode b_Cod_readSnapshot 9 = .ok (.bipush 117, 2) := by decide +kernel
theorem d_Cod_readSnapshot_11 : decode b_Cod_readSnapshot 11 = .ok (.if_icmp .ne 15, 3) := by decide +kernel
theorem d_Cod_readSnapshot_14 : decode b_Cod_readSnapshot 14 = .ok (.aload_n 3, 1) := by decide +kernel
theorem d_Cod_readSnapshot_15 : decode b_Cod_readSnapshot 15 = .ok (.aload_n 0, 1) := by decide +kernel
theorem d_Cod_readSnapshot_16 : decode b_Cod_readSnapshot 16 = .ok (.iload_n 1, 1) := by decide +kernel
theorem d_Cod_readSnapshot_17 : decode b_Cod_readSnapshot 17 = .ok (.iconst 1, 1) := by decide +kernel
theorem d_Cod_readSnapshot_18 : decode b_Cod_readSnapshot 18 = .ok (.iadd, 1) := by decide +kernel
theorem d_Cod_readSnapshot_19 : decode b_Cod_readSnapshot 19 = .ok (.iload_n 2, 1) := by decide +kernel
theorem d_Cod_readSnapshot_20 : decode b_Cod_readSnapshot 20 = .ok (.iconst 1, 1) := by decide +kernel
theorem d_Cod_readSnapshot_21 : decode b_Cod_readSnapshot 21 = .ok (.isub, 1) := by decide +kernel
theorem d_Cod_readSnapshot_22 : decode b_Cod_readSnapshot 22 = .ok (.invokevirtual 23, 3) := by decide +kernel
theorem d_Cod_readSnapshot_25 : decode b_Cod_readSnapshot 25 = .ok (.ireturn, 1) := by decide +kernel
theorem d_Cod_readSnapshot_26 : decode b_Cod_readSnapshot 26 = .ok (.iload 4, 2) := by decide +kernel
theorem d_Cod_readSnapshot_28 : decode b_Cod_readSnapshot 28 = .ok (.bipush 120, 2) := by decide +kernel
theorem d_Cod_readSnapshot_30 : decode b_Cod_readSnapshot 30 = .ok (.if_icmp .ne 9, 3) := by decide +kernel
theorem d_Cod_readSnapshot_33 : decode b_Cod_readSnapshot 33 = .ok (.iload_n 2, 1) := by decide +kernel
theorem d_Cod_readSnapshot_34 : decode b_Cod_readSnapshot 34 = .ok (.iconst 2, 1) := by decide +kernel
theorem d_Cod_readSnapshot_35 : decode b_Cod_readSnapshot 35 = .ok (.irem, 1) := by decide +kernel
theorem d_Cod_readSnapshot_36 : decode b_Cod_readSnapshot 36 = .ok (.ifCond .ne 5, 3) := by decide +kernel
theorem d_Cod_readSnapshot_39 : decode b_Cod_readSnapshot 39 = .ok (.iconst 0, 1) := by decide +kernel
theorem d_Cod_readSnapshot_40 : decode b_Cod_readSnapshot 40 = .ok (.ireturn, 1) := by decide +kernel
theorem d_Cod_readSnapshot_41 : decode b_Cod_readSnapshot 41 = .ok (.iload_n 1, 1) := by decide +kernel
theorem d_Cod_readSnapshot_42 : decode b_Cod_readSnapshot 42 = .ok (.iconst 1, 1) := by decide +kernel
theorem d_Cod_readSnapshot_43 : decode b_Cod_readSnapshot 43 = .ok (.iadd, 1) := by decide +kernel
theorem d_Cod_readSnapshot_44 : decode b_Cod_readSnapshot 44 = .ok (.istore 5, 2) := by decide +kernel
theorem d_Cod_readSnapshot_46 : decode b_Cod_readSnapshot 46 = .ok (.iload 5, 2) := by decide +kernel
theorem d_Cod_readSnapshot_48 : decode b_Cod_readSnapshot 48 = .ok (.iload_n 1, 1) := by decide +kernel
theorem d_Cod_readSnapshot_49 : decode b_Cod_readSnapshot 49 = .ok (.iload_n 2, 1) := by decide +kernel
theorem d_Cod_readSnapshot_50 : decode b_Cod_readSnapshot 50 = .ok (.iadd, 1) := by decide +kernel
theorem d_Cod_readSnapshot_51 : decode b_Cod_readSnapshot 51 = .ok (.if_icmp .ge 41, 3) := by decide +kernel
theorem d_Cod_readSnapshot_54 : decode b_Cod_readSnapshot 54 = .ok (.aload_n 0, 1) := by decide +kernel
theorem d_Cod_readSnapshot_55 : decode b_Cod_readSnapshot 55 = .ok (.iload 5, 2) := by decide +kernel
theorem d_Cod_readSnapshot_57 : decode b_Cod_readSnapshot 57 = .ok (.invokevirtual 27, 3) := by decide +kernel
theorem d_Cod_readSnapshot_60 : decode b_Cod_readSnapshot 60 = .ok (.istore 6, 2) := by decide +kernel
theorem d_Cod_readSnapshot_62 : decode b_Cod_readSnapshot 62 = .ok (.iload 6, 2) := by decide +kernel
theorem d_Cod_readSnapshot_64 : decode b_Cod_readSnapshot 64 = .ok (.ifCond .eq 20, 3) := by decide +kernel
theorem d_Cod_readSnapshot_67 : decode b_Cod_readSnapshot 67 = .ok (.aload_n 3, 1) := by decide +kernel
theorem d_Cod_readSnapshot_68 : decode b_Cod_readSnapshot 68 = .ok (.aload_n 0, 1) := by decide +kernel
theorem d_Cod_readSnapshot_69 : decode b_Cod_readSnapshot 69 = .ok (.iload 5, 2) := by decide +kernel
theorem d_Cod_readSnapshot_71 : decode b_Cod_readSnapshot 71 = .ok (.iconst 1, 1) := by decide +kernel
theorem d_Cod_readSnapshot_72 : decode b_Cod_readSnapshot 72 = .ok (.iadd, 1) := by decide +kernel
theorem d_Cod_readSnapshot_73 : decode b_Cod_readSnapshot 73 = .ok (.invokevirtual 27, 3) := by decide +kernel
theorem d_Cod_readSnapshot_76 : decode b_Cod_readSnapshot 76 = .ok (.iload 6, 2) := by decide +kernel
theorem d_Cod_readSnapshot_78 : decode b_Cod_readSnapshot 78 = .ok (.invokevirtual 47, 3) := by decide +kernel
theorem d_Cod_readSnapshot_81 : decode b_Cod_readSnapshot 81 = .ok (.ifCond .ne 5, 3) := by decide +kernel
theorem d_Cod_readSnapshot_84 : decode b_Cod_readSnapshot 84 = .ok (.iconst 0, 1) := by decide +kernel
theorem d_Cod_readSnapshot_85 : decode b_Cod_readSnapshot 85 = .ok (.ireturn, 1) := by decide +kernel
theorem d_Cod_readSnapshot_86 : decode b_Cod_readSnapshot 86 = .ok (.iinc 5 2, 3) := by decide +kernel
theorem d_Cod_readSnapshot_89 : decode b_Cod_readSnapshot 89 = .ok (.goto (-43), 3) := by decide +kernel
theorem d_Cod_readSnapshot_92 : decode b_Cod_readSnapshot 92 = .ok (.iconst 1, 1) := by decide +kernel
theorem d_Cod_readSnapshot_93 : decode b_Cod_readSnapshot 93 = .ok (.ireturn, 1) := by decide +kernel
theorem d_Cod_writeDifference_0 : decode b_Cod_writeDifference 0 = .ok (.aload_n 0, 1) := by decide +kernel
theorem d_Cod_writeDifference_1 : decode b_Cod_writeDifference 1 = .ok (.aload_n 1, 1) := by decide +kernel
theorem d_Cod_writeDifference_2 : decode b_Cod_writeDifference 2 = .ok (.invokestatic 31, 3) := by decide +kernel
theorem d_Cod_writeDifference_5 : decode b_Cod_writeDifference 5 = .ok (.istore_n 3, 1) := by decide +kernel
theorem d_Cod_writeDifference_6 : decode b_Cod_writeDifference 6 = .ok (.aload_n 0, 1) := by decide +kernel
theorem d_Cod_writeDifference_7 : decode b_Cod_writeDifference 7 = .ok (.aload_n 1, 1) := by decide +kernel
theorem d_Cod_writeDifference_8 : decode b_Cod_writeDifference 8 = .ok (.iload_n 3, 1) := by decide +kernel
theorem d_Cod_writeDifference_9 : decode b_Cod_writeDifference 9 = .ok (.invokestatic 37, 3) := by decide +kernel
theorem d_Cod_writeDifference_12 : decode b_Cod_writeDifference 12 = .ok (.istore 4, 2) := by decide +kernel
theorem d_Cod_writeDifference_14 : decode b_Cod_writeDifference 14 = .ok (.aload_n 1, 1) := by decide +kernel
theorem d_Cod_writeDifference_15 : decode b_Cod_writeDifference 15 = .ok (.getfield 19, 3) := by decide +kernel
theorem d_Cod_writeDifference_18 : decode b_Cod_writeDifference 18 = .ok (.iload 4, 2) := by decide +kernel
theorem d_Cod_writeDifference_20 : decode b_Cod_writeDifference 20 = .ok (.isub, 1) := by decide +kernel
theorem d_Cod_writeDifference_21 : decode b_Cod_writeDifference 21 = .ok (.iload_n 3, 1) := by decide +kernel
theorem d_Cod_writeDifference_22 : decode b_Cod_writeDifference 22 = .ok (.isub, 1) := by decide +kernel
theorem d_Cod_writeDifference_23 : decode b_Cod_writeDifference 23 = .ok (.istore 5, 2) := by decide +kernel
theorem d_Cod_writeDifference_25 : decode b_Cod_writeDifference 25 = .ok (.aload_n 2, 1) := by decide +kernel
theorem d_Cod_writeDifference_26 : decode b_Cod_writeDifference 26 = .ok (.iconst 0, 1) := by decide +kernel
theorem d_Cod_writeDifference_27 : decode b_Cod_writeDifference 27 = .ok (.invokevirtual 9, 3) := by decide +kernel
theorem d_Cod_writeDifference_30 : decode b_Cod_writeDifference 30 = .ok (.aload_n 2, 1) := by decide +kernel
theorem d_Cod_writeDifference_31 : decode b_Cod_writeDifference 31 = .ok (.bipush 100, 2) := by decide +kernel
theorem d_Cod_writeDifference_33 : decode b_Cod_writeDifference 33 = .ok (.invokevirtual 15, 3) := by decide +kernel
theorem d_Cod_writeDifference_36 : decode b_Cod_writeDifference 36 = .ok (.pop, 1) := by decide +kernel
theorem d_Cod_writeDifference_37 : decode b_Cod_writeDifference 37 = .ok (.aload_n 2, 1) := by decide +kernel
theorem d_Cod_writeDifference_38 : decode b_Cod_writeDifference 38 = .ok (.iload_n 3, 1) := by decide +kernel
theorem d_Cod_writeDifference_39 : decode b_Cod_writeDifference 39 = .ok (.invokevirtual 15, 3) := by decide +kernel
theorem d_Cod_writeDifference_42 : decode b_Cod_writeDifference 42 = .ok (.pop, 1) := by decide +kernel
theorem d_Cod_writeDifference_43 : decode b_Cod_writeDifference 43 = .ok (.aload_n 2, 1) := by decide +kernel
theorem d_Cod_writeDifference_44 : decode b_Cod_writeDifference 44 = .ok (.aload_n 0, 1) := by decide +kernel
theorem d_Cod_writeDifference_45 : decode b_Cod_writeDifference 45 = .ok (.getfield 19, 3) := by decide +kernel
theorem d_Cod_writeDifference_48 : decode b_Cod_writeDifference 48 = .ok (.iload 4, 2) := by decide +kernel
theorem d_Cod_writeDifference_50 : decode b_Cod_writeDifference 50 = .ok (.isub, 1) := by decide +kernel
theorem d_Cod_writeDifference_51 : decode b_Cod_writeDifference 51 = .ok (.invokevirtual 15, 3) := by decide +kernel
theorem d_Cod_writeDifference_54 : decode b_Cod_writeDifference 54 = .ok (.pop, 1) := by decide +kernel
theorem d_Cod_writeDifference_55 : decode b_Cod_writeDifference 55 = .ok (.aload_n 2, 1) := by decide +kernel
theorem d_Cod_writeDifference_56 : decode b_Cod_writeDifference 56 = .ok (.iload 5, 2) := by decide +kernel
theorem d_Cod_writeDifference_58 : decode b_Cod_writeDifference 58 = .ok (.invokevirtual 15, 3) := by decide +kernel
theorem d_Cod_writeDifference_61 : decode b_Cod_writeDifference 61 = .ok (.pop, 1) := by decide +kernel
theorem d_Cod_writeDifference_62 : decode b_Cod_writeDifference 62 = .ok (.aload_n 2, 1) := by decide +kernel
theorem d_Cod_writeDifference_63 : decode b_Cod_writeDifference 63 = .ok (.aload_n 1, 1) := by decide +kernel
theorem d_Cod_writeDifference_64 : decode b_Cod_writeDifference 64 = .ok (.iload_n 3, 1) := by decide +kernel
theorem d_Cod_writeDifference_65 : decode b_Cod_writeDifference 65 = .ok (.iload 5, 2) := by decide +kernel
theorem d_Cod_writeDifference_67 : decode b_Cod_writeDifference 67 = .ok (.invokevirtual 23, 3) := by decide +kernel
theorem d_Cod_writeDifference_70 : decode b_Cod_writeDifference 70 = .ok (.pop, 1) := by decide +kernel
theorem d_Cod_writeDifference_71 : decode b_Cod_writeDifference 71 = .ok (.return_, 1) := by decide +kernel
theorem d_Cod_writePacked_0 : decode b_Cod_writePacked 0 = .ok (.aload_n 1, 1) := by decide +kernel
theorem d_Cod_writePacked_1 : decode b_Cod_writePacked 1 = .ok (.iconst 0, 1) := by decide +kernel
theorem d_Cod_writePacked_2 : decode b_Cod_writePacked 2 = .ok (.invokevirtual 9, 3) := by decide +kernel
theorem d_Cod_writePacked_5 : decode b_Cod_writePacked 5 = .ok (.aload_n 1, 1) := by decide +kernel
theorem d_Cod_writePacked_6 : decode b_Cod_writePacked 6 = .ok (.bipush 120, 2) := by decide +kernel
theorem d_Cod_writePacked_8 : decode b_Cod_writePacked 8 = .ok (.invokevirtual 15, 3) := by decide +kernel
theorem d_Cod_writePacked_11 : decode b_Cod_writePacked 11 = .ok (.pop, 1) := by decide +kernel
theorem d_Cod_writePacked_12 : decode b_Cod_writePacked 12 = .ok (.iconst 0, 1) := by decide +kernel
theorem d_Cod_writePacked_13 : decode b_Cod_writePacked 13 = .ok (.istore_n 2, 1) := by decide +kernel
theorem d_Cod_writePacked_14 : decode b_Cod_writePacked 14 = .ok (.iconst 0, 1) := by decide +kernel
theorem d_Cod_writePacked_15 : decode b_Cod_writePacked 15 = .ok (.istore_n 3, 1) := by decide +kernel
theorem d_Cod_writePacked_16 : decode b_Cod_writePacked 16 = .ok (.iload_n 3, 1) := by decide +kernel
theorem d_Cod_writePacked_17 : decode b_Cod_writePacked 17 = .ok (.aload_n 0, 1) := by decide +kernel
theorem d_Cod_writePacked_18 : decode b_Cod_writePacked 18 = .ok (.getfield 19, 3) := by decide +kernel
theorem d_Cod_writePacked_21 : decode b_Cod_writePacked 21 = .ok (.if_icmp .ge 55, 3) := by decide +kernel
theorem d_Cod_writePacked_24 : decode b_Cod_writePacked 24 = .ok (.iinc 2 1, 3) := by decide +kernel
theorem d_Cod_writePacked_27 : decode b_Cod_writePacked 27 = .ok (.iload_n 3, 1) := by decide +kernel
theorem d_Cod_writePacked_28 : decode b_Cod_writePacked 28 = .ok (.iconst 1, 1) := by decide +kernel
theorem d_Cod_writePacked_29 : decode b_Cod_writePacked 29 = .ok (.iadd, 1) := by decide +kernel
theorem d_Cod_writePacked_30 : decode b_Cod_writePacked 30 = .ok (.aload_n 0, 1) := by decide +kernel
theorem d_Cod_writePacked_31 : decode b_Cod_writePacked 31 = .ok (.getfield 19, 3) := by decide +kernel
theorem d_Cod_writePacked_34 : decode b_Cod_writePacked 34 = .ok (.if_icmp .eq 18, 3) := by decide +kernel
theorem d_Cod_writePacked_37 : decode b_Cod_writePacked 37 = .ok (.aload_n 0, 1) := by decide +kernel
theorem d_Cod_writePacked_38 : decode b_Cod_writePacked 38 = .ok (.iload_n 3, 1) := by decide +kernel
theorem d_Cod_writePacked_39 : decode b_Cod_writePacked 39 = .ok (.iconst 1, 1) := by decide +kernel
theorem d_Cod_writePacked_40 : decode b_Cod_writePacked 40 = .ok (.iadd, 1) := by decide +kernel
theorem d_Cod_writePacked_41 : decode b_Cod_writePacked 41 = .ok (.invokevirtual 27, 3) := by decide +kernel
theorem d_Cod_writePacked_44 : decode b_Cod_writePacked 44 = .ok (.aload_n 0, 1) := by decide +kernel
theorem d_Cod_writePacked_45 : decode b_Cod_writePacked 45 = .ok (.iload_n 3, 1) := by decide +kernel
theorem d_Cod_writePacked_46 : decode b_Cod_writePacked 46 = .ok (.invokevirtual 27, 3) := by decide +kernel
theorem d_Cod_writePacked_49 : decode b_Cod_writePacked 49 = .ok (.if_icmp .eq 21, 3) := by decide +kernel
theorem d_Cod_writePacked_52 : decode b_Cod_writePacked 52 = .ok (.aload_n 1, 1) := by decide +kernel
theorem d_Cod_writePacked_53 : decode b_Cod_writePacked 53 = .ok (.iload_n 2, 1) := by decide +kernel
theorem d_Cod_writePacked_54 : decode b_Cod_writePacked 54 = .ok (.invokevirtual 15, 3) := by decide +kernel
theorem d_Cod_writePacked_57 : decode b_Cod_writePacked 57 = .ok (.pop, 1) := by decide +kernel
theorem d_Cod_writePacked_58 : decode b_Cod_writePacked 58 = .ok (.aload_n 1, 1) := by decide +kernel
theorem d_Cod_writePacked_59 : decode b_Cod_writePacked 59 = .ok (.aload_n 0, 1) := by decide +kernel
theorem d_Cod_writePacked_60 : decode b_Cod_writePacked 60 = .ok (.iload_n 3, 1) := by decide +kernel
theorem d_Cod_writePacked_61 : decode b_Cod_writePacked 61 = .ok (.invokevirtual 27, 3) := by decide +kernel
theorem d_Cod_writePacked_64 : decode b_Cod_writePacked 64 = .ok (.invokevirtual 15, 3) := by decide +kernel
theorem d_Cod_writePacked_67 : decode b_Cod_writePacked 67 = .ok (.pop, 1) := by decide +kernel
theorem d_Cod_writePacked_68 : decode b_Cod_writePacked 68 = .ok (.iconst 0, 1) := by decide +kernel
theorem d_Cod_writePacked_69 : decode b_Cod_writePacked 69 = .ok (.istore_n 2, 1) := by decide +kernel
theorem d_Cod_writePacked_70 : decode b_Cod_writePacked 70 = .ok (.iinc 3 1, 3) := by decide +kernel
theorem d_Cod_writePacked_73 : decode b_Cod_writePacked 73 = .ok (.goto (-57), 3) := by decide +kernel
theorem d_Cod_writePacked_76 : decode b_Cod_writePacked 76 = .ok (.return_, 1) := by decide +kernel
theorem d_Cod_writeWhole_0 : decode b_Cod_writeWhole 0 = .ok (.aload_n 1, 1) := by decide +kernel
theorem d_Cod_writeWhole_1 : decode b_Cod_writeWhole 1 = .ok (.iconst 0, 1) := by decide +kernel
theorem d_Cod_writeWhole_2 : decode b_Cod_writeWhole 2 = .ok (.invokevirtual 9, 3) := by decide +kernel
theorem d_Cod_writeWhole_5 : decode b_Cod_writeWhole 5 = .ok (.aload_n 1, 1) := by decide +kernel
theorem d_Cod_writeWhole_6 : decode b_Cod_writeWhole 6 = .ok (.bipush 117, 2) := by decide +kernel
theorem d_Cod_writeWhole_8 : decode b_Cod_writeWhole 8 = .ok (.invokevirtual 15, 3) := by decide +kernel
theorem d_Cod_writeWhole_11 : decode b_Cod_writeWhole 11 = .ok (.pop, 1) := by decide +kernel
theorem d_Cod_writeWhole_12 : decode b_Cod_writeWhole 12 = .ok (.aload_n 1, 1) := by decide +kernel
theorem d_Cod_writeWhole_13 : decode b_Cod_writeWhole 13 = .ok (.aload_n 0, 1) := by decide +kernel
theorem d_Cod_writeWhole_14 : decode b_Cod_writeWhole 14 = .ok (.iconst 0, 1) := by decide +kernel
theorem d_Cod_writeWhole_15 : decode b_Cod_writeWhole 15 = .ok (.aload_n 0, 1) := by decide +kernel
theorem d_Cod_writeWhole_16 : decode b_Cod_writeWhole 16 = .ok (.getfield 19, 3) := by decide +kernel
theorem d_Cod_writeWhole_19 : decode b_Cod_writeWhole 19 = .ok (.invokevirtual 23, 3) := by decide +kernel
theorem d_Cod_writeWhole_22 : decode b_Cod_writeWhole 22 = .ok (.pop, 1) := by decide +kernel
theorem d_Cod_writeWhole_23 : decode b_Cod_writeWhole 23 = .ok (.return_, 1) := by decide +kernel
theorem d_JA_fill_0 : decode b_JA_fill 0 = .ok (.aload_n 0, 1) := by decide +kernel
theorem d_JA_fill_1 : decode b_JA_fill 1 = .ok (.arraylength, 1) := by decide +kernel
theorem d_JA_fill_2 : decode b_JA_fill 2 = .ok (.iload_n 1, 1) := by decide +kernel
theorem d_JA_fill_3 : decode b_JA_fill 3 = .ok (.iload_n 2, 1) := by decide +kernel
theorem d_JA_fill_4 : decode b_JA_fill 4 = .ok (.invokestatic 13, 3) := by decide +kernel
theorem d_JA_fill_7 : decode b_JA_fill 7 = .ok (.iload_n 1, 1) := by decide +kernel
theorem d_JA_fill_8 : decode b_JA_fill 8 = .ok (.istore 4, 2) := by decide +kernel
theorem d_JA_fill_10 : decode b_JA_fill 10 = .ok (.iload 4, 2) := by decide +kernel
theorem d_JA_fill_12 : decode b_JA_fill 12 = .ok (.iload_n 2, 1) := by decide +kernel
theorem d_JA_fill_13 : decode b_JA_fill 13 = .ok (.if_icmp .ge 14, 3) := by decide +kernel
theorem d_JA_fill_16 : decode b_JA_fill 16 = .ok (.aload_n 0, 1) := by decide +kernel
theorem d_JA_fill_17 : decode b_JA_fill 17 = .ok (.iload 4, 2) := by decide +kernel
theorem d_JA_fill_19 : decode b_JA_fill 19 = .ok (.iload_n 3, 1) := by decide +kernel
theorem d_JA_fill_20 : decode b_JA_fill 20 = .ok (.iastore, 1) := by decide +kernel
theorem d_JA_fill_21 : decode b_JA_fill 21 = .ok (.iinc 4 1, 3) := by decide +kernel
theorem d_JA_fill_24 : decode b_JA_fill 24 = .ok (.goto (-14), 3) := by decide +kernel
theorem d_JA_fill_27 : decode b_JA_fill 27 = .ok (.return_, 1) := by decide +kernel
theorem d_JA_rangeCheck_0 : decode b_JA_rangeCheck 0 = .ok (.iload_n 1, 1) := by decide +kernel
theorem d_JA_rangeCheck_1 : decode b_JA_rangeCheck 1 = .ok (.iload_n 2, 1) := by decide +kernel
theorem d_JA_rangeCheck_2 : decode b_JA_rangeCheck 2 = .ok (.if_icmp .le 44, 3) := by decide +kernel
theorem d_JA_rangeCheck_5 : decode b_JA_rangeCheck 5 = .ok (.new 43, 3) := by decide +kernel
theorem d_JA_rangeCheck_8 : decode b_JA_rangeCheck 8 = .ok (.dup, 1) := by decide +kernel
theorem d_JA_rangeCheck_9 : decode b_JA_rangeCheck 9 = .ok (.new 45, 3) := by decide +kernel
theorem d_JA_rangeCheck_12 : decode b_JA_rangeCheck 12 = .ok (.dup, 1) := by decide +kernel
theorem d_JA_rangeCheck_13 : decode b_JA_rangeCheck 13 = .ok (.invokespecial 47, 3) := by decide +kernel
theorem d_JA_rangeCheck_16 : decode b_JA_rangeCheck 16 = .ok (.ldc 48, 2) := by decide +kernel
theorem d_JA_rangeCheck_18 : decode b_JA_rangeCheck 18 = .ok (.invokevirtual 50, 3) := by decide +kernel
theorem d_JA_rangeCheck_21 : decode b_JA_rangeCheck 21 = .ok (.iload_n 1, 1) := by decide +kernel
theorem d_JA_rangeCheck_22 : decode b_JA_rangeCheck 22 = .ok (.invokevirtual 54, 3) := by decide +kernel
theorem d_JA_rangeCheck_25 : decode b_JA_rangeCheck 25 = .ok (.ldc 57, 2) := by decide +kernel
theorem d_JA_rangeCheck_27 : decode b_JA_rangeCheck 27 = .ok (.invokevirtual 50, 3) := by decide +kernel
theorem d_JA_rangeCheck_30 : decode b_JA_rangeCheck 30 = .ok (.iload_n 2, 1) := by decide +kernel
theorem d_JA_rangeCheck_31 : decode b_JA_rangeCheck 31 = .ok (.invokevirtual 54, 3) := by decide +kernel
theorem d_JA_rangeCheck_34 : decode b_JA_rangeCheck 34 = .ok (.ldc 59, 2) := by decide +kernel
theorem d_JA_rangeCheck_36 : decode b_JA_rangeCheck 36 = .ok (.invokevirtual 50, 3) := by decide +kernel
theorem d_JA_rangeCheck_39 : decode b_JA_rangeCheck 39 = .ok (.invokevirtual 61, 3) := by decide +kernel
theorem d_JA_rangeCheck_42 : decode b_JA_rangeCheck 42 = .ok (.invokespecial 65, 3) := by decide +kernel
theorem d_JA_rangeCheck_45 : decode b_JA_rangeCheck 45 = .ok (.athrow, 1) := by decide +kernel
theorem d_JA_rangeCheck_46 : decode b_JA_rangeCheck 46 = .ok (.iload_n 1, 1) := by decide +kernel
theorem d_JA_rangeCheck_47 : decode b_JA_rangeCheck 47 = .ok (.ifCond .ge 12, 3) := by decide +kernel
theorem d_JA_rangeCheck_50 : decode b_JA_rangeCheck 50 = .ok (.new 68, 3) := by decide +kernel
theorem d_JA_rangeCheck_53 : decode b_JA_rangeCheck 53 = .ok (.dup, 1) := by decide +kernel
theorem d_JA_rangeCheck_54 : decode b_JA_rangeCheck 54 = .ok (.iload_n 1, 1) := by decide +kernel
theorem d_JA_rangeCheck_55 : decode b_JA_rangeCheck 55 = .ok (.invokespecial 70, 3) := by decide +kernel
theorem d_JA_rangeCheck_58 : decode b_JA_rangeCheck 58 = .ok (.athrow, 1) := by decide +kernel
theorem d_JA_rangeCheck_59 : decode b_JA_rangeCheck 59 = .ok (.iload_n 2, 1) := by decide +kernel
theorem d_JA_rangeCheck_60 : decode b_JA_rangeCheck 60 = .ok (.iload_n 0, 1) := by decide +kernel
theorem d_JA_rangeCheck_61 : decode b_JA_rangeCheck 61 = .ok (.if_icmp .le 12, 3) := by decide +kernel
theorem d_JA_rangeCheck_64 : decode b_JA_rangeCheck 64 = .ok (.new 68, 3) := by decide +kernel
theorem d_JA_rangeCheck_67 : decode b_JA_rangeCheck 67 = .ok (.dup, 1) := by decide +kernel
theorem d_JA_rangeCheck_68 : decode b_JA_rangeCheck 68 = .ok (.iload_n 2, 1) := by decide +kernel
theorem d_JA_rangeCheck_69 : decode b_JA_rangeCheck 69 = .ok (.invokespecial 70, 3) := by decide +kernel
theorem d_JA_rangeCheck_72 : decode b_JA_rangeCheck 72 = .ok (.athrow, 1) := by decide +kernel
theorem d_JA_rangeCheck_73 : decode b_JA_rangeCheck 73 = .ok (.return_, 1) := by decide +kernel
theorem d_JI_bitCount_0 : decode b_JI_bitCount 0 = .ok (.iload_n 0, 1) := by decide +kernel
theorem d_JI_bitCount_1 : decode b_JI_bitCount 1 = .ok (.iload_n 0, 1) := by decide +kernel
theorem d_JI_bitCount_2 : decode b_JI_bitCount 2 = .ok (.iconst 1, 1) := by decide +kernel
theorem d_JI_bitCount_3 : decode b_JI_bitCount 3 = .ok (.iushr, 1) := by decide +kernel
theorem d_JI_bitCount_4 : decode b_JI_bitCount 4 = .ok (.ldc_w 265, 3) := by decide +kernel
theorem d_JI_bitCount_7 : decode b_JI_bitCount 7 = .ok (.iand, 1) := by decide +kernel
theorem d_JI_bitCount_8 : decode b_JI_bitCount 8 = .ok (.isub, 1) := by decide +kernel
theorem d_JI_bitCount_9 : decode b_JI_bitCount 9 = .ok (.istore_n 0, 1) := by decide +kernel
theorem d_JI_bitCount_10 : decode b_JI_bitCount 10 = .ok (.iload_n 0, 1) := by decide +kernel
theorem d_JI_bitCount_11 : decode b_JI_bitCount 11 = .ok (.ldc_w 266, 3) := by decide +kernel
theorem d_JI_bitCount_14 : decode b_JI_bitCount 14 = .ok (.iand, 1) := by decide +kernel
theorem d_JI_bitCount_15 : decode b_JI_bitCount 15 = .ok (.iload_n 0, 1) := by decide +kernel
theorem d_JI_bitCount_16 : decode b_JI_bitCount 16 = .ok (.iconst 2, 1) := by decide +kernel
theorem d_JI_bitCount_17 : decode b_JI_bitCount 17 = .ok (.iushr, 1) := by decide +kernel
theorem d_JI_bitCount_18 : decode b_JI_bitCount 18 = .ok (.ldc_w 266, 3) := by decide +kernel
theorem d_JI_bitCount_21 : decode b_JI_bitCount 21 = .ok (.iand, 1) := by decide +kernel
theorem d_JI_bitCount_22 : decode b_JI_bitCount 22 = .ok (.iadd, 1) := by decide +kernel
theorem d_JI_bitCount_23 : decode b_JI_bitCount 23 = .ok (.istore_n 0, 1) := by decide +kernel
theorem d_JI_bitCount_24 : decode b_JI_bitCount 24 = .ok (.iload_n 0, 1) := by decide +kernel
theorem d_JI_bitCount_25 : decode b_JI_bitCount 25 = .ok (.iload_n 0, 1) := by decide +kernel
theorem d_JI_bitCount_26 : decode b_JI_bitCount 26 = .ok (.iconst 4, 1) := by decide +kernel
theorem d_JI_bitCount_27 : decode b_JI_bitCount 27 = .ok (.iushr, 1) := by decide +kernel
theorem d_JI_bitCount_28 : decode b_JI_bitCount 28 = .ok (.iadd, 1) := by decide +kernel
theorem d_JI_bitCount_29 : decode b_JI_bitCount 29 = .ok (.ldc_w 267, 3) := by decide +kernel
theorem d_JI_bitCount_32 : decode b_JI_bitCount 32 = .ok (.iand, 1) := by decide +kernel
theorem d_JI_bitCount_33 : decode b_JI_bitCount 33 = .ok (.istore_n 0, 1) := by decide +kernel
theorem d_JI_bitCount_34 : decode b_JI_bitCount 34 = .ok (.iload_n 0, 1) := by decide +kernel
theorem d_JI_bitCount_35 : decode b_JI_bitCount 35 = .ok (.iload_n 0, 1) := by decide +kernel
theorem d_JI_bitCount_36 : decode b_JI_bitCount 36 = .ok (.bipush 8, 2) := by decide +kernel
theorem d_JI_bitCount_38 : decode b_JI_bitCount 38 = .ok (.iushr, 1) := by decide +kernel
theorem d_JI_bitCount_39 : decode b_JI_bitCount 39 = .ok (.iadd, 1) := by decide +kernel
theorem d_JI_bitCount_40 : decode b_JI_bitCount 40 = .ok (.istore_n 0, 1) := by decide +kernel
theorem d_JI_bitCount_41 : decode b_JI_bitCount 41 = .ok (.iload_n 0, 1) := by decide +kernel
theorem d_JI_bitCount_42 : decode b_JI_bitCount 42 = .ok (.iload_n 0, 1) := by decide +kernel
theorem d_JI_bitCount_43 : decode b_JI_bitCount 43 = .ok (.bipush 16, 2) := by decide +kernel
theorem d_JI_bitCount_45 : decode b_JI_bitCount 45 = .ok (.iushr, 1) := by decide +kernel
theorem d_JI_bitCount_46 : decode b_JI_bitCount 46 = .ok (.iadd, 1) := by decide +kernel
theorem d_JI_bitCount_47 : decode b_JI_bitCount 47 = .ok (.istore_n 0, 1) := by decide +kernel
theorem d_JI_bitCount_48 : decode b_JI_bitCount 48 = .ok (.iload_n 0, 1) := by decide +kernel
theorem d_JI_bitCount_49 : decode b_JI_bitCount 49 = .ok (.bipush 63, 2) := by decide +kernel
theorem d_JI_bitCount_51 : decode b_JI_bitCount 51 = .ok (.iand, 1) := by decide +kernel
theorem d_JI_bitCount_52 : decode b_JI_bitCount 52 = .ok (.ireturn, 1) := by decide +kernel
theorem d_Rec_describe_0 : decode b_Rec_describe 0 = .ok (.aload_n 0, 1) := by decide +kernel
theorem d_Rec_describe_1 : decode b_Rec_describe 1 = .ok (.iload_n 1, 1) := by decide +kernel
theorem d_Rec_describe_2 : decode b_Rec_describe 2 = .ok (.putfield 21, 3) := by decide +kernel
theorem d_Rec_describe_5 : decode b_Rec_describe 5 = .ok (.aload_n 0, 1) := by decide +kernel
theorem d_Rec_describe_6 : decode b_Rec_describe 6 = .ok (.iload_n 2, 1) := by decide +kernel
theorem d_Rec_describe_7 : decode b_Rec_describe 7 = .ok (.putfield 24, 3) := by decide +kernel
theorem d_Rec_describe_10 : decode b_Rec_describe 10 = .ok (.aload_n 0, 1) := by decide +kernel
theorem d_Rec_describe_11 : decode b_Rec_describe 11 = .ok (.iload_n 3, 1) := by decide +kernel
theorem d_Rec_describe_12 : decode b_Rec_describe 12 = .ok (.putfield 27, 3) := by decide +kernel
theorem d_Rec_describe_15 : decode b_Rec_describe 15 = .ok (.aload_n 0, 1) := by decide +kernel
theorem d_Rec_describe_16 : decode b_Rec_describe 16 = .ok (.lload 4, 2) := by decide +kernel
theorem d_Rec_describe_18 : decode b_Rec_describe 18 = .ok (.putfield 30, 3) := by decide +kernel
theorem d_Rec_describe_21 : decode b_Rec_describe 21 = .ok (.return_, 1) := by decide +kernel
theorem d_Rec_field_0 : decode b_Rec_field 0 = .ok (.iload_n 1, 1) := by decide +kernel
theorem d_Rec_field_1 : decode b_Rec_field 1 = .ok (.tableswitch 69 0 5 #[39, 44, 49, 54, 59, 64], 39) := by decide +kernel
theorem d_Rec_field_40 : decode b_Rec_field 40 = .ok (.aload_n 0, 1) := by decide +kernel
theorem d_Rec_field_41 : decode b_Rec_field 41 = .ok (.getfield 9, 3) := by decide +kernel
theorem d_Rec_field_44 : decode b_Rec_field 44 = .ok (.ireturn, 1) := by decide +kernel
theorem d_Rec_field_45 : decode b_Rec_field 45 = .ok (.aload_n 0, 1) := by decide +kernel
theorem d_Rec_field_46 : decode b_Rec_field 46 = .ok (.getfield 15, 3) := by decide +kernel
theorem d_Rec_field_49 : decode b_Rec_field 49 = .ok (.ireturn, 1) := by decide +kernel
theorem d_Rec_field_50 : decode b_Rec_field 50 = .ok (.aload_n 0, 1) := by decide +kernel
theorem d_Rec_field_51 : decode b_Rec_field 51 = .ok (.getfield 21, 3) := by decide +kernel
theorem d_Rec_field_54 : decode b_Rec_field 54 = .ok (.ireturn, 1) := by decide +kernel
theorem d_Rec_field_55 : decode b_Rec_field 55 = .ok (.aload_n 0, 1) := by decide +kernel
theorem d_Rec_field_56 : decode b_Rec_field 56 = .ok (.getfield 18, 3) := by decide +kernel
theorem d_Rec_field_59 : decode b_Rec_field 59 = .ok (.ireturn, 1) := by decide +kernel
theorem d_Rec_field_60 : decode b_Rec_field 60 = .ok (.aload_n 0, 1) := by decide +kernel
theorem d_Rec_field_61 : decode b_Rec_field 61 = .ok (.getfield 24, 3) := by decide +kernel
theorem d_Rec_field_64 : decode b_Rec_field 64 = .ok (.ireturn, 1) := by decide +kernel
theorem d_Rec_field_65 : decode b_Rec_field 65 = .ok (.aload_n 0, 1) := by decide +kernel
theorem d_Rec_field_66 : decode b_Rec_field 66 = .ok (.getfield 27, 3) := by decide +kernel
theorem d_Rec_field_69 : decode b_Rec_field 69 = .ok (.ireturn, 1) := by decide +kernel
theorem d_Rec_field_70 : decode b_Rec_field 70 = .ok (.iconst (-1), 1) := by decide +kernel
theorem d_Rec_field_71 : decode b_Rec_field 71 = .ok (.ireturn, 1) := by decide +kernel
theorem d_Rec_init_0 : decode b_Rec_init 0 = .ok (.aload_n 0, 1) := by decide +kernel
theorem d_Rec_init_1 : decode b_Rec_init 1 = .ok (.invokespecial 3, 3) := by decide +kernel
theorem d_Rec_init_4 : decode b_Rec_init 4 = .ok (.return_, 1) := by decide +kernel
theorem d_Rec_placeChunk_0 : decode b_Rec_placeChunk 0 = .ok (.aload_n 0, 1) := by decide +kernel
theorem d_Rec_placeChunk_1 : decode b_Rec_placeChunk 1 = .ok (.iload_n 1, 1) := by decide +kernel
theorem d_Rec_placeChunk_2 : decode b_Rec_placeChunk 2 = .ok (.putfield 9, 3) := by decide +kernel
theorem d_Rec_placeChunk_5 : decode b_Rec_placeChunk 5 = .ok (.aload_n 0, 1) := by decide +kernel
theorem d_Rec_placeChunk_6 : decode b_Rec_placeChunk 6 = .ok (.iload_n 2, 1) := by decide +kernel
theorem d_Rec_placeChunk_7 : decode b_Rec_placeChunk 7 = .ok (.putfield 15, 3) := by decide +kernel
theorem d_Rec_placeChunk_10 : decode b_Rec_placeChunk 10 = .ok (.aload_n 0, 1) := by decide +kernel
theorem d_Rec_placeChunk_11 : decode b_Rec_placeChunk 11 = .ok (.iload_n 3, 1) := by decide +kernel
theorem d_Rec_placeChunk_12 : decode b_Rec_placeChunk 12 = .ok (.putfield 18, 3) := by decide +kernel
theorem d_Rec_placeChunk_15 : decode b_Rec_placeChunk 15 = .ok (.return_, 1) := by decide +kernel
theorem d_Rep_ancestorsOf_0 : decode b_Rep_ancestorsOf 0 = .ok (.iconst 1, 1) := by decide +kernel
theorem d_Rep_ancestorsOf_1 : decode b_Rep_ancestorsOf 1 = .ok (.iload_n 1, 1) := by decide +kernel
theorem d_Rep_ancestorsOf_2 : decode b_Rep_ancestorsOf 2 = .ok (.ishl, 1) := by decide +kernel
theorem d_Rep_ancestorsOf_3 : decode b_Rep_ancestorsOf 3 = .ok (.istore_n 2, 1) := by decide +kernel
theorem d_Rep_ancestorsOf_4 : decode b_Rep_ancestorsOf 4 = .ok (.iload_n 1, 1) := by decide +kernel
theorem d_Rep_ancestorsOf_5 : decode b_Rep_ancestorsOf 5 = .ok (.istore_n 3, 1) := by decide +kernel
theorem d_Rep_ancestorsOf_6 : decode b_Rep_ancestorsOf 6 = .ok (.iload_n 3, 1) := by decide +kernel
theorem d_Rep_ancestorsOf_7 : decode b_Rep_ancestorsOf 7 = .ok (.ifCond .lt 25, 3) := by decide +kernel
theorem d_Rep_ancestorsOf_10 : decode b_Rep_ancestorsOf 10 = .ok (.iload_n 2, 1) := by decide +kernel
theorem d_Rep_ancestorsOf_11 : decode b_Rep_ancestorsOf 11 = .ok (.iload_n 3, 1) := by decide +kernel
theorem d_Rep_ancestorsOf_12 : decode b_Rep_ancestorsOf 12 = .ok (.ishr, 1) := by decide +kernel
theorem d_Rep_ancestorsOf_13 : decode b_Rep_ancestorsOf 13 = .ok (.iconst 1, 1) := by decide +kernel
theorem d_Rep_ancestorsOf_14 : decode b_Rep_ancestorsOf 14 = .ok (.iand, 1) := by decide +kernel
theorem d_Rep_ancestorsOf_15 : decode b_Rep_ancestorsOf 15 = .ok (.ifCond .eq 11, 3) := by decide +kernel
theorem d_Rep_ancestorsOf_18 : decode b_Rep_ancestorsOf 18 = .ok (.iload_n 2, 1) := by decide +kernel
theorem d_Rep_ancestorsOf_19 : decode b_Rep_ancestorsOf 19 = .ok (.aload_n 0, 1) := by decide +kernel
theorem d_Rep_ancestorsOf_20 : decode b_Rep_ancestorsOf 20 = .ok (.iload_n 3, 1) := by decide +kernel
theorem d_Rep_ancestorsOf_21 : decode b_Rep_ancestorsOf 21 = .ok (.invokevirtual 200, 3) := by decide +kernel
theorem d_Rep_ancestorsOf_24 : decode b_Rep_ancestorsOf 24 = .ok (.ior, 1) := by decide +kernel
theorem d_Rep_ancestorsOf_25 : decode b_Rep_ancestorsOf 25 = .ok (.istore_n 2, 1) := by decide +kernel
theorem d_Rep_ancestorsOf_26 : decode b_Rep_ancestorsOf 26 = .ok (.iinc 3 (-1), 3) := by decide +kernel
theorem d_Rep_ancestorsOf_29 : decode b_Rep_ancestorsOf 29 = .ok (.goto (-23), 3) := by decide +kernel
theorem d_Rep_ancestorsOf_32 : decode b_Rep_ancestorsOf 32 = .ok (.iload_n 2, 1) := by decide +kernel
theorem d_Rep_ancestorsOf_33 : decode b_Rep_ancestorsOf 33 = .ok (.ireturn, 1) := by decide +kernel
theorem d_Rep_build_0 : decode b_Rep_build 0 = .ok (.iconst 0, 1) := by decide +kernel
theorem d_Rep_build_1 : decode b_Rep_build 1 = .ok (.istore_n 2, 1) := by decide +kernel
theorem d_Rep_build_2 : decode b_Rep_build 2 = .ok (.iload_n 1, 1) := by decide +kernel
theorem d_Rep_build_3 : decode b_Rep_build 3 = .ok (.istore_n 3, 1) := by decide +kernel
theorem d_Rep_build_4 : decode b_Rep_build 4 = .ok (.iload_n 3, 1) := by decide +kernel
theorem d_Rep_build_5 : decode b_Rep_build 5 = .ok (.iconst (-1), 1) := by decide +kernel
theorem d_Rep_build_6 : decode b_Rep_build 6 = .ok (.if_icmp .eq 32, 3) := by decide +kernel
theorem d_Rep_build_9 : decode b_Rep_build 9 = .ok (.iload_n 2, 1) := by decide +kernel
theorem d_Rep_build_10 : decode b_Rep_build 10 = .ok (.bipush 6, 2) := by decide +kernel
theorem d_Rep_build_12 : decode b_Rep_build 12 = .ok (.if_icmp .ge 26, 3) := by decide +kernel
theorem d_Rep_build_15 : decode b_Rep_build 15 = .ok (.aload_n 0, 1) := by decide +kernel
theorem d_Rep_build_16 : decode b_Rep_build 16 = .ok (.getfield 44, 3) := by decide +kernel
theorem d_Rep_build_19 : decode b_Rep_build 19 = .ok (.iload_n 2, 1) := by decide +kernel
theorem d_Rep_build_20 : decode b_Rep_build 20 = .ok (.iload_n 3, 1) := by decide +kernel
theorem d_Rep_build_21 : decode b_Rep_build 21 = .ok (.iastore, 1) := by decide +kernel
theorem d_Rep_build_22 : decode b_Rep_build 22 = .ok (.iinc 2 1, 3) := by decide +kernel
theorem d_Rep_build_25 : decode b_Rep_build 25 = .ok (.aload_n 0, 1) := by decide +kernel
theorem d_Rep_build_26 : decode b_Rep_build 26 = .ok (.getfield 22, 3) := by decide +kernel
theorem d_Rep_build_29 : decode b_Rep_build 29 = .ok (.iload_n 3, 1) := by decide +kernel
theorem d_Rep_build_30 : decode b_Rep_build 30 = .ok (.aaload, 1) := by decide +kernel
theorem d_Rep_build_31 : decode b_Rep_build 31 = .ok (.getfield 186, 3) := by decide +kernel
theorem d_Rep_build_34 : decode b_Rep_build 34 = .ok (.istore_n 3, 1) := by decide +kernel
theorem d_Rep_build_35 : decode b_Rep_build 35 = .ok (.goto (-31), 3) := by decide +kernel
theorem d_Rep_build_38 : decode b_Rep_build 38 = .ok (.aload_n 0, 1) := by decide +kernel
theorem d_Rep_build_39 : decode b_Rep_build 39 = .ok (.getfield 41, 3) := by decide +kernel
theorem d_Rep_build_42 : decode b_Rep_build 42 = .ok (.iconst 0, 1) := by decide +kernel
theorem d_Rep_build_43 : decode b_Rep_build 43 = .ok (.invokevirtual 71, 3) := by decide +kernel
theorem d_Rep_build_46 : decode b_Rep_build 46 = .ok (.iload_n 2, 1) := by decide +kernel
theorem d_Rep_build_47 : decode b_Rep_build 47 = .ok (.iconst 1, 1) := by decide +kernel
theorem d_Rep_build_48 : decode b_Rep_build 48 = .ok (.isub, 1) := by decide +kernel
theorem d_Rep_build_49 : decode b_Rep_build 49 = .ok (.istore 4, 2) := by decide +kernel
theorem d_Rep_build_51 : decode b_Rep_build 51 = .ok (.iload 4, 2) := by decide +kernel
theorem d_Rep_build_53 : decode b_Rep_build 53 = .ok (.ifCond .lt 86, 3) := by decide +kernel
theorem d_Rep_build_56 : decode b_Rep_build 56 = .ok (.aload_n 0, 1) := by decide +kernel
theorem d_Rep_build_57 : decode b_Rep_build 57 = .ok (.getfield 22, 3) := by decide +kernel
theorem d_Rep_build_60 : decode b_Rep_build 60 = .ok (.aload_n 0, 1) := by decide +kernel
theorem d_Rep_build_61 : decode b_Rep_build 61 = .ok (.getfield 44, 3) := by decide +kernel
theorem d_Rep_build_64 : decode b_Rep_build 64 = .ok (.iload 4, 2) := by decide +kernel
theorem d_Rep_build_66 : decode b_Rep_build 66 = .ok (.iaload, 1) := by decide +kernel
theorem d_Rep_build_67 : decode b_Rep_build 67 = .ok (.aaload, 1) := by decide +kernel
theorem d_Rep_build_68 : decode b_Rep_build 68 = .ok (.astore 5, 2) := by decide +kernel
theorem d_Rep_build_70 : decode b_Rep_build 70 = .ok (.aload 5, 2) := by decide +kernel
theorem d_Rep_build_72 : decode b_Rep_build 72 = .ok (.getfield 186, 3) := by decide +kernel
theorem d_Rep_build_75 : decode b_Rep_build 75 = .ok (.iconst (-1), 1) := by decide +kernel
theorem d_Rep_build_76 : decode b_Rep_build 76 = .ok (.if_icmp .ne 27, 3) := by decide +kernel
theorem d_Rep_build_79 : decode b_Rep_build 79 = .ok (.aload_n 0, 1) := by decide +kernel
theorem d_Rep_build_80 : decode b_Rep_build 80 = .ok (.getfield 14, 3) := by decide +kernel
theorem d_Rep_build_83 : decode b_Rep_build 83 = .ok (.aload 5, 2) := by decide +kernel
theorem d_Rep_build_85 : decode b_Rep_build 85 = .ok (.getfield 189, 3) := by decide +kernel
theorem d_Rep_build_88 : decode b_Rep_build 88 = .ok (.aload 5, 2) := by decide +kernel
theorem d_Rep_build_90 : decode b_Rep_build 90 = .ok (.getfield 183, 3) := by decide +kernel
theorem d_Rep_build_93 : decode b_Rep_build 93 = .ok (.aload_n 0, 1) := by decide +kernel
theorem d_Rep_build_94 : decode b_Rep_build 94 = .ok (.getfield 41, 3) := by decide +kernel
theorem d_Rep_build_97 : decode b_Rep_build 97 = .ok (.invokestatic 192, 3) := by decide +kernel
theorem d_Rep_build_100 : decode b_Rep_build 100 = .ok (.goto 24, 3) := by decide +kernel
theorem d_Rep_build_103 : decode b_Rep_build 103 = .ok (.aload_n 0, 1) := by decide +kernel
theorem d_Rep_build_104 : decode b_Rep_build 104 = .ok (.getfield 14, 3) := by decide +kernel
theorem d_Rep_build_107 : decode b_Rep_build 107 = .ok (.aload 5, 2) := by decide +kernel
theorem d_Rep_build_109 : decode b_Rep_build 109 = .ok (.getfield 189, 3) := by decide +kernel
theorem d_Rep_build_112 : decode b_Rep_build 112 = .ok (.aload 5, 2) := by decide +kernel
theorem d_Rep_build_114 : decode b_Rep_build 114 = .ok (.getfield 183, 3) := by decide +kernel
theorem d_Rep_build_117 : decode b_Rep_build 117 = .ok (.aload_n 0, 1) := by decide +kernel
theorem d_Rep_build_118 : decode b_Rep_build 118 = .ok (.getfield 41, 3) := by decide +kernel
theorem d_Rep_build_121 : decode b_Rep_build 121 = .ok (.invokestatic 196, 3) := by decide +kernel
theorem d_Rep_build_124 : decode b_Rep_build 124 = .ok (.istore 6, 2) := by decide +kernel
theorem d_Rep_build_126 : decode b_Rep_build 126 = .ok (.iload 6, 2) := by decide +kernel
theorem d_Rep_build_128 : decode b_Rep_build 128 = .ok (.ifCond .ne 5, 3) := by decide +kernel
theorem d_Rep_build_131 : decode b_Rep_build 131 = .ok (.iconst 0, 1) := by decide +kernel
theorem d_Rep_build_132 : decode b_Rep_build 132 = .ok (.ireturn, 1) := by decide +kernel
theorem d_Rep_build_133 : decode b_Rep_build 133 = .ok (.iinc 4 (-1), 3) := by decide +kernel
theorem d_Rep_build_136 : decode b_Rep_build 136 = .ok (.goto (-85), 3) := by decide +kernel
theorem d_Rep_build_139 : decode b_Rep_build 139 = .ok (.aload_n 0, 1) := by decide +kernel
theorem d_Rep_build_140 : decode b_Rep_build 140 = .ok (.getfield 22, 3) := by decide +kernel
theorem d_Rep_build_143 : decode b_Rep_build 143 = .ok (.iload_n 1, 1) := by decide +kernel
theorem d_Rep_build_144 : decode b_Rep_build 144 = .ok (.aaload, 1) := by decide +kernel
theorem d_Rep_build_145 : decode b_Rep_build 145 = .ok (.astore 4, 2) := by decide +kernel
theorem d_Rep_build_147 : decode b_Rep_build 147 = .ok (.aload_n 0, 1) := by decide +kernel
theorem d_Rep_build_148 : decode b_Rep_build 148 = .ok (.getfield 41, 3) := by decide +kernel
theorem d_Rep_build_151 : decode b_Rep_build 151 = .ok (.getfield 62, 3) := by decide +kernel
theorem d_Rep_build_154 : decode b_Rep_build 154 = .ok (.aload 4, 2) := by decide +kernel
theorem d_Rep_build_156 : decode b_Rep_build 156 = .ok (.getfield 199, 3) := by decide +kernel
theorem d_Rep_build_159 : decode b_Rep_build 159 = .ok (.if_icmp .ne 34, 3) := by decide +kernel
theorem d_Rep_build_162 : decode b_Rep_build 162 = .ok (.aload_n 0, 1) := by decide +kernel
theorem d_Rep_build_163 : decode b_Rep_build 163 = .ok (.aload_n 0, 1) := by decide +kernel
theorem d_Rep_build_164 : decode b_Rep_build 164 = .ok (.getfield 41, 3) := by decide +kernel
theorem d_Rep_build_167 : decode b_Rep_build 167 = .ok (.aload 4, 2) := by decide +kernel
theorem d_Rep_build_169 : decode b_Rep_build 169 = .ok (.getfield 95, 3) := by decide +kernel
theorem d_Rep_build_172 : decode b_Rep_build 172 = .ok (.aload 4, 2) := by decide +kernel
theorem d_Rep_build_174 : decode b_Rep_build 174 = .ok (.getfield 102, 3) := by decide +kernel
theorem d_Rep_build_177 : decode b_Rep_build 177 = .ok (.invokevirtual 112, 3) := by decide +kernel
theorem d_Rep_build_180 : decode b_Rep_build 180 = .ok (.aload 4, 2) := by decide +kernel
theorem d_Rep_build_182 : decode b_Rep_build 182 = .ok (.getfield 84, 3) := by decide +kernel
theorem d_Rep_build_185 : decode b_Rep_build 185 = .ok (.lcmp, 1) := by decide +kernel
theorem d_Rep_build_186 : decode b_Rep_build 186 = .ok (.ifCond .ne 7, 3) := by decide +kernel
theorem d_Rep_build_189 : decode b_Rep_build 189 = .ok (.iconst 1, 1) := by decide +kernel
theorem d_Rep_build_190 : decode b_Rep_build 190 = .ok (.goto 4, 3) := by decide +kernel
theorem d_Rep_build_193 : decode b_Rep_build 193 = .ok (.iconst 0, 1) := by decide +kernel
theorem d_Rep_build_194 : decode b_Rep_build 194 = .ok (.ireturn, 1) := by decide +kernel
theorem d_Rep_canBeParent_0 : decode b_Rep_canBeParent 0 = .ok (.iload_n 1, 1) := by decide +kernel
theorem d_Rep_canBeParent_1 : decode b_Rep_canBeParent 1 = .ok (.iconst (-1), 1) := by decide +kernel
theorem d_Rep_canBeParent_2 : decode b_Rep_canBeParent 2 = .ok (.if_icmp .eq 11, 3) := by decide +kernel
theorem d_Rep_canBeParent_5 : decode b_Rep_canBeParent 5 = .ok (.aload_n 0, 1) := by decide +kernel
theorem d_Rep_canBeParent_6 : decode b_Rep_canBeParent 6 = .ok (.iload_n 1, 1) := by decide +kernel
theorem d_Rep_canBeParent_7 : decode b_Rep_canBeParent 7 = .ok (.invokevirtual 54, 3) := by decide +kernel
theorem d_Rep_canBeParent_10 : decode b_Rep_canBeParent 10 = .ok (.ifCond .eq 7, 3) := by decide +kernel
theorem d_Rep_canBeParent_13 : decode b_Rep_canBeParent 13 = .ok (.iconst 1, 1) := by decide +kernel
theorem d_Rep_canBeParent_14 : decode b_Rep_canBeParent 14 = .ok (.goto 4, 3) := by decide +kernel
theorem d_Rep_canBeParent_17 : decode b_Rep_canBeParent 17 = .ok (.iconst 0, 1) := by decide +kernel
theorem d_Rep_canBeParent_18 : decode b_Rep_canBeParent 18 = .ok (.ireturn, 1) := by decide +kernel
theorem d_Rep_chainFits_0 : decode b_Rep_chainFits 0 = .ok (.iconst 1, 1) := by decide +kernel
theorem d_Rep_chainFits_1 : decode b_Rep_chainFits 1 = .ok (.istore_n 3, 1) := by decide +kernel
theorem d_Rep_chainFits_2 : decode b_Rep_chainFits 2 = .ok (.aload_n 0, 1) := by decide +kernel
theorem d_Rep_chainFits_3 : decode b_Rep_chainFits 3 = .ok (.getfield 51, 3) := by decide +kernel
theorem d_Rep_chainFits_6 : decode b_Rep_chainFits 6 = .ok (.getfield 62, 3) := by decide +kernel
theorem d_Rep_chainFits_9 : decode b_Rep_chainFits 9 = .ok (.istore 4, 2) := by decide +kernel
theorem d_Rep_chainFits_11 : decode b_Rep_chainFits 11 = .ok (.iload_n 1, 1) := by decide +kernel
theorem d_Rep_chainFits_12 : decode b_Rep_chainFits 12 = .ok (.istore 5, 2) := by decide +kernel
theorem d_Rep_chainFits_14 : decode b_Rep_chainFits 14 = .ok (.iload 5, 2) := by decide +kernel
theorem d_Rep_chainFits_16 : decode b_Rep_chainFits 16 = .ok (.iconst (-1), 1) := by decide +kernel
theorem d_Rep_chainFits_17 : decode b_Rep_chainFits 17 = .ok (.if_icmp .eq 42, 3) := by decide +kernel
theorem d_Rep_chainFits_20 : decode b_Rep_chainFits 20 = .ok (.iload_n 3, 1) := by decide +kernel
theorem d_Rep_chainFits_21 : decode b_Rep_chainFits 21 = .ok (.bipush 6, 2) := by decide +kernel
theorem d_Rep_chainFits_23 : decode b_Rep_chainFits 23 = .ok (.if_icmp .ge 36, 3) := by decide +kernel
theorem d_Rep_chainFits_26 : decode b_Rep_chainFits 26 = .ok (.iinc 3 1, 3) := by decide +kernel
theorem d_Rep_chainFits_29 : decode b_Rep_chainFits 29 = .ok (.iload 4, 2) := by decide +kernel
theorem d_Rep_chainFits_31 : decode b_Rep_chainFits 31 = .ok (.aload_n 0, 1) := by decide +kernel
theorem d_Rep_chainFits_32 : decode b_Rep_chainFits 32 = .ok (.getfield 22, 3) := by decide +kernel
theorem d_Rep_chainFits_35 : decode b_Rep_chainFits 35 = .ok (.iload 5, 2) := by decide +kernel
theorem d_Rep_chainFits_37 : decode b_Rep_chainFits 37 = .ok (.aaload, 1) := by decide +kernel
theorem d_Rep_chainFits_38 : decode b_Rep_chainFits 38 = .ok (.getfield 183, 3) := by decide +kernel
theorem d_Rep_chainFits_41 : decode b_Rep_chainFits 41 = .ok (.iadd, 1) := by decide +kernel
theorem d_Rep_chainFits_42 : decode b_Rep_chainFits 42 = .ok (.istore 4, 2) := by decide +kernel
theorem d_Rep_chainFits_44 : decode b_Rep_chainFits 44 = .ok (.aload_n 0, 1) := by decide +kernel
theorem d_Rep_chainFits_45 : decode b_Rep_chainFits 45 = .ok (.getfield 22, 3) := by decide +kernel
theorem d_Rep_chainFits_48 : decode b_Rep_chainFits 48 = .ok (.iload 5, 2) := by decide +kernel
theorem d_Rep_chainFits_50 : decode b_Rep_chainFits 50 = .ok (.aaload, 1) := by decide +kernel
theorem d_Rep_chainFits_51 : decode b_Rep_chainFits 51 = .ok (.getfield 186, 3) := by decide +kernel
theorem d_Rep_chainFits_54 : decode b_Rep_chainFits 54 = .ok (.istore 5, 2) := by decide +kernel
theorem d_Rep_chainFits_56 : decode b_Rep_chainFits 56 = .ok (.goto (-42), 3) := by decide +kernel
theorem d_Rep_chainFits_59 : decode b_Rep_chainFits 59 = .ok (.iload 5, 2) := by decide +kernel
theorem d_Rep_chainFits_61 : decode b_Rep_chainFits 61 = .ok (.iconst (-1), 1) := by decide +kernel
theorem d_Rep_chainFits_62 : decode b_Rep_chainFits 62 = .ok (.if_icmp .ne 18, 3) := by decide +kernel
theorem d_Rep_chainFits_65 : decode b_Rep_chainFits 65 = .ok (.iload 4, 2) := by decide +kernel
theorem d_Rep_chainFits_67 : decode b_Rep_chainFits 67 = .ok (.iconst 2, 1) := by decide +kernel
theorem d_Rep_chainFits_68 : decode b_Rep_chainFits 68 = .ok (.iload_n 2, 1) := by decide +kernel
theorem d_Rep_chainFits_69 : decode b_Rep_chainFits 69 = .ok (.imul, 1) := by decide +kernel
theorem d_Rep_chainFits_70 : decode b_Rep_chainFits 70 = .ok (.bipush 16, 2) := by decide +kernel
theorem d_Rep_chainFits_72 : decode b_Rep_chainFits 72 = .ok (.iadd, 1) := by decide +kernel
theorem d_Rep_chainFits_73 : decode b_Rep_chainFits 73 = .ok (.if_icmp .gt 7, 3) := by decide +kernel
theorem d_Rep_chainFits_76 : decode b_Rep_chainFits 76 = .ok (.iconst 1, 1) := by decide +kernel
theorem d_Rep_chainFits_77 : decode b_Rep_chainFits 77 = .ok (.goto 4, 3) := by decide +kernel
theorem d_Rep_chainFits_80 : decode b_Rep_chainFits 80 = .ok (.iconst 0, 1) := by decide +kernel
theorem d_Rep_chainFits_81 : decode b_Rep_chainFits 81 = .ok (.ireturn, 1) := by decide +kernel
theorem d_Rep_chooseChunk_0 : decode b_Rep_chooseChunk 0 = .ok (.aload_n 1, 1) := by decide +kernel
theorem d_Rep_chooseChunk_1 : decode b_Rep_chooseChunk 1 = .ok (.aload_n 0, 1) := by decide +kernel
theorem d_Rep_chooseChunk_2 : decode b_Rep_chooseChunk 2 = .ok (.getfield 48, 3) := by decide +kernel
theorem d_Rep_chooseChunk_5 : decode b_Rep_chooseChunk 5 = .ok (.invokestatic 162, 3) := by decide +kernel
theorem d_Rep_chooseChunk_8 : decode b_Rep_chooseChunk 8 = .ok (.aload_n 1, 1) := by decide +kernel
theorem d_Rep_chooseChunk_9 : decode b_Rep_chooseChunk 9 = .ok (.aload_n 0, 1) := by decide +kernel
theorem d_Rep_chooseChunk_10 : decode b_Rep_chooseChunk 10 = .ok (.getfield 51, 3) := by decide +kernel
theorem d_Rep_chooseChunk_13 : decode b_Rep_chooseChunk 13 = .ok (.invokestatic 168, 3) := by decide +kernel
theorem d_Rep_chooseChunk_16 : decode b_Rep_chooseChunk 16 = .ok (.aload_n 0, 1) := by decide +kernel
theorem d_Rep_chooseChunk_17 : decode b_Rep_chooseChunk 17 = .ok (.getfield 51, 3) := by decide +kernel
theorem d_Rep_chooseChunk_20 : decode b_Rep_chooseChunk 20 = .ok (.getfield 62, 3) := by decide +kernel
theorem d_Rep_chooseChunk_23 : decode b_Rep_chooseChunk 23 = .ok (.aload_n 0, 1) := by decide +kernel
theorem d_Rep_chooseChunk_24 : decode b_Rep_chooseChunk 24 = .ok (.getfield 48, 3) := by decide +kernel
theorem d_Rep_chooseChunk_27 : decode b_Rep_chooseChunk 27 = .ok (.getfield 62, 3) := by decide +kernel
theorem d_Rep_chooseChunk_30 : decode b_Rep_chooseChunk 30 = .ok (.if_icmp .ge 14, 3) := by decide +kernel
theorem d_Rep_chooseChunk_33 : decode b_Rep_chooseChunk 33 = .ok (.aload_n 0, 1) := by decide +kernel
theorem d_Rep_chooseChunk_34 : decode b_Rep_chooseChunk 34 = .ok (.getfield 48, 3) := by decide +kernel
theorem d_Rep_chooseChunk_37 : decode b_Rep_chooseChunk 37 = .ok (.aload_n 0, 1) := by decide +kernel
theorem d_Rep_chooseChunk_38 : decode b_Rep_chooseChunk 38 = .ok (.getfield 51, 3) := by decide +kernel
theorem d_Rep_chooseChunk_41 : decode b_Rep_chooseChunk 41 = .ok (.invokevirtual 171, 3) := by decide +kernel
theorem d_Rep_chooseChunk_44 : decode b_Rep_chooseChunk 44 = .ok (.iconst (-1), 1) := by decide +kernel
theorem d_Rep_chooseChunk_45 : decode b_Rep_chooseChunk 45 = .ok (.istore 4, 2) := by decide +kernel
theorem d_Rep_chooseChunk_47 : decode b_Rep_chooseChunk 47 = .ok (.iconst 0, 1) := by decide +kernel
theorem d_Rep_chooseChunk_48 : decode b_Rep_chooseChunk 48 = .ok (.istore 5, 2) := by decide +kernel
theorem d_Rep_chooseChunk_50 : decode b_Rep_chooseChunk 50 = .ok (.iload 5, 2) := by decide +kernel
theorem d_Rep_chooseChunk_52 : decode b_Rep_chooseChunk 52 = .ok (.iconst 3, 1) := by decide +kernel
theorem d_Rep_chooseChunk_53 : decode b_Rep_chooseChunk 53 = .ok (.if_icmp .ge 108, 3) := by decide +kernel
theorem d_Rep_chooseChunk_56 : decode b_Rep_chooseChunk 56 = .ok (.iload 5, 2) := by decide +kernel
theorem d_Rep_chooseChunk_58 : decode b_Rep_chooseChunk 58 = .ok (.ifCond .ne 7, 3) := by decide +kernel
theorem d_Rep_chooseChunk_61 : decode b_Rep_chooseChunk 61 = .ok (.iload_n 2, 1) := by decide +kernel
theorem d_Rep_chooseChunk_62 : decode b_Rep_chooseChunk 62 = .ok (.goto 19, 3) := by decide +kernel
theorem d_Rep_chooseChunk_65 : decode b_Rep_chooseChunk 65 = .ok (.iload 5, 2) := by decide +kernel
theorem d_Rep_chooseChunk_67 : decode b_Rep_chooseChunk 67 = .ok (.iconst 1, 1) := by decide +kernel
theorem d_Rep_chooseChunk_68 : decode b_Rep_chooseChunk 68 = .ok (.if_icmp .ne 7, 3) := by decide +kernel
theorem d_Rep_chooseChunk_71 : decode b_Rep_chooseChunk 71 = .ok (.iload_n 3, 1) := by decide +kernel
theorem d_Rep_chooseChunk_72 : decode b_Rep_chooseChunk 72 = .ok (.goto 9, 3) := by decide +kernel
theorem d_Rep_chooseChunk_75 : decode b_Rep_chooseChunk 75 = .ok (.aload_n 0, 1) := by decide +kernel
theorem d_Rep_chooseChunk_76 : decode b_Rep_chooseChunk 76 = .ok (.getfield 27, 3) := by decide +kernel
theorem d_Rep_chooseChunk_79 : decode b_Rep_chooseChunk 79 = .ok (.iconst 1, 1) := by decide +kernel
theorem d_Rep_chooseChunk_80 : decode b_Rep_chooseChunk 80 = .ok (.isub, 1) := by decide +kernel
theorem d_Rep_chooseChunk_81 : decode b_Rep_chooseChunk 81 = .ok (.istore 6, 2) := by decide +kernel
theorem d_Rep_chooseChunk_83 : decode b_Rep_chooseChunk 83 = .ok (.iload 6, 2) := by decide +kernel
theorem d_Rep_chooseChunk_85 : decode b_Rep_chooseChunk 85 = .ok (.iconst (-1), 1) := by decide +kernel
theorem d_Rep_chooseChunk_86 : decode b_Rep_chooseChunk 86 = .ok (.if_icmp .eq 69, 3) := by decide +kernel
theorem d_Rep_chooseChunk_89 : decode b_Rep_chooseChunk 89 = .ok (.aload_n 0, 1) := by decide +kernel
theorem d_Rep_chooseChunk_90 : decode b_Rep_chooseChunk 90 = .ok (.iload 6, 2) := by decide +kernel
theorem d_Rep_chooseChunk_92 : decode b_Rep_chooseChunk 92 = .ok (.invokevirtual 92, 3) := by decide +kernel
theorem d_Rep_chooseChunk_95 : decode b_Rep_chooseChunk 95 = .ok (.ifCond .eq 60, 3) := by decide +kernel
theorem d_Rep_chooseChunk_98 : decode b_Rep_chooseChunk 98 = .ok (.aload_n 0, 1) := by decide +kernel
theorem d_Rep_chooseChunk_99 : decode b_Rep_chooseChunk 99 = .ok (.getfield 41, 3) := by decide +kernel
theorem d_Rep_chooseChunk_102 : decode b_Rep_chooseChunk 102 = .ok (.aload_n 1, 1) := by decide +kernel
theorem d_Rep_chooseChunk_103 : decode b_Rep_chooseChunk 103 = .ok (.aload_n 0, 1) := by decide +kernel
theorem d_Rep_chooseChunk_104 : decode b_Rep_chooseChunk 104 = .ok (.getfield 51, 3) := by decide +kernel
theorem d_Rep_chooseChunk_107 : decode b_Rep_chooseChunk 107 = .ok (.invokestatic 175, 3) := by decide +kernel
theorem d_Rep_chooseChunk_110 : decode b_Rep_chooseChunk 110 = .ok (.aload_n 0, 1) := by decide +kernel
theorem d_Rep_chooseChunk_111 : decode b_Rep_chooseChunk 111 = .ok (.getfield 51, 3) := by decide +kernel
theorem d_Rep_chooseChunk_114 : decode b_Rep_chooseChunk 114 = .ok (.getfield 62, 3) := by decide +kernel
theorem d_Rep_chooseChunk_117 : decode b_Rep_chooseChunk 117 = .ok (.aload_n 0, 1) := by decide +kernel
theorem d_Rep_chooseChunk_118 : decode b_Rep_chooseChunk 118 = .ok (.getfield 48, 3) := by decide +kernel
theorem d_Rep_chooseChunk_121 : decode b_Rep_chooseChunk 121 = .ok (.getfield 62, 3) := by decide +kernel
theorem d_Rep_chooseChunk_124 : decode b_Rep_chooseChunk 124 = .ok (.if_icmp .ge 31, 3) := by decide +kernel
theorem d_Rep_chooseChunk_127 : decode b_Rep_chooseChunk 127 = .ok (.aload_n 0, 1) := by decide +kernel
theorem d_Rep_chooseChunk_128 : decode b_Rep_chooseChunk 128 = .ok (.iload 6, 2) := by decide +kernel
theorem d_Rep_chooseChunk_130 : decode b_Rep_chooseChunk 130 = .ok (.aload_n 1, 1) := by decide +kernel
theorem d_Rep_chooseChunk_131 : decode b_Rep_chooseChunk 131 = .ok (.getfield 62, 3) := by decide +kernel
theorem d_Rep_chooseChunk_134 : decode b_Rep_chooseChunk 134 = .ok (.invokevirtual 179, 3) := by decide +kernel
theorem d_Rep_chooseChunk_137 : decode b_Rep_chooseChunk 137 = .ok (.ifCond .eq 18, 3) := by decide +kernel
theorem d_Rep_chooseChunk_140 : decode b_Rep_chooseChunk 140 = .ok (.aload_n 0, 1) := by decide +kernel
theorem d_Rep_chooseChunk_141 : decode b_Rep_chooseChunk 141 = .ok (.getfield 48, 3) := by decide +kernel
theorem d_Rep_chooseChunk_144 : decode b_Rep_chooseChunk 144 = .ok (.aload_n 0, 1) := by decide +kernel
theorem d_Rep_chooseChunk_145 : decode b_Rep_chooseChunk 145 = .ok (.getfield 51, 3) := by decide +kernel
theorem d_Rep_chooseChunk_148 : decode b_Rep_chooseChunk 148 = .ok (.invokevirtual 171, 3) := by decide +kernel
theorem d_Rep_chooseChunk_151 : decode b_Rep_chooseChunk 151 = .ok (.iload 6, 2) := by decide +kernel
theorem d_Rep_chooseChunk_153 : decode b_Rep_chooseChunk 153 = .ok (.istore 4, 2) := by decide +kernel
theorem d_Rep_chooseChunk_155 : decode b_Rep_chooseChunk 155 = .ok (.iinc 5 1, 3) := by decide +kernel
theorem d_Rep_chooseChunk_158 : decode b_Rep_chooseChunk 158 = .ok (.goto (-108), 3) := by decide +kernel
theorem d_Rep_chooseChunk_161 : decode b_Rep_chooseChunk 161 = .ok (.iload 4, 2) := by decide +kernel
theorem d_Rep_chooseChunk_163 : decode b_Rep_chooseChunk 163 = .ok (.ireturn, 1) := by decide +kernel
theorem d_Rep_comeUp_0 : decode b_Rep_comeUp 0 = .ok (.aload_n 0, 1) := by decide +kernel
theorem d_Rep_comeUp_1 : decode b_Rep_comeUp 1 = .ok (.iconst 0, 1) := by decide +kernel
theorem d_Rep_comeUp_2 : decode b_Rep_comeUp 2 = .ok (.putfield 35, 3) := by decide +kernel
theorem d_Rep_comeUp_5 : decode b_Rep_comeUp 5 = .ok (.aload_n 0, 1) := by decide +kernel
theorem d_Rep_comeUp_6 : decode b_Rep_comeUp 6 = .ok (.getfield 31, 3) := by decide +kernel
theorem d_Rep_comeUp_9 : decode b_Rep_comeUp 9 = .ok (.ifCond .ne 5, 3) := by decide +kernel
theorem d_Rep_comeUp_12 : decode b_Rep_comeUp 12 = .ok (.iconst 0, 1) := by decide +kernel
theorem d_Rep_comeUp_13 : decode b_Rep_comeUp 13 = .ok (.ireturn, 1) := by decide +kernel
theorem d_Rep_comeUp_14 : decode b_Rep_comeUp 14 = .ok (.aload_n 0, 1) := by decide +kernel
theorem d_Rep_comeUp_15 : decode b_Rep_comeUp 15 = .ok (.iload_n 1, 1) := by decide +kernel
theorem d_Rep_comeUp_16 : decode b_Rep_comeUp 16 = .ok (.putfield 38, 3) := by decide +kernel
theorem d_Rep_comeUp_19 : decode b_Rep_comeUp 19 = .ok (.aload_n 0, 1) := by decide +kernel
theorem d_Rep_comeUp_20 : decode b_Rep_comeUp 20 = .ok (.invokevirtual 77, 3) := by decide +kernel
theorem d_Rep_comeUp_23 : decode b_Rep_comeUp 23 = .ok (.ireturn, 1) := by decide +kernel
theorem d_Rep_countHeads_0 : decode b_Rep_countHeads 0 = .ok (.iconst 0, 1) := by decide +kernel
theorem d_Rep_countHeads_1 : decode b_Rep_countHeads 1 = .ok (.istore_n 1, 1) := by decide +kernel
theorem d_Rep_countHeads_2 : decode b_Rep_countHeads 2 = .ok (.iconst 0, 1) := by decide +kernel
theorem d_Rep_countHeads_3 : decode b_Rep_countHeads 3 = .ok (.istore_n 2, 1) := by decide +kernel
theorem d_Rep_countHeads_4 : decode b_Rep_countHeads 4 = .ok (.iload_n 2, 1) := by decide +kernel
theorem d_Rep_countHeads_5 : decode b_Rep_countHeads 5 = .ok (.aload_n 0, 1) := by decide +kernel
theorem d_Rep_countHeads_6 : decode b_Rep_countHeads 6 = .ok (.getfield 27, 3) := by decide +kernel
theorem d_Rep_countHeads_9 : decode b_Rep_countHeads 9 = .ok (.if_icmp .ge 17, 3) := by decide +kernel
theorem d_Rep_countHeads_12 : decode b_Rep_countHeads 12 = .ok (.iload_n 1, 1) := by decide +kernel
theorem d_Rep_countHeads_13 : decode b_Rep_countHeads 13 = .ok (.aload_n 0, 1) := by decide +kernel
theorem d_Rep_countHeads_14 : decode b_Rep_countHeads 14 = .ok (.iload_n 2, 1) := by decide +kernel
theorem d_Rep_countHeads_15 : decode b_Rep_countHeads 15 = .ok (.invokevirtual 200, 3) := by decide +kernel
theorem d_Rep_countHeads_18 : decode b_Rep_countHeads 18 = .ok (.ior, 1) := by decide +kernel
theorem d_Rep_countHeads_19 : decode b_Rep_countHeads 19 = .ok (.istore_n 1, 1) := by decide +kernel
theorem d_Rep_countHeads_20 : decode b_Rep_countHeads 20 = .ok (.iinc 2 1, 3) := by decide +kernel
theorem d_Rep_countHeads_23 : decode b_Rep_countHeads 23 = .ok (.goto (-19), 3) := by decide +kernel
theorem d_Rep_countHeads_26 : decode b_Rep_countHeads 26 = .ok (.aload_n 0, 1) := by decide +kernel
theorem d_Rep_countHeads_27 : decode b_Rep_countHeads 27 = .ok (.getfield 27, 3) := by decide +kernel
theorem d_Rep_countHeads_30 : decode b_Rep_countHeads 30 = .ok (.iload_n 1, 1) := by decide +kernel
theorem d_Rep_countHeads_31 : decode b_Rep_countHeads 31 = .ok (.invokestatic 203, 3) := by decide +kernel
theorem d_Rep_countHeads_34 : decode b_Rep_countHeads 34 = .ok (.isub, 1) := by decide +kernel
theorem d_Rep_countHeads_35 : decode b_Rep_countHeads 35 = .ok (.ireturn, 1) := by decide +kernel
theorem d_Rep_countWrong_0 : decode b_Rep_countWrong 0 = .ok (.iconst 0, 1) := by decide +kernel
theorem d_Rep_countWrong_1 : decode b_Rep_countWrong 1 = .ok (.istore_n 1, 1) := by decide +kernel
theorem d_Rep_countWrong_2 : decode b_Rep_countWrong 2 = .ok (.iconst 0, 1) := by decide +kernel
theorem d_Rep_countWrong_3 : decode b_Rep_countWrong 3 = .ok (.istore_n 2, 1) := by decide +kernel
theorem d_Rep_countWrong_4 : decode b_Rep_countWrong 4 = .ok (.iload_n 2, 1) := by decide +kernel
theorem d_Rep_countWrong_5 : decode b_Rep_countWrong 5 = .ok (.aload_n 0, 1) := by decide +kernel
theorem d_Rep_countWrong_6 : decode b_Rep_countWrong 6 = .ok (.getfield 27, 3) := by decide +kernel
theorem d_Rep_countWrong_9 : decode b_Rep_countWrong 9 = .ok (.if_icmp .ge 20, 3) := by decide +kernel
theorem d_Rep_countWrong_12 : decode b_Rep_countWrong 12 = .ok (.aload_n 0, 1) := by decide +kernel
theorem d_Rep_countWrong_13 : decode b_Rep_countWrong 13 = .ok (.iload_n 2, 1) := by decide +kernel
theorem d_Rep_countWrong_14 : decode b_Rep_countWrong 14 = .ok (.invokevirtual 92, 3) := by decide +kernel
theorem d_Rep_countWrong_17 : decode b_Rep_countWrong 17 = .ok (.ifCond .ne 6, 3) := by decide +kernel
theorem d_Rep_countWrong_20 : decode b_Rep_countWrong 20 = .ok (.iinc 1 1, 3) := by decide +kernel
theorem d_Rep_countWrong_23 : decode b_Rep_countWrong 23 = .ok (.iinc 2 1, 3) := by decide +kernel
theorem d_Rep_countWrong_26 : decode b_Rep_countWrong 26 = .ok (.goto (-22), 3) := by decide +kernel
theorem d_Rep_countWrong_29 : decode b_Rep_countWrong 29 = .ok (.iload_n 1, 1) := by decide +kernel
theorem d_Rep_countWrong_30 : decode b_Rep_countWrong 30 = .ok (.ireturn, 1) := by decide +kernel
theorem d_Rep_find_0 : decode b_Rep_find 0 = .ok (.iconst 0, 1) := by decide +kernel
theorem d_Rep_find_1 : decode b_Rep_find 1 = .ok (.istore_n 3, 1) := by decide +kernel
theorem d_Rep_find_2 : decode b_Rep_find 2 = .ok (.iload_n 3, 1) := by decide +kernel
theorem d_Rep_find_3 : decode b_Rep_find 3 = .ok (.aload_n 0, 1) := by decide +kernel
theorem d_Rep_find_4 : decode b_Rep_find 4 = .ok (.getfield 27, 3) := by decide +kernel
theorem d_Rep_find_7 : decode b_Rep_find 7 = .ok (.if_icmp .ge 25, 3) := by decide +kernel
theorem d_Rep_find_10 : decode b_Rep_find 10 = .ok (.aload_n 0, 1) := by decide +kernel
theorem d_Rep_find_11 : decode b_Rep_find 11 = .ok (.getfield 22, 3) := by decide +kernel
theorem d_Rep_find_14 : decode b_Rep_find 14 = .ok (.iload_n 3, 1) := by decide +kernel
theorem d_Rep_find_15 : decode b_Rep_find 15 = .ok (.aaload, 1) := by decide +kernel
theorem d_Rep_find_16 : decode b_Rep_find 16 = .ok (.getfield 84, 3) := by decide +kernel
theorem d_Rep_find_19 : decode b_Rep_find 19 = .ok (.lload_n 1, 1) := by decide +kernel
theorem d_Rep_find_20 : decode b_Rep_find 20 = .ok (.lcmp, 1) := by decide +kernel
theorem d_Rep_find_21 : decode b_Rep_find 21 = .ok (.ifCond .ne 5, 3) := by decide +kernel
theorem d_Rep_find_24 : decode b_Rep_find 24 = .ok (.iload_n 3, 1) := by decide +kernel
theorem d_Rep_find_25 : decode b_Rep_find 25 = .ok (.ireturn, 1) := by decide +kernel
theorem d_Rep_find_26 : decode b_Rep_find 26 = .ok (.iinc 3 1, 3) := by decide +kernel
theorem d_Rep_find_29 : decode b_Rep_find 29 = .ok (.goto (-27), 3) := by decide +kernel
theorem d_Rep_find_32 : decode b_Rep_find 32 = .ok (.iconst (-1), 1) := by decide +kernel
theorem d_Rep_find_33 : decode b_Rep_find 33 = .ok (.ireturn, 1) := by decide +kernel
theorem d_Rep_greatestCommonAncestor_0 : decode b_Rep_greatestCommonAncestor 0 = .ok (.aload_n 0, 1) := by decide +kernel
theorem d_Rep_greatestCommonAncestor_1 : decode b_Rep_greatestCommonAncestor 1 = .ok (.iload_n 1, 1) := by decide +kernel
theorem d_Rep_greatestCommonAncestor_2 : decode b_Rep_greatestCommonAncestor 2 = .ok (.invokevirtual 208, 3) := by decide +kernel
theorem d_Rep_greatestCommonAncestor_5 : decode b_Rep_greatestCommonAncestor 5 = .ok (.aload_n 0, 1) := by decide +kernel
theorem d_Rep_greatestCommonAncestor_6 : decode b_Rep_greatestCommonAncestor 6 = .ok (.iload_n 2, 1) := by decide +kernel
theorem d_Rep_greatestCommonAncestor_7 : decode b_Rep_greatestCommonAncestor 7 = .ok (.invokevirtual 208, 3) := by decide +kernel
theorem d_Rep_greatestCommonAncestor_10 : decode b_Rep_greatestCommonAncestor 10 = .ok (.iand, 1) := by decide +kernel
theorem d_Rep_greatestCommonAncestor_11 : decode b_Rep_greatestCommonAncestor 11 = .ok (.istore_n 3, 1) := by decide +kernel
theorem d_Rep_greatestCommonAncestor_12 : decode b_Rep_greatestCommonAncestor 12 = .ok (.iload_n 1, 1) := by decide +kernel
theorem d_Rep_greatestCommonAncestor_13 : decode b_Rep_greatestCommonAncestor 13 = .ok (.iload_n 2, 1) := by decide +kernel
theorem d_Rep_greatestCommonAncestor_14 : decode b_Rep_greatestCommonAncestor 14 = .ok (.invokestatic 211, 3) := by decide +kernel
theorem d_Rep_greatestCommonAncestor_17 : decode b_Rep_greatestCommonAncestor 17 = .ok (.istore 4, 2) := by decide +kernel
theorem d_Rep_greatestCommonAncestor_19 : decode b_Rep_greatestCommonAncestor 19 = .ok (.iload 4, 2) := by decide +kernel
theorem d_Rep_greatestCommonAncestor_21 : decode b_Rep_greatestCommonAncestor 21 = .ok (.ifCond .lt 21, 3) := by decide +kernel
theorem d_Rep_greatestCommonAncestor_24 : decode b_Rep_greatestCommonAncestor 24 = .ok (.iload_n 3, 1) := by decide +kernel
theorem d_Rep_greatestCommonAncestor_25 : decode b_Rep_greatestCommonAncestor 25 = .ok (.iload 4, 2) := by decide +kernel
theorem d_Rep_greatestCommonAncestor_27 : decode b_Rep_greatestCommonAncestor 27 = .ok (.ishr, 1) := by decide +kernel
theorem d_Rep_greatestCommonAncestor_28 : decode b_Rep_greatestCommonAncestor 28 = .ok (.iconst 1, 1) := by decide +kernel
theorem d_Rep_greatestCommonAncestor_29 : decode b_Rep_greatestCommonAncestor 29 = .ok (.iand, 1) := by decide +kernel
theorem d_Rep_greatestCommonAncestor_30 : decode b_Rep_greatestCommonAncestor 30 = .ok (.ifCond .eq 6, 3) := by decide +kernel
theorem d_Rep_greatestCommonAncestor_33 : decode b_Rep_greatestCommonAncestor 33 = .ok (.iload 4, 2) := by decide +kernel
theorem d_Rep_greatestCommonAncestor_35 : decode b_Rep_greatestCommonAncestor 35 = .ok (.ireturn, 1) := by decide +kernel
theorem d_Rep_greatestCommonAncestor_36 : decode b_Rep_greatestCommonAncestor 36 = .ok (.iinc 4 (-1), 3) := by decide +kernel
theorem d_Rep_greatestCommonAncestor_39 : decode b_Rep_greatestCommonAncestor 39 = .ok (.goto (-20), 3) := by decide +kernel
theorem d_Rep_greatestCommonAncestor_42 : decode b_Rep_greatestCommonAncestor 42 = .ok (.iconst (-1), 1) := by decide +kernel
theorem d_Rep_greatestCommonAncestor_43 : decode b_Rep_greatestCommonAncestor 43 = .ok (.ireturn, 1) := by decide +kernel
theorem d_Rep_hasRevision_0 : decode b_Rep_hasRevision 0 = .ok (.iload_n 1, 1) := by decide +kernel
theorem d_Rep_hasRevision_1 : decode b_Rep_hasRevision 1 = .ok (.ifCond .lt 15, 3) := by decide +kernel
theorem d_Rep_hasRevision_4 : decode b_Rep_hasRevision 4 = .ok (.iload_n 1, 1) := by decide +kernel
theorem d_Rep_hasRevision_5 : decode b_Rep_hasRevision 5 = .ok (.aload_n 0, 1) := by decide +kernel
theorem d_Rep_hasRevision_6 : decode b_Rep_hasRevision 6 = .ok (.getfield 27, 3) := by decide +kernel
theorem d_Rep_hasRevision_9 : decode b_Rep_hasRevision 9 = .ok (.if_icmp .ge 7, 3) := by decide +kernel
theorem d_Rep_hasRevision_12 : decode b_Rep_hasRevision 12 = .ok (.iconst 1, 1) := by decide +kernel
theorem d_Rep_hasRevision_13 : decode b_Rep_hasRevision 13 = .ok (.goto 4, 3) := by decide +kernel
theorem d_Rep_hasRevision_16 : decode b_Rep_hasRevision 16 = .ok (.iconst 0, 1) := by decide +kernel
theorem d_Rep_hasRevision_17 : decode b_Rep_hasRevision 17 = .ok (.ireturn, 1) := by decide +kernel
theorem d_Rep_init_0 : decode b_Rep_init 0 = .ok (.aload_n 0, 1) := by decide +kernel
theorem d_Rep_init_1 : decode b_Rep_init 1 = .ok (.invokespecial 3, 3) := by decide +kernel
theorem d_Rep_init_4 : decode b_Rep_init 4 = .ok (.aload_n 0, 1) := by decide +kernel
theorem d_Rep_init_5 : decode b_Rep_init 5 = .ok (.new 9, 3) := by decide +kernel
theorem d_Rep_init_8 : decode b_Rep_init 8 = .ok (.dup, 1) := by decide +kernel
theorem d_Rep_init_9 : decode b_Rep_init 9 = .ok (.sipush 600, 3) := by decide +kernel
theorem d_Rep_init_12 : decode b_Rep_init 12 = .ok (.invokespecial 11, 3) := by decide +kernel
theorem d_Rep_init_15 : decode b_Rep_init 15 = .ok (.putfield 14, 3) := by decide +kernel
theorem d_Rep_init_18 : decode b_Rep_init 18 = .ok (.aload_n 0, 1) := by decide +kernel
theorem d_Rep_init_19 : decode b_Rep_init 19 = .ok (.bipush 24, 2) := by decide +kernel
theorem d_Rep_init_21 : decode b_Rep_init 21 = .ok (.anewarray 20, 3) := by decide +kernel
theorem d_Rep_init_24 : decode b_Rep_init 24 = .ok (.putfield 22, 3) := by decide +kernel
theorem d_Rep_init_27 : decode b_Rep_init 27 = .ok (.iconst 0, 1) := by decide +kernel
theorem d_Rep_init_28 : decode b_Rep_init 28 = .ok (.istore_n 1, 1) := by decide +kernel
theorem d_Rep_init_29 : decode b_Rep_init 29 = .ok (.iload_n 1, 1) := by decide +kernel
theorem d_Rep_init_30 : decode b_Rep_init 30 = .ok (.bipush 24, 2) := by decide +kernel
theorem d_Rep_init_32 : decode b_Rep_init 32 = .ok (.if_icmp .ge 22, 3) := by decide +kernel
theorem d_Rep_init_35 : decode b_Rep_init 35 = .ok (.aload_n 0, 1) := by decide +kernel
theorem d_Rep_init_36 : decode b_Rep_init 36 = .ok (.getfield 22, 3) := by decide +kernel
theorem d_Rep_init_39 : decode b_Rep_init 39 = .ok (.iload_n 1, 1) := by decide +kernel
theorem d_Rep_init_40 : decode b_Rep_init 40 = .ok (.new 20, 3) := by decide +kernel
theorem d_Rep_init_43 : decode b_Rep_init 43 = .ok (.dup, 1) := by decide +kernel
theorem d_Rep_init_44 : decode b_Rep_init 44 = .ok (.invokespecial 26, 3) := by decide +kernel
theorem d_Rep_init_47 : decode b_Rep_init 47 = .ok (.aastore, 1) := by decide +kernel
theorem d_Rep_init_48 : decode b_Rep_init 48 = .ok (.iinc 1 1, 3) := by decide +kernel
theorem d_Rep_init_51 : decode b_Rep_init 51 = .ok (.goto (-22), 3) := by decide +kernel
theorem d_Rep_init_54 : decode b_Rep_init 54 = .ok (.aload_n 0, 1) := by decide +kernel
theorem d_Rep_init_55 : decode b_Rep_init 55 = .ok (.iconst 0, 1) := by decide +kernel
theorem d_Rep_init_56 : decode b_Rep_init 56 = .ok (.putfield 27, 3) := by decide +kernel
theorem d_Rep_init_59 : decode b_Rep_init 59 = .ok (.aload_n 0, 1) := by decide +kernel
theorem d_Rep_init_60 : decode b_Rep_init 60 = .ok (.iconst 0, 1) := by decide +kernel
theorem d_Rep_init_61 : decode b_Rep_init 61 = .ok (.putfield 31, 3) := by decide +kernel
theorem d_Rep_init_64 : decode b_Rep_init 64 = .ok (.aload_n 0, 1) := by decide +kernel
theorem d_Rep_init_65 : decode b_Rep_init 65 = .ok (.iconst 0, 1) := by decide +kernel
theorem d_Rep_init_66 : decode b_Rep_init 66 = .ok (.putfield 35, 3) := by decide +kernel
theorem d_Rep_init_69 : decode b_Rep_init 69 = .ok (.aload_n 0, 1) := by decide +kernel
theorem d_Rep_init_70 : decode b_Rep_init 70 = .ok (.iconst 0, 1) := by decide +kernel
theorem d_Rep_init_71 : decode b_Rep_init 71 = .ok (.putfield 38, 3) := by decide +kernel
theorem d_Rep_init_74 : decode b_Rep_init 74 = .ok (.aload_n 0, 1) := by decide +kernel
theorem d_Rep_init_75 : decode b_Rep_init 75 = .ok (.new 9, 3) := by decide +kernel
theorem d_Rep_init_78 : decode b_Rep_init 78 = .ok (.dup, 1) := by decide +kernel
theorem d_Rep_init_79 : decode b_Rep_init 79 = .ok (.bipush 60, 2) := by decide +kernel
theorem d_Rep_init_81 : decode b_Rep_init 81 = .ok (.invokespecial 11, 3) := by decide +kernel
theorem d_Rep_init_84 : decode b_Rep_init 84 = .ok (.putfield 41, 3) := by decide +kernel
theorem d_Rep_init_87 : decode b_Rep_init 87 = .ok (.aload_n 0, 1) := by decide +kernel
theorem d_Rep_init_88 : decode b_Rep_init 88 = .ok (.bipush 6, 2) := by decide +kernel
theorem d_Rep_init_90 : decode b_Rep_init 90 = .ok (.newarray .int, 2) := by decide +kernel
theorem d_Rep_init_92 : decode b_Rep_init 92 = .ok (.putfield 44, 3) := by decide +kernel
theorem d_Rep_init_95 : decode b_Rep_init 95 = .ok (.aload_n 0, 1) := by decide +kernel
theorem d_Rep_init_96 : decode b_Rep_init 96 = .ok (.new 9, 3) := by decide +kernel
theorem d_Rep_init_99 : decode b_Rep_init 99 = .ok (.dup, 1) := by decide +kernel
theorem d_Rep_init_100 : decode b_Rep_init 100 = .ok (.bipush 121, 2) := by decide +kernel
theorem d_Rep_init_102 : decode b_Rep_init 102 = .ok (.invokespecial 11, 3) := by decide +kernel
theorem d_Rep_init_105 : decode b_Rep_init 105 = .ok (.putfield 48, 3) := by decide +kernel
theorem d_Rep_init_108 : decode b_Rep_init 108 = .ok (.aload_n 0, 1) := by decide +kernel
theorem d_Rep_init_109 : decode b_Rep_init 109 = .ok (.new 9, 3) := by decide +kernel
theorem d_Rep_init_112 : decode b_Rep_init 112 = .ok (.dup, 1) := by decide +kernel
theorem d_Rep_init_113 : decode b_Rep_init 113 = .ok (.bipush 121, 2) := by decide +kernel
theorem d_Rep_init_115 : decode b_Rep_init 115 = .ok (.invokespecial 11, 3) := by decide +kernel
theorem d_Rep_init_118 : decode b_Rep_init 118 = .ok (.putfield 51, 3) := by decide +kernel
theorem d_Rep_init_121 : decode b_Rep_init 121 = .ok (.return_, 1) := by decide +kernel
theorem d_Rep_mayWrite_0 : decode b_Rep_mayWrite 0 = .ok (.aload_n 0, 1) := by decide +kernel
theorem d_Rep_mayWrite_1 : decode b_Rep_mayWrite 1 = .ok (.getfield 38, 3) := by decide +kernel
theorem d_Rep_mayWrite_4 : decode b_Rep_mayWrite 4 = .ok (.ifCond .le 29, 3) := by decide +kernel
theorem d_Rep_mayWrite_7 : decode b_Rep_mayWrite 7 = .ok (.aload_n 0, 1) := by decide +kernel
theorem d_Rep_mayWrite_8 : decode b_Rep_mayWrite 8 = .ok (.dup, 1) := by decide +kernel
theorem d_Rep_mayWrite_9 : decode b_Rep_mayWrite 9 = .ok (.getfield 38, 3) := by decide +kernel
theorem d_Rep_mayWrite_12 : decode b_Rep_mayWrite 12 = .ok (.iconst 1, 1) := by decide +kernel
theorem d_Rep_mayWrite_13 : decode b_Rep_mayWrite 13 = .ok (.isub, 1) := by decide +kernel
theorem d_Rep_mayWrite_14 : decode b_Rep_mayWrite 14 = .ok (.putfield 38, 3) := by decide +kernel
theorem d_Rep_mayWrite_17 : decode b_Rep_mayWrite 17 = .ok (.aload_n 0, 1) := by decide +kernel
theorem d_Rep_mayWrite_18 : decode b_Rep_mayWrite 18 = .ok (.aload_n 0, 1) := by decide +kernel
theorem d_Rep_mayWrite_19 : decode b_Rep_mayWrite 19 = .ok (.getfield 38, 3) := by decide +kernel
theorem d_Rep_mayWrite_22 : decode b_Rep_mayWrite 22 = .ok (.ifCond .ne 7, 3) := by decide +kernel
theorem d_Rep_mayWrite_25 : decode b_Rep_mayWrite 25 = .ok (.iconst 1, 1) := by decide +kernel
theorem d_Rep_mayWrite_26 : decode b_Rep_mayWrite 26 = .ok (.goto 4, 3) := by decide +kernel
theorem d_Rep_mayWrite_29 : decode b_Rep_mayWrite 29 = .ok (.iconst 0, 1) := by decide +kernel
theorem d_Rep_mayWrite_30 : decode b_Rep_mayWrite 30 = .ok (.putfield 35, 3) := by decide +kernel
theorem d_Rep_mayWrite_33 : decode b_Rep_mayWrite 33 = .ok (.aload_n 0, 1) := by decide +kernel
theorem d_Rep_mayWrite_34 : decode b_Rep_mayWrite 34 = .ok (.getfield 35, 3) := by decide +kernel
theorem d_Rep_mayWrite_37 : decode b_Rep_mayWrite 37 = .ok (.ifCond .ne 7, 3) := by decide +kernel
theorem d_Rep_mayWrite_40 : decode b_Rep_mayWrite 40 = .ok (.iconst 1, 1) := by decide +kernel
theorem d_Rep_mayWrite_41 : decode b_Rep_mayWrite 41 = .ok (.goto 4, 3) := by decide +kernel
theorem d_Rep_mayWrite_44 : decode b_Rep_mayWrite 44 = .ok (.iconst 0, 1) := by decide +kernel
theorem d_Rep_mayWrite_45 : decode b_Rep_mayWrite 45 = .ok (.ireturn, 1) := by decide +kernel
theorem d_Rep_mixLong_0 : decode b_Rep_mixLong 0 = .ok (.lload_n 0, 1) := by decide +kernel
theorem d_Rep_mixLong_1 : decode b_Rep_mixLong 1 = .ok (.lstore 4, 2) := by decide +kernel
theorem d_Rep_mixLong_3 : decode b_Rep_mixLong 3 = .ok (.bipush 56, 2) := by decide +kernel
theorem d_Rep_mixLong_5 : decode b_Rep_mixLong 5 = .ok (.istore 6, 2) := by decide +kernel
theorem d_Rep_mixLong_7 : decode b_Rep_mixLong 7 = .ok (.iload 6, 2) := by decide +kernel
theorem d_Rep_mixLong_9 : decode b_Rep_mixLong 9 = .ok (.ifCond .lt 25, 3) := by decide +kernel
theorem d_Rep_mixLong_12 : decode b_Rep_mixLong 12 = .ok (.lload 4, 2) := by decide +kernel
theorem d_Rep_mixLong_14 : decode b_Rep_mixLong 14 = .ok (.lload_n 2, 1) := by decide +kernel
theorem d_Rep_mixLong_15 : decode b_Rep_mixLong 15 = .ok (.iload 6, 2) := by decide +kernel
theorem d_Rep_mixLong_17 : decode b_Rep_mixLong 17 = .ok (.invokestatic 158, 3) := by decide +kernel
theorem d_Rep_mixLong_20 : decode b_Rep_mixLong 20 = .ok (.i2l, 1) := by decide +kernel
theorem d_Rep_mixLong_21 : decode b_Rep_mixLong 21 = .ok (.lxor, 1) := by decide +kernel
theorem d_Rep_mixLong_22 : decode b_Rep_mixLong 22 = .ok (.ldc2_w 156, 3) := by decide +kernel
theorem d_Rep_mixLong_25 : decode b_Rep_mixLong 25 = .ok (.lmul, 1) := by decide +kernel
theorem d_Rep_mixLong_26 : decode b_Rep_mixLong 26 = .ok (.lstore 4, 2) := by decide +kernel
theorem d_Rep_mixLong_28 : decode b_Rep_mixLong 28 = .ok (.iinc 6 (-8), 3) := by decide +kernel
theorem d_Rep_mixLong_31 : decode b_Rep_mixLong 31 = .ok (.goto (-24), 3) := by decide +kernel
theorem d_Rep_mixLong_34 : decode b_Rep_mixLong 34 = .ok (.lload 4, 2) := by decide +kernel
theorem d_Rep_mixLong_36 : decode b_Rep_mixLong 36 = .ok (.lreturn, 1) := by decide +kernel
theorem d_Rep_nodeOf_0 : decode b_Rep_nodeOf 0 = .ok (.aload_n 0, 1) := by decide +kernel
theorem d_Rep_nodeOf_1 : decode b_Rep_nodeOf 1 = .ok (.iload_n 2, 1) := by decide +kernel
theorem d_Rep_nodeOf_2 : decode b_Rep_nodeOf 2 = .ok (.invokevirtual 134, 3) := by decide +kernel
theorem d_Rep_nodeOf_5 : decode b_Rep_nodeOf 5 = .ok (.lstore 4, 2) := by decide +kernel
theorem d_Rep_nodeOf_7 : decode b_Rep_nodeOf 7 = .ok (.aload_n 0, 1) := by decide +kernel
theorem d_Rep_nodeOf_8 : decode b_Rep_nodeOf 8 = .ok (.iload_n 3, 1) := by decide +kernel
theorem d_Rep_nodeOf_9 : decode b_Rep_nodeOf 9 = .ok (.invokevirtual 134, 3) := by decide +kernel
theorem d_Rep_nodeOf_12 : decode b_Rep_nodeOf 12 = .ok (.lstore 6, 2) := by decide +kernel
theorem d_Rep_nodeOf_14 : decode b_Rep_nodeOf 14 = .ok (.ldc2_w 138, 3) := by decide +kernel
theorem d_Rep_nodeOf_17 : decode b_Rep_nodeOf 17 = .ok (.lload 4, 2) := by decide +kernel
theorem d_Rep_nodeOf_19 : decode b_Rep_nodeOf 19 = .ok (.lload 6, 2) := by decide +kernel
theorem d_Rep_nodeOf_21 : decode b_Rep_nodeOf 21 = .ok (.invokestatic 140, 3) := by decide +kernel
theorem d_Rep_nodeOf_24 : decode b_Rep_nodeOf 24 = .ok (.invokestatic 146, 3) := by decide +kernel
theorem d_Rep_nodeOf_27 : decode b_Rep_nodeOf 27 = .ok (.lstore 8, 2) := by decide +kernel
theorem d_Rep_nodeOf_29 : decode b_Rep_nodeOf 29 = .ok (.lload 8, 2) := by decide +kernel
theorem d_Rep_nodeOf_31 : decode b_Rep_nodeOf 31 = .ok (.lload 4, 2) := by decide +kernel
theorem d_Rep_nodeOf_33 : decode b_Rep_nodeOf 33 = .ok (.lload 6, 2) := by decide +kernel
theorem d_Rep_nodeOf_35 : decode b_Rep_nodeOf 35 = .ok (.invokestatic 149, 3) := by decide +kernel
theorem d_Rep_nodeOf_38 : decode b_Rep_nodeOf 38 = .ok (.invokestatic 146, 3) := by decide +kernel
theorem d_Rep_nodeOf_41 : decode b_Rep_nodeOf 41 = .ok (.lstore 8, 2) := by decide +kernel
theorem d_Rep_nodeOf_43 : decode b_Rep_nodeOf 43 = .ok (.iconst 0, 1) := by decide +kernel
theorem d_Rep_nodeOf_44 : decode b_Rep_nodeOf 44 = .ok (.istore 10, 2) := by decide +kernel
theorem d_Rep_nodeOf_46 : decode b_Rep_nodeOf 46 = .ok (.iload 10, 2) := by decide +kernel
theorem d_Rep_nodeOf_48 : decode b_Rep_nodeOf 48 = .ok (.aload_n 1, 1) := by decide +kernel
theorem d_Rep_nodeOf_49 : decode b_Rep_nodeOf 49 = .ok (.getfield 62, 3) := by decide +kernel
theorem d_Rep_nodeOf_52 : decode b_Rep_nodeOf 52 = .ok (.if_icmp .ge 25, 3) := by decide +kernel
theorem d_Rep_nodeOf_55 : decode b_Rep_nodeOf 55 = .ok (.lload 8, 2) := by decide +kernel
theorem d_Rep_nodeOf_57 : decode b_Rep_nodeOf 57 = .ok (.aload_n 1, 1) := by decide +kernel
theorem d_Rep_nodeOf_58 : decode b_Rep_nodeOf 58 = .ok (.iload 10, 2) := by decide +kernel
theorem d_Rep_nodeOf_60 : decode b_Rep_nodeOf 60 = .ok (.invokevirtual 152, 3) := by decide +kernel
theorem d_Rep_nodeOf_63 : decode b_Rep_nodeOf 63 = .ok (.i2l, 1) := by decide +kernel
theorem d_Rep_nodeOf_64 : decode b_Rep_nodeOf 64 = .ok (.lxor, 1) := by decide +kernel
theorem d_Rep_nodeOf_65 : decode b_Rep_nodeOf 65 = .ok (.ldc2_w 156, 3) := by decide +kernel
theorem d_Rep_nodeOf_68 : decode b_Rep_nodeOf 68 = .ok (.lmul, 1) := by decide +kernel
theorem d_Rep_nodeOf_69 : decode b_Rep_nodeOf 69 = .ok (.lstore 8, 2) := by decide +kernel
theorem d_Rep_nodeOf_71 : decode b_Rep_nodeOf 71 = .ok (.iinc 10 1, 3) := by decide +kernel
theorem d_Rep_nodeOf_74 : decode b_Rep_nodeOf 74 = .ok (.goto (-28), 3) := by decide +kernel
theorem d_Rep_nodeOf_77 : decode b_Rep_nodeOf 77 = .ok (.lload 8, 2) := by decide +kernel
theorem d_Rep_nodeOf_79 : decode b_Rep_nodeOf 79 = .ok (.lreturn, 1) := by decide +kernel
theorem d_Rep_nodeOrZero_0 : decode b_Rep_nodeOrZero 0 = .ok (.iload_n 1, 1) := by decide +kernel
theorem d_Rep_nodeOrZero_1 : decode b_Rep_nodeOrZero 1 = .ok (.iconst (-1), 1) := by decide +kernel
theorem d_Rep_nodeOrZero_2 : decode b_Rep_nodeOrZero 2 = .ok (.if_icmp .ne 7, 3) := by decide +kernel
theorem d_Rep_nodeOrZero_5 : decode b_Rep_nodeOrZero 5 = .ok (.lconst 0, 1) := by decide +kernel
theorem d_Rep_nodeOrZero_6 : decode b_Rep_nodeOrZero 6 = .ok (.goto 12, 3) := by decide +kernel
theorem d_Rep_nodeOrZero_9 : decode b_Rep_nodeOrZero 9 = .ok (.aload_n 0, 1) := by decide +kernel
theorem d_Rep_nodeOrZero_10 : decode b_Rep_nodeOrZero 10 = .ok (.getfield 22, 3) := by decide +kernel
theorem d_Rep_nodeOrZero_13 : decode b_Rep_nodeOrZero 13 = .ok (.iload_n 1, 1) := by decide +kernel
theorem d_Rep_nodeOrZero_14 : decode b_Rep_nodeOrZero 14 = .ok (.aaload, 1) := by decide +kernel
theorem d_Rep_nodeOrZero_15 : decode b_Rep_nodeOrZero 15 = .ok (.getfield 84, 3) := by decide +kernel
theorem d_Rep_nodeOrZero_18 : decode b_Rep_nodeOrZero 18 = .ok (.lreturn, 1) := by decide +kernel
theorem d_Rep_openJournal_0 : decode b_Rep_openJournal 0 = .ok (.aload_n 0, 1) := by decide +kernel
theorem d_Rep_openJournal_1 : decode b_Rep_openJournal 1 = .ok (.invokevirtual 58, 3) := by decide +kernel
theorem d_Rep_openJournal_4 : decode b_Rep_openJournal 4 = .ok (.ifCond .ne 5, 3) := by decide +kernel
theorem d_Rep_openJournal_7 : decode b_Rep_openJournal 7 = .ok (.iconst 0, 1) := by decide +kernel
theorem d_Rep_openJournal_8 : decode b_Rep_openJournal 8 = .ok (.ireturn, 1) := by decide +kernel
theorem d_Rep_openJournal_9 : decode b_Rep_openJournal 9 = .ok (.aload_n 0, 1) := by decide +kernel
theorem d_Rep_openJournal_10 : decode b_Rep_openJournal 10 = .ok (.iconst 1, 1) := by decide +kernel
theorem d_Rep_openJournal_11 : decode b_Rep_openJournal 11 = .ok (.putfield 31, 3) := by decide +kernel
theorem d_Rep_openJournal_14 : decode b_Rep_openJournal 14 = .ok (.aload_n 0, 1) := by decide +kernel
theorem d_Rep_openJournal_15 : decode b_Rep_openJournal 15 = .ok (.aload_n 0, 1) := by decide +kernel
theorem d_Rep_openJournal_16 : decode b_Rep_openJournal 16 = .ok (.getfield 14, 3) := by decide +kernel
theorem d_Rep_openJournal_19 : decode b_Rep_openJournal 19 = .ok (.getfield 62, 3) := by decide +kernel
theorem d_Rep_openJournal_22 : decode b_Rep_openJournal 22 = .ok (.putfield 65, 3) := by decide +kernel
theorem d_Rep_openJournal_25 : decode b_Rep_openJournal 25 = .ok (.aload_n 0, 1) := by decide +kernel
theorem d_Rep_openJournal_26 : decode b_Rep_openJournal 26 = .ok (.aload_n 0, 1) := by decide +kernel
theorem d_Rep_openJournal_27 : decode b_Rep_openJournal 27 = .ok (.getfield 27, 3) := by decide +kernel
theorem d_Rep_openJournal_30 : decode b_Rep_openJournal 30 = .ok (.putfield 68, 3) := by decide +kernel
theorem d_Rep_openJournal_33 : decode b_Rep_openJournal 33 = .ok (.iconst 1, 1) := by decide +kernel
theorem d_Rep_openJournal_34 : decode b_Rep_openJournal 34 = .ok (.ireturn, 1) := by decide +kernel
theorem d_Rep_parentsOf_0 : decode b_Rep_parentsOf 0 = .ok (.aload_n 0, 1) := by decide +kernel
theorem d_Rep_parentsOf_1 : decode b_Rep_parentsOf 1 = .ok (.getfield 22, 3) := by decide +kernel
theorem d_Rep_parentsOf_4 : decode b_Rep_parentsOf 4 = .ok (.iload_n 1, 1) := by decide +kernel
theorem d_Rep_parentsOf_5 : decode b_Rep_parentsOf 5 = .ok (.aaload, 1) := by decide +kernel
theorem d_Rep_parentsOf_6 : decode b_Rep_parentsOf 6 = .ok (.astore_n 2, 1) := by decide +kernel
theorem d_Rep_parentsOf_7 : decode b_Rep_parentsOf 7 = .ok (.aload_n 2, 1) := by decide +kernel
theorem d_Rep_parentsOf_8 : decode b_Rep_parentsOf 8 = .ok (.getfield 95, 3) := by decide +kernel
theorem d_Rep_parentsOf_11 : decode b_Rep_parentsOf 11 = .ok (.iconst (-1), 1) := by decide +kernel
theorem d_Rep_parentsOf_12 : decode b_Rep_parentsOf 12 = .ok (.if_icmp .ne 7, 3) := by decide +kernel
theorem d_Rep_parentsOf_15 : decode b_Rep_parentsOf 15 = .ok (.iconst 0, 1) := by decide +kernel
theorem d_Rep_parentsOf_16 : decode b_Rep_parentsOf 16 = .ok (.goto 9, 3) := by decide +kernel
theorem d_Rep_parentsOf_19 : decode b_Rep_parentsOf 19 = .ok (.iconst 1, 1) := by decide +kernel
theorem d_Rep_parentsOf_20 : decode b_Rep_parentsOf 20 = .ok (.aload_n 2, 1) := by decide +kernel
theorem d_Rep_parentsOf_21 : decode b_Rep_parentsOf 21 = .ok (.getfield 95, 3) := by decide +kernel
theorem d_Rep_parentsOf_24 : decode b_Rep_parentsOf 24 = .ok (.ishl, 1) := by decide +kernel
theorem d_Rep_parentsOf_25 : decode b_Rep_parentsOf 25 = .ok (.istore_n 3, 1) := by decide +kernel
theorem d_Rep_parentsOf_26 : decode b_Rep_parentsOf 26 = .ok (.aload_n 2, 1) := by decide +kernel
theorem d_Rep_parentsOf_27 : decode b_Rep_parentsOf 27 = .ok (.getfield 102, 3) := by decide +kernel
theorem d_Rep_parentsOf_30 : decode b_Rep_parentsOf 30 = .ok (.iconst (-1), 1) := by decide +kernel
theorem d_Rep_parentsOf_31 : decode b_Rep_parentsOf 31 = .ok (.if_icmp .ne 7, 3) := by decide +kernel
theorem d_Rep_parentsOf_34 : decode b_Rep_parentsOf 34 = .ok (.iconst 0, 1) := by decide +kernel
theorem d_Rep_parentsOf_35 : decode b_Rep_parentsOf 35 = .ok (.goto 9, 3) := by decide +kernel
theorem d_Rep_parentsOf_38 : decode b_Rep_parentsOf 38 = .ok (.iconst 1, 1) := by decide +kernel
theorem d_Rep_parentsOf_39 : decode b_Rep_parentsOf 39 = .ok (.aload_n 2, 1) := by decide +kernel
theorem d_Rep_parentsOf_40 : decode b_Rep_parentsOf 40 = .ok (.getfield 102, 3) := by decide +kernel
theorem d_Rep_parentsOf_43 : decode b_Rep_parentsOf 43 = .ok (.ishl, 1) := by decide +kernel
theorem d_Rep_parentsOf_44 : decode b_Rep_parentsOf 44 = .ok (.istore 4, 2) := by decide +kernel
theorem d_Rep_parentsOf_46 : decode b_Rep_parentsOf 46 = .ok (.iload_n 3, 1) := by decide +kernel
theorem d_Rep_parentsOf_47 : decode b_Rep_parentsOf 47 = .ok (.iload 4, 2) := by decide +kernel
theorem d_Rep_parentsOf_49 : decode b_Rep_parentsOf 49 = .ok (.ior, 1) := by decide +kernel
theorem d_Rep_parentsOf_50 : decode b_Rep_parentsOf 50 = .ok (.ireturn, 1) := by decide +kernel
theorem d_Rep_removeJournal_0 : decode b_Rep_removeJournal 0 = .ok (.aload_n 0, 1) := by decide +kernel
theorem d_Rep_removeJournal_1 : decode b_Rep_removeJournal 1 = .ok (.invokevirtual 58, 3) := by decide +kernel
theorem d_Rep_removeJournal_4 : decode b_Rep_removeJournal 4 = .ok (.ifCond .ne 5, 3) := by decide +kernel
theorem d_Rep_removeJournal_7 : decode b_Rep_removeJournal 7 = .ok (.iconst 0, 1) := by decide +kernel
theorem d_Rep_removeJournal_8 : decode b_Rep_removeJournal 8 = .ok (.ireturn, 1) := by decide +kernel
theorem d_Rep_removeJournal_9 : decode b_Rep_removeJournal 9 = .ok (.aload_n 0, 1) := by decide +kernel
theorem d_Rep_removeJournal_10 : decode b_Rep_removeJournal 10 = .ok (.iconst 0, 1) := by decide +kernel
theorem d_Rep_removeJournal_11 : decode b_Rep_removeJournal 11 = .ok (.putfield 31, 3) := by decide +kernel
theorem d_Rep_removeJournal_14 : decode b_Rep_removeJournal 14 = .ok (.iconst 1, 1) := by decide +kernel
theorem d_Rep_removeJournal_15 : decode b_Rep_removeJournal 15 = .ok (.ireturn, 1) := by decide +kernel
theorem d_Rep_rollBack_0 : decode b_Rep_rollBack 0 = .ok (.aload_n 0, 1) := by decide +kernel
theorem d_Rep_rollBack_1 : decode b_Rep_rollBack 1 = .ok (.getfield 27, 3) := by decide +kernel
theorem d_Rep_rollBack_4 : decode b_Rep_rollBack 4 = .ok (.istore_n 1, 1) := by decide +kernel
theorem d_Rep_rollBack_5 : decode b_Rep_rollBack 5 = .ok (.aload_n 0, 1) := by decide +kernel
theorem d_Rep_rollBack_6 : decode b_Rep_rollBack 6 = .ok (.invokevirtual 58, 3) := by decide +kernel
theorem d_Rep_rollBack_9 : decode b_Rep_rollBack 9 = .ok (.ifCond .ne 6, 3) := by decide +kernel
theorem d_Rep_rollBack_12 : decode b_Rep_rollBack 12 = .ok (.bipush (-2), 2) := by decide +kernel
theorem d_Rep_rollBack_14 : decode b_Rep_rollBack 14 = .ok (.ireturn, 1) := by decide +kernel
theorem d_Rep_rollBack_15 : decode b_Rep_rollBack 15 = .ok (.aload_n 0, 1) := by decide +kernel
theorem d_Rep_rollBack_16 : decode b_Rep_rollBack 16 = .ok (.getfield 14, 3) := by decide +kernel
theorem d_Rep_rollBack_19 : decode b_Rep_rollBack 19 = .ok (.aload_n 0, 1) := by decide +kernel
theorem d_Rep_rollBack_20 : decode b_Rep_rollBack 20 = .ok (.getfield 65, 3) := by decide +kernel
theorem d_Rep_rollBack_23 : decode b_Rep_rollBack 23 = .ok (.invokevirtual 71, 3) := by decide +kernel
theorem d_Rep_rollBack_26 : decode b_Rep_rollBack 26 = .ok (.aload_n 0, 1) := by decide +kernel
theorem d_Rep_rollBack_27 : decode b_Rep_rollBack 27 = .ok (.invokevirtual 58, 3) := by decide +kernel
theorem d_Rep_rollBack_30 : decode b_Rep_rollBack 30 = .ok (.ifCond .ne 6, 3) := by decide +kernel
theorem d_Rep_rollBack_33 : decode b_Rep_rollBack 33 = .ok (.bipush (-2), 2) := by decide +kernel
theorem d_Rep_rollBack_35 : decode b_Rep_rollBack 35 = .ok (.ireturn, 1) := by decide +kernel
theorem d_Rep_rollBack_36 : decode b_Rep_rollBack 36 = .ok (.aload_n 0, 1) := by decide +kernel
theorem d_Rep_rollBack_37 : decode b_Rep_rollBack 37 = .ok (.aload_n 0, 1) := by decide +kernel
theorem d_Rep_rollBack_38 : decode b_Rep_rollBack 38 = .ok (.getfield 68, 3) := by decide +kernel
theorem d_Rep_rollBack_41 : decode b_Rep_rollBack 41 = .ok (.putfield 27, 3) := by decide +kernel
theorem d_Rep_rollBack_44 : decode b_Rep_rollBack 44 = .ok (.aload_n 0, 1) := by decide +kernel
theorem d_Rep_rollBack_45 : decode b_Rep_rollBack 45 = .ok (.invokevirtual 74, 3) := by decide +kernel
theorem d_Rep_rollBack_48 : decode b_Rep_rollBack 48 = .ok (.ifCond .eq 12, 3) := by decide +kernel
theorem d_Rep_rollBack_51 : decode b_Rep_rollBack 51 = .ok (.iload_n 1, 1) := by decide +kernel
theorem d_Rep_rollBack_52 : decode b_Rep_rollBack 52 = .ok (.aload_n 0, 1) := by decide +kernel
theorem d_Rep_rollBack_53 : decode b_Rep_rollBack 53 = .ok (.getfield 27, 3) := by decide +kernel
theorem d_Rep_rollBack_56 : decode b_Rep_rollBack 56 = .ok (.isub, 1) := by decide +kernel
theorem d_Rep_rollBack_57 : decode b_Rep_rollBack 57 = .ok (.goto 5, 3) := by decide +kernel
theorem d_Rep_rollBack_60 : decode b_Rep_rollBack 60 = .ok (.bipush (-2), 2) := by decide +kernel
theorem d_Rep_rollBack_62 : decode b_Rep_rollBack 62 = .ok (.ireturn, 1) := by decide +kernel
theorem d_Rep_store_0 : decode b_Rep_store 0 = .ok (.aload_n 0, 1) := by decide +kernel
theorem d_Rep_store_1 : decode b_Rep_store 1 = .ok (.aload_n 1, 1) := by decide +kernel
theorem d_Rep_store_2 : decode b_Rep_store 2 = .ok (.iload_n 2, 1) := by decide +kernel
theorem d_Rep_store_3 : decode b_Rep_store 3 = .ok (.iload_n 3, 1) := by decide +kernel
theorem d_Rep_store_4 : decode b_Rep_store 4 = .ok (.invokevirtual 112, 3) := by decide +kernel
theorem d_Rep_store_7 : decode b_Rep_store 7 = .ok (.lstore 4, 2) := by decide +kernel
theorem d_Rep_store_9 : decode b_Rep_store 9 = .ok (.aload_n 0, 1) := by decide +kernel
theorem d_Rep_store_10 : decode b_Rep_store 10 = .ok (.lload 4, 2) := by decide +kernel
theorem d_Rep_store_12 : decode b_Rep_store 12 = .ok (.invokevirtual 88, 3) := by decide +kernel
theorem d_Rep_store_15 : decode b_Rep_store 15 = .ok (.istore 6, 2) := by decide +kernel
theorem d_Rep_store_17 : decode b_Rep_store 17 = .ok (.iload 6, 2) := by decide +kernel
theorem d_Rep_store_19 : decode b_Rep_store 19 = .ok (.iconst (-1), 1) := by decide +kernel
theorem d_Rep_store_20 : decode b_Rep_store 20 = .ok (.if_icmp .eq 6, 3) := by decide +kernel
theorem d_Rep_store_23 : decode b_Rep_store 23 = .ok (.iload 6, 2) := by decide +kernel
theorem d_Rep_store_25 : decode b_Rep_store 25 = .ok (.ireturn, 1) := by decide +kernel
theorem d_Rep_store_26 : decode b_Rep_store 26 = .ok (.aload_n 0, 1) := by decide +kernel
theorem d_Rep_store_27 : decode b_Rep_store 27 = .ok (.aload_n 1, 1) := by decide +kernel
theorem d_Rep_store_28 : decode b_Rep_store 28 = .ok (.iload_n 2, 1) := by decide +kernel
theorem d_Rep_store_29 : decode b_Rep_store 29 = .ok (.iload_n 3, 1) := by decide +kernel
theorem d_Rep_store_30 : decode b_Rep_store 30 = .ok (.invokevirtual 116, 3) := by decide +kernel
theorem d_Rep_store_33 : decode b_Rep_store 33 = .ok (.istore 7, 2) := by decide +kernel
theorem d_Rep_store_35 : decode b_Rep_store 35 = .ok (.aload_n 0, 1) := by decide +kernel
theorem d_Rep_store_36 : decode b_Rep_store 36 = .ok (.getfield 27, 3) := by decide +kernel
theorem d_Rep_store_39 : decode b_Rep_store 39 = .ok (.bipush 24, 2) := by decide +kernel
theorem d_Rep_store_41 : decode b_Rep_store 41 = .ok (.if_icmp .ge 20, 3) := by decide +kernel
theorem d_Rep_store_44 : decode b_Rep_store 44 = .ok (.aload_n 0, 1) := by decide +kernel
theorem d_Rep_store_45 : decode b_Rep_store 45 = .ok (.getfield 14, 3) := by decide +kernel
theorem d_Rep_store_48 : decode b_Rep_store 48 = .ok (.aload_n 0, 1) := by decide +kernel
theorem d_Rep_store_49 : decode b_Rep_store 49 = .ok (.getfield 48, 3) := by decide +kernel
theorem d_Rep_store_52 : decode b_Rep_store 52 = .ok (.getfield 62, 3) := by decide +kernel
theorem d_Rep_store_55 : decode b_Rep_store 55 = .ok (.invokevirtual 119, 3) := by decide +kernel
theorem d_Rep_store_58 : decode b_Rep_store 58 = .ok (.ifCond .ne 6, 3) := by decide +kernel
theorem d_Rep_store_61 : decode b_Rep_store 61 = .ok (.bipush (-3), 2) := by decide +kernel
theorem d_Rep_store_63 : decode b_Rep_store 63 = .ok (.ireturn, 1) := by decide +kernel
theorem d_Rep_store_64 : decode b_Rep_store 64 = .ok (.aload_n 0, 1) := by decide +kernel
theorem d_Rep_store_65 : decode b_Rep_store 65 = .ok (.getfield 14, 3) := by decide +kernel
theorem d_Rep_store_68 : decode b_Rep_store 68 = .ok (.getfield 62, 3) := by decide +kernel
theorem d_Rep_store_71 : decode b_Rep_store 71 = .ok (.istore 8, 2) := by decide +kernel
theorem d_Rep_store_73 : decode b_Rep_store 73 = .ok (.aload_n 0, 1) := by decide +kernel
theorem d_Rep_store_74 : decode b_Rep_store 74 = .ok (.invokevirtual 58, 3) := by decide +kernel
theorem d_Rep_store_77 : decode b_Rep_store 77 = .ok (.ifCond .ne 6, 3) := by decide +kernel
theorem d_Rep_store_80 : decode b_Rep_store 80 = .ok (.bipush (-2), 2) := by decide +kernel
theorem d_Rep_store_82 : decode b_Rep_store 82 = .ok (.ireturn, 1) := by decide +kernel
theorem d_Rep_store_83 : decode b_Rep_store 83 = .ok (.aload_n 0, 1) := by decide +kernel
theorem d_Rep_store_84 : decode b_Rep_store 84 = .ok (.getfield 14, 3) := by decide +kernel
theorem d_Rep_store_87 : decode b_Rep_store 87 = .ok (.aload_n 0, 1) := by decide +kernel
theorem d_Rep_store_88 : decode b_Rep_store 88 = .ok (.getfield 48, 3) := by decide +kernel
theorem d_Rep_store_91 : decode b_Rep_store 91 = .ok (.iconst 0, 1) := by decide +kernel
theorem d_Rep_store_92 : decode b_Rep_store 92 = .ok (.aload_n 0, 1) := by decide +kernel
theorem d_Rep_store_93 : decode b_Rep_store 93 = .ok (.getfield 48, 3) := by decide +kernel
theorem d_Rep_store_96 : decode b_Rep_store 96 = .ok (.getfield 62, 3) := by decide +kernel
theorem d_Rep_store_99 : decode b_Rep_store 99 = .ok (.invokevirtual 122, 3) := by decide +kernel
theorem d_Rep_store_102 : decode b_Rep_store 102 = .ok (.pop, 1) := by decide +kernel
theorem d_Rep_store_103 : decode b_Rep_store 103 = .ok (.aload_n 0, 1) := by decide +kernel
theorem d_Rep_store_104 : decode b_Rep_store 104 = .ok (.invokevirtual 58, 3) := by decide +kernel
theorem d_Rep_store_107 : decode b_Rep_store 107 = .ok (.ifCond .ne 6, 3) := by decide +kernel
theorem d_Rep_store_110 : decode b_Rep_store 110 = .ok (.bipush (-2), 2) := by decide +kernel
theorem d_Rep_store_112 : decode b_Rep_store 112 = .ok (.ireturn, 1) := by decide +kernel
theorem d_Rep_store_113 : decode b_Rep_store 113 = .ok (.aload_n 0, 1) := by decide +kernel
theorem d_Rep_store_114 : decode b_Rep_store 114 = .ok (.getfield 22, 3) := by decide +kernel
theorem d_Rep_store_117 : decode b_Rep_store 117 = .ok (.aload_n 0, 1) := by decide +kernel
theorem d_Rep_store_118 : decode b_Rep_store 118 = .ok (.getfield 27, 3) := by decide +kernel
theorem d_Rep_store_121 : decode b_Rep_store 121 = .ok (.aaload, 1) := by decide +kernel
theorem d_Rep_store_122 : decode b_Rep_store 122 = .ok (.iload 8, 2) := by decide +kernel
theorem d_Rep_store_124 : decode b_Rep_store 124 = .ok (.aload_n 0, 1) := by decide +kernel
theorem d_Rep_store_125 : decode b_Rep_store 125 = .ok (.getfield 48, 3) := by decide +kernel
theorem d_Rep_store_128 : decode b_Rep_store 128 = .ok (.getfield 62, 3) := by decide +kernel
theorem d_Rep_store_131 : decode b_Rep_store 131 = .ok (.iload 7, 2) := by decide +kernel
theorem d_Rep_store_133 : decode b_Rep_store 133 = .ok (.invokevirtual 126, 3) := by decide +kernel
theorem d_Rep_store_136 : decode b_Rep_store 136 = .ok (.aload_n 0, 1) := by decide +kernel
theorem d_Rep_store_137 : decode b_Rep_store 137 = .ok (.getfield 22, 3) := by decide +kernel
theorem d_Rep_store_140 : decode b_Rep_store 140 = .ok (.aload_n 0, 1) := by decide +kernel
theorem d_Rep_store_141 : decode b_Rep_store 141 = .ok (.getfield 27, 3) := by decide +kernel
theorem d_Rep_store_144 : decode b_Rep_store 144 = .ok (.aaload, 1) := by decide +kernel
theorem d_Rep_store_145 : decode b_Rep_store 145 = .ok (.aload_n 1, 1) := by decide +kernel
theorem d_Rep_store_146 : decode b_Rep_store 146 = .ok (.getfield 62, 3) := by decide +kernel
theorem d_Rep_store_149 : decode b_Rep_store 149 = .ok (.iload_n 2, 1) := by decide +kernel
theorem d_Rep_store_150 : decode b_Rep_store 150 = .ok (.iload_n 3, 1) := by decide +kernel
theorem d_Rep_store_151 : decode b_Rep_store 151 = .ok (.lload 4, 2) := by decide +kernel
theorem d_Rep_store_153 : decode b_Rep_store 153 = .ok (.invokevirtual 130, 3) := by decide +kernel
theorem d_Rep_store_156 : decode b_Rep_store 156 = .ok (.aload_n 0, 1) := by decide +kernel
theorem d_Rep_store_157 : decode b_Rep_store 157 = .ok (.dup, 1) := by decide +kernel
theorem d_Rep_store_158 : decode b_Rep_store 158 = .ok (.getfield 27, 3) := by decide +kernel
theorem d_Rep_store_161 : decode b_Rep_store 161 = .ok (.iconst 1, 1) := by decide +kernel
theorem d_Rep_store_162 : decode b_Rep_store 162 = .ok (.iadd, 1) := by decide +kernel
theorem d_Rep_store_163 : decode b_Rep_store 163 = .ok (.putfield 27, 3) := by decide +kernel
theorem d_Rep_store_166 : decode b_Rep_store 166 = .ok (.aload_n 0, 1) := by decide +kernel
theorem d_Rep_store_167 : decode b_Rep_store 167 = .ok (.getfield 27, 3) := by decide +kernel
theorem d_Rep_store_170 : decode b_Rep_store 170 = .ok (.iconst 1, 1) := by decide +kernel
theorem d_Rep_store_171 : decode b_Rep_store 171 = .ok (.isub, 1) := by decide +kernel
theorem d_Rep_store_172 : decode b_Rep_store 172 = .ok (.ireturn, 1) := by decide +kernel
theorem d_Rep_takeFrom_0 : decode b_Rep_takeFrom 0 = .ok (.aload_n 0, 1) := by decide +kernel
theorem d_Rep_takeFrom_1 : decode b_Rep_takeFrom 1 = .ok (.getfield 38, 3) := by decide +kernel
theorem d_Rep_takeFrom_4 : decode b_Rep_takeFrom 4 = .ok (.istore_n 2, 1) := by decide +kernel
theorem d_Rep_takeFrom_5 : decode b_Rep_takeFrom 5 = .ok (.aload_n 0, 1) := by decide +kernel
theorem d_Rep_takeFrom_6 : decode b_Rep_takeFrom 6 = .ok (.invokevirtual 81, 3) := by decide +kernel
theorem d_Rep_takeFrom_9 : decode b_Rep_takeFrom 9 = .ok (.ifCond .ne 6, 3) := by decide +kernel
theorem d_Rep_takeFrom_12 : decode b_Rep_takeFrom 12 = .ok (.bipush (-2), 2) := by decide +kernel
theorem d_Rep_takeFrom_14 : decode b_Rep_takeFrom 14 = .ok (.ireturn, 1) := by decide +kernel
theorem d_Rep_takeFrom_15 : decode b_Rep_takeFrom 15 = .ok (.iconst 0, 1) := by decide +kernel
theorem d_Rep_takeFrom_16 : decode b_Rep_takeFrom 16 = .ok (.istore_n 3, 1) := by decide +kernel
theorem d_Rep_takeFrom_17 : decode b_Rep_takeFrom 17 = .ok (.iload_n 3, 1) := by decide +kernel
theorem d_Rep_takeFrom_18 : decode b_Rep_takeFrom 18 = .ok (.aload_n 1, 1) := by decide +kernel
theorem d_Rep_takeFrom_19 : decode b_Rep_takeFrom 19 = .ok (.getfield 27, 3) := by decide +kernel
theorem d_Rep_takeFrom_22 : decode b_Rep_takeFrom 22 = .ok (.if_icmp .ge 97, 3) := by decide +kernel
theorem d_Rep_takeFrom_25 : decode b_Rep_takeFrom 25 = .ok (.aload_n 1, 1) := by decide +kernel
theorem d_Rep_takeFrom_26 : decode b_Rep_takeFrom 26 = .ok (.getfield 22, 3) := by decide +kernel
theorem d_Rep_takeFrom_29 : decode b_Rep_takeFrom 29 = .ok (.iload_n 3, 1) := by decide +kernel
theorem d_Rep_takeFrom_30 : decode b_Rep_takeFrom 30 = .ok (.aaload, 1) := by decide +kernel
theorem d_Rep_takeFrom_31 : decode b_Rep_takeFrom 31 = .ok (.astore 4, 2) := by decide +kernel
theorem d_Rep_takeFrom_33 : decode b_Rep_takeFrom 33 = .ok (.aload_n 0, 1) := by decide +kernel
theorem d_Rep_takeFrom_34 : decode b_Rep_takeFrom 34 = .ok (.aload 4, 2) := by decide +kernel
theorem d_Rep_takeFrom_36 : decode b_Rep_takeFrom 36 = .ok (.getfield 84, 3) := by decide +kernel
theorem d_Rep_takeFrom_39 : decode b_Rep_takeFrom 39 = .ok (.invokevirtual 88, 3) := by decide +kernel
theorem d_Rep_takeFrom_42 : decode b_Rep_takeFrom 42 = .ok (.iconst (-1), 1) := by decide +kernel
theorem d_Rep_takeFrom_43 : decode b_Rep_takeFrom 43 = .ok (.if_icmp .ne 70, 3) := by decide +kernel
theorem d_Rep_takeFrom_46 : decode b_Rep_takeFrom 46 = .ok (.bipush (-3), 2) := by decide +kernel
theorem d_Rep_takeFrom_48 : decode b_Rep_takeFrom 48 = .ok (.istore 5, 2) := by decide +kernel
theorem d_Rep_takeFrom_50 : decode b_Rep_takeFrom 50 = .ok (.aload_n 1, 1) := by decide +kernel
theorem d_Rep_takeFrom_51 : decode b_Rep_takeFrom 51 = .ok (.iload_n 3, 1) := by decide +kernel
theorem d_Rep_takeFrom_52 : decode b_Rep_takeFrom 52 = .ok (.invokevirtual 92, 3) := by decide +kernel
theorem d_Rep_takeFrom_55 : decode b_Rep_takeFrom 55 = .ok (.ifCond .eq 33, 3) := by decide +kernel
theorem d_Rep_takeFrom_58 : decode b_Rep_takeFrom 58 = .ok (.aload_n 0, 1) := by decide +kernel
theorem d_Rep_takeFrom_59 : decode b_Rep_takeFrom 59 = .ok (.aload_n 1, 1) := by decide +kernel
theorem d_Rep_takeFrom_60 : decode b_Rep_takeFrom 60 = .ok (.getfield 41, 3) := by decide +kernel
theorem d_Rep_takeFrom_63 : decode b_Rep_takeFrom 63 = .ok (.aload_n 0, 1) := by decide +kernel
theorem d_Rep_takeFrom_64 : decode b_Rep_takeFrom 64 = .ok (.aload_n 1, 1) := by decide +kernel
theorem d_Rep_takeFrom_65 : decode b_Rep_takeFrom 65 = .ok (.aload 4, 2) := by decide +kernel
theorem d_Rep_takeFrom_67 : decode b_Rep_takeFrom 67 = .ok (.getfield 95, 3) := by decide +kernel
theorem d_Rep_takeFrom_70 : decode b_Rep_takeFrom 70 = .ok (.invokevirtual 98, 3) := by decide +kernel
theorem d_Rep_takeFrom_73 : decode b_Rep_takeFrom 73 = .ok (.aload_n 0, 1) := by decide +kernel
theorem d_Rep_takeFrom_74 : decode b_Rep_takeFrom 74 = .ok (.aload_n 1, 1) := by decide +kernel
theorem d_Rep_takeFrom_75 : decode b_Rep_takeFrom 75 = .ok (.aload 4, 2) := by decide +kernel
theorem d_Rep_takeFrom_77 : decode b_Rep_takeFrom 77 = .ok (.getfield 102, 3) := by decide +kernel
theorem d_Rep_takeFrom_80 : decode b_Rep_takeFrom 80 = .ok (.invokevirtual 98, 3) := by decide +kernel
theorem d_Rep_takeFrom_83 : decode b_Rep_takeFrom 83 = .ok (.invokevirtual 105, 3) := by decide +kernel
theorem d_Rep_takeFrom_86 : decode b_Rep_takeFrom 86 = .ok (.istore 5, 2) := by decide +kernel
theorem d_Rep_takeFrom_88 : decode b_Rep_takeFrom 88 = .ok (.iload 5, 2) := by decide +kernel
theorem d_Rep_takeFrom_90 : decode b_Rep_takeFrom 90 = .ok (.bipush (-2), 2) := by decide +kernel
theorem d_Rep_takeFrom_92 : decode b_Rep_takeFrom 92 = .ok (.if_icmp .ne 6, 3) := by decide +kernel
theorem d_Rep_takeFrom_95 : decode b_Rep_takeFrom 95 = .ok (.bipush (-2), 2) := by decide +kernel
theorem d_Rep_takeFrom_97 : decode b_Rep_takeFrom 97 = .ok (.ireturn, 1) := by decide +kernel
theorem d_Rep_takeFrom_98 : decode b_Rep_takeFrom 98 = .ok (.iload 5, 2) := by decide +kernel
theorem d_Rep_takeFrom_100 : decode b_Rep_takeFrom 100 = .ok (.bipush (-3), 2) := by decide +kernel
theorem d_Rep_takeFrom_102 : decode b_Rep_takeFrom 102 = .ok (.if_icmp .ne 11, 3) := by decide +kernel
theorem d_Rep_takeFrom_105 : decode b_Rep_takeFrom 105 = .ok (.aload_n 0, 1) := by decide +kernel
theorem d_Rep_takeFrom_106 : decode b_Rep_takeFrom 106 = .ok (.iload_n 2, 1) := by decide +kernel
theorem d_Rep_takeFrom_107 : decode b_Rep_takeFrom 107 = .ok (.invokevirtual 109, 3) := by decide +kernel
theorem d_Rep_takeFrom_110 : decode b_Rep_takeFrom 110 = .ok (.bipush (-3), 2) := by decide +kernel
theorem d_Rep_takeFrom_112 : decode b_Rep_takeFrom 112 = .ok (.ireturn, 1) := by decide +kernel
theorem d_Rep_takeFrom_113 : decode b_Rep_takeFrom 113 = .ok (.iinc 3 1, 3) := by decide +kernel
theorem d_Rep_takeFrom_116 : decode b_Rep_takeFrom 116 = .ok (.goto (-99), 3) := by decide +kernel
theorem d_Rep_takeFrom_119 : decode b_Rep_takeFrom 119 = .ok (.aload_n 0, 1) := by decide +kernel
theorem d_Rep_takeFrom_120 : decode b_Rep_takeFrom 120 = .ok (.getfield 27, 3) := by decide +kernel
theorem d_Rep_takeFrom_123 : decode b_Rep_takeFrom 123 = .ok (.aload_n 0, 1) := by decide +kernel
theorem d_Rep_takeFrom_124 : decode b_Rep_takeFrom 124 = .ok (.getfield 68, 3) := by decide +kernel
theorem d_Rep_takeFrom_127 : decode b_Rep_takeFrom 127 = .ok (.isub, 1) := by decide +kernel
theorem d_Rep_takeFrom_128 : decode b_Rep_takeFrom 128 = .ok (.istore_n 3, 1) := by decide +kernel
theorem d_Rep_takeFrom_129 : decode b_Rep_takeFrom 129 = .ok (.aload_n 0, 1) := by decide +kernel
theorem d_Rep_takeFrom_130 : decode b_Rep_takeFrom 130 = .ok (.invokevirtual 74, 3) := by decide +kernel
theorem d_Rep_takeFrom_133 : decode b_Rep_takeFrom 133 = .ok (.ifCond .eq 7, 3) := by decide +kernel
theorem d_Rep_takeFrom_136 : decode b_Rep_takeFrom 136 = .ok (.iload_n 3, 1) := by decide +kernel
theorem d_Rep_takeFrom_137 : decode b_Rep_takeFrom 137 = .ok (.goto 5, 3) := by decide +kernel
theorem d_Rep_takeFrom_140 : decode b_Rep_takeFrom 140 = .ok (.bipush (-2), 2) := by decide +kernel
theorem d_Rep_takeFrom_142 : decode b_Rep_takeFrom 142 = .ok (.ireturn, 1) := by decide +kernel
theorem d_Rep_twinOf_0 : decode b_Rep_twinOf 0 = .ok (.iload_n 2, 1) := by decide +kernel
theorem d_Rep_twinOf_1 : decode b_Rep_twinOf 1 = .ok (.iconst (-1), 1) := by decide +kernel
theorem d_Rep_twinOf_2 : decode b_Rep_twinOf 2 = .ok (.if_icmp .ne 7, 3) := by decide +kernel
theorem d_Rep_twinOf_5 : decode b_Rep_twinOf 5 = .ok (.iconst (-1), 1) := by decide +kernel
theorem d_Rep_twinOf_6 : decode b_Rep_twinOf 6 = .ok (.goto 16, 3) := by decide +kernel
theorem d_Rep_twinOf_9 : decode b_Rep_twinOf 9 = .ok (.aload_n 0, 1) := by decide +kernel
theorem d_Rep_twinOf_10 : decode b_Rep_twinOf 10 = .ok (.aload_n 1, 1) := by decide +kernel
theorem d_Rep_twinOf_11 : decode b_Rep_twinOf 11 = .ok (.getfield 22, 3) := by decide +kernel
theorem d_Rep_twinOf_14 : decode b_Rep_twinOf 14 = .ok (.iload_n 2, 1) := by decide +kernel
theorem d_Rep_twinOf_15 : decode b_Rep_twinOf 15 = .ok (.aaload, 1) := by decide +kernel
theorem d_Rep_twinOf_16 : decode b_Rep_twinOf 16 = .ok (.getfield 84, 3) := by decide +kernel
theorem d_Rep_twinOf_19 : decode b_Rep_twinOf 19 = .ok (.invokevirtual 88, 3) := by decide +kernel
theorem d_Rep_twinOf_22 : decode b_Rep_twinOf 22 = .ok (.ireturn, 1) := by decide +kernel
theorem d_Rep_undo_0 : decode b_Rep_undo 0 = .ok (.aload_n 0, 1) := by decide +kernel
theorem d_Rep_undo_1 : decode b_Rep_undo 1 = .ok (.getfield 14, 3) := by decide +kernel
theorem d_Rep_undo_4 : decode b_Rep_undo 4 = .ok (.aload_n 0, 1) := by decide +kernel
theorem d_Rep_undo_5 : decode b_Rep_undo 5 = .ok (.getfield 65, 3) := by decide +kernel
theorem d_Rep_undo_8 : decode b_Rep_undo 8 = .ok (.invokevirtual 71, 3) := by decide +kernel
theorem d_Rep_undo_11 : decode b_Rep_undo 11 = .ok (.aload_n 0, 1) := by decide +kernel
theorem d_Rep_undo_12 : decode b_Rep_undo 12 = .ok (.aload_n 0, 1) := by decide +kernel
theorem d_Rep_undo_13 : decode b_Rep_undo 13 = .ok (.getfield 68, 3) := by decide +kernel
theorem d_Rep_undo_16 : decode b_Rep_undo 16 = .ok (.putfield 27, 3) := by decide +kernel
theorem d_Rep_undo_19 : decode b_Rep_undo 19 = .ok (.aload_n 0, 1) := by decide +kernel
theorem d_Rep_undo_20 : decode b_Rep_undo 20 = .ok (.iconst 0, 1) := by decide +kernel
theorem d_Rep_undo_21 : decode b_Rep_undo 21 = .ok (.putfield 31, 3) := by decide +kernel
theorem d_Rep_undo_24 : decode b_Rep_undo 24 = .ok (.aload_n 0, 1) := by decide +kernel
theorem d_Rep_undo_25 : decode b_Rep_undo 25 = .ok (.iload_n 1, 1) := by decide +kernel
theorem d_Rep_undo_26 : decode b_Rep_undo 26 = .ok (.putfield 38, 3) := by decide +kernel
theorem d_Rep_undo_29 : decode b_Rep_undo 29 = .ok (.return_, 1) := by decide +kernel
theorem d_Row_add_0 : decode b_Row_add 0 = .ok (.aload_n 0, 1) := by decide +kernel
theorem d_Row_add_1 : decode b_Row_add 1 = .ok (.iconst 1, 1) := by decide +kernel
theorem d_Row_add_2 : decode b_Row_add 2 = .ok (.invokevirtual 21, 3) := by decide +kernel
theorem d_Row_add_5 : decode b_Row_add 5 = .ok (.ifCond .ne 5, 3) := by decide +kernel
theorem d_Row_add_8 : decode b_Row_add 8 = .ok (.iconst 0, 1) := by decide +kernel
theorem d_Row_add_9 : decode b_Row_add 9 = .ok (.ireturn, 1) := by decide +kernel
theorem d_Row_add_10 : decode b_Row_add 10 = .ok (.aload_n 0, 1) := by decide +kernel
theorem d_Row_add_11 : decode b_Row_add 11 = .ok (.getfield 7, 3) := by decide +kernel
theorem d_Row_add_14 : decode b_Row_add 14 = .ok (.aload_n 0, 1) := by decide +kernel
theorem d_Row_add_15 : decode b_Row_add 15 = .ok (.getfield 13, 3) := by decide +kernel
theorem d_Row_add_18 : decode b_Row_add 18 = .ok (.iload_n 1, 1) := by decide +kernel
theorem d_Row_add_19 : decode b_Row_add 19 = .ok (.iastore, 1) := by decide +kernel
theorem d_Row_add_20 : decode b_Row_add 20 = .ok (.aload_n 0, 1) := by decide +kernel
theorem d_Row_add_21 : decode b_Row_add 21 = .ok (.dup, 1) := by decide +kernel
theorem d_Row_add_22 : decode b_Row_add 22 = .ok (.getfield 13, 3) := by decide +kernel
theorem d_Row_add_25 : decode b_Row_add 25 = .ok (.iconst 1, 1) := by decide +kernel
theorem d_Row_add_26 : decode b_Row_add 26 = .ok (.iadd, 1) := by decide +kernel
theorem d_Row_add_27 : decode b_Row_add 27 = .ok (.putfield 13, 3) := by decide +kernel
theorem d_Row_add_30 : decode b_Row_add 30 = .ok (.iconst 1, 1) := by decide +kernel
theorem d_Row_add_31 : decode b_Row_add 31 = .ok (.ireturn, 1) := by decide +kernel
theorem d_Row_addPart_0 : decode b_Row_addPart 0 = .ok (.aload_n 0, 1) := by decide +kernel
theorem d_Row_addPart_1 : decode b_Row_addPart 1 = .ok (.iload_n 3, 1) := by decide +kernel
theorem d_Row_addPart_2 : decode b_Row_addPart 2 = .ok (.invokevirtual 21, 3) := by decide +kernel
theorem d_Row_addPart_5 : decode b_Row_addPart 5 = .ok (.ifCond .eq 17, 3) := by decide +kernel
theorem d_Row_addPart_8 : decode b_Row_addPart 8 = .ok (.iload_n 2, 1) := by decide +kernel
theorem d_Row_addPart_9 : decode b_Row_addPart 9 = .ok (.ifCond .lt 13, 3) := by decide +kernel
theorem d_Row_addPart_12 : decode b_Row_addPart 12 = .ok (.iload_n 3, 1) := by decide +kernel
theorem d_Row_addPart_13 : decode b_Row_addPart 13 = .ok (.aload_n 1, 1) := by decide +kernel
theorem d_Row_addPart_14 : decode b_Row_addPart 14 = .ok (.getfield 13, 3) := by decide +kernel
theorem d_Row_addPart_17 : decode b_Row_addPart 17 = .ok (.iload_n 2, 1) := by decide +kernel
theorem d_Row_addPart_18 : decode b_Row_addPart 18 = .ok (.isub, 1) := by decide +kernel
theorem d_Row_addPart_19 : decode b_Row_addPart 19 = .ok (.if_icmp .le 5, 3) := by decide +kernel
theorem d_Row_addPart_22 : decode b_Row_addPart 22 = .ok (.iconst 0, 1) := by decide +kernel
theorem d_Row_addPart_23 : decode b_Row_addPart 23 = .ok (.ireturn, 1) := by decide +kernel
theorem d_Row_addPart_24 : decode b_Row_addPart 24 = .ok (.aload_n 1, 1) := by decide +kernel
theorem d_Row_addPart_25 : decode b_Row_addPart 25 = .ok (.getfield 7, 3) := by decide +kernel
theorem d_Row_addPart_28 : decode b_Row_addPart 28 = .ok (.iload_n 2, 1) := by decide +kernel
theorem d_Row_addPart_29 : decode b_Row_addPart 29 = .ok (.aload_n 0, 1) := by decide +kernel
theorem d_Row_addPart_30 : decode b_Row_addPart 30 = .ok (.getfield 7, 3) := by decide +kernel
theorem d_Row_addPart_33 : decode b_Row_addPart 33 = .ok (.aload_n 0, 1) := by decide +kernel
theorem d_Row_addPart_34 : decode b_Row_addPart 34 = .ok (.getfield 13, 3) := by decide +kernel
theorem d_Row_addPart_37 : decode b_Row_addPart 37 = .ok (.iload_n 3, 1) := by decide +kernel
theorem d_Row_addPart_38 : decode b_Row_addPart 38 = .ok (.invokestatic 30, 3) := by decide +kernel
theorem d_Row_addPart_41 : decode b_Row_addPart 41 = .ok (.aload_n 0, 1) := by decide +kernel
theorem d_Row_addPart_42 : decode b_Row_addPart 42 = .ok (.dup, 1) := by decide +kernel
theorem d_Row_addPart_43 : decode b_Row_addPart 43 = .ok (.getfield 13, 3) := by decide +kernel
theorem d_Row_addPart_46 : decode b_Row_addPart 46 = .ok (.iload_n 3, 1) := by decide +kernel
theorem d_Row_addPart_47 : decode b_Row_addPart 47 = .ok (.iadd, 1) := by decide +kernel
theorem d_Row_addPart_48 : decode b_Row_addPart 48 = .ok (.putfield 13, 3) := by decide +kernel
theorem d_Row_addPart_51 : decode b_Row_addPart 51 = .ok (.iconst 1, 1) := by decide +kernel
theorem d_Row_addPart_52 : decode b_Row_addPart 52 = .ok (.ireturn, 1) := by decide +kernel
theorem d_Row_addRun_0 : decode b_Row_addRun 0 = .ok (.aload_n 0, 1) := by decide +kernel
theorem d_Row_addRun_1 : decode b_Row_addRun 1 = .ok (.iload_n 2, 1) := by decide +kernel
theorem d_Row_addRun_2 : decode b_Row_addRun 2 = .ok (.invokevirtual 21, 3) := by decide +kernel
theorem d_Row_addRun_5 : decode b_Row_addRun 5 = .ok (.ifCond .ne 5, 3) := by decide +kernel
theorem d_Row_addRun_8 : decode b_Row_addRun 8 = .ok (.iconst 0, 1) := by decide +kernel
theorem d_Row_addRun_9 : decode b_Row_addRun 9 = .ok (.ireturn, 1) := by decide +kernel
theorem d_Row_addRun_10 : decode b_Row_addRun 10 = .ok (.aload_n 0, 1) := by decide +kernel
theorem d_Row_addRun_11 : decode b_Row_addRun 11 = .ok (.getfield 7, 3) := by decide +kernel
theorem d_Row_addRun_14 : decode b_Row_addRun 14 = .ok (.aload_n 0, 1) := by decide +kernel
theorem d_Row_addRun_15 : decode b_Row_addRun 15 = .ok (.getfield 13, 3) := by decide +kernel
theorem d_Row_addRun_18 : decode b_Row_addRun 18 = .ok (.aload_n 0, 1) := by decide +kernel
theorem d_Row_addRun_19 : decode b_Row_addRun 19 = .ok (.getfield 13, 3) := by decide +kernel
theorem d_Row_addRun_22 : decode b_Row_addRun 22 = .ok (.iload_n 2, 1) := by decide +kernel
theorem d_Row_addRun_23 : decode b_Row_addRun 23 = .ok (.iadd, 1) := by decide +kernel
theorem d_Row_addRun_24 : decode b_Row_addRun 24 = .ok (.iload_n 1, 1) := by decide +kernel
theorem d_Row_addRun_25 : decode b_Row_addRun 25 = .ok (.invokestatic 24, 3) := by decide +kernel
theorem d_Row_addRun_28 : decode b_Row_addRun 28 = .ok (.aload_n 0, 1) := by decide +kernel
theorem d_Row_addRun_29 : decode b_Row_addRun 29 = .ok (.dup, 1) := by decide +kernel
theorem d_Row_addRun_30 : decode b_Row_addRun 30 = .ok (.getfield 13, 3) := by decide +kernel
theorem d_Row_addRun_33 : decode b_Row_addRun 33 = .ok (.iload_n 2, 1) := by decide +kernel
theorem d_Row_addRun_34 : decode b_Row_addRun 34 = .ok (.iadd, 1) := by decide +kernel
theorem d_Row_addRun_35 : decode b_Row_addRun 35 = .ok (.putfield 13, 3) := by decide +kernel
theorem d_Row_addRun_38 : decode b_Row_addRun 38 = .ok (.iconst 1, 1) := by decide +kernel
theorem d_Row_addRun_39 : decode b_Row_addRun 39 = .ok (.ireturn, 1) := by decide +kernel
theorem d_Row_at_0 : decode b_Row_at 0 = .ok (.aload_n 0, 1) := by decide +kernel
theorem d_Row_at_1 : decode b_Row_at 1 = .ok (.iload_n 1, 1) := by decide +kernel
theorem d_Row_at_2 : decode b_Row_at 2 = .ok (.invokevirtual 17, 3) := by decide +kernel
theorem d_Row_at_5 : decode b_Row_at 5 = .ok (.ifCond .eq 12, 3) := by decide +kernel
theorem d_Row_at_8 : decode b_Row_at 8 = .ok (.aload_n 0, 1) := by decide +kernel
theorem d_Row_at_9 : decode b_Row_at 9 = .ok (.getfield 7, 3) := by decide +kernel
theorem d_Row_at_12 : decode b_Row_at 12 = .ok (.iload_n 1, 1) := by decide +kernel
theorem d_Row_at_13 : decode b_Row_at 13 = .ok (.iaload, 1) := by decide +kernel
theorem d_Row_at_14 : decode b_Row_at 14 = .ok (.goto 4, 3) := by decide +kernel
theorem d_Row_at_17 : decode b_Row_at 17 = .ok (.iconst 0, 1) := by decide +kernel
theorem d_Row_at_18 : decode b_Row_at 18 = .ok (.ireturn, 1) := by decide +kernel
theorem d_Row_become_0 : decode b_Row_become 0 = .ok (.aload_n 0, 1) := by decide +kernel
theorem d_Row_become_1 : decode b_Row_become 1 = .ok (.iconst 0, 1) := by decide +kernel
theorem d_Row_become_2 : decode b_Row_become 2 = .ok (.putfield 13, 3) := by decide +kernel
theorem d_Row_become_5 : decode b_Row_become 5 = .ok (.aload_n 0, 1) := by decide +kernel
theorem d_Row_become_6 : decode b_Row_become 6 = .ok (.aload_n 1, 1) := by decide +kernel
theorem d_Row_become_7 : decode b_Row_become 7 = .ok (.iconst 0, 1) := by decide +kernel
theorem d_Row_become_8 : decode b_Row_become 8 = .ok (.aload_n 1, 1) := by decide +kernel
theorem d_Row_become_9 : decode b_Row_become 9 = .ok (.getfield 13, 3) := by decide +kernel
theorem d_Row_become_12 : decode b_Row_become 12 = .ok (.invokevirtual 36, 3) := by decide +kernel
theorem d_Row_become_15 : decode b_Row_become 15 = .ok (.pop, 1) := by decide +kernel
theorem d_Row_become_16 : decode b_Row_become 16 = .ok (.return_, 1) := by decide +kernel
theorem d_Row_cut_0 : decode b_Row_cut 0 = .ok (.iload_n 1, 1) := by decide +kernel
theorem d_Row_cut_1 : decode b_Row_cut 1 = .ok (.ifCond .lt 16, 3) := by decide +kernel
theorem d_Row_cut_4 : decode b_Row_cut 4 = .ok (.iload_n 1, 1) := by decide +kernel
theorem d_Row_cut_5 : decode b_Row_cut 5 = .ok (.aload_n 0, 1) := by decide +kernel
theorem d_Row_cut_6 : decode b_Row_cut 6 = .ok (.getfield 13, 3) := by decide +kernel
theorem d_Row_cut_9 : decode b_Row_cut 9 = .ok (.if_icmp .ge 8, 3) := by decide +kernel
theorem d_Row_cut_12 : decode b_Row_cut 12 = .ok (.aload_n 0, 1) := by decide +kernel
theorem d_Row_cut_13 : decode b_Row_cut 13 = .ok (.iload_n 1, 1) := by decide +kernel
theorem d_Row_cut_14 : decode b_Row_cut 14 = .ok (.putfield 13, 3) := by decide +kernel
theorem d_Row_cut_17 : decode b_Row_cut 17 = .ok (.return_, 1) := by decide +kernel
theorem d_Row_flip_0 : decode b_Row_flip 0 = .ok (.aload_n 0, 1) := by decide +kernel
theorem d_Row_flip_1 : decode b_Row_flip 1 = .ok (.iload_n 1, 1) := by decide +kernel
theorem d_Row_flip_2 : decode b_Row_flip 2 = .ok (.invokevirtual 17, 3) := by decide +kernel
theorem d_Row_flip_5 : decode b_Row_flip 5 = .ok (.ifCond .eq 13, 3) := by decide +kernel
theorem d_Row_flip_8 : decode b_Row_flip 8 = .ok (.aload_n 0, 1) := by decide +kernel
theorem d_Row_flip_9 : decode b_Row_flip 9 = .ok (.getfield 7, 3) := by decide +kernel
theorem d_Row_flip_12 : decode b_Row_flip 12 = .ok (.iload_n 1, 1) := by decide +kernel
theorem d_Row_flip_13 : decode b_Row_flip 13 = .ok (.dup2, 1) := by decide +kernel
theorem d_Row_flip_14 : decode b_Row_flip 14 = .ok (.iaload, 1) := by decide +kernel
theorem d_Row_flip_15 : decode b_Row_flip 15 = .ok (.iload_n 2, 1) := by decide +kernel
theorem d_Row_flip_16 : decode b_Row_flip 16 = .ok (.ixor, 1) := by decide +kernel
theorem d_Row_flip_17 : decode b_Row_flip 17 = .ok (.iastore, 1) := by decide +kernel
theorem d_Row_flip_18 : decode b_Row_flip 18 = .ok (.return_, 1) := by decide +kernel
theorem d_Row_has_0 : decode b_Row_has 0 = .ok (.iload_n 1, 1) := by decide +kernel
theorem d_Row_has_1 : decode b_Row_has 1 = .ok (.ifCond .lt 15, 3) := by decide +kernel
theorem d_Row_has_4 : decode b_Row_has 4 = .ok (.iload_n 1, 1) := by decide +kernel
theorem d_Row_has_5 : decode b_Row_has 5 = .ok (.aload_n 0, 1) := by decide +kernel
theorem d_Row_has_6 : decode b_Row_has 6 = .ok (.getfield 13, 3) := by decide +kernel
theorem d_Row_has_9 : decode b_Row_has 9 = .ok (.if_icmp .ge 7, 3) := by decide +kernel
theorem d_Row_has_12 : decode b_Row_has 12 = .ok (.iconst 1, 1) := by decide +kernel
theorem d_Row_has_13 : decode b_Row_has 13 = .ok (.goto 4, 3) := by decide +kernel
theorem d_Row_has_16 : decode b_Row_has 16 = .ok (.iconst 0, 1) := by decide +kernel
theorem d_Row_has_17 : decode b_Row_has 17 = .ok (.ireturn, 1) := by decide +kernel
theorem d_Row_hasRoomFor_0 : decode b_Row_hasRoomFor 0 = .ok (.iload_n 1, 1) := by decide +kernel
theorem d_Row_hasRoomFor_1 : decode b_Row_hasRoomFor 1 = .ok (.ifCond .lt 21, 3) := by decide +kernel
theorem d_Row_hasRoomFor_4 : decode b_Row_hasRoomFor 4 = .ok (.iload_n 1, 1) := by decide +kernel
theorem d_Row_hasRoomFor_5 : decode b_Row_hasRoomFor 5 = .ok (.aload_n 0, 1) := by decide +kernel
theorem d_Row_hasRoomFor_6 : decode b_Row_hasRoomFor 6 = .ok (.getfield 7, 3) := by decide +kernel
theorem d_Row_hasRoomFor_9 : decode b_Row_hasRoomFor 9 = .ok (.arraylength, 1) := by decide +kernel
theorem d_Row_hasRoomFor_10 : decode b_Row_hasRoomFor 10 = .ok (.aload_n 0, 1) := by decide +kernel
theorem d_Row_hasRoomFor_11 : decode b_Row_hasRoomFor 11 = .ok (.getfield 13, 3) := by decide +kernel
theorem d_Row_hasRoomFor_14 : decode b_Row_hasRoomFor 14 = .ok (.isub, 1) := by decide +kernel
theorem d_Row_hasRoomFor_15 : decode b_Row_hasRoomFor 15 = .ok (.if_icmp .gt 7, 3) := by decide +kernel
theorem d_Row_hasRoomFor_18 : decode b_Row_hasRoomFor 18 = .ok (.iconst 1, 1) := by decide +kernel
theorem d_Row_hasRoomFor_19 : decode b_Row_hasRoomFor 19 = .ok (.goto 4, 3) := by decide +kernel
theorem d_Row_hasRoomFor_22 : decode b_Row_hasRoomFor 22 = .ok (.iconst 0, 1) := by decide +kernel
theorem d_Row_hasRoomFor_23 : decode b_Row_hasRoomFor 23 = .ok (.ireturn, 1) := by decide +kernel
theorem d_Row_init_0 : decode b_Row_init 0 = .ok (.aload_n 0, 1) := by decide +kernel
theorem d_Row_init_1 : decode b_Row_init 1 = .ok (.invokespecial 1, 3) := by decide +kernel
theorem d_Row_init_4 : decode b_Row_init 4 = .ok (.aload_n 0, 1) := by decide +kernel
theorem d_Row_init_5 : decode b_Row_init 5 = .ok (.iload_n 1, 1) := by decide +kernel
theorem d_Row_init_6 : decode b_Row_init 6 = .ok (.newarray .int, 2) := by decide +kernel
theorem d_Row_init_8 : decode b_Row_init 8 = .ok (.putfield 7, 3) := by decide +kernel
theorem d_Row_init_11 : decode b_Row_init 11 = .ok (.aload_n 0, 1) := by decide +kernel
theorem d_Row_init_12 : decode b_Row_init 12 = .ok (.iconst 0, 1) := by decide +kernel
theorem d_Row_init_13 : decode b_Row_init 13 = .ok (.putfield 13, 3) := by decide +kernel
theorem d_Row_init_16 : decode b_Row_init 16 = .ok (.return_, 1) := by decide +kernel
theorem d_Row_replace_0 : decode b_Row_replace 0 = .ok (.iload_n 1, 1) := by decide +kernel
theorem d_Row_replace_1 : decode b_Row_replace 1 = .ok (.ifCond .lt 16, 3) := by decide +kernel
theorem d_Row_replace_4 : decode b_Row_replace 4 = .ok (.iload_n 1, 1) := by decide +kernel
theorem d_Row_replace_5 : decode b_Row_replace 5 = .ok (.iload_n 2, 1) := by decide +kernel
theorem d_Row_replace_6 : decode b_Row_replace 6 = .ok (.if_icmp .gt 11, 3) := by decide +kernel
theorem d_Row_replace_9 : decode b_Row_replace 9 = .ok (.iload_n 2, 1) := by decide +kernel
theorem d_Row_replace_10 : decode b_Row_replace 10 = .ok (.aload_n 0, 1) := by decide +kernel
theorem d_Row_replace_11 : decode b_Row_replace 11 = .ok (.getfield 13, 3) := by decide +kernel
theorem d_Row_replace_14 : decode b_Row_replace 14 = .ok (.if_icmp .le 5, 3) := by decide +kernel
theorem d_Row_replace_17 : decode b_Row_replace 17 = .ok (.iconst 0, 1) := by decide +kernel
theorem d_Row_replace_18 : decode b_Row_replace 18 = .ok (.ireturn, 1) := by decide +kernel
theorem d_Row_replace_19 : decode b_Row_replace 19 = .ok (.iload 4, 2) := by decide +kernel
theorem d_Row_replace_21 : decode b_Row_replace 21 = .ok (.ifCond .lt 20, 3) := by decide +kernel
theorem d_Row_replace_24 : decode b_Row_replace 24 = .ok (.iload 5, 2) := by decide +kernel
theorem d_Row_replace_26 : decode b_Row_replace 26 = .ok (.ifCond .lt 15, 3) := by decide +kernel
theorem d_Row_replace_29 : decode b_Row_replace 29 = .ok (.iload 5, 2) := by decide +kernel
theorem d_Row_replace_31 : decode b_Row_replace 31 = .ok (.aload_n 3, 1) := by decide +kernel
theorem d_Row_replace_32 : decode b_Row_replace 32 = .ok (.getfield 13, 3) := by decide +kernel
theorem d_Row_replace_35 : decode b_Row_replace 35 = .ok (.iload 4, 2) := by decide +kernel
theorem d_Row_replace_37 : decode b_Row_replace 37 = .ok (.isub, 1) := by decide +kernel
theorem d_Row_replace_38 : decode b_Row_replace 38 = .ok (.if_icmp .le 5, 3) := by decide +kernel
theorem d_Row_replace_41 : decode b_Row_replace 41 = .ok (.iconst 0, 1) := by decide +kernel
theorem d_Row_replace_42 : decode b_Row_replace 42 = .ok (.ireturn, 1) := by decide +kernel
theorem d_Row_replace_43 : decode b_Row_replace 43 = .ok (.aload_n 0, 1) := by decide +kernel
theorem d_Row_replace_44 : decode b_Row_replace 44 = .ok (.getfield 13, 3) := by decide +kernel
theorem d_Row_replace_47 : decode b_Row_replace 47 = .ok (.iload_n 2, 1) := by decide +kernel
theorem d_Row_replace_48 : decode b_Row_replace 48 = .ok (.iload_n 1, 1) := by decide +kernel
theorem d_Row_replace_49 : decode b_Row_replace 49 = .ok (.isub, 1) := by decide +kernel
theorem d_Row_replace_50 : decode b_Row_replace 50 = .ok (.isub, 1) := by decide +kernel
theorem d_Row_replace_51 : decode b_Row_replace 51 = .ok (.iload 5, 2) := by decide +kernel
theorem d_Row_replace_53 : decode b_Row_replace 53 = .ok (.iadd, 1) := by decide +kernel
theorem d_Row_replace_54 : decode b_Row_replace 54 = .ok (.istore 6, 2) := by decide +kernel
theorem d_Row_replace_56 : decode b_Row_replace 56 = .ok (.iload 6, 2) := by decide +kernel
theorem d_Row_replace_58 : decode b_Row_replace 58 = .ok (.aload_n 0, 1) := by decide +kernel
theorem d_Row_replace_59 : decode b_Row_replace 59 = .ok (.getfield 7, 3) := by decide +kernel
theorem d_Row_replace_62 : decode b_Row_replace 62 = .ok (.arraylength, 1) := by decide +kernel
theorem d_Row_replace_63 : decode b_Row_replace 63 = .ok (.if_icmp .le 5, 3) := by decide +kernel
theorem d_Row_replace_66 : decode b_Row_replace 66 = .ok (.iconst 0, 1) := by decide +kernel
theorem d_Row_replace_67 : decode b_Row_replace 67 = .ok (.ireturn, 1) := by decide +kernel
theorem d_Row_replace_68 : decode b_Row_replace 68 = .ok (.aload_n 0, 1) := by decide +kernel
theorem d_Row_replace_69 : decode b_Row_replace 69 = .ok (.getfield 7, 3) := by decide +kernel
theorem d_Row_replace_72 : decode b_Row_replace 72 = .ok (.iload_n 2, 1) := by decide +kernel
theorem d_Row_replace_73 : decode b_Row_replace 73 = .ok (.aload_n 0, 1) := by decide +kernel
theorem d_Row_replace_74 : decode b_Row_replace 74 = .ok (.getfield 7, 3) := by decide +kernel
theorem d_Row_replace_77 : decode b_Row_replace 77 = .ok (.iload_n 1, 1) := by decide +kernel
theorem d_Row_replace_78 : decode b_Row_replace 78 = .ok (.iload 5, 2) := by decide +kernel
theorem d_Row_replace_80 : decode b_Row_replace 80 = .ok (.iadd, 1) := by decide +kernel
theorem d_Row_replace_81 : decode b_Row_replace 81 = .ok (.aload_n 0, 1) := by decide +kernel
theorem d_Row_replace_82 : decode b_Row_replace 82 = .ok (.getfield 13, 3) := by decide +kernel
theorem d_Row_replace_85 : decode b_Row_replace 85 = .ok (.iload_n 2, 1) := by decide +kernel
theorem d_Row_replace_86 : decode b_Row_replace 86 = .ok (.isub, 1) := by decide +kernel
theorem d_Row_replace_87 : decode b_Row_replace 87 = .ok (.invokestatic 30, 3) := by decide +kernel
theorem d_Row_replace_90 : decode b_Row_replace 90 = .ok (.aload_n 3, 1) := by decide +kernel
theorem d_Row_replace_91 : decode b_Row_replace 91 = .ok (.getfield 7, 3) := by decide +kernel
theorem d_Row_replace_94 : decode b_Row_replace 94 = .ok (.iload 4, 2) := by decide +kernel
theorem d_Row_replace_96 : decode b_Row_replace 96 = .ok (.aload_n 0, 1) := by decide +kernel
theorem d_Row_replace_97 : decode b_Row_replace 97 = .ok (.getfield 7, 3) := by decide +kernel
theorem d_Row_replace_100 : decode b_Row_replace 100 = .ok (.iload_n 1, 1) := by decide +kernel
theorem d_Row_replace_101 : decode b_Row_replace 101 = .ok (.iload 5, 2) := by decide +kernel
theorem d_Row_replace_103 : decode b_Row_replace 103 = .ok (.invokestatic 30, 3) := by decide +kernel
theorem d_Row_replace_106 : decode b_Row_replace 106 = .ok (.aload_n 0, 1) := by decide +kernel
theorem d_Row_replace_107 : decode b_Row_replace 107 = .ok (.iload 6, 2) := by decide +kernel
theorem d_Row_replace_109 : decode b_Row_replace 109 = .ok (.putfield 13, 3) := by decide +kernel
theorem d_Row_replace_112 : decode b_Row_replace 112 = .ok (.iconst 1, 1) := by decide +kernel
theorem d_Row_replace_113 : decode b_Row_replace 113 = .ok (.ireturn, 1) := by decide +kernel
theorem d_V_abort_0 : decode b_V_abort 0 = .ok (.aload_n 0, 1) := by decide +kernel
theorem d_V_abort_1 : decode b_V_abort 1 = .ok (.iload_n 1, 1) := by decide +kernel
theorem d_V_abort_2 : decode b_V_abort 2 = .ok (.invokevirtual 61, 3) := by decide +kernel
theorem d_V_abort_5 : decode b_V_abort 5 = .ok (.invokevirtual 80, 3) := by decide +kernel
theorem d_V_abort_8 : decode b_V_abort 8 = .ok (.ireturn, 1) := by decide +kernel
theorem d_V_append_0 : decode b_V_append 0 = .ok (.aload_n 0, 1) := by decide +kernel
theorem d_V_append_1 : decode b_V_append 1 = .ok (.iload_n 1, 1) := by decide +kernel
theorem d_V_append_2 : decode b_V_append 2 = .ok (.invokevirtual 61, 3) := by decide +kernel
theorem d_V_append_5 : decode b_V_append 5 = .ok (.astore 4, 2) := by decide +kernel
theorem d_V_append_7 : decode b_V_append 7 = .ok (.aload 4, 2) := by decide +kernel
theorem d_V_append_9 : decode b_V_append 9 = .ok (.iload_n 2, 1) := by decide +kernel
theorem d_V_append_10 : decode b_V_append 10 = .ok (.invokevirtual 64, 3) := by decide +kernel
theorem d_V_append_13 : decode b_V_append 13 = .ok (.ifCond .eq 12, 3) := by decide +kernel
theorem d_V_append_16 : decode b_V_append 16 = .ok (.aload 4, 2) := by decide +kernel
theorem d_V_append_18 : decode b_V_append 18 = .ok (.iload_n 3, 1) := by decide +kernel
theorem d_V_append_19 : decode b_V_append 19 = .ok (.invokevirtual 64, 3) := by decide +kernel
theorem d_V_append_22 : decode b_V_append 22 = .ok (.ifCond .ne 11, 3) := by decide +kernel
theorem d_V_append_25 : decode b_V_append 25 = .ok (.new 67, 3) := by decide +kernel
theorem d_V_append_28 : decode b_V_append 28 = .ok (.dup, 1) := by decide +kernel
theorem d_V_append_29 : decode b_V_append 29 = .ok (.invokespecial 69, 3) := by decide +kernel
theorem d_V_append_32 : decode b_V_append 32 = .ok (.athrow, 1) := by decide +kernel
theorem d_V_append_33 : decode b_V_append 33 = .ok (.aload 4, 2) := by decide +kernel
theorem d_V_append_35 : decode b_V_append 35 = .ok (.aload_n 0, 1) := by decide +kernel
theorem d_V_append_36 : decode b_V_append 36 = .ok (.getfield 14, 3) := by decide +kernel
theorem d_V_append_39 : decode b_V_append 39 = .ok (.iload_n 2, 1) := by decide +kernel
theorem d_V_append_40 : decode b_V_append 40 = .ok (.iload_n 3, 1) := by decide +kernel
theorem d_V_append_41 : decode b_V_append 41 = .ok (.invokevirtual 70, 3) := by decide +kernel
theorem d_V_append_44 : decode b_V_append 44 = .ok (.istore 5, 2) := by decide +kernel
theorem d_V_append_46 : decode b_V_append 46 = .ok (.iload 5, 2) := by decide +kernel
theorem d_V_append_48 : decode b_V_append 48 = .ok (.bipush (-3), 2) := by decide +kernel
theorem d_V_append_50 : decode b_V_append 50 = .ok (.if_icmp .ne 11, 3) := by decide +kernel
theorem d_V_append_53 : decode b_V_append 53 = .ok (.new 74, 3) := by decide +kernel
theorem d_V_append_56 : decode b_V_append 56 = .ok (.dup, 1) := by decide +kernel
theorem d_V_append_57 : decode b_V_append 57 = .ok (.invokespecial 76, 3) := by decide +kernel
theorem d_V_append_60 : decode b_V_append 60 = .ok (.athrow, 1) := by decide +kernel
theorem d_V_append_61 : decode b_V_append 61 = .ok (.iload 5, 2) := by decide +kernel
theorem d_V_append_63 : decode b_V_append 63 = .ok (.ireturn, 1) := by decide +kernel
theorem d_V_barTo_0 : decode b_V_barTo 0 = .ok (.iload_n 1, 1) := by decide +kernel
theorem d_V_barTo_1 : decode b_V_barTo 1 = .ok (.invokestatic 149, 3) := by decide +kernel
theorem d_V_barTo_4 : decode b_V_barTo 4 = .ok (.ifCond .ne 5, 3) := by decide +kernel
theorem d_V_barTo_7 : decode b_V_barTo 7 = .ok (.iconst (-1), 1) := by decide +kernel
theorem d_V_barTo_8 : decode b_V_barTo 8 = .ok (.ireturn, 1) := by decide +kernel
theorem d_V_barTo_9 : decode b_V_barTo 9 = .ok (.aload_n 0, 1) := by decide +kernel
theorem d_V_barTo_10 : decode b_V_barTo 10 = .ok (.getfield 20, 3) := by decide +kernel
theorem d_V_barTo_13 : decode b_V_barTo 13 = .ok (.iload_n 1, 1) := by decide +kernel
theorem d_V_barTo_14 : decode b_V_barTo 14 = .ok (.aaload, 1) := by decide +kernel
theorem d_V_barTo_15 : decode b_V_barTo 15 = .ok (.getfield 47, 3) := by decide +kernel
theorem d_V_barTo_18 : decode b_V_barTo 18 = .ok (.ifCond .eq 8, 3) := by decide +kernel
theorem d_V_barTo_21 : decode b_V_barTo 21 = .ok (.bipush (-2), 2) := by decide +kernel
theorem d_V_barTo_23 : decode b_V_barTo 23 = .ok (.goto 4, 3) := by decide +kernel
theorem d_V_barTo_26 : decode b_V_barTo 26 = .ok (.iconst 0, 1) := by decide +kernel
theorem d_V_barTo_27 : decode b_V_barTo 27 = .ok (.ireturn, 1) := by decide +kernel
theorem d_V_begin_0 : decode b_V_begin 0 = .ok (.aload_n 0, 1) := by decide +kernel
theorem d_V_begin_1 : decode b_V_begin 1 = .ok (.iload_n 1, 1) := by decide +kernel
theorem d_V_begin_2 : decode b_V_begin 2 = .ok (.invokevirtual 43, 3) := by decide +kernel
theorem d_V_begin_5 : decode b_V_begin 5 = .ok (.astore_n 2, 1) := by decide +kernel
theorem d_V_begin_6 : decode b_V_begin 6 = .ok (.aload_n 2, 1) := by decide +kernel
theorem d_V_begin_7 : decode b_V_begin 7 = .ok (.getfield 47, 3) := by decide +kernel
theorem d_V_begin_10 : decode b_V_begin 10 = .ok (.ifCond .ne 10, 3) := by decide +kernel
theorem d_V_begin_13 : decode b_V_begin 13 = .ok (.aload_n 2, 1) := by decide +kernel
theorem d_V_begin_14 : decode b_V_begin 14 = .ok (.getfield 51, 3) := by decide +kernel
theorem d_V_begin_17 : decode b_V_begin 17 = .ok (.ifCond .eq 11, 3) := by decide +kernel
theorem d_V_begin_20 : decode b_V_begin 20 = .ok (.new 54, 3) := by decide +kernel
theorem d_V_begin_23 : decode b_V_begin 23 = .ok (.dup, 1) := by decide +kernel
theorem d_V_begin_24 : decode b_V_begin 24 = .ok (.invokespecial 56, 3) := by decide +kernel
theorem d_V_begin_27 : decode b_V_begin 27 = .ok (.athrow, 1) := by decide +kernel
theorem d_V_begin_28 : decode b_V_begin 28 = .ok (.aload_n 2, 1) := by decide +kernel
theorem d_V_begin_29 : decode b_V_begin 29 = .ok (.invokevirtual 57, 3) := by decide +kernel
theorem d_V_begin_32 : decode b_V_begin 32 = .ok (.ifCond .eq 7, 3) := by decide +kernel
theorem d_V_begin_35 : decode b_V_begin 35 = .ok (.iconst 0, 1) := by decide +kernel
theorem d_V_begin_36 : decode b_V_begin 36 = .ok (.goto 5, 3) := by decide +kernel
theorem d_V_begin_39 : decode b_V_begin 39 = .ok (.bipush (-2), 2) := by decide +kernel
theorem d_V_begin_41 : decode b_V_begin 41 = .ok (.ireturn, 1) := by decide +kernel
theorem d_V_byteAt_0 : decode b_V_byteAt 0 = .ok (.lload_n 0, 1) := by decide +kernel
theorem d_V_byteAt_1 : decode b_V_byteAt 1 = .ok (.iload_n 2, 1) := by decide +kernel
theorem d_V_byteAt_2 : decode b_V_byteAt 2 = .ok (.lushr, 1) := by decide +kernel
theorem d_V_byteAt_3 : decode b_V_byteAt 3 = .ok (.l2i, 1) := by decide +kernel
theorem d_V_byteAt_4 : decode b_V_byteAt 4 = .ok (.sipush 255, 3) := by decide +kernel
theorem d_V_byteAt_7 : decode b_V_byteAt 7 = .ok (.iand, 1) := by decide +kernel
theorem d_V_byteAt_8 : decode b_V_byteAt 8 = .ok (.ireturn, 1) := by decide +kernel
theorem d_V_commit_0 : decode b_V_commit 0 = .ok (.aload_n 0, 1) := by decide +kernel
theorem d_V_commit_1 : decode b_V_commit 1 = .ok (.iload_n 1, 1) := by decide +kernel
theorem d_V_commit_2 : decode b_V_commit 2 = .ok (.invokevirtual 61, 3) := by decide +kernel
theorem d_V_commit_5 : decode b_V_commit 5 = .ok (.invokevirtual 77, 3) := by decide +kernel
theorem d_V_commit_8 : decode b_V_commit 8 = .ok (.ifCond .eq 7, 3) := by decide +kernel
theorem d_V_commit_11 : decode b_V_commit 11 = .ok (.iconst 0, 1) := by decide +kernel
theorem d_V_commit_12 : decode b_V_commit 12 = .ok (.goto 5, 3) := by decide +kernel
theorem d_V_commit_15 : decode b_V_commit 15 = .ok (.bipush (-2), 2) := by decide +kernel
theorem d_V_commit_17 : decode b_V_commit 17 = .ok (.ireturn, 1) := by decide +kernel
theorem d_V_common_0 : decode b_V_common 0 = .ok (.aload_n 0, 1) := by decide +kernel
theorem d_V_common_1 : decode b_V_common 1 = .ok (.iload_n 1, 1) := by decide +kernel
theorem d_V_common_2 : decode b_V_common 2 = .ok (.invokevirtual 84, 3) := by decide +kernel
theorem d_V_common_5 : decode b_V_common 5 = .ok (.istore 4, 2) := by decide +kernel
theorem d_V_common_7 : decode b_V_common 7 = .ok (.iload 4, 2) := by decide +kernel
theorem d_V_common_9 : decode b_V_common 9 = .ok (.ifCond .eq 6, 3) := by decide +kernel
theorem d_V_common_12 : decode b_V_common 12 = .ok (.iload 4, 2) := by decide +kernel
theorem d_V_common_14 : decode b_V_common 14 = .ok (.ireturn, 1) := by decide +kernel
theorem d_V_common_15 : decode b_V_common 15 = .ok (.aload_n 0, 1) := by decide +kernel
theorem d_V_common_16 : decode b_V_common 16 = .ok (.getfield 20, 3) := by decide +kernel
theorem d_V_common_19 : decode b_V_common 19 = .ok (.iload_n 1, 1) := by decide +kernel
theorem d_V_common_20 : decode b_V_common 20 = .ok (.aaload, 1) := by decide +kernel
theorem d_V_common_21 : decode b_V_common 21 = .ok (.astore 5, 2) := by decide +kernel
theorem d_V_common_23 : decode b_V_common 23 = .ok (.aload 5, 2) := by decide +kernel
theorem d_V_common_25 : decode b_V_common 25 = .ok (.iload_n 2, 1) := by decide +kernel
theorem d_V_common_26 : decode b_V_common 26 = .ok (.invokevirtual 101, 3) := by decide +kernel
theorem d_V_common_29 : decode b_V_common 29 = .ok (.ifCond .eq 12, 3) := by decide +kernel
theorem d_V_common_32 : decode b_V_common 32 = .ok (.aload 5, 2) := by decide +kernel
theorem d_V_common_34 : decode b_V_common 34 = .ok (.iload_n 3, 1) := by decide +kernel
theorem d_V_common_35 : decode b_V_common 35 = .ok (.invokevirtual 101, 3) := by decide +kernel
theorem d_V_common_38 : decode b_V_common 38 = .ok (.ifCond .ne 5, 3) := by decide +kernel
theorem d_V_common_41 : decode b_V_common 41 = .ok (.iconst (-1), 1) := by decide +kernel
theorem d_V_common_42 : decode b_V_common 42 = .ok (.ireturn, 1) := by decide +kernel
theorem d_V_common_43 : decode b_V_common 43 = .ok (.aload 5, 2) := by decide +kernel
theorem d_V_common_45 : decode b_V_common 45 = .ok (.iload_n 2, 1) := by decide +kernel
theorem d_V_common_46 : decode b_V_common 46 = .ok (.iload_n 3, 1) := by decide +kernel
theorem d_V_common_47 : decode b_V_common 47 = .ok (.invokevirtual 145, 3) := by decide +kernel
theorem d_V_common_50 : decode b_V_common 50 = .ok (.ireturn, 1) := by decide +kernel
theorem d_V_damage_0 : decode b_V_damage 0 = .ok (.aload_n 0, 1) := by decide +kernel
theorem d_V_damage_1 : decode b_V_damage 1 = .ok (.iload_n 1, 1) := by decide +kernel
theorem d_V_damage_2 : decode b_V_damage 2 = .ok (.invokevirtual 84, 3) := by decide +kernel
theorem d_V_damage_5 : decode b_V_damage 5 = .ok (.ifCond .ne 31, 3) := by decide +kernel
theorem d_V_damage_8 : decode b_V_damage 8 = .ok (.iload_n 3, 1) := by decide +kernel
theorem d_V_damage_9 : decode b_V_damage 9 = .ok (.iconst 1, 1) := by decide +kernel
theorem d_V_damage_10 : decode b_V_damage 10 = .ok (.if_icmp .lt 26, 3) := by decide +kernel
theorem d_V_damage_13 : decode b_V_damage 13 = .ok (.iload_n 3, 1) := by decide +kernel
theorem d_V_damage_14 : decode b_V_damage 14 = .ok (.sipush 255, 3) := by decide +kernel
theorem d_V_damage_17 : decode b_V_damage 17 = .ok (.if_icmp .gt 19, 3) := by decide +kernel
theorem d_V_damage_20 : decode b_V_damage 20 = .ok (.aload_n 0, 1) := by decide +kernel
theorem d_V_damage_21 : decode b_V_damage 21 = .ok (.getfield 20, 3) := by decide +kernel
theorem d_V_damage_24 : decode b_V_damage 24 = .ok (.iload_n 1, 1) := by decide +kernel
theorem d_V_damage_25 : decode b_V_damage 25 = .ok (.aaload, 1) := by decide +kernel
theorem d_V_damage_26 : decode b_V_damage 26 = .ok (.getfield 129, 3) := by decide +kernel
theorem d_V_damage_29 : decode b_V_damage 29 = .ok (.iload_n 2, 1) := by decide +kernel
theorem d_V_damage_30 : decode b_V_damage 30 = .ok (.invokevirtual 132, 3) := by decide +kernel
theorem d_V_damage_33 : decode b_V_damage 33 = .ok (.ifCond .ne 5, 3) := by decide +kernel
theorem d_V_damage_36 : decode b_V_damage 36 = .ok (.iconst 0, 1) := by decide +kernel
theorem d_V_damage_37 : decode b_V_damage 37 = .ok (.ireturn, 1) := by decide +kernel
theorem d_V_damage_38 : decode b_V_damage 38 = .ok (.aload_n 0, 1) := by decide +kernel
theorem d_V_damage_39 : decode b_V_damage 39 = .ok (.getfield 20, 3) := by decide +kernel
theorem d_V_damage_42 : decode b_V_damage 42 = .ok (.iload_n 1, 1) := by decide +kernel
theorem d_V_damage_43 : decode b_V_damage 43 = .ok (.aaload, 1) := by decide +kernel
theorem d_V_damage_44 : decode b_V_damage 44 = .ok (.getfield 129, 3) := by decide +kernel
theorem d_V_damage_47 : decode b_V_damage 47 = .ok (.iload_n 2, 1) := by decide +kernel
theorem d_V_damage_48 : decode b_V_damage 48 = .ok (.iload_n 3, 1) := by decide +kernel
theorem d_V_damage_49 : decode b_V_damage 49 = .ok (.invokevirtual 135, 3) := by decide +kernel
theorem d_V_damage_52 : decode b_V_damage 52 = .ok (.iconst 1, 1) := by decide +kernel
theorem d_V_damage_53 : decode b_V_damage 53 = .ok (.ireturn, 1) := by decide +kernel
theorem d_V_data_0 : decode b_V_data 0 = .ok (.aload_n 0, 1) := by decide +kernel
theorem d_V_data_1 : decode b_V_data 1 = .ok (.iload_n 1, 1) := by decide +kernel
theorem d_V_data_2 : decode b_V_data 2 = .ok (.invokevirtual 84, 3) := by decide +kernel
theorem d_V_data_5 : decode b_V_data 5 = .ok (.istore_n 3, 1) := by decide +kernel
theorem d_V_data_6 : decode b_V_data 6 = .ok (.iload_n 3, 1) := by decide +kernel
theorem d_V_data_7 : decode b_V_data 7 = .ok (.ifCond .eq 5, 3) := by decide +kernel
theorem d_V_data_10 : decode b_V_data 10 = .ok (.iload_n 3, 1) := by decide +kernel
theorem d_V_data_11 : decode b_V_data 11 = .ok (.ireturn, 1) := by decide +kernel
theorem d_V_data_12 : decode b_V_data 12 = .ok (.aload_n 0, 1) := by decide +kernel
theorem d_V_data_13 : decode b_V_data 13 = .ok (.getfield 20, 3) := by decide +kernel
theorem d_V_data_16 : decode b_V_data 16 = .ok (.iload_n 1, 1) := by decide +kernel
theorem d_V_data_17 : decode b_V_data 17 = .ok (.aaload, 1) := by decide +kernel
theorem d_V_data_18 : decode b_V_data 18 = .ok (.getfield 129, 3) := by decide +kernel
theorem d_V_data_21 : decode b_V_data 21 = .ok (.astore 4, 2) := by decide +kernel
theorem d_V_data_23 : decode b_V_data 23 = .ok (.iload_n 2, 1) := by decide +kernel
theorem d_V_data_24 : decode b_V_data 24 = .ok (.iconst (-1), 1) := by decide +kernel
theorem d_V_data_25 : decode b_V_data 25 = .ok (.if_icmp .ne 9, 3) := by decide +kernel
theorem d_V_data_28 : decode b_V_data 28 = .ok (.aload 4, 2) := by decide +kernel
theorem d_V_data_30 : decode b_V_data 30 = .ok (.getfield 33, 3) := by decide +kernel
theorem d_V_data_33 : decode b_V_data 33 = .ok (.ireturn, 1) := by decide +kernel
theorem d_V_data_34 : decode b_V_data 34 = .ok (.aload 4, 2) := by decide +kernel
theorem d_V_data_36 : decode b_V_data 36 = .ok (.iload_n 2, 1) := by decide +kernel
theorem d_V_data_37 : decode b_V_data 37 = .ok (.invokevirtual 132, 3) := by decide +kernel
theorem d_V_data_40 : decode b_V_data 40 = .ok (.ifCond .eq 12, 3) := by decide +kernel
theorem d_V_data_43 : decode b_V_data 43 = .ok (.aload 4, 2) := by decide +kernel
theorem d_V_data_45 : decode b_V_data 45 = .ok (.iload_n 2, 1) := by decide +kernel
theorem d_V_data_46 : decode b_V_data 46 = .ok (.invokevirtual 110, 3) := by decide +kernel
theorem d_V_data_49 : decode b_V_data 49 = .ok (.goto 4, 3) := by decide +kernel
theorem d_V_data_52 : decode b_V_data 52 = .ok (.iconst (-1), 1) := by decide +kernel
theorem d_V_data_53 : decode b_V_data 53 = .ok (.ireturn, 1) := by decide +kernel
theorem d_V_fail_0 : decode b_V_fail 0 = .ok (.aload_n 0, 1) := by decide +kernel
theorem d_V_fail_1 : decode b_V_fail 1 = .ok (.iload_n 1, 1) := by decide +kernel
theorem d_V_fail_2 : decode b_V_fail 2 = .ok (.invokevirtual 84, 3) := by decide +kernel
theorem d_V_fail_5 : decode b_V_fail 5 = .ok (.ifCond .ne 13, 3) := by decide +kernel
theorem d_V_fail_8 : decode b_V_fail 8 = .ok (.iload_n 2, 1) := by decide +kernel
theorem d_V_fail_9 : decode b_V_fail 9 = .ok (.ifCond .lt 9, 3) := by decide +kernel
theorem d_V_fail_12 : decode b_V_fail 12 = .ok (.iload_n 2, 1) := by decide +kernel
theorem d_V_fail_13 : decode b_V_fail 13 = .ok (.bipush 100, 2) := by decide +kernel
theorem d_V_fail_15 : decode b_V_fail 15 = .ok (.if_icmp .le 5, 3) := by decide +kernel
theorem d_V_fail_18 : decode b_V_fail 18 = .ok (.iconst 0, 1) := by decide +kernel
theorem d_V_fail_19 : decode b_V_fail 19 = .ok (.ireturn, 1) := by decide +kernel
theorem d_V_fail_20 : decode b_V_fail 20 = .ok (.aload_n 0, 1) := by decide +kernel
theorem d_V_fail_21 : decode b_V_fail 21 = .ok (.getfield 20, 3) := by decide +kernel
theorem d_V_fail_24 : decode b_V_fail 24 = .ok (.iload_n 1, 1) := by decide +kernel
theorem d_V_fail_25 : decode b_V_fail 25 = .ok (.aaload, 1) := by decide +kernel
theorem d_V_fail_26 : decode b_V_fail 26 = .ok (.iload_n 2, 1) := by decide +kernel
theorem d_V_fail_27 : decode b_V_fail 27 = .ok (.putfield 88, 3) := by decide +kernel
theorem d_V_fail_30 : decode b_V_fail 30 = .ok (.iconst 1, 1) := by decide +kernel
theorem d_V_fail_31 : decode b_V_fail 31 = .ok (.ireturn, 1) := by decide +kernel
theorem d_V_heads_0 : decode b_V_heads 0 = .ok (.aload_n 0, 1) := by decide +kernel
theorem d_V_heads_1 : decode b_V_heads 1 = .ok (.iload_n 1, 1) := by decide +kernel
theorem d_V_heads_2 : decode b_V_heads 2 = .ok (.invokevirtual 84, 3) := by decide +kernel
theorem d_V_heads_5 : decode b_V_heads 5 = .ok (.istore_n 2, 1) := by decide +kernel
theorem d_V_heads_6 : decode b_V_heads 6 = .ok (.iload_n 2, 1) := by decide +kernel
theorem d_V_heads_7 : decode b_V_heads 7 = .ok (.ifCond .eq 7, 3) := by decide +kernel
theorem d_V_heads_10 : decode b_V_heads 10 = .ok (.iload_n 2, 1) := by decide +kernel
theorem d_V_heads_11 : decode b_V_heads 11 = .ok (.goto 12, 3) := by decide +kernel
theorem d_V_heads_14 : decode b_V_heads 14 = .ok (.aload_n 0, 1) := by decide +kernel
theorem d_V_heads_15 : decode b_V_heads 15 = .ok (.getfield 20, 3) := by decide +kernel
theorem d_V_heads_18 : decode b_V_heads 18 = .ok (.iload_n 1, 1) := by decide +kernel
theorem d_V_heads_19 : decode b_V_heads 19 = .ok (.aaload, 1) := by decide +kernel
theorem d_V_heads_20 : decode b_V_heads 20 = .ok (.invokevirtual 142, 3) := by decide +kernel
theorem d_V_heads_23 : decode b_V_heads 23 = .ok (.ireturn, 1) := by decide +kernel
theorem d_V_init_0 : decode b_V_init 0 = .ok (.aload_n 0, 1) := by decide +kernel
theorem d_V_init_1 : decode b_V_init 1 = .ok (.invokespecial 3, 3) := by decide +kernel
theorem d_V_init_4 : decode b_V_init 4 = .ok (.aload_n 0, 1) := by decide +kernel
theorem d_V_init_5 : decode b_V_init 5 = .ok (.new 9, 3) := by decide +kernel
theorem d_V_init_8 : decode b_V_init 8 = .ok (.dup, 1) := by decide +kernel
theorem d_V_init_9 : decode b_V_init 9 = .ok (.bipush 60, 2) := by decide +kernel
theorem d_V_init_11 : decode b_V_init 11 = .ok (.invokespecial 11, 3) := by decide +kernel
theorem d_V_init_14 : decode b_V_init 14 = .ok (.putfield 14, 3) := by decide +kernel
theorem d_V_init_17 : decode b_V_init 17 = .ok (.aload_n 0, 1) := by decide +kernel
theorem d_V_init_18 : decode b_V_init 18 = .ok (.iconst 2, 1) := by decide +kernel
theorem d_V_init_19 : decode b_V_init 19 = .ok (.anewarray 18, 3) := by decide +kernel
theorem d_V_init_22 : decode b_V_init 22 = .ok (.putfield 20, 3) := by decide +kernel
theorem d_V_init_25 : decode b_V_init 25 = .ok (.iconst 0, 1) := by decide +kernel
theorem d_V_init_26 : decode b_V_init 26 = .ok (.istore_n 1, 1) := by decide +kernel
theorem d_V_init_27 : decode b_V_init 27 = .ok (.iload_n 1, 1) := by decide +kernel
theorem d_V_init_28 : decode b_V_init 28 = .ok (.iconst 2, 1) := by decide +kernel
theorem d_V_init_29 : decode b_V_init 29 = .ok (.if_icmp .ge 22, 3) := by decide +kernel
theorem d_V_init_32 : decode b_V_init 32 = .ok (.aload_n 0, 1) := by decide +kernel
theorem d_V_init_33 : decode b_V_init 33 = .ok (.getfield 20, 3) := by decide +kernel
theorem d_V_init_36 : decode b_V_init 36 = .ok (.iload_n 1, 1) := by decide +kernel
theorem d_V_init_37 : decode b_V_init 37 = .ok (.new 18, 3) := by decide +kernel
theorem d_V_init_40 : decode b_V_init 40 = .ok (.dup, 1) := by decide +kernel
theorem d_V_init_41 : decode b_V_init 41 = .ok (.invokespecial 24, 3) := by decide +kernel
theorem d_V_init_44 : decode b_V_init 44 = .ok (.aastore, 1) := by decide +kernel
theorem d_V_init_45 : decode b_V_init 45 = .ok (.iinc 1 1, 3) := by decide +kernel
theorem d_V_init_48 : decode b_V_init 48 = .ok (.goto (-21), 3) := by decide +kernel
theorem d_V_init_51 : decode b_V_init 51 = .ok (.return_, 1) := by decide +kernel
theorem d_V_isCharacter_0 : decode b_V_isCharacter 0 = .ok (.iload_n 0, 1) := by decide +kernel
theorem d_V_isCharacter_1 : decode b_V_isCharacter 1 = .ok (.bipush 10, 2) := by decide +kernel
theorem d_V_isCharacter_3 : decode b_V_isCharacter 3 = .ok (.if_icmp .eq 15, 3) := by decide +kernel
theorem d_V_isCharacter_6 : decode b_V_isCharacter 6 = .ok (.iload_n 0, 1) := by decide +kernel
theorem d_V_isCharacter_7 : decode b_V_isCharacter 7 = .ok (.bipush 32, 2) := by decide +kernel
theorem d_V_isCharacter_9 : decode b_V_isCharacter 9 = .ok (.if_icmp .lt 13, 3) := by decide +kernel
theorem d_V_isCharacter_12 : decode b_V_isCharacter 12 = .ok (.iload_n 0, 1) := by decide +kernel
theorem d_V_isCharacter_13 : decode b_V_isCharacter 13 = .ok (.bipush 126, 2) := by decide +kernel
theorem d_V_isCharacter_15 : decode b_V_isCharacter 15 = .ok (.if_icmp .gt 7, 3) := by decide +kernel
theorem d_V_isCharacter_18 : decode b_V_isCharacter 18 = .ok (.iconst 1, 1) := by decide +kernel
theorem d_V_isCharacter_19 : decode b_V_isCharacter 19 = .ok (.goto 4, 3) := by decide +kernel
theorem d_V_isCharacter_22 : decode b_V_isCharacter 22 = .ok (.iconst 0, 1) := by decide +kernel
theorem d_V_isCharacter_23 : decode b_V_isCharacter 23 = .ok (.ireturn, 1) := by decide +kernel
theorem d_V_isRepository_0 : decode b_V_isRepository 0 = .ok (.iload_n 0, 1) := by decide +kernel
theorem d_V_isRepository_1 : decode b_V_isRepository 1 = .ok (.ifCond .lt 12, 3) := by decide +kernel
theorem d_V_isRepository_4 : decode b_V_isRepository 4 = .ok (.iload_n 0, 1) := by decide +kernel
theorem d_V_isRepository_5 : decode b_V_isRepository 5 = .ok (.iconst 2, 1) := by decide +kernel
theorem d_V_isRepository_6 : decode b_V_isRepository 6 = .ok (.if_icmp .ge 7, 3) := by decide +kernel
theorem d_V_isRepository_9 : decode b_V_isRepository 9 = .ok (.iconst 1, 1) := by decide +kernel
theorem d_V_isRepository_10 : decode b_V_isRepository 10 = .ok (.goto 4, 3) := by decide +kernel
theorem d_V_isRepository_13 : decode b_V_isRepository 13 = .ok (.iconst 0, 1) := by decide +kernel
theorem d_V_isRepository_14 : decode b_V_isRepository 14 = .ok (.ireturn, 1) := by decide +kernel
theorem d_V_node_0 : decode b_V_node 0 = .ok (.aload_n 0, 1) := by decide +kernel
theorem d_V_node_1 : decode b_V_node 1 = .ok (.iload_n 1, 1) := by decide +kernel
theorem d_V_node_2 : decode b_V_node 2 = .ok (.invokevirtual 84, 3) := by decide +kernel
theorem d_V_node_5 : decode b_V_node 5 = .ok (.ifCond .ne 16, 3) := by decide +kernel
theorem d_V_node_8 : decode b_V_node 8 = .ok (.aload_n 0, 1) := by decide +kernel
theorem d_V_node_9 : decode b_V_node 9 = .ok (.getfield 20, 3) := by decide +kernel
theorem d_V_node_12 : decode b_V_node 12 = .ok (.iload_n 1, 1) := by decide +kernel
theorem d_V_node_13 : decode b_V_node 13 = .ok (.aaload, 1) := by decide +kernel
theorem d_V_node_14 : decode b_V_node 14 = .ok (.iload_n 2, 1) := by decide +kernel
theorem d_V_node_15 : decode b_V_node 15 = .ok (.invokevirtual 101, 3) := by decide +kernel
theorem d_V_node_18 : decode b_V_node 18 = .ok (.ifCond .ne 5, 3) := by decide +kernel
theorem d_V_node_21 : decode b_V_node 21 = .ok (.lconst 0, 1) := by decide +kernel
theorem d_V_node_22 : decode b_V_node 22 = .ok (.lreturn, 1) := by decide +kernel
theorem d_V_node_23 : decode b_V_node 23 = .ok (.aload_n 0, 1) := by decide +kernel
theorem d_V_node_24 : decode b_V_node 24 = .ok (.getfield 20, 3) := by decide +kernel
theorem d_V_node_27 : decode b_V_node 27 = .ok (.iload_n 1, 1) := by decide +kernel
theorem d_V_node_28 : decode b_V_node 28 = .ok (.aaload, 1) := by decide +kernel
theorem d_V_node_29 : decode b_V_node 29 = .ok (.getfield 116, 3) := by decide +kernel
theorem d_V_node_32 : decode b_V_node 32 = .ok (.iload_n 2, 1) := by decide +kernel
theorem d_V_node_33 : decode b_V_node 33 = .ok (.aaload, 1) := by decide +kernel
theorem d_V_node_34 : decode b_V_node 34 = .ok (.getfield 125, 3) := by decide +kernel
theorem d_V_node_37 : decode b_V_node 37 = .ok (.lreturn, 1) := by decide +kernel
theorem d_V_pull_0 : decode b_V_pull 0 = .ok (.aload_n 0, 1) := by decide +kernel
theorem d_V_pull_1 : decode b_V_pull 1 = .ok (.iload_n 1, 1) := by decide +kernel
theorem d_V_pull_2 : decode b_V_pull 2 = .ok (.invokevirtual 43, 3) := by decide +kernel
theorem d_V_pull_5 : decode b_V_pull 5 = .ok (.astore_n 2, 1) := by decide +kernel
theorem d_V_pull_6 : decode b_V_pull 6 = .ok (.aload_n 0, 1) := by decide +kernel
theorem d_V_pull_7 : decode b_V_pull 7 = .ok (.iconst 1, 1) := by decide +kernel
theorem d_V_pull_8 : decode b_V_pull 8 = .ok (.iload_n 1, 1) := by decide +kernel
theorem d_V_pull_9 : decode b_V_pull 9 = .ok (.isub, 1) := by decide +kernel
theorem d_V_pull_10 : decode b_V_pull 10 = .ok (.invokevirtual 43, 3) := by decide +kernel
theorem d_V_pull_13 : decode b_V_pull 13 = .ok (.astore_n 3, 1) := by decide +kernel
theorem d_V_pull_14 : decode b_V_pull 14 = .ok (.aload_n 2, 1) := by decide +kernel
theorem d_V_pull_15 : decode b_V_pull 15 = .ok (.getfield 47, 3) := by decide +kernel
theorem d_V_pull_18 : decode b_V_pull 18 = .ok (.ifCond .ne 24, 3) := by decide +kernel
theorem d_V_pull_21 : decode b_V_pull 21 = .ok (.aload_n 2, 1) := by decide +kernel
theorem d_V_pull_22 : decode b_V_pull 22 = .ok (.getfield 51, 3) := by decide +kernel
theorem d_V_pull_25 : decode b_V_pull 25 = .ok (.ifCond .ne 17, 3) := by decide +kernel
theorem d_V_pull_28 : decode b_V_pull 28 = .ok (.aload_n 3, 1) := by decide +kernel
theorem d_V_pull_29 : decode b_V_pull 29 = .ok (.getfield 47, 3) := by decide +kernel
theorem d_V_pull_32 : decode b_V_pull 32 = .ok (.ifCond .ne 10, 3) := by decide +kernel
theorem d_V_pull_35 : decode b_V_pull 35 = .ok (.aload_n 3, 1) := by decide +kernel
theorem d_V_pull_36 : decode b_V_pull 36 = .ok (.getfield 51, 3) := by decide +kernel
theorem d_V_pull_39 : decode b_V_pull 39 = .ok (.ifCond .eq 11, 3) := by decide +kernel
theorem d_V_pull_42 : decode b_V_pull 42 = .ok (.new 54, 3) := by decide +kernel
theorem d_V_pull_45 : decode b_V_pull 45 = .ok (.dup, 1) := by decide +kernel
theorem d_V_pull_46 : decode b_V_pull 46 = .ok (.invokespecial 56, 3) := by decide +kernel
theorem d_V_pull_49 : decode b_V_pull 49 = .ok (.athrow, 1) := by decide +kernel
theorem d_V_pull_50 : decode b_V_pull 50 = .ok (.aload_n 2, 1) := by decide +kernel
theorem d_V_pull_51 : decode b_V_pull 51 = .ok (.aload_n 3, 1) := by decide +kernel
theorem d_V_pull_52 : decode b_V_pull 52 = .ok (.invokevirtual 97, 3) := by decide +kernel
theorem d_V_pull_55 : decode b_V_pull 55 = .ok (.istore 4, 2) := by decide +kernel
theorem d_V_pull_57 : decode b_V_pull 57 = .ok (.iload 4, 2) := by decide +kernel
theorem d_V_pull_59 : decode b_V_pull 59 = .ok (.bipush (-3), 2) := by decide +kernel
theorem d_V_pull_61 : decode b_V_pull 61 = .ok (.if_icmp .ne 11, 3) := by decide +kernel
theorem d_V_pull_64 : decode b_V_pull 64 = .ok (.new 74, 3) := by decide +kernel
theorem d_V_pull_67 : decode b_V_pull 67 = .ok (.dup, 1) := by decide +kernel
theorem d_V_pull_68 : decode b_V_pull 68 = .ok (.invokespecial 76, 3) := by decide +kernel
theorem d_V_pull_71 : decode b_V_pull 71 = .ok (.athrow, 1) := by decide +kernel
theorem d_V_pull_72 : decode b_V_pull 72 = .ok (.iload 4, 2) := by decide +kernel
theorem d_V_pull_74 : decode b_V_pull 74 = .ok (.ireturn, 1) := by decide +kernel
theorem d_V_record_0 : decode b_V_record 0 = .ok (.aload_n 0, 1) := by decide +kernel
theorem d_V_record_1 : decode b_V_record 1 = .ok (.iload_n 1, 1) := by decide +kernel
theorem d_V_record_2 : decode b_V_record 2 = .ok (.invokevirtual 84, 3) := by decide +kernel
theorem d_V_record_5 : decode b_V_record 5 = .ok (.istore 4, 2) := by decide +kernel
theorem d_V_record_7 : decode b_V_record 7 = .ok (.iload 4, 2) := by decide +kernel
theorem d_V_record_9 : decode b_V_record 9 = .ok (.ifCond .eq 6, 3) := by decide +kernel
theorem d_V_record_12 : decode b_V_record 12 = .ok (.iload 4, 2) := by decide +kernel
theorem d_V_record_14 : decode b_V_record 14 = .ok (.ireturn, 1) := by decide +kernel
theorem d_V_record_15 : decode b_V_record 15 = .ok (.aload_n 0, 1) := by decide +kernel
theorem d_V_record_16 : decode b_V_record 16 = .ok (.getfield 20, 3) := by decide +kernel
theorem d_V_record_19 : decode b_V_record 19 = .ok (.iload_n 1, 1) := by decide +kernel
theorem d_V_record_20 : decode b_V_record 20 = .ok (.aaload, 1) := by decide +kernel
theorem d_V_record_21 : decode b_V_record 21 = .ok (.iload_n 2, 1) := by decide +kernel
theorem d_V_record_22 : decode b_V_record 22 = .ok (.invokevirtual 101, 3) := by decide +kernel
theorem d_V_record_25 : decode b_V_record 25 = .ok (.ifCond .eq 21, 3) := by decide +kernel
theorem d_V_record_28 : decode b_V_record 28 = .ok (.aload_n 0, 1) := by decide +kernel
theorem d_V_record_29 : decode b_V_record 29 = .ok (.getfield 20, 3) := by decide +kernel
theorem d_V_record_32 : decode b_V_record 32 = .ok (.iload_n 1, 1) := by decide +kernel
theorem d_V_record_33 : decode b_V_record 33 = .ok (.aaload, 1) := by decide +kernel
theorem d_V_record_34 : decode b_V_record 34 = .ok (.getfield 116, 3) := by decide +kernel
theorem d_V_record_37 : decode b_V_record 37 = .ok (.iload_n 2, 1) := by decide +kernel
theorem d_V_record_38 : decode b_V_record 38 = .ok (.aaload, 1) := by decide +kernel
theorem d_V_record_39 : decode b_V_record 39 = .ok (.iload_n 3, 1) := by decide +kernel
theorem d_V_record_40 : decode b_V_record 40 = .ok (.invokevirtual 120, 3) := by decide +kernel
theorem d_V_record_43 : decode b_V_record 43 = .ok (.goto 4, 3) := by decide +kernel
theorem d_V_record_46 : decode b_V_record 46 = .ok (.iconst (-1), 1) := by decide +kernel
theorem d_V_record_47 : decode b_V_record 47 = .ok (.ireturn, 1) := by decide +kernel
theorem d_V_recover_0 : decode b_V_recover 0 = .ok (.aload_n 0, 1) := by decide +kernel
theorem d_V_recover_1 : decode b_V_recover 1 = .ok (.iload_n 1, 1) := by decide +kernel
theorem d_V_recover_2 : decode b_V_recover 2 = .ok (.invokevirtual 43, 3) := by decide +kernel
theorem d_V_recover_5 : decode b_V_recover 5 = .ok (.astore_n 3, 1) := by decide +kernel
theorem d_V_recover_6 : decode b_V_recover 6 = .ok (.iload_n 2, 1) := by decide +kernel
theorem d_V_recover_7 : decode b_V_recover 7 = .ok (.ifCond .lt 8, 3) := by decide +kernel
theorem d_V_recover_10 : decode b_V_recover 10 = .ok (.iload_n 2, 1) := by decide +kernel
theorem d_V_recover_11 : decode b_V_recover 11 = .ok (.iconst 3, 1) := by decide +kernel
theorem d_V_recover_12 : decode b_V_recover 12 = .ok (.if_icmp .le 11, 3) := by decide +kernel
theorem d_V_recover_15 : decode b_V_recover 15 = .ok (.new 91, 3) := by decide +kernel
theorem d_V_recover_18 : decode b_V_recover 18 = .ok (.dup, 1) := by decide +kernel
theorem d_V_recover_19 : decode b_V_recover 19 = .ok (.invokespecial 93, 3) := by decide +kernel
theorem d_V_recover_22 : decode b_V_recover 22 = .ok (.athrow, 1) := by decide +kernel
theorem d_V_recover_23 : decode b_V_recover 23 = .ok (.aload_n 3, 1) := by decide +kernel
theorem d_V_recover_24 : decode b_V_recover 24 = .ok (.getfield 47, 3) := by decide +kernel
theorem d_V_recover_27 : decode b_V_recover 27 = .ok (.ifCond .ne 11, 3) := by decide +kernel
theorem d_V_recover_30 : decode b_V_recover 30 = .ok (.new 54, 3) := by decide +kernel
theorem d_V_recover_33 : decode b_V_recover 33 = .ok (.dup, 1) := by decide +kernel
theorem d_V_recover_34 : decode b_V_recover 34 = .ok (.invokespecial 56, 3) := by decide +kernel
theorem d_V_recover_37 : decode b_V_recover 37 = .ok (.athrow, 1) := by decide +kernel
theorem d_V_recover_38 : decode b_V_recover 38 = .ok (.aload_n 3, 1) := by decide +kernel
theorem d_V_recover_39 : decode b_V_recover 39 = .ok (.iload_n 2, 1) := by decide +kernel
theorem d_V_recover_40 : decode b_V_recover 40 = .ok (.invokevirtual 94, 3) := by decide +kernel
theorem d_V_recover_43 : decode b_V_recover 43 = .ok (.ireturn, 1) := by decide +kernel
theorem d_V_repositoryAt_0 : decode b_V_repositoryAt 0 = .ok (.iload_n 1, 1) := by decide +kernel
theorem d_V_repositoryAt_1 : decode b_V_repositoryAt 1 = .ok (.invokestatic 149, 3) := by decide +kernel
theorem d_V_repositoryAt_4 : decode b_V_repositoryAt 4 = .ok (.ifCond .ne 11, 3) := by decide +kernel
theorem d_V_repositoryAt_7 : decode b_V_repositoryAt 7 = .ok (.new 91, 3) := by decide +kernel
theorem d_V_repositoryAt_10 : decode b_V_repositoryAt 10 = .ok (.dup, 1) := by decide +kernel
theorem d_V_repositoryAt_11 : decode b_V_repositoryAt 11 = .ok (.invokespecial 93, 3) := by decide +kernel
theorem d_V_repositoryAt_14 : decode b_V_repositoryAt 14 = .ok (.athrow, 1) := by decide +kernel
theorem d_V_repositoryAt_15 : decode b_V_repositoryAt 15 = .ok (.aload_n 0, 1) := by decide +kernel
theorem d_V_repositoryAt_16 : decode b_V_repositoryAt 16 = .ok (.getfield 20, 3) := by decide +kernel
theorem d_V_repositoryAt_19 : decode b_V_repositoryAt 19 = .ok (.iload_n 1, 1) := by decide +kernel
theorem d_V_repositoryAt_20 : decode b_V_repositoryAt 20 = .ok (.aaload, 1) := by decide +kernel
theorem d_V_repositoryAt_21 : decode b_V_repositoryAt 21 = .ok (.areturn, 1) := by decide +kernel
theorem d_V_repositoryInTransaction_0 : decode b_V_repositoryInTransaction 0 = .ok (.aload_n 0, 1) := by decide +kernel
theorem d_V_repositoryInTransaction_1 : decode b_V_repositoryInTransaction 1 = .ok (.iload_n 1, 1) := by decide +kernel
theorem d_V_repositoryInTransaction_2 : decode b_V_repositoryInTransaction 2 = .ok (.invokevirtual 43, 3) := by decide +kernel
theorem d_V_repositoryInTransaction_5 : decode b_V_repositoryInTransaction 5 = .ok (.astore_n 2, 1) := by decide +kernel
theorem d_V_repositoryInTransaction_6 : decode b_V_repositoryInTransaction 6 = .ok (.aload_n 2, 1) := by decide +kernel
theorem d_V_repositoryInTransaction_7 : decode b_V_repositoryInTransaction 7 = .ok (.getfield 47, 3) := by decide +kernel
theorem d_V_repositoryInTransaction_10 : decode b_V_repositoryInTransaction 10 = .ok (.ifCond .ne 10, 3) := by decide +kernel
theorem d_V_repositoryInTransaction_13 : decode b_V_repositoryInTransaction 13 = .ok (.aload_n 2, 1) := by decide +kernel
theorem d_V_repositoryInTransaction_14 : decode b_V_repositoryInTransaction 14 = .ok (.getfield 51, 3) := by decide +kernel
theorem d_V_repositoryInTransaction_17 : decode b_V_repositoryInTransaction 17 = .ok (.ifCond .ne 11, 3) := by decide +kernel
theorem d_V_repositoryInTransaction_20 : decode b_V_repositoryInTransaction 20 = .ok (.new 54, 3) := by decide +kernel
theorem d_V_repositoryInTransaction_23 : decode b_V_repositoryInTransaction 23 = .ok (.dup, 1) := by decide +kernel
theorem d_V_repositoryInTransaction_24 : decode b_V_repositoryInTransaction 24 = .ok (.invokespecial 56, 3) := by decide +kernel
theorem d_V_repositoryInTransaction_27 : decode b_V_repositoryInTransaction 27 = .ok (.athrow, 1) := by decide +kernel
theorem d_V_repositoryInTransaction_28 : decode b_V_repositoryInTransaction 28 = .ok (.aload_n 2, 1) := by decide +kernel
theorem d_V_repositoryInTransaction_29 : decode b_V_repositoryInTransaction 29 = .ok (.areturn, 1) := by decide +kernel
theorem d_V_revisions_0 : decode b_V_revisions 0 = .ok (.aload_n 0, 1) := by decide +kernel
theorem d_V_revisions_1 : decode b_V_revisions 1 = .ok (.iload_n 1, 1) := by decide +kernel
theorem d_V_revisions_2 : decode b_V_revisions 2 = .ok (.invokevirtual 84, 3) := by decide +kernel
theorem d_V_revisions_5 : decode b_V_revisions 5 = .ok (.istore_n 2, 1) := by decide +kernel
theorem d_V_revisions_6 : decode b_V_revisions 6 = .ok (.iload_n 2, 1) := by decide +kernel
theorem d_V_revisions_7 : decode b_V_revisions 7 = .ok (.ifCond .eq 7, 3) := by decide +kernel
theorem d_V_revisions_10 : decode b_V_revisions 10 = .ok (.iload_n 2, 1) := by decide +kernel
theorem d_V_revisions_11 : decode b_V_revisions 11 = .ok (.goto 12, 3) := by decide +kernel
theorem d_V_revisions_14 : decode b_V_revisions 14 = .ok (.aload_n 0, 1) := by decide +kernel
theorem d_V_revisions_15 : decode b_V_revisions 15 = .ok (.getfield 20, 3) := by decide +kernel
theorem d_V_revisions_18 : decode b_V_revisions 18 = .ok (.iload_n 1, 1) := by decide +kernel
theorem d_V_revisions_19 : decode b_V_revisions 19 = .ok (.aaload, 1) := by decide +kernel
theorem d_V_revisions_20 : decode b_V_revisions 20 = .ok (.getfield 113, 3) := by decide +kernel
theorem d_V_revisions_23 : decode b_V_revisions 23 = .ok (.ireturn, 1) := by decide +kernel
theorem d_V_text_0 : decode b_V_text 0 = .ok (.aload_n 0, 1) := by decide +kernel
theorem d_V_text_1 : decode b_V_text 1 = .ok (.iload_n 1, 1) := by decide +kernel
theorem d_V_text_2 : decode b_V_text 2 = .ok (.invokevirtual 43, 3) := by decide +kernel
theorem d_V_text_5 : decode b_V_text 5 = .ok (.astore 4, 2) := by decide +kernel
theorem d_V_text_7 : decode b_V_text 7 = .ok (.aload 4, 2) := by decide +kernel
theorem d_V_text_9 : decode b_V_text 9 = .ok (.iload_n 2, 1) := by decide +kernel
theorem d_V_text_10 : decode b_V_text 10 = .ok (.invokevirtual 101, 3) := by decide +kernel
theorem d_V_text_13 : decode b_V_text 13 = .ok (.ifCond .ne 11, 3) := by decide +kernel
theorem d_V_text_16 : decode b_V_text 16 = .ok (.new 91, 3) := by decide +kernel
theorem d_V_text_19 : decode b_V_text 19 = .ok (.dup, 1) := by decide +kernel
theorem d_V_text_20 : decode b_V_text 20 = .ok (.invokespecial 93, 3) := by decide +kernel
theorem d_V_text_23 : decode b_V_text 23 = .ok (.athrow, 1) := by decide +kernel
theorem d_V_text_24 : decode b_V_text 24 = .ok (.aload 4, 2) := by decide +kernel
theorem d_V_text_26 : decode b_V_text 26 = .ok (.getfield 47, 3) := by decide +kernel
theorem d_V_text_29 : decode b_V_text 29 = .ok (.ifCond .eq 11, 3) := by decide +kernel
theorem d_V_text_32 : decode b_V_text 32 = .ok (.new 54, 3) := by decide +kernel
theorem d_V_text_35 : decode b_V_text 35 = .ok (.dup, 1) := by decide +kernel
theorem d_V_text_36 : decode b_V_text 36 = .ok (.invokespecial 56, 3) := by decide +kernel
theorem d_V_text_39 : decode b_V_text 39 = .ok (.athrow, 1) := by decide +kernel
theorem d_V_text_40 : decode b_V_text 40 = .ok (.aload 4, 2) := by decide +kernel
theorem d_V_text_42 : decode b_V_text 42 = .ok (.iload_n 2, 1) := by decide +kernel
theorem d_V_text_43 : decode b_V_text 43 = .ok (.invokevirtual 104, 3) := by decide +kernel
theorem d_V_text_46 : decode b_V_text 46 = .ok (.ifCond .ne 11, 3) := by decide +kernel
theorem d_V_text_49 : decode b_V_text 49 = .ok (.new 74, 3) := by decide +kernel
theorem d_V_text_52 : decode b_V_text 52 = .ok (.dup, 1) := by decide +kernel
theorem d_V_text_53 : decode b_V_text 53 = .ok (.invokespecial 76, 3) := by decide +kernel
theorem d_V_text_56 : decode b_V_text 56 = .ok (.athrow, 1) := by decide +kernel
theorem d_V_text_57 : decode b_V_text 57 = .ok (.aload 4, 2) := by decide +kernel
theorem d_V_text_59 : decode b_V_text 59 = .ok (.getfield 107, 3) := by decide +kernel
theorem d_V_text_62 : decode b_V_text 62 = .ok (.iload_n 3, 1) := by decide +kernel
theorem d_V_text_63 : decode b_V_text 63 = .ok (.invokevirtual 110, 3) := by decide +kernel
theorem d_V_text_66 : decode b_V_text 66 = .ok (.ireturn, 1) := by decide +kernel
theorem d_V_type_0 : decode b_V_type 0 = .ok (.iconst 0, 1) := by decide +kernel
theorem d_V_type_1 : decode b_V_type 1 = .ok (.istore_n 3, 1) := by decide +kernel
theorem d_V_type_2 : decode b_V_type 2 = .ok (.bipush 56, 2) := by decide +kernel
theorem d_V_type_4 : decode b_V_type 4 = .ok (.istore 4, 2) := by decide +kernel
theorem d_V_type_6 : decode b_V_type 6 = .ok (.iload 4, 2) := by decide +kernel
theorem d_V_type_8 : decode b_V_type 8 = .ok (.ifCond .lt 35, 3) := by decide +kernel
theorem d_V_type_11 : decode b_V_type 11 = .ok (.lload_n 1, 1) := by decide +kernel
theorem d_V_type_12 : decode b_V_type 12 = .ok (.iload 4, 2) := by decide +kernel
theorem d_V_type_14 : decode b_V_type 14 = .ok (.invokestatic 25, 3) := by decide +kernel
theorem d_V_type_17 : decode b_V_type 17 = .ok (.istore 5, 2) := by decide +kernel
theorem d_V_type_19 : decode b_V_type 19 = .ok (.iload 5, 2) := by decide +kernel
theorem d_V_type_21 : decode b_V_type 21 = .ok (.ifCond .eq 16, 3) := by decide +kernel
theorem d_V_type_24 : decode b_V_type 24 = .ok (.iload 5, 2) := by decide +kernel
theorem d_V_type_26 : decode b_V_type 26 = .ok (.invokestatic 29, 3) := by decide +kernel
theorem d_V_type_29 : decode b_V_type 29 = .ok (.ifCond .ne 5, 3) := by decide +kernel
theorem d_V_type_32 : decode b_V_type 32 = .ok (.iconst 0, 1) := by decide +kernel
theorem d_V_type_33 : decode b_V_type 33 = .ok (.ireturn, 1) := by decide +kernel
theorem d_V_type_34 : decode b_V_type 34 = .ok (.iinc 3 1, 3) := by decide +kernel
theorem d_V_type_37 : decode b_V_type 37 = .ok (.iinc 4 (-8), 3) := by decide +kernel
theorem d_V_type_40 : decode b_V_type 40 = .ok (.goto (-34), 3) := by decide +kernel
theorem d_V_type_43 : decode b_V_type 43 = .ok (.iload_n 3, 1) := by decide +kernel
theorem d_V_type_44 : decode b_V_type 44 = .ok (.bipush 60, 2) := by decide +kernel
theorem d_V_type_46 : decode b_V_type 46 = .ok (.aload_n 0, 1) := by decide +kernel
theorem d_V_type_47 : decode b_V_type 47 = .ok (.getfield 14, 3) := by decide +kernel
theorem d_V_type_50 : decode b_V_type 50 = .ok (.getfield 33, 3) := by decide +kernel
theorem d_V_type_53 : decode b_V_type 53 = .ok (.isub, 1) := by decide +kernel
theorem d_V_type_54 : decode b_V_type 54 = .ok (.if_icmp .le 5, 3) := by decide +kernel
theorem d_V_type_57 : decode b_V_type 57 = .ok (.iconst 0, 1) := by decide +kernel
theorem d_V_type_58 : decode b_V_type 58 = .ok (.ireturn, 1) := by decide +kernel
theorem d_V_type_59 : decode b_V_type 59 = .ok (.bipush 56, 2) := by decide +kernel
theorem d_V_type_61 : decode b_V_type 61 = .ok (.istore 4, 2) := by decide +kernel
theorem d_V_type_63 : decode b_V_type 63 = .ok (.iload 4, 2) := by decide +kernel
theorem d_V_type_65 : decode b_V_type 65 = .ok (.ifCond .lt 32, 3) := by decide +kernel
theorem d_V_type_68 : decode b_V_type 68 = .ok (.lload_n 1, 1) := by decide +kernel
theorem d_V_type_69 : decode b_V_type 69 = .ok (.iload 4, 2) := by decide +kernel
theorem d_V_type_71 : decode b_V_type 71 = .ok (.invokestatic 25, 3) := by decide +kernel
theorem d_V_type_74 : decode b_V_type 74 = .ok (.istore 5, 2) := by decide +kernel
theorem d_V_type_76 : decode b_V_type 76 = .ok (.iload 5, 2) := by decide +kernel
theorem d_V_type_78 : decode b_V_type 78 = .ok (.ifCond .eq 13, 3) := by decide +kernel
theorem d_V_type_81 : decode b_V_type 81 = .ok (.aload_n 0, 1) := by decide +kernel
theorem d_V_type_82 : decode b_V_type 82 = .ok (.getfield 14, 3) := by decide +kernel
theorem d_V_type_85 : decode b_V_type 85 = .ok (.iload 5, 2) := by decide +kernel
theorem d_V_type_87 : decode b_V_type 87 = .ok (.invokevirtual 37, 3) := by decide +kernel
theorem d_V_type_90 : decode b_V_type 90 = .ok (.pop, 1) := by decide +kernel
theorem d_V_type_91 : decode b_V_type 91 = .ok (.iinc 4 (-8), 3) := by decide +kernel
theorem d_V_type_94 : decode b_V_type 94 = .ok (.goto (-31), 3) := by decide +kernel
theorem d_V_type_97 : decode b_V_type 97 = .ok (.iconst 1, 1) := by decide +kernel
theorem d_V_type_98 : decode b_V_type 98 = .ok (.ireturn, 1) := by decide +kernel
theorem d_V_wipe_0 : decode b_V_wipe 0 = .ok (.aload_n 0, 1) := by decide +kernel
theorem d_V_wipe_1 : decode b_V_wipe 1 = .ok (.getfield 14, 3) := by decide +kernel
theorem d_V_wipe_4 : decode b_V_wipe 4 = .ok (.iconst 0, 1) := by decide +kernel
theorem d_V_wipe_5 : decode b_V_wipe 5 = .ok (.invokevirtual 40, 3) := by decide +kernel
theorem d_V_wipe_8 : decode b_V_wipe 8 = .ok (.return_, 1) := by decide +kernel
theorem d_V_wrong_0 : decode b_V_wrong 0 = .ok (.aload_n 0, 1) := by decide +kernel
theorem d_V_wrong_1 : decode b_V_wrong 1 = .ok (.iload_n 1, 1) := by decide +kernel
theorem d_V_wrong_2 : decode b_V_wrong 2 = .ok (.invokevirtual 84, 3) := by decide +kernel
theorem d_V_wrong_5 : decode b_V_wrong 5 = .ok (.istore_n 2, 1) := by decide +kernel
theorem d_V_wrong_6 : decode b_V_wrong 6 = .ok (.iload_n 2, 1) := by decide +kernel
theorem d_V_wrong_7 : decode b_V_wrong 7 = .ok (.ifCond .eq 7, 3) := by decide +kernel
theorem d_V_wrong_10 : decode b_V_wrong 10 = .ok (.iload_n 2, 1) := by decide +kernel
theorem d_V_wrong_11 : decode b_V_wrong 11 = .ok (.goto 12, 3) := by decide +kernel
theorem d_V_wrong_14 : decode b_V_wrong 14 = .ok (.aload_n 0, 1) := by decide +kernel
theorem d_V_wrong_15 : decode b_V_wrong 15 = .ok (.getfield 20, 3) := by decide +kernel
theorem d_V_wrong_18 : decode b_V_wrong 18 = .ok (.iload_n 1, 1) := by decide +kernel
theorem d_V_wrong_19 : decode b_V_wrong 19 = .ok (.aaload, 1) := by decide +kernel
theorem d_V_wrong_20 : decode b_V_wrong 20 = .ok (.invokevirtual 139, 3) := by decide +kernel
theorem d_V_wrong_23 : decode b_V_wrong 23 = .ok (.ireturn, 1) := by decide +kernel
end
section
theorem in_V : ∀ w ∈ u_ws R_V F_V 2, w ∈ UNI := by
  show ∀ w ∈ [u_lay R_V F_V 0, u_lay R_V F_V 1], w ∈ UNI
  exact List.forall_mem_cons.mpr ⟨un 143 (by decide +kernel) (by decide +kernel), List.forall_mem_cons.mpr ⟨un 145 (by decide +kernel) (by decide +kernel), fun _ h => absurd h List.not_mem_nil⟩⟩
theorem in_Row : ∀ w ∈ u_ws R_Row F_Row 2, w ∈ UNI := by
  show ∀ w ∈ [u_lay R_Row F_Row 0, u_lay R_Row F_Row 1], w ∈ UNI
  exact List.forall_mem_cons.mpr ⟨un 45 (by decide +kernel) (by decide +kernel), List.forall_mem_cons.mpr ⟨un 47 (by decide +kernel) (by decide +kernel), fun _ h => absurd h List.not_mem_nil⟩⟩
theorem in_Rep : ∀ w ∈ u_ws R_Rep F_Rep 12, w ∈ UNI := by
  show ∀ w ∈ [u_lay R_Rep F_Rep 0, u_lay R_Rep F_Rep 1, u_lay R_Rep F_Rep 2, u_lay R_Rep F_Rep 3, u_lay R_Rep F_Rep 4, u_lay R_Rep F_Rep 5, u_lay R_Rep F_Rep 6, u_lay R_Rep F_Rep 7, u_lay R_Rep F_Rep 8, u_lay R_Rep F_Rep 9, u_lay R_Rep F_Rep 10, u_lay R_Rep F_Rep 11], w ∈ UNI
  exact List.forall_mem_cons.mpr ⟨un 116 (by decide +kernel) (by decide +kernel), List.forall_mem_cons.mpr ⟨un 118 (by decide +kernel) (by decide +kernel), List.forall_mem_cons.mpr ⟨un 120 (by decide +kernel) (by decide +kernel), List.forall_mem_cons.mpr ⟨un 122 (by decide +kernel) (by decide +kernel), List.forall_mem_cons.mpr ⟨un 124 (by decide +kernel) (by decide +kernel), List.forall_mem_cons.mpr ⟨un 126 (by decide +kernel) (by decide +kernel), List.forall_mem_cons.mpr ⟨un 128 (by decide +kernel) (by decide +kernel), List.forall_mem_cons.mpr ⟨un 130 (by decide +kernel) (by decide +kernel), List.forall_mem_cons.mpr ⟨un 132 (by decide +kernel) (by decide +kernel), List.forall_mem_cons.mpr ⟨un 134 (by decide +kernel) (by decide +kernel), List.forall_mem_cons.mpr ⟨un 136 (by decide +kernel) (by decide +kernel), List.forall_mem_cons.mpr ⟨un 138 (by decide +kernel) (by decide +kernel), fun _ h => absurd h List.not_mem_nil⟩⟩⟩⟩⟩⟩⟩⟩⟩⟩⟩⟩
theorem in_Rec : ∀ w ∈ u_ws R_Rec F_Rec 7, w ∈ UNI := by
  show ∀ w ∈ [u_lay R_Rec F_Rec 0, u_lay R_Rec F_Rec 1, u_lay R_Rec F_Rec 2, u_lay R_Rec F_Rec 3, u_lay R_Rec F_Rec 4, u_lay R_Rec F_Rec 5, u_lay R_Rec F_Rec 6], w ∈ UNI
  exact List.forall_mem_cons.mpr ⟨un 82 (by decide +kernel) (by decide +kernel), List.forall_mem_cons.mpr ⟨un 84 (by decide +kernel) (by decide +kernel), List.forall_mem_cons.mpr ⟨un 86 (by decide +kernel) (by decide +kernel), List.forall_mem_cons.mpr ⟨un 88 (by decide +kernel) (by decide +kernel), List.forall_mem_cons.mpr ⟨un 90 (by decide +kernel) (by decide +kernel), List.forall_mem_cons.mpr ⟨un 92 (by decide +kernel) (by decide +kernel), List.forall_mem_cons.mpr ⟨un 94 (by decide +kernel) (by decide +kernel), fun _ h => absurd h List.not_mem_nil⟩⟩⟩⟩⟩⟩⟩
theorem in_M : ∀ w ∈ u_ws R_M F_M 23, w ∈ UNI := by
  show ∀ w ∈ [u_lay R_M F_M 0, u_lay R_M F_M 1, u_lay R_M F_M 2, u_lay R_M F_M 3, u_lay R_M F_M 4, u_lay R_M F_M 5, u_lay R_M F_M 6, u_lay R_M F_M 7, u_lay R_M F_M 8, u_lay R_M F_M 9, u_lay R_M F_M 10, u_lay R_M F_M 11, u_lay R_M F_M 12, u_lay R_M F_M 13, u_lay R_M F_M 14, u_lay R_M F_M 15, u_lay R_M F_M 16, u_lay R_M F_M 17, u_lay R_M F_M 18, u_lay R_M F_M 19, u_lay R_M F_M 20, u_lay R_M F_M 21, u_lay R_M F_M 22], w ∈ UNI
  exact List.forall_mem_cons.mpr ⟨un 885 (by decide +kernel) (by decide +kernel), List.forall_mem_cons.mpr ⟨un 887 (by decide +kernel) (by decide +kernel), List.forall_mem_cons.mpr ⟨un 889 (by decide +kernel) (by decide +kernel), List.forall_mem_cons.mpr ⟨un 891 (by decide +kernel) (by decide +kernel), List.forall_mem_cons.mpr ⟨un 893 (by decide +kernel) (by decide +kernel), List.forall_mem_cons.mpr ⟨un 895 (by decide +kernel) (by decide +kernel), List.forall_mem_cons.mpr ⟨un 897 (by decide +kernel) (by decide +kernel), List.forall_mem_cons.mpr ⟨un 899 (by decide +kernel) (by decide +kernel), List.forall_mem_cons.mpr ⟨un 901 (by decide +kernel) (by decide +kernel), List.forall_mem_cons.mpr ⟨un 903 (by decide +kernel) (by decide +kernel), List.forall_mem_cons.mpr ⟨un 905 (by decide +kernel) (by decide +kernel), List.forall_mem_cons.mpr ⟨un 907 (by decide +kernel) (by decide +kernel), List.forall_mem_cons.mpr ⟨un 909 (by decide +kernel) (by decide +kernel), List.forall_mem_cons.mpr ⟨un 911 (by decide +kernel) (by decide +kernel), List.forall_mem_cons.mpr ⟨un 913 (by decide +kernel) (by decide +kernel), List.forall_mem_cons.mpr ⟨un 915 (by decide +kernel) (by decide +kernel), List.forall_mem_cons.mpr ⟨un 917 (by decide +kernel) (by decide +kernel), List.forall_mem_cons.mpr ⟨un 919 (by decide +kernel) (by decide +kernel), List.forall_mem_cons.mpr ⟨un 921 (by decide +kernel) (by decide +kernel), List.forall_mem_cons.mpr ⟨un 923 (by decide +kernel) (by decide +kernel), List.forall_mem_cons.mpr ⟨un 925 (by decide +kernel) (by decide +kernel), List.forall_mem_cons.mpr ⟨un 927 (by decide +kernel) (by decide +kernel), List.forall_mem_cons.mpr ⟨un 929 (by decide +kernel) (by decide +kernel), fun _ h => absurd h List.not_mem_nil⟩⟩⟩⟩⟩⟩⟩⟩⟩⟩⟩⟩⟩⟩⟩⟩⟩⟩⟩⟩⟩⟩⟩
theorem my_Cod_commonBeginning : My y_Cod_commonBeginning b_Cod_commonBeginning 4 (some .int) 2 := ⟨un 758 (by decide +kernel) (by decide +kernel), un 13 (by decide +kernel) (by decide +kernel), ⟨by decide, by decide⟩, by decide +kernel, by decide⟩
theorem ms_Cod_commonBeginning : MS y_Cod_commonBeginning := un 757 (by decide +kernel) (by decide +kernel)
theorem my_Cod_commonEnd : My y_Cod_commonEnd b_Cod_commonEnd 5 (some .int) 3 := ⟨un 762 (by decide +kernel) (by decide +kernel), un 13 (by decide +kernel) (by decide +kernel), ⟨by decide, by decide⟩, by decide +kernel, by decide⟩
theorem ms_Cod_commonEnd : MS y_Cod_commonEnd := un 761 (by decide +kernel) (by decide +kernel)
theorem my_Cod_readDifference : My y_Cod_readDifference b_Cod_readDifference 7 (some .boolean) 4 := ⟨un 591 (by decide +kernel) (by decide +kernel), un 13 (by decide +kernel) (by decide +kernel), ⟨by decide, by decide⟩, by decide +kernel, by decide⟩
theorem ms_Cod_readDifference : MS y_Cod_readDifference := un 590 (by decide +kernel) (by decide +kernel)
theorem my_Cod_readSnapshot : My y_Cod_readSnapshot b_Cod_readSnapshot 7 (some .boolean) 4 := ⟨un 241 (by decide +kernel) (by decide +kernel), un 13 (by decide +kernel) (by decide +kernel), ⟨by decide, by decide⟩, by decide +kernel, by decide⟩
theorem ms_Cod_readSnapshot : MS y_Cod_readSnapshot := un 240 (by decide +kernel) (by decide +kernel)
theorem my_Cod_writeDifference : My y_Cod_writeDifference b_Cod_writeDifference 6 none 3 := ⟨un 755 (by decide +kernel) (by decide +kernel), un 13 (by decide +kernel) (by decide +kernel), ⟨by decide, by decide⟩, by decide +kernel, by decide⟩
theorem ms_Cod_writeDifference : MS y_Cod_writeDifference := un 754 (by decide +kernel) (by decide +kernel)
theorem my_Cod_writePacked : My y_Cod_writePacked b_Cod_writePacked 4 none 2 := ⟨un 747 (by decide +kernel) (by decide +kernel), un 13 (by decide +kernel) (by decide +kernel), ⟨by decide, by decide⟩, by decide +kernel, by decide⟩
theorem ms_Cod_writePacked : MS y_Cod_writePacked := un 746 (by decide +kernel) (by decide +kernel)
theorem my_Cod_writeWhole : My y_Cod_writeWhole b_Cod_writeWhole 2 none 2 := ⟨un 742 (by decide +kernel) (by decide +kernel), un 13 (by decide +kernel) (by decide +kernel), ⟨by decide, by decide⟩, by decide +kernel, by decide⟩
theorem ms_Cod_writeWhole : MS y_Cod_writeWhole := un 741 (by decide +kernel) (by decide +kernel)
theorem my_JA_fill : My y_JA_fill b_JA_fill 5 none 4 := ⟨un 256 (by decide +kernel) (by decide +kernel), un 15 (by decide +kernel) (by decide +kernel), ⟨by decide, by decide⟩, by decide +kernel, by decide⟩
theorem ms_JA_fill : MS y_JA_fill := un 255 (by decide +kernel) (by decide +kernel)
theorem my_JA_rangeCheck : My y_JA_rangeCheck b_JA_rangeCheck 3 none 3 := ⟨un 259 (by decide +kernel) (by decide +kernel), un 15 (by decide +kernel) (by decide +kernel), ⟨by decide, by decide⟩, by decide +kernel, by decide⟩
theorem ms_JA_rangeCheck : MS y_JA_rangeCheck := un 258 (by decide +kernel) (by decide +kernel)
theorem my_JI_bitCount : My y_JI_bitCount b_JI_bitCount 1 (some .int) 1 := ⟨un 631 (by decide +kernel) (by decide +kernel), un 23 (by decide +kernel) (by decide +kernel), ⟨by decide, by decide⟩, by decide +kernel, by decide⟩
theorem ms_JI_bitCount : MS y_JI_bitCount := un 630 (by decide +kernel) (by decide +kernel)
theorem my_Rec_describe : My y_Rec_describe b_Rec_describe 6 none 4 := ⟨un 776 (by decide +kernel) (by decide +kernel), un 4 (by decide +kernel) (by decide +kernel), ⟨by decide, by decide⟩, by decide +kernel, by decide⟩
theorem mv_Rec_describe : MV y_Rec_describe := ⟨un 774 (by decide +kernel) (by decide +kernel), un 775 (by decide +kernel) (by decide +kernel)⟩
theorem my_Rec_field : My y_Rec_field b_Rec_field 2 (some .int) 1 := ⟨un 200 (by decide +kernel) (by decide +kernel), un 4 (by decide +kernel) (by decide +kernel), ⟨by decide, by decide⟩, by decide +kernel, by decide⟩
theorem mv_Rec_field : MV y_Rec_field := ⟨un 198 (by decide +kernel) (by decide +kernel), un 199 (by decide +kernel) (by decide +kernel)⟩
theorem my_Rec_init : My y_Rec_init b_Rec_init 1 none 0 := ⟨un 65 (by decide +kernel) (by decide +kernel), un 4 (by decide +kernel) (by decide +kernel), ⟨by decide, by decide⟩, by decide +kernel, by decide⟩
theorem my_Rec_placeChunk : My y_Rec_placeChunk b_Rec_placeChunk 4 none 3 := ⟨un 772 (by decide +kernel) (by decide +kernel), un 4 (by decide +kernel) (by decide +kernel), ⟨by decide, by decide⟩, by decide +kernel, by decide⟩
theorem mv_Rec_placeChunk : MV y_Rec_placeChunk := ⟨un 770 (by decide +kernel) (by decide +kernel), un 771 (by decide +kernel) (by decide +kernel)⟩
theorem my_Rep_ancestorsOf : My y_Rep_ancestorsOf b_Rep_ancestorsOf 4 (some .int) 1 := ⟨un 646 (by decide +kernel) (by decide +kernel), un 3 (by decide +kernel) (by decide +kernel), ⟨by decide, by decide⟩, by decide +kernel, by decide⟩
theorem mv_Rep_ancestorsOf : MV y_Rep_ancestorsOf := ⟨un 645 (by decide +kernel) (by decide +kernel), unS (q := (y_Rep_ancestorsOf, 12)) 5 (by decide +kernel) (by decide +kernel)⟩
theorem my_Rep_build : My y_Rep_build b_Rep_build 7 (some .boolean) 1 := ⟨un 237 (by decide +kernel) (by decide +kernel), un 3 (by decide +kernel) (by decide +kernel), ⟨by decide, by decide⟩, by decide +kernel, by decide⟩
theorem mv_Rep_build : MV y_Rep_build := ⟨un 235 (by decide +kernel) (by decide +kernel), un 236 (by decide +kernel) (by decide +kernel)⟩
theorem my_Rep_canBeParent : My y_Rep_canBeParent b_Rep_canBeParent 2 (some .boolean) 1 := ⟨un 721 (by decide +kernel) (by decide +kernel), un 3 (by decide +kernel) (by decide +kernel), ⟨by decide, by decide⟩, by decide +kernel, by decide⟩
theorem mv_Rep_canBeParent : MV y_Rep_canBeParent := ⟨un 719 (by decide +kernel) (by decide +kernel), un 720 (by decide +kernel) (by decide +kernel)⟩
theorem my_Rep_chainFits : My y_Rep_chainFits b_Rep_chainFits 6 (some .boolean) 2 := ⟨un 766 (by decide +kernel) (by decide +kernel), un 3 (by decide +kernel) (by decide +kernel), ⟨by decide, by decide⟩, by decide +kernel, by decide⟩
theorem mv_Rep_chainFits : MV y_Rep_chainFits := ⟨un 765 (by decide +kernel) (by decide +kernel), unS (q := (y_Rep_chainFits, 12)) 11 (by decide +kernel) (by decide +kernel)⟩
theorem my_Rep_chooseChunk : My y_Rep_chooseChunk b_Rep_chooseChunk 7 (some .int) 3 := ⟨un 739 (by decide +kernel) (by decide +kernel), un 3 (by decide +kernel) (by decide +kernel), ⟨by decide, by decide⟩, by decide +kernel, by decide⟩
theorem mv_Rep_chooseChunk : MV y_Rep_chooseChunk := ⟨un 738 (by decide +kernel) (by decide +kernel), unS (q := (y_Rep_chooseChunk, 12)) 10 (by decide +kernel) (by decide +kernel)⟩
theorem my_Rep_comeUp : My y_Rep_comeUp b_Rep_comeUp 2 (some .int) 1 := ⟨un 825 (by decide +kernel) (by decide +kernel), un 3 (by decide +kernel) (by decide +kernel), ⟨by decide, by decide⟩, by decide +kernel, by decide⟩
theorem mv_Rep_comeUp : MV y_Rep_comeUp := ⟨un 823 (by decide +kernel) (by decide +kernel), un 824 (by decide +kernel) (by decide +kernel)⟩
theorem my_Rep_countHeads : My y_Rep_countHeads b_Rep_countHeads 3 (some .int) 0 := ⟨un 624 (by decide +kernel) (by decide +kernel), un 3 (by decide +kernel) (by decide +kernel), ⟨by decide, by decide⟩, by decide +kernel, by decide⟩
theorem mv_Rep_countHeads : MV y_Rep_countHeads := ⟨un 622 (by decide +kernel) (by decide +kernel), un 623 (by decide +kernel) (by decide +kernel)⟩
theorem my_Rep_countWrong : My y_Rep_countWrong b_Rep_countWrong 3 (some .int) 0 := ⟨un 233 (by decide +kernel) (by decide +kernel), un 3 (by decide +kernel) (by decide +kernel), ⟨by decide, by decide⟩, by decide +kernel, by decide⟩
theorem mv_Rep_countWrong : MV y_Rep_countWrong := ⟨un 231 (by decide +kernel) (by decide +kernel), un 232 (by decide +kernel) (by decide +kernel)⟩
theorem my_Rep_find : My y_Rep_find b_Rep_find 4 (some .int) 1 := ⟨un 735 (by decide +kernel) (by decide +kernel), un 3 (by decide +kernel) (by decide +kernel), ⟨by decide, by decide⟩, by decide +kernel, by decide⟩
theorem mv_Rep_find : MV y_Rep_find := ⟨un 734 (by decide +kernel) (by decide +kernel), unS (q := (y_Rep_find, 12)) 9 (by decide +kernel) (by decide +kernel)⟩
theorem my_Rep_greatestCommonAncestor : My y_Rep_greatestCommonAncestor b_Rep_greatestCommonAncestor 5 (some .int) 2 := ⟨un 642 (by decide +kernel) (by decide +kernel), un 3 (by decide +kernel) (by decide +kernel), ⟨by decide, by decide⟩, by decide +kernel, by decide⟩
theorem mv_Rep_greatestCommonAncestor : MV y_Rep_greatestCommonAncestor := ⟨un 640 (by decide +kernel) (by decide +kernel), un 641 (by decide +kernel) (by decide +kernel)⟩
theorem my_Rep_hasRevision : My y_Rep_hasRevision b_Rep_hasRevision 2 (some .boolean) 1 := ⟨un 196 (by decide +kernel) (by decide +kernel), un 3 (by decide +kernel) (by decide +kernel), ⟨by decide, by decide⟩, by decide +kernel, by decide⟩
theorem mv_Rep_hasRevision : MV y_Rep_hasRevision := ⟨un 194 (by decide +kernel) (by decide +kernel), un 195 (by decide +kernel) (by decide +kernel)⟩
theorem my_Rep_init : My y_Rep_init b_Rep_init 2 none 0 := ⟨un 56 (by decide +kernel) (by decide +kernel), un 3 (by decide +kernel) (by decide +kernel), ⟨by decide, by decide⟩, by decide +kernel, by decide⟩
theorem my_Rep_mayWrite : My y_Rep_mayWrite b_Rep_mayWrite 1 (some .boolean) 0 := ⟨un 704 (by decide +kernel) (by decide +kernel), un 3 (by decide +kernel) (by decide +kernel), ⟨by decide, by decide⟩, by decide +kernel, by decide⟩
theorem mv_Rep_mayWrite : MV y_Rep_mayWrite := ⟨un 703 (by decide +kernel) (by decide +kernel), unS (q := (y_Rep_mayWrite, 12)) 7 (by decide +kernel) (by decide +kernel)⟩
theorem my_Rep_mixLong : My y_Rep_mixLong b_Rep_mixLong 7 (some .long) 2 := ⟨un 610 (by decide +kernel) (by decide +kernel), un 3 (by decide +kernel) (by decide +kernel), ⟨by decide, by decide⟩, by decide +kernel, by decide⟩
theorem ms_Rep_mixLong : MS y_Rep_mixLong := un 609 (by decide +kernel) (by decide +kernel)
theorem my_Rep_nodeOf : My y_Rep_nodeOf b_Rep_nodeOf 11 (some .long) 3 := ⟨un 599 (by decide +kernel) (by decide +kernel), un 3 (by decide +kernel) (by decide +kernel), ⟨by decide, by decide⟩, by decide +kernel, by decide⟩
theorem mv_Rep_nodeOf : MV y_Rep_nodeOf := ⟨un 598 (by decide +kernel) (by decide +kernel), unS (q := (y_Rep_nodeOf, 12)) 2 (by decide +kernel) (by decide +kernel)⟩
theorem my_Rep_nodeOrZero : My y_Rep_nodeOrZero b_Rep_nodeOrZero 2 (some .long) 1 := ⟨un 603 (by decide +kernel) (by decide +kernel), un 3 (by decide +kernel) (by decide +kernel), ⟨by decide, by decide⟩, by decide +kernel, by decide⟩
theorem mv_Rep_nodeOrZero : MV y_Rep_nodeOrZero := ⟨un 602 (by decide +kernel) (by decide +kernel), unS (q := (y_Rep_nodeOrZero, 12)) 3 (by decide +kernel) (by decide +kernel)⟩
theorem my_Rep_openJournal : My y_Rep_openJournal b_Rep_openJournal 1 (some .boolean) 0 := ⟨un 700 (by decide +kernel) (by decide +kernel), un 3 (by decide +kernel) (by decide +kernel), ⟨by decide, by decide⟩, by decide +kernel, by decide⟩
theorem mv_Rep_openJournal : MV y_Rep_openJournal := ⟨un 698 (by decide +kernel) (by decide +kernel), un 699 (by decide +kernel) (by decide +kernel)⟩
theorem my_Rep_parentsOf : My y_Rep_parentsOf b_Rep_parentsOf 5 (some .int) 1 := ⟨un 628 (by decide +kernel) (by decide +kernel), un 3 (by decide +kernel) (by decide +kernel), ⟨by decide, by decide⟩, by decide +kernel, by decide⟩
theorem mv_Rep_parentsOf : MV y_Rep_parentsOf := ⟨un 627 (by decide +kernel) (by decide +kernel), unS (q := (y_Rep_parentsOf, 12)) 4 (by decide +kernel) (by decide +kernel)⟩
theorem my_Rep_removeJournal : My y_Rep_removeJournal b_Rep_removeJournal 1 (some .boolean) 0 := ⟨un 802 (by decide +kernel) (by decide +kernel), un 3 (by decide +kernel) (by decide +kernel), ⟨by decide, by decide⟩, by decide +kernel, by decide⟩
theorem mv_Rep_removeJournal : MV y_Rep_removeJournal := ⟨un 800 (by decide +kernel) (by decide +kernel), un 801 (by decide +kernel) (by decide +kernel)⟩
theorem my_Rep_rollBack : My y_Rep_rollBack b_Rep_rollBack 2 (some .int) 0 := ⟨un 813 (by decide +kernel) (by decide +kernel), un 3 (by decide +kernel) (by decide +kernel), ⟨by decide, by decide⟩, by decide +kernel, by decide⟩
theorem mv_Rep_rollBack : MV y_Rep_rollBack := ⟨un 811 (by decide +kernel) (by decide +kernel), un 812 (by decide +kernel) (by decide +kernel)⟩
theorem my_Rep_store : My y_Rep_store b_Rep_store 9 (some .int) 3 := ⟨un 731 (by decide +kernel) (by decide +kernel), un 3 (by decide +kernel) (by decide +kernel), ⟨by decide, by decide⟩, by decide +kernel, by decide⟩
theorem mv_Rep_store : MV y_Rep_store := ⟨un 729 (by decide +kernel) (by decide +kernel), un 730 (by decide +kernel) (by decide +kernel)⟩
theorem my_Rep_takeFrom : My y_Rep_takeFrom b_Rep_takeFrom 6 (some .int) 1 := ⟨un 837 (by decide +kernel) (by decide +kernel), un 3 (by decide +kernel) (by decide +kernel), ⟨by decide, by decide⟩, by decide +kernel, by decide⟩
theorem mv_Rep_takeFrom : MV y_Rep_takeFrom := ⟨un 835 (by decide +kernel) (by decide +kernel), un 836 (by decide +kernel) (by decide +kernel)⟩
theorem my_Rep_twinOf : My y_Rep_twinOf b_Rep_twinOf 3 (some .int) 2 := ⟨un 842 (by decide +kernel) (by decide +kernel), un 3 (by decide +kernel) (by decide +kernel), ⟨by decide, by decide⟩, by decide +kernel, by decide⟩
theorem mv_Rep_twinOf : MV y_Rep_twinOf := ⟨un 841 (by decide +kernel) (by decide +kernel), unS (q := (y_Rep_twinOf, 12)) 12 (by decide +kernel) (by decide +kernel)⟩
theorem my_Rep_undo : My y_Rep_undo b_Rep_undo 2 none 1 := ⟨un 847 (by decide +kernel) (by decide +kernel), un 3 (by decide +kernel) (by decide +kernel), ⟨by decide, by decide⟩, by decide +kernel, by decide⟩
theorem mv_Rep_undo : MV y_Rep_undo := ⟨un 846 (by decide +kernel) (by decide +kernel), unS (q := (y_Rep_undo, 12)) 13 (by decide +kernel) (by decide +kernel)⟩
theorem my_Row_add : My y_Row_add b_Row_add 2 (some .boolean) 1 := ⟨un 161 (by decide +kernel) (by decide +kernel), un 2 (by decide +kernel) (by decide +kernel), ⟨by decide, by decide⟩, by decide +kernel, by decide⟩
theorem mv_Row_add : MV y_Row_add := ⟨un 159 (by decide +kernel) (by decide +kernel), un 160 (by decide +kernel) (by decide +kernel)⟩
theorem my_Row_addPart : My y_Row_addPart b_Row_addPart 4 (some .boolean) 3 := ⟨un 246 (by decide +kernel) (by decide +kernel), un 2 (by decide +kernel) (by decide +kernel), ⟨by decide, by decide⟩, by decide +kernel, by decide⟩
theorem mv_Row_addPart : MV y_Row_addPart := ⟨un 244 (by decide +kernel) (by decide +kernel), un 245 (by decide +kernel) (by decide +kernel)⟩
theorem my_Row_addRun : My y_Row_addRun b_Row_addRun 3 (some .boolean) 2 := ⟨un 253 (by decide +kernel) (by decide +kernel), un 2 (by decide +kernel) (by decide +kernel), ⟨by decide, by decide⟩, by decide +kernel, by decide⟩
theorem mv_Row_addRun : MV y_Row_addRun := ⟨un 251 (by decide +kernel) (by decide +kernel), un 252 (by decide +kernel) (by decide +kernel)⟩
theorem my_Row_at : My y_Row_at b_Row_at 2 (some .int) 1 := ⟨un 216 (by decide +kernel) (by decide +kernel), un 2 (by decide +kernel) (by decide +kernel), ⟨by decide, by decide⟩, by decide +kernel, by decide⟩
theorem mv_Row_at : MV y_Row_at := ⟨un 214 (by decide +kernel) (by decide +kernel), un 215 (by decide +kernel) (by decide +kernel)⟩
theorem my_Row_become : My y_Row_become b_Row_become 2 none 1 := ⟨un 751 (by decide +kernel) (by decide +kernel), un 2 (by decide +kernel) (by decide +kernel), ⟨by decide, by decide⟩, by decide +kernel, by decide⟩
theorem mv_Row_become : MV y_Row_become := ⟨un 749 (by decide +kernel) (by decide +kernel), un 750 (by decide +kernel) (by decide +kernel)⟩
theorem my_Row_cut : My y_Row_cut b_Row_cut 2 none 1 := ⟨un 173 (by decide +kernel) (by decide +kernel), un 2 (by decide +kernel) (by decide +kernel), ⟨by decide, by decide⟩, by decide +kernel, by decide⟩
theorem mv_Row_cut : MV y_Row_cut := ⟨un 171 (by decide +kernel) (by decide +kernel), un 172 (by decide +kernel) (by decide +kernel)⟩
theorem my_Row_flip : My y_Row_flip b_Row_flip 3 none 2 := ⟨un 225 (by decide +kernel) (by decide +kernel), un 2 (by decide +kernel) (by decide +kernel), ⟨by decide, by decide⟩, by decide +kernel, by decide⟩
theorem mv_Row_flip : MV y_Row_flip := ⟨un 223 (by decide +kernel) (by decide +kernel), un 224 (by decide +kernel) (by decide +kernel)⟩
theorem my_Row_has : My y_Row_has b_Row_has 2 (some .boolean) 1 := ⟨un 212 (by decide +kernel) (by decide +kernel), un 2 (by decide +kernel) (by decide +kernel), ⟨by decide, by decide⟩, by decide +kernel, by decide⟩
theorem mv_Row_has : MV y_Row_has := ⟨un 210 (by decide +kernel) (by decide +kernel), un 211 (by decide +kernel) (by decide +kernel)⟩
theorem my_Row_hasRoomFor : My y_Row_hasRoomFor b_Row_hasRoomFor 2 (some .boolean) 1 := ⟨un 165 (by decide +kernel) (by decide +kernel), un 2 (by decide +kernel) (by decide +kernel), ⟨by decide, by decide⟩, by decide +kernel, by decide⟩
theorem mv_Row_hasRoomFor : MV y_Row_hasRoomFor := ⟨un 163 (by decide +kernel) (by decide +kernel), un 164 (by decide +kernel) (by decide +kernel)⟩
theorem my_Row_init : My y_Row_init b_Row_init 2 none 1 := ⟨un 38 (by decide +kernel) (by decide +kernel), un 2 (by decide +kernel) (by decide +kernel), ⟨by decide, by decide⟩, by decide +kernel, by decide⟩
theorem my_Row_replace : My y_Row_replace b_Row_replace 7 (some .boolean) 5 := ⟨un 595 (by decide +kernel) (by decide +kernel), un 2 (by decide +kernel) (by decide +kernel), ⟨by decide, by decide⟩, by decide +kernel, by decide⟩
theorem mv_Row_replace : MV y_Row_replace := ⟨un 593 (by decide +kernel) (by decide +kernel), un 594 (by decide +kernel) (by decide +kernel)⟩
theorem my_V_abort : My y_V_abort b_V_abort 2 (some .int) 1 := ⟨un 809 (by decide +kernel) (by decide +kernel), un 1 (by decide +kernel) (by decide +kernel), ⟨by decide, by decide⟩, by decide +kernel, by decide⟩
theorem mv_V_abort : MV y_V_abort := ⟨un 807 (by decide +kernel) (by decide +kernel), un 808 (by decide +kernel) (by decide +kernel)⟩
theorem my_V_append : My y_V_append b_V_append 6 (some .int) 3 := ⟨un 713 (by decide +kernel) (by decide +kernel), un 1 (by decide +kernel) (by decide +kernel), ⟨by decide, by decide⟩, by decide +kernel, by decide⟩
theorem mv_V_append : MV y_V_append := ⟨un 711 (by decide +kernel) (by decide +kernel), un 712 (by decide +kernel) (by decide +kernel)⟩
theorem my_V_barTo : My y_V_barTo b_V_barTo 2 (some .int) 1 := ⟨un 181 (by decide +kernel) (by decide +kernel), un 1 (by decide +kernel) (by decide +kernel), ⟨by decide, by decide⟩, by decide +kernel, by decide⟩
theorem mv_V_barTo : MV y_V_barTo := ⟨un 180 (by decide +kernel) (by decide +kernel), unS (q := (y_V_barTo, 2)) 0 (by decide +kernel) (by decide +kernel)⟩
theorem my_V_begin : My y_V_begin b_V_begin 3 (some .int) 1 := ⟨un 656 (by decide +kernel) (by decide +kernel), un 1 (by decide +kernel) (by decide +kernel), ⟨by decide, by decide⟩, by decide +kernel, by decide⟩
theorem mv_V_begin : MV y_V_begin := ⟨un 654 (by decide +kernel) (by decide +kernel), un 655 (by decide +kernel) (by decide +kernel)⟩
theorem my_V_byteAt : My y_V_byteAt b_V_byteAt 3 (some .int) 2 := ⟨un 154 (by decide +kernel) (by decide +kernel), un 1 (by decide +kernel) (by decide +kernel), ⟨by decide, by decide⟩, by decide +kernel, by decide⟩
theorem ms_V_byteAt : MS y_V_byteAt := un 153 (by decide +kernel) (by decide +kernel)
theorem my_V_commit : My y_V_commit b_V_commit 2 (some .int) 1 := ⟨un 798 (by decide +kernel) (by decide +kernel), un 1 (by decide +kernel) (by decide +kernel), ⟨by decide, by decide⟩, by decide +kernel, by decide⟩
theorem mv_V_commit : MV y_V_commit := ⟨un 796 (by decide +kernel) (by decide +kernel), un 797 (by decide +kernel) (by decide +kernel)⟩
theorem my_V_common : My y_V_common b_V_common 6 (some .int) 3 := ⟨un 638 (by decide +kernel) (by decide +kernel), un 1 (by decide +kernel) (by decide +kernel), ⟨by decide, by decide⟩, by decide +kernel, by decide⟩
theorem mv_V_common : MV y_V_common := ⟨un 636 (by decide +kernel) (by decide +kernel), un 637 (by decide +kernel) (by decide +kernel)⟩
theorem my_V_damage : My y_V_damage b_V_damage 4 (some .boolean) 3 := ⟨un 221 (by decide +kernel) (by decide +kernel), un 1 (by decide +kernel) (by decide +kernel), ⟨by decide, by decide⟩, by decide +kernel, by decide⟩
theorem mv_V_damage : MV y_V_damage := ⟨un 219 (by decide +kernel) (by decide +kernel), un 220 (by decide +kernel) (by decide +kernel)⟩
theorem my_V_data : My y_V_data b_V_data 5 (some .int) 2 := ⟨un 208 (by decide +kernel) (by decide +kernel), un 1 (by decide +kernel) (by decide +kernel), ⟨by decide, by decide⟩, by decide +kernel, by decide⟩
theorem mv_V_data : MV y_V_data := ⟨un 206 (by decide +kernel) (by decide +kernel), un 207 (by decide +kernel) (by decide +kernel)⟩
theorem my_V_fail : My y_V_fail b_V_fail 3 (some .boolean) 2 := ⟨un 177 (by decide +kernel) (by decide +kernel), un 1 (by decide +kernel) (by decide +kernel), ⟨by decide, by decide⟩, by decide +kernel, by decide⟩
theorem mv_V_fail : MV y_V_fail := ⟨un 175 (by decide +kernel) (by decide +kernel), un 176 (by decide +kernel) (by decide +kernel)⟩
theorem my_V_heads : My y_V_heads b_V_heads 3 (some .int) 1 := ⟨un 620 (by decide +kernel) (by decide +kernel), un 1 (by decide +kernel) (by decide +kernel), ⟨by decide, by decide⟩, by decide +kernel, by decide⟩
theorem mv_V_heads : MV y_V_heads := ⟨un 618 (by decide +kernel) (by decide +kernel), un 619 (by decide +kernel) (by decide +kernel)⟩
theorem my_V_init : My y_V_init b_V_init 2 none 0 := ⟨un 30 (by decide +kernel) (by decide +kernel), un 1 (by decide +kernel) (by decide +kernel), ⟨by decide, by decide⟩, by decide +kernel, by decide⟩
theorem my_V_isCharacter : My y_V_isCharacter b_V_isCharacter 1 (some .boolean) 1 := ⟨un 157 (by decide +kernel) (by decide +kernel), un 1 (by decide +kernel) (by decide +kernel), ⟨by decide, by decide⟩, by decide +kernel, by decide⟩
theorem ms_V_isCharacter : MS y_V_isCharacter := un 156 (by decide +kernel) (by decide +kernel)
theorem my_V_isRepository : My y_V_isRepository b_V_isRepository 1 (some .boolean) 1 := ⟨un 184 (by decide +kernel) (by decide +kernel), un 1 (by decide +kernel) (by decide +kernel), ⟨by decide, by decide⟩, by decide +kernel, by decide⟩
theorem ms_V_isRepository : MS y_V_isRepository := un 183 (by decide +kernel) (by decide +kernel)
theorem my_V_node : My y_V_node b_V_node 3 (some .long) 2 := ⟨un 204 (by decide +kernel) (by decide +kernel), un 1 (by decide +kernel) (by decide +kernel), ⟨by decide, by decide⟩, by decide +kernel, by decide⟩
theorem mv_V_node : MV y_V_node := ⟨un 202 (by decide +kernel) (by decide +kernel), un 203 (by decide +kernel) (by decide +kernel)⟩
theorem my_V_pull : My y_V_pull b_V_pull 5 (some .int) 1 := ⟨un 833 (by decide +kernel) (by decide +kernel), un 1 (by decide +kernel) (by decide +kernel), ⟨by decide, by decide⟩, by decide +kernel, by decide⟩
theorem mv_V_pull : MV y_V_pull := ⟨un 831 (by decide +kernel) (by decide +kernel), un 832 (by decide +kernel) (by decide +kernel)⟩
theorem my_V_record : My y_V_record b_V_record 5 (some .int) 3 := ⟨un 192 (by decide +kernel) (by decide +kernel), un 1 (by decide +kernel) (by decide +kernel), ⟨by decide, by decide⟩, by decide +kernel, by decide⟩
theorem mv_V_record : MV y_V_record := ⟨un 190 (by decide +kernel) (by decide +kernel), un 191 (by decide +kernel) (by decide +kernel)⟩
theorem my_V_recover : My y_V_recover b_V_recover 4 (some .int) 2 := ⟨un 821 (by decide +kernel) (by decide +kernel), un 1 (by decide +kernel) (by decide +kernel), ⟨by decide, by decide⟩, by decide +kernel, by decide⟩
theorem mv_V_recover : MV y_V_recover := ⟨un 819 (by decide +kernel) (by decide +kernel), un 820 (by decide +kernel) (by decide +kernel)⟩
theorem my_V_repositoryAt : My y_V_repositoryAt b_V_repositoryAt 2 (some (.object "RevisionVault$Repository")) 1 := ⟨un 660 (by decide +kernel) (by decide +kernel), un 1 (by decide +kernel) (by decide +kernel), ⟨by decide, by decide⟩, by decide +kernel, by decide⟩
theorem mv_V_repositoryAt : MV y_V_repositoryAt := ⟨un 659 (by decide +kernel) (by decide +kernel), unS (q := (y_V_repositoryAt, 2)) 6 (by decide +kernel) (by decide +kernel)⟩
theorem my_V_repositoryInTransaction : My y_V_repositoryInTransaction b_V_repositoryInTransaction 3 (some (.object "RevisionVault$Repository")) 1 := ⟨un 717 (by decide +kernel) (by decide +kernel), un 1 (by decide +kernel) (by decide +kernel), ⟨by decide, by decide⟩, by decide +kernel, by decide⟩
theorem mv_V_repositoryInTransaction : MV y_V_repositoryInTransaction := ⟨un 716 (by decide +kernel) (by decide +kernel), unS (q := (y_V_repositoryInTransaction, 2)) 8 (by decide +kernel) (by decide +kernel)⟩
theorem my_V_revisions : My y_V_revisions b_V_revisions 3 (some .int) 1 := ⟨un 188 (by decide +kernel) (by decide +kernel), un 1 (by decide +kernel) (by decide +kernel), ⟨by decide, by decide⟩, by decide +kernel, by decide⟩
theorem mv_V_revisions : MV y_V_revisions := ⟨un 186 (by decide +kernel) (by decide +kernel), un 187 (by decide +kernel) (by decide +kernel)⟩
theorem my_V_text : My y_V_text b_V_text 5 (some .int) 3 := ⟨un 854 (by decide +kernel) (by decide +kernel), un 1 (by decide +kernel) (by decide +kernel), ⟨by decide, by decide⟩, by decide +kernel, by decide⟩
theorem mv_V_text : MV y_V_text := ⟨un 852 (by decide +kernel) (by decide +kernel), un 853 (by decide +kernel) (by decide +kernel)⟩
theorem my_V_type : My y_V_type b_V_type 6 (some .boolean) 1 := ⟨un 151 (by decide +kernel) (by decide +kernel), un 1 (by decide +kernel) (by decide +kernel), ⟨by decide, by decide⟩, by decide +kernel, by decide⟩
theorem mv_V_type : MV y_V_type := ⟨un 149 (by decide +kernel) (by decide +kernel), un 150 (by decide +kernel) (by decide +kernel)⟩
theorem my_V_wipe : My y_V_wipe b_V_wipe 1 none 0 := ⟨un 169 (by decide +kernel) (by decide +kernel), un 1 (by decide +kernel) (by decide +kernel), ⟨by decide, by decide⟩, by decide +kernel, by decide⟩
theorem mv_V_wipe : MV y_V_wipe := ⟨un 167 (by decide +kernel) (by decide +kernel), un 168 (by decide +kernel) (by decide +kernel)⟩
theorem my_V_wrong : My y_V_wrong b_V_wrong 3 (some .int) 1 := ⟨un 229 (by decide +kernel) (by decide +kernel), un 1 (by decide +kernel) (by decide +kernel), ⟨by decide, by decide⟩, by decide +kernel, by decide⟩
theorem mv_V_wrong : MV y_V_wrong := ⟨un 227 (by decide +kernel) (by decide +kernel), un 228 (by decide +kernel) (by decide +kernel)⟩
theorem my_M_abort : My y_M_abort b_M_abort 2 (some .int) 1 := ⟨un 1064 (by decide +kernel) (by decide +kernel), un 5 (by decide +kernel) (by decide +kernel), ⟨by decide, by decide⟩, by decide +kernel, by decide⟩
theorem mv_M_abort : MV y_M_abort := ⟨un 1062 (by decide +kernel) (by decide +kernel), un 1063 (by decide +kernel) (by decide +kernel)⟩
theorem my_M_add : My y_M_add b_M_add 12 (some .int) 3 := ⟨un 980 (by decide +kernel) (by decide +kernel), un 5 (by decide +kernel) (by decide +kernel), ⟨by decide, by decide⟩, by decide +kernel, by decide⟩
theorem mv_M_add : MV y_M_add := ⟨un 979 (by decide +kernel) (by decide +kernel), unS (q := (y_M_add, 23)) 19 (by decide +kernel) (by decide +kernel)⟩
theorem my_M_ancestors : My y_M_ancestors b_M_ancestors 7 (some .int) 2 := ⟨un 1128 (by decide +kernel) (by decide +kernel), un 5 (by decide +kernel) (by decide +kernel), ⟨by decide, by decide⟩, by decide +kernel, by decide⟩
theorem mv_M_ancestors : MV y_M_ancestors := ⟨un 1127 (by decide +kernel) (by decide +kernel), unS (q := (y_M_ancestors, 23)) 40 (by decide +kernel) (by decide +kernel)⟩
theorem my_M_append : My y_M_append b_M_append 5 (some .int) 3 := ⟨un 972 (by decide +kernel) (by decide +kernel), un 5 (by decide +kernel) (by decide +kernel), ⟨by decide, by decide⟩, by decide +kernel, by decide⟩
theorem mv_M_append : MV y_M_append := ⟨un 970 (by decide +kernel) (by decide +kernel), un 971 (by decide +kernel) (by decide +kernel)⟩
theorem my_M_apply : My y_M_apply b_M_apply 9 (some .boolean) 2 := ⟨un 1024 (by decide +kernel) (by decide +kernel), un 5 (by decide +kernel) (by decide +kernel), ⟨by decide, by decide⟩, by decide +kernel, by decide⟩
theorem mv_M_apply : MV y_M_apply := ⟨un 1023 (by decide +kernel) (by decide +kernel), unS (q := (y_M_apply, 23)) 28 (by decide +kernel) (by decide +kernel)⟩
theorem my_M_barred : My y_M_barred b_M_barred 3 (some .boolean) 2 := ⟨un 960 (by decide +kernel) (by decide +kernel), un 5 (by decide +kernel) (by decide +kernel), ⟨by decide, by decide⟩, by decide +kernel, by decide⟩
theorem mv_M_barred : MV y_M_barred := ⟨un 959 (by decide +kernel) (by decide +kernel), unS (q := (y_M_barred, 23)) 15 (by decide +kernel) (by decide +kernel)⟩
theorem my_M_begin : My y_M_begin b_M_begin 2 (some .int) 1 := ⟨un 949 (by decide +kernel) (by decide +kernel), un 5 (by decide +kernel) (by decide +kernel), ⟨by decide, by decide⟩, by decide +kernel, by decide⟩
theorem mv_M_begin : MV y_M_begin := ⟨un 947 (by decide +kernel) (by decide +kernel), un 948 (by decide +kernel) (by decide +kernel)⟩
theorem my_M_begun : My y_M_begun b_M_begun 10 (some .long) 3 := ⟨un 984 (by decide +kernel) (by decide +kernel), un 5 (by decide +kernel) (by decide +kernel), ⟨by decide, by decide⟩, by decide +kernel, by decide⟩
theorem mv_M_begun : MV y_M_begun := ⟨un 983 (by decide +kernel) (by decide +kernel), unS (q := (y_M_begun, 23)) 20 (by decide +kernel) (by decide +kernel)⟩
theorem my_M_bring : My y_M_bring b_M_bring 8 (some .int) 3 := ⟨un 1084 (by decide +kernel) (by decide +kernel), un 5 (by decide +kernel) (by decide +kernel), ⟨by decide, by decide⟩, by decide +kernel, by decide⟩
theorem mv_M_bring : MV y_M_bring := ⟨un 1083 (by decide +kernel) (by decide +kernel), unS (q := (y_M_bring, 23)) 38 (by decide +kernel) (by decide +kernel)⟩
theorem my_M_build : My y_M_build b_M_build 9 (some .boolean) 2 := ⟨un 1012 (by decide +kernel) (by decide +kernel), un 5 (by decide +kernel) (by decide +kernel), ⟨by decide, by decide⟩, by decide +kernel, by decide⟩
theorem mv_M_build : MV y_M_build := ⟨un 1011 (by decide +kernel) (by decide +kernel), unS (q := (y_M_build, 23)) 25 (by decide +kernel) (by decide +kernel)⟩
theorem my_M_byteAt : My y_M_byteAt b_M_byteAt 4 (some .int) 3 := ⟨un 1020 (by decide +kernel) (by decide +kernel), un 5 (by decide +kernel) (by decide +kernel), ⟨by decide, by decide⟩, by decide +kernel, by decide⟩
theorem mv_M_byteAt : MV y_M_byteAt := ⟨un 1019 (by decide +kernel) (by decide +kernel), unS (q := (y_M_byteAt, 23)) 27 (by decide +kernel) (by decide +kernel)⟩
theorem my_M_candidate : My y_M_candidate b_M_candidate 5 (some .int) 4 := ⟨un 1008 (by decide +kernel) (by decide +kernel), un 5 (by decide +kernel) (by decide +kernel), ⟨by decide, by decide⟩, by decide +kernel, by decide⟩
theorem mv_M_candidate : MV y_M_candidate := ⟨un 1007 (by decide +kernel) (by decide +kernel), unS (q := (y_M_candidate, 23)) 24 (by decide +kernel) (by decide +kernel)⟩
theorem my_M_chosen : My y_M_chosen b_M_chosen 10 (some .int) 3 := ⟨un 1000 (by decide +kernel) (by decide +kernel), un 5 (by decide +kernel) (by decide +kernel), ⟨by decide, by decide⟩, by decide +kernel, by decide⟩
theorem mv_M_chosen : MV y_M_chosen := ⟨un 999 (by decide +kernel) (by decide +kernel), unS (q := (y_M_chosen, 23)) 22 (by decide +kernel) (by decide +kernel)⟩
theorem my_M_commit : My y_M_commit b_M_commit 2 (some .int) 1 := ⟨un 1056 (by decide +kernel) (by decide +kernel), un 5 (by decide +kernel) (by decide +kernel), ⟨by decide, by decide⟩, by decide +kernel, by decide⟩
theorem mv_M_commit : MV y_M_commit := ⟨un 1054 (by decide +kernel) (by decide +kernel), un 1055 (by decide +kernel) (by decide +kernel)⟩
theorem my_M_common : My y_M_common b_M_common 8 (some .int) 3 := ⟨un 1124 (by decide +kernel) (by decide +kernel), un 5 (by decide +kernel) (by decide +kernel), ⟨by decide, by decide⟩, by decide +kernel, by decide⟩
theorem mv_M_common : MV y_M_common := ⟨un 1122 (by decide +kernel) (by decide +kernel), un 1123 (by decide +kernel) (by decide +kernel)⟩
theorem my_M_commonBegin : My y_M_commonBegin b_M_commonBegin 2 (some .int) 0 := ⟨un 1032 (by decide +kernel) (by decide +kernel), un 5 (by decide +kernel) (by decide +kernel), ⟨by decide, by decide⟩, by decide +kernel, by decide⟩
theorem mv_M_commonBegin : MV y_M_commonBegin := ⟨un 1031 (by decide +kernel) (by decide +kernel), unS (q := (y_M_commonBegin, 23)) 30 (by decide +kernel) (by decide +kernel)⟩
theorem my_M_commonEnd : My y_M_commonEnd b_M_commonEnd 3 (some .int) 1 := ⟨un 1036 (by decide +kernel) (by decide +kernel), un 5 (by decide +kernel) (by decide +kernel), ⟨by decide, by decide⟩, by decide +kernel, by decide⟩
theorem mv_M_commonEnd : MV y_M_commonEnd := ⟨un 1035 (by decide +kernel) (by decide +kernel), unS (q := (y_M_commonEnd, 23)) 31 (by decide +kernel) (by decide +kernel)⟩
theorem my_M_damage : My y_M_damage b_M_damage 4 (some .boolean) 3 := ⟨un 1112 (by decide +kernel) (by decide +kernel), un 5 (by decide +kernel) (by decide +kernel), ⟨by decide, by decide⟩, by decide +kernel, by decide⟩
theorem mv_M_damage : MV y_M_damage := ⟨un 1110 (by decide +kernel) (by decide +kernel), un 1111 (by decide +kernel) (by decide +kernel)⟩
theorem my_M_data : My y_M_data b_M_data 4 (some .int) 2 := ⟨un 1108 (by decide +kernel) (by decide +kernel), un 5 (by decide +kernel) (by decide +kernel), ⟨by decide, by decide⟩, by decide +kernel, by decide⟩
theorem mv_M_data : MV y_M_data := ⟨un 1106 (by decide +kernel) (by decide +kernel), un 1107 (by decide +kernel) (by decide +kernel)⟩
theorem my_M_difference : My y_M_difference b_M_difference 3 (some .int) 0 := ⟨un 1028 (by decide +kernel) (by decide +kernel), un 5 (by decide +kernel) (by decide +kernel), ⟨by decide, by decide⟩, by decide +kernel, by decide⟩
theorem mv_M_difference : MV y_M_difference := ⟨un 1027 (by decide +kernel) (by decide +kernel), unS (q := (y_M_difference, 23)) 29 (by decide +kernel) (by decide +kernel)⟩
theorem my_M_fail : My y_M_fail b_M_fail 3 (some .boolean) 2 := ⟨un 1072 (by decide +kernel) (by decide +kernel), un 5 (by decide +kernel) (by decide +kernel), ⟨by decide, by decide⟩, by decide +kernel, by decide⟩
theorem mv_M_fail : MV y_M_fail := ⟨un 1070 (by decide +kernel) (by decide +kernel), un 1071 (by decide +kernel) (by decide +kernel)⟩
theorem my_M_finish : My y_M_finish b_M_finish 2 (some .boolean) 1 := ⟨un 1060 (by decide +kernel) (by decide +kernel), un 5 (by decide +kernel) (by decide +kernel), ⟨by decide, by decide⟩, by decide +kernel, by decide⟩
theorem mv_M_finish : MV y_M_finish := ⟨un 1059 (by decide +kernel) (by decide +kernel), unS (q := (y_M_finish, 23)) 36 (by decide +kernel) (by decide +kernel)⟩
theorem my_M_found : My y_M_found b_M_found 5 (some .int) 2 := ⟨un 996 (by decide +kernel) (by decide +kernel), un 5 (by decide +kernel) (by decide +kernel), ⟨by decide, by decide⟩, by decide +kernel, by decide⟩
theorem mv_M_found : MV y_M_found := ⟨un 995 (by decide +kernel) (by decide +kernel), unS (q := (y_M_found, 23)) 21 (by decide +kernel) (by decide +kernel)⟩
theorem my_M_heads : My y_M_heads b_M_heads 7 (some .int) 1 := ⟨un 1120 (by decide +kernel) (by decide +kernel), un 5 (by decide +kernel) (by decide +kernel), ⟨by decide, by decide⟩, by decide +kernel, by decide⟩
theorem mv_M_heads : MV y_M_heads := ⟨un 1118 (by decide +kernel) (by decide +kernel), un 1119 (by decide +kernel) (by decide +kernel)⟩
theorem my_M_init : My y_M_init b_M_init 1 none 0 := ⟨un 860 (by decide +kernel) (by decide +kernel), un 5 (by decide +kernel) (by decide +kernel), ⟨by decide, by decide⟩, by decide +kernel, by decide⟩
theorem my_M_isRepository : My y_M_isRepository b_M_isRepository 1 (some .boolean) 1 := ⟨un 952 (by decide +kernel) (by decide +kernel), un 5 (by decide +kernel) (by decide +kernel), ⟨by decide, by decide⟩, by decide +kernel, by decide⟩
theorem ms_M_isRepository : MS y_M_isRepository := un 951 (by decide +kernel) (by decide +kernel)
theorem my_M_isRevision : My y_M_isRevision b_M_isRevision 3 (some .boolean) 2 := ⟨un 976 (by decide +kernel) (by decide +kernel), un 5 (by decide +kernel) (by decide +kernel), ⟨by decide, by decide⟩, by decide +kernel, by decide⟩
theorem mv_M_isRevision : MV y_M_isRevision := ⟨un 975 (by decide +kernel) (by decide +kernel), unS (q := (y_M_isRevision, 23)) 18 (by decide +kernel) (by decide +kernel)⟩
theorem my_M_mixed : My y_M_mixed b_M_mixed 3 (some .long) 2 := ⟨un 991 (by decide +kernel) (by decide +kernel), un 5 (by decide +kernel) (by decide +kernel), ⟨by decide, by decide⟩, by decide +kernel, by decide⟩
theorem ms_M_mixed : MS y_M_mixed := un 990 (by decide +kernel) (by decide +kernel)
theorem my_M_mixedLong : My y_M_mixedLong b_M_mixedLong 7 (some .long) 2 := ⟨un 988 (by decide +kernel) (by decide +kernel), un 5 (by decide +kernel) (by decide +kernel), ⟨by decide, by decide⟩, by decide +kernel, by decide⟩
theorem ms_M_mixedLong : MS y_M_mixedLong := un 987 (by decide +kernel) (by decide +kernel)
theorem my_M_node : My y_M_node b_M_node 3 (some .long) 2 := ⟨un 1104 (by decide +kernel) (by decide +kernel), un 5 (by decide +kernel) (by decide +kernel), ⟨by decide, by decide⟩, by decide +kernel, by decide⟩
theorem mv_M_node : MV y_M_node := ⟨un 1102 (by decide +kernel) (by decide +kernel), un 1103 (by decide +kernel) (by decide +kernel)⟩
theorem my_M_pull : My y_M_pull b_M_pull 8 (some .int) 1 := ⟨un 1080 (by decide +kernel) (by decide +kernel), un 5 (by decide +kernel) (by decide +kernel), ⟨by decide, by decide⟩, by decide +kernel, by decide⟩
theorem mv_M_pull : MV y_M_pull := ⟨un 1078 (by decide +kernel) (by decide +kernel), un 1079 (by decide +kernel) (by decide +kernel)⟩
theorem my_M_putByte : My y_M_putByte b_M_putByte 3 none 2 := ⟨un 1048 (by decide +kernel) (by decide +kernel), un 5 (by decide +kernel) (by decide +kernel), ⟨by decide, by decide⟩, by decide +kernel, by decide⟩
theorem mv_M_putByte : MV y_M_putByte := ⟨un 1047 (by decide +kernel) (by decide +kernel), unS (q := (y_M_putByte, 23)) 34 (by decide +kernel) (by decide +kernel)⟩
theorem my_M_putDifference : My y_M_putDifference b_M_putDifference 6 none 2 := ⟨un 1044 (by decide +kernel) (by decide +kernel), un 5 (by decide +kernel) (by decide +kernel), ⟨by decide, by decide⟩, by decide +kernel, by decide⟩
theorem mv_M_putDifference : MV y_M_putDifference := ⟨un 1043 (by decide +kernel) (by decide +kernel), unS (q := (y_M_putDifference, 23)) 33 (by decide +kernel) (by decide +kernel)⟩
theorem my_M_putSnapshot : My y_M_putSnapshot b_M_putSnapshot 4 none 1 := ⟨un 1052 (by decide +kernel) (by decide +kernel), un 5 (by decide +kernel) (by decide +kernel), ⟨by decide, by decide⟩, by decide +kernel, by decide⟩
theorem mv_M_putSnapshot : MV y_M_putSnapshot := ⟨un 1051 (by decide +kernel) (by decide +kernel), unS (q := (y_M_putSnapshot, 23)) 35 (by decide +kernel) (by decide +kernel)⟩
theorem my_M_raise : My y_M_raise b_M_raise 2 (some .int) 1 := ⟨un 956 (by decide +kernel) (by decide +kernel), un 5 (by decide +kernel) (by decide +kernel), ⟨by decide, by decide⟩, by decide +kernel, by decide⟩
theorem mv_M_raise : MV y_M_raise := ⟨un 955 (by decide +kernel) (by decide +kernel), unS (q := (y_M_raise, 23)) 14 (by decide +kernel) (by decide +kernel)⟩
theorem my_M_record : My y_M_record b_M_record 6 (some .int) 3 := ⟨un 1100 (by decide +kernel) (by decide +kernel), un 5 (by decide +kernel) (by decide +kernel), ⟨by decide, by decide⟩, by decide +kernel, by decide⟩
theorem mv_M_record : MV y_M_record := ⟨un 1098 (by decide +kernel) (by decide +kernel), un 1099 (by decide +kernel) (by decide +kernel)⟩
theorem my_M_recover : My y_M_recover b_M_recover 3 (some .int) 2 := ⟨un 1076 (by decide +kernel) (by decide +kernel), un 5 (by decide +kernel) (by decide +kernel), ⟨by decide, by decide⟩, by decide +kernel, by decide⟩
theorem mv_M_recover : MV y_M_recover := ⟨un 1074 (by decide +kernel) (by decide +kernel), un 1075 (by decide +kernel) (by decide +kernel)⟩
theorem my_M_revisions : My y_M_revisions b_M_revisions 3 (some .int) 1 := ⟨un 1092 (by decide +kernel) (by decide +kernel), un 5 (by decide +kernel) (by decide +kernel), ⟨by decide, by decide⟩, by decide +kernel, by decide⟩
theorem mv_M_revisions : MV y_M_revisions := ⟨un 1090 (by decide +kernel) (by decide +kernel), un 1091 (by decide +kernel) (by decide +kernel)⟩
theorem my_M_roll : My y_M_roll b_M_roll 3 (some .int) 1 := ⟨un 1068 (by decide +kernel) (by decide +kernel), un 5 (by decide +kernel) (by decide +kernel), ⟨by decide, by decide⟩, by decide +kernel, by decide⟩
theorem mv_M_roll : MV y_M_roll := ⟨un 1067 (by decide +kernel) (by decide +kernel), unS (q := (y_M_roll, 23)) 37 (by decide +kernel) (by decide +kernel)⟩
theorem my_M_runs : My y_M_runs b_M_runs 3 (some .int) 0 := ⟨un 1004 (by decide +kernel) (by decide +kernel), un 5 (by decide +kernel) (by decide +kernel), ⟨by decide, by decide⟩, by decide +kernel, by decide⟩
theorem mv_M_runs : MV y_M_runs := ⟨un 1003 (by decide +kernel) (by decide +kernel), unS (q := (y_M_runs, 23)) 23 (by decide +kernel) (by decide +kernel)⟩
theorem my_M_shortChain : My y_M_shortChain b_M_shortChain 7 (some .boolean) 3 := ⟨un 1040 (by decide +kernel) (by decide +kernel), un 5 (by decide +kernel) (by decide +kernel), ⟨by decide, by decide⟩, by decide +kernel, by decide⟩
theorem mv_M_shortChain : MV y_M_shortChain := ⟨un 1039 (by decide +kernel) (by decide +kernel), unS (q := (y_M_shortChain, 23)) 32 (by decide +kernel) (by decide +kernel)⟩
theorem my_M_shut : My y_M_shut b_M_shut 2 (some .int) 1 := ⟨un 1096 (by decide +kernel) (by decide +kernel), un 5 (by decide +kernel) (by decide +kernel), ⟨by decide, by decide⟩, by decide +kernel, by decide⟩
theorem mv_M_shut : MV y_M_shut := ⟨un 1095 (by decide +kernel) (by decide +kernel), unS (q := (y_M_shut, 23)) 39 (by decide +kernel) (by decide +kernel)⟩
theorem my_M_start : My y_M_start b_M_start 2 (some .boolean) 1 := ⟨un 964 (by decide +kernel) (by decide +kernel), un 5 (by decide +kernel) (by decide +kernel), ⟨by decide, by decide⟩, by decide +kernel, by decide⟩
theorem mv_M_start : MV y_M_start := ⟨un 963 (by decide +kernel) (by decide +kernel), unS (q := (y_M_start, 23)) 16 (by decide +kernel) (by decide +kernel)⟩
theorem my_M_text : My y_M_text b_M_text 4 (some .int) 3 := ⟨un 1088 (by decide +kernel) (by decide +kernel), un 5 (by decide +kernel) (by decide +kernel), ⟨by decide, by decide⟩, by decide +kernel, by decide⟩
theorem mv_M_text : MV y_M_text := ⟨un 1086 (by decide +kernel) (by decide +kernel), un 1087 (by decide +kernel) (by decide +kernel)⟩
theorem my_M_thrown : My y_M_thrown b_M_thrown 1 (some .int) 0 := ⟨un 937 (by decide +kernel) (by decide +kernel), un 5 (by decide +kernel) (by decide +kernel), ⟨by decide, by decide⟩, by decide +kernel, by decide⟩
theorem mv_M_thrown : MV y_M_thrown := ⟨un 935 (by decide +kernel) (by decide +kernel), un 936 (by decide +kernel) (by decide +kernel)⟩
theorem my_M_type : My y_M_type b_M_type 7 (some .boolean) 1 := ⟨un 941 (by decide +kernel) (by decide +kernel), un 5 (by decide +kernel) (by decide +kernel), ⟨by decide, by decide⟩, by decide +kernel, by decide⟩
theorem mv_M_type : MV y_M_type := ⟨un 939 (by decide +kernel) (by decide +kernel), un 940 (by decide +kernel) (by decide +kernel)⟩
theorem my_M_whole : My y_M_whole b_M_whole 8 (some .boolean) 2 := ⟨un 1016 (by decide +kernel) (by decide +kernel), un 5 (by decide +kernel) (by decide +kernel), ⟨by decide, by decide⟩, by decide +kernel, by decide⟩
theorem mv_M_whole : MV y_M_whole := ⟨un 1015 (by decide +kernel) (by decide +kernel), unS (q := (y_M_whole, 23)) 26 (by decide +kernel) (by decide +kernel)⟩
theorem my_M_wipe : My y_M_wipe b_M_wipe 1 none 0 := ⟨un 945 (by decide +kernel) (by decide +kernel), un 5 (by decide +kernel) (by decide +kernel), ⟨by decide, by decide⟩, by decide +kernel, by decide⟩
theorem mv_M_wipe : MV y_M_wipe := ⟨un 943 (by decide +kernel) (by decide +kernel), un 944 (by decide +kernel) (by decide +kernel)⟩
theorem my_M_write : My y_M_write b_M_write 2 (some .boolean) 1 := ⟨un 968 (by decide +kernel) (by decide +kernel), un 5 (by decide +kernel) (by decide +kernel), ⟨by decide, by decide⟩, by decide +kernel, by decide⟩
theorem mv_M_write : MV y_M_write := ⟨un 967 (by decide +kernel) (by decide +kernel), unS (q := (y_M_write, 23)) 17 (by decide +kernel) (by decide +kernel)⟩
theorem my_M_wrong : My y_M_wrong b_M_wrong 5 (some .int) 1 := ⟨un 1116 (by decide +kernel) (by decide +kernel), un 5 (by decide +kernel) (by decide +kernel), ⟨by decide, by decide⟩, by decide +kernel, by decide⟩
theorem mv_M_wrong : MV y_M_wrong := ⟨un 1114 (by decide +kernel) (by decide +kernel), un 1115 (by decide +kernel) (by decide +kernel)⟩
theorem fl_Cod_19 : FL R_Cod 19 R_Row "length" "I" := Or.inr ⟨_, un 42 (w := .fieldLinkNest "RevisionVault$Coding" 19 "RevisionVault$Row" "length" "I" "RevisionVault") (by decide +kernel) (by decide +kernel)⟩
theorem cl_Cod_27 : CL R_Cod 27 y_Row_at := Or.inl (un 242 (by decide +kernel) (by decide +kernel))
theorem cl_Cod_51 : CL R_Cod 51 y_Row_replace := Or.inl (un 592 (by decide +kernel) (by decide +kernel))
theorem cl_Cod_23 : CL R_Cod 23 y_Row_addPart := Or.inl (un 243 (by decide +kernel) (by decide +kernel))
theorem cl_Cod_47 : CL R_Cod 47 y_Row_addRun := Or.inl (un 250 (by decide +kernel) (by decide +kernel))
theorem cl_Cod_31 : CL R_Cod 31 y_Cod_commonBeginning := Or.inl (un 756 (by decide +kernel) (by decide +kernel))
theorem cl_Cod_37 : CL R_Cod 37 y_Cod_commonEnd := Or.inl (un 760 (by decide +kernel) (by decide +kernel))
theorem cl_Cod_9 : CL R_Cod 9 y_Row_cut := Or.inl (un 743 (by decide +kernel) (by decide +kernel))
theorem cl_Cod_15 : CL R_Cod 15 y_Row_add := Or.inl (un 744 (by decide +kernel) (by decide +kernel))
theorem cl_JA_13 : CL R_JA 13 y_JA_rangeCheck := Or.inl (un 257 (by decide +kernel) (by decide +kernel))
theorem fl_Rec_21 : FL R_Rec 21 R_Rec "length" "I" := Or.inl (un 71 (by decide +kernel) (by decide +kernel))
theorem fl_Rec_24 : FL R_Rec 24 R_Rec "p1" "I" := Or.inl (un 75 (by decide +kernel) (by decide +kernel))
theorem fl_Rec_27 : FL R_Rec 27 R_Rec "p2" "I" := Or.inl (un 77 (by decide +kernel) (by decide +kernel))
theorem fl_Rec_30 : FL R_Rec 30 R_Rec "node" "J" := Or.inl (un 79 (by decide +kernel) (by decide +kernel))
theorem fl_Rec_9 : FL R_Rec 9 R_Rec "offset" "I" := Or.inl (un 67 (by decide +kernel) (by decide +kernel))
theorem fl_Rec_15 : FL R_Rec 15 R_Rec "size" "I" := Or.inl (un 69 (by decide +kernel) (by decide +kernel))
theorem fl_Rec_18 : FL R_Rec 18 R_Rec "base" "I" := Or.inl (un 73 (by decide +kernel) (by decide +kernel))
theorem cl_Rep_200 : CL R_Rep 200 y_Rep_parentsOf := Or.inl (un 625 (by decide +kernel) (by decide +kernel))
theorem fl_Rep_44 : FL R_Rep 44 R_Rep "chain" "[I" := Or.inl (un 113 (by decide +kernel) (by decide +kernel))
theorem fl_Rep_22 : FL R_Rep 22 R_Rep "records" "[LRevisionVault$IndexRecord;" := Or.inl (un 99 (by decide +kernel) (by decide +kernel))
theorem fl_Rep_186 : FL R_Rep 186 R_Rec "base" "I" := Or.inr ⟨_, un 74 (w := .fieldLinkNest "RevisionVault$Repository" 186 "RevisionVault$IndexRecord" "base" "I" "RevisionVault") (by decide +kernel) (by decide +kernel)⟩
theorem fl_Rep_41 : FL R_Rep 41 R_Rep "built" "LRevisionVault$Row;" := Or.inl (un 111 (by decide +kernel) (by decide +kernel))
theorem cl_Rep_71 : CL R_Rep 71 y_Row_cut := Or.inl (un 238 (by decide +kernel) (by decide +kernel))
theorem fl_Rep_14 : FL R_Rep 14 R_Rep "data" "LRevisionVault$Row;" := Or.inl (un 97 (by decide +kernel) (by decide +kernel))
theorem fl_Rep_189 : FL R_Rep 189 R_Rec "offset" "I" := Or.inr ⟨_, un 68 (w := .fieldLinkNest "RevisionVault$Repository" 189 "RevisionVault$IndexRecord" "offset" "I" "RevisionVault") (by decide +kernel) (by decide +kernel)⟩
theorem fl_Rep_183 : FL R_Rep 183 R_Rec "size" "I" := Or.inr ⟨_, un 70 (w := .fieldLinkNest "RevisionVault$Repository" 183 "RevisionVault$IndexRecord" "size" "I" "RevisionVault") (by decide +kernel) (by decide +kernel)⟩
theorem cl_Rep_192 : CL R_Rep 192 y_Cod_readSnapshot := Or.inl (un 239 (by decide +kernel) (by decide +kernel))
theorem cl_Rep_196 : CL R_Rep 196 y_Cod_readDifference := Or.inl (un 589 (by decide +kernel) (by decide +kernel))
theorem fl_Rep_62 : FL R_Rep 62 R_Row "length" "I" := Or.inr ⟨_, un 44 (w := .fieldLinkNest "RevisionVault$Repository" 62 "RevisionVault$Row" "length" "I" "RevisionVault") (by decide +kernel) (by decide +kernel)⟩
theorem fl_Rep_199 : FL R_Rep 199 R_Rec "length" "I" := Or.inr ⟨_, un 72 (w := .fieldLinkNest "RevisionVault$Repository" 199 "RevisionVault$IndexRecord" "length" "I" "RevisionVault") (by decide +kernel) (by decide +kernel)⟩
theorem fl_Rep_95 : FL R_Rep 95 R_Rec "p1" "I" := Or.inr ⟨_, un 76 (w := .fieldLinkNest "RevisionVault$Repository" 95 "RevisionVault$IndexRecord" "p1" "I" "RevisionVault") (by decide +kernel) (by decide +kernel)⟩
theorem fl_Rep_102 : FL R_Rep 102 R_Rec "p2" "I" := Or.inr ⟨_, un 78 (w := .fieldLinkNest "RevisionVault$Repository" 102 "RevisionVault$IndexRecord" "p2" "I" "RevisionVault") (by decide +kernel) (by decide +kernel)⟩
theorem cl_Rep_112 : CL R_Rep 112 y_Rep_nodeOf := Or.inl (un 596 (by decide +kernel) (by decide +kernel))
theorem fl_Rep_84 : FL R_Rep 84 R_Rec "node" "J" := Or.inr ⟨_, un 80 (w := .fieldLinkNest "RevisionVault$Repository" 84 "RevisionVault$IndexRecord" "node" "J" "RevisionVault") (by decide +kernel) (by decide +kernel)⟩
theorem cl_Rep_54 : CL R_Rep 54 y_Rep_hasRevision := Or.inl (un 722 (by decide +kernel) (by decide +kernel))
theorem fl_Rep_51 : FL R_Rep 51 R_Rep "trial" "LRevisionVault$Row;" := Or.inl (un 115 (by decide +kernel) (by decide +kernel))
theorem fl_Rep_48 : FL R_Rep 48 R_Rep "chunk" "LRevisionVault$Row;" := Or.inl (un 114 (by decide +kernel) (by decide +kernel))
theorem cl_Rep_162 : CL R_Rep 162 y_Cod_writeWhole := Or.inl (un 740 (by decide +kernel) (by decide +kernel))
theorem cl_Rep_168 : CL R_Rep 168 y_Cod_writePacked := Or.inl (un 745 (by decide +kernel) (by decide +kernel))
theorem cl_Rep_171 : CL R_Rep 171 y_Row_become := Or.inl (un 748 (by decide +kernel) (by decide +kernel))
theorem fl_Rep_27 : FL R_Rep 27 R_Rep "recordCount" "I" := Or.inl (un 101 (by decide +kernel) (by decide +kernel))
theorem cl_Rep_92 : CL R_Rep 92 y_Rep_build := Or.inl (un 234 (by decide +kernel) (by decide +kernel))
theorem cl_Rep_175 : CL R_Rep 175 y_Cod_writeDifference := Or.inl (un 753 (by decide +kernel) (by decide +kernel))
theorem cl_Rep_179 : CL R_Rep 179 y_Rep_chainFits := Or.inl (un 763 (by decide +kernel) (by decide +kernel))
theorem fl_Rep_35 : FL R_Rep 35 R_Rep "down" "Z" := Or.inl (un 107 (by decide +kernel) (by decide +kernel))
theorem fl_Rep_31 : FL R_Rep 31 R_Rep "journal" "Z" := Or.inl (un 103 (by decide +kernel) (by decide +kernel))
theorem fl_Rep_38 : FL R_Rep 38 R_Rep "writesToFailure" "I" := Or.inl (un 109 (by decide +kernel) (by decide +kernel))
theorem cl_Rep_77 : CL R_Rep 77 y_Rep_rollBack := Or.inl (un 826 (by decide +kernel) (by decide +kernel))
theorem cl_Rep_203 : CL R_Rep 203 y_JI_bitCount := Or.inl (un 629 (by decide +kernel) (by decide +kernel))
theorem cl_Rep_208 : CL R_Rep 208 y_Rep_ancestorsOf := Or.inl (un 643 (by decide +kernel) (by decide +kernel))
theorem cl_Rep_11 : CL R_Rep 11 y_Row_init := Or.inl (un 59 (by decide +kernel) (by decide +kernel))
theorem cl_Rep_26 : CL R_Rep 26 y_Rec_init := Or.inr ⟨_, un 63 (w := .methodLinkNest "RevisionVault$Repository" 26 y_Rec_init "RevisionVault") (by decide +kernel) (by decide +kernel)⟩
theorem cl_Rep_158 : CL R_Rep 158 y_V_byteAt := Or.inr ⟨_, un 611 (w := .methodLinkNest "RevisionVault$Repository" 158 y_V_byteAt "RevisionVault") (by decide +kernel) (by decide +kernel)⟩
theorem kc_Rep_156 : Cond.constantLong R_Rep 156 1099511628211 ∈ UNI := un 612 (by decide +kernel) (by decide +kernel)
theorem cl_Rep_134 : CL R_Rep 134 y_Rep_nodeOrZero := Or.inl (un 600 (by decide +kernel) (by decide +kernel))
theorem kc_Rep_138 : Cond.constantLong R_Rep 138 1469598103934665603 ∈ UNI := un 604 (by decide +kernel) (by decide +kernel)
theorem cl_Rep_146 : CL R_Rep 146 y_Rep_mixLong := Or.inl (un 608 (by decide +kernel) (by decide +kernel))
theorem cl_Rep_152 : CL R_Rep 152 y_Row_at := Or.inl (un 616 (by decide +kernel) (by decide +kernel))
theorem cl_Rep_58 : CL R_Rep 58 y_Rep_mayWrite := Or.inl (un 701 (by decide +kernel) (by decide +kernel))
theorem fl_Rep_65 : FL R_Rep 65 R_Rep "journalData" "I" := Or.inl (un 105 (by decide +kernel) (by decide +kernel))
theorem fl_Rep_68 : FL R_Rep 68 R_Rep "journalRecords" "I" := Or.inl (un 106 (by decide +kernel) (by decide +kernel))
theorem cl_Rep_74 : CL R_Rep 74 y_Rep_removeJournal := Or.inl (un 814 (by decide +kernel) (by decide +kernel))
theorem cl_Rep_88 : CL R_Rep 88 y_Rep_find := Or.inl (un 732 (by decide +kernel) (by decide +kernel))
theorem cl_Rep_116 : CL R_Rep 116 y_Rep_chooseChunk := Or.inl (un 736 (by decide +kernel) (by decide +kernel))
theorem cl_Rep_119 : CL R_Rep 119 y_Row_hasRoomFor := Or.inl (un 767 (by decide +kernel) (by decide +kernel))
theorem cl_Rep_122 : CL R_Rep 122 y_Row_addPart := Or.inl (un 768 (by decide +kernel) (by decide +kernel))
theorem cl_Rep_126 : CL R_Rep 126 y_Rec_placeChunk := Or.inl (un 769 (by decide +kernel) (by decide +kernel))
theorem cl_Rep_130 : CL R_Rep 130 y_Rec_describe := Or.inl (un 773 (by decide +kernel) (by decide +kernel))
theorem cl_Rep_81 : CL R_Rep 81 y_Rep_openJournal := Or.inl (un 838 (by decide +kernel) (by decide +kernel))
theorem cl_Rep_98 : CL R_Rep 98 y_Rep_twinOf := Or.inl (un 839 (by decide +kernel) (by decide +kernel))
theorem cl_Rep_105 : CL R_Rep 105 y_Rep_store := Or.inl (un 843 (by decide +kernel) (by decide +kernel))
theorem cl_Rep_109 : CL R_Rep 109 y_Rep_undo := Or.inl (un 844 (by decide +kernel) (by decide +kernel))
theorem cl_Row_21 : CL R_Row 21 y_Row_hasRoomFor := Or.inl (un 162 (by decide +kernel) (by decide +kernel))
theorem fl_Row_7 : FL R_Row 7 R_Row "codes" "[I" := Or.inl (un 40 (by decide +kernel) (by decide +kernel))
theorem fl_Row_13 : FL R_Row 13 R_Row "length" "I" := Or.inl (un 41 (by decide +kernel) (by decide +kernel))
theorem cl_Row_24 : CL R_Row 24 y_JA_fill := Or.inl (un 254 (by decide +kernel) (by decide +kernel))
theorem cl_Row_17 : CL R_Row 17 y_Row_has := Or.inl (un 217 (by decide +kernel) (by decide +kernel))
theorem cl_Row_36 : CL R_Row 36 y_Row_addPart := Or.inl (un 752 (by decide +kernel) (by decide +kernel))
theorem cl_V_61 : CL R_V 61 y_V_repositoryInTransaction := Or.inl (un 714 (by decide +kernel) (by decide +kernel))
theorem cl_V_80 : CL R_V 80 y_Rep_rollBack := Or.inl (un 810 (by decide +kernel) (by decide +kernel))
theorem cl_V_64 : CL R_V 64 y_Rep_canBeParent := Or.inl (un 718 (by decide +kernel) (by decide +kernel))
theorem fl_V_14 : FL R_V 14 R_V "buffer" "LRevisionVault$Row;" := Or.inl (un 141 (by decide +kernel) (by decide +kernel))
theorem cl_V_70 : CL R_V 70 y_Rep_store := Or.inl (un 728 (by decide +kernel) (by decide +kernel))
theorem cl_V_149 : CL R_V 149 y_V_isRepository := Or.inl (un 182 (by decide +kernel) (by decide +kernel))
theorem fl_V_20 : FL R_V 20 R_V "repositories" "[LRevisionVault$Repository;" := Or.inl (un 142 (by decide +kernel) (by decide +kernel))
theorem fl_V_47 : FL R_V 47 R_Rep "down" "Z" := Or.inr ⟨_, un 108 (w := .fieldLinkNest "RevisionVault" 47 "RevisionVault$Repository" "down" "Z" "RevisionVault") (by decide +kernel) (by decide +kernel)⟩
theorem cl_V_43 : CL R_V 43 y_V_repositoryAt := Or.inl (un 657 (by decide +kernel) (by decide +kernel))
theorem fl_V_51 : FL R_V 51 R_Rep "journal" "Z" := Or.inr ⟨_, un 104 (w := .fieldLinkNest "RevisionVault" 51 "RevisionVault$Repository" "journal" "Z" "RevisionVault") (by decide +kernel) (by decide +kernel)⟩
theorem cl_V_57 : CL R_V 57 y_Rep_openJournal := Or.inl (un 697 (by decide +kernel) (by decide +kernel))
theorem cl_V_77 : CL R_V 77 y_Rep_removeJournal := Or.inl (un 799 (by decide +kernel) (by decide +kernel))
theorem cl_V_84 : CL R_V 84 y_V_barTo := Or.inl (un 178 (by decide +kernel) (by decide +kernel))
theorem cl_V_101 : CL R_V 101 y_Rep_hasRevision := Or.inl (un 193 (by decide +kernel) (by decide +kernel))
theorem cl_V_145 : CL R_V 145 y_Rep_greatestCommonAncestor := Or.inl (un 639 (by decide +kernel) (by decide +kernel))
theorem fl_V_129 : FL R_V 129 R_Rep "data" "LRevisionVault$Row;" := Or.inr ⟨_, un 98 (w := .fieldLinkNest "RevisionVault" 129 "RevisionVault$Repository" "data" "LRevisionVault$Row;" "RevisionVault") (by decide +kernel) (by decide +kernel)⟩
theorem cl_V_132 : CL R_V 132 y_Row_has := Or.inl (un 209 (by decide +kernel) (by decide +kernel))
theorem cl_V_135 : CL R_V 135 y_Row_flip := Or.inl (un 222 (by decide +kernel) (by decide +kernel))
theorem fl_V_33 : FL R_V 33 R_Row "length" "I" := Or.inr ⟨_, un 43 (w := .fieldLinkNest "RevisionVault" 33 "RevisionVault$Row" "length" "I" "RevisionVault") (by decide +kernel) (by decide +kernel)⟩
theorem cl_V_110 : CL R_V 110 y_Row_at := Or.inl (un 213 (by decide +kernel) (by decide +kernel))
theorem fl_V_88 : FL R_V 88 R_Rep "writesToFailure" "I" := Or.inr ⟨_, un 110 (w := .fieldLinkNest "RevisionVault" 88 "RevisionVault$Repository" "writesToFailure" "I" "RevisionVault") (by decide +kernel) (by decide +kernel)⟩
theorem cl_V_142 : CL R_V 142 y_Rep_countHeads := Or.inl (un 621 (by decide +kernel) (by decide +kernel))
theorem cl_V_11 : CL R_V 11 y_Row_init := Or.inl (un 36 (by decide +kernel) (by decide +kernel))
theorem cl_V_24 : CL R_V 24 y_Rep_init := Or.inl (un 54 (by decide +kernel) (by decide +kernel))
theorem fl_V_116 : FL R_V 116 R_Rep "records" "[LRevisionVault$IndexRecord;" := Or.inr ⟨_, un 100 (w := .fieldLinkNest "RevisionVault" 116 "RevisionVault$Repository" "records" "[LRevisionVault$IndexRecord;" "RevisionVault") (by decide +kernel) (by decide +kernel)⟩
theorem fl_V_125 : FL R_V 125 R_Rec "node" "J" := Or.inr ⟨_, un 81 (w := .fieldLinkNest "RevisionVault" 125 "RevisionVault$IndexRecord" "node" "J" "RevisionVault") (by decide +kernel) (by decide +kernel)⟩
theorem cl_V_97 : CL R_V 97 y_Rep_takeFrom := Or.inl (un 834 (by decide +kernel) (by decide +kernel))
theorem cl_V_120 : CL R_V 120 y_Rec_field := Or.inl (un 197 (by decide +kernel) (by decide +kernel))
theorem cl_V_94 : CL R_V 94 y_Rep_comeUp := Or.inl (un 822 (by decide +kernel) (by decide +kernel))
theorem fl_V_113 : FL R_V 113 R_Rep "recordCount" "I" := Or.inr ⟨_, un 102 (w := .fieldLinkNest "RevisionVault" 113 "RevisionVault$Repository" "recordCount" "I" "RevisionVault") (by decide +kernel) (by decide +kernel)⟩
theorem cl_V_104 : CL R_V 104 y_Rep_build := Or.inl (un 855 (by decide +kernel) (by decide +kernel))
theorem fl_V_107 : FL R_V 107 R_Rep "built" "LRevisionVault$Row;" := Or.inr ⟨_, un 112 (w := .fieldLinkNest "RevisionVault" 107 "RevisionVault$Repository" "built" "LRevisionVault$Row;" "RevisionVault") (by decide +kernel) (by decide +kernel)⟩
theorem cl_V_25 : CL R_V 25 y_V_byteAt := Or.inl (un 152 (by decide +kernel) (by decide +kernel))
theorem cl_V_29 : CL R_V 29 y_V_isCharacter := Or.inl (un 155 (by decide +kernel) (by decide +kernel))
theorem cl_V_37 : CL R_V 37 y_Row_add := Or.inl (un 158 (by decide +kernel) (by decide +kernel))
theorem cl_V_40 : CL R_V 40 y_Row_cut := Or.inl (un 170 (by decide +kernel) (by decide +kernel))
theorem cl_V_139 : CL R_V 139 y_Rep_countWrong := Or.inl (un 230 (by decide +kernel) (by decide +kernel))
theorem cl_M_159 : CL R_M 159 y_M_isRepository := Or.inl (un 950 (by decide +kernel) (by decide +kernel))
theorem cl_M_162 : CL R_M 162 y_M_raise := Or.inl (un 953 (by decide +kernel) (by decide +kernel))
theorem cl_M_165 : CL R_M 165 y_M_barred := Or.inl (un 957 (by decide +kernel) (by decide +kernel))
theorem fl_M_69 : FL R_M 69 R_M "thrown" "I" := Or.inl (un 862 (by decide +kernel) (by decide +kernel))
theorem cl_M_178 : CL R_M 178 y_M_roll := Or.inl (un 1065 (by decide +kernel) (by decide +kernel))
theorem cl_M_102 : CL R_M 102 y_M_begun := Or.inl (un 981 (by decide +kernel) (by decide +kernel))
theorem fl_M_106 : FL R_M 106 R_M "textLen" "I" := Or.inl (un 883 (by decide +kernel) (by decide +kernel))
theorem fl_M_66 : FL R_M 66 R_M "text" "[I" := Or.inl (un 884 (by decide +kernel) (by decide +kernel))
theorem cl_M_78 : CL R_M 78 y_M_mixed := Or.inl (un 989 (by decide +kernel) (by decide +kernel))
theorem cl_M_138 : CL R_M 138 y_M_found := Or.inl (un 993 (by decide +kernel) (by decide +kernel))
theorem cl_M_142 : CL R_M 142 y_M_chosen := Or.inl (un 997 (by decide +kernel) (by decide +kernel))
theorem cl_M_117 : CL R_M 117 y_M_runs := Or.inl (un 1001 (by decide +kernel) (by decide +kernel))
theorem cl_M_124 : CL R_M 124 y_M_build := Or.inl (un 1009 (by decide +kernel) (by decide +kernel))
theorem cl_M_127 : CL R_M 127 y_M_difference := Or.inl (un 1025 (by decide +kernel) (by decide +kernel))
theorem fl_M_19 : FL R_M 19 R_M "count" "[I" := Or.inl (un 867 (by decide +kernel) (by decide +kernel))
theorem fl_M_16 : FL R_M 16 R_M "dataLen" "[I" := Or.inl (un 866 (by decide +kernel) (by decide +kernel))
theorem cl_M_145 : CL R_M 145 y_M_write := Or.inl (un 965 (by decide +kernel) (by decide +kernel))
theorem cl_M_149 : CL R_M 149 y_M_putDifference := Or.inl (un 1041 (by decide +kernel) (by decide +kernel))
theorem cl_M_152 : CL R_M 152 y_M_putSnapshot := Or.inl (un 1049 (by decide +kernel) (by decide +kernel))
theorem fl_M_22 : FL R_M 22 R_M "offset" "[I" := Or.inl (un 868 (by decide +kernel) (by decide +kernel))
theorem fl_M_25 : FL R_M 25 R_M "chunk" "[I" := Or.inl (un 869 (by decide +kernel) (by decide +kernel))
theorem fl_M_28 : FL R_M 28 R_M "length" "[I" := Or.inl (un 870 (by decide +kernel) (by decide +kernel))
theorem fl_M_31 : FL R_M 31 R_M "base" "[I" := Or.inl (un 871 (by decide +kernel) (by decide +kernel))
theorem fl_M_34 : FL R_M 34 R_M "first" "[I" := Or.inl (un 872 (by decide +kernel) (by decide +kernel))
theorem fl_M_37 : FL R_M 37 R_M "second" "[I" := Or.inl (un 873 (by decide +kernel) (by decide +kernel))
theorem fl_M_40 : FL R_M 40 R_M "nodes" "[J" := Or.inl (un 874 (by decide +kernel) (by decide +kernel))
theorem cl_M_172 : CL R_M 172 y_M_isRevision := Or.inl (un 973 (by decide +kernel) (by decide +kernel))
theorem fl_M_73 : FL R_M 73 R_M "size" "I" := Or.inl (un 863 (by decide +kernel) (by decide +kernel))
theorem fl_M_7 : FL R_M 7 R_M "buf" "[I" := Or.inl (un 864 (by decide +kernel) (by decide +kernel))
theorem cl_M_175 : CL R_M 175 y_M_add := Or.inl (un 977 (by decide +kernel) (by decide +kernel))
theorem cl_M_88 : CL R_M 88 y_M_byteAt := Or.inl (un 1017 (by decide +kernel) (by decide +kernel))
theorem fl_M_92 : FL R_M 92 R_M "builtLen" "I" := Or.inl (un 879 (by decide +kernel) (by decide +kernel))
theorem fl_M_60 : FL R_M 60 R_M "next" "[I" := Or.inl (un 881 (by decide +kernel) (by decide +kernel))
theorem fl_M_57 : FL R_M 57 R_M "built" "[I" := Or.inl (un 880 (by decide +kernel) (by decide +kernel))
theorem fl_M_50 : FL R_M 50 R_M "down" "[Z" := Or.inl (un 877 (by decide +kernel) (by decide +kernel))
theorem fl_M_44 : FL R_M 44 R_M "journalData" "[I" := Or.inl (un 875 (by decide +kernel) (by decide +kernel))
theorem cl_M_169 : CL R_M 169 y_M_start := Or.inl (un 961 (by decide +kernel) (by decide +kernel))
theorem kc_M_82 : Cond.constantLong R_M 82 1469598103934665603 ∈ UNI := un 985 (by decide +kernel) (by decide +kernel)
theorem cl_M_84 : CL R_M 84 y_M_mixedLong := Or.inl (un 986 (by decide +kernel) (by decide +kernel))
theorem fl_M_63 : FL R_M 63 R_M "chain" "[I" := Or.inl (un 882 (by decide +kernel) (by decide +kernel))
theorem cl_M_95 : CL R_M 95 y_M_whole := Or.inl (un 1013 (by decide +kernel) (by decide +kernel))
theorem cl_M_99 : CL R_M 99 y_M_apply := Or.inl (un 1021 (by decide +kernel) (by decide +kernel))
theorem fl_M_13 : FL R_M 13 R_M "bytes" "[I" := Or.inl (un 865 (by decide +kernel) (by decide +kernel))
theorem cl_M_120 : CL R_M 120 y_M_candidate := Or.inl (un 1005 (by decide +kernel) (by decide +kernel))
theorem cl_M_130 : CL R_M 130 y_M_shortChain := Or.inl (un 1037 (by decide +kernel) (by decide +kernel))
theorem cl_M_156 : CL R_M 156 y_M_finish := Or.inl (un 1057 (by decide +kernel) (by decide +kernel))
theorem cl_M_184 : CL R_M 184 y_M_shut := Or.inl (un 1093 (by decide +kernel) (by decide +kernel))
theorem cl_M_187 : CL R_M 187 y_M_ancestors := Or.inl (un 1125 (by decide +kernel) (by decide +kernel))
theorem cl_M_109 : CL R_M 109 y_M_commonBegin := Or.inl (un 1029 (by decide +kernel) (by decide +kernel))
theorem cl_M_113 : CL R_M 113 y_M_commonEnd := Or.inl (un 1033 (by decide +kernel) (by decide +kernel))
theorem fl_M_54 : FL R_M 54 R_M "failing" "[I" := Or.inl (un 878 (by decide +kernel) (by decide +kernel))
theorem fl_M_47 : FL R_M 47 R_M "journalCount" "[I" := Or.inl (un 876 (by decide +kernel) (by decide +kernel))
theorem kc_M_76 : Cond.constantLong R_M 76 1099511628211 ∈ UNI := un 992 (by decide +kernel) (by decide +kernel)
theorem cl_M_181 : CL R_M 181 y_M_bring := Or.inl (un 1081 (by decide +kernel) (by decide +kernel))
theorem cl_M_134 : CL R_M 134 y_M_putByte := Or.inl (un 1045 (by decide +kernel) (by decide +kernel))
end
section
section CT
variable {D : Dt} {σ : Sg} {c m : Cs} {τ : Cs × (Nat → Int64)} {ow : Nat → Int64}
theorem ct_V : ct D σ 0 = .inr (0, [.ref (aRow D 0), .ref (aRps D)]) := rfl
theorem ct_row {j : Nat} (h : j < 9) : ct D σ (1 + j) = .inr (1, [.ref (aArr D j), .int (σ.1.1 (1 + j) 0)]) := by
  unfold ct
  rw [if_neg (by omega), if_pos (by omega), show 1 + j - 1 = j by omega]
theorem ct_arr {j : Nat} (h : j < 9) : ct D σ (10 + j) = .inl (D.2.2.1 0, rln j, .inl (σ.1.1 (10 + j))) := by
  unfold ct
  rw [if_neg (by omega), if_neg (by omega), if_pos (by omega), show 10 + j - 10 = j by omega]
theorem ct_rps : ct D σ 19 = .inl (D.2.2.1 3, 2, .inr (.inr (.inr (.inr (fun k => some (aRep D k)))))) := rfl
theorem ct_rep {r : Nat} (h : r < 2) : ct D σ (20 + r) = .inr (2, [.ref (aRow D (1 + 4 * r)), .ref (aRcs D r), .int (σ.1.1 (20 + r) 0), .int (σ.1.1 (20 + r) 1), .int (σ.1.1 (20 + r) 2), .int (σ.1.1 (20 + r) 3), .int (σ.1.1 (20 + r) 4), .int (σ.1.1 (20 + r) 5), .ref (aRow D (2 + 4 * r)), .ref (aChn D r), .ref (aRow D (3 + 4 * r)), .ref (aRow D (4 + 4 * r))]) := by
  unfold ct
  rw [if_neg (by omega), if_neg (by omega), if_neg (by omega), if_neg (by omega), if_pos (by omega), show 20 + r - 20 = r by omega]
theorem ct_rcs {r : Nat} (h : r < 2) : ct D σ (22 + r) = .inl (D.2.2.1 4, 24, .inr (.inr (.inr (.inr (fun k => some (aRec D (24 * r + k))))))) := by
  unfold ct
  rw [if_neg (by omega), if_neg (by omega), if_neg (by omega), if_neg (by omega), if_neg (by omega), if_pos (by omega), show 22 + r - 22 = r by omega]
theorem ct_chn {r : Nat} (h : r < 2) : ct D σ (24 + r) = .inl (D.2.2.1 0, 6, .inl (σ.1.1 (24 + r))) := by
  unfold ct
  rw [if_neg (by omega), if_neg (by omega), if_neg (by omega), if_neg (by omega), if_neg (by omega), if_neg (by omega), if_pos (by omega)]
theorem ct_rec {i : Nat} (h : i < 48) : ct D σ (26 + i) = .inr (3, [.int (σ.1.1 (26 + i) 0), .int (σ.1.1 (26 + i) 1), .int (σ.1.1 (26 + i) 2), .int (σ.1.1 (26 + i) 3), .int (σ.1.1 (26 + i) 4), .int (σ.1.1 (26 + i) 5), .long (σ.1.2 i)]) := by
  unfold ct
  rw [if_neg (by omega), if_neg (by omega), if_neg (by omega), if_neg (by omega), if_neg (by omega), if_neg (by omega), if_neg (by omega), if_pos (by omega), show 26 + i - 26 = i by omega]
theorem ct_mdl : ct D σ 74 = .inr (4, [.int (σ.2.1.1 0 0), .int (σ.2.1.1 0 1), .ref (aMar D 1), .ref (aMar D 2), .ref (aMar D 3), .ref (aMar D 4), .ref (aMar D 5), .ref (aMar D 6), .ref (aMar D 7), .ref (aMar D 8), .ref (aMar D 9), .ref (aMar D 10), .ref (aNds D), .ref (aMar D 11), .ref (aMar D 12), .ref (aDwn D), .ref (aMar D 13), .int (σ.2.1.1 0 2), .ref (aMar D 14), .ref (aMar D 15), .ref (aMar D 16), .int (σ.2.1.1 0 3), .ref (aMar D 17)]) := rfl
theorem ct_mar {a : Nat} (h1 : 1 ≤ a) (h : a ≤ 17) : ct D σ (74 + a) = .inl (D.2.2.1 0, mln a, .inl (σ.2.1.1 a)) := by
  unfold ct
  rw [if_neg (by omega), if_neg (by omega), if_neg (by omega), if_neg (by omega), if_neg (by omega), if_neg (by omega), if_neg (by omega), if_neg (by omega), if_neg (by omega), if_pos (by omega), show 74 + a - 74 = a by omega]
theorem ct_nds : ct D σ 92 = .inl (D.2.2.1 1, 48, .inr (.inl σ.2.1.2)) := rfl
theorem ct_dwn : ct D σ 93 = .inl (D.2.2.1 2, 2, .inl (σ.2.1.1 19)) := rfl
theorem ct_out : ct D σ 94 = .inl (D.2.2.1 1, 1, .inr (.inl σ.2.2)) := rfl
theorem ct_oA {i : Nat} {g : Nat → Int32} : ∀ u, u < 95 → u ≠ i → ct D ((wA c i g, τ) : Sg) u = ct D ((c, τ) : Sg) u := by
  intro u _ hu
  simp only [ct, wA, upA_n hu]
theorem ct_oI {i k : Nat} {v : Int32} : ∀ u, u < 95 → u ≠ i → ct D ((wI c i k v, τ) : Sg) u = ct D ((c, τ) : Sg) u := ct_oA
theorem ct_oN {i : Nat} {v : Int64} : ∀ u, u < 95 → u ≠ 26 + i → ct D ((wN c i v, τ) : Sg) u = ct D ((c, τ) : Sg) u := by
  intro u _ hu
  have h : ¬ u < 26 → vp_updL c.2 i v (u - 26) = c.2 (u - 26) := fun h => by
    unfold vp_updL
    rw [if_neg (by omega)]
  unfold ct wN
  by_cases h26 : u < 26
  · by_cases a1 : u < 1
    · rw [if_pos a1, if_pos a1]
    · rw [if_neg a1, if_neg a1]
      by_cases a2 : u < 10
      · rw [if_pos a2, if_pos a2]
      · rw [if_neg a2, if_neg a2]
        by_cases a3 : u < 19
        · rw [if_pos a3, if_pos a3]
        · rw [if_neg a3, if_neg a3]
          by_cases a4 : u < 20
          · rw [if_pos a4, if_pos a4]
          · rw [if_neg a4, if_neg a4]
            by_cases a5 : u < 22
            · rw [if_pos a5, if_pos a5]
            · rw [if_neg a5, if_neg a5]
              by_cases a6 : u < 24
              · rw [if_pos a6, if_pos a6]
              · rw [if_neg a6, if_neg a6, if_pos h26, if_pos h26]
  · simp only [h h26]
theorem ct_mA {i : Nat} {g : Nat → Int32} : ∀ u, u < 95 → u ≠ 74 + i → ct D ((c, wA m i g, ow) : Sg) u = ct D ((c, m, ow) : Sg) u := by
  intro u _ hu
  unfold ct wA
  by_cases h74 : u < 74
  · by_cases a1 : u < 1
    · rw [if_pos a1, if_pos a1]
    · rw [if_neg a1, if_neg a1]
      by_cases a2 : u < 10
      · rw [if_pos a2, if_pos a2]
      · rw [if_neg a2, if_neg a2]
        by_cases a3 : u < 19
        · rw [if_pos a3, if_pos a3]
        · rw [if_neg a3, if_neg a3]
          by_cases a4 : u < 20
          · rw [if_pos a4, if_pos a4]
          · rw [if_neg a4, if_neg a4]
            by_cases a5 : u < 22
            · rw [if_pos a5, if_pos a5]
            · rw [if_neg a5, if_neg a5]
              by_cases a6 : u < 24
              · rw [if_pos a6, if_pos a6]
              · rw [if_neg a6, if_neg a6]
                by_cases a7 : u < 26
                · rw [if_pos a7, if_pos a7]
                · rw [if_neg a7, if_neg a7, if_pos h74, if_pos h74]
  · rw [if_neg (show ¬ u < 1 by omega), if_neg (show ¬ u < 1 by omega), if_neg (show ¬ u < 10 by omega), if_neg (show ¬ u < 10 by omega), if_neg (show ¬ u < 19 by omega), if_neg (show ¬ u < 19 by omega), if_neg (show ¬ u < 20 by omega), if_neg (show ¬ u < 20 by omega), if_neg (show ¬ u < 22 by omega), if_neg (show ¬ u < 22 by omega), if_neg (show ¬ u < 24 by omega), if_neg (show ¬ u < 24 by omega), if_neg (show ¬ u < 26 by omega), if_neg (show ¬ u < 26 by omega), if_neg h74, if_neg h74]
    by_cases b1 : u < 75
    · simp only [if_pos b1, upA_n (show (0 : Nat) ≠ i by omega)]
    · rw [if_neg b1, if_neg b1]
      by_cases b2 : u < 92
      · simp only [if_pos b2, upA_n (show u - 74 ≠ i by omega)]
      · rw [if_neg b2, if_neg b2]
        by_cases b3 : u < 93
        · rw [if_pos b3, if_pos b3]
        · rw [if_neg b3, if_neg b3]
          by_cases b4 : u < 94
          · simp only [if_pos b4, upA_n (show (19 : Nat) ≠ i by omega)]
          · rw [if_neg b4, if_neg b4]
theorem ct_mI {i k : Nat} {v : Int32} : ∀ u, u < 95 → u ≠ 74 + i → ct D ((c, wI m i k v, ow) : Sg) u = ct D ((c, m, ow) : Sg) u := ct_mA
theorem ct_mN {i : Nat} {v : Int64} : ∀ u, u < 95 → u ≠ 92 → ct D ((c, wN m i v, ow) : Sg) u = ct D ((c, m, ow) : Sg) u := by
  intro u _ hu
  unfold ct wN
  by_cases h : u < 92
  · simp only [h, if_true]
  · simp only [show ¬ u < 93 by omega, if_false]
theorem ct_oo {o2 : Nat → Int64} : ∀ u, u < 95 → u ≠ 94 → ct D ((c, m, o2) : Sg) u = ct D ((c, m, ow) : Sg) u := by
  intro u _ hu
  unfold ct
  simp only [show u < 94 by omega, if_true]
end CT
section IS
variable {D : Dt}
theorem is_V : IsC D (aVlt D) R_V := ⟨0, 0, _, _, by decide, rfl, rfl, fun σ => ⟨_, ct_V⟩⟩
theorem is_Row {j : Nat} (h : j < 9) : IsC D (aRow D j) R_Row := ⟨1 + j, 1, _, _, by omega, rfl, rfl, fun σ => ⟨_, ct_row h⟩⟩
theorem is_Rep {r : Nat} (h : r < 2) : IsC D (aRep D r) R_Rep := ⟨20 + r, 2, _, _, by omega, rfl, rfl, fun σ => ⟨_, ct_rep h⟩⟩
theorem is_Rec {i : Nat} (h : i < 48) : IsC D (aRec D i) R_Rec := ⟨26 + i, 3, _, _, by omega, rfl, rfl, fun σ => ⟨_, ct_rec h⟩⟩
theorem is_M : IsC D (aMdl D) R_M := ⟨74, 4, _, _, by decide, rfl, rfl, fun σ => ⟨_, ct_mdl⟩⟩
end IS
section GFLD
variable {X : Cx} {D : Dt} {Q : State → Prop} {z : Nat × Nat} {c m : Cs} {τ : Cs × (Nat → Int64)} {ow : Nat → Int64} {pc index : Nat} {L : Lc} {st : List Value} {own : String} {cc : ByteArray} {nL d : Nat} {ret : Option FieldType}
theorem gf_V_buffer (C : Fx X D own cc nL d ret) (hl : FL own index R_V "buffer" "LRevisionVault$Row;") (hd : decode cc pc = .ok (.getfield index, 3))
    (kk : G X D Q z ((c, τ) : Sg) (pc + 3) L (.ref (aRow D 0) :: st)) : G X D Q z ((c, τ) : Sg) pc L (.ref (aVlt D) :: st) :=
  g_get C (t := 0) (ci := 0) (k := 0) (T := F_V) (N := 2) (by decide) ct_V rfl in_V (by decide) rfl hl rfl hd kk
theorem gf_V_repositories (C : Fx X D own cc nL d ret) (hl : FL own index R_V "repositories" "[LRevisionVault$Repository;") (hd : decode cc pc = .ok (.getfield index, 3))
    (kk : G X D Q z ((c, τ) : Sg) (pc + 3) L (.ref (aRps D) :: st)) : G X D Q z ((c, τ) : Sg) pc L (.ref (aVlt D) :: st) :=
  g_get C (t := 0) (ci := 0) (k := 1) (T := F_V) (N := 2) (by decide) ct_V rfl in_V (by decide) rfl hl rfl hd kk
theorem gf_Row_codes (C : Fx X D own cc nL d ret) {j : Nat} (hj : j < 9) (hl : FL own index R_Row "codes" "[I") (hd : decode cc pc = .ok (.getfield index, 3))
    (kk : G X D Q z ((c, τ) : Sg) (pc + 3) L (.ref (aArr D j) :: st)) : G X D Q z ((c, τ) : Sg) pc L (.ref (aRow D j) :: st) :=
  g_get C (t := (1 + j)) (ci := 1) (k := 0) (T := F_Row) (N := 2) (by omega) (ct_row hj) rfl in_Row (by decide) rfl hl rfl hd kk
theorem gf_Row_length (C : Fx X D own cc nL d ret) {j : Nat} (hj : j < 9) (hl : FL own index R_Row "length" "I") (hd : decode cc pc = .ok (.getfield index, 3))
    (kk : G X D Q z ((c, τ) : Sg) (pc + 3) L (.int (c.1 (1 + j) 0) :: st)) : G X D Q z ((c, τ) : Sg) pc L (.ref (aRow D j) :: st) :=
  g_get C (t := (1 + j)) (ci := 1) (k := 1) (T := F_Row) (N := 2) (by omega) (ct_row hj) rfl in_Row (by decide) rfl hl rfl hd kk
theorem gp_Row_length (C : Fx X D own cc nL d ret) {j : Nat} (hj : j < 9) {v : Int32} (hl : FL own index R_Row "length" "I") (hd : decode cc pc = .ok (.putfield index, 3))
    (kk : G X D Q z ((wI c (1 + j) 0 v, τ) : Sg) (pc + 3) L st) : G X D Q z ((c, τ) : Sg) pc L (.int v :: .ref (aRow D j) :: st) :=
  g_put C (t := (1 + j)) (ci := 1) (k := 1) (T := F_Row) (N := 2) (ty := .int) t_Row t_Row_ok n_Row (by omega) (ct_row hj) rfl in_Row (by decide) rfl rfl (by decide +kernel) rfl rfl (Nat.le_of_ble_eq_true rfl) (by rw [ct_row hj]; simp [wI, upA, upd]) ct_oI hl hd kk
theorem gf_Rep_data (C : Fx X D own cc nL d ret) {r : Nat} (hr : r < 2) (hl : FL own index R_Rep "data" "LRevisionVault$Row;") (hd : decode cc pc = .ok (.getfield index, 3))
    (kk : G X D Q z ((c, τ) : Sg) (pc + 3) L (.ref (aRow D (1 + 4 * r)) :: st)) : G X D Q z ((c, τ) : Sg) pc L (.ref (aRep D r) :: st) :=
  g_get C (t := (20 + r)) (ci := 2) (k := 0) (T := F_Rep) (N := 12) (by omega) (ct_rep hr) rfl in_Rep (by decide) rfl hl rfl hd kk
theorem gf_Rep_records (C : Fx X D own cc nL d ret) {r : Nat} (hr : r < 2) (hl : FL own index R_Rep "records" "[LRevisionVault$IndexRecord;") (hd : decode cc pc = .ok (.getfield index, 3))
    (kk : G X D Q z ((c, τ) : Sg) (pc + 3) L (.ref (aRcs D r) :: st)) : G X D Q z ((c, τ) : Sg) pc L (.ref (aRep D r) :: st) :=
  g_get C (t := (20 + r)) (ci := 2) (k := 1) (T := F_Rep) (N := 12) (by omega) (ct_rep hr) rfl in_Rep (by decide) rfl hl rfl hd kk
theorem gf_Rep_recordCount (C : Fx X D own cc nL d ret) {r : Nat} (hr : r < 2) (hl : FL own index R_Rep "recordCount" "I") (hd : decode cc pc = .ok (.getfield index, 3))
    (kk : G X D Q z ((c, τ) : Sg) (pc + 3) L (.int (c.1 (20 + r) 0) :: st)) : G X D Q z ((c, τ) : Sg) pc L (.ref (aRep D r) :: st) :=
  g_get C (t := (20 + r)) (ci := 2) (k := 2) (T := F_Rep) (N := 12) (by omega) (ct_rep hr) rfl in_Rep (by decide) rfl hl rfl hd kk
theorem gp_Rep_recordCount (C : Fx X D own cc nL d ret) {r : Nat} (hr : r < 2) {v : Int32} (hl : FL own index R_Rep "recordCount" "I") (hd : decode cc pc = .ok (.putfield index, 3))
    (kk : G X D Q z ((wI c (20 + r) 0 v, τ) : Sg) (pc + 3) L st) : G X D Q z ((c, τ) : Sg) pc L (.int v :: .ref (aRep D r) :: st) :=
  g_put C (t := (20 + r)) (ci := 2) (k := 2) (T := F_Rep) (N := 12) (ty := .int) t_Rep t_Rep_ok n_Rep (by omega) (ct_rep hr) rfl in_Rep (by decide) rfl rfl (by decide +kernel) rfl rfl (Nat.le_of_ble_eq_true rfl) (by rw [ct_rep hr]; simp [wI, upA, upd]) ct_oI hl hd kk
theorem gf_Rep_journal (C : Fx X D own cc nL d ret) {r : Nat} (hr : r < 2) (hl : FL own index R_Rep "journal" "Z") (hd : decode cc pc = .ok (.getfield index, 3))
    (kk : G X D Q z ((c, τ) : Sg) (pc + 3) L (.int (c.1 (20 + r) 1) :: st)) : G X D Q z ((c, τ) : Sg) pc L (.ref (aRep D r) :: st) :=
  g_get C (t := (20 + r)) (ci := 2) (k := 3) (T := F_Rep) (N := 12) (by omega) (ct_rep hr) rfl in_Rep (by decide) rfl hl rfl hd kk
theorem gp_Rep_journal (C : Fx X D own cc nL d ret) {r : Nat} (hr : r < 2) {v : Int32} (hz : v = 0 ∨ v = 1) (hl : FL own index R_Rep "journal" "Z") (hd : decode cc pc = .ok (.putfield index, 3))
    (kk : G X D Q z ((wI c (20 + r) 1 v, τ) : Sg) (pc + 3) L st) : G X D Q z ((c, τ) : Sg) pc L (.int v :: .ref (aRep D r) :: st) :=
  g_put C (t := (20 + r)) (ci := 2) (k := 3) (T := F_Rep) (N := 12) (ty := .boolean) t_Rep t_Rep_ok n_Rep (by omega) (ct_rep hr) rfl in_Rep (by decide) rfl rfl (by decide +kernel) (bz_n hz) (by rcases hz with rfl | rfl <;> rfl) (Nat.le_of_ble_eq_true rfl) (by rw [ct_rep hr]; simp [wI, upA, upd]) ct_oI hl hd kk
theorem gf_Rep_journalData (C : Fx X D own cc nL d ret) {r : Nat} (hr : r < 2) (hl : FL own index R_Rep "journalData" "I") (hd : decode cc pc = .ok (.getfield index, 3))
    (kk : G X D Q z ((c, τ) : Sg) (pc + 3) L (.int (c.1 (20 + r) 2) :: st)) : G X D Q z ((c, τ) : Sg) pc L (.ref (aRep D r) :: st) :=
  g_get C (t := (20 + r)) (ci := 2) (k := 4) (T := F_Rep) (N := 12) (by omega) (ct_rep hr) rfl in_Rep (by decide) rfl hl rfl hd kk
theorem gp_Rep_journalData (C : Fx X D own cc nL d ret) {r : Nat} (hr : r < 2) {v : Int32} (hl : FL own index R_Rep "journalData" "I") (hd : decode cc pc = .ok (.putfield index, 3))
    (kk : G X D Q z ((wI c (20 + r) 2 v, τ) : Sg) (pc + 3) L st) : G X D Q z ((c, τ) : Sg) pc L (.int v :: .ref (aRep D r) :: st) :=
  g_put C (t := (20 + r)) (ci := 2) (k := 4) (T := F_Rep) (N := 12) (ty := .int) t_Rep t_Rep_ok n_Rep (by omega) (ct_rep hr) rfl in_Rep (by decide) rfl rfl (by decide +kernel) rfl rfl (Nat.le_of_ble_eq_true rfl) (by rw [ct_rep hr]; simp [wI, upA, upd]) ct_oI hl hd kk
theorem gf_Rep_journalRecords (C : Fx X D own cc nL d ret) {r : Nat} (hr : r < 2) (hl : FL own index R_Rep "journalRecords" "I") (hd : decode cc pc = .ok (.getfield index, 3))
    (kk : G X D Q z ((c, τ) : Sg) (pc + 3) L (.int (c.1 (20 + r) 3) :: st)) : G X D Q z ((c, τ) : Sg) pc L (.ref (aRep D r) :: st) :=
  g_get C (t := (20 + r)) (ci := 2) (k := 5) (T := F_Rep) (N := 12) (by omega) (ct_rep hr) rfl in_Rep (by decide) rfl hl rfl hd kk
theorem gp_Rep_journalRecords (C : Fx X D own cc nL d ret) {r : Nat} (hr : r < 2) {v : Int32} (hl : FL own index R_Rep "journalRecords" "I") (hd : decode cc pc = .ok (.putfield index, 3))
    (kk : G X D Q z ((wI c (20 + r) 3 v, τ) : Sg) (pc + 3) L st) : G X D Q z ((c, τ) : Sg) pc L (.int v :: .ref (aRep D r) :: st) :=
  g_put C (t := (20 + r)) (ci := 2) (k := 5) (T := F_Rep) (N := 12) (ty := .int) t_Rep t_Rep_ok n_Rep (by omega) (ct_rep hr) rfl in_Rep (by decide) rfl rfl (by decide +kernel) rfl rfl (Nat.le_of_ble_eq_true rfl) (by rw [ct_rep hr]; simp [wI, upA, upd]) ct_oI hl hd kk
theorem gf_Rep_down (C : Fx X D own cc nL d ret) {r : Nat} (hr : r < 2) (hl : FL own index R_Rep "down" "Z") (hd : decode cc pc = .ok (.getfield index, 3))
    (kk : G X D Q z ((c, τ) : Sg) (pc + 3) L (.int (c.1 (20 + r) 4) :: st)) : G X D Q z ((c, τ) : Sg) pc L (.ref (aRep D r) :: st) :=
  g_get C (t := (20 + r)) (ci := 2) (k := 6) (T := F_Rep) (N := 12) (by omega) (ct_rep hr) rfl in_Rep (by decide) rfl hl rfl hd kk
theorem gp_Rep_down (C : Fx X D own cc nL d ret) {r : Nat} (hr : r < 2) {v : Int32} (hz : v = 0 ∨ v = 1) (hl : FL own index R_Rep "down" "Z") (hd : decode cc pc = .ok (.putfield index, 3))
    (kk : G X D Q z ((wI c (20 + r) 4 v, τ) : Sg) (pc + 3) L st) : G X D Q z ((c, τ) : Sg) pc L (.int v :: .ref (aRep D r) :: st) :=
  g_put C (t := (20 + r)) (ci := 2) (k := 6) (T := F_Rep) (N := 12) (ty := .boolean) t_Rep t_Rep_ok n_Rep (by omega) (ct_rep hr) rfl in_Rep (by decide) rfl rfl (by decide +kernel) (bz_n hz) (by rcases hz with rfl | rfl <;> rfl) (Nat.le_of_ble_eq_true rfl) (by rw [ct_rep hr]; simp [wI, upA, upd]) ct_oI hl hd kk
theorem gf_Rep_writesToFailure (C : Fx X D own cc nL d ret) {r : Nat} (hr : r < 2) (hl : FL own index R_Rep "writesToFailure" "I") (hd : decode cc pc = .ok (.getfield index, 3))
    (kk : G X D Q z ((c, τ) : Sg) (pc + 3) L (.int (c.1 (20 + r) 5) :: st)) : G X D Q z ((c, τ) : Sg) pc L (.ref (aRep D r) :: st) :=
  g_get C (t := (20 + r)) (ci := 2) (k := 7) (T := F_Rep) (N := 12) (by omega) (ct_rep hr) rfl in_Rep (by decide) rfl hl rfl hd kk
theorem gp_Rep_writesToFailure (C : Fx X D own cc nL d ret) {r : Nat} (hr : r < 2) {v : Int32} (hl : FL own index R_Rep "writesToFailure" "I") (hd : decode cc pc = .ok (.putfield index, 3))
    (kk : G X D Q z ((wI c (20 + r) 5 v, τ) : Sg) (pc + 3) L st) : G X D Q z ((c, τ) : Sg) pc L (.int v :: .ref (aRep D r) :: st) :=
  g_put C (t := (20 + r)) (ci := 2) (k := 7) (T := F_Rep) (N := 12) (ty := .int) t_Rep t_Rep_ok n_Rep (by omega) (ct_rep hr) rfl in_Rep (by decide) rfl rfl (by decide +kernel) rfl rfl (Nat.le_of_ble_eq_true rfl) (by rw [ct_rep hr]; simp [wI, upA, upd]) ct_oI hl hd kk
theorem gf_Rep_built (C : Fx X D own cc nL d ret) {r : Nat} (hr : r < 2) (hl : FL own index R_Rep "built" "LRevisionVault$Row;") (hd : decode cc pc = .ok (.getfield index, 3))
    (kk : G X D Q z ((c, τ) : Sg) (pc + 3) L (.ref (aRow D (2 + 4 * r)) :: st)) : G X D Q z ((c, τ) : Sg) pc L (.ref (aRep D r) :: st) :=
  g_get C (t := (20 + r)) (ci := 2) (k := 8) (T := F_Rep) (N := 12) (by omega) (ct_rep hr) rfl in_Rep (by decide) rfl hl rfl hd kk
theorem gf_Rep_chain (C : Fx X D own cc nL d ret) {r : Nat} (hr : r < 2) (hl : FL own index R_Rep "chain" "[I") (hd : decode cc pc = .ok (.getfield index, 3))
    (kk : G X D Q z ((c, τ) : Sg) (pc + 3) L (.ref (aChn D r) :: st)) : G X D Q z ((c, τ) : Sg) pc L (.ref (aRep D r) :: st) :=
  g_get C (t := (20 + r)) (ci := 2) (k := 9) (T := F_Rep) (N := 12) (by omega) (ct_rep hr) rfl in_Rep (by decide) rfl hl rfl hd kk
theorem gf_Rep_chunk (C : Fx X D own cc nL d ret) {r : Nat} (hr : r < 2) (hl : FL own index R_Rep "chunk" "LRevisionVault$Row;") (hd : decode cc pc = .ok (.getfield index, 3))
    (kk : G X D Q z ((c, τ) : Sg) (pc + 3) L (.ref (aRow D (3 + 4 * r)) :: st)) : G X D Q z ((c, τ) : Sg) pc L (.ref (aRep D r) :: st) :=
  g_get C (t := (20 + r)) (ci := 2) (k := 10) (T := F_Rep) (N := 12) (by omega) (ct_rep hr) rfl in_Rep (by decide) rfl hl rfl hd kk
theorem gf_Rep_trial (C : Fx X D own cc nL d ret) {r : Nat} (hr : r < 2) (hl : FL own index R_Rep "trial" "LRevisionVault$Row;") (hd : decode cc pc = .ok (.getfield index, 3))
    (kk : G X D Q z ((c, τ) : Sg) (pc + 3) L (.ref (aRow D (4 + 4 * r)) :: st)) : G X D Q z ((c, τ) : Sg) pc L (.ref (aRep D r) :: st) :=
  g_get C (t := (20 + r)) (ci := 2) (k := 11) (T := F_Rep) (N := 12) (by omega) (ct_rep hr) rfl in_Rep (by decide) rfl hl rfl hd kk
theorem gf_Rec_offset (C : Fx X D own cc nL d ret) {i : Nat} (hi : i < 48) (hl : FL own index R_Rec "offset" "I") (hd : decode cc pc = .ok (.getfield index, 3))
    (kk : G X D Q z ((c, τ) : Sg) (pc + 3) L (.int (c.1 (26 + i) 0) :: st)) : G X D Q z ((c, τ) : Sg) pc L (.ref (aRec D i) :: st) :=
  g_get C (t := (26 + i)) (ci := 3) (k := 0) (T := F_Rec) (N := 7) (by omega) (ct_rec hi) rfl in_Rec (by decide) rfl hl rfl hd kk
theorem gp_Rec_offset (C : Fx X D own cc nL d ret) {i : Nat} (hi : i < 48) {v : Int32} (hl : FL own index R_Rec "offset" "I") (hd : decode cc pc = .ok (.putfield index, 3))
    (kk : G X D Q z ((wI c (26 + i) 0 v, τ) : Sg) (pc + 3) L st) : G X D Q z ((c, τ) : Sg) pc L (.int v :: .ref (aRec D i) :: st) :=
  g_put C (t := (26 + i)) (ci := 3) (k := 0) (T := F_Rec) (N := 7) (ty := .int) t_Rec t_Rec_ok n_Rec (by omega) (ct_rec hi) rfl in_Rec (by decide) rfl rfl (by decide +kernel) rfl rfl (Nat.le_of_ble_eq_true rfl) (by rw [ct_rec hi]; simp [wI, upA, upd]) ct_oI hl hd kk
theorem gf_Rec_size (C : Fx X D own cc nL d ret) {i : Nat} (hi : i < 48) (hl : FL own index R_Rec "size" "I") (hd : decode cc pc = .ok (.getfield index, 3))
    (kk : G X D Q z ((c, τ) : Sg) (pc + 3) L (.int (c.1 (26 + i) 1) :: st)) : G X D Q z ((c, τ) : Sg) pc L (.ref (aRec D i) :: st) :=
  g_get C (t := (26 + i)) (ci := 3) (k := 1) (T := F_Rec) (N := 7) (by omega) (ct_rec hi) rfl in_Rec (by decide) rfl hl rfl hd kk
theorem gp_Rec_size (C : Fx X D own cc nL d ret) {i : Nat} (hi : i < 48) {v : Int32} (hl : FL own index R_Rec "size" "I") (hd : decode cc pc = .ok (.putfield index, 3))
    (kk : G X D Q z ((wI c (26 + i) 1 v, τ) : Sg) (pc + 3) L st) : G X D Q z ((c, τ) : Sg) pc L (.int v :: .ref (aRec D i) :: st) :=
  g_put C (t := (26 + i)) (ci := 3) (k := 1) (T := F_Rec) (N := 7) (ty := .int) t_Rec t_Rec_ok n_Rec (by omega) (ct_rec hi) rfl in_Rec (by decide) rfl rfl (by decide +kernel) rfl rfl (Nat.le_of_ble_eq_true rfl) (by rw [ct_rec hi]; simp [wI, upA, upd]) ct_oI hl hd kk
theorem gf_Rec_length (C : Fx X D own cc nL d ret) {i : Nat} (hi : i < 48) (hl : FL own index R_Rec "length" "I") (hd : decode cc pc = .ok (.getfield index, 3))
    (kk : G X D Q z ((c, τ) : Sg) (pc + 3) L (.int (c.1 (26 + i) 2) :: st)) : G X D Q z ((c, τ) : Sg) pc L (.ref (aRec D i) :: st) :=
  g_get C (t := (26 + i)) (ci := 3) (k := 2) (T := F_Rec) (N := 7) (by omega) (ct_rec hi) rfl in_Rec (by decide) rfl hl rfl hd kk
theorem gp_Rec_length (C : Fx X D own cc nL d ret) {i : Nat} (hi : i < 48) {v : Int32} (hl : FL own index R_Rec "length" "I") (hd : decode cc pc = .ok (.putfield index, 3))
    (kk : G X D Q z ((wI c (26 + i) 2 v, τ) : Sg) (pc + 3) L st) : G X D Q z ((c, τ) : Sg) pc L (.int v :: .ref (aRec D i) :: st) :=
  g_put C (t := (26 + i)) (ci := 3) (k := 2) (T := F_Rec) (N := 7) (ty := .int) t_Rec t_Rec_ok n_Rec (by omega) (ct_rec hi) rfl in_Rec (by decide) rfl rfl (by decide +kernel) rfl rfl (Nat.le_of_ble_eq_true rfl) (by rw [ct_rec hi]; simp [wI, upA, upd]) ct_oI hl hd kk
theorem gf_Rec_base (C : Fx X D own cc nL d ret) {i : Nat} (hi : i < 48) (hl : FL own index R_Rec "base" "I") (hd : decode cc pc = .ok (.getfield index, 3))
    (kk : G X D Q z ((c, τ) : Sg) (pc + 3) L (.int (c.1 (26 + i) 3) :: st)) : G X D Q z ((c, τ) : Sg) pc L (.ref (aRec D i) :: st) :=
  g_get C (t := (26 + i)) (ci := 3) (k := 3) (T := F_Rec) (N := 7) (by omega) (ct_rec hi) rfl in_Rec (by decide) rfl hl rfl hd kk
theorem gp_Rec_base (C : Fx X D own cc nL d ret) {i : Nat} (hi : i < 48) {v : Int32} (hl : FL own index R_Rec "base" "I") (hd : decode cc pc = .ok (.putfield index, 3))
    (kk : G X D Q z ((wI c (26 + i) 3 v, τ) : Sg) (pc + 3) L st) : G X D Q z ((c, τ) : Sg) pc L (.int v :: .ref (aRec D i) :: st) :=
  g_put C (t := (26 + i)) (ci := 3) (k := 3) (T := F_Rec) (N := 7) (ty := .int) t_Rec t_Rec_ok n_Rec (by omega) (ct_rec hi) rfl in_Rec (by decide) rfl rfl (by decide +kernel) rfl rfl (Nat.le_of_ble_eq_true rfl) (by rw [ct_rec hi]; simp [wI, upA, upd]) ct_oI hl hd kk
theorem gf_Rec_p1 (C : Fx X D own cc nL d ret) {i : Nat} (hi : i < 48) (hl : FL own index R_Rec "p1" "I") (hd : decode cc pc = .ok (.getfield index, 3))
    (kk : G X D Q z ((c, τ) : Sg) (pc + 3) L (.int (c.1 (26 + i) 4) :: st)) : G X D Q z ((c, τ) : Sg) pc L (.ref (aRec D i) :: st) :=
  g_get C (t := (26 + i)) (ci := 3) (k := 4) (T := F_Rec) (N := 7) (by omega) (ct_rec hi) rfl in_Rec (by decide) rfl hl rfl hd kk
theorem gp_Rec_p1 (C : Fx X D own cc nL d ret) {i : Nat} (hi : i < 48) {v : Int32} (hl : FL own index R_Rec "p1" "I") (hd : decode cc pc = .ok (.putfield index, 3))
    (kk : G X D Q z ((wI c (26 + i) 4 v, τ) : Sg) (pc + 3) L st) : G X D Q z ((c, τ) : Sg) pc L (.int v :: .ref (aRec D i) :: st) :=
  g_put C (t := (26 + i)) (ci := 3) (k := 4) (T := F_Rec) (N := 7) (ty := .int) t_Rec t_Rec_ok n_Rec (by omega) (ct_rec hi) rfl in_Rec (by decide) rfl rfl (by decide +kernel) rfl rfl (Nat.le_of_ble_eq_true rfl) (by rw [ct_rec hi]; simp [wI, upA, upd]) ct_oI hl hd kk
theorem gf_Rec_p2 (C : Fx X D own cc nL d ret) {i : Nat} (hi : i < 48) (hl : FL own index R_Rec "p2" "I") (hd : decode cc pc = .ok (.getfield index, 3))
    (kk : G X D Q z ((c, τ) : Sg) (pc + 3) L (.int (c.1 (26 + i) 5) :: st)) : G X D Q z ((c, τ) : Sg) pc L (.ref (aRec D i) :: st) :=
  g_get C (t := (26 + i)) (ci := 3) (k := 5) (T := F_Rec) (N := 7) (by omega) (ct_rec hi) rfl in_Rec (by decide) rfl hl rfl hd kk
theorem gp_Rec_p2 (C : Fx X D own cc nL d ret) {i : Nat} (hi : i < 48) {v : Int32} (hl : FL own index R_Rec "p2" "I") (hd : decode cc pc = .ok (.putfield index, 3))
    (kk : G X D Q z ((wI c (26 + i) 5 v, τ) : Sg) (pc + 3) L st) : G X D Q z ((c, τ) : Sg) pc L (.int v :: .ref (aRec D i) :: st) :=
  g_put C (t := (26 + i)) (ci := 3) (k := 5) (T := F_Rec) (N := 7) (ty := .int) t_Rec t_Rec_ok n_Rec (by omega) (ct_rec hi) rfl in_Rec (by decide) rfl rfl (by decide +kernel) rfl rfl (Nat.le_of_ble_eq_true rfl) (by rw [ct_rec hi]; simp [wI, upA, upd]) ct_oI hl hd kk
theorem gf_Rec_node (C : Fx X D own cc nL d ret) {i : Nat} (hi : i < 48) (hl : FL own index R_Rec "node" "J") (hd : decode cc pc = .ok (.getfield index, 3))
    (kk : G X D Q z ((c, τ) : Sg) (pc + 3) L (.long (c.2 i) :: st)) : G X D Q z ((c, τ) : Sg) pc L (.ref (aRec D i) :: st) :=
  g_get C (t := (26 + i)) (ci := 3) (k := 6) (T := F_Rec) (N := 7) (by omega) (ct_rec hi) rfl in_Rec (by decide) rfl hl rfl hd kk
theorem gp_Rec_node (C : Fx X D own cc nL d ret) {i : Nat} (hi : i < 48) {v : Int64} (hl : FL own index R_Rec "node" "J") (hd : decode cc pc = .ok (.putfield index, 3))
    (kk : G X D Q z ((wN c i v, τ) : Sg) (pc + 3) L st) : G X D Q z ((c, τ) : Sg) pc L (.long v :: .ref (aRec D i) :: st) :=
  g_put C (t := (26 + i)) (ci := 3) (k := 6) (T := F_Rec) (N := 7) (ty := .long) t_Rec t_Rec_ok n_Rec (by omega) (ct_rec hi) rfl in_Rec (by decide) rfl rfl (by decide +kernel) rfl rfl (Nat.le_of_ble_eq_true rfl) (by rw [ct_rec hi]; simp [wN, vp_updL]) ct_oN hl hd kk
theorem gf_M_thrown (C : Fx X D own cc nL d ret) (hl : FL own index R_M "thrown" "I") (hd : decode cc pc = .ok (.getfield index, 3))
    (kk : G X D Q z ((c, m, ow) : Sg) (pc + 3) L (.int (m.1 0 0) :: st)) : G X D Q z ((c, m, ow) : Sg) pc L (.ref (aMdl D) :: st) :=
  g_get C (t := 74) (ci := 4) (k := 0) (T := F_M) (N := 23) (by decide) ct_mdl rfl in_M (by decide) rfl hl rfl hd kk
theorem gp_M_thrown (C : Fx X D own cc nL d ret) {v : Int32} (hl : FL own index R_M "thrown" "I") (hd : decode cc pc = .ok (.putfield index, 3))
    (kk : G X D Q z ((c, wI m 0 0 v, ow) : Sg) (pc + 3) L st) : G X D Q z ((c, m, ow) : Sg) pc L (.int v :: .ref (aMdl D) :: st) :=
  g_put C (t := 74) (ci := 4) (k := 0) (T := F_M) (N := 23) (ty := .int) t_M t_M_ok n_M (by decide) ct_mdl rfl in_M (by decide) rfl rfl (by decide +kernel) rfl rfl (Nat.le_of_ble_eq_true rfl) (by rw [ct_mdl]; simp [wI, upA, upd]) (ct_mI (i := 0)) hl hd kk
theorem gf_M_size (C : Fx X D own cc nL d ret) (hl : FL own index R_M "size" "I") (hd : decode cc pc = .ok (.getfield index, 3))
    (kk : G X D Q z ((c, m, ow) : Sg) (pc + 3) L (.int (m.1 0 1) :: st)) : G X D Q z ((c, m, ow) : Sg) pc L (.ref (aMdl D) :: st) :=
  g_get C (t := 74) (ci := 4) (k := 1) (T := F_M) (N := 23) (by decide) ct_mdl rfl in_M (by decide) rfl hl rfl hd kk
theorem gp_M_size (C : Fx X D own cc nL d ret) {v : Int32} (hl : FL own index R_M "size" "I") (hd : decode cc pc = .ok (.putfield index, 3))
    (kk : G X D Q z ((c, wI m 0 1 v, ow) : Sg) (pc + 3) L st) : G X D Q z ((c, m, ow) : Sg) pc L (.int v :: .ref (aMdl D) :: st) :=
  g_put C (t := 74) (ci := 4) (k := 1) (T := F_M) (N := 23) (ty := .int) t_M t_M_ok n_M (by decide) ct_mdl rfl in_M (by decide) rfl rfl (by decide +kernel) rfl rfl (Nat.le_of_ble_eq_true rfl) (by rw [ct_mdl]; simp [wI, upA, upd]) (ct_mI (i := 0)) hl hd kk
theorem gf_M_buf (C : Fx X D own cc nL d ret) (hl : FL own index R_M "buf" "[I") (hd : decode cc pc = .ok (.getfield index, 3))
    (kk : G X D Q z ((c, m, ow) : Sg) (pc + 3) L (.ref (aMar D 1) :: st)) : G X D Q z ((c, m, ow) : Sg) pc L (.ref (aMdl D) :: st) :=
  g_get C (t := 74) (ci := 4) (k := 2) (T := F_M) (N := 23) (by decide) ct_mdl rfl in_M (by decide) rfl hl rfl hd kk
theorem gf_M_bytes (C : Fx X D own cc nL d ret) (hl : FL own index R_M "bytes" "[I") (hd : decode cc pc = .ok (.getfield index, 3))
    (kk : G X D Q z ((c, m, ow) : Sg) (pc + 3) L (.ref (aMar D 2) :: st)) : G X D Q z ((c, m, ow) : Sg) pc L (.ref (aMdl D) :: st) :=
  g_get C (t := 74) (ci := 4) (k := 3) (T := F_M) (N := 23) (by decide) ct_mdl rfl in_M (by decide) rfl hl rfl hd kk
theorem gf_M_dataLen (C : Fx X D own cc nL d ret) (hl : FL own index R_M "dataLen" "[I") (hd : decode cc pc = .ok (.getfield index, 3))
    (kk : G X D Q z ((c, m, ow) : Sg) (pc + 3) L (.ref (aMar D 3) :: st)) : G X D Q z ((c, m, ow) : Sg) pc L (.ref (aMdl D) :: st) :=
  g_get C (t := 74) (ci := 4) (k := 4) (T := F_M) (N := 23) (by decide) ct_mdl rfl in_M (by decide) rfl hl rfl hd kk
theorem gf_M_count (C : Fx X D own cc nL d ret) (hl : FL own index R_M "count" "[I") (hd : decode cc pc = .ok (.getfield index, 3))
    (kk : G X D Q z ((c, m, ow) : Sg) (pc + 3) L (.ref (aMar D 4) :: st)) : G X D Q z ((c, m, ow) : Sg) pc L (.ref (aMdl D) :: st) :=
  g_get C (t := 74) (ci := 4) (k := 5) (T := F_M) (N := 23) (by decide) ct_mdl rfl in_M (by decide) rfl hl rfl hd kk
theorem gf_M_offset (C : Fx X D own cc nL d ret) (hl : FL own index R_M "offset" "[I") (hd : decode cc pc = .ok (.getfield index, 3))
    (kk : G X D Q z ((c, m, ow) : Sg) (pc + 3) L (.ref (aMar D 5) :: st)) : G X D Q z ((c, m, ow) : Sg) pc L (.ref (aMdl D) :: st) :=
  g_get C (t := 74) (ci := 4) (k := 6) (T := F_M) (N := 23) (by decide) ct_mdl rfl in_M (by decide) rfl hl rfl hd kk
theorem gf_M_chunk (C : Fx X D own cc nL d ret) (hl : FL own index R_M "chunk" "[I") (hd : decode cc pc = .ok (.getfield index, 3))
    (kk : G X D Q z ((c, m, ow) : Sg) (pc + 3) L (.ref (aMar D 6) :: st)) : G X D Q z ((c, m, ow) : Sg) pc L (.ref (aMdl D) :: st) :=
  g_get C (t := 74) (ci := 4) (k := 7) (T := F_M) (N := 23) (by decide) ct_mdl rfl in_M (by decide) rfl hl rfl hd kk
theorem gf_M_length (C : Fx X D own cc nL d ret) (hl : FL own index R_M "length" "[I") (hd : decode cc pc = .ok (.getfield index, 3))
    (kk : G X D Q z ((c, m, ow) : Sg) (pc + 3) L (.ref (aMar D 7) :: st)) : G X D Q z ((c, m, ow) : Sg) pc L (.ref (aMdl D) :: st) :=
  g_get C (t := 74) (ci := 4) (k := 8) (T := F_M) (N := 23) (by decide) ct_mdl rfl in_M (by decide) rfl hl rfl hd kk
theorem gf_M_base (C : Fx X D own cc nL d ret) (hl : FL own index R_M "base" "[I") (hd : decode cc pc = .ok (.getfield index, 3))
    (kk : G X D Q z ((c, m, ow) : Sg) (pc + 3) L (.ref (aMar D 8) :: st)) : G X D Q z ((c, m, ow) : Sg) pc L (.ref (aMdl D) :: st) :=
  g_get C (t := 74) (ci := 4) (k := 9) (T := F_M) (N := 23) (by decide) ct_mdl rfl in_M (by decide) rfl hl rfl hd kk
theorem gf_M_first (C : Fx X D own cc nL d ret) (hl : FL own index R_M "first" "[I") (hd : decode cc pc = .ok (.getfield index, 3))
    (kk : G X D Q z ((c, m, ow) : Sg) (pc + 3) L (.ref (aMar D 9) :: st)) : G X D Q z ((c, m, ow) : Sg) pc L (.ref (aMdl D) :: st) :=
  g_get C (t := 74) (ci := 4) (k := 10) (T := F_M) (N := 23) (by decide) ct_mdl rfl in_M (by decide) rfl hl rfl hd kk
theorem gf_M_second (C : Fx X D own cc nL d ret) (hl : FL own index R_M "second" "[I") (hd : decode cc pc = .ok (.getfield index, 3))
    (kk : G X D Q z ((c, m, ow) : Sg) (pc + 3) L (.ref (aMar D 10) :: st)) : G X D Q z ((c, m, ow) : Sg) pc L (.ref (aMdl D) :: st) :=
  g_get C (t := 74) (ci := 4) (k := 11) (T := F_M) (N := 23) (by decide) ct_mdl rfl in_M (by decide) rfl hl rfl hd kk
theorem gf_M_nodes (C : Fx X D own cc nL d ret) (hl : FL own index R_M "nodes" "[J") (hd : decode cc pc = .ok (.getfield index, 3))
    (kk : G X D Q z ((c, m, ow) : Sg) (pc + 3) L (.ref (aNds D) :: st)) : G X D Q z ((c, m, ow) : Sg) pc L (.ref (aMdl D) :: st) :=
  g_get C (t := 74) (ci := 4) (k := 12) (T := F_M) (N := 23) (by decide) ct_mdl rfl in_M (by decide) rfl hl rfl hd kk
theorem gf_M_journalData (C : Fx X D own cc nL d ret) (hl : FL own index R_M "journalData" "[I") (hd : decode cc pc = .ok (.getfield index, 3))
    (kk : G X D Q z ((c, m, ow) : Sg) (pc + 3) L (.ref (aMar D 11) :: st)) : G X D Q z ((c, m, ow) : Sg) pc L (.ref (aMdl D) :: st) :=
  g_get C (t := 74) (ci := 4) (k := 13) (T := F_M) (N := 23) (by decide) ct_mdl rfl in_M (by decide) rfl hl rfl hd kk
theorem gf_M_journalCount (C : Fx X D own cc nL d ret) (hl : FL own index R_M "journalCount" "[I") (hd : decode cc pc = .ok (.getfield index, 3))
    (kk : G X D Q z ((c, m, ow) : Sg) (pc + 3) L (.ref (aMar D 12) :: st)) : G X D Q z ((c, m, ow) : Sg) pc L (.ref (aMdl D) :: st) :=
  g_get C (t := 74) (ci := 4) (k := 14) (T := F_M) (N := 23) (by decide) ct_mdl rfl in_M (by decide) rfl hl rfl hd kk
theorem gf_M_down (C : Fx X D own cc nL d ret) (hl : FL own index R_M "down" "[Z") (hd : decode cc pc = .ok (.getfield index, 3))
    (kk : G X D Q z ((c, m, ow) : Sg) (pc + 3) L (.ref (aDwn D) :: st)) : G X D Q z ((c, m, ow) : Sg) pc L (.ref (aMdl D) :: st) :=
  g_get C (t := 74) (ci := 4) (k := 15) (T := F_M) (N := 23) (by decide) ct_mdl rfl in_M (by decide) rfl hl rfl hd kk
theorem gf_M_failing (C : Fx X D own cc nL d ret) (hl : FL own index R_M "failing" "[I") (hd : decode cc pc = .ok (.getfield index, 3))
    (kk : G X D Q z ((c, m, ow) : Sg) (pc + 3) L (.ref (aMar D 13) :: st)) : G X D Q z ((c, m, ow) : Sg) pc L (.ref (aMdl D) :: st) :=
  g_get C (t := 74) (ci := 4) (k := 16) (T := F_M) (N := 23) (by decide) ct_mdl rfl in_M (by decide) rfl hl rfl hd kk
theorem gf_M_builtLen (C : Fx X D own cc nL d ret) (hl : FL own index R_M "builtLen" "I") (hd : decode cc pc = .ok (.getfield index, 3))
    (kk : G X D Q z ((c, m, ow) : Sg) (pc + 3) L (.int (m.1 0 2) :: st)) : G X D Q z ((c, m, ow) : Sg) pc L (.ref (aMdl D) :: st) :=
  g_get C (t := 74) (ci := 4) (k := 17) (T := F_M) (N := 23) (by decide) ct_mdl rfl in_M (by decide) rfl hl rfl hd kk
theorem gp_M_builtLen (C : Fx X D own cc nL d ret) {v : Int32} (hl : FL own index R_M "builtLen" "I") (hd : decode cc pc = .ok (.putfield index, 3))
    (kk : G X D Q z ((c, wI m 0 2 v, ow) : Sg) (pc + 3) L st) : G X D Q z ((c, m, ow) : Sg) pc L (.int v :: .ref (aMdl D) :: st) :=
  g_put C (t := 74) (ci := 4) (k := 17) (T := F_M) (N := 23) (ty := .int) t_M t_M_ok n_M (by decide) ct_mdl rfl in_M (by decide) rfl rfl (by decide +kernel) rfl rfl (Nat.le_of_ble_eq_true rfl) (by rw [ct_mdl]; simp [wI, upA, upd]) (ct_mI (i := 0)) hl hd kk
theorem gf_M_built (C : Fx X D own cc nL d ret) (hl : FL own index R_M "built" "[I") (hd : decode cc pc = .ok (.getfield index, 3))
    (kk : G X D Q z ((c, m, ow) : Sg) (pc + 3) L (.ref (aMar D 14) :: st)) : G X D Q z ((c, m, ow) : Sg) pc L (.ref (aMdl D) :: st) :=
  g_get C (t := 74) (ci := 4) (k := 18) (T := F_M) (N := 23) (by decide) ct_mdl rfl in_M (by decide) rfl hl rfl hd kk
theorem gf_M_next (C : Fx X D own cc nL d ret) (hl : FL own index R_M "next" "[I") (hd : decode cc pc = .ok (.getfield index, 3))
    (kk : G X D Q z ((c, m, ow) : Sg) (pc + 3) L (.ref (aMar D 15) :: st)) : G X D Q z ((c, m, ow) : Sg) pc L (.ref (aMdl D) :: st) :=
  g_get C (t := 74) (ci := 4) (k := 19) (T := F_M) (N := 23) (by decide) ct_mdl rfl in_M (by decide) rfl hl rfl hd kk
theorem gf_M_chain (C : Fx X D own cc nL d ret) (hl : FL own index R_M "chain" "[I") (hd : decode cc pc = .ok (.getfield index, 3))
    (kk : G X D Q z ((c, m, ow) : Sg) (pc + 3) L (.ref (aMar D 16) :: st)) : G X D Q z ((c, m, ow) : Sg) pc L (.ref (aMdl D) :: st) :=
  g_get C (t := 74) (ci := 4) (k := 20) (T := F_M) (N := 23) (by decide) ct_mdl rfl in_M (by decide) rfl hl rfl hd kk
theorem gf_M_textLen (C : Fx X D own cc nL d ret) (hl : FL own index R_M "textLen" "I") (hd : decode cc pc = .ok (.getfield index, 3))
    (kk : G X D Q z ((c, m, ow) : Sg) (pc + 3) L (.int (m.1 0 3) :: st)) : G X D Q z ((c, m, ow) : Sg) pc L (.ref (aMdl D) :: st) :=
  g_get C (t := 74) (ci := 4) (k := 21) (T := F_M) (N := 23) (by decide) ct_mdl rfl in_M (by decide) rfl hl rfl hd kk
theorem gp_M_textLen (C : Fx X D own cc nL d ret) {v : Int32} (hl : FL own index R_M "textLen" "I") (hd : decode cc pc = .ok (.putfield index, 3))
    (kk : G X D Q z ((c, wI m 0 3 v, ow) : Sg) (pc + 3) L st) : G X D Q z ((c, m, ow) : Sg) pc L (.int v :: .ref (aMdl D) :: st) :=
  g_put C (t := 74) (ci := 4) (k := 21) (T := F_M) (N := 23) (ty := .int) t_M t_M_ok n_M (by decide) ct_mdl rfl in_M (by decide) rfl rfl (by decide +kernel) rfl rfl (Nat.le_of_ble_eq_true rfl) (by rw [ct_mdl]; simp [wI, upA, upd]) (ct_mI (i := 0)) hl hd kk
theorem gf_M_text (C : Fx X D own cc nL d ret) (hl : FL own index R_M "text" "[I") (hd : decode cc pc = .ok (.getfield index, 3))
    (kk : G X D Q z ((c, m, ow) : Sg) (pc + 3) L (.ref (aMar D 17) :: st)) : G X D Q z ((c, m, ow) : Sg) pc L (.ref (aMdl D) :: st) :=
  g_get C (t := 74) (ci := 4) (k := 22) (T := F_M) (N := 23) (by decide) ct_mdl rfl in_M (by decide) rfl hl rfl hd kk
theorem ga_row (C : Fx X D own cc nL d ret) {j : Nat} {x : Int32} (hj : j < 9) (hi : vp_in x (rln j)) (hd : decode cc pc = .ok (.iaload, 1)) (kk : G X D Q z ((c, τ) : Sg) (pc + 1) L (.int (c.1 (10 + j) x.toNatClampNeg) :: st)) : G X D Q z ((c, τ) : Sg) pc L (.int x :: .ref (aArr D j) :: st) := g_ial C (t := 10 + j) (by omega) (ct_arr hj) hi hd kk
theorem gs_row (C : Fx X D own cc nL d ret) {j : Nat} {x v : Int32} (hj : j < 9) (hi : vp_in x (rln j)) (hd : decode cc pc = .ok (.iastore, 1)) (kk : G X D Q z ((wI c (10 + j) x.toNatClampNeg v, τ) : Sg) (pc + 1) L st) : G X D Q z ((c, τ) : Sg) pc L (.int v :: .int x :: .ref (aArr D j) :: st) := g_ias C (t := 10 + j) (by omega) (ct_arr hj) (by rw [ct_arr hj]; simp [wI, upA]) ct_oI hi hd kk
theorem gl_row (C : Fx X D own cc nL d ret) {j : Nat} (hj : j < 9) (hd : decode cc pc = .ok (.arraylength, 1)) (kk : G X D Q z ((c, τ) : Sg) (pc + 1) L (.int (nI (rln j)) :: st)) : G X D Q z ((c, τ) : Sg) pc L (.ref (aArr D j) :: st) := g_alen C (t := 10 + j) (t0 := 0) (by omega) (ct_arr hj) rfl rfl hd kk
theorem ga_chn (C : Fx X D own cc nL d ret) {r : Nat} {x : Int32} (hr : r < 2) (hi : vp_in x 6) (hd : decode cc pc = .ok (.iaload, 1)) (kk : G X D Q z ((c, τ) : Sg) (pc + 1) L (.int (c.1 (24 + r) x.toNatClampNeg) :: st)) : G X D Q z ((c, τ) : Sg) pc L (.int x :: .ref (aChn D r) :: st) := g_ial C (t := 24 + r) (by omega) (ct_chn hr) hi hd kk
theorem gs_chn (C : Fx X D own cc nL d ret) {r : Nat} {x v : Int32} (hr : r < 2) (hi : vp_in x 6) (hd : decode cc pc = .ok (.iastore, 1)) (kk : G X D Q z ((wI c (24 + r) x.toNatClampNeg v, τ) : Sg) (pc + 1) L st) : G X D Q z ((c, τ) : Sg) pc L (.int v :: .int x :: .ref (aChn D r) :: st) := g_ias C (t := 24 + r) (by omega) (ct_chn hr) (by rw [ct_chn hr]; simp [wI, upA]) ct_oI hi hd kk
theorem ga_rps (C : Fx X D own cc nL d ret) {r : Nat} (hr : r < 2) (hd : decode cc pc = .ok (.aaload, 1)) (kk : G X D Q z ((c, τ) : Sg) (pc + 1) L (.ref (aRep D r) :: st)) : G X D Q z ((c, τ) : Sg) pc L (.int (nI r) :: .ref (aRps D) :: st) := g_aal C (t := 19) (t0 := 3) (by decide) rfl ct_rps (vp_in_nI hr (by decide)) (by rw [nI_clamp (by omega)]) hd kk
theorem ga_rcs (C : Fx X D own cc nL d ret) {r n : Nat} (hr : r < 2) (hn : n < 24) (hd : decode cc pc = .ok (.aaload, 1)) (kk : G X D Q z ((c, τ) : Sg) (pc + 1) L (.ref (aRec D (24 * r + n)) :: st)) : G X D Q z ((c, τ) : Sg) pc L (.int (nI n) :: .ref (aRcs D r) :: st) := g_aal C (t := 22 + r) (t0 := 4) (by omega) rfl (ct_rcs hr) (vp_in_nI hn (by decide)) (by rw [nI_clamp (by omega)]) hd kk
theorem ga_mar (C : Fx X D own cc nL d ret) {a : Nat} {x : Int32} (h1 : 1 ≤ a) (ha : a ≤ 17) (hi : vp_in x (mln a)) (hd : decode cc pc = .ok (.iaload, 1)) (kk : G X D Q z ((c, m, ow) : Sg) (pc + 1) L (.int (m.1 a x.toNatClampNeg) :: st)) : G X D Q z ((c, m, ow) : Sg) pc L (.int x :: .ref (aMar D a) :: st) := g_ial C (t := 74 + a) (by omega) (ct_mar h1 ha) hi hd kk
theorem gs_mar (C : Fx X D own cc nL d ret) {a : Nat} {x v : Int32} (h1 : 1 ≤ a) (ha : a ≤ 17) (hi : vp_in x (mln a)) (hd : decode cc pc = .ok (.iastore, 1)) (kk : G X D Q z ((c, wI m a x.toNatClampNeg v, ow) : Sg) (pc + 1) L st) : G X D Q z ((c, m, ow) : Sg) pc L (.int v :: .int x :: .ref (aMar D a) :: st) := g_ias C (t := 74 + a) (by omega) (ct_mar h1 ha) (by rw [ct_mar h1 ha]; simp [wI, upA]) ct_mI hi hd kk
theorem ga_nds (C : Fx X D own cc nL d ret) {x : Int32} (hi : vp_in x 48) (hd : decode cc pc = .ok (.laload, 1)) (kk : G X D Q z ((c, m, ow) : Sg) (pc + 1) L (.long (m.2 x.toNatClampNeg) :: st)) : G X D Q z ((c, m, ow) : Sg) pc L (.int x :: .ref (aNds D) :: st) := g_lal C (t := 92) (by decide) ct_nds hi hd kk
theorem gs_nds (C : Fx X D own cc nL d ret) {x : Int32} {v : Int64} (hi : vp_in x 48) (hd : decode cc pc = .ok (.lastore, 1)) (kk : G X D Q z ((c, wN m x.toNatClampNeg v, ow) : Sg) (pc + 1) L st) : G X D Q z ((c, m, ow) : Sg) pc L (.long v :: .int x :: .ref (aNds D) :: st) := g_las C (t := 92) (by decide) ct_nds ct_nds ct_mN hi hd kk
theorem ga_dwn (C : Fx X D own cc nL d ret) {x : Int32} (hi : vp_in x 2) (hd : decode cc pc = .ok (.baload, 1)) (kk : G X D Q z ((c, m, ow) : Sg) (pc + 1) L (.int (m.1 19 x.toNatClampNeg) :: st)) : G X D Q z ((c, m, ow) : Sg) pc L (.int x :: .ref (aDwn D) :: st) := g_zal C (t := 93) (by decide) ct_dwn hi hd kk
theorem nar_b {v : Int32} (h : v = 0 ∨ v = 1) : vp_nar .boolean v = v := by rcases h with rfl | rfl <;> rfl
theorem gs_dwn (C : Fx X D own cc nL d ret) {x v : Int32} (hz : v = 0 ∨ v = 1) (hi : vp_in x 2) (hd : decode cc pc = .ok (.bastore, 1)) (kk : G X D Q z ((c, wI m 19 x.toNatClampNeg v, ow) : Sg) (pc + 1) L st) : G X D Q z ((c, m, ow) : Sg) pc L (.int v :: .int x :: .ref (aDwn D) :: st) := g_zas C (t := 93) (by decide) ct_dwn (by rw [ct_dwn, nar_b hz]; simp [wI, upA]) (ct_mI (i := 19)) hi hd kk
end GFLD
end
section
theorem jl_Cod_41 : Cond.methodLink R_Cod 41 Lib.Math.min.name ∈ UNI := un 759 (by decide +kernel) (by decide +kernel)
theorem jl_Rep_140 : Cond.methodLink R_Rep 140 Lib.MathLoose.min_long.x ∈ UNI := un 605 (by decide +kernel) (by decide +kernel)
theorem jl_Rep_149 : Cond.methodLink R_Rep 149 Lib.MathLoose.max_long.x ∈ UNI := un 613 (by decide +kernel) (by decide +kernel)
theorem jl_Rep_211 : Cond.methodLink R_Rep 211 Lib.Math.min.name ∈ UNI := un 647 (by decide +kernel) (by decide +kernel)
theorem jl_Row_30 : Cond.methodLink R_Row 30 arraycopyName ∈ UNI := un 247 (by decide +kernel) (by decide +kernel)
theorem js_maxl : Cond.static Lib.MathLoose.max_long.x ∈ UNI := un 614 (by decide +kernel) (by decide +kernel)
theorem jc_maxl : Cond.code Lib.MathLoose.max_long.x Lib.MathLoose.max_long.code 4 (some .long) ∈ UNI := un 615 (by decide +kernel) (by decide +kernel)
theorem js_min : Cond.static Lib.Math.min.name ∈ UNI := un 377 (by decide +kernel) (by decide +kernel)
theorem jc_min : Cond.code Lib.Math.min.name Lib.Math.min.code 2 (some .int) ∈ UNI := un 378 (by decide +kernel) (by decide +kernel)
theorem js_minl : Cond.static Lib.MathLoose.min_long.x ∈ UNI := un 606 (by decide +kernel) (by decide +kernel)
theorem jc_minl : Cond.code Lib.MathLoose.min_long.x Lib.MathLoose.min_long.code 4 (some .long) ∈ UNI := un 607 (by decide +kernel) (by decide +kernel)
theorem js_copy : Cond.static arraycopyName ∈ UNI := un 248 (by decide +kernel) (by decide +kernel)
theorem jn_copy : Cond.native arraycopyName ∈ UNI := un 249 (by decide +kernel) (by decide +kernel)
theorem ji_math : Cond.initialized "java/lang/Math" ∈ UNI := un 12 (by decide +kernel) (by decide +kernel)
theorem ji_sys : Cond.initialized "java/lang/System" ∈ UNI := un 14 (by decide +kernel) (by decide +kernel)
section GJ
variable {X : Cx} {D : Dt} {Q : State → Prop} {z : Nat × Nat} {σ : Sg} {c m : Cs} {τ : Cs × (Nat → Int64)} {pc index : Nat} {L : Lc} {st : List Value} {own : String} {cc : ByteArray} {nL d : Nat} {ret : Option FieldType}
theorem g_mmin (C : Fx X D own cc nL d ret) {x y : Int32} (hl : Cond.methodLink own index Lib.Math.min.name ∈ UNI) (hd : decode cc pc = .ok (.invokestatic index, 3)) (hd2 : 1 ≤ d) (hr : (st.map fun v => v.category).sum ≤ 8) (hz : z.1 ≤ X.2.2.2.1.cells ∧ z.2 ≤ X.2.2.2.1.slots)
    (kk : G X D Q z σ (pc + 3) L (.int (if y < x then y else x) :: st)) : G X D Q z σ pc L (.int y :: .int x :: st) := by
  intro H locs ls hP hS hL
  have h1 := C.rm.1
  have h2 := C.rm.2
  exact va_mmin C.ex C.bt hL.1.symm C.ow (C.ts _ hl) (C.ts _ js_min) (C.ts _ ji_math) (C.ts _ jc_min) (by omega) (by omega) hz.1 hz.2 hd (kk H locs ls hP hS hL)
theorem g_mminl (C : Fx X D own cc nL d ret) {x y : Int64} (hl : Cond.methodLink own index Lib.MathLoose.min_long.x ∈ UNI) (hd : decode cc pc = .ok (.invokestatic index, 3)) (hd2 : 1 ≤ d) (hr : (st.map fun v => v.category).sum ≤ 8) (hz : z.1 ≤ X.2.2.2.1.cells ∧ z.2 ≤ X.2.2.2.1.slots)
    (kk : G X D Q z σ (pc + 3) L (.long (if y < x then y else x) :: st)) : G X D Q z σ pc L (.long y :: .long x :: st) := by
  intro H locs ls hP hS hL
  have h1 := C.rm.1
  have h2 := C.rm.2
  exact va_mmin_long C.ex C.bt hL.1.symm C.ow (C.ts _ hl) (C.ts _ js_minl) (C.ts _ ji_math) (C.ts _ jc_minl) (by omega) (by omega) hz.1 hz.2 hd (kk H locs ls hP hS hL)
theorem g_mmaxl (C : Fx X D own cc nL d ret) {x y : Int64} (hl : Cond.methodLink own index Lib.MathLoose.max_long.x ∈ UNI) (hd : decode cc pc = .ok (.invokestatic index, 3)) (hd2 : 1 ≤ d) (hr : (st.map fun v => v.category).sum ≤ 8) (hz : z.1 ≤ X.2.2.2.1.cells ∧ z.2 ≤ X.2.2.2.1.slots)
    (kk : G X D Q z σ (pc + 3) L (.long (if y < x then x else y) :: st)) : G X D Q z σ pc L (.long y :: .long x :: st) := by
  intro H locs ls hP hS hL
  have h1 := C.rm.1
  have h2 := C.rm.2
  exact va_mmax_long C.ex C.bt hL.1.symm C.ow (C.ts _ hl) (C.ts _ js_maxl) (C.ts _ ji_math) (C.ts _ jc_maxl) (by omega) (by omega) hz.1 hz.2 hd (kk H locs ls hP hS hL)
theorem nat_words : nativeFrameWords "java/lang/System" "arraycopy" 5 + 11 ≤ 52 := by decide +kernel
theorem g_copy (C : Fx X D own cc nL d ret) {j1 j2 sp dp n : Nat} (h1 : j1 < 9) (h2 : j2 < 9) (h3 : sp + n ≤ rln j1) (h4 : dp + n ≤ rln j2) (hl : Cond.methodLink own index arraycopyName ∈ UNI) (hd : decode cc pc = .ok (.invokestatic index, 3)) (hd2 : 1 ≤ d) (hr : (st.map fun v => v.category).sum ≤ 8)
    (kk : G X D Q z ((wA c (10 + j2) (va_cpy (c.1 (10 + j1)) (c.1 (10 + j2)) sp dp n), τ) : Sg) (pc + 3) L st) : G X D Q z ((c, τ) : Sg) pc L (.int (nI n) :: .int (nI dp) :: .ref (aArr D j2) :: .int (nI sp) :: .ref (aArr D j1) :: st) := by
  intro H locs ls hP hS hL
  have r1 := C.rm.1
  have r2 := C.rm.2
  have q1 := rln_le j1
  have q2 := rln_le j2
  have nw := nat_words
  have e1 : (nI sp).toNatClampNeg = sp := nI_clamp (by omega)
  have e2 : (nI dp).toNatClampNeg = dp := nI_clamp (by omega)
  have e3 : (nI n).toNatClampNeg = n := nI_clamp (by omega)
  refine va_copyi C.ex C.bt hL.1.symm C.ow (C.ts _ hl) (C.ts _ jn_copy) (C.ts _ js_copy) (C.ts _ ji_sys) C.kk hP (wld_D C.ok _) hS (10 + j1) (10 + j2) 0 0 (ty := .int) (by rw [wld_at (by omega), ct_arr h1]; rfl) (by rw [wld_at (by omega), ct_arr h2]; rfl) rfl rfl rfl (nI_pos (by omega)) (nI_pos (by omega)) (nI_pos (by omega)) (by rw [e1, e3]; exact h3) (by rw [e2, e3]; exact h4) (fun _ _ => rfl) (by omega) (by omega) hd (fun H1 locs1 hP1 _ hS1 => kk H1 locs1 ls ?_ hS1 hL)
  rw [e1, e2, e3] at hP1
  have hw : (wld D ((c, τ) : Sg)).set (10 + j2) (aArr D j2, .inl (D.2.2.1 0, rln j2, .inl (va_cpy (c.1 (10 + j1)) (c.1 (10 + j2)) sp dp n))) = wld D ((wA c (10 + j2) (va_cpy (c.1 (10 + j1)) (c.1 (10 + j2)) sp dp n), τ) : Sg) := wld_set (t := 10 + j2) (by omega) (by rw [ct_arr h2]; simp [wA, upA]) ct_oA
  rw [← hw]
  exact hP1
end GJ
end
section
theorem bp_m4 : (Int8.ofInt (-4)).toInt32 = (-4) := by decide +kernel
theorem bp_m3 : (Int8.ofInt (-3)).toInt32 = (-3) := by decide +kernel
theorem bp_m2 : (Int8.ofInt (-2)).toInt32 = (-2) := by decide +kernel
theorem bp_6 : (Int8.ofInt 6).toInt32 = 6 := by decide +kernel
theorem bpn_6 : (Int8.ofInt 6).toInt32 = nI 6 := by decide +kernel
theorem bp_8 : (Int8.ofInt 8).toInt32 = 8 := by decide +kernel
theorem bpn_8 : (Int8.ofInt 8).toInt32 = nI 8 := by decide +kernel
theorem bp_10 : (Int8.ofInt 10).toInt32 = 10 := by decide +kernel
theorem bpn_10 : (Int8.ofInt 10).toInt32 = nI 10 := by decide +kernel
theorem bp_16 : (Int8.ofInt 16).toInt32 = 16 := by decide +kernel
theorem bpn_16 : (Int8.ofInt 16).toInt32 = nI 16 := by decide +kernel
theorem bp_24 : (Int8.ofInt 24).toInt32 = 24 := by decide +kernel
theorem bpn_24 : (Int8.ofInt 24).toInt32 = nI 24 := by decide +kernel
theorem bp_32 : (Int8.ofInt 32).toInt32 = 32 := by decide +kernel
theorem bpn_32 : (Int8.ofInt 32).toInt32 = nI 32 := by decide +kernel
theorem bp_48 : (Int8.ofInt 48).toInt32 = 48 := by decide +kernel
theorem bpn_48 : (Int8.ofInt 48).toInt32 = nI 48 := by decide +kernel
theorem bp_56 : (Int8.ofInt 56).toInt32 = 56 := by decide +kernel
theorem bpn_56 : (Int8.ofInt 56).toInt32 = nI 56 := by decide +kernel
theorem bp_60 : (Int8.ofInt 60).toInt32 = 60 := by decide +kernel
theorem bpn_60 : (Int8.ofInt 60).toInt32 = nI 60 := by decide +kernel
theorem bp_61 : (Int8.ofInt 61).toInt32 = 61 := by decide +kernel
theorem bpn_61 : (Int8.ofInt 61).toInt32 = nI 61 := by decide +kernel
theorem bp_63 : (Int8.ofInt 63).toInt32 = 63 := by decide +kernel
theorem bpn_63 : (Int8.ofInt 63).toInt32 = nI 63 := by decide +kernel
theorem bp_100 : (Int8.ofInt 100).toInt32 = 100 := by decide +kernel
theorem bpn_100 : (Int8.ofInt 100).toInt32 = nI 100 := by decide +kernel
theorem bp_117 : (Int8.ofInt 117).toInt32 = 117 := by decide +kernel
theorem bpn_117 : (Int8.ofInt 117).toInt32 = nI 117 := by decide +kernel
theorem bp_120 : (Int8.ofInt 120).toInt32 = 120 := by decide +kernel
theorem bpn_120 : (Int8.ofInt 120).toInt32 = nI 120 := by decide +kernel
theorem bp_121 : (Int8.ofInt 121).toInt32 = 121 := by decide +kernel
theorem bpn_121 : (Int8.ofInt 121).toInt32 = nI 121 := by decide +kernel
theorem bp_126 : (Int8.ofInt 126).toInt32 = 126 := by decide +kernel
theorem bpn_126 : (Int8.ofInt 126).toInt32 = nI 126 := by decide +kernel
theorem ic_m1 : Int32.ofInt (-1) = (-1) := by decide +kernel
theorem ic_0 : Int32.ofInt 0 = 0 := by decide +kernel
theorem icn_0 : Int32.ofInt 0 = nI 0 := by decide +kernel
theorem ic_1 : Int32.ofInt 1 = 1 := by decide +kernel
theorem icn_1 : Int32.ofInt 1 = nI 1 := by decide +kernel
theorem ic_2 : Int32.ofInt 2 = 2 := by decide +kernel
theorem icn_2 : Int32.ofInt 2 = nI 2 := by decide +kernel
theorem ic_3 : Int32.ofInt 3 = 3 := by decide +kernel
theorem icn_3 : Int32.ofInt 3 = nI 3 := by decide +kernel
theorem ic_4 : Int32.ofInt 4 = 4 := by decide +kernel
theorem icn_4 : Int32.ofInt 4 = nI 4 := by decide +kernel
theorem ic_5 : Int32.ofInt 5 = 5 := by decide +kernel
theorem icn_5 : Int32.ofInt 5 = nI 5 := by decide +kernel
theorem lc_0 : Int64.ofNat ((0 : Fin 2) : Nat) = 0 := by decide +kernel
theorem sp_255 : (Int16.ofInt 255).toInt32 = 255 := by decide +kernel
theorem spn_255 : (Int16.ofInt 255).toInt32 = nI 255 := by decide +kernel
theorem sp_600 : (Int16.ofInt 600).toInt32 = 600 := by decide +kernel
theorem spn_600 : (Int16.ofInt 600).toInt32 = nI 600 := by decide +kernel
theorem sp_1200 : (Int16.ofInt 1200).toInt32 = 1200 := by decide +kernel
theorem spn_1200 : (Int16.ofInt 1200).toInt32 = nI 1200 := by decide +kernel
theorem nI_inc (i : Nat) : nI i + Int32.ofInt 1 = nI (i + 1) := by rw [ic_1]; exact (nI_succ i).symm
theorem sn {L : Lc} : sub L [] := trivial
theorem G.lf {X : Cx} {D : Dt} {Q : State → Prop} {z : Nat × Nat} {σ : Sg} {pc : Nat} {L L' : Lc} {st : List Value} (kk : G X D Q z σ pc L' st) (hs : sub L L') : G X D Q z σ pc L st := G.lc hs kk
end
section
/-! THE MATHEMATICAL VALUE of the system, and what each call does to it -/
/-- offset, size, length, base, p1, p2, node -/
abbrev Rc : Type := Nat × Nat × Nat × Option Nat × Option Nat × Option Nat × Int64
def Rc.off (x : Rc) : Nat := x.1
def Rc.siz (x : Rc) : Nat := x.2.1
def Rc.len (x : Rc) : Nat := x.2.2.1
def Rc.bas (x : Rc) : Option Nat := x.2.2.2.1
def Rc.pa (x : Rc) : Option Nat := x.2.2.2.2.1
def Rc.pb (x : Rc) : Option Nat := x.2.2.2.2.2.1
def Rc.nod (x : Rc) : Int64 := x.2.2.2.2.2.2
/-- data, records, journal (data, records), down, told failure -/
abbrev Rp : Type := List Nat × List Rc × Option (Nat × Nat) × Bool × Nat
def Rp.dat (R : Rp) : List Nat := R.1
def Rp.rcs (R : Rp) : List Rc := R.2.1
def Rp.jrn (R : Rp) : Option (Nat × Nat) := R.2.2.1
def Rp.dwn (R : Rp) : Bool := R.2.2.2.1
def Rp.fai (R : Rp) : Nat := R.2.2.2.2
/-- the buffer, the two repositories -/
abbrev Vt : Type := List Nat × (Nat → Rp)
/-- -1 for none -/
def eo : Option Nat → Int32
  | none => -1
  | some n => nI n
def b1 (p : Prop) [Decidable p] : Int32 := if p then 1 else 0
theorem b1_t {p : Prop} [Decidable p] (h : p) : b1 p = 1 := if_pos h
theorem b1_f {p : Prop} [Decidable p] (h : ¬ p) : b1 p = 0 := if_neg h
theorem b1_z (p : Prop) [Decidable p] : b1 p = 0 ∨ b1 p = 1 := by
  unfold b1
  split
  · exact Or.inr rfl
  · exact Or.inl rfl
theorem b1_0 {p : Prop} [Decidable p] (h : b1 p = 0) : ¬ p := by
  intro hp
  rw [b1_t hp] at h
  exact absurd h (by decide)
theorem b1_1 {p : Prop} [Decidable p] (h : ¬ b1 p = 0) : p := Classical.byContradiction fun hp => h (b1_f hp)
def mix (h : Int64) (b : Nat) : Int64 := (h ^^^ (nI b).toInt64) * 1099511628211
def byt (v : Int64) (s : Int32) : Int32 := (v.toUInt64 >>> (s.toInt64.toUInt64 &&& Int64.toUInt64 63)).toInt64.toInt32 &&& 255
def mixB (h v : Int64) (s : Int32) : Int64 := (h ^^^ (byt v s).toInt64) * 1099511628211
def mixL (h v : Int64) : Int64 := mixB (mixB (mixB (mixB (mixB (mixB (mixB (mixB h v 56) v 48) v 40) v 32) v 24) v 16) v 8) v 0
def nodS (a b : Int64) : Int64 := mixL (mixL 1469598103934665603 (if b < a then b else a)) (if b < a then a else b)
def nodT (a b : Int64) (t : List Nat) : Int64 := t.foldl mix (nodS a b)
def nodP (rs : List Rc) : Option Nat → Int64
  | none => 0
  | some n => match rs[n]? with
    | none => 0
    | some x => x.nod
def nodeOf (rs : List Rc) (p q : Option Nat) (t : List Nat) : Int64 := nodT (nodP rs p) (nodP rs q) t
def chnk (d : List Nat) (x : Rc) : List Nat := (d.drop x.off).take x.siz
def unp : List Nat → Option (List Nat)
  | [] => some []
  | [_] => none
  | n :: v :: r => if n = 0 then none else match unp r with
    | none => none
    | some t => some (List.replicate n v ++ t)
def snap : List Nat → Option (List Nat)
  | [] => none
  | k :: r => if k = 117 then (if r.length ≤ 60 then some r else none) else if k = 120 then (match unp r with
    | none => none
    | some t => if t.length ≤ 60 then some t else none) else none
def dif (ch base : List Nat) : Option (List Nat) := match ch with
  | k :: a :: b :: m :: r => if k = 100 ∧ m = r.length ∧ a ≤ b ∧ b ≤ base.length ∧ base.length - (b - a) + m ≤ 60 then some (base.take a ++ r ++ base.drop b) else none
  | _ => none
/-- a revision's text by its chain, the fuel its links -/
def txt (d : List Nat) (rs : List Rc) : Nat → Nat → Option (List Nat)
  | 0, _ => none
  | f + 1, n => match rs[n]? with
    | none => none
    | some x => match x.bas with
      | none => snap (chnk d x)
      | some b => match txt d rs f b with
        | none => none
        | some t => dif (chnk d x) t
def built (d : List Nat) (rs : List Rc) (n : Nat) : Option (List Nat) := match rs[n]?, txt d rs 6 n with
  | some x, some t => if t.length = x.len ∧ nodeOf rs x.pa x.pb t = x.nod then some t else none
  | _, _ => none
def fnd (h : Int64) : List Rc → Nat → Option Nat
  | [], _ => none
  | x :: r, n => if x.nod = h then some n else fnd h r (n + 1)
def find (rs : List Rc) (h : Int64) : Option Nat := fnd h rs 0
/-- runs, the first of which has r before it -/
def pk : Nat → List Nat → List Nat
  | _, [] => []
  | r, [v] => [r + 1, v]
  | r, v :: w :: t => if w = v then pk (r + 1) (w :: t) else (r + 1) :: v :: pk 0 (w :: t)
def pack (t : List Nat) : List Nat := pk 0 t
def cpre : List Nat → List Nat → Nat
  | a :: x, b :: y => if a = b then cpre x y + 1 else 0
  | _, _ => 0
def encD (b t : List Nat) : List Nat :=
  let p := cpre b t
  let e := cpre (b.drop p).reverse (t.drop p).reverse
  100 :: p :: (b.length - e) :: (t.length - e - p) :: (t.drop p).take (t.length - e - p)
def encS (t : List Nat) : List Nat := if (120 :: pack t).length < (117 :: t).length then 120 :: pack t else 117 :: t
/-- links and bytes of a chain -/
def chn (rs : List Rc) : Nat → Option Nat → Option (Nat × Nat)
  | _, none => some (0, 0)
  | 0, some _ => none
  | f + 1, some n => match rs[n]? with
    | none => none
    | some x => match chn rs f x.bas with
      | none => none
      | some (k, s) => some (k + 1, s + x.siz)
def fits6 (rs : List Rc) (n : Nat) (sz tl : Nat) : Bool := match chn rs 5 (some n) with
  | none => false
  | some (_, s) => decide (s + sz ≤ 2 * tl + 16)
def cand (d : List Nat) (rs : List Rc) (t : List Nat) (best : List Nat × Option Nat) : Option Nat → List Nat × Option Nat
  | none => best
  | some n => match built d rs n with
    | none => best
    | some b => if (encD b t).length < best.1.length ∧ fits6 rs n (encD b t).length t.length = true then (encD b t, some n) else best
def lastR (rs : List Rc) : Option Nat := if rs.length = 0 then none else some (rs.length - 1)
def choose (d : List Nat) (rs : List Rc) (p q : Option Nat) (t : List Nat) : List Nat × Option Nat :=
  cand d rs t (cand d rs t (cand d rs t (encS t, none) p) q) (lastR rs)
/-- a WRITE: is it done? -/
def wrt (R : Rp) : Bool × Rp := if R.fai = 0 then (true, R) else if R.fai = 1 then (false, (R.dat, R.rcs, R.jrn, true, 0)) else (true, (R.dat, R.rcs, R.jrn, false, R.fai - 1))
/-- what storing answers: a revision, -2, or -4 (no room) -/
def stor (R : Rp) (p q : Option Nat) (t : List Nat) : Int × Rp :=
  let h := nodeOf R.rcs p q t
  match find R.rcs h with
  | some n => (n, R)
  | none =>
    let ch := choose R.dat R.rcs p q t
    if 24 ≤ R.rcs.length ∨ 600 < R.dat.length + ch.1.length then (-4, R) else
    match wrt R with
    | (false, R1) => (-2, R1)
    | (true, R1) => match wrt (R1.dat ++ ch.1, R1.rcs, R1.jrn, R1.dwn, R1.fai) with
      | (false, R2) => (-2, R2)
      | (true, R2) => (R2.rcs.length, (R2.dat, R2.rcs ++ [(R1.dat.length, ch.1.length, t.length, ch.2, p, q, h)], R2.jrn, R2.dwn, R2.fai))
def begn (R : Rp) : Bool × Rp := match wrt R with
  | (false, R1) => (false, R1)
  | (true, R1) => (true, (R1.dat, R1.rcs, some (R1.dat.length, R1.rcs.length), R1.dwn, R1.fai))
def fini (R : Rp) : Bool × Rp := match wrt R with
  | (false, R1) => (false, R1)
  | (true, R1) => (true, (R1.dat, R1.rcs, none, R1.dwn, R1.fai))
def roll (R : Rp) (d n : Nat) : Int × Rp := match wrt R with
  | (false, R1) => (-2, R1)
  | (true, R1) => match wrt (R1.dat.take d, R1.rcs, R1.jrn, R1.dwn, R1.fai) with
    | (false, R2) => (-2, R2)
    | (true, R2) => match fini (R2.dat, R2.rcs.take n, R2.jrn, R2.dwn, R2.fai) with
      | (false, R3) => (-2, R3)
      | (true, R3) => ((R2.rcs.length - n : Nat), R3)
end
section
def Cp (l : Launch) (D : Dt) (y : MethodName) (bytes : ByteArray) (maxL : Nat) (rty : Option FieldType) (d : Nat) (RA : List Value) (σ : Sg) (post : Option Value → Sg → Prop) : Prop :=
  Met l y [.code y bytes maxL rty] (rmk d) (fun v U => v = RA.reverse.toArray ∧ Wd D σ U) (Qk D post) 0 0 (Ab D)
theorem Cp.of {l : Launch} {D : Dt} {y : MethodName} {bytes : ByteArray} {maxL : Nat} {rty : Option FieldType} {d : Nat} {RA : List Value} {σ : Sg} {post : Option Value → Sg → Prop} (hD : OkD D) (hy : plainName y.cls = true) (hn : (lg_sl RA.reverse).length ≤ maxL) (L : Lc) (hL : la 0 RA.reverse = L)
    (body : ∀ X : Cx, X.2.1 = l → Fx X D y.cls bytes maxL d rty → G X D (Qp X D post) (0, 0) σ 0 L []) : Cp l D y bytes maxL rty d RA σ post := by
  refine Met.ofW (cc := bytes) (maxL := maxL) (ret := rty) hy rfl ?_
  intro p e s m args below meth c s₁ B hml hv
  obtain ⟨rfl, hW⟩ := hv
  have hl := lv_entry RA.reverse (n := maxL) hn
  rw [lg_entry_eq]
  refine body (p, l, e, (headSpec [.code y bytes maxL rty] (rmk d)).room, s, m, RA.reverse.toArray, below, meth, c) rfl ⟨B.exec, B.bytes, findClass_of_methodNamed B.named, hW.2.1, hD, ⟨Nat.le_refl _, Nat.le_refl _⟩, B.returns, B.notSynchronized, hml, hW.2.2.1, hW.2.2.2⟩ s.heap [] _ hW.1 va_S.rf ⟨?_, hl.2.1, fun i v hv => ?_⟩
  · show _ = c.maxLocals
    rw [hml]
    exact hl.1
  · rw [← hL] at hv
    have key : ∀ (q : List (Nat × Value)) (i : Nat) (v : Value), lk (q.map (fun q => (q.1, some q.2))) i = some v → (i, v) ∈ q := by
      intro q
      induction q with
      | nil => intro i v h; cases h
      | cons a q ih =>
        intro i v h
        rw [List.map_cons, lk_cons] at h
        split at h
        · rename_i e
          cases h
          subst e
          exact List.mem_cons_self
        · exact List.mem_cons_of_mem _ (ih i v h)
    exact hl.2.2 (i, v) (key _ i v hv)
section GD
variable {X : Cx} {D : Dt} {Q : State → Prop} {z : Nat × Nat} {post : Option Value → Sg → Prop} {σ : Sg} {pc : Nat} {L : Lc} {st : List Value} {own : String} {cc : ByteArray} {nL d d2 index n maxL : Nat} {ret rty : Option FieldType} {y : MethodName} {bytes : ByteArray} {As rest : List Value} {b : Nat}
theorem cx_backp (C : Fx X D own cc nL d ret) {H : Heap} {locs : List Loc} (hS : va_S (Ab D) X.2.2.2.2.1.heap H locs) {g : JFrame} {Qa : Array Value}
    (hr : va_Run X.1 X.2.1 X.2.2.1 X.2.2.2.1 X.2.2.2.2.1 X.2.2.2.2.2.1 X.2.2.2.2.2.2.1 X.2.2.2.2.2.2.2.1 X.2.2.2.2.2.2.2.2.1 X.2.2.2.2.2.2.2.2.2 H locs z.1 z.2 0 0 g rest (Qk D post Qa) (Ab D))
    (kk : ∀ (r : Option Value) (σ2 : Sg) (H1 : Heap) (locs1 : List Loc), post r σ2 → va_P D.1 cls (wld D σ2) H1 → va_S (Ab D) X.2.2.2.2.1.heap H1 locs1 → W X.1 X.2.1 X.2.2.1 X.2.2.2.1 X.2.2.2.2.1 X.2.2.2.2.2.1 X.2.2.2.2.2.2.1 X.2.2.2.2.2.2.2.1 X.2.2.2.2.2.2.2.2.1 X.2.2.2.2.2.2.2.2.2 H1 locs1 z.1 z.2 Q { g with pc := g.pc + 3, stack := r.toList ++ rest }) :
    W X.1 X.2.1 X.2.2.1 X.2.2.2.1 X.2.2.2.2.1 X.2.2.2.2.2.1 X.2.2.2.2.2.2.1 X.2.2.2.2.2.2.2.1 X.2.2.2.2.2.2.2.2.1 X.2.2.2.2.2.2.2.2.2 H locs z.1 z.2 Q g := by
  intro T hT X0
  obtain ⟨v, st₀, t, T2, L2, h0, X2, hL, e1, e2, ⟨⟨r2, u, hv, hpo, hb⟩, hz, hk⟩, stp⟩ := hr T hT X0
  cases hv
  rw [h0] at hz hk
  obtain ⟨t2, a1, b1⟩ := kk _ u T2.heap (locs ++ L2) hpo (by rw [e1]; exact hb.1) ⟨Nat.le_trans hS.1 (by rw [e1]; exact hz), fun q h1 h2 => by rw [e1, hk q (Nat.lt_of_lt_of_le h1 hS.1) h2]; exact hS.2.1 q h1 h2, fun q hq => by
      rcases List.mem_append.mp hq with h | h
      · exact hS.2.2 q h
      · exact hL q h⟩ T2 rfl X2
  exact ⟨t2, stp t2 a1, b1⟩
theorem g_callVp (C : Fx X D own cc nL d ret) (hm : My y bytes maxL rty n) (hv : MV y) (hl : CL own index y) (hb : IsC D b y.cls) (hd : decode cc pc = .ok (.invokevirtual index, 3)) (hd2 : d2 + 1 ≤ d) (hn : As.length = n) (hr : (rest.map fun v => v.category).sum ≤ 8) (hz : z.1 ≤ X.2.2.2.1.cells ∧ z.2 ≤ X.2.2.2.1.slots)
    (hc : Cp X.2.1 D y bytes maxL rty d2 (As ++ [.ref b]) σ post) (kk : ∀ r σ2, post r σ2 → G X D Q z σ2 (pc + 3) L (r.toList ++ rest)) : G X D Q z σ pc L (As ++ .ref b :: rest) := by
  intro H locs ls hP hS hL
  obtain ⟨hcode, hini, hy, hpar, hml⟩ := hm
  obtain ⟨t, ci, T, N, ht, rfl, hci, hct⟩ := hb
  obtain ⟨fs, hfs⟩ := hct σ
  have hrec := va_recv C.kk hP hci (q0 := t) (fs := fs) (by rw [wld_at ht, hfs])
  have hall : ∀ w ∈ ([Cond.code y bytes maxL rty] : List Cond), ∀ (a' : Array Value) (U : State), X.2.2.2.2.1.WarmedH U.vm → w.before a' U = true := fun w hw a' U hW => by
    rw [List.mem_singleton.mp hw]
    exact C.ok.ts (State.WarmedH.trans C.wa hW) a' _ hcode
  have hpre := cx_pre C hP hS
  have hlen : ∀ sig, parseMethodDescriptor y.desc = some sig → n = sig.parameters.length := fun sig h => by rw [h] at hpar; exact (Option.some.inj hpar).symm
  have hK : Back X.2.1 X.2.2.2.1 X.1 X.2.2.1 X.2.2.2.2.2.2.2.1 X.2.2.2.2.1 X.2.2.2.2.2.2.1 y 3 8 (PreOf X.2.2.2.1 0 0 (fun v U => v = (As ++ [Value.ref (ad D t)]).reverse.toArray ∧ Wd D σ U)) (PostOf (Qk D post) 0 0 (Ab D)) :=
    back_of (bytes := bytes) (maxL := maxL) (ret := rty) hc Wd_blind rfl rfl (cx_room C hd2 hml).1 (cx_room C hd2 hml).2 hall List.mem_cons_self (fun a' U hW => C.ok.ts (State.WarmedH.trans C.wa hW) a' _ hini)
  refine cx_backp (post := post) C hS (g := F0 X.2.2.2.2.2.1 pc ls (As ++ .ref (ad D t) :: rest)) (Qa := (Value.ref (ad D t) :: As.reverse).toArray) (rest := rest) ?_ (fun r σ2 H1 locs1 hpo hP1 hS1 => kk r σ2 hpo H1 locs1 ls hP1 hS1 hL)
  intro T0 hT X0
  have hW : 2 * (F0 X.2.2.2.2.2.1 pc ls (As ++ .ref (ad D t) :: rest)).monitorRoom + (rest.map fun v => v.category).sum ≤ 8 := lv_room hr
  obtain ⟨cellB, hcB, hoB, hclB⟩ := hrec
  have hsz : ls.size = X.2.2.2.2.2.2.2.2.2.maxLocals := hL.1
  rcases cx_lk C.ts hl with hl | ⟨host, hl⟩
  · obtain ⟨v, vm₁, ⟨U2, l2, c2, s2⟩, hW₁, X2, ⟨g2, mk, t2, L2, e1, e2, hq, h1, hL2, h2, h3⟩, stp⟩ := callV X0 C.ex (C := y.cls) (bytes := bytes) (maxL := maxL) (ret := rty) C.ow hl (C.ts _ hv.1) (C.ts _ hv.2) (C.ts _ hcode) hy hK (by rw [hT]; exact hcB) hoB hclB (g := F0 X.2.2.2.2.2.1 pc ls (As ++ .ref (ad D t) :: rest)) rfl hsz (argsL := As.reverse) (rest := rest) (fun sig h => by rw [List.length_reverse, hn]; exact hlen sig h) (rl1 rfl) hW (by rw [C.bt]; exact hd)
      (fun vm₁ hW₁ => ⟨hz.1, hz.2, by rw [rl2], hpre (T0.setVm vm₁) hT hW₁⟩)
    dsimp only [Pt.U, Pt.locs, Pt.cells, Pt.slots] at X2 e1 e2 h1 h2 h3 stp
    subst h1; subst h2; subst h3
    exact ⟨v, (T0.setVm vm₁).calling g2 mk (Value.ref (ad D t) :: As.reverse).toArray, t2, U2, L2, hT, X2, hL2, e1, e2, hq, stp⟩
  · obtain ⟨v, vm₁, ⟨U2, l2, c2, s2⟩, hW₁, X2, ⟨g2, mk, t2, L2, e1, e2, hq, h1, hL2, h2, h3⟩, stp⟩ := va_callVN X0 C.ex (C := y.cls) (bytes := bytes) (maxL := maxL) (ret := rty) C.ow hl (C.ts _ hv.1) (C.ts _ hv.2) (C.ts _ hcode) hy hK (by rw [hT]; exact hcB) hoB hclB (g := F0 X.2.2.2.2.2.1 pc ls (As ++ .ref (ad D t) :: rest)) rfl hsz (argsL := As.reverse) (rest := rest) (fun sig h => by rw [List.length_reverse, hn]; exact hlen sig h) (rl1 rfl) hW (by rw [C.bt]; exact hd)
      (fun vm₁ hW₁ => ⟨hz.1, hz.2, by rw [rl2], hpre (T0.setVm vm₁) hT hW₁⟩)
    dsimp only [Pt.U, Pt.locs, Pt.cells, Pt.slots] at X2 e1 e2 h1 h2 h3 stp
    subst h1; subst h2; subst h3
    exact ⟨v, (T0.setVm vm₁).calling g2 mk (Value.ref (ad D t) :: As.reverse).toArray, t2, U2, L2, hT, X2, hL2, e1, e2, hq, stp⟩
theorem g_callSp (C : Fx X D own cc nL d ret) (hm : My y bytes maxL rty n) (hv : MS y) (hl : CL own index y) (hd : decode cc pc = .ok (.invokestatic index, 3)) (hd2 : d2 + 1 ≤ d) (hn : As.length = n) (hr : (rest.map fun v => v.category).sum ≤ 8) (hz : z.1 ≤ X.2.2.2.1.cells ∧ z.2 ≤ X.2.2.2.1.slots)
    (hc : Cp X.2.1 D y bytes maxL rty d2 As σ post) (kk : ∀ r σ2, post r σ2 → G X D Q z σ2 (pc + 3) L (r.toList ++ rest)) : G X D Q z σ pc L (As ++ rest) := by
  intro H locs ls hP hS hL
  obtain ⟨hcode, hini, hy, hpar, hml⟩ := hm
  have hall : ∀ w ∈ ([Cond.code y bytes maxL rty] : List Cond), ∀ (a' : Array Value) (U : State), X.2.2.2.2.1.WarmedH U.vm → w.before a' U = true := fun w hw a' U hW => by
    rw [List.mem_singleton.mp hw]
    exact C.ok.ts (State.WarmedH.trans C.wa hW) a' _ hcode
  have hpre := cx_pre C hP hS
  have hlen : ∀ sig, parseMethodDescriptor y.desc = some sig → n = sig.parameters.length := fun sig h => by rw [h] at hpar; exact (Option.some.inj hpar).symm
  have hK : Back X.2.1 X.2.2.2.1 X.1 X.2.2.1 X.2.2.2.2.2.2.2.1 X.2.2.2.2.1 X.2.2.2.2.2.2.1 y 3 8 (PreOf X.2.2.2.1 0 0 (fun v U => v = As.reverse.toArray ∧ Wd D σ U)) (PostOf (Qk D post) 0 0 (Ab D)) :=
    back_of (bytes := bytes) (maxL := maxL) (ret := rty) hc Wd_blind rfl rfl (cx_room C hd2 hml).1 (cx_room C hd2 hml).2 hall List.mem_cons_self (fun a' U hW => C.ok.ts (State.WarmedH.trans C.wa hW) a' _ hini)
  refine cx_backp (post := post) C hS (g := F0 X.2.2.2.2.2.1 pc ls (As ++ rest)) (Qa := As.reverse.toArray) (rest := rest) ?_ (fun r σ2 H1 locs1 hpo hP1 hS1 => kk r σ2 hpo H1 locs1 ls hP1 hS1 hL)
  intro T0 hT X0
  have hW : 2 * (F0 X.2.2.2.2.2.1 pc ls (As ++ rest)).monitorRoom + (rest.map fun v => v.category).sum ≤ 8 := lv_room hr
  have hsz : ls.size = X.2.2.2.2.2.2.2.2.2.maxLocals := hL.1
  rcases cx_lk C.ts hl with hl | ⟨host, hl⟩
  · obtain ⟨v, vm₁, ⟨U2, l2, c2, s2⟩, hW₁, X2, ⟨g2, mk, t2, L2, e1, e2, hq, h1, hL2, h2, h3⟩, stp⟩ := callS X0 C.ex (bytes := bytes) (maxL := maxL) (ret := rty) C.ow hl (C.ts _ hv) (C.ts _ hini) (C.ts _ hcode) hy hK (g := F0 X.2.2.2.2.2.1 pc ls (As ++ rest)) rfl hsz (argsL := As.reverse) (rest := rest) (fun sig h => by rw [List.length_reverse, hn]; exact hlen sig h) (rl0 rfl) hW (by rw [C.bt]; exact hd)
      (fun vm₁ hW₁ => ⟨hz.1, hz.2, rfl, hpre (T0.setVm vm₁) hT hW₁⟩)
    dsimp only [Pt.U, Pt.locs, Pt.cells, Pt.slots] at X2 e1 e2 h1 h2 h3 stp
    subst h1; subst h2; subst h3
    exact ⟨v, (T0.setVm vm₁).calling g2 mk As.reverse.toArray, t2, U2, L2, hT, X2, hL2, e1, e2, hq, stp⟩
  · obtain ⟨v, vm₁, ⟨U2, l2, c2, s2⟩, hW₁, X2, ⟨g2, mk, t2, L2, e1, e2, hq, h1, hL2, h2, h3⟩, stp⟩ := va_callSN X0 C.ex (bytes := bytes) (maxL := maxL) (ret := rty) C.ow hl (C.ts _ hv) (C.ts _ hini) (C.ts _ hcode) hy hK (g := F0 X.2.2.2.2.2.1 pc ls (As ++ rest)) rfl hsz (argsL := As.reverse) (rest := rest) (fun sig h => by rw [List.length_reverse, hn]; exact hlen sig h) (rl0 rfl) hW (by rw [C.bt]; exact hd)
      (fun vm₁ hW₁ => ⟨hz.1, hz.2, rfl, hpre (T0.setVm vm₁) hT hW₁⟩)
    dsimp only [Pt.U, Pt.locs, Pt.cells, Pt.slots] at X2 e1 e2 h1 h2 h3 stp
    subst h1; subst h2; subst h3
    exact ⟨v, (T0.setVm vm₁).calling g2 mk As.reverse.toArray, t2, U2, L2, hT, X2, hL2, e1, e2, hq, stp⟩
end GD
end
section
theorem i32_1 : (1 : Int32).toInt = 1 := by decide +kernel
theorem nI_at {k : Int32} {n : Nat} (h : 0 ≤ k ∧ k < nI n) (hn : n < 2 ^ 31) : ∃ i, i < n ∧ k = nI i := by
  rcases pk_ix k hn with h1 | h1 | h1
  · exact absurd h1 (Int32.not_lt.mpr h.1)
  · exact absurd h1 (Int32.not_le.mpr h.2)
  · exact h1
set_option maxRecDepth 100000 in
set_option maxHeartbeats 4000000 in
theorem c_Row_has (l : Launch) {D : Dt} (hD : OkD D) {j : Nat} {c : Cs} {τ : Cs × (Nat → Int64)} {k : Int32} (hj : j < 9) : Ct l D y_Row_has b_Row_has 2 (some .boolean) 1 [.int k, .ref (aRow D j)] ((c, τ) : Sg) (some (.int (b1 (0 ≤ k ∧ k < c.1 (1 + j) 0)))) ((c, τ) : Sg) := by
  refine Ct.of hD (by decide) (Nat.le_of_ble_eq_true rfl) [(0, some (.ref (aRow D j))), (1, some (.int k))] rfl (fun X hX C => ?_)
  subst hX
  refine g_iload_n (pc := 0) (i := 1) C d_Row_has_0 rfl rfl ?_
  refine g_if_lt (pc := 1) (tgt := 16) C d_Row_has_1 (by decide) (fun h1 => ?_) (fun h1 => ?_)
  · skip
    refine g_iconst (pc := 16) C d_Row_has_16 ic_0 ?_
    refine g_zret (pc := 17) C d_Row_has_17 (by first | exact Or.inl rfl | exact Or.inr rfl) ?_
    refine ⟨congrArg (fun v => some (Value.int v)) ?_, rfl⟩
    first | exact (b1_t (by constructor <;> (simp only [Int32.lt_iff_toInt_lt, Int32.le_iff_toInt_le, Int32.toInt_zero, i32_1] at *; omega))).symm | exact (b1_f (by intro h; obtain ⟨ha, hb⟩ := h; (simp only [Int32.lt_iff_toInt_lt, Int32.le_iff_toInt_le, Int32.toInt_zero, i32_1] at *; omega))).symm
  · skip
    refine g_iload_n (pc := 4) (i := 1) C d_Row_has_4 rfl rfl ?_
    refine g_aload_n (pc := 5) (i := 0) C d_Row_has_5 rfl rfl ?_
    refine gf_Row_length (pc := 6) C (by omega) fl_Row_13 d_Row_has_6 ?_
    refine g_icmp_ge (pc := 9) (tgt := 16) C d_Row_has_9 (by decide) (fun h9 => ?_) (fun h9 => ?_)
    · skip
      refine g_iconst (pc := 16) C d_Row_has_16 ic_0 ?_
      refine g_zret (pc := 17) C d_Row_has_17 (by first | exact Or.inl rfl | exact Or.inr rfl) ?_
      refine ⟨congrArg (fun v => some (Value.int v)) ?_, rfl⟩
      first | exact (b1_t (by constructor <;> (simp only [Int32.lt_iff_toInt_lt, Int32.le_iff_toInt_le, Int32.toInt_zero, i32_1] at *; omega))).symm | exact (b1_f (by intro h; obtain ⟨ha, hb⟩ := h; (simp only [Int32.lt_iff_toInt_lt, Int32.le_iff_toInt_le, Int32.toInt_zero, i32_1] at *; omega))).symm
    · skip
      refine g_iconst (pc := 12) C d_Row_has_12 ic_1 ?_
      refine g_goto (pc := 13) (tgt := 17) C d_Row_has_13 (by decide) ?_
      refine g_zret (pc := 17) C d_Row_has_17 (by first | exact Or.inl rfl | exact Or.inr rfl) ?_
      refine ⟨congrArg (fun v => some (Value.int v)) ?_, rfl⟩
      first | exact (b1_t (by constructor <;> (simp only [Int32.lt_iff_toInt_lt, Int32.le_iff_toInt_le, Int32.toInt_zero, i32_1] at *; omega))).symm | exact (b1_f (by intro h; obtain ⟨ha, hb⟩ := h; (simp only [Int32.lt_iff_toInt_lt, Int32.le_iff_toInt_le, Int32.toInt_zero, i32_1] at *; omega))).symm
set_option maxRecDepth 100000 in
set_option maxHeartbeats 4000000 in
theorem c_Row_hasRoomFor (l : Launch) {D : Dt} (hD : OkD D) {j : Nat} {c : Cs} {τ : Cs × (Nat → Int64)} {k : Int32} (hj : j < 9) : Ct l D y_Row_hasRoomFor b_Row_hasRoomFor 2 (some .boolean) 1 [.int k, .ref (aRow D j)] ((c, τ) : Sg) (some (.int (b1 (0 ≤ k ∧ k ≤ nI (rln j) - c.1 (1 + j) 0)))) ((c, τ) : Sg) := by
  refine Ct.of hD (by decide) (Nat.le_of_ble_eq_true rfl) [(0, some (.ref (aRow D j))), (1, some (.int k))] rfl (fun X hX C => ?_)
  subst hX
  refine g_iload_n (pc := 0) (i := 1) C d_Row_hasRoomFor_0 rfl rfl ?_
  refine g_if_lt (pc := 1) (tgt := 22) C d_Row_hasRoomFor_1 (by decide) (fun h1 => ?_) (fun h1 => ?_)
  · skip
    refine g_iconst (pc := 22) C d_Row_hasRoomFor_22 ic_0 ?_
    refine g_zret (pc := 23) C d_Row_hasRoomFor_23 (by first | exact Or.inl rfl | exact Or.inr rfl) ?_
    refine ⟨congrArg (fun v => some (Value.int v)) ?_, rfl⟩
    first | exact (b1_t (by constructor <;> (simp only [Int32.lt_iff_toInt_lt, Int32.le_iff_toInt_le, Int32.toInt_zero, i32_1] at *; omega))).symm | exact (b1_f (by intro h; obtain ⟨ha, hb⟩ := h; (simp only [Int32.lt_iff_toInt_lt, Int32.le_iff_toInt_le, Int32.toInt_zero, i32_1] at *; omega))).symm
  · skip
    refine g_iload_n (pc := 4) (i := 1) C d_Row_hasRoomFor_4 rfl rfl ?_
    refine g_aload_n (pc := 5) (i := 0) C d_Row_hasRoomFor_5 rfl rfl ?_
    refine gf_Row_codes (pc := 6) C (by omega) fl_Row_7 d_Row_hasRoomFor_6 ?_
    refine gl_row (pc := 9) C (by omega) d_Row_hasRoomFor_9 ?_
    refine g_aload_n (pc := 10) (i := 0) C d_Row_hasRoomFor_10 rfl rfl ?_
    refine gf_Row_length (pc := 11) C (by omega) fl_Row_13 d_Row_hasRoomFor_11 ?_
    refine g_isub (pc := 14) C d_Row_hasRoomFor_14 ?_
    refine g_icmp_gt (pc := 15) (tgt := 22) C d_Row_hasRoomFor_15 (by decide) (fun h15 => ?_) (fun h15 => ?_)
    · skip
      refine g_iconst (pc := 22) C d_Row_hasRoomFor_22 ic_0 ?_
      refine g_zret (pc := 23) C d_Row_hasRoomFor_23 (by first | exact Or.inl rfl | exact Or.inr rfl) ?_
      refine ⟨congrArg (fun v => some (Value.int v)) ?_, rfl⟩
      first | exact (b1_t (by constructor <;> (simp only [Int32.lt_iff_toInt_lt, Int32.le_iff_toInt_le, Int32.toInt_zero, i32_1] at *; omega))).symm | exact (b1_f (by intro h; obtain ⟨ha, hb⟩ := h; (simp only [Int32.lt_iff_toInt_lt, Int32.le_iff_toInt_le, Int32.toInt_zero, i32_1] at *; omega))).symm
    · skip
      refine g_iconst (pc := 18) C d_Row_hasRoomFor_18 ic_1 ?_
      refine g_goto (pc := 19) (tgt := 23) C d_Row_hasRoomFor_19 (by decide) ?_
      refine g_zret (pc := 23) C d_Row_hasRoomFor_23 (by first | exact Or.inl rfl | exact Or.inr rfl) ?_
      refine ⟨congrArg (fun v => some (Value.int v)) ?_, rfl⟩
      first | exact (b1_t (by constructor <;> (simp only [Int32.lt_iff_toInt_lt, Int32.le_iff_toInt_le, Int32.toInt_zero, i32_1] at *; omega))).symm | exact (b1_f (by intro h; obtain ⟨ha, hb⟩ := h; (simp only [Int32.lt_iff_toInt_lt, Int32.le_iff_toInt_le, Int32.toInt_zero, i32_1] at *; omega))).symm
def cutC (c : Cs) (j : Nat) (k : Int32) : Cs := if 0 ≤ k ∧ k < c.1 (1 + j) 0 then wI c (1 + j) 0 k else c
set_option maxRecDepth 100000 in
set_option maxHeartbeats 4000000 in
theorem c_Row_cut (l : Launch) {D : Dt} (hD : OkD D) {j : Nat} {c : Cs} {τ : Cs × (Nat → Int64)} {k : Int32} (hj : j < 9) : Ct l D y_Row_cut b_Row_cut 2 none 1 [.int k, .ref (aRow D j)] ((c, τ) : Sg) (none) ((cutC c j k, τ) : Sg) := by
  refine Ct.of hD (by decide) (Nat.le_of_ble_eq_true rfl) [(0, some (.ref (aRow D j))), (1, some (.int k))] rfl (fun X hX C => ?_)
  subst hX
  refine g_iload_n (pc := 0) (i := 1) C d_Row_cut_0 rfl rfl ?_
  refine g_if_lt (pc := 1) (tgt := 17) C d_Row_cut_1 (by decide) (fun h1 => ?_) (fun h1 => ?_)
  · skip
    refine g_vret (pc := 17) C d_Row_cut_17 ?_
    refine ⟨rfl, ?_⟩
    unfold cutC
    first | exact (congrArg (fun q => (q, τ)) (if_pos (by constructor <;> (simp only [Int32.lt_iff_toInt_lt, Int32.le_iff_toInt_le, Int32.toInt_zero, i32_1] at *; omega)))).symm | exact (congrArg (fun q => (q, τ)) (if_neg (by intro h; obtain ⟨ha, hb⟩ := h; (simp only [Int32.lt_iff_toInt_lt, Int32.le_iff_toInt_le, Int32.toInt_zero, i32_1] at *; omega)))).symm
  · skip
    refine g_iload_n (pc := 4) (i := 1) C d_Row_cut_4 rfl rfl ?_
    refine g_aload_n (pc := 5) (i := 0) C d_Row_cut_5 rfl rfl ?_
    refine gf_Row_length (pc := 6) C (by omega) fl_Row_13 d_Row_cut_6 ?_
    refine g_icmp_ge (pc := 9) (tgt := 17) C d_Row_cut_9 (by decide) (fun h9 => ?_) (fun h9 => ?_)
    · skip
      refine g_vret (pc := 17) C d_Row_cut_17 ?_
      refine ⟨rfl, ?_⟩
      unfold cutC
      first | exact (congrArg (fun q => (q, τ)) (if_pos (by constructor <;> (simp only [Int32.lt_iff_toInt_lt, Int32.le_iff_toInt_le, Int32.toInt_zero, i32_1] at *; omega)))).symm | exact (congrArg (fun q => (q, τ)) (if_neg (by intro h; obtain ⟨ha, hb⟩ := h; (simp only [Int32.lt_iff_toInt_lt, Int32.le_iff_toInt_le, Int32.toInt_zero, i32_1] at *; omega)))).symm
    · skip
      refine g_aload_n (pc := 12) (i := 0) C d_Row_cut_12 rfl rfl ?_
      refine g_iload_n (pc := 13) (i := 1) C d_Row_cut_13 rfl rfl ?_
      refine gp_Row_length (pc := 14) C (by omega) fl_Row_13 d_Row_cut_14 ?_
      refine g_vret (pc := 17) C d_Row_cut_17 ?_
      refine ⟨rfl, ?_⟩
      unfold cutC
      first | exact (congrArg (fun q => (q, τ)) (if_pos (by constructor <;> (simp only [Int32.lt_iff_toInt_lt, Int32.le_iff_toInt_le, Int32.toInt_zero, i32_1] at *; omega)))).symm | exact (congrArg (fun q => (q, τ)) (if_neg (by intro h; obtain ⟨ha, hb⟩ := h; (simp only [Int32.lt_iff_toInt_lt, Int32.le_iff_toInt_le, Int32.toInt_zero, i32_1] at *; omega)))).symm
def atC (c : Cs) (j : Nat) (k : Int32) : Int32 := if 0 ≤ k ∧ k < c.1 (1 + j) 0 then c.1 (10 + j) k.toNatClampNeg else 0
set_option maxRecDepth 100000 in
set_option maxHeartbeats 4000000 in
theorem c_Row_at (l : Launch) {D : Dt} (hD : OkD D) {j : Nat} {c : Cs} {τ : Cs × (Nat → Int64)} {k : Int32} {n : Nat} (hj : j < 9) (hn : c.1 (1 + j) 0 = nI n) (hc : n ≤ rln j) : Ct l D y_Row_at b_Row_at 2 (some .int) 2 [.int k, .ref (aRow D j)] ((c, τ) : Sg) (some (.int (atC c j k))) ((c, τ) : Sg) := by
  refine Ct.of hD (by decide) (Nat.le_of_ble_eq_true rfl) [(0, some (.ref (aRow D j))), (1, some (.int k))] rfl (fun X hX C => ?_)
  subst hX
  refine g_aload_n (pc := 0) (i := 0) C d_Row_at_0 rfl rfl ?_
  refine g_iload_n (pc := 1) (i := 1) C d_Row_at_1 rfl rfl ?_
  refine g_callV1 (pc := 2) (As := [_]) C my_Row_has mv_Row_has cl_Row_17 (is_Row (by omega)) d_Row_at_2 (Nat.le_of_ble_eq_true rfl) rfl (Nat.le_of_ble_eq_true rfl) ⟨Nat.zero_le _, Nat.zero_le _⟩ (c_Row_has _ hD (by omega)) ?_
  refine g_if_eq (pc := 5) (tgt := 17) C d_Row_at_5 (by decide) (fun h5 => ?_) (fun h5 => ?_)
  · have hb := b1_0 h5
    refine g_iconst (pc := 17) C d_Row_at_17 ic_0 ?_
    refine g_iret (pc := 18) C d_Row_at_18 ?_
    refine ⟨congrArg (fun v => some (Value.int v)) ?_, rfl⟩
    unfold atC
    first | rw [if_pos hb] | rw [if_neg hb]
  · have hb := b1_1 h5
    obtain ⟨i, hi, rfl⟩ := nI_at (n := n) (by rw [← hn]; exact b1_1 h5) (by have := rln_le j; omega)
    refine g_aload_n (pc := 8) (i := 0) C d_Row_at_8 rfl rfl ?_
    refine gf_Row_codes (pc := 9) C (by omega) fl_Row_7 d_Row_at_9 ?_
    refine g_iload_n (pc := 12) (i := 1) C d_Row_at_12 rfl rfl ?_
    refine ga_row (pc := 13) C (by omega) (vp_in_nI (Nat.lt_of_lt_of_le hi hc) (by have := rln_le j; omega)) d_Row_at_13 ?_
    refine g_goto (pc := 14) (tgt := 18) C d_Row_at_14 (by decide) ?_
    refine g_iret (pc := 18) C d_Row_at_18 ?_
    refine ⟨congrArg (fun v => some (Value.int v)) ?_, rfl⟩
    unfold atC
    first | rw [if_pos hb] | rw [if_neg hb]
set_option maxRecDepth 100000 in
set_option maxHeartbeats 4000000 in
theorem c_Row_flip (l : Launch) {D : Dt} (hD : OkD D) {j : Nat} {c : Cs} {τ : Cs × (Nat → Int64)} {k x : Int32} {n : Nat} (hj : j < 9) (hn : c.1 (1 + j) 0 = nI n) (hc : n ≤ rln j) : Ct l D y_Row_flip b_Row_flip 3 none 2 [.int x, .int k, .ref (aRow D j)] ((c, τ) : Sg) (none) ((if 0 ≤ k ∧ k < c.1 (1 + j) 0 then wI c (10 + j) k.toNatClampNeg (c.1 (10 + j) k.toNatClampNeg ^^^ x) else c, τ) : Sg) := by
  refine Ct.of hD (by decide) (Nat.le_of_ble_eq_true rfl) [(0, some (.ref (aRow D j))), (1, some (.int k)), (2, some (.int x))] rfl (fun X hX C => ?_)
  subst hX
  refine g_aload_n (pc := 0) (i := 0) C d_Row_flip_0 rfl rfl ?_
  refine g_iload_n (pc := 1) (i := 1) C d_Row_flip_1 rfl rfl ?_
  refine g_callV1 (pc := 2) (As := [_]) C my_Row_has mv_Row_has cl_Row_17 (is_Row (by omega)) d_Row_flip_2 (Nat.le_of_ble_eq_true rfl) rfl (Nat.le_of_ble_eq_true rfl) ⟨Nat.zero_le _, Nat.zero_le _⟩ (c_Row_has _ hD (by omega)) ?_
  refine g_if_eq (pc := 5) (tgt := 18) C d_Row_flip_5 (by decide) (fun h5 => ?_) (fun h5 => ?_)
  · have hb := b1_0 h5
    refine g_vret (pc := 18) C d_Row_flip_18 ?_
    refine ⟨rfl, ?_⟩
    first | rw [if_pos hb] | rw [if_neg hb]
  · have hb := b1_1 h5
    obtain ⟨i, hi, rfl⟩ := nI_at (n := n) (by rw [← hn]; exact b1_1 h5) (by have := rln_le j; omega)
    refine g_aload_n (pc := 8) (i := 0) C d_Row_flip_8 rfl rfl ?_
    refine gf_Row_codes (pc := 9) C (by omega) fl_Row_7 d_Row_flip_9 ?_
    refine g_iload_n (pc := 12) (i := 1) C d_Row_flip_12 rfl rfl ?_
    refine g_dup2 (pc := 13) C d_Row_flip_13 rfl rfl ?_
    refine ga_row (pc := 14) C (by omega) (vp_in_nI (Nat.lt_of_lt_of_le hi hc) (by have := rln_le j; omega)) d_Row_flip_14 ?_
    refine g_iload_n (pc := 15) (i := 2) C d_Row_flip_15 rfl rfl ?_
    refine g_ixor (pc := 16) C d_Row_flip_16 ?_
    refine gs_row (pc := 17) C (by omega) (vp_in_nI (Nat.lt_of_lt_of_le hi hc) (by have := rln_le j; omega)) d_Row_flip_17 ?_
    refine g_vret (pc := 18) C d_Row_flip_18 ?_
    refine ⟨rfl, ?_⟩
    first | rw [if_pos hb] | rw [if_neg hb]
theorem rm_1 {n N : Nat} (hc : n ≤ N) (hN : N ≤ 600) : (0 ≤ (1 : Int32) ∧ (1 : Int32) ≤ nI N - nI n) ↔ n < N := by
  have h1 : nI N - nI n = nI (N - n) := pk_sub hc
  rw [h1]
  have h2 := nI_toInt (n := N - n) (by omega)
  constructor
  · intro h
    have h3 := Int32.le_iff_toInt_le.mp h.2
    rw [h2, i32_1] at h3
    omega
  · intro h
    refine ⟨by decide, Int32.le_iff_toInt_le.mpr ?_⟩
    rw [h2, i32_1]
    omega
def addC (c : Cs) (j n : Nat) (v : Int32) : Cs := wI (wI c (10 + j) n v) (1 + j) 0 (nI (n + 1))
set_option maxRecDepth 100000 in
set_option maxHeartbeats 4000000 in
theorem c_Row_add (l : Launch) {D : Dt} (hD : OkD D) {j : Nat} {c : Cs} {τ : Cs × (Nat → Int64)} {v : Int32} {n : Nat} (hj : j < 9) (hn : c.1 (1 + j) 0 = nI n) (hc : n ≤ rln j) : Ct l D y_Row_add b_Row_add 2 (some .boolean) 2 [.int v, .ref (aRow D j)] ((c, τ) : Sg) (some (.int (b1 (n < rln j)))) ((if n < rln j then addC c j n v else c, τ) : Sg) := by
  refine Ct.of hD (by decide) (Nat.le_of_ble_eq_true rfl) [(0, some (.ref (aRow D j))), (1, some (.int v))] rfl (fun X hX C => ?_)
  subst hX
  refine g_aload_n (pc := 0) (i := 0) C d_Row_add_0 rfl rfl ?_
  refine g_iconst (pc := 1) C d_Row_add_1 ic_1 ?_
  refine g_callV1 (pc := 2) (As := [_]) C my_Row_hasRoomFor mv_Row_hasRoomFor cl_Row_21 (is_Row (by omega)) d_Row_add_2 (Nat.le_of_ble_eq_true rfl) rfl (Nat.le_of_ble_eq_true rfl) ⟨Nat.zero_le _, Nat.zero_le _⟩ (c_Row_hasRoomFor _ hD (by omega)) ?_
  refine g_if_ne (pc := 5) (tgt := 10) C d_Row_add_5 (by decide) (fun h5 => ?_) (fun h5 => ?_)
  · have hb := (rm_1 hc (rln_le j)).mp (by rw [← hn]; exact b1_1 h5)
    refine g_aload_n (pc := 10) (i := 0) C d_Row_add_10 rfl rfl ?_
    refine gf_Row_codes (pc := 11) C (by omega) fl_Row_7 d_Row_add_11 ?_
    refine g_aload_n (pc := 14) (i := 0) C d_Row_add_14 rfl rfl ?_
    refine gf_Row_length (pc := 15) C (by omega) fl_Row_13 d_Row_add_15 ?_
    rw [hn]
    refine g_iload_n (pc := 18) (i := 1) C d_Row_add_18 rfl rfl ?_
    refine gs_row (pc := 19) C (by omega) (vp_in_nI hb (by have := rln_le j; omega)) d_Row_add_19 ?_
    rw [nI_clamp (by have := rln_le j; omega)]
    refine g_aload_n (pc := 20) (i := 0) C d_Row_add_20 rfl rfl ?_
    refine g_dup (pc := 21) C d_Row_add_21 rfl ?_
    refine gf_Row_length (pc := 22) C (by omega) fl_Row_13 d_Row_add_22 ?_
    rw [wI_1n (by omega), hn]
    refine g_iconst (pc := 25) C d_Row_add_25 ic_1 ?_
    refine g_iadd (pc := 26) C d_Row_add_26 ?_
    rw [nI_1]
    refine gp_Row_length (pc := 27) C (by omega) fl_Row_13 d_Row_add_27 ?_
    refine g_iconst (pc := 30) C d_Row_add_30 ic_1 ?_
    refine g_zret (pc := 31) C d_Row_add_31 (by first | exact Or.inl rfl | exact Or.inr rfl) ?_
    refine ⟨congrArg (fun v => some (Value.int v)) ?_, ?_⟩
    · first | exact (b1_t hb).symm | exact (b1_f hb).symm
    · first | rw [if_pos hb]; rfl | rw [if_neg hb]
  · have hb : ¬ n < rln j := fun h => b1_0 h5 (by rw [hn]; exact (rm_1 hc (rln_le j)).mpr h)
    refine g_iconst (pc := 8) C d_Row_add_8 ic_0 ?_
    refine g_zret (pc := 9) C d_Row_add_9 (by first | exact Or.inl rfl | exact Or.inr rfl) ?_
    refine ⟨congrArg (fun v => some (Value.int v)) ?_, ?_⟩
    · first | exact (b1_t hb).symm | exact (b1_f hb).symm
    · first | rw [if_pos hb]; rfl | rw [if_neg hb]
theorem rm_k {n N k : Nat} (hc : n ≤ N) (hN : N ≤ 600) (hk : k < 2 ^ 20) : (0 ≤ nI k ∧ nI k ≤ nI N - nI n) ↔ n + k ≤ N := by
  rw [pk_sub hc, nI_leI (by omega) (by omega)]
  constructor
  · intro h
    have := h.2
    omega
  · intro h
    exact ⟨nI_pos' (by omega), by omega⟩
theorem le_sub {m f k : Nat} (hm : m < 2 ^ 20) (hf : f < 2 ^ 20) (hk : k < 2 ^ 20) : nI k ≤ nI m - nI f ↔ f + k ≤ m := by
  rw [Int32.le_iff_toInt_le, pk_sub_toInt (by omega) (by omega), nI_toInt (by omega)]
  omega
def adpC (c : Cs) (i j f k n : Nat) : Cs := wI (wA c (10 + j) (va_cpy (c.1 (10 + i)) (c.1 (10 + j)) f n k)) (1 + j) 0 (nI (n + k))
set_option maxRecDepth 100000 in
set_option maxHeartbeats 4000000 in
theorem c_Row_addPart (l : Launch) {D : Dt} (hD : OkD D) {j : Nat} {c : Cs} {τ : Cs × (Nat → Int64)} {i n m f k : Nat} (hj : j < 9) (hi : i < 9) (hn : c.1 (1 + j) 0 = nI n) (hc : n ≤ rln j) (hm : c.1 (1 + i) 0 = nI m) (hmc : m ≤ rln i) (hf : f < 2 ^ 20) (hk : k < 2 ^ 20) : Ct l D y_Row_addPart b_Row_addPart 4 (some .boolean) 2 [.int (nI k), .int (nI f), .ref (aRow D i), .ref (aRow D j)] ((c, τ) : Sg) (some (.int (b1 (n + k ≤ rln j ∧ f + k ≤ m)))) ((if n + k ≤ rln j ∧ f + k ≤ m then adpC c i j f k n else c, τ) : Sg) := by
  refine Ct.of hD (by decide) (Nat.le_of_ble_eq_true rfl) [(0, some (.ref (aRow D j))), (1, some (.ref (aRow D i))), (2, some (.int (nI f))), (3, some (.int (nI k)))] rfl (fun X hX C => ?_)
  subst hX
  have q1 := rln_le j
  have q2 := rln_le i
  refine g_aload_n (pc := 0) (i := 0) C d_Row_addPart_0 rfl rfl ?_
  refine g_iload_n (pc := 1) (i := 3) C d_Row_addPart_1 rfl rfl ?_
  refine g_callV1 (pc := 2) (As := [_]) C my_Row_hasRoomFor mv_Row_hasRoomFor cl_Row_21 (is_Row (by omega)) d_Row_addPart_2 (Nat.le_of_ble_eq_true rfl) rfl (Nat.le_of_ble_eq_true rfl) ⟨Nat.zero_le _, Nat.zero_le _⟩ (c_Row_hasRoomFor _ hD (by omega)) ?_
  refine g_if_eq (pc := 5) (tgt := 22) C d_Row_addPart_5 (by decide) (fun h5 => ?_) (fun h5 => ?_)
  · have hb : ¬ (n + k ≤ rln j ∧ f + k ≤ m) := fun h => b1_0 h5 (by rw [hn]; exact (rm_k hc q1 hk).mpr h.1)
    refine g_iconst (pc := 22) C d_Row_addPart_22 ic_0 ?_
    refine g_zret (pc := 23) C d_Row_addPart_23 (by first | exact Or.inl rfl | exact Or.inr rfl) ?_
    exact ⟨by rw [b1_f hb], by rw [if_neg hb]⟩
  · have ha : n + k ≤ rln j := (rm_k hc q1 hk).mp (by rw [← hn]; exact b1_1 h5)
    refine g_iload_n (pc := 8) (i := 2) C d_Row_addPart_8 rfl rfl ?_
    refine g_if_lt (pc := 9) (tgt := 22) C d_Row_addPart_9 (by decide) (fun h9 => ?_) (fun h9 => ?_)
    · first | exact absurd h9 (nI_pos (by omega)) | exact absurd (nI_pos (by omega)) h9
    · skip
      refine g_iload_n (pc := 12) (i := 3) C d_Row_addPart_12 rfl rfl ?_
      refine g_aload_n (pc := 13) (i := 1) C d_Row_addPart_13 rfl rfl ?_
      refine gf_Row_length (pc := 14) C (by omega) fl_Row_13 d_Row_addPart_14 ?_
      rw [hm]
      refine g_iload_n (pc := 17) (i := 2) C d_Row_addPart_17 rfl rfl ?_
      refine g_isub (pc := 18) C d_Row_addPart_18 ?_
      refine g_icmp_le (pc := 19) (tgt := 24) C d_Row_addPart_19 (by decide) (fun h19 => ?_) (fun h19 => ?_)
      · have hb : n + k ≤ rln j ∧ f + k ≤ m := ⟨ha, (le_sub (by omega) hf hk).mp h19⟩
        refine g_aload_n (pc := 24) (i := 1) C d_Row_addPart_24 rfl rfl ?_
        refine gf_Row_codes (pc := 25) C (by omega) fl_Row_7 d_Row_addPart_25 ?_
        refine g_iload_n (pc := 28) (i := 2) C d_Row_addPart_28 rfl rfl ?_
        refine g_aload_n (pc := 29) (i := 0) C d_Row_addPart_29 rfl rfl ?_
        refine gf_Row_codes (pc := 30) C (by omega) fl_Row_7 d_Row_addPart_30 ?_
        refine g_aload_n (pc := 33) (i := 0) C d_Row_addPart_33 rfl rfl ?_
        refine gf_Row_length (pc := 34) C (by omega) fl_Row_13 d_Row_addPart_34 ?_
        rw [hn]
        refine g_iload_n (pc := 37) (i := 3) C d_Row_addPart_37 rfl rfl ?_
        refine g_copy (pc := 38) C (by omega) (by omega) (by omega) (by omega) jl_Row_30 d_Row_addPart_38 (by decide) (Nat.le_of_ble_eq_true rfl) ?_
        refine g_aload_n (pc := 41) (i := 0) C d_Row_addPart_41 rfl rfl ?_
        refine g_dup (pc := 42) C d_Row_addPart_42 rfl ?_
        refine gf_Row_length (pc := 43) C (by omega) fl_Row_13 d_Row_addPart_43 ?_
        rw [wA_1n (by omega), hn]
        refine g_iload_n (pc := 46) (i := 3) C d_Row_addPart_46 rfl rfl ?_
        refine g_iadd (pc := 47) C d_Row_addPart_47 ?_
        rw [nI_add]
        refine gp_Row_length (pc := 48) C (by omega) fl_Row_13 d_Row_addPart_48 ?_
        refine g_iconst (pc := 51) C d_Row_addPart_51 ic_1 ?_
        refine g_zret (pc := 52) C d_Row_addPart_52 (by first | exact Or.inl rfl | exact Or.inr rfl) ?_
        exact ⟨by rw [b1_t hb], by rw [if_pos hb]; rfl⟩
      · have hb : ¬ (n + k ≤ rln j ∧ f + k ≤ m) := fun h => h19 ((le_sub (by omega) hf hk).mpr h.2)
        refine g_iconst (pc := 22) C d_Row_addPart_22 ic_0 ?_
        refine g_zret (pc := 23) C d_Row_addPart_23 (by first | exact Or.inl rfl | exact Or.inr rfl) ?_
        exact ⟨by rw [b1_f hb], by rw [if_neg hb]⟩
set_option maxRecDepth 100000 in
set_option maxHeartbeats 4000000 in
theorem c_JA_rangeCheck (l : Launch) {D : Dt} (hD : OkD D) {N a b : Nat} {σ : Sg} (hab : a ≤ b) (hb : b ≤ N) (hN : N ≤ 600) : Ct l D y_JA_rangeCheck b_JA_rangeCheck 3 none 1 [.int (nI b), .int (nI a), .int (nI N)] σ (none) σ := by
  refine Ct.of hD (by decide) (Nat.le_of_ble_eq_true rfl) [(0, some (.int (nI N))), (1, some (.int (nI a))), (2, some (.int (nI b)))] rfl (fun X hX C => ?_)
  subst hX
  refine g_iload_n (pc := 0) (i := 1) C d_JA_rangeCheck_0 rfl rfl ?_
  refine g_iload_n (pc := 1) (i := 2) C d_JA_rangeCheck_1 rfl rfl ?_
  refine g_icmp_le (pc := 2) (tgt := 46) C d_JA_rangeCheck_2 (by decide) (fun h2 => ?_) (fun h2 => ?_)
  · skip
    refine g_iload_n (pc := 46) (i := 1) C d_JA_rangeCheck_46 rfl rfl ?_
    refine g_if_ge (pc := 47) (tgt := 59) C d_JA_rangeCheck_47 (by decide) (fun h47 => ?_) (fun h47 => ?_)
    · skip
      refine g_iload_n (pc := 59) (i := 2) C d_JA_rangeCheck_59 rfl rfl ?_
      refine g_iload_n (pc := 60) (i := 0) C d_JA_rangeCheck_60 rfl rfl ?_
      refine g_icmp_le (pc := 61) (tgt := 73) C d_JA_rangeCheck_61 (by decide) (fun h61 => ?_) (fun h61 => ?_)
      · skip
        refine g_vret (pc := 73) C d_JA_rangeCheck_73 ?_
        exact ⟨rfl, rfl⟩
      · first | exact absurd h61 (nI_le hb (by omega)) | exact absurd (nI_le hb (by omega)) h61
    · first | exact absurd h47 (nI_pos' (by omega)) | exact absurd (nI_pos' (by omega)) h47
  · first | exact absurd h2 (nI_le hab (by omega)) | exact absurd (nI_le hab (by omega)) h2
def fil (g : Nat → Int32) (a i : Nat) (v : Int32) : Nat → Int32 := fun q => if a ≤ q ∧ q < i then v else g q
theorem fil_0 (g : Nat → Int32) (a : Nat) (v : Int32) : fil g a a v = g := by
  funext q
  unfold fil
  rw [if_neg (by omega)]
theorem fil_s (g : Nat → Int32) {a i : Nat} (h : a ≤ i) (v : Int32) : upd (fil g a i v) i v = fil g a (i + 1) v := by
  funext q
  unfold fil upd
  by_cases hq : q = i
  · subst hq
    rw [if_pos rfl, if_pos (by omega)]
  · rw [if_neg hq]
    show (if a ≤ q ∧ q < i then v else g q) = _
    by_cases h2 : a ≤ q ∧ q < i
    · rw [if_pos h2, if_pos (by omega)]
    · rw [if_neg h2, if_neg (by omega)]
theorem wA_id (c : Cs) (i : Nat) : wA c i (c.1 i) = c := by
  unfold wA upA
  refine Prod.ext ?_ rfl
  funext a
  by_cases h : a = i
  · subst h
    simp
  · simp [h]
theorem wI_wA (c : Cs) (i k : Nat) (g : Nat → Int32) (v : Int32) : wI (wA c i g) i k v = wA c i (upd g k v) := by
  unfold wI wA upA
  refine Prod.ext ?_ rfl
  funext a
  by_cases h : a = i
  · subst h
    simp
  · simp [h]
set_option maxRecDepth 100000 in
set_option maxHeartbeats 4000000 in
theorem c_JA_fill (l : Launch) {D : Dt} (hD : OkD D) {j : Nat} {c : Cs} {τ : Cs × (Nat → Int64)} {a b : Nat} {v : Int32} (hj : j < 9) (hab : a ≤ b) (hb : b ≤ rln j) : Ct l D y_JA_fill b_JA_fill 5 none 2 [.int v, .int (nI b), .int (nI a), .ref (aArr D j)] ((c, τ) : Sg) (none) ((wA c (10 + j) (fil (c.1 (10 + j)) a b v), τ) : Sg) := by
  have q1 := rln_le j
  refine Ct.of hD (by decide) (Nat.le_of_ble_eq_true rfl) [(0, some (.ref (aArr D j))), (1, some (.int (nI a))), (2, some (.int (nI b))), (3, some (.int v))] rfl (fun X hX C => ?_)
  subst hX
  have loop : ∀ (k i : Nat), i + k = b → a ≤ i → G X D (Qp X D (fun r2 u => r2 = none ∧ u = ((wA c (10 + j) (fil (c.1 (10 + j)) a b v), τ) : Sg))) (0, 0) ((wA c (10 + j) (fil (c.1 (10 + j)) a i v), τ) : Sg) 10 [(0, some (.ref (aArr D j))), (2, some (.int (nI b))), (3, some (.int v)), (4, some (.int (nI i)))] [] := by
    intro k
    induction k with
    | zero =>
      intro i hi ha
      have hib : i = b := by omega
      subst hib
      refine g_iload (pc := 10) C d_JA_fill_10 rfl ?_
      refine g_iload_n (pc := 12) (i := 2) C d_JA_fill_12 rfl rfl ?_
      refine g_icmp_ge (pc := 13) (tgt := 27) C d_JA_fill_13 (by decide) (fun h13 => ?_) (fun h13 => ?_)
      · skip
        refine g_vret (pc := 27) C d_JA_fill_27 ?_
        exact ⟨rfl, rfl⟩
      · first | exact absurd h13 (nI_le (Nat.le_refl _) (by omega)) | exact absurd (nI_le (Nat.le_refl _) (by omega)) h13
    | succ k ih =>
      intro i hi ha
      refine g_iload (pc := 10) C d_JA_fill_10 rfl ?_
      refine g_iload_n (pc := 12) (i := 2) C d_JA_fill_12 rfl rfl ?_
      refine g_icmp_ge (pc := 13) (tgt := 27) C d_JA_fill_13 (by decide) (fun h13 => ?_) (fun h13 => ?_)
      · first | exact absurd h13 (nI_ge (show i < b by omega) (by omega)) | exact absurd (nI_ge (show i < b by omega) (by omega)) h13
      · skip
        refine g_aload_n (pc := 16) (i := 0) C d_JA_fill_16 rfl rfl ?_
        refine g_iload (pc := 17) C d_JA_fill_17 rfl ?_
        refine g_iload_n (pc := 19) (i := 3) C d_JA_fill_19 rfl rfl ?_
        refine gs_row (pc := 20) C (by omega) (vp_in_nI (by omega) (by omega)) d_JA_fill_20 ?_
        rw [nI_clamp (by omega), wI_wA, fil_s _ ha]
        refine g_iinc (pc := 21) C d_JA_fill_21 rfl (v := nI (i + 1)) (nI_inc i) rfl ?_
        refine g_goto (pc := 24) (tgt := 10) C d_JA_fill_24 (by decide) ?_
        exact G.lf (ih (i + 1) (by omega) (by omega)) (sb rfl (sb rfl (sb rfl (sb rfl sn))))
  refine g_aload_n (pc := 0) (i := 0) C d_JA_fill_0 rfl rfl ?_
  refine gl_row (pc := 1) C (by omega) d_JA_fill_1 ?_
  refine g_iload_n (pc := 2) (i := 1) C d_JA_fill_2 rfl rfl ?_
  refine g_iload_n (pc := 3) (i := 2) C d_JA_fill_3 rfl rfl ?_
  refine g_callS0 (pc := 4) (As := [_, _, _]) C my_JA_rangeCheck ms_JA_rangeCheck cl_JA_13 d_JA_fill_4 (Nat.le_of_ble_eq_true rfl) rfl (Nat.le_of_ble_eq_true rfl) ⟨Nat.zero_le _, Nat.zero_le _⟩ (c_JA_rangeCheck _ hD (by omega) (by omega) (by omega)) ?_
  refine g_iload_n (pc := 7) (i := 1) C d_JA_fill_7 rfl rfl ?_
  refine g_istore (pc := 8) C d_JA_fill_8 (by decide) rfl ?_
  have h0 := loop (b - a) a (by omega) (Nat.le_refl _)
  rw [fil_0, wA_id] at h0
  exact G.lf h0 (sb rfl (sb rfl (sb rfl (sb rfl sn))))
def arnC (c : Cs) (j n k : Nat) (v : Int32) : Cs := wI (wA c (10 + j) (fil (c.1 (10 + j)) n (n + k) v)) (1 + j) 0 (nI (n + k))
set_option maxRecDepth 100000 in
set_option maxHeartbeats 4000000 in
theorem c_Row_addRun (l : Launch) {D : Dt} (hD : OkD D) {j : Nat} {c : Cs} {τ : Cs × (Nat → Int64)} {n k : Nat} {v : Int32} (hj : j < 9) (hn : c.1 (1 + j) 0 = nI n) (hc : n ≤ rln j) (hk : k < 2 ^ 20) : Ct l D y_Row_addRun b_Row_addRun 3 (some .boolean) 3 [.int (nI k), .int v, .ref (aRow D j)] ((c, τ) : Sg) (some (.int (b1 (n + k ≤ rln j)))) ((if n + k ≤ rln j then arnC c j n k v else c, τ) : Sg) := by
  refine Ct.of hD (by decide) (Nat.le_of_ble_eq_true rfl) [(0, some (.ref (aRow D j))), (1, some (.int v)), (2, some (.int (nI k)))] rfl (fun X hX C => ?_)
  subst hX
  have q1 := rln_le j
  refine g_aload_n (pc := 0) (i := 0) C d_Row_addRun_0 rfl rfl ?_
  refine g_iload_n (pc := 1) (i := 2) C d_Row_addRun_1 rfl rfl ?_
  refine g_callV1 (pc := 2) (As := [_]) C my_Row_hasRoomFor mv_Row_hasRoomFor cl_Row_21 (is_Row (by omega)) d_Row_addRun_2 (Nat.le_of_ble_eq_true rfl) rfl (Nat.le_of_ble_eq_true rfl) ⟨Nat.zero_le _, Nat.zero_le _⟩ (c_Row_hasRoomFor _ hD (by omega)) ?_
  refine g_if_ne (pc := 5) (tgt := 10) C d_Row_addRun_5 (by decide) (fun h5 => ?_) (fun h5 => ?_)
  · have hb : n + k ≤ rln j := (rm_k hc q1 hk).mp (by rw [← hn]; exact b1_1 h5)
    refine g_aload_n (pc := 10) (i := 0) C d_Row_addRun_10 rfl rfl ?_
    refine gf_Row_codes (pc := 11) C (by omega) fl_Row_7 d_Row_addRun_11 ?_
    refine g_aload_n (pc := 14) (i := 0) C d_Row_addRun_14 rfl rfl ?_
    refine gf_Row_length (pc := 15) C (by omega) fl_Row_13 d_Row_addRun_15 ?_
    rw [hn]
    refine g_aload_n (pc := 18) (i := 0) C d_Row_addRun_18 rfl rfl ?_
    refine gf_Row_length (pc := 19) C (by omega) fl_Row_13 d_Row_addRun_19 ?_
    rw [hn]
    refine g_iload_n (pc := 22) (i := 2) C d_Row_addRun_22 rfl rfl ?_
    refine g_iadd (pc := 23) C d_Row_addRun_23 ?_
    rw [nI_add]
    refine g_iload_n (pc := 24) (i := 1) C d_Row_addRun_24 rfl rfl ?_
    refine g_callS0 (pc := 25) (As := [_, _, _, _]) C my_JA_fill ms_JA_fill cl_Row_24 d_Row_addRun_25 (Nat.le_of_ble_eq_true rfl) rfl (Nat.le_of_ble_eq_true rfl) ⟨Nat.zero_le _, Nat.zero_le _⟩ (c_JA_fill _ hD (by omega) (by omega) (by omega)) ?_
    refine g_aload_n (pc := 28) (i := 0) C d_Row_addRun_28 rfl rfl ?_
    refine g_dup (pc := 29) C d_Row_addRun_29 rfl ?_
    refine gf_Row_length (pc := 30) C (by omega) fl_Row_13 d_Row_addRun_30 ?_
    rw [wA_1n (by omega), hn]
    refine g_iload_n (pc := 33) (i := 2) C d_Row_addRun_33 rfl rfl ?_
    refine g_iadd (pc := 34) C d_Row_addRun_34 ?_
    rw [nI_add]
    refine gp_Row_length (pc := 35) C (by omega) fl_Row_13 d_Row_addRun_35 ?_
    refine g_iconst (pc := 38) C d_Row_addRun_38 ic_1 ?_
    refine g_zret (pc := 39) C d_Row_addRun_39 (by first | exact Or.inl rfl | exact Or.inr rfl) ?_
    exact ⟨by rw [b1_t hb], by rw [if_pos hb]; rfl⟩
  · have hb : ¬ (n + k ≤ rln j) := fun h => b1_0 h5 (by rw [hn]; exact (rm_k hc q1 hk).mpr h)
    refine g_iconst (pc := 8) C d_Row_addRun_8 ic_0 ?_
    refine g_zret (pc := 9) C d_Row_addRun_9 (by first | exact Or.inl rfl | exact Or.inr rfl) ?_
    exact ⟨by rw [b1_f hb], by rw [if_neg hb]⟩
def repC (c : Cs) (i j a b f k n : Nat) : Cs :=
  wI (wA (wA c (10 + j) (va_cpy (c.1 (10 + j)) (c.1 (10 + j)) b (a + k) (n - b))) (10 + j) (va_cpy ((wA c (10 + j) (va_cpy (c.1 (10 + j)) (c.1 (10 + j)) b (a + k) (n - b))).1 (10 + i)) ((wA c (10 + j) (va_cpy (c.1 (10 + j)) (c.1 (10 + j)) b (a + k) (n - b))).1 (10 + j)) f a k)) (1 + j) 0 (nI (n - (b - a) + k))
set_option maxRecDepth 100000 in
set_option maxHeartbeats 4000000 in
theorem c_Row_replace (l : Launch) {D : Dt} (hD : OkD D) {j : Nat} {c : Cs} {τ : Cs × (Nat → Int64)} {i n m f k a b : Nat} (hj : j < 9) (hi : i < 9) (hn : c.1 (1 + j) 0 = nI n) (hc : n ≤ rln j) (hm : c.1 (1 + i) 0 = nI m) (hmc : m ≤ rln i) (hf : f < 2 ^ 20) (hk : k < 2 ^ 20) (ha : a < 2 ^ 20) (hb : b < 2 ^ 20) : Ct l D y_Row_replace b_Row_replace 7 (some .boolean) 2 [.int (nI k), .int (nI f), .ref (aRow D i), .int (nI b), .int (nI a), .ref (aRow D j)] ((c, τ) : Sg) (some (.int (b1 (a ≤ b ∧ b ≤ n ∧ f + k ≤ m ∧ n - (b - a) + k ≤ rln j)))) ((if a ≤ b ∧ b ≤ n ∧ f + k ≤ m ∧ n - (b - a) + k ≤ rln j then repC c i j a b f k n else c, τ) : Sg) := by
  refine Ct.of hD (by decide) (Nat.le_of_ble_eq_true rfl) [(0, some (.ref (aRow D j))), (1, some (.int (nI a))), (2, some (.int (nI b))), (3, some (.ref (aRow D i))), (4, some (.int (nI f))), (5, some (.int (nI k)))] rfl (fun X hX C => ?_)
  subst hX
  have q1 := rln_le j
  have q2 := rln_le i
  refine g_iload_n (pc := 0) (i := 1) C d_Row_replace_0 rfl rfl ?_
  refine g_if_lt (pc := 1) (tgt := 17) C d_Row_replace_1 (by decide) (fun h1 => ?_) (fun h1 => ?_)
  · first | exact absurd h1 (nI_pos (by omega)) | exact absurd (nI_pos (by omega)) h1
  · skip
    refine g_iload_n (pc := 4) (i := 1) C d_Row_replace_4 rfl rfl ?_
    refine g_iload_n (pc := 5) (i := 2) C d_Row_replace_5 rfl rfl ?_
    refine g_icmp_gt (pc := 6) (tgt := 17) C d_Row_replace_6 (by decide) (fun h6 => ?_) (fun h6 => ?_)
    · have hx : ¬ (a ≤ b ∧ b ≤ n ∧ f + k ≤ m ∧ n - (b - a) + k ≤ rln j) := fun h => absurd h6 (nI_nlt h.1 (by omega))
      refine g_iconst (pc := 17) C d_Row_replace_17 ic_0 ?_
      refine g_zret (pc := 18) C d_Row_replace_18 (by first | exact Or.inl rfl | exact Or.inr rfl) ?_
      exact ⟨by rw [b1_f hx], by rw [if_neg hx]⟩
    · have h1 : a ≤ b := Nat.not_lt.mp fun h => h6 (nI_lt h (by omega))
      refine g_iload_n (pc := 9) (i := 2) C d_Row_replace_9 rfl rfl ?_
      refine g_aload_n (pc := 10) (i := 0) C d_Row_replace_10 rfl rfl ?_
      refine gf_Row_length (pc := 11) C (by omega) fl_Row_13 d_Row_replace_11 ?_
      rw [hn]
      refine g_icmp_le (pc := 14) (tgt := 19) C d_Row_replace_14 (by decide) (fun h14 => ?_) (fun h14 => ?_)
      · have h2 : b ≤ n := (nI_leI (by omega) (by omega)).mp h14
        refine g_iload (pc := 19) C d_Row_replace_19 rfl ?_
        refine g_if_lt (pc := 21) (tgt := 41) C d_Row_replace_21 (by decide) (fun h21 => ?_) (fun h21 => ?_)
        · first | exact absurd h21 (nI_pos (by omega)) | exact absurd (nI_pos (by omega)) h21
        · skip
          refine g_iload (pc := 24) C d_Row_replace_24 rfl ?_
          refine g_if_lt (pc := 26) (tgt := 41) C d_Row_replace_26 (by decide) (fun h26 => ?_) (fun h26 => ?_)
          · first | exact absurd h26 (nI_pos (by omega)) | exact absurd (nI_pos (by omega)) h26
          · skip
            refine g_iload (pc := 29) C d_Row_replace_29 rfl ?_
            refine g_aload_n (pc := 31) (i := 3) C d_Row_replace_31 rfl rfl ?_
            refine gf_Row_length (pc := 32) C (by omega) fl_Row_13 d_Row_replace_32 ?_
            rw [hm]
            refine g_iload (pc := 35) C d_Row_replace_35 rfl ?_
            refine g_isub (pc := 37) C d_Row_replace_37 ?_
            refine g_icmp_le (pc := 38) (tgt := 43) C d_Row_replace_38 (by decide) (fun h38 => ?_) (fun h38 => ?_)
            · have h3 : f + k ≤ m := (le_sub (by omega) hf hk).mp h38
              refine g_aload_n (pc := 43) (i := 0) C d_Row_replace_43 rfl rfl ?_
              refine gf_Row_length (pc := 44) C (by omega) fl_Row_13 d_Row_replace_44 ?_
              rw [hn]
              refine g_iload_n (pc := 47) (i := 2) C d_Row_replace_47 rfl rfl ?_
              refine g_iload_n (pc := 48) (i := 1) C d_Row_replace_48 rfl rfl ?_
              refine g_isub (pc := 49) C d_Row_replace_49 ?_
              refine g_isub (pc := 50) C d_Row_replace_50 ?_
              refine g_iload (pc := 51) C d_Row_replace_51 rfl ?_
              refine g_iadd (pc := 53) C d_Row_replace_53 ?_
              rw [pk_sub h1, pk_sub (by omega), nI_add]
              refine g_istore (pc := 54) C d_Row_replace_54 (by decide) rfl ?_
              refine g_iload (pc := 56) C d_Row_replace_56 rfl ?_
              refine g_aload_n (pc := 58) (i := 0) C d_Row_replace_58 rfl rfl ?_
              refine gf_Row_codes (pc := 59) C (by omega) fl_Row_7 d_Row_replace_59 ?_
              refine gl_row (pc := 62) C (by omega) d_Row_replace_62 ?_
              refine g_icmp_le (pc := 63) (tgt := 68) C d_Row_replace_63 (by decide) (fun h63 => ?_) (fun h63 => ?_)
              · have hx : a ≤ b ∧ b ≤ n ∧ f + k ≤ m ∧ n - (b - a) + k ≤ rln j := ⟨h1, h2, h3, (nI_leI (by omega) (by omega)).mp h63⟩
                have h4 := hx.2.2.2
                refine g_aload_n (pc := 68) (i := 0) C d_Row_replace_68 rfl rfl ?_
                refine gf_Row_codes (pc := 69) C (by omega) fl_Row_7 d_Row_replace_69 ?_
                refine g_iload_n (pc := 72) (i := 2) C d_Row_replace_72 rfl rfl ?_
                refine g_aload_n (pc := 73) (i := 0) C d_Row_replace_73 rfl rfl ?_
                refine gf_Row_codes (pc := 74) C (by omega) fl_Row_7 d_Row_replace_74 ?_
                refine g_iload_n (pc := 77) (i := 1) C d_Row_replace_77 rfl rfl ?_
                refine g_iload (pc := 78) C d_Row_replace_78 rfl ?_
                refine g_iadd (pc := 80) C d_Row_replace_80 ?_
                rw [nI_add]
                refine g_aload_n (pc := 81) (i := 0) C d_Row_replace_81 rfl rfl ?_
                refine gf_Row_length (pc := 82) C (by omega) fl_Row_13 d_Row_replace_82 ?_
                rw [hn]
                refine g_iload_n (pc := 85) (i := 2) C d_Row_replace_85 rfl rfl ?_
                refine g_isub (pc := 86) C d_Row_replace_86 ?_
                rw [pk_sub h2]
                refine g_copy (pc := 87) C (by omega) (by omega) (by omega) (by omega) jl_Row_30 d_Row_replace_87 (by decide) (Nat.le_of_ble_eq_true rfl) ?_
                refine g_aload_n (pc := 90) (i := 3) C d_Row_replace_90 rfl rfl ?_
                refine gf_Row_codes (pc := 91) C (by omega) fl_Row_7 d_Row_replace_91 ?_
                refine g_iload (pc := 94) C d_Row_replace_94 rfl ?_
                refine g_aload_n (pc := 96) (i := 0) C d_Row_replace_96 rfl rfl ?_
                refine gf_Row_codes (pc := 97) C (by omega) fl_Row_7 d_Row_replace_97 ?_
                refine g_iload_n (pc := 100) (i := 1) C d_Row_replace_100 rfl rfl ?_
                refine g_iload (pc := 101) C d_Row_replace_101 rfl ?_
                refine g_copy (pc := 103) C (by omega) (by omega) (by omega) (by omega) jl_Row_30 d_Row_replace_103 (by decide) (Nat.le_of_ble_eq_true rfl) ?_
                refine g_aload_n (pc := 106) (i := 0) C d_Row_replace_106 rfl rfl ?_
                refine g_iload (pc := 107) C d_Row_replace_107 rfl ?_
                refine gp_Row_length (pc := 109) C (by omega) fl_Row_13 d_Row_replace_109 ?_
                refine g_iconst (pc := 112) C d_Row_replace_112 ic_1 ?_
                refine g_zret (pc := 113) C d_Row_replace_113 (by first | exact Or.inl rfl | exact Or.inr rfl) ?_
                exact ⟨by rw [b1_t hx], by rw [if_pos hx]; rfl⟩
              · have hx : ¬ (a ≤ b ∧ b ≤ n ∧ f + k ≤ m ∧ n - (b - a) + k ≤ rln j) := fun h => h63 ((nI_leI (by omega) (by omega)).mpr h.2.2.2)
                refine g_iconst (pc := 66) C d_Row_replace_66 ic_0 ?_
                refine g_zret (pc := 67) C d_Row_replace_67 (by first | exact Or.inl rfl | exact Or.inr rfl) ?_
                exact ⟨by rw [b1_f hx], by rw [if_neg hx]⟩
            · have hx : ¬ (a ≤ b ∧ b ≤ n ∧ f + k ≤ m ∧ n - (b - a) + k ≤ rln j) := fun h => h38 ((le_sub (by omega) hf hk).mpr h.2.2.1)
              refine g_iconst (pc := 41) C d_Row_replace_41 ic_0 ?_
              refine g_zret (pc := 42) C d_Row_replace_42 (by first | exact Or.inl rfl | exact Or.inr rfl) ?_
              exact ⟨by rw [b1_f hx], by rw [if_neg hx]⟩
      · have hx : ¬ (a ≤ b ∧ b ≤ n ∧ f + k ≤ m ∧ n - (b - a) + k ≤ rln j) := fun h => h14 ((nI_leI (by omega) (by omega)).mpr h.2.1)
        refine g_iconst (pc := 17) C d_Row_replace_17 ic_0 ?_
        refine g_zret (pc := 18) C d_Row_replace_18 (by first | exact Or.inl rfl | exact Or.inr rfl) ?_
        exact ⟨by rw [b1_f hx], by rw [if_neg hx]⟩
set_option maxRecDepth 100000 in
set_option maxHeartbeats 4000000 in
theorem c_Row_become (l : Launch) {D : Dt} (hD : OkD D) {j : Nat} {c : Cs} {τ : Cs × (Nat → Int64)} {i m : Nat} (hj : j < 9) (hi : i < 9) (hij : i ≠ j) (hm : c.1 (1 + i) 0 = nI m) (hmc : m ≤ rln i) (hmj : m ≤ rln j) : Ct l D y_Row_become b_Row_become 2 none 3 [.ref (aRow D i), .ref (aRow D j)] ((c, τ) : Sg) (none) ((adpC (wI c (1 + j) 0 (nI 0)) i j 0 m 0, τ) : Sg) := by
  refine Ct.of hD (by decide) (Nat.le_of_ble_eq_true rfl) [(0, some (.ref (aRow D j))), (1, some (.ref (aRow D i)))] rfl (fun X hX C => ?_)
  subst hX
  have q1 := rln_le j
  have q2 := rln_le i
  refine g_aload_n (pc := 0) (i := 0) C d_Row_become_0 rfl rfl ?_
  refine g_iconst (pc := 1) C d_Row_become_1 icn_0 ?_
  refine gp_Row_length (pc := 2) C (by omega) fl_Row_13 d_Row_become_2 ?_
  refine g_aload_n (pc := 5) (i := 0) C d_Row_become_5 rfl rfl ?_
  refine g_aload_n (pc := 6) (i := 1) C d_Row_become_6 rfl rfl ?_
  refine g_iconst (pc := 7) C d_Row_become_7 icn_0 ?_
  refine g_aload_n (pc := 8) (i := 1) C d_Row_become_8 rfl rfl ?_
  refine gf_Row_length (pc := 9) C (by omega) fl_Row_13 d_Row_become_9 ?_
  rw [wI_1n (by omega), hm]
  refine g_callV1 (pc := 12) (As := [_, _, _]) C my_Row_addPart mv_Row_addPart cl_Row_36 (is_Row (by omega)) d_Row_become_12 (Nat.le_of_ble_eq_true rfl) rfl (Nat.le_of_ble_eq_true rfl) ⟨Nat.zero_le _, Nat.zero_le _⟩ (c_Row_addPart _ hD (by omega) (by omega) (n := 0) (m := m) (by rw [wI_1s]; exact pk_us) (Nat.zero_le _) (by rw [wI_1n (by omega)]; exact hm) hmc (by omega) (by omega)) ?_
  refine g_pop (pc := 15) C d_Row_become_15 rfl ?_
  rw [if_pos ⟨by omega, by omega⟩]
  refine g_vret (pc := 16) C d_Row_become_16 ?_
  exact ⟨rfl, rfl⟩
end
section
/-! a row of the system holds a list -/
def RowIs (c : Cs) (j : Nat) (xs : List Nat) : Prop := c.1 (1 + j) 0 = nI xs.length ∧ xs.length ≤ rln j ∧ ∀ k, k < xs.length → c.1 (10 + j) k = nI (xs.getD k 0)
/-- c2 is c but at the cells of P -/
def Sm (P : Nat → Prop) (c c2 : Cs) : Prop := (∀ t, ¬ P t → c2.1 t = c.1 t) ∧ c2.2 = c.2
def Rw (j : Nat) : Nat → Prop := fun t => t = 1 + j ∨ t = 10 + j
theorem Sm.rf {P : Nat → Prop} {c : Cs} : Sm P c c := ⟨fun _ _ => rfl, rfl⟩
theorem Sm.tr {P : Nat → Prop} {c c2 c3 : Cs} (h : Sm P c c2) (g : Sm P c2 c3) : Sm P c c3 := ⟨fun t ht => (g.1 t ht).trans (h.1 t ht), g.2.trans h.2⟩
theorem Sm.up {P P2 : Nat → Prop} {c c2 : Cs} (h : Sm P c c2) (hp : ∀ t, P t → P2 t) : Sm P2 c c2 := ⟨fun t ht => h.1 t (fun q => ht (hp t q)), h.2⟩
theorem Sm.wI {P : Nat → Prop} {c : Cs} {i k : Nat} {v : Int32} (h : P i) : Sm P c (wI c i k v) := ⟨fun t ht => wI_1n (fun e => ht (e ▸ h)), rfl⟩
theorem Sm.wA {P : Nat → Prop} {c : Cs} {i : Nat} {g : Nat → Int32} (h : P i) : Sm P c (wA c i g) := ⟨fun t ht => wA_1n (fun e => ht (e ▸ h)), rfl⟩
theorem sm_cut {c : Cs} {j : Nat} {k : Int32} : Sm (Rw j) c (cutC c j k) := by
  unfold cutC
  split
  · exact Sm.wI (Or.inl rfl)
  · exact Sm.rf
theorem sm_add {c : Cs} {j n : Nat} {v : Int32} : Sm (Rw j) c (addC c j n v) := (Sm.wI (Or.inr rfl)).tr (Sm.wI (Or.inl rfl))
theorem sm_adp {c : Cs} {i j f k n : Nat} : Sm (Rw j) c (adpC c i j f k n) := (Sm.wA (Or.inr rfl)).tr (Sm.wI (Or.inl rfl))
theorem sm_arn {c : Cs} {j n k : Nat} {v : Int32} : Sm (Rw j) c (arnC c j n k v) := (Sm.wA (Or.inr rfl)).tr (Sm.wI (Or.inl rfl))
theorem sm_rep {c : Cs} {i j a b f k n : Nat} : Sm (Rw j) c (repC c i j a b f k n) := ((Sm.wA (Or.inr rfl)).tr (Sm.wA (Or.inr rfl))).tr (Sm.wI (Or.inl rfl))
theorem RowIs.sm {P : Nat → Prop} {c c2 : Cs} {j : Nat} {xs : List Nat} (h : RowIs c j xs) (hs : Sm P c c2) (h1 : ¬ P (1 + j)) (h2 : ¬ P (10 + j)) : RowIs c2 j xs := by
  refine ⟨by rw [hs.1 _ h1]; exact h.1, h.2.1, fun k hk => ?_⟩
  rw [hs.1 _ h2]
  exact h.2.2 k hk
theorem RowIs.ne {i j : Nat} (hij : i ≠ j) (hi : i < 9) (hj : j < 9) : ¬ Rw j (1 + i) ∧ ¬ Rw j (10 + i) := by
  unfold Rw
  omega
theorem RowIs.at {c : Cs} {j k : Nat} {xs : List Nat} (h : RowIs c j xs) (hk : k < 2 ^ 20) : atC c j (nI k) = nI (xs.getD k 0) := by
  have q := rln_le j
  have h2 := h.2.1
  unfold atC
  rw [h.1, nI_clamp (by omega)]
  by_cases hl : k < xs.length
  · rw [if_pos ⟨nI_pos' (by omega), nI_lt hl (by omega)⟩]
    exact h.2.2 k hl
  · rw [if_neg (fun q => absurd q.2 (nI_nlt (by omega) (by omega))), List.getD_eq_getElem?_getD, List.getElem?_eq_none (by omega)]
    exact nI_0.symm
theorem RowIs.cut {c : Cs} {j d : Nat} {xs : List Nat} (h : RowIs c j xs) (hd : d < 2 ^ 20) : RowIs (cutC c j (nI d)) j (xs.take d) := by
  have q := rln_le j
  have h2 := h.2.1
  unfold cutC
  rw [h.1]
  by_cases hl : d < xs.length
  · rw [if_pos ⟨nI_pos' (by omega), nI_lt hl (by omega)⟩]
    have e : (xs.take d).length = d := by rw [List.length_take]; omega
    refine ⟨by rw [wI_1s, e]; exact pk_us, by omega, fun k hk => ?_⟩
    rw [e] at hk
    rw [wI_1n (by omega), h.2.2 k (by omega), List.getD_eq_getElem?_getD, List.getD_eq_getElem?_getD, List.getElem?_take_of_lt hk]
  · rw [if_neg (fun q => absurd q.2 (nI_nlt (by omega) (by omega))), List.take_of_length_le (by omega)]
    exact h
theorem getD_l {xs ys : List Nat} {k : Nat} (h : k < xs.length) : (xs ++ ys).getD k 0 = xs.getD k 0 := by
  rw [List.getD_eq_getElem?_getD, List.getD_eq_getElem?_getD, List.getElem?_append_left h]
theorem getD_r {xs ys : List Nat} {k : Nat} (h : xs.length ≤ k) : (xs ++ ys).getD k 0 = ys.getD (k - xs.length) 0 := by
  rw [List.getD_eq_getElem?_getD, List.getD_eq_getElem?_getD, List.getElem?_append_right h]
theorem getD_dt {xs : List Nat} {f k q : Nat} (h : q < k) : ((xs.drop f).take k).getD q 0 = xs.getD (f + q) 0 := by
  rw [List.getD_eq_getElem?_getD, List.getD_eq_getElem?_getD, List.getElem?_take_of_lt h, List.getElem?_drop]
theorem RowIs.add {c : Cs} {j v : Nat} {xs : List Nat} (h : RowIs c j xs) (hj : j < 9) (hl : xs.length < rln j) : RowIs (addC c j xs.length (nI v)) j (xs ++ [v]) := by
  have e : (xs ++ [v]).length = xs.length + 1 := by simp
  unfold addC
  refine ⟨by rw [wI_1s, e]; exact pk_us, by omega, fun k hk => ?_⟩
  rw [e] at hk
  rw [wI_1n (by omega), wI_1s]
  by_cases hq : k = xs.length
  · subst hq
    rw [pk_us, getD_r (Nat.le_refl _), Nat.sub_self]
    rfl
  · rw [pk_un hq, getD_l (by omega)]
    exact h.2.2 k (by omega)
theorem RowIs.adp {c : Cs} {i j f k : Nat} {xs ys : List Nat} (h : RowIs c j xs) (g : RowIs c i ys) (hj : j < 9) (hi : i < 9) (h1 : xs.length + k ≤ rln j) (h2 : f + k ≤ ys.length) : RowIs (adpC c i j f k xs.length) j (xs ++ (ys.drop f).take k) := by
  have e : (xs ++ (ys.drop f).take k).length = xs.length + k := by
    rw [List.length_append, List.length_take, List.length_drop]
    omega
  unfold adpC
  refine ⟨by rw [wI_1s, e]; exact pk_us, by omega, fun q hq => ?_⟩
  rw [e] at hq
  rw [wI_1n (by omega), wA_1s]
  by_cases hl : q < xs.length
  · rw [pk_cpy_out (Or.inl hl), getD_l hl]
    exact h.2.2 q hl
  · rw [pk_cpy_in (by omega) (by omega), getD_r (by omega), getD_dt (by omega)]
    exact g.2.2 _ (by omega)
theorem RowIs.arn {c : Cs} {j k v : Nat} {xs : List Nat} (h : RowIs c j xs) (hj : j < 9) (h1 : xs.length + k ≤ rln j) : RowIs (arnC c j xs.length k (nI v)) j (xs ++ List.replicate k v) := by
  have e : (xs ++ List.replicate k v).length = xs.length + k := by simp
  unfold arnC
  refine ⟨by rw [wI_1s, e]; exact pk_us, by omega, fun q hq => ?_⟩
  rw [e] at hq
  rw [wI_1n (by omega), wA_1s]
  unfold fil
  by_cases hl : q < xs.length
  · rw [if_neg (by omega), getD_l hl]
    exact h.2.2 q hl
  · rw [if_pos (by omega), getD_r (by omega), List.getD_eq_getElem?_getD, List.getElem?_replicate, if_pos (by omega)]
    rfl
theorem RowIs.rep {c : Cs} {i j a b f k : Nat} {xs ys : List Nat} (h : RowIs c j xs) (g : RowIs c i ys) (hij : i ≠ j) (hj : j < 9) (hi : i < 9) (h1 : a ≤ b) (h2 : b ≤ xs.length) (h3 : f + k ≤ ys.length) (h4 : xs.length - (b - a) + k ≤ rln j) :
    RowIs (repC c i j a b f k xs.length) j (xs.take a ++ (ys.drop f).take k ++ xs.drop b) := by
  have e1 : (xs.take a).length = a := by rw [List.length_take]; omega
  have e2 : ((ys.drop f).take k).length = k := by rw [List.length_take, List.length_drop]; omega
  have e : (xs.take a ++ (ys.drop f).take k ++ xs.drop b).length = xs.length - (b - a) + k := by
    rw [List.length_append, List.length_append, e1, e2, List.length_drop]
    omega
  have e3 : (xs.take a ++ (ys.drop f).take k).length = a + k := by rw [List.length_append, e1, e2]
  unfold repC
  refine ⟨by rw [wI_1s, e]; exact pk_us, by omega, fun q hq => ?_⟩
  rw [e] at hq
  rw [wI_1n (by omega), wA_1s, wA_1s, wA_1n (by omega)]
  by_cases hl : q < a + k
  · rw [getD_l (by omega)]
    by_cases hl2 : q < a
    · rw [pk_cpy_out (Or.inl hl2), pk_cpy_out (Or.inl hl), getD_l (by omega), h.2.2 q (by omega), List.getD_eq_getElem?_getD, List.getD_eq_getElem?_getD, List.getElem?_take_of_lt hl2]
    · rw [pk_cpy_in (by omega) (by omega), getD_r (by omega), e1, getD_dt (by omega)]
      exact g.2.2 _ (by omega)
  · rw [pk_cpy_out (Or.inr (by omega)), pk_cpy_in (by omega) (by omega), getD_r (by omega), e3, List.getD_eq_getElem?_getD (l := xs.drop b), List.getElem?_drop, ← List.getD_eq_getElem?_getD]
    exact h.2.2 _ (by omega)
end
section
section WR
variable {D : Dt} {c : Cs} {τ : Cs × (Nat → Int64)} {i j : Nat} {xs ys : List Nat}
theorem c_add1 (l : Launch) (hD : OkD D) (hj : j < 9) (h : RowIs c j xs) (hl : xs.length < rln j) {v : Int32} : Ct l D y_Row_add b_Row_add 2 (some .boolean) 2 [.int v, .ref (aRow D j)] ((c, τ) : Sg) (some (.int 1)) ((addC c j xs.length v, τ) : Sg) := by
  have e := c_Row_add (τ := τ) (v := v) l hD hj h.1 h.2.1
  rw [if_pos hl, b1_t hl] at e
  exact e
theorem c_adp1 (l : Launch) (hD : OkD D) (hj : j < 9) (hi : i < 9) (h : RowIs c j xs) (g : RowIs c i ys) {f k : Nat} (h1 : xs.length + k ≤ rln j) (h2 : f + k ≤ ys.length) : Ct l D y_Row_addPart b_Row_addPart 4 (some .boolean) 2 [.int (nI k), .int (nI f), .ref (aRow D i), .ref (aRow D j)] ((c, τ) : Sg) (some (.int 1)) ((adpC c i j f k xs.length, τ) : Sg) := by
  have q1 := rln_le j
  have q2 := rln_le i
  have q3 := g.2.1
  have e := c_Row_addPart (τ := τ) (f := f) (k := k) l hD hj hi h.1 h.2.1 g.1 g.2.1 (by omega) (by omega)
  rw [if_pos ⟨h1, h2⟩, b1_t ⟨h1, h2⟩] at e
  exact e
theorem c_at1 (l : Launch) (hD : OkD D) (hj : j < 9) (h : RowIs c j xs) {k : Nat} (hk : k < 2 ^ 20) : Ct l D y_Row_at b_Row_at 2 (some .int) 2 [.int (nI k), .ref (aRow D j)] ((c, τ) : Sg) (some (.int (nI (xs.getD k 0)))) ((c, τ) : Sg) := by
  have e := c_Row_at (τ := τ) (k := nI k) l hD hj h.1 h.2.1
  rw [h.at hk] at e
  exact e
end WR
/-- bytes -/
def By (t : List Nat) : Prop := ∀ x ∈ t, x < 256
theorem By.get {t : List Nat} (h : By t) (k : Nat) : t.getD k 0 < 256 := by
  rw [List.getD_eq_getElem?_getD]
  cases e : t[k]? with
  | none => decide
  | some x => exact h x (List.mem_of_getElem? e)
theorem dr {t : List Nat} {k : Nat} (h : k < t.length) : t.drop k = t.getD k 0 :: t.drop (k + 1) := by
  rw [List.drop_eq_getElem_cons h, List.getD_eq_getElem?_getD, List.getElem?_eq_getElem h]
  rfl
theorem pkr_len : ∀ (t : List Nat) (r : Nat), (pk r t).length ≤ 2 * t.length
  | [], r => by simp [pk]
  | [v], r => by simp [pk]
  | v :: w :: t, r => by
    unfold pk
    have h1 := pkr_len (w :: t) (r + 1)
    have h2 := pkr_len (w :: t) 0
    split
    · simp only [List.length_cons] at h1 ⊢
      omega
    · simp only [List.length_cons] at h2 ⊢
      omega
theorem pkr_last {t : List Nat} {k r : Nat} (h : k + 1 = t.length) : pk r (t.drop k) = (r + 1) :: t.getD k 0 :: pk 0 (t.drop (k + 1)) := by
  rw [dr (by omega), List.drop_eq_nil_of_le (i := k + 1) (by omega)]
  rfl
theorem pkr_ne {t : List Nat} {k r : Nat} (h : k + 1 < t.length) (hn : t.getD (k + 1) 0 ≠ t.getD k 0) : pk r (t.drop k) = (r + 1) :: t.getD k 0 :: pk 0 (t.drop (k + 1)) := by
  rw [dr (show k < t.length by omega), dr h]
  unfold pk
  rw [if_neg hn]
  cases t.drop (k + 1 + 1) <;> rfl
theorem pkr_eq {t : List Nat} {k r : Nat} (h : k + 1 < t.length) (hn : t.getD (k + 1) 0 = t.getD k 0) : pk r (t.drop k) = pk (r + 1) (t.drop (k + 1)) := by
  rw [dr (show k < t.length by omega), dr h]
  conv => lhs; unfold pk
  rw [if_pos hn]
theorem cpre_1 : ∀ (a b : List Nat), cpre a b ≤ a.length
  | [], b => by cases b <;> simp [cpre]
  | x :: a, [] => by simp [cpre]
  | x :: a, y :: b => by
    have := cpre_1 a b
    unfold cpre
    split
    · simp only [List.length_cons]
      omega
    · exact Nat.zero_le _
theorem cpre_2 : ∀ (a b : List Nat), cpre a b ≤ b.length
  | [], b => by cases b <;> simp [cpre]
  | x :: a, [] => by simp [cpre]
  | x :: a, y :: b => by
    have := cpre_2 a b
    unfold cpre
    split
    · simp only [List.length_cons]
      omega
    · exact Nat.zero_le _
theorem cpre_e {a b : List Nat} {k : Nat} (h1 : k < a.length) (h2 : k < b.length) (h : a.getD k 0 = b.getD k 0) : cpre (a.drop k) (b.drop k) = cpre (a.drop (k + 1)) (b.drop (k + 1)) + 1 := by
  rw [dr h1, dr h2]
  conv => lhs; unfold cpre
  rw [if_pos h]
theorem cpre_n {a b : List Nat} {k : Nat} (h1 : k < a.length) (h2 : k < b.length) (h : ¬ a.getD k 0 = b.getD k 0) : cpre (a.drop k) (b.drop k) = 0 := by
  rw [dr h1, dr h2]
  unfold cpre
  rw [if_neg h]
theorem cpre_0 {a b : List Nat} {k : Nat} (h : a.length ≤ k ∨ b.length ≤ k) : cpre (a.drop k) (b.drop k) = 0 := by
  rcases h with h | h
  · rw [List.drop_eq_nil_of_le h]
    cases b.drop k <;> rfl
  · rw [List.drop_eq_nil_of_le h]
    cases a.drop k <;> rfl
theorem nI_min {a b : Nat} (ha : a < 2 ^ 20) (hb : b < 2 ^ 20) : (if nI b < nI a then nI b else nI a) = nI (min a b) := by
  by_cases h : b < a
  · rw [if_pos (nI_lt h (by omega)), Nat.min_eq_right (by omega)]
  · rw [if_neg (nI_nlt (by omega) (by omega)), Nat.min_eq_left (by omega)]
theorem rev_get {a : List Nat} {p k : Nat} (h : k < a.length - p) : (a.drop p).reverse.getD k 0 = a.getD (a.length - 1 - k) 0 := by
  rw [List.getD_eq_getElem?_getD, List.getD_eq_getElem?_getD, List.getElem?_reverse (by rw [List.length_drop]; omega), List.length_drop, List.getElem?_drop]
  congr 2
  omega
end
section
set_option maxRecDepth 100000 in
set_option maxHeartbeats 4000000 in
theorem x_Cod_writeWhole (l : Launch) {D : Dt} (hD : OkD D) {i j : Nat} {c : Cs} {τ : Cs × (Nat → Int64)} {t x : List Nat} (hi : i < 9) (hj : j < 9) (hij : i ≠ j) (ht : RowIs c i t) (hx : RowIs c j x) (hl : t.length + 1 ≤ rln j) : Cp l D y_Cod_writeWhole b_Cod_writeWhole 2 none 3 [.ref (aRow D j), .ref (aRow D i)] ((c, τ) : Sg) (fun r u => ∃ c2, u = ((c2, τ) : Sg) ∧ r = none ∧ RowIs c2 j (117 :: t) ∧ Sm (Rw j) c c2) := by
  have ne := RowIs.ne hij hi hj
  have r1 : RowIs (cutC c j (nI 0)) j [] := hx.cut (by decide)
  have t1 : RowIs (cutC c j (nI 0)) i t := ht.sm sm_cut ne.1 ne.2
  have r2 : RowIs (addC (cutC c j (nI 0)) j ([] : List Nat).length (nI 117)) j [117] := r1.add hj (by simp; omega)
  have t2 : RowIs (addC (cutC c j (nI 0)) j ([] : List Nat).length (nI 117)) i t := t1.sm sm_add ne.1 ne.2
  have r3 : RowIs (adpC (addC (cutC c j (nI 0)) j ([] : List Nat).length (nI 117)) i j 0 t.length [117].length) j (117 :: t) := by
    have h := r2.adp (f := 0) (k := t.length) t2 hj hi (by simp; omega) (by omega)
    simpa using h
  have s3 : Sm (Rw j) c (adpC (addC (cutC c j (nI 0)) j ([] : List Nat).length (nI 117)) i j 0 t.length [117].length) := (sm_cut.tr sm_add).tr sm_adp
  refine Cp.of hD (by decide) (Nat.le_of_ble_eq_true rfl) [(0, some (.ref (aRow D i))), (1, some (.ref (aRow D j)))] rfl (fun X hX C => ?_)
  subst hX
  refine g_aload_n (pc := 0) (i := 1) C d_Cod_writeWhole_0 rfl rfl ?_
  refine g_iconst (pc := 1) C d_Cod_writeWhole_1 icn_0 ?_
  refine g_callV0 (pc := 2) (As := [_]) C my_Row_cut mv_Row_cut cl_Cod_9 (is_Row (by omega)) d_Cod_writeWhole_2 (Nat.le_of_ble_eq_true rfl) rfl (Nat.le_of_ble_eq_true rfl) ⟨Nat.zero_le _, Nat.zero_le _⟩ (c_Row_cut _ hD (by omega)) ?_
  refine g_aload_n (pc := 5) (i := 1) C d_Cod_writeWhole_5 rfl rfl ?_
  refine g_bipush (pc := 6) C d_Cod_writeWhole_6 bpn_117 ?_
  refine g_callV1 (pc := 8) (As := [_]) C my_Row_add mv_Row_add cl_Cod_15 (is_Row (by omega)) d_Cod_writeWhole_8 (Nat.le_of_ble_eq_true rfl) rfl (Nat.le_of_ble_eq_true rfl) ⟨Nat.zero_le _, Nat.zero_le _⟩ (c_add1 _ hD (by omega) r1 (by simp; omega)) ?_
  refine g_pop (pc := 11) C d_Cod_writeWhole_11 rfl ?_
  refine g_aload_n (pc := 12) (i := 1) C d_Cod_writeWhole_12 rfl rfl ?_
  refine g_aload_n (pc := 13) (i := 0) C d_Cod_writeWhole_13 rfl rfl ?_
  refine g_iconst (pc := 14) C d_Cod_writeWhole_14 icn_0 ?_
  refine g_aload_n (pc := 15) (i := 0) C d_Cod_writeWhole_15 rfl rfl ?_
  refine gf_Row_length (pc := 16) C (by omega) fl_Cod_19 d_Cod_writeWhole_16 ?_
  rw [t2.1]
  refine g_callV1 (pc := 19) (As := [_, _, _]) C my_Row_addPart mv_Row_addPart cl_Cod_23 (is_Row (by omega)) d_Cod_writeWhole_19 (Nat.le_of_ble_eq_true rfl) rfl (Nat.le_of_ble_eq_true rfl) ⟨Nat.zero_le _, Nat.zero_le _⟩ (c_adp1 _ hD (by omega) (by omega) r2 t2 (by simp; omega) (by omega)) ?_
  refine g_pop (pc := 22) C d_Cod_writeWhole_22 rfl ?_
  refine g_vret (pc := 23) C d_Cod_writeWhole_23 ?_
  exact ⟨_, rfl, rfl, r3, s3⟩
set_option maxRecDepth 100000 in
set_option maxHeartbeats 4000000 in
theorem x_Cod_writePacked (l : Launch) {D : Dt} (hD : OkD D) {i j : Nat} {c : Cs} {τ : Cs × (Nat → Int64)} {t x : List Nat} (hi : i < 9) (hj : j < 9) (hij : i ≠ j) (ht : RowIs c i t) (hx : RowIs c j x) (hb : By t) (hl : t.length ≤ 60) (hq : rln j = 121) : Cp l D y_Cod_writePacked b_Cod_writePacked 4 none 3 [.ref (aRow D j), .ref (aRow D i)] ((c, τ) : Sg) (fun r u => ∃ c2, u = ((c2, τ) : Sg) ∧ r = none ∧ RowIs c2 j (120 :: pack t) ∧ Sm (Rw j) c c2) := by
  have ne := RowIs.ne hij hi hj
  have r1 : RowIs (cutC c j (nI 0)) j [] := hx.cut (by decide)
  have r2 : RowIs (addC (cutC c j (nI 0)) j ([] : List Nat).length (nI 120)) j [120] := r1.add hj (by simp; omega)
  have t2 : RowIs (addC (cutC c j (nI 0)) j ([] : List Nat).length (nI 120)) i t := ht.sm (sm_cut.tr sm_add) ne.1 ne.2
  have pl := pkr_len t 0
  refine Cp.of hD (by decide) (Nat.le_of_ble_eq_true rfl) [(0, some (.ref (aRow D i))), (1, some (.ref (aRow D j)))] rfl (fun X hX C => ?_)
  subst hX
  have loop : ∀ (m k r : Nat) (out : List Nat) (c1 : Cs), k + m = t.length → RowIs c1 j (120 :: out) → RowIs c1 i t → Sm (Rw j) c c1 → out ++ pk r (t.drop k) = pk 0 t → r ≤ k → G X D (Qp X D (fun r u => ∃ c2, u = ((c2, τ) : Sg) ∧ r = none ∧ RowIs c2 j (120 :: pack t) ∧ Sm (Rw j) c c2)) (0, 0) ((c1, τ) : Sg) 16 [(0, some (.ref (aRow D i))), (1, some (.ref (aRow D j))), (2, some (.int (nI r))), (3, some (.int (nI k)))] [] := by
    intro m
    induction m with
    | zero =>
      intro k r out c1 hk hr ht1 hs he hrk
      rw [List.drop_eq_nil_of_le (by omega)] at he
      have he : out = pk 0 t := by simpa [pk] using he
      refine g_iload_n (pc := 16) (i := 3) C d_Cod_writePacked_16 rfl rfl ?_
      refine g_aload_n (pc := 17) (i := 0) C d_Cod_writePacked_17 rfl rfl ?_
      refine gf_Row_length (pc := 18) C (by omega) fl_Cod_19 d_Cod_writePacked_18 ?_
      rw [ht1.1]
      refine g_icmp_ge (pc := 21) (tgt := 76) C d_Cod_writePacked_21 (by decide) (fun h21 => ?_) (fun h21 => ?_)
      · skip
        refine g_vret (pc := 76) C d_Cod_writePacked_76 ?_
        exact ⟨c1, rfl, rfl, by rw [he] at hr; exact hr, hs⟩
      · first | exact absurd h21 (nI_le (by omega) (by omega)) | exact absurd (nI_le (by omega) (by omega)) h21
    | succ m ih =>
      intro k r out c1 hk hr ht1 hs he hrk
      have hlen : out.length + (pk r (t.drop k)).length = (pk 0 t).length := by rw [← he, List.length_append]
      have hv := hb.get k
      have hw := hb.get (k + 1)
      refine g_iload_n (pc := 16) (i := 3) C d_Cod_writePacked_16 rfl rfl ?_
      refine g_aload_n (pc := 17) (i := 0) C d_Cod_writePacked_17 rfl rfl ?_
      refine gf_Row_length (pc := 18) C (by omega) fl_Cod_19 d_Cod_writePacked_18 ?_
      rw [ht1.1]
      refine g_icmp_ge (pc := 21) (tgt := 76) C d_Cod_writePacked_21 (by decide) (fun h21 => ?_) (fun h21 => ?_)
      · first | exact absurd h21 (nI_ge (show k < t.length by omega) (by omega)) | exact absurd (nI_ge (show k < t.length by omega) (by omega)) h21
      · skip
        refine g_iinc (pc := 24) C d_Cod_writePacked_24 rfl (v := nI (r + 1)) (nI_inc r) rfl ?_
        refine g_iload_n (pc := 27) (i := 3) C d_Cod_writePacked_27 rfl rfl ?_
        refine g_iconst (pc := 28) C d_Cod_writePacked_28 icn_1 ?_
        refine g_iadd (pc := 29) C d_Cod_writePacked_29 ?_
        rw [nI_add]
        refine g_aload_n (pc := 30) (i := 0) C d_Cod_writePacked_30 rfl rfl ?_
        refine gf_Row_length (pc := 31) C (by omega) fl_Cod_19 d_Cod_writePacked_31 ?_
        rw [ht1.1]
        refine g_icmp_eq (pc := 34) (tgt := 52) C d_Cod_writePacked_34 (by decide) (fun h34 => ?_) (fun h34 => ?_)
        · have hE := pkr_last (r := r) (show k + 1 = t.length from (nI_eq (by omega) (by omega)).mp h34)
          have hlen2 : out.length + 2 ≤ 120 := by rw [hE] at hlen; simp only [List.length_cons] at hlen; omega
          have r3 : RowIs (addC c1 j (120 :: out).length (nI (r + 1))) j ((120 :: out) ++ [r + 1]) := hr.add hj (by simp only [List.length_cons]; omega)
          have t3 : RowIs (addC c1 j (120 :: out).length (nI (r + 1))) i t := ht1.sm sm_add ne.1 ne.2
          have r4 : RowIs (addC (addC c1 j (120 :: out).length (nI (r + 1))) j ((120 :: out) ++ [r + 1]).length (nI (t.getD k 0))) j (120 :: (out ++ [r + 1, t.getD k 0])) := by
            have h := r3.add (v := t.getD k 0) hj (by simp only [List.length_cons, List.length_append, List.length_nil]; omega)
            simpa using h
          refine g_aload_n (pc := 52) (i := 1) C d_Cod_writePacked_52 rfl rfl ?_
          refine g_iload_n (pc := 53) (i := 2) C d_Cod_writePacked_53 rfl rfl ?_
          refine g_callV1 (pc := 54) (As := [_]) C my_Row_add mv_Row_add cl_Cod_15 (is_Row (by omega)) d_Cod_writePacked_54 (Nat.le_of_ble_eq_true rfl) rfl (Nat.le_of_ble_eq_true rfl) ⟨Nat.zero_le _, Nat.zero_le _⟩ (c_add1 _ hD (by omega) hr (by simp only [List.length_cons]; omega)) ?_
          refine g_pop (pc := 57) C d_Cod_writePacked_57 rfl ?_
          refine g_aload_n (pc := 58) (i := 1) C d_Cod_writePacked_58 rfl rfl ?_
          refine g_aload_n (pc := 59) (i := 0) C d_Cod_writePacked_59 rfl rfl ?_
          refine g_iload_n (pc := 60) (i := 3) C d_Cod_writePacked_60 rfl rfl ?_
          refine g_callV1 (pc := 61) (As := [_]) C my_Row_at mv_Row_at cl_Cod_27 (is_Row (by omega)) d_Cod_writePacked_61 (Nat.le_of_ble_eq_true rfl) rfl (Nat.le_of_ble_eq_true rfl) ⟨Nat.zero_le _, Nat.zero_le _⟩ (c_at1 _ hD (by omega) t3 (by omega)) ?_
          refine g_callV1 (pc := 64) (As := [_]) C my_Row_add mv_Row_add cl_Cod_15 (is_Row (by omega)) d_Cod_writePacked_64 (Nat.le_of_ble_eq_true rfl) rfl (Nat.le_of_ble_eq_true rfl) ⟨Nat.zero_le _, Nat.zero_le _⟩ (c_add1 _ hD (by omega) r3 (by simp only [List.length_cons, List.length_append, List.length_nil]; omega)) ?_
          refine g_pop (pc := 67) C d_Cod_writePacked_67 rfl ?_
          refine g_iconst (pc := 68) C d_Cod_writePacked_68 icn_0 ?_
          refine g_istore_n (pc := 69) (i := 2) C d_Cod_writePacked_69 rfl (by decide) rfl ?_
          refine g_iinc (pc := 70) C d_Cod_writePacked_70 rfl (v := nI (k + 1)) (nI_inc k) rfl ?_
          refine g_goto (pc := 73) (tgt := 16) C d_Cod_writePacked_73 (by decide) ?_
          first
            | exact G.lf (ih (k + 1) 0 (out ++ [r + 1, t.getD k 0]) _ (by omega) r4 (t3.sm sm_add ne.1 ne.2) ((hs.tr sm_add).tr sm_add) (by rw [hE] at he; simpa using he) (by omega)) (sb rfl (sb rfl (sb rfl (sb rfl sn))))
            | exact G.lf (ih (k + 1) (r + 1) out _ (by omega) hr ht1 hs (by rw [hE] at he; exact he) (by omega)) (sb rfl (sb rfl (sb rfl (sb rfl sn))))
        · have hk1 : k + 1 < t.length := by
            have : k + 1 ≠ t.length := fun e => h34 (by rw [e])
            omega
          refine g_aload_n (pc := 37) (i := 0) C d_Cod_writePacked_37 rfl rfl ?_
          refine g_iload_n (pc := 38) (i := 3) C d_Cod_writePacked_38 rfl rfl ?_
          refine g_iconst (pc := 39) C d_Cod_writePacked_39 icn_1 ?_
          refine g_iadd (pc := 40) C d_Cod_writePacked_40 ?_
          rw [nI_add]
          refine g_callV1 (pc := 41) (As := [_]) C my_Row_at mv_Row_at cl_Cod_27 (is_Row (by omega)) d_Cod_writePacked_41 (Nat.le_of_ble_eq_true rfl) rfl (Nat.le_of_ble_eq_true rfl) ⟨Nat.zero_le _, Nat.zero_le _⟩ (c_at1 _ hD (by omega) ht1 (by omega)) ?_
          refine g_aload_n (pc := 44) (i := 0) C d_Cod_writePacked_44 rfl rfl ?_
          refine g_iload_n (pc := 45) (i := 3) C d_Cod_writePacked_45 rfl rfl ?_
          refine g_callV1 (pc := 46) (As := [_]) C my_Row_at mv_Row_at cl_Cod_27 (is_Row (by omega)) d_Cod_writePacked_46 (Nat.le_of_ble_eq_true rfl) rfl (Nat.le_of_ble_eq_true rfl) ⟨Nat.zero_le _, Nat.zero_le _⟩ (c_at1 _ hD (by omega) ht1 (by omega)) ?_
          refine g_icmp_eq (pc := 49) (tgt := 70) C d_Cod_writePacked_49 (by decide) (fun h49 => ?_) (fun h49 => ?_)
          · have hE := pkr_eq (r := r) hk1 ((nI_eq (by omega) (by omega)).mp h49)
            refine g_iinc (pc := 70) C d_Cod_writePacked_70 rfl (v := nI (k + 1)) (nI_inc k) rfl ?_
            refine g_goto (pc := 73) (tgt := 16) C d_Cod_writePacked_73 (by decide) ?_
            first
              | exact G.lf (ih (k + 1) 0 (out ++ [r + 1, t.getD k 0]) _ (by omega) r4 (t3.sm sm_add ne.1 ne.2) ((hs.tr sm_add).tr sm_add) (by rw [hE] at he; simpa using he) (by omega)) (sb rfl (sb rfl (sb rfl (sb rfl sn))))
              | exact G.lf (ih (k + 1) (r + 1) out _ (by omega) hr ht1 hs (by rw [hE] at he; exact he) (by omega)) (sb rfl (sb rfl (sb rfl (sb rfl sn))))
          · have hE := pkr_ne (r := r) hk1 (fun e => h49 (by rw [e]))
            have hlen2 : out.length + 2 ≤ 120 := by rw [hE] at hlen; simp only [List.length_cons] at hlen; omega
            have r3 : RowIs (addC c1 j (120 :: out).length (nI (r + 1))) j ((120 :: out) ++ [r + 1]) := hr.add hj (by simp only [List.length_cons]; omega)
            have t3 : RowIs (addC c1 j (120 :: out).length (nI (r + 1))) i t := ht1.sm sm_add ne.1 ne.2
            have r4 : RowIs (addC (addC c1 j (120 :: out).length (nI (r + 1))) j ((120 :: out) ++ [r + 1]).length (nI (t.getD k 0))) j (120 :: (out ++ [r + 1, t.getD k 0])) := by
              have h := r3.add (v := t.getD k 0) hj (by simp only [List.length_cons, List.length_append, List.length_nil]; omega)
              simpa using h
            refine g_aload_n (pc := 52) (i := 1) C d_Cod_writePacked_52 rfl rfl ?_
            refine g_iload_n (pc := 53) (i := 2) C d_Cod_writePacked_53 rfl rfl ?_
            refine g_callV1 (pc := 54) (As := [_]) C my_Row_add mv_Row_add cl_Cod_15 (is_Row (by omega)) d_Cod_writePacked_54 (Nat.le_of_ble_eq_true rfl) rfl (Nat.le_of_ble_eq_true rfl) ⟨Nat.zero_le _, Nat.zero_le _⟩ (c_add1 _ hD (by omega) hr (by simp only [List.length_cons]; omega)) ?_
            refine g_pop (pc := 57) C d_Cod_writePacked_57 rfl ?_
            refine g_aload_n (pc := 58) (i := 1) C d_Cod_writePacked_58 rfl rfl ?_
            refine g_aload_n (pc := 59) (i := 0) C d_Cod_writePacked_59 rfl rfl ?_
            refine g_iload_n (pc := 60) (i := 3) C d_Cod_writePacked_60 rfl rfl ?_
            refine g_callV1 (pc := 61) (As := [_]) C my_Row_at mv_Row_at cl_Cod_27 (is_Row (by omega)) d_Cod_writePacked_61 (Nat.le_of_ble_eq_true rfl) rfl (Nat.le_of_ble_eq_true rfl) ⟨Nat.zero_le _, Nat.zero_le _⟩ (c_at1 _ hD (by omega) t3 (by omega)) ?_
            refine g_callV1 (pc := 64) (As := [_]) C my_Row_add mv_Row_add cl_Cod_15 (is_Row (by omega)) d_Cod_writePacked_64 (Nat.le_of_ble_eq_true rfl) rfl (Nat.le_of_ble_eq_true rfl) ⟨Nat.zero_le _, Nat.zero_le _⟩ (c_add1 _ hD (by omega) r3 (by simp only [List.length_cons, List.length_append, List.length_nil]; omega)) ?_
            refine g_pop (pc := 67) C d_Cod_writePacked_67 rfl ?_
            refine g_iconst (pc := 68) C d_Cod_writePacked_68 icn_0 ?_
            refine g_istore_n (pc := 69) (i := 2) C d_Cod_writePacked_69 rfl (by decide) rfl ?_
            refine g_iinc (pc := 70) C d_Cod_writePacked_70 rfl (v := nI (k + 1)) (nI_inc k) rfl ?_
            refine g_goto (pc := 73) (tgt := 16) C d_Cod_writePacked_73 (by decide) ?_
            first
              | exact G.lf (ih (k + 1) 0 (out ++ [r + 1, t.getD k 0]) _ (by omega) r4 (t3.sm sm_add ne.1 ne.2) ((hs.tr sm_add).tr sm_add) (by rw [hE] at he; simpa using he) (by omega)) (sb rfl (sb rfl (sb rfl (sb rfl sn))))
              | exact G.lf (ih (k + 1) (r + 1) out _ (by omega) hr ht1 hs (by rw [hE] at he; exact he) (by omega)) (sb rfl (sb rfl (sb rfl (sb rfl sn))))
  refine g_aload_n (pc := 0) (i := 1) C d_Cod_writePacked_0 rfl rfl ?_
  refine g_iconst (pc := 1) C d_Cod_writePacked_1 icn_0 ?_
  refine g_callV0 (pc := 2) (As := [_]) C my_Row_cut mv_Row_cut cl_Cod_9 (is_Row (by omega)) d_Cod_writePacked_2 (Nat.le_of_ble_eq_true rfl) rfl (Nat.le_of_ble_eq_true rfl) ⟨Nat.zero_le _, Nat.zero_le _⟩ (c_Row_cut _ hD (by omega)) ?_
  refine g_aload_n (pc := 5) (i := 1) C d_Cod_writePacked_5 rfl rfl ?_
  refine g_bipush (pc := 6) C d_Cod_writePacked_6 bpn_120 ?_
  refine g_callV1 (pc := 8) (As := [_]) C my_Row_add mv_Row_add cl_Cod_15 (is_Row (by omega)) d_Cod_writePacked_8 (Nat.le_of_ble_eq_true rfl) rfl (Nat.le_of_ble_eq_true rfl) ⟨Nat.zero_le _, Nat.zero_le _⟩ (c_add1 _ hD (by omega) r1 (by simp; omega)) ?_
  refine g_pop (pc := 11) C d_Cod_writePacked_11 rfl ?_
  refine g_iconst (pc := 12) C d_Cod_writePacked_12 icn_0 ?_
  refine g_istore_n (pc := 13) (i := 2) C d_Cod_writePacked_13 rfl (by decide) rfl ?_
  refine g_iconst (pc := 14) C d_Cod_writePacked_14 icn_0 ?_
  refine g_istore_n (pc := 15) (i := 3) C d_Cod_writePacked_15 rfl (by decide) rfl ?_
  exact G.lf (loop t.length 0 0 [] _ (by omega) r2 t2 (sm_cut.tr sm_add) (by simp) (Nat.le_refl _)) (sb rfl (sb rfl (sb rfl (sb rfl sn))))
set_option maxRecDepth 100000 in
set_option maxHeartbeats 4000000 in
theorem c_Cod_commonBeginning (l : Launch) {D : Dt} (hD : OkD D) {i j : Nat} {c : Cs} {τ : Cs × (Nat → Int64)} {a b : List Nat} (hi : i < 9) (hj : j < 9) (ha : RowIs c i a) (hb : RowIs c j b) (ya : By a) (yb : By b) : Ct l D y_Cod_commonBeginning b_Cod_commonBeginning 4 (some .int) 3 [.ref (aRow D j), .ref (aRow D i)] ((c, τ) : Sg) (some (.int (nI (cpre a b)))) ((c, τ) : Sg) := by
  have q1 := rln_le i
  have q2 := rln_le j
  have q3 := ha.2.1
  have q4 := hb.2.1
  refine Ct.of hD (by decide) (Nat.le_of_ble_eq_true rfl) [(0, some (.ref (aRow D i))), (1, some (.ref (aRow D j)))] rfl (fun X hX C => ?_)
  subst hX
  have loop : ∀ (m k : Nat), k + m = min a.length b.length → cpre a b = k + cpre (a.drop k) (b.drop k) → G X D (Qp X D (fun r2 u => r2 = some (.int (nI (cpre a b))) ∧ u = ((c, τ) : Sg))) (0, 0) ((c, τ) : Sg) 14 [(0, some (.ref (aRow D i))), (1, some (.ref (aRow D j))), (2, some (.int (nI (min a.length b.length)))), (3, some (.int (nI k)))] [] := by
    intro m
    induction m with
    | zero =>
      intro k hk he
      rw [cpre_0 (by omega)] at he
      refine g_iload_n (pc := 14) (i := 3) C d_Cod_commonBeginning_14 rfl rfl ?_
      refine g_iload_n (pc := 15) (i := 2) C d_Cod_commonBeginning_15 rfl rfl ?_
      refine g_icmp_ge (pc := 16) (tgt := 38) C d_Cod_commonBeginning_16 (by decide) (fun h16 => ?_) (fun h16 => ?_)
      · skip
        refine g_iload_n (pc := 38) (i := 3) C d_Cod_commonBeginning_38 rfl rfl ?_
        refine g_iret (pc := 39) C d_Cod_commonBeginning_39 ?_
        exact ⟨by rw [he]; rfl, rfl⟩
      · first | exact absurd h16 (nI_le (by omega) (by omega)) | exact absurd (nI_le (by omega) (by omega)) h16
    | succ m ih =>
      intro k hk he
      have hv := ya.get k
      have hw := yb.get k
      refine g_iload_n (pc := 14) (i := 3) C d_Cod_commonBeginning_14 rfl rfl ?_
      refine g_iload_n (pc := 15) (i := 2) C d_Cod_commonBeginning_15 rfl rfl ?_
      refine g_icmp_ge (pc := 16) (tgt := 38) C d_Cod_commonBeginning_16 (by decide) (fun h16 => ?_) (fun h16 => ?_)
      · first | exact absurd h16 (nI_ge (show k < min a.length b.length by omega) (by omega)) | exact absurd (nI_ge (show k < min a.length b.length by omega) (by omega)) h16
      · skip
        refine g_aload_n (pc := 19) (i := 0) C d_Cod_commonBeginning_19 rfl rfl ?_
        refine g_iload_n (pc := 20) (i := 3) C d_Cod_commonBeginning_20 rfl rfl ?_
        refine g_callV1 (pc := 21) (As := [_]) C my_Row_at mv_Row_at cl_Cod_27 (is_Row (by omega)) d_Cod_commonBeginning_21 (Nat.le_of_ble_eq_true rfl) rfl (Nat.le_of_ble_eq_true rfl) ⟨Nat.zero_le _, Nat.zero_le _⟩ (c_at1 _ hD (by omega) ha (by omega)) ?_
        refine g_aload_n (pc := 24) (i := 1) C d_Cod_commonBeginning_24 rfl rfl ?_
        refine g_iload_n (pc := 25) (i := 3) C d_Cod_commonBeginning_25 rfl rfl ?_
        refine g_callV1 (pc := 26) (As := [_]) C my_Row_at mv_Row_at cl_Cod_27 (is_Row (by omega)) d_Cod_commonBeginning_26 (Nat.le_of_ble_eq_true rfl) rfl (Nat.le_of_ble_eq_true rfl) ⟨Nat.zero_le _, Nat.zero_le _⟩ (c_at1 _ hD (by omega) hb (by omega)) ?_
        refine g_icmp_ne (pc := 29) (tgt := 38) C d_Cod_commonBeginning_29 (by decide) (fun h29 => ?_) (fun h29 => ?_)
        · rw [cpre_n (by omega) (by omega) (fun e => h29 (by rw [e]))] at he
          refine g_iload_n (pc := 38) (i := 3) C d_Cod_commonBeginning_38 rfl rfl ?_
          refine g_iret (pc := 39) C d_Cod_commonBeginning_39 ?_
          exact ⟨by rw [he]; rfl, rfl⟩
        · rw [cpre_e (by omega) (by omega) ((nI_eq (by omega) (by omega)).mp h29)] at he
          refine g_iinc (pc := 32) C d_Cod_commonBeginning_32 rfl (v := nI (k + 1)) (nI_inc k) rfl ?_
          refine g_goto (pc := 35) (tgt := 14) C d_Cod_commonBeginning_35 (by decide) ?_
          exact G.lf (ih (k + 1) (by omega) (by omega)) (sb rfl (sb rfl (sb rfl (sb rfl sn))))
  refine g_aload_n (pc := 0) (i := 0) C d_Cod_commonBeginning_0 rfl rfl ?_
  refine gf_Row_length (pc := 1) C (by omega) fl_Cod_19 d_Cod_commonBeginning_1 ?_
  rw [ha.1]
  refine g_aload_n (pc := 4) (i := 1) C d_Cod_commonBeginning_4 rfl rfl ?_
  refine gf_Row_length (pc := 5) C (by omega) fl_Cod_19 d_Cod_commonBeginning_5 ?_
  rw [hb.1]
  refine g_mmin (pc := 8) C jl_Cod_41 d_Cod_commonBeginning_8 (by decide) (Nat.le_of_ble_eq_true rfl) ⟨Nat.zero_le _, Nat.zero_le _⟩ ?_
  rw [nI_min (by omega) (by omega)]
  refine g_istore_n (pc := 11) (i := 2) C d_Cod_commonBeginning_11 rfl (by decide) rfl ?_
  refine g_iconst (pc := 12) C d_Cod_commonBeginning_12 icn_0 ?_
  refine g_istore_n (pc := 13) (i := 3) C d_Cod_commonBeginning_13 rfl (by decide) rfl ?_
  exact G.lf (loop (min a.length b.length) 0 (by omega) (by simp)) (sb rfl (sb rfl (sb rfl (sb rfl sn))))
set_option maxRecDepth 100000 in
set_option maxHeartbeats 4000000 in
theorem c_Cod_commonEnd (l : Launch) {D : Dt} (hD : OkD D) {i j : Nat} {c : Cs} {τ : Cs × (Nat → Int64)} {a b : List Nat} {p : Nat} (hi : i < 9) (hj : j < 9) (ha : RowIs c i a) (hb : RowIs c j b) (ya : By a) (yb : By b) (hp : p ≤ a.length) (hp2 : p ≤ b.length) : Ct l D y_Cod_commonEnd b_Cod_commonEnd 5 (some .int) 3 [.int (nI p), .ref (aRow D j), .ref (aRow D i)] ((c, τ) : Sg) (some (.int (nI (cpre (a.drop p).reverse (b.drop p).reverse)))) ((c, τ) : Sg) := by
  have q1 := rln_le i
  have q2 := rln_le j
  have q3 := ha.2.1
  have q4 := hb.2.1
  have ra : (a.drop p).reverse.length = a.length - p := by rw [List.length_reverse, List.length_drop]
  have rb : (b.drop p).reverse.length = b.length - p := by rw [List.length_reverse, List.length_drop]
  generalize hA : (a.drop p).reverse = A at ra ⊢
  generalize hB : (b.drop p).reverse = B at rb ⊢
  refine Ct.of hD (by decide) (Nat.le_of_ble_eq_true rfl) [(0, some (.ref (aRow D i))), (1, some (.ref (aRow D j))), (2, some (.int (nI p)))] rfl (fun X hX C => ?_)
  subst hX
  have loop : ∀ (m k : Nat), k + m = min a.length b.length - p → cpre A B = k + cpre (A.drop k) (B.drop k) → G X D (Qp X D (fun r2 u => r2 = some (.int (nI (cpre A B))) ∧ u = ((c, τ) : Sg))) (0, 0) ((c, τ) : Sg) 17 [(0, some (.ref (aRow D i))), (1, some (.ref (aRow D j))), (3, some (.int (nI (min a.length b.length - p)))), (4, some (.int (nI k)))] [] := by
    intro m
    induction m with
    | zero =>
      intro k hk he
      rw [cpre_0 (by omega)] at he
      refine g_iload (pc := 17) C d_Cod_commonEnd_17 rfl ?_
      refine g_iload_n (pc := 19) (i := 3) C d_Cod_commonEnd_19 rfl rfl ?_
      refine g_icmp_ge (pc := 20) (tgt := 58) C d_Cod_commonEnd_20 (by decide) (fun h20 => ?_) (fun h20 => ?_)
      · skip
        refine g_iload (pc := 58) C d_Cod_commonEnd_58 rfl ?_
        refine g_iret (pc := 60) C d_Cod_commonEnd_60 ?_
        exact ⟨by rw [he]; rfl, rfl⟩
      · first | exact absurd h20 (nI_le (by omega) (by omega)) | exact absurd (nI_le (by omega) (by omega)) h20
    | succ m ih =>
      intro k hk he
      have hv := ya.get (a.length - 1 - k)
      have hw := yb.get (b.length - 1 - k)
      have ea : A.getD k 0 = a.getD (a.length - 1 - k) 0 := by rw [← hA]; exact rev_get (by omega)
      have eb : B.getD k 0 = b.getD (b.length - 1 - k) 0 := by rw [← hB]; exact rev_get (by omega)
      refine g_iload (pc := 17) C d_Cod_commonEnd_17 rfl ?_
      refine g_iload_n (pc := 19) (i := 3) C d_Cod_commonEnd_19 rfl rfl ?_
      refine g_icmp_ge (pc := 20) (tgt := 58) C d_Cod_commonEnd_20 (by decide) (fun h20 => ?_) (fun h20 => ?_)
      · first | exact absurd h20 (nI_ge (show k < min a.length b.length - p by omega) (by omega)) | exact absurd (nI_ge (show k < min a.length b.length - p by omega) (by omega)) h20
      · skip
        refine g_aload_n (pc := 23) (i := 0) C d_Cod_commonEnd_23 rfl rfl ?_
        refine g_aload_n (pc := 24) (i := 0) C d_Cod_commonEnd_24 rfl rfl ?_
        refine gf_Row_length (pc := 25) C (by omega) fl_Cod_19 d_Cod_commonEnd_25 ?_
        rw [ha.1]
        refine g_iconst (pc := 28) C d_Cod_commonEnd_28 icn_1 ?_
        refine g_isub (pc := 29) C d_Cod_commonEnd_29 ?_
        rw [pk_sub (by omega)]
        refine g_iload (pc := 30) C d_Cod_commonEnd_30 rfl ?_
        refine g_isub (pc := 32) C d_Cod_commonEnd_32 ?_
        rw [pk_sub (by omega)]
        refine g_callV1 (pc := 33) (As := [_]) C my_Row_at mv_Row_at cl_Cod_27 (is_Row (by omega)) d_Cod_commonEnd_33 (Nat.le_of_ble_eq_true rfl) rfl (Nat.le_of_ble_eq_true rfl) ⟨Nat.zero_le _, Nat.zero_le _⟩ (c_at1 _ hD (by omega) ha (by omega)) ?_
        refine g_aload_n (pc := 36) (i := 1) C d_Cod_commonEnd_36 rfl rfl ?_
        refine g_aload_n (pc := 37) (i := 1) C d_Cod_commonEnd_37 rfl rfl ?_
        refine gf_Row_length (pc := 38) C (by omega) fl_Cod_19 d_Cod_commonEnd_38 ?_
        rw [hb.1]
        refine g_iconst (pc := 41) C d_Cod_commonEnd_41 icn_1 ?_
        refine g_isub (pc := 42) C d_Cod_commonEnd_42 ?_
        rw [pk_sub (by omega)]
        refine g_iload (pc := 43) C d_Cod_commonEnd_43 rfl ?_
        refine g_isub (pc := 45) C d_Cod_commonEnd_45 ?_
        rw [pk_sub (by omega)]
        refine g_callV1 (pc := 46) (As := [_]) C my_Row_at mv_Row_at cl_Cod_27 (is_Row (by omega)) d_Cod_commonEnd_46 (Nat.le_of_ble_eq_true rfl) rfl (Nat.le_of_ble_eq_true rfl) ⟨Nat.zero_le _, Nat.zero_le _⟩ (c_at1 _ hD (by omega) hb (by omega)) ?_
        refine g_icmp_ne (pc := 49) (tgt := 58) C d_Cod_commonEnd_49 (by decide) (fun h49 => ?_) (fun h49 => ?_)
        · rw [cpre_n (by omega) (by omega) (fun e => h49 (by rw [← ea, ← eb, e]))] at he
          refine g_iload (pc := 58) C d_Cod_commonEnd_58 rfl ?_
          refine g_iret (pc := 60) C d_Cod_commonEnd_60 ?_
          exact ⟨by rw [he]; rfl, rfl⟩
        · rw [cpre_e (by omega) (by omega) (by rw [ea, eb]; exact (nI_eq (by omega) (by omega)).mp h49)] at he
          refine g_iinc (pc := 52) C d_Cod_commonEnd_52 rfl (v := nI (k + 1)) (nI_inc k) rfl ?_
          refine g_goto (pc := 55) (tgt := 17) C d_Cod_commonEnd_55 (by decide) ?_
          exact G.lf (ih (k + 1) (by omega) (by omega)) (sb rfl (sb rfl (sb rfl (sb rfl sn))))
  refine g_aload_n (pc := 0) (i := 0) C d_Cod_commonEnd_0 rfl rfl ?_
  refine gf_Row_length (pc := 1) C (by omega) fl_Cod_19 d_Cod_commonEnd_1 ?_
  rw [ha.1]
  refine g_aload_n (pc := 4) (i := 1) C d_Cod_commonEnd_4 rfl rfl ?_
  refine gf_Row_length (pc := 5) C (by omega) fl_Cod_19 d_Cod_commonEnd_5 ?_
  rw [hb.1]
  refine g_mmin (pc := 8) C jl_Cod_41 d_Cod_commonEnd_8 (by decide) (Nat.le_of_ble_eq_true rfl) ⟨Nat.zero_le _, Nat.zero_le _⟩ ?_
  rw [nI_min (by omega) (by omega)]
  refine g_iload_n (pc := 11) (i := 2) C d_Cod_commonEnd_11 rfl rfl ?_
  refine g_isub (pc := 12) C d_Cod_commonEnd_12 ?_
  rw [pk_sub (by omega)]
  refine g_istore_n (pc := 13) (i := 3) C d_Cod_commonEnd_13 rfl (by decide) rfl ?_
  refine g_iconst (pc := 14) C d_Cod_commonEnd_14 icn_0 ?_
  refine g_istore (pc := 15) C d_Cod_commonEnd_15 (by decide) rfl ?_
  exact G.lf (loop (min a.length b.length - p) 0 (by omega) (by simp)) (sb rfl (sb rfl (sb rfl (sb rfl sn))))
end
section
theorem tk1 {d : List Nat} {k n : Nat} (h : k < d.length) : (d.drop k).take (n + 1) = d.getD k 0 :: (d.drop (k + 1)).take n := by
  rw [dr h, List.take_succ_cons]
theorem tk2 {d : List Nat} {k n : Nat} (h : k + 1 < d.length) : (d.drop k).take (n + 2) = d.getD k 0 :: d.getD (k + 1) 0 :: (d.drop (k + 2)).take n := by
  rw [tk1 (by omega), tk1 h]
theorem tk_len {d : List Nat} {k n : Nat} (h : k + n ≤ d.length) : ((d.drop k).take n).length = n := by
  rw [List.length_take, List.length_drop]
  omega
theorem unp_odd : ∀ (m : Nat) (r : List Nat), r.length = 2 * m + 1 → unp r = none
  | 0, [v], _ => rfl
  | 0, [], h => by simp at h
  | 0, v :: w :: r, h => by simp at h
  | m + 1, [], h => by simp at h
  | m + 1, [v], h => by simp at h
  | m + 1, v :: w :: r, h => by
    have h1 := unp_odd m r (by simp only [List.length_cons] at h; omega)
    unfold unp
    rw [h1]
    split <;> rfl
theorem dif_short {ch b : List Nat} (h : ch.length < 4) : dif ch b = none := by
  match ch, h with
  | [], _ => rfl
  | [_], _ => rfl
  | [_, _], _ => rfl
  | [_, _, _], _ => rfl
  | _ :: _ :: _ :: _ :: _, h => simp only [List.length_cons] at h; omega
theorem By.take {t : List Nat} (h : By t) (k : Nat) : By (t.take k) := fun x hx => h x (List.mem_of_mem_take hx)
theorem By.drop {t : List Nat} (h : By t) (k : Nat) : By (t.drop k) := fun x hx => h x (List.mem_of_mem_drop hx)
theorem By.app {t u : List Nat} (h : By t) (g : By u) : By (t ++ u) := fun x hx => (List.mem_append.mp hx).elim (h x) (g x)
theorem By.rpl {v : Nat} (h : v < 256) (k : Nat) : By (List.replicate k v) := fun x hx => by rw [(List.mem_replicate.mp hx).2]; exact h
theorem dif_cons (k a b m : Nat) (r base : List Nat) : dif (k :: a :: b :: m :: r) base = if k = 100 ∧ m = r.length ∧ a ≤ b ∧ b ≤ base.length ∧ base.length - (b - a) + m ≤ 60 then some (base.take a ++ r ++ base.drop b) else none := rfl
theorem unp_c (n v : Nat) (r : List Nat) : unp (n :: v :: r) = if n = 0 then none else (unp r).map (fun t => List.replicate n v ++ t) := by
  conv => lhs; unfold unp
  cases unp r <;> rfl
theorem snap_x (r : List Nat) : snap (120 :: r) = match unp r with
    | none => none
    | some t => if t.length ≤ 60 then some t else none := rfl
theorem snap_u (r : List Nat) : snap (117 :: r) = if r.length ≤ 60 then some r else none := rfl
theorem snap_n {k : Nat} (r : List Nat) (h1 : ¬ k = 117) (h2 : ¬ k = 120) : snap (k :: r) = none := by
  simp only [snap]
  rw [if_neg h1, if_neg h2]
end
section
set_option maxRecDepth 100000 in
set_option maxHeartbeats 4000000 in
theorem x_Cod_writeDifference (l : Launch) {D : Dt} (hD : OkD D) {i j q : Nat} {c : Cs} {τ : Cs × (Nat → Int64)} {b t x : List Nat} (hi : i < 9) (hj : j < 9) (hq : q < 9) (hiq : i ≠ q) (hjq : j ≠ q) (hb : RowIs c i b) (ht : RowIs c j t) (hx : RowIs c q x) (yb : By b) (yt : By t) (hl : t.length ≤ 60) (hc : rln q = 121) : Cp l D y_Cod_writeDifference b_Cod_writeDifference 6 none 4 [.ref (aRow D q), .ref (aRow D j), .ref (aRow D i)] ((c, τ) : Sg) (fun r u => ∃ c2, u = ((c2, τ) : Sg) ∧ r = none ∧ RowIs c2 q (encD b t) ∧ Sm (Rw q) c c2) := by
  have nei := RowIs.ne hiq hi hq
  have nej := RowIs.ne hjq hj hq
  have q1 := rln_le i
  have q2 := rln_le j
  have q3 := hb.2.1
  have q4 := ht.2.1
  have p1 := cpre_1 b t
  have p2 := cpre_2 b t
  have e1 := cpre_1 (b.drop (cpre b t)).reverse (t.drop (cpre b t)).reverse
  have e2 := cpre_2 (b.drop (cpre b t)).reverse (t.drop (cpre b t)).reverse
  rw [List.length_reverse, List.length_drop] at e1 e2
  have r1 : RowIs (cutC c q (nI 0)) q [] := hx.cut (by decide)
  have r2 : RowIs (addC (cutC c q (nI 0)) q ([] : List Nat).length (nI 100)) q [100] := r1.add hq (by simp; omega)
  have r3 : RowIs (addC (addC (cutC c q (nI 0)) q ([] : List Nat).length (nI 100)) q [100].length (nI (cpre b t))) q [100, (cpre b t)] := r2.add hq (by simp; omega)
  have r4 : RowIs (addC (addC (addC (cutC c q (nI 0)) q ([] : List Nat).length (nI 100)) q [100].length (nI (cpre b t))) q [100, (cpre b t)].length (nI (b.length - (cpre (b.drop (cpre b t)).reverse (t.drop (cpre b t)).reverse)))) q [100, (cpre b t), b.length - (cpre (b.drop (cpre b t)).reverse (t.drop (cpre b t)).reverse)] := r3.add hq (by simp; omega)
  have r5 : RowIs (addC (addC (addC (addC (cutC c q (nI 0)) q ([] : List Nat).length (nI 100)) q [100].length (nI (cpre b t))) q [100, (cpre b t)].length (nI (b.length - (cpre (b.drop (cpre b t)).reverse (t.drop (cpre b t)).reverse)))) q [100, (cpre b t), b.length - (cpre (b.drop (cpre b t)).reverse (t.drop (cpre b t)).reverse)].length (nI (t.length - (cpre (b.drop (cpre b t)).reverse (t.drop (cpre b t)).reverse) - (cpre b t)))) q [100, (cpre b t), b.length - (cpre (b.drop (cpre b t)).reverse (t.drop (cpre b t)).reverse), t.length - (cpre (b.drop (cpre b t)).reverse (t.drop (cpre b t)).reverse) - (cpre b t)] := r4.add hq (by simp; omega)
  have s3 : Sm (Rw q) c (addC (addC (cutC c q (nI 0)) q ([] : List Nat).length (nI 100)) q [100].length (nI (cpre b t))) := (sm_cut.tr sm_add).tr sm_add
  have s5 : Sm (Rw q) c (addC (addC (addC (addC (cutC c q (nI 0)) q ([] : List Nat).length (nI 100)) q [100].length (nI (cpre b t))) q [100, (cpre b t)].length (nI (b.length - (cpre (b.drop (cpre b t)).reverse (t.drop (cpre b t)).reverse)))) q [100, (cpre b t), b.length - (cpre (b.drop (cpre b t)).reverse (t.drop (cpre b t)).reverse)].length (nI (t.length - (cpre (b.drop (cpre b t)).reverse (t.drop (cpre b t)).reverse) - (cpre b t)))) := (s3.tr sm_add).tr sm_add
  have b3 : RowIs (addC (addC (cutC c q (nI 0)) q ([] : List Nat).length (nI 100)) q [100].length (nI (cpre b t))) i b := hb.sm s3 nei.1 nei.2
  have t5 : RowIs (addC (addC (addC (addC (cutC c q (nI 0)) q ([] : List Nat).length (nI 100)) q [100].length (nI (cpre b t))) q [100, (cpre b t)].length (nI (b.length - (cpre (b.drop (cpre b t)).reverse (t.drop (cpre b t)).reverse)))) q [100, (cpre b t), b.length - (cpre (b.drop (cpre b t)).reverse (t.drop (cpre b t)).reverse)].length (nI (t.length - (cpre (b.drop (cpre b t)).reverse (t.drop (cpre b t)).reverse) - (cpre b t)))) j t := ht.sm s5 nej.1 nej.2
  have r6 : RowIs (adpC (addC (addC (addC (addC (cutC c q (nI 0)) q ([] : List Nat).length (nI 100)) q [100].length (nI (cpre b t))) q [100, (cpre b t)].length (nI (b.length - (cpre (b.drop (cpre b t)).reverse (t.drop (cpre b t)).reverse)))) q [100, (cpre b t), b.length - (cpre (b.drop (cpre b t)).reverse (t.drop (cpre b t)).reverse)].length (nI (t.length - (cpre (b.drop (cpre b t)).reverse (t.drop (cpre b t)).reverse) - (cpre b t)))) j q (cpre b t) (t.length - (cpre (b.drop (cpre b t)).reverse (t.drop (cpre b t)).reverse) - (cpre b t)) [100, (cpre b t), b.length - (cpre (b.drop (cpre b t)).reverse (t.drop (cpre b t)).reverse), t.length - (cpre (b.drop (cpre b t)).reverse (t.drop (cpre b t)).reverse) - (cpre b t)].length) q (encD b t) := r5.adp t5 hq hj (by simp; omega) (by omega)
  have s6 : Sm (Rw q) c (adpC (addC (addC (addC (addC (cutC c q (nI 0)) q ([] : List Nat).length (nI 100)) q [100].length (nI (cpre b t))) q [100, (cpre b t)].length (nI (b.length - (cpre (b.drop (cpre b t)).reverse (t.drop (cpre b t)).reverse)))) q [100, (cpre b t), b.length - (cpre (b.drop (cpre b t)).reverse (t.drop (cpre b t)).reverse)].length (nI (t.length - (cpre (b.drop (cpre b t)).reverse (t.drop (cpre b t)).reverse) - (cpre b t)))) j q (cpre b t) (t.length - (cpre (b.drop (cpre b t)).reverse (t.drop (cpre b t)).reverse) - (cpre b t)) [100, (cpre b t), b.length - (cpre (b.drop (cpre b t)).reverse (t.drop (cpre b t)).reverse), t.length - (cpre (b.drop (cpre b t)).reverse (t.drop (cpre b t)).reverse) - (cpre b t)].length) := s5.tr sm_adp
  refine Cp.of hD (by decide) (Nat.le_of_ble_eq_true rfl) [(0, some (.ref (aRow D i))), (1, some (.ref (aRow D j))), (2, some (.ref (aRow D q)))] rfl (fun X hX C => ?_)
  subst hX
  refine g_aload_n (pc := 0) (i := 0) C d_Cod_writeDifference_0 rfl rfl ?_
  refine g_aload_n (pc := 1) (i := 1) C d_Cod_writeDifference_1 rfl rfl ?_
  refine g_callS1 (pc := 2) (As := [_, _]) C my_Cod_commonBeginning ms_Cod_commonBeginning cl_Cod_31 d_Cod_writeDifference_2 (Nat.le_of_ble_eq_true rfl) rfl (Nat.le_of_ble_eq_true rfl) ⟨Nat.zero_le _, Nat.zero_le _⟩ (c_Cod_commonBeginning _ hD (by omega) (by omega) hb ht yb yt) ?_
  refine g_istore_n (pc := 5) (i := 3) C d_Cod_writeDifference_5 rfl (by decide) rfl ?_
  refine g_aload_n (pc := 6) (i := 0) C d_Cod_writeDifference_6 rfl rfl ?_
  refine g_aload_n (pc := 7) (i := 1) C d_Cod_writeDifference_7 rfl rfl ?_
  refine g_iload_n (pc := 8) (i := 3) C d_Cod_writeDifference_8 rfl rfl ?_
  refine g_callS1 (pc := 9) (As := [_, _, _]) C my_Cod_commonEnd ms_Cod_commonEnd cl_Cod_37 d_Cod_writeDifference_9 (Nat.le_of_ble_eq_true rfl) rfl (Nat.le_of_ble_eq_true rfl) ⟨Nat.zero_le _, Nat.zero_le _⟩ (c_Cod_commonEnd _ hD (by omega) (by omega) hb ht yb yt p1 p2) ?_
  refine g_istore (pc := 12) C d_Cod_writeDifference_12 (by decide) rfl ?_
  refine g_aload_n (pc := 14) (i := 1) C d_Cod_writeDifference_14 rfl rfl ?_
  refine gf_Row_length (pc := 15) C (by omega) fl_Cod_19 d_Cod_writeDifference_15 ?_
  rw [ht.1]
  refine g_iload (pc := 18) C d_Cod_writeDifference_18 rfl ?_
  refine g_isub (pc := 20) C d_Cod_writeDifference_20 ?_
  rw [pk_sub (by omega)]
  refine g_iload_n (pc := 21) (i := 3) C d_Cod_writeDifference_21 rfl rfl ?_
  refine g_isub (pc := 22) C d_Cod_writeDifference_22 ?_
  rw [pk_sub (by omega)]
  refine g_istore (pc := 23) C d_Cod_writeDifference_23 (by decide) rfl ?_
  refine g_aload_n (pc := 25) (i := 2) C d_Cod_writeDifference_25 rfl rfl ?_
  refine g_iconst (pc := 26) C d_Cod_writeDifference_26 icn_0 ?_
  refine g_callV0 (pc := 27) (As := [_]) C my_Row_cut mv_Row_cut cl_Cod_9 (is_Row (by omega)) d_Cod_writeDifference_27 (Nat.le_of_ble_eq_true rfl) rfl (Nat.le_of_ble_eq_true rfl) ⟨Nat.zero_le _, Nat.zero_le _⟩ (c_Row_cut _ hD (by omega)) ?_
  refine g_aload_n (pc := 30) (i := 2) C d_Cod_writeDifference_30 rfl rfl ?_
  refine g_bipush (pc := 31) C d_Cod_writeDifference_31 bpn_100 ?_
  refine g_callV1 (pc := 33) (As := [_]) C my_Row_add mv_Row_add cl_Cod_15 (is_Row (by omega)) d_Cod_writeDifference_33 (Nat.le_of_ble_eq_true rfl) rfl (Nat.le_of_ble_eq_true rfl) ⟨Nat.zero_le _, Nat.zero_le _⟩ (c_add1 _ hD (by omega) r1 (by simp; omega)) ?_
  refine g_pop (pc := 36) C d_Cod_writeDifference_36 rfl ?_
  refine g_aload_n (pc := 37) (i := 2) C d_Cod_writeDifference_37 rfl rfl ?_
  refine g_iload_n (pc := 38) (i := 3) C d_Cod_writeDifference_38 rfl rfl ?_
  refine g_callV1 (pc := 39) (As := [_]) C my_Row_add mv_Row_add cl_Cod_15 (is_Row (by omega)) d_Cod_writeDifference_39 (Nat.le_of_ble_eq_true rfl) rfl (Nat.le_of_ble_eq_true rfl) ⟨Nat.zero_le _, Nat.zero_le _⟩ (c_add1 _ hD (by omega) r2 (by simp; omega)) ?_
  refine g_pop (pc := 42) C d_Cod_writeDifference_42 rfl ?_
  refine g_aload_n (pc := 43) (i := 2) C d_Cod_writeDifference_43 rfl rfl ?_
  refine g_aload_n (pc := 44) (i := 0) C d_Cod_writeDifference_44 rfl rfl ?_
  refine gf_Row_length (pc := 45) C (by omega) fl_Cod_19 d_Cod_writeDifference_45 ?_
  rw [b3.1]
  refine g_iload (pc := 48) C d_Cod_writeDifference_48 rfl ?_
  refine g_isub (pc := 50) C d_Cod_writeDifference_50 ?_
  rw [pk_sub (by omega)]
  refine g_callV1 (pc := 51) (As := [_]) C my_Row_add mv_Row_add cl_Cod_15 (is_Row (by omega)) d_Cod_writeDifference_51 (Nat.le_of_ble_eq_true rfl) rfl (Nat.le_of_ble_eq_true rfl) ⟨Nat.zero_le _, Nat.zero_le _⟩ (c_add1 _ hD (by omega) r3 (by simp; omega)) ?_
  refine g_pop (pc := 54) C d_Cod_writeDifference_54 rfl ?_
  refine g_aload_n (pc := 55) (i := 2) C d_Cod_writeDifference_55 rfl rfl ?_
  refine g_iload (pc := 56) C d_Cod_writeDifference_56 rfl ?_
  refine g_callV1 (pc := 58) (As := [_]) C my_Row_add mv_Row_add cl_Cod_15 (is_Row (by omega)) d_Cod_writeDifference_58 (Nat.le_of_ble_eq_true rfl) rfl (Nat.le_of_ble_eq_true rfl) ⟨Nat.zero_le _, Nat.zero_le _⟩ (c_add1 _ hD (by omega) r4 (by simp; omega)) ?_
  refine g_pop (pc := 61) C d_Cod_writeDifference_61 rfl ?_
  refine g_aload_n (pc := 62) (i := 2) C d_Cod_writeDifference_62 rfl rfl ?_
  refine g_aload_n (pc := 63) (i := 1) C d_Cod_writeDifference_63 rfl rfl ?_
  refine g_iload_n (pc := 64) (i := 3) C d_Cod_writeDifference_64 rfl rfl ?_
  refine g_iload (pc := 65) C d_Cod_writeDifference_65 rfl ?_
  refine g_callV1 (pc := 67) (As := [_, _, _]) C my_Row_addPart mv_Row_addPart cl_Cod_23 (is_Row (by omega)) d_Cod_writeDifference_67 (Nat.le_of_ble_eq_true rfl) rfl (Nat.le_of_ble_eq_true rfl) ⟨Nat.zero_le _, Nat.zero_le _⟩ (c_adp1 _ hD (by omega) (by omega) r5 t5 (by simp; omega) (by omega)) ?_
  refine g_pop (pc := 70) C d_Cod_writeDifference_70 rfl ?_
  refine g_vret (pc := 71) C d_Cod_writeDifference_71 ?_
  exact ⟨_, rfl, rfl, r6, s6⟩
set_option maxRecDepth 100000 in
set_option maxHeartbeats 4000000 in
theorem x_Cod_readSnapshot (l : Launch) {D : Dt} (hD : OkD D) {i j o s' : Nat} {c : Cs} {τ : Cs × (Nat → Int64)} {d : List Nat} (hi : i < 9) (hj : j < 9) (hij : i ≠ j) (hd : RowIs c i d) (ht : RowIs c j []) (yd : By d) (ho : o + (s' + 1) ≤ d.length) (hc : rln j = 60) : Cp l D y_Cod_readSnapshot b_Cod_readSnapshot 7 (some .boolean) 4 [.ref (aRow D j), .int (nI (s' + 1)), .int (nI o), .ref (aRow D i)] ((c, τ) : Sg) (fun r u => ∃ c2, u = ((c2, τ) : Sg) ∧ Sm (Rw j) c c2 ∧ ((∃ t, snap ((d.drop o).take (s' + 1)) = some t ∧ r = some (.int 1) ∧ RowIs c2 j t) ∨ (snap ((d.drop o).take (s' + 1)) = none ∧ r = some (.int 0) ∧ ∃ x, RowIs c2 j x))) := by
  have ne := RowIs.ne hij hi hj
  have q1 := rln_le i
  have q3 := hd.2.1
  have hch : (d.drop o).take (s' + 1) = d.getD o 0 :: (d.drop (o + 1)).take s' := tk1 (by omega)
  have hrl : ((d.drop (o + 1)).take s').length = s' := tk_len (by omega)
  have yo := yd.get o
  refine Cp.of hD (by decide) (Nat.le_of_ble_eq_true rfl) [(0, some (.ref (aRow D i))), (1, some (.int (nI o))), (2, some (.int (nI (s' + 1)))), (3, some (.ref (aRow D j)))] rfl (fun X hX C => ?_)
  subst hX
  have loop : d.getD o 0 = 120 → ∀ (m k : Nat) (acc : List Nat) (c1 : Cs), k + 2 * m = o + 1 + s' → o + 1 ≤ k → RowIs c1 j acc → RowIs c1 i d → Sm (Rw j) c c1 → unp ((d.drop (o + 1)).take s') = (unp ((d.drop k).take (2 * m))).map (fun t => acc ++ t) → G X D (Qp X D (fun r u => ∃ c2, u = ((c2, τ) : Sg) ∧ Sm (Rw j) c c2 ∧ ((∃ t, snap ((d.drop o).take (s' + 1)) = some t ∧ r = some (.int 1) ∧ RowIs c2 j t) ∨ (snap ((d.drop o).take (s' + 1)) = none ∧ r = some (.int 0) ∧ ∃ x, RowIs c2 j x)))) (0, 0) ((c1, τ) : Sg) 46 [(0, some (.ref (aRow D i))), (1, some (.int (nI o))), (2, some (.int (nI (s' + 1)))), (3, some (.ref (aRow D j))), (5, some (.int (nI k)))] [] := by
    intro h120 m
    induction m with
    | zero =>
      intro k acc c1 hk hk1 hr hd1 hs1 he
      have he : unp ((d.drop (o + 1)).take s') = some acc := by rw [he]; simp [unp]
      have hl := hr.2.1
      refine g_iload (pc := 46) C d_Cod_readSnapshot_46 rfl ?_
      refine g_iload_n (pc := 48) (i := 1) C d_Cod_readSnapshot_48 rfl rfl ?_
      refine g_iload_n (pc := 49) (i := 2) C d_Cod_readSnapshot_49 rfl rfl ?_
      refine g_iadd (pc := 50) C d_Cod_readSnapshot_50 ?_
      rw [nI_add]
      refine g_icmp_ge (pc := 51) (tgt := 92) C d_Cod_readSnapshot_51 (by decide) (fun h51 => ?_) (fun h51 => ?_)
      · skip
        refine g_iconst (pc := 92) C d_Cod_readSnapshot_92 ic_1 ?_
        refine g_zret (pc := 93) C d_Cod_readSnapshot_93 (by first | exact Or.inl rfl | exact Or.inr rfl) ?_
        refine ⟨c1, rfl, hs1, Or.inl ⟨acc, ?_, rfl, hr⟩⟩
        rw [hch, h120, snap_x, he]
        exact if_pos (hc ▸ hl)
      · first | exact absurd h51 (nI_le (by omega) (by omega)) | exact absurd (nI_le (by omega) (by omega)) h51
    | succ m ih =>
      intro k acc c1 hk hk1 hr hd1 hs1 he
      have hv := yd.get k
      have hw := yd.get (k + 1)
      have hR : (d.drop k).take (2 * (m + 1)) = d.getD k 0 :: d.getD (k + 1) 0 :: (d.drop (k + 2)).take (2 * m) := tk2 (n := 2 * m) (by omega)
      rw [hR, unp_c] at he
      have hl := hr.2.1
      rw [hc] at hl
      refine g_iload (pc := 46) C d_Cod_readSnapshot_46 rfl ?_
      refine g_iload_n (pc := 48) (i := 1) C d_Cod_readSnapshot_48 rfl rfl ?_
      refine g_iload_n (pc := 49) (i := 2) C d_Cod_readSnapshot_49 rfl rfl ?_
      refine g_iadd (pc := 50) C d_Cod_readSnapshot_50 ?_
      rw [nI_add]
      refine g_icmp_ge (pc := 51) (tgt := 92) C d_Cod_readSnapshot_51 (by decide) (fun h51 => ?_) (fun h51 => ?_)
      · first | exact absurd h51 (nI_ge (show k < o + (s' + 1) by omega) (by omega)) | exact absurd (nI_ge (show k < o + (s' + 1) by omega) (by omega)) h51
      · skip
        refine g_aload_n (pc := 54) (i := 0) C d_Cod_readSnapshot_54 rfl rfl ?_
        refine g_iload (pc := 55) C d_Cod_readSnapshot_55 rfl ?_
        refine g_callV1 (pc := 57) (As := [_]) C my_Row_at mv_Row_at cl_Cod_27 (is_Row (by omega)) d_Cod_readSnapshot_57 (Nat.le_of_ble_eq_true rfl) rfl (Nat.le_of_ble_eq_true rfl) ⟨Nat.zero_le _, Nat.zero_le _⟩ (c_at1 _ hD (by omega) hd1 (by omega)) ?_
        refine g_istore (pc := 60) C d_Cod_readSnapshot_60 (by decide) rfl ?_
        refine g_iload (pc := 62) C d_Cod_readSnapshot_62 rfl ?_
        refine g_if_eq (pc := 64) (tgt := 84) C d_Cod_readSnapshot_64 (by decide) (fun h64 => ?_) (fun h64 => ?_)
        · have hz : d.getD k 0 = 0 := (nI_eq (by omega) (by decide)).mp (h64.trans nI_0.symm)
          rw [if_pos hz] at he
          refine g_iconst (pc := 84) C d_Cod_readSnapshot_84 ic_0 ?_
          refine g_zret (pc := 85) C d_Cod_readSnapshot_85 (by first | exact Or.inl rfl | exact Or.inr rfl) ?_
          refine ⟨c1, rfl, hs1, Or.inr ⟨?_, rfl, acc, hr⟩⟩
          rw [hch, h120]
          first
            | (rw [snap_x, he]; rfl)
            | (cases hu : unp ((d.drop (k + 2)).take (2 * m)) with
               | none =>
                 rw [hu] at he
                 rw [snap_x, he]
                 rfl
               | some t =>
                 have hlen : ¬ (acc ++ (List.replicate (d.getD k 0) (d.getD (k + 1) 0) ++ t)).length ≤ 60 := by
                   rw [List.length_append, List.length_append, List.length_replicate]
                   omega
                 rw [hu] at he
                 rw [snap_x, he]
                 exact if_neg hlen)
        · have hz : ¬ d.getD k 0 = 0 := fun e => h64 (by rw [e]; exact nI_0)
          rw [if_neg hz] at he
          refine g_aload_n (pc := 67) (i := 3) C d_Cod_readSnapshot_67 rfl rfl ?_
          refine g_aload_n (pc := 68) (i := 0) C d_Cod_readSnapshot_68 rfl rfl ?_
          refine g_iload (pc := 69) C d_Cod_readSnapshot_69 rfl ?_
          refine g_iconst (pc := 71) C d_Cod_readSnapshot_71 icn_1 ?_
          refine g_iadd (pc := 72) C d_Cod_readSnapshot_72 ?_
          rw [nI_add]
          refine g_callV1 (pc := 73) (As := [_]) C my_Row_at mv_Row_at cl_Cod_27 (is_Row (by omega)) d_Cod_readSnapshot_73 (Nat.le_of_ble_eq_true rfl) rfl (Nat.le_of_ble_eq_true rfl) ⟨Nat.zero_le _, Nat.zero_le _⟩ (c_at1 _ hD (by omega) hd1 (by omega)) ?_
          refine g_iload (pc := 76) C d_Cod_readSnapshot_76 rfl ?_
          refine g_callV1 (pc := 78) (As := [_, _]) C my_Row_addRun mv_Row_addRun cl_Cod_47 (is_Row (by omega)) d_Cod_readSnapshot_78 (Nat.le_of_ble_eq_true rfl) rfl (Nat.le_of_ble_eq_true rfl) ⟨Nat.zero_le _, Nat.zero_le _⟩ (c_Row_addRun _ hD (by omega) hr.1 hr.2.1 (by omega)) ?_
          refine g_if_ne (pc := 81) (tgt := 86) C d_Cod_readSnapshot_81 (by decide) (fun h81 => ?_) (fun h81 => ?_)
          · have hb := b1_1 h81
            rw [if_pos hb]
            rw [hc] at hb
            refine g_iinc (pc := 86) C d_Cod_readSnapshot_86 rfl (v := nI (k + 2)) (by rw [icn_2]; exact nI_add k 2) rfl ?_
            refine g_goto (pc := 89) (tgt := 46) C d_Cod_readSnapshot_89 (by decide) ?_
            refine G.lf (ih (k + 2) (acc ++ List.replicate (d.getD k 0) (d.getD (k + 1) 0)) _ (by omega) (by omega) (hr.arn hj (by rw [hc]; omega)) (hd1.sm sm_arn ne.1 ne.2) (hs1.tr sm_arn) ?_) (sb rfl (sb rfl (sb rfl (sb rfl (sb rfl sn)))))
            rw [he]
            cases unp ((d.drop (k + 2)).take (2 * m)) with
            | none => rfl
            | some t => simp
          · have hb := b1_0 h81
            rw [if_neg hb]
            rw [hc] at hb
            refine g_iconst (pc := 84) C d_Cod_readSnapshot_84 ic_0 ?_
            refine g_zret (pc := 85) C d_Cod_readSnapshot_85 (by first | exact Or.inl rfl | exact Or.inr rfl) ?_
            refine ⟨c1, rfl, hs1, Or.inr ⟨?_, rfl, acc, hr⟩⟩
            rw [hch, h120]
            first
              | (rw [snap_x, he]; rfl)
              | (cases hu : unp ((d.drop (k + 2)).take (2 * m)) with
                 | none =>
                   rw [hu] at he
                   rw [snap_x, he]
                   rfl
                 | some t =>
                   have hlen : ¬ (acc ++ (List.replicate (d.getD k 0) (d.getD (k + 1) 0) ++ t)).length ≤ 60 := by
                     rw [List.length_append, List.length_append, List.length_replicate]
                     omega
                   rw [hu] at he
                   rw [snap_x, he]
                   exact if_neg hlen)
  refine g_aload_n (pc := 0) (i := 0) C d_Cod_readSnapshot_0 rfl rfl ?_
  refine g_iload_n (pc := 1) (i := 1) C d_Cod_readSnapshot_1 rfl rfl ?_
  refine g_callV1 (pc := 2) (As := [_]) C my_Row_at mv_Row_at cl_Cod_27 (is_Row (by omega)) d_Cod_readSnapshot_2 (Nat.le_of_ble_eq_true rfl) rfl (Nat.le_of_ble_eq_true rfl) ⟨Nat.zero_le _, Nat.zero_le _⟩ (c_at1 _ hD (by omega) hd (by omega)) ?_
  refine g_istore (pc := 5) C d_Cod_readSnapshot_5 (by decide) rfl ?_
  refine g_iload (pc := 7) C d_Cod_readSnapshot_7 rfl ?_
  refine g_bipush (pc := 9) C d_Cod_readSnapshot_9 bpn_117 ?_
  refine g_icmp_ne (pc := 11) (tgt := 26) C d_Cod_readSnapshot_11 (by decide) (fun h11 => ?_) (fun h11 => ?_)
  · have hu : ¬ d.getD o 0 = 117 := fun e => h11 (by rw [e])
    refine g_iload (pc := 26) C d_Cod_readSnapshot_26 rfl ?_
    refine g_bipush (pc := 28) C d_Cod_readSnapshot_28 bpn_120 ?_
    refine g_icmp_ne (pc := 30) (tgt := 39) C d_Cod_readSnapshot_30 (by decide) (fun h30 => ?_) (fun h30 => ?_)
    · have hx : ¬ d.getD o 0 = 120 := fun e => h30 (by rw [e])
      refine g_iconst (pc := 39) C d_Cod_readSnapshot_39 ic_0 ?_
      refine g_zret (pc := 40) C d_Cod_readSnapshot_40 (by first | exact Or.inl rfl | exact Or.inr rfl) ?_
      refine ⟨c, rfl, Sm.rf, Or.inr ⟨?_, rfl, [], ht⟩⟩
      rw [hch]
      first
        | exact snap_n _ hu hx
        | (have hun := unp_odd (s' / 2) _ (show ((d.drop (o + 1)).take s').length = 2 * (s' / 2) + 1 by rw [hrl]; omega)
           rw [hx, snap_x, hun])
    · have hx : d.getD o 0 = 120 := (nI_eq (by omega) (by decide)).mp h30
      refine g_iload_n (pc := 33) (i := 2) C d_Cod_readSnapshot_33 rfl rfl ?_
      refine g_iconst (pc := 34) C d_Cod_readSnapshot_34 icn_2 ?_
      refine g_irem (pc := 35) C d_Cod_readSnapshot_35 (nI_ne0 (by decide) (by decide)) ?_
      rw [pk_rem (by omega) (by decide) (by decide)]
      refine g_if_ne (pc := 36) (tgt := 41) C d_Cod_readSnapshot_36 (by decide) (fun h36 => ?_) (fun h36 => ?_)
      · have he : ¬ (s' + 1) % 2 = 0 := fun e => h36 (by rw [e]; exact nI_0)
        refine g_iload_n (pc := 41) (i := 1) C d_Cod_readSnapshot_41 rfl rfl ?_
        refine g_iconst (pc := 42) C d_Cod_readSnapshot_42 icn_1 ?_
        refine g_iadd (pc := 43) C d_Cod_readSnapshot_43 ?_
        rw [nI_add]
        refine g_istore (pc := 44) C d_Cod_readSnapshot_44 (by decide) rfl ?_
        exact G.lf (loop hx (s' / 2) (o + 1) [] c (by omega) (Nat.le_refl _) ht hd Sm.rf (by rw [show 2 * (s' / 2) = s' by omega]; simp)) (sb rfl (sb rfl (sb rfl (sb rfl (sb rfl sn)))))
      · have he : (s' + 1) % 2 = 0 := (nI_eq (by omega) (by decide)).mp (h36.trans nI_0.symm)
        refine g_iconst (pc := 39) C d_Cod_readSnapshot_39 ic_0 ?_
        refine g_zret (pc := 40) C d_Cod_readSnapshot_40 (by first | exact Or.inl rfl | exact Or.inr rfl) ?_
        refine ⟨c, rfl, Sm.rf, Or.inr ⟨?_, rfl, [], ht⟩⟩
        rw [hch]
        first
          | exact snap_n _ hu hx
          | (have hun := unp_odd (s' / 2) _ (show ((d.drop (o + 1)).take s').length = 2 * (s' / 2) + 1 by rw [hrl]; omega)
             rw [hx, snap_x, hun])
  · have hu : d.getD o 0 = 117 := (nI_eq (by omega) (by decide)).mp h11
    refine g_aload_n (pc := 14) (i := 3) C d_Cod_readSnapshot_14 rfl rfl ?_
    refine g_aload_n (pc := 15) (i := 0) C d_Cod_readSnapshot_15 rfl rfl ?_
    refine g_iload_n (pc := 16) (i := 1) C d_Cod_readSnapshot_16 rfl rfl ?_
    refine g_iconst (pc := 17) C d_Cod_readSnapshot_17 icn_1 ?_
    refine g_iadd (pc := 18) C d_Cod_readSnapshot_18 ?_
    rw [nI_add]
    refine g_iload_n (pc := 19) (i := 2) C d_Cod_readSnapshot_19 rfl rfl ?_
    refine g_iconst (pc := 20) C d_Cod_readSnapshot_20 icn_1 ?_
    refine g_isub (pc := 21) C d_Cod_readSnapshot_21 ?_
    rw [pk_sub (by omega), show s' + 1 - 1 = s' by omega]
    refine g_callV1 (pc := 22) (As := [_, _, _]) C my_Row_addPart mv_Row_addPart cl_Cod_23 (is_Row (by omega)) d_Cod_readSnapshot_22 (Nat.le_of_ble_eq_true rfl) rfl (Nat.le_of_ble_eq_true rfl) ⟨Nat.zero_le _, Nat.zero_le _⟩ (c_Row_addPart _ hD (by omega) (by omega) ht.1 ht.2.1 hd.1 hd.2.1 (by omega) (by omega)) ?_
    refine g_zret (pc := 25) C d_Cod_readSnapshot_25 (b1_z _) ?_
    by_cases hl : s' ≤ 60
    · have hb : ([] : List Nat).length + s' ≤ rln j ∧ o + 1 + s' ≤ d.length := ⟨by rw [hc]; simpa using hl, by omega⟩
      refine ⟨_, rfl, ?_, Or.inl ⟨(d.drop (o + 1)).take s', ?_, by rw [b1_t hb], ?_⟩⟩
      · rw [if_pos hb]
        exact sm_adp
      · rw [hch, hu, snap_u]
        exact if_pos (by rw [hrl]; exact hl)
      · rw [if_pos hb]
        have h := ht.adp (f := o + 1) (k := s') hd hj hi hb.1 hb.2
        simpa using h
    · have hb : ¬ (([] : List Nat).length + s' ≤ rln j ∧ o + 1 + s' ≤ d.length) := fun h => hl (by have := h.1; rw [hc] at this; simpa using this)
      refine ⟨_, rfl, ?_, Or.inr ⟨?_, by rw [b1_f hb], [], ?_⟩⟩
      · rw [if_neg hb]
        exact Sm.rf
      · rw [hch, hu, snap_u]
        exact if_neg (by rw [hrl]; exact hl)
      · rw [if_neg hb]
        exact ht
set_option maxRecDepth 100000 in
set_option maxHeartbeats 4000000 in
theorem x_Cod_readDifference (l : Launch) {D : Dt} (hD : OkD D) {i j o s : Nat} {c : Cs} {τ : Cs × (Nat → Int64)} {d b : List Nat} (hi : i < 9) (hj : j < 9) (hij : i ≠ j) (hd : RowIs c i d) (ht : RowIs c j b) (yd : By d) (ho : o + s ≤ d.length) (hc : rln j = 60) : Cp l D y_Cod_readDifference b_Cod_readDifference 7 (some .boolean) 3 [.ref (aRow D j), .int (nI s), .int (nI o), .ref (aRow D i)] ((c, τ) : Sg) (fun r u => ∃ c2, u = ((c2, τ) : Sg) ∧ Sm (Rw j) c c2 ∧ ((∃ t, dif ((d.drop o).take s) b = some t ∧ r = some (.int 1) ∧ RowIs c2 j t) ∨ (dif ((d.drop o).take s) b = none ∧ r = some (.int 0) ∧ ∃ x, RowIs c2 j x))) := by
  have ne := RowIs.ne hij hi hj
  have q1 := rln_le i
  have q3 := hd.2.1
  have q4 := ht.2.1
  have y0 := yd.get o
  have y1 := yd.get (o + 1)
  have y2 := yd.get (o + 2)
  have y3 := yd.get (o + 3)
  have hch : 4 ≤ s → (d.drop o).take s = d.getD o 0 :: d.getD (o + 1) 0 :: d.getD (o + 2) 0 :: d.getD (o + 3) 0 :: (d.drop (o + 4)).take (s - 4) := by
    intro h4
    obtain ⟨s', rfl⟩ : ∃ s', s = s' + 4 := ⟨s - 4, by omega⟩
    rw [show s' + 4 = (s' + 2) + 2 by omega, tk2 (by omega), tk2 (by omega)]
    rfl
  have hrl : 4 ≤ s → ((d.drop (o + 4)).take (s - 4)).length = s - 4 := fun h4 => tk_len (by omega)
  refine Cp.of hD (by decide) (Nat.le_of_ble_eq_true rfl) [(0, some (.ref (aRow D i))), (1, some (.int (nI o))), (2, some (.int (nI s))), (3, some (.ref (aRow D j)))] rfl (fun X hX C => ?_)
  subst hX
  refine g_iload_n (pc := 0) (i := 2) C d_Cod_readDifference_0 rfl rfl ?_
  refine g_iconst (pc := 1) C d_Cod_readDifference_1 icn_4 ?_
  refine g_icmp_lt (pc := 2) (tgt := 15) C d_Cod_readDifference_2 (by decide) (fun h2 => ?_) (fun h2 => ?_)
  · have h4 : s < 4 := (nI_ltI (by omega) (by decide)).mp h2
    refine g_iconst (pc := 15) C d_Cod_readDifference_15 ic_0 ?_
    refine g_zret (pc := 16) C d_Cod_readDifference_16 (by first | exact Or.inl rfl | exact Or.inr rfl) ?_
    refine ⟨c, rfl, Sm.rf, Or.inr ⟨?_, rfl, b, ht⟩⟩
    first
      | exact dif_short (by rw [tk_len ho]; exact h4)
      | (rw [hch h4, dif_cons]; exact if_neg (fun h => hk h.1))
  · have h4 : 4 ≤ s := Nat.not_lt.mp fun h => h2 (nI_lt h (by decide))
    refine g_aload_n (pc := 5) (i := 0) C d_Cod_readDifference_5 rfl rfl ?_
    refine g_iload_n (pc := 6) (i := 1) C d_Cod_readDifference_6 rfl rfl ?_
    refine g_callV1 (pc := 7) (As := [_]) C my_Row_at mv_Row_at cl_Cod_27 (is_Row (by omega)) d_Cod_readDifference_7 (Nat.le_of_ble_eq_true rfl) rfl (Nat.le_of_ble_eq_true rfl) ⟨Nat.zero_le _, Nat.zero_le _⟩ (c_at1 _ hD (by omega) hd (by omega)) ?_
    refine g_bipush (pc := 10) C d_Cod_readDifference_10 bpn_100 ?_
    refine g_icmp_eq (pc := 12) (tgt := 17) C d_Cod_readDifference_12 (by decide) (fun h12 => ?_) (fun h12 => ?_)
    · have hk : d.getD o 0 = 100 := (nI_eq (by omega) (by decide)).mp h12
      refine g_aload_n (pc := 17) (i := 0) C d_Cod_readDifference_17 rfl rfl ?_
      refine g_iload_n (pc := 18) (i := 1) C d_Cod_readDifference_18 rfl rfl ?_
      refine g_iconst (pc := 19) C d_Cod_readDifference_19 icn_1 ?_
      refine g_iadd (pc := 20) C d_Cod_readDifference_20 ?_
      rw [nI_add]
      refine g_callV1 (pc := 21) (As := [_]) C my_Row_at mv_Row_at cl_Cod_27 (is_Row (by omega)) d_Cod_readDifference_21 (Nat.le_of_ble_eq_true rfl) rfl (Nat.le_of_ble_eq_true rfl) ⟨Nat.zero_le _, Nat.zero_le _⟩ (c_at1 _ hD (by omega) hd (by omega)) ?_
      refine g_istore (pc := 24) C d_Cod_readDifference_24 (by decide) rfl ?_
      refine g_aload_n (pc := 26) (i := 0) C d_Cod_readDifference_26 rfl rfl ?_
      refine g_iload_n (pc := 27) (i := 1) C d_Cod_readDifference_27 rfl rfl ?_
      refine g_iconst (pc := 28) C d_Cod_readDifference_28 icn_2 ?_
      refine g_iadd (pc := 29) C d_Cod_readDifference_29 ?_
      rw [nI_add]
      refine g_callV1 (pc := 30) (As := [_]) C my_Row_at mv_Row_at cl_Cod_27 (is_Row (by omega)) d_Cod_readDifference_30 (Nat.le_of_ble_eq_true rfl) rfl (Nat.le_of_ble_eq_true rfl) ⟨Nat.zero_le _, Nat.zero_le _⟩ (c_at1 _ hD (by omega) hd (by omega)) ?_
      refine g_istore (pc := 33) C d_Cod_readDifference_33 (by decide) rfl ?_
      refine g_aload_n (pc := 35) (i := 0) C d_Cod_readDifference_35 rfl rfl ?_
      refine g_iload_n (pc := 36) (i := 1) C d_Cod_readDifference_36 rfl rfl ?_
      refine g_iconst (pc := 37) C d_Cod_readDifference_37 icn_3 ?_
      refine g_iadd (pc := 38) C d_Cod_readDifference_38 ?_
      rw [nI_add]
      refine g_callV1 (pc := 39) (As := [_]) C my_Row_at mv_Row_at cl_Cod_27 (is_Row (by omega)) d_Cod_readDifference_39 (Nat.le_of_ble_eq_true rfl) rfl (Nat.le_of_ble_eq_true rfl) ⟨Nat.zero_le _, Nat.zero_le _⟩ (c_at1 _ hD (by omega) hd (by omega)) ?_
      refine g_istore (pc := 42) C d_Cod_readDifference_42 (by decide) rfl ?_
      refine g_iload (pc := 44) C d_Cod_readDifference_44 rfl ?_
      refine g_iload_n (pc := 46) (i := 2) C d_Cod_readDifference_46 rfl rfl ?_
      refine g_iconst (pc := 47) C d_Cod_readDifference_47 icn_4 ?_
      refine g_isub (pc := 48) C d_Cod_readDifference_48 ?_
      rw [pk_sub h4]
      refine g_icmp_eq (pc := 49) (tgt := 54) C d_Cod_readDifference_49 (by decide) (fun h49 => ?_) (fun h49 => ?_)
      · have hm : d.getD (o + 3) 0 = s - 4 := (nI_eq (by omega) (by omega)).mp h49
        refine g_aload_n (pc := 54) (i := 3) C d_Cod_readDifference_54 rfl rfl ?_
        refine g_iload (pc := 55) C d_Cod_readDifference_55 rfl ?_
        refine g_iload (pc := 57) C d_Cod_readDifference_57 rfl ?_
        refine g_aload_n (pc := 59) (i := 0) C d_Cod_readDifference_59 rfl rfl ?_
        refine g_iload_n (pc := 60) (i := 1) C d_Cod_readDifference_60 rfl rfl ?_
        refine g_iconst (pc := 61) C d_Cod_readDifference_61 icn_4 ?_
        refine g_iadd (pc := 62) C d_Cod_readDifference_62 ?_
        rw [nI_add]
        refine g_iload (pc := 63) C d_Cod_readDifference_63 rfl ?_
        refine g_callV1 (pc := 65) (As := [_, _, _, _, _]) C my_Row_replace mv_Row_replace cl_Cod_51 (is_Row (by omega)) d_Cod_readDifference_65 (Nat.le_of_ble_eq_true rfl) rfl (Nat.le_of_ble_eq_true rfl) ⟨Nat.zero_le _, Nat.zero_le _⟩ (c_Row_replace _ hD (by omega) (by omega) ht.1 ht.2.1 hd.1 hd.2.1 (by omega) (by omega) (by omega) (by omega)) ?_
        refine g_zret (pc := 68) C d_Cod_readDifference_68 (b1_z _) ?_
        by_cases hb : d.getD (o + 1) 0 ≤ d.getD (o + 2) 0 ∧ d.getD (o + 2) 0 ≤ b.length ∧ o + 4 + d.getD (o + 3) 0 ≤ d.length ∧ b.length - (d.getD (o + 2) 0 - d.getD (o + 1) 0) + d.getD (o + 3) 0 ≤ rln j
        · refine ⟨_, rfl, ?_, Or.inl ⟨b.take (d.getD (o + 1) 0) ++ (d.drop (o + 4)).take (d.getD (o + 3) 0) ++ b.drop (d.getD (o + 2) 0), ?_, by rw [b1_t hb], ?_⟩⟩
          · rw [if_pos hb]
            exact sm_rep
          · rw [hch h4, dif_cons, if_pos ⟨hk, by rw [hrl h4]; exact hm, hb.1, hb.2.1, by have := hb.2.2.2; rw [hc] at this; exact this⟩, hm]
          · rw [if_pos hb]
            exact ht.rep hd hij hj hi hb.1 hb.2.1 hb.2.2.1 hb.2.2.2
        · refine ⟨_, rfl, ?_, Or.inr ⟨?_, by rw [b1_f hb], b, ?_⟩⟩
          · rw [if_neg hb]
            exact Sm.rf
          · rw [hch h4, dif_cons, if_neg (fun h => hb ⟨h.2.2.1, h.2.2.2.1, by omega, by rw [hc]; exact h.2.2.2.2⟩)]
          · rw [if_neg hb]
            exact ht
      · have hm : ¬ d.getD (o + 3) 0 = s - 4 := fun e => h49 (by rw [e])
        refine g_iconst (pc := 52) C d_Cod_readDifference_52 ic_0 ?_
        refine g_zret (pc := 53) C d_Cod_readDifference_53 (by first | exact Or.inl rfl | exact Or.inr rfl) ?_
        refine ⟨c, rfl, Sm.rf, Or.inr ⟨?_, rfl, b, ht⟩⟩
        rw [hch h4, dif_cons]
        exact if_neg (fun h => hm (by have h5 := h.2.1; rw [hrl h4] at h5; exact h5))
    · have hk : ¬ d.getD o 0 = 100 := fun e => h12 (by rw [e])
      refine g_iconst (pc := 15) C d_Cod_readDifference_15 ic_0 ?_
      refine g_zret (pc := 16) C d_Cod_readDifference_16 (by first | exact Or.inl rfl | exact Or.inr rfl) ?_
      refine ⟨c, rfl, Sm.rf, Or.inr ⟨?_, rfl, b, ht⟩⟩
      first
        | exact dif_short (by rw [tk_len ho]; exact h4)
        | (rw [hch h4, dif_cons]; exact if_neg (fun h => hk h.1))
end
section
/-! records and repositories -/
def RecIs (c : Cs) (i : Nat) (x : Rc) : Prop := c.1 (26 + i) 0 = nI x.off ∧ c.1 (26 + i) 1 = nI x.siz ∧ c.1 (26 + i) 2 = nI x.len ∧ c.1 (26 + i) 3 = eo x.bas ∧ c.1 (26 + i) 4 = eo x.pa ∧ c.1 (26 + i) 5 = eo x.pb ∧ c.2 i = x.nod
def RcX (c : Cs) (r : Nat) (rs : List Rc) : Prop := rs.length ≤ 24 ∧ ∀ n x, rs[n]? = some x → RecIs c (24 * r + n) x
def RpF (f : Nat → Int32) (R : Rp) : Prop := f 0 = nI R.rcs.length ∧ f 1 = b1 (R.jrn.isSome = true) ∧ (∀ p, R.jrn = some p → f 2 = nI p.1 ∧ f 3 = nI p.2) ∧ f 4 = b1 (R.dwn = true) ∧ f 5 = nI R.fai
def RepIs (c : Cs) (r : Nat) (R : Rp) : Prop := RpF (c.1 (20 + r)) R ∧ RowIs c (1 + 4 * r) R.dat ∧ RcX c r R.rcs
/-- what a record may point at, the n-th -/
def WfX (d : Nat) (rs : List Rc) (n : Nat) (x : Rc) : Prop := (∀ b, x.bas = some b → b < n) ∧ (∀ b, x.pa = some b → b < n) ∧ (∀ b, x.pb = some b → b < n) ∧ 1 ≤ x.siz ∧ x.siz ≤ 121 ∧ x.len ≤ 60 ∧ x.off + x.siz ≤ d ∧ chn rs 6 (some n) ≠ none
theorem lg_c0 {x y : Int64} : lg_cmp x y = 0 ↔ x = y := by
  unfold lg_cmp
  constructor
  · intro h
    split at h
    · exact absurd h (by decide)
    · split at h
      · assumption
      · exact absurd h (by decide)
  · intro h
    subst h
    rw [if_neg (by intro h; exact absurd h (by simp [Int64.lt_iff_toInt_lt])), if_pos rfl]
theorem nI_m1 {n : Nat} (h : n < 2 ^ 31) : ¬ nI n = -1 := by
  intro e
  have h1 := nI_toInt h
  rw [e] at h1
  have h2 : (-1 : Int32).toInt = -1 := by decide +kernel
  omega
theorem eo_m1 {o : Option Nat} (h : ∀ n, o = some n → n < 2 ^ 31) : eo o = -1 ↔ o = none := by
  cases o with
  | none => exact ⟨fun _ => rfl, fun _ => rfl⟩
  | some n => exact ⟨fun e => absurd e (nI_m1 (h n rfl)), fun e => by cases e⟩
theorem RecIs.sm {P : Nat → Prop} {c c2 : Cs} {i : Nat} {x : Rc} (h : RecIs c i x) (hs : Sm P c c2) (h1 : ¬ P (26 + i)) : RecIs c2 i x := by
  unfold RecIs
  rw [hs.1 _ h1, hs.2]
  exact h
theorem RcX.sm {P : Nat → Prop} {c c2 : Cs} {r : Nat} {rs : List Rc} (h : RcX c r rs) (hs : Sm P c c2) (h1 : ∀ t, 26 ≤ t → ¬ P t) : RcX c2 r rs := ⟨h.1, fun n x hx => (h.2 n x hx).sm hs (h1 _ (by omega))⟩
theorem RcX.lt {c : Cs} {r n : Nat} {rs : List Rc} {x : Rc} (h : RcX c r rs) (hx : rs[n]? = some x) : n < 24 := by
  have h1 := (List.getElem?_eq_some_iff.mp hx).1
  have h2 := h.1
  omega
end
section
set_option maxRecDepth 100000 in
set_option maxHeartbeats 4000000 in
theorem c_Rep_hasRevision (l : Launch) {D : Dt} (hD : OkD D) {r : Nat} {c : Cs} {τ : Cs × (Nat → Int64)} {k : Int32} (hr : r < 2) : Ct l D y_Rep_hasRevision b_Rep_hasRevision 2 (some .boolean) 1 [.int k, .ref (aRep D r)] ((c, τ) : Sg) (some (.int (b1 (0 ≤ k ∧ k < c.1 (20 + r) 0)))) ((c, τ) : Sg) := by
  refine Ct.of hD (by decide) (Nat.le_of_ble_eq_true rfl) [(0, some (.ref (aRep D r))), (1, some (.int k))] rfl (fun X hX C => ?_)
  subst hX
  refine g_iload_n (pc := 0) (i := 1) C d_Rep_hasRevision_0 rfl rfl ?_
  refine g_if_lt (pc := 1) (tgt := 16) C d_Rep_hasRevision_1 (by decide) (fun h1 => ?_) (fun h1 => ?_)
  · skip
    refine g_iconst (pc := 16) C d_Rep_hasRevision_16 ic_0 ?_
    refine g_zret (pc := 17) C d_Rep_hasRevision_17 (by first | exact Or.inl rfl | exact Or.inr rfl) ?_
    refine ⟨congrArg (fun v => some (Value.int v)) ?_, rfl⟩
    first | exact (b1_t (by constructor <;> (simp only [Int32.lt_iff_toInt_lt, Int32.le_iff_toInt_le, Int32.toInt_zero, i32_1] at *; omega))).symm | exact (b1_f (by intro h; obtain ⟨ha, hb⟩ := h; (simp only [Int32.lt_iff_toInt_lt, Int32.le_iff_toInt_le, Int32.toInt_zero, i32_1] at *; omega))).symm
  · skip
    refine g_iload_n (pc := 4) (i := 1) C d_Rep_hasRevision_4 rfl rfl ?_
    refine g_aload_n (pc := 5) (i := 0) C d_Rep_hasRevision_5 rfl rfl ?_
    refine gf_Rep_recordCount (pc := 6) C (by omega) fl_Rep_27 d_Rep_hasRevision_6 ?_
    refine g_icmp_ge (pc := 9) (tgt := 16) C d_Rep_hasRevision_9 (by decide) (fun h9 => ?_) (fun h9 => ?_)
    · skip
      refine g_iconst (pc := 16) C d_Rep_hasRevision_16 ic_0 ?_
      refine g_zret (pc := 17) C d_Rep_hasRevision_17 (by first | exact Or.inl rfl | exact Or.inr rfl) ?_
      refine ⟨congrArg (fun v => some (Value.int v)) ?_, rfl⟩
      first | exact (b1_t (by constructor <;> (simp only [Int32.lt_iff_toInt_lt, Int32.le_iff_toInt_le, Int32.toInt_zero, i32_1] at *; omega))).symm | exact (b1_f (by intro h; obtain ⟨ha, hb⟩ := h; (simp only [Int32.lt_iff_toInt_lt, Int32.le_iff_toInt_le, Int32.toInt_zero, i32_1] at *; omega))).symm
    · skip
      refine g_iconst (pc := 12) C d_Rep_hasRevision_12 ic_1 ?_
      refine g_goto (pc := 13) (tgt := 17) C d_Rep_hasRevision_13 (by decide) ?_
      refine g_zret (pc := 17) C d_Rep_hasRevision_17 (by first | exact Or.inl rfl | exact Or.inr rfl) ?_
      refine ⟨congrArg (fun v => some (Value.int v)) ?_, rfl⟩
      first | exact (b1_t (by constructor <;> (simp only [Int32.lt_iff_toInt_lt, Int32.le_iff_toInt_le, Int32.toInt_zero, i32_1] at *; omega))).symm | exact (b1_f (by intro h; obtain ⟨ha, hb⟩ := h; (simp only [Int32.lt_iff_toInt_lt, Int32.le_iff_toInt_le, Int32.toInt_zero, i32_1] at *; omega))).symm
set_option maxRecDepth 100000 in
set_option maxHeartbeats 4000000 in
theorem c_Rep_canBeParent (l : Launch) {D : Dt} (hD : OkD D) {r : Nat} {c : Cs} {τ : Cs × (Nat → Int64)} {k : Int32} (hr : r < 2) : Ct l D y_Rep_canBeParent b_Rep_canBeParent 2 (some .boolean) 2 [.int k, .ref (aRep D r)] ((c, τ) : Sg) (some (.int (b1 (k = -1 ∨ (0 ≤ k ∧ k < c.1 (20 + r) 0))))) ((c, τ) : Sg) := by
  refine Ct.of hD (by decide) (Nat.le_of_ble_eq_true rfl) [(0, some (.ref (aRep D r))), (1, some (.int k))] rfl (fun X hX C => ?_)
  subst hX
  refine g_iload_n (pc := 0) (i := 1) C d_Rep_canBeParent_0 rfl rfl ?_
  refine g_iconst (pc := 1) C d_Rep_canBeParent_1 ic_m1 ?_
  refine g_icmp_eq (pc := 2) (tgt := 13) C d_Rep_canBeParent_2 (by decide) (fun h2 => ?_) (fun h2 => ?_)
  · skip
    refine g_iconst (pc := 13) C d_Rep_canBeParent_13 ic_1 ?_
    refine g_goto (pc := 14) (tgt := 18) C d_Rep_canBeParent_14 (by decide) ?_
    refine g_zret (pc := 18) C d_Rep_canBeParent_18 (by first | exact Or.inl rfl | exact Or.inr rfl) ?_
    refine ⟨congrArg (fun v => some (Value.int v)) ?_, rfl⟩
    first | exact (b1_t (Or.inl h2)).symm | exact (b1_t (Or.inr hb)).symm | exact (b1_f (fun h => h.elim h2 hb)).symm
  · skip
    refine g_aload_n (pc := 5) (i := 0) C d_Rep_canBeParent_5 rfl rfl ?_
    refine g_iload_n (pc := 6) (i := 1) C d_Rep_canBeParent_6 rfl rfl ?_
    refine g_callV1 (pc := 7) (As := [_]) C my_Rep_hasRevision mv_Rep_hasRevision cl_Rep_54 (is_Rep (by omega)) d_Rep_canBeParent_7 (Nat.le_of_ble_eq_true rfl) rfl (Nat.le_of_ble_eq_true rfl) ⟨Nat.zero_le _, Nat.zero_le _⟩ (c_Rep_hasRevision _ hD (by omega)) ?_
    refine g_if_eq (pc := 10) (tgt := 17) C d_Rep_canBeParent_10 (by decide) (fun h10 => ?_) (fun h10 => ?_)
    · have hb := b1_0 h10
      refine g_iconst (pc := 17) C d_Rep_canBeParent_17 ic_0 ?_
      refine g_zret (pc := 18) C d_Rep_canBeParent_18 (by first | exact Or.inl rfl | exact Or.inr rfl) ?_
      refine ⟨congrArg (fun v => some (Value.int v)) ?_, rfl⟩
      first | exact (b1_t (Or.inl h2)).symm | exact (b1_t (Or.inr hb)).symm | exact (b1_f (fun h => h.elim h2 hb)).symm
    · have hb := b1_1 h10
      refine g_iconst (pc := 13) C d_Rep_canBeParent_13 ic_1 ?_
      refine g_goto (pc := 14) (tgt := 18) C d_Rep_canBeParent_14 (by decide) ?_
      refine g_zret (pc := 18) C d_Rep_canBeParent_18 (by first | exact Or.inl rfl | exact Or.inr rfl) ?_
      refine ⟨congrArg (fun v => some (Value.int v)) ?_, rfl⟩
      first | exact (b1_t (Or.inl h2)).symm | exact (b1_t (Or.inr hb)).symm | exact (b1_f (fun h => h.elim h2 hb)).symm
set_option maxRecDepth 100000 in
set_option maxHeartbeats 4000000 in
theorem c_V_byteAt (l : Launch) {D : Dt} (hD : OkD D) {v : Int64} {s : Int32} {σ : Sg}  : Ct l D y_V_byteAt b_V_byteAt 3 (some .int) 1 [.int s, .long v] σ (some (.int (byt v s))) σ := by
  refine Ct.of hD (by decide) (Nat.le_of_ble_eq_true rfl) [(0, some (.long v)), (2, some (.int s))] rfl (fun X hX C => ?_)
  subst hX
  refine g_lload_n (pc := 0) (i := 0) C d_V_byteAt_0 rfl rfl ?_
  refine g_iload_n (pc := 1) (i := 2) C d_V_byteAt_1 rfl rfl ?_
  refine g_lushr (pc := 2) C d_V_byteAt_2 ?_
  refine g_l2i (pc := 3) C d_V_byteAt_3 ?_
  refine g_sipush (pc := 4) C d_V_byteAt_4 sp_255 ?_
  refine g_iand (pc := 7) C d_V_byteAt_7 ?_
  refine g_iret (pc := 8) C d_V_byteAt_8 ?_
  exact ⟨rfl, rfl⟩
set_option maxRecDepth 100000 in
set_option maxHeartbeats 4000000 in
theorem c_Rep_mixLong (l : Launch) {D : Dt} (hD : OkD D) {h v : Int64} {σ : Sg}  : Ct l D y_Rep_mixLong b_Rep_mixLong 7 (some .long) 2 [.long v, .long h] σ (some (.long (mixL h v))) σ := by
  refine Ct.of hD (by decide) (Nat.le_of_ble_eq_true rfl) [(0, some (.long h)), (2, some (.long v))] rfl (fun X hX C => ?_)
  subst hX
  refine g_lload_n (pc := 0) (i := 0) C d_Rep_mixLong_0 rfl rfl ?_
  refine g_lstore (pc := 1) C d_Rep_mixLong_1 (by decide) rfl ?_
  refine g_bipush (pc := 3) C d_Rep_mixLong_3 bp_56 ?_
  refine g_istore (pc := 5) C d_Rep_mixLong_5 (by decide) rfl ?_
  refine g_iload (pc := 7) C d_Rep_mixLong_7 rfl ?_
  refine g_if_lt (pc := 9) (tgt := 34) C d_Rep_mixLong_9 (by decide) (fun h9 => ?_) (fun h9 => ?_)
  · first | exact absurd h9 (by decide) | exact absurd (by decide) h9
  · skip
    refine g_lload (pc := 12) C d_Rep_mixLong_12 rfl ?_
    refine g_lload_n (pc := 14) (i := 2) C d_Rep_mixLong_14 rfl rfl ?_
    refine g_iload (pc := 15) C d_Rep_mixLong_15 rfl ?_
    refine g_callS1 (pc := 17) (As := [_, _]) C my_V_byteAt ms_V_byteAt cl_Rep_158 d_Rep_mixLong_17 (Nat.le_of_ble_eq_true rfl) rfl (Nat.le_of_ble_eq_true rfl) ⟨Nat.zero_le _, Nat.zero_le _⟩ (c_V_byteAt _ hD) ?_
    refine g_i2l (pc := 20) C d_Rep_mixLong_20 ?_
    refine g_lxor (pc := 21) C d_Rep_mixLong_21 ?_
    refine g_ldc2 (pc := 22) C kc_Rep_156 d_Rep_mixLong_22 ?_
    refine g_lmul (pc := 25) C d_Rep_mixLong_25 ?_
    refine g_lstore (pc := 26) C d_Rep_mixLong_26 (by decide) rfl ?_
    refine g_iinc (pc := 28) C d_Rep_mixLong_28 rfl (v := 48) (by decide) rfl ?_
    refine g_goto (pc := 31) (tgt := 7) C d_Rep_mixLong_31 (by decide) ?_
    refine g_iload (pc := 7) C d_Rep_mixLong_7 rfl ?_
    refine g_if_lt (pc := 9) (tgt := 34) C d_Rep_mixLong_9 (by decide) (fun h9 => ?_) (fun h9 => ?_)
    · first | exact absurd h9 (by decide) | exact absurd (by decide) h9
    · skip
      refine g_lload (pc := 12) C d_Rep_mixLong_12 rfl ?_
      refine g_lload_n (pc := 14) (i := 2) C d_Rep_mixLong_14 rfl rfl ?_
      refine g_iload (pc := 15) C d_Rep_mixLong_15 rfl ?_
      refine g_callS1 (pc := 17) (As := [_, _]) C my_V_byteAt ms_V_byteAt cl_Rep_158 d_Rep_mixLong_17 (Nat.le_of_ble_eq_true rfl) rfl (Nat.le_of_ble_eq_true rfl) ⟨Nat.zero_le _, Nat.zero_le _⟩ (c_V_byteAt _ hD) ?_
      refine g_i2l (pc := 20) C d_Rep_mixLong_20 ?_
      refine g_lxor (pc := 21) C d_Rep_mixLong_21 ?_
      refine g_ldc2 (pc := 22) C kc_Rep_156 d_Rep_mixLong_22 ?_
      refine g_lmul (pc := 25) C d_Rep_mixLong_25 ?_
      refine g_lstore (pc := 26) C d_Rep_mixLong_26 (by decide) rfl ?_
      refine g_iinc (pc := 28) C d_Rep_mixLong_28 rfl (v := 40) (by decide) rfl ?_
      refine g_goto (pc := 31) (tgt := 7) C d_Rep_mixLong_31 (by decide) ?_
      refine g_iload (pc := 7) C d_Rep_mixLong_7 rfl ?_
      refine g_if_lt (pc := 9) (tgt := 34) C d_Rep_mixLong_9 (by decide) (fun h9 => ?_) (fun h9 => ?_)
      · first | exact absurd h9 (by decide) | exact absurd (by decide) h9
      · skip
        refine g_lload (pc := 12) C d_Rep_mixLong_12 rfl ?_
        refine g_lload_n (pc := 14) (i := 2) C d_Rep_mixLong_14 rfl rfl ?_
        refine g_iload (pc := 15) C d_Rep_mixLong_15 rfl ?_
        refine g_callS1 (pc := 17) (As := [_, _]) C my_V_byteAt ms_V_byteAt cl_Rep_158 d_Rep_mixLong_17 (Nat.le_of_ble_eq_true rfl) rfl (Nat.le_of_ble_eq_true rfl) ⟨Nat.zero_le _, Nat.zero_le _⟩ (c_V_byteAt _ hD) ?_
        refine g_i2l (pc := 20) C d_Rep_mixLong_20 ?_
        refine g_lxor (pc := 21) C d_Rep_mixLong_21 ?_
        refine g_ldc2 (pc := 22) C kc_Rep_156 d_Rep_mixLong_22 ?_
        refine g_lmul (pc := 25) C d_Rep_mixLong_25 ?_
        refine g_lstore (pc := 26) C d_Rep_mixLong_26 (by decide) rfl ?_
        refine g_iinc (pc := 28) C d_Rep_mixLong_28 rfl (v := 32) (by decide) rfl ?_
        refine g_goto (pc := 31) (tgt := 7) C d_Rep_mixLong_31 (by decide) ?_
        refine g_iload (pc := 7) C d_Rep_mixLong_7 rfl ?_
        refine g_if_lt (pc := 9) (tgt := 34) C d_Rep_mixLong_9 (by decide) (fun h9 => ?_) (fun h9 => ?_)
        · first | exact absurd h9 (by decide) | exact absurd (by decide) h9
        · skip
          refine g_lload (pc := 12) C d_Rep_mixLong_12 rfl ?_
          refine g_lload_n (pc := 14) (i := 2) C d_Rep_mixLong_14 rfl rfl ?_
          refine g_iload (pc := 15) C d_Rep_mixLong_15 rfl ?_
          refine g_callS1 (pc := 17) (As := [_, _]) C my_V_byteAt ms_V_byteAt cl_Rep_158 d_Rep_mixLong_17 (Nat.le_of_ble_eq_true rfl) rfl (Nat.le_of_ble_eq_true rfl) ⟨Nat.zero_le _, Nat.zero_le _⟩ (c_V_byteAt _ hD) ?_
          refine g_i2l (pc := 20) C d_Rep_mixLong_20 ?_
          refine g_lxor (pc := 21) C d_Rep_mixLong_21 ?_
          refine g_ldc2 (pc := 22) C kc_Rep_156 d_Rep_mixLong_22 ?_
          refine g_lmul (pc := 25) C d_Rep_mixLong_25 ?_
          refine g_lstore (pc := 26) C d_Rep_mixLong_26 (by decide) rfl ?_
          refine g_iinc (pc := 28) C d_Rep_mixLong_28 rfl (v := 24) (by decide) rfl ?_
          refine g_goto (pc := 31) (tgt := 7) C d_Rep_mixLong_31 (by decide) ?_
          refine g_iload (pc := 7) C d_Rep_mixLong_7 rfl ?_
          refine g_if_lt (pc := 9) (tgt := 34) C d_Rep_mixLong_9 (by decide) (fun h9 => ?_) (fun h9 => ?_)
          · first | exact absurd h9 (by decide) | exact absurd (by decide) h9
          · skip
            refine g_lload (pc := 12) C d_Rep_mixLong_12 rfl ?_
            refine g_lload_n (pc := 14) (i := 2) C d_Rep_mixLong_14 rfl rfl ?_
            refine g_iload (pc := 15) C d_Rep_mixLong_15 rfl ?_
            refine g_callS1 (pc := 17) (As := [_, _]) C my_V_byteAt ms_V_byteAt cl_Rep_158 d_Rep_mixLong_17 (Nat.le_of_ble_eq_true rfl) rfl (Nat.le_of_ble_eq_true rfl) ⟨Nat.zero_le _, Nat.zero_le _⟩ (c_V_byteAt _ hD) ?_
            refine g_i2l (pc := 20) C d_Rep_mixLong_20 ?_
            refine g_lxor (pc := 21) C d_Rep_mixLong_21 ?_
            refine g_ldc2 (pc := 22) C kc_Rep_156 d_Rep_mixLong_22 ?_
            refine g_lmul (pc := 25) C d_Rep_mixLong_25 ?_
            refine g_lstore (pc := 26) C d_Rep_mixLong_26 (by decide) rfl ?_
            refine g_iinc (pc := 28) C d_Rep_mixLong_28 rfl (v := 16) (by decide) rfl ?_
            refine g_goto (pc := 31) (tgt := 7) C d_Rep_mixLong_31 (by decide) ?_
            refine g_iload (pc := 7) C d_Rep_mixLong_7 rfl ?_
            refine g_if_lt (pc := 9) (tgt := 34) C d_Rep_mixLong_9 (by decide) (fun h9 => ?_) (fun h9 => ?_)
            · first | exact absurd h9 (by decide) | exact absurd (by decide) h9
            · skip
              refine g_lload (pc := 12) C d_Rep_mixLong_12 rfl ?_
              refine g_lload_n (pc := 14) (i := 2) C d_Rep_mixLong_14 rfl rfl ?_
              refine g_iload (pc := 15) C d_Rep_mixLong_15 rfl ?_
              refine g_callS1 (pc := 17) (As := [_, _]) C my_V_byteAt ms_V_byteAt cl_Rep_158 d_Rep_mixLong_17 (Nat.le_of_ble_eq_true rfl) rfl (Nat.le_of_ble_eq_true rfl) ⟨Nat.zero_le _, Nat.zero_le _⟩ (c_V_byteAt _ hD) ?_
              refine g_i2l (pc := 20) C d_Rep_mixLong_20 ?_
              refine g_lxor (pc := 21) C d_Rep_mixLong_21 ?_
              refine g_ldc2 (pc := 22) C kc_Rep_156 d_Rep_mixLong_22 ?_
              refine g_lmul (pc := 25) C d_Rep_mixLong_25 ?_
              refine g_lstore (pc := 26) C d_Rep_mixLong_26 (by decide) rfl ?_
              refine g_iinc (pc := 28) C d_Rep_mixLong_28 rfl (v := 8) (by decide) rfl ?_
              refine g_goto (pc := 31) (tgt := 7) C d_Rep_mixLong_31 (by decide) ?_
              refine g_iload (pc := 7) C d_Rep_mixLong_7 rfl ?_
              refine g_if_lt (pc := 9) (tgt := 34) C d_Rep_mixLong_9 (by decide) (fun h9 => ?_) (fun h9 => ?_)
              · first | exact absurd h9 (by decide) | exact absurd (by decide) h9
              · skip
                refine g_lload (pc := 12) C d_Rep_mixLong_12 rfl ?_
                refine g_lload_n (pc := 14) (i := 2) C d_Rep_mixLong_14 rfl rfl ?_
                refine g_iload (pc := 15) C d_Rep_mixLong_15 rfl ?_
                refine g_callS1 (pc := 17) (As := [_, _]) C my_V_byteAt ms_V_byteAt cl_Rep_158 d_Rep_mixLong_17 (Nat.le_of_ble_eq_true rfl) rfl (Nat.le_of_ble_eq_true rfl) ⟨Nat.zero_le _, Nat.zero_le _⟩ (c_V_byteAt _ hD) ?_
                refine g_i2l (pc := 20) C d_Rep_mixLong_20 ?_
                refine g_lxor (pc := 21) C d_Rep_mixLong_21 ?_
                refine g_ldc2 (pc := 22) C kc_Rep_156 d_Rep_mixLong_22 ?_
                refine g_lmul (pc := 25) C d_Rep_mixLong_25 ?_
                refine g_lstore (pc := 26) C d_Rep_mixLong_26 (by decide) rfl ?_
                refine g_iinc (pc := 28) C d_Rep_mixLong_28 rfl (v := 0) (by decide) rfl ?_
                refine g_goto (pc := 31) (tgt := 7) C d_Rep_mixLong_31 (by decide) ?_
                refine g_iload (pc := 7) C d_Rep_mixLong_7 rfl ?_
                refine g_if_lt (pc := 9) (tgt := 34) C d_Rep_mixLong_9 (by decide) (fun h9 => ?_) (fun h9 => ?_)
                · first | exact absurd h9 (by decide) | exact absurd (by decide) h9
                · skip
                  refine g_lload (pc := 12) C d_Rep_mixLong_12 rfl ?_
                  refine g_lload_n (pc := 14) (i := 2) C d_Rep_mixLong_14 rfl rfl ?_
                  refine g_iload (pc := 15) C d_Rep_mixLong_15 rfl ?_
                  refine g_callS1 (pc := 17) (As := [_, _]) C my_V_byteAt ms_V_byteAt cl_Rep_158 d_Rep_mixLong_17 (Nat.le_of_ble_eq_true rfl) rfl (Nat.le_of_ble_eq_true rfl) ⟨Nat.zero_le _, Nat.zero_le _⟩ (c_V_byteAt _ hD) ?_
                  refine g_i2l (pc := 20) C d_Rep_mixLong_20 ?_
                  refine g_lxor (pc := 21) C d_Rep_mixLong_21 ?_
                  refine g_ldc2 (pc := 22) C kc_Rep_156 d_Rep_mixLong_22 ?_
                  refine g_lmul (pc := 25) C d_Rep_mixLong_25 ?_
                  refine g_lstore (pc := 26) C d_Rep_mixLong_26 (by decide) rfl ?_
                  refine g_iinc (pc := 28) C d_Rep_mixLong_28 rfl (v := (-8)) (by decide) rfl ?_
                  refine g_goto (pc := 31) (tgt := 7) C d_Rep_mixLong_31 (by decide) ?_
                  refine g_iload (pc := 7) C d_Rep_mixLong_7 rfl ?_
                  refine g_if_lt (pc := 9) (tgt := 34) C d_Rep_mixLong_9 (by decide) (fun h9 => ?_) (fun h9 => ?_)
                  · skip
                    refine g_lload (pc := 34) C d_Rep_mixLong_34 rfl ?_
                    refine g_lret (pc := 36) C d_Rep_mixLong_36 ?_
                    exact ⟨rfl, rfl⟩
                  · first | exact absurd h9 (by decide) | exact absurd (by decide) h9
theorem fnd_s {h : Int64} {rs : List Rc} {n : Nat} {x : Rc} (hx : rs[n]? = some x) : fnd h (rs.drop n) n = if x.nod = h then some n else fnd h (rs.drop (n + 1)) (n + 1) := by
  obtain ⟨hl, he⟩ := List.getElem?_eq_some_iff.mp hx
  rw [List.drop_eq_getElem_cons hl, he]
  rfl
set_option maxRecDepth 100000 in
set_option maxHeartbeats 4000000 in
theorem c_Rep_find (l : Launch) {D : Dt} (hD : OkD D) {r : Nat} {c : Cs} {τ : Cs × (Nat → Int64)} {h : Int64} {rs : List Rc} (hr : r < 2) (hc : c.1 (20 + r) 0 = nI rs.length) (hx : RcX c r rs) : Ct l D y_Rep_find b_Rep_find 4 (some .int) 1 [.long h, .ref (aRep D r)] ((c, τ) : Sg) (some (.int (eo (find rs h)))) ((c, τ) : Sg) := by
  have q := hx.1
  refine Ct.of hD (by decide) (Nat.le_of_ble_eq_true rfl) [(0, some (.ref (aRep D r))), (1, some (.long h))] rfl (fun X hX C => ?_)
  subst hX
  have loop : ∀ (m n : Nat), n + m = rs.length → find rs h = fnd h (rs.drop n) n → G X D (Qp X D (fun r2 u => r2 = some (.int (eo (find rs h))) ∧ u = ((c, τ) : Sg))) (0, 0) ((c, τ) : Sg) 2 [(0, some (.ref (aRep D r))), (1, some (.long h)), (3, some (.int (nI n)))] [] := by
    intro m
    induction m with
    | zero =>
      intro n hn he
      rw [List.drop_eq_nil_of_le (by omega)] at he
      refine g_iload_n (pc := 2) (i := 3) C d_Rep_find_2 rfl rfl ?_
      refine g_aload_n (pc := 3) (i := 0) C d_Rep_find_3 rfl rfl ?_
      refine gf_Rep_recordCount (pc := 4) C (by omega) fl_Rep_27 d_Rep_find_4 ?_
      rw [hc]
      refine g_icmp_ge (pc := 7) (tgt := 32) C d_Rep_find_7 (by decide) (fun h7 => ?_) (fun h7 => ?_)
      · skip
        refine g_iconst (pc := 32) C d_Rep_find_32 ic_m1 ?_
        refine g_iret (pc := 33) C d_Rep_find_33 ?_
        exact ⟨by rw [he]; rfl, rfl⟩
      · first | exact absurd h7 (nI_le (by omega) (by omega)) | exact absurd (nI_le (by omega) (by omega)) h7
    | succ m ih =>
      intro n hn he
      obtain ⟨x, hxn⟩ : ∃ x, rs[n]? = some x := ⟨_, List.getElem?_eq_getElem (show n < rs.length by omega)⟩
      have hrec := hx.2 n x hxn
      rw [fnd_s hxn] at he
      refine g_iload_n (pc := 2) (i := 3) C d_Rep_find_2 rfl rfl ?_
      refine g_aload_n (pc := 3) (i := 0) C d_Rep_find_3 rfl rfl ?_
      refine gf_Rep_recordCount (pc := 4) C (by omega) fl_Rep_27 d_Rep_find_4 ?_
      rw [hc]
      refine g_icmp_ge (pc := 7) (tgt := 32) C d_Rep_find_7 (by decide) (fun h7 => ?_) (fun h7 => ?_)
      · first | exact absurd h7 (nI_ge (show n < rs.length by omega) (by omega)) | exact absurd (nI_ge (show n < rs.length by omega) (by omega)) h7
      · skip
        refine g_aload_n (pc := 10) (i := 0) C d_Rep_find_10 rfl rfl ?_
        refine gf_Rep_records (pc := 11) C (by omega) fl_Rep_22 d_Rep_find_11 ?_
        refine g_iload_n (pc := 14) (i := 3) C d_Rep_find_14 rfl rfl ?_
        refine ga_rcs (pc := 15) C (by omega) (by omega) d_Rep_find_15 ?_
        refine gf_Rec_node (pc := 16) C (by omega) fl_Rep_84 d_Rep_find_16 ?_
        rw [hrec.2.2.2.2.2.2]
        refine g_lload_n (pc := 19) (i := 1) C d_Rep_find_19 rfl rfl ?_
        refine g_lcmp (pc := 20) C d_Rep_find_20 ?_
        refine g_if_ne (pc := 21) (tgt := 26) C d_Rep_find_21 (by decide) (fun h21 => ?_) (fun h21 => ?_)
        · rw [if_neg (fun e => h21 (lg_c0.mpr e))] at he
          refine g_iinc (pc := 26) C d_Rep_find_26 rfl (v := nI (n + 1)) (nI_inc n) rfl ?_
          refine g_goto (pc := 29) (tgt := 2) C d_Rep_find_29 (by decide) ?_
          exact G.lf (ih (n + 1) (by omega) he) (sb rfl (sb rfl (sb rfl sn)))
        · rw [if_pos (lg_c0.mp h21)] at he
          refine g_iload_n (pc := 24) (i := 3) C d_Rep_find_24 rfl rfl ?_
          refine g_iret (pc := 25) C d_Rep_find_25 ?_
          exact ⟨by rw [he]; rfl, rfl⟩
  refine g_iconst (pc := 0) C d_Rep_find_0 icn_0 ?_
  refine g_istore_n (pc := 1) (i := 3) C d_Rep_find_1 rfl (by decide) rfl ?_
  exact G.lf (loop rs.length 0 (by omega) rfl) (sb rfl (sb rfl (sb rfl sn)))
theorem nodP_s {rs : List Rc} {n : Nat} {x : Rc} (hx : rs[n]? = some x) : nodP rs (some n) = x.nod := by
  simp only [nodP, hx]
set_option maxRecDepth 100000 in
set_option maxHeartbeats 4000000 in
theorem c_Rep_nodeOrZero (l : Launch) {D : Dt} (hD : OkD D) {r : Nat} {c : Cs} {τ : Cs × (Nat → Int64)} {q : Option Nat} {rs : List Rc} (hr : r < 2) (hx : RcX c r rs) (hq : ∀ n, q = some n → n < rs.length) : Ct l D y_Rep_nodeOrZero b_Rep_nodeOrZero 2 (some .long) 1 [.int (eo q), .ref (aRep D r)] ((c, τ) : Sg) (some (.long (nodP rs q))) ((c, τ) : Sg) := by
  have h24 := hx.1
  refine Ct.of hD (by decide) (Nat.le_of_ble_eq_true rfl) [(0, some (.ref (aRep D r))), (1, some (.int (eo q)))] rfl (fun X hX C => ?_)
  subst hX
  cases q with
  | none =>
    refine g_iload_n (pc := 0) (i := 1) C d_Rep_nodeOrZero_0 rfl rfl ?_
    refine g_iconst (pc := 1) C d_Rep_nodeOrZero_1 ic_m1 ?_
    refine g_icmp_ne (pc := 2) (tgt := 9) C d_Rep_nodeOrZero_2 (by decide) (fun h2 => ?_) (fun h2 => ?_)
    · first | exact absurd h2 (rfl) | exact absurd (rfl) h2
    · skip
      refine g_lconst (pc := 5) C d_Rep_nodeOrZero_5 lc_0 ?_
      refine g_goto (pc := 6) (tgt := 18) C d_Rep_nodeOrZero_6 (by decide) ?_
      refine g_lret (pc := 18) C d_Rep_nodeOrZero_18 ?_
      exact ⟨rfl, rfl⟩
  | some n =>
    have hn := hq n rfl
    obtain ⟨x, hxn⟩ : ∃ x, rs[n]? = some x := ⟨_, List.getElem?_eq_getElem hn⟩
    have hrec := hx.2 n x hxn
    rw [nodP_s hxn]
    show G X D _ (0, 0) _ 0 [(0, some (.ref (aRep D r))), (1, some (.int (nI n)))] []
    refine g_iload_n (pc := 0) (i := 1) C d_Rep_nodeOrZero_0 rfl rfl ?_
    refine g_iconst (pc := 1) C d_Rep_nodeOrZero_1 ic_m1 ?_
    refine g_icmp_ne (pc := 2) (tgt := 9) C d_Rep_nodeOrZero_2 (by decide) (fun h2 => ?_) (fun h2 => ?_)
    · skip
      refine g_aload_n (pc := 9) (i := 0) C d_Rep_nodeOrZero_9 rfl rfl ?_
      refine gf_Rep_records (pc := 10) C (by omega) fl_Rep_22 d_Rep_nodeOrZero_10 ?_
      refine g_iload_n (pc := 13) (i := 1) C d_Rep_nodeOrZero_13 rfl rfl ?_
      refine ga_rcs (pc := 14) C (by omega) (by omega) d_Rep_nodeOrZero_14 ?_
      refine gf_Rec_node (pc := 15) C (by omega) fl_Rep_84 d_Rep_nodeOrZero_15 ?_
      rw [hrec.2.2.2.2.2.2]
      refine g_lret (pc := 18) C d_Rep_nodeOrZero_18 ?_
      exact ⟨rfl, rfl⟩
    · first | exact absurd h2 (nI_m1 (by omega)) | exact absurd (nI_m1 (by omega)) h2
set_option maxRecDepth 100000 in
set_option maxHeartbeats 4000000 in
theorem c_Rep_nodeOf (l : Launch) {D : Dt} (hD : OkD D) {r : Nat} {c : Cs} {τ : Cs × (Nat → Int64)} {j : Nat} {q1 q2 : Option Nat} {rs : List Rc} {t : List Nat} (hr : r < 2) (hj : j < 9) (hx : RcX c r rs) (h1 : ∀ n, q1 = some n → n < rs.length) (h2 : ∀ n, q2 = some n → n < rs.length) (ht : RowIs c j t) : Ct l D y_Rep_nodeOf b_Rep_nodeOf 11 (some .long) 3 [.int (eo q2), .int (eo q1), .ref (aRow D j), .ref (aRep D r)] ((c, τ) : Sg) (some (.long (nodeOf rs q1 q2 t))) ((c, τ) : Sg) := by
  have q3 := rln_le j
  have q4 := ht.2.1
  refine Ct.of hD (by decide) (Nat.le_of_ble_eq_true rfl) [(0, some (.ref (aRep D r))), (1, some (.ref (aRow D j))), (2, some (.int (eo q1))), (3, some (.int (eo q2)))] rfl (fun X hX C => ?_)
  subst hX
  have loop : ∀ (m k : Nat), k + m = t.length → G X D (Qp X D (fun r2 u => r2 = some (.long (nodeOf rs q1 q2 t)) ∧ u = ((c, τ) : Sg))) (0, 0) ((c, τ) : Sg) 46 [(1, some (.ref (aRow D j))), (8, some (.long ((t.take k).foldl mix (nodS (nodP rs q1) (nodP rs q2))))), (10, some (.int (nI k)))] [] := by
    intro m
    induction m with
    | zero =>
      intro k hk
      rw [List.take_of_length_le (by omega)]
      refine g_iload (pc := 46) C d_Rep_nodeOf_46 rfl ?_
      refine g_aload_n (pc := 48) (i := 1) C d_Rep_nodeOf_48 rfl rfl ?_
      refine gf_Row_length (pc := 49) C (by omega) fl_Rep_62 d_Rep_nodeOf_49 ?_
      rw [ht.1]
      refine g_icmp_ge (pc := 52) (tgt := 77) C d_Rep_nodeOf_52 (by decide) (fun h52 => ?_) (fun h52 => ?_)
      · skip
        refine g_lload (pc := 77) C d_Rep_nodeOf_77 rfl ?_
        refine g_lret (pc := 79) C d_Rep_nodeOf_79 ?_
        exact ⟨rfl, rfl⟩
      · first | exact absurd h52 (nI_le (by omega) (by omega)) | exact absurd (nI_le (by omega) (by omega)) h52
    | succ m ih =>
      intro k hk
      have ek : mix ((t.take k).foldl mix (nodS (nodP rs q1) (nodP rs q2))) (t.getD k 0) = (t.take (k + 1)).foldl mix (nodS (nodP rs q1) (nodP rs q2)) := by
        have hl : k < t.length := by omega
        rw [List.take_add_one, List.foldl_append, List.getElem?_eq_getElem hl, List.getD_eq_getElem?_getD, List.getElem?_eq_getElem hl]
        rfl
      refine g_iload (pc := 46) C d_Rep_nodeOf_46 rfl ?_
      refine g_aload_n (pc := 48) (i := 1) C d_Rep_nodeOf_48 rfl rfl ?_
      refine gf_Row_length (pc := 49) C (by omega) fl_Rep_62 d_Rep_nodeOf_49 ?_
      rw [ht.1]
      refine g_icmp_ge (pc := 52) (tgt := 77) C d_Rep_nodeOf_52 (by decide) (fun h52 => ?_) (fun h52 => ?_)
      · first | exact absurd h52 (nI_ge (show k < t.length by omega) (by omega)) | exact absurd (nI_ge (show k < t.length by omega) (by omega)) h52
      · skip
        refine g_lload (pc := 55) C d_Rep_nodeOf_55 rfl ?_
        refine g_aload_n (pc := 57) (i := 1) C d_Rep_nodeOf_57 rfl rfl ?_
        refine g_iload (pc := 58) C d_Rep_nodeOf_58 rfl ?_
        refine g_callV1 (pc := 60) (As := [_]) C my_Row_at mv_Row_at cl_Rep_152 (is_Row (by omega)) d_Rep_nodeOf_60 (Nat.le_of_ble_eq_true rfl) rfl (Nat.le_of_ble_eq_true rfl) ⟨Nat.zero_le _, Nat.zero_le _⟩ (c_at1 _ hD (by omega) ht (by omega)) ?_
        refine g_i2l (pc := 63) C d_Rep_nodeOf_63 ?_
        refine g_lxor (pc := 64) C d_Rep_nodeOf_64 ?_
        refine g_ldc2 (pc := 65) C kc_Rep_156 d_Rep_nodeOf_65 ?_
        refine g_lmul (pc := 68) C d_Rep_nodeOf_68 ?_
        refine G.sg rfl ?_
        rw [show (((t.take k).foldl mix (nodS (nodP rs q1) (nodP rs q2))) ^^^ (nI (t.getD k 0)).toInt64) * 1099511628211 = (t.take (k + 1)).foldl mix (nodS (nodP rs q1) (nodP rs q2)) from ek]
        refine g_lstore (pc := 69) C d_Rep_nodeOf_69 (by decide) rfl ?_
        refine g_iinc (pc := 71) C d_Rep_nodeOf_71 rfl (v := nI (k + 1)) (nI_inc k) rfl ?_
        refine g_goto (pc := 74) (tgt := 46) C d_Rep_nodeOf_74 (by decide) ?_
        exact G.lf (ih (k + 1) (by omega)) (sb rfl (sb rfl (sb rfl sn)))
  refine g_aload_n (pc := 0) (i := 0) C d_Rep_nodeOf_0 rfl rfl ?_
  refine g_iload_n (pc := 1) (i := 2) C d_Rep_nodeOf_1 rfl rfl ?_
  refine g_callV1 (pc := 2) (As := [_]) C my_Rep_nodeOrZero mv_Rep_nodeOrZero cl_Rep_134 (is_Rep (by omega)) d_Rep_nodeOf_2 (Nat.le_of_ble_eq_true rfl) rfl (Nat.le_of_ble_eq_true rfl) ⟨Nat.zero_le _, Nat.zero_le _⟩ (c_Rep_nodeOrZero _ hD (by omega) hx h1) ?_
  refine g_lstore (pc := 5) C d_Rep_nodeOf_5 (by decide) rfl ?_
  refine g_aload_n (pc := 7) (i := 0) C d_Rep_nodeOf_7 rfl rfl ?_
  refine g_iload_n (pc := 8) (i := 3) C d_Rep_nodeOf_8 rfl rfl ?_
  refine g_callV1 (pc := 9) (As := [_]) C my_Rep_nodeOrZero mv_Rep_nodeOrZero cl_Rep_134 (is_Rep (by omega)) d_Rep_nodeOf_9 (Nat.le_of_ble_eq_true rfl) rfl (Nat.le_of_ble_eq_true rfl) ⟨Nat.zero_le _, Nat.zero_le _⟩ (c_Rep_nodeOrZero _ hD (by omega) hx h2) ?_
  refine g_lstore (pc := 12) C d_Rep_nodeOf_12 (by decide) rfl ?_
  refine g_ldc2 (pc := 14) C kc_Rep_138 d_Rep_nodeOf_14 ?_
  refine g_lload (pc := 17) C d_Rep_nodeOf_17 rfl ?_
  refine g_lload (pc := 19) C d_Rep_nodeOf_19 rfl ?_
  refine g_mminl (pc := 21) C jl_Rep_140 d_Rep_nodeOf_21 (by decide) (Nat.le_of_ble_eq_true rfl) ⟨Nat.zero_le _, Nat.zero_le _⟩ ?_
  refine g_callS1 (pc := 24) (As := [_, _]) C my_Rep_mixLong ms_Rep_mixLong cl_Rep_146 d_Rep_nodeOf_24 (Nat.le_of_ble_eq_true rfl) rfl (Nat.le_of_ble_eq_true rfl) ⟨Nat.zero_le _, Nat.zero_le _⟩ (c_Rep_mixLong _ hD) ?_
  refine g_lstore (pc := 27) C d_Rep_nodeOf_27 (by decide) rfl ?_
  refine g_lload (pc := 29) C d_Rep_nodeOf_29 rfl ?_
  refine g_lload (pc := 31) C d_Rep_nodeOf_31 rfl ?_
  refine g_lload (pc := 33) C d_Rep_nodeOf_33 rfl ?_
  refine g_mmaxl (pc := 35) C jl_Rep_149 d_Rep_nodeOf_35 (by decide) (Nat.le_of_ble_eq_true rfl) ⟨Nat.zero_le _, Nat.zero_le _⟩ ?_
  refine g_callS1 (pc := 38) (As := [_, _]) C my_Rep_mixLong ms_Rep_mixLong cl_Rep_146 d_Rep_nodeOf_38 (Nat.le_of_ble_eq_true rfl) rfl (Nat.le_of_ble_eq_true rfl) ⟨Nat.zero_le _, Nat.zero_le _⟩ (c_Rep_mixLong _ hD) ?_
  refine g_lstore (pc := 41) C d_Rep_nodeOf_41 (by decide) rfl ?_
  refine g_iconst (pc := 43) C d_Rep_nodeOf_43 icn_0 ?_
  refine g_istore (pc := 44) C d_Rep_nodeOf_44 (by decide) rfl ?_
  exact G.lf (loop t.length 0 (by omega)) (sb rfl (sb rfl (sb rfl sn)))
set_option maxRecDepth 100000 in
set_option maxHeartbeats 4000000 in
theorem c_Rep_twinOf (l : Launch) {D : Dt} (hD : OkD D) {r : Nat} {c : Cs} {τ : Cs × (Nat → Int64)} {r2 : Nat} {q : Option Nat} {rs rs2 : List Rc} (hr : r < 2) (hr2 : r2 < 2) (hc : c.1 (20 + r) 0 = nI rs.length) (hx : RcX c r rs) (hx2 : RcX c r2 rs2) (hq : ∀ n, q = some n → n < rs2.length) : Ct l D y_Rep_twinOf b_Rep_twinOf 3 (some .int) 2 [.int (eo q), .ref (aRep D r2), .ref (aRep D r)] ((c, τ) : Sg) (some (.int (eo (q.bind (fun n => find rs (nodP rs2 (some n))))))) ((c, τ) : Sg) := by
  have h24 := hx2.1
  refine Ct.of hD (by decide) (Nat.le_of_ble_eq_true rfl) [(0, some (.ref (aRep D r))), (1, some (.ref (aRep D r2))), (2, some (.int (eo q)))] rfl (fun X hX C => ?_)
  subst hX
  cases q with
  | none =>
    refine g_iload_n (pc := 0) (i := 2) C d_Rep_twinOf_0 rfl rfl ?_
    refine g_iconst (pc := 1) C d_Rep_twinOf_1 ic_m1 ?_
    refine g_icmp_ne (pc := 2) (tgt := 9) C d_Rep_twinOf_2 (by decide) (fun h2 => ?_) (fun h2 => ?_)
    · first | exact absurd h2 (rfl) | exact absurd (rfl) h2
    · skip
      refine g_iconst (pc := 5) C d_Rep_twinOf_5 ic_m1 ?_
      refine g_goto (pc := 6) (tgt := 22) C d_Rep_twinOf_6 (by decide) ?_
      refine g_iret (pc := 22) C d_Rep_twinOf_22 ?_
      exact ⟨rfl, rfl⟩
  | some n =>
    have hn := hq n rfl
    obtain ⟨x, hxn⟩ : ∃ x, rs2[n]? = some x := ⟨_, List.getElem?_eq_getElem hn⟩
    have hrec := hx2.2 n x hxn
    show G X D (Qp X D (fun a u => a = some (.int (eo (find rs (nodP rs2 (some n))))) ∧ u = ((c, τ) : Sg))) (0, 0) _ 0 [(0, some (.ref (aRep D r))), (1, some (.ref (aRep D r2))), (2, some (.int (nI n)))] []
    rw [nodP_s hxn]
    refine g_iload_n (pc := 0) (i := 2) C d_Rep_twinOf_0 rfl rfl ?_
    refine g_iconst (pc := 1) C d_Rep_twinOf_1 ic_m1 ?_
    refine g_icmp_ne (pc := 2) (tgt := 9) C d_Rep_twinOf_2 (by decide) (fun h2 => ?_) (fun h2 => ?_)
    · skip
      refine g_aload_n (pc := 9) (i := 0) C d_Rep_twinOf_9 rfl rfl ?_
      refine g_aload_n (pc := 10) (i := 1) C d_Rep_twinOf_10 rfl rfl ?_
      refine gf_Rep_records (pc := 11) C (by omega) fl_Rep_22 d_Rep_twinOf_11 ?_
      refine g_iload_n (pc := 14) (i := 2) C d_Rep_twinOf_14 rfl rfl ?_
      refine ga_rcs (pc := 15) C (by omega) (by omega) d_Rep_twinOf_15 ?_
      refine gf_Rec_node (pc := 16) C (by omega) fl_Rep_84 d_Rep_twinOf_16 ?_
      rw [hrec.2.2.2.2.2.2]
      refine g_callV1 (pc := 19) (As := [_]) C my_Rep_find mv_Rep_find cl_Rep_88 (is_Rep (by omega)) d_Rep_twinOf_19 (Nat.le_of_ble_eq_true rfl) rfl (Nat.le_of_ble_eq_true rfl) ⟨Nat.zero_le _, Nat.zero_le _⟩ (c_Rep_find _ hD (by omega) hc hx) ?_
      refine g_iret (pc := 22) C d_Rep_twinOf_22 ?_
      exact ⟨rfl, rfl⟩
    · first | exact absurd h2 (nI_m1 (by omega)) | exact absurd (nI_m1 (by omega)) h2
end
section
def Ci (i : Nat) : Nat → Prop := fun t => t = i
theorem sm_c1 {c : Cs} {i k : Nat} {v : Int32} : Sm (Ci i) c (wI c i k v) := Sm.wI (rfl : i = i)
theorem RepIs.fs {c c2 : Cs} {r : Nat} {R R2 : Rp} (h : RepIs c r R) (hr : r < 2) (hs : Sm (Ci (20 + r)) c c2) (hf : RpF (c2.1 (20 + r)) R2) (hd : R2.dat = R.dat) (hl : R2.rcs.length ≤ 24) (hrc : ∀ (n : Nat) (x : Rc), R2.rcs[n]? = some x → R.rcs[n]? = some x) : RepIs c2 r R2 := by
  refine ⟨hf, ?_, hl, fun n x hx => (h.2.2.2 n x (hrc n x hx)).sm hs (by have := h.2.2.lt (hrc n x hx); unfold Ci; omega)⟩
  rw [hd]
  exact h.2.1.sm hs (by unfold Ci; omega) (by unfold Ci; omega)
theorem RepIs.ct {c : Cs} {r d : Nat} {R : Rp} (h : RepIs c r R) (hr : r < 2) (hd : d < 2 ^ 20) : RepIs (cutC c (1 + 4 * r) (nI d)) r (R.dat.take d, R.rcs, R.jrn, R.dwn, R.fai) := by
  have hs : Sm (Rw (1 + 4 * r)) c (cutC c (1 + 4 * r) (nI d)) := sm_cut
  refine ⟨?_, h.2.1.cut hd, h.2.2.1, fun n x hx => (h.2.2.2 n x hx).sm hs (by have := h.2.2.lt hx; unfold Rw; omega)⟩
  rw [hs.1 _ (by unfold Rw; omega)]
  exact h.1
theorem wrt_d (R : Rp) : (wrt R).2.dat = R.dat := by
  unfold wrt
  split
  · rfl
  · split <;> rfl
theorem wrt_r (R : Rp) : (wrt R).2.rcs = R.rcs := by
  unfold wrt
  split
  · rfl
  · split <;> rfl
theorem wrt_j (R : Rp) : (wrt R).2.jrn = R.jrn := by
  unfold wrt
  split
  · rfl
  · split <;> rfl
theorem wrt_f (R : Rp) : (wrt R).2.fai ≤ R.fai := by
  unfold wrt
  split
  · exact Nat.le_refl _
  · split
    · exact Nat.zero_le _
    · exact Nat.sub_le _ _
theorem wrt_w {R : Rp} (h : (wrt R).1 = true) (hd : R.dwn = false) : (wrt R).2.dwn = false := by
  unfold wrt at h ⊢
  split
  · exact hd
  · split
    · rename_i h1 h2
      rw [if_neg h1, if_pos h2] at h
      cases h
    · rfl
theorem begn_t {R : Rp} (h : (wrt R).1 = true) : begn R = (true, ((wrt R).2.dat, (wrt R).2.rcs, some ((wrt R).2.dat.length, (wrt R).2.rcs.length), (wrt R).2.dwn, (wrt R).2.fai)) := by
  unfold begn
  generalize wrt R = w at h ⊢
  obtain ⟨b, R1⟩ := w
  cases h
  rfl
theorem begn_f {R : Rp} (h : ¬ (wrt R).1 = true) : begn R = (false, (wrt R).2) := by
  unfold begn
  generalize wrt R = w at h ⊢
  obtain ⟨b, R1⟩ := w
  cases b with
  | false => rfl
  | true => exact absurd rfl h
theorem fini_t {R : Rp} (h : (wrt R).1 = true) : fini R = (true, ((wrt R).2.dat, (wrt R).2.rcs, none, (wrt R).2.dwn, (wrt R).2.fai)) := by
  unfold fini
  generalize wrt R = w at h ⊢
  obtain ⟨b, R1⟩ := w
  cases h
  rfl
theorem fini_f {R : Rp} (h : ¬ (wrt R).1 = true) : fini R = (false, (wrt R).2) := by
  unfold fini
  generalize wrt R = w at h ⊢
  obtain ⟨b, R1⟩ := w
  cases b with
  | false => rfl
  | true => exact absurd rfl h
/-- a WRITE under way: data cut -/
def cutR (R : Rp) (d : Nat) : Rp := (R.dat.take d, R.rcs, R.jrn, R.dwn, R.fai)
def takR (R : Rp) (n : Nat) : Rp := (R.dat, R.rcs.take n, R.jrn, R.dwn, R.fai)
theorem roll_1 {R : Rp} {d n : Nat} (h : ¬ (wrt R).1 = true) : roll R d n = (-2, (wrt R).2) := by
  unfold roll
  generalize wrt R = w at h ⊢
  obtain ⟨b, R1⟩ := w
  cases b with
  | false => rfl
  | true => exact absurd rfl h
theorem roll_2 {R : Rp} {d n : Nat} (h : (wrt R).1 = true) (h2 : ¬ (wrt (cutR (wrt R).2 d)).1 = true) : roll R d n = (-2, (wrt (cutR (wrt R).2 d)).2) := by
  unfold roll
  generalize wrt R = w at h h2 ⊢
  obtain ⟨b, R1⟩ := w
  cases h
  show (match wrt (cutR R1 d) with
    | (false, R2) => (-2, R2)
    | (true, R2) => _) = _
  generalize wrt (cutR R1 d) = w2 at h2 ⊢
  obtain ⟨b2, R2⟩ := w2
  cases b2 with
  | false => rfl
  | true => exact absurd rfl h2
theorem roll_3 {R : Rp} {d n : Nat} (h : (wrt R).1 = true) (h2 : (wrt (cutR (wrt R).2 d)).1 = true) : roll R d n = (if (fini (takR (wrt (cutR (wrt R).2 d)).2 n)).1 = true then (((wrt (cutR (wrt R).2 d)).2.rcs.length - n : Nat) : Int) else -2, (fini (takR (wrt (cutR (wrt R).2 d)).2 n)).2) := by
  unfold roll
  generalize wrt R = w at h h2 ⊢
  obtain ⟨b, R1⟩ := w
  cases h
  show (match wrt (cutR R1 d) with
    | (false, R2) => (-2, R2)
    | (true, R2) => match fini (takR R2 n) with
      | (false, R3) => (-2, R3)
      | (true, R3) => (((R2.rcs.length - n : Nat) : Int), R3)) = _
  generalize wrt (cutR R1 d) = w2 at h2 ⊢
  obtain ⟨b2, R2⟩ := w2
  cases h2
  show (match fini (takR R2 n) with
      | (false, R3) => (-2, R3)
      | (true, R3) => (((R2.rcs.length - n : Nat) : Int), R3)) = (if (fini (takR R2 n)).1 = true then _ else _, (fini (takR R2 n)).2)
  generalize fini (takR R2 n) = w3
  obtain ⟨b3, R3⟩ := w3
  cases b3 <;> rfl
theorem oi_n (n : Nat) : Int32.ofInt ((n : Nat) : Int) = nI n := rfl
def Pr (r : Nat) : Nat → Prop := fun t => t = 20 + r ∨ Rw (1 + 4 * r) t
set_option maxRecDepth 100000 in
set_option maxHeartbeats 4000000 in
theorem c_Rec_placeChunk (l : Launch) {D : Dt} (hD : OkD D) {i : Nat} {c : Cs} {τ : Cs × (Nat → Int64)} {o s b : Int32} (hi : i < 48) : Ct l D y_Rec_placeChunk b_Rec_placeChunk 4 none 1 [.int b, .int s, .int o, .ref (aRec D i)] ((c, τ) : Sg) (none) ((wI (wI (wI c (26 + i) 0 o) (26 + i) 1 s) (26 + i) 3 b, τ) : Sg) := by
  refine Ct.of hD (by decide) (Nat.le_of_ble_eq_true rfl) [(0, some (.ref (aRec D i))), (1, some (.int o)), (2, some (.int s)), (3, some (.int b))] rfl (fun X hX C => ?_)
  subst hX
  refine g_aload_n (pc := 0) (i := 0) C d_Rec_placeChunk_0 rfl rfl ?_
  refine g_iload_n (pc := 1) (i := 1) C d_Rec_placeChunk_1 rfl rfl ?_
  refine gp_Rec_offset (pc := 2) C (by omega) fl_Rec_9 d_Rec_placeChunk_2 ?_
  refine g_aload_n (pc := 5) (i := 0) C d_Rec_placeChunk_5 rfl rfl ?_
  refine g_iload_n (pc := 6) (i := 2) C d_Rec_placeChunk_6 rfl rfl ?_
  refine gp_Rec_size (pc := 7) C (by omega) fl_Rec_15 d_Rec_placeChunk_7 ?_
  refine g_aload_n (pc := 10) (i := 0) C d_Rec_placeChunk_10 rfl rfl ?_
  refine g_iload_n (pc := 11) (i := 3) C d_Rec_placeChunk_11 rfl rfl ?_
  refine gp_Rec_base (pc := 12) C (by omega) fl_Rec_18 d_Rec_placeChunk_12 ?_
  refine g_vret (pc := 15) C d_Rec_placeChunk_15 ?_
  exact ⟨rfl, rfl⟩
set_option maxRecDepth 100000 in
set_option maxHeartbeats 4000000 in
theorem c_Rec_describe (l : Launch) {D : Dt} (hD : OkD D) {i : Nat} {c : Cs} {τ : Cs × (Nat → Int64)} {n a b : Int32} {h : Int64} (hi : i < 48) : Ct l D y_Rec_describe b_Rec_describe 6 none 1 [.long h, .int b, .int a, .int n, .ref (aRec D i)] ((c, τ) : Sg) (none) ((wN (wI (wI (wI c (26 + i) 2 n) (26 + i) 4 a) (26 + i) 5 b) i h, τ) : Sg) := by
  refine Ct.of hD (by decide) (Nat.le_of_ble_eq_true rfl) [(0, some (.ref (aRec D i))), (1, some (.int n)), (2, some (.int a)), (3, some (.int b)), (4, some (.long h))] rfl (fun X hX C => ?_)
  subst hX
  refine g_aload_n (pc := 0) (i := 0) C d_Rec_describe_0 rfl rfl ?_
  refine g_iload_n (pc := 1) (i := 1) C d_Rec_describe_1 rfl rfl ?_
  refine gp_Rec_length (pc := 2) C (by omega) fl_Rec_21 d_Rec_describe_2 ?_
  refine g_aload_n (pc := 5) (i := 0) C d_Rec_describe_5 rfl rfl ?_
  refine g_iload_n (pc := 6) (i := 2) C d_Rec_describe_6 rfl rfl ?_
  refine gp_Rec_p1 (pc := 7) C (by omega) fl_Rec_24 d_Rec_describe_7 ?_
  refine g_aload_n (pc := 10) (i := 0) C d_Rec_describe_10 rfl rfl ?_
  refine g_iload_n (pc := 11) (i := 3) C d_Rec_describe_11 rfl rfl ?_
  refine gp_Rec_p2 (pc := 12) C (by omega) fl_Rec_27 d_Rec_describe_12 ?_
  refine g_aload_n (pc := 15) (i := 0) C d_Rec_describe_15 rfl rfl ?_
  refine g_lload (pc := 16) C d_Rec_describe_16 rfl ?_
  refine gp_Rec_node (pc := 18) C (by omega) fl_Rec_30 d_Rec_describe_18 ?_
  refine g_vret (pc := 21) C d_Rec_describe_21 ?_
  exact ⟨rfl, rfl⟩
set_option maxRecDepth 100000 in
set_option maxHeartbeats 4000000 in
theorem x_Rep_mayWrite (l : Launch) {D : Dt} (hD : OkD D) {r : Nat} {c : Cs} {τ : Cs × (Nat → Int64)} {R : Rp} (hr : r < 2) (h : RepIs c r R) (hd : R.dwn = false) (hf : R.fai ≤ 100) : Cp l D y_Rep_mayWrite b_Rep_mayWrite 1 (some .boolean) 1 [.ref (aRep D r)] ((c, τ) : Sg) (fun a u => ∃ c2, u = ((c2, τ) : Sg) ∧ a = some (.int (b1 ((wrt R).1 = true))) ∧ RepIs c2 r (wrt R).2 ∧ Sm (Ci (20 + r)) c c2) := by
  have f0 := h.1.1
  have f1 := h.1.2.1
  have f2 := h.1.2.2.1
  have f4 := h.1.2.2.2.1
  have f5 := h.1.2.2.2.2
  rw [b1_f (by rw [hd]; decide)] at f4
  refine Cp.of hD (by decide) (Nat.le_of_ble_eq_true rfl) [(0, some (.ref (aRep D r)))] rfl (fun X hX C => ?_)
  subst hX
  refine g_aload_n (pc := 0) (i := 0) C d_Rep_mayWrite_0 rfl rfl ?_
  refine gf_Rep_writesToFailure (pc := 1) C (by omega) fl_Rep_38 d_Rep_mayWrite_1 ?_
  rw [f5]
  refine g_if_le (pc := 4) (tgt := 33) C d_Rep_mayWrite_4 (by decide) (fun h4 => ?_) (fun h4 => ?_)
  · have hz : R.fai = 0 := by
      have := (nI_leI (a := R.fai) (b := 0) (by omega) (by decide)).mp (by rw [nI_0]; exact h4)
      omega
    refine g_aload_n (pc := 33) (i := 0) C d_Rep_mayWrite_33 rfl rfl ?_
    refine gf_Rep_down (pc := 34) C (by omega) fl_Rep_35 d_Rep_mayWrite_34 ?_
    rw [f4]
    refine g_if_ne (pc := 37) (tgt := 44) C d_Rep_mayWrite_37 (by decide) (fun h37 => ?_) (fun h37 => ?_)
    · first | exact absurd h37 (rfl) | exact absurd (rfl) h37
    · skip
      refine g_iconst (pc := 40) C d_Rep_mayWrite_40 ic_1 ?_
      refine g_goto (pc := 41) (tgt := 45) C d_Rep_mayWrite_41 (by decide) ?_
      refine g_zret (pc := 45) C d_Rep_mayWrite_45 (by first | exact Or.inl rfl | exact Or.inr rfl) ?_
      refine ⟨c, rfl, ?_, ?_, Sm.rf⟩
      · rw [b1_t (by unfold wrt; rw [if_pos hz])]
      · have e : (wrt R).2 = R := by unfold wrt; rw [if_pos hz]
        rw [e]
        exact h
  · have hz : ¬ R.fai = 0 := fun e => h4 (by rw [e, nI_0]; decide)
    refine g_aload_n (pc := 7) (i := 0) C d_Rep_mayWrite_7 rfl rfl ?_
    refine g_dup (pc := 8) C d_Rep_mayWrite_8 rfl ?_
    refine gf_Rep_writesToFailure (pc := 9) C (by omega) fl_Rep_38 d_Rep_mayWrite_9 ?_
    rw [f5]
    refine g_iconst (pc := 12) C d_Rep_mayWrite_12 icn_1 ?_
    refine g_isub (pc := 13) C d_Rep_mayWrite_13 ?_
    rw [pk_sub (by omega)]
    refine gp_Rep_writesToFailure (pc := 14) C (by omega) fl_Rep_38 d_Rep_mayWrite_14 ?_
    refine g_aload_n (pc := 17) (i := 0) C d_Rep_mayWrite_17 rfl rfl ?_
    refine g_aload_n (pc := 18) (i := 0) C d_Rep_mayWrite_18 rfl rfl ?_
    refine gf_Rep_writesToFailure (pc := 19) C (by omega) fl_Rep_38 d_Rep_mayWrite_19 ?_
    rw [wI_1s, pk_us]
    refine g_if_ne (pc := 22) (tgt := 29) C d_Rep_mayWrite_22 (by decide) (fun h22 => ?_) (fun h22 => ?_)
    · have h1 : ¬ R.fai = 1 := fun e => h22 (by rw [e]; exact nI_0)
      refine g_iconst (pc := 29) C d_Rep_mayWrite_29 ic_0 ?_
      refine gp_Rep_down (pc := 30) C (by omega) (by first | exact Or.inl rfl | exact Or.inr rfl) fl_Rep_35 d_Rep_mayWrite_30 ?_
      refine g_aload_n (pc := 33) (i := 0) C d_Rep_mayWrite_33 rfl rfl ?_
      refine gf_Rep_down (pc := 34) C (by omega) fl_Rep_35 d_Rep_mayWrite_34 ?_
      rw [wI_1s, pk_us]
      refine g_if_ne (pc := 37) (tgt := 44) C d_Rep_mayWrite_37 (by decide) (fun h37 => ?_) (fun h37 => ?_)
      · first | exact absurd h37 (rfl) | exact absurd (rfl) h37
      · skip
        refine g_iconst (pc := 40) C d_Rep_mayWrite_40 ic_1 ?_
        refine g_goto (pc := 41) (tgt := 45) C d_Rep_mayWrite_41 (by decide) ?_
        refine g_zret (pc := 45) C d_Rep_mayWrite_45 (by first | exact Or.inl rfl | exact Or.inr rfl) ?_
        refine ⟨_, rfl, ?_, ?_, sm_c1.tr sm_c1⟩
        · rw [b1_t (by unfold wrt; rw [if_neg hz, if_neg h1])]
        · have e : (wrt R).2 = (R.dat, R.rcs, R.jrn, false, R.fai - 1) := by unfold wrt; rw [if_neg hz, if_neg h1]
          rw [e]
          refine h.fs hr (sm_c1.tr sm_c1) ?_ rfl h.2.2.1 (fun _ _ h => h)
          refine ⟨?_, ?_, fun p hp => ?_, ?_, ?_⟩
          · rw [wI_1s, pk_un (by decide), wI_1s, pk_un (by decide)]
            exact f0
          · rw [wI_1s, pk_un (by decide), wI_1s, pk_un (by decide)]
            exact f1
          · rw [wI_1s, pk_un (by decide), wI_1s, pk_un (by decide), pk_un (by decide), pk_un (by decide)]
            exact f2 p hp
          · rw [wI_1s, pk_us]
            rfl
          · rw [wI_1s, pk_un (by decide), wI_1s, pk_us]
            rfl
    · have h1 : R.fai = 1 := by
        have := (nI_eq (a := R.fai - 1) (b := 0) (by omega) (by decide)).mp (h22.trans nI_0.symm)
        omega
      refine g_iconst (pc := 25) C d_Rep_mayWrite_25 ic_1 ?_
      refine g_goto (pc := 26) (tgt := 30) C d_Rep_mayWrite_26 (by decide) ?_
      refine gp_Rep_down (pc := 30) C (by omega) (by first | exact Or.inl rfl | exact Or.inr rfl) fl_Rep_35 d_Rep_mayWrite_30 ?_
      refine g_aload_n (pc := 33) (i := 0) C d_Rep_mayWrite_33 rfl rfl ?_
      refine gf_Rep_down (pc := 34) C (by omega) fl_Rep_35 d_Rep_mayWrite_34 ?_
      rw [wI_1s, pk_us]
      refine g_if_ne (pc := 37) (tgt := 44) C d_Rep_mayWrite_37 (by decide) (fun h37 => ?_) (fun h37 => ?_)
      · skip
        refine g_iconst (pc := 44) C d_Rep_mayWrite_44 ic_0 ?_
        refine g_zret (pc := 45) C d_Rep_mayWrite_45 (by first | exact Or.inl rfl | exact Or.inr rfl) ?_
        refine ⟨_, rfl, ?_, ?_, sm_c1.tr sm_c1⟩
        · rw [b1_f (by unfold wrt; rw [if_neg hz, if_pos h1]; exact fun e => by cases e)]
        · have e : (wrt R).2 = (R.dat, R.rcs, R.jrn, true, 0) := by unfold wrt; rw [if_neg hz, if_pos h1]
          rw [e]
          refine h.fs hr (sm_c1.tr sm_c1) ?_ rfl h.2.2.1 (fun _ _ h => h)
          refine ⟨?_, ?_, fun p hp => ?_, ?_, ?_⟩
          · rw [wI_1s, pk_un (by decide), wI_1s, pk_un (by decide)]
            exact f0
          · rw [wI_1s, pk_un (by decide), wI_1s, pk_un (by decide)]
            exact f1
          · rw [wI_1s, pk_un (by decide), wI_1s, pk_un (by decide), pk_un (by decide), pk_un (by decide)]
            exact f2 p hp
          · rw [wI_1s, pk_us]
            rfl
          · rw [wI_1s, pk_un (by decide), wI_1s, pk_us, h1]
            rfl
      · first | exact absurd h37 (by decide) | exact absurd (by decide) h37
set_option maxRecDepth 100000 in
set_option maxHeartbeats 4000000 in
theorem x_Rep_openJournal (l : Launch) {D : Dt} (hD : OkD D) {r : Nat} {c : Cs} {τ : Cs × (Nat → Int64)} {R : Rp} (hr : r < 2) (h : RepIs c r R) (hd : R.dwn = false) (hf : R.fai ≤ 100) : Cp l D y_Rep_openJournal b_Rep_openJournal 1 (some .boolean) 2 [.ref (aRep D r)] ((c, τ) : Sg) (fun a u => ∃ c2, u = ((c2, τ) : Sg) ∧ a = some (.int (b1 ((begn R).1 = true))) ∧ RepIs c2 r (begn R).2 ∧ Sm (Ci (20 + r)) c c2) := by
  refine Cp.of hD (by decide) (Nat.le_of_ble_eq_true rfl) [(0, some (.ref (aRep D r)))] rfl (fun X hX C => ?_)
  subst hX
  refine g_aload_n (pc := 0) (i := 0) C d_Rep_openJournal_0 rfl rfl ?_
  refine g_callVp (pc := 1) (As := []) C my_Rep_mayWrite mv_Rep_mayWrite cl_Rep_58 (is_Rep (by omega)) d_Rep_openJournal_1 (Nat.le_of_ble_eq_true rfl) rfl (Nat.le_of_ble_eq_true rfl) ⟨Nat.zero_le _, Nat.zero_le _⟩ (x_Rep_mayWrite _ hD (by omega) h hd hf) (fun r1 u1 hp1 => ?_)
  obtain ⟨c1, rfl, rfl, g1, s1⟩ := hp1
  refine g_if_ne (pc := 4) (tgt := 9) C d_Rep_openJournal_4 (by decide) (fun h4 => ?_) (fun h4 => ?_)
  · have hw := b1_1 h4
    refine g_aload_n (pc := 9) (i := 0) C d_Rep_openJournal_9 rfl rfl ?_
    refine g_iconst (pc := 10) C d_Rep_openJournal_10 ic_1 ?_
    refine gp_Rep_journal (pc := 11) C (by omega) (by first | exact Or.inl rfl | exact Or.inr rfl) fl_Rep_31 d_Rep_openJournal_11 ?_
    refine g_aload_n (pc := 14) (i := 0) C d_Rep_openJournal_14 rfl rfl ?_
    refine g_aload_n (pc := 15) (i := 0) C d_Rep_openJournal_15 rfl rfl ?_
    refine gf_Rep_data (pc := 16) C (by omega) fl_Rep_14 d_Rep_openJournal_16 ?_
    refine gf_Row_length (pc := 19) C (by omega) fl_Rep_62 d_Rep_openJournal_19 ?_
    rw [wI_1n (by omega), show 1 + (1 + 4 * r) = 1 + (1 + 4 * r) from rfl, g1.2.1.1]
    refine gp_Rep_journalData (pc := 22) C (by omega) fl_Rep_65 d_Rep_openJournal_22 ?_
    refine g_aload_n (pc := 25) (i := 0) C d_Rep_openJournal_25 rfl rfl ?_
    refine g_aload_n (pc := 26) (i := 0) C d_Rep_openJournal_26 rfl rfl ?_
    refine gf_Rep_recordCount (pc := 27) C (by omega) fl_Rep_27 d_Rep_openJournal_27 ?_
    rw [wI_1s, pk_un (by decide), wI_1s, pk_un (by decide), g1.1.1]
    refine gp_Rep_journalRecords (pc := 30) C (by omega) fl_Rep_68 d_Rep_openJournal_30 ?_
    refine g_iconst (pc := 33) C d_Rep_openJournal_33 ic_1 ?_
    refine g_zret (pc := 34) C d_Rep_openJournal_34 (by first | exact Or.inl rfl | exact Or.inr rfl) ?_
    rw [begn_t hw]
    refine ⟨_, rfl, by rw [b1_t rfl], ?_, s1.tr ((sm_c1.tr sm_c1).tr sm_c1)⟩
    refine g1.fs hr ((sm_c1.tr sm_c1).tr sm_c1) ?_ rfl g1.2.2.1 (fun _ _ h => h)
    refine ⟨?_, ?_, fun p hp => ?_, ?_, ?_⟩
    · rw [wI_1s, pk_un (by decide), wI_1s, pk_un (by decide), wI_1s, pk_un (by decide)]
      exact g1.1.1
    · rw [wI_1s, pk_un (by decide), wI_1s, pk_un (by decide), wI_1s, pk_us]
      rfl
    · cases hp
      refine ⟨?_, ?_⟩
      · rw [wI_1s, pk_un (by decide), wI_1s, pk_us]
      · rw [wI_1s, pk_us]
    · rw [wI_1s, pk_un (by decide), wI_1s, pk_un (by decide), wI_1s, pk_un (by decide)]
      exact g1.1.2.2.2.1
    · rw [wI_1s, pk_un (by decide), wI_1s, pk_un (by decide), wI_1s, pk_un (by decide)]
      exact g1.1.2.2.2.2
  · have hw := b1_0 h4
    refine g_iconst (pc := 7) C d_Rep_openJournal_7 ic_0 ?_
    refine g_zret (pc := 8) C d_Rep_openJournal_8 (by first | exact Or.inl rfl | exact Or.inr rfl) ?_
    rw [begn_f hw]
    exact ⟨c1, rfl, by rw [b1_f (fun e => by cases e)], g1, s1⟩
set_option maxRecDepth 100000 in
set_option maxHeartbeats 4000000 in
theorem x_Rep_removeJournal (l : Launch) {D : Dt} (hD : OkD D) {r : Nat} {c : Cs} {τ : Cs × (Nat → Int64)} {R : Rp} (hr : r < 2) (h : RepIs c r R) (hd : R.dwn = false) (hf : R.fai ≤ 100) : Cp l D y_Rep_removeJournal b_Rep_removeJournal 1 (some .boolean) 2 [.ref (aRep D r)] ((c, τ) : Sg) (fun a u => ∃ c2, u = ((c2, τ) : Sg) ∧ a = some (.int (b1 ((fini R).1 = true))) ∧ RepIs c2 r (fini R).2 ∧ Sm (Ci (20 + r)) c c2) := by
  refine Cp.of hD (by decide) (Nat.le_of_ble_eq_true rfl) [(0, some (.ref (aRep D r)))] rfl (fun X hX C => ?_)
  subst hX
  refine g_aload_n (pc := 0) (i := 0) C d_Rep_removeJournal_0 rfl rfl ?_
  refine g_callVp (pc := 1) (As := []) C my_Rep_mayWrite mv_Rep_mayWrite cl_Rep_58 (is_Rep (by omega)) d_Rep_removeJournal_1 (Nat.le_of_ble_eq_true rfl) rfl (Nat.le_of_ble_eq_true rfl) ⟨Nat.zero_le _, Nat.zero_le _⟩ (x_Rep_mayWrite _ hD (by omega) h hd hf) (fun r1 u1 hp1 => ?_)
  obtain ⟨c1, rfl, rfl, g1, s1⟩ := hp1
  refine g_if_ne (pc := 4) (tgt := 9) C d_Rep_removeJournal_4 (by decide) (fun h4 => ?_) (fun h4 => ?_)
  · have hw := b1_1 h4
    refine g_aload_n (pc := 9) (i := 0) C d_Rep_removeJournal_9 rfl rfl ?_
    refine g_iconst (pc := 10) C d_Rep_removeJournal_10 ic_0 ?_
    refine gp_Rep_journal (pc := 11) C (by omega) (by first | exact Or.inl rfl | exact Or.inr rfl) fl_Rep_31 d_Rep_removeJournal_11 ?_
    refine g_iconst (pc := 14) C d_Rep_removeJournal_14 ic_1 ?_
    refine g_zret (pc := 15) C d_Rep_removeJournal_15 (by first | exact Or.inl rfl | exact Or.inr rfl) ?_
    rw [fini_t hw]
    refine ⟨_, rfl, by rw [b1_t rfl], ?_, s1.tr sm_c1⟩
    refine g1.fs hr sm_c1 ?_ rfl g1.2.2.1 (fun _ _ h => h)
    refine ⟨?_, ?_, fun p hp => ?_, ?_, ?_⟩
    · rw [wI_1s, pk_un (by decide)]
      exact g1.1.1
    · rw [wI_1s, pk_us]
      rfl
    · cases hp
    · rw [wI_1s, pk_un (by decide)]
      exact g1.1.2.2.2.1
    · rw [wI_1s, pk_un (by decide)]
      exact g1.1.2.2.2.2
  · have hw := b1_0 h4
    refine g_iconst (pc := 7) C d_Rep_removeJournal_7 ic_0 ?_
    refine g_zret (pc := 8) C d_Rep_removeJournal_8 (by first | exact Or.inl rfl | exact Or.inr rfl) ?_
    rw [fini_f hw]
    exact ⟨c1, rfl, by rw [b1_f (fun e => by cases e)], g1, s1⟩
end
section
theorem oi_m2 : Int32.ofInt (-2) = -2 := by decide +kernel
theorem fini_r (R : Rp) : (fini R).2.rcs = R.rcs := by
  by_cases h : (wrt R).1 = true
  · rw [fini_t h]
    exact wrt_r R
  · rw [fini_f h]
    exact wrt_r R
theorem fini_d (R : Rp) : (fini R).2.dat = R.dat := by
  by_cases h : (wrt R).1 = true
  · rw [fini_t h]
    exact wrt_d R
  · rw [fini_f h]
    exact wrt_d R
theorem RepIs.tk {c : Cs} {r n : Nat} {R : Rp} (h : RepIs c r R) (hr : r < 2) (hn : n ≤ R.rcs.length) : RepIs (wI c (20 + r) 0 (nI n)) r (takR R n) := by
  have e : (takR R n).rcs.length = n := by
    show (R.rcs.take n).length = n
    rw [List.length_take]
    omega
  refine h.fs hr sm_c1 ⟨?_, ?_, fun p hp => ?_, ?_, ?_⟩ rfl (by have := h.2.2.1; omega) (fun k x hx => ?_)
  · rw [wI_1s, pk_us, e]
  · rw [wI_1s, pk_un (by decide)]
    exact h.1.2.1
  · rw [wI_1s, pk_un (by decide), pk_un (by decide)]
    exact h.1.2.2.1 p hp
  · rw [wI_1s, pk_un (by decide)]
    exact h.1.2.2.2.1
  · rw [wI_1s, pk_un (by decide)]
    exact h.1.2.2.2.2
  · have hk : k < (R.rcs.take n).length := (List.getElem?_eq_some_iff.mp hx).1
    have hx : (R.rcs.take n)[k]? = some x := hx
    rw [List.getElem?_take_of_lt (by rw [List.length_take] at hk; omega)] at hx
    exact hx
def recov (R : Rp) (k : Nat) : Int × Rp := match R.jrn with
  | none => (0, (R.dat, R.rcs, none, false, 0))
  | some p => roll (R.dat, R.rcs, R.jrn, false, k) p.1 p.2
set_option maxRecDepth 100000 in
set_option maxHeartbeats 4000000 in
theorem x_Rep_rollBack (l : Launch) {D : Dt} (hD : OkD D) {r : Nat} {c : Cs} {τ : Cs × (Nat → Int64)} {R : Rp} {d n : Nat} (hr : r < 2) (h : RepIs c r R) (hd : R.dwn = false) (hf : R.fai ≤ 100) (hj : R.jrn = some (d, n)) (hn : n ≤ R.rcs.length) (hdd : d < 2 ^ 20) : Cp l D y_Rep_rollBack b_Rep_rollBack 2 (some .int) 3 [.ref (aRep D r)] ((c, τ) : Sg) (fun a u => ∃ c2, u = ((c2, τ) : Sg) ∧ a = some (.int (Int32.ofInt (roll R d n).1)) ∧ RepIs c2 r (roll R d n).2 ∧ Sm (Pr r) c c2) := by
  have h24 := h.2.2.1
  have up1 : ∀ {c c2 : Cs}, Sm (Ci (20 + r)) c c2 → Sm (Pr r) c c2 := fun h => h.up (fun t q => Or.inl q)
  have up2 : ∀ {c c2 : Cs}, Sm (Rw (1 + 4 * r)) c c2 → Sm (Pr r) c c2 := fun h => h.up (fun t q => Or.inr q)
  have e1 : (wrt R).2.jrn = some (d, n) := by rw [wrt_j]; exact hj
  have e2 : (wrt (cutR (wrt R).2 d)).2.jrn = some (d, n) := by rw [wrt_j]; exact e1
  have e3 : (wrt (cutR (wrt R).2 d)).2.rcs = R.rcs := by rw [wrt_r]; exact wrt_r R
  have f1 := wrt_f R
  have f2 := wrt_f (cutR (wrt R).2 d)
  have f3 : (cutR (wrt R).2 d).fai = (wrt R).2.fai := rfl
  refine Cp.of hD (by decide) (Nat.le_of_ble_eq_true rfl) [(0, some (.ref (aRep D r)))] rfl (fun X hX C => ?_)
  subst hX
  refine g_aload_n (pc := 0) (i := 0) C d_Rep_rollBack_0 rfl rfl ?_
  refine gf_Rep_recordCount (pc := 1) C (by omega) fl_Rep_27 d_Rep_rollBack_1 ?_
  rw [h.1.1]
  refine g_istore_n (pc := 4) (i := 1) C d_Rep_rollBack_4 rfl (by decide) rfl ?_
  refine g_aload_n (pc := 5) (i := 0) C d_Rep_rollBack_5 rfl rfl ?_
  refine g_callVp (pc := 6) (As := []) C my_Rep_mayWrite mv_Rep_mayWrite cl_Rep_58 (is_Rep (by omega)) d_Rep_rollBack_6 (Nat.le_of_ble_eq_true rfl) rfl (Nat.le_of_ble_eq_true rfl) ⟨Nat.zero_le _, Nat.zero_le _⟩ (x_Rep_mayWrite _ hD (by omega) h hd hf) (fun r6 u6 hp6 => ?_)
  obtain ⟨c1, rfl, rfl, g1, s1⟩ := hp6
  refine g_if_ne (pc := 9) (tgt := 15) C d_Rep_rollBack_9 (by decide) (fun h9 => ?_) (fun h9 => ?_)
  · have hw := b1_1 h9
    refine g_aload_n (pc := 15) (i := 0) C d_Rep_rollBack_15 rfl rfl ?_
    refine gf_Rep_data (pc := 16) C (by omega) fl_Rep_14 d_Rep_rollBack_16 ?_
    refine g_aload_n (pc := 19) (i := 0) C d_Rep_rollBack_19 rfl rfl ?_
    refine gf_Rep_journalData (pc := 20) C (by omega) fl_Rep_65 d_Rep_rollBack_20 ?_
    rw [(g1.1.2.2.1 (d, n) e1).1]
    have g2 : RepIs (cutC c1 (1 + 4 * r) (nI d)) r (cutR (wrt R).2 d) := g1.ct hr hdd
    refine g_callV0 (pc := 23) (As := [_]) C my_Row_cut mv_Row_cut cl_Rep_71 (is_Row (by omega)) d_Rep_rollBack_23 (Nat.le_of_ble_eq_true rfl) rfl (Nat.le_of_ble_eq_true rfl) ⟨Nat.zero_le _, Nat.zero_le _⟩ (c_Row_cut _ hD (by omega)) ?_
    refine g_aload_n (pc := 26) (i := 0) C d_Rep_rollBack_26 rfl rfl ?_
    refine g_callVp (pc := 27) (As := []) C my_Rep_mayWrite mv_Rep_mayWrite cl_Rep_58 (is_Rep (by omega)) d_Rep_rollBack_27 (Nat.le_of_ble_eq_true rfl) rfl (Nat.le_of_ble_eq_true rfl) ⟨Nat.zero_le _, Nat.zero_le _⟩ (x_Rep_mayWrite _ hD (by omega) g2 (wrt_w hw hd) (by omega)) (fun r27 u27 hp27 => ?_)
    obtain ⟨c3, rfl, rfl, g3, s3⟩ := hp27
    refine g_if_ne (pc := 30) (tgt := 36) C d_Rep_rollBack_30 (by decide) (fun h30 => ?_) (fun h30 => ?_)
    · have hw2 := b1_1 h30
      refine g_aload_n (pc := 36) (i := 0) C d_Rep_rollBack_36 rfl rfl ?_
      refine g_aload_n (pc := 37) (i := 0) C d_Rep_rollBack_37 rfl rfl ?_
      refine gf_Rep_journalRecords (pc := 38) C (by omega) fl_Rep_68 d_Rep_rollBack_38 ?_
      rw [(g3.1.2.2.1 (d, n) e2).2]
      have g4 : RepIs (wI c3 (20 + r) 0 (nI n)) r (takR (wrt (cutR (wrt R).2 d)).2 n) := g3.tk hr (by rw [e3]; exact hn)
      refine gp_Rep_recordCount (pc := 41) C (by omega) fl_Rep_27 d_Rep_rollBack_41 ?_
      refine g_aload_n (pc := 44) (i := 0) C d_Rep_rollBack_44 rfl rfl ?_
      refine g_callVp (pc := 45) (As := []) C my_Rep_removeJournal mv_Rep_removeJournal cl_Rep_74 (is_Rep (by omega)) d_Rep_rollBack_45 (Nat.le_of_ble_eq_true rfl) rfl (Nat.le_of_ble_eq_true rfl) ⟨Nat.zero_le _, Nat.zero_le _⟩ (x_Rep_removeJournal _ hD (by omega) g4 (wrt_w hw2 (wrt_w hw hd)) (show (wrt (cutR (wrt R).2 d)).2.fai ≤ 100 by omega)) (fun r45 u45 hp45 => ?_)
      obtain ⟨c5, rfl, rfl, g5, s5⟩ := hp45
      refine g_if_eq (pc := 48) (tgt := 60) C d_Rep_rollBack_48 (by decide) (fun h48 => ?_) (fun h48 => ?_)
      · have hw3 := b1_0 h48
        refine g_bipush (pc := 60) C d_Rep_rollBack_60 bp_m2 ?_
        refine g_iret (pc := 62) C d_Rep_rollBack_62 ?_
        rw [roll_3 hw hw2, if_neg hw3]
        exact ⟨c5, rfl, by rw [oi_m2], g5, ((((up1 s1).tr (up2 sm_cut)).tr (up1 s3)).tr (up1 sm_c1)).tr (up1 s5)⟩
      · have hw3 := b1_1 h48
        refine g_iload_n (pc := 51) (i := 1) C d_Rep_rollBack_51 rfl rfl ?_
        refine g_aload_n (pc := 52) (i := 0) C d_Rep_rollBack_52 rfl rfl ?_
        refine gf_Rep_recordCount (pc := 53) C (by omega) fl_Rep_27 d_Rep_rollBack_53 ?_
        rw [g5.1.1, fini_r]
        refine g_isub (pc := 56) C d_Rep_rollBack_56 ?_
        rw [show (takR (wrt (cutR (wrt R).2 d)).2 n).rcs.length = n by show ((wrt (cutR (wrt R).2 d)).2.rcs.take n).length = n; rw [e3, List.length_take]; omega, pk_sub hn]
        refine g_goto (pc := 57) (tgt := 62) C d_Rep_rollBack_57 (by decide) ?_
        refine g_iret (pc := 62) C d_Rep_rollBack_62 ?_
        rw [roll_3 hw hw2, if_pos hw3]
        exact ⟨c5, rfl, by rw [oi_n, e3], g5, ((((up1 s1).tr (up2 sm_cut)).tr (up1 s3)).tr (up1 sm_c1)).tr (up1 s5)⟩
    · have hw2 := b1_0 h30
      refine g_bipush (pc := 33) C d_Rep_rollBack_33 bp_m2 ?_
      refine g_iret (pc := 35) C d_Rep_rollBack_35 ?_
      rw [roll_2 hw hw2]
      exact ⟨c3, rfl, by rw [oi_m2], g3, ((up1 s1).tr (up2 sm_cut)).tr (up1 s3)⟩
  · have hw := b1_0 h9
    refine g_bipush (pc := 12) C d_Rep_rollBack_12 bp_m2 ?_
    refine g_iret (pc := 14) C d_Rep_rollBack_14 ?_
    rw [roll_1 hw]
    exact ⟨c1, rfl, by rw [oi_m2], g1, up1 s1⟩
set_option maxRecDepth 100000 in
set_option maxHeartbeats 4000000 in
theorem x_Rep_comeUp (l : Launch) {D : Dt} (hD : OkD D) {r : Nat} {c : Cs} {τ : Cs × (Nat → Int64)} {R : Rp} {k : Nat} (hr : r < 2) (h : RepIs c r R) (hf : R.fai = 0) (hk : k ≤ 100) (hj : ∀ q, R.jrn = some q → q.2 ≤ R.rcs.length ∧ q.1 < 2 ^ 20) : Cp l D y_Rep_comeUp b_Rep_comeUp 2 (some .int) 4 [.int (nI k), .ref (aRep D r)] ((c, τ) : Sg) (fun a u => ∃ c2, u = ((c2, τ) : Sg) ∧ a = some (.int (Int32.ofInt (recov R k).1)) ∧ RepIs c2 r (recov R k).2 ∧ Sm (Pr r) c c2) := by
  have up1 : ∀ {c c2 : Cs}, Sm (Ci (20 + r)) c c2 → Sm (Pr r) c c2 := fun h => h.up (fun t q => Or.inl q)
  have g1 : RepIs (wI c (20 + r) 4 0) r (R.dat, R.rcs, R.jrn, false, 0) := by
    refine h.fs hr sm_c1 ⟨?_, ?_, fun p hp => ?_, ?_, ?_⟩ rfl h.2.2.1 (fun _ _ h => h)
    · rw [wI_1s, pk_un (by decide)]
      exact h.1.1
    · rw [wI_1s, pk_un (by decide)]
      exact h.1.2.1
    · rw [wI_1s, pk_un (by decide), pk_un (by decide)]
      exact h.1.2.2.1 p hp
    · rw [wI_1s, pk_us]
      rfl
    · rw [wI_1s, pk_un (by decide), h.1.2.2.2.2, hf]
      rfl
  have g2 : RepIs (wI (wI c (20 + r) 4 0) (20 + r) 5 (nI k)) r (R.dat, R.rcs, R.jrn, false, k) := by
    refine g1.fs hr sm_c1 ⟨?_, ?_, fun p hp => ?_, ?_, ?_⟩ rfl h.2.2.1 (fun _ _ h => h)
    · rw [wI_1s, pk_un (by decide)]
      exact g1.1.1
    · rw [wI_1s, pk_un (by decide)]
      exact g1.1.2.1
    · rw [wI_1s, pk_un (by decide), pk_un (by decide)]
      exact g1.1.2.2.1 p hp
    · rw [wI_1s, pk_un (by decide)]
      exact g1.1.2.2.2.1
    · rw [wI_1s, pk_us]
      rfl
  refine Cp.of hD (by decide) (Nat.le_of_ble_eq_true rfl) [(0, some (.ref (aRep D r))), (1, some (.int (nI k)))] rfl (fun X hX C => ?_)
  subst hX
  refine g_aload_n (pc := 0) (i := 0) C d_Rep_comeUp_0 rfl rfl ?_
  refine g_iconst (pc := 1) C d_Rep_comeUp_1 ic_0 ?_
  refine gp_Rep_down (pc := 2) C (by omega) (by first | exact Or.inl rfl | exact Or.inr rfl) fl_Rep_35 d_Rep_comeUp_2 ?_
  refine g_aload_n (pc := 5) (i := 0) C d_Rep_comeUp_5 rfl rfl ?_
  refine gf_Rep_journal (pc := 6) C (by omega) fl_Rep_31 d_Rep_comeUp_6 ?_
  rw [g1.1.2.1]
  refine g_if_ne (pc := 9) (tgt := 14) C d_Rep_comeUp_9 (by decide) (fun h9 => ?_) (fun h9 => ?_)
  · have hb := b1_1 h9
    obtain ⟨q, hq⟩ : ∃ q, R.jrn = some q := Option.isSome_iff_exists.mp hb
    obtain ⟨d, n⟩ := q
    refine g_aload_n (pc := 14) (i := 0) C d_Rep_comeUp_14 rfl rfl ?_
    refine g_iload_n (pc := 15) (i := 1) C d_Rep_comeUp_15 rfl rfl ?_
    refine gp_Rep_writesToFailure (pc := 16) C (by omega) fl_Rep_38 d_Rep_comeUp_16 ?_
    refine g_aload_n (pc := 19) (i := 0) C d_Rep_comeUp_19 rfl rfl ?_
    refine g_callVp (pc := 20) (As := []) C my_Rep_rollBack mv_Rep_rollBack cl_Rep_77 (is_Rep (by omega)) d_Rep_comeUp_20 (Nat.le_of_ble_eq_true rfl) rfl (Nat.le_of_ble_eq_true rfl) ⟨Nat.zero_le _, Nat.zero_le _⟩ (x_Rep_rollBack _ hD (by omega) g2 rfl hk (d := d) (n := n) hq (hj _ hq).1 (hj _ hq).2) (fun r20 u20 hp20 => ?_)
    obtain ⟨c3, rfl, rfl, g3, s3⟩ := hp20
    refine g_iret (pc := 23) C d_Rep_comeUp_23 ?_
    refine ⟨c3, rfl, ?_, ?_, (up1 (sm_c1.tr sm_c1)).tr s3⟩
    · have e : recov R k = roll (R.dat, R.rcs, R.jrn, false, k) d n := by unfold recov; rw [hq]
      rw [e]
    · have e : recov R k = roll (R.dat, R.rcs, R.jrn, false, k) d n := by unfold recov; rw [hq]
      rw [e]
      exact g3
  · have hb := b1_0 h9
    have hq : R.jrn = none := Option.not_isSome_iff_eq_none.mp hb
    refine g_iconst (pc := 12) C d_Rep_comeUp_12 ic_0 ?_
    refine g_iret (pc := 13) C d_Rep_comeUp_13 ?_
    refine ⟨_, rfl, ?_, ?_, up1 sm_c1⟩
    · unfold recov
      rw [hq]
      rfl
    · unfold recov
      rw [hq] at g1 ⊢
      exact g1
set_option maxRecDepth 100000 in
set_option maxHeartbeats 4000000 in
theorem x_Rep_undo (l : Launch) {D : Dt} (hD : OkD D) {r : Nat} {c : Cs} {τ : Cs × (Nat → Int64)} {R : Rp} {k d n : Nat} (hr : r < 2) (h : RepIs c r R) (hj : R.jrn = some (d, n)) (hn : n ≤ R.rcs.length) (hdd : d < 2 ^ 20) : Cp l D y_Rep_undo b_Rep_undo 2 none 2 [.int (nI k), .ref (aRep D r)] ((c, τ) : Sg) (fun a u => ∃ c2, u = ((c2, τ) : Sg) ∧ a = none ∧ RepIs c2 r (R.dat.take d, R.rcs.take n, none, R.dwn, k) ∧ Sm (Pr r) c c2) := by
  have up1 : ∀ {c c2 : Cs}, Sm (Ci (20 + r)) c c2 → Sm (Pr r) c c2 := fun h => h.up (fun t q => Or.inl q)
  have up2 : ∀ {c c2 : Cs}, Sm (Rw (1 + 4 * r)) c c2 → Sm (Pr r) c c2 := fun h => h.up (fun t q => Or.inr q)
  have g2 : RepIs (cutC c (1 + 4 * r) (nI d)) r (cutR R d) := h.ct hr hdd
  have g4 : RepIs (wI (cutC c (1 + 4 * r) (nI d)) (20 + r) 0 (nI n)) r (takR (cutR R d) n) := g2.tk hr hn
  have g6 : RepIs (wI (wI (wI (cutC c (1 + 4 * r) (nI d)) (20 + r) 0 (nI n)) (20 + r) 1 0) (20 + r) 5 (nI k)) r (R.dat.take d, R.rcs.take n, none, R.dwn, k) := by
    refine g4.fs hr (sm_c1.tr sm_c1) ⟨?_, ?_, fun p hp => ?_, ?_, ?_⟩ rfl g4.2.2.1 (fun _ _ h => h)
    · rw [wI_1s, pk_un (by decide), wI_1s, pk_un (by decide)]
      exact g4.1.1
    · rw [wI_1s, pk_un (by decide), wI_1s, pk_us]
      rfl
    · cases hp
    · rw [wI_1s, pk_un (by decide), wI_1s, pk_un (by decide)]
      exact g4.1.2.2.2.1
    · rw [wI_1s, pk_us]
      rfl
  refine Cp.of hD (by decide) (Nat.le_of_ble_eq_true rfl) [(0, some (.ref (aRep D r))), (1, some (.int (nI k)))] rfl (fun X hX C => ?_)
  subst hX
  refine g_aload_n (pc := 0) (i := 0) C d_Rep_undo_0 rfl rfl ?_
  refine gf_Rep_data (pc := 1) C (by omega) fl_Rep_14 d_Rep_undo_1 ?_
  refine g_aload_n (pc := 4) (i := 0) C d_Rep_undo_4 rfl rfl ?_
  refine gf_Rep_journalData (pc := 5) C (by omega) fl_Rep_65 d_Rep_undo_5 ?_
  rw [(h.1.2.2.1 (d, n) hj).1]
  refine g_callV0 (pc := 8) (As := [_]) C my_Row_cut mv_Row_cut cl_Rep_71 (is_Row (by omega)) d_Rep_undo_8 (Nat.le_of_ble_eq_true rfl) rfl (Nat.le_of_ble_eq_true rfl) ⟨Nat.zero_le _, Nat.zero_le _⟩ (c_Row_cut _ hD (by omega)) ?_
  refine g_aload_n (pc := 11) (i := 0) C d_Rep_undo_11 rfl rfl ?_
  refine g_aload_n (pc := 12) (i := 0) C d_Rep_undo_12 rfl rfl ?_
  refine gf_Rep_journalRecords (pc := 13) C (by omega) fl_Rep_68 d_Rep_undo_13 ?_
  rw [(g2.1.2.2.1 (d, n) hj).2]
  refine gp_Rep_recordCount (pc := 16) C (by omega) fl_Rep_27 d_Rep_undo_16 ?_
  refine g_aload_n (pc := 19) (i := 0) C d_Rep_undo_19 rfl rfl ?_
  refine g_iconst (pc := 20) C d_Rep_undo_20 ic_0 ?_
  refine gp_Rep_journal (pc := 21) C (by omega) (by first | exact Or.inl rfl | exact Or.inr rfl) fl_Rep_31 d_Rep_undo_21 ?_
  refine g_aload_n (pc := 24) (i := 0) C d_Rep_undo_24 rfl rfl ?_
  refine g_iload_n (pc := 25) (i := 1) C d_Rep_undo_25 rfl rfl ?_
  refine gp_Rep_writesToFailure (pc := 26) C (by omega) fl_Rep_38 d_Rep_undo_26 ?_
  refine g_vret (pc := 29) C d_Rep_undo_29 ?_
  exact ⟨_, rfl, rfl, g6, ((up2 sm_cut).tr (up1 sm_c1)).tr (up1 (sm_c1.tr sm_c1))⟩
theorem chn_0 (rs : List Rc) (f : Nat) : chn rs f none = some (0, 0) := by cases f <;> rfl
theorem chn_s {rs : List Rc} {f n : Nat} {x : Rc} (hx : rs[n]? = some x) : chn rs (f + 1) (some n) = (chn rs f x.bas).map (fun q => (q.1 + 1, q.2 + x.siz)) := by
  conv => lhs; unfold chn
  simp only [hx]
  cases chn rs f x.bas <;> rfl
def fitV (rs : List Rc) (f : Nat) (o : Option Nat) (b tl : Nat) : Bool := match chn rs f o with
  | none => false
  | some (_, s) => decide (s + b ≤ 2 * tl + 16)
theorem fitV_s {rs : List Rc} {f n b tl : Nat} {x : Rc} (hx : rs[n]? = some x) : fitV rs (f + 1) (some n) b tl = fitV rs f x.bas (b + x.siz) tl := by
  unfold fitV
  rw [chn_s hx]
  cases chn rs f x.bas with
  | none => rfl
  | some q =>
    obtain ⟨k, s⟩ := q
    show decide (s + x.siz + b ≤ 2 * tl + 16) = decide (s + (b + x.siz) ≤ 2 * tl + 16)
    congr 1
    apply propext
    omega
theorem fitV_0 (rs : List Rc) (f b tl : Nat) : fitV rs f none b tl = decide (b ≤ 2 * tl + 16) := by
  unfold fitV
  rw [chn_0]
  simp
theorem fitV_n (rs : List Rc) (n b tl : Nat) : fitV rs 0 (some n) b tl = false := rfl
set_option maxRecDepth 100000 in
set_option maxHeartbeats 4000000 in
theorem c_Rep_chainFits (l : Launch) {D : Dt} (hD : OkD D) {r : Nat} {c : Cs} {τ : Cs × (Nat → Int64)} {rs : List Rc} {y : List Nat} {n tl dl : Nat} (hr : r < 2) (hx : RcX c r rs) (hw : ∀ n x, rs[n]? = some x → WfX dl rs n x) (hy : RowIs c (4 + 4 * r) y) (hn : n < rs.length) (ht : tl ≤ 60) : Ct l D y_Rep_chainFits b_Rep_chainFits 6 (some .boolean) 1 [.int (nI tl), .int (nI n), .ref (aRep D r)] ((c, τ) : Sg) (some (.int (b1 (fits6 rs n y.length tl = true)))) ((c, τ) : Sg) := by
  have h24 := hx.1
  have q1 := rln_le (4 + 4 * r)
  have q2 := hy.2.1
  refine Ct.of hD (by decide) (Nat.le_of_ble_eq_true rfl) [(0, some (.ref (aRep D r))), (1, some (.int (nI n))), (2, some (.int (nI tl)))] rfl (fun X hX C => ?_)
  subst hX
  have loop : ∀ (f k b : Nat) (o : Option Nat), f + k = 5 → (∀ m, o = some m → m < rs.length) → b ≤ 600 + 121 * k → fits6 rs n y.length tl = fitV rs f o b tl → G X D (Qp X D (fun r2 u => r2 = some (.int (b1 (fits6 rs n y.length tl = true))) ∧ u = ((c, τ) : Sg))) (0, 0) ((c, τ) : Sg) 14 [(0, some (.ref (aRep D r))), (2, some (.int (nI tl))), (3, some (.int (nI (k + 1)))), (4, some (.int (nI b))), (5, some (.int (eo o)))] [] := by
    intro f
    induction f with
    | zero =>
      intro k b o hk ho hb he
      cases o with
      | none =>
        rw [fitV_0] at he
        refine g_iload (pc := 14) C d_Rep_chainFits_14 rfl ?_
        refine g_iconst (pc := 16) C d_Rep_chainFits_16 ic_m1 ?_
        refine g_icmp_eq (pc := 17) (tgt := 59) C d_Rep_chainFits_17 (by decide) (fun h17 => ?_) (fun h17 => ?_)
        · skip
          refine g_iload (pc := 59) C d_Rep_chainFits_59 rfl ?_
          refine g_iconst (pc := 61) C d_Rep_chainFits_61 ic_m1 ?_
          refine g_icmp_ne (pc := 62) (tgt := 80) C d_Rep_chainFits_62 (by decide) (fun h62 => ?_) (fun h62 => ?_)
          · first | exact absurd h62 (rfl) | exact absurd (rfl) h62
          · skip
            refine g_iload (pc := 65) C d_Rep_chainFits_65 rfl ?_
            refine g_iconst (pc := 67) C d_Rep_chainFits_67 icn_2 ?_
            refine g_iload_n (pc := 68) (i := 2) C d_Rep_chainFits_68 rfl rfl ?_
            refine g_imul (pc := 69) C d_Rep_chainFits_69 ?_
            rw [pk_mul]
            refine g_bipush (pc := 70) C d_Rep_chainFits_70 bpn_16 ?_
            refine g_iadd (pc := 72) C d_Rep_chainFits_72 ?_
            rw [nI_add]
            refine g_icmp_gt (pc := 73) (tgt := 80) C d_Rep_chainFits_73 (by decide) (fun h73 => ?_) (fun h73 => ?_)
            · have hq : ¬ b ≤ 2 * tl + 16 := fun q => absurd h73 (nI_nlt q (by omega))
              refine g_iconst (pc := 80) C d_Rep_chainFits_80 ic_0 ?_
              refine g_zret (pc := 81) C d_Rep_chainFits_81 (by first | exact Or.inl rfl | exact Or.inr rfl) ?_
              refine ⟨congrArg (fun v => some (Value.int v)) ?_, rfl⟩
              first | exact (b1_t (by rw [he]; exact decide_eq_true hq)).symm | exact (b1_f (by rw [he]; simpa using hq)).symm
            · have hq : b ≤ 2 * tl + 16 := Nat.not_lt.mp fun q => h73 (nI_lt q (by omega))
              refine g_iconst (pc := 76) C d_Rep_chainFits_76 ic_1 ?_
              refine g_goto (pc := 77) (tgt := 81) C d_Rep_chainFits_77 (by decide) ?_
              refine g_zret (pc := 81) C d_Rep_chainFits_81 (by first | exact Or.inl rfl | exact Or.inr rfl) ?_
              refine ⟨congrArg (fun v => some (Value.int v)) ?_, rfl⟩
              first | exact (b1_t (by rw [he]; exact decide_eq_true hq)).symm | exact (b1_f (by rw [he]; simpa using hq)).symm
        · first | exact absurd h17 (rfl) | exact absurd (rfl) h17
      | some m =>
        have hm := ho m rfl
        rw [fitV_n] at he
        show G X D _ (0, 0) _ 14 [(0, some (.ref (aRep D r))), (2, some (.int (nI tl))), (3, some (.int (nI (k + 1)))), (4, some (.int (nI b))), (5, some (.int (nI m)))] []
        refine g_iload (pc := 14) C d_Rep_chainFits_14 rfl ?_
        refine g_iconst (pc := 16) C d_Rep_chainFits_16 ic_m1 ?_
        refine g_icmp_eq (pc := 17) (tgt := 59) C d_Rep_chainFits_17 (by decide) (fun h17 => ?_) (fun h17 => ?_)
        · first | exact absurd h17 (nI_m1 (by omega)) | exact absurd (nI_m1 (by omega)) h17
        · skip
          refine g_iload_n (pc := 20) (i := 3) C d_Rep_chainFits_20 rfl rfl ?_
          refine g_bipush (pc := 21) C d_Rep_chainFits_21 bpn_6 ?_
          refine g_icmp_ge (pc := 23) (tgt := 59) C d_Rep_chainFits_23 (by decide) (fun h23 => ?_) (fun h23 => ?_)
          · skip
            refine g_iload (pc := 59) C d_Rep_chainFits_59 rfl ?_
            refine g_iconst (pc := 61) C d_Rep_chainFits_61 ic_m1 ?_
            refine g_icmp_ne (pc := 62) (tgt := 80) C d_Rep_chainFits_62 (by decide) (fun h62 => ?_) (fun h62 => ?_)
            · skip
              refine g_iconst (pc := 80) C d_Rep_chainFits_80 ic_0 ?_
              refine g_zret (pc := 81) C d_Rep_chainFits_81 (by first | exact Or.inl rfl | exact Or.inr rfl) ?_
              exact ⟨by rw [b1_f (by rw [he]; exact fun e => by cases e)], rfl⟩
            · first | exact absurd h62 (nI_m1 (by omega)) | exact absurd (nI_m1 (by omega)) h62
          · first | exact absurd h23 (nI_le (by omega) (by omega)) | exact absurd (nI_le (by omega) (by omega)) h23
    | succ f ih =>
      intro k b o hk ho hb he
      cases o with
      | none =>
        rw [fitV_0] at he
        refine g_iload (pc := 14) C d_Rep_chainFits_14 rfl ?_
        refine g_iconst (pc := 16) C d_Rep_chainFits_16 ic_m1 ?_
        refine g_icmp_eq (pc := 17) (tgt := 59) C d_Rep_chainFits_17 (by decide) (fun h17 => ?_) (fun h17 => ?_)
        · skip
          refine g_iload (pc := 59) C d_Rep_chainFits_59 rfl ?_
          refine g_iconst (pc := 61) C d_Rep_chainFits_61 ic_m1 ?_
          refine g_icmp_ne (pc := 62) (tgt := 80) C d_Rep_chainFits_62 (by decide) (fun h62 => ?_) (fun h62 => ?_)
          · first | exact absurd h62 (rfl) | exact absurd (rfl) h62
          · skip
            refine g_iload (pc := 65) C d_Rep_chainFits_65 rfl ?_
            refine g_iconst (pc := 67) C d_Rep_chainFits_67 icn_2 ?_
            refine g_iload_n (pc := 68) (i := 2) C d_Rep_chainFits_68 rfl rfl ?_
            refine g_imul (pc := 69) C d_Rep_chainFits_69 ?_
            rw [pk_mul]
            refine g_bipush (pc := 70) C d_Rep_chainFits_70 bpn_16 ?_
            refine g_iadd (pc := 72) C d_Rep_chainFits_72 ?_
            rw [nI_add]
            refine g_icmp_gt (pc := 73) (tgt := 80) C d_Rep_chainFits_73 (by decide) (fun h73 => ?_) (fun h73 => ?_)
            · have hq : ¬ b ≤ 2 * tl + 16 := fun q => absurd h73 (nI_nlt q (by omega))
              refine g_iconst (pc := 80) C d_Rep_chainFits_80 ic_0 ?_
              refine g_zret (pc := 81) C d_Rep_chainFits_81 (by first | exact Or.inl rfl | exact Or.inr rfl) ?_
              refine ⟨congrArg (fun v => some (Value.int v)) ?_, rfl⟩
              first | exact (b1_t (by rw [he]; exact decide_eq_true hq)).symm | exact (b1_f (by rw [he]; simpa using hq)).symm
            · have hq : b ≤ 2 * tl + 16 := Nat.not_lt.mp fun q => h73 (nI_lt q (by omega))
              refine g_iconst (pc := 76) C d_Rep_chainFits_76 ic_1 ?_
              refine g_goto (pc := 77) (tgt := 81) C d_Rep_chainFits_77 (by decide) ?_
              refine g_zret (pc := 81) C d_Rep_chainFits_81 (by first | exact Or.inl rfl | exact Or.inr rfl) ?_
              refine ⟨congrArg (fun v => some (Value.int v)) ?_, rfl⟩
              first | exact (b1_t (by rw [he]; exact decide_eq_true hq)).symm | exact (b1_f (by rw [he]; simpa using hq)).symm
        · first | exact absurd h17 (rfl) | exact absurd (rfl) h17
      | some m =>
        have hm := ho m rfl
        obtain ⟨x, hxm⟩ : ∃ x, rs[m]? = some x := ⟨_, List.getElem?_eq_getElem hm⟩
        have hrec := hx.2 m x hxm
        have hwx := hw m x hxm
        rw [fitV_s hxm] at he
        show G X D _ (0, 0) _ 14 [(0, some (.ref (aRep D r))), (2, some (.int (nI tl))), (3, some (.int (nI (k + 1)))), (4, some (.int (nI b))), (5, some (.int (nI m)))] []
        refine g_iload (pc := 14) C d_Rep_chainFits_14 rfl ?_
        refine g_iconst (pc := 16) C d_Rep_chainFits_16 ic_m1 ?_
        refine g_icmp_eq (pc := 17) (tgt := 59) C d_Rep_chainFits_17 (by decide) (fun h17 => ?_) (fun h17 => ?_)
        · first | exact absurd h17 (nI_m1 (by omega)) | exact absurd (nI_m1 (by omega)) h17
        · skip
          refine g_iload_n (pc := 20) (i := 3) C d_Rep_chainFits_20 rfl rfl ?_
          refine g_bipush (pc := 21) C d_Rep_chainFits_21 bpn_6 ?_
          refine g_icmp_ge (pc := 23) (tgt := 59) C d_Rep_chainFits_23 (by decide) (fun h23 => ?_) (fun h23 => ?_)
          · first | exact absurd h23 (nI_ge (show k + 1 < 6 by omega) (by omega)) | exact absurd (nI_ge (show k + 1 < 6 by omega) (by omega)) h23
          · skip
            refine g_iinc (pc := 26) C d_Rep_chainFits_26 rfl (v := nI (k + 1 + 1)) (nI_inc (k + 1)) rfl ?_
            refine g_iload (pc := 29) C d_Rep_chainFits_29 rfl ?_
            refine g_aload_n (pc := 31) (i := 0) C d_Rep_chainFits_31 rfl rfl ?_
            refine gf_Rep_records (pc := 32) C (by omega) fl_Rep_22 d_Rep_chainFits_32 ?_
            refine g_iload (pc := 35) C d_Rep_chainFits_35 rfl ?_
            refine ga_rcs (pc := 37) C (by omega) (by omega) d_Rep_chainFits_37 ?_
            refine gf_Rec_size (pc := 38) C (by omega) fl_Rep_183 d_Rep_chainFits_38 ?_
            rw [hrec.2.1]
            refine g_iadd (pc := 41) C d_Rep_chainFits_41 ?_
            rw [nI_add]
            refine g_istore (pc := 42) C d_Rep_chainFits_42 (by decide) rfl ?_
            refine g_aload_n (pc := 44) (i := 0) C d_Rep_chainFits_44 rfl rfl ?_
            refine gf_Rep_records (pc := 45) C (by omega) fl_Rep_22 d_Rep_chainFits_45 ?_
            refine g_iload (pc := 48) C d_Rep_chainFits_48 rfl ?_
            refine ga_rcs (pc := 50) C (by omega) (by omega) d_Rep_chainFits_50 ?_
            refine gf_Rec_base (pc := 51) C (by omega) fl_Rep_186 d_Rep_chainFits_51 ?_
            rw [hrec.2.2.2.1]
            refine g_istore (pc := 54) C d_Rep_chainFits_54 (by decide) rfl ?_
            refine g_goto (pc := 56) (tgt := 14) C d_Rep_chainFits_56 (by decide) ?_
            exact G.lf (ih (k + 1) (b + x.siz) x.bas (by omega) (fun q hq => by have := hwx.1 q hq; omega) (by have := hwx.2.2.2.2.1; omega) he) (sb rfl (sb rfl (sb rfl (sb rfl (sb rfl sn)))))
  refine g_iconst (pc := 0) C d_Rep_chainFits_0 icn_1 ?_
  refine g_istore_n (pc := 1) (i := 3) C d_Rep_chainFits_1 rfl (by decide) rfl ?_
  refine g_aload_n (pc := 2) (i := 0) C d_Rep_chainFits_2 rfl rfl ?_
  refine gf_Rep_trial (pc := 3) C (by omega) fl_Rep_51 d_Rep_chainFits_3 ?_
  refine gf_Row_length (pc := 6) C (by omega) fl_Rep_62 d_Rep_chainFits_6 ?_
  rw [hy.1]
  refine g_istore (pc := 9) C d_Rep_chainFits_9 (by decide) rfl ?_
  refine g_iload_n (pc := 11) (i := 1) C d_Rep_chainFits_11 rfl rfl ?_
  refine g_istore (pc := 12) C d_Rep_chainFits_12 (by decide) rfl ?_
  exact G.lf (loop 5 0 y.length (some n) (by omega) (fun m e => by cases e; exact hn) (by omega) rfl) (sb rfl (sb rfl (sb rfl (sb rfl (sb rfl sn)))))
end
section
theorem rl_1 {r : Nat} (h : r < 2) : rln (1 + 4 * r) = 600 := by
  rcases (show r = 0 ∨ r = 1 by omega) with rfl | rfl <;> rfl
theorem rl_2 {r : Nat} (h : r < 2) : rln (2 + 4 * r) = 60 := by
  rcases (show r = 0 ∨ r = 1 by omega) with rfl | rfl <;> rfl
theorem rl_3 {r : Nat} (h : r < 2) : rln (3 + 4 * r) = 121 := by
  rcases (show r = 0 ∨ r = 1 by omega) with rfl | rfl <;> rfl
theorem rl_4 {r : Nat} (h : r < 2) : rln (4 + 4 * r) = 121 := by
  rcases (show r = 0 ∨ r = 1 by omega) with rfl | rfl <;> rfl
def pd : Nat → Option Nat
  | 0 => none
  | k + 1 => some k
/-- a chain, as a list -/
def cl (rs : List Rc) : Nat → Option Nat → List Nat
  | _, none => []
  | 0, some _ => []
  | f + 1, some n => n :: match rs[n]? with
    | none => []
    | some x => cl rs f x.bas
theorem cl_0 (rs : List Rc) (f : Nat) : cl rs f none = [] := by cases f <;> rfl
theorem cl_s {rs : List Rc} {f n : Nat} {x : Rc} (hx : rs[n]? = some x) : cl rs (f + 1) (some n) = n :: cl rs f x.bas := by
  conv => lhs; unfold cl
  simp only [hx]
theorem cl_len (rs : List Rc) : ∀ (f : Nat) (o : Option Nat), (cl rs f o).length ≤ f
  | f, none => by rw [cl_0]; exact Nat.zero_le _
  | 0, some _ => by simp [cl]
  | f + 1, some n => by
    unfold cl
    cases rs[n]? with
    | none => simp
    | some x =>
      have := cl_len rs f x.bas
      simp only [List.length_cons]
      omega
theorem cl_at (rs : List Rc) : ∀ (f : Nat) (o : Option Nat), chn rs f o ≠ none → ∀ i a, (cl rs f o)[i]? = some a → ∃ x, rs[a]? = some x ∧ x.bas = (cl rs f o)[i + 1]?
  | f, none, _, i, a, h => by rw [cl_0] at h; simp at h
  | 0, some _, hc, _, _, _ => absurd rfl hc
  | f + 1, some n, hc, i, a, h => by
    cases hx : rs[n]? with
    | none =>
      exfalso
      apply hc
      unfold chn
      rw [hx]
    | some x =>
      rw [chn_s hx] at hc
      have hc2 : chn rs f x.bas ≠ none := fun e => hc (by rw [e]; rfl)
      rw [cl_s hx] at h ⊢
      cases i with
      | zero =>
        rw [List.getElem?_cons_zero] at h
        cases h
        refine ⟨x, hx, ?_⟩
        rw [List.getElem?_cons_succ]
        cases hb : x.bas with
        | none => rw [cl_0]; rfl
        | some b =>
          rw [hb] at hc2
          cases f with
          | zero => exact absurd rfl hc2
          | succ f =>
            unfold cl
            rfl
      | succ i =>
        rw [List.getElem?_cons_succ] at h
        obtain ⟨x2, h1, h2⟩ := cl_at rs f x.bas hc2 i a h
        exact ⟨x2, h1, by rw [List.getElem?_cons_succ]; exact h2⟩
def chA (d : List Nat) (rs : List Rc) (a : Nat) : List Nat := match rs[a]? with
  | none => []
  | some x => chnk d x
def evl (d : List Nat) (rs : List Rc) : List Nat → Option (List Nat)
  | [] => none
  | [a] => snap (chA d rs a)
  | a :: b :: r => match evl d rs (b :: r) with
    | none => none
    | some t => dif (chA d rs a) t
theorem evl_c {d : List Nat} {rs : List Rc} {a : Nat} {r : List Nat} (h : r ≠ []) : evl d rs (a :: r) = (evl d rs r).bind (fun t => dif (chA d rs a) t) := by
  cases r with
  | nil => exact absurd rfl h
  | cons b r =>
    conv => lhs; unfold evl
    cases evl d rs (b :: r) <;> rfl
theorem txt_evl (d : List Nat) (rs : List Rc) : ∀ (f n : Nat), chn rs f (some n) ≠ none → txt d rs f n = evl d rs (cl rs f (some n))
  | 0, n, h => absurd rfl h
  | f + 1, n, h => by
    cases hx : rs[n]? with
    | none =>
      exfalso
      apply h
      unfold chn
      rw [hx]
    | some x =>
      rw [chn_s hx] at h
      have hc2 : chn rs f x.bas ≠ none := fun e => h (by rw [e]; rfl)
      rw [cl_s hx]
      have hA : chA d rs n = chnk d x := by unfold chA; rw [hx]
      unfold txt
      simp only [hx]
      cases hb : x.bas with
      | none =>
        rw [cl_0]
        show snap (chnk d x) = snap (chA d rs n)
        rw [hA]
      | some b =>
        rw [hb] at hc2
        have ih := txt_evl d rs f b hc2
        cases f with
        | zero => exact absurd rfl hc2
        | succ f =>
          rw [evl_c (by unfold cl; exact List.cons_ne_nil _ _), hA]
          show (match txt d rs (f + 1) b with
            | none => none
            | some t => dif (chnk d x) t) = _
          rw [ih]
          cases evl d rs (cl rs (f + 1) (some b)) <;> rfl
def Bp (r : Nat) : Nat → Prop := fun t => t = 24 + r ∨ Rw (2 + 4 * r) t
theorem built_eq {d : List Nat} {rs : List Rc} {n : Nat} {x : Rc} (hx : rs[n]? = some x) : built d rs n = match txt d rs 6 n with
    | none => none
    | some t => if t.length = x.len ∧ nodeOf rs x.pa x.pb t = x.nod then some t else none := by
  unfold built
  simp only [hx]
  cases txt d rs 6 n <;> rfl
theorem built_none {d : List Nat} {rs : List Rc} {n : Nat} (h : txt d rs 6 n = none) : built d rs n = none := by
  unfold built
  rw [h]
  cases rs[n]? <;> rfl
theorem pd_dec (m : Nat) : nI m + Int32.ofInt (-1) = eo (pd m) := by
  cases m with
  | zero => decide +kernel
  | succ m =>
    show nI (m + 1) + Int32.ofInt (-1) = nI m
    rw [show Int32.ofInt (-1) = -1 from by decide +kernel]
    exact pk_m1 m
end
section
set_option maxRecDepth 100000 in
set_option maxHeartbeats 4000000 in
theorem x_Rep_build (l : Launch) {D : Dt} (hD : OkD D) {r : Nat} {c : Cs} {τ : Cs × (Nat → Int64)} {rs : List Rc} {d y : List Nat} {n : Nat} (hr : r < 2) (hx : RcX c r rs) (hd : RowIs c (1 + 4 * r) d) (yd : By d) (hw : ∀ n x, rs[n]? = some x → WfX d.length rs n x) (hn : n < rs.length) (hb : RowIs c (2 + 4 * r) y) : Cp l D y_Rep_build b_Rep_build 7 (some .boolean) 5 [.int (nI n), .ref (aRep D r)] ((c, τ) : Sg) (fun a u => ∃ c2, u = ((c2, τ) : Sg) ∧ Sm (Bp r) c c2 ∧ ((∃ t, built d rs n = some t ∧ a = some (.int 1) ∧ RowIs c2 (2 + 4 * r) t) ∨ (built d rs n = none ∧ a = some (.int 0) ∧ ∃ y, RowIs c2 (2 + 4 * r) y))) := by
  have h24 := hx.1
  have q1 := rl_1 hr
  have q2 := rl_2 hr
  have q3 := hd.2.1
  obtain ⟨xn, hxn⟩ : ∃ x, rs[n]? = some x := ⟨_, List.getElem?_eq_getElem hn⟩
  have hwn := hw n xn hxn
  have hch := hwn.2.2.2.2.2.2.2
  have hte := txt_evl d rs 6 n hch
  have hll := cl_len rs 6 (some n)
  have hla := cl_at rs 6 (some n) hch
  have hl0 : cl rs 6 (some n) = n :: cl rs 5 xn.bas := cl_s hxn
  generalize hl : cl rs 6 (some n) = l at hte hll hla hl0
  have hl1 : 1 ≤ l.length := by rw [hl0]; simp
  have nb : ∀ {c1 : Cs}, Sm (Bp r) c c1 → RowIs c1 (1 + 4 * r) d ∧ RcX c1 r rs := fun {c1} hs => ⟨hd.sm hs (by unfold Bp Rw; omega) (by unfold Bp Rw; omega), hx.sm hs (fun t ht => by unfold Bp Rw; omega)⟩
  have hlt : ∀ i a, l[i]? = some a → a < 24 := fun i a h => by
    obtain ⟨x, h1, -⟩ := hla i a h
    exact hx.lt h1
  refine Cp.of hD (by decide) (Nat.le_of_ble_eq_true rfl) [(0, some (.ref (aRep D r))), (1, some (.int (nI n)))] rfl (fun X hX C => ?_)
  subst hX
  have evn0 : ∀ m, m ≤ l.length → evl d rs (l.drop m) = none → m < l.length → evl d rs l = none := by
    intro m
    induction m with
    | zero => intro _ h _; exact h
    | succ m ih =>
      intro h1 h2 h3
      refine ih (by omega) ?_ (by omega)
      have hm : m < l.length := by omega
      rw [List.drop_eq_getElem_cons hm, evl_c (fun e => by have := congrArg List.length e; rw [List.length_drop] at this; simp at this; omega), h2]
      rfl
  have k124 : ∀ (m : Nat), (∀ (c1 : Cs), m ≤ l.length → (∀ i a, l[i]? = some a → c1.1 (24 + r) i = nI a) → Sm (Bp r) c c1 → ((m = l.length ∧ RowIs c1 (2 + 4 * r) []) ∨ (m < l.length ∧ ∃ t, evl d rs (l.drop m) = some t ∧ RowIs c1 (2 + 4 * r) t)) → G X D (Qp X D (fun a u => ∃ c2, u = ((c2, τ) : Sg) ∧ Sm (Bp r) c c2 ∧ ((∃ t, built d rs n = some t ∧ a = some (.int 1) ∧ RowIs c2 (2 + 4 * r) t) ∨ (built d rs n = none ∧ a = some (.int 0) ∧ ∃ y, RowIs c2 (2 + 4 * r) y)))) (0, 0) ((c1, τ) : Sg) 51 [(0, some (.ref (aRep D r))), (1, some (.int (nI n))), (4, some (.int (eo (pd m))))] []) → ∀ {c1 : Cs}, m + 1 ≤ l.length → (∀ i a, l[i]? = some a → c1.1 (24 + r) i = nI a) → Sm (Bp r) c c1 → ∀ (c3 : Cs) (v : Int32), Sm (Rw (2 + 4 * r)) c1 c3 → ((∃ t, evl d rs (l.drop m) = some t ∧ v = 1 ∧ RowIs c3 (2 + 4 * r) t) ∨ (evl d rs (l.drop m) = none ∧ v = 0 ∧ ∃ x, RowIs c3 (2 + 4 * r) x)) → G X D (Qp X D (fun a u => ∃ c2, u = ((c2, τ) : Sg) ∧ Sm (Bp r) c c2 ∧ ((∃ t, built d rs n = some t ∧ a = some (.int 1) ∧ RowIs c2 (2 + 4 * r) t) ∨ (built d rs n = none ∧ a = some (.int 0) ∧ ∃ y, RowIs c2 (2 + 4 * r) y)))) (0, 0) ((c3, τ) : Sg) 124 [(0, some (.ref (aRep D r))), (1, some (.int (nI n))), (4, some (.int (nI m)))] [.int v] := by
    intro m ih c1 hm hc hs c3 v s3 hp
    have s3u : Sm (Bp r) c1 c3 := s3.up (fun t q => Or.inr q)
    rcases hp with ⟨t3, e1, rfl, r3⟩ | ⟨e1, rfl, y3⟩
    · skip
      refine g_istore (pc := 124) C d_Rep_build_124 (by decide) rfl ?_
      refine g_iload (pc := 126) C d_Rep_build_126 rfl ?_
      refine g_if_ne (pc := 128) (tgt := 133) C d_Rep_build_128 (by decide) (fun h128 => ?_) (fun h128 => ?_)
      · skip
        refine g_iinc (pc := 133) C d_Rep_build_133 rfl (v := eo (pd m)) (pd_dec m) rfl ?_
        refine g_goto (pc := 136) (tgt := 51) C d_Rep_build_136 (by decide) ?_
        exact G.lf (ih c3 (by omega) (fun i a h => by rw [s3.1 _ (by unfold Rw; omega)]; exact hc i a h) (hs.tr s3u) (Or.inr ⟨by omega, t3, e1, r3⟩)) (sb rfl (sb rfl (sb rfl sn)))
      · first | exact absurd h128 (by decide) | exact absurd (by decide) h128
    · skip
      refine g_istore (pc := 124) C d_Rep_build_124 (by decide) rfl ?_
      refine g_iload (pc := 126) C d_Rep_build_126 rfl ?_
      refine g_if_ne (pc := 128) (tgt := 133) C d_Rep_build_128 (by decide) (fun h128 => ?_) (fun h128 => ?_)
      · first | exact absurd h128 (rfl) | exact absurd (rfl) h128
      · skip
        refine g_iconst (pc := 131) C d_Rep_build_131 ic_0 ?_
        refine g_zret (pc := 132) C d_Rep_build_132 (by first | exact Or.inl rfl | exact Or.inr rfl) ?_
        refine ⟨c3, rfl, hs.tr s3u, Or.inr ⟨?_, rfl, y3⟩⟩
        apply built_none
        rw [hte]
        exact evn0 m (by omega) e1 (by omega)
  have loop2 : ∀ (m : Nat) (c1 : Cs), m ≤ l.length → (∀ i a, l[i]? = some a → c1.1 (24 + r) i = nI a) → Sm (Bp r) c c1 → ((m = l.length ∧ RowIs c1 (2 + 4 * r) []) ∨ (m < l.length ∧ ∃ t, evl d rs (l.drop m) = some t ∧ RowIs c1 (2 + 4 * r) t)) → G X D (Qp X D (fun a u => ∃ c2, u = ((c2, τ) : Sg) ∧ Sm (Bp r) c c2 ∧ ((∃ t, built d rs n = some t ∧ a = some (.int 1) ∧ RowIs c2 (2 + 4 * r) t) ∨ (built d rs n = none ∧ a = some (.int 0) ∧ ∃ y, RowIs c2 (2 + 4 * r) y)))) (0, 0) ((c1, τ) : Sg) 51 [(0, some (.ref (aRep D r))), (1, some (.int (nI n))), (4, some (.int (eo (pd m))))] [] := by
    intro m
    induction m with
    | zero =>
      intro c1 hm hc hs hI
      obtain ⟨t, ht, hrow⟩ : ∃ t, evl d rs l = some t ∧ RowIs c1 (2 + 4 * r) t := by
        rcases hI with ⟨h, -⟩ | ⟨-, h⟩
        · omega
        · exact h
      obtain ⟨hd1, hx1⟩ := nb hs
      have hrec := hx1.2 n xn hxn
      have hbe := built_eq (d := d) hxn
      rw [hte, ht] at hbe
      have q4 := hrow.2.1
      have q5 := hwn.2.2.2.2.2.1
      refine g_iload (pc := 51) C d_Rep_build_51 rfl ?_
      refine g_if_lt (pc := 53) (tgt := 139) C d_Rep_build_53 (by decide) (fun h53 => ?_) (fun h53 => ?_)
      · skip
        refine g_aload_n (pc := 139) (i := 0) C d_Rep_build_139 rfl rfl ?_
        refine gf_Rep_records (pc := 140) C (by omega) fl_Rep_22 d_Rep_build_140 ?_
        refine g_iload_n (pc := 143) (i := 1) C d_Rep_build_143 rfl rfl ?_
        refine ga_rcs (pc := 144) C (by omega) (by omega) d_Rep_build_144 ?_
        refine g_astore (pc := 145) C d_Rep_build_145 (by decide) rfl ?_
        refine g_aload_n (pc := 147) (i := 0) C d_Rep_build_147 rfl rfl ?_
        refine gf_Rep_built (pc := 148) C (by omega) fl_Rep_41 d_Rep_build_148 ?_
        refine gf_Row_length (pc := 151) C (by omega) fl_Rep_62 d_Rep_build_151 ?_
        rw [hrow.1]
        refine g_aload (pc := 154) C d_Rep_build_154 rfl ?_
        refine gf_Rec_length (pc := 156) C (by omega) fl_Rep_199 d_Rep_build_156 ?_
        rw [hrec.2.2.1]
        refine g_icmp_ne (pc := 159) (tgt := 193) C d_Rep_build_159 (by decide) (fun h159 => ?_) (fun h159 => ?_)
        · have hq : ¬ (t.length = xn.len ∧ nodeOf rs xn.pa xn.pb t = xn.nod) := fun q => h159 (by rw [q.1])
          refine g_iconst (pc := 193) C d_Rep_build_193 ic_0 ?_
          refine g_zret (pc := 194) C d_Rep_build_194 (by first | exact Or.inl rfl | exact Or.inr rfl) ?_
          first
            | exact ⟨c1, rfl, hs, Or.inl ⟨t, hbe.trans (if_pos hq), rfl, hrow⟩⟩
            | exact ⟨c1, rfl, hs, Or.inr ⟨hbe.trans (if_neg hq), rfl, t, hrow⟩⟩
        · have hq1 : t.length = xn.len := (nI_eq (by omega) (by omega)).mp h159
          refine g_aload_n (pc := 162) (i := 0) C d_Rep_build_162 rfl rfl ?_
          refine g_aload_n (pc := 163) (i := 0) C d_Rep_build_163 rfl rfl ?_
          refine gf_Rep_built (pc := 164) C (by omega) fl_Rep_41 d_Rep_build_164 ?_
          refine g_aload (pc := 167) C d_Rep_build_167 rfl ?_
          refine gf_Rec_p1 (pc := 169) C (by omega) fl_Rep_95 d_Rep_build_169 ?_
          rw [hrec.2.2.2.2.1]
          refine g_aload (pc := 172) C d_Rep_build_172 rfl ?_
          refine gf_Rec_p2 (pc := 174) C (by omega) fl_Rep_102 d_Rep_build_174 ?_
          rw [hrec.2.2.2.2.2.1]
          refine g_callV1 (pc := 177) (As := [_, _, _]) C my_Rep_nodeOf mv_Rep_nodeOf cl_Rep_112 (is_Rep (by omega)) d_Rep_build_177 (Nat.le_of_ble_eq_true rfl) rfl (Nat.le_of_ble_eq_true rfl) ⟨Nat.zero_le _, Nat.zero_le _⟩ (c_Rep_nodeOf _ hD (by omega) (by omega) hx1 (fun q hq => by have := hwn.2.1 q hq; omega) (fun q hq => by have := hwn.2.2.1 q hq; omega) hrow) ?_
          refine g_aload (pc := 180) C d_Rep_build_180 rfl ?_
          refine gf_Rec_node (pc := 182) C (by omega) fl_Rep_84 d_Rep_build_182 ?_
          rw [hrec.2.2.2.2.2.2]
          refine g_lcmp (pc := 185) C d_Rep_build_185 ?_
          refine g_if_ne (pc := 186) (tgt := 193) C d_Rep_build_186 (by decide) (fun h186 => ?_) (fun h186 => ?_)
          · have hq : ¬ (t.length = xn.len ∧ nodeOf rs xn.pa xn.pb t = xn.nod) := fun q => h186 (lg_c0.mpr q.2)
            refine g_iconst (pc := 193) C d_Rep_build_193 ic_0 ?_
            refine g_zret (pc := 194) C d_Rep_build_194 (by first | exact Or.inl rfl | exact Or.inr rfl) ?_
            first
              | exact ⟨c1, rfl, hs, Or.inl ⟨t, hbe.trans (if_pos hq), rfl, hrow⟩⟩
              | exact ⟨c1, rfl, hs, Or.inr ⟨hbe.trans (if_neg hq), rfl, t, hrow⟩⟩
          · have hq : t.length = xn.len ∧ nodeOf rs xn.pa xn.pb t = xn.nod := ⟨hq1, lg_c0.mp h186⟩
            refine g_iconst (pc := 189) C d_Rep_build_189 ic_1 ?_
            refine g_goto (pc := 190) (tgt := 194) C d_Rep_build_190 (by decide) ?_
            refine g_zret (pc := 194) C d_Rep_build_194 (by first | exact Or.inl rfl | exact Or.inr rfl) ?_
            first
              | exact ⟨c1, rfl, hs, Or.inl ⟨t, hbe.trans (if_pos hq), rfl, hrow⟩⟩
              | exact ⟨c1, rfl, hs, Or.inr ⟨hbe.trans (if_neg hq), rfl, t, hrow⟩⟩
      · first | exact absurd h53 (by decide) | exact absurd (by decide) h53
    | succ m ih =>
      intro c1 hm hc hs hI
      obtain ⟨hd1, hx1⟩ := nb hs
      obtain ⟨a, ha⟩ : ∃ a, l[m]? = some a := ⟨_, List.getElem?_eq_getElem (show m < l.length by omega)⟩
      obtain ⟨x, hxa, hba⟩ := hla m a ha
      have ha24 := hlt m a ha
      have hrec := hx1.2 a x hxa
      have hwa := hw a x hxa
      have w1 := hwa.2.2.2.1
      have w2 := hwa.2.2.2.2.2.2.1
      have hA : chA d rs a = (d.drop x.off).take x.siz := by unfold chA; rw [hxa]; rfl
      have hdm : l.drop m = a :: l.drop (m + 1) := by
        obtain ⟨h1, h2⟩ := List.getElem?_eq_some_iff.mp ha
        rw [List.drop_eq_getElem_cons h1, h2]
      show G X D _ (0, 0) _ 51 [(0, some (.ref (aRep D r))), (1, some (.int (nI n))), (4, some (.int (nI m)))] []
      refine g_iload (pc := 51) C d_Rep_build_51 rfl ?_
      refine g_if_lt (pc := 53) (tgt := 139) C d_Rep_build_53 (by decide) (fun h53 => ?_) (fun h53 => ?_)
      · first | exact absurd h53 (nI_pos (by omega)) | exact absurd (nI_pos (by omega)) h53
      · skip
        refine g_aload_n (pc := 56) (i := 0) C d_Rep_build_56 rfl rfl ?_
        refine gf_Rep_records (pc := 57) C (by omega) fl_Rep_22 d_Rep_build_57 ?_
        refine g_aload_n (pc := 60) (i := 0) C d_Rep_build_60 rfl rfl ?_
        refine gf_Rep_chain (pc := 61) C (by omega) fl_Rep_44 d_Rep_build_61 ?_
        refine g_iload (pc := 64) C d_Rep_build_64 rfl ?_
        refine ga_chn (pc := 66) C (by omega) (vp_in_nI (by omega) (by decide)) d_Rep_build_66 ?_
        rw [nI_clamp (by omega), hc m a ha]
        refine ga_rcs (pc := 67) C (by omega) (by omega) d_Rep_build_67 ?_
        refine g_astore (pc := 68) C d_Rep_build_68 (by decide) rfl ?_
        refine g_aload (pc := 70) C d_Rep_build_70 rfl ?_
        refine gf_Rec_base (pc := 72) C (by omega) fl_Rep_186 d_Rep_build_72 ?_
        rw [hrec.2.2.2.1]
        refine g_iconst (pc := 75) C d_Rep_build_75 ic_m1 ?_
        refine g_icmp_ne (pc := 76) (tgt := 103) C d_Rep_build_76 (by decide) (fun h76 => ?_) (fun h76 => ?_)
        · have hbn : ¬ x.bas = none := fun e => h76 (by rw [e]; rfl)
          obtain ⟨t, ht, hrow⟩ : ∃ t, evl d rs (l.drop (m + 1)) = some t ∧ RowIs c1 (2 + 4 * r) t := by
            rcases hI with ⟨h, -⟩ | ⟨-, h⟩
            · exact absurd (by rw [hba, List.getElem?_eq_none (by omega)]) hbn
            · exact h
          have hml : m + 1 < l.length := by
            rcases hI with ⟨h, -⟩ | ⟨h, -⟩
            · exact absurd (by rw [hba, List.getElem?_eq_none (by omega)]) hbn
            · exact h
          have hne : l.drop (m + 1) ≠ [] := fun e => by
            have := congrArg List.length e
            rw [List.length_drop] at this
            simp at this
            omega
          have hev : evl d rs (l.drop m) = dif ((d.drop x.off).take x.siz) t := by rw [hdm, evl_c hne, ht, hA]; rfl
          refine g_aload_n (pc := 103) (i := 0) C d_Rep_build_103 rfl rfl ?_
          refine gf_Rep_data (pc := 104) C (by omega) fl_Rep_14 d_Rep_build_104 ?_
          refine g_aload (pc := 107) C d_Rep_build_107 rfl ?_
          refine gf_Rec_offset (pc := 109) C (by omega) fl_Rep_189 d_Rep_build_109 ?_
          rw [hrec.1]
          refine g_aload (pc := 112) C d_Rep_build_112 rfl ?_
          refine gf_Rec_size (pc := 114) C (by omega) fl_Rep_183 d_Rep_build_114 ?_
          rw [hrec.2.1]
          refine g_aload_n (pc := 117) (i := 0) C d_Rep_build_117 rfl rfl ?_
          refine gf_Rep_built (pc := 118) C (by omega) fl_Rep_41 d_Rep_build_118 ?_
          refine g_callSp (pc := 121) (As := [_, _, _, _]) C my_Cod_readDifference ms_Cod_readDifference cl_Rep_196 d_Rep_build_121 (Nat.le_of_ble_eq_true rfl) rfl (Nat.le_of_ble_eq_true rfl) ⟨Nat.zero_le _, Nat.zero_le _⟩ (x_Cod_readDifference _ hD (by omega) (by omega) (by omega) hd1 hrow yd (by omega) q2) (fun r121 u121 hp121 => ?_)
          obtain ⟨c3, rfl, s3, hp3⟩ := hp121
          have s3u : Sm (Bp r) c1 c3 := s3.up (fun t q => Or.inr q)
          have kk : ∀ (c3 : Cs) (v : Int32), Sm (Rw (2 + 4 * r)) c1 c3 → ((∃ t, evl d rs (l.drop m) = some t ∧ v = 1 ∧ RowIs c3 (2 + 4 * r) t) ∨ (evl d rs (l.drop m) = none ∧ v = 0 ∧ ∃ x, RowIs c3 (2 + 4 * r) x)) → G X D (Qp X D (fun a u => ∃ c2, u = ((c2, τ) : Sg) ∧ Sm (Bp r) c c2 ∧ ((∃ t, built d rs n = some t ∧ a = some (.int 1) ∧ RowIs c2 (2 + 4 * r) t) ∨ (built d rs n = none ∧ a = some (.int 0) ∧ ∃ y, RowIs c2 (2 + 4 * r) y)))) (0, 0) ((c3, τ) : Sg) 124 [(0, some (.ref (aRep D r))), (1, some (.int (nI n))), (4, some (.int (nI m)))] [.int v] := k124 m ih hm hc hs
          rcases hp3 with ⟨t3, e1, rfl, r3⟩ | ⟨e1, rfl, y3⟩
          · exact G.lf (kk c3 1 s3 (Or.inl ⟨t3, hev.trans e1, rfl, r3⟩)) (sb rfl (sb rfl (sb rfl sn)))
          · exact G.lf (kk c3 0 s3 (Or.inr ⟨hev.trans e1, rfl, y3⟩)) (sb rfl (sb rfl (sb rfl sn)))
        · have hbn : x.bas = none := by
            cases hbb : x.bas with
            | none => rfl
            | some b => rw [hbb] at h76; exact absurd h76 (nI_m1 (by have := hwa.1 b hbb; omega))
          have hrow : RowIs c1 (2 + 4 * r) [] := by
            rcases hI with ⟨-, h⟩ | ⟨h, -⟩
            · exact h
            · rw [hbn, List.getElem?_eq_getElem h] at hba
              cases hba
          have hml : m + 1 = l.length := by
            rcases hI with ⟨h, -⟩ | ⟨h, -⟩
            · exact h
            · rw [hbn, List.getElem?_eq_getElem h] at hba
              cases hba
          have hev : evl d rs (l.drop m) = snap ((d.drop x.off).take x.siz) := by rw [hdm, List.drop_eq_nil_of_le (i := m + 1) (by omega), ← hA]; rfl
          refine g_aload_n (pc := 79) (i := 0) C d_Rep_build_79 rfl rfl ?_
          refine gf_Rep_data (pc := 80) C (by omega) fl_Rep_14 d_Rep_build_80 ?_
          refine g_aload (pc := 83) C d_Rep_build_83 rfl ?_
          refine gf_Rec_offset (pc := 85) C (by omega) fl_Rep_189 d_Rep_build_85 ?_
          rw [hrec.1]
          refine g_aload (pc := 88) C d_Rep_build_88 rfl ?_
          refine gf_Rec_size (pc := 90) C (by omega) fl_Rep_183 d_Rep_build_90 ?_
          rw [hrec.2.1]
          obtain ⟨z, hz⟩ : ∃ z, x.siz = z + 1 := ⟨x.siz - 1, by omega⟩
          rw [hz] at hev ⊢
          refine g_aload_n (pc := 93) (i := 0) C d_Rep_build_93 rfl rfl ?_
          refine gf_Rep_built (pc := 94) C (by omega) fl_Rep_41 d_Rep_build_94 ?_
          refine g_callSp (pc := 97) (As := [_, _, _, _]) C my_Cod_readSnapshot ms_Cod_readSnapshot cl_Rep_192 d_Rep_build_97 (Nat.le_of_ble_eq_true rfl) rfl (Nat.le_of_ble_eq_true rfl) ⟨Nat.zero_le _, Nat.zero_le _⟩ (x_Cod_readSnapshot _ hD (by omega) (by omega) (by omega) hd1 hrow yd (by omega) q2) (fun r97 u97 hp97 => ?_)
          obtain ⟨c3, rfl, s3, hp3⟩ := hp97
          have s3u : Sm (Bp r) c1 c3 := s3.up (fun t q => Or.inr q)
          refine g_goto (pc := 100) (tgt := 124) C d_Rep_build_100 (by decide) ?_
          have kk : ∀ (c3 : Cs) (v : Int32), Sm (Rw (2 + 4 * r)) c1 c3 → ((∃ t, evl d rs (l.drop m) = some t ∧ v = 1 ∧ RowIs c3 (2 + 4 * r) t) ∨ (evl d rs (l.drop m) = none ∧ v = 0 ∧ ∃ x, RowIs c3 (2 + 4 * r) x)) → G X D (Qp X D (fun a u => ∃ c2, u = ((c2, τ) : Sg) ∧ Sm (Bp r) c c2 ∧ ((∃ t, built d rs n = some t ∧ a = some (.int 1) ∧ RowIs c2 (2 + 4 * r) t) ∨ (built d rs n = none ∧ a = some (.int 0) ∧ ∃ y, RowIs c2 (2 + 4 * r) y)))) (0, 0) ((c3, τ) : Sg) 124 [(0, some (.ref (aRep D r))), (1, some (.int (nI n))), (4, some (.int (nI m)))] [.int v] := k124 m ih hm hc hs
          rcases hp3 with ⟨t3, e1, rfl, r3⟩ | ⟨e1, rfl, y3⟩
          · exact G.lf (kk c3 1 s3 (Or.inl ⟨t3, hev.trans e1, rfl, r3⟩)) (sb rfl (sb rfl (sb rfl sn)))
          · exact G.lf (kk c3 0 s3 (Or.inr ⟨hev.trans e1, rfl, y3⟩)) (sb rfl (sb rfl (sb rfl sn)))
  have tail : ∀ (c1 : Cs), (∀ i a, l[i]? = some a → c1.1 (24 + r) i = nI a) → Sm (Ci (24 + r)) c c1 → G X D (Qp X D (fun a u => ∃ c2, u = ((c2, τ) : Sg) ∧ Sm (Bp r) c c2 ∧ ((∃ t, built d rs n = some t ∧ a = some (.int 1) ∧ RowIs c2 (2 + 4 * r) t) ∨ (built d rs n = none ∧ a = some (.int 0) ∧ ∃ y, RowIs c2 (2 + 4 * r) y)))) (0, 0) ((c1, τ) : Sg) 38 [(0, some (.ref (aRep D r))), (1, some (.int (nI n))), (2, some (.int (nI l.length)))] [] := by
    intro c1 hc hs
    have hb1 : RowIs c1 (2 + 4 * r) y := hb.sm hs (by unfold Ci; omega) (by unfold Ci; omega)
    have hb2 : RowIs (cutC c1 (2 + 4 * r) (nI 0)) (2 + 4 * r) [] := hb1.cut (by decide)
    refine g_aload_n (pc := 38) (i := 0) C d_Rep_build_38 rfl rfl ?_
    refine gf_Rep_built (pc := 39) C (by omega) fl_Rep_41 d_Rep_build_39 ?_
    refine g_iconst (pc := 42) C d_Rep_build_42 icn_0 ?_
    refine g_callV0 (pc := 43) (As := [_]) C my_Row_cut mv_Row_cut cl_Rep_71 (is_Row (by omega)) d_Rep_build_43 (Nat.le_of_ble_eq_true rfl) rfl (Nat.le_of_ble_eq_true rfl) ⟨Nat.zero_le _, Nat.zero_le _⟩ (c_Row_cut _ hD (by omega)) ?_
    refine g_iload_n (pc := 46) (i := 2) C d_Rep_build_46 rfl rfl ?_
    refine g_iconst (pc := 47) C d_Rep_build_47 icn_1 ?_
    refine g_isub (pc := 48) C d_Rep_build_48 ?_
    rw [pk_sub hl1]
    refine g_istore (pc := 49) C d_Rep_build_49 (by decide) rfl ?_
    refine G.lf (loop2 l.length _ (Nat.le_refl _) (fun i a h => by rw [(sm_cut (c := c1) (j := 2 + 4 * r) (k := nI 0)).1 _ (by unfold Rw; omega)]; exact hc i a h) ((hs.up (fun t q => Or.inl q)).tr (sm_cut.up (fun t q => Or.inr q))) (Or.inl ⟨rfl, hb2⟩)) (sb rfl (sb rfl (sb ?_ sn)))
    show some (Value.int (nI (l.length - 1))) = some (Value.int (eo (pd l.length)))
    cases l with
    | nil => simp at hl1
    | cons a l => rfl
  have loop1 : ∀ (f k : Nat) (o : Option Nat) (pre : List Nat) (c1 : Cs), f + k = 6 → (∀ m, o = some m → m < rs.length) → chn rs f o ≠ none → pre.length = k → pre ++ cl rs f o = l → (∀ i a, pre[i]? = some a → c1.1 (24 + r) i = nI a) → Sm (Ci (24 + r)) c c1 → G X D (Qp X D (fun a u => ∃ c2, u = ((c2, τ) : Sg) ∧ Sm (Bp r) c c2 ∧ ((∃ t, built d rs n = some t ∧ a = some (.int 1) ∧ RowIs c2 (2 + 4 * r) t) ∨ (built d rs n = none ∧ a = some (.int 0) ∧ ∃ y, RowIs c2 (2 + 4 * r) y)))) (0, 0) ((c1, τ) : Sg) 4 [(0, some (.ref (aRep D r))), (1, some (.int (nI n))), (2, some (.int (nI k))), (3, some (.int (eo o)))] [] := by
    intro f
    induction f with
    | zero =>
      intro k o pre c1 hk ho hco hp he hc hs
      cases o with
      | some m => exact absurd rfl hco
      | none =>
        rw [cl_0, List.append_nil] at he
        subst he
        refine g_iload_n (pc := 4) (i := 3) C d_Rep_build_4 rfl rfl ?_
        refine g_iconst (pc := 5) C d_Rep_build_5 ic_m1 ?_
        refine g_icmp_eq (pc := 6) (tgt := 38) C d_Rep_build_6 (by decide) (fun h6 => ?_) (fun h6 => ?_)
        · skip
          rw [← hp]
          exact G.lf (tail c1 hc hs) (sb rfl (sb rfl (sb rfl sn)))
        · first | exact absurd h6 (rfl) | exact absurd (rfl) h6
    | succ f ih =>
      intro k o pre c1 hk ho hco hp he hc hs
      cases o with
      | none =>
        rw [cl_0, List.append_nil] at he
        subst he
        refine g_iload_n (pc := 4) (i := 3) C d_Rep_build_4 rfl rfl ?_
        refine g_iconst (pc := 5) C d_Rep_build_5 ic_m1 ?_
        refine g_icmp_eq (pc := 6) (tgt := 38) C d_Rep_build_6 (by decide) (fun h6 => ?_) (fun h6 => ?_)
        · skip
          rw [← hp]
          exact G.lf (tail c1 hc hs) (sb rfl (sb rfl (sb rfl sn)))
        · first | exact absurd h6 (rfl) | exact absurd (rfl) h6
      | some m =>
        have hm := ho m rfl
        obtain ⟨x, hxm⟩ : ∃ x, rs[m]? = some x := ⟨_, List.getElem?_eq_getElem hm⟩
        have hx1 : RcX c1 r rs := hx.sm hs (fun t ht => by unfold Ci; omega)
        have hrec := hx1.2 m x hxm
        have hwm := hw m x hxm
        rw [cl_s hxm] at he
        rw [chn_s hxm] at hco
        have hco2 : chn rs f x.bas ≠ none := fun e => hco (by rw [e]; rfl)
        show G X D _ (0, 0) _ 4 [(0, some (.ref (aRep D r))), (1, some (.int (nI n))), (2, some (.int (nI k))), (3, some (.int (nI m)))] []
        refine g_iload_n (pc := 4) (i := 3) C d_Rep_build_4 rfl rfl ?_
        refine g_iconst (pc := 5) C d_Rep_build_5 ic_m1 ?_
        refine g_icmp_eq (pc := 6) (tgt := 38) C d_Rep_build_6 (by decide) (fun h6 => ?_) (fun h6 => ?_)
        · first | exact absurd h6 (nI_m1 (by omega)) | exact absurd (nI_m1 (by omega)) h6
        · skip
          refine g_iload_n (pc := 9) (i := 2) C d_Rep_build_9 rfl rfl ?_
          refine g_bipush (pc := 10) C d_Rep_build_10 bpn_6 ?_
          refine g_icmp_ge (pc := 12) (tgt := 38) C d_Rep_build_12 (by decide) (fun h12 => ?_) (fun h12 => ?_)
          · first | exact absurd h12 (nI_ge (show k < 6 by omega) (by omega)) | exact absurd (nI_ge (show k < 6 by omega) (by omega)) h12
          · skip
            refine g_aload_n (pc := 15) (i := 0) C d_Rep_build_15 rfl rfl ?_
            refine gf_Rep_chain (pc := 16) C (by omega) fl_Rep_44 d_Rep_build_16 ?_
            refine g_iload_n (pc := 19) (i := 2) C d_Rep_build_19 rfl rfl ?_
            refine g_iload_n (pc := 20) (i := 3) C d_Rep_build_20 rfl rfl ?_
            refine gs_chn (pc := 21) C (by omega) (vp_in_nI (by omega) (by decide)) d_Rep_build_21 ?_
            rw [nI_clamp (by omega)]
            refine g_iinc (pc := 22) C d_Rep_build_22 rfl (v := nI (k + 1)) (nI_inc k) rfl ?_
            refine g_aload_n (pc := 25) (i := 0) C d_Rep_build_25 rfl rfl ?_
            refine gf_Rep_records (pc := 26) C (by omega) fl_Rep_22 d_Rep_build_26 ?_
            refine g_iload_n (pc := 29) (i := 3) C d_Rep_build_29 rfl rfl ?_
            refine ga_rcs (pc := 30) C (by omega) (by omega) d_Rep_build_30 ?_
            refine G.sg rfl ?_
            refine gf_Rec_base (pc := 31) C (by omega) fl_Rep_186 d_Rep_build_31 ?_
            rw [wI_1n (by omega), hrec.2.2.2.1]
            refine g_istore_n (pc := 34) (i := 3) C d_Rep_build_34 rfl (by decide) rfl ?_
            refine g_goto (pc := 35) (tgt := 4) C d_Rep_build_35 (by decide) ?_
            refine G.lf (ih (k + 1) x.bas (pre ++ [m]) _ (by omega) (fun q hq => by have := hwm.1 q hq; omega) hco2 (by simp [hp]) (by rw [← he]; simp) (fun i a hi => ?_) (hs.tr sm_c1)) (sb rfl (sb rfl (sb rfl (sb rfl sn))))
            rw [wI_1s]
            by_cases hik : i = k
            · subst hik
              rw [← hp, List.getElem?_append_right (Nat.le_refl _), Nat.sub_self] at hi
              cases hi
              exact pk_us
            · rw [pk_un hik]
              have hi2 : i < (pre ++ [m]).length := (List.getElem?_eq_some_iff.mp hi).1
              rw [List.length_append, hp] at hi2
              rw [List.getElem?_append_left (by simp at hi2; omega)] at hi
              exact hc i a hi
  refine g_iconst (pc := 0) C d_Rep_build_0 icn_0 ?_
  refine g_istore_n (pc := 1) (i := 2) C d_Rep_build_1 rfl (by decide) rfl ?_
  refine g_iload_n (pc := 2) (i := 1) C d_Rep_build_2 rfl rfl ?_
  refine g_istore_n (pc := 3) (i := 3) C d_Rep_build_3 rfl (by decide) rfl ?_
  exact G.lf (loop1 6 0 (some n) [] c (by omega) (fun m e => by cases e; exact hn) hch rfl (by rw [List.nil_append]; exact hl) (fun i a h => by simp at h) Sm.rf) (sb rfl (sb rfl (sb rfl (sb rfl sn))))
end
section
theorem by_unp : ∀ (r t : List Nat), By r → unp r = some t → By t
  | [], t, _, h => by
    cases h
    intro x hx
    cases hx
  | [_], t, _, h => by cases h
  | n :: v :: r, t, hb, h => by
    rw [unp_c] at h
    split at h
    · cases h
    · cases hu : unp r with
      | none => rw [hu] at h; cases h
      | some u =>
        rw [hu] at h
        cases h
        exact (By.rpl (hb v (by simp)) n).app (by_unp r u (fun x hx => hb x (by simp [hx])) hu)
theorem by_snap {ch t : List Nat} (hb : By ch) (h : snap ch = some t) : By t ∧ t.length ≤ 60 := by
  match ch, hb, h with
  | [], _, h => cases h
  | k :: r, hb, h =>
    have hr : By r := fun x hx => hb x (by simp [hx])
    by_cases h1 : k = 117
    · subst h1
      rw [snap_u] at h
      split at h
      · cases h
        exact ⟨hr, by assumption⟩
      · cases h
    · by_cases h2 : k = 120
      · subst h2
        rw [snap_x] at h
        cases hu : unp r with
        | none => rw [hu] at h; cases h
        | some u =>
          rw [hu] at h
          have h : (if u.length ≤ 60 then some u else none) = some t := h
          split at h
          · cases h
            exact ⟨by_unp r _ hr hu, by assumption⟩
          · cases h
      · rw [snap_n r h1 h2] at h
        cases h
theorem by_dif {ch b t : List Nat} (hb : By ch) (hbb : By b) (h : dif ch b = some t) : By t ∧ t.length ≤ 60 := by
  match ch, hb, h with
  | [], _, h => cases h
  | [_], _, h => cases h
  | [_, _], _, h => cases h
  | [_, _, _], _, h => cases h
  | k :: a :: e :: m :: r, hb, h =>
    rw [dif_cons] at h
    split at h
    · rename_i hc
      cases h
      refine ⟨((hbb.take a).app (fun x hx => hb x (by simp [hx]))).app (hbb.drop e), ?_⟩
      rw [List.length_append, List.length_append, List.length_take, List.length_drop]
      omega
    · cases h
theorem by_txt {d : List Nat} {rs : List Rc} (hd : By d) : ∀ (f n : Nat) (t : List Nat), txt d rs f n = some t → By t ∧ t.length ≤ 60
  | 0, n, t, h => by cases h
  | f + 1, n, t, h => by
    unfold txt at h
    cases hx : rs[n]? with
    | none => rw [hx] at h; cases h
    | some x =>
      simp only [hx] at h
      have hc : By (chnk d x) := (hd.drop _).take _
      cases hb : x.bas with
      | none =>
        simp only [hb] at h
        exact by_snap hc h
      | some b =>
        simp only [hb] at h
        cases ht : txt d rs f b with
        | none => rw [ht] at h; cases h
        | some u =>
          rw [ht] at h
          exact by_dif hc (by_txt hd f b u ht).1 h
theorem by_built {d : List Nat} {rs : List Rc} {n : Nat} {t : List Nat} (hd : By d) (h : built d rs n = some t) : By t ∧ t.length ≤ 60 := by
  cases ht : txt d rs 6 n with
  | none => rw [built_none ht] at h; cases h
  | some u =>
    unfold built at h
    rw [ht] at h
    cases hx : rs[n]? with
    | none => rw [hx] at h; cases h
    | some x =>
      rw [hx] at h
      have h : (if u.length = x.len ∧ nodeOf rs x.pa x.pb u = x.nod then some u else none) = some t := h
      split at h
      · cases h
        exact by_txt hd 6 n _ ht
      · cases h
/-- the scratch cells of a repository -/
def Sc (r : Nat) : Nat → Prop := fun t => t = 24 + r ∨ Rw (2 + 4 * r) t ∨ Rw (3 + 4 * r) t ∨ Rw (4 + 4 * r) t
theorem cand_n {d : List Nat} {rs : List Rc} {t : List Nat} {best : List Nat × Option Nat} {n : Nat} (h : built d rs n = none) : cand d rs t best (some n) = best := by
  unfold cand
  simp only [h]
theorem cand_s {d : List Nat} {rs : List Rc} {t b : List Nat} {best : List Nat × Option Nat} {n : Nat} (h : built d rs n = some b) : cand d rs t best (some n) = if (encD b t).length < best.1.length ∧ fits6 rs n (encD b t).length t.length = true then (encD b t, some n) else best := by
  conv => lhs; unfold cand
  simp only [h]
theorem RowIs.bec {c : Cs} {i j : Nat} {ys xs : List Nat} (h : RowIs c i ys) (g : RowIs c j xs) (hij : i ≠ j) (hi : i < 9) (hj : j < 9) (hl : ys.length ≤ rln j) : RowIs (adpC (wI c (1 + j) 0 (nI 0)) i j 0 ys.length 0) j ys := by
  have s1 : Sm (Rw j) c (wI c (1 + j) 0 (nI 0)) := Sm.wI (Or.inl rfl)
  have g0 : RowIs (wI c (1 + j) 0 (nI 0)) j [] := ⟨by rw [wI_1s]; exact pk_us, Nat.zero_le _, fun k hk => by simp at hk⟩
  have h1 := h.sm s1 (RowIs.ne hij hi hj).1 (RowIs.ne hij hi hj).2
  have h2 := g0.adp (f := 0) (k := ys.length) h1 hj hi (by simpa using hl) (by omega)
  simpa using h2
theorem sm_bec {c : Cs} {i j n : Nat} : Sm (Rw j) c (adpC (wI c (1 + j) 0 (nI 0)) i j 0 n 0) := (Sm.wI (Or.inl rfl)).tr sm_adp
theorem encD_len {b t : List Nat} : (encD b t).length ≤ 4 + t.length := by
  unfold encD
  simp only [List.length_cons, List.length_take, List.length_drop]
  omega
theorem lastR_v (rs : List Rc) : nI rs.length - nI 1 = eo (lastR rs) := by
  unfold lastR
  by_cases h : rs.length = 0
  · rw [if_pos h, h]
    decide +kernel
  · rw [if_neg h, pk_sub (by omega)]
    rfl
end
section
def cw (d : List Nat) (rs : List Rc) : Nat → Nat
  | 0 => 0
  | n + 1 => cw d rs n + (if built d rs n = none then 1 else 0)
theorem cw_le (d : List Nat) (rs : List Rc) : ∀ n, cw d rs n ≤ n
  | 0 => Nat.le_refl _
  | n + 1 => by
    have := cw_le d rs n
    unfold cw
    split <;> omega
set_option maxRecDepth 100000 in
set_option maxHeartbeats 4000000 in
theorem x_Rep_countWrong (l : Launch) {D : Dt} (hD : OkD D) {r : Nat} {c : Cs} {τ : Cs × (Nat → Int64)} {rs : List Rc} {d y : List Nat} (hr : r < 2) (hct : c.1 (20 + r) 0 = nI rs.length) (hx : RcX c r rs) (hd : RowIs c (1 + 4 * r) d) (yd : By d) (hw : ∀ n x, rs[n]? = some x → WfX d.length rs n x) (hb : RowIs c (2 + 4 * r) y) : Cp l D y_Rep_countWrong b_Rep_countWrong 3 (some .int) 6 [.ref (aRep D r)] ((c, τ) : Sg) (fun a u => ∃ c2, u = ((c2, τ) : Sg) ∧ a = some (.int (nI (cw d rs rs.length))) ∧ Sm (Bp r) c c2 ∧ ∃ y, RowIs c2 (2 + 4 * r) y) := by
  have h24 := hx.1
  have nb : ∀ {c1 : Cs}, Sm (Bp r) c c1 → RowIs c1 (1 + 4 * r) d ∧ RcX c1 r rs ∧ c1.1 (20 + r) 0 = nI rs.length := fun {c1} hs => ⟨hd.sm hs (by unfold Bp Rw; omega) (by unfold Bp Rw; omega), hx.sm hs (fun t ht => by unfold Bp Rw; omega), by rw [hs.1 _ (by unfold Bp Rw; omega)]; exact hct⟩
  refine Cp.of hD (by decide) (Nat.le_of_ble_eq_true rfl) [(0, some (.ref (aRep D r)))] rfl (fun X hX C => ?_)
  subst hX
  have loop : ∀ (m n : Nat) (c1 : Cs), n + m = rs.length → Sm (Bp r) c c1 → (∃ y, RowIs c1 (2 + 4 * r) y) → G X D (Qp X D (fun a u => ∃ c2, u = ((c2, τ) : Sg) ∧ a = some (.int (nI (cw d rs rs.length))) ∧ Sm (Bp r) c c2 ∧ ∃ y, RowIs c2 (2 + 4 * r) y)) (0, 0) ((c1, τ) : Sg) 4 [(0, some (.ref (aRep D r))), (1, some (.int (nI (cw d rs n)))), (2, some (.int (nI n)))] [] := by
    intro m
    induction m with
    | zero =>
      intro n c1 hn hs hy
      obtain ⟨hd1, hx1, hc1⟩ := nb hs
      have hnn : n = rs.length := by omega
      subst hnn
      refine g_iload_n (pc := 4) (i := 2) C d_Rep_countWrong_4 rfl rfl ?_
      refine g_aload_n (pc := 5) (i := 0) C d_Rep_countWrong_5 rfl rfl ?_
      refine gf_Rep_recordCount (pc := 6) C (by omega) fl_Rep_27 d_Rep_countWrong_6 ?_
      rw [hc1]
      refine g_icmp_ge (pc := 9) (tgt := 29) C d_Rep_countWrong_9 (by decide) (fun h9 => ?_) (fun h9 => ?_)
      · skip
        refine g_iload_n (pc := 29) (i := 1) C d_Rep_countWrong_29 rfl rfl ?_
        refine g_iret (pc := 30) C d_Rep_countWrong_30 ?_
        exact ⟨c1, rfl, rfl, hs, hy⟩
      · first | exact absurd h9 (nI_le (Nat.le_refl _) (by omega)) | exact absurd (nI_le (Nat.le_refl _) (by omega)) h9
    | succ m ih =>
      intro n c1 hn hs hy
      obtain ⟨hd1, hx1, hc1⟩ := nb hs
      obtain ⟨y1, hy1⟩ := hy
      refine g_iload_n (pc := 4) (i := 2) C d_Rep_countWrong_4 rfl rfl ?_
      refine g_aload_n (pc := 5) (i := 0) C d_Rep_countWrong_5 rfl rfl ?_
      refine gf_Rep_recordCount (pc := 6) C (by omega) fl_Rep_27 d_Rep_countWrong_6 ?_
      rw [hc1]
      refine g_icmp_ge (pc := 9) (tgt := 29) C d_Rep_countWrong_9 (by decide) (fun h9 => ?_) (fun h9 => ?_)
      · first | exact absurd h9 (nI_ge (show n < rs.length by omega) (by omega)) | exact absurd (nI_ge (show n < rs.length by omega) (by omega)) h9
      · skip
        refine g_aload_n (pc := 12) (i := 0) C d_Rep_countWrong_12 rfl rfl ?_
        refine g_iload_n (pc := 13) (i := 2) C d_Rep_countWrong_13 rfl rfl ?_
        refine g_callVp (pc := 14) (As := [_]) C my_Rep_build mv_Rep_build cl_Rep_92 (is_Rep (by omega)) d_Rep_countWrong_14 (Nat.le_of_ble_eq_true rfl) rfl (Nat.le_of_ble_eq_true rfl) ⟨Nat.zero_le _, Nat.zero_le _⟩ (x_Rep_build _ hD (by omega) hx1 hd1 yd hw (show n < rs.length by omega) hy1) (fun r14 u14 hp14 => ?_)
        obtain ⟨c2, rfl, s2, hp2⟩ := hp14
        rcases hp2 with ⟨t, e1, rfl, r2⟩ | ⟨e1, rfl, y2⟩
        · have ecw : cw d rs (n + 1) = cw d rs n := by
            conv => lhs; unfold cw
            rw [e1]
            simp
          refine g_if_ne (pc := 17) (tgt := 23) C d_Rep_countWrong_17 (by decide) (fun h17 => ?_) (fun h17 => ?_)
          · refine g_iinc (pc := 23) C d_Rep_countWrong_23 rfl (v := nI (n + 1)) (nI_inc n) rfl ?_
            refine g_goto (pc := 26) (tgt := 4) C d_Rep_countWrong_26 (by decide) ?_
            exact G.lf (ih (n + 1) c2 (by omega) (hs.tr s2) ⟨t, r2⟩) (sb rfl (sb (by rw [ecw]; rfl) (sb rfl sn)))
          · exact absurd h17 (by decide)
        · have ecw : cw d rs (n + 1) = cw d rs n + 1 := by
            conv => lhs; unfold cw
            rw [e1]
            simp
          refine g_if_ne (pc := 17) (tgt := 23) C d_Rep_countWrong_17 (by decide) (fun h17 => ?_) (fun h17 => ?_)
          · exact absurd rfl h17
          · refine g_iinc (pc := 20) C d_Rep_countWrong_20 rfl (v := nI (cw d rs n + 1)) (nI_inc _) rfl ?_
            refine g_iinc (pc := 23) C d_Rep_countWrong_23 rfl (v := nI (n + 1)) (nI_inc n) rfl ?_
            refine g_goto (pc := 26) (tgt := 4) C d_Rep_countWrong_26 (by decide) ?_
            exact G.lf (ih (n + 1) c2 (by omega) (hs.tr s2) y2) (sb rfl (sb (by rw [ecw]; rfl) (sb rfl sn)))
  refine g_iconst (pc := 0) C d_Rep_countWrong_0 icn_0 ?_
  refine g_istore_n (pc := 1) (i := 1) C d_Rep_countWrong_1 rfl (by decide) rfl ?_
  refine g_iconst (pc := 2) C d_Rep_countWrong_2 icn_0 ?_
  refine g_istore_n (pc := 3) (i := 2) C d_Rep_countWrong_3 rfl (by decide) rfl ?_
  exact G.lf (loop rs.length 0 c (by omega) Sm.rf ⟨y, hb⟩) (sb rfl (sb rfl (sb rfl sn)))
set_option maxRecDepth 100000 in
set_option maxHeartbeats 4000000 in
theorem x_Rep_chooseChunk (l : Launch) {D : Dt} (hD : OkD D) {r j : Nat} {c : Cs} {τ : Cs × (Nat → Int64)} {rs : List Rc} {d t : List Nat} {q1 q2 : Option Nat} (hr : r < 2) (hj : j < 9) (hj2 : j ≠ 2 + 4 * r ∧ j ≠ 3 + 4 * r ∧ j ≠ 4 + 4 * r) (hct : c.1 (20 + r) 0 = nI rs.length) (hx : RcX c r rs) (hd : RowIs c (1 + 4 * r) d) (yd : By d) (hw : ∀ n x, rs[n]? = some x → WfX d.length rs n x) (h1 : ∀ n, q1 = some n → n < rs.length) (h2 : ∀ n, q2 = some n → n < rs.length) (ht : RowIs c j t) (yt : By t) (tl : t.length ≤ 60) (k2 : ∃ y, RowIs c (2 + 4 * r) y) (k3 : ∃ y, RowIs c (3 + 4 * r) y) (k4 : ∃ y, RowIs c (4 + 4 * r) y) : Cp l D y_Rep_chooseChunk b_Rep_chooseChunk 7 (some .int) 6 [.int (eo q2), .int (eo q1), .ref (aRow D j), .ref (aRep D r)] ((c, τ) : Sg) (fun a u => ∃ c2, u = ((c2, τ) : Sg) ∧ a = some (.int (eo (choose d rs q1 q2 t).2)) ∧ RowIs c2 (3 + 4 * r) (choose d rs q1 q2 t).1 ∧ (∃ y, RowIs c2 (2 + 4 * r) y) ∧ (∃ y, RowIs c2 (4 + 4 * r) y) ∧ Sm (Sc r) c c2) := by
  have h24 := hx.1
  have l2 := rl_2 hr
  have l3 := rl_3 hr
  have l4 := rl_4 hr
  have nb : ∀ {c1 : Cs}, Sm (Sc r) c c1 → RowIs c1 (1 + 4 * r) d ∧ RcX c1 r rs ∧ c1.1 (20 + r) 0 = nI rs.length ∧ RowIs c1 j t := fun {c1} hs => ⟨hd.sm hs (by unfold Sc Rw; omega) (by unfold Sc Rw; omega), hx.sm hs (fun t ht => by unfold Sc Rw; omega), by rw [hs.1 _ (by unfold Sc Rw; omega)]; exact hct, ht.sm hs (by unfold Sc Rw; omega) (by unfold Sc Rw; omega)⟩
  have u0 : ∀ {c1 c2 : Cs}, Sm (Bp r) c1 c2 → Sm (Sc r) c1 c2 := fun h => h.up (fun t q => q.elim Or.inl (fun q => Or.inr (Or.inl q)))
  have u3 : ∀ {c1 c2 : Cs}, Sm (Rw (3 + 4 * r)) c1 c2 → Sm (Sc r) c1 c2 := fun h => h.up (fun t q => Or.inr (Or.inr (Or.inl q)))
  have u4 : ∀ {c1 c2 : Cs}, Sm (Rw (4 + 4 * r)) c1 c2 → Sm (Sc r) c1 c2 := fun h => h.up (fun t q => Or.inr (Or.inr (Or.inr q)))
  obtain ⟨y2, k2⟩ := k2
  obtain ⟨y3, k3⟩ := k3
  obtain ⟨y4, k4⟩ := k4
  refine Cp.of hD (by decide) (Nat.le_of_ble_eq_true rfl) [(0, some (.ref (aRep D r))), (1, some (.ref (aRow D j))), (2, some (.int (eo q1))), (3, some (.int (eo q2)))] rfl (fun X hX C => ?_)
  subst hX
  have step : ∀ (k : Nat) (best : List Nat × Option Nat) (c1 : Cs) (o : Option Nat), (∀ n, o = some n → n < rs.length) → RowIs c1 (3 + 4 * r) best.1 → best.1.length ≤ 121 → (∃ y, RowIs c1 (2 + 4 * r) y) → (∃ y, RowIs c1 (4 + 4 * r) y) → Sm (Sc r) c c1 → (∀ (c2 : Cs), RowIs c2 (3 + 4 * r) (cand d rs t best o).1 → (cand d rs t best o).1.length ≤ 121 → (∃ y, RowIs c2 (2 + 4 * r) y) → (∃ y, RowIs c2 (4 + 4 * r) y) → Sm (Sc r) c c2 → G X D (Qp X D (fun a u => ∃ c2, u = ((c2, τ) : Sg) ∧ a = some (.int (eo (choose d rs q1 q2 t).2)) ∧ RowIs c2 (3 + 4 * r) (choose d rs q1 q2 t).1 ∧ (∃ y, RowIs c2 (2 + 4 * r) y) ∧ (∃ y, RowIs c2 (4 + 4 * r) y) ∧ Sm (Sc r) c c2)) (0, 0) ((c2, τ) : Sg) 155 [(0, some (.ref (aRep D r))), (1, some (.ref (aRow D j))), (2, some (.int (eo q1))), (3, some (.int (eo q2))), (4, some (.int (eo (cand d rs t best o).2))), (5, some (.int (nI k)))] []) → G X D (Qp X D (fun a u => ∃ c2, u = ((c2, τ) : Sg) ∧ a = some (.int (eo (choose d rs q1 q2 t).2)) ∧ RowIs c2 (3 + 4 * r) (choose d rs q1 q2 t).1 ∧ (∃ y, RowIs c2 (2 + 4 * r) y) ∧ (∃ y, RowIs c2 (4 + 4 * r) y) ∧ Sm (Sc r) c c2)) (0, 0) ((c1, τ) : Sg) 81 [(0, some (.ref (aRep D r))), (1, some (.ref (aRow D j))), (2, some (.int (eo q1))), (3, some (.int (eo q2))), (4, some (.int (eo best.2))), (5, some (.int (nI k)))] [.int (eo o)] := by
    intro k best c1 o ho b3 bl b2 b4 hs kk
    obtain ⟨hd1, hx1, hc1, ht1⟩ := nb hs
    cases o with
    | none =>
      refine g_istore (pc := 81) C d_Rep_chooseChunk_81 (by decide) rfl ?_
      refine g_iload (pc := 83) C d_Rep_chooseChunk_83 rfl ?_
      refine g_iconst (pc := 85) C d_Rep_chooseChunk_85 ic_m1 ?_
      refine g_icmp_eq (pc := 86) (tgt := 155) C d_Rep_chooseChunk_86 (by decide) (fun h86 => ?_) (fun h86 => ?_)
      · skip
        exact G.lf (kk c1 b3 bl b2 b4 hs) (sb rfl (sb rfl (sb rfl (sb rfl (sb rfl (sb rfl sn))))))
      · first | exact absurd h86 (rfl) | exact absurd (rfl) h86
    | some n =>
      have hn := ho n rfl
      obtain ⟨z2, b2⟩ := b2
      obtain ⟨z4, b4⟩ := b4
      show G X D _ (0, 0) _ 81 [(0, some (.ref (aRep D r))), (1, some (.ref (aRow D j))), (2, some (.int (eo q1))), (3, some (.int (eo q2))), (4, some (.int (eo best.2))), (5, some (.int (nI k)))] [.int (nI n)]
      refine g_istore (pc := 81) C d_Rep_chooseChunk_81 (by decide) rfl ?_
      refine g_iload (pc := 83) C d_Rep_chooseChunk_83 rfl ?_
      refine g_iconst (pc := 85) C d_Rep_chooseChunk_85 ic_m1 ?_
      refine g_icmp_eq (pc := 86) (tgt := 155) C d_Rep_chooseChunk_86 (by decide) (fun h86 => ?_) (fun h86 => ?_)
      · first | exact absurd h86 (nI_m1 (by omega)) | exact absurd (nI_m1 (by omega)) h86
      · skip
        refine g_aload_n (pc := 89) (i := 0) C d_Rep_chooseChunk_89 rfl rfl ?_
        refine g_iload (pc := 90) C d_Rep_chooseChunk_90 rfl ?_
        refine g_callVp (pc := 92) (As := [_]) C my_Rep_build mv_Rep_build cl_Rep_92 (is_Rep (by omega)) d_Rep_chooseChunk_92 (Nat.le_of_ble_eq_true rfl) rfl (Nat.le_of_ble_eq_true rfl) ⟨Nat.zero_le _, Nat.zero_le _⟩ (x_Rep_build _ hD (by omega) hx1 hd1 yd hw hn b2) (fun r92 u92 hp92 => ?_)
        obtain ⟨c2, rfl, s2, hp2⟩ := hp92
        have b32 : RowIs c2 (3 + 4 * r) best.1 := b3.sm s2 (by unfold Bp Rw; omega) (by unfold Bp Rw; omega)
        have b42 : RowIs c2 (4 + 4 * r) z4 := b4.sm s2 (by unfold Bp Rw; omega) (by unfold Bp Rw; omega)
        have hs2 := hs.tr (u0 s2)
        obtain ⟨hd2, hx2, hc2, ht2⟩ := nb hs2
        rcases hp2 with ⟨b, e1, rfl, r2⟩ | ⟨e1, rfl, y22⟩
        rotate_left
        · refine g_if_eq (pc := 95) (tgt := 155) C d_Rep_chooseChunk_95 (by decide) (fun h95 => ?_) (fun h95 => ?_)
          · rw [cand_n e1] at kk
            exact G.lf (kk c2 b32 bl y22 ⟨_, b42⟩ hs2) (sb rfl (sb rfl (sb rfl (sb rfl (sb rfl (sb rfl sn))))))
          · exact absurd rfl h95
        have kb := by_built yd e1
        rw [cand_s e1] at kk
        refine g_if_eq (pc := 95) (tgt := 155) C d_Rep_chooseChunk_95 (by decide) (fun h95 => ?_) (fun h95 => ?_)
        · first | exact absurd h95 (by decide) | exact absurd (by decide) h95
        · skip
          refine g_aload_n (pc := 98) (i := 0) C d_Rep_chooseChunk_98 rfl rfl ?_
          refine gf_Rep_built (pc := 99) C (by omega) fl_Rep_41 d_Rep_chooseChunk_99 ?_
          refine g_aload_n (pc := 102) (i := 1) C d_Rep_chooseChunk_102 rfl rfl ?_
          refine g_aload_n (pc := 103) (i := 0) C d_Rep_chooseChunk_103 rfl rfl ?_
          refine gf_Rep_trial (pc := 104) C (by omega) fl_Rep_51 d_Rep_chooseChunk_104 ?_
          refine g_callSp (pc := 107) (As := [_, _, _]) C my_Cod_writeDifference ms_Cod_writeDifference cl_Rep_175 d_Rep_chooseChunk_107 (Nat.le_of_ble_eq_true rfl) rfl (Nat.le_of_ble_eq_true rfl) ⟨Nat.zero_le _, Nat.zero_le _⟩ (x_Cod_writeDifference _ hD (by omega) (by omega) (by omega) (by omega) (by omega) r2 ht2 b42 kb.1 yt tl l4) (fun r107 u107 hp107 => ?_)
          obtain ⟨c3, rfl, rfl, r3, s3⟩ := hp107
          have b33 : RowIs c3 (3 + 4 * r) best.1 := b32.sm s3 (by unfold Rw; omega) (by unfold Rw; omega)
          have b23 : RowIs c3 (2 + 4 * r) b := r2.sm s3 (by unfold Rw; omega) (by unfold Rw; omega)
          have hs3 := hs2.tr (u4 s3)
          obtain ⟨hd3, hx3, hc3, ht3⟩ := nb hs3
          have el := encD_len (b := b) (t := t)
          refine g_aload_n (pc := 110) (i := 0) C d_Rep_chooseChunk_110 rfl rfl ?_
          refine gf_Rep_trial (pc := 111) C (by omega) fl_Rep_51 d_Rep_chooseChunk_111 ?_
          refine gf_Row_length (pc := 114) C (by omega) fl_Rep_62 d_Rep_chooseChunk_114 ?_
          rw [r3.1]
          refine g_aload_n (pc := 117) (i := 0) C d_Rep_chooseChunk_117 rfl rfl ?_
          refine gf_Rep_chunk (pc := 118) C (by omega) fl_Rep_48 d_Rep_chooseChunk_118 ?_
          refine gf_Row_length (pc := 121) C (by omega) fl_Rep_62 d_Rep_chooseChunk_121 ?_
          rw [b33.1]
          refine g_icmp_ge (pc := 124) (tgt := 155) C d_Rep_chooseChunk_124 (by decide) (fun h124 => ?_) (fun h124 => ?_)
          · have hq : ¬ ((encD b t).length < best.1.length ∧ fits6 rs n (encD b t).length t.length = true) := fun q => absurd h124 (nI_ge q.1 (by omega))
            rw [if_neg hq] at kk
            first
              | exact G.lf (kk c3 b33 bl ⟨_, b23⟩ ⟨_, r3⟩ hs3) (sb rfl (sb rfl (sb rfl (sb rfl (sb rfl (sb rfl sn))))))
              | exact G.lf (kk _ (r3.bec b33 (by omega) (by omega) (by omega) (by omega)) (show (encD b t).length ≤ 121 by omega) ⟨_, b23.sm sm_bec (by unfold Rw; omega) (by unfold Rw; omega)⟩ ⟨_, r3.sm sm_bec (by unfold Rw; omega) (by unfold Rw; omega)⟩ (hs3.tr (u3 sm_bec))) (sb rfl (sb rfl (sb rfl (sb rfl (sb rfl (sb rfl sn))))))
          · have hq1 : (encD b t).length < best.1.length := Nat.not_le.mp fun q => h124 (nI_le q (by omega))
            refine g_aload_n (pc := 127) (i := 0) C d_Rep_chooseChunk_127 rfl rfl ?_
            refine g_iload (pc := 128) C d_Rep_chooseChunk_128 rfl ?_
            refine g_aload_n (pc := 130) (i := 1) C d_Rep_chooseChunk_130 rfl rfl ?_
            refine gf_Row_length (pc := 131) C (by omega) fl_Rep_62 d_Rep_chooseChunk_131 ?_
            rw [ht3.1]
            refine g_callV1 (pc := 134) (As := [_, _]) C my_Rep_chainFits mv_Rep_chainFits cl_Rep_179 (is_Rep (by omega)) d_Rep_chooseChunk_134 (Nat.le_of_ble_eq_true rfl) rfl (Nat.le_of_ble_eq_true rfl) ⟨Nat.zero_le _, Nat.zero_le _⟩ (c_Rep_chainFits _ hD (by omega) hx3 hw r3 (by omega) (by omega)) ?_
            refine g_if_eq (pc := 137) (tgt := 155) C d_Rep_chooseChunk_137 (by decide) (fun h137 => ?_) (fun h137 => ?_)
            · have hq : ¬ ((encD b t).length < best.1.length ∧ fits6 rs n (encD b t).length t.length = true) := fun q => b1_0 h137 q.2
              rw [if_neg hq] at kk
              first
                | exact G.lf (kk c3 b33 bl ⟨_, b23⟩ ⟨_, r3⟩ hs3) (sb rfl (sb rfl (sb rfl (sb rfl (sb rfl (sb rfl sn))))))
                | exact G.lf (kk _ (r3.bec b33 (by omega) (by omega) (by omega) (by omega)) (show (encD b t).length ≤ 121 by omega) ⟨_, b23.sm sm_bec (by unfold Rw; omega) (by unfold Rw; omega)⟩ ⟨_, r3.sm sm_bec (by unfold Rw; omega) (by unfold Rw; omega)⟩ (hs3.tr (u3 sm_bec))) (sb rfl (sb rfl (sb rfl (sb rfl (sb rfl (sb rfl sn))))))
            · rw [if_pos ⟨hq1, b1_1 h137⟩] at kk
              refine g_aload_n (pc := 140) (i := 0) C d_Rep_chooseChunk_140 rfl rfl ?_
              refine gf_Rep_chunk (pc := 141) C (by omega) fl_Rep_48 d_Rep_chooseChunk_141 ?_
              refine g_aload_n (pc := 144) (i := 0) C d_Rep_chooseChunk_144 rfl rfl ?_
              refine gf_Rep_trial (pc := 145) C (by omega) fl_Rep_51 d_Rep_chooseChunk_145 ?_
              refine g_callV0 (pc := 148) (As := [_]) C my_Row_become mv_Row_become cl_Rep_171 (is_Row (by omega)) d_Rep_chooseChunk_148 (Nat.le_of_ble_eq_true rfl) rfl (Nat.le_of_ble_eq_true rfl) ⟨Nat.zero_le _, Nat.zero_le _⟩ (c_Row_become _ hD (by omega) (by omega) (by omega) r3.1 r3.2.1 (by omega)) ?_
              refine g_iload (pc := 151) C d_Rep_chooseChunk_151 rfl ?_
              refine g_istore (pc := 153) C d_Rep_chooseChunk_153 (by decide) rfl ?_
              first
                | exact G.lf (kk c3 b33 bl ⟨_, b23⟩ ⟨_, r3⟩ hs3) (sb rfl (sb rfl (sb rfl (sb rfl (sb rfl (sb rfl sn))))))
                | exact G.lf (kk _ (r3.bec b33 (by omega) (by omega) (by omega) (by omega)) (show (encD b t).length ≤ 121 by omega) ⟨_, b23.sm sm_bec (by unfold Rw; omega) (by unfold Rw; omega)⟩ ⟨_, r3.sm sm_bec (by unfold Rw; omega) (by unfold Rw; omega)⟩ (hs3.tr (u3 sm_bec))) (sb rfl (sb rfl (sb rfl (sb rfl (sb rfl (sb rfl sn))))))
  have t3 : ∀ (c1 : Cs) (best : List Nat × Option Nat), best = choose d rs q1 q2 t → RowIs c1 (3 + 4 * r) best.1 → best.1.length ≤ 121 → (∃ y, RowIs c1 (2 + 4 * r) y) → (∃ y, RowIs c1 (4 + 4 * r) y) → Sm (Sc r) c c1 → G X D (Qp X D (fun a u => ∃ c2, u = ((c2, τ) : Sg) ∧ a = some (.int (eo (choose d rs q1 q2 t).2)) ∧ RowIs c2 (3 + 4 * r) (choose d rs q1 q2 t).1 ∧ (∃ y, RowIs c2 (2 + 4 * r) y) ∧ (∃ y, RowIs c2 (4 + 4 * r) y) ∧ Sm (Sc r) c c2)) (0, 0) ((c1, τ) : Sg) 50 [(0, some (.ref (aRep D r))), (1, some (.ref (aRow D j))), (2, some (.int (eo q1))), (3, some (.int (eo q2))), (4, some (.int (eo best.2))), (5, some (.int (nI 3)))] [] := by
    intro c1 best hb b3 bl b2 b4 hs
    refine g_iload (pc := 50) C d_Rep_chooseChunk_50 rfl ?_
    refine g_iconst (pc := 52) C d_Rep_chooseChunk_52 icn_3 ?_
    refine g_icmp_ge (pc := 53) (tgt := 161) C d_Rep_chooseChunk_53 (by decide) (fun h53 => ?_) (fun h53 => ?_)
    · skip
      refine g_iload (pc := 161) C d_Rep_chooseChunk_161 rfl ?_
      refine g_iret (pc := 163) C d_Rep_chooseChunk_163 ?_
      subst hb
      exact ⟨c1, rfl, rfl, b3, b2, b4, hs⟩
    · first | exact absurd h53 (nI_le (by decide) (by decide)) | exact absurd (nI_le (by decide) (by decide)) h53
  have t2 : ∀ (c1 : Cs) (best : List Nat × Option Nat), best = cand d rs t (cand d rs t (encS t, none) q1) q2 → RowIs c1 (3 + 4 * r) best.1 → best.1.length ≤ 121 → (∃ y, RowIs c1 (2 + 4 * r) y) → (∃ y, RowIs c1 (4 + 4 * r) y) → Sm (Sc r) c c1 → G X D (Qp X D (fun a u => ∃ c2, u = ((c2, τ) : Sg) ∧ a = some (.int (eo (choose d rs q1 q2 t).2)) ∧ RowIs c2 (3 + 4 * r) (choose d rs q1 q2 t).1 ∧ (∃ y, RowIs c2 (2 + 4 * r) y) ∧ (∃ y, RowIs c2 (4 + 4 * r) y) ∧ Sm (Sc r) c c2)) (0, 0) ((c1, τ) : Sg) 50 [(0, some (.ref (aRep D r))), (1, some (.ref (aRow D j))), (2, some (.int (eo q1))), (3, some (.int (eo q2))), (4, some (.int (eo best.2))), (5, some (.int (nI 2)))] [] := by
    intro c1 best hb b3 bl b2 b4 hs
    obtain ⟨hd1, hx1, hc1, ht1⟩ := nb hs
    refine g_iload (pc := 50) C d_Rep_chooseChunk_50 rfl ?_
    refine g_iconst (pc := 52) C d_Rep_chooseChunk_52 icn_3 ?_
    refine g_icmp_ge (pc := 53) (tgt := 161) C d_Rep_chooseChunk_53 (by decide) (fun h53 => ?_) (fun h53 => ?_)
    · first | exact absurd h53 (nI_ge (by decide) (by decide)) | exact absurd (nI_ge (by decide) (by decide)) h53
    · skip
      refine g_iload (pc := 56) C d_Rep_chooseChunk_56 rfl ?_
      refine g_if_ne (pc := 58) (tgt := 65) C d_Rep_chooseChunk_58 (by decide) (fun h58 => ?_) (fun h58 => ?_)
      · skip
        refine g_iload (pc := 65) C d_Rep_chooseChunk_65 rfl ?_
        refine g_iconst (pc := 67) C d_Rep_chooseChunk_67 icn_1 ?_
        refine g_icmp_ne (pc := 68) (tgt := 75) C d_Rep_chooseChunk_68 (by decide) (fun h68 => ?_) (fun h68 => ?_)
        · skip
          refine g_aload_n (pc := 75) (i := 0) C d_Rep_chooseChunk_75 rfl rfl ?_
          refine gf_Rep_recordCount (pc := 76) C (by omega) fl_Rep_27 d_Rep_chooseChunk_76 ?_
          rw [hc1]
          refine g_iconst (pc := 79) C d_Rep_chooseChunk_79 icn_1 ?_
          refine g_isub (pc := 80) C d_Rep_chooseChunk_80 ?_
          rw [lastR_v]
          refine G.lf (step 2 best c1 (lastR rs) (fun n e => by unfold lastR at e; split at e; cases e; cases e; omega) b3 bl b2 b4 hs (fun c2 b3 bl b2 b4 hs => ?_)) (sb rfl (sb rfl (sb rfl (sb rfl (sb rfl (sb rfl sn))))))
          refine g_iinc (pc := 155) C d_Rep_chooseChunk_155 rfl (v := nI 3) (nI_inc 2) rfl ?_
          refine g_goto (pc := 158) (tgt := 50) C d_Rep_chooseChunk_158 (by decide) ?_
          exact G.lf (t3 c2 _ (by rw [hb]; rfl) b3 bl b2 b4 hs) (sb rfl (sb rfl (sb rfl (sb rfl (sb rfl (sb rfl sn))))))
        · first | exact absurd h68 (fun e => absurd ((nI_eq (by decide) (by decide)).mp e) (by decide)) | exact absurd (fun e => absurd ((nI_eq (by decide) (by decide)).mp e) (by decide)) h68
      · first | exact absurd h58 (nI_ne0 (by decide) (by decide)) | exact absurd (nI_ne0 (by decide) (by decide)) h58
  have t1 : ∀ (c1 : Cs) (best : List Nat × Option Nat), best = cand d rs t (encS t, none) q1 → RowIs c1 (3 + 4 * r) best.1 → best.1.length ≤ 121 → (∃ y, RowIs c1 (2 + 4 * r) y) → (∃ y, RowIs c1 (4 + 4 * r) y) → Sm (Sc r) c c1 → G X D (Qp X D (fun a u => ∃ c2, u = ((c2, τ) : Sg) ∧ a = some (.int (eo (choose d rs q1 q2 t).2)) ∧ RowIs c2 (3 + 4 * r) (choose d rs q1 q2 t).1 ∧ (∃ y, RowIs c2 (2 + 4 * r) y) ∧ (∃ y, RowIs c2 (4 + 4 * r) y) ∧ Sm (Sc r) c c2)) (0, 0) ((c1, τ) : Sg) 50 [(0, some (.ref (aRep D r))), (1, some (.ref (aRow D j))), (2, some (.int (eo q1))), (3, some (.int (eo q2))), (4, some (.int (eo best.2))), (5, some (.int (nI 1)))] [] := by
    intro c1 best hb b3 bl b2 b4 hs
    obtain ⟨hd1, hx1, hc1, ht1⟩ := nb hs
    refine g_iload (pc := 50) C d_Rep_chooseChunk_50 rfl ?_
    refine g_iconst (pc := 52) C d_Rep_chooseChunk_52 icn_3 ?_
    refine g_icmp_ge (pc := 53) (tgt := 161) C d_Rep_chooseChunk_53 (by decide) (fun h53 => ?_) (fun h53 => ?_)
    · first | exact absurd h53 (nI_ge (by decide) (by decide)) | exact absurd (nI_ge (by decide) (by decide)) h53
    · skip
      refine g_iload (pc := 56) C d_Rep_chooseChunk_56 rfl ?_
      refine g_if_ne (pc := 58) (tgt := 65) C d_Rep_chooseChunk_58 (by decide) (fun h58 => ?_) (fun h58 => ?_)
      · skip
        refine g_iload (pc := 65) C d_Rep_chooseChunk_65 rfl ?_
        refine g_iconst (pc := 67) C d_Rep_chooseChunk_67 icn_1 ?_
        refine g_icmp_ne (pc := 68) (tgt := 75) C d_Rep_chooseChunk_68 (by decide) (fun h68 => ?_) (fun h68 => ?_)
        · first | exact absurd h68 (rfl) | exact absurd (rfl) h68
        · skip
          refine g_iload_n (pc := 71) (i := 3) C d_Rep_chooseChunk_71 rfl rfl ?_
          refine g_goto (pc := 72) (tgt := 81) C d_Rep_chooseChunk_72 (by decide) ?_
          refine G.lf (step 1 best c1 q2 h2 b3 bl b2 b4 hs (fun c2 b3 bl b2 b4 hs => ?_)) (sb rfl (sb rfl (sb rfl (sb rfl (sb rfl (sb rfl sn))))))
          refine g_iinc (pc := 155) C d_Rep_chooseChunk_155 rfl (v := nI 2) (nI_inc 1) rfl ?_
          refine g_goto (pc := 158) (tgt := 50) C d_Rep_chooseChunk_158 (by decide) ?_
          exact G.lf (t2 c2 _ (by rw [hb]) b3 bl b2 b4 hs) (sb rfl (sb rfl (sb rfl (sb rfl (sb rfl (sb rfl sn))))))
      · first | exact absurd h58 (nI_ne0 (by decide) (by decide)) | exact absurd (nI_ne0 (by decide) (by decide)) h58
  have t0 : ∀ (c1 : Cs) (best : List Nat × Option Nat), best = (encS t, none) → RowIs c1 (3 + 4 * r) best.1 → best.1.length ≤ 121 → (∃ y, RowIs c1 (2 + 4 * r) y) → (∃ y, RowIs c1 (4 + 4 * r) y) → Sm (Sc r) c c1 → G X D (Qp X D (fun a u => ∃ c2, u = ((c2, τ) : Sg) ∧ a = some (.int (eo (choose d rs q1 q2 t).2)) ∧ RowIs c2 (3 + 4 * r) (choose d rs q1 q2 t).1 ∧ (∃ y, RowIs c2 (2 + 4 * r) y) ∧ (∃ y, RowIs c2 (4 + 4 * r) y) ∧ Sm (Sc r) c c2)) (0, 0) ((c1, τ) : Sg) 50 [(0, some (.ref (aRep D r))), (1, some (.ref (aRow D j))), (2, some (.int (eo q1))), (3, some (.int (eo q2))), (4, some (.int (eo best.2))), (5, some (.int (nI 0)))] [] := by
    intro c1 best hb b3 bl b2 b4 hs
    obtain ⟨hd1, hx1, hc1, ht1⟩ := nb hs
    refine g_iload (pc := 50) C d_Rep_chooseChunk_50 rfl ?_
    refine g_iconst (pc := 52) C d_Rep_chooseChunk_52 icn_3 ?_
    refine g_icmp_ge (pc := 53) (tgt := 161) C d_Rep_chooseChunk_53 (by decide) (fun h53 => ?_) (fun h53 => ?_)
    · first | exact absurd h53 (nI_ge (by decide) (by decide)) | exact absurd (nI_ge (by decide) (by decide)) h53
    · skip
      refine g_iload (pc := 56) C d_Rep_chooseChunk_56 rfl ?_
      refine g_if_ne (pc := 58) (tgt := 65) C d_Rep_chooseChunk_58 (by decide) (fun h58 => ?_) (fun h58 => ?_)
      · first | exact absurd h58 (nI_0) | exact absurd (nI_0) h58
      · skip
        refine g_iload_n (pc := 61) (i := 2) C d_Rep_chooseChunk_61 rfl rfl ?_
        refine g_goto (pc := 62) (tgt := 81) C d_Rep_chooseChunk_62 (by decide) ?_
        refine G.lf (step 0 best c1 q1 h1 b3 bl b2 b4 hs (fun c2 b3 bl b2 b4 hs => ?_)) (sb rfl (sb rfl (sb rfl (sb rfl (sb rfl (sb rfl sn))))))
        refine g_iinc (pc := 155) C d_Rep_chooseChunk_155 rfl (v := nI 1) (nI_inc 0) rfl ?_
        refine g_goto (pc := 158) (tgt := 50) C d_Rep_chooseChunk_158 (by decide) ?_
        exact G.lf (t1 c2 _ (by rw [hb]) b3 bl b2 b4 hs) (sb rfl (sb rfl (sb rfl (sb rfl (sb rfl (sb rfl sn))))))
  refine g_aload_n (pc := 0) (i := 1) C d_Rep_chooseChunk_0 rfl rfl ?_
  refine g_aload_n (pc := 1) (i := 0) C d_Rep_chooseChunk_1 rfl rfl ?_
  refine gf_Rep_chunk (pc := 2) C (by omega) fl_Rep_48 d_Rep_chooseChunk_2 ?_
  refine g_callSp (pc := 5) (As := [_, _]) C my_Cod_writeWhole ms_Cod_writeWhole cl_Rep_162 d_Rep_chooseChunk_5 (Nat.le_of_ble_eq_true rfl) rfl (Nat.le_of_ble_eq_true rfl) ⟨Nat.zero_le _, Nat.zero_le _⟩ (x_Cod_writeWhole _ hD (by omega) (by omega) (by omega) ht k3 (by omega)) (fun r5 u5 hp5 => ?_)
  obtain ⟨c1, rfl, rfl, r1, s1⟩ := hp5
  have hs1 : Sm (Sc r) c c1 := u3 s1
  obtain ⟨hd1, hx1, hc1, ht1⟩ := nb hs1
  have k41 : RowIs c1 (4 + 4 * r) y4 := k4.sm s1 (by unfold Rw; omega) (by unfold Rw; omega)
  have k21 : RowIs c1 (2 + 4 * r) y2 := k2.sm s1 (by unfold Rw; omega) (by unfold Rw; omega)
  refine g_aload_n (pc := 8) (i := 1) C d_Rep_chooseChunk_8 rfl rfl ?_
  refine g_aload_n (pc := 9) (i := 0) C d_Rep_chooseChunk_9 rfl rfl ?_
  refine gf_Rep_trial (pc := 10) C (by omega) fl_Rep_51 d_Rep_chooseChunk_10 ?_
  refine g_callSp (pc := 13) (As := [_, _]) C my_Cod_writePacked ms_Cod_writePacked cl_Rep_168 d_Rep_chooseChunk_13 (Nat.le_of_ble_eq_true rfl) rfl (Nat.le_of_ble_eq_true rfl) ⟨Nat.zero_le _, Nat.zero_le _⟩ (x_Cod_writePacked _ hD (by omega) (by omega) (by omega) ht1 k41 yt tl l4) (fun r13 u13 hp13 => ?_)
  obtain ⟨c2, rfl, rfl, r2, s2⟩ := hp13
  have hs2 : Sm (Sc r) c c2 := hs1.tr (u4 s2)
  have r12 : RowIs c2 (3 + 4 * r) (117 :: t) := r1.sm s2 (by unfold Rw; omega) (by unfold Rw; omega)
  have k22 : RowIs c2 (2 + 4 * r) y2 := k21.sm s2 (by unfold Rw; omega) (by unfold Rw; omega)
  have pl := pkr_len t 0
  have pl2 : (120 :: pack t).length = (pk 0 t).length + 1 := rfl
  have pl3 : (117 :: t).length = t.length + 1 := rfl
  refine g_aload_n (pc := 16) (i := 0) C d_Rep_chooseChunk_16 rfl rfl ?_
  refine gf_Rep_trial (pc := 17) C (by omega) fl_Rep_51 d_Rep_chooseChunk_17 ?_
  refine gf_Row_length (pc := 20) C (by omega) fl_Rep_62 d_Rep_chooseChunk_20 ?_
  rw [r2.1]
  refine g_aload_n (pc := 23) (i := 0) C d_Rep_chooseChunk_23 rfl rfl ?_
  refine gf_Rep_chunk (pc := 24) C (by omega) fl_Rep_48 d_Rep_chooseChunk_24 ?_
  refine gf_Row_length (pc := 27) C (by omega) fl_Rep_62 d_Rep_chooseChunk_27 ?_
  rw [r12.1]
  refine g_icmp_ge (pc := 30) (tgt := 44) C d_Rep_chooseChunk_30 (by decide) (fun h30 => ?_) (fun h30 => ?_)
  · have hq : encS t = 117 :: t := if_neg (fun q => absurd h30 (nI_ge q (by omega)))
    refine g_iconst (pc := 44) C d_Rep_chooseChunk_44 ic_m1 ?_
    refine g_istore (pc := 45) C d_Rep_chooseChunk_45 (by decide) rfl ?_
    refine g_iconst (pc := 47) C d_Rep_chooseChunk_47 icn_0 ?_
    refine g_istore (pc := 48) C d_Rep_chooseChunk_48 (by decide) rfl ?_
    first
      | exact G.lf (t0 c2 (encS t, none) rfl (by rw [hq]; exact r12) (by rw [hq]; show (117 :: t).length ≤ 121; omega) ⟨_, k22⟩ ⟨_, r2⟩ hs2) (sb rfl (sb rfl (sb rfl (sb rfl (sb rfl (sb rfl sn))))))
      | exact G.lf (t0 _ (encS t, none) rfl (by rw [hq]; exact r2.bec r12 (by omega) (by omega) (by omega) (by omega)) (by rw [hq]; show (120 :: pack t).length ≤ 121; omega) ⟨_, k22.sm sm_bec (by unfold Rw; omega) (by unfold Rw; omega)⟩ ⟨_, r2.sm sm_bec (by unfold Rw; omega) (by unfold Rw; omega)⟩ (hs2.tr (u3 sm_bec))) (sb rfl (sb rfl (sb rfl (sb rfl (sb rfl (sb rfl sn))))))
  · have hq1 : (120 :: pack t).length < (117 :: t).length := Nat.not_le.mp fun q => h30 (nI_le q (by omega))
    have hq : encS t = 120 :: pack t := if_pos hq1
    refine g_aload_n (pc := 33) (i := 0) C d_Rep_chooseChunk_33 rfl rfl ?_
    refine gf_Rep_chunk (pc := 34) C (by omega) fl_Rep_48 d_Rep_chooseChunk_34 ?_
    refine g_aload_n (pc := 37) (i := 0) C d_Rep_chooseChunk_37 rfl rfl ?_
    refine gf_Rep_trial (pc := 38) C (by omega) fl_Rep_51 d_Rep_chooseChunk_38 ?_
    refine g_callV0 (pc := 41) (As := [_]) C my_Row_become mv_Row_become cl_Rep_171 (is_Row (by omega)) d_Rep_chooseChunk_41 (Nat.le_of_ble_eq_true rfl) rfl (Nat.le_of_ble_eq_true rfl) ⟨Nat.zero_le _, Nat.zero_le _⟩ (c_Row_become _ hD (by omega) (by omega) (by omega) r2.1 r2.2.1 (by omega)) ?_
    refine g_iconst (pc := 44) C d_Rep_chooseChunk_44 ic_m1 ?_
    refine g_istore (pc := 45) C d_Rep_chooseChunk_45 (by decide) rfl ?_
    refine g_iconst (pc := 47) C d_Rep_chooseChunk_47 icn_0 ?_
    refine g_istore (pc := 48) C d_Rep_chooseChunk_48 (by decide) rfl ?_
    first
      | exact G.lf (t0 c2 (encS t, none) rfl (by rw [hq]; exact r12) (by rw [hq]; show (117 :: t).length ≤ 121; omega) ⟨_, k22⟩ ⟨_, r2⟩ hs2) (sb rfl (sb rfl (sb rfl (sb rfl (sb rfl (sb rfl sn))))))
      | exact G.lf (t0 _ (encS t, none) rfl (by rw [hq]; exact r2.bec r12 (by omega) (by omega) (by omega) (by omega)) (by rw [hq]; show (120 :: pack t).length ≤ 121; omega) ⟨_, k22.sm sm_bec (by unfold Rw; omega) (by unfold Rw; omega)⟩ ⟨_, r2.sm sm_bec (by unfold Rw; omega) (by unfold Rw; omega)⟩ (hs2.tr (u3 sm_bec))) (sb rfl (sb rfl (sb rfl (sb rfl (sb rfl (sb rfl sn))))))
end
section
theorem fnd_lt {h : Int64} : ∀ (rs : List Rc) (n k : Nat), fnd h rs n = some k → k < n + rs.length
  | [], n, k, e => by cases e
  | x :: r, n, k, e => by
    unfold fnd at e
    split at e
    · cases e
      simp
    · have := fnd_lt r (n + 1) k e
      simp only [List.length_cons]
      omega
theorem find_lt {h : Int64} {rs : List Rc} {k : Nat} (e : find rs h = some k) : k < rs.length := by
  have := fnd_lt rs 0 k e
  omega
def Wfs (d : Nat) (rs : List Rc) : Prop := ∀ n x, rs[n]? = some x → WfX d rs n x
/-- c2 is c but in the repository r, its scratch and its records -/
def Sn (r : Nat) (c c2 : Cs) : Prop := (∀ t, ¬ (Sc r t ∨ Pr r t ∨ (26 + 24 * r ≤ t ∧ t < 50 + 24 * r)) → c2.1 t = c.1 t) ∧ ∀ i, ¬ (24 * r ≤ i ∧ i < 24 * r + 24) → c2.2 i = c.2 i
theorem Sn.rf {r : Nat} {c : Cs} : Sn r c c := ⟨fun _ _ => rfl, fun _ _ => rfl⟩
theorem Sn.tr {r : Nat} {c c2 c3 : Cs} (h : Sn r c c2) (g : Sn r c2 c3) : Sn r c c3 := ⟨fun t ht => (g.1 t ht).trans (h.1 t ht), fun i hi => (g.2 i hi).trans (h.2 i hi)⟩
theorem Sm.sn {r : Nat} {P : Nat → Prop} {c c2 : Cs} (h : Sm P c c2) (hp : ∀ t, P t → Sc r t ∨ Pr r t ∨ (26 + 24 * r ≤ t ∧ t < 50 + 24 * r)) : Sn r c c2 := ⟨fun t ht => h.1 t (fun q => ht (hp t q)), fun i _ => by rw [h.2]⟩
theorem sn_w {r i k : Nat} {c : Cs} {v : Int32} (hi : 26 + 24 * r ≤ i ∧ i < 50 + 24 * r) : Sn r c (wI c i k v) := ⟨fun t ht => wI_1n (fun e => ht (Or.inr (Or.inr (e ▸ hi)))), fun _ _ => rfl⟩
theorem sn_n {r i : Nat} {c : Cs} {v : Int64} (hi : 24 * r ≤ i ∧ i < 24 * r + 24) : Sn r c (wN c i v) := ⟨fun _ _ => rfl, fun q hq => by
  show vp_updL c.2 i v q = c.2 q
  exact pk_uLn (fun e => hq (e ▸ hi))⟩
theorem RowIs.sn {r j : Nat} {c c2 : Cs} {xs : List Nat} (h : RowIs c j xs) (hs : Sn r c c2) (h1 : ¬ (Sc r (1 + j) ∨ Pr r (1 + j) ∨ (26 + 24 * r ≤ 1 + j ∧ 1 + j < 50 + 24 * r))) (h2 : ¬ (Sc r (10 + j) ∨ Pr r (10 + j) ∨ (26 + 24 * r ≤ 10 + j ∧ 10 + j < 50 + 24 * r))) : RowIs c2 j xs := by
  refine ⟨by rw [hs.1 _ h1]; exact h.1, h.2.1, fun k hk => ?_⟩
  rw [hs.1 _ h2]
  exact h.2.2 k hk
/-- the other repository stays -/
theorem RepIs.sn {r q : Nat} {c c2 : Cs} {R : Rp} (h : RepIs c q R) (hs : Sn r c c2) (hr : r < 2) (hq : q < 2) (hrq : q ≠ r) : RepIs c2 q R := by
  refine ⟨?_, h.2.1.sn hs (by unfold Sc Pr Rw; omega) (by unfold Sc Pr Rw; omega), h.2.2.1, fun n x hx => ?_⟩
  · rw [hs.1 _ (by unfold Sc Pr Rw; omega)]
    exact h.1
  · have hn := h.2.2.lt hx
    have := h.2.2.2 n x hx
    unfold RecIs at this ⊢
    rw [hs.1 _ (by unfold Sc Pr Rw; omega), hs.2 _ (by omega)]
    exact this
theorem RepIs.sc {r : Nat} {c c2 : Cs} {R : Rp} (h : RepIs c r R) (hs : Sm (Sc r) c c2) (hr : r < 2) : RepIs c2 r R := by
  refine ⟨?_, h.2.1.sm hs (by unfold Sc Rw; omega) (by unfold Sc Rw; omega), h.2.2.sm hs (fun t ht => by unfold Sc Rw; omega)⟩
  rw [hs.1 _ (by unfold Sc Rw; omega)]
  exact h.1
theorem RepIs.ap {r : Nat} {c : Cs} {R : Rp} {ch : List Nat} (h : RepIs c r R) (hr : r < 2) (hc : RowIs c (3 + 4 * r) ch) (hl : R.dat.length + ch.length ≤ 600) : RepIs (adpC c (3 + 4 * r) (1 + 4 * r) 0 ch.length R.dat.length) r (R.dat ++ ch, R.rcs, R.jrn, R.dwn, R.fai) := by
  have hs : Sm (Rw (1 + 4 * r)) c (adpC c (3 + 4 * r) (1 + 4 * r) 0 ch.length R.dat.length) := sm_adp
  refine ⟨?_, ?_, h.2.2.sm hs (fun t ht => by unfold Rw; omega)⟩
  · rw [hs.1 _ (by unfold Rw; omega)]
    exact h.1
  · have e := h.2.1.adp (f := 0) (k := ch.length) hc (by omega) (by omega) (by rw [rl_1 hr]; exact hl) (by omega)
    show RowIs _ _ (R.dat ++ ch)
    simpa using e
def pushC (c : Cs) (i r L o s ln : Nat) (b a e : Option Nat) (h : Int64) : Cs :=
  wI (wN (wI (wI (wI (wI (wI (wI c (26 + i) 0 (nI o)) (26 + i) 1 (nI s)) (26 + i) 3 (eo b)) (26 + i) 2 (nI ln)) (26 + i) 4 (eo a)) (26 + i) 5 (eo e)) i h) (20 + r) 0 (nI (L + 1))
theorem pushC_20 {c : Cs} {i r L o s ln : Nat} {b a e : Option Nat} {h : Int64} (hr : r < 2) (t : Nat) (h1 : t ≠ 26 + i) (h2 : t ≠ 20 + r) : (pushC c i r L o s ln b a e h).1 t = c.1 t := by
  unfold pushC
  rw [wI_1n h2]
  show (wI (wI (wI (wI (wI (wI c (26 + i) 0 (nI o)) (26 + i) 1 (nI s)) (26 + i) 3 (eo b)) (26 + i) 2 (nI ln)) (26 + i) 4 (eo a)) (26 + i) 5 (eo e)).1 t = _
  rw [wI_1n h1, wI_1n h1, wI_1n h1, wI_1n h1, wI_1n h1, wI_1n h1]
theorem sn_push {c : Cs} {i r L o s ln : Nat} {b a e : Option Nat} {h : Int64} (hr : r < 2) (hi : 24 * r ≤ i ∧ i < 24 * r + 24) : Sn r c (pushC c i r L o s ln b a e h) := by
  refine ⟨fun t ht => pushC_20 hr t (fun q => ht (Or.inr (Or.inr (by omega)))) (fun q => ht (Or.inr (Or.inl (Or.inl q)))), fun q hq => ?_⟩
  show vp_updL c.2 i h q = c.2 q
  exact pk_uLn (fun e => hq (e ▸ hi))
theorem RepIs.push {r o s ln : Nat} {c : Cs} {R : Rp} {b a e : Option Nat} {h : Int64} (g : RepIs c r R) (hr : r < 2) (hl : R.rcs.length < 24) : RepIs (pushC c (24 * r + R.rcs.length) r R.rcs.length o s ln b a e h) r (R.dat, R.rcs ++ [(o, s, ln, b, a, e, h)], R.jrn, R.dwn, R.fai) := by
  have k20 : (pushC c (24 * r + R.rcs.length) r R.rcs.length o s ln b a e h).1 (20 + r) = upd (c.1 (20 + r)) 0 (nI (R.rcs.length + 1)) := by
    unfold pushC
    rw [wI_1s]
    show upd ((wI (wI (wI (wI (wI (wI c (26 + (24 * r + R.rcs.length)) 0 (nI o)) (26 + (24 * r + R.rcs.length)) 1 (nI s)) (26 + (24 * r + R.rcs.length)) 3 (eo b)) (26 + (24 * r + R.rcs.length)) 2 (nI ln)) (26 + (24 * r + R.rcs.length)) 4 (eo a)) (26 + (24 * r + R.rcs.length)) 5 (eo e)).1 (20 + r)) 0 _ = _
    rw [wI_1n (by omega), wI_1n (by omega), wI_1n (by omega), wI_1n (by omega), wI_1n (by omega), wI_1n (by omega)]
  refine ⟨⟨?_, ?_, fun p hp => ?_, ?_, ?_⟩, ?_, ?_, fun n x hx => ?_⟩
  · rw [k20, pk_us]
    show _ = nI (R.rcs ++ [_]).length
    rw [List.length_append]
    rfl
  · rw [k20, pk_un (by decide)]
    exact g.1.2.1
  · rw [k20, pk_un (by decide), pk_un (by decide)]
    exact g.1.2.2.1 p hp
  · rw [k20, pk_un (by decide)]
    exact g.1.2.2.2.1
  · rw [k20, pk_un (by decide)]
    exact g.1.2.2.2.2
  · refine ⟨?_, g.2.1.2.1, fun k hk => ?_⟩
    · rw [pushC_20 hr _ (by omega) (by omega)]
      exact g.2.1.1
    · rw [pushC_20 hr _ (by omega) (by omega)]
      exact g.2.1.2.2 k hk
  · show (R.rcs ++ [_]).length ≤ 24
    rw [List.length_append]
    simp
    omega
  · have hx : (R.rcs ++ [(o, s, ln, b, a, e, h)])[n]? = some x := hx
    by_cases hn : n < R.rcs.length
    · rw [List.getElem?_append_left hn] at hx
      have g2 := g.2.2.2 n x hx
      unfold RecIs at g2 ⊢
      rw [pushC_20 hr _ (by omega) (by omega)]
      have e2 : (pushC c (24 * r + R.rcs.length) r R.rcs.length o s ln b a e h).2 (24 * r + n) = c.2 (24 * r + n) := by
        show vp_updL c.2 (24 * r + R.rcs.length) h (24 * r + n) = _
        exact pk_uLn (by omega)
      rw [e2]
      exact g2
    · rw [List.getElem?_append_right (by omega)] at hx
      have hz : n - R.rcs.length = 0 := by
        have := (List.getElem?_eq_some_iff.mp hx).1
        simp at this
        omega
      rw [hz] at hx
      cases hx
      have hn2 : n = R.rcs.length := by omega
      subst hn2
      have k26 : (pushC c (24 * r + R.rcs.length) r R.rcs.length o s ln b a e h).1 (26 + (24 * r + R.rcs.length)) = upd (upd (upd (upd (upd (upd (c.1 (26 + (24 * r + R.rcs.length))) 0 (nI o)) 1 (nI s)) 3 (eo b)) 2 (nI ln)) 4 (eo a)) 5 (eo e) := by
        unfold pushC
        rw [wI_1n (by omega)]
        show (wI (wI (wI (wI (wI (wI c (26 + (24 * r + R.rcs.length)) 0 (nI o)) (26 + (24 * r + R.rcs.length)) 1 (nI s)) (26 + (24 * r + R.rcs.length)) 3 (eo b)) (26 + (24 * r + R.rcs.length)) 2 (nI ln)) (26 + (24 * r + R.rcs.length)) 4 (eo a)) (26 + (24 * r + R.rcs.length)) 5 (eo e)).1 _ = _
        rw [wI_1s, wI_1s, wI_1s, wI_1s, wI_1s, wI_1s]
      unfold RecIs
      rw [k26]
      refine ⟨?_, ?_, ?_, ?_, ?_, ?_, ?_⟩
      · rw [pk_un (by decide), pk_un (by decide), pk_un (by decide), pk_un (by decide), pk_un (by decide), pk_us]; rfl
      · rw [pk_un (by decide), pk_un (by decide), pk_un (by decide), pk_un (by decide), pk_us]; rfl
      · rw [pk_un (by decide), pk_un (by decide), pk_us]; rfl
      · rw [pk_un (by decide), pk_un (by decide), pk_un (by decide), pk_us]; rfl
      · rw [pk_un (by decide), pk_us]; rfl
      · rw [pk_us]; rfl
      · show vp_updL c.2 (24 * r + R.rcs.length) h (24 * r + R.rcs.length) = h
        exact pk_uLs
/-- the answer of storing, as the system has it -/
def stI (a : Int) : Int32 := if a = -4 then -3 else Int32.ofInt a
theorem stor_k {R : Rp} {p q : Option Nat} {t : List Nat} {k : Nat} (h : find R.rcs (nodeOf R.rcs p q t) = some k) : stor R p q t = ((k : Int), R) := by
  unfold stor
  simp only [h]
theorem stor_n {R : Rp} {p q : Option Nat} {t : List Nat} (h : find R.rcs (nodeOf R.rcs p q t) = none) : stor R p q t = if 24 ≤ R.rcs.length ∨ 600 < R.dat.length + (choose R.dat R.rcs p q t).1.length then ((-4 : Int), R) else
    match wrt R with
    | (false, R1) => ((-2 : Int), R1)
    | (true, R1) => match wrt (R1.dat ++ (choose R.dat R.rcs p q t).1, R1.rcs, R1.jrn, R1.dwn, R1.fai) with
      | (false, R2) => ((-2 : Int), R2)
      | (true, R2) => (((R2.rcs.length : Nat) : Int), (R2.dat, R2.rcs ++ [(R1.dat.length, (choose R.dat R.rcs p q t).1.length, t.length, (choose R.dat R.rcs p q t).2, p, q, nodeOf R.rcs p q t)], R2.jrn, R2.dwn, R2.fai)) := by
  unfold stor
  simp only [h]
  rfl
def appR (R : Rp) (ch : List Nat) : Rp := (R.dat ++ ch, R.rcs, R.jrn, R.dwn, R.fai)
theorem stor_4 {R : Rp} {p q : Option Nat} {t : List Nat} (h : find R.rcs (nodeOf R.rcs p q t) = none) (h2 : 24 ≤ R.rcs.length ∨ 600 < R.dat.length + (choose R.dat R.rcs p q t).1.length) : stor R p q t = (-4, R) := by
  rw [stor_n h, if_pos h2]
theorem stor_2 {R : Rp} {p q : Option Nat} {t : List Nat} (h : find R.rcs (nodeOf R.rcs p q t) = none) (h2 : ¬ (24 ≤ R.rcs.length ∨ 600 < R.dat.length + (choose R.dat R.rcs p q t).1.length)) (hw : ¬ (wrt R).1 = true) : stor R p q t = (-2, (wrt R).2) := by
  rw [stor_n h, if_neg h2]
  generalize wrt R = w at hw ⊢
  obtain ⟨b, R1⟩ := w
  cases b with
  | false => rfl
  | true => exact absurd rfl hw
theorem stor_3 {R : Rp} {p q : Option Nat} {t : List Nat} (h : find R.rcs (nodeOf R.rcs p q t) = none) (h2 : ¬ (24 ≤ R.rcs.length ∨ 600 < R.dat.length + (choose R.dat R.rcs p q t).1.length)) (hw : (wrt R).1 = true) (hw2 : ¬ (wrt (appR (wrt R).2 (choose R.dat R.rcs p q t).1)).1 = true) : stor R p q t = (-2, (wrt (appR (wrt R).2 (choose R.dat R.rcs p q t).1)).2) := by
  rw [stor_n h, if_neg h2]
  generalize wrt R = w at hw hw2 ⊢
  obtain ⟨b, R1⟩ := w
  cases hw
  show (match wrt (appR R1 (choose R.dat R.rcs p q t).1) with
      | (false, R2) => ((-2 : Int), R2)
      | (true, R2) => _) = _
  generalize wrt (appR R1 (choose R.dat R.rcs p q t).1) = w2 at hw2 ⊢
  obtain ⟨b2, R2⟩ := w2
  cases b2 with
  | false => rfl
  | true => exact absurd rfl hw2
theorem stor_5 {R : Rp} {p q : Option Nat} {t : List Nat} (h : find R.rcs (nodeOf R.rcs p q t) = none) (h2 : ¬ (24 ≤ R.rcs.length ∨ 600 < R.dat.length + (choose R.dat R.rcs p q t).1.length)) (hw : (wrt R).1 = true) (hw2 : (wrt (appR (wrt R).2 (choose R.dat R.rcs p q t).1)).1 = true) : stor R p q t = ((((wrt (appR (wrt R).2 (choose R.dat R.rcs p q t).1)).2.rcs.length : Nat) : Int), ((wrt (appR (wrt R).2 (choose R.dat R.rcs p q t).1)).2.dat, (wrt (appR (wrt R).2 (choose R.dat R.rcs p q t).1)).2.rcs ++ [((wrt R).2.dat.length, (choose R.dat R.rcs p q t).1.length, t.length, (choose R.dat R.rcs p q t).2, p, q, nodeOf R.rcs p q t)], (wrt (appR (wrt R).2 (choose R.dat R.rcs p q t).1)).2.jrn, (wrt (appR (wrt R).2 (choose R.dat R.rcs p q t).1)).2.dwn, (wrt (appR (wrt R).2 (choose R.dat R.rcs p q t).1)).2.fai)) := by
  rw [stor_n h, if_neg h2]
  generalize wrt R = w at hw hw2 ⊢
  obtain ⟨b, R1⟩ := w
  cases hw
  show (match wrt (appR R1 (choose R.dat R.rcs p q t).1) with
      | (false, R2) => ((-2 : Int), R2)
      | (true, R2) => _) = _
  generalize wrt (appR R1 (choose R.dat R.rcs p q t).1) = w2 at hw2 ⊢
  obtain ⟨b2, R2⟩ := w2
  cases hw2
  rfl
theorem oi_m4 : stI (-4) = -3 := by decide +kernel
theorem oi_s2 : stI (-2) = -2 := by decide +kernel
theorem oi_sn (n : Nat) : stI ((n : Nat) : Int) = nI n := by
  unfold stI
  rw [if_neg (by omega)]
  exact oi_n n
theorem RowIs.psh {c : Cs} {i j r L o s ln : Nat} {b a e : Option Nat} {h : Int64} {xs : List Nat} (g : RowIs c j xs) (hr : r < 2) (hj : j < 9) : RowIs (pushC c i r L o s ln b a e h) j xs := by
  refine ⟨?_, g.2.1, fun k hk => ?_⟩
  · rw [pushC_20 hr _ (by omega) (by omega)]
    exact g.1
  · rw [pushC_20 hr _ (by omega) (by omega)]
    exact g.2.2 k hk
end
section
set_option maxRecDepth 100000 in
set_option maxHeartbeats 4000000 in
theorem x_Rep_store (l : Launch) {D : Dt} (hD : OkD D) {r j : Nat} {c : Cs} {τ : Cs × (Nat → Int64)} {R : Rp} {t : List Nat} {q1 q2 : Option Nat} (hr : r < 2) (hj : j < 9) (hj2 : j ≠ 1 + 4 * r ∧ j ≠ 2 + 4 * r ∧ j ≠ 3 + 4 * r ∧ j ≠ 4 + 4 * r) (h : RepIs c r R) (yd : By R.dat) (hw : Wfs R.dat.length R.rcs) (hd : R.dwn = false) (hf : R.fai ≤ 100) (h1 : ∀ n, q1 = some n → n < R.rcs.length) (h2 : ∀ n, q2 = some n → n < R.rcs.length) (ht : RowIs c j t) (yt : By t) (tl : t.length ≤ 60) (k2 : ∃ y, RowIs c (2 + 4 * r) y) (k3 : ∃ y, RowIs c (3 + 4 * r) y) (k4 : ∃ y, RowIs c (4 + 4 * r) y) : Cp l D y_Rep_store b_Rep_store 9 (some .int) 7 [.int (eo q2), .int (eo q1), .ref (aRow D j), .ref (aRep D r)] ((c, τ) : Sg) (fun a u => ∃ c2, u = ((c2, τ) : Sg) ∧ a = some (.int (stI (stor R q1 q2 t).1)) ∧ RepIs c2 r (stor R q1 q2 t).2 ∧ (∃ y, RowIs c2 (2 + 4 * r) y) ∧ (∃ y, RowIs c2 (3 + 4 * r) y) ∧ (∃ y, RowIs c2 (4 + 4 * r) y) ∧ Sn r c c2) := by
  have h24 := h.2.2.1
  have l1 := rl_1 hr
  have l3 := rl_3 hr
  have f1 := wrt_f R
  have eR := wrt_r R
  have eD := wrt_d R
  have fl : ∀ k, find R.rcs (nodeOf R.rcs q1 q2 t) = some k → k < 2 ^ 31 := fun k e => by have := find_lt e; omega
  have u0 : ∀ {c1 c2 : Cs}, Sm (Sc r) c1 c2 → Sn r c1 c2 := fun h => h.sn (fun t q => Or.inl q)
  have u1 : ∀ {c1 c2 : Cs}, Sm (Ci (20 + r)) c1 c2 → Sn r c1 c2 := fun h => h.sn (fun t q => Or.inr (Or.inl (Or.inl q)))
  have u2 : ∀ {c1 c2 : Cs}, Sm (Rw (1 + 4 * r)) c1 c2 → Sn r c1 c2 := fun h => h.sn (fun t q => Or.inr (Or.inl (Or.inr q)))
  refine Cp.of hD (by decide) (Nat.le_of_ble_eq_true rfl) [(0, some (.ref (aRep D r))), (1, some (.ref (aRow D j))), (2, some (.int (eo q1))), (3, some (.int (eo q2)))] rfl (fun X hX C => ?_)
  subst hX
  refine g_aload_n (pc := 0) (i := 0) C d_Rep_store_0 rfl rfl ?_
  refine g_aload_n (pc := 1) (i := 1) C d_Rep_store_1 rfl rfl ?_
  refine g_iload_n (pc := 2) (i := 2) C d_Rep_store_2 rfl rfl ?_
  refine g_iload_n (pc := 3) (i := 3) C d_Rep_store_3 rfl rfl ?_
  refine g_callV1 (pc := 4) (As := [_, _, _]) C my_Rep_nodeOf mv_Rep_nodeOf cl_Rep_112 (is_Rep (by omega)) d_Rep_store_4 (Nat.le_of_ble_eq_true rfl) rfl (Nat.le_of_ble_eq_true rfl) ⟨Nat.zero_le _, Nat.zero_le _⟩ (c_Rep_nodeOf _ hD (by omega) (by omega) h.2.2 h1 h2 ht) ?_
  refine g_lstore (pc := 7) C d_Rep_store_7 (by decide) rfl ?_
  refine g_aload_n (pc := 9) (i := 0) C d_Rep_store_9 rfl rfl ?_
  refine g_lload (pc := 10) C d_Rep_store_10 rfl ?_
  refine g_callV1 (pc := 12) (As := [_]) C my_Rep_find mv_Rep_find cl_Rep_88 (is_Rep (by omega)) d_Rep_store_12 (Nat.le_of_ble_eq_true rfl) rfl (Nat.le_of_ble_eq_true rfl) ⟨Nat.zero_le _, Nat.zero_le _⟩ (c_Rep_find _ hD (by omega) h.1.1 h.2.2) ?_
  refine g_istore (pc := 15) C d_Rep_store_15 (by decide) rfl ?_
  refine g_iload (pc := 17) C d_Rep_store_17 rfl ?_
  refine g_iconst (pc := 19) C d_Rep_store_19 ic_m1 ?_
  refine g_icmp_eq (pc := 20) (tgt := 26) C d_Rep_store_20 (by decide) (fun h20 => ?_) (fun h20 => ?_)
  · have hfd := (eo_m1 fl).mp h20
    refine g_aload_n (pc := 26) (i := 0) C d_Rep_store_26 rfl rfl ?_
    refine g_aload_n (pc := 27) (i := 1) C d_Rep_store_27 rfl rfl ?_
    refine g_iload_n (pc := 28) (i := 2) C d_Rep_store_28 rfl rfl ?_
    refine g_iload_n (pc := 29) (i := 3) C d_Rep_store_29 rfl rfl ?_
    refine g_callVp (pc := 30) (As := [_, _, _]) C my_Rep_chooseChunk mv_Rep_chooseChunk cl_Rep_116 (is_Rep (by omega)) d_Rep_store_30 (Nat.le_of_ble_eq_true rfl) rfl (Nat.le_of_ble_eq_true rfl) ⟨Nat.zero_le _, Nat.zero_le _⟩ (x_Rep_chooseChunk _ hD (by omega) (by omega) (by omega) h.1.1 h.2.2 h.2.1 yd hw h1 h2 ht yt tl k2 k3 k4) (fun r30 u30 hp30 => ?_)
    obtain ⟨c1, rfl, rfl, r1, k21, k41, s1⟩ := hp30
    have g1 := h.sc s1 hr
    have ht1 : RowIs c1 j t := ht.sm s1 (by unfold Sc Rw; omega) (by unfold Sc Rw; omega)
    have lc := r1.2.1
    have ld := g1.2.1.2.1
    obtain ⟨y2, k21⟩ := k21
    obtain ⟨y4, k41⟩ := k41
    refine g_istore (pc := 33) C d_Rep_store_33 (by decide) rfl ?_
    refine g_aload_n (pc := 35) (i := 0) C d_Rep_store_35 rfl rfl ?_
    refine gf_Rep_recordCount (pc := 36) C (by omega) fl_Rep_27 d_Rep_store_36 ?_
    rw [g1.1.1]
    refine g_bipush (pc := 39) C d_Rep_store_39 bpn_24 ?_
    refine g_icmp_ge (pc := 41) (tgt := 61) C d_Rep_store_41 (by decide) (fun h41 => ?_) (fun h41 => ?_)
    · have hq := Or.inl (b := 600 < R.dat.length + (choose R.dat R.rcs q1 q2 t).1.length) ((nI_leI (by omega) (by omega)).mp h41)
      refine g_bipush (pc := 61) C d_Rep_store_61 bp_m3 ?_
      refine g_iret (pc := 63) C d_Rep_store_63 ?_
      rw [stor_4 hfd hq]
      exact ⟨c1, rfl, by rw [oi_m4], g1, ⟨_, k21⟩, ⟨_, r1⟩, ⟨_, k41⟩, u0 s1⟩
    · have hq1 : R.rcs.length < 24 := Nat.not_le.mp fun q => h41 (nI_le q (by omega))
      refine g_aload_n (pc := 44) (i := 0) C d_Rep_store_44 rfl rfl ?_
      refine gf_Rep_data (pc := 45) C (by omega) fl_Rep_14 d_Rep_store_45 ?_
      refine g_aload_n (pc := 48) (i := 0) C d_Rep_store_48 rfl rfl ?_
      refine gf_Rep_chunk (pc := 49) C (by omega) fl_Rep_48 d_Rep_store_49 ?_
      refine gf_Row_length (pc := 52) C (by omega) fl_Rep_62 d_Rep_store_52 ?_
      rw [r1.1]
      refine g_callV1 (pc := 55) (As := [_]) C my_Row_hasRoomFor mv_Row_hasRoomFor cl_Rep_119 (is_Row (by omega)) d_Rep_store_55 (Nat.le_of_ble_eq_true rfl) rfl (Nat.le_of_ble_eq_true rfl) ⟨Nat.zero_le _, Nat.zero_le _⟩ (c_Row_hasRoomFor _ hD (by omega)) ?_
      refine g_if_ne (pc := 58) (tgt := 64) C d_Rep_store_58 (by decide) (fun h58 => ?_) (fun h58 => ?_)
      · have hb := b1_1 h58
        rw [g1.2.1.1] at hb
        have hq2 := (rm_k ld (rln_le _) (by omega)).mp hb
        rw [l1] at hq2
        have hq : ¬ (24 ≤ R.rcs.length ∨ 600 < R.dat.length + (choose R.dat R.rcs q1 q2 t).1.length) := by omega
        refine g_aload_n (pc := 64) (i := 0) C d_Rep_store_64 rfl rfl ?_
        refine gf_Rep_data (pc := 65) C (by omega) fl_Rep_14 d_Rep_store_65 ?_
        refine gf_Row_length (pc := 68) C (by omega) fl_Rep_62 d_Rep_store_68 ?_
        rw [g1.2.1.1]
        refine g_istore (pc := 71) C d_Rep_store_71 (by decide) rfl ?_
        refine g_aload_n (pc := 73) (i := 0) C d_Rep_store_73 rfl rfl ?_
        refine g_callVp (pc := 74) (As := []) C my_Rep_mayWrite mv_Rep_mayWrite cl_Rep_58 (is_Rep (by omega)) d_Rep_store_74 (Nat.le_of_ble_eq_true rfl) rfl (Nat.le_of_ble_eq_true rfl) ⟨Nat.zero_le _, Nat.zero_le _⟩ (x_Rep_mayWrite _ hD (by omega) g1 hd hf) (fun r74 u74 hp74 => ?_)
        obtain ⟨c2, rfl, rfl, g2, s2⟩ := hp74
        have r2 : RowIs c2 (3 + 4 * r) (choose R.dat R.rcs q1 q2 t).1 := r1.sm s2 (by unfold Ci; omega) (by unfold Ci; omega)
        have k22 : RowIs c2 (2 + 4 * r) y2 := k21.sm s2 (by unfold Ci; omega) (by unfold Ci; omega)
        have k42 : RowIs c2 (4 + 4 * r) y4 := k41.sm s2 (by unfold Ci; omega) (by unfold Ci; omega)
        have ht2 : RowIs c2 j t := ht1.sm s2 (by unfold Ci; omega) (by unfold Ci; omega)
        refine g_if_ne (pc := 77) (tgt := 83) C d_Rep_store_77 (by decide) (fun h77 => ?_) (fun h77 => ?_)
        · have hw1 := b1_1 h77
          refine g_aload_n (pc := 83) (i := 0) C d_Rep_store_83 rfl rfl ?_
          refine gf_Rep_data (pc := 84) C (by omega) fl_Rep_14 d_Rep_store_84 ?_
          refine g_aload_n (pc := 87) (i := 0) C d_Rep_store_87 rfl rfl ?_
          refine gf_Rep_chunk (pc := 88) C (by omega) fl_Rep_48 d_Rep_store_88 ?_
          refine g_iconst (pc := 91) C d_Rep_store_91 icn_0 ?_
          refine g_aload_n (pc := 92) (i := 0) C d_Rep_store_92 rfl rfl ?_
          refine gf_Rep_chunk (pc := 93) C (by omega) fl_Rep_48 d_Rep_store_93 ?_
          refine gf_Row_length (pc := 96) C (by omega) fl_Rep_62 d_Rep_store_96 ?_
          rw [r2.1]
          have hl2 : (wrt R).2.dat.length + (choose R.dat R.rcs q1 q2 t).1.length ≤ 600 := by rw [eD]; omega
          refine g_callV1 (pc := 99) (As := [_, _, _]) C my_Row_addPart mv_Row_addPart cl_Rep_122 (is_Row (by omega)) d_Rep_store_99 (Nat.le_of_ble_eq_true rfl) rfl (Nat.le_of_ble_eq_true rfl) ⟨Nat.zero_le _, Nat.zero_le _⟩ (c_adp1 _ hD (by omega) (by omega) g2.2.1 r2 (by rw [l1]; exact hl2) (by omega)) ?_
          have s3 : Sm (Rw (1 + 4 * r)) c2 (adpC c2 (3 + 4 * r) (1 + 4 * r) 0 (choose R.dat R.rcs q1 q2 t).1.length (wrt R).2.dat.length) := sm_adp
          have g3 : RepIs _ r (appR (wrt R).2 (choose R.dat R.rcs q1 q2 t).1) := g2.ap hr r2 hl2
          have r3 := r2.sm s3 (by unfold Rw; omega) (by unfold Rw; omega)
          have k23 := k22.sm s3 (by unfold Rw; omega) (by unfold Rw; omega)
          have k43 := k42.sm s3 (by unfold Rw; omega) (by unfold Rw; omega)
          have ht3 := ht2.sm s3 (by unfold Rw; omega) (by unfold Rw; omega)
          refine g_pop (pc := 102) C d_Rep_store_102 rfl ?_
          refine g_aload_n (pc := 103) (i := 0) C d_Rep_store_103 rfl rfl ?_
          refine g_callVp (pc := 104) (As := []) C my_Rep_mayWrite mv_Rep_mayWrite cl_Rep_58 (is_Rep (by omega)) d_Rep_store_104 (Nat.le_of_ble_eq_true rfl) rfl (Nat.le_of_ble_eq_true rfl) ⟨Nat.zero_le _, Nat.zero_le _⟩ (x_Rep_mayWrite _ hD (by omega) g3 (wrt_w hw1 hd) (show (wrt R).2.fai ≤ 100 by omega)) (fun r104 u104 hp104 => ?_)
          obtain ⟨c4, rfl, rfl, g4, s4⟩ := hp104
          have r4 := r3.sm s4 (by unfold Ci; omega) (by unfold Ci; omega)
          have k24 := k23.sm s4 (by unfold Ci; omega) (by unfold Ci; omega)
          have k44 := k43.sm s4 (by unfold Ci; omega) (by unfold Ci; omega)
          have ht4 := ht3.sm s4 (by unfold Ci; omega) (by unfold Ci; omega)
          have e4 : (wrt (appR (wrt R).2 (choose R.dat R.rcs q1 q2 t).1)).2.rcs = R.rcs := by rw [wrt_r]; exact eR
          have e5 : (wrt (appR (wrt R).2 (choose R.dat R.rcs q1 q2 t).1)).2.rcs.length = R.rcs.length := by rw [e4]
          refine g_if_ne (pc := 107) (tgt := 113) C d_Rep_store_107 (by decide) (fun h107 => ?_) (fun h107 => ?_)
          · have hw2 := b1_1 h107
            refine g_aload_n (pc := 113) (i := 0) C d_Rep_store_113 rfl rfl ?_
            refine gf_Rep_records (pc := 114) C (by omega) fl_Rep_22 d_Rep_store_114 ?_
            refine g_aload_n (pc := 117) (i := 0) C d_Rep_store_117 rfl rfl ?_
            refine gf_Rep_recordCount (pc := 118) C (by omega) fl_Rep_27 d_Rep_store_118 ?_
            rw [g4.1.1, e5]
            refine ga_rcs (pc := 121) C (by omega) (by omega) d_Rep_store_121 ?_
            refine g_iload (pc := 122) C d_Rep_store_122 rfl ?_
            refine g_aload_n (pc := 124) (i := 0) C d_Rep_store_124 rfl rfl ?_
            refine gf_Rep_chunk (pc := 125) C (by omega) fl_Rep_48 d_Rep_store_125 ?_
            refine gf_Row_length (pc := 128) C (by omega) fl_Rep_62 d_Rep_store_128 ?_
            rw [r4.1]
            refine g_iload (pc := 131) C d_Rep_store_131 rfl ?_
            refine g_callV0 (pc := 133) (As := [_, _, _]) C my_Rec_placeChunk mv_Rec_placeChunk cl_Rep_126 (is_Rec (by omega)) d_Rep_store_133 (Nat.le_of_ble_eq_true rfl) rfl (Nat.le_of_ble_eq_true rfl) ⟨Nat.zero_le _, Nat.zero_le _⟩ (c_Rec_placeChunk _ hD (by omega)) ?_
            refine g_aload_n (pc := 136) (i := 0) C d_Rep_store_136 rfl rfl ?_
            refine gf_Rep_records (pc := 137) C (by omega) fl_Rep_22 d_Rep_store_137 ?_
            refine g_aload_n (pc := 140) (i := 0) C d_Rep_store_140 rfl rfl ?_
            refine gf_Rep_recordCount (pc := 141) C (by omega) fl_Rep_27 d_Rep_store_141 ?_
            rw [wI_1n (by omega), wI_1n (by omega), wI_1n (by omega), g4.1.1, e5]
            refine ga_rcs (pc := 144) C (by omega) (by omega) d_Rep_store_144 ?_
            refine g_aload_n (pc := 145) (i := 1) C d_Rep_store_145 rfl rfl ?_
            refine gf_Row_length (pc := 146) C (by omega) fl_Rep_62 d_Rep_store_146 ?_
            rw [wI_1n (by omega), wI_1n (by omega), wI_1n (by omega), ht4.1]
            refine g_iload_n (pc := 149) (i := 2) C d_Rep_store_149 rfl rfl ?_
            refine g_iload_n (pc := 150) (i := 3) C d_Rep_store_150 rfl rfl ?_
            refine g_lload (pc := 151) C d_Rep_store_151 rfl ?_
            refine g_callV0 (pc := 153) (As := [_, _, _, _]) C my_Rec_describe mv_Rec_describe cl_Rep_130 (is_Rec (by omega)) d_Rep_store_153 (Nat.le_of_ble_eq_true rfl) rfl (Nat.le_of_ble_eq_true rfl) ⟨Nat.zero_le _, Nat.zero_le _⟩ (c_Rec_describe _ hD (by omega)) ?_
            refine g_aload_n (pc := 156) (i := 0) C d_Rep_store_156 rfl rfl ?_
            refine g_dup (pc := 157) C d_Rep_store_157 rfl ?_
            refine gf_Rep_recordCount (pc := 158) C (by omega) fl_Rep_27 d_Rep_store_158 ?_
            have hct : ∀ (c : Cs) (i t : Nat) (v : Int64), (wN c i v).1 t = c.1 t := fun _ _ _ _ => rfl
            rw [hct, wI_1n (by omega), wI_1n (by omega), wI_1n (by omega), wI_1n (by omega), wI_1n (by omega), wI_1n (by omega), g4.1.1, e5]
            refine g_iconst (pc := 161) C d_Rep_store_161 icn_1 ?_
            refine g_iadd (pc := 162) C d_Rep_store_162 ?_
            rw [nI_add]
            refine gp_Rep_recordCount (pc := 163) C (by omega) fl_Rep_27 d_Rep_store_163 ?_
            refine g_aload_n (pc := 166) (i := 0) C d_Rep_store_166 rfl rfl ?_
            refine gf_Rep_recordCount (pc := 167) C (by omega) fl_Rep_27 d_Rep_store_167 ?_
            rw [wI_1s, pk_us]
            refine g_iconst (pc := 170) C d_Rep_store_170 icn_1 ?_
            refine g_isub (pc := 171) C d_Rep_store_171 ?_
            rw [pk_sub (by omega), show R.rcs.length + 1 - 1 = R.rcs.length by omega]
            refine g_iret (pc := 172) C d_Rep_store_172 ?_
            rw [stor_5 hfd hq hw1 hw2]
            have g5 := g4.push (o := R.dat.length) (s := (choose R.dat R.rcs q1 q2 t).1.length) (ln := t.length) (b := (choose R.dat R.rcs q1 q2 t).2) (a := q1) (e := q2) (h := nodeOf R.rcs q1 q2 t) hr (by rw [e5]; exact hq1)
            rw [e5] at g5
            have sp : Sn r c4 (pushC c4 (24 * r + R.rcs.length) r R.rcs.length R.dat.length (choose R.dat R.rcs q1 q2 t).1.length t.length (choose R.dat R.rcs q1 q2 t).2 q1 q2 (nodeOf R.rcs q1 q2 t)) := sn_push hr (by omega)
            refine ⟨_, rfl, by rw [oi_sn, e5], ?_, ?_, ?_, ?_, ((((u0 s1).tr (u1 s2)).tr (u2 s3)).tr (u1 s4)).tr sp⟩
            · rw [eD]
              exact g5
            · exact ⟨y2, k24.psh hr (by omega)⟩
            · exact ⟨_, r4.psh hr (by omega)⟩
            · exact ⟨y4, k44.psh hr (by omega)⟩
          · have hw2 := b1_0 h107
            refine g_bipush (pc := 110) C d_Rep_store_110 bp_m2 ?_
            refine g_iret (pc := 112) C d_Rep_store_112 ?_
            rw [stor_3 hfd hq hw1 hw2]
            exact ⟨c4, rfl, by rw [oi_s2], g4, ⟨_, k24⟩, ⟨_, r4⟩, ⟨_, k44⟩, (((u0 s1).tr (u1 s2)).tr (u2 s3)).tr (u1 s4)⟩
        · have hw1 := b1_0 h77
          refine g_bipush (pc := 80) C d_Rep_store_80 bp_m2 ?_
          refine g_iret (pc := 82) C d_Rep_store_82 ?_
          rw [stor_2 hfd hq hw1]
          exact ⟨c2, rfl, by rw [oi_s2], g2, ⟨_, k22⟩, ⟨_, r2⟩, ⟨_, k42⟩, (u0 s1).tr (u1 s2)⟩
      · have hb := b1_0 h58
        rw [g1.2.1.1] at hb
        have hq : 24 ≤ R.rcs.length ∨ 600 < R.dat.length + (choose R.dat R.rcs q1 q2 t).1.length := by
          refine Or.inr (Nat.not_le.mp fun q => hb ((rm_k ld (rln_le _) (by omega)).mpr (by rw [l1]; exact q)))
        refine g_bipush (pc := 61) C d_Rep_store_61 bp_m3 ?_
        refine g_iret (pc := 63) C d_Rep_store_63 ?_
        rw [stor_4 hfd hq]
        exact ⟨c1, rfl, by rw [oi_m4], g1, ⟨_, k21⟩, ⟨_, r1⟩, ⟨_, k41⟩, u0 s1⟩
  · obtain ⟨k, hfd⟩ : ∃ k, find R.rcs (nodeOf R.rcs q1 q2 t) = some k := by
      cases hfd : find R.rcs (nodeOf R.rcs q1 q2 t) with
      | none => exact absurd (by rw [hfd]; rfl) h20
      | some k => exact ⟨k, rfl⟩
    refine g_iload (pc := 23) C d_Rep_store_23 rfl ?_
    refine g_iret (pc := 25) C d_Rep_store_25 ?_
    rw [stor_k hfd]
    exact ⟨c, rfl, by rw [hfd, oi_sn]; rfl, h, k2, k3, k4, Sn.rf⟩
end
section
theorem by_pk : ∀ (t : List Nat) (r : Nat), By t → r + t.length < 256 → By (pk r t)
  | [], r, _, _ => fun x hx => by simp [pk] at hx
  | [v], r, hb, hl => fun x hx => by
    simp only [pk, List.mem_cons, List.not_mem_nil, or_false] at hx
    simp only [List.length_cons, List.length_nil] at hl
    rcases hx with rfl | rfl
    · omega
    · exact hb _ (by simp)
  | v :: w :: t, r, hb, hl => by
    have hb2 : By (w :: t) := fun x hx => hb x (List.mem_cons_of_mem _ hx)
    simp only [List.length_cons] at hl
    unfold pk
    split
    · exact by_pk (w :: t) (r + 1) hb2 (by simp only [List.length_cons]; omega)
    · intro x hx
      rcases List.mem_cons.mp hx with rfl | hx
      · omega
      · rcases List.mem_cons.mp hx with rfl | hx
        · exact hb _ (by simp)
        · exact by_pk (w :: t) 0 hb2 (by simp only [List.length_cons]; omega) x hx
theorem by_cons {k : Nat} {t : List Nat} (hk : k < 256) (ht : By t) : By (k :: t) := fun x hx => by
  rcases List.mem_cons.mp hx with rfl | hx
  · exact hk
  · exact ht x hx
theorem by_encS {t : List Nat} (ht : By t) (hl : t.length ≤ 60) : By (encS t) ∧ 1 ≤ (encS t).length ∧ (encS t).length ≤ 121 := by
  unfold encS
  have h1 := pkr_len t 0
  split
  · exact ⟨by_cons (by decide) (by_pk t 0 ht (by omega)), by simp, by simp only [List.length_cons]; unfold pack; omega⟩
  · exact ⟨by_cons (by decide) ht, by simp, by simp only [List.length_cons]; omega⟩
theorem by_encD {b t : List Nat} (ht : By t) (hl : t.length ≤ 60) (hb : b.length ≤ 60) : By (encD b t) ∧ 1 ≤ (encD b t).length ∧ (encD b t).length ≤ 121 := by
  have h1 := encD_len (b := b) (t := t)
  have h2 := cpre_1 b t
  refine ⟨?_, by unfold encD; simp, by omega⟩
  unfold encD
  exact by_cons (by decide) (by_cons (by omega) (by_cons (by omega) (by_cons (by omega) ((ht.drop _).take _))))
/-- what a chosen chunk and base are -/
def Chz (rs : List Rc) (b : List Nat × Option Nat) : Prop := By b.1 ∧ 1 ≤ b.1.length ∧ b.1.length ≤ 121 ∧ ∀ n, b.2 = some n → n < rs.length ∧ chn rs 5 (some n) ≠ none
theorem chz_cand {d : List Nat} {rs : List Rc} {t : List Nat} {b : List Nat × Option Nat} {o : Option Nat} (hd : By d) (ht : By t) (hl : t.length ≤ 60) (ho : ∀ n, o = some n → n < rs.length) (h : Chz rs b) : Chz rs (cand d rs t b o) := by
  cases o with
  | none => exact h
  | some n =>
    cases hb : built d rs n with
    | none => rw [cand_n hb]; exact h
    | some u =>
      rw [cand_s hb]
      split
      · rename_i hc
        have hu := by_built hd hb
        have he := by_encD (b := u) ht hl hu.2
        refine ⟨he.1, he.2.1, he.2.2, fun k hk => ?_⟩
        cases hk
        refine ⟨ho n rfl, fun e => ?_⟩
        have := hc.2
        unfold fits6 at this
        rw [e] at this
        cases this
      · exact h
theorem chz {d : List Nat} {rs : List Rc} {t : List Nat} {p q : Option Nat} (hd : By d) (ht : By t) (hl : t.length ≤ 60) (hp : ∀ n, p = some n → n < rs.length) (hq : ∀ n, q = some n → n < rs.length) : Chz rs (choose d rs p q t) := by
  have h0 : Chz rs (encS t, none) := ⟨(by_encS ht hl).1, (by_encS ht hl).2.1, (by_encS ht hl).2.2, fun n e => by cases e⟩
  exact chz_cand hd ht hl (fun n e => by unfold lastR at e; split at e; cases e; cases e; omega) (chz_cand hd ht hl hq (chz_cand hd ht hl hp h0))
theorem chn_pre {rs rs2 : List Rc} {N : Nat} (he : ∀ n, n < N → rs2[n]? = rs[n]?) (hb : ∀ n x, rs[n]? = some x → n < N → ∀ b, x.bas = some b → b < n) : ∀ (f n : Nat), n < N → chn rs2 f (some n) = chn rs f (some n)
  | 0, n, _ => rfl
  | f + 1, n, hn => by
    cases hx : rs[n]? with
    | none =>
      unfold chn
      rw [he n hn, hx]
    | some x =>
      rw [chn_s hx, chn_s ((he n hn).trans hx)]
      cases hbx : x.bas with
      | none => rw [chn_0, chn_0]
      | some b =>
        have := hb n x hx hn b hbx
        rw [chn_pre he hb f b (by omega)]
theorem Wfs.bas {d : Nat} {rs : List Rc} (h : Wfs d rs) : ∀ (n : Nat) (x : Rc), rs[n]? = some x → ∀ b, x.bas = some b → b < n := fun n x hx b hb => (h n x hx).1 b hb
theorem Wfs.mono {d d2 : Nat} {rs : List Rc} (h : Wfs d rs) (hd : d ≤ d2) : Wfs d2 rs := fun n x hx => by
  obtain ⟨a1, a2, a3, a4, a5, a6, a7, a8⟩ := h n x hx
  exact ⟨a1, a2, a3, a4, a5, a6, by omega, a8⟩
theorem Wfs.push {d d2 : Nat} {rs : List Rc} {x : Rc} (h : Wfs d rs) (hd : d ≤ d2) (h1 : ∀ b, x.bas = some b → b < rs.length ∧ chn rs 5 (some b) ≠ none) (h2 : ∀ b, x.pa = some b → b < rs.length) (h3 : ∀ b, x.pb = some b → b < rs.length) (h4 : 1 ≤ x.siz) (h5 : x.siz ≤ 121) (h6 : x.len ≤ 60) (h7 : x.off + x.siz ≤ d2) : Wfs d2 (rs ++ [x]) := by
  have he : ∀ n, n < rs.length → (rs ++ [x])[n]? = rs[n]? := fun n hn => List.getElem?_append_left hn
  have hp : ∀ f n, n < rs.length → chn (rs ++ [x]) f (some n) = chn rs f (some n) := chn_pre he (fun n y hy _ b hb => h.bas n y hy b hb)
  intro n y hy
  by_cases hn : n < rs.length
  · rw [he n hn] at hy
    obtain ⟨a1, a2, a3, a4, a5, a6, a7, a8⟩ := h n y hy
    exact ⟨a1, a2, a3, a4, a5, a6, by omega, by rw [hp 6 n hn]; exact a8⟩
  · have hl : n < (rs ++ [x]).length := (List.getElem?_eq_some_iff.mp hy).1
    rw [List.length_append] at hl
    have hn2 : n = rs.length := by simp at hl; omega
    subst hn2
    have hyx : (rs ++ [x])[rs.length]? = some x := by rw [List.getElem?_append_right (Nat.le_refl _), Nat.sub_self]; rfl
    rw [hyx] at hy
    cases hy
    refine ⟨fun b hb => (h1 b hb).1, h2, h3, h4, h5, h6, h7, ?_⟩
    rw [chn_s hyx]
    cases hb : x.bas with
    | none => rw [chn_0]; simp
    | some b =>
      rw [hp 5 b (h1 b hb).1]
      cases hc : chn rs 5 (some b) with
      | none => exact absurd hc (h1 b hb).2
      | some q => simp
theorem Wfs.take {d n : Nat} {rs : List Rc} (h : Wfs d rs) : Wfs d (rs.take n) := by
  have hg : ∀ (k : Nat) (x : Rc), (rs.take n)[k]? = some x → rs[k]? = some x ∧ k < n := fun k x hx => by
    have hk := (List.getElem?_eq_some_iff.mp hx).1
    rw [List.length_take] at hk
    rw [List.getElem?_take_of_lt (by omega)] at hx
    exact ⟨hx, by omega⟩
  intro k x hx
  obtain ⟨h1, h2⟩ := hg k x hx
  obtain ⟨a1, a2, a3, a4, a5, a6, a7, a8⟩ := h k x h1
  refine ⟨a1, a2, a3, a4, a5, a6, a7, ?_⟩
  rw [chn_pre (rs := rs) (N := n) (fun m hm => List.getElem?_take_of_lt hm) (fun m y hy _ b hb => h.bas m y hy b hb) 6 k h2]
  exact a8
/-- what holds of a repository between calls -/
def WfR (R : Rp) : Prop := By R.dat ∧ R.dat.length ≤ 600 ∧ R.rcs.length ≤ 24 ∧ R.fai ≤ 100 ∧ (R.dwn = true → R.fai = 0) ∧ (∀ d n, R.jrn = some (d, n) → d ≤ R.dat.length ∧ n ≤ R.rcs.length ∧ Wfs d (R.rcs.take n)) ∧ (R.jrn = none ∨ R.dwn = false → Wfs R.dat.length R.rcs)
theorem wrt_wf {R : Rp} (h : WfR R) (hd : R.dwn = false) : WfR (wrt R).2 := by
  obtain ⟨a1, a2, a3, a4, a5, a6, a7⟩ := h
  have a8 := a7 (Or.inr hd)
  unfold wrt
  split
  · exact ⟨a1, a2, a3, a4, a5, a6, a7⟩
  · split
    · exact ⟨a1, a2, a3, Nat.zero_le _, fun _ => rfl, a6, fun _ => a8⟩
    · exact ⟨a1, a2, a3, Nat.le_trans (Nat.sub_le _ _) a4, (fun e => by cases e), a6, fun _ => a8⟩
theorem begn_wf {R : Rp} (h : WfR R) (hd : R.dwn = false) : WfR (begn R).2 := by
  have hw := wrt_wf h hd
  by_cases hb : (wrt R).1 = true
  · rw [begn_t hb]
    obtain ⟨a1, a2, a3, a4, a5, a6, a7⟩ := hw
    have a8 := a7 (Or.inr (wrt_w hb hd))
    refine ⟨a1, a2, a3, a4, a5, fun d n e => ?_, fun _ => a8⟩
    cases e
    exact ⟨Nat.le_refl _, Nat.le_refl _, a8.take⟩
  · rw [begn_f hb]
    exact hw
theorem fini_wf {R : Rp} (h : WfR R) (hd : R.dwn = false) : WfR (fini R).2 := by
  have hw := wrt_wf h hd
  by_cases hb : (wrt R).1 = true
  · rw [fini_t hb]
    obtain ⟨a1, a2, a3, a4, a5, a6, a7⟩ := hw
    exact ⟨a1, a2, a3, a4, a5, (fun d n e => by cases e), fun _ => a7 (Or.inr (wrt_w hb hd))⟩
  · rw [fini_f hb]
    exact hw
theorem e0_wrt (Q : Rp) (hq : ¬ (wrt Q).1 = true) : (wrt Q).2 = (Q.dat, Q.rcs, Q.jrn, true, 0) := by
  unfold wrt at hq ⊢
  split
  · rename_i h1
    rw [if_pos h1] at hq
    exact absurd rfl hq
  · split
    · rfl
    · rename_i h1 h2
      rw [if_neg h1, if_neg h2] at hq
      exact absurd rfl hq
theorem roll_wfj {dat : List Nat} {rcs : List Rc} {jrn : Option (Nat × Nat)} {k d n : Nat} (a1 : By dat) (a2 : dat.length ≤ 600) (a3 : rcs.length ≤ 24) (hk : k ≤ 100) (hj : jrn = some (d, n)) (j1 : d ≤ dat.length) (j2 : n ≤ rcs.length) (j3 : Wfs d (rcs.take n)) : WfR (roll (dat, rcs, jrn, false, k) d n).2 := by
  subst hj
  obtain ⟨R, hR⟩ : ∃ R : Rp, ((dat, rcs, some (d, n), false, k) : Rp) = R := ⟨_, rfl⟩
  rw [hR]
  have rd : R.dat = dat := by rw [← hR]; rfl
  have rr : R.rcs = rcs := by rw [← hR]; rfl
  have rj : R.jrn = some (d, n) := by rw [← hR]; rfl
  have rw' : R.dwn = false := by rw [← hR]; rfl
  have rf : R.fai = k := by rw [← hR]; rfl
  have w1 := wrt_d R
  have w2 := wrt_r R
  have w3 := wrt_j R
  have w4 := wrt_f R
  have lc : ((wrt R).2.dat.take d).length = d := by rw [List.length_take, w1, rd]; omega
  have jn : ∀ d' n', (wrt R).2.jrn = some (d', n') → d' = d ∧ n' = n := fun d' n' e => by
    rw [w3, rj] at e
    cases e
    exact ⟨rfl, rfl⟩
  by_cases hb : (wrt R).1 = true
  · have hdw := wrt_w hb rw'
    by_cases hb2 : (wrt (cutR (wrt R).2 d)).1 = true
    · rw [roll_3 hb hb2]
      have e1 : (wrt (cutR (wrt R).2 d)).2.dat = (wrt R).2.dat.take d := wrt_d _
      have e2 : (wrt (cutR (wrt R).2 d)).2.rcs = (wrt R).2.rcs := wrt_r _
      have e3 : (wrt (cutR (wrt R).2 d)).2.jrn = (wrt R).2.jrn := wrt_j _
      have e4 := wrt_w hb2 hdw
      have e5 := wrt_f (cutR (wrt R).2 d)
      have e6 : (cutR (wrt R).2 d).fai = (wrt R).2.fai := rfl
      refine fini_wf (R := takR (wrt (cutR (wrt R).2 d)).2 n) ⟨?_, ?_, ?_, ?_, ?_, ?_, ?_⟩ e4
      · show By (wrt (cutR (wrt R).2 d)).2.dat
        rw [e1, w1, rd]
        exact a1.take d
      · show (wrt (cutR (wrt R).2 d)).2.dat.length ≤ 600
        rw [e1, lc]
        omega
      · show ((wrt (cutR (wrt R).2 d)).2.rcs.take n).length ≤ 24
        rw [List.length_take, e2, w2, rr]
        omega
      · show (wrt (cutR (wrt R).2 d)).2.fai ≤ 100
        omega
      · intro e
        exact absurd e (by show ¬ (wrt (cutR (wrt R).2 d)).2.dwn = true; rw [e4]; exact fun q => by cases q)
      · intro d' n' e
        have e : (wrt (cutR (wrt R).2 d)).2.jrn = some (d', n') := e
        rw [e3] at e
        obtain ⟨rfl, rfl⟩ := jn d' n' e
        show d' ≤ (wrt (cutR (wrt R).2 d')).2.dat.length ∧ n' ≤ ((wrt (cutR (wrt R).2 d')).2.rcs.take n').length ∧ Wfs d' (((wrt (cutR (wrt R).2 d')).2.rcs.take n').take n')
        rw [e1, lc, e2, List.length_take, List.take_take, Nat.min_self, w2, rr]
        exact ⟨Nat.le_refl _, by omega, j3⟩
      · intro _
        show Wfs (wrt (cutR (wrt R).2 d)).2.dat.length ((wrt (cutR (wrt R).2 d)).2.rcs.take n)
        rw [e1, lc, e2, w2, rr]
        exact j3
    · rw [roll_2 hb hb2, e0_wrt _ hb2]
      refine ⟨?_, ?_, ?_, Nat.zero_le _, (fun _ => rfl), fun d' n' e => ?_, fun e => ?_⟩
      · show By ((wrt R).2.dat.take d)
        rw [w1, rd]
        exact a1.take d
      · show ((wrt R).2.dat.take d).length ≤ 600
        rw [lc]
        omega
      · show (wrt R).2.rcs.length ≤ 24
        rw [w2, rr]
        exact a3
      · obtain ⟨rfl, rfl⟩ := jn d' n' e
        show d' ≤ ((wrt R).2.dat.take d').length ∧ n' ≤ (wrt R).2.rcs.length ∧ Wfs d' ((wrt R).2.rcs.take n')
        rw [lc, w2, rr]
        exact ⟨Nat.le_refl _, j2, j3⟩
      · rcases e with e | e
        · have e : (wrt R).2.jrn = none := e
          rw [w3, rj] at e
          cases e
        · cases e
  · rw [roll_1 hb, e0_wrt _ hb]
    refine ⟨?_, ?_, ?_, Nat.zero_le _, (fun _ => rfl), fun d' n' e => ?_, fun e => ?_⟩
    · show By R.dat
      rw [rd]
      exact a1
    · show R.dat.length ≤ 600
      rw [rd]
      exact a2
    · show R.rcs.length ≤ 24
      rw [rr]
      exact a3
    · have e : R.jrn = some (d', n') := e
      rw [rj] at e
      cases e
      show d ≤ R.dat.length ∧ n ≤ R.rcs.length ∧ Wfs d (R.rcs.take n)
      rw [rd, rr]
      exact ⟨j1, j2, j3⟩
    · rcases e with e | e
      · have e : R.jrn = none := e
        rw [rj] at e
        cases e
      · cases e
theorem roll_wf {R : Rp} {d n : Nat} (h : WfR R) (hd : R.dwn = false) (hj : R.jrn = some (d, n)) : WfR (roll R d n).2 := by
  obtain ⟨a1, a2, a3, a4, a5, a6, a7⟩ := h
  obtain ⟨j1, j2, j3⟩ := a6 d n hj
  have e : R = (R.dat, R.rcs, R.jrn, false, R.fai) := by rw [← hd]; rfl
  rw [e]
  exact roll_wfj a1 a2 a3 a4 hj j1 j2 j3
theorem recov_wf {R : Rp} {k : Nat} (h : WfR R) (hk : k ≤ 100) : WfR (recov R k).2 := by
  obtain ⟨a1, a2, a3, a4, a5, a6, a7⟩ := h
  cases hj : R.jrn with
  | none =>
    have e : recov R k = (0, (R.dat, R.rcs, none, false, 0)) := by unfold recov; rw [hj]
    rw [e]
    exact ⟨a1, a2, a3, Nat.zero_le _, (fun _ => rfl), (fun d n e => by cases e), fun _ => a7 (Or.inl hj)⟩
  | some p =>
    obtain ⟨d, n⟩ := p
    have e : recov R k = roll (R.dat, R.rcs, R.jrn, false, k) d n := by unfold recov; rw [hj]
    rw [e]
    obtain ⟨j1, j2, j3⟩ := a6 d n hj
    -- rolling back: what is wanted of the start is its journal alone
    exact roll_wfj a1 a2 a3 hk hj j1 j2 j3
end
section
theorem appR_wf {Q : Rp} {ch : List Nat} (h : WfR Q) (hd : Q.dwn = false) (hc : By ch) (hl : Q.dat.length + ch.length ≤ 600) : WfR (appR Q ch) := by
  obtain ⟨a1, a2, a3, a4, a5, a6, a7⟩ := h
  have e : (appR Q ch).dat = Q.dat ++ ch := rfl
  refine ⟨a1.app hc, by rw [e, List.length_append]; exact hl, a3, a4, a5, fun d n hj => ?_, fun _ => ?_⟩
  · obtain ⟨j1, j2, j3⟩ := a6 d n hj
    exact ⟨by rw [e, List.length_append]; omega, j2, j3⟩
  · rw [e, List.length_append]
    exact (a7 (Or.inr hd)).mono (Nat.le_add_right _ _)
theorem pushR_wf {Q : Rp} {x : Rc} (h : WfR Q) (hd : Q.dwn = false) (hn : Q.rcs.length < 24) (h1 : ∀ b, x.bas = some b → b < Q.rcs.length ∧ chn Q.rcs 5 (some b) ≠ none) (h2 : ∀ b, x.pa = some b → b < Q.rcs.length) (h3 : ∀ b, x.pb = some b → b < Q.rcs.length) (h4 : 1 ≤ x.siz) (h5 : x.siz ≤ 121) (h6 : x.len ≤ 60) (h7 : x.off + x.siz ≤ Q.dat.length) : WfR (Q.dat, Q.rcs ++ [x], Q.jrn, Q.dwn, Q.fai) := by
  obtain ⟨a1, a2, a3, a4, a5, a6, a7⟩ := h
  refine ⟨a1, a2, ?_, a4, a5, fun d n hj => ?_, fun _ => (a7 (Or.inr hd)).push (Nat.le_refl _) h1 h2 h3 h4 h5 h6 h7⟩
  · show (Q.rcs ++ [x]).length ≤ 24
    rw [List.length_append]
    simp
    omega
  · obtain ⟨j1, j2, j3⟩ := a6 d n hj
    refine ⟨j1, ?_, ?_⟩
    · show n ≤ (Q.rcs ++ [x]).length
      rw [List.length_append]
      omega
    · show Wfs d ((Q.rcs ++ [x]).take n)
      rw [List.take_append_of_le_length j2]
      exact j3
/-- what storing leaves as it was -/
def Pfx (R R2 : Rp) : Prop := (∃ u, R2.dat = R.dat ++ u) ∧ (∃ u, R2.rcs = R.rcs ++ u) ∧ R2.jrn = R.jrn
theorem Pfx.rf {R : Rp} : Pfx R R := ⟨⟨[], by simp⟩, ⟨[], by simp⟩, rfl⟩
theorem Pfx.tr {R R2 R3 : Rp} (h : Pfx R R2) (g : Pfx R2 R3) : Pfx R R3 := by
  obtain ⟨⟨u, hu⟩, ⟨v, hv⟩, hj⟩ := h
  obtain ⟨⟨u2, hu2⟩, ⟨v2, hv2⟩, hj2⟩ := g
  exact ⟨⟨u ++ u2, by rw [hu2, hu, List.append_assoc]⟩, ⟨v ++ v2, by rw [hv2, hv, List.append_assoc]⟩, hj2.trans hj⟩
theorem pfx_wrt {R : Rp} : Pfx R (wrt R).2 := ⟨⟨[], by rw [wrt_d, List.append_nil]⟩, ⟨[], by rw [wrt_r, List.append_nil]⟩, wrt_j R⟩
theorem stor_all {R : Rp} {p q : Option Nat} {t : List Nat} (h : WfR R) (hd : R.dwn = false) (hp : ∀ n, p = some n → n < R.rcs.length) (hq : ∀ n, q = some n → n < R.rcs.length) (ht : By t) (hl : t.length ≤ 60) :
    WfR (stor R p q t).2 ∧ Pfx R (stor R p q t).2 ∧ ((stor R p q t).1 = -2 ∨ (stor R p q t).1 = -4 ∨ ((stor R p q t).2.dwn = false ∧ ∃ n : Nat, n ≤ 24 ∧ (stor R p q t).1 = n)) := by
  have a3 := h.2.2.1
  cases hf : find R.rcs (nodeOf R.rcs p q t) with
  | some k =>
    rw [stor_k hf]
    have := find_lt hf
    exact ⟨h, Pfx.rf, Or.inr (Or.inr ⟨hd, k, by omega, rfl⟩)⟩
  | none =>
    have hz := chz (d := R.dat) (rs := R.rcs) (t := t) (p := p) (q := q) h.1 ht hl hp hq
    by_cases h4 : 24 ≤ R.rcs.length ∨ 600 < R.dat.length + (choose R.dat R.rcs p q t).1.length
    · rw [stor_4 hf h4]
      exact ⟨h, Pfx.rf, Or.inr (Or.inl rfl)⟩
    · have hw := wrt_wf h hd
      by_cases hb : (wrt R).1 = true
      · have hdw := wrt_w hb hd
        have hap := appR_wf hw hdw hz.1 (by rw [wrt_d]; omega)
        have pa : Pfx (wrt R).2 (appR (wrt R).2 (choose R.dat R.rcs p q t).1) := ⟨⟨_, rfl⟩, ⟨[], (List.append_nil _).symm⟩, rfl⟩
        by_cases hb2 : (wrt (appR (wrt R).2 (choose R.dat R.rcs p q t).1)).1 = true
        · rw [stor_5 hf h4 hb hb2]
          have e1 : (wrt (appR (wrt R).2 (choose R.dat R.rcs p q t).1)).2.rcs = R.rcs := by rw [wrt_r]; exact wrt_r R
          have e2 : (wrt (appR (wrt R).2 (choose R.dat R.rcs p q t).1)).2.dat = R.dat ++ (choose R.dat R.rcs p q t).1 := by
            rw [wrt_d]
            show (wrt R).2.dat ++ _ = _
            rw [wrt_d]
          have hdw2 := wrt_w hb2 (show (appR (wrt R).2 (choose R.dat R.rcs p q t).1).dwn = false from hdw)
          refine ⟨pushR_wf (wrt_wf hap hdw) hdw2 (by rw [e1]; omega) ?_ ?_ ?_ hz.2.1 hz.2.2.1 hl ?_, ?_, Or.inr (Or.inr ⟨hdw2, R.rcs.length, by omega, by rw [e1]⟩)⟩
          · intro b hbb
            rw [e1]
            exact hz.2.2.2 b hbb
          · intro b hbb
            rw [e1]
            exact hp b hbb
          · intro b hbb
            rw [e1]
            exact hq b hbb
          · rw [e2, List.length_append, wrt_d]
            exact Nat.le_refl _
          · exact ((pfx_wrt.tr pa).tr pfx_wrt).tr ⟨⟨[], (List.append_nil _).symm⟩, ⟨_, rfl⟩, rfl⟩
        · rw [stor_3 hf h4 hb hb2]
          exact ⟨wrt_wf hap hdw, (pfx_wrt.tr pa).tr pfx_wrt, Or.inl rfl⟩
      · rw [stor_2 hf h4 hb]
        exact ⟨hw, pfx_wrt, Or.inl rfl⟩
def twn (R O : Rp) (q : Option Nat) : Option Nat := q.bind (fun n => find R.rcs (nodP O.rcs (some n)))
theorem twn_lt {R O : Rp} {q : Option Nat} : ∀ n, twn R O q = some n → n < R.rcs.length := by
  intro n h
  cases q with
  | none => cases h
  | some k => exact find_lt h
/-- the revisions that come, from the n-th on -/
def plp (O : Rp) : Nat → Nat → Rp → Int × Rp
  | 0, _, R => (0, R)
  | m + 1, n, R => match O.rcs[n]? with
    | none => (0, R)
    | some x => match find R.rcs x.nod with
      | some _ => plp O m (n + 1) R
      | none => match built O.dat O.rcs n with
        | none => (-4, R)
        | some t =>
          if (stor R (twn R O x.pa) (twn R O x.pb) t).1 = -2 ∨ (stor R (twn R O x.pa) (twn R O x.pb) t).1 = -4 then stor R (twn R O x.pa) (twn R O x.pb) t
          else plp O m (n + 1) (stor R (twn R O x.pa) (twn R O x.pb) t).2
def pullV (R O : Rp) : Int × Rp :=
  if (begn R).1 = true then
    if (plp O O.rcs.length 0 (begn R).2).1 = -2 then plp O O.rcs.length 0 (begn R).2
    else if (plp O O.rcs.length 0 (begn R).2).1 = -4 then (-4, R)
    else (if (fini (plp O O.rcs.length 0 (begn R).2).2).1 = true then (((plp O O.rcs.length 0 (begn R).2).2.rcs.length - R.rcs.length : Nat) : Int) else -2, (fini (plp O O.rcs.length 0 (begn R).2).2).2)
  else (-2, (begn R).2)
theorem plp_f {O : Rp} {m n k : Nat} {R : Rp} {x : Rc} (hx : O.rcs[n]? = some x) (hf : find R.rcs x.nod = some k) : plp O (m + 1) n R = plp O m (n + 1) R := by
  conv => lhs; unfold plp
  simp only [hx, hf]
theorem plp_n {O : Rp} {m n : Nat} {R : Rp} {x : Rc} (hx : O.rcs[n]? = some x) (hf : find R.rcs x.nod = none) (hb : built O.dat O.rcs n = none) : plp O (m + 1) n R = (-4, R) := by
  conv => lhs; unfold plp
  simp only [hx, hf, hb]
theorem plp_s {O : Rp} {m n : Nat} {R : Rp} {x : Rc} {t : List Nat} (hx : O.rcs[n]? = some x) (hf : find R.rcs x.nod = none) (hb : built O.dat O.rcs n = some t) : plp O (m + 1) n R = if (stor R (twn R O x.pa) (twn R O x.pb) t).1 = -2 ∨ (stor R (twn R O x.pa) (twn R O x.pb) t).1 = -4 then stor R (twn R O x.pa) (twn R O x.pb) t else plp O m (n + 1) (stor R (twn R O x.pa) (twn R O x.pb) t).2 := by
  conv => lhs; unfold plp
  simp only [hx, hf, hb]
/-- what the scratch rows are, of both repositories -/
def Scr (c : Cs) : Prop := ∀ r, r < 2 → (∃ y, RowIs c (2 + 4 * r) y) ∧ (∃ y, RowIs c (3 + 4 * r) y) ∧ (∃ y, RowIs c (4 + 4 * r) y)
theorem stI_2 {a : Int} (h : a = -2 ∨ a = -4 ∨ ∃ n : Nat, n ≤ 24 ∧ a = n) : stI a = -2 ↔ a = -2 := by
  rcases h with rfl | rfl | ⟨n, hn, rfl⟩
  · exact ⟨fun _ => rfl, fun _ => oi_s2⟩
  · rw [oi_m4]
    exact ⟨fun h => absurd h (by decide), fun h => absurd h (by decide)⟩
  · rw [oi_sn]
    refine ⟨fun h => ?_, fun h => by omega⟩
    have h1 := nI_toInt (n := n) (by omega)
    rw [h] at h1
    have h2 : (-2 : Int32).toInt = -2 := by decide +kernel
    omega
theorem stI_4 {a : Int} (h : a = -2 ∨ a = -4 ∨ ∃ n : Nat, n ≤ 24 ∧ a = n) : stI a = -3 ↔ a = -4 := by
  rcases h with rfl | rfl | ⟨n, hn, rfl⟩
  · rw [oi_s2]
    exact ⟨fun h => absurd h (by decide), fun h => absurd h (by decide)⟩
  · exact ⟨fun _ => rfl, fun _ => oi_m4⟩
  · rw [oi_sn]
    refine ⟨fun h => ?_, fun h => by omega⟩
    have h1 := nI_toInt (n := n) (by omega)
    rw [h] at h1
    have h2 : (-3 : Int32).toInt = -3 := by decide +kernel
    omega
theorem fini_w {R : Rp} (h : (fini R).1 = true) (hd : R.dwn = false) : (fini R).2.dwn = false := by
  by_cases hb : (wrt R).1 = true
  · rw [fini_t hb]
    exact wrt_w hb hd
  · rw [fini_f hb] at h
    cases h
end
section
theorem RepIs.gm {P : Nat → Prop} {c c2 : Cs} {q : Nat} {R : Rp} (h : RepIs c q R) (hs : Sm P c c2) (h1 : ∀ t, (t = 20 + q ∨ t = 1 + (1 + 4 * q) ∨ t = 10 + (1 + 4 * q) ∨ 26 ≤ t) → ¬ P t) : RepIs c2 q R := by
  refine ⟨?_, h.2.1.sm hs (h1 _ (Or.inr (Or.inl rfl))) (h1 _ (Or.inr (Or.inr (Or.inl rfl)))), h.2.2.sm hs (fun t ht => h1 t (Or.inr (Or.inr (Or.inr ht))))⟩
  rw [hs.1 _ (h1 _ (Or.inl rfl))]
  exact h.1
theorem Scr.gm {P : Nat → Prop} {c c2 : Cs} (h : Scr c) (hs : Sm P c c2) (h1 : ∀ r, r < 2 → ∀ k, (k = 2 ∨ k = 3 ∨ k = 4) → ¬ P (1 + (k + 4 * r)) ∧ ¬ P (10 + (k + 4 * r))) : Scr c2 := by
  intro r hr
  obtain ⟨⟨y2, a2⟩, ⟨y3, a3⟩, ⟨y4, a4⟩⟩ := h r hr
  exact ⟨⟨y2, a2.sm hs (h1 r hr 2 (by omega)).1 (h1 r hr 2 (by omega)).2⟩, ⟨y3, a3.sm hs (h1 r hr 3 (by omega)).1 (h1 r hr 3 (by omega)).2⟩, ⟨y4, a4.sm hs (h1 r hr 4 (by omega)).1 (h1 r hr 4 (by omega)).2⟩⟩
theorem Scr.sn {r : Nat} {c c2 : Cs} (h : Scr c) (hs : Sn r c c2) (hr : r < 2) (k2 : ∃ y, RowIs c2 (2 + 4 * r) y) (k3 : ∃ y, RowIs c2 (3 + 4 * r) y) (k4 : ∃ y, RowIs c2 (4 + 4 * r) y) : Scr c2 := by
  intro q hq
  by_cases e : q = r
  · subst e
    exact ⟨k2, k3, k4⟩
  · obtain ⟨⟨y2, a2⟩, ⟨y3, a3⟩, ⟨y4, a4⟩⟩ := h q hq
    exact ⟨⟨y2, a2.sn hs (by unfold Sc Pr Rw; omega) (by unfold Sc Pr Rw; omega)⟩, ⟨y3, a3.sn hs (by unfold Sc Pr Rw; omega) (by unfold Sc Pr Rw; omega)⟩, ⟨y4, a4.sn hs (by unfold Sc Pr Rw; omega) (by unfold Sc Pr Rw; omega)⟩⟩
theorem Scr.bp {r : Nat} {c c2 : Cs} (h : Scr c) (hs : Sm (Bp r) c c2) (hr : r < 2) (k2 : ∃ y, RowIs c2 (2 + 4 * r) y) : Scr c2 := by
  intro q hq
  obtain ⟨⟨y2, a2⟩, ⟨y3, a3⟩, ⟨y4, a4⟩⟩ := h q hq
  refine ⟨?_, ⟨y3, a3.sm hs (by unfold Bp Rw; omega) (by unfold Bp Rw; omega)⟩, ⟨y4, a4.sm hs (by unfold Bp Rw; omega) (by unfold Bp Rw; omega)⟩⟩
  by_cases e : q = r
  · subst e
    exact k2
  · exact ⟨y2, a2.sm hs (by unfold Bp Rw; omega) (by unfold Bp Rw; omega)⟩
theorem pull_b {R O : Rp} (h : ¬ (begn R).1 = true) : pullV R O = (-2, (begn R).2) := by
  unfold pullV
  rw [if_neg h]
theorem pull_0 {R O R1 : Rp} (h : (begn R).1 = true) (he : plp O O.rcs.length 0 (begn R).2 = (0, R1)) : pullV R O = (if (fini R1).1 = true then ((R1.rcs.length - R.rcs.length : Nat) : Int) else -2, (fini R1).2) := by
  unfold pullV
  rw [if_pos h, he, if_neg (show ¬ (0 : Int) = -2 by decide), if_neg (show ¬ (0 : Int) = -4 by decide)]
theorem pull_2 {R O R1 : Rp} (h : (begn R).1 = true) (he : plp O O.rcs.length 0 (begn R).2 = (-2, R1)) : pullV R O = (-2, R1) := by
  unfold pullV
  rw [if_pos h, he, if_pos rfl]
theorem pull_4 {R O R1 : Rp} (h : (begn R).1 = true) (he : plp O O.rcs.length 0 (begn R).2 = (-4, R1)) : pullV R O = (-4, R) := by
  unfold pullV
  rw [if_pos h, he, if_neg (show ¬ (-4 : Int) = -2 by decide), if_pos rfl]
theorem begn_all {R : Rp} (h : (begn R).1 = true) (hd : R.dwn = false) : (begn R).2.dat = R.dat ∧ (begn R).2.rcs = R.rcs ∧ (begn R).2.jrn = some (R.dat.length, R.rcs.length) ∧ (begn R).2.dwn = false := by
  by_cases hb : (wrt R).1 = true
  · rw [begn_t hb]
    refine ⟨wrt_d R, wrt_r R, ?_, wrt_w hb hd⟩
    show some ((wrt R).2.dat.length, (wrt R).2.rcs.length) = _
    rw [wrt_d, wrt_r]
  · rw [begn_f hb] at h
    cases h
theorem undoR {R R1 : Rp} (h : (begn R).1 = true) (hd : R.dwn = false) (hj : R.jrn = none) (hp : Pfx (begn R).2 R1) (hd1 : R1.dwn = false) : (R1.dat.take R.dat.length, R1.rcs.take R.rcs.length, (none : Option (Nat × Nat)), R1.dwn, R.fai) = R := by
  obtain ⟨b1, b2, b3, b4⟩ := begn_all h hd
  obtain ⟨⟨u, hu⟩, ⟨v, hv⟩, -⟩ := hp
  rw [b1] at hu
  rw [b2] at hv
  rw [hu, hv, hd1, List.take_left, List.take_left, ← hj, ← hd]
  rfl
theorem stor_d4 {R : Rp} {p q : Option Nat} {t : List Nat} (hd : R.dwn = false) (h : (stor R p q t).1 = -4) : (stor R p q t).2.dwn = false := by
  cases hf : find R.rcs (nodeOf R.rcs p q t) with
  | some k => rw [stor_k hf]; exact hd
  | none =>
    by_cases h4 : 24 ≤ R.rcs.length ∨ 600 < R.dat.length + (choose R.dat R.rcs p q t).1.length
    · rw [stor_4 hf h4]
      exact hd
    · by_cases hb : (wrt R).1 = true
      · by_cases hb2 : (wrt (appR (wrt R).2 (choose R.dat R.rcs p q t).1)).1 = true
        · rw [stor_5 hf h4 hb hb2] at h
          have h : (((wrt (appR (wrt R).2 (choose R.dat R.rcs p q t).1)).2.rcs.length : Nat) : Int) = -4 := h
          omega
        · rw [stor_3 hf h4 hb hb2] at h
          exact absurd h (show ¬ (-2 : Int) = -4 by decide)
      · rw [stor_2 hf h4 hb] at h
        exact absurd h (show ¬ (-2 : Int) = -4 by decide)
end
section
set_option maxRecDepth 100000 in
set_option maxHeartbeats 4000000 in
theorem x_Rep_takeFrom (l : Launch) {D : Dt} (hD : OkD D) {r r2 : Nat} {c : Cs} {τ : Cs × (Nat → Int64)} {R O : Rp} {b : List Nat} (hr : r < 2) (hr2 : r2 < 2) (hrr : r2 ≠ r) (g : RepIs c r R) (o : RepIs c r2 O) (kb : RowIs c 0 b) (ks : Scr c) (wR : WfR R) (wO : WfR O) (hd : R.dwn = false) (hj : R.jrn = none) (hdO : O.dwn = false) : Cp l D y_Rep_takeFrom b_Rep_takeFrom 6 (some .int) 8 [.ref (aRep D r2), .ref (aRep D r)] ((c, τ) : Sg) (fun a u => ∃ c2, u = ((c2, τ) : Sg) ∧ a = some (.int (stI (pullV R O).1)) ∧ RepIs c2 r (pullV R O).2 ∧ RepIs c2 r2 O ∧ RowIs c2 0 b ∧ Scr c2) := by
  have lO := wO.2.2.1
  have wOs := wO.2.2.2.2.2.2 (Or.inr hdO)
  have fR := wR.2.2.2.1
  have lR := wR.2.2.1
  have dR := wR.2.1
  have uci : ∀ {c1 c2 : Cs} {Q : Rp}, Sm (Ci (20 + r)) c1 c2 → (RepIs c1 r2 Q → RepIs c2 r2 Q) ∧ (RowIs c1 0 b → RowIs c2 0 b) ∧ (Scr c1 → Scr c2) := fun hs => ⟨fun h => h.gm hs (fun t ht => by unfold Ci; omega), fun h => h.sm hs (by unfold Ci; omega) (by unfold Ci; omega), fun h => h.gm hs (fun r hr k hk => by unfold Ci; omega)⟩
  have ubp : ∀ {c1 c2 : Cs} {Q P : Rp}, Sm (Bp r2) c1 c2 → (RepIs c1 r Q → RepIs c2 r Q) ∧ (RepIs c1 r2 P → RepIs c2 r2 P) ∧ (RowIs c1 0 b → RowIs c2 0 b) := fun hs => ⟨fun h => h.gm hs (fun t ht => by unfold Bp Rw; omega), fun h => h.gm hs (fun t ht => by unfold Bp Rw; omega), fun h => h.sm hs (by unfold Bp Rw; omega) (by unfold Bp Rw; omega)⟩
  have upr : ∀ {c1 c2 : Cs} {Q : Rp}, Sm (Pr r) c1 c2 → (RepIs c1 r2 Q → RepIs c2 r2 Q) ∧ (RowIs c1 0 b → RowIs c2 0 b) ∧ (Scr c1 → Scr c2) := fun hs => ⟨fun h => h.gm hs (fun t ht => by unfold Pr Rw; omega), fun h => h.sm hs (by unfold Pr Rw; omega) (by unfold Pr Rw; omega), fun h => h.gm hs (fun r hr k hk => by unfold Pr Rw; omega)⟩
  refine Cp.of hD (by decide) (Nat.le_of_ble_eq_true rfl) [(0, some (.ref (aRep D r))), (1, some (.ref (aRep D r2)))] rfl (fun X hX C => ?_)
  subst hX
  have loop : (begn R).1 = true → ∀ (m n : Nat) (c1 : Cs) (R1 : Rp), n + m = O.rcs.length → RepIs c1 r R1 → RepIs c1 r2 O → RowIs c1 0 b → Scr c1 → WfR R1 → R1.dwn = false → Pfx (begn R).2 R1 → plp O O.rcs.length 0 (begn R).2 = plp O m n R1 → G X D (Qp X D (fun a u => ∃ c2, u = ((c2, τ) : Sg) ∧ a = some (.int (stI (pullV R O).1)) ∧ RepIs c2 r (pullV R O).2 ∧ RepIs c2 r2 O ∧ RowIs c2 0 b ∧ Scr c2)) (0, 0) ((c1, τ) : Sg) 17 [(0, some (.ref (aRep D r))), (1, some (.ref (aRep D r2))), (2, some (.int (nI R.fai))), (3, some (.int (nI n)))] [] := by
    intro hbt m
    obtain ⟨ba, bb, bc, bd⟩ := begn_all hbt hd
    have hpj : ∀ {Q : Rp}, Pfx (begn R).2 Q → Q.jrn = some (R.dat.length, R.rcs.length) ∧ R.rcs.length ≤ Q.rcs.length := fun hp => by
      obtain ⟨-, ⟨v, hv⟩, h3⟩ := hp
      refine ⟨h3.trans bc, ?_⟩
      rw [hv, bb, List.length_append]
      omega
    induction m with
    | zero =>
      intro n c1 R1 hn g1 o1 kb1 ks1 w1 d1 hp he
      have he : plp O O.rcs.length 0 (begn R).2 = (0, R1) := he
      obtain ⟨j1, l1⟩ := hpj hp
      have l24 := w1.2.2.1
      refine g_iload_n (pc := 17) (i := 3) C d_Rep_takeFrom_17 rfl rfl ?_
      refine g_aload_n (pc := 18) (i := 1) C d_Rep_takeFrom_18 rfl rfl ?_
      refine gf_Rep_recordCount (pc := 19) C (by omega) fl_Rep_27 d_Rep_takeFrom_19 ?_
      rw [o1.1.1]
      refine g_icmp_ge (pc := 22) (tgt := 119) C d_Rep_takeFrom_22 (by decide) (fun h22 => ?_) (fun h22 => ?_)
      · skip
        refine g_aload_n (pc := 119) (i := 0) C d_Rep_takeFrom_119 rfl rfl ?_
        refine gf_Rep_recordCount (pc := 120) C (by omega) fl_Rep_27 d_Rep_takeFrom_120 ?_
        rw [g1.1.1]
        refine g_aload_n (pc := 123) (i := 0) C d_Rep_takeFrom_123 rfl rfl ?_
        refine gf_Rep_journalRecords (pc := 124) C (by omega) fl_Rep_68 d_Rep_takeFrom_124 ?_
        rw [(g1.1.2.2.1 _ j1).2]
        refine g_isub (pc := 127) C d_Rep_takeFrom_127 ?_
        rw [pk_sub l1]
        refine g_istore_n (pc := 128) (i := 3) C d_Rep_takeFrom_128 rfl (by decide) rfl ?_
        refine g_aload_n (pc := 129) (i := 0) C d_Rep_takeFrom_129 rfl rfl ?_
        refine g_callVp (pc := 130) (As := []) C my_Rep_removeJournal mv_Rep_removeJournal cl_Rep_74 (is_Rep (by omega)) d_Rep_takeFrom_130 (Nat.le_of_ble_eq_true rfl) rfl (Nat.le_of_ble_eq_true rfl) ⟨Nat.zero_le _, Nat.zero_le _⟩ (x_Rep_removeJournal _ hD (by omega) g1 d1 w1.2.2.2.1) (fun r130 u130 hp130 => ?_)
        obtain ⟨c2, rfl, rfl, g2, s2⟩ := hp130
        obtain ⟨u1, u2, u3⟩ := uci (Q := O) s2
        refine g_if_eq (pc := 133) (tgt := 140) C d_Rep_takeFrom_133 (by decide) (fun h133 => ?_) (fun h133 => ?_)
        · have hf := b1_0 h133
          refine g_bipush (pc := 140) C d_Rep_takeFrom_140 bp_m2 ?_
          refine g_iret (pc := 142) C d_Rep_takeFrom_142 ?_
          rw [pull_0 hbt he, if_neg hf]
          exact ⟨c2, rfl, by rw [oi_s2], g2, u1 o1, u2 kb1, u3 ks1⟩
        · have hf := b1_1 h133
          refine g_iload_n (pc := 136) (i := 3) C d_Rep_takeFrom_136 rfl rfl ?_
          refine g_goto (pc := 137) (tgt := 142) C d_Rep_takeFrom_137 (by decide) ?_
          refine g_iret (pc := 142) C d_Rep_takeFrom_142 ?_
          rw [pull_0 hbt he, if_pos hf]
          exact ⟨c2, rfl, by rw [oi_sn], g2, u1 o1, u2 kb1, u3 ks1⟩
      · first | exact absurd h22 (nI_le (by omega) (by omega)) | exact absurd (nI_le (by omega) (by omega)) h22
    | succ m ih =>
      intro n c1 R1 hn g1 o1 kb1 ks1 w1 d1 hp he
      obtain ⟨j1, l1⟩ := hpj hp
      have l24 := w1.2.2.1
      have w1s := w1.2.2.2.2.2.2 (Or.inr d1)
      obtain ⟨x, hxn⟩ : ∃ x, O.rcs[n]? = some x := ⟨_, List.getElem?_eq_getElem (show n < O.rcs.length by omega)⟩
      have hrec := o1.2.2.2 n x hxn
      have hwx := wOs n x hxn
      have fl : ∀ k, find R1.rcs x.nod = some k → k < 2 ^ 31 := fun k e => by have := find_lt e; omega
      obtain ⟨y2, hy2⟩ := (ks1 r2 hr2).1
      have hnO : n < O.rcs.length := by omega
      refine g_iload_n (pc := 17) (i := 3) C d_Rep_takeFrom_17 rfl rfl ?_
      refine g_aload_n (pc := 18) (i := 1) C d_Rep_takeFrom_18 rfl rfl ?_
      refine gf_Rep_recordCount (pc := 19) C (by omega) fl_Rep_27 d_Rep_takeFrom_19 ?_
      rw [o1.1.1]
      refine g_icmp_ge (pc := 22) (tgt := 119) C d_Rep_takeFrom_22 (by decide) (fun h22 => ?_) (fun h22 => ?_)
      · first | exact absurd h22 (nI_ge hnO (by omega)) | exact absurd (nI_ge hnO (by omega)) h22
      · skip
        refine g_aload_n (pc := 25) (i := 1) C d_Rep_takeFrom_25 rfl rfl ?_
        refine gf_Rep_records (pc := 26) C (by omega) fl_Rep_22 d_Rep_takeFrom_26 ?_
        refine g_iload_n (pc := 29) (i := 3) C d_Rep_takeFrom_29 rfl rfl ?_
        refine ga_rcs (pc := 30) C (by omega) (by omega) d_Rep_takeFrom_30 ?_
        refine g_astore (pc := 31) C d_Rep_takeFrom_31 (by decide) rfl ?_
        refine g_aload_n (pc := 33) (i := 0) C d_Rep_takeFrom_33 rfl rfl ?_
        refine g_aload (pc := 34) C d_Rep_takeFrom_34 rfl ?_
        refine gf_Rec_node (pc := 36) C (by omega) fl_Rep_84 d_Rep_takeFrom_36 ?_
        rw [hrec.2.2.2.2.2.2]
        refine g_callV1 (pc := 39) (As := [_]) C my_Rep_find mv_Rep_find cl_Rep_88 (is_Rep (by omega)) d_Rep_takeFrom_39 (Nat.le_of_ble_eq_true rfl) rfl (Nat.le_of_ble_eq_true rfl) ⟨Nat.zero_le _, Nat.zero_le _⟩ (c_Rep_find _ hD (by omega) g1.1.1 g1.2.2) ?_
        refine g_iconst (pc := 42) C d_Rep_takeFrom_42 ic_m1 ?_
        refine g_icmp_ne (pc := 43) (tgt := 113) C d_Rep_takeFrom_43 (by decide) (fun h43 => ?_) (fun h43 => ?_)
        · obtain ⟨k, hfd⟩ : ∃ k, find R1.rcs x.nod = some k := by
            cases hfd : find R1.rcs x.nod with
            | none => exact absurd (by rw [hfd]; rfl) h43
            | some k => exact ⟨k, rfl⟩
          refine g_iinc (pc := 113) C d_Rep_takeFrom_113 rfl (v := nI (n + 1)) (nI_inc n) rfl ?_
          refine g_goto (pc := 116) (tgt := 17) C d_Rep_takeFrom_116 (by decide) ?_
          rw [plp_f hxn hfd] at he
          exact G.lf (ih (n + 1) c1 R1 (by omega) g1 o1 kb1 ks1 w1 d1 hp he) (sb rfl (sb rfl (sb rfl (sb rfl sn))))
        · have hfd := (eo_m1 fl).mp h43
          refine g_bipush (pc := 46) C d_Rep_takeFrom_46 bp_m3 ?_
          refine g_istore (pc := 48) C d_Rep_takeFrom_48 (by decide) rfl ?_
          refine g_aload_n (pc := 50) (i := 1) C d_Rep_takeFrom_50 rfl rfl ?_
          refine g_iload_n (pc := 51) (i := 3) C d_Rep_takeFrom_51 rfl rfl ?_
          refine g_callVp (pc := 52) (As := [_]) C my_Rep_build mv_Rep_build cl_Rep_92 (is_Rep (by omega)) d_Rep_takeFrom_52 (Nat.le_of_ble_eq_true rfl) rfl (Nat.le_of_ble_eq_true rfl) ⟨Nat.zero_le _, Nat.zero_le _⟩ (x_Rep_build _ hD (by omega) o1.2.2 o1.2.1 wO.1 wOs hnO hy2) (fun r52 u52 hp52 => ?_)
          obtain ⟨c2, rfl, s2, hp2⟩ := hp52
          obtain ⟨v1, v2, v3⟩ := ubp (Q := R1) (P := O) s2
          have g2 := v1 g1
          have o2 := v2 o1
          have kb2 := v3 kb1
          have hrec2 := o2.2.2.2 n x hxn
          have ks2 : Scr c2 := ks1.bp s2 hr2 (by
            rcases hp2 with ⟨t, -, -, h⟩ | ⟨-, -, h⟩
            · exact ⟨t, h⟩
            · exact h)
          rcases hp2 with ⟨t, e1, rfl, r2t⟩ | ⟨e1, rfl, -⟩
          rotate_left
          · rw [plp_n hxn hfd e1] at he
            refine g_if_eq (pc := 55) (tgt := 88) C d_Rep_takeFrom_55 (by decide) (fun h55 => ?_) (fun h55 => ?_)
            · refine g_iload (pc := 88) C d_Rep_takeFrom_88 rfl ?_
              refine g_bipush (pc := 90) C d_Rep_takeFrom_90 bp_m2 ?_
              refine g_icmp_ne (pc := 92) (tgt := 98) C d_Rep_takeFrom_92 (by decide) (fun h92 => ?_) (fun h92 => ?_)
              · refine g_iload (pc := 98) C d_Rep_takeFrom_98 rfl ?_
                refine g_bipush (pc := 100) C d_Rep_takeFrom_100 bp_m3 ?_
                refine g_icmp_ne (pc := 102) (tgt := 113) C d_Rep_takeFrom_102 (by decide) (fun h102 => ?_) (fun h102 => ?_)
                · exact absurd rfl h102
                · refine g_aload_n (pc := 105) (i := 0) C d_Rep_takeFrom_105 rfl rfl ?_
                  refine g_iload_n (pc := 106) (i := 2) C d_Rep_takeFrom_106 rfl rfl ?_
                  refine g_callVp (pc := 107) (As := [_]) C my_Rep_undo mv_Rep_undo cl_Rep_109 (is_Rep (by omega)) d_Rep_takeFrom_107 (Nat.le_of_ble_eq_true rfl) rfl (Nat.le_of_ble_eq_true rfl) ⟨Nat.zero_le _, Nat.zero_le _⟩ (x_Rep_undo _ hD (by omega) g2 j1 l1 (by omega)) (fun r107 u107 hp107 => ?_)
                  obtain ⟨c4, rfl, rfl, g4, s4⟩ := hp107
                  obtain ⟨z1, z2, z3⟩ := upr (Q := O) s4
                  refine g_bipush (pc := 110) C d_Rep_takeFrom_110 bp_m3 ?_
                  refine g_iret (pc := 112) C d_Rep_takeFrom_112 ?_
                  rw [pull_4 hbt he]
                  rw [undoR hbt hd hj hp d1] at g4
                  exact ⟨c4, rfl, by rw [oi_m4], g4, z1 o2, z2 kb2, z3 ks2⟩
              · exact absurd h92 (by decide)
            · exact absurd rfl h55
          have kt := by_built wO.1 e1
          rw [plp_s hxn hfd e1] at he
          refine g_if_eq (pc := 55) (tgt := 88) C d_Rep_takeFrom_55 (by decide) (fun h55 => ?_) (fun h55 => ?_)
          · first | exact absurd h55 (by decide) | exact absurd (by decide) h55
          · skip
            refine g_aload_n (pc := 58) (i := 0) C d_Rep_takeFrom_58 rfl rfl ?_
            refine g_aload_n (pc := 59) (i := 1) C d_Rep_takeFrom_59 rfl rfl ?_
            refine gf_Rep_built (pc := 60) C (by omega) fl_Rep_41 d_Rep_takeFrom_60 ?_
            refine g_aload_n (pc := 63) (i := 0) C d_Rep_takeFrom_63 rfl rfl ?_
            refine g_aload_n (pc := 64) (i := 1) C d_Rep_takeFrom_64 rfl rfl ?_
            refine g_aload (pc := 65) C d_Rep_takeFrom_65 rfl ?_
            refine gf_Rec_p1 (pc := 67) C (by omega) fl_Rep_95 d_Rep_takeFrom_67 ?_
            rw [hrec2.2.2.2.2.1]
            refine g_callV1 (pc := 70) (As := [_, _]) C my_Rep_twinOf mv_Rep_twinOf cl_Rep_98 (is_Rep (by omega)) d_Rep_takeFrom_70 (Nat.le_of_ble_eq_true rfl) rfl (Nat.le_of_ble_eq_true rfl) ⟨Nat.zero_le _, Nat.zero_le _⟩ (c_Rep_twinOf _ hD (by omega) (by omega) g2.1.1 g2.2.2 o2.2.2 (fun q hq => by have := hwx.2.1 q hq; omega)) ?_
            refine g_aload_n (pc := 73) (i := 0) C d_Rep_takeFrom_73 rfl rfl ?_
            refine g_aload_n (pc := 74) (i := 1) C d_Rep_takeFrom_74 rfl rfl ?_
            refine g_aload (pc := 75) C d_Rep_takeFrom_75 rfl ?_
            refine gf_Rec_p2 (pc := 77) C (by omega) fl_Rep_102 d_Rep_takeFrom_77 ?_
            rw [hrec2.2.2.2.2.2.1]
            refine g_callV1 (pc := 80) (As := [_, _]) C my_Rep_twinOf mv_Rep_twinOf cl_Rep_98 (is_Rep (by omega)) d_Rep_takeFrom_80 (Nat.le_of_ble_eq_true rfl) rfl (Nat.le_of_ble_eq_true rfl) ⟨Nat.zero_le _, Nat.zero_le _⟩ (c_Rep_twinOf _ hD (by omega) (by omega) g2.1.1 g2.2.2 o2.2.2 (fun q hq => by have := hwx.2.2.1 q hq; omega)) ?_
            obtain ⟨ka, kc, kd⟩ := ks2 r hr
            refine g_callVp (pc := 83) (As := [_, _, _]) C my_Rep_store mv_Rep_store cl_Rep_105 (is_Rep (by omega)) d_Rep_takeFrom_83 (Nat.le_of_ble_eq_true rfl) rfl (Nat.le_of_ble_eq_true rfl) ⟨Nat.zero_le _, Nat.zero_le _⟩ (x_Rep_store _ hD (q1 := twn R1 O x.pa) (q2 := twn R1 O x.pb) (by omega) (by omega) (by omega) g2 w1.1 w1s d1 w1.2.2.2.1 twn_lt twn_lt r2t kt.1 kt.2 ka kc kd) (fun r83 u83 hp83 => ?_)
            obtain ⟨c3, rfl, rfl, g3, k23, k33, k43, s3⟩ := hp83
            have wS := stor_all (p := twn R1 O x.pa) (q := twn R1 O x.pb) w1 d1 twn_lt twn_lt kt.1 kt.2
            have o3 := o2.sn s3 hr hr2 hrr
            have kb3 : RowIs c3 0 b := kb2.sn s3 (by unfold Sc Pr Rw; omega) (by unfold Sc Pr Rw; omega)
            have ks3 := ks2.sn s3 hr k23 k33 k43
            have hv : (stor R1 (twn R1 O x.pa) (twn R1 O x.pb) t).1 = -2 ∨ (stor R1 (twn R1 O x.pa) (twn R1 O x.pb) t).1 = -4 ∨ ∃ k : Nat, k ≤ 24 ∧ (stor R1 (twn R1 O x.pa) (twn R1 O x.pb) t).1 = k := wS.2.2.elim Or.inl (fun q => Or.inr (q.elim Or.inl (fun q => Or.inr q.2)))
            have hp3 := hp.tr wS.2.1
            obtain ⟨j3, l3⟩ := hpj hp3
            refine g_istore (pc := 86) C d_Rep_takeFrom_86 (by decide) rfl ?_
            refine g_iload (pc := 88) C d_Rep_takeFrom_88 rfl ?_
            refine g_bipush (pc := 90) C d_Rep_takeFrom_90 bp_m2 ?_
            refine g_icmp_ne (pc := 92) (tgt := 98) C d_Rep_takeFrom_92 (by decide) (fun h92 => ?_) (fun h92 => ?_)
            · have hn2 := fun e => h92 ((stI_2 hv).mpr e)
              refine g_iload (pc := 98) C d_Rep_takeFrom_98 rfl ?_
              refine g_bipush (pc := 100) C d_Rep_takeFrom_100 bp_m3 ?_
              refine g_icmp_ne (pc := 102) (tgt := 113) C d_Rep_takeFrom_102 (by decide) (fun h102 => ?_) (fun h102 => ?_)
              · have hn4 := fun e => h102 ((stI_4 hv).mpr e)
                rw [if_neg (fun q => q.elim hn2 hn4)] at he
                have dS : (stor R1 (twn R1 O x.pa) (twn R1 O x.pb) t).2.dwn = false := (wS.2.2.resolve_left hn2 |>.resolve_left hn4).1
                refine g_iinc (pc := 113) C d_Rep_takeFrom_113 rfl (v := nI (n + 1)) (nI_inc n) rfl ?_
                refine g_goto (pc := 116) (tgt := 17) C d_Rep_takeFrom_116 (by decide) ?_
                exact G.lf (ih (n + 1) c3 _ (by omega) g3 o3 kb3 ks3 wS.1 dS (hp.tr wS.2.1) he) (sb rfl (sb rfl (sb rfl (sb rfl sn))))
              · have hn4 := (stI_4 hv).mp h102
                rw [if_pos (Or.inr hn4)] at he
                refine g_aload_n (pc := 105) (i := 0) C d_Rep_takeFrom_105 rfl rfl ?_
                refine g_iload_n (pc := 106) (i := 2) C d_Rep_takeFrom_106 rfl rfl ?_
                refine g_callVp (pc := 107) (As := [_]) C my_Rep_undo mv_Rep_undo cl_Rep_109 (is_Rep (by omega)) d_Rep_takeFrom_107 (Nat.le_of_ble_eq_true rfl) rfl (Nat.le_of_ble_eq_true rfl) ⟨Nat.zero_le _, Nat.zero_le _⟩ (x_Rep_undo _ hD (by omega) g3 j3 l3 (by omega)) (fun r107 u107 hp107 => ?_)
                obtain ⟨c4, rfl, rfl, g4, s4⟩ := hp107
                obtain ⟨z1, z2, z3⟩ := upr (Q := O) s4
                refine g_bipush (pc := 110) C d_Rep_takeFrom_110 bp_m3 ?_
                refine g_iret (pc := 112) C d_Rep_takeFrom_112 ?_
                have he2 : plp O O.rcs.length 0 (begn R).2 = (-4, (stor R1 (twn R1 O x.pa) (twn R1 O x.pb) t).2) := by rw [he, ← hn4]
                rw [pull_4 hbt he2]
                rw [undoR hbt hd hj hp3 (stor_d4 d1 hn4)] at g4
                exact ⟨c4, rfl, by rw [oi_m4], g4, z1 o3, z2 kb3, z3 ks3⟩
            · have hn2 := (stI_2 hv).mp h92
              rw [if_pos (Or.inl hn2)] at he
              refine g_bipush (pc := 95) C d_Rep_takeFrom_95 bp_m2 ?_
              refine g_iret (pc := 97) C d_Rep_takeFrom_97 ?_
              have he2 : plp O O.rcs.length 0 (begn R).2 = (-2, (stor R1 (twn R1 O x.pa) (twn R1 O x.pb) t).2) := by rw [he, ← hn2]
              rw [pull_2 hbt he2]
              exact ⟨c3, rfl, by rw [oi_s2], g3, o3, kb3, ks3⟩
  refine g_aload_n (pc := 0) (i := 0) C d_Rep_takeFrom_0 rfl rfl ?_
  refine gf_Rep_writesToFailure (pc := 1) C (by omega) fl_Rep_38 d_Rep_takeFrom_1 ?_
  rw [g.1.2.2.2.2]
  refine g_istore_n (pc := 4) (i := 2) C d_Rep_takeFrom_4 rfl (by decide) rfl ?_
  refine g_aload_n (pc := 5) (i := 0) C d_Rep_takeFrom_5 rfl rfl ?_
  refine g_callVp (pc := 6) (As := []) C my_Rep_openJournal mv_Rep_openJournal cl_Rep_81 (is_Rep (by omega)) d_Rep_takeFrom_6 (Nat.le_of_ble_eq_true rfl) rfl (Nat.le_of_ble_eq_true rfl) ⟨Nat.zero_le _, Nat.zero_le _⟩ (x_Rep_openJournal _ hD (by omega) g hd fR) (fun r6 u6 hp6 => ?_)
  obtain ⟨c1, rfl, rfl, g1, s1⟩ := hp6
  obtain ⟨u1, u2, u3⟩ := uci (Q := O) s1
  refine g_if_ne (pc := 9) (tgt := 15) C d_Rep_takeFrom_9 (by decide) (fun h9 => ?_) (fun h9 => ?_)
  · have hbt := b1_1 h9
    refine g_iconst (pc := 15) C d_Rep_takeFrom_15 icn_0 ?_
    refine g_istore_n (pc := 16) (i := 3) C d_Rep_takeFrom_16 rfl (by decide) rfl ?_
    exact G.lf (loop hbt O.rcs.length 0 c1 _ (by omega) g1 (u1 o) (u2 kb) (u3 ks) (begn_wf wR hd) (begn_all hbt hd).2.2.2 Pfx.rf rfl) (sb rfl (sb rfl (sb rfl (sb rfl sn))))
  · have hbt := b1_0 h9
    refine g_bipush (pc := 12) C d_Rep_takeFrom_12 bp_m2 ?_
    refine g_iret (pc := 14) C d_Rep_takeFrom_14 ?_
    rw [pull_b hbt]
    exact ⟨c1, rfl, by rw [oi_s2], g1, u1 o, u2 kb, u3 ks⟩
end
section
/-! the system's whole state, and what its questions answer -/
def CAbs (c : Cs) (V : Vt) : Prop := RowIs c 0 V.1 ∧ RepIs c 0 (V.2 0) ∧ RepIs c 1 (V.2 1) ∧ Scr c
def WfV (V : Vt) : Prop := By V.1 ∧ V.1.length ≤ 60 ∧ WfR (V.2 0) ∧ WfR (V.2 1)
theorem CAbs.rep {c : Cs} {V : Vt} (h : CAbs c V) {q : Nat} (hq : q < 2) : RepIs c q (V.2 q) := by
  rcases (show q = 0 ∨ q = 1 by omega) with rfl | rfl
  · exact h.2.1
  · exact h.2.2.1
theorem WfV.rep {V : Vt} (h : WfV V) {q : Nat} (hq : q < 2) : WfR (V.2 q) := by
  rcases (show q = 0 ∨ q = 1 by omega) with rfl | rfl
  · exact h.2.2.1
  · exact h.2.2.2
def upR (V : Vt) (q : Nat) (R : Rp) : Vt := (V.1, fun k => if k = q then R else V.2 k)
theorem upR_s {V : Vt} {q : Nat} {R : Rp} : (upR V q R).2 q = R := by simp [upR]
theorem upR_n {V : Vt} {q k : Nat} {R : Rp} (h : k ≠ q) : (upR V q R).2 k = V.2 k := by simp [upR, h]
/-- putting a repository's new value into the whole -/
theorem CAbs.up {c c2 : Cs} {V : Vt} {q : Nat} {R : Rp} (h : CAbs c V) (hq : q < 2) (hb : RowIs c 0 V.1 → RowIs c2 0 V.1) (hR : RepIs c2 q R) (ho : ∀ k, k < 2 → k ≠ q → RepIs c k (V.2 k) → RepIs c2 k (V.2 k)) (hs : Scr c2) : CAbs c2 (upR V q R) := by
  refine ⟨hb h.1, ?_, ?_, hs⟩
  · by_cases e : 0 = q
    · subst e
      rw [upR_s]
      exact hR
    · rw [upR_n e]
      exact ho 0 (by decide) e h.2.1
  · by_cases e : 1 = q
    · subst e
      rw [upR_s]
      exact hR
    · rw [upR_n e]
      exact ho 1 (by decide) e h.2.2.1
theorem WfV.up {V : Vt} {q : Nat} {R : Rp} (h : WfV V) (hR : WfR R) : WfV (upR V q R) := by
  refine ⟨h.1, h.2.1, ?_, ?_⟩
  · by_cases e : 0 = q
    · subst e
      rw [upR_s]
      exact hR
    · rw [upR_n e]
      exact h.2.2.1
  · by_cases e : 1 = q
    · subst e
      rw [upR_s]
      exact hR
    · rw [upR_n e]
      exact h.2.2.2
def okr (r : Int32) : Prop := 0 ≤ r ∧ r < 2
def barV (V : Vt) (r : Int32) : Int32 := if 0 ≤ r ∧ r < 2 then (if (V.2 r.toNatClampNeg).dwn = true then -2 else 0) else -1
theorem two : (2 : Int32) = nI 2 := by decide +kernel
theorem okr_n {r : Int32} (h : 0 ≤ r ∧ r < 2) : ∃ q, q < 2 ∧ r = nI q := by
  rw [two] at h
  exact nI_at h (by decide)
theorem okr_i {q : Nat} (h : q < 2) : 0 ≤ nI q ∧ nI q < 2 := ⟨nI_pos' (by omega), by rw [two]; exact nI_lt h (by decide)⟩
theorem bar_q {V : Vt} {q : Nat} (hq : q < 2) : barV V (nI q) = if (V.2 q).dwn = true then -2 else 0 := by
  unfold barV
  rw [if_pos (okr_i hq), nI_clamp (by omega)]
theorem bar_0 {V : Vt} {r : Int32} (h : barV V r = 0) : ∃ q, q < 2 ∧ r = nI q ∧ (V.2 q).dwn = false := by
  unfold barV at h
  split at h
  · rename_i h1
    obtain ⟨q, hq, rfl⟩ := okr_n h1
    rw [nI_clamp (by omega)] at h
    split at h
    · exact absurd h (by decide)
    · rename_i h2
      exact ⟨q, hq, rfl, by simpa using h2⟩
  · exact absurd h (by decide)
theorem bar_up {V : Vt} {q : Nat} (hq : q < 2) (h : (V.2 q).dwn = false) : barV V (nI q) = 0 := by
  rw [bar_q hq, if_neg (by rw [h]; exact fun e => by cases e)]
/-- what the questions answer -/
def oRevisions (V : Vt) (r : Int32) : Int32 := if barV V r = 0 then nI (V.2 r.toNatClampNeg).rcs.length else barV V r
def oNode (V : Vt) (r n : Int32) : Int64 := if barV V r = 0 ∧ 0 ≤ n ∧ n < nI (V.2 r.toNatClampNeg).rcs.length then nodP (V.2 r.toNatClampNeg).rcs (some n.toNatClampNeg) else 0
def oData (V : Vt) (r k : Int32) : Int32 := if barV V r = 0 then (if k = -1 then nI (V.2 r.toNatClampNeg).dat.length else if 0 ≤ k ∧ k < nI (V.2 r.toNatClampNeg).dat.length then nI ((V.2 r.toNatClampNeg).dat.getD k.toNatClampNeg 0) else -1) else barV V r
def oWrong (V : Vt) (r : Int32) : Int32 := if barV V r = 0 then nI (cw (V.2 r.toNatClampNeg).dat (V.2 r.toNatClampNeg).rcs (V.2 r.toNatClampNeg).rcs.length) else barV V r
def oFail (V : Vt) (r n : Int32) : Bool × Vt := if barV V r = 0 ∧ 0 ≤ n ∧ n ≤ 100 then (true, upR V r.toNatClampNeg ((V.2 r.toNatClampNeg).dat, (V.2 r.toNatClampNeg).rcs, (V.2 r.toNatClampNeg).jrn, (V.2 r.toNatClampNeg).dwn, n.toNatClampNeg)) else (false, V)
theorem nI_100 : (100 : Int32) = nI 100 := by decide +kernel
theorem RepIs.fa {c : Cs} {q n : Nat} {R : Rp} (h : RepIs c q R) (hq : q < 2) : RepIs (wI c (20 + q) 5 (nI n)) q (R.dat, R.rcs, R.jrn, R.dwn, n) := by
  refine h.fs hq sm_c1 ⟨?_, ?_, fun p hp => ?_, ?_, ?_⟩ rfl h.2.2.1 (fun _ _ h => h)
  · rw [wI_1s, pk_un (by decide)]
    exact h.1.1
  · rw [wI_1s, pk_un (by decide)]
    exact h.1.2.1
  · rw [wI_1s, pk_un (by decide), pk_un (by decide)]
    exact h.1.2.2.1 p hp
  · rw [wI_1s, pk_un (by decide)]
    exact h.1.2.2.2.1
  · rw [wI_1s, pk_us]
    rfl
theorem CAbs.ci {c c2 : Cs} {V : Vt} {q : Nat} {R : Rp} (h : CAbs c V) (hq : q < 2) (hs : Sm (Ci (20 + q)) c c2) (hR : RepIs c2 q R) : CAbs c2 (upR V q R) := h.up hq (fun k => k.sm hs (by unfold Ci; omega) (by unfold Ci; omega)) hR (fun k hk hn g => g.gm hs (fun t ht => by unfold Ci; omega)) (h.2.2.2.gm hs (fun r hr k hk => by unfold Ci; omega))
end
section
theorem i32_2 : (2 : Int32).toInt = 2 := by decide +kernel
set_option maxRecDepth 100000 in
set_option maxHeartbeats 4000000 in
theorem c_V_isRepository (l : Launch) {D : Dt} (hD : OkD D) {k : Int32} {σ : Sg}  : Ct l D y_V_isRepository b_V_isRepository 1 (some .boolean) 1 [.int k] σ (some (.int (b1 (0 ≤ k ∧ k < 2)))) σ := by
  refine Ct.of hD (by decide) (Nat.le_of_ble_eq_true rfl) [(0, some (.int k))] rfl (fun X hX C => ?_)
  subst hX
  refine g_iload_n (pc := 0) (i := 0) C d_V_isRepository_0 rfl rfl ?_
  refine g_if_lt (pc := 1) (tgt := 13) C d_V_isRepository_1 (by decide) (fun h1 => ?_) (fun h1 => ?_)
  · skip
    refine g_iconst (pc := 13) C d_V_isRepository_13 ic_0 ?_
    refine g_zret (pc := 14) C d_V_isRepository_14 (by first | exact Or.inl rfl | exact Or.inr rfl) ?_
    refine ⟨congrArg (fun v => some (Value.int v)) ?_, rfl⟩
    first | exact (b1_t (by constructor <;> (simp only [Int32.lt_iff_toInt_lt, Int32.le_iff_toInt_le, Int32.toInt_zero, i32_1, i32_2] at *; omega))).symm | exact (b1_f (by intro h; obtain ⟨ha, hb⟩ := h; (simp only [Int32.lt_iff_toInt_lt, Int32.le_iff_toInt_le, Int32.toInt_zero, i32_1, i32_2] at *; omega))).symm
  · skip
    refine g_iload_n (pc := 4) (i := 0) C d_V_isRepository_4 rfl rfl ?_
    refine g_iconst (pc := 5) C d_V_isRepository_5 ic_2 ?_
    refine g_icmp_ge (pc := 6) (tgt := 13) C d_V_isRepository_6 (by decide) (fun h6 => ?_) (fun h6 => ?_)
    · skip
      refine g_iconst (pc := 13) C d_V_isRepository_13 ic_0 ?_
      refine g_zret (pc := 14) C d_V_isRepository_14 (by first | exact Or.inl rfl | exact Or.inr rfl) ?_
      refine ⟨congrArg (fun v => some (Value.int v)) ?_, rfl⟩
      first | exact (b1_t (by constructor <;> (simp only [Int32.lt_iff_toInt_lt, Int32.le_iff_toInt_le, Int32.toInt_zero, i32_1, i32_2] at *; omega))).symm | exact (b1_f (by intro h; obtain ⟨ha, hb⟩ := h; (simp only [Int32.lt_iff_toInt_lt, Int32.le_iff_toInt_le, Int32.toInt_zero, i32_1, i32_2] at *; omega))).symm
    · skip
      refine g_iconst (pc := 9) C d_V_isRepository_9 ic_1 ?_
      refine g_goto (pc := 10) (tgt := 14) C d_V_isRepository_10 (by decide) ?_
      refine g_zret (pc := 14) C d_V_isRepository_14 (by first | exact Or.inl rfl | exact Or.inr rfl) ?_
      refine ⟨congrArg (fun v => some (Value.int v)) ?_, rfl⟩
      first | exact (b1_t (by constructor <;> (simp only [Int32.lt_iff_toInt_lt, Int32.le_iff_toInt_le, Int32.toInt_zero, i32_1, i32_2] at *; omega))).symm | exact (b1_f (by intro h; obtain ⟨ha, hb⟩ := h; (simp only [Int32.lt_iff_toInt_lt, Int32.le_iff_toInt_le, Int32.toInt_zero, i32_1, i32_2] at *; omega))).symm
set_option maxRecDepth 100000 in
set_option maxHeartbeats 4000000 in
theorem c_V_barTo (l : Launch) {D : Dt} (hD : OkD D) {c : Cs} {τ : Cs × (Nat → Int64)} {V : Vt} {r : Int32} (hC : CAbs c V) : Ct l D y_V_barTo b_V_barTo 2 (some .int) 2 [.int r, .ref (aVlt D)] ((c, τ) : Sg) (some (.int (barV V r))) ((c, τ) : Sg) := by
  refine Ct.of hD (by decide) (Nat.le_of_ble_eq_true rfl) [(0, some (.ref (aVlt D))), (1, some (.int r))] rfl (fun X hX C => ?_)
  subst hX
  refine g_iload_n (pc := 0) (i := 1) C d_V_barTo_0 rfl rfl ?_
  refine g_callS1 (pc := 1) (As := [_]) C my_V_isRepository ms_V_isRepository cl_V_149 d_V_barTo_1 (Nat.le_of_ble_eq_true rfl) rfl (Nat.le_of_ble_eq_true rfl) ⟨Nat.zero_le _, Nat.zero_le _⟩ (c_V_isRepository _ hD) ?_
  refine g_if_ne (pc := 4) (tgt := 9) C d_V_barTo_4 (by decide) (fun h4 => ?_) (fun h4 => ?_)
  · have hb := b1_1 h4
    obtain ⟨q, hq, rfl⟩ := okr_n hb
    have g := hC.rep hq
    rw [bar_q hq]
    refine g_aload_n (pc := 9) (i := 0) C d_V_barTo_9 rfl rfl ?_
    refine gf_V_repositories (pc := 10) C fl_V_20 d_V_barTo_10 ?_
    refine g_iload_n (pc := 13) (i := 1) C d_V_barTo_13 rfl rfl ?_
    refine ga_rps (pc := 14) C (by omega) d_V_barTo_14 ?_
    refine gf_Rep_down (pc := 15) C (by omega) fl_V_47 d_V_barTo_15 ?_
    rw [g.1.2.2.2.1]
    refine g_if_eq (pc := 18) (tgt := 26) C d_V_barTo_18 (by decide) (fun h18 => ?_) (fun h18 => ?_)
    · have hw := b1_0 h18
      refine g_iconst (pc := 26) C d_V_barTo_26 ic_0 ?_
      refine g_iret (pc := 27) C d_V_barTo_27 ?_
      first | exact ⟨by rw [if_neg hw], rfl⟩ | exact ⟨by rw [if_pos hw], rfl⟩
    · have hw := b1_1 h18
      refine g_bipush (pc := 21) C d_V_barTo_21 bp_m2 ?_
      refine g_goto (pc := 23) (tgt := 27) C d_V_barTo_23 (by decide) ?_
      refine g_iret (pc := 27) C d_V_barTo_27 ?_
      first | exact ⟨by rw [if_neg hw], rfl⟩ | exact ⟨by rw [if_pos hw], rfl⟩
  · have hb := b1_0 h4
    refine g_iconst (pc := 7) C d_V_barTo_7 ic_m1 ?_
    refine g_iret (pc := 8) C d_V_barTo_8 ?_
    exact ⟨by unfold barV; rw [if_neg hb], rfl⟩
set_option maxRecDepth 100000 in
set_option maxHeartbeats 4000000 in
theorem c_V_wipe (l : Launch) {D : Dt} (hD : OkD D) {c : Cs} {τ : Cs × (Nat → Int64)} {V : Vt}  : Ct l D y_V_wipe b_V_wipe 1 none 2 [.ref (aVlt D)] ((c, τ) : Sg) (none) ((cutC c 0 (nI 0), τ) : Sg) := by
  refine Ct.of hD (by decide) (Nat.le_of_ble_eq_true rfl) [(0, some (.ref (aVlt D)))] rfl (fun X hX C => ?_)
  subst hX
  refine g_aload_n (pc := 0) (i := 0) C d_V_wipe_0 rfl rfl ?_
  refine gf_V_buffer (pc := 1) C fl_V_14 d_V_wipe_1 ?_
  refine g_iconst (pc := 4) C d_V_wipe_4 icn_0 ?_
  refine g_callV0 (pc := 5) (As := [_]) C my_Row_cut mv_Row_cut cl_V_40 (is_Row (by omega)) d_V_wipe_5 (Nat.le_of_ble_eq_true rfl) rfl (Nat.le_of_ble_eq_true rfl) ⟨Nat.zero_le _, Nat.zero_le _⟩ (c_Row_cut _ hD (by omega)) ?_
  refine g_vret (pc := 8) C d_V_wipe_8 ?_
  exact ⟨rfl, rfl⟩
set_option maxRecDepth 100000 in
set_option maxHeartbeats 4000000 in
theorem c_V_revisions (l : Launch) {D : Dt} (hD : OkD D) {c : Cs} {τ : Cs × (Nat → Int64)} {V : Vt} {r : Int32} (hC : CAbs c V) : Ct l D y_V_revisions b_V_revisions 3 (some .int) 3 [.int r, .ref (aVlt D)] ((c, τ) : Sg) (some (.int (oRevisions V r))) ((c, τ) : Sg) := by
  refine Ct.of hD (by decide) (Nat.le_of_ble_eq_true rfl) [(0, some (.ref (aVlt D))), (1, some (.int r))] rfl (fun X hX C => ?_)
  subst hX
  refine g_aload_n (pc := 0) (i := 0) C d_V_revisions_0 rfl rfl ?_
  refine g_iload_n (pc := 1) (i := 1) C d_V_revisions_1 rfl rfl ?_
  refine g_callV1 (pc := 2) (As := [_]) C my_V_barTo mv_V_barTo cl_V_84 is_V d_V_revisions_2 (Nat.le_of_ble_eq_true rfl) rfl (Nat.le_of_ble_eq_true rfl) ⟨Nat.zero_le _, Nat.zero_le _⟩ (c_V_barTo _ hD hC) ?_
  refine g_istore_n (pc := 5) (i := 2) C d_V_revisions_5 rfl (by decide) rfl ?_
  refine g_iload_n (pc := 6) (i := 2) C d_V_revisions_6 rfl rfl ?_
  refine g_if_eq (pc := 7) (tgt := 14) C d_V_revisions_7 (by decide) (fun h7 => ?_) (fun h7 => ?_)
  · obtain ⟨q, hq, rfl, hw⟩ := bar_0 h7
    have g := hC.rep hq
    have g24 := g.2.2.1
    have e0 := nI_clamp (n := q) (by omega)
    refine g_aload_n (pc := 14) (i := 0) C d_V_revisions_14 rfl rfl ?_
    refine gf_V_repositories (pc := 15) C fl_V_20 d_V_revisions_15 ?_
    refine g_iload_n (pc := 18) (i := 1) C d_V_revisions_18 rfl rfl ?_
    refine ga_rps (pc := 19) C (by omega) d_V_revisions_19 ?_
    refine gf_Rep_recordCount (pc := 20) C (by omega) fl_V_113 d_V_revisions_20 ?_
    rw [g.1.1]
    refine g_iret (pc := 23) C d_V_revisions_23 ?_
    exact ⟨by unfold oRevisions; rw [if_pos h7, e0], rfl⟩
  · skip
    refine g_iload_n (pc := 10) (i := 2) C d_V_revisions_10 rfl rfl ?_
    refine g_goto (pc := 11) (tgt := 23) C d_V_revisions_11 (by decide) ?_
    refine g_iret (pc := 23) C d_V_revisions_23 ?_
    exact ⟨by unfold oRevisions; rw [if_neg h7], rfl⟩
set_option maxRecDepth 100000 in
set_option maxHeartbeats 4000000 in
theorem c_V_node (l : Launch) {D : Dt} (hD : OkD D) {c : Cs} {τ : Cs × (Nat → Int64)} {V : Vt} {r n : Int32} (hC : CAbs c V) : Ct l D y_V_node b_V_node 3 (some .long) 3 [.int n, .int r, .ref (aVlt D)] ((c, τ) : Sg) (some (.long (oNode V r n))) ((c, τ) : Sg) := by
  refine Ct.of hD (by decide) (Nat.le_of_ble_eq_true rfl) [(0, some (.ref (aVlt D))), (1, some (.int r)), (2, some (.int n))] rfl (fun X hX C => ?_)
  subst hX
  refine g_aload_n (pc := 0) (i := 0) C d_V_node_0 rfl rfl ?_
  refine g_iload_n (pc := 1) (i := 1) C d_V_node_1 rfl rfl ?_
  refine g_callV1 (pc := 2) (As := [_]) C my_V_barTo mv_V_barTo cl_V_84 is_V d_V_node_2 (Nat.le_of_ble_eq_true rfl) rfl (Nat.le_of_ble_eq_true rfl) ⟨Nat.zero_le _, Nat.zero_le _⟩ (c_V_barTo _ hD hC) ?_
  refine g_if_ne (pc := 5) (tgt := 21) C d_V_node_5 (by decide) (fun h5 => ?_) (fun h5 => ?_)
  · have hx : ¬ (barV V r = 0 ∧ 0 ≤ n ∧ n < nI (V.2 r.toNatClampNeg).rcs.length) := fun h => h5 h.1
    refine g_lconst (pc := 21) C d_V_node_21 lc_0 ?_
    refine g_lret (pc := 22) C d_V_node_22 ?_
    exact ⟨by unfold oNode; rw [if_neg hx], rfl⟩
  · obtain ⟨q, hq, rfl, hw⟩ := bar_0 h5
    have g := hC.rep hq
    have g24 := g.2.2.1
    have e0 := nI_clamp (n := q) (by omega)
    refine g_aload_n (pc := 8) (i := 0) C d_V_node_8 rfl rfl ?_
    refine gf_V_repositories (pc := 9) C fl_V_20 d_V_node_9 ?_
    refine g_iload_n (pc := 12) (i := 1) C d_V_node_12 rfl rfl ?_
    refine ga_rps (pc := 13) C (by omega) d_V_node_13 ?_
    refine g_iload_n (pc := 14) (i := 2) C d_V_node_14 rfl rfl ?_
    refine g_callV1 (pc := 15) (As := [_]) C my_Rep_hasRevision mv_Rep_hasRevision cl_V_101 (is_Rep (by omega)) d_V_node_15 (Nat.le_of_ble_eq_true rfl) rfl (Nat.le_of_ble_eq_true rfl) ⟨Nat.zero_le _, Nat.zero_le _⟩ (c_Rep_hasRevision _ hD (by omega)) ?_
    rw [g.1.1]
    refine g_if_ne (pc := 18) (tgt := 23) C d_V_node_18 (by decide) (fun h18 => ?_) (fun h18 => ?_)
    · have hb := b1_1 h18
      obtain ⟨k, hk, rfl⟩ := nI_at hb (by omega)
      obtain ⟨x, hx⟩ : ∃ x, (V.2 q).rcs[k]? = some x := ⟨_, List.getElem?_eq_getElem hk⟩
      have gr := g.2.2.2 k x hx
      refine g_aload_n (pc := 23) (i := 0) C d_V_node_23 rfl rfl ?_
      refine gf_V_repositories (pc := 24) C fl_V_20 d_V_node_24 ?_
      refine g_iload_n (pc := 27) (i := 1) C d_V_node_27 rfl rfl ?_
      refine ga_rps (pc := 28) C (by omega) d_V_node_28 ?_
      refine gf_Rep_records (pc := 29) C (by omega) fl_V_116 d_V_node_29 ?_
      refine g_iload_n (pc := 32) (i := 2) C d_V_node_32 rfl rfl ?_
      refine ga_rcs (pc := 33) C (by omega) (by omega) d_V_node_33 ?_
      refine gf_Rec_node (pc := 34) C (by omega) fl_V_125 d_V_node_34 ?_
      rw [gr.2.2.2.2.2.2]
      refine g_lret (pc := 37) C d_V_node_37 ?_
      exact ⟨by unfold oNode; rw [if_pos ⟨h5, by rw [e0]; exact hb⟩, e0, nI_clamp (by omega), nodP_s hx], rfl⟩
    · have hx : ¬ (barV V (nI q) = 0 ∧ 0 ≤ n ∧ n < nI (V.2 (nI q).toNatClampNeg).rcs.length) := fun h => b1_0 h18 (by rw [e0] at h; exact h.2)
      refine g_lconst (pc := 21) C d_V_node_21 lc_0 ?_
      refine g_lret (pc := 22) C d_V_node_22 ?_
      exact ⟨by unfold oNode; rw [if_neg hx], rfl⟩
set_option maxRecDepth 100000 in
set_option maxHeartbeats 4000000 in
theorem c_V_data (l : Launch) {D : Dt} (hD : OkD D) {c : Cs} {τ : Cs × (Nat → Int64)} {V : Vt} {r k : Int32} (hC : CAbs c V) : Ct l D y_V_data b_V_data 5 (some .int) 3 [.int k, .int r, .ref (aVlt D)] ((c, τ) : Sg) (some (.int (oData V r k))) ((c, τ) : Sg) := by
  refine Ct.of hD (by decide) (Nat.le_of_ble_eq_true rfl) [(0, some (.ref (aVlt D))), (1, some (.int r)), (2, some (.int k))] rfl (fun X hX C => ?_)
  subst hX
  refine g_aload_n (pc := 0) (i := 0) C d_V_data_0 rfl rfl ?_
  refine g_iload_n (pc := 1) (i := 1) C d_V_data_1 rfl rfl ?_
  refine g_callV1 (pc := 2) (As := [_]) C my_V_barTo mv_V_barTo cl_V_84 is_V d_V_data_2 (Nat.le_of_ble_eq_true rfl) rfl (Nat.le_of_ble_eq_true rfl) ⟨Nat.zero_le _, Nat.zero_le _⟩ (c_V_barTo _ hD hC) ?_
  refine g_istore_n (pc := 5) (i := 3) C d_V_data_5 rfl (by decide) rfl ?_
  refine g_iload_n (pc := 6) (i := 3) C d_V_data_6 rfl rfl ?_
  refine g_if_eq (pc := 7) (tgt := 12) C d_V_data_7 (by decide) (fun h7 => ?_) (fun h7 => ?_)
  · obtain ⟨q, hq, rfl, hw⟩ := bar_0 h7
    have g := hC.rep hq
    have gl := g.2.1.2.1
    have gl2 := rl_1 hq
    have e0 := nI_clamp (n := q) (by omega)
    refine g_aload_n (pc := 12) (i := 0) C d_V_data_12 rfl rfl ?_
    refine gf_V_repositories (pc := 13) C fl_V_20 d_V_data_13 ?_
    refine g_iload_n (pc := 16) (i := 1) C d_V_data_16 rfl rfl ?_
    refine ga_rps (pc := 17) C (by omega) d_V_data_17 ?_
    refine gf_Rep_data (pc := 18) C (by omega) fl_V_129 d_V_data_18 ?_
    refine g_astore (pc := 21) C d_V_data_21 (by decide) rfl ?_
    refine g_iload_n (pc := 23) (i := 2) C d_V_data_23 rfl rfl ?_
    refine g_iconst (pc := 24) C d_V_data_24 ic_m1 ?_
    refine g_icmp_ne (pc := 25) (tgt := 34) C d_V_data_25 (by decide) (fun h25 => ?_) (fun h25 => ?_)
    · skip
      refine g_aload (pc := 34) C d_V_data_34 rfl ?_
      refine g_iload_n (pc := 36) (i := 2) C d_V_data_36 rfl rfl ?_
      refine g_callV1 (pc := 37) (As := [_]) C my_Row_has mv_Row_has cl_V_132 (is_Row (by omega)) d_V_data_37 (Nat.le_of_ble_eq_true rfl) rfl (Nat.le_of_ble_eq_true rfl) ⟨Nat.zero_le _, Nat.zero_le _⟩ (c_Row_has _ hD (by omega)) ?_
      rw [g.2.1.1]
      refine g_if_eq (pc := 40) (tgt := 52) C d_V_data_40 (by decide) (fun h40 => ?_) (fun h40 => ?_)
      · have hb := b1_0 h40
        refine g_iconst (pc := 52) C d_V_data_52 ic_m1 ?_
        refine g_iret (pc := 53) C d_V_data_53 ?_
        exact ⟨by unfold oData; rw [if_pos h7, if_neg h25, e0, if_neg hb], rfl⟩
      · have hb := b1_1 h40
        obtain ⟨i, hi, rfl⟩ := nI_at hb (by omega)
        refine g_aload (pc := 43) C d_V_data_43 rfl ?_
        refine g_iload_n (pc := 45) (i := 2) C d_V_data_45 rfl rfl ?_
        refine g_callV1 (pc := 46) (As := [_]) C my_Row_at mv_Row_at cl_V_110 (is_Row (by omega)) d_V_data_46 (Nat.le_of_ble_eq_true rfl) rfl (Nat.le_of_ble_eq_true rfl) ⟨Nat.zero_le _, Nat.zero_le _⟩ (c_at1 _ hD (by omega) g.2.1 (by omega)) ?_
        refine g_goto (pc := 49) (tgt := 53) C d_V_data_49 (by decide) ?_
        refine g_iret (pc := 53) C d_V_data_53 ?_
        exact ⟨by unfold oData; rw [if_pos h7, if_neg h25, e0, if_pos hb, nI_clamp (by omega)], rfl⟩
    · skip
      refine g_aload (pc := 28) C d_V_data_28 rfl ?_
      refine gf_Row_length (pc := 30) C (by omega) fl_V_33 d_V_data_30 ?_
      rw [g.2.1.1]
      refine g_iret (pc := 33) C d_V_data_33 ?_
      exact ⟨by unfold oData; rw [if_pos h7, if_pos h25, e0], rfl⟩
  · skip
    refine g_iload_n (pc := 10) (i := 3) C d_V_data_10 rfl rfl ?_
    refine g_iret (pc := 11) C d_V_data_11 ?_
    exact ⟨by unfold oData; rw [if_neg h7], rfl⟩
set_option maxRecDepth 100000 in
set_option maxHeartbeats 4000000 in
theorem x_V_wrong (l : Launch) {D : Dt} (hD : OkD D) {c : Cs} {τ : Cs × (Nat → Int64)} {V : Vt} {r : Int32} (hC : CAbs c V) (hW : WfV V) : Cp l D y_V_wrong b_V_wrong 3 (some .int) 7 [.int r, .ref (aVlt D)] ((c, τ) : Sg) (fun a u => ∃ c2, u = ((c2, τ) : Sg) ∧ a = some (.int (oWrong V r)) ∧ CAbs c2 V) := by
  refine Cp.of hD (by decide) (Nat.le_of_ble_eq_true rfl) [(0, some (.ref (aVlt D))), (1, some (.int r))] rfl (fun X hX C => ?_)
  subst hX
  refine g_aload_n (pc := 0) (i := 0) C d_V_wrong_0 rfl rfl ?_
  refine g_iload_n (pc := 1) (i := 1) C d_V_wrong_1 rfl rfl ?_
  refine g_callV1 (pc := 2) (As := [_]) C my_V_barTo mv_V_barTo cl_V_84 is_V d_V_wrong_2 (Nat.le_of_ble_eq_true rfl) rfl (Nat.le_of_ble_eq_true rfl) ⟨Nat.zero_le _, Nat.zero_le _⟩ (c_V_barTo _ hD hC) ?_
  refine g_istore_n (pc := 5) (i := 2) C d_V_wrong_5 rfl (by decide) rfl ?_
  refine g_iload_n (pc := 6) (i := 2) C d_V_wrong_6 rfl rfl ?_
  refine g_if_eq (pc := 7) (tgt := 14) C d_V_wrong_7 (by decide) (fun h7 => ?_) (fun h7 => ?_)
  · obtain ⟨q, hq, rfl, hw⟩ := bar_0 h7
    have g := hC.rep hq
    have wf := hW.rep hq
    have e0 := nI_clamp (n := q) (by omega)
    obtain ⟨y, hy⟩ := (hC.2.2.2 q hq).1
    refine g_aload_n (pc := 14) (i := 0) C d_V_wrong_14 rfl rfl ?_
    refine gf_V_repositories (pc := 15) C fl_V_20 d_V_wrong_15 ?_
    refine g_iload_n (pc := 18) (i := 1) C d_V_wrong_18 rfl rfl ?_
    refine ga_rps (pc := 19) C (by omega) d_V_wrong_19 ?_
    refine g_callVp (pc := 20) (As := []) C my_Rep_countWrong mv_Rep_countWrong cl_V_139 (is_Rep (by omega)) d_V_wrong_20 (Nat.le_of_ble_eq_true rfl) rfl (Nat.le_of_ble_eq_true rfl) ⟨Nat.zero_le _, Nat.zero_le _⟩ (x_Rep_countWrong _ hD (by omega) g.1.1 g.2.2 g.2.1 wf.1 (wf.2.2.2.2.2.2 (Or.inr hw)) hy) (fun r20 u20 hp20 => ?_)
    obtain ⟨c2, rfl, rfl, s2, y2⟩ := hp20
    refine g_iret (pc := 23) C d_V_wrong_23 ?_
    refine ⟨c2, rfl, by unfold oWrong; rw [if_pos h7, e0], hC.1.sm s2 (by unfold Bp Rw; omega) (by unfold Bp Rw; omega), hC.2.1.gm s2 (fun t ht => by unfold Bp Rw; omega), hC.2.2.1.gm s2 (fun t ht => by unfold Bp Rw; omega), hC.2.2.2.bp s2 hq y2⟩
  · skip
    refine g_iload_n (pc := 10) (i := 2) C d_V_wrong_10 rfl rfl ?_
    refine g_goto (pc := 11) (tgt := 23) C d_V_wrong_11 (by decide) ?_
    refine g_iret (pc := 23) C d_V_wrong_23 ?_
    exact ⟨c, rfl, by unfold oWrong; rw [if_neg h7], hC⟩
set_option maxRecDepth 100000 in
set_option maxHeartbeats 4000000 in
theorem x_V_fail (l : Launch) {D : Dt} (hD : OkD D) {c : Cs} {τ : Cs × (Nat → Int64)} {V : Vt} {r n : Int32} (hC : CAbs c V) : Cp l D y_V_fail b_V_fail 3 (some .boolean) 3 [.int n, .int r, .ref (aVlt D)] ((c, τ) : Sg) (fun a u => ∃ c2, u = ((c2, τ) : Sg) ∧ a = some (.int (b1 ((oFail V r n).1 = true))) ∧ CAbs c2 (oFail V r n).2) := by
  refine Cp.of hD (by decide) (Nat.le_of_ble_eq_true rfl) [(0, some (.ref (aVlt D))), (1, some (.int r)), (2, some (.int n))] rfl (fun X hX C => ?_)
  subst hX
  refine g_aload_n (pc := 0) (i := 0) C d_V_fail_0 rfl rfl ?_
  refine g_iload_n (pc := 1) (i := 1) C d_V_fail_1 rfl rfl ?_
  refine g_callV1 (pc := 2) (As := [_]) C my_V_barTo mv_V_barTo cl_V_84 is_V d_V_fail_2 (Nat.le_of_ble_eq_true rfl) rfl (Nat.le_of_ble_eq_true rfl) ⟨Nat.zero_le _, Nat.zero_le _⟩ (c_V_barTo _ hD hC) ?_
  refine g_if_ne (pc := 5) (tgt := 18) C d_V_fail_5 (by decide) (fun h5 => ?_) (fun h5 => ?_)
  · have hx : ¬ (barV V r = 0 ∧ 0 ≤ n ∧ n ≤ 100) := fun h => h5 h.1
    refine g_iconst (pc := 18) C d_V_fail_18 ic_0 ?_
    refine g_zret (pc := 19) C d_V_fail_19 (by first | exact Or.inl rfl | exact Or.inr rfl) ?_
    refine ⟨c, rfl, ?_, ?_⟩
    · unfold oFail
      rw [if_neg hx, b1_f (fun e => by cases e)]
    · unfold oFail
      rw [if_neg hx]
      exact hC
  · skip
    refine g_iload_n (pc := 8) (i := 2) C d_V_fail_8 rfl rfl ?_
    refine g_if_lt (pc := 9) (tgt := 18) C d_V_fail_9 (by decide) (fun h9 => ?_) (fun h9 => ?_)
    · have hx : ¬ (barV V r = 0 ∧ 0 ≤ n ∧ n ≤ 100) := fun h => absurd h9 (Int32.not_lt.mpr h.2.1)
      refine g_iconst (pc := 18) C d_V_fail_18 ic_0 ?_
      refine g_zret (pc := 19) C d_V_fail_19 (by first | exact Or.inl rfl | exact Or.inr rfl) ?_
      refine ⟨c, rfl, ?_, ?_⟩
      · unfold oFail
        rw [if_neg hx, b1_f (fun e => by cases e)]
      · unfold oFail
        rw [if_neg hx]
        exact hC
    · skip
      refine g_iload_n (pc := 12) (i := 2) C d_V_fail_12 rfl rfl ?_
      refine g_bipush (pc := 13) C d_V_fail_13 bp_100 ?_
      refine g_icmp_le (pc := 15) (tgt := 20) C d_V_fail_15 (by decide) (fun h15 => ?_) (fun h15 => ?_)
      · have hx : barV V r = 0 ∧ 0 ≤ n ∧ n ≤ 100 := ⟨h5, Int32.not_lt.mp h9, h15⟩
        obtain ⟨q, hq, rfl, hw⟩ := bar_0 h5
        have g := hC.rep hq
        have e0 := nI_clamp (n := q) (by omega)
        obtain ⟨k, hk, rfl⟩ := nI_of2 (M := 100) (n := 100) (by decide +kernel) h9 h15
        refine g_aload_n (pc := 20) (i := 0) C d_V_fail_20 rfl rfl ?_
        refine gf_V_repositories (pc := 21) C fl_V_20 d_V_fail_21 ?_
        refine g_iload_n (pc := 24) (i := 1) C d_V_fail_24 rfl rfl ?_
        refine ga_rps (pc := 25) C (by omega) d_V_fail_25 ?_
        refine g_iload_n (pc := 26) (i := 2) C d_V_fail_26 rfl rfl ?_
        refine gp_Rep_writesToFailure (pc := 27) C (by omega) fl_V_88 d_V_fail_27 ?_
        refine g_iconst (pc := 30) C d_V_fail_30 ic_1 ?_
        refine g_zret (pc := 31) C d_V_fail_31 (by first | exact Or.inl rfl | exact Or.inr rfl) ?_
        refine ⟨_, rfl, ?_, ?_⟩
        · unfold oFail
          rw [if_pos hx, b1_t rfl]
        · unfold oFail
          rw [if_pos hx, e0, nI_clamp (by omega)]
          exact hC.ci hq sm_c1 (g.fa hq)
      · have hx : ¬ (barV V r = 0 ∧ 0 ≤ n ∧ n ≤ 100) := fun h => h15 h.2.2
        refine g_iconst (pc := 18) C d_V_fail_18 ic_0 ?_
        refine g_zret (pc := 19) C d_V_fail_19 (by first | exact Or.inl rfl | exact Or.inr rfl) ?_
        refine ⟨c, rfl, ?_, ?_⟩
        · unfold oFail
          rw [if_neg hx, b1_f (fun e => by cases e)]
        · unfold oFail
          rw [if_neg hx]
          exact hC
end
section
theorem kw_265 : Cond.constant R_JI 265 1431655765 ∈ UNI := un 632 (by decide +kernel) (by decide +kernel)
theorem kw_266 : Cond.constant R_JI 266 858993459 ∈ UNI := un 633 (by decide +kernel) (by decide +kernel)
theorem kw_267 : Cond.constant R_JI 267 252645135 ∈ UNI := un 634 (by decide +kernel) (by decide +kernel)
section GW
variable {X : Cx} {D : Dt} {Q : State → Prop} {z : Nat × Nat} {σ : Sg} {pc : Nat} {L : Lc} {st : List Value} {own : String} {cc : ByteArray} {nL d : Nat} {ret : Option FieldType}
theorem g_ldcw (C : Fx X D own cc nL d ret) {index : Nat} {v : Int32} (hc : Cond.constant own index v ∈ UNI) (hd : decode cc pc = .ok (.ldc_w index, 3)) (kk : G X D Q z σ (pc + 3) L (.int v :: st)) : G X D Q z σ pc L st := fun H locs ls hP hS hL => lv_ldcw C.ex C.bt C.ow (C.ts _ hc) hd (kk H locs ls hP hS hL)
theorem g_tabIn (C : Fx X D own cc nL d ret) {dflt lo hi : Int} {offs : Array Int} {len : Nat} {x : Int32} {off : Int} {tgt : Nat} (hd : decode cc pc = .ok (.tableswitch dflt lo hi offs, len)) (h1 : ¬ x.toInt < lo) (h2 : ¬ hi < x.toInt) (ho : offs[(x.toInt - lo).toNat]? = some off) (ht : (pc : Int) + off = (tgt : Int)) (kk : G X D Q z σ tgt L st) : G X D Q z σ pc L (.int x :: st) := fun H locs ls hP hS hL => lv_tableIn C.ex C.bt hd h1 h2 ho ht (kk H locs ls hP hS hL)
theorem g_tabOut (C : Fx X D own cc nL d ret) {dflt lo hi : Int} {offs : Array Int} {len : Nat} {x : Int32} {tgt : Nat} (hd : decode cc pc = .ok (.tableswitch dflt lo hi offs, len)) (h : x.toInt < lo ∨ hi < x.toInt) (ht : (pc : Int) + dflt = (tgt : Int)) (kk : G X D Q z σ tgt L st) : G X D Q z σ pc L (.int x :: st) := fun H locs ls hP hS hL => lv_tableOut C.ex C.bt hd h ht (kk H locs ls hP hS hL)
end GW
/-- sets of revisions as bits -/
def bitO : Option Nat → Int32
  | none => 0
  | some k => 1 <<< (nI k &&& 31)
def pmk (rs : List Rc) (n : Nat) : Int32 := match rs[n]? with
  | none => 0
  | some x => bitO x.pa ||| bitO x.pb
def bitq (s : Int32) (k : Nat) : Int32 := (s >>> (nI k &&& 31)) &&& 1
def ancL (rs : List Rc) : Nat → Int32 → Int32
  | 0, s => s
  | k + 1, s => ancL rs k (if bitq s k = 0 then s else s ||| pmk rs k)
def anc (rs : List Rc) (n : Nat) : Int32 := ancL rs (n + 1) (1 <<< (nI n &&& 31))
def gcl (b : Int32) : Nat → Option Nat
  | 0 => none
  | k + 1 => if bitq b k = 0 then gcl b k else some k
def pall (rs : List Rc) : Nat → Int32
  | 0 => 0
  | n + 1 => pall rs n ||| pmk rs n
def us (x : Int32) (k : Int32) : Int32 := (x.toUInt32 >>> (k.toUInt32 &&& Int32.toUInt32 31)).toInt32
def bc1 (x : Int32) : Int32 := x - (us x 1 &&& 1431655765)
def bc2 (x : Int32) : Int32 := (x &&& 858993459) + (us x 2 &&& 858993459)
def bc3 (x : Int32) : Int32 := (x + us x 4) &&& 252645135
def bc4 (x : Int32) : Int32 := x + us x 8
def bc5 (x : Int32) : Int32 := x + us x 16
def bitc (x : Int32) : Int32 := bc5 (bc4 (bc3 (bc2 (bc1 x)))) &&& 63
set_option maxRecDepth 100000 in
set_option maxHeartbeats 4000000 in
theorem c_JI_bitCount (l : Launch) {D : Dt} (hD : OkD D) {x : Int32} {σ : Sg}  : Ct l D y_JI_bitCount b_JI_bitCount 1 (some .int) 1 [.int x] σ (some (.int (bitc x))) σ := by
  refine Ct.of hD (by decide) (Nat.le_of_ble_eq_true rfl) [(0, some (.int x))] rfl (fun X hX C => ?_)
  subst hX
  refine g_iload_n (pc := 0) (i := 0) C d_JI_bitCount_0 rfl rfl ?_
  refine g_iload_n (pc := 1) (i := 0) C d_JI_bitCount_1 rfl rfl ?_
  refine g_iconst (pc := 2) C d_JI_bitCount_2 ic_1 ?_
  refine g_iushr (pc := 3) C d_JI_bitCount_3 ?_
  refine g_ldcw (pc := 4) C kw_265 d_JI_bitCount_4 ?_
  refine g_iand (pc := 7) C d_JI_bitCount_7 ?_
  refine g_isub (pc := 8) C d_JI_bitCount_8 ?_
  refine g_istore_n (pc := 9) (i := 0) C d_JI_bitCount_9 rfl (by decide) rfl ?_
  refine g_iload_n (pc := 10) (i := 0) C d_JI_bitCount_10 rfl rfl ?_
  refine g_ldcw (pc := 11) C kw_266 d_JI_bitCount_11 ?_
  refine g_iand (pc := 14) C d_JI_bitCount_14 ?_
  refine g_iload_n (pc := 15) (i := 0) C d_JI_bitCount_15 rfl rfl ?_
  refine g_iconst (pc := 16) C d_JI_bitCount_16 ic_2 ?_
  refine g_iushr (pc := 17) C d_JI_bitCount_17 ?_
  refine g_ldcw (pc := 18) C kw_266 d_JI_bitCount_18 ?_
  refine g_iand (pc := 21) C d_JI_bitCount_21 ?_
  refine g_iadd (pc := 22) C d_JI_bitCount_22 ?_
  refine g_istore_n (pc := 23) (i := 0) C d_JI_bitCount_23 rfl (by decide) rfl ?_
  refine g_iload_n (pc := 24) (i := 0) C d_JI_bitCount_24 rfl rfl ?_
  refine g_iload_n (pc := 25) (i := 0) C d_JI_bitCount_25 rfl rfl ?_
  refine g_iconst (pc := 26) C d_JI_bitCount_26 ic_4 ?_
  refine g_iushr (pc := 27) C d_JI_bitCount_27 ?_
  refine g_iadd (pc := 28) C d_JI_bitCount_28 ?_
  refine g_ldcw (pc := 29) C kw_267 d_JI_bitCount_29 ?_
  refine g_iand (pc := 32) C d_JI_bitCount_32 ?_
  refine g_istore_n (pc := 33) (i := 0) C d_JI_bitCount_33 rfl (by decide) rfl ?_
  refine g_iload_n (pc := 34) (i := 0) C d_JI_bitCount_34 rfl rfl ?_
  refine g_iload_n (pc := 35) (i := 0) C d_JI_bitCount_35 rfl rfl ?_
  refine g_bipush (pc := 36) C d_JI_bitCount_36 bp_8 ?_
  refine g_iushr (pc := 38) C d_JI_bitCount_38 ?_
  refine g_iadd (pc := 39) C d_JI_bitCount_39 ?_
  refine g_istore_n (pc := 40) (i := 0) C d_JI_bitCount_40 rfl (by decide) rfl ?_
  refine g_iload_n (pc := 41) (i := 0) C d_JI_bitCount_41 rfl rfl ?_
  refine g_iload_n (pc := 42) (i := 0) C d_JI_bitCount_42 rfl rfl ?_
  refine g_bipush (pc := 43) C d_JI_bitCount_43 bp_16 ?_
  refine g_iushr (pc := 45) C d_JI_bitCount_45 ?_
  refine g_iadd (pc := 46) C d_JI_bitCount_46 ?_
  refine g_istore_n (pc := 47) (i := 0) C d_JI_bitCount_47 rfl (by decide) rfl ?_
  refine g_iload_n (pc := 48) (i := 0) C d_JI_bitCount_48 rfl rfl ?_
  refine g_bipush (pc := 49) C d_JI_bitCount_49 bp_63 ?_
  refine g_iand (pc := 51) C d_JI_bitCount_51 ?_
  refine g_iret (pc := 52) C d_JI_bitCount_52 ?_
  exact ⟨rfl, rfl⟩
set_option maxRecDepth 100000 in
set_option maxHeartbeats 4000000 in
theorem c_Rep_parentsOf (l : Launch) {D : Dt} (hD : OkD D) {r : Nat} {c : Cs} {τ : Cs × (Nat → Int64)} {rs : List Rc} {n : Nat} (hr : r < 2) (hx : RcX c r rs) (hw : ∀ (n : Nat) (x : Rc), rs[n]? = some x → (∀ b, x.pa = some b → b < n) ∧ ∀ b, x.pb = some b → b < n) (hn : n < rs.length) : Ct l D y_Rep_parentsOf b_Rep_parentsOf 5 (some .int) 1 [.int (nI n), .ref (aRep D r)] ((c, τ) : Sg) (some (.int (pmk rs n))) ((c, τ) : Sg) := by
  have h24 := hx.1
  obtain ⟨x, hxn⟩ : ∃ x, rs[n]? = some x := ⟨_, List.getElem?_eq_getElem hn⟩
  have g := hx.2 n x hxn
  obtain ⟨wa, wb⟩ := hw n x hxn
  have e : pmk rs n = bitO x.pa ||| bitO x.pb := by unfold pmk; rw [hxn]
  rw [e]
  have ga := g.2.2.2.2.1
  have gb := g.2.2.2.2.2.1
  refine Ct.of hD (by decide) (Nat.le_of_ble_eq_true rfl) [(0, some (.ref (aRep D r))), (1, some (.int (nI n)))] rfl (fun X hX C => ?_)
  subst hX
  rcases hpa : x.pa with _ | a <;> rcases hpb : x.pb with _ | b <;> rw [hpa] at ga wa <;> rw [hpb] at gb wb
  · skip
    refine g_aload_n (pc := 0) (i := 0) C d_Rep_parentsOf_0 rfl rfl ?_
    refine gf_Rep_records (pc := 1) C (by omega) fl_Rep_22 d_Rep_parentsOf_1 ?_
    refine g_iload_n (pc := 4) (i := 1) C d_Rep_parentsOf_4 rfl rfl ?_
    refine ga_rcs (pc := 5) C (by omega) (by omega) d_Rep_parentsOf_5 ?_
    refine g_astore_n (pc := 6) (i := 2) C d_Rep_parentsOf_6 rfl (by decide) rfl ?_
    refine g_aload_n (pc := 7) (i := 2) C d_Rep_parentsOf_7 rfl rfl ?_
    refine gf_Rec_p1 (pc := 8) C (by omega) fl_Rep_95 d_Rep_parentsOf_8 ?_
    refine g_iconst (pc := 11) C d_Rep_parentsOf_11 ic_m1 ?_
    rw [ga]
    refine g_icmp_ne (pc := 12) (tgt := 19) C d_Rep_parentsOf_12 (by decide) (fun h12 => ?_) (fun h12 => ?_)
    · first | exact absurd h12 (rfl) | exact absurd (rfl) h12
    · skip
      refine g_iconst (pc := 15) C d_Rep_parentsOf_15 ic_0 ?_
      refine g_goto (pc := 16) (tgt := 25) C d_Rep_parentsOf_16 (by decide) ?_
      refine g_istore_n (pc := 25) (i := 3) C d_Rep_parentsOf_25 rfl (by decide) rfl ?_
      refine g_aload_n (pc := 26) (i := 2) C d_Rep_parentsOf_26 rfl rfl ?_
      refine gf_Rec_p2 (pc := 27) C (by omega) fl_Rep_102 d_Rep_parentsOf_27 ?_
      refine g_iconst (pc := 30) C d_Rep_parentsOf_30 ic_m1 ?_
      rw [gb]
      refine g_icmp_ne (pc := 31) (tgt := 38) C d_Rep_parentsOf_31 (by decide) (fun h31 => ?_) (fun h31 => ?_)
      · first | exact absurd h31 (rfl) | exact absurd (rfl) h31
      · skip
        refine g_iconst (pc := 34) C d_Rep_parentsOf_34 ic_0 ?_
        refine g_goto (pc := 35) (tgt := 44) C d_Rep_parentsOf_35 (by decide) ?_
        refine g_istore (pc := 44) C d_Rep_parentsOf_44 (by decide) rfl ?_
        refine g_iload_n (pc := 46) (i := 3) C d_Rep_parentsOf_46 rfl rfl ?_
        refine g_iload (pc := 47) C d_Rep_parentsOf_47 rfl ?_
        refine g_ior (pc := 49) C d_Rep_parentsOf_49 ?_
        refine g_iret (pc := 50) C d_Rep_parentsOf_50 ?_
        exact ⟨rfl, rfl⟩
  · skip
    refine g_aload_n (pc := 0) (i := 0) C d_Rep_parentsOf_0 rfl rfl ?_
    refine gf_Rep_records (pc := 1) C (by omega) fl_Rep_22 d_Rep_parentsOf_1 ?_
    refine g_iload_n (pc := 4) (i := 1) C d_Rep_parentsOf_4 rfl rfl ?_
    refine ga_rcs (pc := 5) C (by omega) (by omega) d_Rep_parentsOf_5 ?_
    refine g_astore_n (pc := 6) (i := 2) C d_Rep_parentsOf_6 rfl (by decide) rfl ?_
    refine g_aload_n (pc := 7) (i := 2) C d_Rep_parentsOf_7 rfl rfl ?_
    refine gf_Rec_p1 (pc := 8) C (by omega) fl_Rep_95 d_Rep_parentsOf_8 ?_
    refine g_iconst (pc := 11) C d_Rep_parentsOf_11 ic_m1 ?_
    rw [ga]
    refine g_icmp_ne (pc := 12) (tgt := 19) C d_Rep_parentsOf_12 (by decide) (fun h12 => ?_) (fun h12 => ?_)
    · first | exact absurd h12 (rfl) | exact absurd (rfl) h12
    · skip
      refine g_iconst (pc := 15) C d_Rep_parentsOf_15 ic_0 ?_
      refine g_goto (pc := 16) (tgt := 25) C d_Rep_parentsOf_16 (by decide) ?_
      refine g_istore_n (pc := 25) (i := 3) C d_Rep_parentsOf_25 rfl (by decide) rfl ?_
      refine g_aload_n (pc := 26) (i := 2) C d_Rep_parentsOf_26 rfl rfl ?_
      refine gf_Rec_p2 (pc := 27) C (by omega) fl_Rep_102 d_Rep_parentsOf_27 ?_
      refine g_iconst (pc := 30) C d_Rep_parentsOf_30 ic_m1 ?_
      rw [gb]
      refine g_icmp_ne (pc := 31) (tgt := 38) C d_Rep_parentsOf_31 (by decide) (fun h31 => ?_) (fun h31 => ?_)
      · skip
        refine g_iconst (pc := 38) C d_Rep_parentsOf_38 ic_1 ?_
        refine g_aload_n (pc := 39) (i := 2) C d_Rep_parentsOf_39 rfl rfl ?_
        refine gf_Rec_p2 (pc := 40) C (by omega) fl_Rep_102 d_Rep_parentsOf_40 ?_
        rw [gb]
        refine g_ishl (pc := 43) C d_Rep_parentsOf_43 ?_
        refine g_istore (pc := 44) C d_Rep_parentsOf_44 (by decide) rfl ?_
        refine g_iload_n (pc := 46) (i := 3) C d_Rep_parentsOf_46 rfl rfl ?_
        refine g_iload (pc := 47) C d_Rep_parentsOf_47 rfl ?_
        refine g_ior (pc := 49) C d_Rep_parentsOf_49 ?_
        refine g_iret (pc := 50) C d_Rep_parentsOf_50 ?_
        exact ⟨rfl, rfl⟩
      · first | exact absurd h31 (nI_m1 (by have := wb _ rfl; omega)) | exact absurd (nI_m1 (by have := wb _ rfl; omega)) h31
  · skip
    refine g_aload_n (pc := 0) (i := 0) C d_Rep_parentsOf_0 rfl rfl ?_
    refine gf_Rep_records (pc := 1) C (by omega) fl_Rep_22 d_Rep_parentsOf_1 ?_
    refine g_iload_n (pc := 4) (i := 1) C d_Rep_parentsOf_4 rfl rfl ?_
    refine ga_rcs (pc := 5) C (by omega) (by omega) d_Rep_parentsOf_5 ?_
    refine g_astore_n (pc := 6) (i := 2) C d_Rep_parentsOf_6 rfl (by decide) rfl ?_
    refine g_aload_n (pc := 7) (i := 2) C d_Rep_parentsOf_7 rfl rfl ?_
    refine gf_Rec_p1 (pc := 8) C (by omega) fl_Rep_95 d_Rep_parentsOf_8 ?_
    refine g_iconst (pc := 11) C d_Rep_parentsOf_11 ic_m1 ?_
    rw [ga]
    refine g_icmp_ne (pc := 12) (tgt := 19) C d_Rep_parentsOf_12 (by decide) (fun h12 => ?_) (fun h12 => ?_)
    · skip
      refine g_iconst (pc := 19) C d_Rep_parentsOf_19 ic_1 ?_
      refine g_aload_n (pc := 20) (i := 2) C d_Rep_parentsOf_20 rfl rfl ?_
      refine gf_Rec_p1 (pc := 21) C (by omega) fl_Rep_95 d_Rep_parentsOf_21 ?_
      rw [ga]
      refine g_ishl (pc := 24) C d_Rep_parentsOf_24 ?_
      refine g_istore_n (pc := 25) (i := 3) C d_Rep_parentsOf_25 rfl (by decide) rfl ?_
      refine g_aload_n (pc := 26) (i := 2) C d_Rep_parentsOf_26 rfl rfl ?_
      refine gf_Rec_p2 (pc := 27) C (by omega) fl_Rep_102 d_Rep_parentsOf_27 ?_
      refine g_iconst (pc := 30) C d_Rep_parentsOf_30 ic_m1 ?_
      rw [gb]
      refine g_icmp_ne (pc := 31) (tgt := 38) C d_Rep_parentsOf_31 (by decide) (fun h31 => ?_) (fun h31 => ?_)
      · first | exact absurd h31 (rfl) | exact absurd (rfl) h31
      · skip
        refine g_iconst (pc := 34) C d_Rep_parentsOf_34 ic_0 ?_
        refine g_goto (pc := 35) (tgt := 44) C d_Rep_parentsOf_35 (by decide) ?_
        refine g_istore (pc := 44) C d_Rep_parentsOf_44 (by decide) rfl ?_
        refine g_iload_n (pc := 46) (i := 3) C d_Rep_parentsOf_46 rfl rfl ?_
        refine g_iload (pc := 47) C d_Rep_parentsOf_47 rfl ?_
        refine g_ior (pc := 49) C d_Rep_parentsOf_49 ?_
        refine g_iret (pc := 50) C d_Rep_parentsOf_50 ?_
        exact ⟨rfl, rfl⟩
    · first | exact absurd h12 (nI_m1 (by have := wa _ rfl; omega)) | exact absurd (nI_m1 (by have := wa _ rfl; omega)) h12
  · skip
    refine g_aload_n (pc := 0) (i := 0) C d_Rep_parentsOf_0 rfl rfl ?_
    refine gf_Rep_records (pc := 1) C (by omega) fl_Rep_22 d_Rep_parentsOf_1 ?_
    refine g_iload_n (pc := 4) (i := 1) C d_Rep_parentsOf_4 rfl rfl ?_
    refine ga_rcs (pc := 5) C (by omega) (by omega) d_Rep_parentsOf_5 ?_
    refine g_astore_n (pc := 6) (i := 2) C d_Rep_parentsOf_6 rfl (by decide) rfl ?_
    refine g_aload_n (pc := 7) (i := 2) C d_Rep_parentsOf_7 rfl rfl ?_
    refine gf_Rec_p1 (pc := 8) C (by omega) fl_Rep_95 d_Rep_parentsOf_8 ?_
    refine g_iconst (pc := 11) C d_Rep_parentsOf_11 ic_m1 ?_
    rw [ga]
    refine g_icmp_ne (pc := 12) (tgt := 19) C d_Rep_parentsOf_12 (by decide) (fun h12 => ?_) (fun h12 => ?_)
    · skip
      refine g_iconst (pc := 19) C d_Rep_parentsOf_19 ic_1 ?_
      refine g_aload_n (pc := 20) (i := 2) C d_Rep_parentsOf_20 rfl rfl ?_
      refine gf_Rec_p1 (pc := 21) C (by omega) fl_Rep_95 d_Rep_parentsOf_21 ?_
      rw [ga]
      refine g_ishl (pc := 24) C d_Rep_parentsOf_24 ?_
      refine g_istore_n (pc := 25) (i := 3) C d_Rep_parentsOf_25 rfl (by decide) rfl ?_
      refine g_aload_n (pc := 26) (i := 2) C d_Rep_parentsOf_26 rfl rfl ?_
      refine gf_Rec_p2 (pc := 27) C (by omega) fl_Rep_102 d_Rep_parentsOf_27 ?_
      refine g_iconst (pc := 30) C d_Rep_parentsOf_30 ic_m1 ?_
      rw [gb]
      refine g_icmp_ne (pc := 31) (tgt := 38) C d_Rep_parentsOf_31 (by decide) (fun h31 => ?_) (fun h31 => ?_)
      · skip
        refine g_iconst (pc := 38) C d_Rep_parentsOf_38 ic_1 ?_
        refine g_aload_n (pc := 39) (i := 2) C d_Rep_parentsOf_39 rfl rfl ?_
        refine gf_Rec_p2 (pc := 40) C (by omega) fl_Rep_102 d_Rep_parentsOf_40 ?_
        rw [gb]
        refine g_ishl (pc := 43) C d_Rep_parentsOf_43 ?_
        refine g_istore (pc := 44) C d_Rep_parentsOf_44 (by decide) rfl ?_
        refine g_iload_n (pc := 46) (i := 3) C d_Rep_parentsOf_46 rfl rfl ?_
        refine g_iload (pc := 47) C d_Rep_parentsOf_47 rfl ?_
        refine g_ior (pc := 49) C d_Rep_parentsOf_49 ?_
        refine g_iret (pc := 50) C d_Rep_parentsOf_50 ?_
        exact ⟨rfl, rfl⟩
      · first | exact absurd h31 (nI_m1 (by have := wb _ rfl; omega)) | exact absurd (nI_m1 (by have := wb _ rfl; omega)) h31
    · first | exact absurd h12 (nI_m1 (by have := wa _ rfl; omega)) | exact absurd (nI_m1 (by have := wa _ rfl; omega)) h12
set_option maxRecDepth 100000 in
set_option maxHeartbeats 4000000 in
theorem c_Rep_ancestorsOf (l : Launch) {D : Dt} (hD : OkD D) {r : Nat} {c : Cs} {τ : Cs × (Nat → Int64)} {rs : List Rc} {n : Nat} (hr : r < 2) (hx : RcX c r rs) (hw : ∀ (n : Nat) (x : Rc), rs[n]? = some x → (∀ b, x.pa = some b → b < n) ∧ ∀ b, x.pb = some b → b < n) (hn : n < rs.length) : Ct l D y_Rep_ancestorsOf b_Rep_ancestorsOf 4 (some .int) 2 [.int (nI n), .ref (aRep D r)] ((c, τ) : Sg) (some (.int (anc rs n))) ((c, τ) : Sg) := by
  have h24 := hx.1
  refine Ct.of hD (by decide) (Nat.le_of_ble_eq_true rfl) [(0, some (.ref (aRep D r))), (1, some (.int (nI n)))] rfl (fun X hX C => ?_)
  subst hX
  have loop : ∀ (m : Nat) (s : Int32), m ≤ rs.length → ancL rs m s = anc rs n → G X D (Qp X D (fun r2 u => r2 = some (.int (anc rs n)) ∧ u = ((c, τ) : Sg))) (0, 0) ((c, τ) : Sg) 6 [(0, some (.ref (aRep D r))), (2, some (.int s)), (3, some (.int (eo (pd m))))] [] := by
    intro m
    induction m with
    | zero =>
      intro s hm he
      refine g_iload_n (pc := 6) (i := 3) C d_Rep_ancestorsOf_6 rfl rfl ?_
      refine g_if_lt (pc := 7) (tgt := 32) C d_Rep_ancestorsOf_7 (by decide) (fun h7 => ?_) (fun h7 => ?_)
      · skip
        refine g_iload_n (pc := 32) (i := 2) C d_Rep_ancestorsOf_32 rfl rfl ?_
        refine g_iret (pc := 33) C d_Rep_ancestorsOf_33 ?_
        exact ⟨by rw [← he]; rfl, rfl⟩
      · first | exact absurd h7 (by decide) | exact absurd (by decide) h7
    | succ m ih =>
      intro s hm he
      show G X D _ (0, 0) _ 6 [(0, some (.ref (aRep D r))), (2, some (.int s)), (3, some (.int (nI m)))] []
      refine g_iload_n (pc := 6) (i := 3) C d_Rep_ancestorsOf_6 rfl rfl ?_
      refine g_if_lt (pc := 7) (tgt := 32) C d_Rep_ancestorsOf_7 (by decide) (fun h7 => ?_) (fun h7 => ?_)
      · first | exact absurd h7 (nI_pos (by omega)) | exact absurd (nI_pos (by omega)) h7
      · skip
        refine g_iload_n (pc := 10) (i := 2) C d_Rep_ancestorsOf_10 rfl rfl ?_
        refine g_iload_n (pc := 11) (i := 3) C d_Rep_ancestorsOf_11 rfl rfl ?_
        refine g_ishr (pc := 12) C d_Rep_ancestorsOf_12 ?_
        refine g_iconst (pc := 13) C d_Rep_ancestorsOf_13 ic_1 ?_
        refine g_iand (pc := 14) C d_Rep_ancestorsOf_14 ?_
        refine G.eq (st' := [.int (bitq s m)]) rfl rfl rfl ?_
        refine g_if_eq (pc := 15) (tgt := 26) C d_Rep_ancestorsOf_15 (by decide) (fun h15 => ?_) (fun h15 => ?_)
        · skip
          refine g_iinc (pc := 26) C d_Rep_ancestorsOf_26 rfl (v := eo (pd m)) (pd_dec m) rfl ?_
          refine g_goto (pc := 29) (tgt := 6) C d_Rep_ancestorsOf_29 (by decide) ?_
          exact G.lf (ih s (by omega) (by rw [← he]; conv => rhs; unfold ancL; rw [if_pos h15])) (sb rfl (sb rfl (sb rfl sn)))
        · skip
          refine g_iload_n (pc := 18) (i := 2) C d_Rep_ancestorsOf_18 rfl rfl ?_
          refine g_aload_n (pc := 19) (i := 0) C d_Rep_ancestorsOf_19 rfl rfl ?_
          refine g_iload_n (pc := 20) (i := 3) C d_Rep_ancestorsOf_20 rfl rfl ?_
          refine g_callV1 (pc := 21) (As := [_]) C my_Rep_parentsOf mv_Rep_parentsOf cl_Rep_200 (is_Rep (by omega)) d_Rep_ancestorsOf_21 (Nat.le_of_ble_eq_true rfl) rfl (Nat.le_of_ble_eq_true rfl) ⟨Nat.zero_le _, Nat.zero_le _⟩ (c_Rep_parentsOf _ hD (by omega) hx hw (by omega)) ?_
          refine g_ior (pc := 24) C d_Rep_ancestorsOf_24 ?_
          refine g_istore_n (pc := 25) (i := 2) C d_Rep_ancestorsOf_25 rfl (by decide) rfl ?_
          refine g_iinc (pc := 26) C d_Rep_ancestorsOf_26 rfl (v := eo (pd m)) (pd_dec m) rfl ?_
          refine g_goto (pc := 29) (tgt := 6) C d_Rep_ancestorsOf_29 (by decide) ?_
          exact G.lf (ih (s ||| pmk rs m) (by omega) (by rw [← he]; conv => rhs; unfold ancL; rw [if_neg h15])) (sb rfl (sb rfl (sb rfl sn)))
  refine g_iconst (pc := 0) C d_Rep_ancestorsOf_0 ic_1 ?_
  refine g_iload_n (pc := 1) (i := 1) C d_Rep_ancestorsOf_1 rfl rfl ?_
  refine g_ishl (pc := 2) C d_Rep_ancestorsOf_2 ?_
  refine g_istore_n (pc := 3) (i := 2) C d_Rep_ancestorsOf_3 rfl (by decide) rfl ?_
  refine g_iload_n (pc := 4) (i := 1) C d_Rep_ancestorsOf_4 rfl rfl ?_
  refine g_istore_n (pc := 5) (i := 3) C d_Rep_ancestorsOf_5 rfl (by decide) rfl ?_
  exact G.lf (loop (n + 1) _ (by omega) rfl) (sb rfl (sb rfl (sb rfl sn)))
set_option maxRecDepth 100000 in
set_option maxHeartbeats 4000000 in
theorem c_Rep_greatestCommonAncestor (l : Launch) {D : Dt} (hD : OkD D) {r : Nat} {c : Cs} {τ : Cs × (Nat → Int64)} {rs : List Rc} {a b : Nat} (hr : r < 2) (hx : RcX c r rs) (hw : ∀ (n : Nat) (x : Rc), rs[n]? = some x → (∀ b, x.pa = some b → b < n) ∧ ∀ b, x.pb = some b → b < n) (ha : a < rs.length) (hb : b < rs.length) : Ct l D y_Rep_greatestCommonAncestor b_Rep_greatestCommonAncestor 5 (some .int) 3 [.int (nI b), .int (nI a), .ref (aRep D r)] ((c, τ) : Sg) (some (.int (eo (gcl (anc rs a &&& anc rs b) (min a b + 1))))) ((c, τ) : Sg) := by
  have h24 := hx.1
  refine Ct.of hD (by decide) (Nat.le_of_ble_eq_true rfl) [(0, some (.ref (aRep D r))), (1, some (.int (nI a))), (2, some (.int (nI b)))] rfl (fun X hX C => ?_)
  subst hX
  have loop : ∀ (m : Nat), m ≤ 24 → gcl (anc rs a &&& anc rs b) m = gcl (anc rs a &&& anc rs b) (min a b + 1) → G X D (Qp X D (fun r2 u => r2 = some (.int (eo (gcl (anc rs a &&& anc rs b) (min a b + 1)))) ∧ u = ((c, τ) : Sg))) (0, 0) ((c, τ) : Sg) 19 [(3, some (.int (anc rs a &&& anc rs b))), (4, some (.int (eo (pd m))))] [] := by
    intro m
    induction m with
    | zero =>
      intro hm he
      refine g_iload (pc := 19) C d_Rep_greatestCommonAncestor_19 rfl ?_
      refine g_if_lt (pc := 21) (tgt := 42) C d_Rep_greatestCommonAncestor_21 (by decide) (fun h21 => ?_) (fun h21 => ?_)
      · skip
        refine g_iconst (pc := 42) C d_Rep_greatestCommonAncestor_42 ic_m1 ?_
        refine g_iret (pc := 43) C d_Rep_greatestCommonAncestor_43 ?_
        exact ⟨by rw [← he]; rfl, rfl⟩
      · first | exact absurd h21 (by decide) | exact absurd (by decide) h21
    | succ m ih =>
      intro hm he
      show G X D _ (0, 0) _ 19 [(3, some (.int (anc rs a &&& anc rs b))), (4, some (.int (nI m)))] []
      refine g_iload (pc := 19) C d_Rep_greatestCommonAncestor_19 rfl ?_
      refine g_if_lt (pc := 21) (tgt := 42) C d_Rep_greatestCommonAncestor_21 (by decide) (fun h21 => ?_) (fun h21 => ?_)
      · first | exact absurd h21 (nI_pos (by omega)) | exact absurd (nI_pos (by omega)) h21
      · skip
        refine g_iload_n (pc := 24) (i := 3) C d_Rep_greatestCommonAncestor_24 rfl rfl ?_
        refine g_iload (pc := 25) C d_Rep_greatestCommonAncestor_25 rfl ?_
        refine g_ishr (pc := 27) C d_Rep_greatestCommonAncestor_27 ?_
        refine g_iconst (pc := 28) C d_Rep_greatestCommonAncestor_28 ic_1 ?_
        refine g_iand (pc := 29) C d_Rep_greatestCommonAncestor_29 ?_
        refine G.eq (st' := [.int (bitq (anc rs a &&& anc rs b) m)]) rfl rfl rfl ?_
        refine g_if_eq (pc := 30) (tgt := 36) C d_Rep_greatestCommonAncestor_30 (by decide) (fun h30 => ?_) (fun h30 => ?_)
        · skip
          refine g_iinc (pc := 36) C d_Rep_greatestCommonAncestor_36 rfl (v := eo (pd m)) (pd_dec m) rfl ?_
          refine g_goto (pc := 39) (tgt := 19) C d_Rep_greatestCommonAncestor_39 (by decide) ?_
          exact G.lf (ih (by omega) (by rw [← he]; conv => rhs; unfold gcl; rw [if_pos h30])) (sb rfl (sb rfl sn))
        · skip
          refine g_iload (pc := 33) C d_Rep_greatestCommonAncestor_33 rfl ?_
          refine g_iret (pc := 35) C d_Rep_greatestCommonAncestor_35 ?_
          refine ⟨?_, rfl⟩
          rw [← he]
          conv => rhs; unfold gcl
          rw [if_neg h30]
          rfl
  refine g_aload_n (pc := 0) (i := 0) C d_Rep_greatestCommonAncestor_0 rfl rfl ?_
  refine g_iload_n (pc := 1) (i := 1) C d_Rep_greatestCommonAncestor_1 rfl rfl ?_
  refine g_callV1 (pc := 2) (As := [_]) C my_Rep_ancestorsOf mv_Rep_ancestorsOf cl_Rep_208 (is_Rep (by omega)) d_Rep_greatestCommonAncestor_2 (Nat.le_of_ble_eq_true rfl) rfl (Nat.le_of_ble_eq_true rfl) ⟨Nat.zero_le _, Nat.zero_le _⟩ (c_Rep_ancestorsOf _ hD (by omega) hx hw (by omega)) ?_
  refine g_aload_n (pc := 5) (i := 0) C d_Rep_greatestCommonAncestor_5 rfl rfl ?_
  refine g_iload_n (pc := 6) (i := 2) C d_Rep_greatestCommonAncestor_6 rfl rfl ?_
  refine g_callV1 (pc := 7) (As := [_]) C my_Rep_ancestorsOf mv_Rep_ancestorsOf cl_Rep_208 (is_Rep (by omega)) d_Rep_greatestCommonAncestor_7 (Nat.le_of_ble_eq_true rfl) rfl (Nat.le_of_ble_eq_true rfl) ⟨Nat.zero_le _, Nat.zero_le _⟩ (c_Rep_ancestorsOf _ hD (by omega) hx hw (by omega)) ?_
  refine g_iand (pc := 10) C d_Rep_greatestCommonAncestor_10 ?_
  refine g_istore_n (pc := 11) (i := 3) C d_Rep_greatestCommonAncestor_11 rfl (by decide) rfl ?_
  refine g_iload_n (pc := 12) (i := 1) C d_Rep_greatestCommonAncestor_12 rfl rfl ?_
  refine g_iload_n (pc := 13) (i := 2) C d_Rep_greatestCommonAncestor_13 rfl rfl ?_
  refine g_mmin (pc := 14) C jl_Rep_211 d_Rep_greatestCommonAncestor_14 (by decide) (Nat.le_of_ble_eq_true rfl) ⟨Nat.zero_le _, Nat.zero_le _⟩ ?_
  rw [nI_min (by omega) (by omega)]
  refine g_istore (pc := 17) C d_Rep_greatestCommonAncestor_17 (by decide) rfl ?_
  exact G.lf (loop (min a b + 1) (by omega) rfl) (sb rfl (sb rfl sn))
set_option maxRecDepth 100000 in
set_option maxHeartbeats 4000000 in
theorem c_Rep_countHeads (l : Launch) {D : Dt} (hD : OkD D) {r : Nat} {c : Cs} {τ : Cs × (Nat → Int64)} {rs : List Rc} (hr : r < 2) (hx : RcX c r rs) (hw : ∀ (n : Nat) (x : Rc), rs[n]? = some x → (∀ b, x.pa = some b → b < n) ∧ ∀ b, x.pb = some b → b < n) (hct : c.1 (20 + r) 0 = nI rs.length) : Ct l D y_Rep_countHeads b_Rep_countHeads 3 (some .int) 2 [.ref (aRep D r)] ((c, τ) : Sg) (some (.int (nI rs.length - bitc (pall rs rs.length)))) ((c, τ) : Sg) := by
  have h24 := hx.1
  refine Ct.of hD (by decide) (Nat.le_of_ble_eq_true rfl) [(0, some (.ref (aRep D r)))] rfl (fun X hX C => ?_)
  subst hX
  have loop : ∀ (m n : Nat), n + m = rs.length → G X D (Qp X D (fun r2 u => r2 = some (.int (nI rs.length - bitc (pall rs rs.length))) ∧ u = ((c, τ) : Sg))) (0, 0) ((c, τ) : Sg) 4 [(0, some (.ref (aRep D r))), (1, some (.int (pall rs n))), (2, some (.int (nI n)))] [] := by
    intro m
    induction m with
    | zero =>
      intro n hn
      have hn2 : n = rs.length := by omega
      subst hn2
      refine g_iload_n (pc := 4) (i := 2) C d_Rep_countHeads_4 rfl rfl ?_
      refine g_aload_n (pc := 5) (i := 0) C d_Rep_countHeads_5 rfl rfl ?_
      refine gf_Rep_recordCount (pc := 6) C (by omega) fl_Rep_27 d_Rep_countHeads_6 ?_
      rw [hct]
      refine g_icmp_ge (pc := 9) (tgt := 26) C d_Rep_countHeads_9 (by decide) (fun h9 => ?_) (fun h9 => ?_)
      · skip
        refine g_aload_n (pc := 26) (i := 0) C d_Rep_countHeads_26 rfl rfl ?_
        refine gf_Rep_recordCount (pc := 27) C (by omega) fl_Rep_27 d_Rep_countHeads_27 ?_
        rw [hct]
        refine g_iload_n (pc := 30) (i := 1) C d_Rep_countHeads_30 rfl rfl ?_
        refine g_callS1 (pc := 31) (As := [_]) C my_JI_bitCount ms_JI_bitCount cl_Rep_203 d_Rep_countHeads_31 (Nat.le_of_ble_eq_true rfl) rfl (Nat.le_of_ble_eq_true rfl) ⟨Nat.zero_le _, Nat.zero_le _⟩ (c_JI_bitCount _ hD) ?_
        refine g_isub (pc := 34) C d_Rep_countHeads_34 ?_
        refine g_iret (pc := 35) C d_Rep_countHeads_35 ?_
        exact ⟨rfl, rfl⟩
      · first | exact absurd h9 (nI_le (Nat.le_refl _) (by omega)) | exact absurd (nI_le (Nat.le_refl _) (by omega)) h9
    | succ m ih =>
      intro n hn
      refine g_iload_n (pc := 4) (i := 2) C d_Rep_countHeads_4 rfl rfl ?_
      refine g_aload_n (pc := 5) (i := 0) C d_Rep_countHeads_5 rfl rfl ?_
      refine gf_Rep_recordCount (pc := 6) C (by omega) fl_Rep_27 d_Rep_countHeads_6 ?_
      rw [hct]
      refine g_icmp_ge (pc := 9) (tgt := 26) C d_Rep_countHeads_9 (by decide) (fun h9 => ?_) (fun h9 => ?_)
      · first | exact absurd h9 (nI_ge (show n < rs.length by omega) (by omega)) | exact absurd (nI_ge (show n < rs.length by omega) (by omega)) h9
      · skip
        refine g_iload_n (pc := 12) (i := 1) C d_Rep_countHeads_12 rfl rfl ?_
        refine g_aload_n (pc := 13) (i := 0) C d_Rep_countHeads_13 rfl rfl ?_
        refine g_iload_n (pc := 14) (i := 2) C d_Rep_countHeads_14 rfl rfl ?_
        refine g_callV1 (pc := 15) (As := [_]) C my_Rep_parentsOf mv_Rep_parentsOf cl_Rep_200 (is_Rep (by omega)) d_Rep_countHeads_15 (Nat.le_of_ble_eq_true rfl) rfl (Nat.le_of_ble_eq_true rfl) ⟨Nat.zero_le _, Nat.zero_le _⟩ (c_Rep_parentsOf _ hD (by omega) hx hw (by omega)) ?_
        refine g_ior (pc := 18) C d_Rep_countHeads_18 ?_
        refine g_istore_n (pc := 19) (i := 1) C d_Rep_countHeads_19 rfl (by decide) rfl ?_
        refine g_iinc (pc := 20) C d_Rep_countHeads_20 rfl (v := nI (n + 1)) (nI_inc n) rfl ?_
        refine g_goto (pc := 23) (tgt := 4) C d_Rep_countHeads_23 (by decide) ?_
        exact G.lf (ih (n + 1) (by omega)) (sb rfl (sb rfl (sb rfl sn)))
  refine g_iconst (pc := 0) C d_Rep_countHeads_0 ic_0 ?_
  refine g_istore_n (pc := 1) (i := 1) C d_Rep_countHeads_1 rfl (by decide) rfl ?_
  refine g_iconst (pc := 2) C d_Rep_countHeads_2 ic_0 ?_
  refine g_istore_n (pc := 3) (i := 2) C d_Rep_countHeads_3 rfl (by decide) rfl ?_
  exact G.lf (loop rs.length 0 (by omega)) (sb rfl (sb rfl (sb rfl sn)))
end
section
def oHeads (V : Vt) (r : Int32) : Int32 := if barV V r = 0 then nI (V.2 r.toNatClampNeg).rcs.length - bitc (pall (V.2 r.toNatClampNeg).rcs (V.2 r.toNatClampNeg).rcs.length) else barV V r
def inr (R : Rp) (n : Int32) : Prop := 0 ≤ n ∧ n < nI R.rcs.length
def oCommon (V : Vt) (r a b : Int32) : Int32 := if barV V r = 0 then (if (0 ≤ a ∧ a < nI (V.2 r.toNatClampNeg).rcs.length) ∧ (0 ≤ b ∧ b < nI (V.2 r.toNatClampNeg).rcs.length) then eo (gcl (anc (V.2 r.toNatClampNeg).rcs a.toNatClampNeg &&& anc (V.2 r.toNatClampNeg).rcs b.toNatClampNeg) (min a.toNatClampNeg b.toNatClampNeg + 1)) else -1) else barV V r
def oFld (x : Rc) (k : Int32) : Int32 := if k = nI 0 then nI x.off else if k = nI 1 then nI x.siz else if k = nI 2 then nI x.len else if k = nI 3 then eo x.bas else if k = nI 4 then eo x.pa else if k = nI 5 then eo x.pb else -1
def oRecord (V : Vt) (r n k : Int32) : Int32 := if barV V r = 0 then (if 0 ≤ n ∧ n < nI (V.2 r.toNatClampNeg).rcs.length then (match (V.2 r.toNatClampNeg).rcs[n.toNatClampNeg]? with
    | none => -1
    | some x => oFld x k) else -1) else barV V r
def oDamage (V : Vt) (r k x : Int32) : Bool × Vt := if barV V r = 0 ∧ (1 ≤ x ∧ x ≤ 255) ∧ 0 ≤ k ∧ k < nI (V.2 r.toNatClampNeg).dat.length then (true, upR V r.toNatClampNeg ((V.2 r.toNatClampNeg).dat.set k.toNatClampNeg ((V.2 r.toNatClampNeg).dat.getD k.toNatClampNeg 0 ^^^ x.toNatClampNeg), (V.2 r.toNatClampNeg).rcs, (V.2 r.toNatClampNeg).jrn, (V.2 r.toNatClampNeg).dwn, (V.2 r.toNatClampNeg).fai)) else (false, V)
theorem nI_xor (a b : Nat) : nI a ^^^ nI b = nI (a ^^^ b) := by
  unfold nI
  apply Int32.toBitVec_inj.mp
  simp [BitVec.ofNat_xor]
theorem WfR.par {R : Rp} (h : Wfs R.dat.length R.rcs) : ∀ (n : Nat) (x : Rc), R.rcs[n]? = some x → (∀ b, x.pa = some b → b < n) ∧ ∀ b, x.pb = some b → b < n := fun n x hx => ⟨(h n x hx).2.1, (h n x hx).2.2.1⟩
theorem RowIs.flp {c : Cs} {j i y : Nat} {xs : List Nat} (h : RowIs c j xs) (hj : j < 9) (hi : i < xs.length) : RowIs (wI c (10 + j) i (nI (xs.getD i 0) ^^^ nI y)) j (xs.set i (xs.getD i 0 ^^^ y)) := by
  refine ⟨?_, by rw [List.length_set]; exact h.2.1, fun k hk => ?_⟩
  · rw [wI_1n (by omega), List.length_set]
    exact h.1
  · rw [List.length_set] at hk
    rw [wI_1s]
    by_cases e : k = i
    · subst e
      rw [pk_us, nI_xor, List.getD_eq_getElem?_getD, List.getD_eq_getElem?_getD, List.getElem?_set_self hk]
      rfl
    · rw [pk_un e, h.2.2 k hk, List.getD_eq_getElem?_getD, List.getD_eq_getElem?_getD, List.getElem?_set_ne (Ne.symm e)]
theorem dmg_wf {R : Rp} {i y : Nat} (h : WfR R) (hy : y < 256) : WfR (R.dat.set i (R.dat.getD i 0 ^^^ y), R.rcs, R.jrn, R.dwn, R.fai) := by
  obtain ⟨a1, a2, a3, a4, a5, a6, a7⟩ := h
  have e : (R.dat.set i (R.dat.getD i 0 ^^^ y)).length = R.dat.length := List.length_set ..
  refine ⟨fun x hx => ?_, ?_, a3, a4, a5, fun d n hj => ?_, fun q => ?_⟩
  · rcases List.mem_or_eq_of_mem_set hx with h1 | h1
    · exact a1 x h1
    · rw [h1]
      exact Nat.xor_lt_two_pow (n := 8) (a1.get i) hy
  · show (R.dat.set i _).length ≤ 600
    rw [e]
    exact a2
  · show d ≤ (R.dat.set i _).length ∧ _
    rw [e]
    exact a6 d n hj
  · show Wfs (R.dat.set i _).length R.rcs
    rw [e]
    exact a7 q
/-- typing: eight bytes, the topmost first -/
def shI (i : Nat) : Int32 := Int32.ofInt (56 - 8 * (i : Int))
theorem sh_lt : ∀ i, i < 8 → ¬ shI i < 0 := by decide +kernel
theorem sh_8 : shI 8 < 0 := by decide +kernel
theorem sh_s : ∀ i, i < 8 → shI i + Int32.ofInt (-8) = shI (i + 1) := by decide +kernel
def bn (v : Int64) (i : Nat) : Nat := (byt v (shI i)).toNatClampNeg
theorem bn_v (v : Int64) (i : Nat) : byt v (shI i) = nI (bn v i) ∧ bn v i < 256 := by
  obtain ⟨j, hj, he⟩ := pk_andE ((v.toUInt64 >>> ((shI i).toInt64.toUInt64 &&& Int64.toUInt64 63)).toInt64.toInt32) (m := 255) 8 (by decide +kernel)
  have e : byt v (shI i) = nI j := he
  unfold bn
  rw [e, nI_clamp (by omega)]
  exact ⟨rfl, hj⟩
abbrev chr (n : Nat) : Prop := n = 10 ∨ (32 ≤ n ∧ n ≤ 126)
def tyL (v : Int64) : Nat → List Nat
  | 0 => []
  | i + 1 => tyL v i ++ (if bn v i = 0 then [] else [bn v i])
theorem tyL_len (v : Int64) : ∀ i, (tyL v i).length ≤ i
  | 0 => Nat.le_refl _
  | i + 1 => by
    have := tyL_len v i
    unfold tyL
    rw [List.length_append]
    split <;> simp <;> omega
theorem tyL_0 {v : Int64} {i : Nat} (h : bn v i = 0) : tyL v (i + 1) = tyL v i := by
  conv => lhs; unfold tyL
  rw [if_pos h, List.append_nil]
theorem tyL_1 {v : Int64} {i : Nat} (h : ¬ bn v i = 0) : tyL v (i + 1) = tyL v i ++ [bn v i] := by
  conv => lhs; unfold tyL
  rw [if_neg h]
abbrev tyOk (v : Int64) : Prop := ∀ i, i < 8 → bn v i = 0 ∨ chr (bn v i)
theorem tyL_mono (v : Int64) : ∀ m i, (tyL v i).length ≤ (tyL v (i + m)).length
  | 0, i => Nat.le_refl _
  | m + 1, i => by
    have h := tyL_mono v m i
    have e : (tyL v (i + (m + 1))).length = (tyL v (i + m) ++ (if bn v (i + m) = 0 then [] else [bn v (i + m)])).length := rfl
    rw [e, List.length_append]
    omega
theorem sh_0 : shI 0 = 56 := by decide +kernel
def oType (V : Vt) (v : Int64) : Bool × Vt := if tyOk v ∧ V.1.length + (tyL v 8).length ≤ 60 then (true, (V.1 ++ tyL v 8, V.2)) else (false, V)
theorem chr_lt {n : Nat} (h : chr n) : n < 256 := by
  rcases h with h | h <;> omega
theorem by_tyL {v : Int64} : ∀ i, By (tyL v i)
  | 0 => fun x hx => by cases hx
  | i + 1 => by
    unfold tyL
    refine (by_tyL i).app ?_
    split
    · intro x hx
      cases hx
    · intro x hx
      rw [List.mem_singleton.mp hx]
      exact (bn_v v i).2
theorem type_wf {V : Vt} {v : Int64} (h : WfV V) : WfV (oType V v).2 := by
  unfold oType
  split
  · rename_i hc
    exact ⟨h.1.app (by_tyL 8), by show (V.1 ++ tyL v 8).length ≤ 60; rw [List.length_append]; exact hc.2, h.2.2.1, h.2.2.2⟩
  · exact h
end
section
set_option maxRecDepth 100000 in
set_option maxHeartbeats 4000000 in
theorem c_Rec_field (l : Launch) {D : Dt} (hD : OkD D) {i : Nat} {c : Cs} {τ : Cs × (Nat → Int64)} {x : Rc} {k : Int32} (hi : i < 48) (hx : RecIs c i x) : Ct l D y_Rec_field b_Rec_field 2 (some .int) 1 [.int k, .ref (aRec D i)] ((c, τ) : Sg) (some (.int (oFld x k))) ((c, τ) : Sg) := by
  refine Ct.of hD (by decide) (Nat.le_of_ble_eq_true rfl) [(0, some (.ref (aRec D i))), (1, some (.int k))] rfl (fun X hX C => ?_)
  subst hX
  rcases pk_ix k (n := 6) (by decide) with h | h | ⟨j, hj, rfl⟩
  · have hne : ∀ j, j < 6 → ¬ k = nI j := fun j hj e => by
      subst e
      first | exact absurd h (nI_pos (by omega)) | exact absurd h (nI_ge hj (by decide))
    have ho : oFld x k = -1 := by
      unfold oFld
      rw [if_neg (hne 0 (by decide)), if_neg (hne 1 (by decide)), if_neg (hne 2 (by decide)), if_neg (hne 3 (by decide)), if_neg (hne 4 (by decide)), if_neg (hne 5 (by decide))]
    refine g_iload_n (pc := 0) (i := 1) C d_Rec_field_0 rfl rfl ?_
    refine g_tabOut (pc := 1) (tgt := 70) C d_Rec_field_1 (by first | exact Or.inl (Int32.lt_iff_toInt_lt.mp h) | (have h2 := Int32.le_iff_toInt_le.mp h; rw [nI_toInt (by decide)] at h2; exact Or.inr (by omega))) (by decide) ?_
    refine g_iconst (pc := 70) C d_Rec_field_70 ic_m1 ?_
    refine g_iret (pc := 71) C d_Rec_field_71 ?_
    exact ⟨by rw [ho], rfl⟩
  · have hne : ∀ j, j < 6 → ¬ k = nI j := fun j hj e => by
      subst e
      first | exact absurd h (nI_pos (by omega)) | exact absurd h (nI_ge hj (by decide))
    have ho : oFld x k = -1 := by
      unfold oFld
      rw [if_neg (hne 0 (by decide)), if_neg (hne 1 (by decide)), if_neg (hne 2 (by decide)), if_neg (hne 3 (by decide)), if_neg (hne 4 (by decide)), if_neg (hne 5 (by decide))]
    refine g_iload_n (pc := 0) (i := 1) C d_Rec_field_0 rfl rfl ?_
    refine g_tabOut (pc := 1) (tgt := 70) C d_Rec_field_1 (by first | exact Or.inl (Int32.lt_iff_toInt_lt.mp h) | (have h2 := Int32.le_iff_toInt_le.mp h; rw [nI_toInt (by decide)] at h2; exact Or.inr (by omega))) (by decide) ?_
    refine g_iconst (pc := 70) C d_Rec_field_70 ic_m1 ?_
    refine g_iret (pc := 71) C d_Rec_field_71 ?_
    exact ⟨by rw [ho], rfl⟩
  · rcases (show j = 0 ∨ j = 1 ∨ j = 2 ∨ j = 3 ∨ j = 4 ∨ j = 5 by omega) with rfl | rfl | rfl | rfl | rfl | rfl
    · refine g_iload_n (pc := 0) (i := 1) C d_Rec_field_0 rfl rfl ?_
      refine g_tabIn (pc := 1) (tgt := 40) (off := 39) C d_Rec_field_1 (by decide +kernel) (by decide +kernel) (by decide +kernel) (by decide) ?_
      refine g_aload_n (pc := 40) (i := 0) C d_Rec_field_40 rfl rfl ?_
      refine gf_Rec_offset (pc := 41) C (by omega) fl_Rec_9 d_Rec_field_41 ?_
      refine g_iret (pc := 44) C d_Rec_field_44 ?_
      exact ⟨by rw [hx.1]; rfl, rfl⟩
    · refine g_iload_n (pc := 0) (i := 1) C d_Rec_field_0 rfl rfl ?_
      refine g_tabIn (pc := 1) (tgt := 45) (off := 44) C d_Rec_field_1 (by decide +kernel) (by decide +kernel) (by decide +kernel) (by decide) ?_
      refine g_aload_n (pc := 45) (i := 0) C d_Rec_field_45 rfl rfl ?_
      refine gf_Rec_size (pc := 46) C (by omega) fl_Rec_15 d_Rec_field_46 ?_
      refine g_iret (pc := 49) C d_Rec_field_49 ?_
      exact ⟨by rw [hx.2.1]; rfl, rfl⟩
    · refine g_iload_n (pc := 0) (i := 1) C d_Rec_field_0 rfl rfl ?_
      refine g_tabIn (pc := 1) (tgt := 50) (off := 49) C d_Rec_field_1 (by decide +kernel) (by decide +kernel) (by decide +kernel) (by decide) ?_
      refine g_aload_n (pc := 50) (i := 0) C d_Rec_field_50 rfl rfl ?_
      refine gf_Rec_length (pc := 51) C (by omega) fl_Rec_21 d_Rec_field_51 ?_
      refine g_iret (pc := 54) C d_Rec_field_54 ?_
      exact ⟨by rw [hx.2.2.1]; rfl, rfl⟩
    · refine g_iload_n (pc := 0) (i := 1) C d_Rec_field_0 rfl rfl ?_
      refine g_tabIn (pc := 1) (tgt := 55) (off := 54) C d_Rec_field_1 (by decide +kernel) (by decide +kernel) (by decide +kernel) (by decide) ?_
      refine g_aload_n (pc := 55) (i := 0) C d_Rec_field_55 rfl rfl ?_
      refine gf_Rec_base (pc := 56) C (by omega) fl_Rec_18 d_Rec_field_56 ?_
      refine g_iret (pc := 59) C d_Rec_field_59 ?_
      exact ⟨by rw [hx.2.2.2.1]; rfl, rfl⟩
    · refine g_iload_n (pc := 0) (i := 1) C d_Rec_field_0 rfl rfl ?_
      refine g_tabIn (pc := 1) (tgt := 60) (off := 59) C d_Rec_field_1 (by decide +kernel) (by decide +kernel) (by decide +kernel) (by decide) ?_
      refine g_aload_n (pc := 60) (i := 0) C d_Rec_field_60 rfl rfl ?_
      refine gf_Rec_p1 (pc := 61) C (by omega) fl_Rec_24 d_Rec_field_61 ?_
      refine g_iret (pc := 64) C d_Rec_field_64 ?_
      exact ⟨by rw [hx.2.2.2.2.1]; rfl, rfl⟩
    · refine g_iload_n (pc := 0) (i := 1) C d_Rec_field_0 rfl rfl ?_
      refine g_tabIn (pc := 1) (tgt := 65) (off := 64) C d_Rec_field_1 (by decide +kernel) (by decide +kernel) (by decide +kernel) (by decide) ?_
      refine g_aload_n (pc := 65) (i := 0) C d_Rec_field_65 rfl rfl ?_
      refine gf_Rec_p2 (pc := 66) C (by omega) fl_Rec_27 d_Rec_field_66 ?_
      refine g_iret (pc := 69) C d_Rec_field_69 ?_
      exact ⟨by rw [hx.2.2.2.2.2.1]; rfl, rfl⟩
set_option maxRecDepth 100000 in
set_option maxHeartbeats 4000000 in
theorem c_V_record (l : Launch) {D : Dt} (hD : OkD D) {c : Cs} {τ : Cs × (Nat → Int64)} {V : Vt} {r n k : Int32} (hC : CAbs c V) : Ct l D y_V_record b_V_record 5 (some .int) 3 [.int k, .int n, .int r, .ref (aVlt D)] ((c, τ) : Sg) (some (.int (oRecord V r n k))) ((c, τ) : Sg) := by
  refine Ct.of hD (by decide) (Nat.le_of_ble_eq_true rfl) [(0, some (.ref (aVlt D))), (1, some (.int r)), (2, some (.int n)), (3, some (.int k))] rfl (fun X hX C => ?_)
  subst hX
  refine g_aload_n (pc := 0) (i := 0) C d_V_record_0 rfl rfl ?_
  refine g_iload_n (pc := 1) (i := 1) C d_V_record_1 rfl rfl ?_
  refine g_callV1 (pc := 2) (As := [_]) C my_V_barTo mv_V_barTo cl_V_84 is_V d_V_record_2 (Nat.le_of_ble_eq_true rfl) rfl (Nat.le_of_ble_eq_true rfl) ⟨Nat.zero_le _, Nat.zero_le _⟩ (c_V_barTo _ hD hC) ?_
  refine g_istore (pc := 5) C d_V_record_5 (by decide) rfl ?_
  refine g_iload (pc := 7) C d_V_record_7 rfl ?_
  refine g_if_eq (pc := 9) (tgt := 15) C d_V_record_9 (by decide) (fun h9 => ?_) (fun h9 => ?_)
  · obtain ⟨q, hq, rfl, hw⟩ := bar_0 h9
    have g := hC.rep hq
    have g24 := g.2.2.1
    have e0 := nI_clamp (n := q) (by omega)
    refine g_aload_n (pc := 15) (i := 0) C d_V_record_15 rfl rfl ?_
    refine gf_V_repositories (pc := 16) C fl_V_20 d_V_record_16 ?_
    refine g_iload_n (pc := 19) (i := 1) C d_V_record_19 rfl rfl ?_
    refine ga_rps (pc := 20) C (by omega) d_V_record_20 ?_
    refine g_iload_n (pc := 21) (i := 2) C d_V_record_21 rfl rfl ?_
    refine g_callV1 (pc := 22) (As := [_]) C my_Rep_hasRevision mv_Rep_hasRevision cl_V_101 (is_Rep (by omega)) d_V_record_22 (Nat.le_of_ble_eq_true rfl) rfl (Nat.le_of_ble_eq_true rfl) ⟨Nat.zero_le _, Nat.zero_le _⟩ (c_Rep_hasRevision _ hD (by omega)) ?_
    rw [g.1.1]
    refine g_if_eq (pc := 25) (tgt := 46) C d_V_record_25 (by decide) (fun h25 => ?_) (fun h25 => ?_)
    · have hb := b1_0 h25
      refine g_iconst (pc := 46) C d_V_record_46 ic_m1 ?_
      refine g_iret (pc := 47) C d_V_record_47 ?_
      exact ⟨by unfold oRecord; rw [if_pos h9, e0, if_neg hb], rfl⟩
    · have hb := b1_1 h25
      obtain ⟨m, hm, rfl⟩ := nI_at hb (by omega)
      obtain ⟨x, hx⟩ : ∃ x, (V.2 q).rcs[m]? = some x := ⟨_, List.getElem?_eq_getElem hm⟩
      have gr := g.2.2.2 m x hx
      refine g_aload_n (pc := 28) (i := 0) C d_V_record_28 rfl rfl ?_
      refine gf_V_repositories (pc := 29) C fl_V_20 d_V_record_29 ?_
      refine g_iload_n (pc := 32) (i := 1) C d_V_record_32 rfl rfl ?_
      refine ga_rps (pc := 33) C (by omega) d_V_record_33 ?_
      refine gf_Rep_records (pc := 34) C (by omega) fl_V_116 d_V_record_34 ?_
      refine g_iload_n (pc := 37) (i := 2) C d_V_record_37 rfl rfl ?_
      refine ga_rcs (pc := 38) C (by omega) (by omega) d_V_record_38 ?_
      refine g_iload_n (pc := 39) (i := 3) C d_V_record_39 rfl rfl ?_
      refine g_callV1 (pc := 40) (As := [_]) C my_Rec_field mv_Rec_field cl_V_120 (is_Rec (by omega)) d_V_record_40 (Nat.le_of_ble_eq_true rfl) rfl (Nat.le_of_ble_eq_true rfl) ⟨Nat.zero_le _, Nat.zero_le _⟩ (c_Rec_field _ hD (by omega) gr) ?_
      refine g_goto (pc := 43) (tgt := 47) C d_V_record_43 (by decide) ?_
      refine g_iret (pc := 47) C d_V_record_47 ?_
      exact ⟨by unfold oRecord; rw [if_pos h9, e0, if_pos hb, nI_clamp (by omega), hx], rfl⟩
  · skip
    refine g_iload (pc := 12) C d_V_record_12 rfl ?_
    refine g_iret (pc := 14) C d_V_record_14 ?_
    exact ⟨by unfold oRecord; rw [if_neg h9], rfl⟩
set_option maxRecDepth 100000 in
set_option maxHeartbeats 4000000 in
theorem c_V_heads (l : Launch) {D : Dt} (hD : OkD D) {c : Cs} {τ : Cs × (Nat → Int64)} {V : Vt} {r : Int32} (hC : CAbs c V) (hW : WfV V) : Ct l D y_V_heads b_V_heads 3 (some .int) 3 [.int r, .ref (aVlt D)] ((c, τ) : Sg) (some (.int (oHeads V r))) ((c, τ) : Sg) := by
  refine Ct.of hD (by decide) (Nat.le_of_ble_eq_true rfl) [(0, some (.ref (aVlt D))), (1, some (.int r))] rfl (fun X hX C => ?_)
  subst hX
  refine g_aload_n (pc := 0) (i := 0) C d_V_heads_0 rfl rfl ?_
  refine g_iload_n (pc := 1) (i := 1) C d_V_heads_1 rfl rfl ?_
  refine g_callV1 (pc := 2) (As := [_]) C my_V_barTo mv_V_barTo cl_V_84 is_V d_V_heads_2 (Nat.le_of_ble_eq_true rfl) rfl (Nat.le_of_ble_eq_true rfl) ⟨Nat.zero_le _, Nat.zero_le _⟩ (c_V_barTo _ hD hC) ?_
  refine g_istore_n (pc := 5) (i := 2) C d_V_heads_5 rfl (by decide) rfl ?_
  refine g_iload_n (pc := 6) (i := 2) C d_V_heads_6 rfl rfl ?_
  refine g_if_eq (pc := 7) (tgt := 14) C d_V_heads_7 (by decide) (fun h7 => ?_) (fun h7 => ?_)
  · obtain ⟨q, hq, rfl, hw⟩ := bar_0 h7
    have g := hC.rep hq
    have g24 := g.2.2.1
    have wf := hW.rep hq
    have wp := WfR.par (wf.2.2.2.2.2.2 (Or.inr hw))
    have e0 := nI_clamp (n := q) (by omega)
    refine g_aload_n (pc := 14) (i := 0) C d_V_heads_14 rfl rfl ?_
    refine gf_V_repositories (pc := 15) C fl_V_20 d_V_heads_15 ?_
    refine g_iload_n (pc := 18) (i := 1) C d_V_heads_18 rfl rfl ?_
    refine ga_rps (pc := 19) C (by omega) d_V_heads_19 ?_
    refine g_callV1 (pc := 20) (As := []) C my_Rep_countHeads mv_Rep_countHeads cl_V_142 (is_Rep (by omega)) d_V_heads_20 (Nat.le_of_ble_eq_true rfl) rfl (Nat.le_of_ble_eq_true rfl) ⟨Nat.zero_le _, Nat.zero_le _⟩ (c_Rep_countHeads _ hD (by omega) g.2.2 wp g.1.1) ?_
    refine g_iret (pc := 23) C d_V_heads_23 ?_
    exact ⟨by unfold oHeads; rw [if_pos h7, e0], rfl⟩
  · skip
    refine g_iload_n (pc := 10) (i := 2) C d_V_heads_10 rfl rfl ?_
    refine g_goto (pc := 11) (tgt := 23) C d_V_heads_11 (by decide) ?_
    refine g_iret (pc := 23) C d_V_heads_23 ?_
    exact ⟨by unfold oHeads; rw [if_neg h7], rfl⟩
set_option maxRecDepth 100000 in
set_option maxHeartbeats 4000000 in
theorem c_V_common (l : Launch) {D : Dt} (hD : OkD D) {c : Cs} {τ : Cs × (Nat → Int64)} {V : Vt} {r a b : Int32} (hC : CAbs c V) (hW : WfV V) : Ct l D y_V_common b_V_common 6 (some .int) 4 [.int b, .int a, .int r, .ref (aVlt D)] ((c, τ) : Sg) (some (.int (oCommon V r a b))) ((c, τ) : Sg) := by
  refine Ct.of hD (by decide) (Nat.le_of_ble_eq_true rfl) [(0, some (.ref (aVlt D))), (1, some (.int r)), (2, some (.int a)), (3, some (.int b))] rfl (fun X hX C => ?_)
  subst hX
  refine g_aload_n (pc := 0) (i := 0) C d_V_common_0 rfl rfl ?_
  refine g_iload_n (pc := 1) (i := 1) C d_V_common_1 rfl rfl ?_
  refine g_callV1 (pc := 2) (As := [_]) C my_V_barTo mv_V_barTo cl_V_84 is_V d_V_common_2 (Nat.le_of_ble_eq_true rfl) rfl (Nat.le_of_ble_eq_true rfl) ⟨Nat.zero_le _, Nat.zero_le _⟩ (c_V_barTo _ hD hC) ?_
  refine g_istore (pc := 5) C d_V_common_5 (by decide) rfl ?_
  refine g_iload (pc := 7) C d_V_common_7 rfl ?_
  refine g_if_eq (pc := 9) (tgt := 15) C d_V_common_9 (by decide) (fun h9 => ?_) (fun h9 => ?_)
  · obtain ⟨q, hq, rfl, hw⟩ := bar_0 h9
    have g := hC.rep hq
    have g24 := g.2.2.1
    have wf := hW.rep hq
    have wp := WfR.par (wf.2.2.2.2.2.2 (Or.inr hw))
    have e0 := nI_clamp (n := q) (by omega)
    refine g_aload_n (pc := 15) (i := 0) C d_V_common_15 rfl rfl ?_
    refine gf_V_repositories (pc := 16) C fl_V_20 d_V_common_16 ?_
    refine g_iload_n (pc := 19) (i := 1) C d_V_common_19 rfl rfl ?_
    refine ga_rps (pc := 20) C (by omega) d_V_common_20 ?_
    refine g_astore (pc := 21) C d_V_common_21 (by decide) rfl ?_
    refine g_aload (pc := 23) C d_V_common_23 rfl ?_
    refine g_iload_n (pc := 25) (i := 2) C d_V_common_25 rfl rfl ?_
    refine g_callV1 (pc := 26) (As := [_]) C my_Rep_hasRevision mv_Rep_hasRevision cl_V_101 (is_Rep (by omega)) d_V_common_26 (Nat.le_of_ble_eq_true rfl) rfl (Nat.le_of_ble_eq_true rfl) ⟨Nat.zero_le _, Nat.zero_le _⟩ (c_Rep_hasRevision _ hD (by omega)) ?_
    rw [g.1.1]
    refine g_if_eq (pc := 29) (tgt := 41) C d_V_common_29 (by decide) (fun h29 => ?_) (fun h29 => ?_)
    · have hx : ¬ ((0 ≤ a ∧ a < nI (V.2 q).rcs.length) ∧ (0 ≤ b ∧ b < nI (V.2 q).rcs.length)) := fun h => b1_0 h29 h.1
      refine g_iconst (pc := 41) C d_V_common_41 ic_m1 ?_
      refine g_iret (pc := 42) C d_V_common_42 ?_
      exact ⟨by unfold oCommon; rw [if_pos h9, e0, if_neg hx], rfl⟩
    · have ha := b1_1 h29
      obtain ⟨m, hm, rfl⟩ := nI_at ha (by omega)
      refine g_aload (pc := 32) C d_V_common_32 rfl ?_
      refine g_iload_n (pc := 34) (i := 3) C d_V_common_34 rfl rfl ?_
      refine g_callV1 (pc := 35) (As := [_]) C my_Rep_hasRevision mv_Rep_hasRevision cl_V_101 (is_Rep (by omega)) d_V_common_35 (Nat.le_of_ble_eq_true rfl) rfl (Nat.le_of_ble_eq_true rfl) ⟨Nat.zero_le _, Nat.zero_le _⟩ (c_Rep_hasRevision _ hD (by omega)) ?_
      rw [g.1.1]
      refine g_if_ne (pc := 38) (tgt := 43) C d_V_common_38 (by decide) (fun h38 => ?_) (fun h38 => ?_)
      · have hb := b1_1 h38
        obtain ⟨k, hk, rfl⟩ := nI_at hb (by omega)
        refine g_aload (pc := 43) C d_V_common_43 rfl ?_
        refine g_iload_n (pc := 45) (i := 2) C d_V_common_45 rfl rfl ?_
        refine g_iload_n (pc := 46) (i := 3) C d_V_common_46 rfl rfl ?_
        refine g_callV1 (pc := 47) (As := [_, _]) C my_Rep_greatestCommonAncestor mv_Rep_greatestCommonAncestor cl_V_145 (is_Rep (by omega)) d_V_common_47 (Nat.le_of_ble_eq_true rfl) rfl (Nat.le_of_ble_eq_true rfl) ⟨Nat.zero_le _, Nat.zero_le _⟩ (c_Rep_greatestCommonAncestor _ hD (by omega) g.2.2 wp hm hk) ?_
        refine g_iret (pc := 50) C d_V_common_50 ?_
        exact ⟨by unfold oCommon; rw [if_pos h9, e0, if_pos ⟨ha, hb⟩, nI_clamp (by omega), nI_clamp (by omega)], rfl⟩
      · have hx : ¬ ((0 ≤ nI m ∧ nI m < nI (V.2 q).rcs.length) ∧ (0 ≤ b ∧ b < nI (V.2 q).rcs.length)) := fun h => b1_0 h38 h.2
        refine g_iconst (pc := 41) C d_V_common_41 ic_m1 ?_
        refine g_iret (pc := 42) C d_V_common_42 ?_
        exact ⟨by unfold oCommon; rw [if_pos h9, e0, if_neg hx], rfl⟩
  · skip
    refine g_iload (pc := 12) C d_V_common_12 rfl ?_
    refine g_iret (pc := 14) C d_V_common_14 ?_
    exact ⟨by unfold oCommon; rw [if_neg h9], rfl⟩
set_option maxRecDepth 100000 in
set_option maxHeartbeats 4000000 in
theorem x_V_damage (l : Launch) {D : Dt} (hD : OkD D) {c : Cs} {τ : Cs × (Nat → Int64)} {V : Vt} {r k x : Int32} (hC : CAbs c V) : Cp l D y_V_damage b_V_damage 4 (some .boolean) 3 [.int x, .int k, .int r, .ref (aVlt D)] ((c, τ) : Sg) (fun a u => ∃ c2, u = ((c2, τ) : Sg) ∧ a = some (.int (b1 ((oDamage V r k x).1 = true))) ∧ CAbs c2 (oDamage V r k x).2) := by
  refine Cp.of hD (by decide) (Nat.le_of_ble_eq_true rfl) [(0, some (.ref (aVlt D))), (1, some (.int r)), (2, some (.int k)), (3, some (.int x))] rfl (fun X hX C => ?_)
  subst hX
  refine g_aload_n (pc := 0) (i := 0) C d_V_damage_0 rfl rfl ?_
  refine g_iload_n (pc := 1) (i := 1) C d_V_damage_1 rfl rfl ?_
  refine g_callV1 (pc := 2) (As := [_]) C my_V_barTo mv_V_barTo cl_V_84 is_V d_V_damage_2 (Nat.le_of_ble_eq_true rfl) rfl (Nat.le_of_ble_eq_true rfl) ⟨Nat.zero_le _, Nat.zero_le _⟩ (c_V_barTo _ hD hC) ?_
  refine g_if_ne (pc := 5) (tgt := 36) C d_V_damage_5 (by decide) (fun h5 => ?_) (fun h5 => ?_)
  · have hx : ¬ (barV V r = 0 ∧ (1 ≤ x ∧ x ≤ 255) ∧ 0 ≤ k ∧ k < nI (V.2 r.toNatClampNeg).dat.length) := fun h => h5 h.1
    refine g_iconst (pc := 36) C d_V_damage_36 ic_0 ?_
    refine g_zret (pc := 37) C d_V_damage_37 (by first | exact Or.inl rfl | exact Or.inr rfl) ?_
    refine ⟨c, rfl, ?_, ?_⟩
    · unfold oDamage
      rw [if_neg hx, b1_f (fun e => by cases e)]
    · unfold oDamage
      rw [if_neg hx]
      exact hC
  · skip
    refine g_iload_n (pc := 8) (i := 3) C d_V_damage_8 rfl rfl ?_
    refine g_iconst (pc := 9) C d_V_damage_9 ic_1 ?_
    refine g_icmp_lt (pc := 10) (tgt := 36) C d_V_damage_10 (by decide) (fun h10 => ?_) (fun h10 => ?_)
    · have hx : ¬ (barV V r = 0 ∧ (1 ≤ x ∧ x ≤ 255) ∧ 0 ≤ k ∧ k < nI (V.2 r.toNatClampNeg).dat.length) := fun h => absurd h10 (Int32.not_lt.mpr h.2.1.1)
      refine g_iconst (pc := 36) C d_V_damage_36 ic_0 ?_
      refine g_zret (pc := 37) C d_V_damage_37 (by first | exact Or.inl rfl | exact Or.inr rfl) ?_
      refine ⟨c, rfl, ?_, ?_⟩
      · unfold oDamage
        rw [if_neg hx, b1_f (fun e => by cases e)]
      · unfold oDamage
        rw [if_neg hx]
        exact hC
    · skip
      refine g_iload_n (pc := 13) (i := 3) C d_V_damage_13 rfl rfl ?_
      refine g_sipush (pc := 14) C d_V_damage_14 sp_255 ?_
      refine g_icmp_gt (pc := 17) (tgt := 36) C d_V_damage_17 (by decide) (fun h17 => ?_) (fun h17 => ?_)
      · have hx : ¬ (barV V r = 0 ∧ (1 ≤ x ∧ x ≤ 255) ∧ 0 ≤ k ∧ k < nI (V.2 r.toNatClampNeg).dat.length) := fun h => absurd h17 (Int32.not_lt.mpr h.2.1.2)
        refine g_iconst (pc := 36) C d_V_damage_36 ic_0 ?_
        refine g_zret (pc := 37) C d_V_damage_37 (by first | exact Or.inl rfl | exact Or.inr rfl) ?_
        refine ⟨c, rfl, ?_, ?_⟩
        · unfold oDamage
          rw [if_neg hx, b1_f (fun e => by cases e)]
        · unfold oDamage
          rw [if_neg hx]
          exact hC
      · have hxx : 1 ≤ x ∧ x ≤ 255 := ⟨Int32.not_lt.mp h10, Int32.not_lt.mp h17⟩
        obtain ⟨q, hq, rfl, hw⟩ := bar_0 h5
        have g := hC.rep hq
        have gl := g.2.1.2.1
        have gl2 := rl_1 hq
        have e0 := nI_clamp (n := q) (by omega)
        refine g_aload_n (pc := 20) (i := 0) C d_V_damage_20 rfl rfl ?_
        refine gf_V_repositories (pc := 21) C fl_V_20 d_V_damage_21 ?_
        refine g_iload_n (pc := 24) (i := 1) C d_V_damage_24 rfl rfl ?_
        refine ga_rps (pc := 25) C (by omega) d_V_damage_25 ?_
        refine gf_Rep_data (pc := 26) C (by omega) fl_V_129 d_V_damage_26 ?_
        refine g_iload_n (pc := 29) (i := 2) C d_V_damage_29 rfl rfl ?_
        refine g_callV1 (pc := 30) (As := [_]) C my_Row_has mv_Row_has cl_V_132 (is_Row (by omega)) d_V_damage_30 (Nat.le_of_ble_eq_true rfl) rfl (Nat.le_of_ble_eq_true rfl) ⟨Nat.zero_le _, Nat.zero_le _⟩ (c_Row_has _ hD (by omega)) ?_
        rw [g.2.1.1]
        refine g_if_ne (pc := 33) (tgt := 38) C d_V_damage_33 (by decide) (fun h33 => ?_) (fun h33 => ?_)
        · have hb := b1_1 h33
          have hx : barV V (nI q) = 0 ∧ (1 ≤ x ∧ x ≤ 255) ∧ 0 ≤ k ∧ k < nI (V.2 (nI q).toNatClampNeg).dat.length := ⟨h5, hxx, by rw [e0]; exact hb⟩
          obtain ⟨i, hi, rfl⟩ := nI_at hb (by omega)
          obtain ⟨y, hy, rfl⟩ := nI_of2 (M := 255) (n := 255) (by decide +kernel) (fun h => by have h1 := Int32.lt_iff_toInt_lt.mp h; have h2 := Int32.le_iff_toInt_le.mp hxx.1; rw [i32_1] at h2; rw [Int32.toInt_zero] at h1; omega) hxx.2
          refine g_aload_n (pc := 38) (i := 0) C d_V_damage_38 rfl rfl ?_
          refine gf_V_repositories (pc := 39) C fl_V_20 d_V_damage_39 ?_
          refine g_iload_n (pc := 42) (i := 1) C d_V_damage_42 rfl rfl ?_
          refine ga_rps (pc := 43) C (by omega) d_V_damage_43 ?_
          refine gf_Rep_data (pc := 44) C (by omega) fl_V_129 d_V_damage_44 ?_
          refine g_iload_n (pc := 47) (i := 2) C d_V_damage_47 rfl rfl ?_
          refine g_iload_n (pc := 48) (i := 3) C d_V_damage_48 rfl rfl ?_
          refine g_callV0 (pc := 49) (As := [_, _]) C my_Row_flip mv_Row_flip cl_V_135 (is_Row (by omega)) d_V_damage_49 (Nat.le_of_ble_eq_true rfl) rfl (Nat.le_of_ble_eq_true rfl) ⟨Nat.zero_le _, Nat.zero_le _⟩ (c_Row_flip _ hD (by omega) g.2.1.1 g.2.1.2.1) ?_
          rw [g.2.1.1, if_pos hb, nI_clamp (by omega), g.2.1.2.2 i hi]
          refine g_iconst (pc := 52) C d_V_damage_52 ic_1 ?_
          refine g_zret (pc := 53) C d_V_damage_53 (by first | exact Or.inl rfl | exact Or.inr rfl) ?_
          refine ⟨_, rfl, ?_, ?_⟩
          · unfold oDamage
            rw [if_pos hx, b1_t rfl]
          · unfold oDamage
            rw [if_pos hx, e0, nI_clamp (by omega), nI_clamp (by omega)]
            have hs : Sm (Ci (10 + (1 + 4 * q))) c (wI c (10 + (1 + 4 * q)) i (nI ((V.2 q).dat.getD i 0) ^^^ nI y)) := sm_c1
            refine hC.up hq (fun h => h.sm hs (by unfold Ci; omega) (by unfold Ci; omega)) ⟨?_, g.2.1.flp (by omega) hi, g.2.2.sm hs (fun t ht => by unfold Ci; omega)⟩ (fun k hk hn h => h.gm hs (fun t ht => by unfold Ci; omega)) (hC.2.2.2.gm hs (fun r hr k hk => by unfold Ci; omega))
            rw [hs.1 _ (by unfold Ci; omega)]
            exact g.1
        · have hx : ¬ (barV V (nI q) = 0 ∧ (1 ≤ x ∧ x ≤ 255) ∧ 0 ≤ k ∧ k < nI (V.2 (nI q).toNatClampNeg).dat.length) := fun h => b1_0 h33 (by rw [e0] at h; exact h.2.2)
          refine g_iconst (pc := 36) C d_V_damage_36 ic_0 ?_
          refine g_zret (pc := 37) C d_V_damage_37 (by first | exact Or.inl rfl | exact Or.inr rfl) ?_
          refine ⟨c, rfl, ?_, ?_⟩
          · unfold oDamage
            rw [if_neg hx, b1_f (fun e => by cases e)]
          · unfold oDamage
            rw [if_neg hx]
            exact hC
set_option maxRecDepth 100000 in
set_option maxHeartbeats 4000000 in
theorem c_V_isCharacter (l : Launch) {D : Dt} (hD : OkD D) {n : Nat} {σ : Sg} (hn : n < 256) : Ct l D y_V_isCharacter b_V_isCharacter 1 (some .boolean) 1 [.int (nI n)] σ (some (.int (b1 (chr n)))) σ := by
  refine Ct.of hD (by decide) (Nat.le_of_ble_eq_true rfl) [(0, some (.int (nI n)))] rfl (fun X hX C => ?_)
  subst hX
  refine g_iload_n (pc := 0) (i := 0) C d_V_isCharacter_0 rfl rfl ?_
  refine g_bipush (pc := 1) C d_V_isCharacter_1 bpn_10 ?_
  refine g_icmp_eq (pc := 3) (tgt := 18) C d_V_isCharacter_3 (by decide) (fun h3 => ?_) (fun h3 => ?_)
  · have h1 : chr n := Or.inl ((nI_eq (by omega) (by decide)).mp h3)
    refine g_iconst (pc := 18) C d_V_isCharacter_18 ic_1 ?_
    refine g_goto (pc := 19) (tgt := 23) C d_V_isCharacter_19 (by decide) ?_
    refine g_zret (pc := 23) C d_V_isCharacter_23 (by first | exact Or.inl rfl | exact Or.inr rfl) ?_
    first | exact ⟨by rw [b1_t h1], rfl⟩ | exact ⟨by rw [b1_f h1], rfl⟩
  · have h0 : ¬ n = 10 := fun e => h3 (by rw [e])
    refine g_iload_n (pc := 6) (i := 0) C d_V_isCharacter_6 rfl rfl ?_
    refine g_bipush (pc := 7) C d_V_isCharacter_7 bpn_32 ?_
    refine g_icmp_lt (pc := 9) (tgt := 22) C d_V_isCharacter_9 (by decide) (fun h9 => ?_) (fun h9 => ?_)
    · have h1 : ¬ chr n := fun h => by
        have := (nI_ltI (by omega) (by decide)).mp h9
        omega
      refine g_iconst (pc := 22) C d_V_isCharacter_22 ic_0 ?_
      refine g_zret (pc := 23) C d_V_isCharacter_23 (by first | exact Or.inl rfl | exact Or.inr rfl) ?_
      first | exact ⟨by rw [b1_t h1], rfl⟩ | exact ⟨by rw [b1_f h1], rfl⟩
    · skip
      refine g_iload_n (pc := 12) (i := 0) C d_V_isCharacter_12 rfl rfl ?_
      refine g_bipush (pc := 13) C d_V_isCharacter_13 bpn_126 ?_
      refine g_icmp_gt (pc := 15) (tgt := 22) C d_V_isCharacter_15 (by decide) (fun h15 => ?_) (fun h15 => ?_)
      · have h1 : ¬ chr n := fun h => by
          have := (nI_ltI (by decide) (by omega)).mp h15
          omega
        refine g_iconst (pc := 22) C d_V_isCharacter_22 ic_0 ?_
        refine g_zret (pc := 23) C d_V_isCharacter_23 (by first | exact Or.inl rfl | exact Or.inr rfl) ?_
        first | exact ⟨by rw [b1_t h1], rfl⟩ | exact ⟨by rw [b1_f h1], rfl⟩
      · have h1 : chr n := Or.inr ⟨Nat.not_lt.mp fun h => h9 (nI_lt h (by decide)), Nat.not_lt.mp fun h => h15 (nI_lt h (by omega))⟩
        refine g_iconst (pc := 18) C d_V_isCharacter_18 ic_1 ?_
        refine g_goto (pc := 19) (tgt := 23) C d_V_isCharacter_19 (by decide) ?_
        refine g_zret (pc := 23) C d_V_isCharacter_23 (by first | exact Or.inl rfl | exact Or.inr rfl) ?_
        first | exact ⟨by rw [b1_t h1], rfl⟩ | exact ⟨by rw [b1_f h1], rfl⟩
end
section
set_option maxRecDepth 100000 in
set_option maxHeartbeats 4000000 in
theorem x_V_type (l : Launch) {D : Dt} (hD : OkD D) {c : Cs} {τ : Cs × (Nat → Int64)} {V : Vt} {v : Int64} (hC : CAbs c V) : Cp l D y_V_type b_V_type 6 (some .boolean) 3 [.long v, .ref (aVlt D)] ((c, τ) : Sg) (fun a u => ∃ c2, u = ((c2, τ) : Sg) ∧ a = some (.int (b1 ((oType V v).1 = true))) ∧ CAbs c2 (oType V v).2) := by
  have r0 : rln 0 = 60 := rfl
  have lb := hC.1.2.1
  rw [r0] at lb
  have no : ¬ (tyOk v ∧ V.1.length + (tyL v 8).length ≤ 60) → ∃ c2, ((c, τ) : Sg) = ((c2, τ) : Sg) ∧ some (Value.int 0) = some (Value.int (b1 ((oType V v).1 = true))) ∧ CAbs c2 (oType V v).2 := fun hx => by
    refine ⟨c, rfl, ?_, ?_⟩
    · unfold oType
      rw [if_neg hx, b1_f (fun e => by cases e)]
    · unfold oType
      rw [if_neg hx]
      exact hC
  refine Cp.of hD (by decide) (Nat.le_of_ble_eq_true rfl) [(0, some (.ref (aVlt D))), (1, some (.long v))] rfl (fun X hX C => ?_)
  subst hX
  have loop2 : (tyOk v ∧ V.1.length + (tyL v 8).length ≤ 60) → ∀ (m i : Nat) (c1 : Cs), i + m = 8 → RowIs c1 0 (V.1 ++ tyL v i) → Sm (Rw 0) c c1 → G X D (Qp X D (fun a u => ∃ c2, u = ((c2, τ) : Sg) ∧ a = some (.int (b1 ((oType V v).1 = true))) ∧ CAbs c2 (oType V v).2)) (0, 0) ((c1, τ) : Sg) 63 [(0, some (.ref (aVlt D))), (1, some (.long v)), (4, some (.int (shI i)))] [] := by
    intro hx m
    induction m with
    | zero =>
      intro i c1 hi hrow hs
      have hi8 : i = 8 := by omega
      subst hi8
      refine g_iload (pc := 63) C d_V_type_63 rfl ?_
      refine g_if_lt (pc := 65) (tgt := 97) C d_V_type_65 (by decide) (fun h65 => ?_) (fun h65 => ?_)
      · skip
        refine g_iconst (pc := 97) C d_V_type_97 ic_1 ?_
        refine g_zret (pc := 98) C d_V_type_98 (by first | exact Or.inl rfl | exact Or.inr rfl) ?_
        refine ⟨c1, rfl, ?_, ?_⟩
        · unfold oType
          rw [if_pos hx, b1_t rfl]
        · unfold oType
          rw [if_pos hx]
          exact ⟨hrow, hC.2.1.gm hs (fun t ht => by unfold Rw; omega), hC.2.2.1.gm hs (fun t ht => by unfold Rw; omega), hC.2.2.2.gm hs (fun r hr k hk => by unfold Rw; omega)⟩
      · first | exact absurd h65 (sh_8) | exact absurd (sh_8) h65
    | succ m ih =>
      intro i c1 hi hrow hs
      have hmono := tyL_mono v m (i + 1)
      rw [show i + 1 + m = 8 by omega] at hmono
      refine g_iload (pc := 63) C d_V_type_63 rfl ?_
      refine g_if_lt (pc := 65) (tgt := 97) C d_V_type_65 (by decide) (fun h65 => ?_) (fun h65 => ?_)
      · first | exact absurd h65 (sh_lt i (by omega)) | exact absurd (sh_lt i (by omega)) h65
      · skip
        refine g_lload_n (pc := 68) (i := 1) C d_V_type_68 rfl rfl ?_
        refine g_iload (pc := 69) C d_V_type_69 rfl ?_
        refine g_callS1 (pc := 71) (As := [_, _]) C my_V_byteAt ms_V_byteAt cl_V_25 d_V_type_71 (Nat.le_of_ble_eq_true rfl) rfl (Nat.le_of_ble_eq_true rfl) ⟨Nat.zero_le _, Nat.zero_le _⟩ (c_V_byteAt _ hD) ?_
        rw [(bn_v v i).1]
        refine g_istore (pc := 74) C d_V_type_74 (by decide) rfl ?_
        refine g_iload (pc := 76) C d_V_type_76 rfl ?_
        refine g_if_eq (pc := 78) (tgt := 91) C d_V_type_78 (by decide) (fun h78 => ?_) (fun h78 => ?_)
        · have hz : bn v i = 0 := (nI_eq (by have := (bn_v v i).2; omega) (by decide)).mp (h78.trans nI_0.symm)
          refine g_iinc (pc := 91) C d_V_type_91 rfl (v := shI (i + 1)) (sh_s i (by omega)) rfl ?_
          refine g_goto (pc := 94) (tgt := 63) C d_V_type_94 (by decide) ?_
          exact G.lf (ih (i + 1) c1 (by omega) (by rw [tyL_0 hz]; exact hrow) hs) (sb rfl (sb rfl (sb rfl sn)))
        · have hz : ¬ bn v i = 0 := fun e => h78 (by rw [e]; exact nI_0)
          have hl : (V.1 ++ tyL v i).length < rln 0 := by
            rw [tyL_1 hz, List.length_append] at hmono
            rw [List.length_append, r0]
            have := hx.2
            simp only [List.length_cons, List.length_nil] at hmono
            omega
          refine g_aload_n (pc := 81) (i := 0) C d_V_type_81 rfl rfl ?_
          refine gf_V_buffer (pc := 82) C fl_V_14 d_V_type_82 ?_
          refine g_iload (pc := 85) C d_V_type_85 rfl ?_
          refine g_callV1 (pc := 87) (As := [_]) C my_Row_add mv_Row_add cl_V_37 (is_Row (by omega)) d_V_type_87 (Nat.le_of_ble_eq_true rfl) rfl (Nat.le_of_ble_eq_true rfl) ⟨Nat.zero_le _, Nat.zero_le _⟩ (c_add1 _ hD (by decide) hrow hl) ?_
          refine g_pop (pc := 90) C d_V_type_90 rfl ?_
          refine g_iinc (pc := 91) C d_V_type_91 rfl (v := shI (i + 1)) (sh_s i (by omega)) rfl ?_
          refine g_goto (pc := 94) (tgt := 63) C d_V_type_94 (by decide) ?_
          exact G.lf (ih (i + 1) _ (by omega) (by rw [tyL_1 hz, ← List.append_assoc]; exact hrow.add (by decide) hl) (hs.tr sm_add)) (sb rfl (sb rfl (sb rfl sn)))
  have tail : tyOk v → G X D (Qp X D (fun a u => ∃ c2, u = ((c2, τ) : Sg) ∧ a = some (.int (b1 ((oType V v).1 = true))) ∧ CAbs c2 (oType V v).2)) (0, 0) ((c, τ) : Sg) 43 [(0, some (.ref (aVlt D))), (1, some (.long v)), (3, some (.int (nI (tyL v 8).length)))] [] := by
    intro hok
    have l8 := tyL_len v 8
    refine g_iload_n (pc := 43) (i := 3) C d_V_type_43 rfl rfl ?_
    refine g_bipush (pc := 44) C d_V_type_44 bpn_60 ?_
    refine g_aload_n (pc := 46) (i := 0) C d_V_type_46 rfl rfl ?_
    refine gf_V_buffer (pc := 47) C fl_V_14 d_V_type_47 ?_
    refine gf_Row_length (pc := 50) C (by omega) fl_V_33 d_V_type_50 ?_
    rw [hC.1.1]
    refine g_isub (pc := 53) C d_V_type_53 ?_
    rw [pk_sub lb]
    refine g_icmp_le (pc := 54) (tgt := 59) C d_V_type_54 (by decide) (fun h54 => ?_) (fun h54 => ?_)
    · have hx : tyOk v ∧ V.1.length + (tyL v 8).length ≤ 60 := ⟨hok, by have := (nI_leI (by omega) (by omega)).mp h54; omega⟩
      refine g_bipush (pc := 59) C d_V_type_59 bp_56 ?_
      refine g_istore (pc := 61) C d_V_type_61 (by decide) rfl ?_
      exact G.lf (loop2 hx 8 0 c (by omega) (by show RowIs c 0 (V.1 ++ []); rw [List.append_nil]; exact hC.1) Sm.rf) (sb rfl (sb rfl (sb (by rw [sh_0]; rfl) sn)))
    · have hx : ¬ (tyOk v ∧ V.1.length + (tyL v 8).length ≤ 60) := fun h => h54 (nI_le (by omega) (by omega))
      refine g_iconst (pc := 57) C d_V_type_57 ic_0 ?_
      refine g_zret (pc := 58) C d_V_type_58 (by first | exact Or.inl rfl | exact Or.inr rfl) ?_
      exact no hx
  have loop1 : ∀ (m i : Nat), i + m = 8 → (∀ j, j < i → bn v j = 0 ∨ chr (bn v j)) → G X D (Qp X D (fun a u => ∃ c2, u = ((c2, τ) : Sg) ∧ a = some (.int (b1 ((oType V v).1 = true))) ∧ CAbs c2 (oType V v).2)) (0, 0) ((c, τ) : Sg) 6 [(0, some (.ref (aVlt D))), (1, some (.long v)), (3, some (.int (nI (tyL v i).length))), (4, some (.int (shI i)))] [] := by
    intro m
    induction m with
    | zero =>
      intro i hi hok
      have hi8 : i = 8 := by omega
      subst hi8
      refine g_iload (pc := 6) C d_V_type_6 rfl ?_
      refine g_if_lt (pc := 8) (tgt := 43) C d_V_type_8 (by decide) (fun h8 => ?_) (fun h8 => ?_)
      · skip
        exact G.lf (tail hok) (sb rfl (sb rfl (sb rfl sn)))
      · first | exact absurd h8 (sh_8) | exact absurd (sh_8) h8
    | succ m ih =>
      intro i hi hok
      refine g_iload (pc := 6) C d_V_type_6 rfl ?_
      refine g_if_lt (pc := 8) (tgt := 43) C d_V_type_8 (by decide) (fun h8 => ?_) (fun h8 => ?_)
      · first | exact absurd h8 (sh_lt i (by omega)) | exact absurd (sh_lt i (by omega)) h8
      · skip
        refine g_lload_n (pc := 11) (i := 1) C d_V_type_11 rfl rfl ?_
        refine g_iload (pc := 12) C d_V_type_12 rfl ?_
        refine g_callS1 (pc := 14) (As := [_, _]) C my_V_byteAt ms_V_byteAt cl_V_25 d_V_type_14 (Nat.le_of_ble_eq_true rfl) rfl (Nat.le_of_ble_eq_true rfl) ⟨Nat.zero_le _, Nat.zero_le _⟩ (c_V_byteAt _ hD) ?_
        rw [(bn_v v i).1]
        refine g_istore (pc := 17) C d_V_type_17 (by decide) rfl ?_
        refine g_iload (pc := 19) C d_V_type_19 rfl ?_
        refine g_if_eq (pc := 21) (tgt := 37) C d_V_type_21 (by decide) (fun h21 => ?_) (fun h21 => ?_)
        · have hz : bn v i = 0 := (nI_eq (by have := (bn_v v i).2; omega) (by decide)).mp (h21.trans nI_0.symm)
          refine g_iinc (pc := 37) C d_V_type_37 rfl (v := shI (i + 1)) (sh_s i (by omega)) rfl ?_
          refine g_goto (pc := 40) (tgt := 6) C d_V_type_40 (by decide) ?_
          exact G.lf (ih (i + 1) (by omega) (fun j hj => (Nat.lt_or_ge j i).elim (hok j) (fun h => (show i = j by omega) ▸ Or.inl hz))) (sb rfl (sb rfl (sb (by rw [tyL_0 hz]; rfl) (sb rfl sn))))
        · have hz : ¬ bn v i = 0 := fun e => h21 (by rw [e]; exact nI_0)
          refine g_iload (pc := 24) C d_V_type_24 rfl ?_
          refine g_callS1 (pc := 26) (As := [_]) C my_V_isCharacter ms_V_isCharacter cl_V_29 d_V_type_26 (Nat.le_of_ble_eq_true rfl) rfl (Nat.le_of_ble_eq_true rfl) ⟨Nat.zero_le _, Nat.zero_le _⟩ (c_V_isCharacter _ hD (bn_v _ _).2) ?_
          refine g_if_ne (pc := 29) (tgt := 34) C d_V_type_29 (by decide) (fun h29 => ?_) (fun h29 => ?_)
          · have hg := b1_1 h29
            refine g_iinc (pc := 34) C d_V_type_34 rfl (v := nI ((tyL v i).length + 1)) (nI_inc _) rfl ?_
            refine g_iinc (pc := 37) C d_V_type_37 rfl (v := shI (i + 1)) (sh_s i (by omega)) rfl ?_
            refine g_goto (pc := 40) (tgt := 6) C d_V_type_40 (by decide) ?_
            exact G.lf (ih (i + 1) (by omega) (fun j hj => (Nat.lt_or_ge j i).elim (hok j) (fun h => (show i = j by omega) ▸ Or.inr hg))) (sb rfl (sb rfl (sb (by rw [tyL_1 hz, List.length_append]; rfl) (sb rfl sn))))
          · have hg := b1_0 h29
            refine g_iconst (pc := 32) C d_V_type_32 ic_0 ?_
            refine g_zret (pc := 33) C d_V_type_33 (by first | exact Or.inl rfl | exact Or.inr rfl) ?_
            exact no (fun h => (h.1 i (by omega)).elim hz hg)
  refine g_iconst (pc := 0) C d_V_type_0 icn_0 ?_
  refine g_istore_n (pc := 1) (i := 3) C d_V_type_1 rfl (by decide) rfl ?_
  refine g_bipush (pc := 2) C d_V_type_2 bp_56 ?_
  refine g_istore (pc := 4) C d_V_type_4 (by decide) rfl ?_
  exact G.lf (loop1 8 0 (by omega) (fun j hj => by omega)) (sb rfl (sb rfl (sb rfl (sb (by rw [sh_0]; rfl) sn))))
end
section
/-! THROWING -/
def up2 : List String := ["java/lang/RuntimeException", "java/lang/Exception"]
def isr (w : Cond) : Bool := decide (w = .isRef (.static Bundle.tN "UNASSIGNED_STACK" Bundle.steD)) || decide (w = .isRef (.static Bundle.tN "SUPPRESSED_SENTINEL" Bundle.listD))
def ils : Cond → Bool
  | .laysStatic .. => true
  | _ => false
def chk : List Nat → List Cond → Bool
  | _, [] => true
  | [], _ :: _ => false
  | i :: ix, w :: ws => ((decide (tables_1[i]? = some w) && (gw w || ils w)) || isr w) && chk ix ws
def Hw (w : Cond) : Prop := w ∈ UNI ∨ isr w = true ∨ (w ∈ lw_tbl ∧ ils w = true)
theorem chk_ok : ∀ (ix : List Nat) (ws : List Cond), chk ix ws = true → ∀ w ∈ ws, Hw w
  | _, [], _, w, hw => by cases hw
  | [], _ :: _, h, _, _ => by cases h
  | i :: ix, x :: ws, h, w, hw => by
    simp only [chk, Bool.and_eq_true, Bool.or_eq_true, decide_eq_true_eq] at h
    rcases List.mem_cons.mp hw with rfl | hw
    · rcases h.1 with ⟨h1, h2 | h2⟩ | h
      · exact Or.inl (un i h1 h2)
      · exact Or.inr (Or.inr ⟨List.mem_append_right _ (List.mem_of_getElem? h1), h2⟩)
      · exact Or.inr (Or.inl h)
    · exact chk_ok ix ws h.2 w hw
def OkT (l : Launch) (D : Dt) : Prop := l.stackTraces = false ∧ ∃ a0 : Array Value, (Jvm.Cond.and given_1 narrow_1).before a0 D.2.2.2 = true
theorem isref_at {C f d : String} {a0 a : Array Value} {s0 s : State} (hW : s0.WarmedH s.vm) (hlow : ∀ q, q < s0.heap.size → s.heap[q]? = s0.heap[q]?) (h : (Cond.isRef (.static C f d)).before a0 s0 = true) : (Cond.isRef (.static C f d)).before a s = true := by
  have h1 : (Cond.isRef (.static C f d)).before a0 (s0.setVm s.vm) = true := Cond.before_shiftedFace (State.Shifted.of_warmed hW) _ rfl h
  have key : ∀ v, (Term.static C f d).eval a0 (s0.setVm s.vm) none [] (s0.setVm s.vm) = some v → (Term.static C f d).eval a s none [] s = some v := by
    intro v hv
    simp only [Term.eval] at hv ⊢
    have e : (s0.setVm s.vm).fieldNamed? C f d true = s.fieldNamed? C f d true := rfl
    rw [e] at hv
    cases hf : s.fieldNamed? C f d true with
    | none => rw [hf] at hv; cases hv
    | some q =>
      obtain ⟨q1, k, slot⟩ := q
      cases hk : k.statics with
      | none => simp [hf, hk] at hv
      | some aS =>
        have e2 : (s0.setVm s.vm).heap = s0.heap := rfl
        cases hc : s0.heap[aS]? with
        | none => simp [hf, hk, e2, hc] at hv
        | some cell =>
          have hl := hlow aS (Array.getElem?_eq_some_iff.mp hc).1
          rw [hc] at hl
          simp [hf, hk, e2, hc] at hv
          simp [hf, hk, hl]
          exact hv
  simp only [Cond.before, Cond.holds, Cond.value, beq_iff_eq] at h1 ⊢
  cases hv : (Term.static C f d).eval a0 (s0.setVm s.vm) none [] (s0.setVm s.vm) with
  | none => rw [hv] at h1; cases h1
  | some v => rw [hv] at h1; rw [key v hv]; exact h1
theorem lays_at {C f d : String} {a0 a : Array Value} {s0 s : State} (hW : s0.WarmedH s.vm) (hlow : ∀ q, q < s0.heap.size → s.heap[q]? = s0.heap[q]?) (h : (Cond.laysStatic C f d).before a0 s0 = true) : (Cond.laysStatic C f d).before a s = true := by
  have h1 : (Cond.laysStatic C f d).before a0 (s0.setVm s.vm) = true := Cond.before_shiftedFace (State.Shifted.of_warmed hW) _ rfl h
  obtain ⟨c, k, i, fd, aS, cell, g1, g2, g3, g4, g5, g6, g7, g8, g9⟩ := Cond.laysStatic_spec h1
  have e1 : s.vm.findClass C = some c := g1
  have e2 : s.fieldFound? C f d = some (c, k, i, fd) := g2
  have e5 : s0.heap[aS]? = some cell := g5
  have hl := hlow aS (Array.getElem?_eq_some_iff.mp e5).1
  rw [e5] at hl
  simp [Cond.before, Cond.holds, Cond.value, e1, e2, g3, g4, hl, g6, g7, g8, g9]
theorem OkT.hw {l : Launch} {D : Dt} (hT : OkT l D) (hD : OkD D) {a : Array Value} {s : State} (hW : D.2.2.2.WarmedH s.vm) (hlow : ∀ q, q < D.2.2.2.heap.size → s.heap[q]? = D.2.2.2.heap[q]?) {w : Cond} (h : Hw w) : w.before a s = true := by
  obtain ⟨-, a0, h0⟩ := hT
  have hf := flat_of_before _ h0
  rcases h with h | h | ⟨h, h2⟩
  · exact hD.ts hW a w h
  · simp only [isr, Bool.or_eq_true, decide_eq_true_eq] at h
    rcases h with rfl | rfl
    · exact isref_at hW hlow (hf _ (by decide +kernel))
    · exact isref_at hW hlow (hf _ (by decide +kernel))
  · obtain ⟨a1, h1⟩ := hD.2.2.2
    have h3 := h1 w h
    cases w <;> first | exact lays_at hW hlow h3 | cases h2
/-- what a throw of class E from RevisionVault asks of the tables: class at 'i', constructor at 'ic' -/
def Tw (E : String) (i ic : Nat) : Prop := (∀ w ∈ Bundle.ownAtoms0 R_V ic E up2, Hw w) ∧ Cond.classLink R_V i E ∈ UNI ∧ Cond.instantiable E 6 ∈ UNI ∧ Cond.initialized E ∈ UNI ∧ Bundle.fit E = true
def rmt (d : Nat) : Room := { frames := d, cells := 1, slots := 6, locals := 60 * d }
def Thr (D : Dt) (E : String) (post : Sg → Prop) (st t : State) (x : Addr) : Prop :=
  (∃ cell : Cell, t.heap[x]? = some cell ∧ cell.vm = .none ∧ D.2.2.2.vm.findClass E = some cell.cls) ∧ (∃ u, post u ∧ Wd D u t) ∧ va_F (Ab D) st t ∧ st.WarmedH t.vm ∧ ∃ L, st.sameButNew ({ t with vm := st.vm } : State) L 1 6 ∧ ∀ q ∈ L, Ab D q.base
def Tt (l : Launch) (D : Dt) (y : MethodName) (bytes : ByteArray) (maxL : Nat) (rty : Option FieldType) (d : Nat) (RA : List Value) (σ : Sg) (E : String) (post : Sg → Prop) : Prop :=
  MetFree l y (headSpec [.code y bytes maxL rty] (rmt d)) (fun v U => v = RA.reverse.toArray ∧ Wd D σ U) (fun _ _ _ _ _ => True) (fun _ st o t => ∃ x, o = .threw x ∧ Thr D E post st t x)
def Qt (X : Cx) (D : Dt) (E : String) (post : Sg → Prop) : State → Prop := fun t => ∃ x, t.status = .running ∧ Ended t X.2.2.2.2.2.2.2.1 (.threw x) ∧ Thr D E post X.2.2.2.2.1 t x
/-- room for one throw, no handlers -/
def Rx (X : Cx) : Prop := 1 ≤ X.2.2.2.1.cells ∧ 6 ≤ X.2.2.2.1.slots ∧ X.2.2.2.2.2.2.2.2.2.exceptionTable.isEmpty = true
theorem Tt.of {l : Launch} {D : Dt} {y : MethodName} {bytes : ByteArray} {maxL : Nat} {rty : Option FieldType} {d : Nat} {RA : List Value} {σ : Sg} {E : String} {post : Sg → Prop} (hD : OkD D) (hy : plainName y.cls = true) (hn : (lg_sl RA.reverse).length ≤ maxL) (L : Lc) (hL : la 0 RA.reverse = L)
    (body : ∀ X : Cx, X.2.1 = l → Fx X D y.cls bytes maxL d rty → Rx X → G X D (Qt X D E post) (0, 0) σ 0 L []) : Tt l D y bytes maxL rty d RA σ E post := by
  refine MetFree.of_bodyS (code := bytes) (maxLocals := maxL) (ret := rty) hy ?_ ?_
  · intro args s m h hn
    obtain ⟨meth, c, h1, h2, h3, h4, h5, h6, -, -⟩ := Cond.code_spec hn (atoms_spec (ws := [.code y bytes maxL rty]) h _ List.mem_cons_self)
    exact ⟨meth, c, h1, h2, h3, h4, h5, h6⟩
  · intro p e s m args below meth c s₁ B hml hv _
    obtain ⟨rfl, hW⟩ := hv
    have hh0 : s₁.heap = s.heap := by rw [B.state]; rfl
    have hl := lv_entry RA.reverse (n := maxL) hn
    have hne := B.noHandlers (atoms_spec (ws := [.code y bytes maxL rty]) B.pre _ List.mem_cons_self)
    have K := body (p, l, e, (headSpec [.code y bytes maxL rty] (rmt d)).room, s, m, RA.reverse.toArray, below, meth, c) rfl ⟨B.exec, B.bytes, findClass_of_methodNamed B.named, hW.2.1, hD, ⟨Nat.le_refl _, Nat.le_refl _⟩, B.returns, B.notSynchronized, hml, hW.2.2.1, hW.2.2.2⟩ ⟨Nat.le_refl _, Nat.le_refl _, hne⟩ s.heap [] _ hW.1 va_S.rf ⟨by show _ = c.maxLocals; rw [hml]; exact hl.1, hl.2.1, fun i v hv => ?_⟩
    · rw [← lg_entry_eq] at K
      obtain ⟨t, a1, x, b1, b2, b3⟩ := K s₁ hh0 (Stand.of_body B)
      exact ⟨t, .threw x, a1, b1, b2, x, rfl, b3⟩
    · rw [← hL] at hv
      have key : ∀ (q : List (Nat × Value)) (i : Nat) (v : Value), lk (q.map (fun q => (q.1, some q.2))) i = some v → (i, v) ∈ q := by
        intro q
        induction q with
        | nil => intro i v h; cases h
        | cons a q ih =>
          intro i v h
          rw [List.map_cons, lk_cons] at h
          split at h
          · rename_i e
            cases h
            subst e
            exact List.mem_cons_self
          · exact List.mem_cons_of_mem _ (ih i v h)
      exact hl.2.2 (i, v) (key _ i v hv)
/-- the same walk, told from here on: nothing has been made yet -/
theorem st_root {p : Program} {l : Launch} {e : Env} {R : Room} {s : State} {m : MethodId} {args : Array Value} {below : List Frame} {meth : Method} {c : Code} {T : State} {locs : List Loc} (X : Stand p l e R s m args below meth c T locs 0 0) :
    Stand p l e R ({ s with heap := T.heap, slotsUsed := T.slotsUsed } : State) m args below meth c T [] 0 0 := by
  have hb := X.book
  have h1 : T.heap.size ≤ s.heap.size := X.heapSize
  have h2 : T.slotsUsed ≤ s.slotsUsed := X.used
  have hr := X.room
  refine ⟨X.admits, X.cas, X.clock, X.frames, ?_, X.hears, X.method, X.code, X.here, X.tail, X.warmed, X.limits, X.bytes, ?_⟩
  · simp only [State.hasRoom, Bool.and_eq_true, decide_eq_true_eq] at hr ⊢
    refine ⟨⟨⟨hr.1.1.1, ?_⟩, ?_⟩, hb⟩
    · exact Nat.le_trans (Nat.add_le_add_right h1 _) hr.1.1.2
    · exact Nat.le_trans (Nat.add_le_add_right h2 _) hr.1.2
  · obtain ⟨e1, -⟩ := X.same
    refine ⟨?_, Nat.le_refl _, Nat.le_refl _, ?_, ?_, fun a c hc => ⟨c, hc, rfl, rfl, fun _ _ => rfl⟩⟩
    · exact e1
    · show T.slotsUsed = T.slotsUsed + ((T.heap.toList.drop T.heap.size).map (·.slots.size)).sum
      rw [List.drop_of_length_le (by simp)]
      rfl
    · show ((T.heap.toList.drop T.heap.size).map (·.slots.size)).sum ≤ 0
      rw [List.drop_of_length_le (by simp)]
      exact Nat.le_refl _
theorem same_cell {s t : State} {k n : Nat} (h : s.sameButNew t [] k n) {a : Nat} {cell : Cell} (hc : s.heap[a]? = some cell) : t.heap[a]? = some cell := by
  obtain ⟨c', h1, h2, h3, h4⟩ := h.2.2.2.2.2 a cell hc
  have e : c'.slots = cell.slots := by
    apply Array.ext_getElem?
    intro i
    exact h4 i (by simp)
  rw [h1, h2, e]
theorem same_P {D : va_G} {cl : List vw_C} {ws : va_W} {H H' : Heap} (h : ∀ (a : Nat) (cell : Cell), H[a]? = some cell → H'[a]? = some cell) (hP : va_P D cl ws H) : va_P D cl ws H' := by
  intro k q hq
  have hk := hP k q hq
  unfold va_at at hk ⊢
  split at hk
  · exact h _ _ hk
  · obtain ⟨q', h0, cell, h1, h2⟩ := hk
    exact ⟨q', h0, cell, h _ _ h1, h2⟩
theorem same_root {p : Program} {l : Launch} {e : Env} {R : Room} {s : State} {m : MethodId} {args : Array Value} {below : List Frame} {meth : Method} {c : Code} {T U : State} {locs : List Loc} {k n : Nat} (X : Stand p l e R s m args below meth c T locs 0 0)
    (h : ({ s with heap := T.heap, slotsUsed := T.slotsUsed } : State).sameButNew U [] k n) : s.sameButNew U locs k n := by
  obtain ⟨-, a2, a3, a4, a5, a6⟩ := X.same
  obtain ⟨b1, b2, b3, b4, b5, b6⟩ := id h
  have hsz : T.heap.size = s.heap.size := Nat.le_antisymm a3 a2
  have hsu : T.slotsUsed = s.slotsUsed := by
    have h1 : T.slotsUsed = s.slotsUsed + _ := a4
    have h2 := Nat.le_zero.mp a5
    rw [h1]
    exact congrArg (s.slotsUsed + ·) h2
  have b2' : T.heap.size ≤ U.heap.size := b2
  have b3' : U.heap.size ≤ T.heap.size + k := b3
  have b4' : U.slotsUsed = T.slotsUsed + ((U.heap.toList.drop T.heap.size).map (·.slots.size)).sum := b4
  have b5' : ((U.heap.toList.drop T.heap.size).map (·.slots.size)).sum ≤ n := b5
  rw [hsz] at b2' b3' b4' b5'
  rw [hsu] at b4'
  refine ⟨b1, b2', b3', b4', b5', fun a cl hc => ?_⟩
  obtain ⟨c', h1, h2, h3, h4⟩ := a6 a cl hc
  exact ⟨c', same_cell h h1, h2, h3, h4⟩
section GT
variable {X : Cx} {D : Dt} {σ : Sg} {pc : Nat} {L : Lc} {st : List Value} {cc : ByteArray} {nL d i ic : Nat} {ret : Option FieldType} {E : String} {post : Sg → Prop}
set_option maxHeartbeats 4000000 in
theorem g_throw (C : Fx X D R_V cc nL d ret) (hO : OkT X.2.1 D) (hR : Rx X) (hw : Tw E i ic) (hp : post σ) (h6 : 6 ≤ d) (d0 : decode cc pc = .ok (.new i, 3)) (d3 : decode cc (pc + 3) = .ok (.dup, 1)) (d4 : decode cc (pc + 4) = .ok (.invokespecial ic, 3)) (d7 : decode cc (pc + 7) = .ok (.athrow, 1)) :
    G X D (Qt X D E post) (0, 0) σ pc L [] := by
  intro H locs ls hP hS hL T hT X0
  have hX := st_root X0
  have hlow : ∀ q, q < D.2.2.2.heap.size → T.heap[q]? = D.2.2.2.heap[q]? := fun q hq => by
    rw [hT, hS.2.1 q (Nat.lt_of_lt_of_le hq C.sz) (Ab.lo C.ok hq)]
    exact C.lw q hq
  have htr : X.2.2.1.platform.stackTraces = false := by rw [X0.admits.platform]; exact hO.1
  have hts : ∀ w ∈ UNI, w.before X.2.2.2.2.2.2.1 ({ X.2.2.2.2.1 with heap := T.heap, slotsUsed := T.slotsUsed } : State) = true := OkD.ts (U := ({ X.2.2.2.2.1 with heap := T.heap, slotsUsed := T.slotsUsed } : State)) C.ok C.wa _
  have hat : ∀ a ∈ Bundle.ownAtoms0 R_V ic E up2, a.before X.2.2.2.2.2.2.1 ({ X.2.2.2.2.1 with heap := T.heap, slotsUsed := T.slotsUsed } : State) = true := fun a ha => OkT.hw (s := ({ X.2.2.2.2.1 with heap := T.heap, slotsUsed := T.slotsUsed } : State)) hO C.ok C.wa hlow (hw.1 a ha)
  obtain ⟨vm₁, cX, kX, hfX, hkX, -, -, X₁, st1⟩ := hX.newCold C.ex (own := R_V) (C := E) (index := i) (n := 6) C.ow (hts _ hw.2.1) (hts _ hw.2.2.1) (hts _ hw.2.2.2.1) (g := F0 X.2.2.2.2.2.1 pc ls []) rfl (by rw [C.bt]; exact d0) (by rw [Nat.zero_add]; exact hR.1) (by rw [Nat.zero_add]; exact hR.2.1)
  generalize hT2 : (T.setVm vm₁).pushCell { cls := cX, slots := kX.instanceTypes.map defaultValue, vm := .none } = T2 at X₁ st1
  have hcellA : T2.heap[T.heap.size]? = some (freshCell cX kX) := by rw [← hT2]; exact State.heap_pushCell_size _ _
  have hrm := C.rm
  obtain ⟨U, hsteps, hrun, hend, hWU, hsame, ce, hce, K⟩ := X₁.ctorThrow0 C.ex htr (own := R_V) (cls := E) (names := up2) (ic := ic) C.ow hw.2.2.2.2 (by decide +kernel) hat (fun y hy => by cases hy) hfX hkX hcellA (Nat.le_refl _)
    (g := F0 X.2.2.2.2.2.1 (pc + 4) ls [.ref T.heap.size, .ref T.heap.size]) rfl hL.1 rfl rfl (rest := []) rfl (by rw [C.bt]; exact d4) (by rw [C.bt]; exact d7) (covers_of_empty hR.2.2 _) (by simp only [up2, List.length_cons, List.length_nil]; omega) (by simp only [up2, List.length_cons, List.length_nil, List.map_cons, List.map_nil, List.sum_cons, List.sum_nil, Value.category, JFrame.monitorRoom]; omega) C.lo
  have hkeep : ∀ (a : Nat) (cell : Cell), T.heap[a]? = some cell → U.heap[a]? = some cell := fun a cell h => same_cell hsame h
  have hsz : T.heap.size ≤ U.heap.size := hsame.2.1
  have heq : ∀ q, q < T.heap.size → U.heap[q]? = T.heap[q]? := fun q hq => by
    rw [hkeep q _ (Array.getElem?_eq_getElem hq), Array.getElem?_eq_getElem hq]
  refine ⟨U, ?_, T.heap.size, hrun, hend, ⟨ce, hce, K.vm, ?_⟩, ⟨σ, hp, same_P (hT ▸ hkeep) hP, State.WarmedH.trans C.wa hWU, Nat.le_trans C.sz (Nat.le_trans hS.1 (hT ▸ hsz)), fun q hq => ?_⟩, ⟨Nat.le_trans hS.1 (hT ▸ hsz), fun q h1 h2 => ?_⟩, hWU, locs, ?_, hS.2.2⟩
  · refine st1 _ ?_
    show Steps X.1.tables X.2.2.1 X.2.2.2.2.2.2.2.1 (T2.setTop (F0 X.2.2.2.2.2.1 (pc + 3) ls [.ref T.heap.size])) U
    have hx := C.ex
    have hb := C.bt
    jvm_step X₁.here [X₁.here.top, hx, hb, d3, Value.category]
    exact hsteps
  · rw [← C.wa.alike.findClass E none]
    exact K.cls
  · rw [heq q (Nat.lt_of_lt_of_le hq (Nat.le_trans C.sz (hT ▸ hS.1)))]
    exact hlow q hq
  · rw [heq q (Nat.lt_of_lt_of_le h1 (hT ▸ hS.1)), hT]
    exact hS.2.1 q h1 h2
  · exact same_root X0 hsame
end GT
def E_IOOBE : String := "java/lang/IndexOutOfBoundsException"
theorem tw_IOOBE : Tw E_IOOBE 91 93 := ⟨chk_ok [6, 282, 291, 297, 300, 302, 283, 284, 32, 33, 285, 290, 298, 532, 272, 533, 274, 534, 276, 286, 287, 288, 289, 278, 671, 672, 673, 674, 263, 674, 675, 676, 677, 265, 677, 678, 679, 283, 267, 670, 662, 663, 664, 295, 665, 666, 667, 668, 0, 0, 281, 280, 669] _ (by decide +kernel), un 661 (by decide +kernel) (by decide +kernel), un 662 (by decide +kernel) (by decide +kernel), un 9 (by decide +kernel) (by decide +kernel), by decide +kernel⟩
def E_ISE : String := "java/lang/IllegalStateException"
theorem tw_ISE : Tw E_ISE 54 56 := ⟨chk_ok [6, 282, 291, 297, 300, 302, 283, 284, 32, 33, 285, 290, 298, 532, 272, 533, 274, 534, 276, 286, 287, 288, 289, 278, 692, 693, 694, 674, 263, 674, 675, 676, 677, 265, 677, 678, 679, 283, 267, 691, 683, 684, 685, 294, 686, 687, 688, 689, 0, 0, 281, 280, 690] _ (by decide +kernel), un 682 (by decide +kernel) (by decide +kernel), un 683 (by decide +kernel) (by decide +kernel), un 10 (by decide +kernel) (by decide +kernel), by decide +kernel⟩
def E_IAE : String := "java/lang/IllegalArgumentException"
theorem tw_IAE : Tw E_IAE 67 69 := ⟨chk_ok [6, 282, 291, 297, 300, 302, 283, 284, 32, 33, 285, 290, 298, 532, 272, 533, 274, 534, 276, 286, 287, 288, 289, 278, 725, 726, 727, 674, 263, 674, 675, 676, 677, 265, 677, 678, 679, 283, 267, 724, 261, 262, 269, 270, 271, 273, 275, 277, 0, 0, 281, 280, 279] _ (by decide +kernel), un 723 (by decide +kernel) (by decide +kernel), un 261 (by decide +kernel) (by decide +kernel), un 11 (by decide +kernel) (by decide +kernel), by decide +kernel⟩
def E_UOE : String := "java/lang/UnsupportedOperationException"
theorem tw_UOE : Tw E_UOE 74 76 := ⟨chk_ok [6, 282, 291, 297, 300, 302, 283, 284, 32, 33, 285, 290, 298, 532, 272, 533, 274, 534, 276, 286, 287, 288, 289, 278, 787, 788, 789, 674, 263, 674, 675, 676, 677, 265, 677, 678, 679, 283, 267, 786, 778, 779, 780, 296, 781, 782, 783, 784, 0, 0, 281, 280, 785] _ (by decide +kernel), un 777 (by decide +kernel) (by decide +kernel), un 778 (by decide +kernel) (by decide +kernel), un 25 (by decide +kernel) (by decide +kernel), by decide +kernel⟩
end
section
/-! A CALL THAT THROWS -/
section GU
variable {X : Cx} {D : Dt} {Q : State → Prop} {z : Nat × Nat} {σ : Sg} {post : Sg → Prop} {pc : Nat} {L : Lc} {own E : String} {cc : ByteArray} {nL d d2 index n maxL : Nat} {ret rty : Option FieldType} {y : MethodName} {bytes : ByteArray} {As rest RA : List Value} {b : Nat}
/-- the walk stands behind a call that threw x: the note lies over its frame -/
def Tn (X : Cx) (D : Dt) (E : String) (post : Sg → Prop) (H : Heap) (locs : List Loc) (z : Nat × Nat) (x : Addr) (T' : State) : Prop :=
  ∃ Lx, Stand X.1 X.2.1 X.2.2.1 X.2.2.2.1 X.2.2.2.2.1 X.2.2.2.2.2.1 X.2.2.2.2.2.2.1 X.2.2.2.2.2.2.2.1 X.2.2.2.2.2.2.2.2.1 X.2.2.2.2.2.2.2.2.2 T' (locs ++ Lx) (z.1 + 1) (z.2 + 6) ∧
    (∃ cell : Cell, T'.heap[x]? = some cell ∧ cell.vm = .none ∧ D.2.2.2.vm.findClass E = some cell.cls) ∧ (∃ u, post u ∧ Wd D u T') ∧ (H.size ≤ T'.heap.size ∧ ∀ q : Nat, q < H.size → ¬ Ab D q → T'.heap[q]? = H[q]?) ∧ ∀ q ∈ Lx, Ab D q.base
set_option maxHeartbeats 4000000 in
theorem cx_thrown (C : Fx X D own cc nL d ret) (hm : My y bytes maxL rty n) (hd2 : d2 + 1 ≤ d) (hz : z.1 + 1 ≤ X.2.2.2.1.cells ∧ z.2 + 6 ≤ X.2.2.2.1.slots) (hc : Tt X.2.1 D y bytes maxL rty d2 RA σ E post)
    {H : Heap} {locs : List Loc} {U : State} (hU : U.heap = H) (hWd : Wd D σ U) (X0 : Stand X.1 X.2.1 X.2.2.1 X.2.2.2.1 X.2.2.2.2.1 X.2.2.2.2.2.1 X.2.2.2.2.2.2.1 X.2.2.2.2.2.2.2.1 X.2.2.2.2.2.2.2.2.1 X.2.2.2.2.2.2.2.2.2 U locs z.1 z.2)
    {g : JFrame} (hg : g.method = X.2.2.2.2.2.1) (hsize : g.locals.size = X.2.2.2.2.2.2.2.2.2.maxLocals) {ig : Instr} {len : Nat} (hdg : decode X.2.2.2.2.2.2.2.2.2.code g.pc = .ok (ig, len)) (hW : 2 * g.monitorRoom + (g.stack.map fun v => v.category).sum ≤ 8) {mk : MethodId} (hn : U.methodNamed? y = some mk) :
    ∃ x T', Tn X D E post H locs z x T' ∧ Steps X.1.tables X.2.2.1 X.2.2.2.2.2.2.2.1 (doInvoke X.2.2.1 (U.setTop g) [] mk RA.reverse.toArray).1 ((T'.setTop g).pushFrame (.throwing x)) := by
  obtain ⟨hcode, hini, hy, hpar, hml⟩ := hm
  have hWU : D.2.2.2.WarmedH U.vm := State.WarmedH.trans C.wa X0.warmed
  have h2 : (Cond.code y bytes maxL rty).before RA.reverse.toArray U = true := C.ok.ts hWU _ _ hcode
  have h3 : (Cond.initialized y.cls).before RA.reverse.toArray U = true := C.ok.ts hWU _ _ hini
  obtain ⟨methY, cY, hmY, hcY, -, hlY, -, -, -, -⟩ := Cond.code_spec hn h2
  obtain ⟨kY, hkY, -⟩ := className_of_methodNamed hn
  have hinitY : kY.init = .initialized := Cond.initialized_spec (findClass_of_methodNamed hn) hkY h3
  have h : At U g.method X.2.2.2.2.2.2.2.2.2 X.2.2.2.2.2.2.2.1 := by rw [hg]; exact X0.here
  have hrm := cx_room C hd2 hml
  have happ : (headSpec [.code y bytes maxL rty] (rmt d2)).appliesLoose y X.2.2.1.platform (U.calling g mk RA.reverse.toArray) = true :=
    Spec.appliesLoose_calling (g := g) h hdg hn hkY hinitY
      (X0.room_calling (g := g) (R' := rmt d2) hsize hmY hcY hrm.1 (by rw [hlY]; have := hrm.2; simp only [rmk] at this; simp only [rmt]; omega) hz.1 hz.2) (atoms_intro (fun w hw => by rw [List.mem_singleton.mp hw]; exact h2))
  obtain ⟨mid, hmid⟩ := h.above
  have hfr : (U.setTop g).frames = (.java g :: mid) ++ X.2.2.2.2.2.2.2.1 := by rw [State.frames_setTop' g h.top, hmid]; rfl
  obtain ⟨o, s₂, hsteps, -, hend, x, rfl, hcell, ⟨u, hpo, hWd2⟩, hF, hWm, L2, hsame, hL2⟩ := Steps.callFree hc X.1 X0.admits X0.cas X0.clock (acts := []) hfr happ ⟨rfl, hWd⟩ trivial
  rw [State.frames_setTop' g h.top, X0.tail] at hend
  obtain ⟨T', X', hW', hsm, e⟩ := X0.outOfThrown hg (mk := mk) (a := RA.reverse.toArray) hend hWm hsame
  have hh : T'.heap = s₂.heap := by rw [e]; exact (throwing_heap T' g x).symm
  have hv : T'.vm = s₂.vm := by rw [e]; exact (throwing_vm T' g x).symm
  refine ⟨x, T', ⟨L2, X', by rw [hh]; exact hcell, ⟨u, hpo, by rw [hh]; exact hWd2.1, by rw [hv]; exact hWd2.2.1, by rw [hh]; exact hWd2.2.2.1, by rw [hh]; exact hWd2.2.2.2⟩, by rw [hh, ← hU]; exact hF, hL2⟩, by rw [← e]; exact hsteps⟩
/-- out of a method without handlers -/
theorem cx_out (C : Fx X D own cc nL d ret) (hR : Rx X) {H : Heap} {locs : List Loc} (hS : va_S (Ab D) X.2.2.2.2.1.heap H locs) {x : Addr} {T' : State} (h : Tn X D E post H locs (0, 0) x T') {g : JFrame} (hg : g.method = X.2.2.2.2.2.1) (hl : g.locked = none) (he : g.entered = []) :
    ∃ t, Steps X.1.tables X.2.2.1 X.2.2.2.2.2.2.2.1 ((T'.setTop g).pushFrame (.throwing x)) t ∧ Qt X D E post t := by
  obtain ⟨Lx, X', hcell, hWd, hF, hLx⟩ := h
  obtain ⟨h1, h2, h3, h4, h5⟩ := X'.leaveThrown x hg hl he (covers_of_empty hR.2.2 _) C.lo
  refine ⟨_, h1, x, h2, h3, hcell, hWd, ⟨Nat.le_trans hS.1 hF.1, fun q q1 q2 => ?_⟩, h4, locs ++ Lx, h5, fun q hq => ?_⟩
  · exact (hF.2 q (Nat.lt_of_lt_of_le q1 hS.1) q2).trans (hS.2.1 q q1 q2)
  · rcases List.mem_append.mp hq with h | h
    · exact hS.2.2 q h
    · exact hLx q h
set_option maxHeartbeats 4000000 in
theorem cx_vt (C : Fx X D own cc nL d ret) (hm : My y bytes maxL rty n) (hv : MV y) (hl : Cond.methodLink own index y ∈ UNI) (hb : IsC D b y.cls) (hd : decode cc pc = .ok (.invokevirtual index, 3)) (hd2 : d2 + 1 ≤ d) (hn : As.length = n) (hr : (rest.map fun v => v.category).sum ≤ 8) (hz : z.1 + 1 ≤ X.2.2.2.1.cells ∧ z.2 + 6 ≤ X.2.2.2.1.slots)
    (hc : Tt X.2.1 D y bytes maxL rty d2 (As ++ [.ref b]) σ E post) {H : Heap} {locs : List Loc} {ls : Array Slot} (hP : va_P D.1 cls (wld D σ) H) (hS : va_S (Ab D) X.2.2.2.2.1.heap H locs) (hL : Lh ls X.2.2.2.2.2.2.2.2.2.maxLocals L)
    {T : State} (hT : T.heap = H) (X0 : Stand X.1 X.2.1 X.2.2.1 X.2.2.2.1 X.2.2.2.2.1 X.2.2.2.2.2.1 X.2.2.2.2.2.2.1 X.2.2.2.2.2.2.2.1 X.2.2.2.2.2.2.2.2.1 X.2.2.2.2.2.2.2.2.2 T locs z.1 z.2) :
    ∃ x T', Tn X D E post H locs z x T' ∧ Steps X.1.tables X.2.2.1 X.2.2.2.2.2.2.2.1 (T.setTop (F0 X.2.2.2.2.2.1 pc ls (As ++ .ref b :: rest))) ((T'.setTop (F0 X.2.2.2.2.2.1 pc ls rest)).pushFrame (.throwing x)) := by
  have hm' := hm
  obtain ⟨hcode, hini, hy, hpar, hml⟩ := hm
  obtain ⟨t, ci, T0, N, ht, rfl, hci, hct⟩ := hb
  obtain ⟨fs, hfs⟩ := hct σ
  obtain ⟨cellB, hcB, hoB, hclB⟩ := va_recv C.kk hP hci (q0 := t) (fs := fs) (by rw [wld_at ht, hfs])
  have hlen : ∀ sig, parseMethodDescriptor y.desc = some sig → n = sig.parameters.length := fun sig h => by rw [h] at hpar; exact (Option.some.inj hpar).symm
  obtain ⟨mk, methM, hnamed, hmethM, hstM, habM⟩ := Cond.instanceMethod_spec (C.ts _ hv.1)
  obtain ⟨methM', cM, hmethM', -, -, -, -, -, -, hsigM⟩ := Cond.code_spec hnamed (C.ts _ hcode)
  cases hmethM.symm.trans hmethM'
  obtain ⟨c2, r2, m2, q1, q2, q3, q4, kP, hkP, hkPi⟩ := Cond.selects_spec (C.ts _ hv.2)
  cases hclB.symm.trans q1
  cases (State.methodFound?_of_named hnamed hy).symm.trans q2
  cases hnamed.symm.trans q3
  have hselP : selectMethod X.2.2.1.platform X.2.2.2.2.1.vm cellB.cls mk = .method mk := by rw [Launch.admits_selectMethod X0.admits]; exact q4
  obtain ⟨vm₁, X₁, hstep₁⟩ := X0.invokevirtual C.ex C.ow (C.ts _ hl) hnamed hmethM hstM hkP hkPi hy (a := ad D t) (cell := cellB) (by rw [hT]; exact hcB)
    (fun z h => by rw [h] at hoB; cases hoB) hselP hmethM habM hkP hkPi (g := F0 X.2.2.2.2.2.1 pc ls (As ++ .ref (ad D t) :: rest)) rfl (argsL := As.reverse) (rest := rest) (by rw [List.length_reverse, hn]; exact hlen _ hsigM) (rl1 rfl) (by rw [C.bt]; exact hd)
  obtain ⟨x, T', hTn, hst⟩ := cx_thrown C hm' hd2 hz hc (H := H) (U := T.setVm vm₁) hT (cx_pre C hP hS (T.setVm vm₁) hT X₁.warmed) X₁ (g := F0 X.2.2.2.2.2.1 pc ls rest) rfl hL.1 (by rw [C.bt]; exact hd) (lv_room hr) (X₁.named hnamed)
  refine ⟨x, T', hTn, hstep₁ _ fun acts => ?_⟩
  rw [doInvoke_state]
  rw [rl2] at hst
  exact hst
theorem g_callVt (C : Fx X D own cc nL d ret) (hR : Rx X) (hm : My y bytes maxL rty n) (hv : MV y) (hl : Cond.methodLink own index y ∈ UNI) (hb : IsC D b y.cls) (hd : decode cc pc = .ok (.invokevirtual index, 3)) (hd2 : d2 + 1 ≤ d) (hn : As.length = n) (hr : (rest.map fun v => v.category).sum ≤ 8)
    (hc : Tt X.2.1 D y bytes maxL rty d2 (As ++ [.ref b]) σ E post) : G X D (Qt X D E post) (0, 0) σ pc L (As ++ .ref b :: rest) := by
  intro H locs ls hP hS hL T hT X0
  obtain ⟨x, T', hTn, hst⟩ := cx_vt C hm hv hl hb hd hd2 hn hr (z := (0, 0)) ⟨hR.1, hR.2.1⟩ hc hP hS hL hT X0
  obtain ⟨t, h1, h2⟩ := cx_out C hR hS hTn (g := F0 X.2.2.2.2.2.1 pc ls rest) rfl rfl rfl
  exact ⟨t, hst.trans h1, h2⟩
end GU
theorem Tt.to {l : Launch} {D : Dt} {y : MethodName} {bytes : ByteArray} {maxL : Nat} {rty : Option FieldType} {d : Nat} {RA : List Value} {σ : Sg} {E : String} {post post2 : Sg → Prop} (hp : ∀ u, post u → post2 u) (h : Tt l D y bytes maxL rty d RA σ E post) : Tt l D y bytes maxL rty d RA σ E post2 := by
  intro p e ha hc hk s m args below hf happ hP hK
  obtain ⟨n, o, h1, h2, h3, x, h4, h5, ⟨u, h6, h7⟩, h8⟩ := h p e ha hc hk s m args below hf happ hP hK
  exact ⟨n, o, h1, h2, h3, x, h4, h5, ⟨u, hp u h6, h7⟩, h8⟩
end
section
/-! calls that may throw: an answer, or the number of what is thrown -/
abbrev Rs : Type := Int32 ⊕ Nat
def exN : Nat → String
  | 0 => E_IOOBE
  | 1 => E_ISE
  | 2 => E_IAE
  | _ => E_UOE
def onR (V : Vt) (r : Int32) (f : Nat → Rp → Rs × Vt) : Rs × Vt := if 0 ≤ r ∧ r < 2 then f r.toNatClampNeg (V.2 r.toNatClampNeg) else (.inr 0, V)
theorem onR_y {V : Vt} {q : Nat} {f : Nat → Rp → Rs × Vt} (hq : q < 2) : onR V (nI q) f = f q (V.2 q) := by
  unfold onR
  rw [if_pos (okr_i hq), nI_clamp (by omega)]
theorem onR_n {V : Vt} {r : Int32} {f : Nat → Rp → Rs × Vt} (h : ¬ (0 ≤ r ∧ r < 2)) : onR V r f = (.inr 0, V) := by
  unfold onR
  rw [if_neg h]
def od (p : Int32) : Option Nat := if p = -1 then none else some p.toNatClampNeg
abbrev can (R : Rp) (p : Int32) : Prop := p = -1 ∨ (0 ≤ p ∧ p < nI R.rcs.length)
theorem can_od {R : Rp} {p : Int32} (h : can R p) (h24 : R.rcs.length ≤ 24) : eo (od p) = p ∧ ∀ n, od p = some n → n < R.rcs.length := by
  rcases h with rfl | h
  · exact ⟨rfl, fun n h => by cases h⟩
  · obtain ⟨k, hk, rfl⟩ := nI_at h (by omega)
    have e : od (nI k) = some k := by
      unfold od
      rw [if_neg (nI_m1 (by omega)), nI_clamp (by omega)]
    rw [e]
    exact ⟨rfl, fun n h => by cases h; exact hk⟩
def atV (t : List Nat) (k : Int32) : Int32 := if 0 ≤ k ∧ k < nI t.length then nI (t.getD k.toNatClampNeg 0) else 0
theorem atC_v {c : Cs} {j : Nat} {t : List Nat} {k : Int32} (h : RowIs c j t) (hl : t.length < 2 ^ 20) : atC c j k = atV t k := by
  unfold atC atV
  rw [h.1]
  split
  · rename_i h1
    obtain ⟨i, hi, rfl⟩ := nI_at h1 (by omega)
    rw [nI_clamp (by omega), h.2.2 i hi]
  · rfl
def oBegin (V : Vt) (r : Int32) : Rs × Vt := onR V r (fun q R => if R.dwn = true ∨ R.jrn.isSome = true then (.inr 1, V) else (.inl (if (begn R).1 = true then 0 else -2), upR V q (begn R).2))
def oCommit (V : Vt) (r : Int32) : Rs × Vt := onR V r (fun q R => if R.dwn = true ∨ ¬ R.jrn.isSome = true then (.inr 1, V) else (.inl (if (fini R).1 = true then 0 else -2), upR V q (fini R).2))
def oAbort (V : Vt) (r : Int32) : Rs × Vt := onR V r (fun q R => if R.dwn = true then (.inr 1, V) else match R.jrn with
  | none => (.inr 1, V)
  | some p => (.inl (Int32.ofInt (roll R p.1 p.2).1), upR V q (roll R p.1 p.2).2))
def oRecover (V : Vt) (r n : Int32) : Rs × Vt := onR V r (fun q R => if 0 ≤ n ∧ n ≤ 3 then (if R.dwn = true then (.inl (Int32.ofInt (recov R n.toNatClampNeg).1), upR V q (recov R n.toNatClampNeg).2) else (.inr 1, V)) else (.inr 0, V))
def oPull (V : Vt) (r : Int32) : Rs × Vt := onR V r (fun q R => if R.dwn = true ∨ R.jrn.isSome = true ∨ (V.2 (1 - q)).dwn = true ∨ (V.2 (1 - q)).jrn.isSome = true then (.inr 1, V) else if (pullV R (V.2 (1 - q))).1 = -4 then (.inr 3, upR V q (pullV R (V.2 (1 - q))).2) else (.inl (Int32.ofInt (pullV R (V.2 (1 - q))).1), upR V q (pullV R (V.2 (1 - q))).2))
def oText (V : Vt) (r n k : Int32) : Rs × Vt := onR V r (fun _ R => if 0 ≤ n ∧ n < nI R.rcs.length then (if R.dwn = true then (.inr 1, V) else match built R.dat R.rcs n.toNatClampNeg with
  | none => (.inr 3, V)
  | some t => (.inl (atV t k), V)) else (.inr 0, V))
def oAppend (V : Vt) (r p1 p2 : Int32) : Rs × Vt := onR V r (fun q R => if R.dwn = true ∨ ¬ R.jrn.isSome = true then (.inr 1, V) else if can R p1 ∧ can R p2 then (if (stor R (od p1) (od p2) V.1).1 = -4 then (.inr 3, upR V q (stor R (od p1) (od p2) V.1).2) else (.inl (Int32.ofInt (stor R (od p1) (od p2) V.1).1), upR V q (stor R (od p1) (od p2) V.1).2)) else (.inr 2, V))
theorem plp_all {O : Rp} (wO : WfR O) : ∀ (m n : Nat) (R : Rp), WfR R → R.dwn = false → WfR (plp O m n R).2 ∧ Pfx R (plp O m n R).2 ∧ ((plp O m n R).1 = -2 ∨ ((plp O m n R).1 = -4 ∧ (plp O m n R).2.dwn = false) ∨ ((plp O m n R).1 = 0 ∧ (plp O m n R).2.dwn = false))
  | 0, n, R, h, hd => ⟨h, Pfx.rf, Or.inr (Or.inr ⟨rfl, hd⟩)⟩
  | m + 1, n, R, h, hd => by
    cases hx : O.rcs[n]? with
    | none =>
      have e : plp O (m + 1) n R = (0, R) := by
        conv => lhs; unfold plp
        rw [hx]
      rw [e]
      exact ⟨h, Pfx.rf, Or.inr (Or.inr ⟨rfl, hd⟩)⟩
    | some x =>
      cases hf : find R.rcs x.nod with
      | some k =>
        rw [plp_f hx hf]
        exact plp_all wO m (n + 1) R h hd
      | none =>
        cases hb : built O.dat O.rcs n with
        | none =>
          rw [plp_n hx hf hb]
          exact ⟨h, Pfx.rf, Or.inr (Or.inl ⟨rfl, hd⟩)⟩
        | some t =>
          rw [plp_s hx hf hb]
          have hbt := by_built wO.1 hb
          obtain ⟨w1, w2, w3⟩ := stor_all (p := twn R O x.pa) (q := twn R O x.pb) h hd twn_lt twn_lt hbt.1 hbt.2
          split
          · rename_i h2
            rcases h2 with h2 | h2
            · exact ⟨w1, w2, Or.inl h2⟩
            · exact ⟨w1, w2, Or.inr (Or.inl ⟨h2, stor_d4 hd h2⟩)⟩
          · rename_i h2
            have hdd : (stor R (twn R O x.pa) (twn R O x.pb) t).2.dwn = false := by
              rcases w3 with w3 | w3 | w3
              · exact absurd (Or.inl w3) h2
              · exact absurd (Or.inr w3) h2
              · exact w3.1
            obtain ⟨v1, v2, v3⟩ := plp_all wO m (n + 1) _ w1 hdd
            exact ⟨v1, w2.tr v2, v3⟩
theorem pull_all {R O : Rp} (wR : WfR R) (wO : WfR O) (hd : R.dwn = false) : WfR (pullV R O).2 ∧ ((pullV R O).1 = -2 ∨ (pullV R O).1 = -4 ∨ ∃ n : Nat, n ≤ 24 ∧ (pullV R O).1 = n) := by
  by_cases hb : (begn R).1 = true
  · have wB := begn_wf wR hd
    obtain ⟨b1, b2, b3, b4⟩ := begn_all hb hd
    obtain ⟨v1, v2, v3⟩ := plp_all wO O.rcs.length 0 (begn R).2 wB b4
    unfold pullV
    rw [if_pos hb]
    rcases v3 with v3 | ⟨v3, v4⟩ | ⟨v3, v4⟩
    · rw [if_pos v3]
      exact ⟨v1, Or.inl v3⟩
    · rw [if_neg (by rw [v3]; decide), if_pos v3]
      exact ⟨wR, Or.inr (Or.inl rfl)⟩
    · rw [if_neg (by rw [v3]; decide), if_neg (by rw [v3]; decide)]
      refine ⟨fini_wf v1 v4, ?_⟩
      by_cases hf : (fini (plp O O.rcs.length 0 (begn R).2).2).1 = true
      · right; right
        refine ⟨(plp O O.rcs.length 0 (begn R).2).2.rcs.length - R.rcs.length, ?_, if_pos hf⟩
        have := v1.2.2.1
        omega
      · exact Or.inl (if_neg hf)
  · rw [pull_b hb]
    exact ⟨begn_wf wR hd, Or.inl rfl⟩
theorem stI_n {a : Int} (h : ¬ a = -4) : stI a = Int32.ofInt a := by
  unfold stI
  rw [if_neg h]
/-- what the calls leave is well-formed -/
theorem oBegin_wf {V : Vt} {r : Int32} (h : WfV V) : WfV (oBegin V r).2 := by
  by_cases h0 : 0 ≤ r ∧ r < 2
  · obtain ⟨q, hq, rfl⟩ := okr_n h0
    unfold oBegin
    rw [onR_y hq]
    split
    · exact h
    · rename_i h1
      exact h.up (begn_wf (h.rep hq) (by simpa using fun e => h1 (Or.inl e)))
  · unfold oBegin
    rw [onR_n h0]
    exact h
theorem oCommit_wf {V : Vt} {r : Int32} (h : WfV V) : WfV (oCommit V r).2 := by
  by_cases h0 : 0 ≤ r ∧ r < 2
  · obtain ⟨q, hq, rfl⟩ := okr_n h0
    unfold oCommit
    rw [onR_y hq]
    split
    · exact h
    · rename_i h1
      exact h.up (fini_wf (h.rep hq) (by simpa using fun e => h1 (Or.inl e)))
  · unfold oCommit
    rw [onR_n h0]
    exact h
theorem oAbort_wf {V : Vt} {r : Int32} (h : WfV V) : WfV (oAbort V r).2 := by
  by_cases h0 : 0 ≤ r ∧ r < 2
  · obtain ⟨q, hq, rfl⟩ := okr_n h0
    unfold oAbort
    rw [onR_y hq]
    split
    · exact h
    · rename_i h1
      cases hj : (V.2 q).jrn with
      | none => exact h
      | some p => exact h.up (roll_wf (h.rep hq) (by simpa using h1) hj)
  · unfold oAbort
    rw [onR_n h0]
    exact h
theorem oRecover_wf {V : Vt} {r n : Int32} (h : WfV V) : WfV (oRecover V r n).2 := by
  by_cases h0 : 0 ≤ r ∧ r < 2
  · obtain ⟨q, hq, rfl⟩ := okr_n h0
    unfold oRecover
    rw [onR_y hq]
    split
    · rename_i h1
      obtain ⟨k, hk, rfl⟩ := nI_of2 (M := 3) (n := 3) (by decide +kernel) (Int32.not_lt.mpr h1.1) h1.2
      split
      · exact h.up (recov_wf (h.rep hq) (by rw [nI_clamp (by omega)]; omega))
      · exact h
    · exact h
  · unfold oRecover
    rw [onR_n h0]
    exact h
theorem oPull_wf {V : Vt} {r : Int32} (h : WfV V) : WfV (oPull V r).2 := by
  by_cases h0 : 0 ≤ r ∧ r < 2
  · obtain ⟨q, hq, rfl⟩ := okr_n h0
    unfold oPull
    rw [onR_y hq]
    split
    · exact h
    · rename_i h1
      have w := (pull_all (h.rep hq) (h.rep (show 1 - q < 2 by omega)) (by simpa using fun e => h1 (Or.inl e))).1
      split
      · exact h.up w
      · exact h.up w
  · unfold oPull
    rw [onR_n h0]
    exact h
theorem oText_wf {V : Vt} {r n k : Int32} (h : WfV V) : (oText V r n k).2 = V := by
  unfold oText onR
  split
  · dsimp only
    split
    · split
      · rfl
      · split <;> rfl
    · rfl
  · rfl
theorem oAppend_wf {V : Vt} {r p1 p2 : Int32} (h : WfV V) : WfV (oAppend V r p1 p2).2 := by
  by_cases h0 : 0 ≤ r ∧ r < 2
  · obtain ⟨q, hq, rfl⟩ := okr_n h0
    unfold oAppend
    rw [onR_y hq]
    split
    · exact h
    · rename_i h1
      split
      · rename_i h2
        have w := (stor_all (p := od p1) (q := od p2) (t := V.1) (h.rep hq) (by simpa using fun e => h1 (Or.inl e)) (can_od h2.1 (h.rep hq).2.2.1).2 (can_od h2.2 (h.rep hq).2.2.1).2 h.1 h.2.1).1
        split
        · exact h.up w
        · exact h.up w
      · exact h
  · unfold oAppend
    rw [onR_n h0]
    exact h
end
section
theorem ml_V_43 : Cond.methodLink R_V 43 y_V_repositoryAt ∈ UNI := un 657 (by decide +kernel) (by decide +kernel)
theorem ml_V_61 : Cond.methodLink R_V 61 y_V_repositoryInTransaction ∈ UNI := un 714 (by decide +kernel) (by decide +kernel)
set_option maxRecDepth 100000 in
set_option maxHeartbeats 4000000 in
theorem c_V_repositoryAt (l : Launch) {D : Dt} (hD : OkD D) {q : Nat} {σ : Sg} (hq : q < 2) : Ct l D y_V_repositoryAt b_V_repositoryAt 2 (some (.object "RevisionVault$Repository")) 2 [.int (nI q), .ref (aVlt D)] σ (some (.ref (aRep D q))) σ := by
  refine Ct.of hD (by decide) (Nat.le_of_ble_eq_true rfl) [(0, some (.ref (aVlt D))), (1, some (.int (nI q)))] rfl (fun X hX C => ?_)
  subst hX
  refine g_iload_n (pc := 0) (i := 1) C d_V_repositoryAt_0 rfl rfl ?_
  refine g_callS1 (pc := 1) (As := [_]) C my_V_isRepository ms_V_isRepository cl_V_149 d_V_repositoryAt_1 (Nat.le_of_ble_eq_true rfl) rfl (Nat.le_of_ble_eq_true rfl) ⟨Nat.zero_le _, Nat.zero_le _⟩ (c_V_isRepository _ hD) ?_
  refine g_if_ne (pc := 4) (tgt := 15) C d_V_repositoryAt_4 (by decide) (fun h4 => ?_) (fun h4 => ?_)
  · skip
    refine g_aload_n (pc := 15) (i := 0) C d_V_repositoryAt_15 rfl rfl ?_
    refine gf_V_repositories (pc := 16) C fl_V_20 d_V_repositoryAt_16 ?_
    refine g_iload_n (pc := 19) (i := 1) C d_V_repositoryAt_19 rfl rfl ?_
    refine ga_rps (pc := 20) C (by omega) d_V_repositoryAt_20 ?_
    refine g_aret (pc := 21) C d_V_repositoryAt_21 ?_
    exact ⟨rfl, rfl⟩
  · first | exact absurd h4 (by rw [b1_t (okr_i hq)]; decide) | exact absurd (by rw [b1_t (okr_i hq)]; decide) h4
set_option maxRecDepth 100000 in
set_option maxHeartbeats 4000000 in
theorem t_V_repositoryAt (l : Launch) {D : Dt} (hD : OkD D) {r : Int32} {σ : Sg} (hO : OkT l D) (h : ¬ (0 ≤ r ∧ r < 2)) : Tt l D y_V_repositoryAt b_V_repositoryAt 2 (some (.object "RevisionVault$Repository")) 6 [.int r, .ref (aVlt D)] σ E_IOOBE (fun u => u = σ) := by
  refine Tt.of hD (by decide) (Nat.le_of_ble_eq_true rfl) [(0, some (.ref (aVlt D))), (1, some (.int r))] rfl (fun X hX C hR => ?_)
  subst hX
  refine g_iload_n (pc := 0) (i := 1) C d_V_repositoryAt_0 rfl rfl ?_
  refine g_callS1 (pc := 1) (As := [_]) C my_V_isRepository ms_V_isRepository cl_V_149 d_V_repositoryAt_1 (Nat.le_of_ble_eq_true rfl) rfl (Nat.le_of_ble_eq_true rfl) ⟨Nat.zero_le _, Nat.zero_le _⟩ (c_V_isRepository _ hD) ?_
  refine g_if_ne (pc := 4) (tgt := 15) C d_V_repositoryAt_4 (by decide) (fun h4 => ?_) (fun h4 => ?_)
  · first | exact absurd h4 (b1_f h) | exact absurd (b1_f h) h4
  · skip
    exact g_throw (pc := 7) C hO hR tw_IOOBE (rfl) (by decide) d_V_repositoryAt_7 d_V_repositoryAt_10 d_V_repositoryAt_11 d_V_repositoryAt_14
set_option maxRecDepth 100000 in
set_option maxHeartbeats 4000000 in
theorem c_V_repositoryInTransaction (l : Launch) {D : Dt} (hD : OkD D) {q : Nat} {c : Cs} {τ : Cs × (Nat → Int64)} {R : Rp} (hq : q < 2) (g : RepIs c q R) (hd : ¬ R.dwn = true) (hj : R.jrn.isSome = true) : Ct l D y_V_repositoryInTransaction b_V_repositoryInTransaction 3 (some (.object "RevisionVault$Repository")) 3 [.int (nI q), .ref (aVlt D)] ((c, τ) : Sg) (some (.ref (aRep D q))) ((c, τ) : Sg) := by
  refine Ct.of hD (by decide) (Nat.le_of_ble_eq_true rfl) [(0, some (.ref (aVlt D))), (1, some (.int (nI q)))] rfl (fun X hX C => ?_)
  subst hX
  refine g_aload_n (pc := 0) (i := 0) C d_V_repositoryInTransaction_0 rfl rfl ?_
  refine g_iload_n (pc := 1) (i := 1) C d_V_repositoryInTransaction_1 rfl rfl ?_
  refine g_callV1 (pc := 2) (As := [_]) C my_V_repositoryAt mv_V_repositoryAt cl_V_43 is_V d_V_repositoryInTransaction_2 (Nat.le_of_ble_eq_true rfl) rfl (Nat.le_of_ble_eq_true rfl) ⟨Nat.zero_le _, Nat.zero_le _⟩ (c_V_repositoryAt _ hD (by omega)) ?_
  refine g_astore_n (pc := 5) (i := 2) C d_V_repositoryInTransaction_5 rfl (by decide) rfl ?_
  refine g_aload_n (pc := 6) (i := 2) C d_V_repositoryInTransaction_6 rfl rfl ?_
  refine gf_Rep_down (pc := 7) C (by omega) fl_V_47 d_V_repositoryInTransaction_7 ?_
  rw [g.1.2.2.2.1]
  refine g_if_ne (pc := 10) (tgt := 20) C d_V_repositoryInTransaction_10 (by decide) (fun h10 => ?_) (fun h10 => ?_)
  · first | exact absurd h10 (b1_f hd) | exact absurd (b1_f hd) h10
  · skip
    refine g_aload_n (pc := 13) (i := 2) C d_V_repositoryInTransaction_13 rfl rfl ?_
    refine gf_Rep_journal (pc := 14) C (by omega) fl_V_51 d_V_repositoryInTransaction_14 ?_
    rw [g.1.2.1]
    refine g_if_ne (pc := 17) (tgt := 28) C d_V_repositoryInTransaction_17 (by decide) (fun h17 => ?_) (fun h17 => ?_)
    · skip
      refine g_aload_n (pc := 28) (i := 2) C d_V_repositoryInTransaction_28 rfl rfl ?_
      refine g_aret (pc := 29) C d_V_repositoryInTransaction_29 ?_
      exact ⟨rfl, rfl⟩
    · first | exact absurd h17 (by rw [b1_t hj]; decide) | exact absurd (by rw [b1_t hj]; decide) h17
set_option maxRecDepth 100000 in
set_option maxHeartbeats 4000000 in
theorem t_V_repositoryInTransaction (l : Launch) {D : Dt} (hD : OkD D) {r : Int32} {σ : Sg} (hO : OkT l D) (h : ¬ (0 ≤ r ∧ r < 2)) : Tt l D y_V_repositoryInTransaction b_V_repositoryInTransaction 3 (some (.object "RevisionVault$Repository")) 7 [.int r, .ref (aVlt D)] σ E_IOOBE (fun u => u = σ) := by
  refine Tt.of hD (by decide) (Nat.le_of_ble_eq_true rfl) [(0, some (.ref (aVlt D))), (1, some (.int r))] rfl (fun X hX C hR => ?_)
  subst hX
  refine g_aload_n (pc := 0) (i := 0) C d_V_repositoryInTransaction_0 rfl rfl ?_
  refine g_iload_n (pc := 1) (i := 1) C d_V_repositoryInTransaction_1 rfl rfl ?_
  exact g_callVt (pc := 2) (As := [_]) C hR my_V_repositoryAt mv_V_repositoryAt ml_V_43 is_V d_V_repositoryInTransaction_2 (Nat.le_of_ble_eq_true rfl) rfl (Nat.le_of_ble_eq_true rfl) (t_V_repositoryAt _ hD hO h)
set_option maxRecDepth 100000 in
set_option maxHeartbeats 4000000 in
theorem t2_V_repositoryInTransaction (l : Launch) {D : Dt} (hD : OkD D) {q : Nat} {c : Cs} {τ : Cs × (Nat → Int64)} {R : Rp} (hO : OkT l D) (hq : q < 2) (g : RepIs c q R) (h : R.dwn = true ∨ ¬ R.jrn.isSome = true) : Tt l D y_V_repositoryInTransaction b_V_repositoryInTransaction 3 (some (.object "RevisionVault$Repository")) 7 [.int (nI q), .ref (aVlt D)] ((c, τ) : Sg) E_ISE (fun u => u = ((c, τ) : Sg)) := by
  refine Tt.of hD (by decide) (Nat.le_of_ble_eq_true rfl) [(0, some (.ref (aVlt D))), (1, some (.int (nI q)))] rfl (fun X hX C hR => ?_)
  subst hX
  refine g_aload_n (pc := 0) (i := 0) C d_V_repositoryInTransaction_0 rfl rfl ?_
  refine g_iload_n (pc := 1) (i := 1) C d_V_repositoryInTransaction_1 rfl rfl ?_
  refine g_callV1 (pc := 2) (As := [_]) C my_V_repositoryAt mv_V_repositoryAt cl_V_43 is_V d_V_repositoryInTransaction_2 (Nat.le_of_ble_eq_true rfl) rfl (Nat.le_of_ble_eq_true rfl) ⟨Nat.zero_le _, Nat.zero_le _⟩ (c_V_repositoryAt _ hD (by omega)) ?_
  refine g_astore_n (pc := 5) (i := 2) C d_V_repositoryInTransaction_5 rfl (by decide) rfl ?_
  refine g_aload_n (pc := 6) (i := 2) C d_V_repositoryInTransaction_6 rfl rfl ?_
  refine gf_Rep_down (pc := 7) C (by omega) fl_V_47 d_V_repositoryInTransaction_7 ?_
  rw [g.1.2.2.2.1]
  refine g_if_ne (pc := 10) (tgt := 20) C d_V_repositoryInTransaction_10 (by decide) (fun h10 => ?_) (fun h10 => ?_)
  · skip
    exact g_throw (pc := 20) C hO hR tw_ISE (rfl) (by decide) d_V_repositoryInTransaction_20 d_V_repositoryInTransaction_23 d_V_repositoryInTransaction_24 d_V_repositoryInTransaction_27
  · have hd := b1_0 h10
    refine g_aload_n (pc := 13) (i := 2) C d_V_repositoryInTransaction_13 rfl rfl ?_
    refine gf_Rep_journal (pc := 14) C (by omega) fl_V_51 d_V_repositoryInTransaction_14 ?_
    rw [g.1.2.1]
    refine g_if_ne (pc := 17) (tgt := 28) C d_V_repositoryInTransaction_17 (by decide) (fun h17 => ?_) (fun h17 => ?_)
    · first | exact absurd h17 (b1_f (h.resolve_left hd)) | exact absurd (b1_f (h.resolve_left hd)) h17
    · skip
      exact g_throw (pc := 20) C hO hR tw_ISE (rfl) (by decide) d_V_repositoryInTransaction_20 d_V_repositoryInTransaction_23 d_V_repositoryInTransaction_24 d_V_repositoryInTransaction_27
end
section
theorem eBegin0 {V : Vt} {r : Int32} (h : ¬ (0 ≤ r ∧ r < 2)) : oBegin V r = (.inr 0, V) := onR_n h
theorem eBegin1 {V : Vt} {q : Nat} (hq : q < 2) (h : (V.2 q).dwn = true ∨ (V.2 q).jrn.isSome = true) : oBegin V (nI q) = (.inr 1, V) := (onR_y hq).trans (if_pos h)
theorem eBegin2 {V : Vt} {q : Nat} (hq : q < 2) (h : ¬ ((V.2 q).dwn = true ∨ (V.2 q).jrn.isSome = true)) : oBegin V (nI q) = (.inl (if (begn (V.2 q)).1 = true then 0 else -2), upR V q (begn (V.2 q)).2) := (onR_y hq).trans (if_neg h)
set_option maxRecDepth 100000 in
set_option maxHeartbeats 4000000 in
theorem x_V_begin (l : Launch) {D : Dt} (hD : OkD D) {c : Cs} {τ : Cs × (Nat → Int64)} {V : Vt} {r : Int32} (hC : CAbs c V) (hW : WfV V) {z : Int32} (ho : (oBegin V r).1 = .inl z) : Cp l D y_V_begin b_V_begin 3 (some .int) 8 [.int r, .ref (aVlt D)] ((c, τ) : Sg) (fun a0 u => ∃ c2, u = ((c2, τ) : Sg) ∧ a0 = some (.int z) ∧ CAbs c2 (oBegin V r).2) := by
  by_cases h0 : 0 ≤ r ∧ r < 2
  · skip
    obtain ⟨q, hq, rfl⟩ := okr_n h0
    have g := hC.rep hq
    have wf := hW.rep hq
    have g24 := g.2.2.1
    by_cases h1 : (V.2 q).dwn = true ∨ (V.2 q).jrn.isSome = true
    · skip
      rw [eBegin1 hq h1] at ho
      cases ho
    · skip
      rw [eBegin2 hq h1] at ho ⊢
      cases ho
      refine Cp.of hD (by decide) (Nat.le_of_ble_eq_true rfl) [(0, some (.ref (aVlt D))), (1, some (.int (nI q)))] rfl (fun X hX C => ?_)
      subst hX
      refine g_aload_n (pc := 0) (i := 0) C d_V_begin_0 rfl rfl ?_
      refine g_iload_n (pc := 1) (i := 1) C d_V_begin_1 rfl rfl ?_
      refine g_callV1 (pc := 2) (As := [_]) C my_V_repositoryAt mv_V_repositoryAt cl_V_43 is_V d_V_begin_2 (Nat.le_of_ble_eq_true rfl) rfl (Nat.le_of_ble_eq_true rfl) ⟨Nat.zero_le _, Nat.zero_le _⟩ (c_V_repositoryAt _ hD (by omega)) ?_
      refine g_astore_n (pc := 5) (i := 2) C d_V_begin_5 rfl (by decide) rfl ?_
      refine g_aload_n (pc := 6) (i := 2) C d_V_begin_6 rfl rfl ?_
      refine gf_Rep_down (pc := 7) C (by omega) fl_V_47 d_V_begin_7 ?_
      rw [g.1.2.2.2.1]
      refine g_if_ne (pc := 10) (tgt := 20) C d_V_begin_10 (by decide) (fun h10 => ?_) (fun h10 => ?_)
      · first | exact absurd h10 (b1_f (fun e => h1 (Or.inl e))) | exact absurd (b1_f (fun e => h1 (Or.inl e))) h10
      · skip
        refine g_aload_n (pc := 13) (i := 2) C d_V_begin_13 rfl rfl ?_
        refine gf_Rep_journal (pc := 14) C (by omega) fl_V_51 d_V_begin_14 ?_
        rw [g.1.2.1]
        refine g_if_eq (pc := 17) (tgt := 28) C d_V_begin_17 (by decide) (fun h17 => ?_) (fun h17 => ?_)
        · skip
          refine g_aload_n (pc := 28) (i := 2) C d_V_begin_28 rfl rfl ?_
          refine g_callVp (pc := 29) (As := []) C my_Rep_openJournal mv_Rep_openJournal cl_V_57 (is_Rep (by omega)) d_V_begin_29 (Nat.le_of_ble_eq_true rfl) rfl (Nat.le_of_ble_eq_true rfl) ⟨Nat.zero_le _, Nat.zero_le _⟩ (x_Rep_openJournal _ hD hq g (by simpa using fun e => h1 (Or.inl e)) wf.2.2.2.1) (fun r29 u29 hp29 => ?_)
          obtain ⟨c2, rfl, rfl, gr, s2⟩ := hp29
          refine g_if_eq (pc := 32) (tgt := 39) C d_V_begin_32 (by decide) (fun h32 => ?_) (fun h32 => ?_)
          · have hb := b1_0 h32
            refine g_bipush (pc := 39) C d_V_begin_39 bp_m2 ?_
            refine g_iret (pc := 41) C d_V_begin_41 ?_
            exact ⟨c2, rfl, by rw [if_neg hb], hC.ci hq s2 gr⟩
          · have hb := b1_1 h32
            refine g_iconst (pc := 35) C d_V_begin_35 ic_0 ?_
            refine g_goto (pc := 36) (tgt := 41) C d_V_begin_36 (by decide) ?_
            refine g_iret (pc := 41) C d_V_begin_41 ?_
            exact ⟨c2, rfl, by rw [if_pos hb], hC.ci hq s2 gr⟩
        · first | exact absurd h17 (b1_f (fun e => h1 (Or.inr e))) | exact absurd (b1_f (fun e => h1 (Or.inr e))) h17
  · skip
    rw [eBegin0 h0] at ho
    cases ho
set_option maxRecDepth 100000 in
set_option maxHeartbeats 4000000 in
theorem t_V_begin (l : Launch) {D : Dt} (hD : OkD D) {c : Cs} {τ : Cs × (Nat → Int64)} {V : Vt} {r : Int32} (hO : OkT l D) (hC : CAbs c V) (hW : WfV V) {k : Nat} (ho : (oBegin V r).1 = .inr k) : Tt l D y_V_begin b_V_begin 3 (some .int) 8 [.int r, .ref (aVlt D)] ((c, τ) : Sg) (exN k) (fun u => ∃ c2, u = ((c2, τ) : Sg) ∧ CAbs c2 (oBegin V r).2) := by
  by_cases h0 : 0 ≤ r ∧ r < 2
  · skip
    obtain ⟨q, hq, rfl⟩ := okr_n h0
    have g := hC.rep hq
    have wf := hW.rep hq
    have g24 := g.2.2.1
    by_cases h1 : (V.2 q).dwn = true ∨ (V.2 q).jrn.isSome = true
    · skip
      rw [eBegin1 hq h1] at ho ⊢
      cases ho
      refine Tt.of hD (by decide) (Nat.le_of_ble_eq_true rfl) [(0, some (.ref (aVlt D))), (1, some (.int (nI q)))] rfl (fun X hX C hR => ?_)
      subst hX
      refine g_aload_n (pc := 0) (i := 0) C d_V_begin_0 rfl rfl ?_
      refine g_iload_n (pc := 1) (i := 1) C d_V_begin_1 rfl rfl ?_
      refine g_callV1 (pc := 2) (As := [_]) C my_V_repositoryAt mv_V_repositoryAt cl_V_43 is_V d_V_begin_2 (Nat.le_of_ble_eq_true rfl) rfl (Nat.le_of_ble_eq_true rfl) ⟨Nat.zero_le _, Nat.zero_le _⟩ (c_V_repositoryAt _ hD (by omega)) ?_
      refine g_astore_n (pc := 5) (i := 2) C d_V_begin_5 rfl (by decide) rfl ?_
      refine g_aload_n (pc := 6) (i := 2) C d_V_begin_6 rfl rfl ?_
      refine gf_Rep_down (pc := 7) C (by omega) fl_V_47 d_V_begin_7 ?_
      rw [g.1.2.2.2.1]
      refine g_if_ne (pc := 10) (tgt := 20) C d_V_begin_10 (by decide) (fun h10 => ?_) (fun h10 => ?_)
      · skip
        exact g_throw (pc := 20) C hO hR tw_ISE (⟨c, rfl, hC⟩) (by decide) d_V_begin_20 d_V_begin_23 d_V_begin_24 d_V_begin_27
      · have hd := b1_0 h10
        refine g_aload_n (pc := 13) (i := 2) C d_V_begin_13 rfl rfl ?_
        refine gf_Rep_journal (pc := 14) C (by omega) fl_V_51 d_V_begin_14 ?_
        rw [g.1.2.1]
        refine g_if_eq (pc := 17) (tgt := 28) C d_V_begin_17 (by decide) (fun h17 => ?_) (fun h17 => ?_)
        · first | exact absurd h17 (fun e => b1_0 e (h1.resolve_left hd)) | exact absurd (fun e => b1_0 e (h1.resolve_left hd)) h17
        · skip
          exact g_throw (pc := 20) C hO hR tw_ISE (⟨c, rfl, hC⟩) (by decide) d_V_begin_20 d_V_begin_23 d_V_begin_24 d_V_begin_27
    · skip
      rw [eBegin2 hq h1] at ho
      cases ho
  · skip
    rw [eBegin0 h0] at ho ⊢
    cases ho
    refine Tt.of hD (by decide) (Nat.le_of_ble_eq_true rfl) [(0, some (.ref (aVlt D))), (1, some (.int r))] rfl (fun X hX C hR => ?_)
    subst hX
    refine g_aload_n (pc := 0) (i := 0) C d_V_begin_0 rfl rfl ?_
    refine g_iload_n (pc := 1) (i := 1) C d_V_begin_1 rfl rfl ?_
    exact g_callVt (pc := 2) (As := [_]) C hR my_V_repositoryAt mv_V_repositoryAt ml_V_43 is_V d_V_begin_2 (Nat.le_of_ble_eq_true rfl) rfl (Nat.le_of_ble_eq_true rfl) (t_V_repositoryAt _ hD hO h0 |> Tt.to (fun u e => ⟨c, e, hC⟩))
theorem eCommit0 {V : Vt} {r : Int32} (h : ¬ (0 ≤ r ∧ r < 2)) : oCommit V r = (.inr 0, V) := onR_n h
theorem eCommit1 {V : Vt} {q : Nat} (hq : q < 2) (h : (V.2 q).dwn = true ∨ ¬ (V.2 q).jrn.isSome = true) : oCommit V (nI q) = (.inr 1, V) := (onR_y hq).trans (if_pos h)
theorem eCommit2 {V : Vt} {q : Nat} (hq : q < 2) (h : ¬ ((V.2 q).dwn = true ∨ ¬ (V.2 q).jrn.isSome = true)) : oCommit V (nI q) = (.inl (if (fini (V.2 q)).1 = true then 0 else -2), upR V q (fini (V.2 q)).2) := (onR_y hq).trans (if_neg h)
theorem eAbort0 {V : Vt} {r : Int32} (h : ¬ (0 ≤ r ∧ r < 2)) : oAbort V r = (.inr 0, V) := onR_n h
theorem eAbort1 {V : Vt} {q : Nat} (hq : q < 2) (h : (V.2 q).dwn = true ∨ ¬ (V.2 q).jrn.isSome = true) : oAbort V (nI q) = (.inr 1, V) := by
  refine (onR_y hq).trans ?_
  split
  · rfl
  · rename_i h1
    cases hj : (V.2 q).jrn with
    | none => rfl
    | some p => rw [hj] at h; exact absurd rfl (h.resolve_left h1)
theorem eAbort2 {V : Vt} {q : Nat} {p : Nat × Nat} (hq : q < 2) (h : ¬ (V.2 q).dwn = true) (hj : (V.2 q).jrn = some p) : oAbort V (nI q) = (.inl (Int32.ofInt (roll (V.2 q) p.1 p.2).1), upR V q (roll (V.2 q) p.1 p.2).2) := by
  refine (onR_y hq).trans ?_
  rw [if_neg h, hj]
theorem CAbs.pr {c c2 : Cs} {V : Vt} {q : Nat} {R : Rp} (h : CAbs c V) (hq : q < 2) (hs : Sm (Pr q) c c2) (hR : RepIs c2 q R) : CAbs c2 (upR V q R) := h.up hq (fun k => k.sm hs (by unfold Pr Rw; omega) (by unfold Pr Rw; omega)) hR (fun k hk hn g => g.gm hs (fun t ht => by unfold Pr Rw; omega)) (h.2.2.2.gm hs (fun r hr k hk => by unfold Pr Rw; omega))
theorem jsome {R : Rp} (h : ¬ (R.dwn = true ∨ ¬ R.jrn.isSome = true)) : ¬ R.dwn = true ∧ R.jrn.isSome = true := ⟨fun e => h (Or.inl e), Classical.byContradiction fun e => h (Or.inr e)⟩
theorem dfalse {R : Rp} (h : ¬ R.dwn = true) : R.dwn = false := by simpa using h
set_option maxRecDepth 100000 in
set_option maxHeartbeats 4000000 in
theorem x_V_commit (l : Launch) {D : Dt} (hD : OkD D) {c : Cs} {τ : Cs × (Nat → Int64)} {V : Vt} {r : Int32} (hC : CAbs c V) (hW : WfV V) {z : Int32} (ho : (oCommit V r).1 = .inl z) : Cp l D y_V_commit b_V_commit 2 (some .int) 8 [.int r, .ref (aVlt D)] ((c, τ) : Sg) (fun a0 u => ∃ c2, u = ((c2, τ) : Sg) ∧ a0 = some (.int z) ∧ CAbs c2 (oCommit V r).2) := by
  by_cases h0 : 0 ≤ r ∧ r < 2
  · skip
    obtain ⟨q, hq, rfl⟩ := okr_n h0
    have g := hC.rep hq
    have wf := hW.rep hq
    have g24 := g.2.2.1
    by_cases h1 : (V.2 q).dwn = true ∨ ¬ (V.2 q).jrn.isSome = true
    · skip
      rw [eCommit1 hq h1] at ho
      cases ho
    · skip
      have hdj := jsome h1
      rw [eCommit2 hq h1] at ho ⊢
      cases ho
      refine Cp.of hD (by decide) (Nat.le_of_ble_eq_true rfl) [(0, some (.ref (aVlt D))), (1, some (.int (nI q)))] rfl (fun X hX C => ?_)
      subst hX
      refine g_aload_n (pc := 0) (i := 0) C d_V_commit_0 rfl rfl ?_
      refine g_iload_n (pc := 1) (i := 1) C d_V_commit_1 rfl rfl ?_
      refine g_callV1 (pc := 2) (As := [_]) C my_V_repositoryInTransaction mv_V_repositoryInTransaction cl_V_61 is_V d_V_commit_2 (Nat.le_of_ble_eq_true rfl) rfl (Nat.le_of_ble_eq_true rfl) ⟨Nat.zero_le _, Nat.zero_le _⟩ (c_V_repositoryInTransaction _ hD hq g hdj.1 hdj.2) ?_
      refine g_callVp (pc := 5) (As := []) C my_Rep_removeJournal mv_Rep_removeJournal cl_V_77 (is_Rep (by omega)) d_V_commit_5 (Nat.le_of_ble_eq_true rfl) rfl (Nat.le_of_ble_eq_true rfl) ⟨Nat.zero_le _, Nat.zero_le _⟩ (x_Rep_removeJournal _ hD hq g (dfalse hdj.1) wf.2.2.2.1) (fun r5 u5 hp5 => ?_)
      obtain ⟨c2, rfl, rfl, gr, s2⟩ := hp5
      refine g_if_eq (pc := 8) (tgt := 15) C d_V_commit_8 (by decide) (fun h8 => ?_) (fun h8 => ?_)
      · have hb := b1_0 h8
        refine g_bipush (pc := 15) C d_V_commit_15 bp_m2 ?_
        refine g_iret (pc := 17) C d_V_commit_17 ?_
        exact ⟨c2, rfl, by rw [if_neg hb], hC.ci hq s2 gr⟩
      · have hb := b1_1 h8
        refine g_iconst (pc := 11) C d_V_commit_11 ic_0 ?_
        refine g_goto (pc := 12) (tgt := 17) C d_V_commit_12 (by decide) ?_
        refine g_iret (pc := 17) C d_V_commit_17 ?_
        exact ⟨c2, rfl, by rw [if_pos hb], hC.ci hq s2 gr⟩
  · skip
    rw [eCommit0 h0] at ho
    cases ho
set_option maxRecDepth 100000 in
set_option maxHeartbeats 4000000 in
theorem t_V_commit (l : Launch) {D : Dt} (hD : OkD D) {c : Cs} {τ : Cs × (Nat → Int64)} {V : Vt} {r : Int32} (hO : OkT l D) (hC : CAbs c V) (hW : WfV V) {k : Nat} (ho : (oCommit V r).1 = .inr k) : Tt l D y_V_commit b_V_commit 2 (some .int) 8 [.int r, .ref (aVlt D)] ((c, τ) : Sg) (exN k) (fun u => ∃ c2, u = ((c2, τ) : Sg) ∧ CAbs c2 (oCommit V r).2) := by
  by_cases h0 : 0 ≤ r ∧ r < 2
  · skip
    obtain ⟨q, hq, rfl⟩ := okr_n h0
    have g := hC.rep hq
    have wf := hW.rep hq
    have g24 := g.2.2.1
    by_cases h1 : (V.2 q).dwn = true ∨ ¬ (V.2 q).jrn.isSome = true
    · skip
      rw [eCommit1 hq h1] at ho ⊢
      cases ho
      refine Tt.of hD (by decide) (Nat.le_of_ble_eq_true rfl) [(0, some (.ref (aVlt D))), (1, some (.int (nI q)))] rfl (fun X hX C hR => ?_)
      subst hX
      refine g_aload_n (pc := 0) (i := 0) C d_V_commit_0 rfl rfl ?_
      refine g_iload_n (pc := 1) (i := 1) C d_V_commit_1 rfl rfl ?_
      exact g_callVt (pc := 2) (As := [_]) C hR my_V_repositoryInTransaction mv_V_repositoryInTransaction ml_V_61 is_V d_V_commit_2 (Nat.le_of_ble_eq_true rfl) rfl (Nat.le_of_ble_eq_true rfl) (t2_V_repositoryInTransaction _ hD hO hq g h1 |> Tt.to (fun u e => ⟨c, e, hC⟩))
    · skip
      have hdj := jsome h1
      rw [eCommit2 hq h1] at ho
      cases ho
  · skip
    rw [eCommit0 h0] at ho ⊢
    cases ho
    refine Tt.of hD (by decide) (Nat.le_of_ble_eq_true rfl) [(0, some (.ref (aVlt D))), (1, some (.int r))] rfl (fun X hX C hR => ?_)
    subst hX
    refine g_aload_n (pc := 0) (i := 0) C d_V_commit_0 rfl rfl ?_
    refine g_iload_n (pc := 1) (i := 1) C d_V_commit_1 rfl rfl ?_
    exact g_callVt (pc := 2) (As := [_]) C hR my_V_repositoryInTransaction mv_V_repositoryInTransaction ml_V_61 is_V d_V_commit_2 (Nat.le_of_ble_eq_true rfl) rfl (Nat.le_of_ble_eq_true rfl) (t_V_repositoryInTransaction _ hD hO h0 |> Tt.to (fun u e => ⟨c, e, hC⟩))
set_option maxRecDepth 100000 in
set_option maxHeartbeats 4000000 in
theorem x_V_abort (l : Launch) {D : Dt} (hD : OkD D) {c : Cs} {τ : Cs × (Nat → Int64)} {V : Vt} {r : Int32} (hC : CAbs c V) (hW : WfV V) {z : Int32} (ho : (oAbort V r).1 = .inl z) : Cp l D y_V_abort b_V_abort 2 (some .int) 8 [.int r, .ref (aVlt D)] ((c, τ) : Sg) (fun a0 u => ∃ c2, u = ((c2, τ) : Sg) ∧ a0 = some (.int z) ∧ CAbs c2 (oAbort V r).2) := by
  by_cases h0 : 0 ≤ r ∧ r < 2
  · skip
    obtain ⟨q, hq, rfl⟩ := okr_n h0
    have g := hC.rep hq
    have wf := hW.rep hq
    have g24 := g.2.2.1
    by_cases h1 : (V.2 q).dwn = true ∨ ¬ (V.2 q).jrn.isSome = true
    · skip
      rw [eAbort1 hq h1] at ho
      cases ho
    · skip
      have hdj := jsome h1
      obtain ⟨⟨d, n⟩, hj⟩ := Option.isSome_iff_exists.mp hdj.2
      have w6 := wf.2.2.2.2.2.1 d n hj
      rw [eAbort2 hq hdj.1 hj] at ho ⊢
      cases ho
      refine Cp.of hD (by decide) (Nat.le_of_ble_eq_true rfl) [(0, some (.ref (aVlt D))), (1, some (.int (nI q)))] rfl (fun X hX C => ?_)
      subst hX
      refine g_aload_n (pc := 0) (i := 0) C d_V_abort_0 rfl rfl ?_
      refine g_iload_n (pc := 1) (i := 1) C d_V_abort_1 rfl rfl ?_
      refine g_callV1 (pc := 2) (As := [_]) C my_V_repositoryInTransaction mv_V_repositoryInTransaction cl_V_61 is_V d_V_abort_2 (Nat.le_of_ble_eq_true rfl) rfl (Nat.le_of_ble_eq_true rfl) ⟨Nat.zero_le _, Nat.zero_le _⟩ (c_V_repositoryInTransaction _ hD hq g hdj.1 hdj.2) ?_
      refine g_callVp (pc := 5) (As := []) C my_Rep_rollBack mv_Rep_rollBack cl_V_80 (is_Rep (by omega)) d_V_abort_5 (Nat.le_of_ble_eq_true rfl) rfl (Nat.le_of_ble_eq_true rfl) ⟨Nat.zero_le _, Nat.zero_le _⟩ (x_Rep_rollBack _ hD hq g (dfalse hdj.1) wf.2.2.2.1 hj w6.2.1 (by have := wf.2.1; omega)) (fun r5 u5 hp5 => ?_)
      obtain ⟨c2, rfl, rfl, gr, s2⟩ := hp5
      refine g_iret (pc := 8) C d_V_abort_8 ?_
      exact ⟨c2, rfl, rfl, hC.pr hq s2 gr⟩
  · skip
    rw [eAbort0 h0] at ho
    cases ho
set_option maxRecDepth 100000 in
set_option maxHeartbeats 4000000 in
theorem t_V_abort (l : Launch) {D : Dt} (hD : OkD D) {c : Cs} {τ : Cs × (Nat → Int64)} {V : Vt} {r : Int32} (hO : OkT l D) (hC : CAbs c V) (hW : WfV V) {k : Nat} (ho : (oAbort V r).1 = .inr k) : Tt l D y_V_abort b_V_abort 2 (some .int) 8 [.int r, .ref (aVlt D)] ((c, τ) : Sg) (exN k) (fun u => ∃ c2, u = ((c2, τ) : Sg) ∧ CAbs c2 (oAbort V r).2) := by
  by_cases h0 : 0 ≤ r ∧ r < 2
  · skip
    obtain ⟨q, hq, rfl⟩ := okr_n h0
    have g := hC.rep hq
    have wf := hW.rep hq
    have g24 := g.2.2.1
    by_cases h1 : (V.2 q).dwn = true ∨ ¬ (V.2 q).jrn.isSome = true
    · skip
      rw [eAbort1 hq h1] at ho ⊢
      cases ho
      refine Tt.of hD (by decide) (Nat.le_of_ble_eq_true rfl) [(0, some (.ref (aVlt D))), (1, some (.int (nI q)))] rfl (fun X hX C hR => ?_)
      subst hX
      refine g_aload_n (pc := 0) (i := 0) C d_V_abort_0 rfl rfl ?_
      refine g_iload_n (pc := 1) (i := 1) C d_V_abort_1 rfl rfl ?_
      exact g_callVt (pc := 2) (As := [_]) C hR my_V_repositoryInTransaction mv_V_repositoryInTransaction ml_V_61 is_V d_V_abort_2 (Nat.le_of_ble_eq_true rfl) rfl (Nat.le_of_ble_eq_true rfl) (t2_V_repositoryInTransaction _ hD hO hq g h1 |> Tt.to (fun u e => ⟨c, e, hC⟩))
    · skip
      have hdj := jsome h1
      obtain ⟨⟨d, n⟩, hj⟩ := Option.isSome_iff_exists.mp hdj.2
      have w6 := wf.2.2.2.2.2.1 d n hj
      rw [eAbort2 hq hdj.1 hj] at ho
      cases ho
  · skip
    rw [eAbort0 h0] at ho ⊢
    cases ho
    refine Tt.of hD (by decide) (Nat.le_of_ble_eq_true rfl) [(0, some (.ref (aVlt D))), (1, some (.int r))] rfl (fun X hX C hR => ?_)
    subst hX
    refine g_aload_n (pc := 0) (i := 0) C d_V_abort_0 rfl rfl ?_
    refine g_iload_n (pc := 1) (i := 1) C d_V_abort_1 rfl rfl ?_
    exact g_callVt (pc := 2) (As := [_]) C hR my_V_repositoryInTransaction mv_V_repositoryInTransaction ml_V_61 is_V d_V_abort_2 (Nat.le_of_ble_eq_true rfl) rfl (Nat.le_of_ble_eq_true rfl) (t_V_repositoryInTransaction _ hD hO h0 |> Tt.to (fun u e => ⟨c, e, hC⟩))
theorem eRec0 {V : Vt} {r n : Int32} (h : ¬ (0 ≤ r ∧ r < 2)) : oRecover V r n = (.inr 0, V) := onR_n h
theorem eRec1 {V : Vt} {q : Nat} {n : Int32} (hq : q < 2) (h : ¬ (0 ≤ n ∧ n ≤ 3)) : oRecover V (nI q) n = (.inr 0, V) := (onR_y hq).trans (if_neg h)
theorem eRec2 {V : Vt} {q : Nat} {n : Int32} (hq : q < 2) (h : 0 ≤ n ∧ n ≤ 3) (hd : ¬ (V.2 q).dwn = true) : oRecover V (nI q) n = (.inr 1, V) := (onR_y hq).trans ((if_pos h).trans (if_neg hd))
theorem eRec3 {V : Vt} {q k : Nat} (hq : q < 2) (hk : k ≤ 3) (h : 0 ≤ nI k ∧ nI k ≤ 3) (hd : (V.2 q).dwn = true) : oRecover V (nI q) (nI k) = (.inl (Int32.ofInt (recov (V.2 q) k).1), upR V q (recov (V.2 q) k).2) := by
  refine (onR_y hq).trans ((if_pos h).trans ((if_pos hd).trans ?_))
  rw [nI_clamp (by omega)]
set_option maxRecDepth 100000 in
set_option maxHeartbeats 4000000 in
theorem x_V_recover (l : Launch) {D : Dt} (hD : OkD D) {c : Cs} {τ : Cs × (Nat → Int64)} {V : Vt} {r n : Int32} (hC : CAbs c V) (hW : WfV V) {z : Int32} (ho : (oRecover V r n).1 = .inl z) : Cp l D y_V_recover b_V_recover 4 (some .int) 8 [.int n, .int r, .ref (aVlt D)] ((c, τ) : Sg) (fun a0 u => ∃ c2, u = ((c2, τ) : Sg) ∧ a0 = some (.int z) ∧ CAbs c2 (oRecover V r n).2) := by
  by_cases h0 : 0 ≤ r ∧ r < 2
  · skip
    obtain ⟨q, hq, rfl⟩ := okr_n h0
    have g := hC.rep hq
    have wf := hW.rep hq
    have g24 := g.2.2.1
    by_cases h1 : 0 ≤ n ∧ n ≤ 3
    · skip
      
      by_cases hd : (V.2 q).dwn = true
      · skip
        obtain ⟨m, hm, rfl⟩ := nI_of2 (M := 3) (n := 3) (by decide +kernel) (Int32.not_lt.mpr h1.1) h1.2
        rw [eRec3 hq hm h1 hd] at ho ⊢
        cases ho
        refine Cp.of hD (by decide) (Nat.le_of_ble_eq_true rfl) [(0, some (.ref (aVlt D))), (1, some (.int (nI q))), (2, some (.int (nI m)))] rfl (fun X hX C => ?_)
        subst hX
        refine g_aload_n (pc := 0) (i := 0) C d_V_recover_0 rfl rfl ?_
        refine g_iload_n (pc := 1) (i := 1) C d_V_recover_1 rfl rfl ?_
        refine g_callV1 (pc := 2) (As := [_]) C my_V_repositoryAt mv_V_repositoryAt cl_V_43 is_V d_V_recover_2 (Nat.le_of_ble_eq_true rfl) rfl (Nat.le_of_ble_eq_true rfl) ⟨Nat.zero_le _, Nat.zero_le _⟩ (c_V_repositoryAt _ hD (by omega)) ?_
        refine g_astore_n (pc := 5) (i := 3) C d_V_recover_5 rfl (by decide) rfl ?_
        refine g_iload_n (pc := 6) (i := 2) C d_V_recover_6 rfl rfl ?_
        refine g_if_lt (pc := 7) (tgt := 15) C d_V_recover_7 (by decide) (fun h7 => ?_) (fun h7 => ?_)
        · first | exact absurd h7 (Int32.not_lt.mpr h1.1) | exact absurd (Int32.not_lt.mpr h1.1) h7
        · skip
          refine g_iload_n (pc := 10) (i := 2) C d_V_recover_10 rfl rfl ?_
          refine g_iconst (pc := 11) C d_V_recover_11 ic_3 ?_
          refine g_icmp_le (pc := 12) (tgt := 23) C d_V_recover_12 (by decide) (fun h12 => ?_) (fun h12 => ?_)
          · skip
            refine g_aload_n (pc := 23) (i := 3) C d_V_recover_23 rfl rfl ?_
            refine gf_Rep_down (pc := 24) C (by omega) fl_V_47 d_V_recover_24 ?_
            rw [g.1.2.2.2.1]
            refine g_if_ne (pc := 27) (tgt := 38) C d_V_recover_27 (by decide) (fun h27 => ?_) (fun h27 => ?_)
            · skip
              refine g_aload_n (pc := 38) (i := 3) C d_V_recover_38 rfl rfl ?_
              refine g_iload_n (pc := 39) (i := 2) C d_V_recover_39 rfl rfl ?_
              refine g_callVp (pc := 40) (As := [_]) C my_Rep_comeUp mv_Rep_comeUp cl_V_94 (is_Rep (by omega)) d_V_recover_40 (Nat.le_of_ble_eq_true rfl) rfl (Nat.le_of_ble_eq_true rfl) ⟨Nat.zero_le _, Nat.zero_le _⟩ (x_Rep_comeUp _ hD hq g (wf.2.2.2.2.1 hd) (by omega) (fun p hp => by have := wf.2.2.2.2.2.1 p.1 p.2 hp; have := wf.2.1; constructor <;> omega)) (fun r40 u40 hp40 => ?_)
              obtain ⟨c2, rfl, rfl, gr, s2⟩ := hp40
              refine g_iret (pc := 43) C d_V_recover_43 ?_
              exact ⟨c2, rfl, rfl, hC.pr hq s2 gr⟩
            · first | exact absurd h27 (by rw [b1_t hd]; decide) | exact absurd (by rw [b1_t hd]; decide) h27
          · first | exact absurd h12 (h1.2) | exact absurd (h1.2) h12
      · skip
        rw [eRec2 hq h1 hd] at ho
        cases ho
    · skip
      rw [eRec1 hq h1] at ho
      cases ho
  · skip
    rw [eRec0 h0] at ho
    cases ho
set_option maxRecDepth 100000 in
set_option maxHeartbeats 4000000 in
theorem t_V_recover (l : Launch) {D : Dt} (hD : OkD D) {c : Cs} {τ : Cs × (Nat → Int64)} {V : Vt} {r n : Int32} (hO : OkT l D) (hC : CAbs c V) (hW : WfV V) {k : Nat} (ho : (oRecover V r n).1 = .inr k) : Tt l D y_V_recover b_V_recover 4 (some .int) 8 [.int n, .int r, .ref (aVlt D)] ((c, τ) : Sg) (exN k) (fun u => ∃ c2, u = ((c2, τ) : Sg) ∧ CAbs c2 (oRecover V r n).2) := by
  by_cases h0 : 0 ≤ r ∧ r < 2
  · skip
    obtain ⟨q, hq, rfl⟩ := okr_n h0
    have g := hC.rep hq
    have wf := hW.rep hq
    have g24 := g.2.2.1
    by_cases h1 : 0 ≤ n ∧ n ≤ 3
    · skip
      
      by_cases hd : (V.2 q).dwn = true
      · skip
        obtain ⟨m, hm, rfl⟩ := nI_of2 (M := 3) (n := 3) (by decide +kernel) (Int32.not_lt.mpr h1.1) h1.2
        rw [eRec3 hq hm h1 hd] at ho
        cases ho
      · skip
        rw [eRec2 hq h1 hd] at ho ⊢
        cases ho
        refine Tt.of hD (by decide) (Nat.le_of_ble_eq_true rfl) [(0, some (.ref (aVlt D))), (1, some (.int (nI q))), (2, some (.int n))] rfl (fun X hX C hR => ?_)
        subst hX
        refine g_aload_n (pc := 0) (i := 0) C d_V_recover_0 rfl rfl ?_
        refine g_iload_n (pc := 1) (i := 1) C d_V_recover_1 rfl rfl ?_
        refine g_callV1 (pc := 2) (As := [_]) C my_V_repositoryAt mv_V_repositoryAt cl_V_43 is_V d_V_recover_2 (Nat.le_of_ble_eq_true rfl) rfl (Nat.le_of_ble_eq_true rfl) ⟨Nat.zero_le _, Nat.zero_le _⟩ (c_V_repositoryAt _ hD (by omega)) ?_
        refine g_astore_n (pc := 5) (i := 3) C d_V_recover_5 rfl (by decide) rfl ?_
        refine g_iload_n (pc := 6) (i := 2) C d_V_recover_6 rfl rfl ?_
        refine g_if_lt (pc := 7) (tgt := 15) C d_V_recover_7 (by decide) (fun h7 => ?_) (fun h7 => ?_)
        · first | exact absurd h7 (Int32.not_lt.mpr h1.1) | exact absurd (Int32.not_lt.mpr h1.1) h7
        · skip
          refine g_iload_n (pc := 10) (i := 2) C d_V_recover_10 rfl rfl ?_
          refine g_iconst (pc := 11) C d_V_recover_11 ic_3 ?_
          refine g_icmp_le (pc := 12) (tgt := 23) C d_V_recover_12 (by decide) (fun h12 => ?_) (fun h12 => ?_)
          · skip
            refine g_aload_n (pc := 23) (i := 3) C d_V_recover_23 rfl rfl ?_
            refine gf_Rep_down (pc := 24) C (by omega) fl_V_47 d_V_recover_24 ?_
            rw [g.1.2.2.2.1]
            refine g_if_ne (pc := 27) (tgt := 38) C d_V_recover_27 (by decide) (fun h27 => ?_) (fun h27 => ?_)
            · first | exact absurd h27 (b1_f hd) | exact absurd (b1_f hd) h27
            · skip
              exact g_throw (pc := 30) C hO hR tw_ISE (⟨c, rfl, hC⟩) (by decide) d_V_recover_30 d_V_recover_33 d_V_recover_34 d_V_recover_37
          · first | exact absurd h12 (h1.2) | exact absurd (h1.2) h12
    · skip
      rw [eRec1 hq h1] at ho ⊢
      cases ho
      refine Tt.of hD (by decide) (Nat.le_of_ble_eq_true rfl) [(0, some (.ref (aVlt D))), (1, some (.int (nI q))), (2, some (.int n))] rfl (fun X hX C hR => ?_)
      subst hX
      refine g_aload_n (pc := 0) (i := 0) C d_V_recover_0 rfl rfl ?_
      refine g_iload_n (pc := 1) (i := 1) C d_V_recover_1 rfl rfl ?_
      refine g_callV1 (pc := 2) (As := [_]) C my_V_repositoryAt mv_V_repositoryAt cl_V_43 is_V d_V_recover_2 (Nat.le_of_ble_eq_true rfl) rfl (Nat.le_of_ble_eq_true rfl) ⟨Nat.zero_le _, Nat.zero_le _⟩ (c_V_repositoryAt _ hD (by omega)) ?_
      refine g_astore_n (pc := 5) (i := 3) C d_V_recover_5 rfl (by decide) rfl ?_
      refine g_iload_n (pc := 6) (i := 2) C d_V_recover_6 rfl rfl ?_
      refine g_if_lt (pc := 7) (tgt := 15) C d_V_recover_7 (by decide) (fun h7 => ?_) (fun h7 => ?_)
      · skip
        exact g_throw (pc := 15) C hO hR tw_IOOBE (⟨c, rfl, hC⟩) (by decide) d_V_recover_15 d_V_recover_18 d_V_recover_19 d_V_recover_22
      · skip
        refine g_iload_n (pc := 10) (i := 2) C d_V_recover_10 rfl rfl ?_
        refine g_iconst (pc := 11) C d_V_recover_11 ic_3 ?_
        refine g_icmp_le (pc := 12) (tgt := 23) C d_V_recover_12 (by decide) (fun h12 => ?_) (fun h12 => ?_)
        · first | exact absurd h12 (fun e => h1 ⟨Int32.not_lt.mp h7, e⟩) | exact absurd (fun e => h1 ⟨Int32.not_lt.mp h7, e⟩) h12
        · skip
          exact g_throw (pc := 15) C hO hR tw_IOOBE (⟨c, rfl, hC⟩) (by decide) d_V_recover_15 d_V_recover_18 d_V_recover_19 d_V_recover_22
  · skip
    rw [eRec0 h0] at ho ⊢
    cases ho
    refine Tt.of hD (by decide) (Nat.le_of_ble_eq_true rfl) [(0, some (.ref (aVlt D))), (1, some (.int r)), (2, some (.int n))] rfl (fun X hX C hR => ?_)
    subst hX
    refine g_aload_n (pc := 0) (i := 0) C d_V_recover_0 rfl rfl ?_
    refine g_iload_n (pc := 1) (i := 1) C d_V_recover_1 rfl rfl ?_
    exact g_callVt (pc := 2) (As := [_]) C hR my_V_repositoryAt mv_V_repositoryAt ml_V_43 is_V d_V_recover_2 (Nat.le_of_ble_eq_true rfl) rfl (Nat.le_of_ble_eq_true rfl) (t_V_repositoryAt _ hD hO h0 |> Tt.to (fun u e => ⟨c, e, hC⟩))
theorem eTxt0 {V : Vt} {r n k : Int32} (h : ¬ (0 ≤ r ∧ r < 2)) : oText V r n k = (.inr 0, V) := onR_n h
theorem eTxt1 {V : Vt} {q : Nat} {n k : Int32} (hq : q < 2) (h : ¬ (0 ≤ n ∧ n < nI (V.2 q).rcs.length)) : oText V (nI q) n k = (.inr 0, V) := (onR_y hq).trans (if_neg h)
theorem eTxt2 {V : Vt} {q : Nat} {n k : Int32} (hq : q < 2) (h : 0 ≤ n ∧ n < nI (V.2 q).rcs.length) (hd : (V.2 q).dwn = true) : oText V (nI q) n k = (.inr 1, V) := (onR_y hq).trans ((if_pos h).trans (if_pos hd))
theorem eTxt3 {V : Vt} {q m : Nat} {k : Int32} (hq : q < 2) (hm : m < 2 ^ 20) (h : 0 ≤ nI m ∧ nI m < nI (V.2 q).rcs.length) (hd : ¬ (V.2 q).dwn = true) (hb : built (V.2 q).dat (V.2 q).rcs m = none) : oText V (nI q) (nI m) k = (.inr 3, V) := by
  refine (onR_y hq).trans ((if_pos h).trans ((if_neg hd).trans ?_))
  rw [nI_clamp (by omega), hb]
theorem eTxt4 {V : Vt} {q m : Nat} {k : Int32} {t : List Nat} (hq : q < 2) (hm : m < 2 ^ 20) (h : 0 ≤ nI m ∧ nI m < nI (V.2 q).rcs.length) (hd : ¬ (V.2 q).dwn = true) (hb : built (V.2 q).dat (V.2 q).rcs m = some t) : oText V (nI q) (nI m) k = (.inl (atV t k), V) := by
  refine (onR_y hq).trans ((if_pos h).trans ((if_neg hd).trans ?_))
  rw [nI_clamp (by omega), hb]
theorem CAbs.bp {c c2 : Cs} {V : Vt} {q : Nat} {y : List Nat} (hC : CAbs c V) (hq : q < 2) (s2 : Sm (Bp q) c c2) (y2 : RowIs c2 (2 + 4 * q) y) : CAbs c2 V := ⟨hC.1.sm s2 (by unfold Bp Rw; omega) (by unfold Bp Rw; omega), hC.2.1.gm s2 (fun t ht => by unfold Bp Rw; omega), hC.2.2.1.gm s2 (fun t ht => by unfold Bp Rw; omega), hC.2.2.2.bp s2 hq ⟨y, y2⟩⟩
set_option maxRecDepth 100000 in
set_option maxHeartbeats 4000000 in
theorem x_V_text (l : Launch) {D : Dt} (hD : OkD D) {c : Cs} {τ : Cs × (Nat → Int64)} {V : Vt} {r n k2 : Int32} (hC : CAbs c V) (hW : WfV V) {z : Int32} (ho : (oText V r n k2).1 = .inl z) : Cp l D y_V_text b_V_text 5 (some .int) 8 [.int k2, .int n, .int r, .ref (aVlt D)] ((c, τ) : Sg) (fun a0 u => ∃ c2, u = ((c2, τ) : Sg) ∧ a0 = some (.int z) ∧ CAbs c2 (oText V r n k2).2) := by
  by_cases h0 : 0 ≤ r ∧ r < 2
  · skip
    obtain ⟨q, hq, rfl⟩ := okr_n h0
    have g := hC.rep hq
    have wf := hW.rep hq
    have g24 := g.2.2.1
    obtain ⟨y, hy⟩ := (hC.2.2.2 q hq).1
    by_cases h1 : 0 ≤ n ∧ n < nI (V.2 q).rcs.length
    · skip
      
      by_cases hd : (V.2 q).dwn = true
      · skip
        rw [eTxt2 hq h1 hd] at ho
        cases ho
      · skip
        obtain ⟨m, hm, rfl⟩ := nI_at h1 (by omega)
        cases hb : built (V.2 q).dat (V.2 q).rcs m
        · skip
          rw [eTxt3 hq (by omega) h1 hd hb] at ho
          cases ho
        · skip
          rename_i tx
          rw [eTxt4 hq (by omega) h1 hd hb] at ho ⊢
          cases ho
          refine Cp.of hD (by decide) (Nat.le_of_ble_eq_true rfl) [(0, some (.ref (aVlt D))), (1, some (.int (nI q))), (2, some (.int (nI m))), (3, some (.int k2))] rfl (fun X hX C => ?_)
          subst hX
          refine g_aload_n (pc := 0) (i := 0) C d_V_text_0 rfl rfl ?_
          refine g_iload_n (pc := 1) (i := 1) C d_V_text_1 rfl rfl ?_
          refine g_callV1 (pc := 2) (As := [_]) C my_V_repositoryAt mv_V_repositoryAt cl_V_43 is_V d_V_text_2 (Nat.le_of_ble_eq_true rfl) rfl (Nat.le_of_ble_eq_true rfl) ⟨Nat.zero_le _, Nat.zero_le _⟩ (c_V_repositoryAt _ hD (by omega)) ?_
          refine g_astore (pc := 5) C d_V_text_5 (by decide) rfl ?_
          refine g_aload (pc := 7) C d_V_text_7 rfl ?_
          refine g_iload_n (pc := 9) (i := 2) C d_V_text_9 rfl rfl ?_
          refine g_callV1 (pc := 10) (As := [_]) C my_Rep_hasRevision mv_Rep_hasRevision cl_V_101 (is_Rep (by omega)) d_V_text_10 (Nat.le_of_ble_eq_true rfl) rfl (Nat.le_of_ble_eq_true rfl) ⟨Nat.zero_le _, Nat.zero_le _⟩ (c_Rep_hasRevision _ hD (by omega)) ?_
          rw [g.1.1]
          refine g_if_ne (pc := 13) (tgt := 24) C d_V_text_13 (by decide) (fun h13 => ?_) (fun h13 => ?_)
          · skip
            refine g_aload (pc := 24) C d_V_text_24 rfl ?_
            refine gf_Rep_down (pc := 26) C (by omega) fl_V_47 d_V_text_26 ?_
            rw [g.1.2.2.2.1]
            refine g_if_eq (pc := 29) (tgt := 40) C d_V_text_29 (by decide) (fun h29 => ?_) (fun h29 => ?_)
            · skip
              refine g_aload (pc := 40) C d_V_text_40 rfl ?_
              refine g_iload_n (pc := 42) (i := 2) C d_V_text_42 rfl rfl ?_
              refine g_callVp (pc := 43) (As := [_]) C my_Rep_build mv_Rep_build cl_V_104 (is_Rep (by omega)) d_V_text_43 (Nat.le_of_ble_eq_true rfl) rfl (Nat.le_of_ble_eq_true rfl) ⟨Nat.zero_le _, Nat.zero_le _⟩ (x_Rep_build _ hD hq g.2.2 g.2.1 wf.1 (wf.2.2.2.2.2.2 (Or.inr (dfalse hd))) hm hy) (fun r43 u43 hp43 => ?_)
              obtain ⟨c2, rfl, s2, hbb⟩ := hp43
              rw [hb] at hbb
              rcases hbb with ⟨t, ht, rfl, hy2⟩ | ⟨ht, -⟩
              rotate_left
              · cases ht
              cases ht
              have ltx := (by_built wf.1 hb).2
              refine g_if_ne (pc := 46) (tgt := 57) C d_V_text_46 (by decide) (fun h46 => ?_) (fun h46 => ?_)
              · skip
                refine g_aload (pc := 57) C d_V_text_57 rfl ?_
                refine gf_Rep_built (pc := 59) C (by omega) fl_V_107 d_V_text_59 ?_
                refine g_iload_n (pc := 62) (i := 3) C d_V_text_62 rfl rfl ?_
                refine g_callV1 (pc := 63) (As := [_]) C my_Row_at mv_Row_at cl_V_110 (is_Row (by omega)) d_V_text_63 (Nat.le_of_ble_eq_true rfl) rfl (Nat.le_of_ble_eq_true rfl) ⟨Nat.zero_le _, Nat.zero_le _⟩ (c_Row_at _ hD (by omega) hy2.1 hy2.2.1) ?_
                refine g_iret (pc := 66) C d_V_text_66 ?_
                exact ⟨c2, rfl, by rw [atC_v hy2 (by omega)], hC.bp hq s2 hy2⟩
              · first | exact absurd h46 (by decide) | exact absurd (by decide) h46
            · first | exact absurd h29 (b1_f hd) | exact absurd (b1_f hd) h29
          · first | exact absurd h13 (by rw [b1_t h1]; decide) | exact absurd (by rw [b1_t h1]; decide) h13
    · skip
      rw [eTxt1 hq h1] at ho
      cases ho
  · skip
    rw [eTxt0 h0] at ho
    cases ho
set_option maxRecDepth 100000 in
set_option maxHeartbeats 4000000 in
theorem t_V_text (l : Launch) {D : Dt} (hD : OkD D) {c : Cs} {τ : Cs × (Nat → Int64)} {V : Vt} {r n k2 : Int32} (hO : OkT l D) (hC : CAbs c V) (hW : WfV V) {k : Nat} (ho : (oText V r n k2).1 = .inr k) : Tt l D y_V_text b_V_text 5 (some .int) 8 [.int k2, .int n, .int r, .ref (aVlt D)] ((c, τ) : Sg) (exN k) (fun u => ∃ c2, u = ((c2, τ) : Sg) ∧ CAbs c2 (oText V r n k2).2) := by
  by_cases h0 : 0 ≤ r ∧ r < 2
  · skip
    obtain ⟨q, hq, rfl⟩ := okr_n h0
    have g := hC.rep hq
    have wf := hW.rep hq
    have g24 := g.2.2.1
    obtain ⟨y, hy⟩ := (hC.2.2.2 q hq).1
    by_cases h1 : 0 ≤ n ∧ n < nI (V.2 q).rcs.length
    · skip
      
      by_cases hd : (V.2 q).dwn = true
      · skip
        rw [eTxt2 hq h1 hd] at ho ⊢
        cases ho
        refine Tt.of hD (by decide) (Nat.le_of_ble_eq_true rfl) [(0, some (.ref (aVlt D))), (1, some (.int (nI q))), (2, some (.int n)), (3, some (.int k2))] rfl (fun X hX C hR => ?_)
        subst hX
        refine g_aload_n (pc := 0) (i := 0) C d_V_text_0 rfl rfl ?_
        refine g_iload_n (pc := 1) (i := 1) C d_V_text_1 rfl rfl ?_
        refine g_callV1 (pc := 2) (As := [_]) C my_V_repositoryAt mv_V_repositoryAt cl_V_43 is_V d_V_text_2 (Nat.le_of_ble_eq_true rfl) rfl (Nat.le_of_ble_eq_true rfl) ⟨Nat.zero_le _, Nat.zero_le _⟩ (c_V_repositoryAt _ hD (by omega)) ?_
        refine g_astore (pc := 5) C d_V_text_5 (by decide) rfl ?_
        refine g_aload (pc := 7) C d_V_text_7 rfl ?_
        refine g_iload_n (pc := 9) (i := 2) C d_V_text_9 rfl rfl ?_
        refine g_callV1 (pc := 10) (As := [_]) C my_Rep_hasRevision mv_Rep_hasRevision cl_V_101 (is_Rep (by omega)) d_V_text_10 (Nat.le_of_ble_eq_true rfl) rfl (Nat.le_of_ble_eq_true rfl) ⟨Nat.zero_le _, Nat.zero_le _⟩ (c_Rep_hasRevision _ hD (by omega)) ?_
        rw [g.1.1]
        refine g_if_ne (pc := 13) (tgt := 24) C d_V_text_13 (by decide) (fun h13 => ?_) (fun h13 => ?_)
        · skip
          refine g_aload (pc := 24) C d_V_text_24 rfl ?_
          refine gf_Rep_down (pc := 26) C (by omega) fl_V_47 d_V_text_26 ?_
          rw [g.1.2.2.2.1]
          refine g_if_eq (pc := 29) (tgt := 40) C d_V_text_29 (by decide) (fun h29 => ?_) (fun h29 => ?_)
          · first | exact absurd h29 (by rw [b1_t hd]; decide) | exact absurd (by rw [b1_t hd]; decide) h29
          · skip
            exact g_throw (pc := 32) C hO hR tw_ISE (⟨c, rfl, hC⟩) (by decide) d_V_text_32 d_V_text_35 d_V_text_36 d_V_text_39
        · first | exact absurd h13 (by rw [b1_t h1]; decide) | exact absurd (by rw [b1_t h1]; decide) h13
      · skip
        obtain ⟨m, hm, rfl⟩ := nI_at h1 (by omega)
        cases hb : built (V.2 q).dat (V.2 q).rcs m
        · skip
          rw [eTxt3 hq (by omega) h1 hd hb] at ho ⊢
          cases ho
          refine Tt.of hD (by decide) (Nat.le_of_ble_eq_true rfl) [(0, some (.ref (aVlt D))), (1, some (.int (nI q))), (2, some (.int (nI m))), (3, some (.int k2))] rfl (fun X hX C hR => ?_)
          subst hX
          refine g_aload_n (pc := 0) (i := 0) C d_V_text_0 rfl rfl ?_
          refine g_iload_n (pc := 1) (i := 1) C d_V_text_1 rfl rfl ?_
          refine g_callV1 (pc := 2) (As := [_]) C my_V_repositoryAt mv_V_repositoryAt cl_V_43 is_V d_V_text_2 (Nat.le_of_ble_eq_true rfl) rfl (Nat.le_of_ble_eq_true rfl) ⟨Nat.zero_le _, Nat.zero_le _⟩ (c_V_repositoryAt _ hD (by omega)) ?_
          refine g_astore (pc := 5) C d_V_text_5 (by decide) rfl ?_
          refine g_aload (pc := 7) C d_V_text_7 rfl ?_
          refine g_iload_n (pc := 9) (i := 2) C d_V_text_9 rfl rfl ?_
          refine g_callV1 (pc := 10) (As := [_]) C my_Rep_hasRevision mv_Rep_hasRevision cl_V_101 (is_Rep (by omega)) d_V_text_10 (Nat.le_of_ble_eq_true rfl) rfl (Nat.le_of_ble_eq_true rfl) ⟨Nat.zero_le _, Nat.zero_le _⟩ (c_Rep_hasRevision _ hD (by omega)) ?_
          rw [g.1.1]
          refine g_if_ne (pc := 13) (tgt := 24) C d_V_text_13 (by decide) (fun h13 => ?_) (fun h13 => ?_)
          · skip
            refine g_aload (pc := 24) C d_V_text_24 rfl ?_
            refine gf_Rep_down (pc := 26) C (by omega) fl_V_47 d_V_text_26 ?_
            rw [g.1.2.2.2.1]
            refine g_if_eq (pc := 29) (tgt := 40) C d_V_text_29 (by decide) (fun h29 => ?_) (fun h29 => ?_)
            · skip
              refine g_aload (pc := 40) C d_V_text_40 rfl ?_
              refine g_iload_n (pc := 42) (i := 2) C d_V_text_42 rfl rfl ?_
              refine g_callVp (pc := 43) (As := [_]) C my_Rep_build mv_Rep_build cl_V_104 (is_Rep (by omega)) d_V_text_43 (Nat.le_of_ble_eq_true rfl) rfl (Nat.le_of_ble_eq_true rfl) ⟨Nat.zero_le _, Nat.zero_le _⟩ (x_Rep_build _ hD hq g.2.2 g.2.1 wf.1 (wf.2.2.2.2.2.2 (Or.inr (dfalse hd))) hm hy) (fun r43 u43 hp43 => ?_)
              obtain ⟨c2, rfl, s2, hbb⟩ := hp43
              rw [hb] at hbb
              rcases hbb with ⟨t, ht, -⟩ | ⟨-, rfl, y2, hy2⟩
              · cases ht
              refine g_if_ne (pc := 46) (tgt := 57) C d_V_text_46 (by decide) (fun h46 => ?_) (fun h46 => ?_)
              · first | exact absurd h46 (rfl) | exact absurd (rfl) h46
              · skip
                exact g_throw (pc := 49) C hO hR tw_UOE (⟨c2, rfl, hC.bp hq s2 hy2⟩) (by decide) d_V_text_49 d_V_text_52 d_V_text_53 d_V_text_56
            · first | exact absurd h29 (b1_f hd) | exact absurd (b1_f hd) h29
          · first | exact absurd h13 (by rw [b1_t h1]; decide) | exact absurd (by rw [b1_t h1]; decide) h13
        · skip
          rename_i tx
          rw [eTxt4 hq (by omega) h1 hd hb] at ho
          cases ho
    · skip
      rw [eTxt1 hq h1] at ho ⊢
      cases ho
      refine Tt.of hD (by decide) (Nat.le_of_ble_eq_true rfl) [(0, some (.ref (aVlt D))), (1, some (.int (nI q))), (2, some (.int n)), (3, some (.int k2))] rfl (fun X hX C hR => ?_)
      subst hX
      refine g_aload_n (pc := 0) (i := 0) C d_V_text_0 rfl rfl ?_
      refine g_iload_n (pc := 1) (i := 1) C d_V_text_1 rfl rfl ?_
      refine g_callV1 (pc := 2) (As := [_]) C my_V_repositoryAt mv_V_repositoryAt cl_V_43 is_V d_V_text_2 (Nat.le_of_ble_eq_true rfl) rfl (Nat.le_of_ble_eq_true rfl) ⟨Nat.zero_le _, Nat.zero_le _⟩ (c_V_repositoryAt _ hD (by omega)) ?_
      refine g_astore (pc := 5) C d_V_text_5 (by decide) rfl ?_
      refine g_aload (pc := 7) C d_V_text_7 rfl ?_
      refine g_iload_n (pc := 9) (i := 2) C d_V_text_9 rfl rfl ?_
      refine g_callV1 (pc := 10) (As := [_]) C my_Rep_hasRevision mv_Rep_hasRevision cl_V_101 (is_Rep (by omega)) d_V_text_10 (Nat.le_of_ble_eq_true rfl) rfl (Nat.le_of_ble_eq_true rfl) ⟨Nat.zero_le _, Nat.zero_le _⟩ (c_Rep_hasRevision _ hD (by omega)) ?_
      rw [g.1.1]
      refine g_if_ne (pc := 13) (tgt := 24) C d_V_text_13 (by decide) (fun h13 => ?_) (fun h13 => ?_)
      · first | exact absurd h13 (b1_f h1) | exact absurd (b1_f h1) h13
      · skip
        exact g_throw (pc := 16) C hO hR tw_IOOBE (⟨c, rfl, hC⟩) (by decide) d_V_text_16 d_V_text_19 d_V_text_20 d_V_text_23
  · skip
    rw [eTxt0 h0] at ho ⊢
    cases ho
    refine Tt.of hD (by decide) (Nat.le_of_ble_eq_true rfl) [(0, some (.ref (aVlt D))), (1, some (.int r)), (2, some (.int n)), (3, some (.int k2))] rfl (fun X hX C hR => ?_)
    subst hX
    refine g_aload_n (pc := 0) (i := 0) C d_V_text_0 rfl rfl ?_
    refine g_iload_n (pc := 1) (i := 1) C d_V_text_1 rfl rfl ?_
    exact g_callVt (pc := 2) (As := [_]) C hR my_V_repositoryAt mv_V_repositoryAt ml_V_43 is_V d_V_text_2 (Nat.le_of_ble_eq_true rfl) rfl (Nat.le_of_ble_eq_true rfl) (t_V_repositoryAt _ hD hO h0 |> Tt.to (fun u e => ⟨c, e, hC⟩))
end
section
theorem eApp0 {V : Vt} {r a b : Int32} (h : ¬ (0 ≤ r ∧ r < 2)) : oAppend V r a b = (.inr 0, V) := onR_n h
theorem eApp1 {V : Vt} {q : Nat} {a b : Int32} (hq : q < 2) (h : (V.2 q).dwn = true ∨ ¬ (V.2 q).jrn.isSome = true) : oAppend V (nI q) a b = (.inr 1, V) := (onR_y hq).trans (if_pos h)
theorem eApp2 {V : Vt} {q : Nat} {a b : Int32} (hq : q < 2) (h : ¬ ((V.2 q).dwn = true ∨ ¬ (V.2 q).jrn.isSome = true)) (h2 : ¬ (can (V.2 q) a ∧ can (V.2 q) b)) : oAppend V (nI q) a b = (.inr 2, V) := (onR_y hq).trans ((if_neg h).trans (if_neg h2))
theorem eApp3 {V : Vt} {q : Nat} {a b : Int32} (hq : q < 2) (h : ¬ ((V.2 q).dwn = true ∨ ¬ (V.2 q).jrn.isSome = true)) (h2 : can (V.2 q) a ∧ can (V.2 q) b) (h3 : (stor (V.2 q) (od a) (od b) V.1).1 = -4) : oAppend V (nI q) a b = (.inr 3, upR V q (stor (V.2 q) (od a) (od b) V.1).2) := (onR_y hq).trans ((if_neg h).trans ((if_pos h2).trans (if_pos h3)))
theorem eApp4 {V : Vt} {q : Nat} {a b : Int32} (hq : q < 2) (h : ¬ ((V.2 q).dwn = true ∨ ¬ (V.2 q).jrn.isSome = true)) (h2 : can (V.2 q) a ∧ can (V.2 q) b) (h3 : ¬ (stor (V.2 q) (od a) (od b) V.1).1 = -4) : oAppend V (nI q) a b = (.inl (Int32.ofInt (stor (V.2 q) (od a) (od b) V.1).1), upR V q (stor (V.2 q) (od a) (od b) V.1).2) := (onR_y hq).trans ((if_neg h).trans ((if_pos h2).trans (if_neg h3)))
theorem CAbs.sn {c c2 : Cs} {V : Vt} {q : Nat} {R : Rp} (h : CAbs c V) (hq : q < 2) (hs : Sn q c c2) (hR : RepIs c2 q R) (k2 : ∃ y, RowIs c2 (2 + 4 * q) y) (k3 : ∃ y, RowIs c2 (3 + 4 * q) y) (k4 : ∃ y, RowIs c2 (4 + 4 * q) y) : CAbs c2 (upR V q R) := h.up hq (fun k => k.sn hs (by unfold Sc Pr Rw; omega) (by unfold Sc Pr Rw; omega)) hR (fun k hk hn g => g.sn hs hq hk hn) (h.2.2.2.sn hs hq k2 k3 k4)
theorem stor_v {R : Rp} {a b : Int32} {t : List Nat} (wf : WfR R) (hd : ¬ R.dwn = true) (h : can R a ∧ can R b) (yt : By t) (tl : t.length ≤ 60) : (stor R (od a) (od b) t).1 = -2 ∨ (stor R (od a) (od b) t).1 = -4 ∨ ∃ n : Nat, n ≤ 24 ∧ (stor R (od a) (od b) t).1 = n := (stor_all wf (dfalse hd) (can_od h.1 wf.2.2.1).2 (can_od h.2 wf.2.2.1).2 yt tl).2.2.elim Or.inl (fun h => Or.inr (h.elim Or.inl (fun h => Or.inr h.2)))
theorem mp3 : (Int8.ofInt (-3)).toInt32 = -3 := by decide +kernel
set_option maxRecDepth 100000 in
set_option maxHeartbeats 4000000 in
theorem x_V_append (l : Launch) {D : Dt} (hD : OkD D) {c : Cs} {τ : Cs × (Nat → Int64)} {V : Vt} {r a b : Int32} (hC : CAbs c V) (hW : WfV V) {z : Int32} (ho : (oAppend V r a b).1 = .inl z) : Cp l D y_V_append b_V_append 6 (some .int) 9 [.int b, .int a, .int r, .ref (aVlt D)] ((c, τ) : Sg) (fun a0 u => ∃ c2, u = ((c2, τ) : Sg) ∧ a0 = some (.int z) ∧ CAbs c2 (oAppend V r a b).2) := by
  by_cases h0 : 0 ≤ r ∧ r < 2
  · skip
    obtain ⟨q, hq, rfl⟩ := okr_n h0
    have g := hC.rep hq
    have wf := hW.rep hq
    have g24 := g.2.2.1
    by_cases h1 : (V.2 q).dwn = true ∨ ¬ (V.2 q).jrn.isSome = true
    · skip
      rw [eApp1 hq h1] at ho
      cases ho
    · skip
      have hdj := jsome h1
      by_cases h2 : can (V.2 q) a ∧ can (V.2 q) b
      · skip
        
        by_cases h3 : (stor (V.2 q) (od a) (od b) V.1).1 = -4
        · skip
          rw [eApp3 hq h1 h2 h3] at ho
          cases ho
        · skip
          rw [eApp4 hq h1 h2 h3] at ho ⊢
          cases ho
          refine Cp.of hD (by decide) (Nat.le_of_ble_eq_true rfl) [(0, some (.ref (aVlt D))), (1, some (.int (nI q))), (2, some (.int a)), (3, some (.int b))] rfl (fun X hX C => ?_)
          subst hX
          refine g_aload_n (pc := 0) (i := 0) C d_V_append_0 rfl rfl ?_
          refine g_iload_n (pc := 1) (i := 1) C d_V_append_1 rfl rfl ?_
          refine g_callV1 (pc := 2) (As := [_]) C my_V_repositoryInTransaction mv_V_repositoryInTransaction cl_V_61 is_V d_V_append_2 (Nat.le_of_ble_eq_true rfl) rfl (Nat.le_of_ble_eq_true rfl) ⟨Nat.zero_le _, Nat.zero_le _⟩ (c_V_repositoryInTransaction _ hD hq g hdj.1 hdj.2) ?_
          refine g_astore (pc := 5) C d_V_append_5 (by decide) rfl ?_
          refine g_aload (pc := 7) C d_V_append_7 rfl ?_
          refine g_iload_n (pc := 9) (i := 2) C d_V_append_9 rfl rfl ?_
          refine g_callV1 (pc := 10) (As := [_]) C my_Rep_canBeParent mv_Rep_canBeParent cl_V_64 (is_Rep (by omega)) d_V_append_10 (Nat.le_of_ble_eq_true rfl) rfl (Nat.le_of_ble_eq_true rfl) ⟨Nat.zero_le _, Nat.zero_le _⟩ (c_Rep_canBeParent _ hD (k := a) hq) ?_
          rw [g.1.1]
          refine g_if_eq (pc := 13) (tgt := 25) C d_V_append_13 (by decide) (fun h13 => ?_) (fun h13 => ?_)
          · first | exact absurd h13 (by rw [b1_t h2.1]; decide) | exact absurd (by rw [b1_t h2.1]; decide) h13
          · skip
            refine g_aload (pc := 16) C d_V_append_16 rfl ?_
            refine g_iload_n (pc := 18) (i := 3) C d_V_append_18 rfl rfl ?_
            refine g_callV1 (pc := 19) (As := [_]) C my_Rep_canBeParent mv_Rep_canBeParent cl_V_64 (is_Rep (by omega)) d_V_append_19 (Nat.le_of_ble_eq_true rfl) rfl (Nat.le_of_ble_eq_true rfl) ⟨Nat.zero_le _, Nat.zero_le _⟩ (c_Rep_canBeParent _ hD (k := b) hq) ?_
            rw [g.1.1]
            refine g_if_ne (pc := 22) (tgt := 33) C d_V_append_22 (by decide) (fun h22 => ?_) (fun h22 => ?_)
            · skip
              refine g_aload (pc := 33) C d_V_append_33 rfl ?_
              refine g_aload_n (pc := 35) (i := 0) C d_V_append_35 rfl rfl ?_
              refine gf_V_buffer (pc := 36) C fl_V_14 d_V_append_36 ?_
              refine g_iload_n (pc := 39) (i := 2) C d_V_append_39 rfl rfl ?_
              refine g_iload_n (pc := 40) (i := 3) C d_V_append_40 rfl rfl ?_
              rw [← (can_od h2.1 g24).1, ← (can_od h2.2 g24).1]
              refine g_callVp (pc := 41) (As := [_, _, _]) C my_Rep_store mv_Rep_store cl_V_70 (is_Rep (by omega)) d_V_append_41 (Nat.le_of_ble_eq_true rfl) rfl (Nat.le_of_ble_eq_true rfl) ⟨Nat.zero_le _, Nat.zero_le _⟩ (x_Rep_store (j := 0) _ hD hq (by decide) (by omega) g wf.1 (wf.2.2.2.2.2.2 (Or.inr (dfalse hdj.1))) (dfalse hdj.1) wf.2.2.2.1 (can_od h2.1 g24).2 (can_od h2.2 g24).2 hC.1 hW.1 hW.2.1 (hC.2.2.2 q hq).1 (hC.2.2.2 q hq).2.1 (hC.2.2.2 q hq).2.2) (fun r41 u41 hp41 => ?_)
              rw [(can_od h2.1 g24).1, (can_od h2.2 g24).1] at *
              obtain ⟨c2, rfl, rfl, gr, k2, k3, k4, s2⟩ := hp41
              have hv := stor_v wf hdj.1 h2 hW.1 hW.2.1
              refine g_istore (pc := 44) C d_V_append_44 (by decide) rfl ?_
              refine g_iload (pc := 46) C d_V_append_46 rfl ?_
              refine g_bipush (pc := 48) C d_V_append_48 bp_m3 ?_
              refine g_icmp_ne (pc := 50) (tgt := 61) C d_V_append_50 (by decide) (fun h50 => ?_) (fun h50 => ?_)
              · skip
                refine g_iload (pc := 61) C d_V_append_61 rfl ?_
                refine g_iret (pc := 63) C d_V_append_63 ?_
                exact ⟨c2, rfl, by rw [stI_n h3], hC.sn hq s2 gr k2 k3 k4⟩
              · first | exact absurd h50 (fun e => h3 ((stI_4 hv).mp e)) | exact absurd (fun e => h3 ((stI_4 hv).mp e)) h50
            · first | exact absurd h22 (by rw [b1_t h2.2]; decide) | exact absurd (by rw [b1_t h2.2]; decide) h22
      · skip
        rw [eApp2 hq h1 h2] at ho
        cases ho
  · skip
    rw [eApp0 h0] at ho
    cases ho
set_option maxRecDepth 100000 in
set_option maxHeartbeats 4000000 in
theorem t_V_append (l : Launch) {D : Dt} (hD : OkD D) {c : Cs} {τ : Cs × (Nat → Int64)} {V : Vt} {r a b : Int32} (hO : OkT l D) (hC : CAbs c V) (hW : WfV V) {k : Nat} (ho : (oAppend V r a b).1 = .inr k) : Tt l D y_V_append b_V_append 6 (some .int) 9 [.int b, .int a, .int r, .ref (aVlt D)] ((c, τ) : Sg) (exN k) (fun u => ∃ c2, u = ((c2, τ) : Sg) ∧ CAbs c2 (oAppend V r a b).2) := by
  by_cases h0 : 0 ≤ r ∧ r < 2
  · skip
    obtain ⟨q, hq, rfl⟩ := okr_n h0
    have g := hC.rep hq
    have wf := hW.rep hq
    have g24 := g.2.2.1
    by_cases h1 : (V.2 q).dwn = true ∨ ¬ (V.2 q).jrn.isSome = true
    · skip
      rw [eApp1 hq h1] at ho ⊢
      cases ho
      refine Tt.of hD (by decide) (Nat.le_of_ble_eq_true rfl) [(0, some (.ref (aVlt D))), (1, some (.int (nI q))), (2, some (.int a)), (3, some (.int b))] rfl (fun X hX C hR => ?_)
      subst hX
      refine g_aload_n (pc := 0) (i := 0) C d_V_append_0 rfl rfl ?_
      refine g_iload_n (pc := 1) (i := 1) C d_V_append_1 rfl rfl ?_
      exact g_callVt (pc := 2) (As := [_]) C hR my_V_repositoryInTransaction mv_V_repositoryInTransaction ml_V_61 is_V d_V_append_2 (Nat.le_of_ble_eq_true rfl) rfl (Nat.le_of_ble_eq_true rfl) (t2_V_repositoryInTransaction _ hD hO hq g h1 |> Tt.to (fun u e => ⟨c, e, hC⟩))
    · skip
      have hdj := jsome h1
      by_cases h2 : can (V.2 q) a ∧ can (V.2 q) b
      · skip
        
        by_cases h3 : (stor (V.2 q) (od a) (od b) V.1).1 = -4
        · skip
          rw [eApp3 hq h1 h2 h3] at ho ⊢
          cases ho
          refine Tt.of hD (by decide) (Nat.le_of_ble_eq_true rfl) [(0, some (.ref (aVlt D))), (1, some (.int (nI q))), (2, some (.int a)), (3, some (.int b))] rfl (fun X hX C hR => ?_)
          subst hX
          refine g_aload_n (pc := 0) (i := 0) C d_V_append_0 rfl rfl ?_
          refine g_iload_n (pc := 1) (i := 1) C d_V_append_1 rfl rfl ?_
          refine g_callV1 (pc := 2) (As := [_]) C my_V_repositoryInTransaction mv_V_repositoryInTransaction cl_V_61 is_V d_V_append_2 (Nat.le_of_ble_eq_true rfl) rfl (Nat.le_of_ble_eq_true rfl) ⟨Nat.zero_le _, Nat.zero_le _⟩ (c_V_repositoryInTransaction _ hD hq g hdj.1 hdj.2) ?_
          refine g_astore (pc := 5) C d_V_append_5 (by decide) rfl ?_
          refine g_aload (pc := 7) C d_V_append_7 rfl ?_
          refine g_iload_n (pc := 9) (i := 2) C d_V_append_9 rfl rfl ?_
          refine g_callV1 (pc := 10) (As := [_]) C my_Rep_canBeParent mv_Rep_canBeParent cl_V_64 (is_Rep (by omega)) d_V_append_10 (Nat.le_of_ble_eq_true rfl) rfl (Nat.le_of_ble_eq_true rfl) ⟨Nat.zero_le _, Nat.zero_le _⟩ (c_Rep_canBeParent _ hD (k := a) hq) ?_
          rw [g.1.1]
          refine g_if_eq (pc := 13) (tgt := 25) C d_V_append_13 (by decide) (fun h13 => ?_) (fun h13 => ?_)
          · first | exact absurd h13 (by rw [b1_t h2.1]; decide) | exact absurd (by rw [b1_t h2.1]; decide) h13
          · skip
            refine g_aload (pc := 16) C d_V_append_16 rfl ?_
            refine g_iload_n (pc := 18) (i := 3) C d_V_append_18 rfl rfl ?_
            refine g_callV1 (pc := 19) (As := [_]) C my_Rep_canBeParent mv_Rep_canBeParent cl_V_64 (is_Rep (by omega)) d_V_append_19 (Nat.le_of_ble_eq_true rfl) rfl (Nat.le_of_ble_eq_true rfl) ⟨Nat.zero_le _, Nat.zero_le _⟩ (c_Rep_canBeParent _ hD (k := b) hq) ?_
            rw [g.1.1]
            refine g_if_ne (pc := 22) (tgt := 33) C d_V_append_22 (by decide) (fun h22 => ?_) (fun h22 => ?_)
            · skip
              refine g_aload (pc := 33) C d_V_append_33 rfl ?_
              refine g_aload_n (pc := 35) (i := 0) C d_V_append_35 rfl rfl ?_
              refine gf_V_buffer (pc := 36) C fl_V_14 d_V_append_36 ?_
              refine g_iload_n (pc := 39) (i := 2) C d_V_append_39 rfl rfl ?_
              refine g_iload_n (pc := 40) (i := 3) C d_V_append_40 rfl rfl ?_
              rw [← (can_od h2.1 g24).1, ← (can_od h2.2 g24).1]
              refine g_callVp (pc := 41) (As := [_, _, _]) C my_Rep_store mv_Rep_store cl_V_70 (is_Rep (by omega)) d_V_append_41 (Nat.le_of_ble_eq_true rfl) rfl (Nat.le_of_ble_eq_true rfl) ⟨Nat.zero_le _, Nat.zero_le _⟩ (x_Rep_store (j := 0) _ hD hq (by decide) (by omega) g wf.1 (wf.2.2.2.2.2.2 (Or.inr (dfalse hdj.1))) (dfalse hdj.1) wf.2.2.2.1 (can_od h2.1 g24).2 (can_od h2.2 g24).2 hC.1 hW.1 hW.2.1 (hC.2.2.2 q hq).1 (hC.2.2.2 q hq).2.1 (hC.2.2.2 q hq).2.2) (fun r41 u41 hp41 => ?_)
              rw [(can_od h2.1 g24).1, (can_od h2.2 g24).1] at *
              obtain ⟨c2, rfl, rfl, gr, k2, k3, k4, s2⟩ := hp41
              have hv := stor_v wf hdj.1 h2 hW.1 hW.2.1
              refine g_istore (pc := 44) C d_V_append_44 (by decide) rfl ?_
              refine g_iload (pc := 46) C d_V_append_46 rfl ?_
              refine g_bipush (pc := 48) C d_V_append_48 bp_m3 ?_
              refine g_icmp_ne (pc := 50) (tgt := 61) C d_V_append_50 (by decide) (fun h50 => ?_) (fun h50 => ?_)
              · first | exact absurd h50 ((stI_4 hv).mpr h3) | exact absurd ((stI_4 hv).mpr h3) h50
              · skip
                exact g_throw (pc := 53) C hO hR tw_UOE (⟨c2, rfl, hC.sn hq s2 gr k2 k3 k4⟩) (by decide) d_V_append_53 d_V_append_56 d_V_append_57 d_V_append_60
            · first | exact absurd h22 (by rw [b1_t h2.2]; decide) | exact absurd (by rw [b1_t h2.2]; decide) h22
        · skip
          rw [eApp4 hq h1 h2 h3] at ho
          cases ho
      · skip
        rw [eApp2 hq h1 h2] at ho ⊢
        cases ho
        refine Tt.of hD (by decide) (Nat.le_of_ble_eq_true rfl) [(0, some (.ref (aVlt D))), (1, some (.int (nI q))), (2, some (.int a)), (3, some (.int b))] rfl (fun X hX C hR => ?_)
        subst hX
        refine g_aload_n (pc := 0) (i := 0) C d_V_append_0 rfl rfl ?_
        refine g_iload_n (pc := 1) (i := 1) C d_V_append_1 rfl rfl ?_
        refine g_callV1 (pc := 2) (As := [_]) C my_V_repositoryInTransaction mv_V_repositoryInTransaction cl_V_61 is_V d_V_append_2 (Nat.le_of_ble_eq_true rfl) rfl (Nat.le_of_ble_eq_true rfl) ⟨Nat.zero_le _, Nat.zero_le _⟩ (c_V_repositoryInTransaction _ hD hq g hdj.1 hdj.2) ?_
        refine g_astore (pc := 5) C d_V_append_5 (by decide) rfl ?_
        refine g_aload (pc := 7) C d_V_append_7 rfl ?_
        refine g_iload_n (pc := 9) (i := 2) C d_V_append_9 rfl rfl ?_
        refine g_callV1 (pc := 10) (As := [_]) C my_Rep_canBeParent mv_Rep_canBeParent cl_V_64 (is_Rep (by omega)) d_V_append_10 (Nat.le_of_ble_eq_true rfl) rfl (Nat.le_of_ble_eq_true rfl) ⟨Nat.zero_le _, Nat.zero_le _⟩ (c_Rep_canBeParent _ hD (k := a) hq) ?_
        rw [g.1.1]
        refine g_if_eq (pc := 13) (tgt := 25) C d_V_append_13 (by decide) (fun h13 => ?_) (fun h13 => ?_)
        · skip
          exact g_throw (pc := 25) C hO hR tw_IAE (⟨c, rfl, hC⟩) (by decide) d_V_append_25 d_V_append_28 d_V_append_29 d_V_append_32
        · have ha := b1_1 h13
          refine g_aload (pc := 16) C d_V_append_16 rfl ?_
          refine g_iload_n (pc := 18) (i := 3) C d_V_append_18 rfl rfl ?_
          refine g_callV1 (pc := 19) (As := [_]) C my_Rep_canBeParent mv_Rep_canBeParent cl_V_64 (is_Rep (by omega)) d_V_append_19 (Nat.le_of_ble_eq_true rfl) rfl (Nat.le_of_ble_eq_true rfl) ⟨Nat.zero_le _, Nat.zero_le _⟩ (c_Rep_canBeParent _ hD (k := b) hq) ?_
          rw [g.1.1]
          refine g_if_ne (pc := 22) (tgt := 33) C d_V_append_22 (by decide) (fun h22 => ?_) (fun h22 => ?_)
          · first | exact absurd h22 (b1_f (fun e => h2 ⟨ha, e⟩)) | exact absurd (b1_f (fun e => h2 ⟨ha, e⟩)) h22
          · skip
            exact g_throw (pc := 25) C hO hR tw_IAE (⟨c, rfl, hC⟩) (by decide) d_V_append_25 d_V_append_28 d_V_append_29 d_V_append_32
  · skip
    rw [eApp0 h0] at ho ⊢
    cases ho
    refine Tt.of hD (by decide) (Nat.le_of_ble_eq_true rfl) [(0, some (.ref (aVlt D))), (1, some (.int r)), (2, some (.int a)), (3, some (.int b))] rfl (fun X hX C hR => ?_)
    subst hX
    refine g_aload_n (pc := 0) (i := 0) C d_V_append_0 rfl rfl ?_
    refine g_iload_n (pc := 1) (i := 1) C d_V_append_1 rfl rfl ?_
    exact g_callVt (pc := 2) (As := [_]) C hR my_V_repositoryInTransaction mv_V_repositoryInTransaction ml_V_61 is_V d_V_append_2 (Nat.le_of_ble_eq_true rfl) rfl (Nat.le_of_ble_eq_true rfl) (t_V_repositoryInTransaction _ hD hO h0 |> Tt.to (fun u e => ⟨c, e, hC⟩))
abbrev busy (V : Vt) (q : Nat) : Prop := (V.2 q).dwn = true ∨ (V.2 q).jrn.isSome = true ∨ (V.2 (1 - q)).dwn = true ∨ (V.2 (1 - q)).jrn.isSome = true
theorem ePull0 {V : Vt} {r : Int32} (h : ¬ (0 ≤ r ∧ r < 2)) : oPull V r = (.inr 0, V) := onR_n h
theorem ePull1 {V : Vt} {q : Nat} (hq : q < 2) (h : busy V q) : oPull V (nI q) = (.inr 1, V) := (onR_y hq).trans (if_pos h)
theorem ePull2 {V : Vt} {q : Nat} (hq : q < 2) (h : ¬ busy V q) (h3 : (pullV (V.2 q) (V.2 (1 - q))).1 = -4) : oPull V (nI q) = (.inr 3, upR V q (pullV (V.2 q) (V.2 (1 - q))).2) := (onR_y hq).trans ((if_neg h).trans (if_pos h3))
theorem ePull3 {V : Vt} {q : Nat} (hq : q < 2) (h : ¬ busy V q) (h3 : ¬ (pullV (V.2 q) (V.2 (1 - q))).1 = -4) : oPull V (nI q) = (.inl (Int32.ofInt (pullV (V.2 q) (V.2 (1 - q))).1), upR V q (pullV (V.2 q) (V.2 (1 - q))).2) := (onR_y hq).trans ((if_neg h).trans (if_neg h3))
theorem one_sub : ∀ q, q < 2 → (1 : Int32) - nI q = nI (1 - q) := by decide +kernel
theorem CAbs.two {c2 : Cs} {V : Vt} {q : Nat} {R : Rp} (hq : q < 2) (hb : RowIs c2 0 V.1) (hR : RepIs c2 q R) (ho : RepIs c2 (1 - q) (V.2 (1 - q))) (hs : Scr c2) : CAbs c2 (upR V q R) := by
  rcases (show q = 0 ∨ q = 1 by omega) with rfl | rfl
  · exact ⟨hb, by rw [upR_s]; exact hR, by rw [upR_n (by decide)]; exact ho, hs⟩
  · exact ⟨hb, by rw [upR_n (by decide)]; exact ho, by rw [upR_s]; exact hR, hs⟩
set_option maxRecDepth 100000 in
set_option maxHeartbeats 4000000 in
theorem x_V_pull (l : Launch) {D : Dt} (hD : OkD D) {c : Cs} {τ : Cs × (Nat → Int64)} {V : Vt} {r : Int32} (hC : CAbs c V) (hW : WfV V) {z : Int32} (ho : (oPull V r).1 = .inl z) : Cp l D y_V_pull b_V_pull 5 (some .int) 10 [.int r, .ref (aVlt D)] ((c, τ) : Sg) (fun a0 u => ∃ c2, u = ((c2, τ) : Sg) ∧ a0 = some (.int z) ∧ CAbs c2 (oPull V r).2) := by
  by_cases h0 : 0 ≤ r ∧ r < 2
  · skip
    obtain ⟨q, hq, rfl⟩ := okr_n h0
    have g := hC.rep hq
    have wf := hW.rep hq
    have g24 := g.2.2.1
    have hq2 : 1 - q < 2 := by omega
    have o := hC.rep hq2
    have wo := hW.rep hq2
    by_cases h1 : busy V q
    · skip
      rw [ePull1 hq h1] at ho
      cases ho
    · skip
      
      by_cases h3 : (pullV (V.2 q) (V.2 (1 - q))).1 = -4
      · skip
        rw [ePull2 hq h1 h3] at ho
        cases ho
      · skip
        rw [ePull3 hq h1 h3] at ho ⊢
        cases ho
        refine Cp.of hD (by decide) (Nat.le_of_ble_eq_true rfl) [(0, some (.ref (aVlt D))), (1, some (.int (nI q)))] rfl (fun X hX C => ?_)
        subst hX
        refine g_aload_n (pc := 0) (i := 0) C d_V_pull_0 rfl rfl ?_
        refine g_iload_n (pc := 1) (i := 1) C d_V_pull_1 rfl rfl ?_
        refine g_callV1 (pc := 2) (As := [_]) C my_V_repositoryAt mv_V_repositoryAt cl_V_43 is_V d_V_pull_2 (Nat.le_of_ble_eq_true rfl) rfl (Nat.le_of_ble_eq_true rfl) ⟨Nat.zero_le _, Nat.zero_le _⟩ (c_V_repositoryAt _ hD hq) ?_
        refine g_astore_n (pc := 5) (i := 2) C d_V_pull_5 rfl (by decide) rfl ?_
        refine g_aload_n (pc := 6) (i := 0) C d_V_pull_6 rfl rfl ?_
        refine g_iconst (pc := 7) C d_V_pull_7 ic_1 ?_
        refine g_iload_n (pc := 8) (i := 1) C d_V_pull_8 rfl rfl ?_
        refine g_isub (pc := 9) C d_V_pull_9 ?_
        rw [one_sub q hq]
        refine g_callV1 (pc := 10) (As := [_]) C my_V_repositoryAt mv_V_repositoryAt cl_V_43 is_V d_V_pull_10 (Nat.le_of_ble_eq_true rfl) rfl (Nat.le_of_ble_eq_true rfl) ⟨Nat.zero_le _, Nat.zero_le _⟩ (c_V_repositoryAt _ hD hq2) ?_
        refine g_astore_n (pc := 13) (i := 3) C d_V_pull_13 rfl (by decide) rfl ?_
        refine g_aload_n (pc := 14) (i := 2) C d_V_pull_14 rfl rfl ?_
        refine gf_Rep_down (pc := 15) C (by omega) fl_V_47 d_V_pull_15 ?_
        rw [g.1.2.2.2.1]
        refine g_if_ne (pc := 18) (tgt := 42) C d_V_pull_18 (by decide) (fun h18 => ?_) (fun h18 => ?_)
        · first | exact absurd h18 (b1_f (fun e => h1 (Or.inl e))) | exact absurd (b1_f (fun e => h1 (Or.inl e))) h18
        · skip
          refine g_aload_n (pc := 21) (i := 2) C d_V_pull_21 rfl rfl ?_
          refine gf_Rep_journal (pc := 22) C (by omega) fl_V_51 d_V_pull_22 ?_
          rw [g.1.2.1]
          refine g_if_ne (pc := 25) (tgt := 42) C d_V_pull_25 (by decide) (fun h25 => ?_) (fun h25 => ?_)
          · first | exact absurd h25 (b1_f (fun e => h1 (Or.inr (Or.inl e)))) | exact absurd (b1_f (fun e => h1 (Or.inr (Or.inl e)))) h25
          · skip
            refine g_aload_n (pc := 28) (i := 3) C d_V_pull_28 rfl rfl ?_
            refine gf_Rep_down (pc := 29) C (by omega) fl_V_47 d_V_pull_29 ?_
            rw [o.1.2.2.2.1]
            refine g_if_ne (pc := 32) (tgt := 42) C d_V_pull_32 (by decide) (fun h32 => ?_) (fun h32 => ?_)
            · first | exact absurd h32 (b1_f (fun e => h1 (Or.inr (Or.inr (Or.inl e))))) | exact absurd (b1_f (fun e => h1 (Or.inr (Or.inr (Or.inl e))))) h32
            · skip
              refine g_aload_n (pc := 35) (i := 3) C d_V_pull_35 rfl rfl ?_
              refine gf_Rep_journal (pc := 36) C (by omega) fl_V_51 d_V_pull_36 ?_
              rw [o.1.2.1]
              refine g_if_eq (pc := 39) (tgt := 50) C d_V_pull_39 (by decide) (fun h39 => ?_) (fun h39 => ?_)
              · skip
                refine g_aload_n (pc := 50) (i := 2) C d_V_pull_50 rfl rfl ?_
                refine g_aload_n (pc := 51) (i := 3) C d_V_pull_51 rfl rfl ?_
                refine g_callVp (pc := 52) (As := [_]) C my_Rep_takeFrom mv_Rep_takeFrom cl_V_97 (is_Rep (by omega)) d_V_pull_52 (Nat.le_of_ble_eq_true rfl) rfl (Nat.le_of_ble_eq_true rfl) ⟨Nat.zero_le _, Nat.zero_le _⟩ (x_Rep_takeFrom _ hD hq hq2 (by omega) g o hC.1 hC.2.2.2 wf wo (dfalse fun e => h1 (Or.inl e)) (by simpa using fun e => h1 (Or.inr (Or.inl e))) (dfalse fun e => h1 (Or.inr (Or.inr (Or.inl e))))) (fun r52 u52 hp52 => ?_)
                obtain ⟨c2, rfl, rfl, gr, go, kb, ks⟩ := hp52
                have hv := (pull_all wf wo (dfalse fun e => h1 (Or.inl e))).2
                refine g_istore (pc := 55) C d_V_pull_55 (by decide) rfl ?_
                refine g_iload (pc := 57) C d_V_pull_57 rfl ?_
                refine g_bipush (pc := 59) C d_V_pull_59 bp_m3 ?_
                refine g_icmp_ne (pc := 61) (tgt := 72) C d_V_pull_61 (by decide) (fun h61 => ?_) (fun h61 => ?_)
                · skip
                  refine g_iload (pc := 72) C d_V_pull_72 rfl ?_
                  refine g_iret (pc := 74) C d_V_pull_74 ?_
                  exact ⟨c2, rfl, by rw [stI_n h3], CAbs.two hq kb gr go ks⟩
                · first | exact absurd h61 (fun e => h3 ((stI_4 hv).mp e)) | exact absurd (fun e => h3 ((stI_4 hv).mp e)) h61
              · first | exact absurd h39 (b1_f (fun e => h1 (Or.inr (Or.inr (Or.inr e))))) | exact absurd (b1_f (fun e => h1 (Or.inr (Or.inr (Or.inr e))))) h39
  · skip
    rw [ePull0 h0] at ho
    cases ho
set_option maxRecDepth 100000 in
set_option maxHeartbeats 4000000 in
theorem t_V_pull (l : Launch) {D : Dt} (hD : OkD D) {c : Cs} {τ : Cs × (Nat → Int64)} {V : Vt} {r : Int32} (hO : OkT l D) (hC : CAbs c V) (hW : WfV V) {k : Nat} (ho : (oPull V r).1 = .inr k) : Tt l D y_V_pull b_V_pull 5 (some .int) 10 [.int r, .ref (aVlt D)] ((c, τ) : Sg) (exN k) (fun u => ∃ c2, u = ((c2, τ) : Sg) ∧ CAbs c2 (oPull V r).2) := by
  by_cases h0 : 0 ≤ r ∧ r < 2
  · skip
    obtain ⟨q, hq, rfl⟩ := okr_n h0
    have g := hC.rep hq
    have wf := hW.rep hq
    have g24 := g.2.2.1
    have hq2 : 1 - q < 2 := by omega
    have o := hC.rep hq2
    have wo := hW.rep hq2
    by_cases h1 : busy V q
    · skip
      rw [ePull1 hq h1] at ho ⊢
      cases ho
      refine Tt.of hD (by decide) (Nat.le_of_ble_eq_true rfl) [(0, some (.ref (aVlt D))), (1, some (.int (nI q)))] rfl (fun X hX C hR => ?_)
      subst hX
      refine g_aload_n (pc := 0) (i := 0) C d_V_pull_0 rfl rfl ?_
      refine g_iload_n (pc := 1) (i := 1) C d_V_pull_1 rfl rfl ?_
      refine g_callV1 (pc := 2) (As := [_]) C my_V_repositoryAt mv_V_repositoryAt cl_V_43 is_V d_V_pull_2 (Nat.le_of_ble_eq_true rfl) rfl (Nat.le_of_ble_eq_true rfl) ⟨Nat.zero_le _, Nat.zero_le _⟩ (c_V_repositoryAt _ hD hq) ?_
      refine g_astore_n (pc := 5) (i := 2) C d_V_pull_5 rfl (by decide) rfl ?_
      refine g_aload_n (pc := 6) (i := 0) C d_V_pull_6 rfl rfl ?_
      refine g_iconst (pc := 7) C d_V_pull_7 ic_1 ?_
      refine g_iload_n (pc := 8) (i := 1) C d_V_pull_8 rfl rfl ?_
      refine g_isub (pc := 9) C d_V_pull_9 ?_
      rw [one_sub q hq]
      refine g_callV1 (pc := 10) (As := [_]) C my_V_repositoryAt mv_V_repositoryAt cl_V_43 is_V d_V_pull_10 (Nat.le_of_ble_eq_true rfl) rfl (Nat.le_of_ble_eq_true rfl) ⟨Nat.zero_le _, Nat.zero_le _⟩ (c_V_repositoryAt _ hD hq2) ?_
      refine g_astore_n (pc := 13) (i := 3) C d_V_pull_13 rfl (by decide) rfl ?_
      refine g_aload_n (pc := 14) (i := 2) C d_V_pull_14 rfl rfl ?_
      refine gf_Rep_down (pc := 15) C (by omega) fl_V_47 d_V_pull_15 ?_
      rw [g.1.2.2.2.1]
      refine g_if_ne (pc := 18) (tgt := 42) C d_V_pull_18 (by decide) (fun h18 => ?_) (fun h18 => ?_)
      · skip
        exact g_throw (pc := 42) C hO hR tw_ISE (⟨c, rfl, hC⟩) (by decide) d_V_pull_42 d_V_pull_45 d_V_pull_46 d_V_pull_49
      · have n1 := b1_0 h18
        refine g_aload_n (pc := 21) (i := 2) C d_V_pull_21 rfl rfl ?_
        refine gf_Rep_journal (pc := 22) C (by omega) fl_V_51 d_V_pull_22 ?_
        rw [g.1.2.1]
        refine g_if_ne (pc := 25) (tgt := 42) C d_V_pull_25 (by decide) (fun h25 => ?_) (fun h25 => ?_)
        · skip
          exact g_throw (pc := 42) C hO hR tw_ISE (⟨c, rfl, hC⟩) (by decide) d_V_pull_42 d_V_pull_45 d_V_pull_46 d_V_pull_49
        · have n2 := b1_0 h25
          refine g_aload_n (pc := 28) (i := 3) C d_V_pull_28 rfl rfl ?_
          refine gf_Rep_down (pc := 29) C (by omega) fl_V_47 d_V_pull_29 ?_
          rw [o.1.2.2.2.1]
          refine g_if_ne (pc := 32) (tgt := 42) C d_V_pull_32 (by decide) (fun h32 => ?_) (fun h32 => ?_)
          · skip
            exact g_throw (pc := 42) C hO hR tw_ISE (⟨c, rfl, hC⟩) (by decide) d_V_pull_42 d_V_pull_45 d_V_pull_46 d_V_pull_49
          · have n3 := b1_0 h32
            refine g_aload_n (pc := 35) (i := 3) C d_V_pull_35 rfl rfl ?_
            refine gf_Rep_journal (pc := 36) C (by omega) fl_V_51 d_V_pull_36 ?_
            rw [o.1.2.1]
            refine g_if_eq (pc := 39) (tgt := 50) C d_V_pull_39 (by decide) (fun h39 => ?_) (fun h39 => ?_)
            · first | exact absurd h39 (fun e => b1_0 e (((h1.resolve_left n1).resolve_left n2).resolve_left n3)) | exact absurd (fun e => b1_0 e (((h1.resolve_left n1).resolve_left n2).resolve_left n3)) h39
            · skip
              exact g_throw (pc := 42) C hO hR tw_ISE (⟨c, rfl, hC⟩) (by decide) d_V_pull_42 d_V_pull_45 d_V_pull_46 d_V_pull_49
    · skip
      
      by_cases h3 : (pullV (V.2 q) (V.2 (1 - q))).1 = -4
      · skip
        rw [ePull2 hq h1 h3] at ho ⊢
        cases ho
        refine Tt.of hD (by decide) (Nat.le_of_ble_eq_true rfl) [(0, some (.ref (aVlt D))), (1, some (.int (nI q)))] rfl (fun X hX C hR => ?_)
        subst hX
        refine g_aload_n (pc := 0) (i := 0) C d_V_pull_0 rfl rfl ?_
        refine g_iload_n (pc := 1) (i := 1) C d_V_pull_1 rfl rfl ?_
        refine g_callV1 (pc := 2) (As := [_]) C my_V_repositoryAt mv_V_repositoryAt cl_V_43 is_V d_V_pull_2 (Nat.le_of_ble_eq_true rfl) rfl (Nat.le_of_ble_eq_true rfl) ⟨Nat.zero_le _, Nat.zero_le _⟩ (c_V_repositoryAt _ hD hq) ?_
        refine g_astore_n (pc := 5) (i := 2) C d_V_pull_5 rfl (by decide) rfl ?_
        refine g_aload_n (pc := 6) (i := 0) C d_V_pull_6 rfl rfl ?_
        refine g_iconst (pc := 7) C d_V_pull_7 ic_1 ?_
        refine g_iload_n (pc := 8) (i := 1) C d_V_pull_8 rfl rfl ?_
        refine g_isub (pc := 9) C d_V_pull_9 ?_
        rw [one_sub q hq]
        refine g_callV1 (pc := 10) (As := [_]) C my_V_repositoryAt mv_V_repositoryAt cl_V_43 is_V d_V_pull_10 (Nat.le_of_ble_eq_true rfl) rfl (Nat.le_of_ble_eq_true rfl) ⟨Nat.zero_le _, Nat.zero_le _⟩ (c_V_repositoryAt _ hD hq2) ?_
        refine g_astore_n (pc := 13) (i := 3) C d_V_pull_13 rfl (by decide) rfl ?_
        refine g_aload_n (pc := 14) (i := 2) C d_V_pull_14 rfl rfl ?_
        refine gf_Rep_down (pc := 15) C (by omega) fl_V_47 d_V_pull_15 ?_
        rw [g.1.2.2.2.1]
        refine g_if_ne (pc := 18) (tgt := 42) C d_V_pull_18 (by decide) (fun h18 => ?_) (fun h18 => ?_)
        · first | exact absurd h18 (b1_f (fun e => h1 (Or.inl e))) | exact absurd (b1_f (fun e => h1 (Or.inl e))) h18
        · skip
          refine g_aload_n (pc := 21) (i := 2) C d_V_pull_21 rfl rfl ?_
          refine gf_Rep_journal (pc := 22) C (by omega) fl_V_51 d_V_pull_22 ?_
          rw [g.1.2.1]
          refine g_if_ne (pc := 25) (tgt := 42) C d_V_pull_25 (by decide) (fun h25 => ?_) (fun h25 => ?_)
          · first | exact absurd h25 (b1_f (fun e => h1 (Or.inr (Or.inl e)))) | exact absurd (b1_f (fun e => h1 (Or.inr (Or.inl e)))) h25
          · skip
            refine g_aload_n (pc := 28) (i := 3) C d_V_pull_28 rfl rfl ?_
            refine gf_Rep_down (pc := 29) C (by omega) fl_V_47 d_V_pull_29 ?_
            rw [o.1.2.2.2.1]
            refine g_if_ne (pc := 32) (tgt := 42) C d_V_pull_32 (by decide) (fun h32 => ?_) (fun h32 => ?_)
            · first | exact absurd h32 (b1_f (fun e => h1 (Or.inr (Or.inr (Or.inl e))))) | exact absurd (b1_f (fun e => h1 (Or.inr (Or.inr (Or.inl e))))) h32
            · skip
              refine g_aload_n (pc := 35) (i := 3) C d_V_pull_35 rfl rfl ?_
              refine gf_Rep_journal (pc := 36) C (by omega) fl_V_51 d_V_pull_36 ?_
              rw [o.1.2.1]
              refine g_if_eq (pc := 39) (tgt := 50) C d_V_pull_39 (by decide) (fun h39 => ?_) (fun h39 => ?_)
              · skip
                refine g_aload_n (pc := 50) (i := 2) C d_V_pull_50 rfl rfl ?_
                refine g_aload_n (pc := 51) (i := 3) C d_V_pull_51 rfl rfl ?_
                refine g_callVp (pc := 52) (As := [_]) C my_Rep_takeFrom mv_Rep_takeFrom cl_V_97 (is_Rep (by omega)) d_V_pull_52 (Nat.le_of_ble_eq_true rfl) rfl (Nat.le_of_ble_eq_true rfl) ⟨Nat.zero_le _, Nat.zero_le _⟩ (x_Rep_takeFrom _ hD hq hq2 (by omega) g o hC.1 hC.2.2.2 wf wo (dfalse fun e => h1 (Or.inl e)) (by simpa using fun e => h1 (Or.inr (Or.inl e))) (dfalse fun e => h1 (Or.inr (Or.inr (Or.inl e))))) (fun r52 u52 hp52 => ?_)
                obtain ⟨c2, rfl, rfl, gr, go, kb, ks⟩ := hp52
                have hv := (pull_all wf wo (dfalse fun e => h1 (Or.inl e))).2
                refine g_istore (pc := 55) C d_V_pull_55 (by decide) rfl ?_
                refine g_iload (pc := 57) C d_V_pull_57 rfl ?_
                refine g_bipush (pc := 59) C d_V_pull_59 bp_m3 ?_
                refine g_icmp_ne (pc := 61) (tgt := 72) C d_V_pull_61 (by decide) (fun h61 => ?_) (fun h61 => ?_)
                · first | exact absurd h61 ((stI_4 hv).mpr h3) | exact absurd ((stI_4 hv).mpr h3) h61
                · skip
                  exact g_throw (pc := 64) C hO hR tw_UOE (⟨c2, rfl, CAbs.two hq kb gr go ks⟩) (by decide) d_V_pull_64 d_V_pull_67 d_V_pull_68 d_V_pull_71
              · first | exact absurd h39 (b1_f (fun e => h1 (Or.inr (Or.inr (Or.inr e))))) | exact absurd (b1_f (fun e => h1 (Or.inr (Or.inr (Or.inr e))))) h39
      · skip
        rw [ePull3 hq h1 h3] at ho
        cases ho
  · skip
    rw [ePull0 h0] at ho ⊢
    cases ho
    refine Tt.of hD (by decide) (Nat.le_of_ble_eq_true rfl) [(0, some (.ref (aVlt D))), (1, some (.int r))] rfl (fun X hX C hR => ?_)
    subst hX
    refine g_aload_n (pc := 0) (i := 0) C d_V_pull_0 rfl rfl ?_
    refine g_iload_n (pc := 1) (i := 1) C d_V_pull_1 rfl rfl ?_
    exact g_callVt (pc := 2) (As := [_]) C hR my_V_repositoryAt mv_V_repositoryAt ml_V_43 is_V d_V_pull_2 (Nat.le_of_ble_eq_true rfl) rfl (Nat.le_of_ble_eq_true rfl) (t_V_repositoryAt _ hD hO h0 |> Tt.to (fun u e => ⟨c, e, hC⟩))
end
section
/-! CATCHING: the handlers' classes are not resolved yet -/
section GK
variable {e : Env} {f : JFrame} {a : Addr}
theorem go_cold {Q : Handler → Pre} {E : CtlPost} {d : Bool} {acts : List Action} {x : ExceptionTableEntry} {t : List ExceptionTableEntry} {s : State} {vm' : Vm} {c : ClassId} {cell : Cell} (hx : covers x f.pc = true) (h0 : x.catchType ≠ 0) (hg : (Jvm.resolveClass f.method.cls x.catchType).Gives e.toSetting s.vm (.ok c) vm') (hsz : vm'.classes.size ≤ s.vm.classes.size) (hcell : s.heap[a]? = some cell) (hobj : ∀ k, cell.vm ≠ .statics k) (hk : ∃ k, vm'.classes[cell.cls]? = some k) (hc : ∃ k, vm'.classes[c]? = some k) :
    wp (findHandler.go f a (x :: t)) Q E e d acts s ↔ if vm'.assignable cell.cls c = true then Q (.found x.handlerPc) d acts (s.setVm vm') else wp (findHandler.go f a t) Q E e d acts (s.setVm vm') := by
  simp only [covers] at hx
  obtain ⟨ha, ht⟩ := hg.op (op := VmOp.resolveClass f.method.cls x.catchType) rfl
  cases hfit : vm'.assignable cell.cls c <;> simp [findHandler.go, hx, h0, ha, ht, hsz, hcell, hobj, hk, hc, hfit, VmOp.dirties, VmOp.acts]
def asg (s0 : State) (cell : Cell) (n : String) (b : Bool) : Prop := ∀ c, s0.vm.findClass n = some c → s0.vm.assignable cell.cls c = b
def Hit (s0 : State) (own : String) (args : Array Value) (p : Nat) (cell : Cell) : List (Nat × Nat × Nat × Nat) → List String → Nat → Prop
  | h :: hs, n :: ns, pc => (h.1 ≤ p ∧ p < h.2.1 ∧ h.2.2.2 ≠ 0 ∧ (Cond.classLink own h.2.2.2 n).before args s0 = true) ∧ ((asg s0 cell n true ∧ pc = h.2.2.1) ∨ (asg s0 cell n false ∧ Hit s0 own args p cell hs ns pc))
  | _, _, _ => False
theorem find_cold {s0 : State} {own : String} {args : Array Value} {cell : Cell} (hpl : e.platform.magicAccessors = ({} : Platform).magicAccessors) (hown : s0.vm.findClass own = some f.method.cls) (hobj : ∀ k, cell.vm ≠ .statics k) (hk : ∃ k, s0.vm.classes[cell.cls]? = some k) :
    ∀ (hs : List (Nat × Nat × Nat × Nat)) (es : List ExceptionTableEntry) (ns : List String) (pc : Nat) (s : State), es.map (fun h => (h.startPc, h.endPc, h.handlerPc, h.catchType)) = hs → s0.WarmedH s.vm → s.heap[a]? = some cell →
      Hit s0 own args f.pc cell hs ns pc → ∃ vm', s0.WarmedH vm' ∧ ∀ (Q : Handler → Pre) (E : CtlPost) (d : Bool) (acts : List Action), wp (findHandler.go f a es) Q E e d acts s ↔ Q (.found pc) d acts (s.setVm vm') := by
  intro hs
  induction hs with
  | nil => intro es ns pc s he hW hc h; cases ns <;> exact h.elim
  | cons h hs ih =>
    intro es ns pc s he hW hcell hh
    cases es with
    | nil => cases he
    | cons x es =>
      cases ns with
      | nil => exact hh.elim
      | cons n ns =>
        rw [List.map_cons, List.cons.injEq] at he
        obtain ⟨rfl, he⟩ := he
        obtain ⟨⟨h1, h2, h3, h4⟩, h5⟩ := hh
        obtain ⟨c, hcn, hl⟩ := Cond.classLink_spec hown h4 e.platform hpl
        obtain ⟨hg, hW', -⟩ := State.classEntry (e := e) hW hl
        obtain ⟨dk, _, _, ck, hd, _, _, _, _, hck, _, _⟩ := hl.here
        obtain ⟨kk, hkk⟩ := hk
        obtain ⟨kk', hkk', -⟩ := hW'.alike.2.2 _ _ hkk
        obtain ⟨ck', hck', -⟩ := hW'.alike.2.2 _ _ hck
        have hx : covers x f.pc = true := by simp [covers]; exact ⟨h1, h2⟩
        have key : ∀ (Q : Handler → Pre) (E : CtlPost) (d : Bool) (acts : List Action), _ := fun Q E d acts => go_cold (Q := Q) (E := E) (d := d) (acts := acts) (t := es) (cell := cell) (a := a) hx h3 hg (Nat.le_of_eq (Vm.size_note _ _ _ _)) hcell hobj ⟨kk', hkk'⟩ ⟨ck', hck'⟩
        have has := hW'.alike.assignable cell.cls c
        rcases h5 with ⟨h5, rfl⟩ | ⟨h5, h6⟩
        · refine ⟨_, hW', fun Q E d acts => ?_⟩
          rw [key, has, h5 c hcn, if_pos rfl]
        · obtain ⟨vm2, hW2, hf⟩ := ih es ns pc (s.setVm (s.vm.noted f.method.cls x.catchType (.cls c))) he hW' hcell h6
          refine ⟨vm2, hW2, fun Q E d acts => ?_⟩
          rw [key, has, h5 c hcn, if_neg (by decide), hf]
          rfl
theorem step_cold {s : State} {r : List Frame} {pc : Nat} {vm' : Vm} (hfind : ∀ (Q : Handler → Pre) (E : CtlPost) (d : Bool) (acts : List Action), wp (findHandler f a) Q E e d acts s ↔ Q (.found pc) d acts (s.setVm vm')) :
    (stepThrowing e s a (.java f :: r)).Is ((s.setVm vm').setFrames (.java { f with pc := pc, stack := [.ref a] } :: r)) [] := by
  simp only [stepThrowing, searchFrame, vmDo]
  generalize hr : Sem.go _ e false [] s = res
  obtain ⟨as, rfl, ha⟩ := Sem.eq_ok_of hr (a := Handler.found pc) (s' := s.setVm vm') (acts' := []) (by simp [hfind _ _ _ _])
  exact ⟨rfl, ha⟩
theorem caught_cold {tb : Tables} {s target : State} {g : JFrame} {c : Code} {below : List Frame} (h : At s g.method c below) {pc : Nat} {vm' : Vm} (hfind : ∀ (Q : Handler → Pre) (E : CtlPost) (d : Bool) (acts : List Action), wp (findHandler g a) Q E e d acts ((s.setTop g).pushFrame (.throwing a)) ↔ Q (.found pc) d acts (((s.setTop g).pushFrame (.throwing a)).setVm vm'))
    (hrest : Steps tb e below ((s.setVm vm').setTop { g with pc := pc, stack := [.ref a] }) target) : Steps tb e below ((s.setTop g).pushFrame (.throwing a)) target := by
  obtain ⟨hgo, hw⟩ := h.throwing a
  refine Steps.head hgo hw ?_
  rw [stepThread_throwing (frames_entered h.top _), (step_cold (s := (s.setTop g).pushFrame (.throwing a)) hfind).1]
  obtain ⟨g₀, hg⟩ := Option.isSome_iff_exists.mp h.top
  obtain ⟨r, hr⟩ := State.topJava?_eq_some.mp hg
  have hr' : (s.setVm vm').frames = .java g₀ :: r := hr
  rw [State.setTop_of_frames _ hr'] at hrest
  have e1 : (((s.setTop g).pushFrame (.throwing a)).setVm vm').setFrames (.java { g with pc := pc, stack := [.ref a] } :: s.frames.tail) = (s.setVm vm').setFrames (.java { g with pc := pc, stack := [.ref a] } :: r) := by
    rw [State.pushFrame, State.setTop_of_frames _ hr, State.setFrames_setFrames, hr]
    show ((s.setFrames _).setVm vm').setFrames _ = _
    rw [show (s.setFrames (.throwing a :: (s.setFrames (.java g :: r)).frames)).setVm vm' = (s.setVm vm').setFrames (.throwing a :: (s.setFrames (.java g :: r)).frames) from rfl, State.setFrames_setFrames]
    rfl
  rw [e1]
  exact hrest
end GK
/-- the thrown object's class, and the classes that the law's helpers catch -/
theorem nocast {l : Launch} {D : Dt} (hT : OkT l D) {A B : String} (hm : Cond.not (Cond.castable A B) ∈ flatC (Jvm.Cond.and given_1 narrow_1)) {s : State} (hW : D.2.2.2.WarmedH s.vm) {cell : Cell} (hc : D.2.2.2.vm.findClass A = some cell.cls) : asg s cell B false := by
  obtain ⟨-, a0, h0⟩ := hT
  have h := flat_of_before _ h0 _ hm
  intro c hcn
  have h2 : D.2.2.2.vm.findClass B = some c := by rw [← hW.alike.findClass B none]; exact hcn
  rw [hW.alike.assignable]
  simp only [Cond.before, Cond.holds, Cond.value, hc, h2] at h
  simpa using h
theorem docast {D : Dt} (hD : OkD D) {A : String} (hm : Cond.castable A A ∈ UNI) {s : State} (hW : D.2.2.2.WarmedH s.vm) {cell : Cell} (hc : D.2.2.2.vm.findClass A = some cell.cls) : asg s cell A true := by
  obtain ⟨c1, c2, h1, h2, h3⟩ := Cond.castable_spec (hD.ts hW #[] _ hm)
  have h4 : s.vm.findClass A = some cell.cls := by rw [hW.alike.findClass A none]; exact hc
  intro c hcn
  cases h1.symm.trans h4
  cases h2.symm.trans hcn
  exact h3
theorem ca_IOOBE : Cond.castable E_IOOBE E_IOOBE ∈ UNI := un 663 (by decide +kernel) (by decide +kernel)
theorem ca_ISE : Cond.castable E_ISE E_ISE ∈ UNI := un 684 (by decide +kernel) (by decide +kernel)
theorem ca_IAE : Cond.castable E_IAE E_IAE ∈ UNI := un 262 (by decide +kernel) (by decide +kernel)
theorem ca_UOE : Cond.castable E_UOE E_UOE ∈ UNI := un 779 (by decide +kernel) (by decide +kernel)
theorem nc_ISE_IOOBE : Cond.not (Cond.castable E_ISE E_IOOBE) ∈ flatC (Jvm.Cond.and given_1 narrow_1) := by decide +kernel
theorem nc_IAE_IOOBE : Cond.not (Cond.castable E_IAE E_IOOBE) ∈ flatC (Jvm.Cond.and given_1 narrow_1) := by decide +kernel
theorem nc_IAE_ISE : Cond.not (Cond.castable E_IAE E_ISE) ∈ flatC (Jvm.Cond.and given_1 narrow_1) := by decide +kernel
theorem nc_UOE_IOOBE : Cond.not (Cond.castable E_UOE E_IOOBE) ∈ flatC (Jvm.Cond.and given_1 narrow_1) := by decide +kernel
theorem nc_UOE_ISE : Cond.not (Cond.castable E_UOE E_ISE) ∈ flatC (Jvm.Cond.and given_1 narrow_1) := by decide +kernel
theorem nc_UOE_IAE : Cond.not (Cond.castable E_UOE E_IAE) ∈ flatC (Jvm.Cond.and given_1 narrow_1) := by decide +kernel
theorem lc_IOOBE : Cond.classLink "RevisionVaultLaw" 13 E_IOOBE ∈ UNI := un 651 (by decide +kernel) (by decide +kernel)
theorem lc_ISE : Cond.classLink "RevisionVaultLaw" 15 E_ISE ∈ UNI := un 652 (by decide +kernel) (by decide +kernel)
theorem lc_IAE : Cond.classLink "RevisionVaultLaw" 21 E_IAE ∈ UNI := un 708 (by decide +kernel) (by decide +kernel)
theorem lc_UOE : Cond.classLink "RevisionVaultLaw" 23 E_UOE ∈ UNI := un 709 (by decide +kernel) (by decide +kernel)
end
section
/-! THE LAW'S HELPERS: methods with handlers -/
def R_L : String := "RevisionVaultLaw"
section GO
variable {X : Cx} {D : Dt} {Q : State → Prop} {z : Nat × Nat} {pc : Nat} {L : Lc} {st : List Value} {own : String} {cc : ByteArray} {nL d : Nat} {ret : Option FieldType} {c m : Cs} {ow : Nat → Int64} {σ : Sg}
theorem ga_out (C : Fx X D own cc nL d ret) {x : Int32} (hi : vp_in x 1) (hd : decode cc pc = .ok (.laload, 1)) (kk : G X D Q z ((c, m, ow) : Sg) (pc + 1) L (.long (ow x.toNatClampNeg) :: st)) : G X D Q z ((c, m, ow) : Sg) pc L (.int x :: .ref (aOut D) :: st) := g_lal C (t := 94) (by decide) ct_out hi hd kk
theorem gs_out (C : Fx X D own cc nL d ret) {x : Int32} {v : Int64} (hi : vp_in x 1) (hd : decode cc pc = .ok (.lastore, 1)) (kk : G X D Q z ((c, m, vp_updL ow x.toNatClampNeg v) : Sg) (pc + 1) L st) : G X D Q z ((c, m, ow) : Sg) pc L (.long v :: .int x :: .ref (aOut D) :: st) := g_las C (t := 94) (by decide) ct_out ct_out ct_oo hi hd kk
theorem g_wid (kk : G X D Q (1, 6) σ pc L st) : G X D Q (0, 0) σ pc L st := fun H locs ls hP hS hL => W.widen (Nat.zero_le _) (Nat.zero_le _) (kk H locs ls hP hS hL)
end GO
def Hc (l : Launch) (D : Dt) (y : MethodName) (bytes : ByteArray) (maxL : Nat) (hs : List (Nat × Nat × Nat × Nat)) (d : Nat) (RA : List Value) (σ : Sg) (post : Option Value → Sg → Prop) : Prop :=
  Met l y [.codeWith y bytes maxL (some .int) hs] (rmt d) (fun v U => v = RA.reverse.toArray ∧ Wd D σ U) (Qk D post) 1 6 (Ab D)
def Qh (X : Cx) (D : Dt) (post : Option Value → Sg → Prop) : State → Prop := MQ X.2.2.2.2.2.2.2.1 (Qk D post) X.2.2.2.2.2.2.1 X.2.2.2.2.1 1 6 (Ab D)
def Rh (X : Cx) (hs : List (Nat × Nat × Nat × Nat)) : Prop := 1 ≤ X.2.2.2.1.cells ∧ 6 ≤ X.2.2.2.1.slots ∧ X.2.2.2.2.2.2.2.2.2.exceptionTable.toList.map (fun h => (h.startPc, h.endPc, h.handlerPc, h.catchType)) = hs
theorem Hc.of {l : Launch} {D : Dt} {y : MethodName} {bytes : ByteArray} {maxL : Nat} {hs : List (Nat × Nat × Nat × Nat)} {d : Nat} {RA : List Value} {σ : Sg} {post : Option Value → Sg → Prop} (hD : OkD D) (hy : plainName y.cls = true) (hn : (lg_sl RA.reverse).length ≤ maxL) (L : Lc) (hL : la 0 RA.reverse = L)
    (body : ∀ X : Cx, X.2.1 = l → Fx X D y.cls bytes maxL d (some .int) → Rh X hs → G X D (Qh X D post) (0, 0) σ 0 L []) : Hc l D y bytes maxL hs d RA σ post := by
  unfold Hc Met
  refine MetFree.of_bodyS (code := bytes) (maxLocals := maxL) (ret := some .int) hy ?_ ?_
  · intro args s m h hn
    obtain ⟨m', meth, c, h0, h1, h2, h3, h4, -, h5, h6, -⟩ := Cond.codeWith_spec (atoms_spec (ws := [.codeWith y bytes maxL (some .int) hs]) h _ List.mem_cons_self)
    cases hn.symm.trans h0
    exact ⟨meth, c, h1, h2, h3, h4, h5, h6⟩
  · intro p e s m args below meth c s₁ B hml hv _
    obtain ⟨rfl, hW⟩ := hv
    have hh0 : s₁.heap = s.heap := by rw [B.state]; rfl
    have hl := lv_entry RA.reverse (n := maxL) hn
    obtain ⟨m', meth', c', h0, h1, h2, -, -, hes, -, -, -⟩ := Cond.codeWith_spec (atoms_spec (ws := [.codeWith y bytes maxL (some .int) hs]) B.pre _ List.mem_cons_self)
    cases B.named.symm.trans h0
    cases B.method.symm.trans h1
    cases (Stand.of_body B).code.symm.trans h2
    have K := body (p, l, e, (headSpec [.codeWith y bytes maxL (some .int) hs] (rmt d)).room, s, m, RA.reverse.toArray, below, meth, c) rfl ⟨B.exec, B.bytes, findClass_of_methodNamed B.named, hW.2.1, hD, ⟨Nat.le_refl _, Nat.le_refl _⟩, B.returns, B.notSynchronized, hml, hW.2.2.1, hW.2.2.2⟩ ⟨Nat.le_refl _, Nat.le_refl _, hes⟩ s.heap [] _ hW.1 va_S.rf ⟨by show _ = c.maxLocals; rw [hml]; exact hl.1, hl.2.1, fun i v hv => ?_⟩
    · rw [← lg_entry_eq] at K
      obtain ⟨t, a1, o, b1, b2, b3⟩ := K s₁ hh0 (Stand.of_body B)
      exact ⟨t, o, a1, b1, b2, b3⟩
    · rw [← hL] at hv
      have key : ∀ (q : List (Nat × Value)) (i : Nat) (v : Value), lk (q.map (fun q => (q.1, some q.2))) i = some v → (i, v) ∈ q := by
        intro q
        induction q with
        | nil => intro i v h; cases h
        | cons a q ih =>
          intro i v h
          rw [List.map_cons, lk_cons] at h
          split at h
          · rename_i e
            cases h
            subst e
            exact List.mem_cons_self
          · exact List.mem_cons_of_mem _ (ih i v h)
      exact hl.2.2 (i, v) (key _ i v hv)
section GV
variable {X : Cx} {D : Dt} {Q : State → Prop} {σ : Sg} {post : Sg → Prop} {pc : Nat} {L : Lc} {own E : String} {cc : ByteArray} {nL d d2 index n maxL : Nat} {ret rty : Option FieldType} {y : MethodName} {bytes : ByteArray} {As rest : List Value} {b : Nat} {hs : List (Nat × Nat × Nat × Nat)}
theorem g_ireth {post : Option Value → Sg → Prop} (C : Fx X D own cc nL d (some .int)) {v : Int32} (hd : decode cc pc = .ok (.ireturn, 1)) (hp : post (some (.int v)) σ) : G X D (Qh X D post) (1, 6) σ pc L [.int v] := fun H locs ls hP hS hL => W.iret C.ex C.bt C.rt (C.done hP hS hp) hS.2.2 hd C.lo
set_option maxHeartbeats 4000000 in
/-- a call that threw, and is caught at hpc -/
theorem g_callVc (C : Fx X D own cc nL d ret) (hR : Rh X hs) (hm : My y bytes maxL rty n) (hv : MV y) (hl : Cond.methodLink own index y ∈ UNI) (hb : IsC D b y.cls) (hd : decode cc pc = .ok (.invokevirtual index, 3)) (hd2 : d2 + 1 ≤ d) (hn : As.length = n) (hr : (rest.map fun v => v.category).sum ≤ 8)
    (hc : Tt X.2.1 D y bytes maxL rty d2 (As ++ [.ref b]) σ E post) (hE : Cond.instantiable E 6 ∈ UNI) {ns : List String} {hpc : Nat} (hit : ∀ cell : Cell, D.2.2.2.vm.findClass E = some cell.cls → Hit X.2.2.2.2.1 own X.2.2.2.2.2.2.1 pc cell hs ns hpc)
    (kk : ∀ x u, post u → G X D Q (1, 6) u hpc L [.ref x]) : G X D Q (0, 0) σ pc L (As ++ .ref b :: rest) := by
  intro H locs ls hP hS hL T hT X0
  obtain ⟨x, T', ⟨Lx, X', ⟨cell, hcell, hvm, hcls⟩, ⟨u, hpo, hWd⟩, hF, hLx⟩, hst⟩ := cx_vt C hm hv hl hb hd hd2 hn hr (z := (0, 0)) ⟨hR.1, hR.2.1⟩ hc hP hS hL hT X0
  have hpl : X.2.2.1.platform.magicAccessors = ({} : Platform).magicAccessors := by rw [X0.admits.platform]
  obtain ⟨c1, kX, hf1, hk1, -, -, -, -⟩ := Cond.instantiable_spec (C.ts _ hE)
  have hk : ∃ k, X.2.2.2.2.1.vm.classes[cell.cls]? = some k := by
    have h1 : X.2.2.2.2.1.vm.findClass E = some cell.cls := by rw [C.wa.alike.findClass E none]; exact hcls
    cases h1.symm.trans hf1
    exact ⟨kX, hk1⟩
  have hv1 : ((T'.setTop (F0 X.2.2.2.2.2.1 pc ls rest)).pushFrame (.throwing x)).vm = T'.vm := throwing_vm T' _ x
  have hh1 : ((T'.setTop (F0 X.2.2.2.2.2.1 pc ls rest)).pushFrame (.throwing x)).heap = T'.heap := throwing_heap T' _ x
  obtain ⟨vm', hW', hfind⟩ := find_cold (e := X.2.2.1) (f := F0 X.2.2.2.2.2.1 pc ls rest) (a := x) (s0 := X.2.2.2.2.1) (own := own) (args := X.2.2.2.2.2.2.1) (cell := cell) hpl C.ow (fun k h => by rw [hvm] at h; cases h) hk hs X.2.2.2.2.2.2.2.2.2.exceptionTable.toList ns hpc
    ((T'.setTop (F0 X.2.2.2.2.2.1 pc ls rest)).pushFrame (.throwing x)) hR.2.2 (by rw [hv1]; exact X'.warmed) (by rw [hh1]; exact hcell) (hit cell hcls)
  obtain ⟨t, a1, b1⟩ := kk x u hpo T'.heap (locs ++ Lx) ls hWd.1 ⟨Nat.le_trans hS.1 hF.1, fun q q1 q2 => (hF.2 q (Nat.lt_of_lt_of_le q1 hS.1) q2).trans (hS.2.1 q q1 q2), fun q hq => (List.mem_append.mp hq).elim (hS.2.2 q) (hLx q)⟩ hL (T'.setVm vm') rfl (X'.noted hW')
  refine ⟨t, hst.trans (caught_cold (e := X.2.2.1) (g := F0 X.2.2.2.2.2.1 pc ls rest) X'.here (fun Q E d acts => ?_) a1), b1⟩
  exact (W.findHandler_eq (by rw [hv1]; exact X'.method') X'.code).trans (hfind Q E d acts)
end GV
end
