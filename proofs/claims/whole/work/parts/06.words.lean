theorem in_V : ∀ w ∈ u_ws R_V F_V 2, w ∈ UNI := by
  show ∀ w ∈ [u_lay R_V F_V 0, u_lay R_V F_V 1], w ∈ UNI
  exact List.forall_mem_cons.mpr ⟨un 143 (by decide +kernel) (by decide +kernel), List.forall_mem_cons.mpr ⟨un 145 (by decide +kernel) (by decide +kernel), fun _ h => absurd h List.not_mem_nil⟩⟩
theorem in_Row : ∀ w ∈ u_ws R_Row F_Row 2, w ∈ UNI := by
  show ∀ w ∈ [u_lay R_Row F_Row 0, u_lay R_Row F_Row 1], w ∈ UNI
  exact List.forall_mem_cons.mpr ⟨un 45 (by decide +kernel) (by decide +kernel), List.forall_mem_cons.mpr ⟨un 47 (by decide +kernel) (by decide +kernel), fun _ h => absurd h List.not_mem_nil⟩⟩
theorem in_Rep : ∀ w ∈ u_ws R_Rep F_Rep 12, w ∈ UNI := by
  show ∀ w ∈ [u_lay R_Rep F_Rep 0, u_lay R_Rep F_Rep 1, u_lay R_Rep F_Rep 2, u_lay R_Rep F_Rep 3, u_lay R_Rep F_Rep 4, u_lay R_Rep F_Rep 5, u_lay R_Rep F_Rep 6, u_lay R_Rep F_Rep 7, u_lay R_Rep F_Rep 8, u_lay R_Rep F_Rep 9, u_lay R_Rep F_Rep 10, u_lay R_Rep F_Rep 11], w ∈ UNI
  exact List.forall_mem_cons.mpr ⟨un 116 (by decide +kernel) (by decide +kernel), List.forall_mem_cons.mpr ⟨un 118 (by decide +kernel) (by decide +kernel), List.forall_mem_cons.mpr ⟨un 120 (by decide +kernel) (by decide +kernel), List.forall_mem_cons.mpr ⟨un 122 (by decide +kernel) (by decide +kernel), List.forall_mem_cons.mpr ⟨un 124 (by decide +kernel) (by decide +kernel), List.forall_mem_cons.mpr ⟨un 126 (by decide +kernel) (by decide +kernel), List.forall_mem_cons.mpr ⟨un 128 (by decide +kernel) (by decide +kernel), List.forall_mem_cons.mpr ⟨un 130 (by decide +kernel) (by decide +kernel), List.forall_mem_cons.mpr ⟨un 132 (by decide +kernel) (by decide +kernel), List.forall_mem_cons.mpr ⟨un 134 (by decide +kernel) (by decide +kernel), List.forall_mem_cons.mpr ⟨un 136 (by decide +kernel) (by decide +kernel), List.forall_mem_cons.mpr ⟨un 138 (by decide +kernel) (by decide +kernel), fun _ h => absurd h List.not_mem_nil⟩⟩⟩⟩⟩⟩⟩⟩⟩⟩⟩⟩
theorem in_Rec : ∀ w ∈ u_ws R_Rec F_Rec 7, w ∈ UNI := by
  show ∀ w ∈ [u_lay R_Rec F_Rec 0, u_lay R_Rec F_Rec 1, u_lay R_Rec F_Rec 2, u_lay R_Rec F_Rec 3, u_lay R_Rec F_Rec 4, u_lay R_Rec F_Rec 5, u_lay R_Rec F_Rec 6], w ∈ UNI
  exact List.forall_mem_cons.mpr ⟨un 82 (by decide +kernel) (by decide +kernel), List.forall_mem_cons.mpr ⟨un 84 (by decide +kernel) (by decide +kernel), List.forall_mem_cons.mpr ⟨un 86 (by decide +kernel) (by decide +kernel), List.forall_mem_cons.mpr ⟨un 88 (by decide +kernel) (by decide +kernel), List.forall_mem_cons.mpr ⟨un 90 (by decide +kernel) (by decide +kernel), List.forall_mem_cons.mpr ⟨un 92 (by decide +kernel) (by decide +kernel), List.forall_mem_cons.mpr ⟨un 94 (by decide +kernel) (by decide +kernel), fun _ h => absurd h List.not_mem_nil⟩⟩⟩⟩⟩⟩⟩
theorem in_M : ∀ w ∈ u_ws R_M F_M 23, w ∈ UNI := by
  show ∀ w ∈ [u_lay R_M F_M 0, u_lay R_M F_M 1, u_lay R_M F_M 2, u_lay R_M F_M 3, u_lay R_M F_M 4, u_lay R_M F_M 5, u_lay R_M F_M 6, u_lay R_M F_M 7, u_lay R_M F_M 8, u_lay R_M F_M 9, u_lay R_M F_M 10, u_lay R_M F_M 11, u_lay R_M F_M 12, u_lay R_M F_M 13, u_lay R_M F_M 14, u_lay R_M F_M 15, u_lay R_M F_M 16, u_lay R_M F_M 17, u_lay R_M F_M 18, u_lay R_M F_M 19, u_lay R_M F_M 20, u_lay R_M F_M 21, u_lay R_M F_M 22], w ∈ UNI
  exact List.forall_mem_cons.mpr ⟨un 885 (by decide +kernel) (by decide +kernel), List.forall_mem_cons.mpr ⟨un 887 (by decide +kernel) (by decide +kernel), List.forall_mem_cons.mpr ⟨un 889 (by decide +kernel) (by decide +kernel), List.forall_mem_cons.mpr ⟨un 891 (by decide +kernel) (by decide +kernel), List.forall_mem_cons.mpr ⟨un 893 (by decide +kernel) (by decide +kernel), List.forall_mem_cons.mpr ⟨un 895 (by decide +kernel) (by decide +kernel), List.forall_mem_cons.mpr ⟨un 897 (by decide +kernel) (by decide +kernel), List.forall_mem_cons.mpr ⟨un 899 (by decide +kernel) (by decide +kernel), List.forall_mem_cons.mpr ⟨un 901 (by decide +kernel) (by decide +kernel), List.forall_mem_cons.mpr ⟨un 903 (by decide +kernel) (by decide +kernel), List.forall_mem_cons.mpr ⟨un 905 (by decide +kernel) (by decide +kernel), List.forall_mem_cons.mpr ⟨un 907 (by decide +kernel) (by decide +kernel), List.forall_mem_cons.mpr ⟨un 909 (by decide +kernel) (by decide +kernel), List.forall_mem_cons.mpr ⟨un 911 (by decide +kernel) (by decide +kernel), List.forall_mem_cons.mpr ⟨un 913 (by decide +kernel) (by decide +kernel), List.forall_mem_cons.mpr ⟨un 915 (by decide +kernel) (by decide +kernel), List.forall_mem_cons.mpr ⟨un 917 (by decide +kernel) (by decide +kernel), List.forall_mem_cons.mpr ⟨un 919 (by decide +kernel) (by decide +kernel), List.forall_mem_cons.mpr ⟨un 921 (by decide +kernel) (by decide +kernel), List.forall_mem_cons.mpr ⟨un 923 (by decide +kernel) (by decide +kernel), List.forall_mem_cons.mpr ⟨un 925 (by decide +kernel) (by decide +kernel), List.forall_mem_cons.mpr ⟨un 927 (by decide +kernel) (by decide +kernel), List.forall_mem_cons.mpr ⟨un 929 (by decide +kernel) (by decide +kernel), fun _ h => absurd h List.not_mem_nil⟩⟩⟩⟩⟩⟩⟩⟩⟩⟩⟩⟩⟩⟩⟩⟩⟩⟩⟩⟩⟩⟩⟩
theorem my_Cod_commonBeginning : My y_Cod_commonBeginning b_Cod_commonBeginning 4 (some .int) 2 := ⟨un 758 (by decide +kernel) (by decide +kernel), un 13 (by decide +kernel) (by decide +kernel), ⟨by decide, by decide⟩, by decide +kernel, by decide⟩
theorem ms_Cod_commonBeginning : MS y_Cod_commonBeginning := un 757 (by decide +kernel) (by decide +kernel)
theorem my_Cod_commonEnd : My y_Cod_commonEnd b_Cod_commonEnd 5 (some .int) 3 := ⟨un 762 (by decide +kernel) (by decide +kernel), un 13 (by decide +kernel) (by decide +kernel), ⟨by decide, by decide⟩, by decide +kernel, by decide⟩
theorem ms_Cod_commonEnd : MS y_Cod_commonEnd := un 761 (by decide +kernel) (by decide +kernel)
theorem my_Cod_readDifference : My y_Cod_readDifference b_Cod_readDifference 7 (some .boolean) 4 := ⟨un 591 (by decide +kernel) (by decide +kernel), un 13 (by decide +kernel) (by decide +kernel), ⟨by decide, by decide⟩, by decide +kernel, by decide⟩
theorem ms_Cod_readDifference : MS y_Cod_readDifference := un 590 (by decide +kernel) (by decide +kernel)
theorem my_Cod_readSnapshot : My y_Cod_readSnapshot b_Cod_readSnapshot 7 (some .boolean) 4 := ⟨un 241 (by decide +kernel) (by decide +kernel), un 13 (by decide +kernel) (by decide +kernel), ⟨by decide, by decide⟩, by decide +kernel, by decide⟩
theorem ms_Cod_readSnapshot : MS y_Cod_readSnapshot := un 240 (by decide +kernel) (by decide +kernel)
theorem my_Cod_writeDifference : My y_Cod_writeDifference b_Cod_writeDifference 6 none 3 := ⟨un 755 (by decide +kernel) (by decide +kernel), un 13 (by decide +kernel) (by decide +kernel), ⟨by decide, by decide⟩, by decide +kernel, by decide⟩
theorem ms_Cod_writeDifference : MS y_Cod_writeDifference := un 754 (by decide +kernel) (by decide +kernel)
theorem my_Cod_writePacked : My y_Cod_writePacked b_Cod_writePacked 4 none 2 := ⟨un 747 (by decide +kernel) (by decide +kernel), un 13 (by decide +kernel) (by decide +kernel), ⟨by decide, by decide⟩, by decide +kernel, by decide⟩
theorem ms_Cod_writePacked : MS y_Cod_writePacked := un 746 (by decide +kernel) (by decide +kernel)
theorem my_Cod_writeWhole : My y_Cod_writeWhole b_Cod_writeWhole 2 none 2 := ⟨un 742 (by decide +kernel) (by decide +kernel), un 13 (by decide +kernel) (by decide +kernel), ⟨by decide, by decide⟩, by decide +kernel, by decide⟩
theorem ms_Cod_writeWhole : MS y_Cod_writeWhole := un 741 (by decide +kernel) (by decide +kernel)
theorem my_JA_fill : My y_JA_fill b_JA_fill 5 none 4 := ⟨un 256 (by decide +kernel) (by decide +kernel), un 15 (by decide +kernel) (by decide +kernel), ⟨by decide, by decide⟩, by decide +kernel, by decide⟩
theorem ms_JA_fill : MS y_JA_fill := un 255 (by decide +kernel) (by decide +kernel)
theorem my_JA_rangeCheck : My y_JA_rangeCheck b_JA_rangeCheck 3 none 3 := ⟨un 259 (by decide +kernel) (by decide +kernel), un 15 (by decide +kernel) (by decide +kernel), ⟨by decide, by decide⟩, by decide +kernel, by decide⟩
theorem ms_JA_rangeCheck : MS y_JA_rangeCheck := un 258 (by decide +kernel) (by decide +kernel)
theorem my_JI_bitCount : My y_JI_bitCount b_JI_bitCount 1 (some .int) 1 := ⟨un 631 (by decide +kernel) (by decide +kernel), un 23 (by decide +kernel) (by decide +kernel), ⟨by decide, by decide⟩, by decide +kernel, by decide⟩
theorem ms_JI_bitCount : MS y_JI_bitCount := un 630 (by decide +kernel) (by decide +kernel)
theorem my_Rec_describe : My y_Rec_describe b_Rec_describe 6 none 4 := ⟨un 776 (by decide +kernel) (by decide +kernel), un 4 (by decide +kernel) (by decide +kernel), ⟨by decide, by decide⟩, by decide +kernel, by decide⟩
theorem mv_Rec_describe : MV y_Rec_describe := ⟨un 774 (by decide +kernel) (by decide +kernel), un 775 (by decide +kernel) (by decide +kernel)⟩
theorem my_Rec_field : My y_Rec_field b_Rec_field 2 (some .int) 1 := ⟨un 200 (by decide +kernel) (by decide +kernel), un 4 (by decide +kernel) (by decide +kernel), ⟨by decide, by decide⟩, by decide +kernel, by decide⟩
theorem mv_Rec_field : MV y_Rec_field := ⟨un 198 (by decide +kernel) (by decide +kernel), un 199 (by decide +kernel) (by decide +kernel)⟩
theorem my_Rec_init : My y_Rec_init b_Rec_init 1 none 0 := ⟨un 65 (by decide +kernel) (by decide +kernel), un 4 (by decide +kernel) (by decide +kernel), ⟨by decide, by decide⟩, by decide +kernel, by decide⟩
theorem my_Rec_placeChunk : My y_Rec_placeChunk b_Rec_placeChunk 4 none 3 := ⟨un 772 (by decide +kernel) (by decide +kernel), un 4 (by decide +kernel) (by decide +kernel), ⟨by decide, by decide⟩, by decide +kernel, by decide⟩
theorem mv_Rec_placeChunk : MV y_Rec_placeChunk := ⟨un 770 (by decide +kernel) (by decide +kernel), un 771 (by decide +kernel) (by decide +kernel)⟩
theorem my_Rep_ancestorsOf : My y_Rep_ancestorsOf b_Rep_ancestorsOf 4 (some .int) 1 := ⟨un 646 (by decide +kernel) (by decide +kernel), un 3 (by decide +kernel) (by decide +kernel), ⟨by decide, by decide⟩, by decide +kernel, by decide⟩
theorem mv_Rep_ancestorsOf : MV y_Rep_ancestorsOf := ⟨un 645 (by decide +kernel) (by decide +kernel), unS (q := (y_Rep_ancestorsOf, 12)) 5 (by decide +kernel) (by decide +kernel)⟩
theorem my_Rep_build : My y_Rep_build b_Rep_build 7 (some .boolean) 1 := ⟨un 237 (by decide +kernel) (by decide +kernel), un 3 (by decide +kernel) (by decide +kernel), ⟨by decide, by decide⟩, by decide +kernel, by decide⟩
theorem mv_Rep_build : MV y_Rep_build := ⟨un 235 (by decide +kernel) (by decide +kernel), un 236 (by decide +kernel) (by decide +kernel)⟩
theorem my_Rep_canBeParent : My y_Rep_canBeParent b_Rep_canBeParent 2 (some .boolean) 1 := ⟨un 721 (by decide +kernel) (by decide +kernel), un 3 (by decide +kernel) (by decide +kernel), ⟨by decide, by decide⟩, by decide +kernel, by decide⟩
theorem mv_Rep_canBeParent : MV y_Rep_canBeParent := ⟨un 719 (by decide +kernel) (by decide +kernel), un 720 (by decide +kernel) (by decide +kernel)⟩
theorem my_Rep_chainFits : My y_Rep_chainFits b_Rep_chainFits 6 (some .boolean) 2 := ⟨un 766 (by decide +kernel) (by decide +kernel), un 3 (by decide +kernel) (by decide +kernel), ⟨by decide, by decide⟩, by decide +kernel, by decide⟩
theorem mv_Rep_chainFits : MV y_Rep_chainFits := ⟨un 765 (by decide +kernel) (by decide +kernel), unS (q := (y_Rep_chainFits, 12)) 11 (by decide +kernel) (by decide +kernel)⟩
theorem my_Rep_chooseChunk : My y_Rep_chooseChunk b_Rep_chooseChunk 7 (some .int) 3 := ⟨un 739 (by decide +kernel) (by decide +kernel), un 3 (by decide +kernel) (by decide +kernel), ⟨by decide, by decide⟩, by decide +kernel, by decide⟩
theorem mv_Rep_chooseChunk : MV y_Rep_chooseChunk := ⟨un 738 (by decide +kernel) (by decide +kernel), unS (q := (y_Rep_chooseChunk, 12)) 10 (by decide +kernel) (by decide +kernel)⟩
theorem my_Rep_comeUp : My y_Rep_comeUp b_Rep_comeUp 2 (some .int) 1 := ⟨un 825 (by decide +kernel) (by decide +kernel), un 3 (by decide +kernel) (by decide +kernel), ⟨by decide, by decide⟩, by decide +kernel, by decide⟩
theorem mv_Rep_comeUp : MV y_Rep_comeUp := ⟨un 823 (by decide +kernel) (by decide +kernel), un 824 (by decide +kernel) (by decide +kernel)⟩
theorem my_Rep_countHeads : My y_Rep_countHeads b_Rep_countHeads 3 (some .int) 0 := ⟨un 624 (by decide +kernel) (by decide +kernel), un 3 (by decide +kernel) (by decide +kernel), ⟨by decide, by decide⟩, by decide +kernel, by decide⟩
theorem mv_Rep_countHeads : MV y_Rep_countHeads := ⟨un 622 (by decide +kernel) (by decide +kernel), un 623 (by decide +kernel) (by decide +kernel)⟩
theorem my_Rep_countWrong : My y_Rep_countWrong b_Rep_countWrong 3 (some .int) 0 := ⟨un 233 (by decide +kernel) (by decide +kernel), un 3 (by decide +kernel) (by decide +kernel), ⟨by decide, by decide⟩, by decide +kernel, by decide⟩
theorem mv_Rep_countWrong : MV y_Rep_countWrong := ⟨un 231 (by decide +kernel) (by decide +kernel), un 232 (by decide +kernel) (by decide +kernel)⟩
theorem my_Rep_find : My y_Rep_find b_Rep_find 4 (some .int) 1 := ⟨un 735 (by decide +kernel) (by decide +kernel), un 3 (by decide +kernel) (by decide +kernel), ⟨by decide, by decide⟩, by decide +kernel, by decide⟩
theorem mv_Rep_find : MV y_Rep_find := ⟨un 734 (by decide +kernel) (by decide +kernel), unS (q := (y_Rep_find, 12)) 9 (by decide +kernel) (by decide +kernel)⟩
theorem my_Rep_greatestCommonAncestor : My y_Rep_greatestCommonAncestor b_Rep_greatestCommonAncestor 5 (some .int) 2 := ⟨un 642 (by decide +kernel) (by decide +kernel), un 3 (by decide +kernel) (by decide +kernel), ⟨by decide, by decide⟩, by decide +kernel, by decide⟩
theorem mv_Rep_greatestCommonAncestor : MV y_Rep_greatestCommonAncestor := ⟨un 640 (by decide +kernel) (by decide +kernel), un 641 (by decide +kernel) (by decide +kernel)⟩
theorem my_Rep_hasRevision : My y_Rep_hasRevision b_Rep_hasRevision 2 (some .boolean) 1 := ⟨un 196 (by decide +kernel) (by decide +kernel), un 3 (by decide +kernel) (by decide +kernel), ⟨by decide, by decide⟩, by decide +kernel, by decide⟩
theorem mv_Rep_hasRevision : MV y_Rep_hasRevision := ⟨un 194 (by decide +kernel) (by decide +kernel), un 195 (by decide +kernel) (by decide +kernel)⟩
theorem my_Rep_init : My y_Rep_init b_Rep_init 2 none 0 := ⟨un 56 (by decide +kernel) (by decide +kernel), un 3 (by decide +kernel) (by decide +kernel), ⟨by decide, by decide⟩, by decide +kernel, by decide⟩
theorem my_Rep_mayWrite : My y_Rep_mayWrite b_Rep_mayWrite 1 (some .boolean) 0 := ⟨un 704 (by decide +kernel) (by decide +kernel), un 3 (by decide +kernel) (by decide +kernel), ⟨by decide, by decide⟩, by decide +kernel, by decide⟩
theorem mv_Rep_mayWrite : MV y_Rep_mayWrite := ⟨un 703 (by decide +kernel) (by decide +kernel), unS (q := (y_Rep_mayWrite, 12)) 7 (by decide +kernel) (by decide +kernel)⟩
theorem my_Rep_mixLong : My y_Rep_mixLong b_Rep_mixLong 7 (some .long) 2 := ⟨un 610 (by decide +kernel) (by decide +kernel), un 3 (by decide +kernel) (by decide +kernel), ⟨by decide, by decide⟩, by decide +kernel, by decide⟩
theorem ms_Rep_mixLong : MS y_Rep_mixLong := un 609 (by decide +kernel) (by decide +kernel)
theorem my_Rep_nodeOf : My y_Rep_nodeOf b_Rep_nodeOf 11 (some .long) 3 := ⟨un 599 (by decide +kernel) (by decide +kernel), un 3 (by decide +kernel) (by decide +kernel), ⟨by decide, by decide⟩, by decide +kernel, by decide⟩
theorem mv_Rep_nodeOf : MV y_Rep_nodeOf := ⟨un 598 (by decide +kernel) (by decide +kernel), unS (q := (y_Rep_nodeOf, 12)) 2 (by decide +kernel) (by decide +kernel)⟩
theorem my_Rep_nodeOrZero : My y_Rep_nodeOrZero b_Rep_nodeOrZero 2 (some .long) 1 := ⟨un 603 (by decide +kernel) (by decide +kernel), un 3 (by decide +kernel) (by decide +kernel), ⟨by decide, by decide⟩, by decide +kernel, by decide⟩
theorem mv_Rep_nodeOrZero : MV y_Rep_nodeOrZero := ⟨un 602 (by decide +kernel) (by decide +kernel), unS (q := (y_Rep_nodeOrZero, 12)) 3 (by decide +kernel) (by decide +kernel)⟩
theorem my_Rep_openJournal : My y_Rep_openJournal b_Rep_openJournal 1 (some .boolean) 0 := ⟨un 700 (by decide +kernel) (by decide +kernel), un 3 (by decide +kernel) (by decide +kernel), ⟨by decide, by decide⟩, by decide +kernel, by decide⟩
theorem mv_Rep_openJournal : MV y_Rep_openJournal := ⟨un 698 (by decide +kernel) (by decide +kernel), un 699 (by decide +kernel) (by decide +kernel)⟩
theorem my_Rep_parentsOf : My y_Rep_parentsOf b_Rep_parentsOf 5 (some .int) 1 := ⟨un 628 (by decide +kernel) (by decide +kernel), un 3 (by decide +kernel) (by decide +kernel), ⟨by decide, by decide⟩, by decide +kernel, by decide⟩
theorem mv_Rep_parentsOf : MV y_Rep_parentsOf := ⟨un 627 (by decide +kernel) (by decide +kernel), unS (q := (y_Rep_parentsOf, 12)) 4 (by decide +kernel) (by decide +kernel)⟩
theorem my_Rep_removeJournal : My y_Rep_removeJournal b_Rep_removeJournal 1 (some .boolean) 0 := ⟨un 802 (by decide +kernel) (by decide +kernel), un 3 (by decide +kernel) (by decide +kernel), ⟨by decide, by decide⟩, by decide +kernel, by decide⟩
theorem mv_Rep_removeJournal : MV y_Rep_removeJournal := ⟨un 800 (by decide +kernel) (by decide +kernel), un 801 (by decide +kernel) (by decide +kernel)⟩
theorem my_Rep_rollBack : My y_Rep_rollBack b_Rep_rollBack 2 (some .int) 0 := ⟨un 813 (by decide +kernel) (by decide +kernel), un 3 (by decide +kernel) (by decide +kernel), ⟨by decide, by decide⟩, by decide +kernel, by decide⟩
theorem mv_Rep_rollBack : MV y_Rep_rollBack := ⟨un 811 (by decide +kernel) (by decide +kernel), un 812 (by decide +kernel) (by decide +kernel)⟩
theorem my_Rep_store : My y_Rep_store b_Rep_store 9 (some .int) 3 := ⟨un 731 (by decide +kernel) (by decide +kernel), un 3 (by decide +kernel) (by decide +kernel), ⟨by decide, by decide⟩, by decide +kernel, by decide⟩
theorem mv_Rep_store : MV y_Rep_store := ⟨un 729 (by decide +kernel) (by decide +kernel), un 730 (by decide +kernel) (by decide +kernel)⟩
theorem my_Rep_takeFrom : My y_Rep_takeFrom b_Rep_takeFrom 6 (some .int) 1 := ⟨un 837 (by decide +kernel) (by decide +kernel), un 3 (by decide +kernel) (by decide +kernel), ⟨by decide, by decide⟩, by decide +kernel, by decide⟩
theorem mv_Rep_takeFrom : MV y_Rep_takeFrom := ⟨un 835 (by decide +kernel) (by decide +kernel), un 836 (by decide +kernel) (by decide +kernel)⟩
theorem my_Rep_twinOf : My y_Rep_twinOf b_Rep_twinOf 3 (some .int) 2 := ⟨un 842 (by decide +kernel) (by decide +kernel), un 3 (by decide +kernel) (by decide +kernel), ⟨by decide, by decide⟩, by decide +kernel, by decide⟩
theorem mv_Rep_twinOf : MV y_Rep_twinOf := ⟨un 841 (by decide +kernel) (by decide +kernel), unS (q := (y_Rep_twinOf, 12)) 12 (by decide +kernel) (by decide +kernel)⟩
theorem my_Rep_undo : My y_Rep_undo b_Rep_undo 2 none 1 := ⟨un 847 (by decide +kernel) (by decide +kernel), un 3 (by decide +kernel) (by decide +kernel), ⟨by decide, by decide⟩, by decide +kernel, by decide⟩
theorem mv_Rep_undo : MV y_Rep_undo := ⟨un 846 (by decide +kernel) (by decide +kernel), unS (q := (y_Rep_undo, 12)) 13 (by decide +kernel) (by decide +kernel)⟩
theorem my_Row_add : My y_Row_add b_Row_add 2 (some .boolean) 1 := ⟨un 161 (by decide +kernel) (by decide +kernel), un 2 (by decide +kernel) (by decide +kernel), ⟨by decide, by decide⟩, by decide +kernel, by decide⟩
theorem mv_Row_add : MV y_Row_add := ⟨un 159 (by decide +kernel) (by decide +kernel), un 160 (by decide +kernel) (by decide +kernel)⟩
theorem my_Row_addPart : My y_Row_addPart b_Row_addPart 4 (some .boolean) 3 := ⟨un 246 (by decide +kernel) (by decide +kernel), un 2 (by decide +kernel) (by decide +kernel), ⟨by decide, by decide⟩, by decide +kernel, by decide⟩
theorem mv_Row_addPart : MV y_Row_addPart := ⟨un 244 (by decide +kernel) (by decide +kernel), un 245 (by decide +kernel) (by decide +kernel)⟩
theorem my_Row_addRun : My y_Row_addRun b_Row_addRun 3 (some .boolean) 2 := ⟨un 253 (by decide +kernel) (by decide +kernel), un 2 (by decide +kernel) (by decide +kernel), ⟨by decide, by decide⟩, by decide +kernel, by decide⟩
theorem mv_Row_addRun : MV y_Row_addRun := ⟨un 251 (by decide +kernel) (by decide +kernel), un 252 (by decide +kernel) (by decide +kernel)⟩
theorem my_Row_at : My y_Row_at b_Row_at 2 (some .int) 1 := ⟨un 216 (by decide +kernel) (by decide +kernel), un 2 (by decide +kernel) (by decide +kernel), ⟨by decide, by decide⟩, by decide +kernel, by decide⟩
theorem mv_Row_at : MV y_Row_at := ⟨un 214 (by decide +kernel) (by decide +kernel), un 215 (by decide +kernel) (by decide +kernel)⟩
theorem my_Row_become : My y_Row_become b_Row_become 2 none 1 := ⟨un 751 (by decide +kernel) (by decide +kernel), un 2 (by decide +kernel) (by decide +kernel), ⟨by decide, by decide⟩, by decide +kernel, by decide⟩
theorem mv_Row_become : MV y_Row_become := ⟨un 749 (by decide +kernel) (by decide +kernel), un 750 (by decide +kernel) (by decide +kernel)⟩
theorem my_Row_cut : My y_Row_cut b_Row_cut 2 none 1 := ⟨un 173 (by decide +kernel) (by decide +kernel), un 2 (by decide +kernel) (by decide +kernel), ⟨by decide, by decide⟩, by decide +kernel, by decide⟩
theorem mv_Row_cut : MV y_Row_cut := ⟨un 171 (by decide +kernel) (by decide +kernel), un 172 (by decide +kernel) (by decide +kernel)⟩
theorem my_Row_flip : My y_Row_flip b_Row_flip 3 none 2 := ⟨un 225 (by decide +kernel) (by decide +kernel), un 2 (by decide +kernel) (by decide +kernel), ⟨by decide, by decide⟩, by decide +kernel, by decide⟩
theorem mv_Row_flip : MV y_Row_flip := ⟨un 223 (by decide +kernel) (by decide +kernel), un 224 (by decide +kernel) (by decide +kernel)⟩
theorem my_Row_has : My y_Row_has b_Row_has 2 (some .boolean) 1 := ⟨un 212 (by decide +kernel) (by decide +kernel), un 2 (by decide +kernel) (by decide +kernel), ⟨by decide, by decide⟩, by decide +kernel, by decide⟩
theorem mv_Row_has : MV y_Row_has := ⟨un 210 (by decide +kernel) (by decide +kernel), un 211 (by decide +kernel) (by decide +kernel)⟩
theorem my_Row_hasRoomFor : My y_Row_hasRoomFor b_Row_hasRoomFor 2 (some .boolean) 1 := ⟨un 165 (by decide +kernel) (by decide +kernel), un 2 (by decide +kernel) (by decide +kernel), ⟨by decide, by decide⟩, by decide +kernel, by decide⟩
theorem mv_Row_hasRoomFor : MV y_Row_hasRoomFor := ⟨un 163 (by decide +kernel) (by decide +kernel), un 164 (by decide +kernel) (by decide +kernel)⟩
theorem my_Row_init : My y_Row_init b_Row_init 2 none 1 := ⟨un 38 (by decide +kernel) (by decide +kernel), un 2 (by decide +kernel) (by decide +kernel), ⟨by decide, by decide⟩, by decide +kernel, by decide⟩
theorem my_Row_replace : My y_Row_replace b_Row_replace 7 (some .boolean) 5 := ⟨un 595 (by decide +kernel) (by decide +kernel), un 2 (by decide +kernel) (by decide +kernel), ⟨by decide, by decide⟩, by decide +kernel, by decide⟩
theorem mv_Row_replace : MV y_Row_replace := ⟨un 593 (by decide +kernel) (by decide +kernel), un 594 (by decide +kernel) (by decide +kernel)⟩
theorem my_V_abort : My y_V_abort b_V_abort 2 (some .int) 1 := ⟨un 809 (by decide +kernel) (by decide +kernel), un 1 (by decide +kernel) (by decide +kernel), ⟨by decide, by decide⟩, by decide +kernel, by decide⟩
theorem mv_V_abort : MV y_V_abort := ⟨un 807 (by decide +kernel) (by decide +kernel), un 808 (by decide +kernel) (by decide +kernel)⟩
theorem my_V_append : My y_V_append b_V_append 6 (some .int) 3 := ⟨un 713 (by decide +kernel) (by decide +kernel), un 1 (by decide +kernel) (by decide +kernel), ⟨by decide, by decide⟩, by decide +kernel, by decide⟩
theorem mv_V_append : MV y_V_append := ⟨un 711 (by decide +kernel) (by decide +kernel), un 712 (by decide +kernel) (by decide +kernel)⟩
theorem my_V_barTo : My y_V_barTo b_V_barTo 2 (some .int) 1 := ⟨un 181 (by decide +kernel) (by decide +kernel), un 1 (by decide +kernel) (by decide +kernel), ⟨by decide, by decide⟩, by decide +kernel, by decide⟩
theorem mv_V_barTo : MV y_V_barTo := ⟨un 180 (by decide +kernel) (by decide +kernel), unS (q := (y_V_barTo, 2)) 0 (by decide +kernel) (by decide +kernel)⟩
theorem my_V_begin : My y_V_begin b_V_begin 3 (some .int) 1 := ⟨un 656 (by decide +kernel) (by decide +kernel), un 1 (by decide +kernel) (by decide +kernel), ⟨by decide, by decide⟩, by decide +kernel, by decide⟩
theorem mv_V_begin : MV y_V_begin := ⟨un 654 (by decide +kernel) (by decide +kernel), un 655 (by decide +kernel) (by decide +kernel)⟩
theorem my_V_byteAt : My y_V_byteAt b_V_byteAt 3 (some .int) 2 := ⟨un 154 (by decide +kernel) (by decide +kernel), un 1 (by decide +kernel) (by decide +kernel), ⟨by decide, by decide⟩, by decide +kernel, by decide⟩
theorem ms_V_byteAt : MS y_V_byteAt := un 153 (by decide +kernel) (by decide +kernel)
theorem my_V_commit : My y_V_commit b_V_commit 2 (some .int) 1 := ⟨un 798 (by decide +kernel) (by decide +kernel), un 1 (by decide +kernel) (by decide +kernel), ⟨by decide, by decide⟩, by decide +kernel, by decide⟩
theorem mv_V_commit : MV y_V_commit := ⟨un 796 (by decide +kernel) (by decide +kernel), un 797 (by decide +kernel) (by decide +kernel)⟩
theorem my_V_common : My y_V_common b_V_common 6 (some .int) 3 := ⟨un 638 (by decide +kernel) (by decide +kernel), un 1 (by decide +kernel) (by decide +kernel), ⟨by decide, by decide⟩, by decide +kernel, by decide⟩
theorem mv_V_common : MV y_V_common := ⟨un 636 (by decide +kernel) (by decide +kernel), un 637 (by decide +kernel) (by decide +kernel)⟩
theorem my_V_damage : My y_V_damage b_V_damage 4 (some .boolean) 3 := ⟨un 221 (by decide +kernel) (by decide +kernel), un 1 (by decide +kernel) (by decide +kernel), ⟨by decide, by decide⟩, by decide +kernel, by decide⟩
theorem mv_V_damage : MV y_V_damage := ⟨un 219 (by decide +kernel) (by decide +kernel), un 220 (by decide +kernel) (by decide +kernel)⟩
theorem my_V_data : My y_V_data b_V_data 5 (some .int) 2 := ⟨un 208 (by decide +kernel) (by decide +kernel), un 1 (by decide +kernel) (by decide +kernel), ⟨by decide, by decide⟩, by decide +kernel, by decide⟩
theorem mv_V_data : MV y_V_data := ⟨un 206 (by decide +kernel) (by decide +kernel), un 207 (by decide +kernel) (by decide +kernel)⟩
theorem my_V_fail : My y_V_fail b_V_fail 3 (some .boolean) 2 := ⟨un 177 (by decide +kernel) (by decide +kernel), un 1 (by decide +kernel) (by decide +kernel), ⟨by decide, by decide⟩, by decide +kernel, by decide⟩
theorem mv_V_fail : MV y_V_fail := ⟨un 175 (by decide +kernel) (by decide +kernel), un 176 (by decide +kernel) (by decide +kernel)⟩
theorem my_V_heads : My y_V_heads b_V_heads 3 (some .int) 1 := ⟨un 620 (by decide +kernel) (by decide +kernel), un 1 (by decide +kernel) (by decide +kernel), ⟨by decide, by decide⟩, by decide +kernel, by decide⟩
theorem mv_V_heads : MV y_V_heads := ⟨un 618 (by decide +kernel) (by decide +kernel), un 619 (by decide +kernel) (by decide +kernel)⟩
theorem my_V_init : My y_V_init b_V_init 2 none 0 := ⟨un 30 (by decide +kernel) (by decide +kernel), un 1 (by decide +kernel) (by decide +kernel), ⟨by decide, by decide⟩, by decide +kernel, by decide⟩
theorem my_V_isCharacter : My y_V_isCharacter b_V_isCharacter 1 (some .boolean) 1 := ⟨un 157 (by decide +kernel) (by decide +kernel), un 1 (by decide +kernel) (by decide +kernel), ⟨by decide, by decide⟩, by decide +kernel, by decide⟩
theorem ms_V_isCharacter : MS y_V_isCharacter := un 156 (by decide +kernel) (by decide +kernel)
theorem my_V_isRepository : My y_V_isRepository b_V_isRepository 1 (some .boolean) 1 := ⟨un 184 (by decide +kernel) (by decide +kernel), un 1 (by decide +kernel) (by decide +kernel), ⟨by decide, by decide⟩, by decide +kernel, by decide⟩
theorem ms_V_isRepository : MS y_V_isRepository := un 183 (by decide +kernel) (by decide +kernel)
theorem my_V_node : My y_V_node b_V_node 3 (some .long) 2 := ⟨un 204 (by decide +kernel) (by decide +kernel), un 1 (by decide +kernel) (by decide +kernel), ⟨by decide, by decide⟩, by decide +kernel, by decide⟩
theorem mv_V_node : MV y_V_node := ⟨un 202 (by decide +kernel) (by decide +kernel), un 203 (by decide +kernel) (by decide +kernel)⟩
theorem my_V_pull : My y_V_pull b_V_pull 5 (some .int) 1 := ⟨un 833 (by decide +kernel) (by decide +kernel), un 1 (by decide +kernel) (by decide +kernel), ⟨by decide, by decide⟩, by decide +kernel, by decide⟩
theorem mv_V_pull : MV y_V_pull := ⟨un 831 (by decide +kernel) (by decide +kernel), un 832 (by decide +kernel) (by decide +kernel)⟩
theorem my_V_record : My y_V_record b_V_record 5 (some .int) 3 := ⟨un 192 (by decide +kernel) (by decide +kernel), un 1 (by decide +kernel) (by decide +kernel), ⟨by decide, by decide⟩, by decide +kernel, by decide⟩
theorem mv_V_record : MV y_V_record := ⟨un 190 (by decide +kernel) (by decide +kernel), un 191 (by decide +kernel) (by decide +kernel)⟩
theorem my_V_recover : My y_V_recover b_V_recover 4 (some .int) 2 := ⟨un 821 (by decide +kernel) (by decide +kernel), un 1 (by decide +kernel) (by decide +kernel), ⟨by decide, by decide⟩, by decide +kernel, by decide⟩
theorem mv_V_recover : MV y_V_recover := ⟨un 819 (by decide +kernel) (by decide +kernel), un 820 (by decide +kernel) (by decide +kernel)⟩
theorem my_V_repositoryAt : My y_V_repositoryAt b_V_repositoryAt 2 (some (.object "RevisionVault$Repository")) 1 := ⟨un 660 (by decide +kernel) (by decide +kernel), un 1 (by decide +kernel) (by decide +kernel), ⟨by decide, by decide⟩, by decide +kernel, by decide⟩
theorem mv_V_repositoryAt : MV y_V_repositoryAt := ⟨un 659 (by decide +kernel) (by decide +kernel), unS (q := (y_V_repositoryAt, 2)) 6 (by decide +kernel) (by decide +kernel)⟩
theorem my_V_repositoryInTransaction : My y_V_repositoryInTransaction b_V_repositoryInTransaction 3 (some (.object "RevisionVault$Repository")) 1 := ⟨un 717 (by decide +kernel) (by decide +kernel), un 1 (by decide +kernel) (by decide +kernel), ⟨by decide, by decide⟩, by decide +kernel, by decide⟩
theorem mv_V_repositoryInTransaction : MV y_V_repositoryInTransaction := ⟨un 716 (by decide +kernel) (by decide +kernel), unS (q := (y_V_repositoryInTransaction, 2)) 8 (by decide +kernel) (by decide +kernel)⟩
theorem my_V_revisions : My y_V_revisions b_V_revisions 3 (some .int) 1 := ⟨un 188 (by decide +kernel) (by decide +kernel), un 1 (by decide +kernel) (by decide +kernel), ⟨by decide, by decide⟩, by decide +kernel, by decide⟩
theorem mv_V_revisions : MV y_V_revisions := ⟨un 186 (by decide +kernel) (by decide +kernel), un 187 (by decide +kernel) (by decide +kernel)⟩
theorem my_V_text : My y_V_text b_V_text 5 (some .int) 3 := ⟨un 854 (by decide +kernel) (by decide +kernel), un 1 (by decide +kernel) (by decide +kernel), ⟨by decide, by decide⟩, by decide +kernel, by decide⟩
theorem mv_V_text : MV y_V_text := ⟨un 852 (by decide +kernel) (by decide +kernel), un 853 (by decide +kernel) (by decide +kernel)⟩
theorem my_V_type : My y_V_type b_V_type 6 (some .boolean) 1 := ⟨un 151 (by decide +kernel) (by decide +kernel), un 1 (by decide +kernel) (by decide +kernel), ⟨by decide, by decide⟩, by decide +kernel, by decide⟩
theorem mv_V_type : MV y_V_type := ⟨un 149 (by decide +kernel) (by decide +kernel), un 150 (by decide +kernel) (by decide +kernel)⟩
theorem my_V_wipe : My y_V_wipe b_V_wipe 1 none 0 := ⟨un 169 (by decide +kernel) (by decide +kernel), un 1 (by decide +kernel) (by decide +kernel), ⟨by decide, by decide⟩, by decide +kernel, by decide⟩
theorem mv_V_wipe : MV y_V_wipe := ⟨un 167 (by decide +kernel) (by decide +kernel), un 168 (by decide +kernel) (by decide +kernel)⟩
theorem my_V_wrong : My y_V_wrong b_V_wrong 3 (some .int) 1 := ⟨un 229 (by decide +kernel) (by decide +kernel), un 1 (by decide +kernel) (by decide +kernel), ⟨by decide, by decide⟩, by decide +kernel, by decide⟩
theorem mv_V_wrong : MV y_V_wrong := ⟨un 227 (by decide +kernel) (by decide +kernel), un 228 (by decide +kernel) (by decide +kernel)⟩
theorem my_M_abort : My y_M_abort b_M_abort 2 (some .int) 1 := ⟨un 1064 (by decide +kernel) (by decide +kernel), un 5 (by decide +kernel) (by decide +kernel), ⟨by decide, by decide⟩, by decide +kernel, by decide⟩
theorem mv_M_abort : MV y_M_abort := ⟨un 1062 (by decide +kernel) (by decide +kernel), un 1063 (by decide +kernel) (by decide +kernel)⟩
theorem my_M_add : My y_M_add b_M_add 12 (some .int) 3 := ⟨un 980 (by decide +kernel) (by decide +kernel), un 5 (by decide +kernel) (by decide +kernel), ⟨by decide, by decide⟩, by decide +kernel, by decide⟩
theorem mv_M_add : MV y_M_add := ⟨un 979 (by decide +kernel) (by decide +kernel), unS (q := (y_M_add, 23)) 19 (by decide +kernel) (by decide +kernel)⟩
theorem my_M_ancestors : My y_M_ancestors b_M_ancestors 7 (some .int) 2 := ⟨un 1128 (by decide +kernel) (by decide +kernel), un 5 (by decide +kernel) (by decide +kernel), ⟨by decide, by decide⟩, by decide +kernel, by decide⟩
theorem mv_M_ancestors : MV y_M_ancestors := ⟨un 1127 (by decide +kernel) (by decide +kernel), unS (q := (y_M_ancestors, 23)) 40 (by decide +kernel) (by decide +kernel)⟩
theorem my_M_append : My y_M_append b_M_append 5 (some .int) 3 := ⟨un 972 (by decide +kernel) (by decide +kernel), un 5 (by decide +kernel) (by decide +kernel), ⟨by decide, by decide⟩, by decide +kernel, by decide⟩
theorem mv_M_append : MV y_M_append := ⟨un 970 (by decide +kernel) (by decide +kernel), un 971 (by decide +kernel) (by decide +kernel)⟩
theorem my_M_apply : My y_M_apply b_M_apply 9 (some .boolean) 2 := ⟨un 1024 (by decide +kernel) (by decide +kernel), un 5 (by decide +kernel) (by decide +kernel), ⟨by decide, by decide⟩, by decide +kernel, by decide⟩
theorem mv_M_apply : MV y_M_apply := ⟨un 1023 (by decide +kernel) (by decide +kernel), unS (q := (y_M_apply, 23)) 28 (by decide +kernel) (by decide +kernel)⟩
theorem my_M_barred : My y_M_barred b_M_barred 3 (some .boolean) 2 := ⟨un 960 (by decide +kernel) (by decide +kernel), un 5 (by decide +kernel) (by decide +kernel), ⟨by decide, by decide⟩, by decide +kernel, by decide⟩
theorem mv_M_barred : MV y_M_barred := ⟨un 959 (by decide +kernel) (by decide +kernel), unS (q := (y_M_barred, 23)) 15 (by decide +kernel) (by decide +kernel)⟩
theorem my_M_begin : My y_M_begin b_M_begin 2 (some .int) 1 := ⟨un 949 (by decide +kernel) (by decide +kernel), un 5 (by decide +kernel) (by decide +kernel), ⟨by decide, by decide⟩, by decide +kernel, by decide⟩
theorem mv_M_begin : MV y_M_begin := ⟨un 947 (by decide +kernel) (by decide +kernel), un 948 (by decide +kernel) (by decide +kernel)⟩
theorem my_M_begun : My y_M_begun b_M_begun 10 (some .long) 3 := ⟨un 984 (by decide +kernel) (by decide +kernel), un 5 (by decide +kernel) (by decide +kernel), ⟨by decide, by decide⟩, by decide +kernel, by decide⟩
theorem mv_M_begun : MV y_M_begun := ⟨un 983 (by decide +kernel) (by decide +kernel), unS (q := (y_M_begun, 23)) 20 (by decide +kernel) (by decide +kernel)⟩
theorem my_M_bring : My y_M_bring b_M_bring 8 (some .int) 3 := ⟨un 1084 (by decide +kernel) (by decide +kernel), un 5 (by decide +kernel) (by decide +kernel), ⟨by decide, by decide⟩, by decide +kernel, by decide⟩
theorem mv_M_bring : MV y_M_bring := ⟨un 1083 (by decide +kernel) (by decide +kernel), unS (q := (y_M_bring, 23)) 38 (by decide +kernel) (by decide +kernel)⟩
theorem my_M_build : My y_M_build b_M_build 9 (some .boolean) 2 := ⟨un 1012 (by decide +kernel) (by decide +kernel), un 5 (by decide +kernel) (by decide +kernel), ⟨by decide, by decide⟩, by decide +kernel, by decide⟩
theorem mv_M_build : MV y_M_build := ⟨un 1011 (by decide +kernel) (by decide +kernel), unS (q := (y_M_build, 23)) 25 (by decide +kernel) (by decide +kernel)⟩
theorem my_M_byteAt : My y_M_byteAt b_M_byteAt 4 (some .int) 3 := ⟨un 1020 (by decide +kernel) (by decide +kernel), un 5 (by decide +kernel) (by decide +kernel), ⟨by decide, by decide⟩, by decide +kernel, by decide⟩
theorem mv_M_byteAt : MV y_M_byteAt := ⟨un 1019 (by decide +kernel) (by decide +kernel), unS (q := (y_M_byteAt, 23)) 27 (by decide +kernel) (by decide +kernel)⟩
theorem my_M_candidate : My y_M_candidate b_M_candidate 5 (some .int) 4 := ⟨un 1008 (by decide +kernel) (by decide +kernel), un 5 (by decide +kernel) (by decide +kernel), ⟨by decide, by decide⟩, by decide +kernel, by decide⟩
theorem mv_M_candidate : MV y_M_candidate := ⟨un 1007 (by decide +kernel) (by decide +kernel), unS (q := (y_M_candidate, 23)) 24 (by decide +kernel) (by decide +kernel)⟩
theorem my_M_chosen : My y_M_chosen b_M_chosen 10 (some .int) 3 := ⟨un 1000 (by decide +kernel) (by decide +kernel), un 5 (by decide +kernel) (by decide +kernel), ⟨by decide, by decide⟩, by decide +kernel, by decide⟩
theorem mv_M_chosen : MV y_M_chosen := ⟨un 999 (by decide +kernel) (by decide +kernel), unS (q := (y_M_chosen, 23)) 22 (by decide +kernel) (by decide +kernel)⟩
theorem my_M_commit : My y_M_commit b_M_commit 2 (some .int) 1 := ⟨un 1056 (by decide +kernel) (by decide +kernel), un 5 (by decide +kernel) (by decide +kernel), ⟨by decide, by decide⟩, by decide +kernel, by decide⟩
theorem mv_M_commit : MV y_M_commit := ⟨un 1054 (by decide +kernel) (by decide +kernel), un 1055 (by decide +kernel) (by decide +kernel)⟩
theorem my_M_common : My y_M_common b_M_common 8 (some .int) 3 := ⟨un 1124 (by decide +kernel) (by decide +kernel), un 5 (by decide +kernel) (by decide +kernel), ⟨by decide, by decide⟩, by decide +kernel, by decide⟩
theorem mv_M_common : MV y_M_common := ⟨un 1122 (by decide +kernel) (by decide +kernel), un 1123 (by decide +kernel) (by decide +kernel)⟩
theorem my_M_commonBegin : My y_M_commonBegin b_M_commonBegin 2 (some .int) 0 := ⟨un 1032 (by decide +kernel) (by decide +kernel), un 5 (by decide +kernel) (by decide +kernel), ⟨by decide, by decide⟩, by decide +kernel, by decide⟩
theorem mv_M_commonBegin : MV y_M_commonBegin := ⟨un 1031 (by decide +kernel) (by decide +kernel), unS (q := (y_M_commonBegin, 23)) 30 (by decide +kernel) (by decide +kernel)⟩
theorem my_M_commonEnd : My y_M_commonEnd b_M_commonEnd 3 (some .int) 1 := ⟨un 1036 (by decide +kernel) (by decide +kernel), un 5 (by decide +kernel) (by decide +kernel), ⟨by decide, by decide⟩, by decide +kernel, by decide⟩
theorem mv_M_commonEnd : MV y_M_commonEnd := ⟨un 1035 (by decide +kernel) (by decide +kernel), unS (q := (y_M_commonEnd, 23)) 31 (by decide +kernel) (by decide +kernel)⟩
theorem my_M_damage : My y_M_damage b_M_damage 4 (some .boolean) 3 := ⟨un 1112 (by decide +kernel) (by decide +kernel), un 5 (by decide +kernel) (by decide +kernel), ⟨by decide, by decide⟩, by decide +kernel, by decide⟩
theorem mv_M_damage : MV y_M_damage := ⟨un 1110 (by decide +kernel) (by decide +kernel), un 1111 (by decide +kernel) (by decide +kernel)⟩
theorem my_M_data : My y_M_data b_M_data 4 (some .int) 2 := ⟨un 1108 (by decide +kernel) (by decide +kernel), un 5 (by decide +kernel) (by decide +kernel), ⟨by decide, by decide⟩, by decide +kernel, by decide⟩
theorem mv_M_data : MV y_M_data := ⟨un 1106 (by decide +kernel) (by decide +kernel), un 1107 (by decide +kernel) (by decide +kernel)⟩
theorem my_M_difference : My y_M_difference b_M_difference 3 (some .int) 0 := ⟨un 1028 (by decide +kernel) (by decide +kernel), un 5 (by decide +kernel) (by decide +kernel), ⟨by decide, by decide⟩, by decide +kernel, by decide⟩
theorem mv_M_difference : MV y_M_difference := ⟨un 1027 (by decide +kernel) (by decide +kernel), unS (q := (y_M_difference, 23)) 29 (by decide +kernel) (by decide +kernel)⟩
theorem my_M_fail : My y_M_fail b_M_fail 3 (some .boolean) 2 := ⟨un 1072 (by decide +kernel) (by decide +kernel), un 5 (by decide +kernel) (by decide +kernel), ⟨by decide, by decide⟩, by decide +kernel, by decide⟩
theorem mv_M_fail : MV y_M_fail := ⟨un 1070 (by decide +kernel) (by decide +kernel), un 1071 (by decide +kernel) (by decide +kernel)⟩
theorem my_M_finish : My y_M_finish b_M_finish 2 (some .boolean) 1 := ⟨un 1060 (by decide +kernel) (by decide +kernel), un 5 (by decide +kernel) (by decide +kernel), ⟨by decide, by decide⟩, by decide +kernel, by decide⟩
theorem mv_M_finish : MV y_M_finish := ⟨un 1059 (by decide +kernel) (by decide +kernel), unS (q := (y_M_finish, 23)) 36 (by decide +kernel) (by decide +kernel)⟩
theorem my_M_found : My y_M_found b_M_found 5 (some .int) 2 := ⟨un 996 (by decide +kernel) (by decide +kernel), un 5 (by decide +kernel) (by decide +kernel), ⟨by decide, by decide⟩, by decide +kernel, by decide⟩
theorem mv_M_found : MV y_M_found := ⟨un 995 (by decide +kernel) (by decide +kernel), unS (q := (y_M_found, 23)) 21 (by decide +kernel) (by decide +kernel)⟩
theorem my_M_heads : My y_M_heads b_M_heads 7 (some .int) 1 := ⟨un 1120 (by decide +kernel) (by decide +kernel), un 5 (by decide +kernel) (by decide +kernel), ⟨by decide, by decide⟩, by decide +kernel, by decide⟩
theorem mv_M_heads : MV y_M_heads := ⟨un 1118 (by decide +kernel) (by decide +kernel), un 1119 (by decide +kernel) (by decide +kernel)⟩
theorem my_M_init : My y_M_init b_M_init 1 none 0 := ⟨un 860 (by decide +kernel) (by decide +kernel), un 5 (by decide +kernel) (by decide +kernel), ⟨by decide, by decide⟩, by decide +kernel, by decide⟩
theorem my_M_isRepository : My y_M_isRepository b_M_isRepository 1 (some .boolean) 1 := ⟨un 952 (by decide +kernel) (by decide +kernel), un 5 (by decide +kernel) (by decide +kernel), ⟨by decide, by decide⟩, by decide +kernel, by decide⟩
theorem ms_M_isRepository : MS y_M_isRepository := un 951 (by decide +kernel) (by decide +kernel)
theorem my_M_isRevision : My y_M_isRevision b_M_isRevision 3 (some .boolean) 2 := ⟨un 976 (by decide +kernel) (by decide +kernel), un 5 (by decide +kernel) (by decide +kernel), ⟨by decide, by decide⟩, by decide +kernel, by decide⟩
theorem mv_M_isRevision : MV y_M_isRevision := ⟨un 975 (by decide +kernel) (by decide +kernel), unS (q := (y_M_isRevision, 23)) 18 (by decide +kernel) (by decide +kernel)⟩
theorem my_M_mixed : My y_M_mixed b_M_mixed 3 (some .long) 2 := ⟨un 991 (by decide +kernel) (by decide +kernel), un 5 (by decide +kernel) (by decide +kernel), ⟨by decide, by decide⟩, by decide +kernel, by decide⟩
theorem ms_M_mixed : MS y_M_mixed := un 990 (by decide +kernel) (by decide +kernel)
theorem my_M_mixedLong : My y_M_mixedLong b_M_mixedLong 7 (some .long) 2 := ⟨un 988 (by decide +kernel) (by decide +kernel), un 5 (by decide +kernel) (by decide +kernel), ⟨by decide, by decide⟩, by decide +kernel, by decide⟩
theorem ms_M_mixedLong : MS y_M_mixedLong := un 987 (by decide +kernel) (by decide +kernel)
theorem my_M_node : My y_M_node b_M_node 3 (some .long) 2 := ⟨un 1104 (by decide +kernel) (by decide +kernel), un 5 (by decide +kernel) (by decide +kernel), ⟨by decide, by decide⟩, by decide +kernel, by decide⟩
theorem mv_M_node : MV y_M_node := ⟨un 1102 (by decide +kernel) (by decide +kernel), un 1103 (by decide +kernel) (by decide +kernel)⟩
theorem my_M_pull : My y_M_pull b_M_pull 8 (some .int) 1 := ⟨un 1080 (by decide +kernel) (by decide +kernel), un 5 (by decide +kernel) (by decide +kernel), ⟨by decide, by decide⟩, by decide +kernel, by decide⟩
theorem mv_M_pull : MV y_M_pull := ⟨un 1078 (by decide +kernel) (by decide +kernel), un 1079 (by decide +kernel) (by decide +kernel)⟩
theorem my_M_putByte : My y_M_putByte b_M_putByte 3 none 2 := ⟨un 1048 (by decide +kernel) (by decide +kernel), un 5 (by decide +kernel) (by decide +kernel), ⟨by decide, by decide⟩, by decide +kernel, by decide⟩
theorem mv_M_putByte : MV y_M_putByte := ⟨un 1047 (by decide +kernel) (by decide +kernel), unS (q := (y_M_putByte, 23)) 34 (by decide +kernel) (by decide +kernel)⟩
theorem my_M_putDifference : My y_M_putDifference b_M_putDifference 6 none 2 := ⟨un 1044 (by decide +kernel) (by decide +kernel), un 5 (by decide +kernel) (by decide +kernel), ⟨by decide, by decide⟩, by decide +kernel, by decide⟩
theorem mv_M_putDifference : MV y_M_putDifference := ⟨un 1043 (by decide +kernel) (by decide +kernel), unS (q := (y_M_putDifference, 23)) 33 (by decide +kernel) (by decide +kernel)⟩
theorem my_M_putSnapshot : My y_M_putSnapshot b_M_putSnapshot 4 none 1 := ⟨un 1052 (by decide +kernel) (by decide +kernel), un 5 (by decide +kernel) (by decide +kernel), ⟨by decide, by decide⟩, by decide +kernel, by decide⟩
theorem mv_M_putSnapshot : MV y_M_putSnapshot := ⟨un 1051 (by decide +kernel) (by decide +kernel), unS (q := (y_M_putSnapshot, 23)) 35 (by decide +kernel) (by decide +kernel)⟩
theorem my_M_raise : My y_M_raise b_M_raise 2 (some .int) 1 := ⟨un 956 (by decide +kernel) (by decide +kernel), un 5 (by decide +kernel) (by decide +kernel), ⟨by decide, by decide⟩, by decide +kernel, by decide⟩
theorem mv_M_raise : MV y_M_raise := ⟨un 955 (by decide +kernel) (by decide +kernel), unS (q := (y_M_raise, 23)) 14 (by decide +kernel) (by decide +kernel)⟩
theorem my_M_record : My y_M_record b_M_record 6 (some .int) 3 := ⟨un 1100 (by decide +kernel) (by decide +kernel), un 5 (by decide +kernel) (by decide +kernel), ⟨by decide, by decide⟩, by decide +kernel, by decide⟩
theorem mv_M_record : MV y_M_record := ⟨un 1098 (by decide +kernel) (by decide +kernel), un 1099 (by decide +kernel) (by decide +kernel)⟩
theorem my_M_recover : My y_M_recover b_M_recover 3 (some .int) 2 := ⟨un 1076 (by decide +kernel) (by decide +kernel), un 5 (by decide +kernel) (by decide +kernel), ⟨by decide, by decide⟩, by decide +kernel, by decide⟩
theorem mv_M_recover : MV y_M_recover := ⟨un 1074 (by decide +kernel) (by decide +kernel), un 1075 (by decide +kernel) (by decide +kernel)⟩
theorem my_M_revisions : My y_M_revisions b_M_revisions 3 (some .int) 1 := ⟨un 1092 (by decide +kernel) (by decide +kernel), un 5 (by decide +kernel) (by decide +kernel), ⟨by decide, by decide⟩, by decide +kernel, by decide⟩
theorem mv_M_revisions : MV y_M_revisions := ⟨un 1090 (by decide +kernel) (by decide +kernel), un 1091 (by decide +kernel) (by decide +kernel)⟩
theorem my_M_roll : My y_M_roll b_M_roll 3 (some .int) 1 := ⟨un 1068 (by decide +kernel) (by decide +kernel), un 5 (by decide +kernel) (by decide +kernel), ⟨by decide, by decide⟩, by decide +kernel, by decide⟩
theorem mv_M_roll : MV y_M_roll := ⟨un 1067 (by decide +kernel) (by decide +kernel), unS (q := (y_M_roll, 23)) 37 (by decide +kernel) (by decide +kernel)⟩
theorem my_M_runs : My y_M_runs b_M_runs 3 (some .int) 0 := ⟨un 1004 (by decide +kernel) (by decide +kernel), un 5 (by decide +kernel) (by decide +kernel), ⟨by decide, by decide⟩, by decide +kernel, by decide⟩
theorem mv_M_runs : MV y_M_runs := ⟨un 1003 (by decide +kernel) (by decide +kernel), unS (q := (y_M_runs, 23)) 23 (by decide +kernel) (by decide +kernel)⟩
theorem my_M_shortChain : My y_M_shortChain b_M_shortChain 7 (some .boolean) 3 := ⟨un 1040 (by decide +kernel) (by decide +kernel), un 5 (by decide +kernel) (by decide +kernel), ⟨by decide, by decide⟩, by decide +kernel, by decide⟩
theorem mv_M_shortChain : MV y_M_shortChain := ⟨un 1039 (by decide +kernel) (by decide +kernel), unS (q := (y_M_shortChain, 23)) 32 (by decide +kernel) (by decide +kernel)⟩
theorem my_M_shut : My y_M_shut b_M_shut 2 (some .int) 1 := ⟨un 1096 (by decide +kernel) (by decide +kernel), un 5 (by decide +kernel) (by decide +kernel), ⟨by decide, by decide⟩, by decide +kernel, by decide⟩
theorem mv_M_shut : MV y_M_shut := ⟨un 1095 (by decide +kernel) (by decide +kernel), unS (q := (y_M_shut, 23)) 39 (by decide +kernel) (by decide +kernel)⟩
theorem my_M_start : My y_M_start b_M_start 2 (some .boolean) 1 := ⟨un 964 (by decide +kernel) (by decide +kernel), un 5 (by decide +kernel) (by decide +kernel), ⟨by decide, by decide⟩, by decide +kernel, by decide⟩
theorem mv_M_start : MV y_M_start := ⟨un 963 (by decide +kernel) (by decide +kernel), unS (q := (y_M_start, 23)) 16 (by decide +kernel) (by decide +kernel)⟩
theorem my_M_text : My y_M_text b_M_text 4 (some .int) 3 := ⟨un 1088 (by decide +kernel) (by decide +kernel), un 5 (by decide +kernel) (by decide +kernel), ⟨by decide, by decide⟩, by decide +kernel, by decide⟩
theorem mv_M_text : MV y_M_text := ⟨un 1086 (by decide +kernel) (by decide +kernel), un 1087 (by decide +kernel) (by decide +kernel)⟩
theorem my_M_thrown : My y_M_thrown b_M_thrown 1 (some .int) 0 := ⟨un 937 (by decide +kernel) (by decide +kernel), un 5 (by decide +kernel) (by decide +kernel), ⟨by decide, by decide⟩, by decide +kernel, by decide⟩
theorem mv_M_thrown : MV y_M_thrown := ⟨un 935 (by decide +kernel) (by decide +kernel), un 936 (by decide +kernel) (by decide +kernel)⟩
theorem my_M_type : My y_M_type b_M_type 7 (some .boolean) 1 := ⟨un 941 (by decide +kernel) (by decide +kernel), un 5 (by decide +kernel) (by decide +kernel), ⟨by decide, by decide⟩, by decide +kernel, by decide⟩
theorem mv_M_type : MV y_M_type := ⟨un 939 (by decide +kernel) (by decide +kernel), un 940 (by decide +kernel) (by decide +kernel)⟩
theorem my_M_whole : My y_M_whole b_M_whole 8 (some .boolean) 2 := ⟨un 1016 (by decide +kernel) (by decide +kernel), un 5 (by decide +kernel) (by decide +kernel), ⟨by decide, by decide⟩, by decide +kernel, by decide⟩
theorem mv_M_whole : MV y_M_whole := ⟨un 1015 (by decide +kernel) (by decide +kernel), unS (q := (y_M_whole, 23)) 26 (by decide +kernel) (by decide +kernel)⟩
theorem my_M_wipe : My y_M_wipe b_M_wipe 1 none 0 := ⟨un 945 (by decide +kernel) (by decide +kernel), un 5 (by decide +kernel) (by decide +kernel), ⟨by decide, by decide⟩, by decide +kernel, by decide⟩
theorem mv_M_wipe : MV y_M_wipe := ⟨un 943 (by decide +kernel) (by decide +kernel), un 944 (by decide +kernel) (by decide +kernel)⟩
theorem my_M_write : My y_M_write b_M_write 2 (some .boolean) 1 := ⟨un 968 (by decide +kernel) (by decide +kernel), un 5 (by decide +kernel) (by decide +kernel), ⟨by decide, by decide⟩, by decide +kernel, by decide⟩
theorem mv_M_write : MV y_M_write := ⟨un 967 (by decide +kernel) (by decide +kernel), unS (q := (y_M_write, 23)) 17 (by decide +kernel) (by decide +kernel)⟩
theorem my_M_wrong : My y_M_wrong b_M_wrong 5 (some .int) 1 := ⟨un 1116 (by decide +kernel) (by decide +kernel), un 5 (by decide +kernel) (by decide +kernel), ⟨by decide, by decide⟩, by decide +kernel, by decide⟩
theorem mv_M_wrong : MV y_M_wrong := ⟨un 1114 (by decide +kernel) (by decide +kernel), un 1115 (by decide +kernel) (by decide +kernel)⟩
theorem fl_Cod_19 : FL R_Cod 19 R_Row "length" "I" := Or.inr ⟨_, un 42 (w := .fieldLinkNest "RevisionVault$Coding" 19 "RevisionVault$Row" "length" "I" "RevisionVault") (by decide +kernel) (by decide +kernel)⟩
theorem cl_Cod_27 : CL R_Cod 27 y_Row_at := Or.inl (un 242 (by decide +kernel) (by decide +kernel))
theorem cl_Cod_51 : CL R_Cod 51 y_Row_replace := Or.inl (un 592 (by decide +kernel) (by decide +kernel))
theorem cl_Cod_23 : CL R_Cod 23 y_Row_addPart := Or.inl (un 243 (by decide +kernel) (by decide +kernel))
theorem cl_Cod_47 : CL R_Cod 47 y_Row_addRun := Or.inl (un 250 (by decide +kernel) (by decide +kernel))
theorem cl_Cod_31 : CL R_Cod 31 y_Cod_commonBeginning := Or.inl (un 756 (by decide +kernel) (by decide +kernel))
theorem cl_Cod_37 : CL R_Cod 37 y_Cod_commonEnd := Or.inl (un 760 (by decide +kernel) (by decide +kernel))
theorem cl_Cod_9 : CL R_Cod 9 y_Row_cut := Or.inl (un 743 (by decide +kernel) (by decide +kernel))
theorem cl_Cod_15 : CL R_Cod 15 y_Row_add := Or.inl (un 744 (by decide +kernel) (by decide +kernel))
theorem cl_JA_13 : CL R_JA 13 y_JA_rangeCheck := Or.inl (un 257 (by decide +kernel) (by decide +kernel))
theorem fl_Rec_21 : FL R_Rec 21 R_Rec "length" "I" := Or.inl (un 71 (by decide +kernel) (by decide +kernel))
theorem fl_Rec_24 : FL R_Rec 24 R_Rec "p1" "I" := Or.inl (un 75 (by decide +kernel) (by decide +kernel))
theorem fl_Rec_27 : FL R_Rec 27 R_Rec "p2" "I" := Or.inl (un 77 (by decide +kernel) (by decide +kernel))
theorem fl_Rec_30 : FL R_Rec 30 R_Rec "node" "J" := Or.inl (un 79 (by decide +kernel) (by decide +kernel))
theorem fl_Rec_9 : FL R_Rec 9 R_Rec "offset" "I" := Or.inl (un 67 (by decide +kernel) (by decide +kernel))
theorem fl_Rec_15 : FL R_Rec 15 R_Rec "size" "I" := Or.inl (un 69 (by decide +kernel) (by decide +kernel))
theorem fl_Rec_18 : FL R_Rec 18 R_Rec "base" "I" := Or.inl (un 73 (by decide +kernel) (by decide +kernel))
theorem cl_Rep_200 : CL R_Rep 200 y_Rep_parentsOf := Or.inl (un 625 (by decide +kernel) (by decide +kernel))
theorem fl_Rep_44 : FL R_Rep 44 R_Rep "chain" "[I" := Or.inl (un 113 (by decide +kernel) (by decide +kernel))
theorem fl_Rep_22 : FL R_Rep 22 R_Rep "records" "[LRevisionVault$IndexRecord;" := Or.inl (un 99 (by decide +kernel) (by decide +kernel))
theorem fl_Rep_186 : FL R_Rep 186 R_Rec "base" "I" := Or.inr ⟨_, un 74 (w := .fieldLinkNest "RevisionVault$Repository" 186 "RevisionVault$IndexRecord" "base" "I" "RevisionVault") (by decide +kernel) (by decide +kernel)⟩
theorem fl_Rep_41 : FL R_Rep 41 R_Rep "built" "LRevisionVault$Row;" := Or.inl (un 111 (by decide +kernel) (by decide +kernel))
theorem cl_Rep_71 : CL R_Rep 71 y_Row_cut := Or.inl (un 238 (by decide +kernel) (by decide +kernel))
theorem fl_Rep_14 : FL R_Rep 14 R_Rep "data" "LRevisionVault$Row;" := Or.inl (un 97 (by decide +kernel) (by decide +kernel))
theorem fl_Rep_189 : FL R_Rep 189 R_Rec "offset" "I" := Or.inr ⟨_, un 68 (w := .fieldLinkNest "RevisionVault$Repository" 189 "RevisionVault$IndexRecord" "offset" "I" "RevisionVault") (by decide +kernel) (by decide +kernel)⟩
theorem fl_Rep_183 : FL R_Rep 183 R_Rec "size" "I" := Or.inr ⟨_, un 70 (w := .fieldLinkNest "RevisionVault$Repository" 183 "RevisionVault$IndexRecord" "size" "I" "RevisionVault") (by decide +kernel) (by decide +kernel)⟩
theorem cl_Rep_192 : CL R_Rep 192 y_Cod_readSnapshot := Or.inl (un 239 (by decide +kernel) (by decide +kernel))
theorem cl_Rep_196 : CL R_Rep 196 y_Cod_readDifference := Or.inl (un 589 (by decide +kernel) (by decide +kernel))
theorem fl_Rep_62 : FL R_Rep 62 R_Row "length" "I" := Or.inr ⟨_, un 44 (w := .fieldLinkNest "RevisionVault$Repository" 62 "RevisionVault$Row" "length" "I" "RevisionVault") (by decide +kernel) (by decide +kernel)⟩
theorem fl_Rep_199 : FL R_Rep 199 R_Rec "length" "I" := Or.inr ⟨_, un 72 (w := .fieldLinkNest "RevisionVault$Repository" 199 "RevisionVault$IndexRecord" "length" "I" "RevisionVault") (by decide +kernel) (by decide +kernel)⟩
theorem fl_Rep_95 : FL R_Rep 95 R_Rec "p1" "I" := Or.inr ⟨_, un 76 (w := .fieldLinkNest "RevisionVault$Repository" 95 "RevisionVault$IndexRecord" "p1" "I" "RevisionVault") (by decide +kernel) (by decide +kernel)⟩
theorem fl_Rep_102 : FL R_Rep 102 R_Rec "p2" "I" := Or.inr ⟨_, un 78 (w := .fieldLinkNest "RevisionVault$Repository" 102 "RevisionVault$IndexRecord" "p2" "I" "RevisionVault") (by decide +kernel) (by decide +kernel)⟩
theorem cl_Rep_112 : CL R_Rep 112 y_Rep_nodeOf := Or.inl (un 596 (by decide +kernel) (by decide +kernel))
theorem fl_Rep_84 : FL R_Rep 84 R_Rec "node" "J" := Or.inr ⟨_, un 80 (w := .fieldLinkNest "RevisionVault$Repository" 84 "RevisionVault$IndexRecord" "node" "J" "RevisionVault") (by decide +kernel) (by decide +kernel)⟩
theorem cl_Rep_54 : CL R_Rep 54 y_Rep_hasRevision := Or.inl (un 722 (by decide +kernel) (by decide +kernel))
theorem fl_Rep_51 : FL R_Rep 51 R_Rep "trial" "LRevisionVault$Row;" := Or.inl (un 115 (by decide +kernel) (by decide +kernel))
theorem fl_Rep_48 : FL R_Rep 48 R_Rep "chunk" "LRevisionVault$Row;" := Or.inl (un 114 (by decide +kernel) (by decide +kernel))
theorem cl_Rep_162 : CL R_Rep 162 y_Cod_writeWhole := Or.inl (un 740 (by decide +kernel) (by decide +kernel))
theorem cl_Rep_168 : CL R_Rep 168 y_Cod_writePacked := Or.inl (un 745 (by decide +kernel) (by decide +kernel))
theorem cl_Rep_171 : CL R_Rep 171 y_Row_become := Or.inl (un 748 (by decide +kernel) (by decide +kernel))
theorem fl_Rep_27 : FL R_Rep 27 R_Rep "recordCount" "I" := Or.inl (un 101 (by decide +kernel) (by decide +kernel))
theorem cl_Rep_92 : CL R_Rep 92 y_Rep_build := Or.inl (un 234 (by decide +kernel) (by decide +kernel))
theorem cl_Rep_175 : CL R_Rep 175 y_Cod_writeDifference := Or.inl (un 753 (by decide +kernel) (by decide +kernel))
theorem cl_Rep_179 : CL R_Rep 179 y_Rep_chainFits := Or.inl (un 763 (by decide +kernel) (by decide +kernel))
theorem fl_Rep_35 : FL R_Rep 35 R_Rep "down" "Z" := Or.inl (un 107 (by decide +kernel) (by decide +kernel))
theorem fl_Rep_31 : FL R_Rep 31 R_Rep "journal" "Z" := Or.inl (un 103 (by decide +kernel) (by decide +kernel))
theorem fl_Rep_38 : FL R_Rep 38 R_Rep "writesToFailure" "I" := Or.inl (un 109 (by decide +kernel) (by decide +kernel))
theorem cl_Rep_77 : CL R_Rep 77 y_Rep_rollBack := Or.inl (un 826 (by decide +kernel) (by decide +kernel))
theorem cl_Rep_203 : CL R_Rep 203 y_JI_bitCount := Or.inl (un 629 (by decide +kernel) (by decide +kernel))
theorem cl_Rep_208 : CL R_Rep 208 y_Rep_ancestorsOf := Or.inl (un 643 (by decide +kernel) (by decide +kernel))
theorem cl_Rep_11 : CL R_Rep 11 y_Row_init := Or.inl (un 59 (by decide +kernel) (by decide +kernel))
theorem cl_Rep_26 : CL R_Rep 26 y_Rec_init := Or.inr ⟨_, un 63 (w := .methodLinkNest "RevisionVault$Repository" 26 y_Rec_init "RevisionVault") (by decide +kernel) (by decide +kernel)⟩
theorem cl_Rep_158 : CL R_Rep 158 y_V_byteAt := Or.inr ⟨_, un 611 (w := .methodLinkNest "RevisionVault$Repository" 158 y_V_byteAt "RevisionVault") (by decide +kernel) (by decide +kernel)⟩
theorem kc_Rep_156 : Cond.constantLong R_Rep 156 1099511628211 ∈ UNI := un 612 (by decide +kernel) (by decide +kernel)
theorem cl_Rep_134 : CL R_Rep 134 y_Rep_nodeOrZero := Or.inl (un 600 (by decide +kernel) (by decide +kernel))
theorem kc_Rep_138 : Cond.constantLong R_Rep 138 1469598103934665603 ∈ UNI := un 604 (by decide +kernel) (by decide +kernel)
theorem cl_Rep_146 : CL R_Rep 146 y_Rep_mixLong := Or.inl (un 608 (by decide +kernel) (by decide +kernel))
theorem cl_Rep_152 : CL R_Rep 152 y_Row_at := Or.inl (un 616 (by decide +kernel) (by decide +kernel))
theorem cl_Rep_58 : CL R_Rep 58 y_Rep_mayWrite := Or.inl (un 701 (by decide +kernel) (by decide +kernel))
theorem fl_Rep_65 : FL R_Rep 65 R_Rep "journalData" "I" := Or.inl (un 105 (by decide +kernel) (by decide +kernel))
theorem fl_Rep_68 : FL R_Rep 68 R_Rep "journalRecords" "I" := Or.inl (un 106 (by decide +kernel) (by decide +kernel))
theorem cl_Rep_74 : CL R_Rep 74 y_Rep_removeJournal := Or.inl (un 814 (by decide +kernel) (by decide +kernel))
theorem cl_Rep_88 : CL R_Rep 88 y_Rep_find := Or.inl (un 732 (by decide +kernel) (by decide +kernel))
theorem cl_Rep_116 : CL R_Rep 116 y_Rep_chooseChunk := Or.inl (un 736 (by decide +kernel) (by decide +kernel))
theorem cl_Rep_119 : CL R_Rep 119 y_Row_hasRoomFor := Or.inl (un 767 (by decide +kernel) (by decide +kernel))
theorem cl_Rep_122 : CL R_Rep 122 y_Row_addPart := Or.inl (un 768 (by decide +kernel) (by decide +kernel))
theorem cl_Rep_126 : CL R_Rep 126 y_Rec_placeChunk := Or.inl (un 769 (by decide +kernel) (by decide +kernel))
theorem cl_Rep_130 : CL R_Rep 130 y_Rec_describe := Or.inl (un 773 (by decide +kernel) (by decide +kernel))
theorem cl_Rep_81 : CL R_Rep 81 y_Rep_openJournal := Or.inl (un 838 (by decide +kernel) (by decide +kernel))
theorem cl_Rep_98 : CL R_Rep 98 y_Rep_twinOf := Or.inl (un 839 (by decide +kernel) (by decide +kernel))
theorem cl_Rep_105 : CL R_Rep 105 y_Rep_store := Or.inl (un 843 (by decide +kernel) (by decide +kernel))
theorem cl_Rep_109 : CL R_Rep 109 y_Rep_undo := Or.inl (un 844 (by decide +kernel) (by decide +kernel))
theorem cl_Row_21 : CL R_Row 21 y_Row_hasRoomFor := Or.inl (un 162 (by decide +kernel) (by decide +kernel))
theorem fl_Row_7 : FL R_Row 7 R_Row "codes" "[I" := Or.inl (un 40 (by decide +kernel) (by decide +kernel))
theorem fl_Row_13 : FL R_Row 13 R_Row "length" "I" := Or.inl (un 41 (by decide +kernel) (by decide +kernel))
theorem cl_Row_24 : CL R_Row 24 y_JA_fill := Or.inl (un 254 (by decide +kernel) (by decide +kernel))
theorem cl_Row_17 : CL R_Row 17 y_Row_has := Or.inl (un 217 (by decide +kernel) (by decide +kernel))
theorem cl_Row_36 : CL R_Row 36 y_Row_addPart := Or.inl (un 752 (by decide +kernel) (by decide +kernel))
theorem cl_V_61 : CL R_V 61 y_V_repositoryInTransaction := Or.inl (un 714 (by decide +kernel) (by decide +kernel))
theorem cl_V_80 : CL R_V 80 y_Rep_rollBack := Or.inl (un 810 (by decide +kernel) (by decide +kernel))
theorem cl_V_64 : CL R_V 64 y_Rep_canBeParent := Or.inl (un 718 (by decide +kernel) (by decide +kernel))
theorem fl_V_14 : FL R_V 14 R_V "buffer" "LRevisionVault$Row;" := Or.inl (un 141 (by decide +kernel) (by decide +kernel))
theorem cl_V_70 : CL R_V 70 y_Rep_store := Or.inl (un 728 (by decide +kernel) (by decide +kernel))
theorem cl_V_149 : CL R_V 149 y_V_isRepository := Or.inl (un 182 (by decide +kernel) (by decide +kernel))
theorem fl_V_20 : FL R_V 20 R_V "repositories" "[LRevisionVault$Repository;" := Or.inl (un 142 (by decide +kernel) (by decide +kernel))
theorem fl_V_47 : FL R_V 47 R_Rep "down" "Z" := Or.inr ⟨_, un 108 (w := .fieldLinkNest "RevisionVault" 47 "RevisionVault$Repository" "down" "Z" "RevisionVault") (by decide +kernel) (by decide +kernel)⟩
theorem cl_V_43 : CL R_V 43 y_V_repositoryAt := Or.inl (un 657 (by decide +kernel) (by decide +kernel))
theorem fl_V_51 : FL R_V 51 R_Rep "journal" "Z" := Or.inr ⟨_, un 104 (w := .fieldLinkNest "RevisionVault" 51 "RevisionVault$Repository" "journal" "Z" "RevisionVault") (by decide +kernel) (by decide +kernel)⟩
theorem cl_V_57 : CL R_V 57 y_Rep_openJournal := Or.inl (un 697 (by decide +kernel) (by decide +kernel))
theorem cl_V_77 : CL R_V 77 y_Rep_removeJournal := Or.inl (un 799 (by decide +kernel) (by decide +kernel))
theorem cl_V_84 : CL R_V 84 y_V_barTo := Or.inl (un 178 (by decide +kernel) (by decide +kernel))
theorem cl_V_101 : CL R_V 101 y_Rep_hasRevision := Or.inl (un 193 (by decide +kernel) (by decide +kernel))
theorem cl_V_145 : CL R_V 145 y_Rep_greatestCommonAncestor := Or.inl (un 639 (by decide +kernel) (by decide +kernel))
theorem fl_V_129 : FL R_V 129 R_Rep "data" "LRevisionVault$Row;" := Or.inr ⟨_, un 98 (w := .fieldLinkNest "RevisionVault" 129 "RevisionVault$Repository" "data" "LRevisionVault$Row;" "RevisionVault") (by decide +kernel) (by decide +kernel)⟩
theorem cl_V_132 : CL R_V 132 y_Row_has := Or.inl (un 209 (by decide +kernel) (by decide +kernel))
theorem cl_V_135 : CL R_V 135 y_Row_flip := Or.inl (un 222 (by decide +kernel) (by decide +kernel))
theorem fl_V_33 : FL R_V 33 R_Row "length" "I" := Or.inr ⟨_, un 43 (w := .fieldLinkNest "RevisionVault" 33 "RevisionVault$Row" "length" "I" "RevisionVault") (by decide +kernel) (by decide +kernel)⟩
theorem cl_V_110 : CL R_V 110 y_Row_at := Or.inl (un 213 (by decide +kernel) (by decide +kernel))
theorem fl_V_88 : FL R_V 88 R_Rep "writesToFailure" "I" := Or.inr ⟨_, un 110 (w := .fieldLinkNest "RevisionVault" 88 "RevisionVault$Repository" "writesToFailure" "I" "RevisionVault") (by decide +kernel) (by decide +kernel)⟩
theorem cl_V_142 : CL R_V 142 y_Rep_countHeads := Or.inl (un 621 (by decide +kernel) (by decide +kernel))
theorem cl_V_11 : CL R_V 11 y_Row_init := Or.inl (un 36 (by decide +kernel) (by decide +kernel))
theorem cl_V_24 : CL R_V 24 y_Rep_init := Or.inl (un 54 (by decide +kernel) (by decide +kernel))
theorem fl_V_116 : FL R_V 116 R_Rep "records" "[LRevisionVault$IndexRecord;" := Or.inr ⟨_, un 100 (w := .fieldLinkNest "RevisionVault" 116 "RevisionVault$Repository" "records" "[LRevisionVault$IndexRecord;" "RevisionVault") (by decide +kernel) (by decide +kernel)⟩
theorem fl_V_125 : FL R_V 125 R_Rec "node" "J" := Or.inr ⟨_, un 81 (w := .fieldLinkNest "RevisionVault" 125 "RevisionVault$IndexRecord" "node" "J" "RevisionVault") (by decide +kernel) (by decide +kernel)⟩
theorem cl_V_97 : CL R_V 97 y_Rep_takeFrom := Or.inl (un 834 (by decide +kernel) (by decide +kernel))
theorem cl_V_120 : CL R_V 120 y_Rec_field := Or.inl (un 197 (by decide +kernel) (by decide +kernel))
theorem cl_V_94 : CL R_V 94 y_Rep_comeUp := Or.inl (un 822 (by decide +kernel) (by decide +kernel))
theorem fl_V_113 : FL R_V 113 R_Rep "recordCount" "I" := Or.inr ⟨_, un 102 (w := .fieldLinkNest "RevisionVault" 113 "RevisionVault$Repository" "recordCount" "I" "RevisionVault") (by decide +kernel) (by decide +kernel)⟩
theorem cl_V_104 : CL R_V 104 y_Rep_build := Or.inl (un 855 (by decide +kernel) (by decide +kernel))
theorem fl_V_107 : FL R_V 107 R_Rep "built" "LRevisionVault$Row;" := Or.inr ⟨_, un 112 (w := .fieldLinkNest "RevisionVault" 107 "RevisionVault$Repository" "built" "LRevisionVault$Row;" "RevisionVault") (by decide +kernel) (by decide +kernel)⟩
theorem cl_V_25 : CL R_V 25 y_V_byteAt := Or.inl (un 152 (by decide +kernel) (by decide +kernel))
theorem cl_V_29 : CL R_V 29 y_V_isCharacter := Or.inl (un 155 (by decide +kernel) (by decide +kernel))
theorem cl_V_37 : CL R_V 37 y_Row_add := Or.inl (un 158 (by decide +kernel) (by decide +kernel))
theorem cl_V_40 : CL R_V 40 y_Row_cut := Or.inl (un 170 (by decide +kernel) (by decide +kernel))
theorem cl_V_139 : CL R_V 139 y_Rep_countWrong := Or.inl (un 230 (by decide +kernel) (by decide +kernel))
theorem cl_M_159 : CL R_M 159 y_M_isRepository := Or.inl (un 950 (by decide +kernel) (by decide +kernel))
theorem cl_M_162 : CL R_M 162 y_M_raise := Or.inl (un 953 (by decide +kernel) (by decide +kernel))
theorem cl_M_165 : CL R_M 165 y_M_barred := Or.inl (un 957 (by decide +kernel) (by decide +kernel))
theorem fl_M_69 : FL R_M 69 R_M "thrown" "I" := Or.inl (un 862 (by decide +kernel) (by decide +kernel))
theorem cl_M_178 : CL R_M 178 y_M_roll := Or.inl (un 1065 (by decide +kernel) (by decide +kernel))
theorem cl_M_102 : CL R_M 102 y_M_begun := Or.inl (un 981 (by decide +kernel) (by decide +kernel))
theorem fl_M_106 : FL R_M 106 R_M "textLen" "I" := Or.inl (un 883 (by decide +kernel) (by decide +kernel))
theorem fl_M_66 : FL R_M 66 R_M "text" "[I" := Or.inl (un 884 (by decide +kernel) (by decide +kernel))
theorem cl_M_78 : CL R_M 78 y_M_mixed := Or.inl (un 989 (by decide +kernel) (by decide +kernel))
theorem cl_M_138 : CL R_M 138 y_M_found := Or.inl (un 993 (by decide +kernel) (by decide +kernel))
theorem cl_M_142 : CL R_M 142 y_M_chosen := Or.inl (un 997 (by decide +kernel) (by decide +kernel))
theorem cl_M_117 : CL R_M 117 y_M_runs := Or.inl (un 1001 (by decide +kernel) (by decide +kernel))
theorem cl_M_124 : CL R_M 124 y_M_build := Or.inl (un 1009 (by decide +kernel) (by decide +kernel))
theorem cl_M_127 : CL R_M 127 y_M_difference := Or.inl (un 1025 (by decide +kernel) (by decide +kernel))
theorem fl_M_19 : FL R_M 19 R_M "count" "[I" := Or.inl (un 867 (by decide +kernel) (by decide +kernel))
theorem fl_M_16 : FL R_M 16 R_M "dataLen" "[I" := Or.inl (un 866 (by decide +kernel) (by decide +kernel))
theorem cl_M_145 : CL R_M 145 y_M_write := Or.inl (un 965 (by decide +kernel) (by decide +kernel))
theorem cl_M_149 : CL R_M 149 y_M_putDifference := Or.inl (un 1041 (by decide +kernel) (by decide +kernel))
theorem cl_M_152 : CL R_M 152 y_M_putSnapshot := Or.inl (un 1049 (by decide +kernel) (by decide +kernel))
theorem fl_M_22 : FL R_M 22 R_M "offset" "[I" := Or.inl (un 868 (by decide +kernel) (by decide +kernel))
theorem fl_M_25 : FL R_M 25 R_M "chunk" "[I" := Or.inl (un 869 (by decide +kernel) (by decide +kernel))
theorem fl_M_28 : FL R_M 28 R_M "length" "[I" := Or.inl (un 870 (by decide +kernel) (by decide +kernel))
theorem fl_M_31 : FL R_M 31 R_M "base" "[I" := Or.inl (un 871 (by decide +kernel) (by decide +kernel))
theorem fl_M_34 : FL R_M 34 R_M "first" "[I" := Or.inl (un 872 (by decide +kernel) (by decide +kernel))
theorem fl_M_37 : FL R_M 37 R_M "second" "[I" := Or.inl (un 873 (by decide +kernel) (by decide +kernel))
theorem fl_M_40 : FL R_M 40 R_M "nodes" "[J" := Or.inl (un 874 (by decide +kernel) (by decide +kernel))
theorem cl_M_172 : CL R_M 172 y_M_isRevision := Or.inl (un 973 (by decide +kernel) (by decide +kernel))
theorem fl_M_73 : FL R_M 73 R_M "size" "I" := Or.inl (un 863 (by decide +kernel) (by decide +kernel))
theorem fl_M_7 : FL R_M 7 R_M "buf" "[I" := Or.inl (un 864 (by decide +kernel) (by decide +kernel))
theorem cl_M_175 : CL R_M 175 y_M_add := Or.inl (un 977 (by decide +kernel) (by decide +kernel))
theorem cl_M_88 : CL R_M 88 y_M_byteAt := Or.inl (un 1017 (by decide +kernel) (by decide +kernel))
theorem fl_M_92 : FL R_M 92 R_M "builtLen" "I" := Or.inl (un 879 (by decide +kernel) (by decide +kernel))
theorem fl_M_60 : FL R_M 60 R_M "next" "[I" := Or.inl (un 881 (by decide +kernel) (by decide +kernel))
theorem fl_M_57 : FL R_M 57 R_M "built" "[I" := Or.inl (un 880 (by decide +kernel) (by decide +kernel))
theorem fl_M_50 : FL R_M 50 R_M "down" "[Z" := Or.inl (un 877 (by decide +kernel) (by decide +kernel))
theorem fl_M_44 : FL R_M 44 R_M "journalData" "[I" := Or.inl (un 875 (by decide +kernel) (by decide +kernel))
theorem cl_M_169 : CL R_M 169 y_M_start := Or.inl (un 961 (by decide +kernel) (by decide +kernel))
theorem kc_M_82 : Cond.constantLong R_M 82 1469598103934665603 ∈ UNI := un 985 (by decide +kernel) (by decide +kernel)
theorem cl_M_84 : CL R_M 84 y_M_mixedLong := Or.inl (un 986 (by decide +kernel) (by decide +kernel))
theorem fl_M_63 : FL R_M 63 R_M "chain" "[I" := Or.inl (un 882 (by decide +kernel) (by decide +kernel))
theorem cl_M_95 : CL R_M 95 y_M_whole := Or.inl (un 1013 (by decide +kernel) (by decide +kernel))
theorem cl_M_99 : CL R_M 99 y_M_apply := Or.inl (un 1021 (by decide +kernel) (by decide +kernel))
theorem fl_M_13 : FL R_M 13 R_M "bytes" "[I" := Or.inl (un 865 (by decide +kernel) (by decide +kernel))
theorem cl_M_120 : CL R_M 120 y_M_candidate := Or.inl (un 1005 (by decide +kernel) (by decide +kernel))
theorem cl_M_130 : CL R_M 130 y_M_shortChain := Or.inl (un 1037 (by decide +kernel) (by decide +kernel))
theorem cl_M_156 : CL R_M 156 y_M_finish := Or.inl (un 1057 (by decide +kernel) (by decide +kernel))
theorem cl_M_184 : CL R_M 184 y_M_shut := Or.inl (un 1093 (by decide +kernel) (by decide +kernel))
theorem cl_M_187 : CL R_M 187 y_M_ancestors := Or.inl (un 1125 (by decide +kernel) (by decide +kernel))
theorem cl_M_109 : CL R_M 109 y_M_commonBegin := Or.inl (un 1029 (by decide +kernel) (by decide +kernel))
theorem cl_M_113 : CL R_M 113 y_M_commonEnd := Or.inl (un 1033 (by decide +kernel) (by decide +kernel))
theorem fl_M_54 : FL R_M 54 R_M "failing" "[I" := Or.inl (un 878 (by decide +kernel) (by decide +kernel))
theorem fl_M_47 : FL R_M 47 R_M "journalCount" "[I" := Or.inl (un 876 (by decide +kernel) (by decide +kernel))
theorem kc_M_76 : Cond.constantLong R_M 76 1099511628211 ∈ UNI := un 992 (by decide +kernel) (by decide +kernel)
theorem cl_M_181 : CL R_M 181 y_M_bring := Or.inl (un 1081 (by decide +kernel) (by decide +kernel))
theorem cl_M_134 : CL R_M 134 y_M_putByte := Or.inl (un 1045 (by decide +kernel) (by decide +kernel))
