/-! THE LAW'S OWN METHODS, by program -/
def zcaw (y : MethodName) (cc : ByteArray) (maxL : Nat) (hh : List (Nat × Nat × Nat × Nat)) (n : Nat) : Prop := Cond.static y ∈ zWS ∧ Cond.initialized y.cls ∈ zWS ∧ Cond.codeWith y cc maxL (some .int) hh ∈ zWS ∧ (y.cls ≠ "java/lang/invoke/MethodHandle" ∧ y.cls ≠ "java/lang/invoke/VarHandle") ∧ (parseMethodDescriptor y.desc).map (fun d => d.parameters.length) = some n ∧ maxL ≤ 18
theorem m_1000 : Cond.methodLink RL 101 yX3_buyCandles ∈ zWS := zws_in 1000 (by decide +kernel) (by decide +kernel)
theorem m_1009 : Cond.methodLink RL 104 yX3_bakeCakes ∈ zWS := zws_in 1009 (by decide +kernel) (by decide +kernel)
theorem m_1018 : Cond.methodLink RL 107 yX3_restore ∈ zWS := zws_in 1018 (by decide +kernel) (by decide +kernel)
theorem m_1038 : Cond.methodLink RL 110 yX3_undo ∈ zWS := zws_in 1038 (by decide +kernel) (by decide +kernel)
theorem m_1053 : Cond.methodLink RL 114 yX3_save ∈ zWS := zws_in 1053 (by decide +kernel) (by decide +kernel)
theorem m_1060 : Cond.methodLink RL 117 yX3_writeChild ∈ zWS := zws_in 1060 (by decide +kernel) (by decide +kernel)
theorem m_1072 : Cond.methodLink RL 120 yX3_outputByte ∈ zWS := zws_in 1072 (by decide +kernel) (by decide +kernel)
theorem m_652 : Cond.classLink RL 13 "java/lang/IllegalStateException" ∈ zWS := zws_in 652 (by decide +kernel) (by decide +kernel)
theorem m_653 : Cond.methodLink RL 7 yX3_append ∈ zWS := zws_in 653 (by decide +kernel) (by decide +kernel)
theorem m_731 : Cond.classLink RL 19 "java/lang/IndexOutOfBoundsException" ∈ zWS := zws_in 731 (by decide +kernel) (by decide +kernel)
theorem m_732 : Cond.classLink RL 21 "java/lang/IllegalArgumentException" ∈ zWS := zws_in 732 (by decide +kernel) (by decide +kernel)
theorem m_733 : Cond.methodLink RL 15 yX3_load ∈ zWS := zws_in 733 (by decide +kernel) (by decide +kernel)
theorem m_776 : Cond.methodLink RL 23 yX3_cakes ∈ zWS := zws_in 776 (by decide +kernel) (by decide +kernel)
theorem m_787 : Cond.methodLink RL 26 yX3_seatsOf ∈ zWS := zws_in 787 (by decide +kernel) (by decide +kernel)
theorem m_799 : Cond.methodLink RL 29 yX3_childrenOf ∈ zWS := zws_in 799 (by decide +kernel) (by decide +kernel)
theorem m_807 : Cond.methodLink RL 32 yX3_partyIn ∈ zWS := zws_in 807 (by decide +kernel) (by decide +kernel)
theorem m_819 : Cond.methodLink RL 36 yX3_cakeOf ∈ zWS := zws_in 819 (by decide +kernel) (by decide +kernel)
theorem m_831 : Cond.methodLink RL 39 yX3_breathOf ∈ zWS := zws_in 831 (by decide +kernel) (by decide +kernel)
theorem m_838 : Cond.methodLink RL 42 yX3_ageOf ∈ zWS := zws_in 838 (by decide +kernel) (by decide +kernel)
theorem m_845 : Cond.methodLink RL 45 yX3_gardenOf ∈ zWS := zws_in 845 (by decide +kernel) (by decide +kernel)
theorem m_852 : Cond.methodLink RL 48 yX3_birthdayOf ∈ zWS := zws_in 852 (by decide +kernel) (by decide +kernel)
theorem m_859 : Cond.methodLink RL 51 yX3_daysUntilBirthday ∈ zWS := zws_in 859 (by decide +kernel) (by decide +kernel)
theorem m_866 : Cond.methodLink RL 54 yX3_partiesOf ∈ zWS := zws_in 866 (by decide +kernel) (by decide +kernel)
theorem m_873 : Cond.methodLink RL 57 yX3_wishesOf ∈ zWS := zws_in 873 (by decide +kernel) (by decide +kernel)
theorem m_880 : Cond.methodLink RL 60 yX3_strengthOf ∈ zWS := zws_in 880 (by decide +kernel) (by decide +kernel)
theorem m_888 : Cond.methodLink RL 63 yX3_childrenOn ∈ zWS := zws_in 888 (by decide +kernel) (by decide +kernel)
theorem m_895 : Cond.methodLink RL 67 yX3_dateAt ∈ zWS := zws_in 895 (by decide +kernel) (by decide +kernel)
theorem m_902 : Cond.methodLink RL 70 yX3_obstacle ∈ zWS := zws_in 902 (by decide +kernel) (by decide +kernel)
theorem m_910 : Cond.methodLink RL 74 yX3_freeGarden ∈ zWS := zws_in 910 (by decide +kernel) (by decide +kernel)
theorem m_917 : Cond.methodLink RL 77 yX3_drawsNeeded ∈ zWS := zws_in 917 (by decide +kernel) (by decide +kernel)
theorem m_925 : Cond.methodLink RL 80 yX3_candlesAfter ∈ zWS := zws_in 925 (by decide +kernel) (by decide +kernel)
theorem m_941 : Cond.methodLink RL 83 yX3_wishesAfter ∈ zWS := zws_in 941 (by decide +kernel) (by decide +kernel)
theorem m_948 : Cond.methodLink RL 86 yX3_advance ∈ zWS := zws_in 948 (by decide +kernel) (by decide +kernel)
theorem m_967 : Cond.methodLink RL 89 yX3_draw ∈ zWS := zws_in 967 (by decide +kernel) (by decide +kernel)
theorem m_976 : Cond.methodLink RL 92 yX3_setBirthday ∈ zWS := zws_in 976 (by decide +kernel) (by decide +kernel)
theorem m_985 : Cond.methodLink RL 95 yX3_forgetBirthday ∈ zWS := zws_in 985 (by decide +kernel) (by decide +kernel)
theorem m_992 : Cond.methodLink RL 98 yX3_moveTo ∈ zWS := zws_in 992 (by decide +kernel) (by decide +kernel)
theorem k_X3_advance : zcal yX3_advance cX3_advance 2 (some .int) 1 := ⟨zws_in 949 (by decide +kernel) (by decide +kernel), zws_in 950 (by decide +kernel) (by decide +kernel), zws_in 83 (by decide +kernel) (by decide +kernel), zws_in 951 (by decide +kernel) (by decide +kernel), ⟨by decide +kernel, by decide +kernel⟩, by decide +kernel, by decide⟩
theorem k_X3_ageOf : zcal yX3_ageOf cX3_ageOf 2 (some .int) 1 := ⟨zws_in 839 (by decide +kernel) (by decide +kernel), zws_in 840 (by decide +kernel) (by decide +kernel), zws_in 83 (by decide +kernel) (by decide +kernel), zws_in 841 (by decide +kernel) (by decide +kernel), ⟨by decide +kernel, by decide +kernel⟩, by decide +kernel, by decide⟩
theorem k_X3_append : zcal yX3_append cX3_append 6 (some .int) 5 := ⟨zws_in 654 (by decide +kernel) (by decide +kernel), zws_in 655 (by decide +kernel) (by decide +kernel), zws_in 83 (by decide +kernel) (by decide +kernel), zws_in 656 (by decide +kernel) (by decide +kernel), ⟨by decide +kernel, by decide +kernel⟩, by decide +kernel, by decide⟩
theorem k_X3_bakeCakes : zcal yX3_bakeCakes cX3_bakeCakes 3 (some .int) 2 := ⟨zws_in 1010 (by decide +kernel) (by decide +kernel), zws_in 1011 (by decide +kernel) (by decide +kernel), zws_in 83 (by decide +kernel) (by decide +kernel), zws_in 1012 (by decide +kernel) (by decide +kernel), ⟨by decide +kernel, by decide +kernel⟩, by decide +kernel, by decide⟩
theorem k_X3_birthdayOf : zcal yX3_birthdayOf cX3_birthdayOf 2 (some .int) 1 := ⟨zws_in 853 (by decide +kernel) (by decide +kernel), zws_in 854 (by decide +kernel) (by decide +kernel), zws_in 83 (by decide +kernel) (by decide +kernel), zws_in 855 (by decide +kernel) (by decide +kernel), ⟨by decide +kernel, by decide +kernel⟩, by decide +kernel, by decide⟩
theorem k_X3_breathOf : zcal yX3_breathOf cX3_breathOf 2 (some .int) 1 := ⟨zws_in 832 (by decide +kernel) (by decide +kernel), zws_in 833 (by decide +kernel) (by decide +kernel), zws_in 83 (by decide +kernel) (by decide +kernel), zws_in 834 (by decide +kernel) (by decide +kernel), ⟨by decide +kernel, by decide +kernel⟩, by decide +kernel, by decide⟩
theorem k_X3_buyCandles : zcal yX3_buyCandles cX3_buyCandles 2 (some .int) 1 := ⟨zws_in 1001 (by decide +kernel) (by decide +kernel), zws_in 1002 (by decide +kernel) (by decide +kernel), zws_in 83 (by decide +kernel) (by decide +kernel), zws_in 1003 (by decide +kernel) (by decide +kernel), ⟨by decide +kernel, by decide +kernel⟩, by decide +kernel, by decide⟩
theorem k_X3_cakeOf : zcal yX3_cakeOf cX3_cakeOf 2 (some .int) 1 := ⟨zws_in 820 (by decide +kernel) (by decide +kernel), zws_in 821 (by decide +kernel) (by decide +kernel), zws_in 83 (by decide +kernel) (by decide +kernel), zws_in 822 (by decide +kernel) (by decide +kernel), ⟨by decide +kernel, by decide +kernel⟩, by decide +kernel, by decide⟩
theorem k_X3_cakes : zcal yX3_cakes cX3_cakes 2 (some .int) 1 := ⟨zws_in 777 (by decide +kernel) (by decide +kernel), zws_in 778 (by decide +kernel) (by decide +kernel), zws_in 83 (by decide +kernel) (by decide +kernel), zws_in 779 (by decide +kernel) (by decide +kernel), ⟨by decide +kernel, by decide +kernel⟩, by decide +kernel, by decide⟩
theorem k_X3_candlesAfter : zcal yX3_candlesAfter cX3_candlesAfter 2 (some .int) 1 := ⟨zws_in 926 (by decide +kernel) (by decide +kernel), zws_in 927 (by decide +kernel) (by decide +kernel), zws_in 83 (by decide +kernel) (by decide +kernel), zws_in 928 (by decide +kernel) (by decide +kernel), ⟨by decide +kernel, by decide +kernel⟩, by decide +kernel, by decide⟩
theorem k_X3_childrenOf : zcal yX3_childrenOf cX3_childrenOf 2 (some .int) 1 := ⟨zws_in 800 (by decide +kernel) (by decide +kernel), zws_in 801 (by decide +kernel) (by decide +kernel), zws_in 83 (by decide +kernel) (by decide +kernel), zws_in 802 (by decide +kernel) (by decide +kernel), ⟨by decide +kernel, by decide +kernel⟩, by decide +kernel, by decide⟩
theorem k_X3_childrenOn : zcal yX3_childrenOn cX3_childrenOn 3 (some .int) 2 := ⟨zws_in 889 (by decide +kernel) (by decide +kernel), zws_in 890 (by decide +kernel) (by decide +kernel), zws_in 83 (by decide +kernel) (by decide +kernel), zws_in 891 (by decide +kernel) (by decide +kernel), ⟨by decide +kernel, by decide +kernel⟩, by decide +kernel, by decide⟩
theorem k_X3_dateAt : zcal yX3_dateAt cX3_dateAt 4 (some .int) 1 := ⟨zws_in 896 (by decide +kernel) (by decide +kernel), zws_in 897 (by decide +kernel) (by decide +kernel), zws_in 83 (by decide +kernel) (by decide +kernel), zws_in 898 (by decide +kernel) (by decide +kernel), ⟨by decide +kernel, by decide +kernel⟩, by decide +kernel, by decide⟩
theorem k_X3_daysUntilBirthday : zcal yX3_daysUntilBirthday cX3_daysUntilBirthday 3 (some .int) 1 := ⟨zws_in 860 (by decide +kernel) (by decide +kernel), zws_in 861 (by decide +kernel) (by decide +kernel), zws_in 83 (by decide +kernel) (by decide +kernel), zws_in 862 (by decide +kernel) (by decide +kernel), ⟨by decide +kernel, by decide +kernel⟩, by decide +kernel, by decide⟩
theorem k_X3_draw : zcal yX3_draw cX3_draw 3 (some .int) 1 := ⟨zws_in 968 (by decide +kernel) (by decide +kernel), zws_in 969 (by decide +kernel) (by decide +kernel), zws_in 83 (by decide +kernel) (by decide +kernel), zws_in 970 (by decide +kernel) (by decide +kernel), ⟨by decide +kernel, by decide +kernel⟩, by decide +kernel, by decide⟩
theorem k_X3_drawsNeeded : zcal yX3_drawsNeeded cX3_drawsNeeded 2 (some .int) 1 := ⟨zws_in 918 (by decide +kernel) (by decide +kernel), zws_in 919 (by decide +kernel) (by decide +kernel), zws_in 83 (by decide +kernel) (by decide +kernel), zws_in 920 (by decide +kernel) (by decide +kernel), ⟨by decide +kernel, by decide +kernel⟩, by decide +kernel, by decide⟩
theorem k_X3_forgetBirthday : zcal yX3_forgetBirthday cX3_forgetBirthday 3 (some .int) 1 := ⟨zws_in 986 (by decide +kernel) (by decide +kernel), zws_in 987 (by decide +kernel) (by decide +kernel), zws_in 83 (by decide +kernel) (by decide +kernel), zws_in 988 (by decide +kernel) (by decide +kernel), ⟨by decide +kernel, by decide +kernel⟩, by decide +kernel, by decide⟩
theorem k_X3_freeGarden : zcal yX3_freeGarden cX3_freeGarden 6 (some .int) 3 := ⟨zws_in 911 (by decide +kernel) (by decide +kernel), zws_in 912 (by decide +kernel) (by decide +kernel), zws_in 83 (by decide +kernel) (by decide +kernel), zws_in 913 (by decide +kernel) (by decide +kernel), ⟨by decide +kernel, by decide +kernel⟩, by decide +kernel, by decide⟩
theorem k_X3_gardenOf : zcal yX3_gardenOf cX3_gardenOf 2 (some .int) 1 := ⟨zws_in 846 (by decide +kernel) (by decide +kernel), zws_in 847 (by decide +kernel) (by decide +kernel), zws_in 83 (by decide +kernel) (by decide +kernel), zws_in 848 (by decide +kernel) (by decide +kernel), ⟨by decide +kernel, by decide +kernel⟩, by decide +kernel, by decide⟩
theorem k_X3_load : zcal yX3_load cX3_load 3 (some .int) 1 := ⟨zws_in 734 (by decide +kernel) (by decide +kernel), zws_in 735 (by decide +kernel) (by decide +kernel), zws_in 83 (by decide +kernel) (by decide +kernel), zws_in 736 (by decide +kernel) (by decide +kernel), ⟨by decide +kernel, by decide +kernel⟩, by decide +kernel, by decide⟩
theorem k_X3_moveTo : zcal yX3_moveTo cX3_moveTo 5 (some .int) 2 := ⟨zws_in 993 (by decide +kernel) (by decide +kernel), zws_in 994 (by decide +kernel) (by decide +kernel), zws_in 83 (by decide +kernel) (by decide +kernel), zws_in 995 (by decide +kernel) (by decide +kernel), ⟨by decide +kernel, by decide +kernel⟩, by decide +kernel, by decide⟩
theorem k_X3_obstacle : zcal yX3_obstacle cX3_obstacle 5 (some .int) 4 := ⟨zws_in 903 (by decide +kernel) (by decide +kernel), zws_in 904 (by decide +kernel) (by decide +kernel), zws_in 83 (by decide +kernel) (by decide +kernel), zws_in 905 (by decide +kernel) (by decide +kernel), ⟨by decide +kernel, by decide +kernel⟩, by decide +kernel, by decide⟩
theorem k_X3_outputByte : zcal yX3_outputByte cX3_outputByte 2 (some .int) 1 := ⟨zws_in 1073 (by decide +kernel) (by decide +kernel), zws_in 1074 (by decide +kernel) (by decide +kernel), zws_in 83 (by decide +kernel) (by decide +kernel), zws_in 1075 (by decide +kernel) (by decide +kernel), ⟨by decide +kernel, by decide +kernel⟩, by decide +kernel, by decide⟩
theorem k_X3_partiesOf : zcal yX3_partiesOf cX3_partiesOf 2 (some .int) 1 := ⟨zws_in 867 (by decide +kernel) (by decide +kernel), zws_in 868 (by decide +kernel) (by decide +kernel), zws_in 83 (by decide +kernel) (by decide +kernel), zws_in 869 (by decide +kernel) (by decide +kernel), ⟨by decide +kernel, by decide +kernel⟩, by decide +kernel, by decide⟩
theorem k_X3_partyIn : zcal yX3_partyIn cX3_partyIn 6 (some .int) 3 := ⟨zws_in 808 (by decide +kernel) (by decide +kernel), zws_in 809 (by decide +kernel) (by decide +kernel), zws_in 83 (by decide +kernel) (by decide +kernel), zws_in 810 (by decide +kernel) (by decide +kernel), ⟨by decide +kernel, by decide +kernel⟩, by decide +kernel, by decide⟩
theorem k_X3_restore : zcal yX3_restore cX3_restore 3 (some .int) 1 := ⟨zws_in 1019 (by decide +kernel) (by decide +kernel), zws_in 1020 (by decide +kernel) (by decide +kernel), zws_in 83 (by decide +kernel) (by decide +kernel), zws_in 1021 (by decide +kernel) (by decide +kernel), ⟨by decide +kernel, by decide +kernel⟩, by decide +kernel, by decide⟩
theorem k_X3_save : zcal yX3_save cX3_save 3 (some .int) 1 := ⟨zws_in 1054 (by decide +kernel) (by decide +kernel), zws_in 1055 (by decide +kernel) (by decide +kernel), zws_in 83 (by decide +kernel) (by decide +kernel), zws_in 1056 (by decide +kernel) (by decide +kernel), ⟨by decide +kernel, by decide +kernel⟩, by decide +kernel, by decide⟩
theorem k_X3_seatsOf : zcal yX3_seatsOf cX3_seatsOf 2 (some .int) 1 := ⟨zws_in 788 (by decide +kernel) (by decide +kernel), zws_in 789 (by decide +kernel) (by decide +kernel), zws_in 83 (by decide +kernel) (by decide +kernel), zws_in 790 (by decide +kernel) (by decide +kernel), ⟨by decide +kernel, by decide +kernel⟩, by decide +kernel, by decide⟩
theorem k_X3_setBirthday : zcal yX3_setBirthday cX3_setBirthday 5 (some .int) 3 := ⟨zws_in 977 (by decide +kernel) (by decide +kernel), zws_in 978 (by decide +kernel) (by decide +kernel), zws_in 83 (by decide +kernel) (by decide +kernel), zws_in 979 (by decide +kernel) (by decide +kernel), ⟨by decide +kernel, by decide +kernel⟩, by decide +kernel, by decide⟩
theorem k_X3_strengthOf : zcal yX3_strengthOf cX3_strengthOf 2 (some .int) 1 := ⟨zws_in 881 (by decide +kernel) (by decide +kernel), zws_in 882 (by decide +kernel) (by decide +kernel), zws_in 83 (by decide +kernel) (by decide +kernel), zws_in 883 (by decide +kernel) (by decide +kernel), ⟨by decide +kernel, by decide +kernel⟩, by decide +kernel, by decide⟩
theorem k_X3_undo : zcal yX3_undo cX3_undo 1 (some .int) 0 := ⟨zws_in 1039 (by decide +kernel) (by decide +kernel), zws_in 1040 (by decide +kernel) (by decide +kernel), zws_in 83 (by decide +kernel) (by decide +kernel), zws_in 1041 (by decide +kernel) (by decide +kernel), ⟨by decide +kernel, by decide +kernel⟩, by decide +kernel, by decide⟩
theorem k_X3_wishesAfter : zcal yX3_wishesAfter cX3_wishesAfter 3 (some .int) 2 := ⟨zws_in 942 (by decide +kernel) (by decide +kernel), zws_in 943 (by decide +kernel) (by decide +kernel), zws_in 83 (by decide +kernel) (by decide +kernel), zws_in 944 (by decide +kernel) (by decide +kernel), ⟨by decide +kernel, by decide +kernel⟩, by decide +kernel, by decide⟩
theorem k_X3_wishesOf : zcal yX3_wishesOf cX3_wishesOf 2 (some .int) 1 := ⟨zws_in 874 (by decide +kernel) (by decide +kernel), zws_in 875 (by decide +kernel) (by decide +kernel), zws_in 83 (by decide +kernel) (by decide +kernel), zws_in 876 (by decide +kernel) (by decide +kernel), ⟨by decide +kernel, by decide +kernel⟩, by decide +kernel, by decide⟩
theorem k_X3_writeChild : zcal yX3_writeChild cX3_writeChild 3 (some .int) 1 := ⟨zws_in 1061 (by decide +kernel) (by decide +kernel), zws_in 1062 (by decide +kernel) (by decide +kernel), zws_in 83 (by decide +kernel) (by decide +kernel), zws_in 1063 (by decide +kernel) (by decide +kernel), ⟨by decide +kernel, by decide +kernel⟩, by decide +kernel, by decide⟩
theorem kw_append : zcaw yL_append cL_append 8 [(0, 16, 19, 13)] 7 := ⟨zws_in 650 (by decide +kernel) (by decide +kernel), zws_in 82 (by decide +kernel) (by decide +kernel), zws_in 651 (by decide +kernel) (by decide +kernel), ⟨by decide +kernel, by decide +kernel⟩, by decide +kernel, by decide⟩
set_option maxHeartbeats 4000000 in
set_option maxRecDepth 100000 in
theorem cw_append (p0 : Int32) (p1 : Int32) (p2 : Int32) (p3 : Int32) (p4 : Int32) (T T' : zT) (v : Int32 ⊕ Nat) (hf : f_X3_append p0 p1 p2 p3 p4 T = some (v, T')) (hv : ∀ n, v = .inr n → n = 0) : zCl yL_append cL_append 8 [(0, 16, 19, 13)] 7 1 6 (fun G o => [.ref (G 0 0), .int p0, .int p1, .int p2, .int p3, .int p4, .ref o]) T v (fun n => 1) T' := by
  intro l D Y S V G A cL o f hl9 hG ho hGo
  refine vx_ofWH (cc := cL_append) (maxL := 8) (ret := some .int) (hh := [(0, 16, 19, 13)]) (by decide) rfl ?_
  intro p e s m args below meth c s₁ B hml hv9
  obtain ⟨rfl, hK, hP, hO, hA⟩ := hv9
  have hx := B.exec
  have hb := B.bytes
  have hr := B.returns
  have hlocks := B.notSynchronized
  have hown : s.vm.findClass RL = some m.cls := findClass_of_methodNamed B.named
  have hts := atoms_spec (ws := Cond.codeWith yL_append cL_append 8 (some .int) [(0, 16, 19, 13)] :: zWS) B.pre
  have htab := vx_table (x := yL_append) B (hts _ List.mem_cons_self)
  have hS : va_S A s.heap s.heap [] := va_S.rf
  have hl := lv_entry ([.ref (G 0 0), .int p0, .int p1, .int p2, .int p3, .int p4, .ref o]) (n := 8) (Nat.le_of_ble_eq_true rfl)
  rw [lg_entry_eq]
  generalize (lg_sl ([.ref (G 0 0), .int p0, .int p1, .int p2, .int p3, .int p4, .ref o]) ++ List.replicate (8 - (lg_sl ([.ref (G 0 0), .int p0, .int p1, .int p2, .int p3, .int p4, .ref o])).length) Slot.unset).toArray = ls at hl ⊢
  have hl : lv_has ls 8 [(0, .ref (G 0 0)), (1, .int p0), (2, .int p1), (3, .int p2), (4, .int p3), (5, .int p4), (6, .ref o)] := hl
  have hol : o < s.heap.size := va_at.lt hO
  obtain ⟨A1, eA⟩ : ∃ z : Nat → Prop, z = fun q => A q ∧ q ≠ o := ⟨_, rfl⟩
  have hAB : ∀ q, A1 q → A q := fun q h => by rw [eA] at h; exact h.1
  have hoA : ¬ A1 o := fun h => by rw [eA] at h; exact h.2 rfl
  have hG1 : zG 0 G A1 := ⟨hG.1, fun κ ι hV => by rw [eA]; exact ⟨hG.2 κ ι hV, hGo κ ι hV⟩⟩
  have hA1 : ∀ q, s.heap.size ≤ q → A1 q := fun q hq => by rw [eA]; exact ⟨hA q hq, fun e => by omega⟩
  have F : zFs 0 7 1 6 p l s m _ c cL_append 8 RL (Cond.codeWith yL_append cL_append 8 (some .int) [(0, 16, 19, 13)]) D Y S V G A A1 s.heap := ⟨⟨hx, hb, hml, hown, hts, hl9⟩, hG1, hK.1, hAB, hA1⟩
  refine lv_aload hx hb dL_append_0 (lv_at hl 6 rfl) ?_
  refine lv_iconst (v := 0) hx hb dL_append_2 (by decide) ?_
  refine lv_aload_n hx hb dL_append_3 rfl (lv_at hl 0 rfl) ?_
  refine lv_iload_n hx hb dL_append_4 rfl (lv_at hl 1 rfl) ?_
  refine lv_iload_n hx hb dL_append_5 rfl (lv_at hl 2 rfl) ?_
  refine lv_iload_n hx hb dL_append_6 rfl (lv_at hl 3 rfl) ?_
  refine lv_iload hx hb dL_append_7 (lv_at hl 4 rfl) ?_
  refine lv_iload hx hb dL_append_9 (lv_at hl 5 rfl) ?_
  have run := z_runVs (p := p) (e := e) (below := below) (meth := meth) (cells := 0) (slots := 0) (ls := ls) (As := [.int p0, .int p1, .int p2, .int p3, .int p4]) (rest := [.int 0, .ref o]) F k_X3_append m_653 (c_X3_append p0 p1 p2 p3 p4 T T' v hf) hP hS (zV_0 (by decide)) rfl rfl rfl rfl hl.1 (Nat.le_of_ble_eq_true rfl) dL_append_11 (Nat.le_of_ble_eq_true rfl) ⟨(Nat.le_of_ble_eq_true rfl), (Nat.le_of_ble_eq_true rfl)⟩ rfl
  rcases v with r | n
  · refine z_oks run hS hAB (fun H locs hP hz hk hS => ?_)
    have hO : zOw D cL o f H := va_at.kept hO (hk o hol hoA)
    refine lv_i2l (v := r.toInt64) hx hb dL_append_14 rfl ?_
    refine z_lastO hx hb hK.2.1 hP hO hG ho hGo hS dL_append_15 (fun H locs f' hf' hP hO hS => ?_)
    refine lv_goto (tgt := 23) hx hb dL_append_16 (by decide) ?_
    refine lv_iconst (v := 0) hx hb dL_append_23 (by decide) ?_
    exact z_lend hx hb hr hP hO ⟨rfl, hf'⟩ hS hlocks (Nat.le_of_ble_eq_true rfl) (Nat.le_of_ble_eq_true rfl) dL_append_24
  · obtain rfl := hv n rfl
    refine z_exs (E := "java/lang/IllegalStateException") run hS hAB (fun ce q9 H locs hP hz hk hS hce hcv hcl => ?_)
    have hO : zOw D cL o f H := va_at.kept hO (hk o hol hoA)
    refine vx_catch (own := RL) (name := "java/lang/IllegalStateException") (E := "java/lang/IllegalStateException") hown [] ⟨0, 16, 19, 13⟩ [] (htab.trans rfl) (fun z hz => by cases hz) (by decide) (by decide) (hts _ (List.mem_cons_of_mem _ m_652)) (va_Nw.use rfl (hK.1.2.2.2.2.2.2.2.2.2.2 "java/lang/IllegalStateException" (by decide))) hce hcv hcl ?_
    refine lv_astore (lv' := [(7, .ref q9), (0, .ref (G 0 0)), (1, .int p0), (2, .int p1), (3, .int p2), (4, .int p3), (5, .int p4), (6, .ref o)]) hx hb dL_append_19 hl (by decide) rfl (fun ls hl => ?_)
    refine lv_iconst (v := 1) hx hb dL_append_21 (by decide) ?_
    exact z_lend hx hb hr hP hO rfl hS hlocks (Nat.le_of_ble_eq_true rfl) (Nat.le_of_ble_eq_true rfl) dL_append_22
theorem kw_load : zcaw yL_load cL_load 4 [(0, 9, 12, 19), (0, 9, 15, 21)] 3 := ⟨zws_in 729 (by decide +kernel) (by decide +kernel), zws_in 82 (by decide +kernel) (by decide +kernel), zws_in 730 (by decide +kernel) (by decide +kernel), ⟨by decide +kernel, by decide +kernel⟩, by decide +kernel, by decide⟩
set_option maxHeartbeats 4000000 in
set_option maxRecDepth 100000 in
theorem cw_load (p0 : Int32) (T T' : zT) (v : Int32 ⊕ Nat) (hf : f_X3_load p0 T = some (v, T')) (hv : ∀ n, v = .inr n → n = 2 ∨ n = 1) : zCl yL_load cL_load 4 [(0, 9, 12, 19), (0, 9, 15, 21)] 9 1 6 (fun G o => [.ref (G 0 0), .int p0, .ref o]) T v (fun n => if n = 2 then 1 else 2) T' := by
  intro l D Y S V G A cL o f hl9 hG ho hGo
  refine vx_ofWH (cc := cL_load) (maxL := 4) (ret := some .int) (hh := [(0, 9, 12, 19), (0, 9, 15, 21)]) (by decide) rfl ?_
  intro p e s m args below meth c s₁ B hml hv9
  obtain ⟨rfl, hK, hP, hO, hA⟩ := hv9
  have hx := B.exec
  have hb := B.bytes
  have hr := B.returns
  have hlocks := B.notSynchronized
  have hown : s.vm.findClass RL = some m.cls := findClass_of_methodNamed B.named
  have hts := atoms_spec (ws := Cond.codeWith yL_load cL_load 4 (some .int) [(0, 9, 12, 19), (0, 9, 15, 21)] :: zWS) B.pre
  have htab := vx_table (x := yL_load) B (hts _ List.mem_cons_self)
  have hS : va_S A s.heap s.heap [] := va_S.rf
  have hl := lv_entry ([.ref (G 0 0), .int p0, .ref o]) (n := 4) (Nat.le_of_ble_eq_true rfl)
  rw [lg_entry_eq]
  generalize (lg_sl ([.ref (G 0 0), .int p0, .ref o]) ++ List.replicate (4 - (lg_sl ([.ref (G 0 0), .int p0, .ref o])).length) Slot.unset).toArray = ls at hl ⊢
  have hl : lv_has ls 4 [(0, .ref (G 0 0)), (1, .int p0), (2, .ref o)] := hl
  have hol : o < s.heap.size := va_at.lt hO
  obtain ⟨A1, eA⟩ : ∃ z : Nat → Prop, z = fun q => A q ∧ q ≠ o := ⟨_, rfl⟩
  have hAB : ∀ q, A1 q → A q := fun q h => by rw [eA] at h; exact h.1
  have hoA : ¬ A1 o := fun h => by rw [eA] at h; exact h.2 rfl
  have hG1 : zG 0 G A1 := ⟨hG.1, fun κ ι hV => by rw [eA]; exact ⟨hG.2 κ ι hV, hGo κ ι hV⟩⟩
  have hA1 : ∀ q, s.heap.size ≤ q → A1 q := fun q hq => by rw [eA]; exact ⟨hA q hq, fun e => by omega⟩
  have F : zFs 0 9 1 6 p l s m _ c cL_load 4 RL (Cond.codeWith yL_load cL_load 4 (some .int) [(0, 9, 12, 19), (0, 9, 15, 21)]) D Y S V G A A1 s.heap := ⟨⟨hx, hb, hml, hown, hts, hl9⟩, hG1, hK.1, hAB, hA1⟩
  refine lv_aload_n hx hb dL_load_0 rfl (lv_at hl 2 rfl) ?_
  refine lv_iconst (v := 0) hx hb dL_load_1 (by decide) ?_
  refine lv_aload_n hx hb dL_load_2 rfl (lv_at hl 0 rfl) ?_
  refine lv_iload_n hx hb dL_load_3 rfl (lv_at hl 1 rfl) ?_
  have run := z_runVs (p := p) (e := e) (below := below) (meth := meth) (cells := 0) (slots := 0) (ls := ls) (As := [.int p0]) (rest := [.int 0, .ref o]) F k_X3_load m_733 (c_X3_load p0 T T' v hf) hP hS (zV_0 (by decide)) rfl rfl rfl rfl hl.1 (Nat.le_of_ble_eq_true rfl) dL_load_4 (Nat.le_of_ble_eq_true rfl) ⟨(Nat.le_of_ble_eq_true rfl), (Nat.le_of_ble_eq_true rfl)⟩ rfl
  rcases v with r | n
  · refine z_oks run hS hAB (fun H locs hP hz hk hS => ?_)
    have hO : zOw D cL o f H := va_at.kept hO (hk o hol hoA)
    refine lv_i2l (v := r.toInt64) hx hb dL_load_7 rfl ?_
    refine z_lastO hx hb hK.2.1 hP hO hG ho hGo hS dL_load_8 (fun H locs f' hf' hP hO hS => ?_)
    refine lv_goto (tgt := 18) hx hb dL_load_9 (by decide) ?_
    refine lv_iconst (v := 0) hx hb dL_load_18 (by decide) ?_
    exact z_lend hx hb hr hP hO ⟨rfl, hf'⟩ hS hlocks (Nat.le_of_ble_eq_true rfl) (Nat.le_of_ble_eq_true rfl) dL_load_19
  · rcases hv n rfl with rfl | rfl
    · refine z_exs (E := "java/lang/IndexOutOfBoundsException") run hS hAB (fun ce q9 H locs hP hz hk hS hce hcv hcl => ?_)
      have hO : zOw D cL o f H := va_at.kept hO (hk o hol hoA)
      refine vx_catch (own := RL) (name := "java/lang/IndexOutOfBoundsException") (E := "java/lang/IndexOutOfBoundsException") hown [] ⟨0, 9, 12, 19⟩ [⟨0, 9, 15, 21⟩] (htab.trans rfl) (fun z hz => by cases hz) (by decide) (by decide) (hts _ (List.mem_cons_of_mem _ m_731)) (va_Nw.use rfl (hK.1.2.2.2.2.2.2.2.2.2.2 "java/lang/IndexOutOfBoundsException" (by decide))) hce hcv hcl ?_
      refine lv_astore_n (lv' := [(3, .ref q9), (0, .ref (G 0 0)), (1, .int p0), (2, .ref o)]) hx hb dL_load_12 rfl hl (by decide) rfl (fun ls hl => ?_)
      refine lv_iconst (v := 1) hx hb dL_load_13 (by decide) ?_
      exact z_lend hx hb hr hP hO rfl hS hlocks (Nat.le_of_ble_eq_true rfl) (Nat.le_of_ble_eq_true rfl) dL_load_14
    · refine z_exs (E := "java/lang/IllegalArgumentException") run hS hAB (fun ce q9 H locs hP hz hk hS hce hcv hcl => ?_)
      have hO : zOw D cL o f H := va_at.kept hO (hk o hol hoA)
      refine vx_catch (own := RL) (name := "java/lang/IllegalArgumentException") (E := "java/lang/IllegalArgumentException") hown [⟨0, 9, 12, 19⟩] ⟨0, 9, 15, 21⟩ [] (htab.trans rfl) (fun z hz => by obtain rfl := List.mem_singleton.mp hz; exact Or.inr ⟨by decide, "java/lang/IndexOutOfBoundsException", hts _ (List.mem_cons_of_mem _ m_731), hK.2.2 ("java/lang/IllegalArgumentException", "java/lang/IndexOutOfBoundsException") (by decide)⟩) (by decide) (by decide) (hts _ (List.mem_cons_of_mem _ m_732)) (va_Nw.use rfl (hK.1.2.2.2.2.2.2.2.2.2.2 "java/lang/IllegalArgumentException" (by decide))) hce hcv hcl ?_
      refine lv_astore_n (lv' := [(3, .ref q9), (0, .ref (G 0 0)), (1, .int p0), (2, .ref o)]) hx hb dL_load_15 rfl hl (by decide) rfl (fun ls hl => ?_)
      refine lv_iconst (v := 2) hx hb dL_load_16 (by decide) ?_
      exact z_lend hx hb hr hP hO rfl hS hlocks (Nat.le_of_ble_eq_true rfl) (Nat.le_of_ble_eq_true rfl) dL_load_17
theorem kw_cakes : zcaw yL_cakes cL_cakes 4 [(0, 9, 12, 21)] 3 := ⟨zws_in 774 (by decide +kernel) (by decide +kernel), zws_in 82 (by decide +kernel) (by decide +kernel), zws_in 775 (by decide +kernel) (by decide +kernel), ⟨by decide +kernel, by decide +kernel⟩, by decide +kernel, by decide⟩
set_option maxHeartbeats 4000000 in
set_option maxRecDepth 100000 in
theorem cw_cakes (p0 : Int32) (T T' : zT) (v : Int32 ⊕ Nat) (hf : f_X3_cakes p0 T = some (v, T')) (hv : ∀ n, v = .inr n → n = 1) : zCl yL_cakes cL_cakes 4 [(0, 9, 12, 21)] 8 1 6 (fun G o => [.ref (G 0 0), .int p0, .ref o]) T v (fun n => 1) T' := by
  intro l D Y S V G A cL o f hl9 hG ho hGo
  refine vx_ofWH (cc := cL_cakes) (maxL := 4) (ret := some .int) (hh := [(0, 9, 12, 21)]) (by decide) rfl ?_
  intro p e s m args below meth c s₁ B hml hv9
  obtain ⟨rfl, hK, hP, hO, hA⟩ := hv9
  have hx := B.exec
  have hb := B.bytes
  have hr := B.returns
  have hlocks := B.notSynchronized
  have hown : s.vm.findClass RL = some m.cls := findClass_of_methodNamed B.named
  have hts := atoms_spec (ws := Cond.codeWith yL_cakes cL_cakes 4 (some .int) [(0, 9, 12, 21)] :: zWS) B.pre
  have htab := vx_table (x := yL_cakes) B (hts _ List.mem_cons_self)
  have hS : va_S A s.heap s.heap [] := va_S.rf
  have hl := lv_entry ([.ref (G 0 0), .int p0, .ref o]) (n := 4) (Nat.le_of_ble_eq_true rfl)
  rw [lg_entry_eq]
  generalize (lg_sl ([.ref (G 0 0), .int p0, .ref o]) ++ List.replicate (4 - (lg_sl ([.ref (G 0 0), .int p0, .ref o])).length) Slot.unset).toArray = ls at hl ⊢
  have hl : lv_has ls 4 [(0, .ref (G 0 0)), (1, .int p0), (2, .ref o)] := hl
  have hol : o < s.heap.size := va_at.lt hO
  obtain ⟨A1, eA⟩ : ∃ z : Nat → Prop, z = fun q => A q ∧ q ≠ o := ⟨_, rfl⟩
  have hAB : ∀ q, A1 q → A q := fun q h => by rw [eA] at h; exact h.1
  have hoA : ¬ A1 o := fun h => by rw [eA] at h; exact h.2 rfl
  have hG1 : zG 0 G A1 := ⟨hG.1, fun κ ι hV => by rw [eA]; exact ⟨hG.2 κ ι hV, hGo κ ι hV⟩⟩
  have hA1 : ∀ q, s.heap.size ≤ q → A1 q := fun q hq => by rw [eA]; exact ⟨hA q hq, fun e => by omega⟩
  have F : zFs 0 8 1 6 p l s m _ c cL_cakes 4 RL (Cond.codeWith yL_cakes cL_cakes 4 (some .int) [(0, 9, 12, 21)]) D Y S V G A A1 s.heap := ⟨⟨hx, hb, hml, hown, hts, hl9⟩, hG1, hK.1, hAB, hA1⟩
  refine lv_aload_n hx hb dL_cakes_0 rfl (lv_at hl 2 rfl) ?_
  refine lv_iconst (v := 0) hx hb dL_cakes_1 (by decide) ?_
  refine lv_aload_n hx hb dL_cakes_2 rfl (lv_at hl 0 rfl) ?_
  refine lv_iload_n hx hb dL_cakes_3 rfl (lv_at hl 1 rfl) ?_
  have run := z_runVs (p := p) (e := e) (below := below) (meth := meth) (cells := 0) (slots := 0) (ls := ls) (As := [.int p0]) (rest := [.int 0, .ref o]) F k_X3_cakes m_776 (c_X3_cakes p0 T T' v hf) hP hS (zV_0 (by decide)) rfl rfl rfl rfl hl.1 (Nat.le_of_ble_eq_true rfl) dL_cakes_4 (Nat.le_of_ble_eq_true rfl) ⟨(Nat.le_of_ble_eq_true rfl), (Nat.le_of_ble_eq_true rfl)⟩ rfl
  rcases v with r | n
  · refine z_oks run hS hAB (fun H locs hP hz hk hS => ?_)
    have hO : zOw D cL o f H := va_at.kept hO (hk o hol hoA)
    refine lv_i2l (v := r.toInt64) hx hb dL_cakes_7 rfl ?_
    refine z_lastO hx hb hK.2.1 hP hO hG ho hGo hS dL_cakes_8 (fun H locs f' hf' hP hO hS => ?_)
    refine lv_goto (tgt := 15) hx hb dL_cakes_9 (by decide) ?_
    refine lv_iconst (v := 0) hx hb dL_cakes_15 (by decide) ?_
    exact z_lend hx hb hr hP hO ⟨rfl, hf'⟩ hS hlocks (Nat.le_of_ble_eq_true rfl) (Nat.le_of_ble_eq_true rfl) dL_cakes_16
  · obtain rfl := hv n rfl
    refine z_exs (E := "java/lang/IllegalArgumentException") run hS hAB (fun ce q9 H locs hP hz hk hS hce hcv hcl => ?_)
    have hO : zOw D cL o f H := va_at.kept hO (hk o hol hoA)
    refine vx_catch (own := RL) (name := "java/lang/IllegalArgumentException") (E := "java/lang/IllegalArgumentException") hown [] ⟨0, 9, 12, 21⟩ [] (htab.trans rfl) (fun z hz => by cases hz) (by decide) (by decide) (hts _ (List.mem_cons_of_mem _ m_732)) (va_Nw.use rfl (hK.1.2.2.2.2.2.2.2.2.2.2 "java/lang/IllegalArgumentException" (by decide))) hce hcv hcl ?_
    refine lv_astore_n (lv' := [(3, .ref q9), (0, .ref (G 0 0)), (1, .int p0), (2, .ref o)]) hx hb dL_cakes_12 rfl hl (by decide) rfl (fun ls hl => ?_)
    refine lv_iconst (v := 1) hx hb dL_cakes_13 (by decide) ?_
    exact z_lend hx hb hr hP hO rfl hS hlocks (Nat.le_of_ble_eq_true rfl) (Nat.le_of_ble_eq_true rfl) dL_cakes_14
theorem kw_seatsOf : zcaw yL_seatsOf cL_seatsOf 4 [(0, 9, 12, 19)] 3 := ⟨zws_in 785 (by decide +kernel) (by decide +kernel), zws_in 82 (by decide +kernel) (by decide +kernel), zws_in 786 (by decide +kernel) (by decide +kernel), ⟨by decide +kernel, by decide +kernel⟩, by decide +kernel, by decide⟩
set_option maxHeartbeats 4000000 in
set_option maxRecDepth 100000 in
theorem cw_seatsOf (p0 : Int32) (T T' : zT) (v : Int32 ⊕ Nat) (hf : f_X3_seatsOf p0 T = some (v, T')) (hv : ∀ n, v = .inr n → n = 2) : zCl yL_seatsOf cL_seatsOf 4 [(0, 9, 12, 19)] 8 1 6 (fun G o => [.ref (G 0 0), .int p0, .ref o]) T v (fun n => 1) T' := by
  intro l D Y S V G A cL o f hl9 hG ho hGo
  refine vx_ofWH (cc := cL_seatsOf) (maxL := 4) (ret := some .int) (hh := [(0, 9, 12, 19)]) (by decide) rfl ?_
  intro p e s m args below meth c s₁ B hml hv9
  obtain ⟨rfl, hK, hP, hO, hA⟩ := hv9
  have hx := B.exec
  have hb := B.bytes
  have hr := B.returns
  have hlocks := B.notSynchronized
  have hown : s.vm.findClass RL = some m.cls := findClass_of_methodNamed B.named
  have hts := atoms_spec (ws := Cond.codeWith yL_seatsOf cL_seatsOf 4 (some .int) [(0, 9, 12, 19)] :: zWS) B.pre
  have htab := vx_table (x := yL_seatsOf) B (hts _ List.mem_cons_self)
  have hS : va_S A s.heap s.heap [] := va_S.rf
  have hl := lv_entry ([.ref (G 0 0), .int p0, .ref o]) (n := 4) (Nat.le_of_ble_eq_true rfl)
  rw [lg_entry_eq]
  generalize (lg_sl ([.ref (G 0 0), .int p0, .ref o]) ++ List.replicate (4 - (lg_sl ([.ref (G 0 0), .int p0, .ref o])).length) Slot.unset).toArray = ls at hl ⊢
  have hl : lv_has ls 4 [(0, .ref (G 0 0)), (1, .int p0), (2, .ref o)] := hl
  have hol : o < s.heap.size := va_at.lt hO
  obtain ⟨A1, eA⟩ : ∃ z : Nat → Prop, z = fun q => A q ∧ q ≠ o := ⟨_, rfl⟩
  have hAB : ∀ q, A1 q → A q := fun q h => by rw [eA] at h; exact h.1
  have hoA : ¬ A1 o := fun h => by rw [eA] at h; exact h.2 rfl
  have hG1 : zG 0 G A1 := ⟨hG.1, fun κ ι hV => by rw [eA]; exact ⟨hG.2 κ ι hV, hGo κ ι hV⟩⟩
  have hA1 : ∀ q, s.heap.size ≤ q → A1 q := fun q hq => by rw [eA]; exact ⟨hA q hq, fun e => by omega⟩
  have F : zFs 0 8 1 6 p l s m _ c cL_seatsOf 4 RL (Cond.codeWith yL_seatsOf cL_seatsOf 4 (some .int) [(0, 9, 12, 19)]) D Y S V G A A1 s.heap := ⟨⟨hx, hb, hml, hown, hts, hl9⟩, hG1, hK.1, hAB, hA1⟩
  refine lv_aload_n hx hb dL_seatsOf_0 rfl (lv_at hl 2 rfl) ?_
  refine lv_iconst (v := 0) hx hb dL_seatsOf_1 (by decide) ?_
  refine lv_aload_n hx hb dL_seatsOf_2 rfl (lv_at hl 0 rfl) ?_
  refine lv_iload_n hx hb dL_seatsOf_3 rfl (lv_at hl 1 rfl) ?_
  have run := z_runVs (p := p) (e := e) (below := below) (meth := meth) (cells := 0) (slots := 0) (ls := ls) (As := [.int p0]) (rest := [.int 0, .ref o]) F k_X3_seatsOf m_787 (c_X3_seatsOf p0 T T' v hf) hP hS (zV_0 (by decide)) rfl rfl rfl rfl hl.1 (Nat.le_of_ble_eq_true rfl) dL_seatsOf_4 (Nat.le_of_ble_eq_true rfl) ⟨(Nat.le_of_ble_eq_true rfl), (Nat.le_of_ble_eq_true rfl)⟩ rfl
  rcases v with r | n
  · refine z_oks run hS hAB (fun H locs hP hz hk hS => ?_)
    have hO : zOw D cL o f H := va_at.kept hO (hk o hol hoA)
    refine lv_i2l (v := r.toInt64) hx hb dL_seatsOf_7 rfl ?_
    refine z_lastO hx hb hK.2.1 hP hO hG ho hGo hS dL_seatsOf_8 (fun H locs f' hf' hP hO hS => ?_)
    refine lv_goto (tgt := 15) hx hb dL_seatsOf_9 (by decide) ?_
    refine lv_iconst (v := 0) hx hb dL_seatsOf_15 (by decide) ?_
    exact z_lend hx hb hr hP hO ⟨rfl, hf'⟩ hS hlocks (Nat.le_of_ble_eq_true rfl) (Nat.le_of_ble_eq_true rfl) dL_seatsOf_16
  · obtain rfl := hv n rfl
    refine z_exs (E := "java/lang/IndexOutOfBoundsException") run hS hAB (fun ce q9 H locs hP hz hk hS hce hcv hcl => ?_)
    have hO : zOw D cL o f H := va_at.kept hO (hk o hol hoA)
    refine vx_catch (own := RL) (name := "java/lang/IndexOutOfBoundsException") (E := "java/lang/IndexOutOfBoundsException") hown [] ⟨0, 9, 12, 19⟩ [] (htab.trans rfl) (fun z hz => by cases hz) (by decide) (by decide) (hts _ (List.mem_cons_of_mem _ m_731)) (va_Nw.use rfl (hK.1.2.2.2.2.2.2.2.2.2.2 "java/lang/IndexOutOfBoundsException" (by decide))) hce hcv hcl ?_
    refine lv_astore_n (lv' := [(3, .ref q9), (0, .ref (G 0 0)), (1, .int p0), (2, .ref o)]) hx hb dL_seatsOf_12 rfl hl (by decide) rfl (fun ls hl => ?_)
    refine lv_iconst (v := 1) hx hb dL_seatsOf_13 (by decide) ?_
    exact z_lend hx hb hr hP hO rfl hS hlocks (Nat.le_of_ble_eq_true rfl) (Nat.le_of_ble_eq_true rfl) dL_seatsOf_14
theorem kw_childrenOf : zcaw yL_childrenOf cL_childrenOf 4 [(0, 9, 12, 19)] 3 := ⟨zws_in 797 (by decide +kernel) (by decide +kernel), zws_in 82 (by decide +kernel) (by decide +kernel), zws_in 798 (by decide +kernel) (by decide +kernel), ⟨by decide +kernel, by decide +kernel⟩, by decide +kernel, by decide⟩
set_option maxHeartbeats 4000000 in
set_option maxRecDepth 100000 in
theorem cw_childrenOf (p0 : Int32) (T T' : zT) (v : Int32 ⊕ Nat) (hf : f_X3_childrenOf p0 T = some (v, T')) (hv : ∀ n, v = .inr n → n = 2) : zCl yL_childrenOf cL_childrenOf 4 [(0, 9, 12, 19)] 8 1 6 (fun G o => [.ref (G 0 0), .int p0, .ref o]) T v (fun n => 1) T' := by
  intro l D Y S V G A cL o f hl9 hG ho hGo
  refine vx_ofWH (cc := cL_childrenOf) (maxL := 4) (ret := some .int) (hh := [(0, 9, 12, 19)]) (by decide) rfl ?_
  intro p e s m args below meth c s₁ B hml hv9
  obtain ⟨rfl, hK, hP, hO, hA⟩ := hv9
  have hx := B.exec
  have hb := B.bytes
  have hr := B.returns
  have hlocks := B.notSynchronized
  have hown : s.vm.findClass RL = some m.cls := findClass_of_methodNamed B.named
  have hts := atoms_spec (ws := Cond.codeWith yL_childrenOf cL_childrenOf 4 (some .int) [(0, 9, 12, 19)] :: zWS) B.pre
  have htab := vx_table (x := yL_childrenOf) B (hts _ List.mem_cons_self)
  have hS : va_S A s.heap s.heap [] := va_S.rf
  have hl := lv_entry ([.ref (G 0 0), .int p0, .ref o]) (n := 4) (Nat.le_of_ble_eq_true rfl)
  rw [lg_entry_eq]
  generalize (lg_sl ([.ref (G 0 0), .int p0, .ref o]) ++ List.replicate (4 - (lg_sl ([.ref (G 0 0), .int p0, .ref o])).length) Slot.unset).toArray = ls at hl ⊢
  have hl : lv_has ls 4 [(0, .ref (G 0 0)), (1, .int p0), (2, .ref o)] := hl
  have hol : o < s.heap.size := va_at.lt hO
  obtain ⟨A1, eA⟩ : ∃ z : Nat → Prop, z = fun q => A q ∧ q ≠ o := ⟨_, rfl⟩
  have hAB : ∀ q, A1 q → A q := fun q h => by rw [eA] at h; exact h.1
  have hoA : ¬ A1 o := fun h => by rw [eA] at h; exact h.2 rfl
  have hG1 : zG 0 G A1 := ⟨hG.1, fun κ ι hV => by rw [eA]; exact ⟨hG.2 κ ι hV, hGo κ ι hV⟩⟩
  have hA1 : ∀ q, s.heap.size ≤ q → A1 q := fun q hq => by rw [eA]; exact ⟨hA q hq, fun e => by omega⟩
  have F : zFs 0 8 1 6 p l s m _ c cL_childrenOf 4 RL (Cond.codeWith yL_childrenOf cL_childrenOf 4 (some .int) [(0, 9, 12, 19)]) D Y S V G A A1 s.heap := ⟨⟨hx, hb, hml, hown, hts, hl9⟩, hG1, hK.1, hAB, hA1⟩
  refine lv_aload_n hx hb dL_childrenOf_0 rfl (lv_at hl 2 rfl) ?_
  refine lv_iconst (v := 0) hx hb dL_childrenOf_1 (by decide) ?_
  refine lv_aload_n hx hb dL_childrenOf_2 rfl (lv_at hl 0 rfl) ?_
  refine lv_iload_n hx hb dL_childrenOf_3 rfl (lv_at hl 1 rfl) ?_
  have run := z_runVs (p := p) (e := e) (below := below) (meth := meth) (cells := 0) (slots := 0) (ls := ls) (As := [.int p0]) (rest := [.int 0, .ref o]) F k_X3_childrenOf m_799 (c_X3_childrenOf p0 T T' v hf) hP hS (zV_0 (by decide)) rfl rfl rfl rfl hl.1 (Nat.le_of_ble_eq_true rfl) dL_childrenOf_4 (Nat.le_of_ble_eq_true rfl) ⟨(Nat.le_of_ble_eq_true rfl), (Nat.le_of_ble_eq_true rfl)⟩ rfl
  rcases v with r | n
  · refine z_oks run hS hAB (fun H locs hP hz hk hS => ?_)
    have hO : zOw D cL o f H := va_at.kept hO (hk o hol hoA)
    refine lv_i2l (v := r.toInt64) hx hb dL_childrenOf_7 rfl ?_
    refine z_lastO hx hb hK.2.1 hP hO hG ho hGo hS dL_childrenOf_8 (fun H locs f' hf' hP hO hS => ?_)
    refine lv_goto (tgt := 15) hx hb dL_childrenOf_9 (by decide) ?_
    refine lv_iconst (v := 0) hx hb dL_childrenOf_15 (by decide) ?_
    exact z_lend hx hb hr hP hO ⟨rfl, hf'⟩ hS hlocks (Nat.le_of_ble_eq_true rfl) (Nat.le_of_ble_eq_true rfl) dL_childrenOf_16
  · obtain rfl := hv n rfl
    refine z_exs (E := "java/lang/IndexOutOfBoundsException") run hS hAB (fun ce q9 H locs hP hz hk hS hce hcv hcl => ?_)
    have hO : zOw D cL o f H := va_at.kept hO (hk o hol hoA)
    refine vx_catch (own := RL) (name := "java/lang/IndexOutOfBoundsException") (E := "java/lang/IndexOutOfBoundsException") hown [] ⟨0, 9, 12, 19⟩ [] (htab.trans rfl) (fun z hz => by cases hz) (by decide) (by decide) (hts _ (List.mem_cons_of_mem _ m_731)) (va_Nw.use rfl (hK.1.2.2.2.2.2.2.2.2.2.2 "java/lang/IndexOutOfBoundsException" (by decide))) hce hcv hcl ?_
    refine lv_astore_n (lv' := [(3, .ref q9), (0, .ref (G 0 0)), (1, .int p0), (2, .ref o)]) hx hb dL_childrenOf_12 rfl hl (by decide) rfl (fun ls hl => ?_)
    refine lv_iconst (v := 1) hx hb dL_childrenOf_13 (by decide) ?_
    exact z_lend hx hb hr hP hO rfl hS hlocks (Nat.le_of_ble_eq_true rfl) (Nat.le_of_ble_eq_true rfl) dL_childrenOf_14
theorem kw_partyIn : zcaw yL_partyIn cL_partyIn 6 [(0, 12, 15, 19), (0, 12, 19, 21)] 5 := ⟨zws_in 805 (by decide +kernel) (by decide +kernel), zws_in 82 (by decide +kernel) (by decide +kernel), zws_in 806 (by decide +kernel) (by decide +kernel), ⟨by decide +kernel, by decide +kernel⟩, by decide +kernel, by decide⟩
set_option maxHeartbeats 4000000 in
set_option maxRecDepth 100000 in
theorem cw_partyIn (p0 : Int32) (p1 : Int32) (p2 : Int32) (T T' : zT) (v : Int32 ⊕ Nat) (hf : f_X3_partyIn p0 p1 p2 T = some (v, T')) (hv : ∀ n, v = .inr n → n = 2 ∨ n = 1) : zCl yL_partyIn cL_partyIn 6 [(0, 12, 15, 19), (0, 12, 19, 21)] 8 2 12 (fun G o => [.ref (G 0 0), .int p0, .int p1, .int p2, .ref o]) T v (fun n => if n = 2 then 1 else 2) T' := by
  intro l D Y S V G A cL o f hl9 hG ho hGo
  refine vx_ofWH (cc := cL_partyIn) (maxL := 6) (ret := some .int) (hh := [(0, 12, 15, 19), (0, 12, 19, 21)]) (by decide) rfl ?_
  intro p e s m args below meth c s₁ B hml hv9
  obtain ⟨rfl, hK, hP, hO, hA⟩ := hv9
  have hx := B.exec
  have hb := B.bytes
  have hr := B.returns
  have hlocks := B.notSynchronized
  have hown : s.vm.findClass RL = some m.cls := findClass_of_methodNamed B.named
  have hts := atoms_spec (ws := Cond.codeWith yL_partyIn cL_partyIn 6 (some .int) [(0, 12, 15, 19), (0, 12, 19, 21)] :: zWS) B.pre
  have htab := vx_table (x := yL_partyIn) B (hts _ List.mem_cons_self)
  have hS : va_S A s.heap s.heap [] := va_S.rf
  have hl := lv_entry ([.ref (G 0 0), .int p0, .int p1, .int p2, .ref o]) (n := 6) (Nat.le_of_ble_eq_true rfl)
  rw [lg_entry_eq]
  generalize (lg_sl ([.ref (G 0 0), .int p0, .int p1, .int p2, .ref o]) ++ List.replicate (6 - (lg_sl ([.ref (G 0 0), .int p0, .int p1, .int p2, .ref o])).length) Slot.unset).toArray = ls at hl ⊢
  have hl : lv_has ls 6 [(0, .ref (G 0 0)), (1, .int p0), (2, .int p1), (3, .int p2), (4, .ref o)] := hl
  have hol : o < s.heap.size := va_at.lt hO
  obtain ⟨A1, eA⟩ : ∃ z : Nat → Prop, z = fun q => A q ∧ q ≠ o := ⟨_, rfl⟩
  have hAB : ∀ q, A1 q → A q := fun q h => by rw [eA] at h; exact h.1
  have hoA : ¬ A1 o := fun h => by rw [eA] at h; exact h.2 rfl
  have hG1 : zG 0 G A1 := ⟨hG.1, fun κ ι hV => by rw [eA]; exact ⟨hG.2 κ ι hV, hGo κ ι hV⟩⟩
  have hA1 : ∀ q, s.heap.size ≤ q → A1 q := fun q hq => by rw [eA]; exact ⟨hA q hq, fun e => by omega⟩
  have F : zFs 0 8 2 12 p l s m _ c cL_partyIn 6 RL (Cond.codeWith yL_partyIn cL_partyIn 6 (some .int) [(0, 12, 15, 19), (0, 12, 19, 21)]) D Y S V G A A1 s.heap := ⟨⟨hx, hb, hml, hown, hts, hl9⟩, hG1, hK.1, hAB, hA1⟩
  refine lv_aload hx hb dL_partyIn_0 (lv_at hl 4 rfl) ?_
  refine lv_iconst (v := 0) hx hb dL_partyIn_2 (by decide) ?_
  refine lv_aload_n hx hb dL_partyIn_3 rfl (lv_at hl 0 rfl) ?_
  refine lv_iload_n hx hb dL_partyIn_4 rfl (lv_at hl 1 rfl) ?_
  refine lv_iload_n hx hb dL_partyIn_5 rfl (lv_at hl 2 rfl) ?_
  refine lv_iload_n hx hb dL_partyIn_6 rfl (lv_at hl 3 rfl) ?_
  have run := z_runVs (p := p) (e := e) (below := below) (meth := meth) (cells := 0) (slots := 0) (ls := ls) (As := [.int p0, .int p1, .int p2]) (rest := [.int 0, .ref o]) F k_X3_partyIn m_807 (c_X3_partyIn p0 p1 p2 T T' v hf) hP hS (zV_0 (by decide)) rfl rfl rfl rfl hl.1 (Nat.le_of_ble_eq_true rfl) dL_partyIn_7 (Nat.le_of_ble_eq_true rfl) ⟨(Nat.le_of_ble_eq_true rfl), (Nat.le_of_ble_eq_true rfl)⟩ rfl
  rcases v with r | n
  · refine z_oks run hS hAB (fun H locs hP hz hk hS => ?_)
    have hO : zOw D cL o f H := va_at.kept hO (hk o hol hoA)
    refine lv_i2l (v := r.toInt64) hx hb dL_partyIn_10 rfl ?_
    refine z_lastO hx hb hK.2.1 hP hO hG ho hGo hS dL_partyIn_11 (fun H locs f' hf' hP hO hS => ?_)
    refine lv_goto (tgt := 23) hx hb dL_partyIn_12 (by decide) ?_
    refine lv_iconst (v := 0) hx hb dL_partyIn_23 (by decide) ?_
    exact z_lend hx hb hr hP hO ⟨rfl, hf'⟩ hS hlocks (Nat.le_of_ble_eq_true rfl) (Nat.le_of_ble_eq_true rfl) dL_partyIn_24
  · rcases hv n rfl with rfl | rfl
    · refine z_exs (E := "java/lang/IndexOutOfBoundsException") run hS hAB (fun ce q9 H locs hP hz hk hS hce hcv hcl => ?_)
      have hO : zOw D cL o f H := va_at.kept hO (hk o hol hoA)
      refine vx_catch (own := RL) (name := "java/lang/IndexOutOfBoundsException") (E := "java/lang/IndexOutOfBoundsException") hown [] ⟨0, 12, 15, 19⟩ [⟨0, 12, 19, 21⟩] (htab.trans rfl) (fun z hz => by cases hz) (by decide) (by decide) (hts _ (List.mem_cons_of_mem _ m_731)) (va_Nw.use rfl (hK.1.2.2.2.2.2.2.2.2.2.2 "java/lang/IndexOutOfBoundsException" (by decide))) hce hcv hcl ?_
      refine lv_astore (lv' := [(5, .ref q9), (0, .ref (G 0 0)), (1, .int p0), (2, .int p1), (3, .int p2), (4, .ref o)]) hx hb dL_partyIn_15 hl (by decide) rfl (fun ls hl => ?_)
      refine lv_iconst (v := 1) hx hb dL_partyIn_17 (by decide) ?_
      exact z_lend hx hb hr hP hO rfl hS hlocks (Nat.le_of_ble_eq_true rfl) (Nat.le_of_ble_eq_true rfl) dL_partyIn_18
    · refine z_exs (E := "java/lang/IllegalArgumentException") run hS hAB (fun ce q9 H locs hP hz hk hS hce hcv hcl => ?_)
      have hO : zOw D cL o f H := va_at.kept hO (hk o hol hoA)
      refine vx_catch (own := RL) (name := "java/lang/IllegalArgumentException") (E := "java/lang/IllegalArgumentException") hown [⟨0, 12, 15, 19⟩] ⟨0, 12, 19, 21⟩ [] (htab.trans rfl) (fun z hz => by obtain rfl := List.mem_singleton.mp hz; exact Or.inr ⟨by decide, "java/lang/IndexOutOfBoundsException", hts _ (List.mem_cons_of_mem _ m_731), hK.2.2 ("java/lang/IllegalArgumentException", "java/lang/IndexOutOfBoundsException") (by decide)⟩) (by decide) (by decide) (hts _ (List.mem_cons_of_mem _ m_732)) (va_Nw.use rfl (hK.1.2.2.2.2.2.2.2.2.2.2 "java/lang/IllegalArgumentException" (by decide))) hce hcv hcl ?_
      refine lv_astore (lv' := [(5, .ref q9), (0, .ref (G 0 0)), (1, .int p0), (2, .int p1), (3, .int p2), (4, .ref o)]) hx hb dL_partyIn_19 hl (by decide) rfl (fun ls hl => ?_)
      refine lv_iconst (v := 2) hx hb dL_partyIn_21 (by decide) ?_
      exact z_lend hx hb hr hP hO rfl hS hlocks (Nat.le_of_ble_eq_true rfl) (Nat.le_of_ble_eq_true rfl) dL_partyIn_22
theorem kw_cakeOf : zcaw yL_cakeOf cL_cakeOf 4 [(0, 9, 12, 19)] 3 := ⟨zws_in 817 (by decide +kernel) (by decide +kernel), zws_in 82 (by decide +kernel) (by decide +kernel), zws_in 818 (by decide +kernel) (by decide +kernel), ⟨by decide +kernel, by decide +kernel⟩, by decide +kernel, by decide⟩
set_option maxHeartbeats 4000000 in
set_option maxRecDepth 100000 in
theorem cw_cakeOf (p0 : Int32) (T T' : zT) (v : Int32 ⊕ Nat) (hf : f_X3_cakeOf p0 T = some (v, T')) (hv : ∀ n, v = .inr n → n = 2) : zCl yL_cakeOf cL_cakeOf 4 [(0, 9, 12, 19)] 8 1 6 (fun G o => [.ref (G 0 0), .int p0, .ref o]) T v (fun n => 1) T' := by
  intro l D Y S V G A cL o f hl9 hG ho hGo
  refine vx_ofWH (cc := cL_cakeOf) (maxL := 4) (ret := some .int) (hh := [(0, 9, 12, 19)]) (by decide) rfl ?_
  intro p e s m args below meth c s₁ B hml hv9
  obtain ⟨rfl, hK, hP, hO, hA⟩ := hv9
  have hx := B.exec
  have hb := B.bytes
  have hr := B.returns
  have hlocks := B.notSynchronized
  have hown : s.vm.findClass RL = some m.cls := findClass_of_methodNamed B.named
  have hts := atoms_spec (ws := Cond.codeWith yL_cakeOf cL_cakeOf 4 (some .int) [(0, 9, 12, 19)] :: zWS) B.pre
  have htab := vx_table (x := yL_cakeOf) B (hts _ List.mem_cons_self)
  have hS : va_S A s.heap s.heap [] := va_S.rf
  have hl := lv_entry ([.ref (G 0 0), .int p0, .ref o]) (n := 4) (Nat.le_of_ble_eq_true rfl)
  rw [lg_entry_eq]
  generalize (lg_sl ([.ref (G 0 0), .int p0, .ref o]) ++ List.replicate (4 - (lg_sl ([.ref (G 0 0), .int p0, .ref o])).length) Slot.unset).toArray = ls at hl ⊢
  have hl : lv_has ls 4 [(0, .ref (G 0 0)), (1, .int p0), (2, .ref o)] := hl
  have hol : o < s.heap.size := va_at.lt hO
  obtain ⟨A1, eA⟩ : ∃ z : Nat → Prop, z = fun q => A q ∧ q ≠ o := ⟨_, rfl⟩
  have hAB : ∀ q, A1 q → A q := fun q h => by rw [eA] at h; exact h.1
  have hoA : ¬ A1 o := fun h => by rw [eA] at h; exact h.2 rfl
  have hG1 : zG 0 G A1 := ⟨hG.1, fun κ ι hV => by rw [eA]; exact ⟨hG.2 κ ι hV, hGo κ ι hV⟩⟩
  have hA1 : ∀ q, s.heap.size ≤ q → A1 q := fun q hq => by rw [eA]; exact ⟨hA q hq, fun e => by omega⟩
  have F : zFs 0 8 1 6 p l s m _ c cL_cakeOf 4 RL (Cond.codeWith yL_cakeOf cL_cakeOf 4 (some .int) [(0, 9, 12, 19)]) D Y S V G A A1 s.heap := ⟨⟨hx, hb, hml, hown, hts, hl9⟩, hG1, hK.1, hAB, hA1⟩
  refine lv_aload_n hx hb dL_cakeOf_0 rfl (lv_at hl 2 rfl) ?_
  refine lv_iconst (v := 0) hx hb dL_cakeOf_1 (by decide) ?_
  refine lv_aload_n hx hb dL_cakeOf_2 rfl (lv_at hl 0 rfl) ?_
  refine lv_iload_n hx hb dL_cakeOf_3 rfl (lv_at hl 1 rfl) ?_
  have run := z_runVs (p := p) (e := e) (below := below) (meth := meth) (cells := 0) (slots := 0) (ls := ls) (As := [.int p0]) (rest := [.int 0, .ref o]) F k_X3_cakeOf m_819 (c_X3_cakeOf p0 T T' v hf) hP hS (zV_0 (by decide)) rfl rfl rfl rfl hl.1 (Nat.le_of_ble_eq_true rfl) dL_cakeOf_4 (Nat.le_of_ble_eq_true rfl) ⟨(Nat.le_of_ble_eq_true rfl), (Nat.le_of_ble_eq_true rfl)⟩ rfl
  rcases v with r | n
  · refine z_oks run hS hAB (fun H locs hP hz hk hS => ?_)
    have hO : zOw D cL o f H := va_at.kept hO (hk o hol hoA)
    refine lv_i2l (v := r.toInt64) hx hb dL_cakeOf_7 rfl ?_
    refine z_lastO hx hb hK.2.1 hP hO hG ho hGo hS dL_cakeOf_8 (fun H locs f' hf' hP hO hS => ?_)
    refine lv_goto (tgt := 15) hx hb dL_cakeOf_9 (by decide) ?_
    refine lv_iconst (v := 0) hx hb dL_cakeOf_15 (by decide) ?_
    exact z_lend hx hb hr hP hO ⟨rfl, hf'⟩ hS hlocks (Nat.le_of_ble_eq_true rfl) (Nat.le_of_ble_eq_true rfl) dL_cakeOf_16
  · obtain rfl := hv n rfl
    refine z_exs (E := "java/lang/IndexOutOfBoundsException") run hS hAB (fun ce q9 H locs hP hz hk hS hce hcv hcl => ?_)
    have hO : zOw D cL o f H := va_at.kept hO (hk o hol hoA)
    refine vx_catch (own := RL) (name := "java/lang/IndexOutOfBoundsException") (E := "java/lang/IndexOutOfBoundsException") hown [] ⟨0, 9, 12, 19⟩ [] (htab.trans rfl) (fun z hz => by cases hz) (by decide) (by decide) (hts _ (List.mem_cons_of_mem _ m_731)) (va_Nw.use rfl (hK.1.2.2.2.2.2.2.2.2.2.2 "java/lang/IndexOutOfBoundsException" (by decide))) hce hcv hcl ?_
    refine lv_astore_n (lv' := [(3, .ref q9), (0, .ref (G 0 0)), (1, .int p0), (2, .ref o)]) hx hb dL_cakeOf_12 rfl hl (by decide) rfl (fun ls hl => ?_)
    refine lv_iconst (v := 1) hx hb dL_cakeOf_13 (by decide) ?_
    exact z_lend hx hb hr hP hO rfl hS hlocks (Nat.le_of_ble_eq_true rfl) (Nat.le_of_ble_eq_true rfl) dL_cakeOf_14
theorem kw_breathOf : zcaw yL_breathOf cL_breathOf 4 [(0, 9, 12, 19)] 3 := ⟨zws_in 829 (by decide +kernel) (by decide +kernel), zws_in 82 (by decide +kernel) (by decide +kernel), zws_in 830 (by decide +kernel) (by decide +kernel), ⟨by decide +kernel, by decide +kernel⟩, by decide +kernel, by decide⟩
set_option maxHeartbeats 4000000 in
set_option maxRecDepth 100000 in
theorem cw_breathOf (p0 : Int32) (T T' : zT) (v : Int32 ⊕ Nat) (hf : f_X3_breathOf p0 T = some (v, T')) (hv : ∀ n, v = .inr n → n = 2) : zCl yL_breathOf cL_breathOf 4 [(0, 9, 12, 19)] 8 1 6 (fun G o => [.ref (G 0 0), .int p0, .ref o]) T v (fun n => 1) T' := by
  intro l D Y S V G A cL o f hl9 hG ho hGo
  refine vx_ofWH (cc := cL_breathOf) (maxL := 4) (ret := some .int) (hh := [(0, 9, 12, 19)]) (by decide) rfl ?_
  intro p e s m args below meth c s₁ B hml hv9
  obtain ⟨rfl, hK, hP, hO, hA⟩ := hv9
  have hx := B.exec
  have hb := B.bytes
  have hr := B.returns
  have hlocks := B.notSynchronized
  have hown : s.vm.findClass RL = some m.cls := findClass_of_methodNamed B.named
  have hts := atoms_spec (ws := Cond.codeWith yL_breathOf cL_breathOf 4 (some .int) [(0, 9, 12, 19)] :: zWS) B.pre
  have htab := vx_table (x := yL_breathOf) B (hts _ List.mem_cons_self)
  have hS : va_S A s.heap s.heap [] := va_S.rf
  have hl := lv_entry ([.ref (G 0 0), .int p0, .ref o]) (n := 4) (Nat.le_of_ble_eq_true rfl)
  rw [lg_entry_eq]
  generalize (lg_sl ([.ref (G 0 0), .int p0, .ref o]) ++ List.replicate (4 - (lg_sl ([.ref (G 0 0), .int p0, .ref o])).length) Slot.unset).toArray = ls at hl ⊢
  have hl : lv_has ls 4 [(0, .ref (G 0 0)), (1, .int p0), (2, .ref o)] := hl
  have hol : o < s.heap.size := va_at.lt hO
  obtain ⟨A1, eA⟩ : ∃ z : Nat → Prop, z = fun q => A q ∧ q ≠ o := ⟨_, rfl⟩
  have hAB : ∀ q, A1 q → A q := fun q h => by rw [eA] at h; exact h.1
  have hoA : ¬ A1 o := fun h => by rw [eA] at h; exact h.2 rfl
  have hG1 : zG 0 G A1 := ⟨hG.1, fun κ ι hV => by rw [eA]; exact ⟨hG.2 κ ι hV, hGo κ ι hV⟩⟩
  have hA1 : ∀ q, s.heap.size ≤ q → A1 q := fun q hq => by rw [eA]; exact ⟨hA q hq, fun e => by omega⟩
  have F : zFs 0 8 1 6 p l s m _ c cL_breathOf 4 RL (Cond.codeWith yL_breathOf cL_breathOf 4 (some .int) [(0, 9, 12, 19)]) D Y S V G A A1 s.heap := ⟨⟨hx, hb, hml, hown, hts, hl9⟩, hG1, hK.1, hAB, hA1⟩
  refine lv_aload_n hx hb dL_breathOf_0 rfl (lv_at hl 2 rfl) ?_
  refine lv_iconst (v := 0) hx hb dL_breathOf_1 (by decide) ?_
  refine lv_aload_n hx hb dL_breathOf_2 rfl (lv_at hl 0 rfl) ?_
  refine lv_iload_n hx hb dL_breathOf_3 rfl (lv_at hl 1 rfl) ?_
  have run := z_runVs (p := p) (e := e) (below := below) (meth := meth) (cells := 0) (slots := 0) (ls := ls) (As := [.int p0]) (rest := [.int 0, .ref o]) F k_X3_breathOf m_831 (c_X3_breathOf p0 T T' v hf) hP hS (zV_0 (by decide)) rfl rfl rfl rfl hl.1 (Nat.le_of_ble_eq_true rfl) dL_breathOf_4 (Nat.le_of_ble_eq_true rfl) ⟨(Nat.le_of_ble_eq_true rfl), (Nat.le_of_ble_eq_true rfl)⟩ rfl
  rcases v with r | n
  · refine z_oks run hS hAB (fun H locs hP hz hk hS => ?_)
    have hO : zOw D cL o f H := va_at.kept hO (hk o hol hoA)
    refine lv_i2l (v := r.toInt64) hx hb dL_breathOf_7 rfl ?_
    refine z_lastO hx hb hK.2.1 hP hO hG ho hGo hS dL_breathOf_8 (fun H locs f' hf' hP hO hS => ?_)
    refine lv_goto (tgt := 15) hx hb dL_breathOf_9 (by decide) ?_
    refine lv_iconst (v := 0) hx hb dL_breathOf_15 (by decide) ?_
    exact z_lend hx hb hr hP hO ⟨rfl, hf'⟩ hS hlocks (Nat.le_of_ble_eq_true rfl) (Nat.le_of_ble_eq_true rfl) dL_breathOf_16
  · obtain rfl := hv n rfl
    refine z_exs (E := "java/lang/IndexOutOfBoundsException") run hS hAB (fun ce q9 H locs hP hz hk hS hce hcv hcl => ?_)
    have hO : zOw D cL o f H := va_at.kept hO (hk o hol hoA)
    refine vx_catch (own := RL) (name := "java/lang/IndexOutOfBoundsException") (E := "java/lang/IndexOutOfBoundsException") hown [] ⟨0, 9, 12, 19⟩ [] (htab.trans rfl) (fun z hz => by cases hz) (by decide) (by decide) (hts _ (List.mem_cons_of_mem _ m_731)) (va_Nw.use rfl (hK.1.2.2.2.2.2.2.2.2.2.2 "java/lang/IndexOutOfBoundsException" (by decide))) hce hcv hcl ?_
    refine lv_astore_n (lv' := [(3, .ref q9), (0, .ref (G 0 0)), (1, .int p0), (2, .ref o)]) hx hb dL_breathOf_12 rfl hl (by decide) rfl (fun ls hl => ?_)
    refine lv_iconst (v := 1) hx hb dL_breathOf_13 (by decide) ?_
    exact z_lend hx hb hr hP hO rfl hS hlocks (Nat.le_of_ble_eq_true rfl) (Nat.le_of_ble_eq_true rfl) dL_breathOf_14
theorem kw_ageOf : zcaw yL_ageOf cL_ageOf 4 [(0, 9, 12, 19)] 3 := ⟨zws_in 836 (by decide +kernel) (by decide +kernel), zws_in 82 (by decide +kernel) (by decide +kernel), zws_in 837 (by decide +kernel) (by decide +kernel), ⟨by decide +kernel, by decide +kernel⟩, by decide +kernel, by decide⟩
set_option maxHeartbeats 4000000 in
set_option maxRecDepth 100000 in
theorem cw_ageOf (p0 : Int32) (T T' : zT) (v : Int32 ⊕ Nat) (hf : f_X3_ageOf p0 T = some (v, T')) (hv : ∀ n, v = .inr n → n = 2) : zCl yL_ageOf cL_ageOf 4 [(0, 9, 12, 19)] 8 1 6 (fun G o => [.ref (G 0 0), .int p0, .ref o]) T v (fun n => 1) T' := by
  intro l D Y S V G A cL o f hl9 hG ho hGo
  refine vx_ofWH (cc := cL_ageOf) (maxL := 4) (ret := some .int) (hh := [(0, 9, 12, 19)]) (by decide) rfl ?_
  intro p e s m args below meth c s₁ B hml hv9
  obtain ⟨rfl, hK, hP, hO, hA⟩ := hv9
  have hx := B.exec
  have hb := B.bytes
  have hr := B.returns
  have hlocks := B.notSynchronized
  have hown : s.vm.findClass RL = some m.cls := findClass_of_methodNamed B.named
  have hts := atoms_spec (ws := Cond.codeWith yL_ageOf cL_ageOf 4 (some .int) [(0, 9, 12, 19)] :: zWS) B.pre
  have htab := vx_table (x := yL_ageOf) B (hts _ List.mem_cons_self)
  have hS : va_S A s.heap s.heap [] := va_S.rf
  have hl := lv_entry ([.ref (G 0 0), .int p0, .ref o]) (n := 4) (Nat.le_of_ble_eq_true rfl)
  rw [lg_entry_eq]
  generalize (lg_sl ([.ref (G 0 0), .int p0, .ref o]) ++ List.replicate (4 - (lg_sl ([.ref (G 0 0), .int p0, .ref o])).length) Slot.unset).toArray = ls at hl ⊢
  have hl : lv_has ls 4 [(0, .ref (G 0 0)), (1, .int p0), (2, .ref o)] := hl
  have hol : o < s.heap.size := va_at.lt hO
  obtain ⟨A1, eA⟩ : ∃ z : Nat → Prop, z = fun q => A q ∧ q ≠ o := ⟨_, rfl⟩
  have hAB : ∀ q, A1 q → A q := fun q h => by rw [eA] at h; exact h.1
  have hoA : ¬ A1 o := fun h => by rw [eA] at h; exact h.2 rfl
  have hG1 : zG 0 G A1 := ⟨hG.1, fun κ ι hV => by rw [eA]; exact ⟨hG.2 κ ι hV, hGo κ ι hV⟩⟩
  have hA1 : ∀ q, s.heap.size ≤ q → A1 q := fun q hq => by rw [eA]; exact ⟨hA q hq, fun e => by omega⟩
  have F : zFs 0 8 1 6 p l s m _ c cL_ageOf 4 RL (Cond.codeWith yL_ageOf cL_ageOf 4 (some .int) [(0, 9, 12, 19)]) D Y S V G A A1 s.heap := ⟨⟨hx, hb, hml, hown, hts, hl9⟩, hG1, hK.1, hAB, hA1⟩
  refine lv_aload_n hx hb dL_ageOf_0 rfl (lv_at hl 2 rfl) ?_
  refine lv_iconst (v := 0) hx hb dL_ageOf_1 (by decide) ?_
  refine lv_aload_n hx hb dL_ageOf_2 rfl (lv_at hl 0 rfl) ?_
  refine lv_iload_n hx hb dL_ageOf_3 rfl (lv_at hl 1 rfl) ?_
  have run := z_runVs (p := p) (e := e) (below := below) (meth := meth) (cells := 0) (slots := 0) (ls := ls) (As := [.int p0]) (rest := [.int 0, .ref o]) F k_X3_ageOf m_838 (c_X3_ageOf p0 T T' v hf) hP hS (zV_0 (by decide)) rfl rfl rfl rfl hl.1 (Nat.le_of_ble_eq_true rfl) dL_ageOf_4 (Nat.le_of_ble_eq_true rfl) ⟨(Nat.le_of_ble_eq_true rfl), (Nat.le_of_ble_eq_true rfl)⟩ rfl
  rcases v with r | n
  · refine z_oks run hS hAB (fun H locs hP hz hk hS => ?_)
    have hO : zOw D cL o f H := va_at.kept hO (hk o hol hoA)
    refine lv_i2l (v := r.toInt64) hx hb dL_ageOf_7 rfl ?_
    refine z_lastO hx hb hK.2.1 hP hO hG ho hGo hS dL_ageOf_8 (fun H locs f' hf' hP hO hS => ?_)
    refine lv_goto (tgt := 15) hx hb dL_ageOf_9 (by decide) ?_
    refine lv_iconst (v := 0) hx hb dL_ageOf_15 (by decide) ?_
    exact z_lend hx hb hr hP hO ⟨rfl, hf'⟩ hS hlocks (Nat.le_of_ble_eq_true rfl) (Nat.le_of_ble_eq_true rfl) dL_ageOf_16
  · obtain rfl := hv n rfl
    refine z_exs (E := "java/lang/IndexOutOfBoundsException") run hS hAB (fun ce q9 H locs hP hz hk hS hce hcv hcl => ?_)
    have hO : zOw D cL o f H := va_at.kept hO (hk o hol hoA)
    refine vx_catch (own := RL) (name := "java/lang/IndexOutOfBoundsException") (E := "java/lang/IndexOutOfBoundsException") hown [] ⟨0, 9, 12, 19⟩ [] (htab.trans rfl) (fun z hz => by cases hz) (by decide) (by decide) (hts _ (List.mem_cons_of_mem _ m_731)) (va_Nw.use rfl (hK.1.2.2.2.2.2.2.2.2.2.2 "java/lang/IndexOutOfBoundsException" (by decide))) hce hcv hcl ?_
    refine lv_astore_n (lv' := [(3, .ref q9), (0, .ref (G 0 0)), (1, .int p0), (2, .ref o)]) hx hb dL_ageOf_12 rfl hl (by decide) rfl (fun ls hl => ?_)
    refine lv_iconst (v := 1) hx hb dL_ageOf_13 (by decide) ?_
    exact z_lend hx hb hr hP hO rfl hS hlocks (Nat.le_of_ble_eq_true rfl) (Nat.le_of_ble_eq_true rfl) dL_ageOf_14
theorem kw_gardenOf : zcaw yL_gardenOf cL_gardenOf 4 [(0, 9, 12, 19)] 3 := ⟨zws_in 843 (by decide +kernel) (by decide +kernel), zws_in 82 (by decide +kernel) (by decide +kernel), zws_in 844 (by decide +kernel) (by decide +kernel), ⟨by decide +kernel, by decide +kernel⟩, by decide +kernel, by decide⟩
set_option maxHeartbeats 4000000 in
set_option maxRecDepth 100000 in
theorem cw_gardenOf (p0 : Int32) (T T' : zT) (v : Int32 ⊕ Nat) (hf : f_X3_gardenOf p0 T = some (v, T')) (hv : ∀ n, v = .inr n → n = 2) : zCl yL_gardenOf cL_gardenOf 4 [(0, 9, 12, 19)] 8 1 6 (fun G o => [.ref (G 0 0), .int p0, .ref o]) T v (fun n => 1) T' := by
  intro l D Y S V G A cL o f hl9 hG ho hGo
  refine vx_ofWH (cc := cL_gardenOf) (maxL := 4) (ret := some .int) (hh := [(0, 9, 12, 19)]) (by decide) rfl ?_
  intro p e s m args below meth c s₁ B hml hv9
  obtain ⟨rfl, hK, hP, hO, hA⟩ := hv9
  have hx := B.exec
  have hb := B.bytes
  have hr := B.returns
  have hlocks := B.notSynchronized
  have hown : s.vm.findClass RL = some m.cls := findClass_of_methodNamed B.named
  have hts := atoms_spec (ws := Cond.codeWith yL_gardenOf cL_gardenOf 4 (some .int) [(0, 9, 12, 19)] :: zWS) B.pre
  have htab := vx_table (x := yL_gardenOf) B (hts _ List.mem_cons_self)
  have hS : va_S A s.heap s.heap [] := va_S.rf
  have hl := lv_entry ([.ref (G 0 0), .int p0, .ref o]) (n := 4) (Nat.le_of_ble_eq_true rfl)
  rw [lg_entry_eq]
  generalize (lg_sl ([.ref (G 0 0), .int p0, .ref o]) ++ List.replicate (4 - (lg_sl ([.ref (G 0 0), .int p0, .ref o])).length) Slot.unset).toArray = ls at hl ⊢
  have hl : lv_has ls 4 [(0, .ref (G 0 0)), (1, .int p0), (2, .ref o)] := hl
  have hol : o < s.heap.size := va_at.lt hO
  obtain ⟨A1, eA⟩ : ∃ z : Nat → Prop, z = fun q => A q ∧ q ≠ o := ⟨_, rfl⟩
  have hAB : ∀ q, A1 q → A q := fun q h => by rw [eA] at h; exact h.1
  have hoA : ¬ A1 o := fun h => by rw [eA] at h; exact h.2 rfl
  have hG1 : zG 0 G A1 := ⟨hG.1, fun κ ι hV => by rw [eA]; exact ⟨hG.2 κ ι hV, hGo κ ι hV⟩⟩
  have hA1 : ∀ q, s.heap.size ≤ q → A1 q := fun q hq => by rw [eA]; exact ⟨hA q hq, fun e => by omega⟩
  have F : zFs 0 8 1 6 p l s m _ c cL_gardenOf 4 RL (Cond.codeWith yL_gardenOf cL_gardenOf 4 (some .int) [(0, 9, 12, 19)]) D Y S V G A A1 s.heap := ⟨⟨hx, hb, hml, hown, hts, hl9⟩, hG1, hK.1, hAB, hA1⟩
  refine lv_aload_n hx hb dL_gardenOf_0 rfl (lv_at hl 2 rfl) ?_
  refine lv_iconst (v := 0) hx hb dL_gardenOf_1 (by decide) ?_
  refine lv_aload_n hx hb dL_gardenOf_2 rfl (lv_at hl 0 rfl) ?_
  refine lv_iload_n hx hb dL_gardenOf_3 rfl (lv_at hl 1 rfl) ?_
  have run := z_runVs (p := p) (e := e) (below := below) (meth := meth) (cells := 0) (slots := 0) (ls := ls) (As := [.int p0]) (rest := [.int 0, .ref o]) F k_X3_gardenOf m_845 (c_X3_gardenOf p0 T T' v hf) hP hS (zV_0 (by decide)) rfl rfl rfl rfl hl.1 (Nat.le_of_ble_eq_true rfl) dL_gardenOf_4 (Nat.le_of_ble_eq_true rfl) ⟨(Nat.le_of_ble_eq_true rfl), (Nat.le_of_ble_eq_true rfl)⟩ rfl
  rcases v with r | n
  · refine z_oks run hS hAB (fun H locs hP hz hk hS => ?_)
    have hO : zOw D cL o f H := va_at.kept hO (hk o hol hoA)
    refine lv_i2l (v := r.toInt64) hx hb dL_gardenOf_7 rfl ?_
    refine z_lastO hx hb hK.2.1 hP hO hG ho hGo hS dL_gardenOf_8 (fun H locs f' hf' hP hO hS => ?_)
    refine lv_goto (tgt := 15) hx hb dL_gardenOf_9 (by decide) ?_
    refine lv_iconst (v := 0) hx hb dL_gardenOf_15 (by decide) ?_
    exact z_lend hx hb hr hP hO ⟨rfl, hf'⟩ hS hlocks (Nat.le_of_ble_eq_true rfl) (Nat.le_of_ble_eq_true rfl) dL_gardenOf_16
  · obtain rfl := hv n rfl
    refine z_exs (E := "java/lang/IndexOutOfBoundsException") run hS hAB (fun ce q9 H locs hP hz hk hS hce hcv hcl => ?_)
    have hO : zOw D cL o f H := va_at.kept hO (hk o hol hoA)
    refine vx_catch (own := RL) (name := "java/lang/IndexOutOfBoundsException") (E := "java/lang/IndexOutOfBoundsException") hown [] ⟨0, 9, 12, 19⟩ [] (htab.trans rfl) (fun z hz => by cases hz) (by decide) (by decide) (hts _ (List.mem_cons_of_mem _ m_731)) (va_Nw.use rfl (hK.1.2.2.2.2.2.2.2.2.2.2 "java/lang/IndexOutOfBoundsException" (by decide))) hce hcv hcl ?_
    refine lv_astore_n (lv' := [(3, .ref q9), (0, .ref (G 0 0)), (1, .int p0), (2, .ref o)]) hx hb dL_gardenOf_12 rfl hl (by decide) rfl (fun ls hl => ?_)
    refine lv_iconst (v := 1) hx hb dL_gardenOf_13 (by decide) ?_
    exact z_lend hx hb hr hP hO rfl hS hlocks (Nat.le_of_ble_eq_true rfl) (Nat.le_of_ble_eq_true rfl) dL_gardenOf_14
theorem kw_birthdayOf : zcaw yL_birthdayOf cL_birthdayOf 4 [(0, 9, 12, 19)] 3 := ⟨zws_in 850 (by decide +kernel) (by decide +kernel), zws_in 82 (by decide +kernel) (by decide +kernel), zws_in 851 (by decide +kernel) (by decide +kernel), ⟨by decide +kernel, by decide +kernel⟩, by decide +kernel, by decide⟩
set_option maxHeartbeats 4000000 in
set_option maxRecDepth 100000 in
theorem cw_birthdayOf (p0 : Int32) (T T' : zT) (v : Int32 ⊕ Nat) (hf : f_X3_birthdayOf p0 T = some (v, T')) (hv : ∀ n, v = .inr n → n = 2) : zCl yL_birthdayOf cL_birthdayOf 4 [(0, 9, 12, 19)] 8 1 6 (fun G o => [.ref (G 0 0), .int p0, .ref o]) T v (fun n => 1) T' := by
  intro l D Y S V G A cL o f hl9 hG ho hGo
  refine vx_ofWH (cc := cL_birthdayOf) (maxL := 4) (ret := some .int) (hh := [(0, 9, 12, 19)]) (by decide) rfl ?_
  intro p e s m args below meth c s₁ B hml hv9
  obtain ⟨rfl, hK, hP, hO, hA⟩ := hv9
  have hx := B.exec
  have hb := B.bytes
  have hr := B.returns
  have hlocks := B.notSynchronized
  have hown : s.vm.findClass RL = some m.cls := findClass_of_methodNamed B.named
  have hts := atoms_spec (ws := Cond.codeWith yL_birthdayOf cL_birthdayOf 4 (some .int) [(0, 9, 12, 19)] :: zWS) B.pre
  have htab := vx_table (x := yL_birthdayOf) B (hts _ List.mem_cons_self)
  have hS : va_S A s.heap s.heap [] := va_S.rf
  have hl := lv_entry ([.ref (G 0 0), .int p0, .ref o]) (n := 4) (Nat.le_of_ble_eq_true rfl)
  rw [lg_entry_eq]
  generalize (lg_sl ([.ref (G 0 0), .int p0, .ref o]) ++ List.replicate (4 - (lg_sl ([.ref (G 0 0), .int p0, .ref o])).length) Slot.unset).toArray = ls at hl ⊢
  have hl : lv_has ls 4 [(0, .ref (G 0 0)), (1, .int p0), (2, .ref o)] := hl
  have hol : o < s.heap.size := va_at.lt hO
  obtain ⟨A1, eA⟩ : ∃ z : Nat → Prop, z = fun q => A q ∧ q ≠ o := ⟨_, rfl⟩
  have hAB : ∀ q, A1 q → A q := fun q h => by rw [eA] at h; exact h.1
  have hoA : ¬ A1 o := fun h => by rw [eA] at h; exact h.2 rfl
  have hG1 : zG 0 G A1 := ⟨hG.1, fun κ ι hV => by rw [eA]; exact ⟨hG.2 κ ι hV, hGo κ ι hV⟩⟩
  have hA1 : ∀ q, s.heap.size ≤ q → A1 q := fun q hq => by rw [eA]; exact ⟨hA q hq, fun e => by omega⟩
  have F : zFs 0 8 1 6 p l s m _ c cL_birthdayOf 4 RL (Cond.codeWith yL_birthdayOf cL_birthdayOf 4 (some .int) [(0, 9, 12, 19)]) D Y S V G A A1 s.heap := ⟨⟨hx, hb, hml, hown, hts, hl9⟩, hG1, hK.1, hAB, hA1⟩
  refine lv_aload_n hx hb dL_birthdayOf_0 rfl (lv_at hl 2 rfl) ?_
  refine lv_iconst (v := 0) hx hb dL_birthdayOf_1 (by decide) ?_
  refine lv_aload_n hx hb dL_birthdayOf_2 rfl (lv_at hl 0 rfl) ?_
  refine lv_iload_n hx hb dL_birthdayOf_3 rfl (lv_at hl 1 rfl) ?_
  have run := z_runVs (p := p) (e := e) (below := below) (meth := meth) (cells := 0) (slots := 0) (ls := ls) (As := [.int p0]) (rest := [.int 0, .ref o]) F k_X3_birthdayOf m_852 (c_X3_birthdayOf p0 T T' v hf) hP hS (zV_0 (by decide)) rfl rfl rfl rfl hl.1 (Nat.le_of_ble_eq_true rfl) dL_birthdayOf_4 (Nat.le_of_ble_eq_true rfl) ⟨(Nat.le_of_ble_eq_true rfl), (Nat.le_of_ble_eq_true rfl)⟩ rfl
  rcases v with r | n
  · refine z_oks run hS hAB (fun H locs hP hz hk hS => ?_)
    have hO : zOw D cL o f H := va_at.kept hO (hk o hol hoA)
    refine lv_i2l (v := r.toInt64) hx hb dL_birthdayOf_7 rfl ?_
    refine z_lastO hx hb hK.2.1 hP hO hG ho hGo hS dL_birthdayOf_8 (fun H locs f' hf' hP hO hS => ?_)
    refine lv_goto (tgt := 15) hx hb dL_birthdayOf_9 (by decide) ?_
    refine lv_iconst (v := 0) hx hb dL_birthdayOf_15 (by decide) ?_
    exact z_lend hx hb hr hP hO ⟨rfl, hf'⟩ hS hlocks (Nat.le_of_ble_eq_true rfl) (Nat.le_of_ble_eq_true rfl) dL_birthdayOf_16
  · obtain rfl := hv n rfl
    refine z_exs (E := "java/lang/IndexOutOfBoundsException") run hS hAB (fun ce q9 H locs hP hz hk hS hce hcv hcl => ?_)
    have hO : zOw D cL o f H := va_at.kept hO (hk o hol hoA)
    refine vx_catch (own := RL) (name := "java/lang/IndexOutOfBoundsException") (E := "java/lang/IndexOutOfBoundsException") hown [] ⟨0, 9, 12, 19⟩ [] (htab.trans rfl) (fun z hz => by cases hz) (by decide) (by decide) (hts _ (List.mem_cons_of_mem _ m_731)) (va_Nw.use rfl (hK.1.2.2.2.2.2.2.2.2.2.2 "java/lang/IndexOutOfBoundsException" (by decide))) hce hcv hcl ?_
    refine lv_astore_n (lv' := [(3, .ref q9), (0, .ref (G 0 0)), (1, .int p0), (2, .ref o)]) hx hb dL_birthdayOf_12 rfl hl (by decide) rfl (fun ls hl => ?_)
    refine lv_iconst (v := 1) hx hb dL_birthdayOf_13 (by decide) ?_
    exact z_lend hx hb hr hP hO rfl hS hlocks (Nat.le_of_ble_eq_true rfl) (Nat.le_of_ble_eq_true rfl) dL_birthdayOf_14
theorem kw_daysUntilBirthday : zcaw yL_daysUntilBirthday cL_daysUntilBirthday 4 [(0, 9, 12, 19)] 3 := ⟨zws_in 857 (by decide +kernel) (by decide +kernel), zws_in 82 (by decide +kernel) (by decide +kernel), zws_in 858 (by decide +kernel) (by decide +kernel), ⟨by decide +kernel, by decide +kernel⟩, by decide +kernel, by decide⟩
set_option maxHeartbeats 4000000 in
set_option maxRecDepth 100000 in
theorem cw_daysUntilBirthday (p0 : Int32) (T T' : zT) (v : Int32 ⊕ Nat) (hf : f_X3_daysUntilBirthday p0 T = some (v, T')) (hv : ∀ n, v = .inr n → n = 2) : zCl yL_daysUntilBirthday cL_daysUntilBirthday 4 [(0, 9, 12, 19)] 8 1 6 (fun G o => [.ref (G 0 0), .int p0, .ref o]) T v (fun n => 1) T' := by
  intro l D Y S V G A cL o f hl9 hG ho hGo
  refine vx_ofWH (cc := cL_daysUntilBirthday) (maxL := 4) (ret := some .int) (hh := [(0, 9, 12, 19)]) (by decide) rfl ?_
  intro p e s m args below meth c s₁ B hml hv9
  obtain ⟨rfl, hK, hP, hO, hA⟩ := hv9
  have hx := B.exec
  have hb := B.bytes
  have hr := B.returns
  have hlocks := B.notSynchronized
  have hown : s.vm.findClass RL = some m.cls := findClass_of_methodNamed B.named
  have hts := atoms_spec (ws := Cond.codeWith yL_daysUntilBirthday cL_daysUntilBirthday 4 (some .int) [(0, 9, 12, 19)] :: zWS) B.pre
  have htab := vx_table (x := yL_daysUntilBirthday) B (hts _ List.mem_cons_self)
  have hS : va_S A s.heap s.heap [] := va_S.rf
  have hl := lv_entry ([.ref (G 0 0), .int p0, .ref o]) (n := 4) (Nat.le_of_ble_eq_true rfl)
  rw [lg_entry_eq]
  generalize (lg_sl ([.ref (G 0 0), .int p0, .ref o]) ++ List.replicate (4 - (lg_sl ([.ref (G 0 0), .int p0, .ref o])).length) Slot.unset).toArray = ls at hl ⊢
  have hl : lv_has ls 4 [(0, .ref (G 0 0)), (1, .int p0), (2, .ref o)] := hl
  have hol : o < s.heap.size := va_at.lt hO
  obtain ⟨A1, eA⟩ : ∃ z : Nat → Prop, z = fun q => A q ∧ q ≠ o := ⟨_, rfl⟩
  have hAB : ∀ q, A1 q → A q := fun q h => by rw [eA] at h; exact h.1
  have hoA : ¬ A1 o := fun h => by rw [eA] at h; exact h.2 rfl
  have hG1 : zG 0 G A1 := ⟨hG.1, fun κ ι hV => by rw [eA]; exact ⟨hG.2 κ ι hV, hGo κ ι hV⟩⟩
  have hA1 : ∀ q, s.heap.size ≤ q → A1 q := fun q hq => by rw [eA]; exact ⟨hA q hq, fun e => by omega⟩
  have F : zFs 0 8 1 6 p l s m _ c cL_daysUntilBirthday 4 RL (Cond.codeWith yL_daysUntilBirthday cL_daysUntilBirthday 4 (some .int) [(0, 9, 12, 19)]) D Y S V G A A1 s.heap := ⟨⟨hx, hb, hml, hown, hts, hl9⟩, hG1, hK.1, hAB, hA1⟩
  refine lv_aload_n hx hb dL_daysUntilBirthday_0 rfl (lv_at hl 2 rfl) ?_
  refine lv_iconst (v := 0) hx hb dL_daysUntilBirthday_1 (by decide) ?_
  refine lv_aload_n hx hb dL_daysUntilBirthday_2 rfl (lv_at hl 0 rfl) ?_
  refine lv_iload_n hx hb dL_daysUntilBirthday_3 rfl (lv_at hl 1 rfl) ?_
  have run := z_runVs (p := p) (e := e) (below := below) (meth := meth) (cells := 0) (slots := 0) (ls := ls) (As := [.int p0]) (rest := [.int 0, .ref o]) F k_X3_daysUntilBirthday m_859 (c_X3_daysUntilBirthday p0 T T' v hf) hP hS (zV_0 (by decide)) rfl rfl rfl rfl hl.1 (Nat.le_of_ble_eq_true rfl) dL_daysUntilBirthday_4 (Nat.le_of_ble_eq_true rfl) ⟨(Nat.le_of_ble_eq_true rfl), (Nat.le_of_ble_eq_true rfl)⟩ rfl
  rcases v with r | n
  · refine z_oks run hS hAB (fun H locs hP hz hk hS => ?_)
    have hO : zOw D cL o f H := va_at.kept hO (hk o hol hoA)
    refine lv_i2l (v := r.toInt64) hx hb dL_daysUntilBirthday_7 rfl ?_
    refine z_lastO hx hb hK.2.1 hP hO hG ho hGo hS dL_daysUntilBirthday_8 (fun H locs f' hf' hP hO hS => ?_)
    refine lv_goto (tgt := 15) hx hb dL_daysUntilBirthday_9 (by decide) ?_
    refine lv_iconst (v := 0) hx hb dL_daysUntilBirthday_15 (by decide) ?_
    exact z_lend hx hb hr hP hO ⟨rfl, hf'⟩ hS hlocks (Nat.le_of_ble_eq_true rfl) (Nat.le_of_ble_eq_true rfl) dL_daysUntilBirthday_16
  · obtain rfl := hv n rfl
    refine z_exs (E := "java/lang/IndexOutOfBoundsException") run hS hAB (fun ce q9 H locs hP hz hk hS hce hcv hcl => ?_)
    have hO : zOw D cL o f H := va_at.kept hO (hk o hol hoA)
    refine vx_catch (own := RL) (name := "java/lang/IndexOutOfBoundsException") (E := "java/lang/IndexOutOfBoundsException") hown [] ⟨0, 9, 12, 19⟩ [] (htab.trans rfl) (fun z hz => by cases hz) (by decide) (by decide) (hts _ (List.mem_cons_of_mem _ m_731)) (va_Nw.use rfl (hK.1.2.2.2.2.2.2.2.2.2.2 "java/lang/IndexOutOfBoundsException" (by decide))) hce hcv hcl ?_
    refine lv_astore_n (lv' := [(3, .ref q9), (0, .ref (G 0 0)), (1, .int p0), (2, .ref o)]) hx hb dL_daysUntilBirthday_12 rfl hl (by decide) rfl (fun ls hl => ?_)
    refine lv_iconst (v := 1) hx hb dL_daysUntilBirthday_13 (by decide) ?_
    exact z_lend hx hb hr hP hO rfl hS hlocks (Nat.le_of_ble_eq_true rfl) (Nat.le_of_ble_eq_true rfl) dL_daysUntilBirthday_14
theorem kw_partiesOf : zcaw yL_partiesOf cL_partiesOf 4 [(0, 9, 12, 19)] 3 := ⟨zws_in 864 (by decide +kernel) (by decide +kernel), zws_in 82 (by decide +kernel) (by decide +kernel), zws_in 865 (by decide +kernel) (by decide +kernel), ⟨by decide +kernel, by decide +kernel⟩, by decide +kernel, by decide⟩
set_option maxHeartbeats 4000000 in
set_option maxRecDepth 100000 in
theorem cw_partiesOf (p0 : Int32) (T T' : zT) (v : Int32 ⊕ Nat) (hf : f_X3_partiesOf p0 T = some (v, T')) (hv : ∀ n, v = .inr n → n = 2) : zCl yL_partiesOf cL_partiesOf 4 [(0, 9, 12, 19)] 8 1 6 (fun G o => [.ref (G 0 0), .int p0, .ref o]) T v (fun n => 1) T' := by
  intro l D Y S V G A cL o f hl9 hG ho hGo
  refine vx_ofWH (cc := cL_partiesOf) (maxL := 4) (ret := some .int) (hh := [(0, 9, 12, 19)]) (by decide) rfl ?_
  intro p e s m args below meth c s₁ B hml hv9
  obtain ⟨rfl, hK, hP, hO, hA⟩ := hv9
  have hx := B.exec
  have hb := B.bytes
  have hr := B.returns
  have hlocks := B.notSynchronized
  have hown : s.vm.findClass RL = some m.cls := findClass_of_methodNamed B.named
  have hts := atoms_spec (ws := Cond.codeWith yL_partiesOf cL_partiesOf 4 (some .int) [(0, 9, 12, 19)] :: zWS) B.pre
  have htab := vx_table (x := yL_partiesOf) B (hts _ List.mem_cons_self)
  have hS : va_S A s.heap s.heap [] := va_S.rf
  have hl := lv_entry ([.ref (G 0 0), .int p0, .ref o]) (n := 4) (Nat.le_of_ble_eq_true rfl)
  rw [lg_entry_eq]
  generalize (lg_sl ([.ref (G 0 0), .int p0, .ref o]) ++ List.replicate (4 - (lg_sl ([.ref (G 0 0), .int p0, .ref o])).length) Slot.unset).toArray = ls at hl ⊢
  have hl : lv_has ls 4 [(0, .ref (G 0 0)), (1, .int p0), (2, .ref o)] := hl
  have hol : o < s.heap.size := va_at.lt hO
  obtain ⟨A1, eA⟩ : ∃ z : Nat → Prop, z = fun q => A q ∧ q ≠ o := ⟨_, rfl⟩
  have hAB : ∀ q, A1 q → A q := fun q h => by rw [eA] at h; exact h.1
  have hoA : ¬ A1 o := fun h => by rw [eA] at h; exact h.2 rfl
  have hG1 : zG 0 G A1 := ⟨hG.1, fun κ ι hV => by rw [eA]; exact ⟨hG.2 κ ι hV, hGo κ ι hV⟩⟩
  have hA1 : ∀ q, s.heap.size ≤ q → A1 q := fun q hq => by rw [eA]; exact ⟨hA q hq, fun e => by omega⟩
  have F : zFs 0 8 1 6 p l s m _ c cL_partiesOf 4 RL (Cond.codeWith yL_partiesOf cL_partiesOf 4 (some .int) [(0, 9, 12, 19)]) D Y S V G A A1 s.heap := ⟨⟨hx, hb, hml, hown, hts, hl9⟩, hG1, hK.1, hAB, hA1⟩
  refine lv_aload_n hx hb dL_partiesOf_0 rfl (lv_at hl 2 rfl) ?_
  refine lv_iconst (v := 0) hx hb dL_partiesOf_1 (by decide) ?_
  refine lv_aload_n hx hb dL_partiesOf_2 rfl (lv_at hl 0 rfl) ?_
  refine lv_iload_n hx hb dL_partiesOf_3 rfl (lv_at hl 1 rfl) ?_
  have run := z_runVs (p := p) (e := e) (below := below) (meth := meth) (cells := 0) (slots := 0) (ls := ls) (As := [.int p0]) (rest := [.int 0, .ref o]) F k_X3_partiesOf m_866 (c_X3_partiesOf p0 T T' v hf) hP hS (zV_0 (by decide)) rfl rfl rfl rfl hl.1 (Nat.le_of_ble_eq_true rfl) dL_partiesOf_4 (Nat.le_of_ble_eq_true rfl) ⟨(Nat.le_of_ble_eq_true rfl), (Nat.le_of_ble_eq_true rfl)⟩ rfl
  rcases v with r | n
  · refine z_oks run hS hAB (fun H locs hP hz hk hS => ?_)
    have hO : zOw D cL o f H := va_at.kept hO (hk o hol hoA)
    refine lv_i2l (v := r.toInt64) hx hb dL_partiesOf_7 rfl ?_
    refine z_lastO hx hb hK.2.1 hP hO hG ho hGo hS dL_partiesOf_8 (fun H locs f' hf' hP hO hS => ?_)
    refine lv_goto (tgt := 15) hx hb dL_partiesOf_9 (by decide) ?_
    refine lv_iconst (v := 0) hx hb dL_partiesOf_15 (by decide) ?_
    exact z_lend hx hb hr hP hO ⟨rfl, hf'⟩ hS hlocks (Nat.le_of_ble_eq_true rfl) (Nat.le_of_ble_eq_true rfl) dL_partiesOf_16
  · obtain rfl := hv n rfl
    refine z_exs (E := "java/lang/IndexOutOfBoundsException") run hS hAB (fun ce q9 H locs hP hz hk hS hce hcv hcl => ?_)
    have hO : zOw D cL o f H := va_at.kept hO (hk o hol hoA)
    refine vx_catch (own := RL) (name := "java/lang/IndexOutOfBoundsException") (E := "java/lang/IndexOutOfBoundsException") hown [] ⟨0, 9, 12, 19⟩ [] (htab.trans rfl) (fun z hz => by cases hz) (by decide) (by decide) (hts _ (List.mem_cons_of_mem _ m_731)) (va_Nw.use rfl (hK.1.2.2.2.2.2.2.2.2.2.2 "java/lang/IndexOutOfBoundsException" (by decide))) hce hcv hcl ?_
    refine lv_astore_n (lv' := [(3, .ref q9), (0, .ref (G 0 0)), (1, .int p0), (2, .ref o)]) hx hb dL_partiesOf_12 rfl hl (by decide) rfl (fun ls hl => ?_)
    refine lv_iconst (v := 1) hx hb dL_partiesOf_13 (by decide) ?_
    exact z_lend hx hb hr hP hO rfl hS hlocks (Nat.le_of_ble_eq_true rfl) (Nat.le_of_ble_eq_true rfl) dL_partiesOf_14
theorem kw_wishesOf : zcaw yL_wishesOf cL_wishesOf 4 [(0, 9, 12, 19)] 3 := ⟨zws_in 871 (by decide +kernel) (by decide +kernel), zws_in 82 (by decide +kernel) (by decide +kernel), zws_in 872 (by decide +kernel) (by decide +kernel), ⟨by decide +kernel, by decide +kernel⟩, by decide +kernel, by decide⟩
set_option maxHeartbeats 4000000 in
set_option maxRecDepth 100000 in
theorem cw_wishesOf (p0 : Int32) (T T' : zT) (v : Int32 ⊕ Nat) (hf : f_X3_wishesOf p0 T = some (v, T')) (hv : ∀ n, v = .inr n → n = 2) : zCl yL_wishesOf cL_wishesOf 4 [(0, 9, 12, 19)] 8 1 6 (fun G o => [.ref (G 0 0), .int p0, .ref o]) T v (fun n => 1) T' := by
  intro l D Y S V G A cL o f hl9 hG ho hGo
  refine vx_ofWH (cc := cL_wishesOf) (maxL := 4) (ret := some .int) (hh := [(0, 9, 12, 19)]) (by decide) rfl ?_
  intro p e s m args below meth c s₁ B hml hv9
  obtain ⟨rfl, hK, hP, hO, hA⟩ := hv9
  have hx := B.exec
  have hb := B.bytes
  have hr := B.returns
  have hlocks := B.notSynchronized
  have hown : s.vm.findClass RL = some m.cls := findClass_of_methodNamed B.named
  have hts := atoms_spec (ws := Cond.codeWith yL_wishesOf cL_wishesOf 4 (some .int) [(0, 9, 12, 19)] :: zWS) B.pre
  have htab := vx_table (x := yL_wishesOf) B (hts _ List.mem_cons_self)
  have hS : va_S A s.heap s.heap [] := va_S.rf
  have hl := lv_entry ([.ref (G 0 0), .int p0, .ref o]) (n := 4) (Nat.le_of_ble_eq_true rfl)
  rw [lg_entry_eq]
  generalize (lg_sl ([.ref (G 0 0), .int p0, .ref o]) ++ List.replicate (4 - (lg_sl ([.ref (G 0 0), .int p0, .ref o])).length) Slot.unset).toArray = ls at hl ⊢
  have hl : lv_has ls 4 [(0, .ref (G 0 0)), (1, .int p0), (2, .ref o)] := hl
  have hol : o < s.heap.size := va_at.lt hO
  obtain ⟨A1, eA⟩ : ∃ z : Nat → Prop, z = fun q => A q ∧ q ≠ o := ⟨_, rfl⟩
  have hAB : ∀ q, A1 q → A q := fun q h => by rw [eA] at h; exact h.1
  have hoA : ¬ A1 o := fun h => by rw [eA] at h; exact h.2 rfl
  have hG1 : zG 0 G A1 := ⟨hG.1, fun κ ι hV => by rw [eA]; exact ⟨hG.2 κ ι hV, hGo κ ι hV⟩⟩
  have hA1 : ∀ q, s.heap.size ≤ q → A1 q := fun q hq => by rw [eA]; exact ⟨hA q hq, fun e => by omega⟩
  have F : zFs 0 8 1 6 p l s m _ c cL_wishesOf 4 RL (Cond.codeWith yL_wishesOf cL_wishesOf 4 (some .int) [(0, 9, 12, 19)]) D Y S V G A A1 s.heap := ⟨⟨hx, hb, hml, hown, hts, hl9⟩, hG1, hK.1, hAB, hA1⟩
  refine lv_aload_n hx hb dL_wishesOf_0 rfl (lv_at hl 2 rfl) ?_
  refine lv_iconst (v := 0) hx hb dL_wishesOf_1 (by decide) ?_
  refine lv_aload_n hx hb dL_wishesOf_2 rfl (lv_at hl 0 rfl) ?_
  refine lv_iload_n hx hb dL_wishesOf_3 rfl (lv_at hl 1 rfl) ?_
  have run := z_runVs (p := p) (e := e) (below := below) (meth := meth) (cells := 0) (slots := 0) (ls := ls) (As := [.int p0]) (rest := [.int 0, .ref o]) F k_X3_wishesOf m_873 (c_X3_wishesOf p0 T T' v hf) hP hS (zV_0 (by decide)) rfl rfl rfl rfl hl.1 (Nat.le_of_ble_eq_true rfl) dL_wishesOf_4 (Nat.le_of_ble_eq_true rfl) ⟨(Nat.le_of_ble_eq_true rfl), (Nat.le_of_ble_eq_true rfl)⟩ rfl
  rcases v with r | n
  · refine z_oks run hS hAB (fun H locs hP hz hk hS => ?_)
    have hO : zOw D cL o f H := va_at.kept hO (hk o hol hoA)
    refine lv_i2l (v := r.toInt64) hx hb dL_wishesOf_7 rfl ?_
    refine z_lastO hx hb hK.2.1 hP hO hG ho hGo hS dL_wishesOf_8 (fun H locs f' hf' hP hO hS => ?_)
    refine lv_goto (tgt := 15) hx hb dL_wishesOf_9 (by decide) ?_
    refine lv_iconst (v := 0) hx hb dL_wishesOf_15 (by decide) ?_
    exact z_lend hx hb hr hP hO ⟨rfl, hf'⟩ hS hlocks (Nat.le_of_ble_eq_true rfl) (Nat.le_of_ble_eq_true rfl) dL_wishesOf_16
  · obtain rfl := hv n rfl
    refine z_exs (E := "java/lang/IndexOutOfBoundsException") run hS hAB (fun ce q9 H locs hP hz hk hS hce hcv hcl => ?_)
    have hO : zOw D cL o f H := va_at.kept hO (hk o hol hoA)
    refine vx_catch (own := RL) (name := "java/lang/IndexOutOfBoundsException") (E := "java/lang/IndexOutOfBoundsException") hown [] ⟨0, 9, 12, 19⟩ [] (htab.trans rfl) (fun z hz => by cases hz) (by decide) (by decide) (hts _ (List.mem_cons_of_mem _ m_731)) (va_Nw.use rfl (hK.1.2.2.2.2.2.2.2.2.2.2 "java/lang/IndexOutOfBoundsException" (by decide))) hce hcv hcl ?_
    refine lv_astore_n (lv' := [(3, .ref q9), (0, .ref (G 0 0)), (1, .int p0), (2, .ref o)]) hx hb dL_wishesOf_12 rfl hl (by decide) rfl (fun ls hl => ?_)
    refine lv_iconst (v := 1) hx hb dL_wishesOf_13 (by decide) ?_
    exact z_lend hx hb hr hP hO rfl hS hlocks (Nat.le_of_ble_eq_true rfl) (Nat.le_of_ble_eq_true rfl) dL_wishesOf_14
theorem kw_strengthOf : zcaw yL_strengthOf cL_strengthOf 4 [(0, 9, 12, 19)] 3 := ⟨zws_in 878 (by decide +kernel) (by decide +kernel), zws_in 82 (by decide +kernel) (by decide +kernel), zws_in 879 (by decide +kernel) (by decide +kernel), ⟨by decide +kernel, by decide +kernel⟩, by decide +kernel, by decide⟩
set_option maxHeartbeats 4000000 in
set_option maxRecDepth 100000 in
theorem cw_strengthOf (p0 : Int32) (T T' : zT) (v : Int32 ⊕ Nat) (hf : f_X3_strengthOf p0 T = some (v, T')) (hv : ∀ n, v = .inr n → n = 2) : zCl yL_strengthOf cL_strengthOf 4 [(0, 9, 12, 19)] 8 1 6 (fun G o => [.ref (G 0 0), .int p0, .ref o]) T v (fun n => 1) T' := by
  intro l D Y S V G A cL o f hl9 hG ho hGo
  refine vx_ofWH (cc := cL_strengthOf) (maxL := 4) (ret := some .int) (hh := [(0, 9, 12, 19)]) (by decide) rfl ?_
  intro p e s m args below meth c s₁ B hml hv9
  obtain ⟨rfl, hK, hP, hO, hA⟩ := hv9
  have hx := B.exec
  have hb := B.bytes
  have hr := B.returns
  have hlocks := B.notSynchronized
  have hown : s.vm.findClass RL = some m.cls := findClass_of_methodNamed B.named
  have hts := atoms_spec (ws := Cond.codeWith yL_strengthOf cL_strengthOf 4 (some .int) [(0, 9, 12, 19)] :: zWS) B.pre
  have htab := vx_table (x := yL_strengthOf) B (hts _ List.mem_cons_self)
  have hS : va_S A s.heap s.heap [] := va_S.rf
  have hl := lv_entry ([.ref (G 0 0), .int p0, .ref o]) (n := 4) (Nat.le_of_ble_eq_true rfl)
  rw [lg_entry_eq]
  generalize (lg_sl ([.ref (G 0 0), .int p0, .ref o]) ++ List.replicate (4 - (lg_sl ([.ref (G 0 0), .int p0, .ref o])).length) Slot.unset).toArray = ls at hl ⊢
  have hl : lv_has ls 4 [(0, .ref (G 0 0)), (1, .int p0), (2, .ref o)] := hl
  have hol : o < s.heap.size := va_at.lt hO
  obtain ⟨A1, eA⟩ : ∃ z : Nat → Prop, z = fun q => A q ∧ q ≠ o := ⟨_, rfl⟩
  have hAB : ∀ q, A1 q → A q := fun q h => by rw [eA] at h; exact h.1
  have hoA : ¬ A1 o := fun h => by rw [eA] at h; exact h.2 rfl
  have hG1 : zG 0 G A1 := ⟨hG.1, fun κ ι hV => by rw [eA]; exact ⟨hG.2 κ ι hV, hGo κ ι hV⟩⟩
  have hA1 : ∀ q, s.heap.size ≤ q → A1 q := fun q hq => by rw [eA]; exact ⟨hA q hq, fun e => by omega⟩
  have F : zFs 0 8 1 6 p l s m _ c cL_strengthOf 4 RL (Cond.codeWith yL_strengthOf cL_strengthOf 4 (some .int) [(0, 9, 12, 19)]) D Y S V G A A1 s.heap := ⟨⟨hx, hb, hml, hown, hts, hl9⟩, hG1, hK.1, hAB, hA1⟩
  refine lv_aload_n hx hb dL_strengthOf_0 rfl (lv_at hl 2 rfl) ?_
  refine lv_iconst (v := 0) hx hb dL_strengthOf_1 (by decide) ?_
  refine lv_aload_n hx hb dL_strengthOf_2 rfl (lv_at hl 0 rfl) ?_
  refine lv_iload_n hx hb dL_strengthOf_3 rfl (lv_at hl 1 rfl) ?_
  have run := z_runVs (p := p) (e := e) (below := below) (meth := meth) (cells := 0) (slots := 0) (ls := ls) (As := [.int p0]) (rest := [.int 0, .ref o]) F k_X3_strengthOf m_880 (c_X3_strengthOf p0 T T' v hf) hP hS (zV_0 (by decide)) rfl rfl rfl rfl hl.1 (Nat.le_of_ble_eq_true rfl) dL_strengthOf_4 (Nat.le_of_ble_eq_true rfl) ⟨(Nat.le_of_ble_eq_true rfl), (Nat.le_of_ble_eq_true rfl)⟩ rfl
  rcases v with r | n
  · refine z_oks run hS hAB (fun H locs hP hz hk hS => ?_)
    have hO : zOw D cL o f H := va_at.kept hO (hk o hol hoA)
    refine lv_i2l (v := r.toInt64) hx hb dL_strengthOf_7 rfl ?_
    refine z_lastO hx hb hK.2.1 hP hO hG ho hGo hS dL_strengthOf_8 (fun H locs f' hf' hP hO hS => ?_)
    refine lv_goto (tgt := 15) hx hb dL_strengthOf_9 (by decide) ?_
    refine lv_iconst (v := 0) hx hb dL_strengthOf_15 (by decide) ?_
    exact z_lend hx hb hr hP hO ⟨rfl, hf'⟩ hS hlocks (Nat.le_of_ble_eq_true rfl) (Nat.le_of_ble_eq_true rfl) dL_strengthOf_16
  · obtain rfl := hv n rfl
    refine z_exs (E := "java/lang/IndexOutOfBoundsException") run hS hAB (fun ce q9 H locs hP hz hk hS hce hcv hcl => ?_)
    have hO : zOw D cL o f H := va_at.kept hO (hk o hol hoA)
    refine vx_catch (own := RL) (name := "java/lang/IndexOutOfBoundsException") (E := "java/lang/IndexOutOfBoundsException") hown [] ⟨0, 9, 12, 19⟩ [] (htab.trans rfl) (fun z hz => by cases hz) (by decide) (by decide) (hts _ (List.mem_cons_of_mem _ m_731)) (va_Nw.use rfl (hK.1.2.2.2.2.2.2.2.2.2.2 "java/lang/IndexOutOfBoundsException" (by decide))) hce hcv hcl ?_
    refine lv_astore_n (lv' := [(3, .ref q9), (0, .ref (G 0 0)), (1, .int p0), (2, .ref o)]) hx hb dL_strengthOf_12 rfl hl (by decide) rfl (fun ls hl => ?_)
    refine lv_iconst (v := 1) hx hb dL_strengthOf_13 (by decide) ?_
    exact z_lend hx hb hr hP hO rfl hS hlocks (Nat.le_of_ble_eq_true rfl) (Nat.le_of_ble_eq_true rfl) dL_strengthOf_14
theorem kw_childrenOn : zcaw yL_childrenOn cL_childrenOn 5 [(0, 10, 13, 21)] 4 := ⟨zws_in 886 (by decide +kernel) (by decide +kernel), zws_in 82 (by decide +kernel) (by decide +kernel), zws_in 887 (by decide +kernel) (by decide +kernel), ⟨by decide +kernel, by decide +kernel⟩, by decide +kernel, by decide⟩
set_option maxHeartbeats 4000000 in
set_option maxRecDepth 100000 in
theorem cw_childrenOn (p0 : Int32) (p1 : Int32) (T T' : zT) (v : Int32 ⊕ Nat) (hf : f_X3_childrenOn p0 p1 T = some (v, T')) (hv : ∀ n, v = .inr n → n = 1) : zCl yL_childrenOn cL_childrenOn 5 [(0, 10, 13, 21)] 8 1 6 (fun G o => [.ref (G 0 0), .int p0, .int p1, .ref o]) T v (fun n => 1) T' := by
  intro l D Y S V G A cL o f hl9 hG ho hGo
  refine vx_ofWH (cc := cL_childrenOn) (maxL := 5) (ret := some .int) (hh := [(0, 10, 13, 21)]) (by decide) rfl ?_
  intro p e s m args below meth c s₁ B hml hv9
  obtain ⟨rfl, hK, hP, hO, hA⟩ := hv9
  have hx := B.exec
  have hb := B.bytes
  have hr := B.returns
  have hlocks := B.notSynchronized
  have hown : s.vm.findClass RL = some m.cls := findClass_of_methodNamed B.named
  have hts := atoms_spec (ws := Cond.codeWith yL_childrenOn cL_childrenOn 5 (some .int) [(0, 10, 13, 21)] :: zWS) B.pre
  have htab := vx_table (x := yL_childrenOn) B (hts _ List.mem_cons_self)
  have hS : va_S A s.heap s.heap [] := va_S.rf
  have hl := lv_entry ([.ref (G 0 0), .int p0, .int p1, .ref o]) (n := 5) (Nat.le_of_ble_eq_true rfl)
  rw [lg_entry_eq]
  generalize (lg_sl ([.ref (G 0 0), .int p0, .int p1, .ref o]) ++ List.replicate (5 - (lg_sl ([.ref (G 0 0), .int p0, .int p1, .ref o])).length) Slot.unset).toArray = ls at hl ⊢
  have hl : lv_has ls 5 [(0, .ref (G 0 0)), (1, .int p0), (2, .int p1), (3, .ref o)] := hl
  have hol : o < s.heap.size := va_at.lt hO
  obtain ⟨A1, eA⟩ : ∃ z : Nat → Prop, z = fun q => A q ∧ q ≠ o := ⟨_, rfl⟩
  have hAB : ∀ q, A1 q → A q := fun q h => by rw [eA] at h; exact h.1
  have hoA : ¬ A1 o := fun h => by rw [eA] at h; exact h.2 rfl
  have hG1 : zG 0 G A1 := ⟨hG.1, fun κ ι hV => by rw [eA]; exact ⟨hG.2 κ ι hV, hGo κ ι hV⟩⟩
  have hA1 : ∀ q, s.heap.size ≤ q → A1 q := fun q hq => by rw [eA]; exact ⟨hA q hq, fun e => by omega⟩
  have F : zFs 0 8 1 6 p l s m _ c cL_childrenOn 5 RL (Cond.codeWith yL_childrenOn cL_childrenOn 5 (some .int) [(0, 10, 13, 21)]) D Y S V G A A1 s.heap := ⟨⟨hx, hb, hml, hown, hts, hl9⟩, hG1, hK.1, hAB, hA1⟩
  refine lv_aload_n hx hb dL_childrenOn_0 rfl (lv_at hl 3 rfl) ?_
  refine lv_iconst (v := 0) hx hb dL_childrenOn_1 (by decide) ?_
  refine lv_aload_n hx hb dL_childrenOn_2 rfl (lv_at hl 0 rfl) ?_
  refine lv_iload_n hx hb dL_childrenOn_3 rfl (lv_at hl 1 rfl) ?_
  refine lv_iload_n hx hb dL_childrenOn_4 rfl (lv_at hl 2 rfl) ?_
  have run := z_runVs (p := p) (e := e) (below := below) (meth := meth) (cells := 0) (slots := 0) (ls := ls) (As := [.int p0, .int p1]) (rest := [.int 0, .ref o]) F k_X3_childrenOn m_888 (c_X3_childrenOn p0 p1 T T' v hf) hP hS (zV_0 (by decide)) rfl rfl rfl rfl hl.1 (Nat.le_of_ble_eq_true rfl) dL_childrenOn_5 (Nat.le_of_ble_eq_true rfl) ⟨(Nat.le_of_ble_eq_true rfl), (Nat.le_of_ble_eq_true rfl)⟩ rfl
  rcases v with r | n
  · refine z_oks run hS hAB (fun H locs hP hz hk hS => ?_)
    have hO : zOw D cL o f H := va_at.kept hO (hk o hol hoA)
    refine lv_i2l (v := r.toInt64) hx hb dL_childrenOn_8 rfl ?_
    refine z_lastO hx hb hK.2.1 hP hO hG ho hGo hS dL_childrenOn_9 (fun H locs f' hf' hP hO hS => ?_)
    refine lv_goto (tgt := 17) hx hb dL_childrenOn_10 (by decide) ?_
    refine lv_iconst (v := 0) hx hb dL_childrenOn_17 (by decide) ?_
    exact z_lend hx hb hr hP hO ⟨rfl, hf'⟩ hS hlocks (Nat.le_of_ble_eq_true rfl) (Nat.le_of_ble_eq_true rfl) dL_childrenOn_18
  · obtain rfl := hv n rfl
    refine z_exs (E := "java/lang/IllegalArgumentException") run hS hAB (fun ce q9 H locs hP hz hk hS hce hcv hcl => ?_)
    have hO : zOw D cL o f H := va_at.kept hO (hk o hol hoA)
    refine vx_catch (own := RL) (name := "java/lang/IllegalArgumentException") (E := "java/lang/IllegalArgumentException") hown [] ⟨0, 10, 13, 21⟩ [] (htab.trans rfl) (fun z hz => by cases hz) (by decide) (by decide) (hts _ (List.mem_cons_of_mem _ m_732)) (va_Nw.use rfl (hK.1.2.2.2.2.2.2.2.2.2.2 "java/lang/IllegalArgumentException" (by decide))) hce hcv hcl ?_
    refine lv_astore (lv' := [(4, .ref q9), (0, .ref (G 0 0)), (1, .int p0), (2, .int p1), (3, .ref o)]) hx hb dL_childrenOn_13 hl (by decide) rfl (fun ls hl => ?_)
    refine lv_iconst (v := 1) hx hb dL_childrenOn_15 (by decide) ?_
    exact z_lend hx hb hr hP hO rfl hS hlocks (Nat.le_of_ble_eq_true rfl) (Nat.le_of_ble_eq_true rfl) dL_childrenOn_16
theorem kw_dateAt : zcaw yL_dateAt cL_dateAt 4 [(0, 9, 12, 19)] 3 := ⟨zws_in 893 (by decide +kernel) (by decide +kernel), zws_in 82 (by decide +kernel) (by decide +kernel), zws_in 894 (by decide +kernel) (by decide +kernel), ⟨by decide +kernel, by decide +kernel⟩, by decide +kernel, by decide⟩
set_option maxHeartbeats 4000000 in
set_option maxRecDepth 100000 in
theorem cw_dateAt (p0 : Int32) (T T' : zT) (v : Int32 ⊕ Nat) (hf : f_X3_dateAt p0 T = some (v, T')) (hv : ∀ n, v = .inr n → n = 2) : zCl yL_dateAt cL_dateAt 4 [(0, 9, 12, 19)] 7 1 6 (fun G o => [.ref (G 0 0), .int p0, .ref o]) T v (fun n => 1) T' := by
  intro l D Y S V G A cL o f hl9 hG ho hGo
  refine vx_ofWH (cc := cL_dateAt) (maxL := 4) (ret := some .int) (hh := [(0, 9, 12, 19)]) (by decide) rfl ?_
  intro p e s m args below meth c s₁ B hml hv9
  obtain ⟨rfl, hK, hP, hO, hA⟩ := hv9
  have hx := B.exec
  have hb := B.bytes
  have hr := B.returns
  have hlocks := B.notSynchronized
  have hown : s.vm.findClass RL = some m.cls := findClass_of_methodNamed B.named
  have hts := atoms_spec (ws := Cond.codeWith yL_dateAt cL_dateAt 4 (some .int) [(0, 9, 12, 19)] :: zWS) B.pre
  have htab := vx_table (x := yL_dateAt) B (hts _ List.mem_cons_self)
  have hS : va_S A s.heap s.heap [] := va_S.rf
  have hl := lv_entry ([.ref (G 0 0), .int p0, .ref o]) (n := 4) (Nat.le_of_ble_eq_true rfl)
  rw [lg_entry_eq]
  generalize (lg_sl ([.ref (G 0 0), .int p0, .ref o]) ++ List.replicate (4 - (lg_sl ([.ref (G 0 0), .int p0, .ref o])).length) Slot.unset).toArray = ls at hl ⊢
  have hl : lv_has ls 4 [(0, .ref (G 0 0)), (1, .int p0), (2, .ref o)] := hl
  have hol : o < s.heap.size := va_at.lt hO
  obtain ⟨A1, eA⟩ : ∃ z : Nat → Prop, z = fun q => A q ∧ q ≠ o := ⟨_, rfl⟩
  have hAB : ∀ q, A1 q → A q := fun q h => by rw [eA] at h; exact h.1
  have hoA : ¬ A1 o := fun h => by rw [eA] at h; exact h.2 rfl
  have hG1 : zG 0 G A1 := ⟨hG.1, fun κ ι hV => by rw [eA]; exact ⟨hG.2 κ ι hV, hGo κ ι hV⟩⟩
  have hA1 : ∀ q, s.heap.size ≤ q → A1 q := fun q hq => by rw [eA]; exact ⟨hA q hq, fun e => by omega⟩
  have F : zFs 0 7 1 6 p l s m _ c cL_dateAt 4 RL (Cond.codeWith yL_dateAt cL_dateAt 4 (some .int) [(0, 9, 12, 19)]) D Y S V G A A1 s.heap := ⟨⟨hx, hb, hml, hown, hts, hl9⟩, hG1, hK.1, hAB, hA1⟩
  refine lv_aload_n hx hb dL_dateAt_0 rfl (lv_at hl 2 rfl) ?_
  refine lv_iconst (v := 0) hx hb dL_dateAt_1 (by decide) ?_
  refine lv_aload_n hx hb dL_dateAt_2 rfl (lv_at hl 0 rfl) ?_
  refine lv_iload_n hx hb dL_dateAt_3 rfl (lv_at hl 1 rfl) ?_
  have run := z_runVs (p := p) (e := e) (below := below) (meth := meth) (cells := 0) (slots := 0) (ls := ls) (As := [.int p0]) (rest := [.int 0, .ref o]) F k_X3_dateAt m_895 (c_X3_dateAt p0 T T' v hf) hP hS (zV_0 (by decide)) rfl rfl rfl rfl hl.1 (Nat.le_of_ble_eq_true rfl) dL_dateAt_4 (Nat.le_of_ble_eq_true rfl) ⟨(Nat.le_of_ble_eq_true rfl), (Nat.le_of_ble_eq_true rfl)⟩ rfl
  rcases v with r | n
  · refine z_oks run hS hAB (fun H locs hP hz hk hS => ?_)
    have hO : zOw D cL o f H := va_at.kept hO (hk o hol hoA)
    refine lv_i2l (v := r.toInt64) hx hb dL_dateAt_7 rfl ?_
    refine z_lastO hx hb hK.2.1 hP hO hG ho hGo hS dL_dateAt_8 (fun H locs f' hf' hP hO hS => ?_)
    refine lv_goto (tgt := 15) hx hb dL_dateAt_9 (by decide) ?_
    refine lv_iconst (v := 0) hx hb dL_dateAt_15 (by decide) ?_
    exact z_lend hx hb hr hP hO ⟨rfl, hf'⟩ hS hlocks (Nat.le_of_ble_eq_true rfl) (Nat.le_of_ble_eq_true rfl) dL_dateAt_16
  · obtain rfl := hv n rfl
    refine z_exs (E := "java/lang/IndexOutOfBoundsException") run hS hAB (fun ce q9 H locs hP hz hk hS hce hcv hcl => ?_)
    have hO : zOw D cL o f H := va_at.kept hO (hk o hol hoA)
    refine vx_catch (own := RL) (name := "java/lang/IndexOutOfBoundsException") (E := "java/lang/IndexOutOfBoundsException") hown [] ⟨0, 9, 12, 19⟩ [] (htab.trans rfl) (fun z hz => by cases hz) (by decide) (by decide) (hts _ (List.mem_cons_of_mem _ m_731)) (va_Nw.use rfl (hK.1.2.2.2.2.2.2.2.2.2.2 "java/lang/IndexOutOfBoundsException" (by decide))) hce hcv hcl ?_
    refine lv_astore_n (lv' := [(3, .ref q9), (0, .ref (G 0 0)), (1, .int p0), (2, .ref o)]) hx hb dL_dateAt_12 rfl hl (by decide) rfl (fun ls hl => ?_)
    refine lv_iconst (v := 1) hx hb dL_dateAt_13 (by decide) ?_
    exact z_lend hx hb hr hP hO rfl hS hlocks (Nat.le_of_ble_eq_true rfl) (Nat.le_of_ble_eq_true rfl) dL_dateAt_14
theorem kw_obstacle : zcaw yL_obstacle cL_obstacle 7 [(0, 14, 17, 19), (0, 14, 21, 21)] 6 := ⟨zws_in 900 (by decide +kernel) (by decide +kernel), zws_in 82 (by decide +kernel) (by decide +kernel), zws_in 901 (by decide +kernel) (by decide +kernel), ⟨by decide +kernel, by decide +kernel⟩, by decide +kernel, by decide⟩
set_option maxHeartbeats 4000000 in
set_option maxRecDepth 100000 in
theorem cw_obstacle (p0 : Int32) (p1 : Int32) (p2 : Int32) (p3 : Int32) (T T' : zT) (v : Int32 ⊕ Nat) (hf : f_X3_obstacle p0 p1 p2 p3 T = some (v, T')) (hv : ∀ n, v = .inr n → n = 2 ∨ n = 1) : zCl yL_obstacle cL_obstacle 7 [(0, 14, 17, 19), (0, 14, 21, 21)] 8 3 18 (fun G o => [.ref (G 0 0), .int p0, .int p1, .int p2, .int p3, .ref o]) T v (fun n => if n = 2 then 1 else 2) T' := by
  intro l D Y S V G A cL o f hl9 hG ho hGo
  refine vx_ofWH (cc := cL_obstacle) (maxL := 7) (ret := some .int) (hh := [(0, 14, 17, 19), (0, 14, 21, 21)]) (by decide) rfl ?_
  intro p e s m args below meth c s₁ B hml hv9
  obtain ⟨rfl, hK, hP, hO, hA⟩ := hv9
  have hx := B.exec
  have hb := B.bytes
  have hr := B.returns
  have hlocks := B.notSynchronized
  have hown : s.vm.findClass RL = some m.cls := findClass_of_methodNamed B.named
  have hts := atoms_spec (ws := Cond.codeWith yL_obstacle cL_obstacle 7 (some .int) [(0, 14, 17, 19), (0, 14, 21, 21)] :: zWS) B.pre
  have htab := vx_table (x := yL_obstacle) B (hts _ List.mem_cons_self)
  have hS : va_S A s.heap s.heap [] := va_S.rf
  have hl := lv_entry ([.ref (G 0 0), .int p0, .int p1, .int p2, .int p3, .ref o]) (n := 7) (Nat.le_of_ble_eq_true rfl)
  rw [lg_entry_eq]
  generalize (lg_sl ([.ref (G 0 0), .int p0, .int p1, .int p2, .int p3, .ref o]) ++ List.replicate (7 - (lg_sl ([.ref (G 0 0), .int p0, .int p1, .int p2, .int p3, .ref o])).length) Slot.unset).toArray = ls at hl ⊢
  have hl : lv_has ls 7 [(0, .ref (G 0 0)), (1, .int p0), (2, .int p1), (3, .int p2), (4, .int p3), (5, .ref o)] := hl
  have hol : o < s.heap.size := va_at.lt hO
  obtain ⟨A1, eA⟩ : ∃ z : Nat → Prop, z = fun q => A q ∧ q ≠ o := ⟨_, rfl⟩
  have hAB : ∀ q, A1 q → A q := fun q h => by rw [eA] at h; exact h.1
  have hoA : ¬ A1 o := fun h => by rw [eA] at h; exact h.2 rfl
  have hG1 : zG 0 G A1 := ⟨hG.1, fun κ ι hV => by rw [eA]; exact ⟨hG.2 κ ι hV, hGo κ ι hV⟩⟩
  have hA1 : ∀ q, s.heap.size ≤ q → A1 q := fun q hq => by rw [eA]; exact ⟨hA q hq, fun e => by omega⟩
  have F : zFs 0 8 3 18 p l s m _ c cL_obstacle 7 RL (Cond.codeWith yL_obstacle cL_obstacle 7 (some .int) [(0, 14, 17, 19), (0, 14, 21, 21)]) D Y S V G A A1 s.heap := ⟨⟨hx, hb, hml, hown, hts, hl9⟩, hG1, hK.1, hAB, hA1⟩
  refine lv_aload hx hb dL_obstacle_0 (lv_at hl 5 rfl) ?_
  refine lv_iconst (v := 0) hx hb dL_obstacle_2 (by decide) ?_
  refine lv_aload_n hx hb dL_obstacle_3 rfl (lv_at hl 0 rfl) ?_
  refine lv_iload_n hx hb dL_obstacle_4 rfl (lv_at hl 1 rfl) ?_
  refine lv_iload_n hx hb dL_obstacle_5 rfl (lv_at hl 2 rfl) ?_
  refine lv_iload_n hx hb dL_obstacle_6 rfl (lv_at hl 3 rfl) ?_
  refine lv_iload hx hb dL_obstacle_7 (lv_at hl 4 rfl) ?_
  have run := z_runVs (p := p) (e := e) (below := below) (meth := meth) (cells := 0) (slots := 0) (ls := ls) (As := [.int p0, .int p1, .int p2, .int p3]) (rest := [.int 0, .ref o]) F k_X3_obstacle m_902 (c_X3_obstacle p0 p1 p2 p3 T T' v hf) hP hS (zV_0 (by decide)) rfl rfl rfl rfl hl.1 (Nat.le_of_ble_eq_true rfl) dL_obstacle_9 (Nat.le_of_ble_eq_true rfl) ⟨(Nat.le_of_ble_eq_true rfl), (Nat.le_of_ble_eq_true rfl)⟩ rfl
  rcases v with r | n
  · refine z_oks run hS hAB (fun H locs hP hz hk hS => ?_)
    have hO : zOw D cL o f H := va_at.kept hO (hk o hol hoA)
    refine lv_i2l (v := r.toInt64) hx hb dL_obstacle_12 rfl ?_
    refine z_lastO hx hb hK.2.1 hP hO hG ho hGo hS dL_obstacle_13 (fun H locs f' hf' hP hO hS => ?_)
    refine lv_goto (tgt := 25) hx hb dL_obstacle_14 (by decide) ?_
    refine lv_iconst (v := 0) hx hb dL_obstacle_25 (by decide) ?_
    exact z_lend hx hb hr hP hO ⟨rfl, hf'⟩ hS hlocks (Nat.le_of_ble_eq_true rfl) (Nat.le_of_ble_eq_true rfl) dL_obstacle_26
  · rcases hv n rfl with rfl | rfl
    · refine z_exs (E := "java/lang/IndexOutOfBoundsException") run hS hAB (fun ce q9 H locs hP hz hk hS hce hcv hcl => ?_)
      have hO : zOw D cL o f H := va_at.kept hO (hk o hol hoA)
      refine vx_catch (own := RL) (name := "java/lang/IndexOutOfBoundsException") (E := "java/lang/IndexOutOfBoundsException") hown [] ⟨0, 14, 17, 19⟩ [⟨0, 14, 21, 21⟩] (htab.trans rfl) (fun z hz => by cases hz) (by decide) (by decide) (hts _ (List.mem_cons_of_mem _ m_731)) (va_Nw.use rfl (hK.1.2.2.2.2.2.2.2.2.2.2 "java/lang/IndexOutOfBoundsException" (by decide))) hce hcv hcl ?_
      refine lv_astore (lv' := [(6, .ref q9), (0, .ref (G 0 0)), (1, .int p0), (2, .int p1), (3, .int p2), (4, .int p3), (5, .ref o)]) hx hb dL_obstacle_17 hl (by decide) rfl (fun ls hl => ?_)
      refine lv_iconst (v := 1) hx hb dL_obstacle_19 (by decide) ?_
      exact z_lend hx hb hr hP hO rfl hS hlocks (Nat.le_of_ble_eq_true rfl) (Nat.le_of_ble_eq_true rfl) dL_obstacle_20
    · refine z_exs (E := "java/lang/IllegalArgumentException") run hS hAB (fun ce q9 H locs hP hz hk hS hce hcv hcl => ?_)
      have hO : zOw D cL o f H := va_at.kept hO (hk o hol hoA)
      refine vx_catch (own := RL) (name := "java/lang/IllegalArgumentException") (E := "java/lang/IllegalArgumentException") hown [⟨0, 14, 17, 19⟩] ⟨0, 14, 21, 21⟩ [] (htab.trans rfl) (fun z hz => by obtain rfl := List.mem_singleton.mp hz; exact Or.inr ⟨by decide, "java/lang/IndexOutOfBoundsException", hts _ (List.mem_cons_of_mem _ m_731), hK.2.2 ("java/lang/IllegalArgumentException", "java/lang/IndexOutOfBoundsException") (by decide)⟩) (by decide) (by decide) (hts _ (List.mem_cons_of_mem _ m_732)) (va_Nw.use rfl (hK.1.2.2.2.2.2.2.2.2.2.2 "java/lang/IllegalArgumentException" (by decide))) hce hcv hcl ?_
      refine lv_astore (lv' := [(6, .ref q9), (0, .ref (G 0 0)), (1, .int p0), (2, .int p1), (3, .int p2), (4, .int p3), (5, .ref o)]) hx hb dL_obstacle_21 hl (by decide) rfl (fun ls hl => ?_)
      refine lv_iconst (v := 2) hx hb dL_obstacle_23 (by decide) ?_
      exact z_lend hx hb hr hP hO rfl hS hlocks (Nat.le_of_ble_eq_true rfl) (Nat.le_of_ble_eq_true rfl) dL_obstacle_24
theorem kw_freeGarden : zcaw yL_freeGarden cL_freeGarden 6 [(0, 12, 15, 19), (0, 12, 19, 21)] 5 := ⟨zws_in 908 (by decide +kernel) (by decide +kernel), zws_in 82 (by decide +kernel) (by decide +kernel), zws_in 909 (by decide +kernel) (by decide +kernel), ⟨by decide +kernel, by decide +kernel⟩, by decide +kernel, by decide⟩
set_option maxHeartbeats 4000000 in
set_option maxRecDepth 100000 in
theorem cw_freeGarden (p0 : Int32) (p1 : Int32) (p2 : Int32) (T T' : zT) (v : Int32 ⊕ Nat) (hf : f_X3_freeGarden p0 p1 p2 T = some (v, T')) (hv : ∀ n, v = .inr n → n = 2 ∨ n = 1) : zCl yL_freeGarden cL_freeGarden 6 [(0, 12, 15, 19), (0, 12, 19, 21)] 8 2 12 (fun G o => [.ref (G 0 0), .int p0, .int p1, .int p2, .ref o]) T v (fun n => if n = 2 then 1 else 2) T' := by
  intro l D Y S V G A cL o f hl9 hG ho hGo
  refine vx_ofWH (cc := cL_freeGarden) (maxL := 6) (ret := some .int) (hh := [(0, 12, 15, 19), (0, 12, 19, 21)]) (by decide) rfl ?_
  intro p e s m args below meth c s₁ B hml hv9
  obtain ⟨rfl, hK, hP, hO, hA⟩ := hv9
  have hx := B.exec
  have hb := B.bytes
  have hr := B.returns
  have hlocks := B.notSynchronized
  have hown : s.vm.findClass RL = some m.cls := findClass_of_methodNamed B.named
  have hts := atoms_spec (ws := Cond.codeWith yL_freeGarden cL_freeGarden 6 (some .int) [(0, 12, 15, 19), (0, 12, 19, 21)] :: zWS) B.pre
  have htab := vx_table (x := yL_freeGarden) B (hts _ List.mem_cons_self)
  have hS : va_S A s.heap s.heap [] := va_S.rf
  have hl := lv_entry ([.ref (G 0 0), .int p0, .int p1, .int p2, .ref o]) (n := 6) (Nat.le_of_ble_eq_true rfl)
  rw [lg_entry_eq]
  generalize (lg_sl ([.ref (G 0 0), .int p0, .int p1, .int p2, .ref o]) ++ List.replicate (6 - (lg_sl ([.ref (G 0 0), .int p0, .int p1, .int p2, .ref o])).length) Slot.unset).toArray = ls at hl ⊢
  have hl : lv_has ls 6 [(0, .ref (G 0 0)), (1, .int p0), (2, .int p1), (3, .int p2), (4, .ref o)] := hl
  have hol : o < s.heap.size := va_at.lt hO
  obtain ⟨A1, eA⟩ : ∃ z : Nat → Prop, z = fun q => A q ∧ q ≠ o := ⟨_, rfl⟩
  have hAB : ∀ q, A1 q → A q := fun q h => by rw [eA] at h; exact h.1
  have hoA : ¬ A1 o := fun h => by rw [eA] at h; exact h.2 rfl
  have hG1 : zG 0 G A1 := ⟨hG.1, fun κ ι hV => by rw [eA]; exact ⟨hG.2 κ ι hV, hGo κ ι hV⟩⟩
  have hA1 : ∀ q, s.heap.size ≤ q → A1 q := fun q hq => by rw [eA]; exact ⟨hA q hq, fun e => by omega⟩
  have F : zFs 0 8 2 12 p l s m _ c cL_freeGarden 6 RL (Cond.codeWith yL_freeGarden cL_freeGarden 6 (some .int) [(0, 12, 15, 19), (0, 12, 19, 21)]) D Y S V G A A1 s.heap := ⟨⟨hx, hb, hml, hown, hts, hl9⟩, hG1, hK.1, hAB, hA1⟩
  refine lv_aload hx hb dL_freeGarden_0 (lv_at hl 4 rfl) ?_
  refine lv_iconst (v := 0) hx hb dL_freeGarden_2 (by decide) ?_
  refine lv_aload_n hx hb dL_freeGarden_3 rfl (lv_at hl 0 rfl) ?_
  refine lv_iload_n hx hb dL_freeGarden_4 rfl (lv_at hl 1 rfl) ?_
  refine lv_iload_n hx hb dL_freeGarden_5 rfl (lv_at hl 2 rfl) ?_
  refine lv_iload_n hx hb dL_freeGarden_6 rfl (lv_at hl 3 rfl) ?_
  have run := z_runVs (p := p) (e := e) (below := below) (meth := meth) (cells := 0) (slots := 0) (ls := ls) (As := [.int p0, .int p1, .int p2]) (rest := [.int 0, .ref o]) F k_X3_freeGarden m_910 (c_X3_freeGarden p0 p1 p2 T T' v hf) hP hS (zV_0 (by decide)) rfl rfl rfl rfl hl.1 (Nat.le_of_ble_eq_true rfl) dL_freeGarden_7 (Nat.le_of_ble_eq_true rfl) ⟨(Nat.le_of_ble_eq_true rfl), (Nat.le_of_ble_eq_true rfl)⟩ rfl
  rcases v with r | n
  · refine z_oks run hS hAB (fun H locs hP hz hk hS => ?_)
    have hO : zOw D cL o f H := va_at.kept hO (hk o hol hoA)
    refine lv_i2l (v := r.toInt64) hx hb dL_freeGarden_10 rfl ?_
    refine z_lastO hx hb hK.2.1 hP hO hG ho hGo hS dL_freeGarden_11 (fun H locs f' hf' hP hO hS => ?_)
    refine lv_goto (tgt := 23) hx hb dL_freeGarden_12 (by decide) ?_
    refine lv_iconst (v := 0) hx hb dL_freeGarden_23 (by decide) ?_
    exact z_lend hx hb hr hP hO ⟨rfl, hf'⟩ hS hlocks (Nat.le_of_ble_eq_true rfl) (Nat.le_of_ble_eq_true rfl) dL_freeGarden_24
  · rcases hv n rfl with rfl | rfl
    · refine z_exs (E := "java/lang/IndexOutOfBoundsException") run hS hAB (fun ce q9 H locs hP hz hk hS hce hcv hcl => ?_)
      have hO : zOw D cL o f H := va_at.kept hO (hk o hol hoA)
      refine vx_catch (own := RL) (name := "java/lang/IndexOutOfBoundsException") (E := "java/lang/IndexOutOfBoundsException") hown [] ⟨0, 12, 15, 19⟩ [⟨0, 12, 19, 21⟩] (htab.trans rfl) (fun z hz => by cases hz) (by decide) (by decide) (hts _ (List.mem_cons_of_mem _ m_731)) (va_Nw.use rfl (hK.1.2.2.2.2.2.2.2.2.2.2 "java/lang/IndexOutOfBoundsException" (by decide))) hce hcv hcl ?_
      refine lv_astore (lv' := [(5, .ref q9), (0, .ref (G 0 0)), (1, .int p0), (2, .int p1), (3, .int p2), (4, .ref o)]) hx hb dL_freeGarden_15 hl (by decide) rfl (fun ls hl => ?_)
      refine lv_iconst (v := 1) hx hb dL_freeGarden_17 (by decide) ?_
      exact z_lend hx hb hr hP hO rfl hS hlocks (Nat.le_of_ble_eq_true rfl) (Nat.le_of_ble_eq_true rfl) dL_freeGarden_18
    · refine z_exs (E := "java/lang/IllegalArgumentException") run hS hAB (fun ce q9 H locs hP hz hk hS hce hcv hcl => ?_)
      have hO : zOw D cL o f H := va_at.kept hO (hk o hol hoA)
      refine vx_catch (own := RL) (name := "java/lang/IllegalArgumentException") (E := "java/lang/IllegalArgumentException") hown [⟨0, 12, 15, 19⟩] ⟨0, 12, 19, 21⟩ [] (htab.trans rfl) (fun z hz => by obtain rfl := List.mem_singleton.mp hz; exact Or.inr ⟨by decide, "java/lang/IndexOutOfBoundsException", hts _ (List.mem_cons_of_mem _ m_731), hK.2.2 ("java/lang/IllegalArgumentException", "java/lang/IndexOutOfBoundsException") (by decide)⟩) (by decide) (by decide) (hts _ (List.mem_cons_of_mem _ m_732)) (va_Nw.use rfl (hK.1.2.2.2.2.2.2.2.2.2.2 "java/lang/IllegalArgumentException" (by decide))) hce hcv hcl ?_
      refine lv_astore (lv' := [(5, .ref q9), (0, .ref (G 0 0)), (1, .int p0), (2, .int p1), (3, .int p2), (4, .ref o)]) hx hb dL_freeGarden_19 hl (by decide) rfl (fun ls hl => ?_)
      refine lv_iconst (v := 2) hx hb dL_freeGarden_21 (by decide) ?_
      exact z_lend hx hb hr hP hO rfl hS hlocks (Nat.le_of_ble_eq_true rfl) (Nat.le_of_ble_eq_true rfl) dL_freeGarden_22
theorem kw_drawsNeeded : zcaw yL_drawsNeeded cL_drawsNeeded 4 [(0, 9, 12, 19)] 3 := ⟨zws_in 915 (by decide +kernel) (by decide +kernel), zws_in 82 (by decide +kernel) (by decide +kernel), zws_in 916 (by decide +kernel) (by decide +kernel), ⟨by decide +kernel, by decide +kernel⟩, by decide +kernel, by decide⟩
set_option maxHeartbeats 4000000 in
set_option maxRecDepth 100000 in
theorem cw_drawsNeeded (p0 : Int32) (T T' : zT) (v : Int32 ⊕ Nat) (hf : f_X3_drawsNeeded p0 T = some (v, T')) (hv : ∀ n, v = .inr n → n = 2) : zCl yL_drawsNeeded cL_drawsNeeded 4 [(0, 9, 12, 19)] 8 1 6 (fun G o => [.ref (G 0 0), .int p0, .ref o]) T v (fun n => 1) T' := by
  intro l D Y S V G A cL o f hl9 hG ho hGo
  refine vx_ofWH (cc := cL_drawsNeeded) (maxL := 4) (ret := some .int) (hh := [(0, 9, 12, 19)]) (by decide) rfl ?_
  intro p e s m args below meth c s₁ B hml hv9
  obtain ⟨rfl, hK, hP, hO, hA⟩ := hv9
  have hx := B.exec
  have hb := B.bytes
  have hr := B.returns
  have hlocks := B.notSynchronized
  have hown : s.vm.findClass RL = some m.cls := findClass_of_methodNamed B.named
  have hts := atoms_spec (ws := Cond.codeWith yL_drawsNeeded cL_drawsNeeded 4 (some .int) [(0, 9, 12, 19)] :: zWS) B.pre
  have htab := vx_table (x := yL_drawsNeeded) B (hts _ List.mem_cons_self)
  have hS : va_S A s.heap s.heap [] := va_S.rf
  have hl := lv_entry ([.ref (G 0 0), .int p0, .ref o]) (n := 4) (Nat.le_of_ble_eq_true rfl)
  rw [lg_entry_eq]
  generalize (lg_sl ([.ref (G 0 0), .int p0, .ref o]) ++ List.replicate (4 - (lg_sl ([.ref (G 0 0), .int p0, .ref o])).length) Slot.unset).toArray = ls at hl ⊢
  have hl : lv_has ls 4 [(0, .ref (G 0 0)), (1, .int p0), (2, .ref o)] := hl
  have hol : o < s.heap.size := va_at.lt hO
  obtain ⟨A1, eA⟩ : ∃ z : Nat → Prop, z = fun q => A q ∧ q ≠ o := ⟨_, rfl⟩
  have hAB : ∀ q, A1 q → A q := fun q h => by rw [eA] at h; exact h.1
  have hoA : ¬ A1 o := fun h => by rw [eA] at h; exact h.2 rfl
  have hG1 : zG 0 G A1 := ⟨hG.1, fun κ ι hV => by rw [eA]; exact ⟨hG.2 κ ι hV, hGo κ ι hV⟩⟩
  have hA1 : ∀ q, s.heap.size ≤ q → A1 q := fun q hq => by rw [eA]; exact ⟨hA q hq, fun e => by omega⟩
  have F : zFs 0 8 1 6 p l s m _ c cL_drawsNeeded 4 RL (Cond.codeWith yL_drawsNeeded cL_drawsNeeded 4 (some .int) [(0, 9, 12, 19)]) D Y S V G A A1 s.heap := ⟨⟨hx, hb, hml, hown, hts, hl9⟩, hG1, hK.1, hAB, hA1⟩
  refine lv_aload_n hx hb dL_drawsNeeded_0 rfl (lv_at hl 2 rfl) ?_
  refine lv_iconst (v := 0) hx hb dL_drawsNeeded_1 (by decide) ?_
  refine lv_aload_n hx hb dL_drawsNeeded_2 rfl (lv_at hl 0 rfl) ?_
  refine lv_iload_n hx hb dL_drawsNeeded_3 rfl (lv_at hl 1 rfl) ?_
  have run := z_runVs (p := p) (e := e) (below := below) (meth := meth) (cells := 0) (slots := 0) (ls := ls) (As := [.int p0]) (rest := [.int 0, .ref o]) F k_X3_drawsNeeded m_917 (c_X3_drawsNeeded p0 T T' v hf) hP hS (zV_0 (by decide)) rfl rfl rfl rfl hl.1 (Nat.le_of_ble_eq_true rfl) dL_drawsNeeded_4 (Nat.le_of_ble_eq_true rfl) ⟨(Nat.le_of_ble_eq_true rfl), (Nat.le_of_ble_eq_true rfl)⟩ rfl
  rcases v with r | n
  · refine z_oks run hS hAB (fun H locs hP hz hk hS => ?_)
    have hO : zOw D cL o f H := va_at.kept hO (hk o hol hoA)
    refine lv_i2l (v := r.toInt64) hx hb dL_drawsNeeded_7 rfl ?_
    refine z_lastO hx hb hK.2.1 hP hO hG ho hGo hS dL_drawsNeeded_8 (fun H locs f' hf' hP hO hS => ?_)
    refine lv_goto (tgt := 15) hx hb dL_drawsNeeded_9 (by decide) ?_
    refine lv_iconst (v := 0) hx hb dL_drawsNeeded_15 (by decide) ?_
    exact z_lend hx hb hr hP hO ⟨rfl, hf'⟩ hS hlocks (Nat.le_of_ble_eq_true rfl) (Nat.le_of_ble_eq_true rfl) dL_drawsNeeded_16
  · obtain rfl := hv n rfl
    refine z_exs (E := "java/lang/IndexOutOfBoundsException") run hS hAB (fun ce q9 H locs hP hz hk hS hce hcv hcl => ?_)
    have hO : zOw D cL o f H := va_at.kept hO (hk o hol hoA)
    refine vx_catch (own := RL) (name := "java/lang/IndexOutOfBoundsException") (E := "java/lang/IndexOutOfBoundsException") hown [] ⟨0, 9, 12, 19⟩ [] (htab.trans rfl) (fun z hz => by cases hz) (by decide) (by decide) (hts _ (List.mem_cons_of_mem _ m_731)) (va_Nw.use rfl (hK.1.2.2.2.2.2.2.2.2.2.2 "java/lang/IndexOutOfBoundsException" (by decide))) hce hcv hcl ?_
    refine lv_astore_n (lv' := [(3, .ref q9), (0, .ref (G 0 0)), (1, .int p0), (2, .ref o)]) hx hb dL_drawsNeeded_12 rfl hl (by decide) rfl (fun ls hl => ?_)
    refine lv_iconst (v := 1) hx hb dL_drawsNeeded_13 (by decide) ?_
    exact z_lend hx hb hr hP hO rfl hS hlocks (Nat.le_of_ble_eq_true rfl) (Nat.le_of_ble_eq_true rfl) dL_drawsNeeded_14
theorem kw_candlesAfter : zcaw yL_candlesAfter cL_candlesAfter 4 [(0, 9, 12, 21)] 3 := ⟨zws_in 923 (by decide +kernel) (by decide +kernel), zws_in 82 (by decide +kernel) (by decide +kernel), zws_in 924 (by decide +kernel) (by decide +kernel), ⟨by decide +kernel, by decide +kernel⟩, by decide +kernel, by decide⟩
set_option maxHeartbeats 4000000 in
set_option maxRecDepth 100000 in
theorem cw_candlesAfter (p0 : Int32) (T T' : zT) (v : Int32 ⊕ Nat) (hf : f_X3_candlesAfter p0 T = some (v, T')) (hv : ∀ n, v = .inr n → n = 1) : zCl yL_candlesAfter cL_candlesAfter 4 [(0, 9, 12, 21)] 8 1 6 (fun G o => [.ref (G 0 0), .int p0, .ref o]) T v (fun n => 1) T' := by
  intro l D Y S V G A cL o f hl9 hG ho hGo
  refine vx_ofWH (cc := cL_candlesAfter) (maxL := 4) (ret := some .int) (hh := [(0, 9, 12, 21)]) (by decide) rfl ?_
  intro p e s m args below meth c s₁ B hml hv9
  obtain ⟨rfl, hK, hP, hO, hA⟩ := hv9
  have hx := B.exec
  have hb := B.bytes
  have hr := B.returns
  have hlocks := B.notSynchronized
  have hown : s.vm.findClass RL = some m.cls := findClass_of_methodNamed B.named
  have hts := atoms_spec (ws := Cond.codeWith yL_candlesAfter cL_candlesAfter 4 (some .int) [(0, 9, 12, 21)] :: zWS) B.pre
  have htab := vx_table (x := yL_candlesAfter) B (hts _ List.mem_cons_self)
  have hS : va_S A s.heap s.heap [] := va_S.rf
  have hl := lv_entry ([.ref (G 0 0), .int p0, .ref o]) (n := 4) (Nat.le_of_ble_eq_true rfl)
  rw [lg_entry_eq]
  generalize (lg_sl ([.ref (G 0 0), .int p0, .ref o]) ++ List.replicate (4 - (lg_sl ([.ref (G 0 0), .int p0, .ref o])).length) Slot.unset).toArray = ls at hl ⊢
  have hl : lv_has ls 4 [(0, .ref (G 0 0)), (1, .int p0), (2, .ref o)] := hl
  have hol : o < s.heap.size := va_at.lt hO
  obtain ⟨A1, eA⟩ : ∃ z : Nat → Prop, z = fun q => A q ∧ q ≠ o := ⟨_, rfl⟩
  have hAB : ∀ q, A1 q → A q := fun q h => by rw [eA] at h; exact h.1
  have hoA : ¬ A1 o := fun h => by rw [eA] at h; exact h.2 rfl
  have hG1 : zG 0 G A1 := ⟨hG.1, fun κ ι hV => by rw [eA]; exact ⟨hG.2 κ ι hV, hGo κ ι hV⟩⟩
  have hA1 : ∀ q, s.heap.size ≤ q → A1 q := fun q hq => by rw [eA]; exact ⟨hA q hq, fun e => by omega⟩
  have F : zFs 0 8 1 6 p l s m _ c cL_candlesAfter 4 RL (Cond.codeWith yL_candlesAfter cL_candlesAfter 4 (some .int) [(0, 9, 12, 21)]) D Y S V G A A1 s.heap := ⟨⟨hx, hb, hml, hown, hts, hl9⟩, hG1, hK.1, hAB, hA1⟩
  refine lv_aload_n hx hb dL_candlesAfter_0 rfl (lv_at hl 2 rfl) ?_
  refine lv_iconst (v := 0) hx hb dL_candlesAfter_1 (by decide) ?_
  refine lv_aload_n hx hb dL_candlesAfter_2 rfl (lv_at hl 0 rfl) ?_
  refine lv_iload_n hx hb dL_candlesAfter_3 rfl (lv_at hl 1 rfl) ?_
  have run := z_runVs (p := p) (e := e) (below := below) (meth := meth) (cells := 0) (slots := 0) (ls := ls) (As := [.int p0]) (rest := [.int 0, .ref o]) F k_X3_candlesAfter m_925 (c_X3_candlesAfter p0 T T' v hf) hP hS (zV_0 (by decide)) rfl rfl rfl rfl hl.1 (Nat.le_of_ble_eq_true rfl) dL_candlesAfter_4 (Nat.le_of_ble_eq_true rfl) ⟨(Nat.le_of_ble_eq_true rfl), (Nat.le_of_ble_eq_true rfl)⟩ rfl
  rcases v with r | n
  · refine z_oks run hS hAB (fun H locs hP hz hk hS => ?_)
    have hO : zOw D cL o f H := va_at.kept hO (hk o hol hoA)
    refine lv_i2l (v := r.toInt64) hx hb dL_candlesAfter_7 rfl ?_
    refine z_lastO hx hb hK.2.1 hP hO hG ho hGo hS dL_candlesAfter_8 (fun H locs f' hf' hP hO hS => ?_)
    refine lv_goto (tgt := 15) hx hb dL_candlesAfter_9 (by decide) ?_
    refine lv_iconst (v := 0) hx hb dL_candlesAfter_15 (by decide) ?_
    exact z_lend hx hb hr hP hO ⟨rfl, hf'⟩ hS hlocks (Nat.le_of_ble_eq_true rfl) (Nat.le_of_ble_eq_true rfl) dL_candlesAfter_16
  · obtain rfl := hv n rfl
    refine z_exs (E := "java/lang/IllegalArgumentException") run hS hAB (fun ce q9 H locs hP hz hk hS hce hcv hcl => ?_)
    have hO : zOw D cL o f H := va_at.kept hO (hk o hol hoA)
    refine vx_catch (own := RL) (name := "java/lang/IllegalArgumentException") (E := "java/lang/IllegalArgumentException") hown [] ⟨0, 9, 12, 21⟩ [] (htab.trans rfl) (fun z hz => by cases hz) (by decide) (by decide) (hts _ (List.mem_cons_of_mem _ m_732)) (va_Nw.use rfl (hK.1.2.2.2.2.2.2.2.2.2.2 "java/lang/IllegalArgumentException" (by decide))) hce hcv hcl ?_
    refine lv_astore_n (lv' := [(3, .ref q9), (0, .ref (G 0 0)), (1, .int p0), (2, .ref o)]) hx hb dL_candlesAfter_12 rfl hl (by decide) rfl (fun ls hl => ?_)
    refine lv_iconst (v := 1) hx hb dL_candlesAfter_13 (by decide) ?_
    exact z_lend hx hb hr hP hO rfl hS hlocks (Nat.le_of_ble_eq_true rfl) (Nat.le_of_ble_eq_true rfl) dL_candlesAfter_14
theorem kw_wishesAfter : zcaw yL_wishesAfter cL_wishesAfter 5 [(0, 10, 13, 19), (0, 10, 17, 21)] 4 := ⟨zws_in 939 (by decide +kernel) (by decide +kernel), zws_in 82 (by decide +kernel) (by decide +kernel), zws_in 940 (by decide +kernel) (by decide +kernel), ⟨by decide +kernel, by decide +kernel⟩, by decide +kernel, by decide⟩
set_option maxHeartbeats 4000000 in
set_option maxRecDepth 100000 in
theorem cw_wishesAfter (p0 : Int32) (p1 : Int32) (T T' : zT) (v : Int32 ⊕ Nat) (hf : f_X3_wishesAfter p0 p1 T = some (v, T')) (hv : ∀ n, v = .inr n → n = 2 ∨ n = 1) : zCl yL_wishesAfter cL_wishesAfter 5 [(0, 10, 13, 19), (0, 10, 17, 21)] 8 2 12 (fun G o => [.ref (G 0 0), .int p0, .int p1, .ref o]) T v (fun n => if n = 2 then 1 else 2) T' := by
  intro l D Y S V G A cL o f hl9 hG ho hGo
  refine vx_ofWH (cc := cL_wishesAfter) (maxL := 5) (ret := some .int) (hh := [(0, 10, 13, 19), (0, 10, 17, 21)]) (by decide) rfl ?_
  intro p e s m args below meth c s₁ B hml hv9
  obtain ⟨rfl, hK, hP, hO, hA⟩ := hv9
  have hx := B.exec
  have hb := B.bytes
  have hr := B.returns
  have hlocks := B.notSynchronized
  have hown : s.vm.findClass RL = some m.cls := findClass_of_methodNamed B.named
  have hts := atoms_spec (ws := Cond.codeWith yL_wishesAfter cL_wishesAfter 5 (some .int) [(0, 10, 13, 19), (0, 10, 17, 21)] :: zWS) B.pre
  have htab := vx_table (x := yL_wishesAfter) B (hts _ List.mem_cons_self)
  have hS : va_S A s.heap s.heap [] := va_S.rf
  have hl := lv_entry ([.ref (G 0 0), .int p0, .int p1, .ref o]) (n := 5) (Nat.le_of_ble_eq_true rfl)
  rw [lg_entry_eq]
  generalize (lg_sl ([.ref (G 0 0), .int p0, .int p1, .ref o]) ++ List.replicate (5 - (lg_sl ([.ref (G 0 0), .int p0, .int p1, .ref o])).length) Slot.unset).toArray = ls at hl ⊢
  have hl : lv_has ls 5 [(0, .ref (G 0 0)), (1, .int p0), (2, .int p1), (3, .ref o)] := hl
  have hol : o < s.heap.size := va_at.lt hO
  obtain ⟨A1, eA⟩ : ∃ z : Nat → Prop, z = fun q => A q ∧ q ≠ o := ⟨_, rfl⟩
  have hAB : ∀ q, A1 q → A q := fun q h => by rw [eA] at h; exact h.1
  have hoA : ¬ A1 o := fun h => by rw [eA] at h; exact h.2 rfl
  have hG1 : zG 0 G A1 := ⟨hG.1, fun κ ι hV => by rw [eA]; exact ⟨hG.2 κ ι hV, hGo κ ι hV⟩⟩
  have hA1 : ∀ q, s.heap.size ≤ q → A1 q := fun q hq => by rw [eA]; exact ⟨hA q hq, fun e => by omega⟩
  have F : zFs 0 8 2 12 p l s m _ c cL_wishesAfter 5 RL (Cond.codeWith yL_wishesAfter cL_wishesAfter 5 (some .int) [(0, 10, 13, 19), (0, 10, 17, 21)]) D Y S V G A A1 s.heap := ⟨⟨hx, hb, hml, hown, hts, hl9⟩, hG1, hK.1, hAB, hA1⟩
  refine lv_aload_n hx hb dL_wishesAfter_0 rfl (lv_at hl 3 rfl) ?_
  refine lv_iconst (v := 0) hx hb dL_wishesAfter_1 (by decide) ?_
  refine lv_aload_n hx hb dL_wishesAfter_2 rfl (lv_at hl 0 rfl) ?_
  refine lv_iload_n hx hb dL_wishesAfter_3 rfl (lv_at hl 1 rfl) ?_
  refine lv_iload_n hx hb dL_wishesAfter_4 rfl (lv_at hl 2 rfl) ?_
  have run := z_runVs (p := p) (e := e) (below := below) (meth := meth) (cells := 0) (slots := 0) (ls := ls) (As := [.int p0, .int p1]) (rest := [.int 0, .ref o]) F k_X3_wishesAfter m_941 (c_X3_wishesAfter p0 p1 T T' v hf) hP hS (zV_0 (by decide)) rfl rfl rfl rfl hl.1 (Nat.le_of_ble_eq_true rfl) dL_wishesAfter_5 (Nat.le_of_ble_eq_true rfl) ⟨(Nat.le_of_ble_eq_true rfl), (Nat.le_of_ble_eq_true rfl)⟩ rfl
  rcases v with r | n
  · refine z_oks run hS hAB (fun H locs hP hz hk hS => ?_)
    have hO : zOw D cL o f H := va_at.kept hO (hk o hol hoA)
    refine lv_i2l (v := r.toInt64) hx hb dL_wishesAfter_8 rfl ?_
    refine z_lastO hx hb hK.2.1 hP hO hG ho hGo hS dL_wishesAfter_9 (fun H locs f' hf' hP hO hS => ?_)
    refine lv_goto (tgt := 21) hx hb dL_wishesAfter_10 (by decide) ?_
    refine lv_iconst (v := 0) hx hb dL_wishesAfter_21 (by decide) ?_
    exact z_lend hx hb hr hP hO ⟨rfl, hf'⟩ hS hlocks (Nat.le_of_ble_eq_true rfl) (Nat.le_of_ble_eq_true rfl) dL_wishesAfter_22
  · rcases hv n rfl with rfl | rfl
    · refine z_exs (E := "java/lang/IndexOutOfBoundsException") run hS hAB (fun ce q9 H locs hP hz hk hS hce hcv hcl => ?_)
      have hO : zOw D cL o f H := va_at.kept hO (hk o hol hoA)
      refine vx_catch (own := RL) (name := "java/lang/IndexOutOfBoundsException") (E := "java/lang/IndexOutOfBoundsException") hown [] ⟨0, 10, 13, 19⟩ [⟨0, 10, 17, 21⟩] (htab.trans rfl) (fun z hz => by cases hz) (by decide) (by decide) (hts _ (List.mem_cons_of_mem _ m_731)) (va_Nw.use rfl (hK.1.2.2.2.2.2.2.2.2.2.2 "java/lang/IndexOutOfBoundsException" (by decide))) hce hcv hcl ?_
      refine lv_astore (lv' := [(4, .ref q9), (0, .ref (G 0 0)), (1, .int p0), (2, .int p1), (3, .ref o)]) hx hb dL_wishesAfter_13 hl (by decide) rfl (fun ls hl => ?_)
      refine lv_iconst (v := 1) hx hb dL_wishesAfter_15 (by decide) ?_
      exact z_lend hx hb hr hP hO rfl hS hlocks (Nat.le_of_ble_eq_true rfl) (Nat.le_of_ble_eq_true rfl) dL_wishesAfter_16
    · refine z_exs (E := "java/lang/IllegalArgumentException") run hS hAB (fun ce q9 H locs hP hz hk hS hce hcv hcl => ?_)
      have hO : zOw D cL o f H := va_at.kept hO (hk o hol hoA)
      refine vx_catch (own := RL) (name := "java/lang/IllegalArgumentException") (E := "java/lang/IllegalArgumentException") hown [⟨0, 10, 13, 19⟩] ⟨0, 10, 17, 21⟩ [] (htab.trans rfl) (fun z hz => by obtain rfl := List.mem_singleton.mp hz; exact Or.inr ⟨by decide, "java/lang/IndexOutOfBoundsException", hts _ (List.mem_cons_of_mem _ m_731), hK.2.2 ("java/lang/IllegalArgumentException", "java/lang/IndexOutOfBoundsException") (by decide)⟩) (by decide) (by decide) (hts _ (List.mem_cons_of_mem _ m_732)) (va_Nw.use rfl (hK.1.2.2.2.2.2.2.2.2.2.2 "java/lang/IllegalArgumentException" (by decide))) hce hcv hcl ?_
      refine lv_astore (lv' := [(4, .ref q9), (0, .ref (G 0 0)), (1, .int p0), (2, .int p1), (3, .ref o)]) hx hb dL_wishesAfter_17 hl (by decide) rfl (fun ls hl => ?_)
      refine lv_iconst (v := 2) hx hb dL_wishesAfter_19 (by decide) ?_
      exact z_lend hx hb hr hP hO rfl hS hlocks (Nat.le_of_ble_eq_true rfl) (Nat.le_of_ble_eq_true rfl) dL_wishesAfter_20
theorem kw_advance : zcaw yL_advance cL_advance 4 [(0, 9, 12, 21), (0, 9, 15, 13)] 3 := ⟨zws_in 946 (by decide +kernel) (by decide +kernel), zws_in 82 (by decide +kernel) (by decide +kernel), zws_in 947 (by decide +kernel) (by decide +kernel), ⟨by decide +kernel, by decide +kernel⟩, by decide +kernel, by decide⟩
set_option maxHeartbeats 4000000 in
set_option maxRecDepth 100000 in
theorem cw_advance (p0 : Int32) (T T' : zT) (v : Int32 ⊕ Nat) (hf : f_X3_advance p0 T = some (v, T')) (hv : ∀ n, v = .inr n → n = 1 ∨ n = 0) : zCl yL_advance cL_advance 4 [(0, 9, 12, 21), (0, 9, 15, 13)] 7 1 6 (fun G o => [.ref (G 0 0), .int p0, .ref o]) T v (fun n => if n = 1 then 1 else 2) T' := by
  intro l D Y S V G A cL o f hl9 hG ho hGo
  refine vx_ofWH (cc := cL_advance) (maxL := 4) (ret := some .int) (hh := [(0, 9, 12, 21), (0, 9, 15, 13)]) (by decide) rfl ?_
  intro p e s m args below meth c s₁ B hml hv9
  obtain ⟨rfl, hK, hP, hO, hA⟩ := hv9
  have hx := B.exec
  have hb := B.bytes
  have hr := B.returns
  have hlocks := B.notSynchronized
  have hown : s.vm.findClass RL = some m.cls := findClass_of_methodNamed B.named
  have hts := atoms_spec (ws := Cond.codeWith yL_advance cL_advance 4 (some .int) [(0, 9, 12, 21), (0, 9, 15, 13)] :: zWS) B.pre
  have htab := vx_table (x := yL_advance) B (hts _ List.mem_cons_self)
  have hS : va_S A s.heap s.heap [] := va_S.rf
  have hl := lv_entry ([.ref (G 0 0), .int p0, .ref o]) (n := 4) (Nat.le_of_ble_eq_true rfl)
  rw [lg_entry_eq]
  generalize (lg_sl ([.ref (G 0 0), .int p0, .ref o]) ++ List.replicate (4 - (lg_sl ([.ref (G 0 0), .int p0, .ref o])).length) Slot.unset).toArray = ls at hl ⊢
  have hl : lv_has ls 4 [(0, .ref (G 0 0)), (1, .int p0), (2, .ref o)] := hl
  have hol : o < s.heap.size := va_at.lt hO
  obtain ⟨A1, eA⟩ : ∃ z : Nat → Prop, z = fun q => A q ∧ q ≠ o := ⟨_, rfl⟩
  have hAB : ∀ q, A1 q → A q := fun q h => by rw [eA] at h; exact h.1
  have hoA : ¬ A1 o := fun h => by rw [eA] at h; exact h.2 rfl
  have hG1 : zG 0 G A1 := ⟨hG.1, fun κ ι hV => by rw [eA]; exact ⟨hG.2 κ ι hV, hGo κ ι hV⟩⟩
  have hA1 : ∀ q, s.heap.size ≤ q → A1 q := fun q hq => by rw [eA]; exact ⟨hA q hq, fun e => by omega⟩
  have F : zFs 0 7 1 6 p l s m _ c cL_advance 4 RL (Cond.codeWith yL_advance cL_advance 4 (some .int) [(0, 9, 12, 21), (0, 9, 15, 13)]) D Y S V G A A1 s.heap := ⟨⟨hx, hb, hml, hown, hts, hl9⟩, hG1, hK.1, hAB, hA1⟩
  refine lv_aload_n hx hb dL_advance_0 rfl (lv_at hl 2 rfl) ?_
  refine lv_iconst (v := 0) hx hb dL_advance_1 (by decide) ?_
  refine lv_aload_n hx hb dL_advance_2 rfl (lv_at hl 0 rfl) ?_
  refine lv_iload_n hx hb dL_advance_3 rfl (lv_at hl 1 rfl) ?_
  have run := z_runVs (p := p) (e := e) (below := below) (meth := meth) (cells := 0) (slots := 0) (ls := ls) (As := [.int p0]) (rest := [.int 0, .ref o]) F k_X3_advance m_948 (c_X3_advance p0 T T' v hf) hP hS (zV_0 (by decide)) rfl rfl rfl rfl hl.1 (Nat.le_of_ble_eq_true rfl) dL_advance_4 (Nat.le_of_ble_eq_true rfl) ⟨(Nat.le_of_ble_eq_true rfl), (Nat.le_of_ble_eq_true rfl)⟩ rfl
  rcases v with r | n
  · refine z_oks run hS hAB (fun H locs hP hz hk hS => ?_)
    have hO : zOw D cL o f H := va_at.kept hO (hk o hol hoA)
    refine lv_i2l (v := r.toInt64) hx hb dL_advance_7 rfl ?_
    refine z_lastO hx hb hK.2.1 hP hO hG ho hGo hS dL_advance_8 (fun H locs f' hf' hP hO hS => ?_)
    refine lv_goto (tgt := 18) hx hb dL_advance_9 (by decide) ?_
    refine lv_iconst (v := 0) hx hb dL_advance_18 (by decide) ?_
    exact z_lend hx hb hr hP hO ⟨rfl, hf'⟩ hS hlocks (Nat.le_of_ble_eq_true rfl) (Nat.le_of_ble_eq_true rfl) dL_advance_19
  · rcases hv n rfl with rfl | rfl
    · refine z_exs (E := "java/lang/IllegalArgumentException") run hS hAB (fun ce q9 H locs hP hz hk hS hce hcv hcl => ?_)
      have hO : zOw D cL o f H := va_at.kept hO (hk o hol hoA)
      refine vx_catch (own := RL) (name := "java/lang/IllegalArgumentException") (E := "java/lang/IllegalArgumentException") hown [] ⟨0, 9, 12, 21⟩ [⟨0, 9, 15, 13⟩] (htab.trans rfl) (fun z hz => by cases hz) (by decide) (by decide) (hts _ (List.mem_cons_of_mem _ m_732)) (va_Nw.use rfl (hK.1.2.2.2.2.2.2.2.2.2.2 "java/lang/IllegalArgumentException" (by decide))) hce hcv hcl ?_
      refine lv_astore_n (lv' := [(3, .ref q9), (0, .ref (G 0 0)), (1, .int p0), (2, .ref o)]) hx hb dL_advance_12 rfl hl (by decide) rfl (fun ls hl => ?_)
      refine lv_iconst (v := 1) hx hb dL_advance_13 (by decide) ?_
      exact z_lend hx hb hr hP hO rfl hS hlocks (Nat.le_of_ble_eq_true rfl) (Nat.le_of_ble_eq_true rfl) dL_advance_14
    · refine z_exs (E := "java/lang/IllegalStateException") run hS hAB (fun ce q9 H locs hP hz hk hS hce hcv hcl => ?_)
      have hO : zOw D cL o f H := va_at.kept hO (hk o hol hoA)
      refine vx_catch (own := RL) (name := "java/lang/IllegalStateException") (E := "java/lang/IllegalStateException") hown [⟨0, 9, 12, 21⟩] ⟨0, 9, 15, 13⟩ [] (htab.trans rfl) (fun z hz => by obtain rfl := List.mem_singleton.mp hz; exact Or.inr ⟨by decide, "java/lang/IllegalArgumentException", hts _ (List.mem_cons_of_mem _ m_732), hK.2.2 ("java/lang/IllegalStateException", "java/lang/IllegalArgumentException") (by decide)⟩) (by decide) (by decide) (hts _ (List.mem_cons_of_mem _ m_652)) (va_Nw.use rfl (hK.1.2.2.2.2.2.2.2.2.2.2 "java/lang/IllegalStateException" (by decide))) hce hcv hcl ?_
      refine lv_astore_n (lv' := [(3, .ref q9), (0, .ref (G 0 0)), (1, .int p0), (2, .ref o)]) hx hb dL_advance_15 rfl hl (by decide) rfl (fun ls hl => ?_)
      refine lv_iconst (v := 2) hx hb dL_advance_16 (by decide) ?_
      exact z_lend hx hb hr hP hO rfl hS hlocks (Nat.le_of_ble_eq_true rfl) (Nat.le_of_ble_eq_true rfl) dL_advance_17
theorem kw_draw : zcaw yL_draw cL_draw 4 [(0, 9, 12, 19), (0, 9, 15, 13)] 3 := ⟨zws_in 965 (by decide +kernel) (by decide +kernel), zws_in 82 (by decide +kernel) (by decide +kernel), zws_in 966 (by decide +kernel) (by decide +kernel), ⟨by decide +kernel, by decide +kernel⟩, by decide +kernel, by decide⟩
set_option maxHeartbeats 4000000 in
set_option maxRecDepth 100000 in
theorem cw_draw (p0 : Int32) (T T' : zT) (v : Int32 ⊕ Nat) (hf : f_X3_draw p0 T = some (v, T')) (hv : ∀ n, v = .inr n → n = 2 ∨ n = 0) : zCl yL_draw cL_draw 4 [(0, 9, 12, 19), (0, 9, 15, 13)] 8 2 12 (fun G o => [.ref (G 0 0), .int p0, .ref o]) T v (fun n => if n = 2 then 1 else 2) T' := by
  intro l D Y S V G A cL o f hl9 hG ho hGo
  refine vx_ofWH (cc := cL_draw) (maxL := 4) (ret := some .int) (hh := [(0, 9, 12, 19), (0, 9, 15, 13)]) (by decide) rfl ?_
  intro p e s m args below meth c s₁ B hml hv9
  obtain ⟨rfl, hK, hP, hO, hA⟩ := hv9
  have hx := B.exec
  have hb := B.bytes
  have hr := B.returns
  have hlocks := B.notSynchronized
  have hown : s.vm.findClass RL = some m.cls := findClass_of_methodNamed B.named
  have hts := atoms_spec (ws := Cond.codeWith yL_draw cL_draw 4 (some .int) [(0, 9, 12, 19), (0, 9, 15, 13)] :: zWS) B.pre
  have htab := vx_table (x := yL_draw) B (hts _ List.mem_cons_self)
  have hS : va_S A s.heap s.heap [] := va_S.rf
  have hl := lv_entry ([.ref (G 0 0), .int p0, .ref o]) (n := 4) (Nat.le_of_ble_eq_true rfl)
  rw [lg_entry_eq]
  generalize (lg_sl ([.ref (G 0 0), .int p0, .ref o]) ++ List.replicate (4 - (lg_sl ([.ref (G 0 0), .int p0, .ref o])).length) Slot.unset).toArray = ls at hl ⊢
  have hl : lv_has ls 4 [(0, .ref (G 0 0)), (1, .int p0), (2, .ref o)] := hl
  have hol : o < s.heap.size := va_at.lt hO
  obtain ⟨A1, eA⟩ : ∃ z : Nat → Prop, z = fun q => A q ∧ q ≠ o := ⟨_, rfl⟩
  have hAB : ∀ q, A1 q → A q := fun q h => by rw [eA] at h; exact h.1
  have hoA : ¬ A1 o := fun h => by rw [eA] at h; exact h.2 rfl
  have hG1 : zG 0 G A1 := ⟨hG.1, fun κ ι hV => by rw [eA]; exact ⟨hG.2 κ ι hV, hGo κ ι hV⟩⟩
  have hA1 : ∀ q, s.heap.size ≤ q → A1 q := fun q hq => by rw [eA]; exact ⟨hA q hq, fun e => by omega⟩
  have F : zFs 0 8 2 12 p l s m _ c cL_draw 4 RL (Cond.codeWith yL_draw cL_draw 4 (some .int) [(0, 9, 12, 19), (0, 9, 15, 13)]) D Y S V G A A1 s.heap := ⟨⟨hx, hb, hml, hown, hts, hl9⟩, hG1, hK.1, hAB, hA1⟩
  refine lv_aload_n hx hb dL_draw_0 rfl (lv_at hl 2 rfl) ?_
  refine lv_iconst (v := 0) hx hb dL_draw_1 (by decide) ?_
  refine lv_aload_n hx hb dL_draw_2 rfl (lv_at hl 0 rfl) ?_
  refine lv_iload_n hx hb dL_draw_3 rfl (lv_at hl 1 rfl) ?_
  have run := z_runVs (p := p) (e := e) (below := below) (meth := meth) (cells := 0) (slots := 0) (ls := ls) (As := [.int p0]) (rest := [.int 0, .ref o]) F k_X3_draw m_967 (c_X3_draw p0 T T' v hf) hP hS (zV_0 (by decide)) rfl rfl rfl rfl hl.1 (Nat.le_of_ble_eq_true rfl) dL_draw_4 (Nat.le_of_ble_eq_true rfl) ⟨(Nat.le_of_ble_eq_true rfl), (Nat.le_of_ble_eq_true rfl)⟩ rfl
  rcases v with r | n
  · refine z_oks run hS hAB (fun H locs hP hz hk hS => ?_)
    have hO : zOw D cL o f H := va_at.kept hO (hk o hol hoA)
    refine lv_i2l (v := r.toInt64) hx hb dL_draw_7 rfl ?_
    refine z_lastO hx hb hK.2.1 hP hO hG ho hGo hS dL_draw_8 (fun H locs f' hf' hP hO hS => ?_)
    refine lv_goto (tgt := 18) hx hb dL_draw_9 (by decide) ?_
    refine lv_iconst (v := 0) hx hb dL_draw_18 (by decide) ?_
    exact z_lend hx hb hr hP hO ⟨rfl, hf'⟩ hS hlocks (Nat.le_of_ble_eq_true rfl) (Nat.le_of_ble_eq_true rfl) dL_draw_19
  · rcases hv n rfl with rfl | rfl
    · refine z_exs (E := "java/lang/IndexOutOfBoundsException") run hS hAB (fun ce q9 H locs hP hz hk hS hce hcv hcl => ?_)
      have hO : zOw D cL o f H := va_at.kept hO (hk o hol hoA)
      refine vx_catch (own := RL) (name := "java/lang/IndexOutOfBoundsException") (E := "java/lang/IndexOutOfBoundsException") hown [] ⟨0, 9, 12, 19⟩ [⟨0, 9, 15, 13⟩] (htab.trans rfl) (fun z hz => by cases hz) (by decide) (by decide) (hts _ (List.mem_cons_of_mem _ m_731)) (va_Nw.use rfl (hK.1.2.2.2.2.2.2.2.2.2.2 "java/lang/IndexOutOfBoundsException" (by decide))) hce hcv hcl ?_
      refine lv_astore_n (lv' := [(3, .ref q9), (0, .ref (G 0 0)), (1, .int p0), (2, .ref o)]) hx hb dL_draw_12 rfl hl (by decide) rfl (fun ls hl => ?_)
      refine lv_iconst (v := 1) hx hb dL_draw_13 (by decide) ?_
      exact z_lend hx hb hr hP hO rfl hS hlocks (Nat.le_of_ble_eq_true rfl) (Nat.le_of_ble_eq_true rfl) dL_draw_14
    · refine z_exs (E := "java/lang/IllegalStateException") run hS hAB (fun ce q9 H locs hP hz hk hS hce hcv hcl => ?_)
      have hO : zOw D cL o f H := va_at.kept hO (hk o hol hoA)
      refine vx_catch (own := RL) (name := "java/lang/IllegalStateException") (E := "java/lang/IllegalStateException") hown [⟨0, 9, 12, 19⟩] ⟨0, 9, 15, 13⟩ [] (htab.trans rfl) (fun z hz => by obtain rfl := List.mem_singleton.mp hz; exact Or.inr ⟨by decide, "java/lang/IndexOutOfBoundsException", hts _ (List.mem_cons_of_mem _ m_731), hK.2.2 ("java/lang/IllegalStateException", "java/lang/IndexOutOfBoundsException") (by decide)⟩) (by decide) (by decide) (hts _ (List.mem_cons_of_mem _ m_652)) (va_Nw.use rfl (hK.1.2.2.2.2.2.2.2.2.2.2 "java/lang/IllegalStateException" (by decide))) hce hcv hcl ?_
      refine lv_astore_n (lv' := [(3, .ref q9), (0, .ref (G 0 0)), (1, .int p0), (2, .ref o)]) hx hb dL_draw_15 rfl hl (by decide) rfl (fun ls hl => ?_)
      refine lv_iconst (v := 2) hx hb dL_draw_16 (by decide) ?_
      exact z_lend hx hb hr hP hO rfl hS hlocks (Nat.le_of_ble_eq_true rfl) (Nat.le_of_ble_eq_true rfl) dL_draw_17
theorem kw_setBirthday : zcaw yL_setBirthday cL_setBirthday 6 [(0, 12, 15, 19), (0, 12, 19, 21), (0, 12, 23, 13)] 5 := ⟨zws_in 974 (by decide +kernel) (by decide +kernel), zws_in 82 (by decide +kernel) (by decide +kernel), zws_in 975 (by decide +kernel) (by decide +kernel), ⟨by decide +kernel, by decide +kernel⟩, by decide +kernel, by decide⟩
set_option maxHeartbeats 4000000 in
set_option maxRecDepth 100000 in
theorem cw_setBirthday (p0 : Int32) (p1 : Int32) (p2 : Int32) (T T' : zT) (v : Int32 ⊕ Nat) (hf : f_X3_setBirthday p0 p1 p2 T = some (v, T')) (hv : ∀ n, v = .inr n → n = 2 ∨ n = 1 ∨ n = 0) : zCl yL_setBirthday cL_setBirthday 6 [(0, 12, 15, 19), (0, 12, 19, 21), (0, 12, 23, 13)] 8 3 18 (fun G o => [.ref (G 0 0), .int p0, .int p1, .int p2, .ref o]) T v (fun n => if n = 2 then 1 else if n = 1 then 2 else 3) T' := by
  intro l D Y S V G A cL o f hl9 hG ho hGo
  refine vx_ofWH (cc := cL_setBirthday) (maxL := 6) (ret := some .int) (hh := [(0, 12, 15, 19), (0, 12, 19, 21), (0, 12, 23, 13)]) (by decide) rfl ?_
  intro p e s m args below meth c s₁ B hml hv9
  obtain ⟨rfl, hK, hP, hO, hA⟩ := hv9
  have hx := B.exec
  have hb := B.bytes
  have hr := B.returns
  have hlocks := B.notSynchronized
  have hown : s.vm.findClass RL = some m.cls := findClass_of_methodNamed B.named
  have hts := atoms_spec (ws := Cond.codeWith yL_setBirthday cL_setBirthday 6 (some .int) [(0, 12, 15, 19), (0, 12, 19, 21), (0, 12, 23, 13)] :: zWS) B.pre
  have htab := vx_table (x := yL_setBirthday) B (hts _ List.mem_cons_self)
  have hS : va_S A s.heap s.heap [] := va_S.rf
  have hl := lv_entry ([.ref (G 0 0), .int p0, .int p1, .int p2, .ref o]) (n := 6) (Nat.le_of_ble_eq_true rfl)
  rw [lg_entry_eq]
  generalize (lg_sl ([.ref (G 0 0), .int p0, .int p1, .int p2, .ref o]) ++ List.replicate (6 - (lg_sl ([.ref (G 0 0), .int p0, .int p1, .int p2, .ref o])).length) Slot.unset).toArray = ls at hl ⊢
  have hl : lv_has ls 6 [(0, .ref (G 0 0)), (1, .int p0), (2, .int p1), (3, .int p2), (4, .ref o)] := hl
  have hol : o < s.heap.size := va_at.lt hO
  obtain ⟨A1, eA⟩ : ∃ z : Nat → Prop, z = fun q => A q ∧ q ≠ o := ⟨_, rfl⟩
  have hAB : ∀ q, A1 q → A q := fun q h => by rw [eA] at h; exact h.1
  have hoA : ¬ A1 o := fun h => by rw [eA] at h; exact h.2 rfl
  have hG1 : zG 0 G A1 := ⟨hG.1, fun κ ι hV => by rw [eA]; exact ⟨hG.2 κ ι hV, hGo κ ι hV⟩⟩
  have hA1 : ∀ q, s.heap.size ≤ q → A1 q := fun q hq => by rw [eA]; exact ⟨hA q hq, fun e => by omega⟩
  have F : zFs 0 8 3 18 p l s m _ c cL_setBirthday 6 RL (Cond.codeWith yL_setBirthday cL_setBirthday 6 (some .int) [(0, 12, 15, 19), (0, 12, 19, 21), (0, 12, 23, 13)]) D Y S V G A A1 s.heap := ⟨⟨hx, hb, hml, hown, hts, hl9⟩, hG1, hK.1, hAB, hA1⟩
  refine lv_aload hx hb dL_setBirthday_0 (lv_at hl 4 rfl) ?_
  refine lv_iconst (v := 0) hx hb dL_setBirthday_2 (by decide) ?_
  refine lv_aload_n hx hb dL_setBirthday_3 rfl (lv_at hl 0 rfl) ?_
  refine lv_iload_n hx hb dL_setBirthday_4 rfl (lv_at hl 1 rfl) ?_
  refine lv_iload_n hx hb dL_setBirthday_5 rfl (lv_at hl 2 rfl) ?_
  refine lv_iload_n hx hb dL_setBirthday_6 rfl (lv_at hl 3 rfl) ?_
  have run := z_runVs (p := p) (e := e) (below := below) (meth := meth) (cells := 0) (slots := 0) (ls := ls) (As := [.int p0, .int p1, .int p2]) (rest := [.int 0, .ref o]) F k_X3_setBirthday m_976 (c_X3_setBirthday p0 p1 p2 T T' v hf) hP hS (zV_0 (by decide)) rfl rfl rfl rfl hl.1 (Nat.le_of_ble_eq_true rfl) dL_setBirthday_7 (Nat.le_of_ble_eq_true rfl) ⟨(Nat.le_of_ble_eq_true rfl), (Nat.le_of_ble_eq_true rfl)⟩ rfl
  rcases v with r | n
  · refine z_oks run hS hAB (fun H locs hP hz hk hS => ?_)
    have hO : zOw D cL o f H := va_at.kept hO (hk o hol hoA)
    refine lv_i2l (v := r.toInt64) hx hb dL_setBirthday_10 rfl ?_
    refine z_lastO hx hb hK.2.1 hP hO hG ho hGo hS dL_setBirthday_11 (fun H locs f' hf' hP hO hS => ?_)
    refine lv_goto (tgt := 27) hx hb dL_setBirthday_12 (by decide) ?_
    refine lv_iconst (v := 0) hx hb dL_setBirthday_27 (by decide) ?_
    exact z_lend hx hb hr hP hO ⟨rfl, hf'⟩ hS hlocks (Nat.le_of_ble_eq_true rfl) (Nat.le_of_ble_eq_true rfl) dL_setBirthday_28
  · rcases hv n rfl with rfl | rfl | rfl
    · refine z_exs (E := "java/lang/IndexOutOfBoundsException") run hS hAB (fun ce q9 H locs hP hz hk hS hce hcv hcl => ?_)
      have hO : zOw D cL o f H := va_at.kept hO (hk o hol hoA)
      refine vx_catch (own := RL) (name := "java/lang/IndexOutOfBoundsException") (E := "java/lang/IndexOutOfBoundsException") hown [] ⟨0, 12, 15, 19⟩ [⟨0, 12, 19, 21⟩, ⟨0, 12, 23, 13⟩] (htab.trans rfl) (fun z hz => by cases hz) (by decide) (by decide) (hts _ (List.mem_cons_of_mem _ m_731)) (va_Nw.use rfl (hK.1.2.2.2.2.2.2.2.2.2.2 "java/lang/IndexOutOfBoundsException" (by decide))) hce hcv hcl ?_
      refine lv_astore (lv' := [(5, .ref q9), (0, .ref (G 0 0)), (1, .int p0), (2, .int p1), (3, .int p2), (4, .ref o)]) hx hb dL_setBirthday_15 hl (by decide) rfl (fun ls hl => ?_)
      refine lv_iconst (v := 1) hx hb dL_setBirthday_17 (by decide) ?_
      exact z_lend hx hb hr hP hO rfl hS hlocks (Nat.le_of_ble_eq_true rfl) (Nat.le_of_ble_eq_true rfl) dL_setBirthday_18
    · refine z_exs (E := "java/lang/IllegalArgumentException") run hS hAB (fun ce q9 H locs hP hz hk hS hce hcv hcl => ?_)
      have hO : zOw D cL o f H := va_at.kept hO (hk o hol hoA)
      refine vx_catch (own := RL) (name := "java/lang/IllegalArgumentException") (E := "java/lang/IllegalArgumentException") hown [⟨0, 12, 15, 19⟩] ⟨0, 12, 19, 21⟩ [⟨0, 12, 23, 13⟩] (htab.trans rfl) (fun z hz => by obtain rfl := List.mem_singleton.mp hz; exact Or.inr ⟨by decide, "java/lang/IndexOutOfBoundsException", hts _ (List.mem_cons_of_mem _ m_731), hK.2.2 ("java/lang/IllegalArgumentException", "java/lang/IndexOutOfBoundsException") (by decide)⟩) (by decide) (by decide) (hts _ (List.mem_cons_of_mem _ m_732)) (va_Nw.use rfl (hK.1.2.2.2.2.2.2.2.2.2.2 "java/lang/IllegalArgumentException" (by decide))) hce hcv hcl ?_
      refine lv_astore (lv' := [(5, .ref q9), (0, .ref (G 0 0)), (1, .int p0), (2, .int p1), (3, .int p2), (4, .ref o)]) hx hb dL_setBirthday_19 hl (by decide) rfl (fun ls hl => ?_)
      refine lv_iconst (v := 2) hx hb dL_setBirthday_21 (by decide) ?_
      exact z_lend hx hb hr hP hO rfl hS hlocks (Nat.le_of_ble_eq_true rfl) (Nat.le_of_ble_eq_true rfl) dL_setBirthday_22
    · refine z_exs (E := "java/lang/IllegalStateException") run hS hAB (fun ce q9 H locs hP hz hk hS hce hcv hcl => ?_)
      have hO : zOw D cL o f H := va_at.kept hO (hk o hol hoA)
      refine vx_catch (own := RL) (name := "java/lang/IllegalStateException") (E := "java/lang/IllegalStateException") hown [⟨0, 12, 15, 19⟩, ⟨0, 12, 19, 21⟩] ⟨0, 12, 23, 13⟩ [] (htab.trans rfl) (fun z hz => by rcases List.mem_cons.mp hz with rfl | hz; (exact Or.inr ⟨by decide, "java/lang/IndexOutOfBoundsException", hts _ (List.mem_cons_of_mem _ m_731), hK.2.2 ("java/lang/IllegalStateException", "java/lang/IndexOutOfBoundsException") (by decide)⟩); obtain rfl := List.mem_singleton.mp hz; exact Or.inr ⟨by decide, "java/lang/IllegalArgumentException", hts _ (List.mem_cons_of_mem _ m_732), hK.2.2 ("java/lang/IllegalStateException", "java/lang/IllegalArgumentException") (by decide)⟩) (by decide) (by decide) (hts _ (List.mem_cons_of_mem _ m_652)) (va_Nw.use rfl (hK.1.2.2.2.2.2.2.2.2.2.2 "java/lang/IllegalStateException" (by decide))) hce hcv hcl ?_
      refine lv_astore (lv' := [(5, .ref q9), (0, .ref (G 0 0)), (1, .int p0), (2, .int p1), (3, .int p2), (4, .ref o)]) hx hb dL_setBirthday_23 hl (by decide) rfl (fun ls hl => ?_)
      refine lv_iconst (v := 3) hx hb dL_setBirthday_25 (by decide) ?_
      exact z_lend hx hb hr hP hO rfl hS hlocks (Nat.le_of_ble_eq_true rfl) (Nat.le_of_ble_eq_true rfl) dL_setBirthday_26
theorem kw_forgetBirthday : zcaw yL_forgetBirthday cL_forgetBirthday 4 [(0, 9, 12, 19)] 3 := ⟨zws_in 983 (by decide +kernel) (by decide +kernel), zws_in 82 (by decide +kernel) (by decide +kernel), zws_in 984 (by decide +kernel) (by decide +kernel), ⟨by decide +kernel, by decide +kernel⟩, by decide +kernel, by decide⟩
set_option maxHeartbeats 4000000 in
set_option maxRecDepth 100000 in
theorem cw_forgetBirthday (p0 : Int32) (T T' : zT) (v : Int32 ⊕ Nat) (hf : f_X3_forgetBirthday p0 T = some (v, T')) (hv : ∀ n, v = .inr n → n = 2) : zCl yL_forgetBirthday cL_forgetBirthday 4 [(0, 9, 12, 19)] 8 1 6 (fun G o => [.ref (G 0 0), .int p0, .ref o]) T v (fun n => 1) T' := by
  intro l D Y S V G A cL o f hl9 hG ho hGo
  refine vx_ofWH (cc := cL_forgetBirthday) (maxL := 4) (ret := some .int) (hh := [(0, 9, 12, 19)]) (by decide) rfl ?_
  intro p e s m args below meth c s₁ B hml hv9
  obtain ⟨rfl, hK, hP, hO, hA⟩ := hv9
  have hx := B.exec
  have hb := B.bytes
  have hr := B.returns
  have hlocks := B.notSynchronized
  have hown : s.vm.findClass RL = some m.cls := findClass_of_methodNamed B.named
  have hts := atoms_spec (ws := Cond.codeWith yL_forgetBirthday cL_forgetBirthday 4 (some .int) [(0, 9, 12, 19)] :: zWS) B.pre
  have htab := vx_table (x := yL_forgetBirthday) B (hts _ List.mem_cons_self)
  have hS : va_S A s.heap s.heap [] := va_S.rf
  have hl := lv_entry ([.ref (G 0 0), .int p0, .ref o]) (n := 4) (Nat.le_of_ble_eq_true rfl)
  rw [lg_entry_eq]
  generalize (lg_sl ([.ref (G 0 0), .int p0, .ref o]) ++ List.replicate (4 - (lg_sl ([.ref (G 0 0), .int p0, .ref o])).length) Slot.unset).toArray = ls at hl ⊢
  have hl : lv_has ls 4 [(0, .ref (G 0 0)), (1, .int p0), (2, .ref o)] := hl
  have hol : o < s.heap.size := va_at.lt hO
  obtain ⟨A1, eA⟩ : ∃ z : Nat → Prop, z = fun q => A q ∧ q ≠ o := ⟨_, rfl⟩
  have hAB : ∀ q, A1 q → A q := fun q h => by rw [eA] at h; exact h.1
  have hoA : ¬ A1 o := fun h => by rw [eA] at h; exact h.2 rfl
  have hG1 : zG 0 G A1 := ⟨hG.1, fun κ ι hV => by rw [eA]; exact ⟨hG.2 κ ι hV, hGo κ ι hV⟩⟩
  have hA1 : ∀ q, s.heap.size ≤ q → A1 q := fun q hq => by rw [eA]; exact ⟨hA q hq, fun e => by omega⟩
  have F : zFs 0 8 1 6 p l s m _ c cL_forgetBirthday 4 RL (Cond.codeWith yL_forgetBirthday cL_forgetBirthday 4 (some .int) [(0, 9, 12, 19)]) D Y S V G A A1 s.heap := ⟨⟨hx, hb, hml, hown, hts, hl9⟩, hG1, hK.1, hAB, hA1⟩
  refine lv_aload_n hx hb dL_forgetBirthday_0 rfl (lv_at hl 2 rfl) ?_
  refine lv_iconst (v := 0) hx hb dL_forgetBirthday_1 (by decide) ?_
  refine lv_aload_n hx hb dL_forgetBirthday_2 rfl (lv_at hl 0 rfl) ?_
  refine lv_iload_n hx hb dL_forgetBirthday_3 rfl (lv_at hl 1 rfl) ?_
  have run := z_runVs (p := p) (e := e) (below := below) (meth := meth) (cells := 0) (slots := 0) (ls := ls) (As := [.int p0]) (rest := [.int 0, .ref o]) F k_X3_forgetBirthday m_985 (c_X3_forgetBirthday p0 T T' v hf) hP hS (zV_0 (by decide)) rfl rfl rfl rfl hl.1 (Nat.le_of_ble_eq_true rfl) dL_forgetBirthday_4 (Nat.le_of_ble_eq_true rfl) ⟨(Nat.le_of_ble_eq_true rfl), (Nat.le_of_ble_eq_true rfl)⟩ rfl
  rcases v with r | n
  · refine z_oks run hS hAB (fun H locs hP hz hk hS => ?_)
    have hO : zOw D cL o f H := va_at.kept hO (hk o hol hoA)
    refine lv_i2l (v := r.toInt64) hx hb dL_forgetBirthday_7 rfl ?_
    refine z_lastO hx hb hK.2.1 hP hO hG ho hGo hS dL_forgetBirthday_8 (fun H locs f' hf' hP hO hS => ?_)
    refine lv_goto (tgt := 15) hx hb dL_forgetBirthday_9 (by decide) ?_
    refine lv_iconst (v := 0) hx hb dL_forgetBirthday_15 (by decide) ?_
    exact z_lend hx hb hr hP hO ⟨rfl, hf'⟩ hS hlocks (Nat.le_of_ble_eq_true rfl) (Nat.le_of_ble_eq_true rfl) dL_forgetBirthday_16
  · obtain rfl := hv n rfl
    refine z_exs (E := "java/lang/IndexOutOfBoundsException") run hS hAB (fun ce q9 H locs hP hz hk hS hce hcv hcl => ?_)
    have hO : zOw D cL o f H := va_at.kept hO (hk o hol hoA)
    refine vx_catch (own := RL) (name := "java/lang/IndexOutOfBoundsException") (E := "java/lang/IndexOutOfBoundsException") hown [] ⟨0, 9, 12, 19⟩ [] (htab.trans rfl) (fun z hz => by cases hz) (by decide) (by decide) (hts _ (List.mem_cons_of_mem _ m_731)) (va_Nw.use rfl (hK.1.2.2.2.2.2.2.2.2.2.2 "java/lang/IndexOutOfBoundsException" (by decide))) hce hcv hcl ?_
    refine lv_astore_n (lv' := [(3, .ref q9), (0, .ref (G 0 0)), (1, .int p0), (2, .ref o)]) hx hb dL_forgetBirthday_12 rfl hl (by decide) rfl (fun ls hl => ?_)
    refine lv_iconst (v := 1) hx hb dL_forgetBirthday_13 (by decide) ?_
    exact z_lend hx hb hr hP hO rfl hS hlocks (Nat.le_of_ble_eq_true rfl) (Nat.le_of_ble_eq_true rfl) dL_forgetBirthday_14
theorem kw_moveTo : zcaw yL_moveTo cL_moveTo 5 [(0, 10, 13, 19), (0, 10, 17, 13)] 4 := ⟨zws_in 990 (by decide +kernel) (by decide +kernel), zws_in 82 (by decide +kernel) (by decide +kernel), zws_in 991 (by decide +kernel) (by decide +kernel), ⟨by decide +kernel, by decide +kernel⟩, by decide +kernel, by decide⟩
set_option maxHeartbeats 4000000 in
set_option maxRecDepth 100000 in
theorem cw_moveTo (p0 : Int32) (p1 : Int32) (T T' : zT) (v : Int32 ⊕ Nat) (hf : f_X3_moveTo p0 p1 T = some (v, T')) (hv : ∀ n, v = .inr n → n = 2 ∨ n = 0) : zCl yL_moveTo cL_moveTo 5 [(0, 10, 13, 19), (0, 10, 17, 13)] 8 3 18 (fun G o => [.ref (G 0 0), .int p0, .int p1, .ref o]) T v (fun n => if n = 2 then 1 else 2) T' := by
  intro l D Y S V G A cL o f hl9 hG ho hGo
  refine vx_ofWH (cc := cL_moveTo) (maxL := 5) (ret := some .int) (hh := [(0, 10, 13, 19), (0, 10, 17, 13)]) (by decide) rfl ?_
  intro p e s m args below meth c s₁ B hml hv9
  obtain ⟨rfl, hK, hP, hO, hA⟩ := hv9
  have hx := B.exec
  have hb := B.bytes
  have hr := B.returns
  have hlocks := B.notSynchronized
  have hown : s.vm.findClass RL = some m.cls := findClass_of_methodNamed B.named
  have hts := atoms_spec (ws := Cond.codeWith yL_moveTo cL_moveTo 5 (some .int) [(0, 10, 13, 19), (0, 10, 17, 13)] :: zWS) B.pre
  have htab := vx_table (x := yL_moveTo) B (hts _ List.mem_cons_self)
  have hS : va_S A s.heap s.heap [] := va_S.rf
  have hl := lv_entry ([.ref (G 0 0), .int p0, .int p1, .ref o]) (n := 5) (Nat.le_of_ble_eq_true rfl)
  rw [lg_entry_eq]
  generalize (lg_sl ([.ref (G 0 0), .int p0, .int p1, .ref o]) ++ List.replicate (5 - (lg_sl ([.ref (G 0 0), .int p0, .int p1, .ref o])).length) Slot.unset).toArray = ls at hl ⊢
  have hl : lv_has ls 5 [(0, .ref (G 0 0)), (1, .int p0), (2, .int p1), (3, .ref o)] := hl
  have hol : o < s.heap.size := va_at.lt hO
  obtain ⟨A1, eA⟩ : ∃ z : Nat → Prop, z = fun q => A q ∧ q ≠ o := ⟨_, rfl⟩
  have hAB : ∀ q, A1 q → A q := fun q h => by rw [eA] at h; exact h.1
  have hoA : ¬ A1 o := fun h => by rw [eA] at h; exact h.2 rfl
  have hG1 : zG 0 G A1 := ⟨hG.1, fun κ ι hV => by rw [eA]; exact ⟨hG.2 κ ι hV, hGo κ ι hV⟩⟩
  have hA1 : ∀ q, s.heap.size ≤ q → A1 q := fun q hq => by rw [eA]; exact ⟨hA q hq, fun e => by omega⟩
  have F : zFs 0 8 3 18 p l s m _ c cL_moveTo 5 RL (Cond.codeWith yL_moveTo cL_moveTo 5 (some .int) [(0, 10, 13, 19), (0, 10, 17, 13)]) D Y S V G A A1 s.heap := ⟨⟨hx, hb, hml, hown, hts, hl9⟩, hG1, hK.1, hAB, hA1⟩
  refine lv_aload_n hx hb dL_moveTo_0 rfl (lv_at hl 3 rfl) ?_
  refine lv_iconst (v := 0) hx hb dL_moveTo_1 (by decide) ?_
  refine lv_aload_n hx hb dL_moveTo_2 rfl (lv_at hl 0 rfl) ?_
  refine lv_iload_n hx hb dL_moveTo_3 rfl (lv_at hl 1 rfl) ?_
  refine lv_iload_n hx hb dL_moveTo_4 rfl (lv_at hl 2 rfl) ?_
  have run := z_runVs (p := p) (e := e) (below := below) (meth := meth) (cells := 0) (slots := 0) (ls := ls) (As := [.int p0, .int p1]) (rest := [.int 0, .ref o]) F k_X3_moveTo m_992 (c_X3_moveTo p0 p1 T T' v hf) hP hS (zV_0 (by decide)) rfl rfl rfl rfl hl.1 (Nat.le_of_ble_eq_true rfl) dL_moveTo_5 (Nat.le_of_ble_eq_true rfl) ⟨(Nat.le_of_ble_eq_true rfl), (Nat.le_of_ble_eq_true rfl)⟩ rfl
  rcases v with r | n
  · refine z_oks run hS hAB (fun H locs hP hz hk hS => ?_)
    have hO : zOw D cL o f H := va_at.kept hO (hk o hol hoA)
    refine lv_i2l (v := r.toInt64) hx hb dL_moveTo_8 rfl ?_
    refine z_lastO hx hb hK.2.1 hP hO hG ho hGo hS dL_moveTo_9 (fun H locs f' hf' hP hO hS => ?_)
    refine lv_goto (tgt := 21) hx hb dL_moveTo_10 (by decide) ?_
    refine lv_iconst (v := 0) hx hb dL_moveTo_21 (by decide) ?_
    exact z_lend hx hb hr hP hO ⟨rfl, hf'⟩ hS hlocks (Nat.le_of_ble_eq_true rfl) (Nat.le_of_ble_eq_true rfl) dL_moveTo_22
  · rcases hv n rfl with rfl | rfl
    · refine z_exs (E := "java/lang/IndexOutOfBoundsException") run hS hAB (fun ce q9 H locs hP hz hk hS hce hcv hcl => ?_)
      have hO : zOw D cL o f H := va_at.kept hO (hk o hol hoA)
      refine vx_catch (own := RL) (name := "java/lang/IndexOutOfBoundsException") (E := "java/lang/IndexOutOfBoundsException") hown [] ⟨0, 10, 13, 19⟩ [⟨0, 10, 17, 13⟩] (htab.trans rfl) (fun z hz => by cases hz) (by decide) (by decide) (hts _ (List.mem_cons_of_mem _ m_731)) (va_Nw.use rfl (hK.1.2.2.2.2.2.2.2.2.2.2 "java/lang/IndexOutOfBoundsException" (by decide))) hce hcv hcl ?_
      refine lv_astore (lv' := [(4, .ref q9), (0, .ref (G 0 0)), (1, .int p0), (2, .int p1), (3, .ref o)]) hx hb dL_moveTo_13 hl (by decide) rfl (fun ls hl => ?_)
      refine lv_iconst (v := 1) hx hb dL_moveTo_15 (by decide) ?_
      exact z_lend hx hb hr hP hO rfl hS hlocks (Nat.le_of_ble_eq_true rfl) (Nat.le_of_ble_eq_true rfl) dL_moveTo_16
    · refine z_exs (E := "java/lang/IllegalStateException") run hS hAB (fun ce q9 H locs hP hz hk hS hce hcv hcl => ?_)
      have hO : zOw D cL o f H := va_at.kept hO (hk o hol hoA)
      refine vx_catch (own := RL) (name := "java/lang/IllegalStateException") (E := "java/lang/IllegalStateException") hown [⟨0, 10, 13, 19⟩] ⟨0, 10, 17, 13⟩ [] (htab.trans rfl) (fun z hz => by obtain rfl := List.mem_singleton.mp hz; exact Or.inr ⟨by decide, "java/lang/IndexOutOfBoundsException", hts _ (List.mem_cons_of_mem _ m_731), hK.2.2 ("java/lang/IllegalStateException", "java/lang/IndexOutOfBoundsException") (by decide)⟩) (by decide) (by decide) (hts _ (List.mem_cons_of_mem _ m_652)) (va_Nw.use rfl (hK.1.2.2.2.2.2.2.2.2.2.2 "java/lang/IllegalStateException" (by decide))) hce hcv hcl ?_
      refine lv_astore (lv' := [(4, .ref q9), (0, .ref (G 0 0)), (1, .int p0), (2, .int p1), (3, .ref o)]) hx hb dL_moveTo_17 hl (by decide) rfl (fun ls hl => ?_)
      refine lv_iconst (v := 2) hx hb dL_moveTo_19 (by decide) ?_
      exact z_lend hx hb hr hP hO rfl hS hlocks (Nat.le_of_ble_eq_true rfl) (Nat.le_of_ble_eq_true rfl) dL_moveTo_20
theorem kw_buyCandles : zcaw yL_buyCandles cL_buyCandles 4 [(0, 9, 12, 21), (0, 9, 15, 13)] 3 := ⟨zws_in 998 (by decide +kernel) (by decide +kernel), zws_in 82 (by decide +kernel) (by decide +kernel), zws_in 999 (by decide +kernel) (by decide +kernel), ⟨by decide +kernel, by decide +kernel⟩, by decide +kernel, by decide⟩
set_option maxHeartbeats 4000000 in
set_option maxRecDepth 100000 in
theorem cw_buyCandles (p0 : Int32) (T T' : zT) (v : Int32 ⊕ Nat) (hf : f_X3_buyCandles p0 T = some (v, T')) (hv : ∀ n, v = .inr n → n = 1 ∨ n = 0) : zCl yL_buyCandles cL_buyCandles 4 [(0, 9, 12, 21), (0, 9, 15, 13)] 7 1 6 (fun G o => [.ref (G 0 0), .int p0, .ref o]) T v (fun n => if n = 1 then 1 else 2) T' := by
  intro l D Y S V G A cL o f hl9 hG ho hGo
  refine vx_ofWH (cc := cL_buyCandles) (maxL := 4) (ret := some .int) (hh := [(0, 9, 12, 21), (0, 9, 15, 13)]) (by decide) rfl ?_
  intro p e s m args below meth c s₁ B hml hv9
  obtain ⟨rfl, hK, hP, hO, hA⟩ := hv9
  have hx := B.exec
  have hb := B.bytes
  have hr := B.returns
  have hlocks := B.notSynchronized
  have hown : s.vm.findClass RL = some m.cls := findClass_of_methodNamed B.named
  have hts := atoms_spec (ws := Cond.codeWith yL_buyCandles cL_buyCandles 4 (some .int) [(0, 9, 12, 21), (0, 9, 15, 13)] :: zWS) B.pre
  have htab := vx_table (x := yL_buyCandles) B (hts _ List.mem_cons_self)
  have hS : va_S A s.heap s.heap [] := va_S.rf
  have hl := lv_entry ([.ref (G 0 0), .int p0, .ref o]) (n := 4) (Nat.le_of_ble_eq_true rfl)
  rw [lg_entry_eq]
  generalize (lg_sl ([.ref (G 0 0), .int p0, .ref o]) ++ List.replicate (4 - (lg_sl ([.ref (G 0 0), .int p0, .ref o])).length) Slot.unset).toArray = ls at hl ⊢
  have hl : lv_has ls 4 [(0, .ref (G 0 0)), (1, .int p0), (2, .ref o)] := hl
  have hol : o < s.heap.size := va_at.lt hO
  obtain ⟨A1, eA⟩ : ∃ z : Nat → Prop, z = fun q => A q ∧ q ≠ o := ⟨_, rfl⟩
  have hAB : ∀ q, A1 q → A q := fun q h => by rw [eA] at h; exact h.1
  have hoA : ¬ A1 o := fun h => by rw [eA] at h; exact h.2 rfl
  have hG1 : zG 0 G A1 := ⟨hG.1, fun κ ι hV => by rw [eA]; exact ⟨hG.2 κ ι hV, hGo κ ι hV⟩⟩
  have hA1 : ∀ q, s.heap.size ≤ q → A1 q := fun q hq => by rw [eA]; exact ⟨hA q hq, fun e => by omega⟩
  have F : zFs 0 7 1 6 p l s m _ c cL_buyCandles 4 RL (Cond.codeWith yL_buyCandles cL_buyCandles 4 (some .int) [(0, 9, 12, 21), (0, 9, 15, 13)]) D Y S V G A A1 s.heap := ⟨⟨hx, hb, hml, hown, hts, hl9⟩, hG1, hK.1, hAB, hA1⟩
  refine lv_aload_n hx hb dL_buyCandles_0 rfl (lv_at hl 2 rfl) ?_
  refine lv_iconst (v := 0) hx hb dL_buyCandles_1 (by decide) ?_
  refine lv_aload_n hx hb dL_buyCandles_2 rfl (lv_at hl 0 rfl) ?_
  refine lv_iload_n hx hb dL_buyCandles_3 rfl (lv_at hl 1 rfl) ?_
  have run := z_runVs (p := p) (e := e) (below := below) (meth := meth) (cells := 0) (slots := 0) (ls := ls) (As := [.int p0]) (rest := [.int 0, .ref o]) F k_X3_buyCandles m_1000 (c_X3_buyCandles p0 T T' v hf) hP hS (zV_0 (by decide)) rfl rfl rfl rfl hl.1 (Nat.le_of_ble_eq_true rfl) dL_buyCandles_4 (Nat.le_of_ble_eq_true rfl) ⟨(Nat.le_of_ble_eq_true rfl), (Nat.le_of_ble_eq_true rfl)⟩ rfl
  rcases v with r | n
  · refine z_oks run hS hAB (fun H locs hP hz hk hS => ?_)
    have hO : zOw D cL o f H := va_at.kept hO (hk o hol hoA)
    refine lv_i2l (v := r.toInt64) hx hb dL_buyCandles_7 rfl ?_
    refine z_lastO hx hb hK.2.1 hP hO hG ho hGo hS dL_buyCandles_8 (fun H locs f' hf' hP hO hS => ?_)
    refine lv_goto (tgt := 18) hx hb dL_buyCandles_9 (by decide) ?_
    refine lv_iconst (v := 0) hx hb dL_buyCandles_18 (by decide) ?_
    exact z_lend hx hb hr hP hO ⟨rfl, hf'⟩ hS hlocks (Nat.le_of_ble_eq_true rfl) (Nat.le_of_ble_eq_true rfl) dL_buyCandles_19
  · rcases hv n rfl with rfl | rfl
    · refine z_exs (E := "java/lang/IllegalArgumentException") run hS hAB (fun ce q9 H locs hP hz hk hS hce hcv hcl => ?_)
      have hO : zOw D cL o f H := va_at.kept hO (hk o hol hoA)
      refine vx_catch (own := RL) (name := "java/lang/IllegalArgumentException") (E := "java/lang/IllegalArgumentException") hown [] ⟨0, 9, 12, 21⟩ [⟨0, 9, 15, 13⟩] (htab.trans rfl) (fun z hz => by cases hz) (by decide) (by decide) (hts _ (List.mem_cons_of_mem _ m_732)) (va_Nw.use rfl (hK.1.2.2.2.2.2.2.2.2.2.2 "java/lang/IllegalArgumentException" (by decide))) hce hcv hcl ?_
      refine lv_astore_n (lv' := [(3, .ref q9), (0, .ref (G 0 0)), (1, .int p0), (2, .ref o)]) hx hb dL_buyCandles_12 rfl hl (by decide) rfl (fun ls hl => ?_)
      refine lv_iconst (v := 1) hx hb dL_buyCandles_13 (by decide) ?_
      exact z_lend hx hb hr hP hO rfl hS hlocks (Nat.le_of_ble_eq_true rfl) (Nat.le_of_ble_eq_true rfl) dL_buyCandles_14
    · refine z_exs (E := "java/lang/IllegalStateException") run hS hAB (fun ce q9 H locs hP hz hk hS hce hcv hcl => ?_)
      have hO : zOw D cL o f H := va_at.kept hO (hk o hol hoA)
      refine vx_catch (own := RL) (name := "java/lang/IllegalStateException") (E := "java/lang/IllegalStateException") hown [⟨0, 9, 12, 21⟩] ⟨0, 9, 15, 13⟩ [] (htab.trans rfl) (fun z hz => by obtain rfl := List.mem_singleton.mp hz; exact Or.inr ⟨by decide, "java/lang/IllegalArgumentException", hts _ (List.mem_cons_of_mem _ m_732), hK.2.2 ("java/lang/IllegalStateException", "java/lang/IllegalArgumentException") (by decide)⟩) (by decide) (by decide) (hts _ (List.mem_cons_of_mem _ m_652)) (va_Nw.use rfl (hK.1.2.2.2.2.2.2.2.2.2.2 "java/lang/IllegalStateException" (by decide))) hce hcv hcl ?_
      refine lv_astore_n (lv' := [(3, .ref q9), (0, .ref (G 0 0)), (1, .int p0), (2, .ref o)]) hx hb dL_buyCandles_15 rfl hl (by decide) rfl (fun ls hl => ?_)
      refine lv_iconst (v := 2) hx hb dL_buyCandles_16 (by decide) ?_
      exact z_lend hx hb hr hP hO rfl hS hlocks (Nat.le_of_ble_eq_true rfl) (Nat.le_of_ble_eq_true rfl) dL_buyCandles_17
theorem kw_bakeCakes : zcaw yL_bakeCakes cL_bakeCakes 5 [(0, 10, 13, 21), (0, 10, 17, 13)] 4 := ⟨zws_in 1007 (by decide +kernel) (by decide +kernel), zws_in 82 (by decide +kernel) (by decide +kernel), zws_in 1008 (by decide +kernel) (by decide +kernel), ⟨by decide +kernel, by decide +kernel⟩, by decide +kernel, by decide⟩
set_option maxHeartbeats 4000000 in
set_option maxRecDepth 100000 in
theorem cw_bakeCakes (p0 : Int32) (p1 : Int32) (T T' : zT) (v : Int32 ⊕ Nat) (hf : f_X3_bakeCakes p0 p1 T = some (v, T')) (hv : ∀ n, v = .inr n → n = 1 ∨ n = 0) : zCl yL_bakeCakes cL_bakeCakes 5 [(0, 10, 13, 21), (0, 10, 17, 13)] 8 2 12 (fun G o => [.ref (G 0 0), .int p0, .int p1, .ref o]) T v (fun n => if n = 1 then 1 else 2) T' := by
  intro l D Y S V G A cL o f hl9 hG ho hGo
  refine vx_ofWH (cc := cL_bakeCakes) (maxL := 5) (ret := some .int) (hh := [(0, 10, 13, 21), (0, 10, 17, 13)]) (by decide) rfl ?_
  intro p e s m args below meth c s₁ B hml hv9
  obtain ⟨rfl, hK, hP, hO, hA⟩ := hv9
  have hx := B.exec
  have hb := B.bytes
  have hr := B.returns
  have hlocks := B.notSynchronized
  have hown : s.vm.findClass RL = some m.cls := findClass_of_methodNamed B.named
  have hts := atoms_spec (ws := Cond.codeWith yL_bakeCakes cL_bakeCakes 5 (some .int) [(0, 10, 13, 21), (0, 10, 17, 13)] :: zWS) B.pre
  have htab := vx_table (x := yL_bakeCakes) B (hts _ List.mem_cons_self)
  have hS : va_S A s.heap s.heap [] := va_S.rf
  have hl := lv_entry ([.ref (G 0 0), .int p0, .int p1, .ref o]) (n := 5) (Nat.le_of_ble_eq_true rfl)
  rw [lg_entry_eq]
  generalize (lg_sl ([.ref (G 0 0), .int p0, .int p1, .ref o]) ++ List.replicate (5 - (lg_sl ([.ref (G 0 0), .int p0, .int p1, .ref o])).length) Slot.unset).toArray = ls at hl ⊢
  have hl : lv_has ls 5 [(0, .ref (G 0 0)), (1, .int p0), (2, .int p1), (3, .ref o)] := hl
  have hol : o < s.heap.size := va_at.lt hO
  obtain ⟨A1, eA⟩ : ∃ z : Nat → Prop, z = fun q => A q ∧ q ≠ o := ⟨_, rfl⟩
  have hAB : ∀ q, A1 q → A q := fun q h => by rw [eA] at h; exact h.1
  have hoA : ¬ A1 o := fun h => by rw [eA] at h; exact h.2 rfl
  have hG1 : zG 0 G A1 := ⟨hG.1, fun κ ι hV => by rw [eA]; exact ⟨hG.2 κ ι hV, hGo κ ι hV⟩⟩
  have hA1 : ∀ q, s.heap.size ≤ q → A1 q := fun q hq => by rw [eA]; exact ⟨hA q hq, fun e => by omega⟩
  have F : zFs 0 8 2 12 p l s m _ c cL_bakeCakes 5 RL (Cond.codeWith yL_bakeCakes cL_bakeCakes 5 (some .int) [(0, 10, 13, 21), (0, 10, 17, 13)]) D Y S V G A A1 s.heap := ⟨⟨hx, hb, hml, hown, hts, hl9⟩, hG1, hK.1, hAB, hA1⟩
  refine lv_aload_n hx hb dL_bakeCakes_0 rfl (lv_at hl 3 rfl) ?_
  refine lv_iconst (v := 0) hx hb dL_bakeCakes_1 (by decide) ?_
  refine lv_aload_n hx hb dL_bakeCakes_2 rfl (lv_at hl 0 rfl) ?_
  refine lv_iload_n hx hb dL_bakeCakes_3 rfl (lv_at hl 1 rfl) ?_
  refine lv_iload_n hx hb dL_bakeCakes_4 rfl (lv_at hl 2 rfl) ?_
  have run := z_runVs (p := p) (e := e) (below := below) (meth := meth) (cells := 0) (slots := 0) (ls := ls) (As := [.int p0, .int p1]) (rest := [.int 0, .ref o]) F k_X3_bakeCakes m_1009 (c_X3_bakeCakes p0 p1 T T' v hf) hP hS (zV_0 (by decide)) rfl rfl rfl rfl hl.1 (Nat.le_of_ble_eq_true rfl) dL_bakeCakes_5 (Nat.le_of_ble_eq_true rfl) ⟨(Nat.le_of_ble_eq_true rfl), (Nat.le_of_ble_eq_true rfl)⟩ rfl
  rcases v with r | n
  · refine z_oks run hS hAB (fun H locs hP hz hk hS => ?_)
    have hO : zOw D cL o f H := va_at.kept hO (hk o hol hoA)
    refine lv_i2l (v := r.toInt64) hx hb dL_bakeCakes_8 rfl ?_
    refine z_lastO hx hb hK.2.1 hP hO hG ho hGo hS dL_bakeCakes_9 (fun H locs f' hf' hP hO hS => ?_)
    refine lv_goto (tgt := 21) hx hb dL_bakeCakes_10 (by decide) ?_
    refine lv_iconst (v := 0) hx hb dL_bakeCakes_21 (by decide) ?_
    exact z_lend hx hb hr hP hO ⟨rfl, hf'⟩ hS hlocks (Nat.le_of_ble_eq_true rfl) (Nat.le_of_ble_eq_true rfl) dL_bakeCakes_22
  · rcases hv n rfl with rfl | rfl
    · refine z_exs (E := "java/lang/IllegalArgumentException") run hS hAB (fun ce q9 H locs hP hz hk hS hce hcv hcl => ?_)
      have hO : zOw D cL o f H := va_at.kept hO (hk o hol hoA)
      refine vx_catch (own := RL) (name := "java/lang/IllegalArgumentException") (E := "java/lang/IllegalArgumentException") hown [] ⟨0, 10, 13, 21⟩ [⟨0, 10, 17, 13⟩] (htab.trans rfl) (fun z hz => by cases hz) (by decide) (by decide) (hts _ (List.mem_cons_of_mem _ m_732)) (va_Nw.use rfl (hK.1.2.2.2.2.2.2.2.2.2.2 "java/lang/IllegalArgumentException" (by decide))) hce hcv hcl ?_
      refine lv_astore (lv' := [(4, .ref q9), (0, .ref (G 0 0)), (1, .int p0), (2, .int p1), (3, .ref o)]) hx hb dL_bakeCakes_13 hl (by decide) rfl (fun ls hl => ?_)
      refine lv_iconst (v := 1) hx hb dL_bakeCakes_15 (by decide) ?_
      exact z_lend hx hb hr hP hO rfl hS hlocks (Nat.le_of_ble_eq_true rfl) (Nat.le_of_ble_eq_true rfl) dL_bakeCakes_16
    · refine z_exs (E := "java/lang/IllegalStateException") run hS hAB (fun ce q9 H locs hP hz hk hS hce hcv hcl => ?_)
      have hO : zOw D cL o f H := va_at.kept hO (hk o hol hoA)
      refine vx_catch (own := RL) (name := "java/lang/IllegalStateException") (E := "java/lang/IllegalStateException") hown [⟨0, 10, 13, 21⟩] ⟨0, 10, 17, 13⟩ [] (htab.trans rfl) (fun z hz => by obtain rfl := List.mem_singleton.mp hz; exact Or.inr ⟨by decide, "java/lang/IllegalArgumentException", hts _ (List.mem_cons_of_mem _ m_732), hK.2.2 ("java/lang/IllegalStateException", "java/lang/IllegalArgumentException") (by decide)⟩) (by decide) (by decide) (hts _ (List.mem_cons_of_mem _ m_652)) (va_Nw.use rfl (hK.1.2.2.2.2.2.2.2.2.2.2 "java/lang/IllegalStateException" (by decide))) hce hcv hcl ?_
      refine lv_astore (lv' := [(4, .ref q9), (0, .ref (G 0 0)), (1, .int p0), (2, .int p1), (3, .ref o)]) hx hb dL_bakeCakes_17 hl (by decide) rfl (fun ls hl => ?_)
      refine lv_iconst (v := 2) hx hb dL_bakeCakes_19 (by decide) ?_
      exact z_lend hx hb hr hP hO rfl hS hlocks (Nat.le_of_ble_eq_true rfl) (Nat.le_of_ble_eq_true rfl) dL_bakeCakes_20
theorem kw_restore : zcaw yL_restore cL_restore 4 [(0, 9, 12, 19), (0, 9, 15, 13)] 3 := ⟨zws_in 1016 (by decide +kernel) (by decide +kernel), zws_in 82 (by decide +kernel) (by decide +kernel), zws_in 1017 (by decide +kernel) (by decide +kernel), ⟨by decide +kernel, by decide +kernel⟩, by decide +kernel, by decide⟩
set_option maxHeartbeats 4000000 in
set_option maxRecDepth 100000 in
theorem cw_restore (p0 : Int32) (T T' : zT) (v : Int32 ⊕ Nat) (hf : f_X3_restore p0 T = some (v, T')) (hv : ∀ n, v = .inr n → n = 2 ∨ n = 0) : zCl yL_restore cL_restore 4 [(0, 9, 12, 19), (0, 9, 15, 13)] 8 2 12 (fun G o => [.ref (G 0 0), .int p0, .ref o]) T v (fun n => if n = 2 then 1 else 2) T' := by
  intro l D Y S V G A cL o f hl9 hG ho hGo
  refine vx_ofWH (cc := cL_restore) (maxL := 4) (ret := some .int) (hh := [(0, 9, 12, 19), (0, 9, 15, 13)]) (by decide) rfl ?_
  intro p e s m args below meth c s₁ B hml hv9
  obtain ⟨rfl, hK, hP, hO, hA⟩ := hv9
  have hx := B.exec
  have hb := B.bytes
  have hr := B.returns
  have hlocks := B.notSynchronized
  have hown : s.vm.findClass RL = some m.cls := findClass_of_methodNamed B.named
  have hts := atoms_spec (ws := Cond.codeWith yL_restore cL_restore 4 (some .int) [(0, 9, 12, 19), (0, 9, 15, 13)] :: zWS) B.pre
  have htab := vx_table (x := yL_restore) B (hts _ List.mem_cons_self)
  have hS : va_S A s.heap s.heap [] := va_S.rf
  have hl := lv_entry ([.ref (G 0 0), .int p0, .ref o]) (n := 4) (Nat.le_of_ble_eq_true rfl)
  rw [lg_entry_eq]
  generalize (lg_sl ([.ref (G 0 0), .int p0, .ref o]) ++ List.replicate (4 - (lg_sl ([.ref (G 0 0), .int p0, .ref o])).length) Slot.unset).toArray = ls at hl ⊢
  have hl : lv_has ls 4 [(0, .ref (G 0 0)), (1, .int p0), (2, .ref o)] := hl
  have hol : o < s.heap.size := va_at.lt hO
  obtain ⟨A1, eA⟩ : ∃ z : Nat → Prop, z = fun q => A q ∧ q ≠ o := ⟨_, rfl⟩
  have hAB : ∀ q, A1 q → A q := fun q h => by rw [eA] at h; exact h.1
  have hoA : ¬ A1 o := fun h => by rw [eA] at h; exact h.2 rfl
  have hG1 : zG 0 G A1 := ⟨hG.1, fun κ ι hV => by rw [eA]; exact ⟨hG.2 κ ι hV, hGo κ ι hV⟩⟩
  have hA1 : ∀ q, s.heap.size ≤ q → A1 q := fun q hq => by rw [eA]; exact ⟨hA q hq, fun e => by omega⟩
  have F : zFs 0 8 2 12 p l s m _ c cL_restore 4 RL (Cond.codeWith yL_restore cL_restore 4 (some .int) [(0, 9, 12, 19), (0, 9, 15, 13)]) D Y S V G A A1 s.heap := ⟨⟨hx, hb, hml, hown, hts, hl9⟩, hG1, hK.1, hAB, hA1⟩
  refine lv_aload_n hx hb dL_restore_0 rfl (lv_at hl 2 rfl) ?_
  refine lv_iconst (v := 0) hx hb dL_restore_1 (by decide) ?_
  refine lv_aload_n hx hb dL_restore_2 rfl (lv_at hl 0 rfl) ?_
  refine lv_iload_n hx hb dL_restore_3 rfl (lv_at hl 1 rfl) ?_
  have run := z_runVs (p := p) (e := e) (below := below) (meth := meth) (cells := 0) (slots := 0) (ls := ls) (As := [.int p0]) (rest := [.int 0, .ref o]) F k_X3_restore m_1018 (c_X3_restore p0 T T' v hf) hP hS (zV_0 (by decide)) rfl rfl rfl rfl hl.1 (Nat.le_of_ble_eq_true rfl) dL_restore_4 (Nat.le_of_ble_eq_true rfl) ⟨(Nat.le_of_ble_eq_true rfl), (Nat.le_of_ble_eq_true rfl)⟩ rfl
  rcases v with r | n
  · refine z_oks run hS hAB (fun H locs hP hz hk hS => ?_)
    have hO : zOw D cL o f H := va_at.kept hO (hk o hol hoA)
    refine lv_i2l (v := r.toInt64) hx hb dL_restore_7 rfl ?_
    refine z_lastO hx hb hK.2.1 hP hO hG ho hGo hS dL_restore_8 (fun H locs f' hf' hP hO hS => ?_)
    refine lv_goto (tgt := 18) hx hb dL_restore_9 (by decide) ?_
    refine lv_iconst (v := 0) hx hb dL_restore_18 (by decide) ?_
    exact z_lend hx hb hr hP hO ⟨rfl, hf'⟩ hS hlocks (Nat.le_of_ble_eq_true rfl) (Nat.le_of_ble_eq_true rfl) dL_restore_19
  · rcases hv n rfl with rfl | rfl
    · refine z_exs (E := "java/lang/IndexOutOfBoundsException") run hS hAB (fun ce q9 H locs hP hz hk hS hce hcv hcl => ?_)
      have hO : zOw D cL o f H := va_at.kept hO (hk o hol hoA)
      refine vx_catch (own := RL) (name := "java/lang/IndexOutOfBoundsException") (E := "java/lang/IndexOutOfBoundsException") hown [] ⟨0, 9, 12, 19⟩ [⟨0, 9, 15, 13⟩] (htab.trans rfl) (fun z hz => by cases hz) (by decide) (by decide) (hts _ (List.mem_cons_of_mem _ m_731)) (va_Nw.use rfl (hK.1.2.2.2.2.2.2.2.2.2.2 "java/lang/IndexOutOfBoundsException" (by decide))) hce hcv hcl ?_
      refine lv_astore_n (lv' := [(3, .ref q9), (0, .ref (G 0 0)), (1, .int p0), (2, .ref o)]) hx hb dL_restore_12 rfl hl (by decide) rfl (fun ls hl => ?_)
      refine lv_iconst (v := 1) hx hb dL_restore_13 (by decide) ?_
      exact z_lend hx hb hr hP hO rfl hS hlocks (Nat.le_of_ble_eq_true rfl) (Nat.le_of_ble_eq_true rfl) dL_restore_14
    · refine z_exs (E := "java/lang/IllegalStateException") run hS hAB (fun ce q9 H locs hP hz hk hS hce hcv hcl => ?_)
      have hO : zOw D cL o f H := va_at.kept hO (hk o hol hoA)
      refine vx_catch (own := RL) (name := "java/lang/IllegalStateException") (E := "java/lang/IllegalStateException") hown [⟨0, 9, 12, 19⟩] ⟨0, 9, 15, 13⟩ [] (htab.trans rfl) (fun z hz => by obtain rfl := List.mem_singleton.mp hz; exact Or.inr ⟨by decide, "java/lang/IndexOutOfBoundsException", hts _ (List.mem_cons_of_mem _ m_731), hK.2.2 ("java/lang/IllegalStateException", "java/lang/IndexOutOfBoundsException") (by decide)⟩) (by decide) (by decide) (hts _ (List.mem_cons_of_mem _ m_652)) (va_Nw.use rfl (hK.1.2.2.2.2.2.2.2.2.2.2 "java/lang/IllegalStateException" (by decide))) hce hcv hcl ?_
      refine lv_astore_n (lv' := [(3, .ref q9), (0, .ref (G 0 0)), (1, .int p0), (2, .ref o)]) hx hb dL_restore_15 rfl hl (by decide) rfl (fun ls hl => ?_)
      refine lv_iconst (v := 2) hx hb dL_restore_16 (by decide) ?_
      exact z_lend hx hb hr hP hO rfl hS hlocks (Nat.le_of_ble_eq_true rfl) (Nat.le_of_ble_eq_true rfl) dL_restore_17
theorem kw_undo : zcaw yL_undo cL_undo 3 [(0, 8, 11, 13)] 2 := ⟨zws_in 1036 (by decide +kernel) (by decide +kernel), zws_in 82 (by decide +kernel) (by decide +kernel), zws_in 1037 (by decide +kernel) (by decide +kernel), ⟨by decide +kernel, by decide +kernel⟩, by decide +kernel, by decide⟩
set_option maxHeartbeats 4000000 in
set_option maxRecDepth 100000 in
theorem cw_undo  (T T' : zT) (v : Int32 ⊕ Nat) (hf : f_X3_undo  T = some (v, T')) (hv : ∀ n, v = .inr n → n = 0) : zCl yL_undo cL_undo 3 [(0, 8, 11, 13)] 7 1 6 (fun G o => [.ref (G 0 0), .ref o]) T v (fun n => 1) T' := by
  intro l D Y S V G A cL o f hl9 hG ho hGo
  refine vx_ofWH (cc := cL_undo) (maxL := 3) (ret := some .int) (hh := [(0, 8, 11, 13)]) (by decide) rfl ?_
  intro p e s m args below meth c s₁ B hml hv9
  obtain ⟨rfl, hK, hP, hO, hA⟩ := hv9
  have hx := B.exec
  have hb := B.bytes
  have hr := B.returns
  have hlocks := B.notSynchronized
  have hown : s.vm.findClass RL = some m.cls := findClass_of_methodNamed B.named
  have hts := atoms_spec (ws := Cond.codeWith yL_undo cL_undo 3 (some .int) [(0, 8, 11, 13)] :: zWS) B.pre
  have htab := vx_table (x := yL_undo) B (hts _ List.mem_cons_self)
  have hS : va_S A s.heap s.heap [] := va_S.rf
  have hl := lv_entry ([.ref (G 0 0), .ref o]) (n := 3) (Nat.le_of_ble_eq_true rfl)
  rw [lg_entry_eq]
  generalize (lg_sl ([.ref (G 0 0), .ref o]) ++ List.replicate (3 - (lg_sl ([.ref (G 0 0), .ref o])).length) Slot.unset).toArray = ls at hl ⊢
  have hl : lv_has ls 3 [(0, .ref (G 0 0)), (1, .ref o)] := hl
  have hol : o < s.heap.size := va_at.lt hO
  obtain ⟨A1, eA⟩ : ∃ z : Nat → Prop, z = fun q => A q ∧ q ≠ o := ⟨_, rfl⟩
  have hAB : ∀ q, A1 q → A q := fun q h => by rw [eA] at h; exact h.1
  have hoA : ¬ A1 o := fun h => by rw [eA] at h; exact h.2 rfl
  have hG1 : zG 0 G A1 := ⟨hG.1, fun κ ι hV => by rw [eA]; exact ⟨hG.2 κ ι hV, hGo κ ι hV⟩⟩
  have hA1 : ∀ q, s.heap.size ≤ q → A1 q := fun q hq => by rw [eA]; exact ⟨hA q hq, fun e => by omega⟩
  have F : zFs 0 7 1 6 p l s m _ c cL_undo 3 RL (Cond.codeWith yL_undo cL_undo 3 (some .int) [(0, 8, 11, 13)]) D Y S V G A A1 s.heap := ⟨⟨hx, hb, hml, hown, hts, hl9⟩, hG1, hK.1, hAB, hA1⟩
  refine lv_aload_n hx hb dL_undo_0 rfl (lv_at hl 1 rfl) ?_
  refine lv_iconst (v := 0) hx hb dL_undo_1 (by decide) ?_
  refine lv_aload_n hx hb dL_undo_2 rfl (lv_at hl 0 rfl) ?_
  have run := z_runVs (p := p) (e := e) (below := below) (meth := meth) (cells := 0) (slots := 0) (ls := ls) (As := []) (rest := [.int 0, .ref o]) F k_X3_undo m_1038 (c_X3_undo  T T' v hf) hP hS (zV_0 (by decide)) rfl rfl rfl rfl hl.1 (Nat.le_of_ble_eq_true rfl) dL_undo_3 (Nat.le_of_ble_eq_true rfl) ⟨(Nat.le_of_ble_eq_true rfl), (Nat.le_of_ble_eq_true rfl)⟩ rfl
  rcases v with r | n
  · refine z_oks run hS hAB (fun H locs hP hz hk hS => ?_)
    have hO : zOw D cL o f H := va_at.kept hO (hk o hol hoA)
    refine lv_i2l (v := r.toInt64) hx hb dL_undo_6 rfl ?_
    refine z_lastO hx hb hK.2.1 hP hO hG ho hGo hS dL_undo_7 (fun H locs f' hf' hP hO hS => ?_)
    refine lv_goto (tgt := 14) hx hb dL_undo_8 (by decide) ?_
    refine lv_iconst (v := 0) hx hb dL_undo_14 (by decide) ?_
    exact z_lend hx hb hr hP hO ⟨rfl, hf'⟩ hS hlocks (Nat.le_of_ble_eq_true rfl) (Nat.le_of_ble_eq_true rfl) dL_undo_15
  · obtain rfl := hv n rfl
    refine z_exs (E := "java/lang/IllegalStateException") run hS hAB (fun ce q9 H locs hP hz hk hS hce hcv hcl => ?_)
    have hO : zOw D cL o f H := va_at.kept hO (hk o hol hoA)
    refine vx_catch (own := RL) (name := "java/lang/IllegalStateException") (E := "java/lang/IllegalStateException") hown [] ⟨0, 8, 11, 13⟩ [] (htab.trans rfl) (fun z hz => by cases hz) (by decide) (by decide) (hts _ (List.mem_cons_of_mem _ m_652)) (va_Nw.use rfl (hK.1.2.2.2.2.2.2.2.2.2.2 "java/lang/IllegalStateException" (by decide))) hce hcv hcl ?_
    refine lv_astore_n (lv' := [(2, .ref q9), (0, .ref (G 0 0)), (1, .ref o)]) hx hb dL_undo_11 rfl hl (by decide) rfl (fun ls hl => ?_)
    refine lv_iconst (v := 1) hx hb dL_undo_12 (by decide) ?_
    exact z_lend hx hb hr hP hO rfl hS hlocks (Nat.le_of_ble_eq_true rfl) (Nat.le_of_ble_eq_true rfl) dL_undo_13
theorem kw_save : zcaw yL_save cL_save 4 [(0, 9, 12, 19)] 3 := ⟨zws_in 1051 (by decide +kernel) (by decide +kernel), zws_in 82 (by decide +kernel) (by decide +kernel), zws_in 1052 (by decide +kernel) (by decide +kernel), ⟨by decide +kernel, by decide +kernel⟩, by decide +kernel, by decide⟩
set_option maxHeartbeats 4000000 in
set_option maxRecDepth 100000 in
theorem cw_save (p0 : Int32) (T T' : zT) (v : Int32 ⊕ Nat) (hf : f_X3_save p0 T = some (v, T')) (hv : ∀ n, v = .inr n → n = 2) : zCl yL_save cL_save 4 [(0, 9, 12, 19)] 8 1 6 (fun G o => [.ref (G 0 0), .int p0, .ref o]) T v (fun n => 1) T' := by
  intro l D Y S V G A cL o f hl9 hG ho hGo
  refine vx_ofWH (cc := cL_save) (maxL := 4) (ret := some .int) (hh := [(0, 9, 12, 19)]) (by decide) rfl ?_
  intro p e s m args below meth c s₁ B hml hv9
  obtain ⟨rfl, hK, hP, hO, hA⟩ := hv9
  have hx := B.exec
  have hb := B.bytes
  have hr := B.returns
  have hlocks := B.notSynchronized
  have hown : s.vm.findClass RL = some m.cls := findClass_of_methodNamed B.named
  have hts := atoms_spec (ws := Cond.codeWith yL_save cL_save 4 (some .int) [(0, 9, 12, 19)] :: zWS) B.pre
  have htab := vx_table (x := yL_save) B (hts _ List.mem_cons_self)
  have hS : va_S A s.heap s.heap [] := va_S.rf
  have hl := lv_entry ([.ref (G 0 0), .int p0, .ref o]) (n := 4) (Nat.le_of_ble_eq_true rfl)
  rw [lg_entry_eq]
  generalize (lg_sl ([.ref (G 0 0), .int p0, .ref o]) ++ List.replicate (4 - (lg_sl ([.ref (G 0 0), .int p0, .ref o])).length) Slot.unset).toArray = ls at hl ⊢
  have hl : lv_has ls 4 [(0, .ref (G 0 0)), (1, .int p0), (2, .ref o)] := hl
  have hol : o < s.heap.size := va_at.lt hO
  obtain ⟨A1, eA⟩ : ∃ z : Nat → Prop, z = fun q => A q ∧ q ≠ o := ⟨_, rfl⟩
  have hAB : ∀ q, A1 q → A q := fun q h => by rw [eA] at h; exact h.1
  have hoA : ¬ A1 o := fun h => by rw [eA] at h; exact h.2 rfl
  have hG1 : zG 0 G A1 := ⟨hG.1, fun κ ι hV => by rw [eA]; exact ⟨hG.2 κ ι hV, hGo κ ι hV⟩⟩
  have hA1 : ∀ q, s.heap.size ≤ q → A1 q := fun q hq => by rw [eA]; exact ⟨hA q hq, fun e => by omega⟩
  have F : zFs 0 8 1 6 p l s m _ c cL_save 4 RL (Cond.codeWith yL_save cL_save 4 (some .int) [(0, 9, 12, 19)]) D Y S V G A A1 s.heap := ⟨⟨hx, hb, hml, hown, hts, hl9⟩, hG1, hK.1, hAB, hA1⟩
  refine lv_aload_n hx hb dL_save_0 rfl (lv_at hl 2 rfl) ?_
  refine lv_iconst (v := 0) hx hb dL_save_1 (by decide) ?_
  refine lv_aload_n hx hb dL_save_2 rfl (lv_at hl 0 rfl) ?_
  refine lv_iload_n hx hb dL_save_3 rfl (lv_at hl 1 rfl) ?_
  have run := z_runVs (p := p) (e := e) (below := below) (meth := meth) (cells := 0) (slots := 0) (ls := ls) (As := [.int p0]) (rest := [.int 0, .ref o]) F k_X3_save m_1053 (c_X3_save p0 T T' v hf) hP hS (zV_0 (by decide)) rfl rfl rfl rfl hl.1 (Nat.le_of_ble_eq_true rfl) dL_save_4 (Nat.le_of_ble_eq_true rfl) ⟨(Nat.le_of_ble_eq_true rfl), (Nat.le_of_ble_eq_true rfl)⟩ rfl
  rcases v with r | n
  · refine z_oks run hS hAB (fun H locs hP hz hk hS => ?_)
    have hO : zOw D cL o f H := va_at.kept hO (hk o hol hoA)
    refine lv_i2l (v := r.toInt64) hx hb dL_save_7 rfl ?_
    refine z_lastO hx hb hK.2.1 hP hO hG ho hGo hS dL_save_8 (fun H locs f' hf' hP hO hS => ?_)
    refine lv_goto (tgt := 15) hx hb dL_save_9 (by decide) ?_
    refine lv_iconst (v := 0) hx hb dL_save_15 (by decide) ?_
    exact z_lend hx hb hr hP hO ⟨rfl, hf'⟩ hS hlocks (Nat.le_of_ble_eq_true rfl) (Nat.le_of_ble_eq_true rfl) dL_save_16
  · obtain rfl := hv n rfl
    refine z_exs (E := "java/lang/IndexOutOfBoundsException") run hS hAB (fun ce q9 H locs hP hz hk hS hce hcv hcl => ?_)
    have hO : zOw D cL o f H := va_at.kept hO (hk o hol hoA)
    refine vx_catch (own := RL) (name := "java/lang/IndexOutOfBoundsException") (E := "java/lang/IndexOutOfBoundsException") hown [] ⟨0, 9, 12, 19⟩ [] (htab.trans rfl) (fun z hz => by cases hz) (by decide) (by decide) (hts _ (List.mem_cons_of_mem _ m_731)) (va_Nw.use rfl (hK.1.2.2.2.2.2.2.2.2.2.2 "java/lang/IndexOutOfBoundsException" (by decide))) hce hcv hcl ?_
    refine lv_astore_n (lv' := [(3, .ref q9), (0, .ref (G 0 0)), (1, .int p0), (2, .ref o)]) hx hb dL_save_12 rfl hl (by decide) rfl (fun ls hl => ?_)
    refine lv_iconst (v := 1) hx hb dL_save_13 (by decide) ?_
    exact z_lend hx hb hr hP hO rfl hS hlocks (Nat.le_of_ble_eq_true rfl) (Nat.le_of_ble_eq_true rfl) dL_save_14
theorem kw_writeChild : zcaw yL_writeChild cL_writeChild 4 [(0, 9, 12, 19)] 3 := ⟨zws_in 1058 (by decide +kernel) (by decide +kernel), zws_in 82 (by decide +kernel) (by decide +kernel), zws_in 1059 (by decide +kernel) (by decide +kernel), ⟨by decide +kernel, by decide +kernel⟩, by decide +kernel, by decide⟩
set_option maxHeartbeats 4000000 in
set_option maxRecDepth 100000 in
theorem cw_writeChild (p0 : Int32) (T T' : zT) (v : Int32 ⊕ Nat) (hf : f_X3_writeChild p0 T = some (v, T')) (hv : ∀ n, v = .inr n → n = 2) : zCl yL_writeChild cL_writeChild 4 [(0, 9, 12, 19)] 8 1 6 (fun G o => [.ref (G 0 0), .int p0, .ref o]) T v (fun n => 1) T' := by
  intro l D Y S V G A cL o f hl9 hG ho hGo
  refine vx_ofWH (cc := cL_writeChild) (maxL := 4) (ret := some .int) (hh := [(0, 9, 12, 19)]) (by decide) rfl ?_
  intro p e s m args below meth c s₁ B hml hv9
  obtain ⟨rfl, hK, hP, hO, hA⟩ := hv9
  have hx := B.exec
  have hb := B.bytes
  have hr := B.returns
  have hlocks := B.notSynchronized
  have hown : s.vm.findClass RL = some m.cls := findClass_of_methodNamed B.named
  have hts := atoms_spec (ws := Cond.codeWith yL_writeChild cL_writeChild 4 (some .int) [(0, 9, 12, 19)] :: zWS) B.pre
  have htab := vx_table (x := yL_writeChild) B (hts _ List.mem_cons_self)
  have hS : va_S A s.heap s.heap [] := va_S.rf
  have hl := lv_entry ([.ref (G 0 0), .int p0, .ref o]) (n := 4) (Nat.le_of_ble_eq_true rfl)
  rw [lg_entry_eq]
  generalize (lg_sl ([.ref (G 0 0), .int p0, .ref o]) ++ List.replicate (4 - (lg_sl ([.ref (G 0 0), .int p0, .ref o])).length) Slot.unset).toArray = ls at hl ⊢
  have hl : lv_has ls 4 [(0, .ref (G 0 0)), (1, .int p0), (2, .ref o)] := hl
  have hol : o < s.heap.size := va_at.lt hO
  obtain ⟨A1, eA⟩ : ∃ z : Nat → Prop, z = fun q => A q ∧ q ≠ o := ⟨_, rfl⟩
  have hAB : ∀ q, A1 q → A q := fun q h => by rw [eA] at h; exact h.1
  have hoA : ¬ A1 o := fun h => by rw [eA] at h; exact h.2 rfl
  have hG1 : zG 0 G A1 := ⟨hG.1, fun κ ι hV => by rw [eA]; exact ⟨hG.2 κ ι hV, hGo κ ι hV⟩⟩
  have hA1 : ∀ q, s.heap.size ≤ q → A1 q := fun q hq => by rw [eA]; exact ⟨hA q hq, fun e => by omega⟩
  have F : zFs 0 8 1 6 p l s m _ c cL_writeChild 4 RL (Cond.codeWith yL_writeChild cL_writeChild 4 (some .int) [(0, 9, 12, 19)]) D Y S V G A A1 s.heap := ⟨⟨hx, hb, hml, hown, hts, hl9⟩, hG1, hK.1, hAB, hA1⟩
  refine lv_aload_n hx hb dL_writeChild_0 rfl (lv_at hl 2 rfl) ?_
  refine lv_iconst (v := 0) hx hb dL_writeChild_1 (by decide) ?_
  refine lv_aload_n hx hb dL_writeChild_2 rfl (lv_at hl 0 rfl) ?_
  refine lv_iload_n hx hb dL_writeChild_3 rfl (lv_at hl 1 rfl) ?_
  have run := z_runVs (p := p) (e := e) (below := below) (meth := meth) (cells := 0) (slots := 0) (ls := ls) (As := [.int p0]) (rest := [.int 0, .ref o]) F k_X3_writeChild m_1060 (c_X3_writeChild p0 T T' v hf) hP hS (zV_0 (by decide)) rfl rfl rfl rfl hl.1 (Nat.le_of_ble_eq_true rfl) dL_writeChild_4 (Nat.le_of_ble_eq_true rfl) ⟨(Nat.le_of_ble_eq_true rfl), (Nat.le_of_ble_eq_true rfl)⟩ rfl
  rcases v with r | n
  · refine z_oks run hS hAB (fun H locs hP hz hk hS => ?_)
    have hO : zOw D cL o f H := va_at.kept hO (hk o hol hoA)
    refine lv_i2l (v := r.toInt64) hx hb dL_writeChild_7 rfl ?_
    refine z_lastO hx hb hK.2.1 hP hO hG ho hGo hS dL_writeChild_8 (fun H locs f' hf' hP hO hS => ?_)
    refine lv_goto (tgt := 15) hx hb dL_writeChild_9 (by decide) ?_
    refine lv_iconst (v := 0) hx hb dL_writeChild_15 (by decide) ?_
    exact z_lend hx hb hr hP hO ⟨rfl, hf'⟩ hS hlocks (Nat.le_of_ble_eq_true rfl) (Nat.le_of_ble_eq_true rfl) dL_writeChild_16
  · obtain rfl := hv n rfl
    refine z_exs (E := "java/lang/IndexOutOfBoundsException") run hS hAB (fun ce q9 H locs hP hz hk hS hce hcv hcl => ?_)
    have hO : zOw D cL o f H := va_at.kept hO (hk o hol hoA)
    refine vx_catch (own := RL) (name := "java/lang/IndexOutOfBoundsException") (E := "java/lang/IndexOutOfBoundsException") hown [] ⟨0, 9, 12, 19⟩ [] (htab.trans rfl) (fun z hz => by cases hz) (by decide) (by decide) (hts _ (List.mem_cons_of_mem _ m_731)) (va_Nw.use rfl (hK.1.2.2.2.2.2.2.2.2.2.2 "java/lang/IndexOutOfBoundsException" (by decide))) hce hcv hcl ?_
    refine lv_astore_n (lv' := [(3, .ref q9), (0, .ref (G 0 0)), (1, .int p0), (2, .ref o)]) hx hb dL_writeChild_12 rfl hl (by decide) rfl (fun ls hl => ?_)
    refine lv_iconst (v := 1) hx hb dL_writeChild_13 (by decide) ?_
    exact z_lend hx hb hr hP hO rfl hS hlocks (Nat.le_of_ble_eq_true rfl) (Nat.le_of_ble_eq_true rfl) dL_writeChild_14
theorem kw_outputByte : zcaw yL_outputByte cL_outputByte 4 [(0, 9, 12, 19)] 3 := ⟨zws_in 1070 (by decide +kernel) (by decide +kernel), zws_in 82 (by decide +kernel) (by decide +kernel), zws_in 1071 (by decide +kernel) (by decide +kernel), ⟨by decide +kernel, by decide +kernel⟩, by decide +kernel, by decide⟩
set_option maxHeartbeats 4000000 in
set_option maxRecDepth 100000 in
theorem cw_outputByte (p0 : Int32) (T T' : zT) (v : Int32 ⊕ Nat) (hf : f_X3_outputByte p0 T = some (v, T')) (hv : ∀ n, v = .inr n → n = 2) : zCl yL_outputByte cL_outputByte 4 [(0, 9, 12, 19)] 7 1 6 (fun G o => [.ref (G 0 0), .int p0, .ref o]) T v (fun n => 1) T' := by
  intro l D Y S V G A cL o f hl9 hG ho hGo
  refine vx_ofWH (cc := cL_outputByte) (maxL := 4) (ret := some .int) (hh := [(0, 9, 12, 19)]) (by decide) rfl ?_
  intro p e s m args below meth c s₁ B hml hv9
  obtain ⟨rfl, hK, hP, hO, hA⟩ := hv9
  have hx := B.exec
  have hb := B.bytes
  have hr := B.returns
  have hlocks := B.notSynchronized
  have hown : s.vm.findClass RL = some m.cls := findClass_of_methodNamed B.named
  have hts := atoms_spec (ws := Cond.codeWith yL_outputByte cL_outputByte 4 (some .int) [(0, 9, 12, 19)] :: zWS) B.pre
  have htab := vx_table (x := yL_outputByte) B (hts _ List.mem_cons_self)
  have hS : va_S A s.heap s.heap [] := va_S.rf
  have hl := lv_entry ([.ref (G 0 0), .int p0, .ref o]) (n := 4) (Nat.le_of_ble_eq_true rfl)
  rw [lg_entry_eq]
  generalize (lg_sl ([.ref (G 0 0), .int p0, .ref o]) ++ List.replicate (4 - (lg_sl ([.ref (G 0 0), .int p0, .ref o])).length) Slot.unset).toArray = ls at hl ⊢
  have hl : lv_has ls 4 [(0, .ref (G 0 0)), (1, .int p0), (2, .ref o)] := hl
  have hol : o < s.heap.size := va_at.lt hO
  obtain ⟨A1, eA⟩ : ∃ z : Nat → Prop, z = fun q => A q ∧ q ≠ o := ⟨_, rfl⟩
  have hAB : ∀ q, A1 q → A q := fun q h => by rw [eA] at h; exact h.1
  have hoA : ¬ A1 o := fun h => by rw [eA] at h; exact h.2 rfl
  have hG1 : zG 0 G A1 := ⟨hG.1, fun κ ι hV => by rw [eA]; exact ⟨hG.2 κ ι hV, hGo κ ι hV⟩⟩
  have hA1 : ∀ q, s.heap.size ≤ q → A1 q := fun q hq => by rw [eA]; exact ⟨hA q hq, fun e => by omega⟩
  have F : zFs 0 7 1 6 p l s m _ c cL_outputByte 4 RL (Cond.codeWith yL_outputByte cL_outputByte 4 (some .int) [(0, 9, 12, 19)]) D Y S V G A A1 s.heap := ⟨⟨hx, hb, hml, hown, hts, hl9⟩, hG1, hK.1, hAB, hA1⟩
  refine lv_aload_n hx hb dL_outputByte_0 rfl (lv_at hl 2 rfl) ?_
  refine lv_iconst (v := 0) hx hb dL_outputByte_1 (by decide) ?_
  refine lv_aload_n hx hb dL_outputByte_2 rfl (lv_at hl 0 rfl) ?_
  refine lv_iload_n hx hb dL_outputByte_3 rfl (lv_at hl 1 rfl) ?_
  have run := z_runVs (p := p) (e := e) (below := below) (meth := meth) (cells := 0) (slots := 0) (ls := ls) (As := [.int p0]) (rest := [.int 0, .ref o]) F k_X3_outputByte m_1072 (c_X3_outputByte p0 T T' v hf) hP hS (zV_0 (by decide)) rfl rfl rfl rfl hl.1 (Nat.le_of_ble_eq_true rfl) dL_outputByte_4 (Nat.le_of_ble_eq_true rfl) ⟨(Nat.le_of_ble_eq_true rfl), (Nat.le_of_ble_eq_true rfl)⟩ rfl
  rcases v with r | n
  · refine z_oks run hS hAB (fun H locs hP hz hk hS => ?_)
    have hO : zOw D cL o f H := va_at.kept hO (hk o hol hoA)
    refine lv_i2l (v := r.toInt64) hx hb dL_outputByte_7 rfl ?_
    refine z_lastO hx hb hK.2.1 hP hO hG ho hGo hS dL_outputByte_8 (fun H locs f' hf' hP hO hS => ?_)
    refine lv_goto (tgt := 15) hx hb dL_outputByte_9 (by decide) ?_
    refine lv_iconst (v := 0) hx hb dL_outputByte_15 (by decide) ?_
    exact z_lend hx hb hr hP hO ⟨rfl, hf'⟩ hS hlocks (Nat.le_of_ble_eq_true rfl) (Nat.le_of_ble_eq_true rfl) dL_outputByte_16
  · obtain rfl := hv n rfl
    refine z_exs (E := "java/lang/IndexOutOfBoundsException") run hS hAB (fun ce q9 H locs hP hz hk hS hce hcv hcl => ?_)
    have hO : zOw D cL o f H := va_at.kept hO (hk o hol hoA)
    refine vx_catch (own := RL) (name := "java/lang/IndexOutOfBoundsException") (E := "java/lang/IndexOutOfBoundsException") hown [] ⟨0, 9, 12, 19⟩ [] (htab.trans rfl) (fun z hz => by cases hz) (by decide) (by decide) (hts _ (List.mem_cons_of_mem _ m_731)) (va_Nw.use rfl (hK.1.2.2.2.2.2.2.2.2.2.2 "java/lang/IndexOutOfBoundsException" (by decide))) hce hcv hcl ?_
    refine lv_astore_n (lv' := [(3, .ref q9), (0, .ref (G 0 0)), (1, .int p0), (2, .ref o)]) hx hb dL_outputByte_12 rfl hl (by decide) rfl (fun ls hl => ?_)
    refine lv_iconst (v := 1) hx hb dL_outputByte_13 (by decide) ?_
    exact z_lend hx hb hr hP hO rfl hS hlocks (Nat.le_of_ble_eq_true rfl) (Nat.le_of_ble_eq_true rfl) dL_outputByte_14
