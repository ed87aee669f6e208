noncomputable def cy_0 : MethodName := ⟨RX0, "<init>", "()V"⟩
noncomputable abbrev cb_0 : ByteArray := prog_2_method_1_code
theorem cd_0_0 : decode cb_0 0 = .ok (.aload_n 0, 1) := by decide +kernel
theorem cd_0_1 : decode cb_0 1 = .ok (.invokespecial 3, 3) := by decide +kernel
theorem cd_0_4 : decode cb_0 4 = .ok (.aload_n 0, 1) := by decide +kernel
theorem cd_0_5 : decode cb_0 5 = .ok (.bipush 16, 2) := by decide +kernel
theorem cd_0_7 : decode cb_0 7 = .ok (.newarray .int, 2) := by decide +kernel
theorem cd_0_9 : decode cb_0 9 = .ok (.putfield 9, 3) := by decide +kernel
theorem cd_0_12 : decode cb_0 12 = .ok (.return_, 1) := by decide +kernel
noncomputable def cy_1 : MethodName := ⟨RX1, "<init>", "()V"⟩
noncomputable abbrev cb_1 : ByteArray := prog_3_method_1_code
theorem cd_1_0 : decode cb_1 0 = .ok (.aload_n 0, 1) := by decide +kernel
theorem cd_1_1 : decode cb_1 1 = .ok (.invokespecial 3, 3) := by decide +kernel
theorem cd_1_4 : decode cb_1 4 = .ok (.aload_n 0, 1) := by decide +kernel
theorem cd_1_5 : decode cb_1 5 = .ok (.iconst 4, 1) := by decide +kernel
theorem cd_1_6 : decode cb_1 6 = .ok (.newarray .int, 2) := by decide +kernel
theorem cd_1_8 : decode cb_1 8 = .ok (.putfield 9, 3) := by decide +kernel
theorem cd_1_11 : decode cb_1 11 = .ok (.aload_n 0, 1) := by decide +kernel
theorem cd_1_12 : decode cb_1 12 = .ok (.bipush 10, 2) := by decide +kernel
theorem cd_1_14 : decode cb_1 14 = .ok (.newarray .int, 2) := by decide +kernel
theorem cd_1_16 : decode cb_1 16 = .ok (.putfield 15, 3) := by decide +kernel
theorem cd_1_19 : decode cb_1 19 = .ok (.aload_n 0, 1) := by decide +kernel
theorem cd_1_20 : decode cb_1 20 = .ok (.bipush 10, 2) := by decide +kernel
theorem cd_1_22 : decode cb_1 22 = .ok (.newarray .int, 2) := by decide +kernel
theorem cd_1_24 : decode cb_1 24 = .ok (.putfield 18, 3) := by decide +kernel
theorem cd_1_27 : decode cb_1 27 = .ok (.aload_n 0, 1) := by decide +kernel
theorem cd_1_28 : decode cb_1 28 = .ok (.bipush 10, 2) := by decide +kernel
theorem cd_1_30 : decode cb_1 30 = .ok (.newarray .int, 2) := by decide +kernel
theorem cd_1_32 : decode cb_1 32 = .ok (.putfield 21, 3) := by decide +kernel
theorem cd_1_35 : decode cb_1 35 = .ok (.aload_n 0, 1) := by decide +kernel
theorem cd_1_36 : decode cb_1 36 = .ok (.bipush 6, 2) := by decide +kernel
theorem cd_1_38 : decode cb_1 38 = .ok (.newarray .int, 2) := by decide +kernel
theorem cd_1_40 : decode cb_1 40 = .ok (.putfield 24, 3) := by decide +kernel
theorem cd_1_43 : decode cb_1 43 = .ok (.aload_n 0, 1) := by decide +kernel
theorem cd_1_44 : decode cb_1 44 = .ok (.bipush 6, 2) := by decide +kernel
theorem cd_1_46 : decode cb_1 46 = .ok (.newarray .int, 2) := by decide +kernel
theorem cd_1_48 : decode cb_1 48 = .ok (.putfield 27, 3) := by decide +kernel
theorem cd_1_51 : decode cb_1 51 = .ok (.return_, 1) := by decide +kernel
noncomputable def cy_2 : MethodName := ⟨RX2, "<init>", "()V"⟩
noncomputable abbrev cb_2 : ByteArray := prog_4_method_1_code
theorem cd_2_0 : decode cb_2 0 = .ok (.aload_n 0, 1) := by decide +kernel
theorem cd_2_1 : decode cb_2 1 = .ok (.invokespecial 3, 3) := by decide +kernel
theorem cd_2_4 : decode cb_2 4 = .ok (.aload_n 0, 1) := by decide +kernel
theorem cd_2_5 : decode cb_2 5 = .ok (.sipush 160, 3) := by decide +kernel
theorem cd_2_8 : decode cb_2 8 = .ok (.newarray .int, 2) := by decide +kernel
theorem cd_2_10 : decode cb_2 10 = .ok (.putfield 11, 3) := by decide +kernel
theorem cd_2_13 : decode cb_2 13 = .ok (.aload_n 0, 1) := by decide +kernel
theorem cd_2_14 : decode cb_2 14 = .ok (.iconst 4, 1) := by decide +kernel
theorem cd_2_15 : decode cb_2 15 = .ok (.newarray .int, 2) := by decide +kernel
theorem cd_2_17 : decode cb_2 17 = .ok (.putfield 15, 3) := by decide +kernel
theorem cd_2_20 : decode cb_2 20 = .ok (.aload_n 0, 1) := by decide +kernel
theorem cd_2_21 : decode cb_2 21 = .ok (.iconst 4, 1) := by decide +kernel
theorem cd_2_22 : decode cb_2 22 = .ok (.newarray .int, 2) := by decide +kernel
theorem cd_2_24 : decode cb_2 24 = .ok (.dup, 1) := by decide +kernel
theorem cd_2_25 : decode cb_2 25 = .ok (.iconst 0, 1) := by decide +kernel
theorem cd_2_26 : decode cb_2 26 = .ok (.bipush (-4), 2) := by decide +kernel
theorem cd_2_28 : decode cb_2 28 = .ok (.iastore, 1) := by decide +kernel
theorem cd_2_29 : decode cb_2 29 = .ok (.dup, 1) := by decide +kernel
theorem cd_2_30 : decode cb_2 30 = .ok (.iconst 1, 1) := by decide +kernel
theorem cd_2_31 : decode cb_2 31 = .ok (.bipush (-4), 2) := by decide +kernel
theorem cd_2_33 : decode cb_2 33 = .ok (.iastore, 1) := by decide +kernel
theorem cd_2_34 : decode cb_2 34 = .ok (.dup, 1) := by decide +kernel
theorem cd_2_35 : decode cb_2 35 = .ok (.iconst 2, 1) := by decide +kernel
theorem cd_2_36 : decode cb_2 36 = .ok (.bipush (-4), 2) := by decide +kernel
theorem cd_2_38 : decode cb_2 38 = .ok (.iastore, 1) := by decide +kernel
theorem cd_2_39 : decode cb_2 39 = .ok (.dup, 1) := by decide +kernel
theorem cd_2_40 : decode cb_2 40 = .ok (.iconst 3, 1) := by decide +kernel
theorem cd_2_41 : decode cb_2 41 = .ok (.bipush (-4), 2) := by decide +kernel
theorem cd_2_43 : decode cb_2 43 = .ok (.iastore, 1) := by decide +kernel
theorem cd_2_44 : decode cb_2 44 = .ok (.putfield 18, 3) := by decide +kernel
theorem cd_2_47 : decode cb_2 47 = .ok (.return_, 1) := by decide +kernel
noncomputable def cy_3 : MethodName := ⟨RX3, "<init>", "()V"⟩
noncomputable abbrev cb_3 : ByteArray := prog_5_method_1_code
theorem cd_3_0 : decode cb_3 0 = .ok (.aload_n 0, 1) := by decide +kernel
theorem cd_3_1 : decode cb_3 1 = .ok (.invokespecial 3, 3) := by decide +kernel
theorem cd_3_4 : decode cb_3 4 = .ok (.aload_n 0, 1) := by decide +kernel
theorem cd_3_5 : decode cb_3 5 = .ok (.sipush 160, 3) := by decide +kernel
theorem cd_3_8 : decode cb_3 8 = .ok (.newarray .byte, 2) := by decide +kernel
theorem cd_3_10 : decode cb_3 10 = .ok (.putfield 9, 3) := by decide +kernel
theorem cd_3_13 : decode cb_3 13 = .ok (.aload_n 0, 1) := by decide +kernel
theorem cd_3_14 : decode cb_3 14 = .ok (.new 15, 3) := by decide +kernel
theorem cd_3_17 : decode cb_3 17 = .ok (.dup, 1) := by decide +kernel
theorem cd_3_18 : decode cb_3 18 = .ok (.invokespecial 17, 3) := by decide +kernel
theorem cd_3_21 : decode cb_3 21 = .ok (.putfield 18, 3) := by decide +kernel
theorem cd_3_24 : decode cb_3 24 = .ok (.return_, 1) := by decide +kernel
noncomputable def cy_4 : MethodName := ⟨RX4, "<init>", "()V"⟩
noncomputable abbrev cb_4 : ByteArray := prog_1_method_1_code
theorem cd_4_0 : decode cb_4 0 = .ok (.aload_n 0, 1) := by decide +kernel
theorem cd_4_1 : decode cb_4 1 = .ok (.invokespecial 1, 3) := by decide +kernel
theorem cd_4_4 : decode cb_4 4 = .ok (.aload_n 0, 1) := by decide +kernel
theorem cd_4_5 : decode cb_4 5 = .ok (.new 7, 3) := by decide +kernel
theorem cd_4_8 : decode cb_4 8 = .ok (.dup, 1) := by decide +kernel
theorem cd_4_9 : decode cb_4 9 = .ok (.invokespecial 9, 3) := by decide +kernel
theorem cd_4_12 : decode cb_4 12 = .ok (.putfield 10, 3) := by decide +kernel
theorem cd_4_15 : decode cb_4 15 = .ok (.aload_n 0, 1) := by decide +kernel
theorem cd_4_16 : decode cb_4 16 = .ok (.new 7, 3) := by decide +kernel
theorem cd_4_19 : decode cb_4 19 = .ok (.dup, 1) := by decide +kernel
theorem cd_4_20 : decode cb_4 20 = .ok (.invokespecial 9, 3) := by decide +kernel
theorem cd_4_23 : decode cb_4 23 = .ok (.putfield 16, 3) := by decide +kernel
theorem cd_4_26 : decode cb_4 26 = .ok (.aload_n 0, 1) := by decide +kernel
theorem cd_4_27 : decode cb_4 27 = .ok (.new 7, 3) := by decide +kernel
theorem cd_4_30 : decode cb_4 30 = .ok (.dup, 1) := by decide +kernel
theorem cd_4_31 : decode cb_4 31 = .ok (.invokespecial 9, 3) := by decide +kernel
theorem cd_4_34 : decode cb_4 34 = .ok (.putfield 19, 3) := by decide +kernel
theorem cd_4_37 : decode cb_4 37 = .ok (.aload_n 0, 1) := by decide +kernel
theorem cd_4_38 : decode cb_4 38 = .ok (.iconst 2, 1) := by decide +kernel
theorem cd_4_39 : decode cb_4 39 = .ok (.newarray .boolean, 2) := by decide +kernel
theorem cd_4_41 : decode cb_4 41 = .ok (.putfield 22, 3) := by decide +kernel
theorem cd_4_44 : decode cb_4 44 = .ok (.aload_n 0, 1) := by decide +kernel
theorem cd_4_45 : decode cb_4 45 = .ok (.new 26, 3) := by decide +kernel
theorem cd_4_48 : decode cb_4 48 = .ok (.dup, 1) := by decide +kernel
theorem cd_4_49 : decode cb_4 49 = .ok (.invokespecial 28, 3) := by decide +kernel
theorem cd_4_52 : decode cb_4 52 = .ok (.putfield 29, 3) := by decide +kernel
theorem cd_4_55 : decode cb_4 55 = .ok (.aload_n 0, 1) := by decide +kernel
theorem cd_4_56 : decode cb_4 56 = .ok (.new 33, 3) := by decide +kernel
theorem cd_4_59 : decode cb_4 59 = .ok (.dup, 1) := by decide +kernel
theorem cd_4_60 : decode cb_4 60 = .ok (.invokespecial 35, 3) := by decide +kernel
theorem cd_4_63 : decode cb_4 63 = .ok (.putfield 36, 3) := by decide +kernel
theorem cd_4_66 : decode cb_4 66 = .ok (.aload_n 0, 1) := by decide +kernel
theorem cd_4_67 : decode cb_4 67 = .ok (.new 40, 3) := by decide +kernel
theorem cd_4_70 : decode cb_4 70 = .ok (.dup, 1) := by decide +kernel
theorem cd_4_71 : decode cb_4 71 = .ok (.invokespecial 42, 3) := by decide +kernel
theorem cd_4_74 : decode cb_4 74 = .ok (.putfield 43, 3) := by decide +kernel
theorem cd_4_77 : decode cb_4 77 = .ok (.aload_n 0, 1) := by decide +kernel
theorem cd_4_78 : decode cb_4 78 = .ok (.bipush 10, 2) := by decide +kernel
theorem cd_4_80 : decode cb_4 80 = .ok (.newarray .int, 2) := by decide +kernel
theorem cd_4_82 : decode cb_4 82 = .ok (.putfield 47, 3) := by decide +kernel
theorem cd_4_85 : decode cb_4 85 = .ok (.return_, 1) := by decide +kernel
noncomputable def cy_5 : MethodName := ⟨RX5, "<init>", "()V"⟩
noncomputable abbrev cb_5 : ByteArray := prog_7_method_1_code
theorem cd_5_0 : decode cb_5 0 = .ok (.aload_n 0, 1) := by decide +kernel
theorem cd_5_1 : decode cb_5 1 = .ok (.invokespecial 1, 3) := by decide +kernel
theorem cd_5_4 : decode cb_5 4 = .ok (.aload_n 0, 1) := by decide +kernel
theorem cd_5_5 : decode cb_5 5 = .ok (.sipush 147, 3) := by decide +kernel
theorem cd_5_8 : decode cb_5 8 = .ok (.newarray .int, 2) := by decide +kernel
theorem cd_5_10 : decode cb_5 10 = .ok (.putfield 7, 3) := by decide +kernel
theorem cd_5_13 : decode cb_5 13 = .ok (.aload_n 0, 1) := by decide +kernel
theorem cd_5_14 : decode cb_5 14 = .ok (.bipush 49, 2) := by decide +kernel
theorem cd_5_16 : decode cb_5 16 = .ok (.newarray .int, 2) := by decide +kernel
theorem cd_5_18 : decode cb_5 18 = .ok (.putfield 13, 3) := by decide +kernel
theorem cd_5_21 : decode cb_5 21 = .ok (.aload_n 0, 1) := by decide +kernel
theorem cd_5_22 : decode cb_5 22 = .ok (.iconst 2, 1) := by decide +kernel
theorem cd_5_23 : decode cb_5 23 = .ok (.newarray .boolean, 2) := by decide +kernel
theorem cd_5_25 : decode cb_5 25 = .ok (.putfield 16, 3) := by decide +kernel
theorem cd_5_28 : decode cb_5 28 = .ok (.aload_n 0, 1) := by decide +kernel
theorem cd_5_29 : decode cb_5 29 = .ok (.bipush 49, 2) := by decide +kernel
theorem cd_5_31 : decode cb_5 31 = .ok (.newarray .int, 2) := by decide +kernel
theorem cd_5_33 : decode cb_5 33 = .ok (.putfield 20, 3) := by decide +kernel
theorem cd_5_36 : decode cb_5 36 = .ok (.aload_n 0, 1) := by decide +kernel
theorem cd_5_37 : decode cb_5 37 = .ok (.sipush 160, 3) := by decide +kernel
theorem cd_5_40 : decode cb_5 40 = .ok (.newarray .int, 2) := by decide +kernel
theorem cd_5_42 : decode cb_5 42 = .ok (.putfield 23, 3) := by decide +kernel
theorem cd_5_45 : decode cb_5 45 = .ok (.aload_n 0, 1) := by decide +kernel
theorem cd_5_46 : decode cb_5 46 = .ok (.bipush 16, 2) := by decide +kernel
theorem cd_5_48 : decode cb_5 48 = .ok (.newarray .int, 2) := by decide +kernel
theorem cd_5_50 : decode cb_5 50 = .ok (.putfield 26, 3) := by decide +kernel
theorem cd_5_53 : decode cb_5 53 = .ok (.aload_n 0, 1) := by decide +kernel
theorem cd_5_54 : decode cb_5 54 = .ok (.iconst 4, 1) := by decide +kernel
theorem cd_5_55 : decode cb_5 55 = .ok (.newarray .int, 2) := by decide +kernel
theorem cd_5_57 : decode cb_5 57 = .ok (.putfield 29, 3) := by decide +kernel
theorem cd_5_60 : decode cb_5 60 = .ok (.aload_n 0, 1) := by decide +kernel
theorem cd_5_61 : decode cb_5 61 = .ok (.bipush 16, 2) := by decide +kernel
theorem cd_5_63 : decode cb_5 63 = .ok (.newarray .int, 2) := by decide +kernel
theorem cd_5_65 : decode cb_5 65 = .ok (.putfield 32, 3) := by decide +kernel
theorem cd_5_68 : decode cb_5 68 = .ok (.aload_n 0, 1) := by decide +kernel
theorem cd_5_69 : decode cb_5 69 = .ok (.iconst 4, 1) := by decide +kernel
theorem cd_5_70 : decode cb_5 70 = .ok (.newarray .int, 2) := by decide +kernel
theorem cd_5_72 : decode cb_5 72 = .ok (.putfield 35, 3) := by decide +kernel
theorem cd_5_75 : decode cb_5 75 = .ok (.aload_n 0, 1) := by decide +kernel
theorem cd_5_76 : decode cb_5 76 = .ok (.iconst 4, 1) := by decide +kernel
theorem cd_5_77 : decode cb_5 77 = .ok (.newarray .int, 2) := by decide +kernel
theorem cd_5_79 : decode cb_5 79 = .ok (.putfield 38, 3) := by decide +kernel
theorem cd_5_82 : decode cb_5 82 = .ok (.aload_n 0, 1) := by decide +kernel
theorem cd_5_83 : decode cb_5 83 = .ok (.sipush 160, 3) := by decide +kernel
theorem cd_5_86 : decode cb_5 86 = .ok (.newarray .int, 2) := by decide +kernel
theorem cd_5_88 : decode cb_5 88 = .ok (.putfield 41, 3) := by decide +kernel
theorem cd_5_91 : decode cb_5 91 = .ok (.iconst 0, 1) := by decide +kernel
theorem cd_5_92 : decode cb_5 92 = .ok (.istore_n 1, 1) := by decide +kernel
theorem cd_5_93 : decode cb_5 93 = .ok (.iload_n 1, 1) := by decide +kernel
theorem cd_5_94 : decode cb_5 94 = .ok (.iconst 4, 1) := by decide +kernel
theorem cd_5_95 : decode cb_5 95 = .ok (.if_icmp .ge 17, 3) := by decide +kernel
theorem cd_5_98 : decode cb_5 98 = .ok (.aload_n 0, 1) := by decide +kernel
theorem cd_5_99 : decode cb_5 99 = .ok (.getfield 35, 3) := by decide +kernel
theorem cd_5_102 : decode cb_5 102 = .ok (.iload_n 1, 1) := by decide +kernel
theorem cd_5_103 : decode cb_5 103 = .ok (.bipush (-4), 2) := by decide +kernel
theorem cd_5_105 : decode cb_5 105 = .ok (.iastore, 1) := by decide +kernel
theorem cd_5_106 : decode cb_5 106 = .ok (.iinc 1 1, 3) := by decide +kernel
theorem cd_5_109 : decode cb_5 109 = .ok (.goto (-16), 3) := by decide +kernel
theorem cd_5_112 : decode cb_5 112 = .ok (.aload_n 0, 1) := by decide +kernel
theorem cd_5_113 : decode cb_5 113 = .ok (.invokevirtual 44, 3) := by decide +kernel
theorem cd_5_116 : decode cb_5 116 = .ok (.aload_n 0, 1) := by decide +kernel
theorem cd_5_117 : decode cb_5 117 = .ok (.invokevirtual 47, 3) := by decide +kernel
theorem cd_5_120 : decode cb_5 120 = .ok (.return_, 1) := by decide +kernel
noncomputable abbrev qt_0 (ca : Nat → ClassId) (h0 : Nat) (u : Nat → Nat) : va_W := [(h0, .inr (0, [.ref (u 1), .int 0, .int 0])), ((u 1), .inl (ca 0, 16, .inl (fun _ => 0)))]
noncomputable abbrev qn_0 (h0 : Nat) : va_W := [(h0, .inr (0, [.null, .int 0, .int 0]))]
noncomputable abbrev qt_1 (ca : Nat → ClassId) (h0 : Nat) (u : Nat → Nat) : va_W := [(h0, .inr (1, [.ref (u 1), .ref (u 2), .ref (u 3), .ref (u 4), .ref (u 5), .ref (u 6), .int 0, .int 0, .int 0, .int 0])), ((u 1), .inl (ca 0, 4, .inl (fun _ => 0))), ((u 2), .inl (ca 0, 10, .inl (fun _ => 0))), ((u 3), .inl (ca 0, 10, .inl (fun _ => 0))), ((u 4), .inl (ca 0, 10, .inl (fun _ => 0))), ((u 5), .inl (ca 0, 6, .inl (fun _ => 0))), ((u 6), .inl (ca 0, 6, .inl (fun _ => 0)))]
noncomputable abbrev qn_1 (h0 : Nat) : va_W := [(h0, .inr (1, [.null, .null, .null, .null, .null, .null, .int 0, .int 0, .int 0, .int 0]))]
noncomputable abbrev qt_2 (ca : Nat → ClassId) (h0 : Nat) (u : Nat → Nat) : va_W := [(h0, .inr (2, [.ref (u 1), .ref (u 2), .ref (u 3)])), ((u 1), .inl (ca 0, 160, .inl (fun _ => 0))), ((u 2), .inl (ca 0, 4, .inl (fun _ => 0))), ((u 3), .inl (ca 0, 4, .inl (upd (upd (upd (upd (fun _ => 0) 0 (-4)) 1 (-4)) 2 (-4)) 3 (-4))))]
noncomputable abbrev qn_2 (h0 : Nat) : va_W := [(h0, .inr (2, [.null, .null, .null]))]
noncomputable abbrev qt_3 (ca : Nat → ClassId) (h0 : Nat) (u : Nat → Nat) : va_W := [(h0, .inr (3, [.ref (u 1), .ref (u 2), .int 0, .int 0, .int 0, .int 0, .int 0, .int 0, .int 0, .int 0, .int 0])), ((u 1), .inl (ca 1, 160, .inl (fun _ => 0))), ((u 2), .inr (1, [.ref (u 3), .ref (u 4), .ref (u 5), .ref (u 6), .ref (u 7), .ref (u 8), .int 0, .int 0, .int 0, .int 0])), ((u 3), .inl (ca 0, 4, .inl (fun _ => 0))), ((u 4), .inl (ca 0, 10, .inl (fun _ => 0))), ((u 5), .inl (ca 0, 10, .inl (fun _ => 0))), ((u 6), .inl (ca 0, 10, .inl (fun _ => 0))), ((u 7), .inl (ca 0, 6, .inl (fun _ => 0))), ((u 8), .inl (ca 0, 6, .inl (fun _ => 0)))]
noncomputable abbrev qn_3 (h0 : Nat) : va_W := [(h0, .inr (3, [.null, .null, .int 0, .int 0, .int 0, .int 0, .int 0, .int 0, .int 0, .int 0, .int 0]))]
noncomputable abbrev qt_4 (ca : Nat → ClassId) (h0 : Nat) (u : Nat → Nat) : va_W := [(h0, .inr (4, [.ref (u 1), .ref (u 8), .ref (u 15), .ref (u 22), .ref (u 23), .ref (u 32), .ref (u 34), .ref (u 38), .int 0])), ((u 1), .inr (1, [.ref (u 2), .ref (u 3), .ref (u 4), .ref (u 5), .ref (u 6), .ref (u 7), .int 0, .int 0, .int 0, .int 0])), ((u 2), .inl (ca 0, 4, .inl (fun _ => 0))), ((u 3), .inl (ca 0, 10, .inl (fun _ => 0))), ((u 4), .inl (ca 0, 10, .inl (fun _ => 0))), ((u 5), .inl (ca 0, 10, .inl (fun _ => 0))), ((u 6), .inl (ca 0, 6, .inl (fun _ => 0))), ((u 7), .inl (ca 0, 6, .inl (fun _ => 0))), ((u 8), .inr (1, [.ref (u 9), .ref (u 10), .ref (u 11), .ref (u 12), .ref (u 13), .ref (u 14), .int 0, .int 0, .int 0, .int 0])), ((u 9), .inl (ca 0, 4, .inl (fun _ => 0))), ((u 10), .inl (ca 0, 10, .inl (fun _ => 0))), ((u 11), .inl (ca 0, 10, .inl (fun _ => 0))), ((u 12), .inl (ca 0, 10, .inl (fun _ => 0))), ((u 13), .inl (ca 0, 6, .inl (fun _ => 0))), ((u 14), .inl (ca 0, 6, .inl (fun _ => 0))), ((u 15), .inr (1, [.ref (u 16), .ref (u 17), .ref (u 18), .ref (u 19), .ref (u 20), .ref (u 21), .int 0, .int 0, .int 0, .int 0])), ((u 16), .inl (ca 0, 4, .inl (fun _ => 0))), ((u 17), .inl (ca 0, 10, .inl (fun _ => 0))), ((u 18), .inl (ca 0, 10, .inl (fun _ => 0))), ((u 19), .inl (ca 0, 10, .inl (fun _ => 0))), ((u 20), .inl (ca 0, 6, .inl (fun _ => 0))), ((u 21), .inl (ca 0, 6, .inl (fun _ => 0))), ((u 22), .inl (ca 2, 2, .inl (fun _ => 0))), ((u 23), .inr (3, [.ref (u 24), .ref (u 25), .int 0, .int 0, .int 0, .int 0, .int 0, .int 0, .int 0, .int 0, .int 0])), ((u 24), .inl (ca 1, 160, .inl (fun _ => 0))), ((u 25), .inr (1, [.ref (u 26), .ref (u 27), .ref (u 28), .ref (u 29), .ref (u 30), .ref (u 31), .int 0, .int 0, .int 0, .int 0])), ((u 26), .inl (ca 0, 4, .inl (fun _ => 0))), ((u 27), .inl (ca 0, 10, .inl (fun _ => 0))), ((u 28), .inl (ca 0, 10, .inl (fun _ => 0))), ((u 29), .inl (ca 0, 10, .inl (fun _ => 0))), ((u 30), .inl (ca 0, 6, .inl (fun _ => 0))), ((u 31), .inl (ca 0, 6, .inl (fun _ => 0))), ((u 32), .inr (0, [.ref (u 33), .int 0, .int 0])), ((u 33), .inl (ca 0, 16, .inl (fun _ => 0))), ((u 34), .inr (2, [.ref (u 35), .ref (u 36), .ref (u 37)])), ((u 35), .inl (ca 0, 160, .inl (fun _ => 0))), ((u 36), .inl (ca 0, 4, .inl (fun _ => 0))), ((u 37), .inl (ca 0, 4, .inl (upd (upd (upd (upd (fun _ => 0) 0 (-4)) 1 (-4)) 2 (-4)) 3 (-4)))), ((u 38), .inl (ca 0, 10, .inl (fun _ => 0)))]
noncomputable abbrev qn_4 (h0 : Nat) : va_W := [(h0, .inr (4, [.null, .null, .null, .null, .null, .null, .null, .null, .int 0]))]
noncomputable abbrev qn_5 (h0 : Nat) : va_W := [(h0, .inr (5, [.null, .null, .null, .int 0, .null, .int 0, .int 0, .int 0, .null, .int 0, .int 0, .int 0, .int 0, .int 0, .int 0, .int 0, .null, .null, .int 0, .int 0, .int 0, .null, .null, .null, .null, .int 0]))]
