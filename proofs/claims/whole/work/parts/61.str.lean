/-! String constants: length, charAt, indexOf of the JDK over them -/
theorem sw_122 : (Jvm.Cond.initialized "java/lang/String") ∈ GT := g_mem (i := 122) (by decide +kernel) (by decide +kernel)
theorem sw_123 : (Jvm.Cond.initialized "java/lang/StringLatin1") ∈ GT := g_mem (i := 123) (by decide +kernel) (by decide +kernel)
theorem sw_124 : (Jvm.Cond.initialized "jdk/internal/util/Preconditions") ∈ GT := g_mem (i := 124) (by decide +kernel) (by decide +kernel)
theorem sw_126 : (Jvm.Cond.initialized "java/lang/Math") ∈ GT := g_mem (i := 126) (by decide +kernel) (by decide +kernel)
theorem sw_532 : (Jvm.Cond.instanceMethod ({ cls := "java/lang/String", name := "length", desc := "()I" } : Jvm.MethodName)) ∈ GT := g_mem (i := 532) (by decide +kernel) (by decide +kernel)
theorem sw_533 : (Jvm.Cond.selects "java/lang/String" ({ cls := "java/lang/String", name := "length", desc := "()I" } : Jvm.MethodName) ({ cls := "java/lang/String", name := "length", desc := "()I" } : Jvm.MethodName)) ∈ GT := g_mem (i := 533) (by decide +kernel) (by decide +kernel)
theorem sw_534 : (Jvm.Cond.code ({ cls := "java/lang/String", name := "length", desc := "()I" } : Jvm.MethodName) prog_15_method_54_code (1 : Nat) (Option.some Jvm.ClassFile.FieldType.int)) ∈ GT := g_mem (i := 534) (by decide +kernel) (by decide +kernel)
theorem sw_535 : (Jvm.Cond.methodLink "java/lang/String" (335 : Nat) ({ cls := "java/lang/String", name := "coder", desc := "()B" } : Jvm.MethodName)) ∈ GT := g_mem (i := 535) (by decide +kernel) (by decide +kernel)
theorem sw_536 : (Jvm.Cond.instanceMethod ({ cls := "java/lang/String", name := "coder", desc := "()B" } : Jvm.MethodName)) ∈ GT := g_mem (i := 536) (by decide +kernel) (by decide +kernel)
theorem sw_537 : (Jvm.Cond.selects "java/lang/String" ({ cls := "java/lang/String", name := "coder", desc := "()B" } : Jvm.MethodName) ({ cls := "java/lang/String", name := "coder", desc := "()B" } : Jvm.MethodName)) ∈ GT := g_mem (i := 537) (by decide +kernel) (by decide +kernel)
theorem sw_538 : (Jvm.Cond.code ({ cls := "java/lang/String", name := "coder", desc := "()B" } : Jvm.MethodName) prog_15_method_152_code (1 : Nat) (Option.some Jvm.ClassFile.FieldType.byte)) ∈ GT := g_mem (i := 538) (by decide +kernel) (by decide +kernel)
theorem sw_539 : (Jvm.Cond.fieldLink "java/lang/String" (38 : Nat) "java/lang/String" "COMPACT_STRINGS" "Z") ∈ GT := g_mem (i := 539) (by decide +kernel) (by decide +kernel)
theorem sw_542 : (Jvm.Cond.instanceMethod ({ cls := "java/lang/String", name := "charAt", desc := "(I)C" } : Jvm.MethodName)) ∈ GT := g_mem (i := 542) (by decide +kernel) (by decide +kernel)
theorem sw_543 : (Jvm.Cond.selects "java/lang/String" ({ cls := "java/lang/String", name := "charAt", desc := "(I)C" } : Jvm.MethodName) ({ cls := "java/lang/String", name := "charAt", desc := "(I)C" } : Jvm.MethodName)) ∈ GT := g_mem (i := 543) (by decide +kernel) (by decide +kernel)
theorem sw_544 : (Jvm.Cond.code ({ cls := "java/lang/String", name := "charAt", desc := "(I)C" } : Jvm.MethodName) prog_15_method_56_code (2 : Nat) (Option.some Jvm.ClassFile.FieldType.char)) ∈ GT := g_mem (i := 544) (by decide +kernel) (by decide +kernel)
theorem sw_545 : (Jvm.Cond.methodLink "java/lang/String" (492 : Nat) ({ cls := "java/lang/String", name := "isLatin1", desc := "()Z" } : Jvm.MethodName)) ∈ GT := g_mem (i := 545) (by decide +kernel) (by decide +kernel)
theorem sw_546 : (Jvm.Cond.instanceMethod ({ cls := "java/lang/String", name := "isLatin1", desc := "()Z" } : Jvm.MethodName)) ∈ GT := g_mem (i := 546) (by decide +kernel) (by decide +kernel)
theorem sw_547 : (Jvm.Cond.selects "java/lang/String" ({ cls := "java/lang/String", name := "isLatin1", desc := "()Z" } : Jvm.MethodName) ({ cls := "java/lang/String", name := "isLatin1", desc := "()Z" } : Jvm.MethodName)) ∈ GT := g_mem (i := 547) (by decide +kernel) (by decide +kernel)
theorem sw_548 : (Jvm.Cond.code ({ cls := "java/lang/String", name := "isLatin1", desc := "()Z" } : Jvm.MethodName) prog_15_method_154_code (1 : Nat) (Option.some Jvm.ClassFile.FieldType.boolean)) ∈ GT := g_mem (i := 548) (by decide +kernel) (by decide +kernel)
theorem sw_549 : (Jvm.Cond.methodLink "java/lang/String" (495 : Nat) ({ cls := "java/lang/StringLatin1", name := "charAt", desc := "([BI)C" } : Jvm.MethodName)) ∈ GT := g_mem (i := 549) (by decide +kernel) (by decide +kernel)
theorem sw_550 : (Jvm.Cond.static ({ cls := "java/lang/StringLatin1", name := "charAt", desc := "([BI)C" } : Jvm.MethodName)) ∈ GT := g_mem (i := 550) (by decide +kernel) (by decide +kernel)
theorem sw_551 : (Jvm.Cond.code ({ cls := "java/lang/StringLatin1", name := "charAt", desc := "([BI)C" } : Jvm.MethodName) prog_16_method_2_code (2 : Nat) (Option.some Jvm.ClassFile.FieldType.char)) ∈ GT := g_mem (i := 551) (by decide +kernel) (by decide +kernel)
theorem sw_552 : (Jvm.Cond.methodLink "java/lang/StringLatin1" (9 : Nat) ({ cls := "java/lang/String", name := "checkIndex", desc := "(II)V" } : Jvm.MethodName)) ∈ GT := g_mem (i := 552) (by decide +kernel) (by decide +kernel)
theorem sw_553 : (Jvm.Cond.static ({ cls := "java/lang/String", name := "checkIndex", desc := "(II)V" } : Jvm.MethodName)) ∈ GT := g_mem (i := 553) (by decide +kernel) (by decide +kernel)
theorem sw_554 : (Jvm.Cond.code ({ cls := "java/lang/String", name := "checkIndex", desc := "(II)V" } : Jvm.MethodName) prog_15_method_155_code (2 : Nat) (Option.none : Option Jvm.ClassFile.FieldType)) ∈ GT := g_mem (i := 554) (by decide +kernel) (by decide +kernel)
theorem sw_555 : (Jvm.Cond.fieldLink "java/lang/String" (1053 : Nat) "jdk/internal/util/Preconditions" "SIOOBE_FORMATTER" "Ljava/util/function/BiFunction;") ∈ GT := g_mem (i := 555) (by decide +kernel) (by decide +kernel)
theorem sw_557 : (Jvm.Cond.methodLink "java/lang/String" (1059 : Nat) ({ cls := "jdk/internal/util/Preconditions", name := "checkIndex", desc := "(IILjava/util/function/BiFunction;)I" } : Jvm.MethodName)) ∈ GT := g_mem (i := 557) (by decide +kernel) (by decide +kernel)
theorem sw_558 : (Jvm.Cond.static ({ cls := "jdk/internal/util/Preconditions", name := "checkIndex", desc := "(IILjava/util/function/BiFunction;)I" } : Jvm.MethodName)) ∈ GT := g_mem (i := 558) (by decide +kernel) (by decide +kernel)
theorem sw_559 : (Jvm.Cond.code ({ cls := "jdk/internal/util/Preconditions", name := "checkIndex", desc := "(IILjava/util/function/BiFunction;)I" } : Jvm.MethodName) prog_19_method_11_code (3 : Nat) (Option.some Jvm.ClassFile.FieldType.int)) ∈ GT := g_mem (i := 559) (by decide +kernel) (by decide +kernel)
theorem sw_587 : (Jvm.Cond.static ({ cls := "java/lang/Math", name := "min", desc := "(II)I" } : Jvm.MethodName)) ∈ GT := g_mem (i := 587) (by decide +kernel) (by decide +kernel)
theorem sw_588 : (Jvm.Cond.code ({ cls := "java/lang/Math", name := "min", desc := "(II)I" } : Jvm.MethodName) prog_14_method_69_code (2 : Nat) (Option.some Jvm.ClassFile.FieldType.int)) ∈ GT := g_mem (i := 588) (by decide +kernel) (by decide +kernel)
theorem sw_595 : (Jvm.Cond.instanceMethod ({ cls := "java/lang/String", name := "indexOf", desc := "(I)I" } : Jvm.MethodName)) ∈ GT := g_mem (i := 595) (by decide +kernel) (by decide +kernel)
theorem sw_596 : (Jvm.Cond.selects "java/lang/String" ({ cls := "java/lang/String", name := "indexOf", desc := "(I)I" } : Jvm.MethodName) ({ cls := "java/lang/String", name := "indexOf", desc := "(I)I" } : Jvm.MethodName)) ∈ GT := g_mem (i := 596) (by decide +kernel) (by decide +kernel)
theorem sw_597 : (Jvm.Cond.code ({ cls := "java/lang/String", name := "indexOf", desc := "(I)I" } : Jvm.MethodName) prog_15_method_79_code (2 : Nat) (Option.some Jvm.ClassFile.FieldType.int)) ∈ GT := g_mem (i := 597) (by decide +kernel) (by decide +kernel)
theorem sw_598 : (Jvm.Cond.methodLink "java/lang/String" (633 : Nat) ({ cls := "java/lang/String", name := "indexOf", desc := "(II)I" } : Jvm.MethodName)) ∈ GT := g_mem (i := 598) (by decide +kernel) (by decide +kernel)
theorem sw_599 : (Jvm.Cond.instanceMethod ({ cls := "java/lang/String", name := "indexOf", desc := "(II)I" } : Jvm.MethodName)) ∈ GT := g_mem (i := 599) (by decide +kernel) (by decide +kernel)
theorem sw_600 : (Jvm.Cond.selects "java/lang/String" ({ cls := "java/lang/String", name := "indexOf", desc := "(II)I" } : Jvm.MethodName) ({ cls := "java/lang/String", name := "indexOf", desc := "(II)I" } : Jvm.MethodName)) ∈ GT := g_mem (i := 600) (by decide +kernel) (by decide +kernel)
theorem sw_601 : (Jvm.Cond.code ({ cls := "java/lang/String", name := "indexOf", desc := "(II)I" } : Jvm.MethodName) prog_15_method_80_code (3 : Nat) (Option.some Jvm.ClassFile.FieldType.int)) ∈ GT := g_mem (i := 601) (by decide +kernel) (by decide +kernel)
theorem sw_602 : (Jvm.Cond.methodLink "java/lang/String" (505 : Nat) ({ cls := "java/lang/String", name := "length", desc := "()I" } : Jvm.MethodName)) ∈ GT := g_mem (i := 602) (by decide +kernel) (by decide +kernel)
theorem sw_603 : (Jvm.Cond.methodLink "java/lang/String" (637 : Nat) ({ cls := "java/lang/StringLatin1", name := "indexOf", desc := "([BIII)I" } : Jvm.MethodName)) ∈ GT := g_mem (i := 603) (by decide +kernel) (by decide +kernel)
theorem sw_604 : (Jvm.Cond.static ({ cls := "java/lang/StringLatin1", name := "indexOf", desc := "([BIII)I" } : Jvm.MethodName)) ∈ GT := g_mem (i := 604) (by decide +kernel) (by decide +kernel)
theorem sw_605 : (Jvm.Cond.code ({ cls := "java/lang/StringLatin1", name := "indexOf", desc := "([BIII)I" } : Jvm.MethodName) prog_16_method_22_code (4 : Nat) (Option.some Jvm.ClassFile.FieldType.int)) ∈ GT := g_mem (i := 605) (by decide +kernel) (by decide +kernel)
theorem sw_606 : (Jvm.Cond.methodLink "java/lang/StringLatin1" (88 : Nat) ({ cls := "java/lang/StringLatin1", name := "canEncode", desc := "(I)Z" } : Jvm.MethodName)) ∈ GT := g_mem (i := 606) (by decide +kernel) (by decide +kernel)
theorem sw_607 : (Jvm.Cond.static ({ cls := "java/lang/StringLatin1", name := "canEncode", desc := "(I)Z" } : Jvm.MethodName)) ∈ GT := g_mem (i := 607) (by decide +kernel) (by decide +kernel)
theorem sw_608 : (Jvm.Cond.code ({ cls := "java/lang/StringLatin1", name := "canEncode", desc := "(I)Z" } : Jvm.MethodName) prog_16_method_4_code (1 : Nat) (Option.some Jvm.ClassFile.FieldType.boolean)) ∈ GT := g_mem (i := 608) (by decide +kernel) (by decide +kernel)
theorem sw_609 : (Jvm.Cond.methodLink "java/lang/StringLatin1" (92 : Nat) ({ cls := "java/lang/Math", name := "max", desc := "(II)I" } : Jvm.MethodName)) ∈ GT := g_mem (i := 609) (by decide +kernel) (by decide +kernel)
theorem sw_610 : (Jvm.Cond.static ({ cls := "java/lang/Math", name := "max", desc := "(II)I" } : Jvm.MethodName)) ∈ GT := g_mem (i := 610) (by decide +kernel) (by decide +kernel)
theorem sw_611 : (Jvm.Cond.code ({ cls := "java/lang/Math", name := "max", desc := "(II)I" } : Jvm.MethodName) prog_14_method_65_code (2 : Nat) (Option.some Jvm.ClassFile.FieldType.int)) ∈ GT := g_mem (i := 611) (by decide +kernel) (by decide +kernel)
theorem sw_612 : (Jvm.Cond.methodLink "java/lang/StringLatin1" (38 : Nat) ({ cls := "java/lang/Math", name := "min", desc := "(II)I" } : Jvm.MethodName)) ∈ GT := g_mem (i := 612) (by decide +kernel) (by decide +kernel)
theorem sw_613 : (Jvm.Cond.methodLink "java/lang/StringLatin1" (95 : Nat) ({ cls := "java/lang/StringLatin1", name := "indexOfChar", desc := "([BIII)I" } : Jvm.MethodName)) ∈ GT := g_mem (i := 613) (by decide +kernel) (by decide +kernel)
theorem sw_614 : (Jvm.Cond.static ({ cls := "java/lang/StringLatin1", name := "indexOfChar", desc := "([BIII)I" } : Jvm.MethodName)) ∈ GT := g_mem (i := 614) (by decide +kernel) (by decide +kernel)
theorem sw_615 : (Jvm.Cond.code ({ cls := "java/lang/StringLatin1", name := "indexOfChar", desc := "([BIII)I" } : Jvm.MethodName) prog_16_method_23_code (6 : Nat) (Option.some Jvm.ClassFile.FieldType.int)) ∈ GT := g_mem (i := 615) (by decide +kernel) (by decide +kernel)
theorem sw_1908 : (Jvm.Cond.fieldLink "java/lang/String" (9 : Nat) "java/lang/String" "value" "[B") ∈ GT := g_mem (i := 1908) (by decide +kernel) (by decide +kernel)
theorem sw_1909 : (Jvm.Cond.fieldLink "java/lang/String" (15 : Nat) "java/lang/String" "coder" "B") ∈ GT := g_mem (i := 1909) (by decide +kernel) (by decide +kernel)
theorem dJ0_length_8abf5_0 : decode cJ0_length_8abf5 0 = .ok (.aload_n 0, 1) := by decide +kernel
theorem dJ0_length_8abf5_1 : decode cJ0_length_8abf5 1 = .ok (.getfield 9, 3) := by decide +kernel
theorem dJ0_length_8abf5_4 : decode cJ0_length_8abf5 4 = .ok (.arraylength, 1) := by decide +kernel
theorem dJ0_length_8abf5_5 : decode cJ0_length_8abf5 5 = .ok (.aload_n 0, 1) := by decide +kernel
theorem dJ0_length_8abf5_6 : decode cJ0_length_8abf5 6 = .ok (.invokevirtual 335, 3) := by decide +kernel
theorem dJ0_length_8abf5_9 : decode cJ0_length_8abf5 9 = .ok (.ishr, 1) := by decide +kernel
theorem dJ0_length_8abf5_10 : decode cJ0_length_8abf5 10 = .ok (.ireturn, 1) := by decide +kernel
theorem dJ0_charAt_5068e_0 : decode cJ0_charAt_5068e 0 = .ok (.aload_n 0, 1) := by decide +kernel
theorem dJ0_charAt_5068e_1 : decode cJ0_charAt_5068e 1 = .ok (.invokevirtual 492, 3) := by decide +kernel
theorem dJ0_charAt_5068e_4 : decode cJ0_charAt_5068e 4 = .ok (.ifCond .eq 12, 3) := by decide +kernel
theorem dJ0_charAt_5068e_7 : decode cJ0_charAt_5068e 7 = .ok (.aload_n 0, 1) := by decide +kernel
theorem dJ0_charAt_5068e_8 : decode cJ0_charAt_5068e 8 = .ok (.getfield 9, 3) := by decide +kernel
theorem dJ0_charAt_5068e_11 : decode cJ0_charAt_5068e 11 = .ok (.iload_n 1, 1) := by decide +kernel
theorem dJ0_charAt_5068e_12 : decode cJ0_charAt_5068e 12 = .ok (.invokestatic 495, 3) := by decide +kernel
theorem dJ0_charAt_5068e_15 : decode cJ0_charAt_5068e 15 = .ok (.ireturn, 1) := by decide +kernel
theorem dJ0_indexOf_0f7a4_0 : decode cJ0_indexOf_0f7a4 0 = .ok (.aload_n 0, 1) := by decide +kernel
theorem dJ0_indexOf_0f7a4_1 : decode cJ0_indexOf_0f7a4 1 = .ok (.iload_n 1, 1) := by decide +kernel
theorem dJ0_indexOf_0f7a4_2 : decode cJ0_indexOf_0f7a4 2 = .ok (.iconst 0, 1) := by decide +kernel
theorem dJ0_indexOf_0f7a4_3 : decode cJ0_indexOf_0f7a4 3 = .ok (.invokevirtual 633, 3) := by decide +kernel
theorem dJ0_indexOf_0f7a4_6 : decode cJ0_indexOf_0f7a4 6 = .ok (.ireturn, 1) := by decide +kernel
theorem dJ0_indexOf_7cf53_0 : decode cJ0_indexOf_7cf53 0 = .ok (.aload_n 0, 1) := by decide +kernel
theorem dJ0_indexOf_7cf53_1 : decode cJ0_indexOf_7cf53 1 = .ok (.invokevirtual 492, 3) := by decide +kernel
theorem dJ0_indexOf_7cf53_4 : decode cJ0_indexOf_7cf53 4 = .ok (.ifCond .eq 19, 3) := by decide +kernel
theorem dJ0_indexOf_7cf53_7 : decode cJ0_indexOf_7cf53 7 = .ok (.aload_n 0, 1) := by decide +kernel
theorem dJ0_indexOf_7cf53_8 : decode cJ0_indexOf_7cf53 8 = .ok (.getfield 9, 3) := by decide +kernel
theorem dJ0_indexOf_7cf53_11 : decode cJ0_indexOf_7cf53 11 = .ok (.iload_n 1, 1) := by decide +kernel
theorem dJ0_indexOf_7cf53_12 : decode cJ0_indexOf_7cf53 12 = .ok (.iload_n 2, 1) := by decide +kernel
theorem dJ0_indexOf_7cf53_13 : decode cJ0_indexOf_7cf53 13 = .ok (.aload_n 0, 1) := by decide +kernel
theorem dJ0_indexOf_7cf53_14 : decode cJ0_indexOf_7cf53 14 = .ok (.invokevirtual 505, 3) := by decide +kernel
theorem dJ0_indexOf_7cf53_17 : decode cJ0_indexOf_7cf53 17 = .ok (.invokestatic 637, 3) := by decide +kernel
theorem dJ0_indexOf_7cf53_20 : decode cJ0_indexOf_7cf53 20 = .ok (.goto 16, 3) := by decide +kernel
theorem dJ0_indexOf_7cf53_36 : decode cJ0_indexOf_7cf53 36 = .ok (.ireturn, 1) := by decide +kernel
theorem dJ0_coder_7d493_0 : decode cJ0_coder_7d493 0 = .ok (.getstatic 38, 3) := by decide +kernel
theorem dJ0_coder_7d493_3 : decode cJ0_coder_7d493 3 = .ok (.ifCond .eq 10, 3) := by decide +kernel
theorem dJ0_coder_7d493_6 : decode cJ0_coder_7d493 6 = .ok (.aload_n 0, 1) := by decide +kernel
theorem dJ0_coder_7d493_7 : decode cJ0_coder_7d493 7 = .ok (.getfield 15, 3) := by decide +kernel
theorem dJ0_coder_7d493_10 : decode cJ0_coder_7d493 10 = .ok (.goto 4, 3) := by decide +kernel
theorem dJ0_coder_7d493_13 : decode cJ0_coder_7d493 13 = .ok (.iconst 1, 1) := by decide +kernel
theorem dJ0_coder_7d493_14 : decode cJ0_coder_7d493 14 = .ok (.ireturn, 1) := by decide +kernel
theorem dJ0_isLatin1_aae02_0 : decode cJ0_isLatin1_aae02 0 = .ok (.getstatic 38, 3) := by decide +kernel
theorem dJ0_isLatin1_aae02_3 : decode cJ0_isLatin1_aae02 3 = .ok (.ifCond .eq 14, 3) := by decide +kernel
theorem dJ0_isLatin1_aae02_6 : decode cJ0_isLatin1_aae02 6 = .ok (.aload_n 0, 1) := by decide +kernel
theorem dJ0_isLatin1_aae02_7 : decode cJ0_isLatin1_aae02 7 = .ok (.getfield 15, 3) := by decide +kernel
theorem dJ0_isLatin1_aae02_10 : decode cJ0_isLatin1_aae02 10 = .ok (.ifCond .ne 7, 3) := by decide +kernel
theorem dJ0_isLatin1_aae02_13 : decode cJ0_isLatin1_aae02 13 = .ok (.iconst 1, 1) := by decide +kernel
theorem dJ0_isLatin1_aae02_14 : decode cJ0_isLatin1_aae02 14 = .ok (.goto 4, 3) := by decide +kernel
theorem dJ0_isLatin1_aae02_17 : decode cJ0_isLatin1_aae02 17 = .ok (.iconst 0, 1) := by decide +kernel
theorem dJ0_isLatin1_aae02_18 : decode cJ0_isLatin1_aae02 18 = .ok (.ireturn, 1) := by decide +kernel
theorem dJ0_checkIndex_df160_0 : decode cJ0_checkIndex_df160 0 = .ok (.iload_n 0, 1) := by decide +kernel
theorem dJ0_checkIndex_df160_1 : decode cJ0_checkIndex_df160 1 = .ok (.iload_n 1, 1) := by decide +kernel
theorem dJ0_checkIndex_df160_2 : decode cJ0_checkIndex_df160 2 = .ok (.getstatic 1053, 3) := by decide +kernel
theorem dJ0_checkIndex_df160_5 : decode cJ0_checkIndex_df160 5 = .ok (.invokestatic 1059, 3) := by decide +kernel
theorem dJ0_checkIndex_df160_8 : decode cJ0_checkIndex_df160 8 = .ok (.pop, 1) := by decide +kernel
theorem dJ0_checkIndex_df160_9 : decode cJ0_checkIndex_df160 9 = .ok (.return_, 1) := by decide +kernel
theorem dJ1_charAt_3b067_0 : decode cJ1_charAt_3b067 0 = .ok (.iload_n 1, 1) := by decide +kernel
theorem dJ1_charAt_3b067_1 : decode cJ1_charAt_3b067 1 = .ok (.aload_n 0, 1) := by decide +kernel
theorem dJ1_charAt_3b067_2 : decode cJ1_charAt_3b067 2 = .ok (.arraylength, 1) := by decide +kernel
theorem dJ1_charAt_3b067_3 : decode cJ1_charAt_3b067 3 = .ok (.invokestatic 9, 3) := by decide +kernel
theorem dJ1_charAt_3b067_6 : decode cJ1_charAt_3b067 6 = .ok (.aload_n 0, 1) := by decide +kernel
theorem dJ1_charAt_3b067_7 : decode cJ1_charAt_3b067 7 = .ok (.iload_n 1, 1) := by decide +kernel
theorem dJ1_charAt_3b067_8 : decode cJ1_charAt_3b067 8 = .ok (.baload, 1) := by decide +kernel
theorem dJ1_charAt_3b067_9 : decode cJ1_charAt_3b067 9 = .ok (.sipush 255, 3) := by decide +kernel
theorem dJ1_charAt_3b067_12 : decode cJ1_charAt_3b067 12 = .ok (.iand, 1) := by decide +kernel
theorem dJ1_charAt_3b067_13 : decode cJ1_charAt_3b067 13 = .ok (.i2c, 1) := by decide +kernel
theorem dJ1_charAt_3b067_14 : decode cJ1_charAt_3b067 14 = .ok (.ireturn, 1) := by decide +kernel
theorem dJ1_canEncode_9a6ad_0 : decode cJ1_canEncode_9a6ad 0 = .ok (.iload_n 0, 1) := by decide +kernel
theorem dJ1_canEncode_9a6ad_1 : decode cJ1_canEncode_9a6ad 1 = .ok (.ifCond .lt 14, 3) := by decide +kernel
theorem dJ1_canEncode_9a6ad_4 : decode cJ1_canEncode_9a6ad 4 = .ok (.iload_n 0, 1) := by decide +kernel
theorem dJ1_canEncode_9a6ad_5 : decode cJ1_canEncode_9a6ad 5 = .ok (.sipush 255, 3) := by decide +kernel
theorem dJ1_canEncode_9a6ad_8 : decode cJ1_canEncode_9a6ad 8 = .ok (.if_icmp .gt 7, 3) := by decide +kernel
theorem dJ1_canEncode_9a6ad_11 : decode cJ1_canEncode_9a6ad 11 = .ok (.iconst 1, 1) := by decide +kernel
theorem dJ1_canEncode_9a6ad_12 : decode cJ1_canEncode_9a6ad 12 = .ok (.goto 4, 3) := by decide +kernel
theorem dJ1_canEncode_9a6ad_15 : decode cJ1_canEncode_9a6ad 15 = .ok (.iconst 0, 1) := by decide +kernel
theorem dJ1_canEncode_9a6ad_16 : decode cJ1_canEncode_9a6ad 16 = .ok (.ireturn, 1) := by decide +kernel
theorem dJ1_indexOf_4cfef_0 : decode cJ1_indexOf_4cfef 0 = .ok (.iload_n 1, 1) := by decide +kernel
theorem dJ1_indexOf_4cfef_1 : decode cJ1_indexOf_4cfef 1 = .ok (.invokestatic 88, 3) := by decide +kernel
theorem dJ1_indexOf_4cfef_4 : decode cJ1_indexOf_4cfef 4 = .ok (.ifCond .ne 5, 3) := by decide +kernel
theorem dJ1_indexOf_4cfef_7 : decode cJ1_indexOf_4cfef 7 = .ok (.iconst (-1), 1) := by decide +kernel
theorem dJ1_indexOf_4cfef_8 : decode cJ1_indexOf_4cfef 8 = .ok (.ireturn, 1) := by decide +kernel
theorem dJ1_indexOf_4cfef_9 : decode cJ1_indexOf_4cfef 9 = .ok (.iload_n 2, 1) := by decide +kernel
theorem dJ1_indexOf_4cfef_10 : decode cJ1_indexOf_4cfef 10 = .ok (.iconst 0, 1) := by decide +kernel
theorem dJ1_indexOf_4cfef_11 : decode cJ1_indexOf_4cfef 11 = .ok (.invokestatic 92, 3) := by decide +kernel
theorem dJ1_indexOf_4cfef_14 : decode cJ1_indexOf_4cfef 14 = .ok (.istore_n 2, 1) := by decide +kernel
theorem dJ1_indexOf_4cfef_15 : decode cJ1_indexOf_4cfef 15 = .ok (.iload_n 3, 1) := by decide +kernel
theorem dJ1_indexOf_4cfef_16 : decode cJ1_indexOf_4cfef 16 = .ok (.aload_n 0, 1) := by decide +kernel
theorem dJ1_indexOf_4cfef_17 : decode cJ1_indexOf_4cfef 17 = .ok (.arraylength, 1) := by decide +kernel
theorem dJ1_indexOf_4cfef_18 : decode cJ1_indexOf_4cfef 18 = .ok (.invokestatic 38, 3) := by decide +kernel
theorem dJ1_indexOf_4cfef_21 : decode cJ1_indexOf_4cfef 21 = .ok (.istore_n 3, 1) := by decide +kernel
theorem dJ1_indexOf_4cfef_22 : decode cJ1_indexOf_4cfef 22 = .ok (.iload_n 2, 1) := by decide +kernel
theorem dJ1_indexOf_4cfef_23 : decode cJ1_indexOf_4cfef 23 = .ok (.iload_n 3, 1) := by decide +kernel
theorem dJ1_indexOf_4cfef_24 : decode cJ1_indexOf_4cfef 24 = .ok (.if_icmp .lt 5, 3) := by decide +kernel
theorem dJ1_indexOf_4cfef_27 : decode cJ1_indexOf_4cfef 27 = .ok (.iconst (-1), 1) := by decide +kernel
theorem dJ1_indexOf_4cfef_28 : decode cJ1_indexOf_4cfef 28 = .ok (.ireturn, 1) := by decide +kernel
theorem dJ1_indexOf_4cfef_29 : decode cJ1_indexOf_4cfef 29 = .ok (.aload_n 0, 1) := by decide +kernel
theorem dJ1_indexOf_4cfef_30 : decode cJ1_indexOf_4cfef 30 = .ok (.iload_n 1, 1) := by decide +kernel
theorem dJ1_indexOf_4cfef_31 : decode cJ1_indexOf_4cfef 31 = .ok (.iload_n 2, 1) := by decide +kernel
theorem dJ1_indexOf_4cfef_32 : decode cJ1_indexOf_4cfef 32 = .ok (.iload_n 3, 1) := by decide +kernel
theorem dJ1_indexOf_4cfef_33 : decode cJ1_indexOf_4cfef 33 = .ok (.invokestatic 95, 3) := by decide +kernel
theorem dJ1_indexOf_4cfef_36 : decode cJ1_indexOf_4cfef 36 = .ok (.ireturn, 1) := by decide +kernel
theorem dJ1_indexOfChar_4cfef_0 : decode cJ1_indexOfChar_4cfef 0 = .ok (.iload_n 1, 1) := by decide +kernel
theorem dJ1_indexOfChar_4cfef_1 : decode cJ1_indexOfChar_4cfef 1 = .ok (.i2b, 1) := by decide +kernel
theorem dJ1_indexOfChar_4cfef_2 : decode cJ1_indexOfChar_4cfef 2 = .ok (.istore 4, 2) := by decide +kernel
theorem dJ1_indexOfChar_4cfef_4 : decode cJ1_indexOfChar_4cfef 4 = .ok (.iload_n 2, 1) := by decide +kernel
theorem dJ1_indexOfChar_4cfef_5 : decode cJ1_indexOfChar_4cfef 5 = .ok (.istore 5, 2) := by decide +kernel
theorem dJ1_indexOfChar_4cfef_7 : decode cJ1_indexOfChar_4cfef 7 = .ok (.iload 5, 2) := by decide +kernel
theorem dJ1_indexOfChar_4cfef_9 : decode cJ1_indexOfChar_4cfef 9 = .ok (.iload_n 3, 1) := by decide +kernel
theorem dJ1_indexOfChar_4cfef_10 : decode cJ1_indexOfChar_4cfef 10 = .ok (.if_icmp .ge 21, 3) := by decide +kernel
theorem dJ1_indexOfChar_4cfef_13 : decode cJ1_indexOfChar_4cfef 13 = .ok (.aload_n 0, 1) := by decide +kernel
theorem dJ1_indexOfChar_4cfef_14 : decode cJ1_indexOfChar_4cfef 14 = .ok (.iload 5, 2) := by decide +kernel
theorem dJ1_indexOfChar_4cfef_16 : decode cJ1_indexOfChar_4cfef 16 = .ok (.baload, 1) := by decide +kernel
theorem dJ1_indexOfChar_4cfef_17 : decode cJ1_indexOfChar_4cfef 17 = .ok (.iload 4, 2) := by decide +kernel
theorem dJ1_indexOfChar_4cfef_19 : decode cJ1_indexOfChar_4cfef 19 = .ok (.if_icmp .ne 6, 3) := by decide +kernel
theorem dJ1_indexOfChar_4cfef_22 : decode cJ1_indexOfChar_4cfef 22 = .ok (.iload 5, 2) := by decide +kernel
theorem dJ1_indexOfChar_4cfef_24 : decode cJ1_indexOfChar_4cfef 24 = .ok (.ireturn, 1) := by decide +kernel
theorem dJ1_indexOfChar_4cfef_25 : decode cJ1_indexOfChar_4cfef 25 = .ok (.iinc 5 1, 3) := by decide +kernel
theorem dJ1_indexOfChar_4cfef_28 : decode cJ1_indexOfChar_4cfef 28 = .ok (.goto (-21), 3) := by decide +kernel
theorem dJ1_indexOfChar_4cfef_31 : decode cJ1_indexOfChar_4cfef 31 = .ok (.iconst (-1), 1) := by decide +kernel
theorem dJ1_indexOfChar_4cfef_32 : decode cJ1_indexOfChar_4cfef 32 = .ok (.ireturn, 1) := by decide +kernel
theorem dJ3_checkIndex_8e157_0 : decode cJ3_checkIndex_8e157 0 = .ok (.iload_n 0, 1) := by decide +kernel
theorem dJ3_checkIndex_8e157_1 : decode cJ3_checkIndex_8e157 1 = .ok (.ifCond .lt 8, 3) := by decide +kernel
theorem dJ3_checkIndex_8e157_4 : decode cJ3_checkIndex_8e157 4 = .ok (.iload_n 0, 1) := by decide +kernel
theorem dJ3_checkIndex_8e157_5 : decode cJ3_checkIndex_8e157 5 = .ok (.iload_n 1, 1) := by decide +kernel
theorem dJ3_checkIndex_8e157_6 : decode cJ3_checkIndex_8e157 6 = .ok (.if_icmp .lt 10, 3) := by decide +kernel
theorem dJ3_checkIndex_8e157_16 : decode cJ3_checkIndex_8e157 16 = .ok (.iload_n 0, 1) := by decide +kernel
theorem dJ3_checkIndex_8e157_17 : decode cJ3_checkIndex_8e157 17 = .ok (.ireturn, 1) := by decide +kernel
theorem cal_J0_length_8abf5 : g_cal yJ0_length_8abf5 cJ0_length_8abf5 1 (some .int) 0 := ⟨⟨by decide +kernel, by decide +kernel, by decide +kernel⟩, sw_534, sw_122, by decide +kernel⟩
theorem cal_J0_charAt_5068e : g_cal yJ0_charAt_5068e cJ0_charAt_5068e 2 (some .char) 1 := ⟨⟨by decide +kernel, by decide +kernel, by decide +kernel⟩, sw_544, sw_122, by decide +kernel⟩
theorem cal_J0_indexOf_0f7a4 : g_cal yJ0_indexOf_0f7a4 cJ0_indexOf_0f7a4 2 (some .int) 1 := ⟨⟨by decide +kernel, by decide +kernel, by decide +kernel⟩, sw_597, sw_122, by decide +kernel⟩
theorem cal_J0_indexOf_7cf53 : g_cal yJ0_indexOf_7cf53 cJ0_indexOf_7cf53 3 (some .int) 2 := ⟨⟨by decide +kernel, by decide +kernel, by decide +kernel⟩, sw_601, sw_122, by decide +kernel⟩
theorem cal_J0_coder_7d493 : g_cal yJ0_coder_7d493 cJ0_coder_7d493 1 (some .byte) 0 := ⟨⟨by decide +kernel, by decide +kernel, by decide +kernel⟩, sw_538, sw_122, by decide +kernel⟩
theorem cal_J0_isLatin1_aae02 : g_cal yJ0_isLatin1_aae02 cJ0_isLatin1_aae02 1 (some .boolean) 0 := ⟨⟨by decide +kernel, by decide +kernel, by decide +kernel⟩, sw_548, sw_122, by decide +kernel⟩
theorem cal_J0_checkIndex_df160 : g_cal yJ0_checkIndex_df160 cJ0_checkIndex_df160 2 none 2 := ⟨⟨by decide +kernel, by decide +kernel, by decide +kernel⟩, sw_554, sw_122, by decide +kernel⟩
theorem cal_J1_charAt_3b067 : g_cal yJ1_charAt_3b067 cJ1_charAt_3b067 2 (some .char) 2 := ⟨⟨by decide +kernel, by decide +kernel, by decide +kernel⟩, sw_551, sw_123, by decide +kernel⟩
theorem cal_J1_canEncode_9a6ad : g_cal yJ1_canEncode_9a6ad cJ1_canEncode_9a6ad 1 (some .boolean) 1 := ⟨⟨by decide +kernel, by decide +kernel, by decide +kernel⟩, sw_608, sw_123, by decide +kernel⟩
theorem cal_J1_indexOf_4cfef : g_cal yJ1_indexOf_4cfef cJ1_indexOf_4cfef 4 (some .int) 4 := ⟨⟨by decide +kernel, by decide +kernel, by decide +kernel⟩, sw_605, sw_123, by decide +kernel⟩
theorem cal_J1_indexOfChar_4cfef : g_cal yJ1_indexOfChar_4cfef cJ1_indexOfChar_4cfef 6 (some .int) 4 := ⟨⟨by decide +kernel, by decide +kernel, by decide +kernel⟩, sw_615, sw_123, by decide +kernel⟩
theorem cal_J3_checkIndex_8e157 : g_cal yJ3_checkIndex_8e157 cJ3_checkIndex_8e157 3 (some .int) 3 := ⟨⟨by decide +kernel, by decide +kernel, by decide +kernel⟩, sw_559, sw_124, by decide +kernel⟩
def x_isS (V : g_V) (i kS : Nat) (s : State) : Prop := ∃ adK adV, vk_S 2 x_len x_byt adK adV (g_A xG V) s s.heap ∧ adK i = kS
/-- what is known of the strings, by their addresses -/
def sEx (adK adV : Nat → Nat) (A : Nat → Prop) (U : State) (H : Heap) : Prop := vk_S 2 x_len x_byt adK adV A U H ∧ va_Z "java/lang/String" "COMPACT_STRINGS" "Z" (.int 1) A U H ∧ va_Zq "jdk/internal/util/Preconditions" "SIOOBE_FORMATTER" "Ljava/util/function/BiFunction;" A U H
theorem sEx_ok (adK adV : Nat → Nat) : g_exOK (sEx adK adV) := by
  refine ⟨fun A u U H hW h => ⟨h.1.moved hW.alike, h.2.1.moved hW.alike, h.2.2.moved hW.alike⟩, fun A u U H hW h => ?_, fun A U H H1 h hq => ⟨h.1.kept hq, h.2.1.kept hq, h.2.2.kept hq⟩⟩
  have hA : u.vm.Alike U.vm := by rw [hW]; exact Vm.Alike.refl _
  exact ⟨h.1.moved hA, h.2.1.moved hA, h.2.2.moved hA⟩
def sG (adK adV : Nat → Nat) : g_G := (xG.1, xG.2.1, xG.2.2.1, sEx adK adV)
theorem s_bt : (List.range 2).all (fun i => decide (Int32.ofNat (x_len.getD i 0) = gI (x_sl i : Int) ∧ g_shr (x_sl i : Int) 0 = (x_sl i : Int) ∧ (x_byt.getD i []).length = x_sl i ∧ 0 < x_sl i ∧ x_sl i ≤ 160) && (List.range (x_sl i)).all (fun k => decide (g_i2c (g_and (x_sc i k) 255) = x_sc i k ∧ g_i2c (x_sc i k) = x_sc i k ∧ 0 ≤ x_sc i k ∧ x_sc i k ≤ 127))) = true := by decide +kernel
theorem s_b {i : Nat} (hi : i < 2) : (Int32.ofNat (x_len.getD i 0) = gI (x_sl i : Int) ∧ g_shr (x_sl i : Int) 0 = (x_sl i : Int) ∧ (x_byt.getD i []).length = x_sl i ∧ 0 < x_sl i ∧ x_sl i ≤ 160) ∧ ∀ k, k < x_sl i → g_i2c (g_and (x_sc i k) 255) = x_sc i k ∧ g_i2c (x_sc i k) = x_sc i k ∧ 0 ≤ x_sc i k ∧ x_sc i k ≤ 127 := by
  have a := all_of s_bt hi
  rw [Bool.and_eq_true] at a
  exact ⟨of_decide_eq_true a.1, fun k hk => of_decide_eq_true (all_of a.2 hk)⟩
theorem s_nar {x : Int} (h : g_i2c x = x) : narrow .char (.int (gI x)) = .int (gI x) := by
  have e : narrow .char (.int (gI x)) = .int (((gI x).toUInt32 % 65536).toInt32) := rfl
  rw [e, ← gI_of (((gI x).toUInt32 % 65536).toInt32)]
  show Value.int (gI (g_i2c x)) = _
  rw [h]
theorem s_8t : (List.range 256).all (fun x => decide (x < 128 → (gI (x : Int)).toInt8.toInt32.toInt = (x : Int)) && decide (127 < x → (gI (x : Int)).toInt8.toInt32.toInt < 0)) = true := by decide +kernel
theorem drop_getD : ∀ (l : List Int32) (k : Nat), k < l.length → l.drop k = l.getD k 0 :: l.drop (k + 1) := by
  intro l
  induction l with
  | nil => intro k h; exact absurd h (Nat.not_lt_zero k)
  | cons a l ih =>
    intro k h
    cases k with
    | zero => rfl
    | succ k => exact ih k (Nat.lt_of_succ_lt_succ h)
theorem s_out {x : Int} (h : ¬ (0 ≤ gs x ∧ gs x ≤ 255)) : ∀ (l : List Int32) (k : Nat), (∀ b ∈ l, 0 ≤ b.toInt ∧ b.toInt ≤ 127) → x_sif x l k = -1 := by
  intro l
  induction l with
  | nil => intro k _; rfl
  | cons b l ih =>
    intro k hb
    have a := hb b List.mem_cons_self
    rw [x_sif, if_neg (by omega)]
    exact ih (k + 1) (fun c hc => hb c (List.mem_cons_of_mem _ hc))
theorem s_mem {i : Nat} (hi : i < 2) : ∀ b ∈ x_byt.getD i [], 0 ≤ b.toInt ∧ b.toInt ≤ 127 := by
  obtain ⟨⟨h1, h2, h3, h4, h5⟩, h6⟩ := s_b hi
  intro b hb
  obtain ⟨k, hk, e⟩ := List.getElem_of_mem hb
  have a := h6 k (by omega)
  have e2 : x_sc i k = b.toInt := by
    show ((x_byt.getD i []).getD k 0).toInt = b.toInt
    rw [List.getD_eq_getElem?_getD, List.getElem?_eq_getElem hk, e]
    rfl
  rw [e2] at a
  exact a.2.2
section
variable {p : Program} {l : Launch} {e : Env} {R : Room} {s : State} {m : MethodId} {args : Array Value} {below : List Frame} {meth : Method} {c : Code} {Q : State → Prop} {V : g_V} {cc : ByteArray} {nL : Nat} {ret : Option FieldType} {nf nl : Nat} {own : String} {adK adV : Nat → Nat}
variable {pc : Nat} {ls : Array Slot} {rest : List Value} {H : Heap} {locs : List Loc} {M : g_M} {α : Type} {res : α}
theorem s_CX (C : g_CX xG V p R s m args meth c cc nL ret own nf nl) (h : vk_S 2 x_len x_byt adK adV (g_A xG V) s s.heap) : g_CX (sG adK adV) V p R s m args meth c cc nL ret own nf nl := by
  obtain ⟨hx, hb, hml, hown, hts, hr, hlk, hfr, hlo, hK, hE, hok⟩ := C
  obtain ⟨-, -, -, -, -, h8, h9⟩ := hE
  exact ⟨hx, hb, hml, hown, hts, hr, hlk, hfr, hlo, hK, ⟨h, h8, h9⟩, ⟨hok.1, sEx_ok adK adV⟩⟩
theorem sx_Ex (C : g_CX (sG adK adV) V p R s m args meth c cc nL ret own nf nl) : sEx adK adV (g_A xG V) s s.heap := C.2.2.2.2.2.2.2.2.2.2.1
theorem s_ok (C : g_CX (sG adK adV) V p R s m args meth c cc nL ret own nf nl) : g_ok (sG adK adV) V := C.2.2.2.2.2.2.2.2.2.2.2
theorem r_callKI (C : g_CX (sG adK adV) V p R s m args meth c cc nL ret own nf nl) (hsz : ls.size = nL) (hp : g_PT (sG adK adV) V M s H locs) {y : MethodName} {cc1 : ByteArray} {nL1 nf1 nl1 n idx i : Nat} {rt : Option FieldType} {As st : List Value} {M' : g_M} {x : Int} (hi : i < 2) (hy : y.cls = "java/lang/String") (hM : MetI (sG adK adV) V l y cc1 nL1 rt nf1 nl1 (.ref (adK i) :: As) M x M') (hw : Cond.methodLink own idx y ∈ GT) (h1 : Cond.instanceMethod y ∈ GT) (h5 : Cond.selects y.cls y y ∈ GT) (hcal : g_cal y cc1 nL1 rt n) (hn : As.length = n) (hst : st = As.reverse ++ .ref (adK i) :: rest) (hcat : (rest.map fun v => v.category).sum ≤ 8) (hR : nf1 + 1 ≤ nf ∧ 8 + (nL1 + 11) + nl1 ≤ nl) (hdg : decode cc pc = .ok (.invokevirtual idx, 3)) (kk : ∀ (H1 : Heap) (locs1 : List Loc), g_PT (sG adK adV) V M' s H1 locs1 → W p l e R s m args below meth c H1 locs1 0 0 Q (F0 m (pc + 3) ls (.int (gI x) :: rest))) : W p l e R s m args below meth c H locs 0 0 Q (F0 m pc ls st) := by
  have C0 := C
  obtain ⟨hx, hb, hml, hown, hts, -, -, hfr, hlo, hK, hE, hok⟩ := C
  have hE1 : vk_S 2 x_len x_byt adK adV (g_A xG V) s s.heap := hE.1
  subst hst
  refine va_calli (va_runV (ret := rt) (maxL := nL1) (bytes := cc1) (C := y.cls) ⟨hx, hb, hml, hown, hts⟩ hM ⟨callB_of n hts (g_good hcal.2.1) rfl rfl rfl (hts _ hcal.2.2.1) (hts _ hw) hcal.1 ⟨Nat.le_trans hR.1 hfr, Nat.le_trans hR.2 hlo⟩, hts _ h1, hts _ h5⟩ ⟨g_blind hok.2 _, by rw [hy]; exact vk_recv hE1 hi hp.2, fun U hU hW => ⟨rfl, g_exHere C0 hp U hU hW⟩⟩ rfl hn hsz rfl (lv_room hcat) hdg ⟨Nat.zero_le _, Nat.zero_le _⟩) hp.2 (fun q _ h => h) (fun q h => h) (fun r M2 t H1 locs1 ht hvm hpo hB hz1 hk1 hS => ?_)
  obtain ⟨rfl, rfl⟩ := hpo
  refine kk H1 locs1 ⟨?_, hS⟩
  rw [← ht]
  exact hB
end
section
variable {p : Program} {l : Launch} {e : Env} {R : Room} {s : State} {m : MethodId} {args : Array Value} {below : List Frame} {meth : Method} {c : Code} {Q : State → Prop} {V : g_V} {adK adV : Nat → Nat} {H : Heap} {locs : List Loc} {ls : Array Slot} {M : g_M} {i : Nat} {x n : Int}
set_option maxHeartbeats 4000000 in
theorem b_J0_coder (C : g_CX (sG adK adV) V p R s m args meth c cJ0_coder_7d493 1 (some .byte) RJ0 0 0) (hR : g_RetI (sG adK adV) V p l e R s m args below meth c Q cJ0_coder_7d493 .byte 0 M) (hi : i < 2) (hp : g_PT (sG adK adV) V M s H locs) (hl : lv_has ls 1 [(0, .ref (adK i))]) : W p l e R s m args below meth c H locs 0 0 Q (F0 m 0 ls []) := by
  have E := sx_Ex C
  have T := C.2.2.2.2.1
  refine va_gets C.1 C.2.1 E.2.1 hp.2 C.2.2.2.1 (T _ sw_539) (fun _ h => h) dJ0_coder_7d493_0 ?_
  refine lv_if_eq C.1 C.2.1 (tgt := 13) dJ0_coder_7d493_3 (by decide) (fun h => absurd h (by decide)) (fun _ => ?_)
  refine lv_aload_n C.1 C.2.1 dJ0_coder_7d493_6 rfl (lv_at hl 0 rfl) ?_
  refine vk_getf C.1 C.2.1 (E.1.1 i hi).2.1 hp.2 C.2.2.2.1 (T _ sw_1909) (fun _ h => h) dJ0_coder_7d493_7 ?_
  refine r_goto (tgt := 14) C dJ0_coder_7d493_10 (by decide) ?_
  exact hR _ _ _ _ dJ0_coder_7d493_14 rfl hp
theorem c_J0_coder (l : Launch) (hok : g_ok (sG adK adV) V) (hi : i < 2) : MetI (sG adK adV) V l yJ0_coder_7d493 cJ0_coder_7d493 1 (some .byte) 0 0 [.ref (adK i)] M 0 M :=
  g_metI hok cal_J0_coder_7d493.2.2.2 rfl (Nat.le_of_ble_eq_true rfl) (@fun p e R s m args below meth c Q ls C hR hp hl => b_J0_coder C hR hi hp hl)
set_option maxHeartbeats 4000000 in
theorem b_J0_isLatin1 (C : g_CX (sG adK adV) V p R s m args meth c cJ0_isLatin1_aae02 1 (some .boolean) RJ0 0 0) (hR : g_RetI (sG adK adV) V p l e R s m args below meth c Q cJ0_isLatin1_aae02 .boolean 1 M) (hi : i < 2) (hp : g_PT (sG adK adV) V M s H locs) (hl : lv_has ls 1 [(0, .ref (adK i))]) : W p l e R s m args below meth c H locs 0 0 Q (F0 m 0 ls []) := by
  have E := sx_Ex C
  have T := C.2.2.2.2.1
  refine va_gets C.1 C.2.1 E.2.1 hp.2 C.2.2.2.1 (T _ sw_539) (fun _ h => h) dJ0_isLatin1_aae02_0 ?_
  refine lv_if_eq C.1 C.2.1 (tgt := 17) dJ0_isLatin1_aae02_3 (by decide) (fun h => absurd h (by decide)) (fun _ => ?_)
  refine lv_aload_n C.1 C.2.1 dJ0_isLatin1_aae02_6 rfl (lv_at hl 0 rfl) ?_
  refine vk_getf C.1 C.2.1 (E.1.1 i hi).2.1 hp.2 C.2.2.2.1 (T _ sw_1909) (fun _ h => h) dJ0_isLatin1_aae02_7 ?_
  refine lv_if_ne C.1 C.2.1 (tgt := 17) dJ0_isLatin1_aae02_10 (by decide) (fun h => absurd rfl h) (fun _ => ?_)
  refine r_iconst C dJ0_isLatin1_aae02_13 ?_
  refine r_goto (tgt := 18) C dJ0_isLatin1_aae02_14 (by decide) ?_
  exact hR _ _ _ _ dJ0_isLatin1_aae02_18 g_nz1 hp
theorem c_J0_isLatin1 (l : Launch) (hok : g_ok (sG adK adV) V) (hi : i < 2) : MetI (sG adK adV) V l yJ0_isLatin1_aae02 cJ0_isLatin1_aae02 1 (some .boolean) 0 0 [.ref (adK i)] M 1 M :=
  g_metI hok cal_J0_isLatin1_aae02.2.2.2 rfl (Nat.le_of_ble_eq_true rfl) (@fun p e R s m args below meth c Q ls C hR hp hl => b_J0_isLatin1 C hR hi hp hl)
set_option maxHeartbeats 4000000 in
theorem b_J0_length (C : g_CX (sG adK adV) V p R s m args meth c cJ0_length_8abf5 1 (some .int) RJ0 1 20) (hR : g_RetI (sG adK adV) V p l e R s m args below meth c Q cJ0_length_8abf5 .int (x_sl i) M) (hi : i < 2) (hp : g_PT (sG adK adV) V M s H locs) (hl : lv_has ls 1 [(0, .ref (adK i))]) : W p l e R s m args below meth c H locs 0 0 Q (F0 m 0 ls []) := by
  have E := sx_Ex C
  have T := C.2.2.2.2.1
  obtain ⟨⟨h1, h2, h3, h4, h5⟩, h6⟩ := s_b hi
  refine lv_aload_n C.1 C.2.1 dJ0_length_8abf5_0 rfl (lv_at hl 0 rfl) ?_
  refine vk_getf C.1 C.2.1 (E.1.1 i hi).2.2.1 hp.2 C.2.2.2.1 (T _ sw_1908) (fun _ h => h) dJ0_length_8abf5_1 ?_
  refine va_tlen C.1 C.2.1 (E.1.1 i hi).2.2.2 hp.2 h1 dJ0_length_8abf5_4 ?_
  refine lv_aload_n C.1 C.2.1 dJ0_length_8abf5_5 rfl (lv_at hl 0 rfl) ?_
  refine r_callKI (As := []) (rest := [.int (gI (x_sl i : Int))]) C hl.1 hp hi rfl (c_J0_coder l (s_ok C) hi) sw_535 sw_536 sw_537 cal_J0_coder_7d493 rfl rfl (Nat.le_of_ble_eq_true rfl) ⟨Nat.le_of_ble_eq_true rfl, Nat.le_of_ble_eq_true rfl⟩ dJ0_length_8abf5_6 (fun H locs hp => ?_)
  refine r_ishr C dJ0_length_8abf5_9 ?_
  rw [h2]
  exact hR _ _ _ _ dJ0_length_8abf5_10 rfl hp
theorem c_J0_length (l : Launch) (hok : g_ok (sG adK adV) V) (hi : i < 2) : MetI (sG adK adV) V l yJ0_length_8abf5 cJ0_length_8abf5 1 (some .int) 1 20 [.ref (adK i)] M (x_sl i) M :=
  g_metI hok cal_J0_length_8abf5.2.2.2 rfl (Nat.le_of_ble_eq_true rfl) (@fun p e R s m args below meth c Q ls C hR hp hl => b_J0_length C hR hi hp hl)
set_option maxHeartbeats 4000000 in
theorem b_J3_checkIndex {v : Value} (C : g_CX (sG adK adV) V p R s m args meth c cJ3_checkIndex_8e157 3 (some .int) RJ3 0 0) (hR : g_RetI (sG adK adV) V p l e R s m args below meth c Q cJ3_checkIndex_8e157 .int x M) (hx : 0 ≤ gs x ∧ gs x < gs n) (hp : g_PT (sG adK adV) V M s H locs) (hl : lv_has ls 3 [(0, .int (gI x)), (1, .int (gI n)), (2, v)]) : W p l e R s m args below meth c H locs 0 0 Q (F0 m 0 ls []) := by
  refine lv_iload_n C.1 C.2.1 dJ3_checkIndex_8e157_0 rfl (lv_at hl 0 rfl) ?_
  refine r_if_lt (tgt := 9) (a := none) (b := some ()) (res := ()) C (if_neg (by omega)) dJ3_checkIndex_8e157_1 (by decide) (fun h => nomatch h) (fun _ => ?_)
  refine lv_iload_n C.1 C.2.1 dJ3_checkIndex_8e157_4 rfl (lv_at hl 0 rfl) ?_
  refine lv_iload_n C.1 C.2.1 dJ3_checkIndex_8e157_5 rfl (lv_at hl 1 rfl) ?_
  refine r_icmp_lt (tgt := 16) (a := some ()) (b := none) (res := ()) C (if_pos hx.2) dJ3_checkIndex_8e157_6 (by decide) (fun _ => ?_) (fun h => nomatch h)
  refine lv_iload_n C.1 C.2.1 dJ3_checkIndex_8e157_16 rfl (lv_at hl 0 rfl) ?_
  exact hR _ _ _ _ dJ3_checkIndex_8e157_17 rfl hp
theorem c_J3_checkIndex {v : Value} (hv : v.category = 1) (l : Launch) (hok : g_ok (sG adK adV) V) (hx : 0 ≤ gs x ∧ gs x < gs n) : MetI (sG adK adV) V l yJ3_checkIndex_8e157 cJ3_checkIndex_8e157 3 (some .int) 0 0 [.int (gI x), .int (gI n), v] M x M := by
  have hlen : (lg_sl [.int (gI x), .int (gI n), v]).length ≤ 3 := by
    cases v <;> first | exact Nat.le_of_ble_eq_true rfl | cases hv
  have hargs : lv_args 0 [.int (gI x), .int (gI n), v] = [(0, .int (gI x)), (1, .int (gI n)), (2, v)] := by
    cases v <;> first | rfl | cases hv
  exact g_metI hok cal_J3_checkIndex_8e157.2.2.2 rfl hlen (@fun p e R s m args below meth c Q ls C hR hp hl => b_J3_checkIndex C hR hx hp (by rw [hargs] at hl; exact hl))
set_option maxHeartbeats 4000000 in
theorem b_J0_checkIndex (C : g_CX (sG adK adV) V p R s m args meth c cJ0_checkIndex_df160 2 none RJ0 1 22) (hR : g_RetV (sG adK adV) V p l e R s m args below meth c Q cJ0_checkIndex_df160 M) (hx : 0 ≤ gs x ∧ gs x < gs n) (hp : g_PT (sG adK adV) V M s H locs) (hl : lv_has ls 2 [(0, .int (gI x)), (1, .int (gI n))]) : W p l e R s m args below meth c H locs 0 0 Q (F0 m 0 ls []) := by
  have E := sx_Ex C
  have T := C.2.2.2.2.1
  refine lv_iload_n C.1 C.2.1 dJ0_checkIndex_df160_0 rfl (lv_at hl 0 rfl) ?_
  refine lv_iload_n C.1 C.2.1 dJ0_checkIndex_df160_1 rfl (lv_at hl 1 rfl) ?_
  have go : ∀ v : Value, v.category = 1 → va_Z "jdk/internal/util/Preconditions" "SIOOBE_FORMATTER" "Ljava/util/function/BiFunction;" v (g_A xG V) s s.heap → W p l e R s m args below meth c H locs 0 0 Q (F0 m 2 ls [.int (gI n), .int (gI x)]) := by
    intro v hv hZ
    refine va_gets C.1 C.2.1 hZ hp.2 C.2.2.2.1 (T _ sw_555) (fun _ h => h) dJ0_checkIndex_df160_2 ?_
    refine r_callSI (As := [.int (gI x), .int (gI n), v]) (rest := []) C hl.1 hp (c_J3_checkIndex hv l (s_ok C) hx) sw_557 sw_558 cal_J3_checkIndex_8e157 rfl rfl (Nat.le_of_ble_eq_true rfl) ⟨Nat.le_of_ble_eq_true rfl, Nat.le_of_ble_eq_true rfl⟩ dJ0_checkIndex_df160_5 (fun H locs hp => ?_)
    refine lv_pop C.1 C.2.1 dJ0_checkIndex_df160_8 rfl ?_
    exact hR _ _ _ _ dJ0_checkIndex_df160_9 hp
  rcases E.2.2 with hZ | ⟨t, hZ⟩
  · exact go .null rfl hZ
  · exact go (.ref t) rfl hZ
theorem c_J0_checkIndex (l : Launch) (hok : g_ok (sG adK adV) V) (hx : 0 ≤ gs x ∧ gs x < gs n) : MetV (sG adK adV) V l yJ0_checkIndex_df160 cJ0_checkIndex_df160 2 none 1 22 [.int (gI x), .int (gI n)] M M :=
  g_metV hok cal_J0_checkIndex_df160.2.2.2 rfl (Nat.le_of_ble_eq_true rfl) (@fun p e R s m args below meth c Q ls C hR hp hl => b_J0_checkIndex C hR hx hp hl)
set_option maxHeartbeats 4000000 in
theorem b_J1_charAt (C : g_CX (sG adK adV) V p R s m args meth c cJ1_charAt_3b067 2 (some .char) RJ1 2 43) (hi : i < 2) {k : Nat} (hk : k < x_sl i) (hR : g_RetI (sG adK adV) V p l e R s m args below meth c Q cJ1_charAt_3b067 .char (x_sc i k) M) (hx : gs x = k) (hp : g_PT (sG adK adV) V M s H locs) (hl : lv_has ls 2 [(0, .ref (adV i)), (1, .int (gI x))]) : W p l e R s m args below meth c H locs 0 0 Q (F0 m 0 ls []) := by
  have E := sx_Ex C
  have T := C.2.2.2.2.1
  obtain ⟨⟨h1, h2, h3, h4, h5⟩, h6⟩ := s_b hi
  obtain ⟨k1, k2, k3, k4⟩ := h6 k hk
  have gsl : gs (x_sl i : Int) = x_sl i := gs_id (by omega) (by omega)
  refine lv_iload_n C.1 C.2.1 dJ1_charAt_3b067_0 rfl (lv_at hl 1 rfl) ?_
  refine lv_aload_n C.1 C.2.1 dJ1_charAt_3b067_1 rfl (lv_at hl 0 rfl) ?_
  refine va_tlen C.1 C.2.1 (E.1.1 i hi).2.2.2 hp.2 h1 dJ1_charAt_3b067_2 ?_
  refine r_callSV (As := [.int (gI x), .int (gI (x_sl i : Int))]) (rest := []) C hl.1 hp (c_J0_checkIndex l (s_ok C) (by rw [hx, gsl]; omega)) sw_552 sw_553 cal_J0_checkIndex_df160 rfl rfl (Nat.le_of_ble_eq_true rfl) ⟨Nat.le_of_ble_eq_true rfl, Nat.le_of_ble_eq_true rfl⟩ dJ1_charAt_3b067_3 (fun H locs hp => ?_)
  refine lv_aload_n C.1 C.2.1 dJ1_charAt_3b067_6 rfl (lv_at hl 0 rfl) ?_
  refine lv_iload_n C.1 C.2.1 dJ1_charAt_3b067_7 rfl (lv_at hl 1 rfl) ?_
  have en : (gI x).toNatClampNeg = k := by
    show (gs x).toNat = k
    rw [hx]; omega
  have ev : (Value.int ((x_byt.getD i []).getD (gI x).toNatClampNeg 0)) = .int (gI (x_sc i k)) := by
    rw [en]
    show _ = Value.int (gI ((x_byt.getD i []).getD k 0).toInt)
    rw [gI_of]
  refine va_tb C.1 C.2.1 (E.1.1 i hi).2.2.2 hp.2 (g_in (x := x) (n := x_sl i) ⟨by rw [hx]; omega, by rw [hx]; omega⟩) ev dJ1_charAt_3b067_8 ?_
  refine r_sipush C dJ1_charAt_3b067_9 (by decide +kernel) ?_
  refine r_iand C dJ1_charAt_3b067_12 ?_
  refine r_i2c C dJ1_charAt_3b067_13 ?_
  rw [k1]
  exact hR _ _ _ _ dJ1_charAt_3b067_14 (s_nar k2) hp
theorem c_J1_charAt (l : Launch) (hok : g_ok (sG adK adV) V) (hi : i < 2) {k : Nat} (hk : k < x_sl i) (hx : gs x = k) : MetI (sG adK adV) V l yJ1_charAt_3b067 cJ1_charAt_3b067 2 (some .char) 2 43 [.ref (adV i), .int (gI x)] M (x_sc i k) M :=
  g_metI hok cal_J1_charAt_3b067.2.2.2 rfl (Nat.le_of_ble_eq_true rfl) (@fun p e R s m args below meth c Q ls C hR hp hl => b_J1_charAt C hi hk hR hx hp hl)
set_option maxHeartbeats 4000000 in
theorem b_J0_charAt (C : g_CX (sG adK adV) V p R s m args meth c cJ0_charAt_5068e 2 (some .char) RJ0 3 64) (hi : i < 2) {k : Nat} (hk : k < x_sl i) (hR : g_RetI (sG adK adV) V p l e R s m args below meth c Q cJ0_charAt_5068e .char (x_sc i k) M) (hx : gs x = k) (hp : g_PT (sG adK adV) V M s H locs) (hl : lv_has ls 2 [(0, .ref (adK i)), (1, .int (gI x))]) : W p l e R s m args below meth c H locs 0 0 Q (F0 m 0 ls []) := by
  have E := sx_Ex C
  have T := C.2.2.2.2.1
  obtain ⟨⟨h1, h2, h3, h4, h5⟩, h6⟩ := s_b hi
  obtain ⟨k1, k2, k3, k4⟩ := h6 k hk
  refine lv_aload_n C.1 C.2.1 dJ0_charAt_5068e_0 rfl (lv_at hl 0 rfl) ?_
  refine r_callKI (As := []) (rest := []) C hl.1 hp hi rfl (c_J0_isLatin1 l (s_ok C) hi) sw_545 sw_546 sw_547 cal_J0_isLatin1_aae02 rfl rfl (Nat.le_of_ble_eq_true rfl) ⟨Nat.le_of_ble_eq_true rfl, Nat.le_of_ble_eq_true rfl⟩ dJ0_charAt_5068e_1 (fun H locs hp => ?_)
  refine lv_if_eq C.1 C.2.1 (tgt := 16) dJ0_charAt_5068e_4 (by decide) (fun h => absurd h (by decide)) (fun _ => ?_)
  refine lv_aload_n C.1 C.2.1 dJ0_charAt_5068e_7 rfl (lv_at hl 0 rfl) ?_
  refine vk_getf C.1 C.2.1 (E.1.1 i hi).2.2.1 hp.2 C.2.2.2.1 (T _ sw_1908) (fun _ h => h) dJ0_charAt_5068e_8 ?_
  refine lv_iload_n C.1 C.2.1 dJ0_charAt_5068e_11 rfl (lv_at hl 1 rfl) ?_
  refine r_callSI (As := [.ref (adV i), .int (gI x)]) (rest := []) C hl.1 hp (c_J1_charAt l (s_ok C) hi hk hx) sw_549 sw_550 cal_J1_charAt_3b067 rfl rfl (Nat.le_of_ble_eq_true rfl) ⟨Nat.le_of_ble_eq_true rfl, Nat.le_of_ble_eq_true rfl⟩ dJ0_charAt_5068e_12 (fun H locs hp => ?_)
  exact hR _ _ _ _ dJ0_charAt_5068e_15 (s_nar k2) hp
theorem c_J0_charAt (l : Launch) (hok : g_ok (sG adK adV) V) (hi : i < 2) {k : Nat} (hk : k < x_sl i) (hx : gs x = k) : MetI (sG adK adV) V l yJ0_charAt_5068e cJ0_charAt_5068e 2 (some .char) 3 64 [.ref (adK i), .int (gI x)] M (x_sc i k) M :=
  g_metI hok cal_J0_charAt_5068e.2.2.2 rfl (Nat.le_of_ble_eq_true rfl) (@fun p e R s m args below meth c Q ls C hR hp hl => b_J0_charAt C hi hk hR hx hp hl)
def cE (x : Int) : Int := if 0 ≤ gs x ∧ gs x ≤ 255 then 1 else 0
set_option maxHeartbeats 4000000 in
theorem b_J1_canEncode (C : g_CX (sG adK adV) V p R s m args meth c cJ1_canEncode_9a6ad 1 (some .boolean) RJ1 0 0) (hR : g_RetI (sG adK adV) V p l e R s m args below meth c Q cJ1_canEncode_9a6ad .boolean (cE x) M) (hp : g_PT (sG adK adV) V M s H locs) (hl : lv_has ls 1 [(0, .int (gI x))]) : W p l e R s m args below meth c H locs 0 0 Q (F0 m 0 ls []) := by
  have g255 : gs 255 = 255 := gs_id (by omega) (by omega)
  have no : ¬ (0 ≤ gs x ∧ gs x ≤ 255) → W p l e R s m args below meth c H locs 0 0 Q (F0 m 15 ls []) := by
    intro h
    refine r_iconst C dJ1_canEncode_9a6ad_15 ?_
    have ce : cE x = 0 := if_neg h
    rw [ce] at hR
    exact hR _ _ _ _ dJ1_canEncode_9a6ad_16 g_nz0 hp
  refine lv_iload_n C.1 C.2.1 dJ1_canEncode_9a6ad_0 rfl (lv_at hl 0 rfl) ?_
  refine lv_if_lt C.1 C.2.1 (tgt := 15) dJ1_canEncode_9a6ad_1 (by decide) (fun h => ?_) (fun h => ?_)
  · rw [← gI_0, gI_lt, gs_0] at h
    exact no (by omega)
  · rw [← gI_0, gI_lt, gs_0] at h
    refine lv_iload_n C.1 C.2.1 dJ1_canEncode_9a6ad_4 rfl (lv_at hl 0 rfl) ?_
    refine r_sipush C dJ1_canEncode_9a6ad_5 (by decide +kernel) ?_
    refine lv_icmp_gt C.1 C.2.1 (tgt := 15) dJ1_canEncode_9a6ad_8 (by decide) (fun h2 => ?_) (fun h2 => ?_)
    · rw [gI_lt, g255] at h2
      exact no (by omega)
    · rw [gI_lt, g255] at h2
      refine r_iconst C dJ1_canEncode_9a6ad_11 ?_
      refine r_goto (tgt := 16) C dJ1_canEncode_9a6ad_12 (by decide) ?_
      have ce : cE x = 1 := if_pos (by omega)
      rw [ce] at hR
      exact hR _ _ _ _ dJ1_canEncode_9a6ad_16 g_nz1 hp
theorem c_J1_canEncode (l : Launch) (hok : g_ok (sG adK adV) V) : MetI (sG adK adV) V l yJ1_canEncode_9a6ad cJ1_canEncode_9a6ad 1 (some .boolean) 0 0 [.int (gI x)] M (cE x) M :=
  g_metI hok cal_J1_canEncode_9a6ad.2.2.2 rfl (Nat.le_of_ble_eq_true rfl) (@fun p e R s m args below meth c Q ls C hR hp hl => b_J1_canEncode C hR hp hl)
theorem s_eq8 {y : Int} {b : Int32} (hx : 0 ≤ gs y ∧ gs y ≤ 255) (hb : 0 ≤ b.toInt ∧ b.toInt ≤ 127) : b = (gI y).toInt8.toInt32 ↔ gs y = b.toInt := by
  obtain ⟨k, hk⟩ : ∃ k : Nat, gs y = k := ⟨(gs y).toNat, by omega⟩
  have a := all_of s_8t (show k < 256 by omega)
  rw [Bool.and_eq_true] at a
  have a1 := of_decide_eq_true a.1
  have a2 := of_decide_eq_true a.2
  have e : gI y = gI (k : Int) := by rw [← gI_gs, hk]
  rw [e, hk]
  refine ⟨fun h => ?_, fun h => ?_⟩
  · by_cases c : k < 128
    · rw [h, a1 c]
    · have := a2 (by omega)
      rw [← h] at this
      omega
  · apply Int32.toInt_inj.mp
    rw [a1 (by omega), h]
set_option maxHeartbeats 4000000 in
theorem b_J1_indexOfChar (C : g_CX (sG adK adV) V p R s m args meth c cJ1_indexOfChar_4cfef 6 (some .int) RJ1 0 0) (hi : i < 2) (hR : g_RetI (sG adK adV) V p l e R s m args below meth c Q cJ1_indexOfChar_4cfef .int (x_si i x) M) (hx : 0 ≤ gs x ∧ gs x ≤ 255) (hp : g_PT (sG adK adV) V M s H locs) (hl : lv_has ls 6 [(0, .ref (adV i)), (1, .int (gI x)), (2, .int (gI 0)), (3, .int (gI (x_sl i : Int)))]) : W p l e R s m args below meth c H locs 0 0 Q (F0 m 0 ls []) := by
  have E := sx_Ex C
  obtain ⟨⟨h1, h2, h3, h4, h5⟩, h6⟩ := s_b hi
  have gsl : gs (x_sl i : Int) = x_sl i := gs_id (by omega) (by omega)
  obtain ⟨B, hB⟩ : ∃ B, B = (gI x).toInt8.toInt32 := ⟨_, rfl⟩
  have loop : ∀ (d k : Nat) (ls : Array Slot), k + d = x_sl i → lv_has ls 6 [(5, .int (gI (k : Int))), (4, .int B), (0, .ref (adV i)), (1, .int (gI x)), (2, .int (gI 0)), (3, .int (gI (x_sl i : Int)))] → x_sif x ((x_byt.getD i []).drop k) k = x_si i x → W p l e R s m args below meth c H locs 0 0 Q (F0 m 7 ls []) := by
    intro d
    induction d with
    | zero =>
      intro k ls hk hl hs
      have gk : gs (k : Int) = k := gs_id (by omega) (by omega)
      refine lv_iload C.1 C.2.1 dJ1_indexOfChar_4cfef_7 (lv_at hl 0 rfl) ?_
      refine lv_iload_n C.1 C.2.1 dJ1_indexOfChar_4cfef_9 rfl (lv_at hl 5 rfl) ?_
      refine lv_icmp_ge C.1 C.2.1 (tgt := 31) dJ1_indexOfChar_4cfef_10 (by decide) (fun _ => ?_) (fun h => absurd ((gI_le _ _).mpr (by rw [gk, gsl]; omega)) h)
      refine r_iconst C dJ1_indexOfChar_4cfef_31 ?_
      rw [List.drop_eq_nil_of_le (by omega)] at hs
      have hs : (-1 : Int) = x_si i x := hs
      rw [← hs] at hR
      exact hR _ _ _ _ dJ1_indexOfChar_4cfef_32 rfl hp
    | succ d ih =>
      intro k ls hk hl hs
      have gk : gs (k : Int) = k := gs_id (by omega) (by omega)
      obtain ⟨k1, k2, k3, k4⟩ := h6 k (by omega)
      refine lv_iload C.1 C.2.1 dJ1_indexOfChar_4cfef_7 (lv_at hl 0 rfl) ?_
      refine lv_iload_n C.1 C.2.1 dJ1_indexOfChar_4cfef_9 rfl (lv_at hl 5 rfl) ?_
      refine lv_icmp_ge C.1 C.2.1 (tgt := 31) dJ1_indexOfChar_4cfef_10 (by decide) (fun h => absurd ((gI_le _ _).mp h) (by rw [gk, gsl]; omega)) (fun _ => ?_)
      refine lv_aload_n C.1 C.2.1 dJ1_indexOfChar_4cfef_13 rfl (lv_at hl 2 rfl) ?_
      refine lv_iload C.1 C.2.1 dJ1_indexOfChar_4cfef_14 (lv_at hl 0 rfl) ?_
      have en : (gI (k : Int)).toNatClampNeg = k := by
        show (gs (k : Int)).toNat = k
        rw [gk]; omega
      refine va_tb C.1 C.2.1 (E.1.1 i hi).2.2.2 hp.2 (g_in (x := (k : Int)) (n := x_sl i) ⟨by rw [gk]; omega, by rw [gk]; omega⟩) (v := .int ((x_byt.getD i []).getD k 0)) (by rw [en]) dJ1_indexOfChar_4cfef_16 ?_
      refine lv_iload C.1 C.2.1 dJ1_indexOfChar_4cfef_17 (lv_at hl 1 rfl) ?_
      rw [drop_getD _ k (by omega), x_sif] at hs
      have q := s_eq8 (b := (x_byt.getD i []).getD k 0) hx ⟨k3, k4⟩
      rw [← hB] at q
      refine lv_icmp_ne C.1 C.2.1 (tgt := 25) dJ1_indexOfChar_4cfef_19 (by decide) (fun h => ?_) (fun h => ?_)
      · rw [if_neg (fun z => h (q.2 z))] at hs
        refine lv_iinc (k := 0) (v := gI ((k + 1 : Nat) : Int)) C.1 C.2.1 dJ1_indexOfChar_4cfef_25 hl rfl (gI_add (k : Int) 1) (by decide) rfl (fun ls hl => ?_)
        refine r_goto (tgt := 7) C dJ1_indexOfChar_4cfef_28 (by decide) ?_
        exact ih (k + 1) ls (by omega) hl hs
      · rw [if_pos (q.1 h)] at hs
        refine lv_iload C.1 C.2.1 dJ1_indexOfChar_4cfef_22 (lv_at hl 0 rfl) ?_
        rw [← hs] at hR
        exact hR _ _ _ _ dJ1_indexOfChar_4cfef_24 rfl hp
  refine lv_iload_n C.1 C.2.1 dJ1_indexOfChar_4cfef_0 rfl (lv_at hl 1 rfl) ?_
  refine lv_i2b C.1 C.2.1 dJ1_indexOfChar_4cfef_1 hB.symm ?_
  refine lv_istore C.1 C.2.1 dJ1_indexOfChar_4cfef_2 hl (by decide) rfl (fun ls hl => ?_)
  refine lv_iload_n C.1 C.2.1 dJ1_indexOfChar_4cfef_4 rfl (lv_at hl 3 rfl) ?_
  refine lv_istore C.1 C.2.1 dJ1_indexOfChar_4cfef_5 hl (by decide) rfl (fun ls hl => ?_)
  exact loop (x_sl i) 0 ls (by omega) hl rfl
theorem c_J1_indexOfChar (l : Launch) (hok : g_ok (sG adK adV) V) (hi : i < 2) (hx : 0 ≤ gs x ∧ gs x ≤ 255) : MetI (sG adK adV) V l yJ1_indexOfChar_4cfef cJ1_indexOfChar_4cfef 6 (some .int) 0 0 [.ref (adV i), .int (gI x), .int (gI 0), .int (gI (x_sl i : Int))] M (x_si i x) M :=
  g_metI hok cal_J1_indexOfChar_4cfef.2.2.2 rfl (Nat.le_of_ble_eq_true rfl) (@fun p e R s m args below meth c Q ls C hR hp hl => b_J1_indexOfChar C hi hR hx hp hl)
theorem s_max : g_max 0 0 = 0 := by
  unfold g_max
  split <;> rfl
theorem s_min (y : Int) : g_min y y = y := by
  unfold g_min
  split <;> rfl
set_option maxHeartbeats 4000000 in
theorem b_J1_indexOf (C : g_CX (sG adK adV) V p R s m args meth c cJ1_indexOf_4cfef 4 (some .int) RJ1 1 40) (hi : i < 2) (hR : g_RetI (sG adK adV) V p l e R s m args below meth c Q cJ1_indexOf_4cfef .int (x_si i x) M) (hp : g_PT (sG adK adV) V M s H locs) (hl : lv_has ls 4 [(0, .ref (adV i)), (1, .int (gI x)), (2, .int (gI 0)), (3, .int (gI (x_sl i : Int)))]) : W p l e R s m args below meth c H locs 0 0 Q (F0 m 0 ls []) := by
  have E := sx_Ex C
  obtain ⟨⟨h1, h2, h3, h4, h5⟩, h6⟩ := s_b hi
  have gsl : gs (x_sl i : Int) = x_sl i := gs_id (by omega) (by omega)
  refine lv_iload_n C.1 C.2.1 dJ1_indexOf_4cfef_0 rfl (lv_at hl 1 rfl) ?_
  refine r_callSI (As := [.int (gI x)]) (rest := []) C hl.1 hp (c_J1_canEncode l (s_ok C)) sw_606 sw_607 cal_J1_canEncode_9a6ad rfl rfl (Nat.le_of_ble_eq_true rfl) ⟨Nat.le_of_ble_eq_true rfl, Nat.le_of_ble_eq_true rfl⟩ dJ1_indexOf_4cfef_1 (fun H locs hp => ?_)
  by_cases hx : 0 ≤ gs x ∧ gs x ≤ 255
  · have ce : cE x = 1 := if_pos hx
    rw [ce]
    refine lv_if_ne C.1 C.2.1 (tgt := 9) dJ1_indexOf_4cfef_4 (by decide) (fun _ => ?_) (fun h => absurd h (by decide))
    refine lv_iload_n C.1 C.2.1 dJ1_indexOf_4cfef_9 rfl (lv_at hl 2 rfl) ?_
    refine r_iconst C dJ1_indexOf_4cfef_10 ?_
    refine r_mmax C hl.1 sw_609 sw_610 sw_126 sw_611 (Nat.le_of_ble_eq_true rfl) (Nat.le_of_ble_eq_true rfl) dJ1_indexOf_4cfef_11 ?_
    rw [s_max]
    refine lv_istore_n C.1 C.2.1 dJ1_indexOf_4cfef_14 rfl hl (by decide) rfl (fun ls hl => ?_)
    refine lv_iload_n C.1 C.2.1 dJ1_indexOf_4cfef_15 rfl (lv_at hl 3 rfl) ?_
    refine lv_aload_n C.1 C.2.1 dJ1_indexOf_4cfef_16 rfl (lv_at hl 1 rfl) ?_
    refine va_tlen C.1 C.2.1 (E.1.1 i hi).2.2.2 hp.2 h1 dJ1_indexOf_4cfef_17 ?_
    refine r_mmin C hl.1 sw_612 sw_587 sw_126 sw_588 (Nat.le_of_ble_eq_true rfl) (Nat.le_of_ble_eq_true rfl) dJ1_indexOf_4cfef_18 ?_
    rw [s_min]
    refine lv_istore_n C.1 C.2.1 dJ1_indexOf_4cfef_21 rfl hl (by decide) rfl (fun ls hl => ?_)
    refine lv_iload_n C.1 C.2.1 dJ1_indexOf_4cfef_22 rfl (lv_at hl 1 rfl) ?_
    refine lv_iload_n C.1 C.2.1 dJ1_indexOf_4cfef_23 rfl (lv_at hl 0 rfl) ?_
    refine lv_icmp_lt C.1 C.2.1 (tgt := 29) dJ1_indexOf_4cfef_24 (by decide) (fun _ => ?_) (fun h => absurd ((gI_lt _ _).mpr (by rw [gs_0, gsl]; omega)) h)
    refine lv_aload_n C.1 C.2.1 dJ1_indexOf_4cfef_29 rfl (lv_at hl 2 rfl) ?_
    refine lv_iload_n C.1 C.2.1 dJ1_indexOf_4cfef_30 rfl (lv_at hl 3 rfl) ?_
    refine lv_iload_n C.1 C.2.1 dJ1_indexOf_4cfef_31 rfl (lv_at hl 1 rfl) ?_
    refine lv_iload_n C.1 C.2.1 dJ1_indexOf_4cfef_32 rfl (lv_at hl 0 rfl) ?_
    refine r_callSI (As := [.ref (adV i), .int (gI x), .int (gI 0), .int (gI (x_sl i : Int))]) (rest := []) C hl.1 hp (c_J1_indexOfChar l (s_ok C) hi hx) sw_613 sw_614 cal_J1_indexOfChar_4cfef rfl rfl (Nat.le_of_ble_eq_true rfl) ⟨Nat.le_of_ble_eq_true rfl, Nat.le_of_ble_eq_true rfl⟩ dJ1_indexOf_4cfef_33 (fun H locs hp => ?_)
    exact hR _ _ _ _ dJ1_indexOf_4cfef_36 rfl hp
  · have ce : cE x = 0 := if_neg hx
    rw [ce]
    refine lv_if_ne C.1 C.2.1 (tgt := 9) dJ1_indexOf_4cfef_4 (by decide) (fun h => absurd rfl h) (fun _ => ?_)
    refine r_iconst C dJ1_indexOf_4cfef_7 ?_
    have es : x_si i x = -1 := s_out hx _ 0 (s_mem hi)
    rw [es] at hR
    exact hR _ _ _ _ dJ1_indexOf_4cfef_8 rfl hp
theorem c_J1_indexOf (l : Launch) (hok : g_ok (sG adK adV) V) (hi : i < 2) : MetI (sG adK adV) V l yJ1_indexOf_4cfef cJ1_indexOf_4cfef 4 (some .int) 1 40 [.ref (adV i), .int (gI x), .int (gI 0), .int (gI (x_sl i : Int))] M (x_si i x) M :=
  g_metI hok cal_J1_indexOf_4cfef.2.2.2 rfl (Nat.le_of_ble_eq_true rfl) (@fun p e R s m args below meth c Q ls C hR hp hl => b_J1_indexOf C hi hR hp hl)
set_option maxHeartbeats 4000000 in
theorem b_J0_indexOf2 (C : g_CX (sG adK adV) V p R s m args meth c cJ0_indexOf_7cf53 3 (some .int) RJ0 2 70) (hi : i < 2) (hR : g_RetI (sG adK adV) V p l e R s m args below meth c Q cJ0_indexOf_7cf53 .int (x_si i x) M) (hp : g_PT (sG adK adV) V M s H locs) (hl : lv_has ls 3 [(0, .ref (adK i)), (1, .int (gI x)), (2, .int (gI 0))]) : W p l e R s m args below meth c H locs 0 0 Q (F0 m 0 ls []) := by
  have E := sx_Ex C
  have T := C.2.2.2.2.1
  refine lv_aload_n C.1 C.2.1 dJ0_indexOf_7cf53_0 rfl (lv_at hl 0 rfl) ?_
  refine r_callKI (As := []) (rest := []) C hl.1 hp hi rfl (c_J0_isLatin1 l (s_ok C) hi) sw_545 sw_546 sw_547 cal_J0_isLatin1_aae02 rfl rfl (Nat.le_of_ble_eq_true rfl) ⟨Nat.le_of_ble_eq_true rfl, Nat.le_of_ble_eq_true rfl⟩ dJ0_indexOf_7cf53_1 (fun H locs hp => ?_)
  refine lv_if_eq C.1 C.2.1 (tgt := 23) dJ0_indexOf_7cf53_4 (by decide) (fun h => absurd h (by decide)) (fun _ => ?_)
  refine lv_aload_n C.1 C.2.1 dJ0_indexOf_7cf53_7 rfl (lv_at hl 0 rfl) ?_
  refine vk_getf C.1 C.2.1 (E.1.1 i hi).2.2.1 hp.2 C.2.2.2.1 (T _ sw_1908) (fun _ h => h) dJ0_indexOf_7cf53_8 ?_
  refine lv_iload_n C.1 C.2.1 dJ0_indexOf_7cf53_11 rfl (lv_at hl 1 rfl) ?_
  refine lv_iload_n C.1 C.2.1 dJ0_indexOf_7cf53_12 rfl (lv_at hl 2 rfl) ?_
  refine lv_aload_n C.1 C.2.1 dJ0_indexOf_7cf53_13 rfl (lv_at hl 0 rfl) ?_
  refine r_callKI (As := []) (rest := [.int (gI 0), .int (gI x), .ref (adV i)]) C hl.1 hp hi rfl (c_J0_length l (s_ok C) hi) sw_602 sw_532 sw_533 cal_J0_length_8abf5 rfl rfl (Nat.le_of_ble_eq_true rfl) ⟨Nat.le_of_ble_eq_true rfl, Nat.le_of_ble_eq_true rfl⟩ dJ0_indexOf_7cf53_14 (fun H locs hp => ?_)
  refine r_callSI (As := [.ref (adV i), .int (gI x), .int (gI 0), .int (gI (x_sl i : Int))]) (rest := []) C hl.1 hp (c_J1_indexOf l (s_ok C) hi) sw_603 sw_604 cal_J1_indexOf_4cfef rfl rfl (Nat.le_of_ble_eq_true rfl) ⟨Nat.le_of_ble_eq_true rfl, Nat.le_of_ble_eq_true rfl⟩ dJ0_indexOf_7cf53_17 (fun H locs hp => ?_)
  refine r_goto (tgt := 36) C dJ0_indexOf_7cf53_20 (by decide) ?_
  exact hR _ _ _ _ dJ0_indexOf_7cf53_36 rfl hp
theorem c_J0_indexOf2 (l : Launch) (hok : g_ok (sG adK adV) V) (hi : i < 2) : MetI (sG adK adV) V l yJ0_indexOf_7cf53 cJ0_indexOf_7cf53 3 (some .int) 2 70 [.ref (adK i), .int (gI x), .int (gI 0)] M (x_si i x) M :=
  g_metI hok cal_J0_indexOf_7cf53.2.2.2 rfl (Nat.le_of_ble_eq_true rfl) (@fun p e R s m args below meth c Q ls C hR hp hl => b_J0_indexOf2 C hi hR hp hl)
set_option maxHeartbeats 4000000 in
theorem b_J0_indexOf (C : g_CX (sG adK adV) V p R s m args meth c cJ0_indexOf_0f7a4 2 (some .int) RJ0 3 100) (hi : i < 2) (hR : g_RetI (sG adK adV) V p l e R s m args below meth c Q cJ0_indexOf_0f7a4 .int (x_si i x) M) (hp : g_PT (sG adK adV) V M s H locs) (hl : lv_has ls 2 [(0, .ref (adK i)), (1, .int (gI x))]) : W p l e R s m args below meth c H locs 0 0 Q (F0 m 0 ls []) := by
  refine lv_aload_n C.1 C.2.1 dJ0_indexOf_0f7a4_0 rfl (lv_at hl 0 rfl) ?_
  refine lv_iload_n C.1 C.2.1 dJ0_indexOf_0f7a4_1 rfl (lv_at hl 1 rfl) ?_
  refine r_iconst C dJ0_indexOf_0f7a4_2 ?_
  refine r_callKI (As := [.int (gI x), .int (gI 0)]) (rest := []) C hl.1 hp hi rfl (c_J0_indexOf2 l (s_ok C) hi) sw_598 sw_599 sw_600 cal_J0_indexOf_7cf53 rfl rfl (Nat.le_of_ble_eq_true rfl) ⟨Nat.le_of_ble_eq_true rfl, Nat.le_of_ble_eq_true rfl⟩ dJ0_indexOf_0f7a4_3 (fun H locs hp => ?_)
  exact hR _ _ _ _ dJ0_indexOf_0f7a4_6 rfl hp
theorem c_J0_indexOf (l : Launch) (hok : g_ok (sG adK adV) V) (hi : i < 2) : MetI (sG adK adV) V l yJ0_indexOf_0f7a4 cJ0_indexOf_0f7a4 2 (some .int) 3 100 [.ref (adK i), .int (gI x)] M (x_si i x) M :=
  g_metI hok cal_J0_indexOf_0f7a4.2.2.2 rfl (Nat.le_of_ble_eq_true rfl) (@fun p e R s m args below meth c Q ls C hR hp hl => b_J0_indexOf C hi hR hp hl)
end
section
variable {p : Program} {l : Launch} {e : Env} {R : Room} {s : State} {m : MethodId} {args : Array Value} {below : List Frame} {meth : Method} {c : Code} {Q : State → Prop} {V : g_V} {cc : ByteArray} {nL : Nat} {ret : Option FieldType} {nf nl : Nat}
variable {pc : Nat} {ls : Array Slot} {rest : List Value} {H : Heap} {locs : List Loc} {M : g_M} {α : Type} {res : α}
theorem x_str0 (C : g_CX xG V p R s m args meth c cc nL ret RX4 nf nl) (hp : g_PT xG V M s H locs) (hdg : decode cc pc = .ok (.ldc 67, 2)) : ∃ kS : Nat, x_isS V 0 kS s ∧ (W p l e R s m args below meth c H locs 0 0 Q (F0 m (pc + 2) ls (.ref kS :: rest)) → W p l e R s m args below meth c H locs 0 0 Q (F0 m pc ls rest)) := by
  obtain ⟨hx, hb, hml, hown, hts, -, -, hfr, hlo, hK, hE, hok⟩ := C
  obtain ⟨-, -, -, -, ⟨k5, v5, h5, h6, h7⟩, -⟩ := hE
  exact ⟨k5 0, ⟨k5, v5, h5, rfl⟩, fun k => va_ldcS hx hb hown h6 hdg k⟩
theorem x_str1 (C : g_CX xG V p R s m args meth c cc nL ret RX4 nf nl) (hp : g_PT xG V M s H locs) (hdg : decode cc pc = .ok (.ldc 87, 2)) : ∃ kS : Nat, x_isS V 1 kS s ∧ (W p l e R s m args below meth c H locs 0 0 Q (F0 m (pc + 2) ls (.ref kS :: rest)) → W p l e R s m args below meth c H locs 0 0 Q (F0 m pc ls rest)) := by
  obtain ⟨hx, hb, hml, hown, hts, -, -, hfr, hlo, hK, hE, hok⟩ := C
  obtain ⟨-, -, -, -, ⟨k5, v5, h5, h6, h7⟩, -⟩ := hE
  exact ⟨k5 1, ⟨k5, v5, h5, rfl⟩, fun k => va_ldcS hx hb hown h7 hdg k⟩
theorem r_slength (C : g_CX xG V p R s m args meth c cc nL ret RX4 nf nl) (hsz : ls.size = nL) (hp : g_PT xG V M s H locs) {i kS idx : Nat} (hS : x_isS V i kS s) (hi : i < 2) (hw : Cond.methodLink RX4 idx ⟨"java/lang/String", "length", "()I"⟩ ∈ GT) (hcat : (rest.map fun v => v.category).sum ≤ 8) (hR : 8 ≤ nf ∧ 300 ≤ nl) (hdg : decode cc pc = .ok (.invokevirtual idx, 3)) (k : ∀ (H1 : Heap) (locs1 : List Loc), g_PT xG V M s H1 locs1 → W p l e R s m args below meth c H1 locs1 0 0 Q (F0 m (pc + 3) ls (.int (gI (x_sl i : Int)) :: rest))) : W p l e R s m args below meth c H locs 0 0 Q (F0 m pc ls (.ref kS :: rest)) := by
  obtain ⟨adK, adV, hv, rfl⟩ := hS
  have C1 := s_CX C hv
  exact r_callKI (adK := adK) (adV := adV) (i := i) (As := []) (rest := rest) C1 hsz hp hi rfl (c_J0_length l (s_ok C1) hi) hw sw_532 sw_533 cal_J0_length_8abf5 rfl rfl hcat ⟨by omega, by omega⟩ hdg (fun H1 locs1 h => k H1 locs1 h)
theorem r_scharAt (C : g_CX xG V p R s m args meth c cc nL ret RX4 nf nl) (hsz : ls.size = nL) (hp : g_PT xG V M s H locs) {i kS idx : Nat} {x : Int} {a : Option α} (h : g_gd (g_ix x (x_sl i)) a = some res) (hS : x_isS V i kS s) (hi : i < 2) (hw : Cond.methodLink RX4 idx ⟨"java/lang/String", "charAt", "(I)C"⟩ ∈ GT) (hcat : (rest.map fun v => v.category).sum ≤ 8) (hR : 8 ≤ nf ∧ 300 ≤ nl) (hdg : decode cc pc = .ok (.invokevirtual idx, 3)) (k : a = some res → ∀ (H1 : Heap) (locs1 : List Loc), g_PT xG V M s H1 locs1 → W p l e R s m args below meth c H1 locs1 0 0 Q (F0 m (pc + 3) ls (.int (gI (x_sc i (gs x).toNat)) :: rest))) : W p l e R s m args below meth c H locs 0 0 Q (F0 m pc ls (.int (gI x) :: .ref kS :: rest)) := by
  obtain ⟨adK, adV, hv, rfl⟩ := hS
  obtain ⟨hg, h⟩ := gd_of h
  have C1 := s_CX C hv
  exact r_callKI (adK := adK) (adV := adV) (i := i) (As := [.int (gI x)]) (rest := rest) C1 hsz hp hi rfl (c_J0_charAt l (s_ok C1) hi (k := (gs x).toNat) (by have := hg.1; have := hg.2; omega) (by have := hg.1; omega)) hw sw_542 sw_543 cal_J0_charAt_5068e rfl rfl hcat ⟨by omega, by omega⟩ hdg (fun H1 locs1 hp1 => k h H1 locs1 hp1)
theorem r_sindexOf (C : g_CX xG V p R s m args meth c cc nL ret RX4 nf nl) (hsz : ls.size = nL) (hp : g_PT xG V M s H locs) {i kS idx : Nat} {x : Int} (hS : x_isS V i kS s) (hi : i < 2) (hw : Cond.methodLink RX4 idx ⟨"java/lang/String", "indexOf", "(I)I"⟩ ∈ GT) (hcat : (rest.map fun v => v.category).sum ≤ 8) (hR : 8 ≤ nf ∧ 300 ≤ nl) (hdg : decode cc pc = .ok (.invokevirtual idx, 3)) (k : ∀ (H1 : Heap) (locs1 : List Loc), g_PT xG V M s H1 locs1 → W p l e R s m args below meth c H1 locs1 0 0 Q (F0 m (pc + 3) ls (.int (gI (x_si i x)) :: rest))) : W p l e R s m args below meth c H locs 0 0 Q (F0 m pc ls (.int (gI x) :: .ref kS :: rest)) := by
  obtain ⟨adK, adV, hv, rfl⟩ := hS
  have C1 := s_CX C hv
  exact r_callKI (adK := adK) (adV := adV) (i := i) (As := [.int (gI x)]) (rest := rest) C1 hsz hp hi rfl (c_J0_indexOf l (s_ok C1) hi) hw sw_595 sw_596 cal_J0_indexOf_0f7a4 rfl rfl hcat ⟨by omega, by omega⟩ hdg (fun H1 locs1 h => k H1 locs1 h)
end
