def jT5 (cI cZ cG cR cJ : ClassId) : List (ClassId × FieldType) := [(cI, .int), (cZ, .boolean), (cG, .array .int), (cR, .object "TextPipeline$Row"), (cJ, .long)]
theorem q427 : (Jvm.Cond.codeWith ({ cls := "TextPipelineLaw", name := "at", desc := "(LTextPipeline;I[J)I" } : Jvm.MethodName) method_7_code (4 : Nat) (Option.some Jvm.ClassFile.FieldType.int) [((0 : Nat), (9 : Nat), (12 : Nat), (32 : Nat))]) ∈ WS0 := ws0_t (i := 427) (by decide +kernel) (by decide +kernel)
abbrev yG_at : MethodName := ⟨"TextPipelineLaw", "at", "(LTextPipeline;I[J)I"⟩
abbrev cG_at : ByteArray := method_7_code
abbrev hG_at : List (Nat × Nat × Nat × Nat) := [(0, 9, 12, 32)]
abbrev wsG_at : List Cond := .codeWith yG_at cG_at 4 (some .int) hG_at :: WS0
theorem dG_at_0 : decode cG_at 0 = .ok (.aload_n 2, 1) := by decide +kernel
theorem dG_at_1 : decode cG_at 1 = .ok (.iconst 0, 1) := by decide +kernel
theorem dG_at_2 : decode cG_at 2 = .ok (.aload_n 0, 1) := by decide +kernel
theorem dG_at_3 : decode cG_at 3 = .ok (.iload_n 1, 1) := by decide +kernel
theorem dG_at_4 : decode cG_at 4 = .ok (.invokevirtual 29, 3) := by decide +kernel
theorem dG_at_7 : decode cG_at 7 = .ok (.i2l, 1) := by decide +kernel
theorem dG_at_8 : decode cG_at 8 = .ok (.lastore, 1) := by decide +kernel
theorem dG_at_9 : decode cG_at 9 = .ok (.goto 6, 3) := by decide +kernel
theorem dG_at_12 : decode cG_at 12 = .ok (.astore_n 3, 1) := by decide +kernel
theorem dG_at_13 : decode cG_at 13 = .ok (.iconst 1, 1) := by decide +kernel
theorem dG_at_14 : decode cG_at 14 = .ok (.ireturn, 1) := by decide +kernel
theorem dG_at_15 : decode cG_at 15 = .ok (.iconst 0, 1) := by decide +kernel
theorem dG_at_16 : decode cG_at 16 = .ok (.ireturn, 1) := by decide +kernel
theorem q401 : (Jvm.Cond.codeWith ({ cls := "TextPipelineLaw", name := "bring", desc := "(LTextPipeline;Z[J)I" } : Jvm.MethodName) method_6_code (4 : Nat) (Option.some Jvm.ClassFile.FieldType.int) [((0 : Nat), (9 : Nat), (12 : Nat), (19 : Nat))]) ∈ WS0 := ws0_t (i := 401) (by decide +kernel) (by decide +kernel)
abbrev yG_bring : MethodName := ⟨"TextPipelineLaw", "bring", "(LTextPipeline;Z[J)I"⟩
abbrev cG_bring : ByteArray := method_6_code
abbrev hG_bring : List (Nat × Nat × Nat × Nat) := [(0, 9, 12, 19)]
abbrev wsG_bring : List Cond := .codeWith yG_bring cG_bring 4 (some .int) hG_bring :: WS0
theorem dG_bring_0 : decode cG_bring 0 = .ok (.aload_n 2, 1) := by decide +kernel
theorem dG_bring_1 : decode cG_bring 1 = .ok (.iconst 0, 1) := by decide +kernel
theorem dG_bring_2 : decode cG_bring 2 = .ok (.aload_n 0, 1) := by decide +kernel
theorem dG_bring_3 : decode cG_bring 3 = .ok (.iload_n 1, 1) := by decide +kernel
theorem dG_bring_4 : decode cG_bring 4 = .ok (.invokevirtual 25, 3) := by decide +kernel
theorem dG_bring_7 : decode cG_bring 7 = .ok (.i2l, 1) := by decide +kernel
theorem dG_bring_8 : decode cG_bring 8 = .ok (.lastore, 1) := by decide +kernel
theorem dG_bring_9 : decode cG_bring 9 = .ok (.goto 6, 3) := by decide +kernel
theorem dG_bring_12 : decode cG_bring 12 = .ok (.astore_n 3, 1) := by decide +kernel
theorem dG_bring_13 : decode cG_bring 13 = .ok (.iconst 1, 1) := by decide +kernel
theorem dG_bring_14 : decode cG_bring 14 = .ok (.ireturn, 1) := by decide +kernel
theorem dG_bring_15 : decode cG_bring 15 = .ok (.iconst 0, 1) := by decide +kernel
theorem dG_bring_16 : decode cG_bring 16 = .ok (.ireturn, 1) := by decide +kernel
theorem q456 : (Jvm.Cond.codeWith ({ cls := "TextPipelineLaw", name := "cluster", desc := "(LTextPipeline;I[J)I" } : Jvm.MethodName) method_8_code (4 : Nat) (Option.some Jvm.ClassFile.FieldType.int) [((0 : Nat), (16 : Nat), (19 : Nat), (32 : Nat))]) ∈ WS0 := ws0_t (i := 456) (by decide +kernel) (by decide +kernel)
abbrev yG_cluster : MethodName := ⟨"TextPipelineLaw", "cluster", "(LTextPipeline;I[J)I"⟩
abbrev cG_cluster : ByteArray := method_8_code
abbrev hG_cluster : List (Nat × Nat × Nat × Nat) := [(0, 16, 19, 32)]
abbrev wsG_cluster : List Cond := .codeWith yG_cluster cG_cluster 4 (some .int) hG_cluster :: WS0
theorem dG_cluster_0 : decode cG_cluster 0 = .ok (.aload_n 2, 1) := by decide +kernel
theorem dG_cluster_1 : decode cG_cluster 1 = .ok (.iconst 0, 1) := by decide +kernel
theorem dG_cluster_2 : decode cG_cluster 2 = .ok (.aload_n 0, 1) := by decide +kernel
theorem dG_cluster_3 : decode cG_cluster 3 = .ok (.iload_n 1, 1) := by decide +kernel
theorem dG_cluster_4 : decode cG_cluster 4 = .ok (.invokevirtual 34, 3) := by decide +kernel
theorem dG_cluster_7 : decode cG_cluster 7 = .ok (.ifCond .eq 7, 3) := by decide +kernel
theorem dG_cluster_10 : decode cG_cluster 10 = .ok (.lconst 1, 1) := by decide +kernel
theorem dG_cluster_11 : decode cG_cluster 11 = .ok (.goto 4, 3) := by decide +kernel
theorem dG_cluster_14 : decode cG_cluster 14 = .ok (.lconst 0, 1) := by decide +kernel
theorem dG_cluster_15 : decode cG_cluster 15 = .ok (.lastore, 1) := by decide +kernel
theorem dG_cluster_16 : decode cG_cluster 16 = .ok (.goto 6, 3) := by decide +kernel
theorem dG_cluster_19 : decode cG_cluster 19 = .ok (.astore_n 3, 1) := by decide +kernel
theorem dG_cluster_20 : decode cG_cluster 20 = .ok (.iconst 1, 1) := by decide +kernel
theorem dG_cluster_21 : decode cG_cluster 21 = .ok (.ireturn, 1) := by decide +kernel
theorem dG_cluster_22 : decode cG_cluster 22 = .ok (.iconst 0, 1) := by decide +kernel
theorem dG_cluster_23 : decode cG_cluster 23 = .ok (.ireturn, 1) := by decide +kernel
theorem q626 : (Jvm.Cond.codeWith ({ cls := "TextPipelineLaw", name := "compare", desc := "(LTextPipeline;I[J)I" } : Jvm.MethodName) method_14_code (4 : Nat) (Option.some Jvm.ClassFile.FieldType.int) [((0 : Nat), (9 : Nat), (12 : Nat), (32 : Nat))]) ∈ WS0 := ws0_t (i := 626) (by decide +kernel) (by decide +kernel)
abbrev yG_compare : MethodName := ⟨"TextPipelineLaw", "compare", "(LTextPipeline;I[J)I"⟩
abbrev cG_compare : ByteArray := method_14_code
abbrev hG_compare : List (Nat × Nat × Nat × Nat) := [(0, 9, 12, 32)]
abbrev wsG_compare : List Cond := .codeWith yG_compare cG_compare 4 (some .int) hG_compare :: WS0
theorem dG_compare_0 : decode cG_compare 0 = .ok (.aload_n 2, 1) := by decide +kernel
theorem dG_compare_1 : decode cG_compare 1 = .ok (.iconst 0, 1) := by decide +kernel
theorem dG_compare_2 : decode cG_compare 2 = .ok (.aload_n 0, 1) := by decide +kernel
theorem dG_compare_3 : decode cG_compare 3 = .ok (.iload_n 1, 1) := by decide +kernel
theorem dG_compare_4 : decode cG_compare 4 = .ok (.invokevirtual 55, 3) := by decide +kernel
theorem dG_compare_7 : decode cG_compare 7 = .ok (.i2l, 1) := by decide +kernel
theorem dG_compare_8 : decode cG_compare 8 = .ok (.lastore, 1) := by decide +kernel
theorem dG_compare_9 : decode cG_compare 9 = .ok (.goto 6, 3) := by decide +kernel
theorem dG_compare_12 : decode cG_compare 12 = .ok (.astore_n 3, 1) := by decide +kernel
theorem dG_compare_13 : decode cG_compare 13 = .ok (.iconst 1, 1) := by decide +kernel
theorem dG_compare_14 : decode cG_compare 14 = .ok (.ireturn, 1) := by decide +kernel
theorem dG_compare_15 : decode cG_compare 15 = .ok (.iconst 0, 1) := by decide +kernel
theorem dG_compare_16 : decode cG_compare 16 = .ok (.ireturn, 1) := by decide +kernel
theorem q615 : (Jvm.Cond.codeWith ({ cls := "TextPipelineLaw", name := "keep", desc := "(LTextPipeline;I)I" } : Jvm.MethodName) method_13_code (3 : Nat) (Option.some Jvm.ClassFile.FieldType.int) [((0 : Nat), (5 : Nat), (8 : Nat), (32 : Nat))]) ∈ WS0 := ws0_t (i := 615) (by decide +kernel) (by decide +kernel)
abbrev yG_keep : MethodName := ⟨"TextPipelineLaw", "keep", "(LTextPipeline;I)I"⟩
abbrev cG_keep : ByteArray := method_13_code
abbrev hG_keep : List (Nat × Nat × Nat × Nat) := [(0, 5, 8, 32)]
abbrev wsG_keep : List Cond := .codeWith yG_keep cG_keep 3 (some .int) hG_keep :: WS0
theorem dG_keep_0 : decode cG_keep 0 = .ok (.aload_n 0, 1) := by decide +kernel
theorem dG_keep_1 : decode cG_keep 1 = .ok (.iload_n 1, 1) := by decide +kernel
theorem dG_keep_2 : decode cG_keep 2 = .ok (.invokevirtual 51, 3) := by decide +kernel
theorem dG_keep_5 : decode cG_keep 5 = .ok (.goto 6, 3) := by decide +kernel
theorem dG_keep_8 : decode cG_keep 8 = .ok (.astore_n 2, 1) := by decide +kernel
theorem dG_keep_9 : decode cG_keep 9 = .ok (.iconst 1, 1) := by decide +kernel
theorem dG_keep_10 : decode cG_keep 10 = .ok (.ireturn, 1) := by decide +kernel
theorem dG_keep_11 : decode cG_keep 11 = .ok (.iconst 0, 1) := by decide +kernel
theorem dG_keep_12 : decode cG_keep 12 = .ok (.ireturn, 1) := by decide +kernel
theorem q607 : (Jvm.Cond.codeWith ({ cls := "TextPipelineLaw", name := "keyAt", desc := "(LTextPipeline;I[J)I" } : Jvm.MethodName) method_12_code (4 : Nat) (Option.some Jvm.ClassFile.FieldType.int) [((0 : Nat), (9 : Nat), (12 : Nat), (32 : Nat))]) ∈ WS0 := ws0_t (i := 607) (by decide +kernel) (by decide +kernel)
abbrev yG_keyAt : MethodName := ⟨"TextPipelineLaw", "keyAt", "(LTextPipeline;I[J)I"⟩
abbrev cG_keyAt : ByteArray := method_12_code
abbrev hG_keyAt : List (Nat × Nat × Nat × Nat) := [(0, 9, 12, 32)]
abbrev wsG_keyAt : List Cond := .codeWith yG_keyAt cG_keyAt 4 (some .int) hG_keyAt :: WS0
theorem dG_keyAt_0 : decode cG_keyAt 0 = .ok (.aload_n 2, 1) := by decide +kernel
theorem dG_keyAt_1 : decode cG_keyAt 1 = .ok (.iconst 0, 1) := by decide +kernel
theorem dG_keyAt_2 : decode cG_keyAt 2 = .ok (.aload_n 0, 1) := by decide +kernel
theorem dG_keyAt_3 : decode cG_keyAt 3 = .ok (.iload_n 1, 1) := by decide +kernel
theorem dG_keyAt_4 : decode cG_keyAt 4 = .ok (.invokevirtual 48, 3) := by decide +kernel
theorem dG_keyAt_7 : decode cG_keyAt 7 = .ok (.i2l, 1) := by decide +kernel
theorem dG_keyAt_8 : decode cG_keyAt 8 = .ok (.lastore, 1) := by decide +kernel
theorem dG_keyAt_9 : decode cG_keyAt 9 = .ok (.goto 6, 3) := by decide +kernel
theorem dG_keyAt_12 : decode cG_keyAt 12 = .ok (.astore_n 3, 1) := by decide +kernel
theorem dG_keyAt_13 : decode cG_keyAt 13 = .ok (.iconst 1, 1) := by decide +kernel
theorem dG_keyAt_14 : decode cG_keyAt 14 = .ok (.ireturn, 1) := by decide +kernel
theorem dG_keyAt_15 : decode cG_keyAt 15 = .ok (.iconst 0, 1) := by decide +kernel
theorem dG_keyAt_16 : decode cG_keyAt 16 = .ok (.ireturn, 1) := by decide +kernel
theorem q508 : (Jvm.Cond.codeWith ({ cls := "TextPipelineLaw", name := "level", desc := "(LTextPipeline;II[J)I" } : Jvm.MethodName) method_10_code (5 : Nat) (Option.some Jvm.ClassFile.FieldType.int) [((0 : Nat), (10 : Nat), (13 : Nat), (32 : Nat))]) ∈ WS0 := ws0_t (i := 508) (by decide +kernel) (by decide +kernel)
abbrev yG_level : MethodName := ⟨"TextPipelineLaw", "level", "(LTextPipeline;II[J)I"⟩
abbrev cG_level : ByteArray := method_10_code
abbrev hG_level : List (Nat × Nat × Nat × Nat) := [(0, 10, 13, 32)]
abbrev wsG_level : List Cond := .codeWith yG_level cG_level 5 (some .int) hG_level :: WS0
theorem dG_level_0 : decode cG_level 0 = .ok (.aload_n 3, 1) := by decide +kernel
theorem dG_level_1 : decode cG_level 1 = .ok (.iconst 0, 1) := by decide +kernel
theorem dG_level_2 : decode cG_level 2 = .ok (.aload_n 0, 1) := by decide +kernel
theorem dG_level_3 : decode cG_level 3 = .ok (.iload_n 1, 1) := by decide +kernel
theorem dG_level_4 : decode cG_level 4 = .ok (.iload_n 2, 1) := by decide +kernel
theorem dG_level_5 : decode cG_level 5 = .ok (.invokevirtual 41, 3) := by decide +kernel
theorem dG_level_8 : decode cG_level 8 = .ok (.i2l, 1) := by decide +kernel
theorem dG_level_9 : decode cG_level 9 = .ok (.lastore, 1) := by decide +kernel
theorem dG_level_10 : decode cG_level 10 = .ok (.goto 7, 3) := by decide +kernel
theorem dG_level_13 : decode cG_level 13 = .ok (.astore 4, 2) := by decide +kernel
theorem dG_level_15 : decode cG_level 15 = .ok (.iconst 1, 1) := by decide +kernel
theorem dG_level_16 : decode cG_level 16 = .ok (.ireturn, 1) := by decide +kernel
theorem dG_level_17 : decode cG_level 17 = .ok (.iconst 0, 1) := by decide +kernel
theorem dG_level_18 : decode cG_level 18 = .ok (.ireturn, 1) := by decide +kernel
theorem q468 : (Jvm.Cond.codeWith ({ cls := "TextPipelineLaw", name := "line", desc := "(LTextPipeline;I[J)I" } : Jvm.MethodName) method_9_code (4 : Nat) (Option.some Jvm.ClassFile.FieldType.int) [((0 : Nat), (9 : Nat), (12 : Nat), (32 : Nat))]) ∈ WS0 := ws0_t (i := 468) (by decide +kernel) (by decide +kernel)
abbrev yG_line : MethodName := ⟨"TextPipelineLaw", "line", "(LTextPipeline;I[J)I"⟩
abbrev cG_line : ByteArray := method_9_code
abbrev hG_line : List (Nat × Nat × Nat × Nat) := [(0, 9, 12, 32)]
abbrev wsG_line : List Cond := .codeWith yG_line cG_line 4 (some .int) hG_line :: WS0
theorem dG_line_0 : decode cG_line 0 = .ok (.aload_n 2, 1) := by decide +kernel
theorem dG_line_1 : decode cG_line 1 = .ok (.iconst 0, 1) := by decide +kernel
theorem dG_line_2 : decode cG_line 2 = .ok (.aload_n 0, 1) := by decide +kernel
theorem dG_line_3 : decode cG_line 3 = .ok (.iload_n 1, 1) := by decide +kernel
theorem dG_line_4 : decode cG_line 4 = .ok (.invokevirtual 38, 3) := by decide +kernel
theorem dG_line_7 : decode cG_line 7 = .ok (.i2l, 1) := by decide +kernel
theorem dG_line_8 : decode cG_line 8 = .ok (.lastore, 1) := by decide +kernel
theorem dG_line_9 : decode cG_line 9 = .ok (.goto 6, 3) := by decide +kernel
theorem dG_line_12 : decode cG_line 12 = .ok (.astore_n 3, 1) := by decide +kernel
theorem dG_line_13 : decode cG_line 13 = .ok (.iconst 1, 1) := by decide +kernel
theorem dG_line_14 : decode cG_line 14 = .ok (.ireturn, 1) := by decide +kernel
theorem dG_line_15 : decode cG_line 15 = .ok (.iconst 0, 1) := by decide +kernel
theorem dG_line_16 : decode cG_line 16 = .ok (.ireturn, 1) := by decide +kernel
theorem q584 : (Jvm.Cond.codeWith ({ cls := "TextPipelineLaw", name := "order", desc := "(LTextPipeline;II[J)I" } : Jvm.MethodName) method_11_code (5 : Nat) (Option.some Jvm.ClassFile.FieldType.int) [((0 : Nat), (10 : Nat), (13 : Nat), (32 : Nat))]) ∈ WS0 := ws0_t (i := 584) (by decide +kernel) (by decide +kernel)
abbrev yG_order : MethodName := ⟨"TextPipelineLaw", "order", "(LTextPipeline;II[J)I"⟩
abbrev cG_order : ByteArray := method_11_code
abbrev hG_order : List (Nat × Nat × Nat × Nat) := [(0, 10, 13, 32)]
abbrev wsG_order : List Cond := .codeWith yG_order cG_order 5 (some .int) hG_order :: WS0
theorem dG_order_0 : decode cG_order 0 = .ok (.aload_n 3, 1) := by decide +kernel
theorem dG_order_1 : decode cG_order 1 = .ok (.iconst 0, 1) := by decide +kernel
theorem dG_order_2 : decode cG_order 2 = .ok (.aload_n 0, 1) := by decide +kernel
theorem dG_order_3 : decode cG_order 3 = .ok (.iload_n 1, 1) := by decide +kernel
theorem dG_order_4 : decode cG_order 4 = .ok (.iload_n 2, 1) := by decide +kernel
theorem dG_order_5 : decode cG_order 5 = .ok (.invokevirtual 45, 3) := by decide +kernel
theorem dG_order_8 : decode cG_order 8 = .ok (.i2l, 1) := by decide +kernel
theorem dG_order_9 : decode cG_order 9 = .ok (.lastore, 1) := by decide +kernel
theorem dG_order_10 : decode cG_order 10 = .ok (.goto 7, 3) := by decide +kernel
theorem dG_order_13 : decode cG_order 13 = .ok (.astore 4, 2) := by decide +kernel
theorem dG_order_15 : decode cG_order 15 = .ok (.iconst 1, 1) := by decide +kernel
theorem dG_order_16 : decode cG_order 16 = .ok (.ireturn, 1) := by decide +kernel
theorem dG_order_17 : decode cG_order 17 = .ok (.iconst 0, 1) := by decide +kernel
theorem dG_order_18 : decode cG_order 18 = .ok (.ireturn, 1) := by decide +kernel
theorem q354 : (Jvm.Cond.codeWith ({ cls := "TextPipelineLaw", name := "part", desc := "(LTextPipeline;IIIZ)I" } : Jvm.MethodName) method_4_code (6 : Nat) (Option.some Jvm.ClassFile.FieldType.int) [((0 : Nat), (9 : Nat), (12 : Nat), (13 : Nat)), ((0 : Nat), (9 : Nat), (16 : Nat), (19 : Nat))]) ∈ WS0 := ws0_t (i := 354) (by decide +kernel) (by decide +kernel)
abbrev yG_part : MethodName := ⟨"TextPipelineLaw", "part", "(LTextPipeline;IIIZ)I"⟩
abbrev cG_part : ByteArray := method_4_code
abbrev hG_part : List (Nat × Nat × Nat × Nat) := [(0, 9, 12, 13), (0, 9, 16, 19)]
abbrev wsG_part : List Cond := .codeWith yG_part cG_part 6 (some .int) hG_part :: WS0
theorem dG_part_0 : decode cG_part 0 = .ok (.aload_n 0, 1) := by decide +kernel
theorem dG_part_1 : decode cG_part 1 = .ok (.iload_n 1, 1) := by decide +kernel
theorem dG_part_2 : decode cG_part 2 = .ok (.iload_n 2, 1) := by decide +kernel
theorem dG_part_3 : decode cG_part 3 = .ok (.iload_n 3, 1) := by decide +kernel
theorem dG_part_4 : decode cG_part 4 = .ok (.iload 4, 2) := by decide +kernel
theorem dG_part_6 : decode cG_part 6 = .ok (.invokevirtual 15, 3) := by decide +kernel
theorem dG_part_9 : decode cG_part 9 = .ok (.goto 11, 3) := by decide +kernel
theorem dG_part_12 : decode cG_part 12 = .ok (.astore 5, 2) := by decide +kernel
theorem dG_part_14 : decode cG_part 14 = .ok (.iconst 1, 1) := by decide +kernel
theorem dG_part_15 : decode cG_part 15 = .ok (.ireturn, 1) := by decide +kernel
theorem dG_part_16 : decode cG_part 16 = .ok (.astore 5, 2) := by decide +kernel
theorem dG_part_18 : decode cG_part 18 = .ok (.iconst 2, 1) := by decide +kernel
theorem dG_part_19 : decode cG_part 19 = .ok (.ireturn, 1) := by decide +kernel
theorem dG_part_20 : decode cG_part 20 = .ok (.iconst 0, 1) := by decide +kernel
theorem dG_part_21 : decode cG_part 21 = .ok (.ireturn, 1) := by decide +kernel
theorem q640 : (Jvm.Cond.codeWith ({ cls := "TextPipelineLaw", name := "same", desc := "(LTextPipeline;I[J)I" } : Jvm.MethodName) method_15_code (4 : Nat) (Option.some Jvm.ClassFile.FieldType.int) [((0 : Nat), (16 : Nat), (19 : Nat), (32 : Nat))]) ∈ WS0 := ws0_t (i := 640) (by decide +kernel) (by decide +kernel)
abbrev yG_same : MethodName := ⟨"TextPipelineLaw", "same", "(LTextPipeline;I[J)I"⟩
abbrev cG_same : ByteArray := method_15_code
abbrev hG_same : List (Nat × Nat × Nat × Nat) := [(0, 16, 19, 32)]
abbrev wsG_same : List Cond := .codeWith yG_same cG_same 4 (some .int) hG_same :: WS0
theorem dG_same_0 : decode cG_same 0 = .ok (.aload_n 2, 1) := by decide +kernel
theorem dG_same_1 : decode cG_same 1 = .ok (.iconst 0, 1) := by decide +kernel
theorem dG_same_2 : decode cG_same 2 = .ok (.aload_n 0, 1) := by decide +kernel
theorem dG_same_3 : decode cG_same 3 = .ok (.iload_n 1, 1) := by decide +kernel
theorem dG_same_4 : decode cG_same 4 = .ok (.invokevirtual 58, 3) := by decide +kernel
theorem dG_same_7 : decode cG_same 7 = .ok (.ifCond .eq 7, 3) := by decide +kernel
theorem dG_same_10 : decode cG_same 10 = .ok (.lconst 1, 1) := by decide +kernel
theorem dG_same_11 : decode cG_same 11 = .ok (.goto 4, 3) := by decide +kernel
theorem dG_same_14 : decode cG_same 14 = .ok (.lconst 0, 1) := by decide +kernel
theorem dG_same_15 : decode cG_same 15 = .ok (.lastore, 1) := by decide +kernel
theorem dG_same_16 : decode cG_same 16 = .ok (.goto 6, 3) := by decide +kernel
theorem dG_same_19 : decode cG_same 19 = .ok (.astore_n 3, 1) := by decide +kernel
theorem dG_same_20 : decode cG_same 20 = .ok (.iconst 1, 1) := by decide +kernel
theorem dG_same_21 : decode cG_same 21 = .ok (.ireturn, 1) := by decide +kernel
theorem dG_same_22 : decode cG_same 22 = .ok (.iconst 0, 1) := by decide +kernel
theorem dG_same_23 : decode cG_same 23 = .ok (.ireturn, 1) := by decide +kernel
theorem q268 : (Jvm.Cond.codeWith ({ cls := "TextPipelineLaw", name := "set", desc := "(LTextPipeline;III)I" } : Jvm.MethodName) method_3_code (5 : Nat) (Option.some Jvm.ClassFile.FieldType.int) [((0 : Nat), (7 : Nat), (10 : Nat), (13 : Nat))]) ∈ WS0 := ws0_t (i := 268) (by decide +kernel) (by decide +kernel)
abbrev yG_set : MethodName := ⟨"TextPipelineLaw", "set", "(LTextPipeline;III)I"⟩
abbrev cG_set : ByteArray := method_3_code
abbrev hG_set : List (Nat × Nat × Nat × Nat) := [(0, 7, 10, 13)]
abbrev wsG_set : List Cond := .codeWith yG_set cG_set 5 (some .int) hG_set :: WS0
theorem dG_set_0 : decode cG_set 0 = .ok (.aload_n 0, 1) := by decide +kernel
theorem dG_set_1 : decode cG_set 1 = .ok (.iload_n 1, 1) := by decide +kernel
theorem dG_set_2 : decode cG_set 2 = .ok (.iload_n 2, 1) := by decide +kernel
theorem dG_set_3 : decode cG_set 3 = .ok (.iload_n 3, 1) := by decide +kernel
theorem dG_set_4 : decode cG_set 4 = .ok (.invokevirtual 7, 3) := by decide +kernel
theorem dG_set_7 : decode cG_set 7 = .ok (.goto 7, 3) := by decide +kernel
theorem dG_set_10 : decode cG_set 10 = .ok (.astore 4, 2) := by decide +kernel
theorem dG_set_12 : decode cG_set 12 = .ok (.iconst 1, 1) := by decide +kernel
theorem dG_set_13 : decode cG_set 13 = .ok (.ireturn, 1) := by decide +kernel
theorem dG_set_14 : decode cG_set 14 = .ok (.iconst 0, 1) := by decide +kernel
theorem dG_set_15 : decode cG_set 15 = .ok (.ireturn, 1) := by decide +kernel
theorem q391 : (Jvm.Cond.codeWith ({ cls := "TextPipelineLaw", name := "type", desc := "(LTextPipeline;I[J)I" } : Jvm.MethodName) method_5_code (4 : Nat) (Option.some Jvm.ClassFile.FieldType.int) [((0 : Nat), (9 : Nat), (12 : Nat), (13 : Nat)), ((0 : Nat), (9 : Nat), (15 : Nat), (19 : Nat))]) ∈ WS0 := ws0_t (i := 391) (by decide +kernel) (by decide +kernel)
abbrev yG_type : MethodName := ⟨"TextPipelineLaw", "type", "(LTextPipeline;I[J)I"⟩
abbrev cG_type : ByteArray := method_5_code
abbrev hG_type : List (Nat × Nat × Nat × Nat) := [(0, 9, 12, 13), (0, 9, 15, 19)]
abbrev wsG_type : List Cond := .codeWith yG_type cG_type 4 (some .int) hG_type :: WS0
theorem dG_type_0 : decode cG_type 0 = .ok (.aload_n 2, 1) := by decide +kernel
theorem dG_type_1 : decode cG_type 1 = .ok (.iconst 0, 1) := by decide +kernel
theorem dG_type_2 : decode cG_type 2 = .ok (.aload_n 0, 1) := by decide +kernel
theorem dG_type_3 : decode cG_type 3 = .ok (.iload_n 1, 1) := by decide +kernel
theorem dG_type_4 : decode cG_type 4 = .ok (.invokevirtual 21, 3) := by decide +kernel
theorem dG_type_7 : decode cG_type 7 = .ok (.i2l, 1) := by decide +kernel
theorem dG_type_8 : decode cG_type 8 = .ok (.lastore, 1) := by decide +kernel
theorem dG_type_9 : decode cG_type 9 = .ok (.goto 9, 3) := by decide +kernel
theorem dG_type_12 : decode cG_type 12 = .ok (.astore_n 3, 1) := by decide +kernel
theorem dG_type_13 : decode cG_type 13 = .ok (.iconst 1, 1) := by decide +kernel
theorem dG_type_14 : decode cG_type 14 = .ok (.ireturn, 1) := by decide +kernel
theorem dG_type_15 : decode cG_type 15 = .ok (.astore_n 3, 1) := by decide +kernel
theorem dG_type_16 : decode cG_type 16 = .ok (.iconst 2, 1) := by decide +kernel
theorem dG_type_17 : decode cG_type 17 = .ok (.ireturn, 1) := by decide +kernel
theorem dG_type_18 : decode cG_type 18 = .ok (.iconst 0, 1) := by decide +kernel
theorem dG_type_19 : decode cG_type 19 = .ok (.ireturn, 1) := by decide +kernel
