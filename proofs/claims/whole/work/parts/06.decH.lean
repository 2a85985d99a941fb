/-! ===== decode rows of StepHeap$Head ===== -/
theorem d_H_ofObject_0 : decode b_H_ofObject 0 = .ok (.iconst 1, 1) := by decide +kernel
theorem d_H_ofObject_1 : decode b_H_ofObject 1 = .ok (.iload_n 0, 1) := by decide +kernel
theorem d_H_ofObject_2 : decode b_H_ofObject 2 = .ok (.iconst 1, 1) := by decide +kernel
theorem d_H_ofObject_3 : decode b_H_ofObject 3 = .ok (.ishl, 1) := by decide +kernel
theorem d_H_ofObject_4 : decode b_H_ofObject 4 = .ok (.ior, 1) := by decide +kernel
theorem d_H_ofObject_5 : decode b_H_ofObject 5 = .ok (.iload_n 1, 1) := by decide +kernel
theorem d_H_ofObject_6 : decode b_H_ofObject 6 = .ok (.iconst 5, 1) := by decide +kernel
theorem d_H_ofObject_7 : decode b_H_ofObject 7 = .ok (.ishl, 1) := by decide +kernel
theorem d_H_ofObject_8 : decode b_H_ofObject 8 = .ok (.ior, 1) := by decide +kernel
theorem d_H_ofObject_9 : decode b_H_ofObject 9 = .ok (.ireturn, 1) := by decide +kernel
theorem d_H_ofNode_0 : decode b_H_ofNode 0 = .ok (.iload_n 0, 1) := by decide +kernel
theorem d_H_ofNode_1 : decode b_H_ofNode 1 = .ok (.ifCond .eq 12, 3) := by decide +kernel
theorem d_H_ofNode_4 : decode b_H_ofNode 4 = .ok (.bipush 15, 2) := by decide +kernel
theorem d_H_ofNode_6 : decode b_H_ofNode 6 = .ok (.iconst 0, 1) := by decide +kernel
theorem d_H_ofNode_7 : decode b_H_ofNode 7 = .ok (.invokestatic 11, 3) := by decide +kernel
theorem d_H_ofNode_10 : decode b_H_ofNode 10 = .ok (.goto 9, 3) := by decide +kernel
theorem d_H_ofNode_13 : decode b_H_ofNode 13 = .ok (.iconst 0, 1) := by decide +kernel
theorem d_H_ofNode_14 : decode b_H_ofNode 14 = .ok (.bipush 15, 2) := by decide +kernel
theorem d_H_ofNode_16 : decode b_H_ofNode 16 = .ok (.invokestatic 11, 3) := by decide +kernel
theorem d_H_ofNode_19 : decode b_H_ofNode 19 = .ok (.ireturn, 1) := by decide +kernel
theorem d_H_ofArray_0 : decode b_H_ofArray 0 = .ok (.iload_n 1, 1) := by decide +kernel
theorem d_H_ofArray_1 : decode b_H_ofArray 1 = .ok (.ifCond .ne 9, 3) := by decide +kernel
theorem d_H_ofArray_4 : decode b_H_ofArray 4 = .ok (.iload_n 0, 1) := by decide +kernel
theorem d_H_ofArray_5 : decode b_H_ofArray 5 = .ok (.bipush 15, 2) := by decide +kernel
theorem d_H_ofArray_7 : decode b_H_ofArray 7 = .ok (.if_icmp .le 7, 3) := by decide +kernel
theorem d_H_ofArray_10 : decode b_H_ofArray 10 = .ok (.iconst 1, 1) := by decide +kernel
theorem d_H_ofArray_11 : decode b_H_ofArray 11 = .ok (.goto 4, 3) := by decide +kernel
theorem d_H_ofArray_14 : decode b_H_ofArray 14 = .ok (.iconst 0, 1) := by decide +kernel
theorem d_H_ofArray_15 : decode b_H_ofArray 15 = .ok (.invokestatic 15, 3) := by decide +kernel
theorem d_H_ofArray_18 : decode b_H_ofArray 18 = .ok (.istore_n 2, 1) := by decide +kernel
theorem d_H_ofArray_19 : decode b_H_ofArray 19 = .ok (.iload_n 2, 1) := by decide +kernel
theorem d_H_ofArray_20 : decode b_H_ofArray 20 = .ok (.sipush 512, 3) := by decide +kernel
theorem d_H_ofArray_23 : decode b_H_ofArray 23 = .ok (.ior, 1) := by decide +kernel
theorem d_H_ofArray_24 : decode b_H_ofArray 24 = .ok (.iload_n 1, 1) := by decide +kernel
theorem d_H_ofArray_25 : decode b_H_ofArray 25 = .ok (.ifCond .eq 9, 3) := by decide +kernel
theorem d_H_ofArray_28 : decode b_H_ofArray 28 = .ok (.sipush 1024, 3) := by decide +kernel
theorem d_H_ofArray_31 : decode b_H_ofArray 31 = .ok (.goto 4, 3) := by decide +kernel
theorem d_H_ofArray_34 : decode b_H_ofArray 34 = .ok (.iconst 0, 1) := by decide +kernel
theorem d_H_ofArray_35 : decode b_H_ofArray 35 = .ok (.ior, 1) := by decide +kernel
theorem d_H_ofArray_36 : decode b_H_ofArray 36 = .ok (.iload_n 0, 1) := by decide +kernel
theorem d_H_ofArray_37 : decode b_H_ofArray 37 = .ok (.bipush 11, 2) := by decide +kernel
theorem d_H_ofArray_39 : decode b_H_ofArray 39 = .ok (.ishl, 1) := by decide +kernel
theorem d_H_ofArray_40 : decode b_H_ofArray 40 = .ok (.ior, 1) := by decide +kernel
theorem d_H_ofArray_41 : decode b_H_ofArray 41 = .ok (.ireturn, 1) := by decide +kernel
theorem d_H_traced_0 : decode b_H_traced 0 = .ok (.iload_n 0, 1) := by decide +kernel
theorem d_H_traced_1 : decode b_H_traced 1 = .ok (.iconst 1, 1) := by decide +kernel
theorem d_H_traced_2 : decode b_H_traced 2 = .ok (.ishr, 1) := by decide +kernel
theorem d_H_traced_3 : decode b_H_traced 3 = .ok (.bipush 15, 2) := by decide +kernel
theorem d_H_traced_5 : decode b_H_traced 5 = .ok (.iand, 1) := by decide +kernel
theorem d_H_traced_6 : decode b_H_traced 6 = .ok (.ireturn, 1) := by decide +kernel
theorem d_H_plain_0 : decode b_H_plain 0 = .ok (.iload_n 0, 1) := by decide +kernel
theorem d_H_plain_1 : decode b_H_plain 1 = .ok (.iconst 5, 1) := by decide +kernel
theorem d_H_plain_2 : decode b_H_plain 2 = .ok (.ishr, 1) := by decide +kernel
theorem d_H_plain_3 : decode b_H_plain 3 = .ok (.bipush 15, 2) := by decide +kernel
theorem d_H_plain_5 : decode b_H_plain 5 = .ok (.iand, 1) := by decide +kernel
theorem d_H_plain_6 : decode b_H_plain 6 = .ok (.ireturn, 1) := by decide +kernel
theorem d_H_cells_0 : decode b_H_cells 0 = .ok (.iconst 1, 1) := by decide +kernel
theorem d_H_cells_1 : decode b_H_cells 1 = .ok (.iload_n 0, 1) := by decide +kernel
theorem d_H_cells_2 : decode b_H_cells 2 = .ok (.invokestatic 19, 3) := by decide +kernel
theorem d_H_cells_5 : decode b_H_cells 5 = .ok (.iadd, 1) := by decide +kernel
theorem d_H_cells_6 : decode b_H_cells 6 = .ok (.iload_n 0, 1) := by decide +kernel
theorem d_H_cells_7 : decode b_H_cells 7 = .ok (.invokestatic 23, 3) := by decide +kernel
theorem d_H_cells_10 : decode b_H_cells 10 = .ok (.iadd, 1) := by decide +kernel
theorem d_H_cells_11 : decode b_H_cells 11 = .ok (.ireturn, 1) := by decide +kernel
theorem d_H_isArray_0 : decode b_H_isArray 0 = .ok (.iload_n 0, 1) := by decide +kernel
theorem d_H_isArray_1 : decode b_H_isArray 1 = .ok (.sipush 512, 3) := by decide +kernel
theorem d_H_isArray_4 : decode b_H_isArray 4 = .ok (.iand, 1) := by decide +kernel
theorem d_H_isArray_5 : decode b_H_isArray 5 = .ok (.ifCond .eq 7, 3) := by decide +kernel
theorem d_H_isArray_8 : decode b_H_isArray 8 = .ok (.iconst 1, 1) := by decide +kernel
theorem d_H_isArray_9 : decode b_H_isArray 9 = .ok (.goto 4, 3) := by decide +kernel
theorem d_H_isArray_12 : decode b_H_isArray 12 = .ok (.iconst 0, 1) := by decide +kernel
theorem d_H_isArray_13 : decode b_H_isArray 13 = .ok (.ireturn, 1) := by decide +kernel
theorem d_H_hasReferenceItems_0 : decode b_H_hasReferenceItems 0 = .ok (.iload_n 0, 1) := by decide +kernel
theorem d_H_hasReferenceItems_1 : decode b_H_hasReferenceItems 1 = .ok (.sipush 1024, 3) := by decide +kernel
theorem d_H_hasReferenceItems_4 : decode b_H_hasReferenceItems 4 = .ok (.iand, 1) := by decide +kernel
theorem d_H_hasReferenceItems_5 : decode b_H_hasReferenceItems 5 = .ok (.ifCond .eq 7, 3) := by decide +kernel
theorem d_H_hasReferenceItems_8 : decode b_H_hasReferenceItems 8 = .ok (.iconst 1, 1) := by decide +kernel
theorem d_H_hasReferenceItems_9 : decode b_H_hasReferenceItems 9 = .ok (.goto 4, 3) := by decide +kernel
theorem d_H_hasReferenceItems_12 : decode b_H_hasReferenceItems 12 = .ok (.iconst 0, 1) := by decide +kernel
theorem d_H_hasReferenceItems_13 : decode b_H_hasReferenceItems 13 = .ok (.ireturn, 1) := by decide +kernel
theorem d_H_references_0 : decode b_H_references 0 = .ok (.iload_n 0, 1) := by decide +kernel
theorem d_H_references_1 : decode b_H_references 1 = .ok (.invokestatic 26, 3) := by decide +kernel
theorem d_H_references_4 : decode b_H_references 4 = .ok (.ifCond .eq 7, 3) := by decide +kernel
theorem d_H_references_7 : decode b_H_references 7 = .ok (.iconst 0, 1) := by decide +kernel
theorem d_H_references_8 : decode b_H_references 8 = .ok (.goto 7, 3) := by decide +kernel
theorem d_H_references_11 : decode b_H_references 11 = .ok (.iload_n 0, 1) := by decide +kernel
theorem d_H_references_12 : decode b_H_references 12 = .ok (.invokestatic 19, 3) := by decide +kernel
theorem d_H_references_15 : decode b_H_references 15 = .ok (.ireturn, 1) := by decide +kernel
theorem d_H_ints_0 : decode b_H_ints 0 = .ok (.iload_n 0, 1) := by decide +kernel
theorem d_H_ints_1 : decode b_H_ints 1 = .ok (.invokestatic 26, 3) := by decide +kernel
theorem d_H_ints_4 : decode b_H_ints 4 = .ok (.ifCond .eq 7, 3) := by decide +kernel
theorem d_H_ints_7 : decode b_H_ints 7 = .ok (.iconst 0, 1) := by decide +kernel
theorem d_H_ints_8 : decode b_H_ints 8 = .ok (.goto 7, 3) := by decide +kernel
theorem d_H_ints_11 : decode b_H_ints 11 = .ok (.iload_n 0, 1) := by decide +kernel
theorem d_H_ints_12 : decode b_H_ints 12 = .ok (.invokestatic 23, 3) := by decide +kernel
theorem d_H_ints_15 : decode b_H_ints 15 = .ok (.ireturn, 1) := by decide +kernel
theorem d_H_length_0 : decode b_H_length 0 = .ok (.iload_n 0, 1) := by decide +kernel
theorem d_H_length_1 : decode b_H_length 1 = .ok (.bipush 11, 2) := by decide +kernel
theorem d_H_length_3 : decode b_H_length 3 = .ok (.ishr, 1) := by decide +kernel
theorem d_H_length_4 : decode b_H_length 4 = .ok (.ireturn, 1) := by decide +kernel
theorem d_H_items_0 : decode b_H_items 0 = .ok (.iload_n 0, 1) := by decide +kernel
theorem d_H_items_1 : decode b_H_items 1 = .ok (.invokestatic 26, 3) := by decide +kernel
theorem d_H_items_4 : decode b_H_items 4 = .ok (.ifCond .eq 18, 3) := by decide +kernel
theorem d_H_items_7 : decode b_H_items 7 = .ok (.iload_n 0, 1) := by decide +kernel
theorem d_H_items_8 : decode b_H_items 8 = .ok (.invokestatic 30, 3) := by decide +kernel
theorem d_H_items_11 : decode b_H_items 11 = .ok (.iload_n 1, 1) := by decide +kernel
theorem d_H_items_12 : decode b_H_items 12 = .ok (.if_icmp .ne 10, 3) := by decide +kernel
theorem d_H_items_15 : decode b_H_items 15 = .ok (.iload_n 0, 1) := by decide +kernel
theorem d_H_items_16 : decode b_H_items 16 = .ok (.invokestatic 33, 3) := by decide +kernel
theorem d_H_items_19 : decode b_H_items 19 = .ok (.goto 4, 3) := by decide +kernel
theorem d_H_items_22 : decode b_H_items 22 = .ok (.iconst 0, 1) := by decide +kernel
theorem d_H_items_23 : decode b_H_items 23 = .ok (.ireturn, 1) := by decide +kernel
theorem d_H_height_0 : decode b_H_height 0 = .ok (.iload_n 0, 1) := by decide +kernel
theorem d_H_height_1 : decode b_H_height 1 = .ok (.invokestatic 33, 3) := by decide +kernel
theorem d_H_height_4 : decode b_H_height 4 = .ok (.istore_n 1, 1) := by decide +kernel
theorem d_H_height_5 : decode b_H_height 5 = .ok (.iload_n 1, 1) := by decide +kernel
theorem d_H_height_6 : decode b_H_height 6 = .ok (.sipush 225, 3) := by decide +kernel
theorem d_H_height_9 : decode b_H_height 9 = .ok (.if_icmp .le 7, 3) := by decide +kernel
theorem d_H_height_12 : decode b_H_height 12 = .ok (.iconst 2, 1) := by decide +kernel
theorem d_H_height_13 : decode b_H_height 13 = .ok (.goto 14, 3) := by decide +kernel
theorem d_H_height_16 : decode b_H_height 16 = .ok (.iload_n 1, 1) := by decide +kernel
theorem d_H_height_17 : decode b_H_height 17 = .ok (.bipush 15, 2) := by decide +kernel
theorem d_H_height_19 : decode b_H_height 19 = .ok (.if_icmp .le 7, 3) := by decide +kernel
theorem d_H_height_22 : decode b_H_height 22 = .ok (.iconst 1, 1) := by decide +kernel
theorem d_H_height_23 : decode b_H_height 23 = .ok (.goto 4, 3) := by decide +kernel
theorem d_H_height_26 : decode b_H_height 26 = .ok (.iconst 0, 1) := by decide +kernel
theorem d_H_height_27 : decode b_H_height 27 = .ok (.ireturn, 1) := by decide +kernel
