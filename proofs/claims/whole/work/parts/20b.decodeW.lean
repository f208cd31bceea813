/-! decode rows of the law's wrappers -/
theorem dL_append_0 : decode cL_append 0 = .ok (.aload 6, 2) := by decide +kernel
theorem dL_append_2 : decode cL_append 2 = .ok (.iconst 0, 1) := by decide +kernel
theorem dL_append_3 : decode cL_append 3 = .ok (.aload_n 0, 1) := by decide +kernel
theorem dL_append_4 : decode cL_append 4 = .ok (.iload_n 1, 1) := by decide +kernel
theorem dL_append_5 : decode cL_append 5 = .ok (.iload_n 2, 1) := by decide +kernel
theorem dL_append_6 : decode cL_append 6 = .ok (.iload_n 3, 1) := by decide +kernel
theorem dL_append_7 : decode cL_append 7 = .ok (.iload 4, 2) := by decide +kernel
theorem dL_append_9 : decode cL_append 9 = .ok (.iload 5, 2) := by decide +kernel
theorem dL_append_11 : decode cL_append 11 = .ok (.invokevirtual 7, 3) := by decide +kernel
theorem dL_append_14 : decode cL_append 14 = .ok (.i2l, 1) := by decide +kernel
theorem dL_append_15 : decode cL_append 15 = .ok (.lastore, 1) := by decide +kernel
theorem dL_append_16 : decode cL_append 16 = .ok (.goto 7, 3) := by decide +kernel
theorem dL_append_19 : decode cL_append 19 = .ok (.astore 7, 2) := by decide +kernel
theorem dL_append_21 : decode cL_append 21 = .ok (.iconst 1, 1) := by decide +kernel
theorem dL_append_22 : decode cL_append 22 = .ok (.ireturn, 1) := by decide +kernel
theorem dL_append_23 : decode cL_append 23 = .ok (.iconst 0, 1) := by decide +kernel
theorem dL_append_24 : decode cL_append 24 = .ok (.ireturn, 1) := by decide +kernel
theorem dL_truncate_0 : decode cL_truncate 0 = .ok (.aload_n 2, 1) := by decide +kernel
theorem dL_truncate_1 : decode cL_truncate 1 = .ok (.iconst 0, 1) := by decide +kernel
theorem dL_truncate_2 : decode cL_truncate 2 = .ok (.aload_n 0, 1) := by decide +kernel
theorem dL_truncate_3 : decode cL_truncate 3 = .ok (.iload_n 1, 1) := by decide +kernel
theorem dL_truncate_4 : decode cL_truncate 4 = .ok (.invokevirtual 15, 3) := by decide +kernel
theorem dL_truncate_7 : decode cL_truncate 7 = .ok (.i2l, 1) := by decide +kernel
theorem dL_truncate_8 : decode cL_truncate 8 = .ok (.lastore, 1) := by decide +kernel
theorem dL_truncate_9 : decode cL_truncate 9 = .ok (.goto 6, 3) := by decide +kernel
theorem dL_truncate_12 : decode cL_truncate 12 = .ok (.astore_n 3, 1) := by decide +kernel
theorem dL_truncate_13 : decode cL_truncate 13 = .ok (.iconst 1, 1) := by decide +kernel
theorem dL_truncate_14 : decode cL_truncate 14 = .ok (.ireturn, 1) := by decide +kernel
theorem dL_truncate_15 : decode cL_truncate 15 = .ok (.iconst 0, 1) := by decide +kernel
theorem dL_truncate_16 : decode cL_truncate 16 = .ok (.ireturn, 1) := by decide +kernel
theorem dL_load_0 : decode cL_load 0 = .ok (.aload_n 1, 1) := by decide +kernel
theorem dL_load_1 : decode cL_load 1 = .ok (.iconst 0, 1) := by decide +kernel
theorem dL_load_2 : decode cL_load 2 = .ok (.aload_n 0, 1) := by decide +kernel
theorem dL_load_3 : decode cL_load 3 = .ok (.invokevirtual 21, 3) := by decide +kernel
theorem dL_load_6 : decode cL_load 6 = .ok (.i2l, 1) := by decide +kernel
theorem dL_load_7 : decode cL_load 7 = .ok (.lastore, 1) := by decide +kernel
theorem dL_load_8 : decode cL_load 8 = .ok (.goto 6, 3) := by decide +kernel
theorem dL_load_11 : decode cL_load 11 = .ok (.astore_n 2, 1) := by decide +kernel
theorem dL_load_12 : decode cL_load 12 = .ok (.iconst 1, 1) := by decide +kernel
theorem dL_load_13 : decode cL_load 13 = .ok (.ireturn, 1) := by decide +kernel
theorem dL_load_14 : decode cL_load 14 = .ok (.iconst 0, 1) := by decide +kernel
theorem dL_load_15 : decode cL_load 15 = .ok (.ireturn, 1) := by decide +kernel
theorem dL_nameByte_0 : decode cL_nameByte 0 = .ok (.aload_n 3, 1) := by decide +kernel
theorem dL_nameByte_1 : decode cL_nameByte 1 = .ok (.iconst 0, 1) := by decide +kernel
theorem dL_nameByte_2 : decode cL_nameByte 2 = .ok (.aload_n 0, 1) := by decide +kernel
theorem dL_nameByte_3 : decode cL_nameByte 3 = .ok (.iload_n 1, 1) := by decide +kernel
theorem dL_nameByte_4 : decode cL_nameByte 4 = .ok (.iload_n 2, 1) := by decide +kernel
theorem dL_nameByte_5 : decode cL_nameByte 5 = .ok (.invokevirtual 25, 3) := by decide +kernel
theorem dL_nameByte_8 : decode cL_nameByte 8 = .ok (.i2l, 1) := by decide +kernel
theorem dL_nameByte_9 : decode cL_nameByte 9 = .ok (.lastore, 1) := by decide +kernel
theorem dL_nameByte_10 : decode cL_nameByte 10 = .ok (.goto 7, 3) := by decide +kernel
theorem dL_nameByte_13 : decode cL_nameByte 13 = .ok (.astore 4, 2) := by decide +kernel
theorem dL_nameByte_15 : decode cL_nameByte 15 = .ok (.iconst 1, 1) := by decide +kernel
theorem dL_nameByte_16 : decode cL_nameByte 16 = .ok (.ireturn, 1) := by decide +kernel
theorem dL_nameByte_17 : decode cL_nameByte 17 = .ok (.iconst 0, 1) := by decide +kernel
theorem dL_nameByte_18 : decode cL_nameByte 18 = .ok (.ireturn, 1) := by decide +kernel
theorem dL_findProduct_0 : decode cL_findProduct 0 = .ok (.aload_n 1, 1) := by decide +kernel
theorem dL_findProduct_1 : decode cL_findProduct 1 = .ok (.iconst 0, 1) := by decide +kernel
theorem dL_findProduct_2 : decode cL_findProduct 2 = .ok (.aload_n 0, 1) := by decide +kernel
theorem dL_findProduct_3 : decode cL_findProduct 3 = .ok (.invokevirtual 31, 3) := by decide +kernel
theorem dL_findProduct_6 : decode cL_findProduct 6 = .ok (.i2l, 1) := by decide +kernel
theorem dL_findProduct_7 : decode cL_findProduct 7 = .ok (.lastore, 1) := by decide +kernel
theorem dL_findProduct_8 : decode cL_findProduct 8 = .ok (.goto 6, 3) := by decide +kernel
theorem dL_findProduct_11 : decode cL_findProduct 11 = .ok (.astore_n 2, 1) := by decide +kernel
theorem dL_findProduct_12 : decode cL_findProduct 12 = .ok (.iconst 1, 1) := by decide +kernel
theorem dL_findProduct_13 : decode cL_findProduct 13 = .ok (.ireturn, 1) := by decide +kernel
theorem dL_findProduct_14 : decode cL_findProduct 14 = .ok (.iconst 0, 1) := by decide +kernel
theorem dL_findProduct_15 : decode cL_findProduct 15 = .ok (.ireturn, 1) := by decide +kernel
theorem dL_minimumStock_0 : decode cL_minimumStock 0 = .ok (.aload_n 2, 1) := by decide +kernel
theorem dL_minimumStock_1 : decode cL_minimumStock 1 = .ok (.iconst 0, 1) := by decide +kernel
theorem dL_minimumStock_2 : decode cL_minimumStock 2 = .ok (.aload_n 0, 1) := by decide +kernel
theorem dL_minimumStock_3 : decode cL_minimumStock 3 = .ok (.iload_n 1, 1) := by decide +kernel
theorem dL_minimumStock_4 : decode cL_minimumStock 4 = .ok (.invokevirtual 36, 3) := by decide +kernel
theorem dL_minimumStock_7 : decode cL_minimumStock 7 = .ok (.i2l, 1) := by decide +kernel
theorem dL_minimumStock_8 : decode cL_minimumStock 8 = .ok (.lastore, 1) := by decide +kernel
theorem dL_minimumStock_9 : decode cL_minimumStock 9 = .ok (.goto 6, 3) := by decide +kernel
theorem dL_minimumStock_12 : decode cL_minimumStock 12 = .ok (.astore_n 3, 1) := by decide +kernel
theorem dL_minimumStock_13 : decode cL_minimumStock 13 = .ok (.iconst 1, 1) := by decide +kernel
theorem dL_minimumStock_14 : decode cL_minimumStock 14 = .ok (.ireturn, 1) := by decide +kernel
theorem dL_minimumStock_15 : decode cL_minimumStock 15 = .ok (.iconst 0, 1) := by decide +kernel
theorem dL_minimumStock_16 : decode cL_minimumStock 16 = .ok (.ireturn, 1) := by decide +kernel
theorem dL_onHand_0 : decode cL_onHand 0 = .ok (.aload_n 2, 1) := by decide +kernel
theorem dL_onHand_1 : decode cL_onHand 1 = .ok (.iconst 0, 1) := by decide +kernel
theorem dL_onHand_2 : decode cL_onHand 2 = .ok (.aload_n 0, 1) := by decide +kernel
theorem dL_onHand_3 : decode cL_onHand 3 = .ok (.iload_n 1, 1) := by decide +kernel
theorem dL_onHand_4 : decode cL_onHand 4 = .ok (.invokevirtual 39, 3) := by decide +kernel
theorem dL_onHand_7 : decode cL_onHand 7 = .ok (.i2l, 1) := by decide +kernel
theorem dL_onHand_8 : decode cL_onHand 8 = .ok (.lastore, 1) := by decide +kernel
theorem dL_onHand_9 : decode cL_onHand 9 = .ok (.goto 6, 3) := by decide +kernel
theorem dL_onHand_12 : decode cL_onHand 12 = .ok (.astore_n 3, 1) := by decide +kernel
theorem dL_onHand_13 : decode cL_onHand 13 = .ok (.iconst 1, 1) := by decide +kernel
theorem dL_onHand_14 : decode cL_onHand 14 = .ok (.ireturn, 1) := by decide +kernel
theorem dL_onHand_15 : decode cL_onHand 15 = .ok (.iconst 0, 1) := by decide +kernel
theorem dL_onHand_16 : decode cL_onHand 16 = .ok (.ireturn, 1) := by decide +kernel
theorem dL_reserved_0 : decode cL_reserved 0 = .ok (.aload_n 2, 1) := by decide +kernel
theorem dL_reserved_1 : decode cL_reserved 1 = .ok (.iconst 0, 1) := by decide +kernel
theorem dL_reserved_2 : decode cL_reserved 2 = .ok (.aload_n 0, 1) := by decide +kernel
theorem dL_reserved_3 : decode cL_reserved 3 = .ok (.iload_n 1, 1) := by decide +kernel
theorem dL_reserved_4 : decode cL_reserved 4 = .ok (.invokevirtual 42, 3) := by decide +kernel
theorem dL_reserved_7 : decode cL_reserved 7 = .ok (.i2l, 1) := by decide +kernel
theorem dL_reserved_8 : decode cL_reserved 8 = .ok (.lastore, 1) := by decide +kernel
theorem dL_reserved_9 : decode cL_reserved 9 = .ok (.goto 6, 3) := by decide +kernel
theorem dL_reserved_12 : decode cL_reserved 12 = .ok (.astore_n 3, 1) := by decide +kernel
theorem dL_reserved_13 : decode cL_reserved 13 = .ok (.iconst 1, 1) := by decide +kernel
theorem dL_reserved_14 : decode cL_reserved 14 = .ok (.ireturn, 1) := by decide +kernel
theorem dL_reserved_15 : decode cL_reserved 15 = .ok (.iconst 0, 1) := by decide +kernel
theorem dL_reserved_16 : decode cL_reserved 16 = .ok (.ireturn, 1) := by decide +kernel
theorem dL_availableOn_0 : decode cL_availableOn 0 = .ok (.aload_n 3, 1) := by decide +kernel
theorem dL_availableOn_1 : decode cL_availableOn 1 = .ok (.iconst 0, 1) := by decide +kernel
theorem dL_availableOn_2 : decode cL_availableOn 2 = .ok (.aload_n 0, 1) := by decide +kernel
theorem dL_availableOn_3 : decode cL_availableOn 3 = .ok (.iload_n 1, 1) := by decide +kernel
theorem dL_availableOn_4 : decode cL_availableOn 4 = .ok (.iload_n 2, 1) := by decide +kernel
theorem dL_availableOn_5 : decode cL_availableOn 5 = .ok (.invokevirtual 45, 3) := by decide +kernel
theorem dL_availableOn_8 : decode cL_availableOn 8 = .ok (.i2l, 1) := by decide +kernel
theorem dL_availableOn_9 : decode cL_availableOn 9 = .ok (.lastore, 1) := by decide +kernel
theorem dL_availableOn_10 : decode cL_availableOn 10 = .ok (.goto 11, 3) := by decide +kernel
theorem dL_availableOn_13 : decode cL_availableOn 13 = .ok (.astore 4, 2) := by decide +kernel
theorem dL_availableOn_15 : decode cL_availableOn 15 = .ok (.iconst 1, 1) := by decide +kernel
theorem dL_availableOn_16 : decode cL_availableOn 16 = .ok (.ireturn, 1) := by decide +kernel
theorem dL_availableOn_17 : decode cL_availableOn 17 = .ok (.astore 4, 2) := by decide +kernel
theorem dL_availableOn_19 : decode cL_availableOn 19 = .ok (.iconst 2, 1) := by decide +kernel
theorem dL_availableOn_20 : decode cL_availableOn 20 = .ok (.ireturn, 1) := by decide +kernel
theorem dL_availableOn_21 : decode cL_availableOn 21 = .ok (.iconst 0, 1) := by decide +kernel
theorem dL_availableOn_22 : decode cL_availableOn 22 = .ok (.ireturn, 1) := by decide +kernel
theorem dL_expired_0 : decode cL_expired 0 = .ok (.aload_n 2, 1) := by decide +kernel
theorem dL_expired_1 : decode cL_expired 1 = .ok (.iconst 0, 1) := by decide +kernel
theorem dL_expired_2 : decode cL_expired 2 = .ok (.aload_n 0, 1) := by decide +kernel
theorem dL_expired_3 : decode cL_expired 3 = .ok (.iload_n 1, 1) := by decide +kernel
theorem dL_expired_4 : decode cL_expired 4 = .ok (.invokevirtual 48, 3) := by decide +kernel
theorem dL_expired_7 : decode cL_expired 7 = .ok (.i2l, 1) := by decide +kernel
theorem dL_expired_8 : decode cL_expired 8 = .ok (.lastore, 1) := by decide +kernel
theorem dL_expired_9 : decode cL_expired 9 = .ok (.goto 6, 3) := by decide +kernel
theorem dL_expired_12 : decode cL_expired 12 = .ok (.astore_n 3, 1) := by decide +kernel
theorem dL_expired_13 : decode cL_expired 13 = .ok (.iconst 1, 1) := by decide +kernel
theorem dL_expired_14 : decode cL_expired 14 = .ok (.ireturn, 1) := by decide +kernel
theorem dL_expired_15 : decode cL_expired 15 = .ok (.iconst 0, 1) := by decide +kernel
theorem dL_expired_16 : decode cL_expired 16 = .ok (.ireturn, 1) := by decide +kernel
theorem dL_expiringWithin_0 : decode cL_expiringWithin 0 = .ok (.aload_n 3, 1) := by decide +kernel
theorem dL_expiringWithin_1 : decode cL_expiringWithin 1 = .ok (.iconst 0, 1) := by decide +kernel
theorem dL_expiringWithin_2 : decode cL_expiringWithin 2 = .ok (.aload_n 0, 1) := by decide +kernel
theorem dL_expiringWithin_3 : decode cL_expiringWithin 3 = .ok (.iload_n 1, 1) := by decide +kernel
theorem dL_expiringWithin_4 : decode cL_expiringWithin 4 = .ok (.iload_n 2, 1) := by decide +kernel
theorem dL_expiringWithin_5 : decode cL_expiringWithin 5 = .ok (.invokevirtual 51, 3) := by decide +kernel
theorem dL_expiringWithin_8 : decode cL_expiringWithin 8 = .ok (.i2l, 1) := by decide +kernel
theorem dL_expiringWithin_9 : decode cL_expiringWithin 9 = .ok (.lastore, 1) := by decide +kernel
theorem dL_expiringWithin_10 : decode cL_expiringWithin 10 = .ok (.goto 11, 3) := by decide +kernel
theorem dL_expiringWithin_13 : decode cL_expiringWithin 13 = .ok (.astore 4, 2) := by decide +kernel
theorem dL_expiringWithin_15 : decode cL_expiringWithin 15 = .ok (.iconst 1, 1) := by decide +kernel
theorem dL_expiringWithin_16 : decode cL_expiringWithin 16 = .ok (.ireturn, 1) := by decide +kernel
theorem dL_expiringWithin_17 : decode cL_expiringWithin 17 = .ok (.astore 4, 2) := by decide +kernel
theorem dL_expiringWithin_19 : decode cL_expiringWithin 19 = .ok (.iconst 2, 1) := by decide +kernel
theorem dL_expiringWithin_20 : decode cL_expiringWithin 20 = .ok (.ireturn, 1) := by decide +kernel
theorem dL_expiringWithin_21 : decode cL_expiringWithin 21 = .ok (.iconst 0, 1) := by decide +kernel
theorem dL_expiringWithin_22 : decode cL_expiringWithin 22 = .ok (.ireturn, 1) := by decide +kernel
theorem dL_stockValue_0 : decode cL_stockValue 0 = .ok (.aload_n 2, 1) := by decide +kernel
theorem dL_stockValue_1 : decode cL_stockValue 1 = .ok (.iconst 0, 1) := by decide +kernel
theorem dL_stockValue_2 : decode cL_stockValue 2 = .ok (.aload_n 0, 1) := by decide +kernel
theorem dL_stockValue_3 : decode cL_stockValue 3 = .ok (.iload_n 1, 1) := by decide +kernel
theorem dL_stockValue_4 : decode cL_stockValue 4 = .ok (.invokevirtual 54, 3) := by decide +kernel
theorem dL_stockValue_7 : decode cL_stockValue 7 = .ok (.i2l, 1) := by decide +kernel
theorem dL_stockValue_8 : decode cL_stockValue 8 = .ok (.lastore, 1) := by decide +kernel
theorem dL_stockValue_9 : decode cL_stockValue 9 = .ok (.goto 6, 3) := by decide +kernel
theorem dL_stockValue_12 : decode cL_stockValue 12 = .ok (.astore_n 3, 1) := by decide +kernel
theorem dL_stockValue_13 : decode cL_stockValue 13 = .ok (.iconst 1, 1) := by decide +kernel
theorem dL_stockValue_14 : decode cL_stockValue 14 = .ok (.ireturn, 1) := by decide +kernel
theorem dL_stockValue_15 : decode cL_stockValue 15 = .ok (.iconst 0, 1) := by decide +kernel
theorem dL_stockValue_16 : decode cL_stockValue 16 = .ok (.ireturn, 1) := by decide +kernel
theorem dL_reorderQuantity_0 : decode cL_reorderQuantity 0 = .ok (.aload_n 2, 1) := by decide +kernel
theorem dL_reorderQuantity_1 : decode cL_reorderQuantity 1 = .ok (.iconst 0, 1) := by decide +kernel
theorem dL_reorderQuantity_2 : decode cL_reorderQuantity 2 = .ok (.aload_n 0, 1) := by decide +kernel
theorem dL_reorderQuantity_3 : decode cL_reorderQuantity 3 = .ok (.iload_n 1, 1) := by decide +kernel
theorem dL_reorderQuantity_4 : decode cL_reorderQuantity 4 = .ok (.invokevirtual 57, 3) := by decide +kernel
theorem dL_reorderQuantity_7 : decode cL_reorderQuantity 7 = .ok (.i2l, 1) := by decide +kernel
theorem dL_reorderQuantity_8 : decode cL_reorderQuantity 8 = .ok (.lastore, 1) := by decide +kernel
theorem dL_reorderQuantity_9 : decode cL_reorderQuantity 9 = .ok (.goto 6, 3) := by decide +kernel
theorem dL_reorderQuantity_12 : decode cL_reorderQuantity 12 = .ok (.astore_n 3, 1) := by decide +kernel
theorem dL_reorderQuantity_13 : decode cL_reorderQuantity 13 = .ok (.iconst 1, 1) := by decide +kernel
theorem dL_reorderQuantity_14 : decode cL_reorderQuantity 14 = .ok (.ireturn, 1) := by decide +kernel
theorem dL_reorderQuantity_15 : decode cL_reorderQuantity 15 = .ok (.iconst 0, 1) := by decide +kernel
theorem dL_reorderQuantity_16 : decode cL_reorderQuantity 16 = .ok (.ireturn, 1) := by decide +kernel
theorem dL_productOf_0 : decode cL_productOf 0 = .ok (.aload_n 2, 1) := by decide +kernel
theorem dL_productOf_1 : decode cL_productOf 1 = .ok (.iconst 0, 1) := by decide +kernel
theorem dL_productOf_2 : decode cL_productOf 2 = .ok (.aload_n 0, 1) := by decide +kernel
theorem dL_productOf_3 : decode cL_productOf 3 = .ok (.iload_n 1, 1) := by decide +kernel
theorem dL_productOf_4 : decode cL_productOf 4 = .ok (.invokevirtual 60, 3) := by decide +kernel
theorem dL_productOf_7 : decode cL_productOf 7 = .ok (.i2l, 1) := by decide +kernel
theorem dL_productOf_8 : decode cL_productOf 8 = .ok (.lastore, 1) := by decide +kernel
theorem dL_productOf_9 : decode cL_productOf 9 = .ok (.goto 6, 3) := by decide +kernel
theorem dL_productOf_12 : decode cL_productOf 12 = .ok (.astore_n 3, 1) := by decide +kernel
theorem dL_productOf_13 : decode cL_productOf 13 = .ok (.iconst 1, 1) := by decide +kernel
theorem dL_productOf_14 : decode cL_productOf 14 = .ok (.ireturn, 1) := by decide +kernel
theorem dL_productOf_15 : decode cL_productOf 15 = .ok (.iconst 0, 1) := by decide +kernel
theorem dL_productOf_16 : decode cL_productOf 16 = .ok (.ireturn, 1) := by decide +kernel
theorem dL_quantity_0 : decode cL_quantity 0 = .ok (.aload_n 2, 1) := by decide +kernel
theorem dL_quantity_1 : decode cL_quantity 1 = .ok (.iconst 0, 1) := by decide +kernel
theorem dL_quantity_2 : decode cL_quantity 2 = .ok (.aload_n 0, 1) := by decide +kernel
theorem dL_quantity_3 : decode cL_quantity 3 = .ok (.iload_n 1, 1) := by decide +kernel
theorem dL_quantity_4 : decode cL_quantity 4 = .ok (.invokevirtual 63, 3) := by decide +kernel
theorem dL_quantity_7 : decode cL_quantity 7 = .ok (.i2l, 1) := by decide +kernel
theorem dL_quantity_8 : decode cL_quantity 8 = .ok (.lastore, 1) := by decide +kernel
theorem dL_quantity_9 : decode cL_quantity 9 = .ok (.goto 6, 3) := by decide +kernel
theorem dL_quantity_12 : decode cL_quantity 12 = .ok (.astore_n 3, 1) := by decide +kernel
theorem dL_quantity_13 : decode cL_quantity 13 = .ok (.iconst 1, 1) := by decide +kernel
theorem dL_quantity_14 : decode cL_quantity 14 = .ok (.ireturn, 1) := by decide +kernel
theorem dL_quantity_15 : decode cL_quantity 15 = .ok (.iconst 0, 1) := by decide +kernel
theorem dL_quantity_16 : decode cL_quantity 16 = .ok (.ireturn, 1) := by decide +kernel
theorem dL_reservedOf_0 : decode cL_reservedOf 0 = .ok (.aload_n 2, 1) := by decide +kernel
theorem dL_reservedOf_1 : decode cL_reservedOf 1 = .ok (.iconst 0, 1) := by decide +kernel
theorem dL_reservedOf_2 : decode cL_reservedOf 2 = .ok (.aload_n 0, 1) := by decide +kernel
theorem dL_reservedOf_3 : decode cL_reservedOf 3 = .ok (.iload_n 1, 1) := by decide +kernel
theorem dL_reservedOf_4 : decode cL_reservedOf 4 = .ok (.invokevirtual 66, 3) := by decide +kernel
theorem dL_reservedOf_7 : decode cL_reservedOf 7 = .ok (.i2l, 1) := by decide +kernel
theorem dL_reservedOf_8 : decode cL_reservedOf 8 = .ok (.lastore, 1) := by decide +kernel
theorem dL_reservedOf_9 : decode cL_reservedOf 9 = .ok (.goto 6, 3) := by decide +kernel
theorem dL_reservedOf_12 : decode cL_reservedOf 12 = .ok (.astore_n 3, 1) := by decide +kernel
theorem dL_reservedOf_13 : decode cL_reservedOf 13 = .ok (.iconst 1, 1) := by decide +kernel
theorem dL_reservedOf_14 : decode cL_reservedOf 14 = .ok (.ireturn, 1) := by decide +kernel
theorem dL_reservedOf_15 : decode cL_reservedOf 15 = .ok (.iconst 0, 1) := by decide +kernel
theorem dL_reservedOf_16 : decode cL_reservedOf 16 = .ok (.ireturn, 1) := by decide +kernel
theorem dL_expiryDay_0 : decode cL_expiryDay 0 = .ok (.aload_n 2, 1) := by decide +kernel
theorem dL_expiryDay_1 : decode cL_expiryDay 1 = .ok (.iconst 0, 1) := by decide +kernel
theorem dL_expiryDay_2 : decode cL_expiryDay 2 = .ok (.aload_n 0, 1) := by decide +kernel
theorem dL_expiryDay_3 : decode cL_expiryDay 3 = .ok (.iload_n 1, 1) := by decide +kernel
theorem dL_expiryDay_4 : decode cL_expiryDay 4 = .ok (.invokevirtual 69, 3) := by decide +kernel
theorem dL_expiryDay_7 : decode cL_expiryDay 7 = .ok (.i2l, 1) := by decide +kernel
theorem dL_expiryDay_8 : decode cL_expiryDay 8 = .ok (.lastore, 1) := by decide +kernel
theorem dL_expiryDay_9 : decode cL_expiryDay 9 = .ok (.goto 6, 3) := by decide +kernel
theorem dL_expiryDay_12 : decode cL_expiryDay 12 = .ok (.astore_n 3, 1) := by decide +kernel
theorem dL_expiryDay_13 : decode cL_expiryDay 13 = .ok (.iconst 1, 1) := by decide +kernel
theorem dL_expiryDay_14 : decode cL_expiryDay 14 = .ok (.ireturn, 1) := by decide +kernel
theorem dL_expiryDay_15 : decode cL_expiryDay 15 = .ok (.iconst 0, 1) := by decide +kernel
theorem dL_expiryDay_16 : decode cL_expiryDay 16 = .ok (.ireturn, 1) := by decide +kernel
theorem dL_unitCost_0 : decode cL_unitCost 0 = .ok (.aload_n 2, 1) := by decide +kernel
theorem dL_unitCost_1 : decode cL_unitCost 1 = .ok (.iconst 0, 1) := by decide +kernel
theorem dL_unitCost_2 : decode cL_unitCost 2 = .ok (.aload_n 0, 1) := by decide +kernel
theorem dL_unitCost_3 : decode cL_unitCost 3 = .ok (.iload_n 1, 1) := by decide +kernel
theorem dL_unitCost_4 : decode cL_unitCost 4 = .ok (.invokevirtual 72, 3) := by decide +kernel
theorem dL_unitCost_7 : decode cL_unitCost 7 = .ok (.i2l, 1) := by decide +kernel
theorem dL_unitCost_8 : decode cL_unitCost 8 = .ok (.lastore, 1) := by decide +kernel
theorem dL_unitCost_9 : decode cL_unitCost 9 = .ok (.goto 6, 3) := by decide +kernel
theorem dL_unitCost_12 : decode cL_unitCost 12 = .ok (.astore_n 3, 1) := by decide +kernel
theorem dL_unitCost_13 : decode cL_unitCost 13 = .ok (.iconst 1, 1) := by decide +kernel
theorem dL_unitCost_14 : decode cL_unitCost 14 = .ok (.ireturn, 1) := by decide +kernel
theorem dL_unitCost_15 : decode cL_unitCost 15 = .ok (.iconst 0, 1) := by decide +kernel
theorem dL_unitCost_16 : decode cL_unitCost 16 = .ok (.ireturn, 1) := by decide +kernel
theorem dL_isExpired_0 : decode cL_isExpired 0 = .ok (.aload_n 2, 1) := by decide +kernel
theorem dL_isExpired_1 : decode cL_isExpired 1 = .ok (.iconst 0, 1) := by decide +kernel
theorem dL_isExpired_2 : decode cL_isExpired 2 = .ok (.aload_n 0, 1) := by decide +kernel
theorem dL_isExpired_3 : decode cL_isExpired 3 = .ok (.iload_n 1, 1) := by decide +kernel
theorem dL_isExpired_4 : decode cL_isExpired 4 = .ok (.invokevirtual 75, 3) := by decide +kernel
theorem dL_isExpired_7 : decode cL_isExpired 7 = .ok (.ifCond .eq 7, 3) := by decide +kernel
theorem dL_isExpired_10 : decode cL_isExpired 10 = .ok (.lconst 1, 1) := by decide +kernel
theorem dL_isExpired_11 : decode cL_isExpired 11 = .ok (.goto 4, 3) := by decide +kernel
theorem dL_isExpired_14 : decode cL_isExpired 14 = .ok (.lconst 0, 1) := by decide +kernel
theorem dL_isExpired_15 : decode cL_isExpired 15 = .ok (.lastore, 1) := by decide +kernel
theorem dL_isExpired_16 : decode cL_isExpired 16 = .ok (.goto 6, 3) := by decide +kernel
theorem dL_isExpired_19 : decode cL_isExpired 19 = .ok (.astore_n 3, 1) := by decide +kernel
theorem dL_isExpired_20 : decode cL_isExpired 20 = .ok (.iconst 1, 1) := by decide +kernel
theorem dL_isExpired_21 : decode cL_isExpired 21 = .ok (.ireturn, 1) := by decide +kernel
theorem dL_isExpired_22 : decode cL_isExpired 22 = .ok (.iconst 0, 1) := by decide +kernel
theorem dL_isExpired_23 : decode cL_isExpired 23 = .ok (.ireturn, 1) := by decide +kernel
theorem dL_issueOrder_0 : decode cL_issueOrder 0 = .ok (.aload_n 3, 1) := by decide +kernel
theorem dL_issueOrder_1 : decode cL_issueOrder 1 = .ok (.iconst 0, 1) := by decide +kernel
theorem dL_issueOrder_2 : decode cL_issueOrder 2 = .ok (.aload_n 0, 1) := by decide +kernel
theorem dL_issueOrder_3 : decode cL_issueOrder 3 = .ok (.iload_n 1, 1) := by decide +kernel
theorem dL_issueOrder_4 : decode cL_issueOrder 4 = .ok (.iload_n 2, 1) := by decide +kernel
theorem dL_issueOrder_5 : decode cL_issueOrder 5 = .ok (.invokevirtual 79, 3) := by decide +kernel
theorem dL_issueOrder_8 : decode cL_issueOrder 8 = .ok (.i2l, 1) := by decide +kernel
theorem dL_issueOrder_9 : decode cL_issueOrder 9 = .ok (.lastore, 1) := by decide +kernel
theorem dL_issueOrder_10 : decode cL_issueOrder 10 = .ok (.goto 7, 3) := by decide +kernel
theorem dL_issueOrder_13 : decode cL_issueOrder 13 = .ok (.astore 4, 2) := by decide +kernel
theorem dL_issueOrder_15 : decode cL_issueOrder 15 = .ok (.iconst 1, 1) := by decide +kernel
theorem dL_issueOrder_16 : decode cL_issueOrder 16 = .ok (.ireturn, 1) := by decide +kernel
theorem dL_issueOrder_17 : decode cL_issueOrder 17 = .ok (.iconst 0, 1) := by decide +kernel
theorem dL_issueOrder_18 : decode cL_issueOrder 18 = .ok (.ireturn, 1) := by decide +kernel
theorem dL_costOfIssue_0 : decode cL_costOfIssue 0 = .ok (.aload_n 3, 1) := by decide +kernel
theorem dL_costOfIssue_1 : decode cL_costOfIssue 1 = .ok (.iconst 0, 1) := by decide +kernel
theorem dL_costOfIssue_2 : decode cL_costOfIssue 2 = .ok (.aload_n 0, 1) := by decide +kernel
theorem dL_costOfIssue_3 : decode cL_costOfIssue 3 = .ok (.iload_n 1, 1) := by decide +kernel
theorem dL_costOfIssue_4 : decode cL_costOfIssue 4 = .ok (.iload_n 2, 1) := by decide +kernel
theorem dL_costOfIssue_5 : decode cL_costOfIssue 5 = .ok (.invokevirtual 82, 3) := by decide +kernel
theorem dL_costOfIssue_8 : decode cL_costOfIssue 8 = .ok (.i2l, 1) := by decide +kernel
theorem dL_costOfIssue_9 : decode cL_costOfIssue 9 = .ok (.lastore, 1) := by decide +kernel
theorem dL_costOfIssue_10 : decode cL_costOfIssue 10 = .ok (.goto 11, 3) := by decide +kernel
theorem dL_costOfIssue_13 : decode cL_costOfIssue 13 = .ok (.astore 4, 2) := by decide +kernel
theorem dL_costOfIssue_15 : decode cL_costOfIssue 15 = .ok (.iconst 1, 1) := by decide +kernel
theorem dL_costOfIssue_16 : decode cL_costOfIssue 16 = .ok (.ireturn, 1) := by decide +kernel
theorem dL_costOfIssue_17 : decode cL_costOfIssue 17 = .ok (.astore 4, 2) := by decide +kernel
theorem dL_costOfIssue_19 : decode cL_costOfIssue 19 = .ok (.iconst 2, 1) := by decide +kernel
theorem dL_costOfIssue_20 : decode cL_costOfIssue 20 = .ok (.ireturn, 1) := by decide +kernel
theorem dL_costOfIssue_21 : decode cL_costOfIssue 21 = .ok (.iconst 0, 1) := by decide +kernel
theorem dL_costOfIssue_22 : decode cL_costOfIssue 22 = .ok (.ireturn, 1) := by decide +kernel
theorem dL_reservedProduct_0 : decode cL_reservedProduct 0 = .ok (.aload_n 2, 1) := by decide +kernel
theorem dL_reservedProduct_1 : decode cL_reservedProduct 1 = .ok (.iconst 0, 1) := by decide +kernel
theorem dL_reservedProduct_2 : decode cL_reservedProduct 2 = .ok (.aload_n 0, 1) := by decide +kernel
theorem dL_reservedProduct_3 : decode cL_reservedProduct 3 = .ok (.iload_n 1, 1) := by decide +kernel
theorem dL_reservedProduct_4 : decode cL_reservedProduct 4 = .ok (.invokevirtual 85, 3) := by decide +kernel
theorem dL_reservedProduct_7 : decode cL_reservedProduct 7 = .ok (.i2l, 1) := by decide +kernel
theorem dL_reservedProduct_8 : decode cL_reservedProduct 8 = .ok (.lastore, 1) := by decide +kernel
theorem dL_reservedProduct_9 : decode cL_reservedProduct 9 = .ok (.goto 6, 3) := by decide +kernel
theorem dL_reservedProduct_12 : decode cL_reservedProduct 12 = .ok (.astore_n 3, 1) := by decide +kernel
theorem dL_reservedProduct_13 : decode cL_reservedProduct 13 = .ok (.iconst 1, 1) := by decide +kernel
theorem dL_reservedProduct_14 : decode cL_reservedProduct 14 = .ok (.ireturn, 1) := by decide +kernel
theorem dL_reservedProduct_15 : decode cL_reservedProduct 15 = .ok (.iconst 0, 1) := by decide +kernel
theorem dL_reservedProduct_16 : decode cL_reservedProduct 16 = .ok (.ireturn, 1) := by decide +kernel
theorem dL_reservedQuantity_0 : decode cL_reservedQuantity 0 = .ok (.aload_n 2, 1) := by decide +kernel
theorem dL_reservedQuantity_1 : decode cL_reservedQuantity 1 = .ok (.iconst 0, 1) := by decide +kernel
theorem dL_reservedQuantity_2 : decode cL_reservedQuantity 2 = .ok (.aload_n 0, 1) := by decide +kernel
theorem dL_reservedQuantity_3 : decode cL_reservedQuantity 3 = .ok (.iload_n 1, 1) := by decide +kernel
theorem dL_reservedQuantity_4 : decode cL_reservedQuantity 4 = .ok (.invokevirtual 88, 3) := by decide +kernel
theorem dL_reservedQuantity_7 : decode cL_reservedQuantity 7 = .ok (.i2l, 1) := by decide +kernel
theorem dL_reservedQuantity_8 : decode cL_reservedQuantity 8 = .ok (.lastore, 1) := by decide +kernel
theorem dL_reservedQuantity_9 : decode cL_reservedQuantity 9 = .ok (.goto 6, 3) := by decide +kernel
theorem dL_reservedQuantity_12 : decode cL_reservedQuantity 12 = .ok (.astore_n 3, 1) := by decide +kernel
theorem dL_reservedQuantity_13 : decode cL_reservedQuantity 13 = .ok (.iconst 1, 1) := by decide +kernel
theorem dL_reservedQuantity_14 : decode cL_reservedQuantity 14 = .ok (.ireturn, 1) := by decide +kernel
theorem dL_reservedQuantity_15 : decode cL_reservedQuantity 15 = .ok (.iconst 0, 1) := by decide +kernel
theorem dL_reservedQuantity_16 : decode cL_reservedQuantity 16 = .ok (.ireturn, 1) := by decide +kernel
theorem dL_isOpen_0 : decode cL_isOpen 0 = .ok (.aload_n 2, 1) := by decide +kernel
theorem dL_isOpen_1 : decode cL_isOpen 1 = .ok (.iconst 0, 1) := by decide +kernel
theorem dL_isOpen_2 : decode cL_isOpen 2 = .ok (.aload_n 0, 1) := by decide +kernel
theorem dL_isOpen_3 : decode cL_isOpen 3 = .ok (.iload_n 1, 1) := by decide +kernel
theorem dL_isOpen_4 : decode cL_isOpen 4 = .ok (.invokevirtual 91, 3) := by decide +kernel
theorem dL_isOpen_7 : decode cL_isOpen 7 = .ok (.ifCond .eq 7, 3) := by decide +kernel
theorem dL_isOpen_10 : decode cL_isOpen 10 = .ok (.lconst 1, 1) := by decide +kernel
theorem dL_isOpen_11 : decode cL_isOpen 11 = .ok (.goto 4, 3) := by decide +kernel
theorem dL_isOpen_14 : decode cL_isOpen 14 = .ok (.lconst 0, 1) := by decide +kernel
theorem dL_isOpen_15 : decode cL_isOpen 15 = .ok (.lastore, 1) := by decide +kernel
theorem dL_isOpen_16 : decode cL_isOpen 16 = .ok (.goto 6, 3) := by decide +kernel
theorem dL_isOpen_19 : decode cL_isOpen 19 = .ok (.astore_n 3, 1) := by decide +kernel
theorem dL_isOpen_20 : decode cL_isOpen 20 = .ok (.iconst 1, 1) := by decide +kernel
theorem dL_isOpen_21 : decode cL_isOpen 21 = .ok (.ireturn, 1) := by decide +kernel
theorem dL_isOpen_22 : decode cL_isOpen 22 = .ok (.iconst 0, 1) := by decide +kernel
theorem dL_isOpen_23 : decode cL_isOpen 23 = .ok (.ireturn, 1) := by decide +kernel
theorem dL_missing_0 : decode cL_missing 0 = .ok (.aload_n 2, 1) := by decide +kernel
theorem dL_missing_1 : decode cL_missing 1 = .ok (.iconst 0, 1) := by decide +kernel
theorem dL_missing_2 : decode cL_missing 2 = .ok (.aload_n 0, 1) := by decide +kernel
theorem dL_missing_3 : decode cL_missing 3 = .ok (.iload_n 1, 1) := by decide +kernel
theorem dL_missing_4 : decode cL_missing 4 = .ok (.invokevirtual 94, 3) := by decide +kernel
theorem dL_missing_7 : decode cL_missing 7 = .ok (.i2l, 1) := by decide +kernel
theorem dL_missing_8 : decode cL_missing 8 = .ok (.lastore, 1) := by decide +kernel
theorem dL_missing_9 : decode cL_missing 9 = .ok (.goto 6, 3) := by decide +kernel
theorem dL_missing_12 : decode cL_missing 12 = .ok (.astore_n 3, 1) := by decide +kernel
theorem dL_missing_13 : decode cL_missing 13 = .ok (.iconst 1, 1) := by decide +kernel
theorem dL_missing_14 : decode cL_missing 14 = .ok (.ireturn, 1) := by decide +kernel
theorem dL_missing_15 : decode cL_missing 15 = .ok (.iconst 0, 1) := by decide +kernel
theorem dL_missing_16 : decode cL_missing 16 = .ok (.ireturn, 1) := by decide +kernel
theorem dL_allocation_0 : decode cL_allocation 0 = .ok (.aload_n 3, 1) := by decide +kernel
theorem dL_allocation_1 : decode cL_allocation 1 = .ok (.iconst 0, 1) := by decide +kernel
theorem dL_allocation_2 : decode cL_allocation 2 = .ok (.aload_n 0, 1) := by decide +kernel
theorem dL_allocation_3 : decode cL_allocation 3 = .ok (.iload_n 1, 1) := by decide +kernel
theorem dL_allocation_4 : decode cL_allocation 4 = .ok (.iload_n 2, 1) := by decide +kernel
theorem dL_allocation_5 : decode cL_allocation 5 = .ok (.invokevirtual 97, 3) := by decide +kernel
theorem dL_allocation_8 : decode cL_allocation 8 = .ok (.i2l, 1) := by decide +kernel
theorem dL_allocation_9 : decode cL_allocation 9 = .ok (.lastore, 1) := by decide +kernel
theorem dL_allocation_10 : decode cL_allocation 10 = .ok (.goto 7, 3) := by decide +kernel
theorem dL_allocation_13 : decode cL_allocation 13 = .ok (.astore 4, 2) := by decide +kernel
theorem dL_allocation_15 : decode cL_allocation 15 = .ok (.iconst 1, 1) := by decide +kernel
theorem dL_allocation_16 : decode cL_allocation 16 = .ok (.ireturn, 1) := by decide +kernel
theorem dL_allocation_17 : decode cL_allocation 17 = .ok (.iconst 0, 1) := by decide +kernel
theorem dL_allocation_18 : decode cL_allocation 18 = .ok (.ireturn, 1) := by decide +kernel
theorem dL_whyNotShipped_0 : decode cL_whyNotShipped 0 = .ok (.aload_n 2, 1) := by decide +kernel
theorem dL_whyNotShipped_1 : decode cL_whyNotShipped 1 = .ok (.iconst 0, 1) := by decide +kernel
theorem dL_whyNotShipped_2 : decode cL_whyNotShipped 2 = .ok (.aload_n 0, 1) := by decide +kernel
theorem dL_whyNotShipped_3 : decode cL_whyNotShipped 3 = .ok (.iload_n 1, 1) := by decide +kernel
theorem dL_whyNotShipped_4 : decode cL_whyNotShipped 4 = .ok (.invokevirtual 100, 3) := by decide +kernel
theorem dL_whyNotShipped_7 : decode cL_whyNotShipped 7 = .ok (.i2l, 1) := by decide +kernel
theorem dL_whyNotShipped_8 : decode cL_whyNotShipped 8 = .ok (.lastore, 1) := by decide +kernel
theorem dL_whyNotShipped_9 : decode cL_whyNotShipped 9 = .ok (.goto 6, 3) := by decide +kernel
theorem dL_whyNotShipped_12 : decode cL_whyNotShipped 12 = .ok (.astore_n 3, 1) := by decide +kernel
theorem dL_whyNotShipped_13 : decode cL_whyNotShipped 13 = .ok (.iconst 1, 1) := by decide +kernel
theorem dL_whyNotShipped_14 : decode cL_whyNotShipped 14 = .ok (.ireturn, 1) := by decide +kernel
theorem dL_whyNotShipped_15 : decode cL_whyNotShipped 15 = .ok (.iconst 0, 1) := by decide +kernel
theorem dL_whyNotShipped_16 : decode cL_whyNotShipped 16 = .ok (.ireturn, 1) := by decide +kernel
theorem dL_receivedUnits_0 : decode cL_receivedUnits 0 = .ok (.aload_n 2, 1) := by decide +kernel
theorem dL_receivedUnits_1 : decode cL_receivedUnits 1 = .ok (.iconst 0, 1) := by decide +kernel
theorem dL_receivedUnits_2 : decode cL_receivedUnits 2 = .ok (.aload_n 0, 1) := by decide +kernel
theorem dL_receivedUnits_3 : decode cL_receivedUnits 3 = .ok (.iload_n 1, 1) := by decide +kernel
theorem dL_receivedUnits_4 : decode cL_receivedUnits 4 = .ok (.invokevirtual 103, 3) := by decide +kernel
theorem dL_receivedUnits_7 : decode cL_receivedUnits 7 = .ok (.i2l, 1) := by decide +kernel
theorem dL_receivedUnits_8 : decode cL_receivedUnits 8 = .ok (.lastore, 1) := by decide +kernel
theorem dL_receivedUnits_9 : decode cL_receivedUnits 9 = .ok (.goto 6, 3) := by decide +kernel
theorem dL_receivedUnits_12 : decode cL_receivedUnits 12 = .ok (.astore_n 3, 1) := by decide +kernel
theorem dL_receivedUnits_13 : decode cL_receivedUnits 13 = .ok (.iconst 1, 1) := by decide +kernel
theorem dL_receivedUnits_14 : decode cL_receivedUnits 14 = .ok (.ireturn, 1) := by decide +kernel
theorem dL_receivedUnits_15 : decode cL_receivedUnits 15 = .ok (.iconst 0, 1) := by decide +kernel
theorem dL_receivedUnits_16 : decode cL_receivedUnits 16 = .ok (.ireturn, 1) := by decide +kernel
theorem dL_deliveredUnits_0 : decode cL_deliveredUnits 0 = .ok (.aload_n 2, 1) := by decide +kernel
theorem dL_deliveredUnits_1 : decode cL_deliveredUnits 1 = .ok (.iconst 0, 1) := by decide +kernel
theorem dL_deliveredUnits_2 : decode cL_deliveredUnits 2 = .ok (.aload_n 0, 1) := by decide +kernel
theorem dL_deliveredUnits_3 : decode cL_deliveredUnits 3 = .ok (.iload_n 1, 1) := by decide +kernel
theorem dL_deliveredUnits_4 : decode cL_deliveredUnits 4 = .ok (.invokevirtual 106, 3) := by decide +kernel
theorem dL_deliveredUnits_7 : decode cL_deliveredUnits 7 = .ok (.i2l, 1) := by decide +kernel
theorem dL_deliveredUnits_8 : decode cL_deliveredUnits 8 = .ok (.lastore, 1) := by decide +kernel
theorem dL_deliveredUnits_9 : decode cL_deliveredUnits 9 = .ok (.goto 6, 3) := by decide +kernel
theorem dL_deliveredUnits_12 : decode cL_deliveredUnits 12 = .ok (.astore_n 3, 1) := by decide +kernel
theorem dL_deliveredUnits_13 : decode cL_deliveredUnits 13 = .ok (.iconst 1, 1) := by decide +kernel
theorem dL_deliveredUnits_14 : decode cL_deliveredUnits 14 = .ok (.ireturn, 1) := by decide +kernel
theorem dL_deliveredUnits_15 : decode cL_deliveredUnits 15 = .ok (.iconst 0, 1) := by decide +kernel
theorem dL_deliveredUnits_16 : decode cL_deliveredUnits 16 = .ok (.ireturn, 1) := by decide +kernel
theorem dL_writtenOffUnits_0 : decode cL_writtenOffUnits 0 = .ok (.aload_n 2, 1) := by decide +kernel
theorem dL_writtenOffUnits_1 : decode cL_writtenOffUnits 1 = .ok (.iconst 0, 1) := by decide +kernel
theorem dL_writtenOffUnits_2 : decode cL_writtenOffUnits 2 = .ok (.aload_n 0, 1) := by decide +kernel
theorem dL_writtenOffUnits_3 : decode cL_writtenOffUnits 3 = .ok (.iload_n 1, 1) := by decide +kernel
theorem dL_writtenOffUnits_4 : decode cL_writtenOffUnits 4 = .ok (.invokevirtual 109, 3) := by decide +kernel
theorem dL_writtenOffUnits_7 : decode cL_writtenOffUnits 7 = .ok (.i2l, 1) := by decide +kernel
theorem dL_writtenOffUnits_8 : decode cL_writtenOffUnits 8 = .ok (.lastore, 1) := by decide +kernel
theorem dL_writtenOffUnits_9 : decode cL_writtenOffUnits 9 = .ok (.goto 6, 3) := by decide +kernel
theorem dL_writtenOffUnits_12 : decode cL_writtenOffUnits 12 = .ok (.astore_n 3, 1) := by decide +kernel
theorem dL_writtenOffUnits_13 : decode cL_writtenOffUnits 13 = .ok (.iconst 1, 1) := by decide +kernel
theorem dL_writtenOffUnits_14 : decode cL_writtenOffUnits 14 = .ok (.ireturn, 1) := by decide +kernel
theorem dL_writtenOffUnits_15 : decode cL_writtenOffUnits 15 = .ok (.iconst 0, 1) := by decide +kernel
theorem dL_writtenOffUnits_16 : decode cL_writtenOffUnits 16 = .ok (.ireturn, 1) := by decide +kernel
theorem dL_adjustment_0 : decode cL_adjustment 0 = .ok (.aload_n 2, 1) := by decide +kernel
theorem dL_adjustment_1 : decode cL_adjustment 1 = .ok (.iconst 0, 1) := by decide +kernel
theorem dL_adjustment_2 : decode cL_adjustment 2 = .ok (.aload_n 0, 1) := by decide +kernel
theorem dL_adjustment_3 : decode cL_adjustment 3 = .ok (.iload_n 1, 1) := by decide +kernel
theorem dL_adjustment_4 : decode cL_adjustment 4 = .ok (.invokevirtual 112, 3) := by decide +kernel
theorem dL_adjustment_7 : decode cL_adjustment 7 = .ok (.i2l, 1) := by decide +kernel
theorem dL_adjustment_8 : decode cL_adjustment 8 = .ok (.lastore, 1) := by decide +kernel
theorem dL_adjustment_9 : decode cL_adjustment 9 = .ok (.goto 6, 3) := by decide +kernel
theorem dL_adjustment_12 : decode cL_adjustment 12 = .ok (.astore_n 3, 1) := by decide +kernel
theorem dL_adjustment_13 : decode cL_adjustment 13 = .ok (.iconst 1, 1) := by decide +kernel
theorem dL_adjustment_14 : decode cL_adjustment 14 = .ok (.ireturn, 1) := by decide +kernel
theorem dL_adjustment_15 : decode cL_adjustment 15 = .ok (.iconst 0, 1) := by decide +kernel
theorem dL_adjustment_16 : decode cL_adjustment 16 = .ok (.ireturn, 1) := by decide +kernel
theorem dL_meanCost_0 : decode cL_meanCost 0 = .ok (.aload_n 2, 1) := by decide +kernel
theorem dL_meanCost_1 : decode cL_meanCost 1 = .ok (.iconst 0, 1) := by decide +kernel
theorem dL_meanCost_2 : decode cL_meanCost 2 = .ok (.aload_n 0, 1) := by decide +kernel
theorem dL_meanCost_3 : decode cL_meanCost 3 = .ok (.iload_n 1, 1) := by decide +kernel
theorem dL_meanCost_4 : decode cL_meanCost 4 = .ok (.invokevirtual 115, 3) := by decide +kernel
theorem dL_meanCost_7 : decode cL_meanCost 7 = .ok (.dastore, 1) := by decide +kernel
theorem dL_meanCost_8 : decode cL_meanCost 8 = .ok (.goto 6, 3) := by decide +kernel
theorem dL_meanCost_11 : decode cL_meanCost 11 = .ok (.astore_n 3, 1) := by decide +kernel
theorem dL_meanCost_12 : decode cL_meanCost 12 = .ok (.iconst 1, 1) := by decide +kernel
theorem dL_meanCost_13 : decode cL_meanCost 13 = .ok (.ireturn, 1) := by decide +kernel
theorem dL_meanCost_14 : decode cL_meanCost 14 = .ok (.iconst 0, 1) := by decide +kernel
theorem dL_meanCost_15 : decode cL_meanCost 15 = .ok (.ireturn, 1) := by decide +kernel
theorem dL_wasteShare_0 : decode cL_wasteShare 0 = .ok (.aload_n 2, 1) := by decide +kernel
theorem dL_wasteShare_1 : decode cL_wasteShare 1 = .ok (.iconst 0, 1) := by decide +kernel
theorem dL_wasteShare_2 : decode cL_wasteShare 2 = .ok (.aload_n 0, 1) := by decide +kernel
theorem dL_wasteShare_3 : decode cL_wasteShare 3 = .ok (.iload_n 1, 1) := by decide +kernel
theorem dL_wasteShare_4 : decode cL_wasteShare 4 = .ok (.invokevirtual 119, 3) := by decide +kernel
theorem dL_wasteShare_7 : decode cL_wasteShare 7 = .ok (.f2d, 1) := by decide +kernel
theorem dL_wasteShare_8 : decode cL_wasteShare 8 = .ok (.dastore, 1) := by decide +kernel
theorem dL_wasteShare_9 : decode cL_wasteShare 9 = .ok (.goto 6, 3) := by decide +kernel
theorem dL_wasteShare_12 : decode cL_wasteShare 12 = .ok (.astore_n 3, 1) := by decide +kernel
theorem dL_wasteShare_13 : decode cL_wasteShare 13 = .ok (.iconst 1, 1) := by decide +kernel
theorem dL_wasteShare_14 : decode cL_wasteShare 14 = .ok (.ireturn, 1) := by decide +kernel
theorem dL_wasteShare_15 : decode cL_wasteShare 15 = .ok (.iconst 0, 1) := by decide +kernel
theorem dL_wasteShare_16 : decode cL_wasteShare 16 = .ok (.ireturn, 1) := by decide +kernel
theorem dL_daysUntilShortage_0 : decode cL_daysUntilShortage 0 = .ok (.aload_n 3, 1) := by decide +kernel
theorem dL_daysUntilShortage_1 : decode cL_daysUntilShortage 1 = .ok (.iconst 0, 1) := by decide +kernel
theorem dL_daysUntilShortage_2 : decode cL_daysUntilShortage 2 = .ok (.aload_n 0, 1) := by decide +kernel
theorem dL_daysUntilShortage_3 : decode cL_daysUntilShortage 3 = .ok (.iload_n 1, 1) := by decide +kernel
theorem dL_daysUntilShortage_4 : decode cL_daysUntilShortage 4 = .ok (.iload_n 2, 1) := by decide +kernel
theorem dL_daysUntilShortage_5 : decode cL_daysUntilShortage 5 = .ok (.invokevirtual 123, 3) := by decide +kernel
theorem dL_daysUntilShortage_8 : decode cL_daysUntilShortage 8 = .ok (.i2l, 1) := by decide +kernel
theorem dL_daysUntilShortage_9 : decode cL_daysUntilShortage 9 = .ok (.lastore, 1) := by decide +kernel
theorem dL_daysUntilShortage_10 : decode cL_daysUntilShortage 10 = .ok (.goto 11, 3) := by decide +kernel
theorem dL_daysUntilShortage_13 : decode cL_daysUntilShortage 13 = .ok (.astore 4, 2) := by decide +kernel
theorem dL_daysUntilShortage_15 : decode cL_daysUntilShortage 15 = .ok (.iconst 1, 1) := by decide +kernel
theorem dL_daysUntilShortage_16 : decode cL_daysUntilShortage 16 = .ok (.ireturn, 1) := by decide +kernel
theorem dL_daysUntilShortage_17 : decode cL_daysUntilShortage 17 = .ok (.astore 4, 2) := by decide +kernel
theorem dL_daysUntilShortage_19 : decode cL_daysUntilShortage 19 = .ok (.iconst 2, 1) := by decide +kernel
theorem dL_daysUntilShortage_20 : decode cL_daysUntilShortage 20 = .ok (.ireturn, 1) := by decide +kernel
theorem dL_daysUntilShortage_21 : decode cL_daysUntilShortage 21 = .ok (.iconst 0, 1) := by decide +kernel
theorem dL_daysUntilShortage_22 : decode cL_daysUntilShortage 22 = .ok (.ireturn, 1) := by decide +kernel
theorem dL_wasteWithDemand_0 : decode cL_wasteWithDemand 0 = .ok (.aload 4, 2) := by decide +kernel
theorem dL_wasteWithDemand_2 : decode cL_wasteWithDemand 2 = .ok (.iconst 0, 1) := by decide +kernel
theorem dL_wasteWithDemand_3 : decode cL_wasteWithDemand 3 = .ok (.aload_n 0, 1) := by decide +kernel
theorem dL_wasteWithDemand_4 : decode cL_wasteWithDemand 4 = .ok (.iload_n 1, 1) := by decide +kernel
theorem dL_wasteWithDemand_5 : decode cL_wasteWithDemand 5 = .ok (.iload_n 2, 1) := by decide +kernel
theorem dL_wasteWithDemand_6 : decode cL_wasteWithDemand 6 = .ok (.iload_n 3, 1) := by decide +kernel
theorem dL_wasteWithDemand_7 : decode cL_wasteWithDemand 7 = .ok (.invokevirtual 126, 3) := by decide +kernel
theorem dL_wasteWithDemand_10 : decode cL_wasteWithDemand 10 = .ok (.i2l, 1) := by decide +kernel
theorem dL_wasteWithDemand_11 : decode cL_wasteWithDemand 11 = .ok (.lastore, 1) := by decide +kernel
theorem dL_wasteWithDemand_12 : decode cL_wasteWithDemand 12 = .ok (.goto 11, 3) := by decide +kernel
theorem dL_wasteWithDemand_15 : decode cL_wasteWithDemand 15 = .ok (.astore 5, 2) := by decide +kernel
theorem dL_wasteWithDemand_17 : decode cL_wasteWithDemand 17 = .ok (.iconst 1, 1) := by decide +kernel
theorem dL_wasteWithDemand_18 : decode cL_wasteWithDemand 18 = .ok (.ireturn, 1) := by decide +kernel
theorem dL_wasteWithDemand_19 : decode cL_wasteWithDemand 19 = .ok (.astore 5, 2) := by decide +kernel
theorem dL_wasteWithDemand_21 : decode cL_wasteWithDemand 21 = .ok (.iconst 2, 1) := by decide +kernel
theorem dL_wasteWithDemand_22 : decode cL_wasteWithDemand 22 = .ok (.ireturn, 1) := by decide +kernel
theorem dL_wasteWithDemand_23 : decode cL_wasteWithDemand 23 = .ok (.iconst 0, 1) := by decide +kernel
theorem dL_wasteWithDemand_24 : decode cL_wasteWithDemand 24 = .ok (.ireturn, 1) := by decide +kernel
theorem dL_demandWithoutWaste_0 : decode cL_demandWithoutWaste 0 = .ok (.aload_n 2, 1) := by decide +kernel
theorem dL_demandWithoutWaste_1 : decode cL_demandWithoutWaste 1 = .ok (.iconst 0, 1) := by decide +kernel
theorem dL_demandWithoutWaste_2 : decode cL_demandWithoutWaste 2 = .ok (.aload_n 0, 1) := by decide +kernel
theorem dL_demandWithoutWaste_3 : decode cL_demandWithoutWaste 3 = .ok (.iload_n 1, 1) := by decide +kernel
theorem dL_demandWithoutWaste_4 : decode cL_demandWithoutWaste 4 = .ok (.invokevirtual 130, 3) := by decide +kernel
theorem dL_demandWithoutWaste_7 : decode cL_demandWithoutWaste 7 = .ok (.i2l, 1) := by decide +kernel
theorem dL_demandWithoutWaste_8 : decode cL_demandWithoutWaste 8 = .ok (.lastore, 1) := by decide +kernel
theorem dL_demandWithoutWaste_9 : decode cL_demandWithoutWaste 9 = .ok (.goto 6, 3) := by decide +kernel
theorem dL_demandWithoutWaste_12 : decode cL_demandWithoutWaste 12 = .ok (.astore_n 3, 1) := by decide +kernel
theorem dL_demandWithoutWaste_13 : decode cL_demandWithoutWaste 13 = .ok (.iconst 1, 1) := by decide +kernel
theorem dL_demandWithoutWaste_14 : decode cL_demandWithoutWaste 14 = .ok (.ireturn, 1) := by decide +kernel
theorem dL_demandWithoutWaste_15 : decode cL_demandWithoutWaste 15 = .ok (.iconst 0, 1) := by decide +kernel
theorem dL_demandWithoutWaste_16 : decode cL_demandWithoutWaste 16 = .ok (.ireturn, 1) := by decide +kernel
theorem dL_receive_0 : decode cL_receive 0 = .ok (.aload 5, 2) := by decide +kernel
theorem dL_receive_2 : decode cL_receive 2 = .ok (.iconst 0, 1) := by decide +kernel
theorem dL_receive_3 : decode cL_receive 3 = .ok (.aload_n 0, 1) := by decide +kernel
theorem dL_receive_4 : decode cL_receive 4 = .ok (.iload_n 1, 1) := by decide +kernel
theorem dL_receive_5 : decode cL_receive 5 = .ok (.iload_n 2, 1) := by decide +kernel
theorem dL_receive_6 : decode cL_receive 6 = .ok (.iload_n 3, 1) := by decide +kernel
theorem dL_receive_7 : decode cL_receive 7 = .ok (.iload 4, 2) := by decide +kernel
theorem dL_receive_9 : decode cL_receive 9 = .ok (.invokevirtual 133, 3) := by decide +kernel
theorem dL_receive_12 : decode cL_receive 12 = .ok (.i2l, 1) := by decide +kernel
theorem dL_receive_13 : decode cL_receive 13 = .ok (.lastore, 1) := by decide +kernel
theorem dL_receive_14 : decode cL_receive 14 = .ok (.goto 15, 3) := by decide +kernel
theorem dL_receive_17 : decode cL_receive 17 = .ok (.astore 6, 2) := by decide +kernel
theorem dL_receive_19 : decode cL_receive 19 = .ok (.iconst 1, 1) := by decide +kernel
theorem dL_receive_20 : decode cL_receive 20 = .ok (.ireturn, 1) := by decide +kernel
theorem dL_receive_21 : decode cL_receive 21 = .ok (.astore 6, 2) := by decide +kernel
theorem dL_receive_23 : decode cL_receive 23 = .ok (.iconst 2, 1) := by decide +kernel
theorem dL_receive_24 : decode cL_receive 24 = .ok (.ireturn, 1) := by decide +kernel
theorem dL_receive_25 : decode cL_receive 25 = .ok (.astore 6, 2) := by decide +kernel
theorem dL_receive_27 : decode cL_receive 27 = .ok (.iconst 3, 1) := by decide +kernel
theorem dL_receive_28 : decode cL_receive 28 = .ok (.ireturn, 1) := by decide +kernel
theorem dL_receive_29 : decode cL_receive 29 = .ok (.iconst 0, 1) := by decide +kernel
theorem dL_receive_30 : decode cL_receive 30 = .ok (.ireturn, 1) := by decide +kernel
theorem dL_issue_0 : decode cL_issue 0 = .ok (.aload_n 3, 1) := by decide +kernel
theorem dL_issue_1 : decode cL_issue 1 = .ok (.iconst 0, 1) := by decide +kernel
theorem dL_issue_2 : decode cL_issue 2 = .ok (.aload_n 0, 1) := by decide +kernel
theorem dL_issue_3 : decode cL_issue 3 = .ok (.iload_n 1, 1) := by decide +kernel
theorem dL_issue_4 : decode cL_issue 4 = .ok (.iload_n 2, 1) := by decide +kernel
theorem dL_issue_5 : decode cL_issue 5 = .ok (.invokevirtual 137, 3) := by decide +kernel
theorem dL_issue_8 : decode cL_issue 8 = .ok (.i2l, 1) := by decide +kernel
theorem dL_issue_9 : decode cL_issue 9 = .ok (.lastore, 1) := by decide +kernel
theorem dL_issue_10 : decode cL_issue 10 = .ok (.goto 15, 3) := by decide +kernel
theorem dL_issue_13 : decode cL_issue 13 = .ok (.astore 4, 2) := by decide +kernel
theorem dL_issue_15 : decode cL_issue 15 = .ok (.iconst 1, 1) := by decide +kernel
theorem dL_issue_16 : decode cL_issue 16 = .ok (.ireturn, 1) := by decide +kernel
theorem dL_issue_17 : decode cL_issue 17 = .ok (.astore 4, 2) := by decide +kernel
theorem dL_issue_19 : decode cL_issue 19 = .ok (.iconst 2, 1) := by decide +kernel
theorem dL_issue_20 : decode cL_issue 20 = .ok (.ireturn, 1) := by decide +kernel
theorem dL_issue_21 : decode cL_issue 21 = .ok (.astore 4, 2) := by decide +kernel
theorem dL_issue_23 : decode cL_issue 23 = .ok (.iconst 3, 1) := by decide +kernel
theorem dL_issue_24 : decode cL_issue 24 = .ok (.ireturn, 1) := by decide +kernel
theorem dL_issue_25 : decode cL_issue 25 = .ok (.iconst 0, 1) := by decide +kernel
theorem dL_issue_26 : decode cL_issue 26 = .ok (.ireturn, 1) := by decide +kernel
theorem dL_reserve_0 : decode cL_reserve 0 = .ok (.aload 4, 2) := by decide +kernel
theorem dL_reserve_2 : decode cL_reserve 2 = .ok (.iconst 0, 1) := by decide +kernel
theorem dL_reserve_3 : decode cL_reserve 3 = .ok (.aload_n 0, 1) := by decide +kernel
theorem dL_reserve_4 : decode cL_reserve 4 = .ok (.iload_n 1, 1) := by decide +kernel
theorem dL_reserve_5 : decode cL_reserve 5 = .ok (.iload_n 2, 1) := by decide +kernel
theorem dL_reserve_6 : decode cL_reserve 6 = .ok (.iload_n 3, 1) := by decide +kernel
theorem dL_reserve_7 : decode cL_reserve 7 = .ok (.invokevirtual 140, 3) := by decide +kernel
theorem dL_reserve_10 : decode cL_reserve 10 = .ok (.i2l, 1) := by decide +kernel
theorem dL_reserve_11 : decode cL_reserve 11 = .ok (.lastore, 1) := by decide +kernel
theorem dL_reserve_12 : decode cL_reserve 12 = .ok (.goto 15, 3) := by decide +kernel
theorem dL_reserve_15 : decode cL_reserve 15 = .ok (.astore 5, 2) := by decide +kernel
theorem dL_reserve_17 : decode cL_reserve 17 = .ok (.iconst 1, 1) := by decide +kernel
theorem dL_reserve_18 : decode cL_reserve 18 = .ok (.ireturn, 1) := by decide +kernel
theorem dL_reserve_19 : decode cL_reserve 19 = .ok (.astore 5, 2) := by decide +kernel
theorem dL_reserve_21 : decode cL_reserve 21 = .ok (.iconst 2, 1) := by decide +kernel
theorem dL_reserve_22 : decode cL_reserve 22 = .ok (.ireturn, 1) := by decide +kernel
theorem dL_reserve_23 : decode cL_reserve 23 = .ok (.astore 5, 2) := by decide +kernel
theorem dL_reserve_25 : decode cL_reserve 25 = .ok (.iconst 3, 1) := by decide +kernel
theorem dL_reserve_26 : decode cL_reserve 26 = .ok (.ireturn, 1) := by decide +kernel
theorem dL_reserve_27 : decode cL_reserve 27 = .ok (.iconst 0, 1) := by decide +kernel
theorem dL_reserve_28 : decode cL_reserve 28 = .ok (.ireturn, 1) := by decide +kernel
theorem dL_ship_0 : decode cL_ship 0 = .ok (.aload_n 2, 1) := by decide +kernel
theorem dL_ship_1 : decode cL_ship 1 = .ok (.iconst 0, 1) := by decide +kernel
theorem dL_ship_2 : decode cL_ship 2 = .ok (.aload_n 0, 1) := by decide +kernel
theorem dL_ship_3 : decode cL_ship 3 = .ok (.iload_n 1, 1) := by decide +kernel
theorem dL_ship_4 : decode cL_ship 4 = .ok (.invokevirtual 143, 3) := by decide +kernel
theorem dL_ship_7 : decode cL_ship 7 = .ok (.i2l, 1) := by decide +kernel
theorem dL_ship_8 : decode cL_ship 8 = .ok (.lastore, 1) := by decide +kernel
theorem dL_ship_9 : decode cL_ship 9 = .ok (.goto 9, 3) := by decide +kernel
theorem dL_ship_12 : decode cL_ship 12 = .ok (.astore_n 3, 1) := by decide +kernel
theorem dL_ship_13 : decode cL_ship 13 = .ok (.iconst 1, 1) := by decide +kernel
theorem dL_ship_14 : decode cL_ship 14 = .ok (.ireturn, 1) := by decide +kernel
theorem dL_ship_15 : decode cL_ship 15 = .ok (.astore_n 3, 1) := by decide +kernel
theorem dL_ship_16 : decode cL_ship 16 = .ok (.iconst 2, 1) := by decide +kernel
theorem dL_ship_17 : decode cL_ship 17 = .ok (.ireturn, 1) := by decide +kernel
theorem dL_ship_18 : decode cL_ship 18 = .ok (.iconst 0, 1) := by decide +kernel
theorem dL_ship_19 : decode cL_ship 19 = .ok (.ireturn, 1) := by decide +kernel
theorem dL_cancel_0 : decode cL_cancel 0 = .ok (.aload_n 2, 1) := by decide +kernel
theorem dL_cancel_1 : decode cL_cancel 1 = .ok (.iconst 0, 1) := by decide +kernel
theorem dL_cancel_2 : decode cL_cancel 2 = .ok (.aload_n 0, 1) := by decide +kernel
theorem dL_cancel_3 : decode cL_cancel 3 = .ok (.iload_n 1, 1) := by decide +kernel
theorem dL_cancel_4 : decode cL_cancel 4 = .ok (.invokevirtual 146, 3) := by decide +kernel
theorem dL_cancel_7 : decode cL_cancel 7 = .ok (.i2l, 1) := by decide +kernel
theorem dL_cancel_8 : decode cL_cancel 8 = .ok (.lastore, 1) := by decide +kernel
theorem dL_cancel_9 : decode cL_cancel 9 = .ok (.goto 9, 3) := by decide +kernel
theorem dL_cancel_12 : decode cL_cancel 12 = .ok (.astore_n 3, 1) := by decide +kernel
theorem dL_cancel_13 : decode cL_cancel 13 = .ok (.iconst 1, 1) := by decide +kernel
theorem dL_cancel_14 : decode cL_cancel 14 = .ok (.ireturn, 1) := by decide +kernel
theorem dL_cancel_15 : decode cL_cancel 15 = .ok (.astore_n 3, 1) := by decide +kernel
theorem dL_cancel_16 : decode cL_cancel 16 = .ok (.iconst 2, 1) := by decide +kernel
theorem dL_cancel_17 : decode cL_cancel 17 = .ok (.ireturn, 1) := by decide +kernel
theorem dL_cancel_18 : decode cL_cancel 18 = .ok (.iconst 0, 1) := by decide +kernel
theorem dL_cancel_19 : decode cL_cancel 19 = .ok (.ireturn, 1) := by decide +kernel
theorem dL_refill_0 : decode cL_refill 0 = .ok (.aload_n 2, 1) := by decide +kernel
theorem dL_refill_1 : decode cL_refill 1 = .ok (.iconst 0, 1) := by decide +kernel
theorem dL_refill_2 : decode cL_refill 2 = .ok (.aload_n 0, 1) := by decide +kernel
theorem dL_refill_3 : decode cL_refill 3 = .ok (.iload_n 1, 1) := by decide +kernel
theorem dL_refill_4 : decode cL_refill 4 = .ok (.invokevirtual 149, 3) := by decide +kernel
theorem dL_refill_7 : decode cL_refill 7 = .ok (.i2l, 1) := by decide +kernel
theorem dL_refill_8 : decode cL_refill 8 = .ok (.lastore, 1) := by decide +kernel
theorem dL_refill_9 : decode cL_refill 9 = .ok (.goto 9, 3) := by decide +kernel
theorem dL_refill_12 : decode cL_refill 12 = .ok (.astore_n 3, 1) := by decide +kernel
theorem dL_refill_13 : decode cL_refill 13 = .ok (.iconst 1, 1) := by decide +kernel
theorem dL_refill_14 : decode cL_refill 14 = .ok (.ireturn, 1) := by decide +kernel
theorem dL_refill_15 : decode cL_refill 15 = .ok (.astore_n 3, 1) := by decide +kernel
theorem dL_refill_16 : decode cL_refill 16 = .ok (.iconst 2, 1) := by decide +kernel
theorem dL_refill_17 : decode cL_refill 17 = .ok (.ireturn, 1) := by decide +kernel
theorem dL_refill_18 : decode cL_refill 18 = .ok (.iconst 0, 1) := by decide +kernel
theorem dL_refill_19 : decode cL_refill 19 = .ok (.ireturn, 1) := by decide +kernel
theorem dL_takeStock_0 : decode cL_takeStock 0 = .ok (.aload_n 3, 1) := by decide +kernel
theorem dL_takeStock_1 : decode cL_takeStock 1 = .ok (.iconst 0, 1) := by decide +kernel
theorem dL_takeStock_2 : decode cL_takeStock 2 = .ok (.aload_n 0, 1) := by decide +kernel
theorem dL_takeStock_3 : decode cL_takeStock 3 = .ok (.iload_n 1, 1) := by decide +kernel
theorem dL_takeStock_4 : decode cL_takeStock 4 = .ok (.iload_n 2, 1) := by decide +kernel
theorem dL_takeStock_5 : decode cL_takeStock 5 = .ok (.invokevirtual 152, 3) := by decide +kernel
theorem dL_takeStock_8 : decode cL_takeStock 8 = .ok (.i2l, 1) := by decide +kernel
theorem dL_takeStock_9 : decode cL_takeStock 9 = .ok (.lastore, 1) := by decide +kernel
theorem dL_takeStock_10 : decode cL_takeStock 10 = .ok (.goto 15, 3) := by decide +kernel
theorem dL_takeStock_13 : decode cL_takeStock 13 = .ok (.astore 4, 2) := by decide +kernel
theorem dL_takeStock_15 : decode cL_takeStock 15 = .ok (.iconst 1, 1) := by decide +kernel
theorem dL_takeStock_16 : decode cL_takeStock 16 = .ok (.ireturn, 1) := by decide +kernel
theorem dL_takeStock_17 : decode cL_takeStock 17 = .ok (.astore 4, 2) := by decide +kernel
theorem dL_takeStock_19 : decode cL_takeStock 19 = .ok (.iconst 2, 1) := by decide +kernel
theorem dL_takeStock_20 : decode cL_takeStock 20 = .ok (.ireturn, 1) := by decide +kernel
theorem dL_takeStock_21 : decode cL_takeStock 21 = .ok (.astore 4, 2) := by decide +kernel
theorem dL_takeStock_23 : decode cL_takeStock 23 = .ok (.iconst 3, 1) := by decide +kernel
theorem dL_takeStock_24 : decode cL_takeStock 24 = .ok (.ireturn, 1) := by decide +kernel
theorem dL_takeStock_25 : decode cL_takeStock 25 = .ok (.iconst 0, 1) := by decide +kernel
theorem dL_takeStock_26 : decode cL_takeStock 26 = .ok (.ireturn, 1) := by decide +kernel
theorem dL_passDays_0 : decode cL_passDays 0 = .ok (.aload_n 2, 1) := by decide +kernel
theorem dL_passDays_1 : decode cL_passDays 1 = .ok (.iconst 0, 1) := by decide +kernel
theorem dL_passDays_2 : decode cL_passDays 2 = .ok (.aload_n 0, 1) := by decide +kernel
theorem dL_passDays_3 : decode cL_passDays 3 = .ok (.iload_n 1, 1) := by decide +kernel
theorem dL_passDays_4 : decode cL_passDays 4 = .ok (.invokevirtual 155, 3) := by decide +kernel
theorem dL_passDays_7 : decode cL_passDays 7 = .ok (.i2l, 1) := by decide +kernel
theorem dL_passDays_8 : decode cL_passDays 8 = .ok (.lastore, 1) := by decide +kernel
theorem dL_passDays_9 : decode cL_passDays 9 = .ok (.goto 9, 3) := by decide +kernel
theorem dL_passDays_12 : decode cL_passDays 12 = .ok (.astore_n 3, 1) := by decide +kernel
theorem dL_passDays_13 : decode cL_passDays 13 = .ok (.iconst 1, 1) := by decide +kernel
theorem dL_passDays_14 : decode cL_passDays 14 = .ok (.ireturn, 1) := by decide +kernel
theorem dL_passDays_15 : decode cL_passDays 15 = .ok (.astore_n 3, 1) := by decide +kernel
theorem dL_passDays_16 : decode cL_passDays 16 = .ok (.iconst 2, 1) := by decide +kernel
theorem dL_passDays_17 : decode cL_passDays 17 = .ok (.ireturn, 1) := by decide +kernel
theorem dL_passDays_18 : decode cL_passDays 18 = .ok (.iconst 0, 1) := by decide +kernel
theorem dL_passDays_19 : decode cL_passDays 19 = .ok (.ireturn, 1) := by decide +kernel
theorem dL_runScript_0 : decode cL_runScript 0 = .ok (.aload_n 1, 1) := by decide +kernel
theorem dL_runScript_1 : decode cL_runScript 1 = .ok (.iconst 0, 1) := by decide +kernel
theorem dL_runScript_2 : decode cL_runScript 2 = .ok (.aload_n 0, 1) := by decide +kernel
theorem dL_runScript_3 : decode cL_runScript 3 = .ok (.invokevirtual 158, 3) := by decide +kernel
theorem dL_runScript_6 : decode cL_runScript 6 = .ok (.i2l, 1) := by decide +kernel
theorem dL_runScript_7 : decode cL_runScript 7 = .ok (.lastore, 1) := by decide +kernel
theorem dL_runScript_8 : decode cL_runScript 8 = .ok (.goto 6, 3) := by decide +kernel
theorem dL_runScript_11 : decode cL_runScript 11 = .ok (.astore_n 2, 1) := by decide +kernel
theorem dL_runScript_12 : decode cL_runScript 12 = .ok (.iconst 1, 1) := by decide +kernel
theorem dL_runScript_13 : decode cL_runScript 13 = .ok (.ireturn, 1) := by decide +kernel
theorem dL_runScript_14 : decode cL_runScript 14 = .ok (.iconst 0, 1) := by decide +kernel
theorem dL_runScript_15 : decode cL_runScript 15 = .ok (.ireturn, 1) := by decide +kernel
theorem dL_undo_0 : decode cL_undo 0 = .ok (.aload_n 1, 1) := by decide +kernel
theorem dL_undo_1 : decode cL_undo 1 = .ok (.iconst 0, 1) := by decide +kernel
theorem dL_undo_2 : decode cL_undo 2 = .ok (.aload_n 0, 1) := by decide +kernel
theorem dL_undo_3 : decode cL_undo 3 = .ok (.invokevirtual 161, 3) := by decide +kernel
theorem dL_undo_6 : decode cL_undo 6 = .ok (.i2l, 1) := by decide +kernel
theorem dL_undo_7 : decode cL_undo 7 = .ok (.lastore, 1) := by decide +kernel
theorem dL_undo_8 : decode cL_undo 8 = .ok (.goto 6, 3) := by decide +kernel
theorem dL_undo_11 : decode cL_undo 11 = .ok (.astore_n 2, 1) := by decide +kernel
theorem dL_undo_12 : decode cL_undo 12 = .ok (.iconst 1, 1) := by decide +kernel
theorem dL_undo_13 : decode cL_undo 13 = .ok (.ireturn, 1) := by decide +kernel
theorem dL_undo_14 : decode cL_undo 14 = .ok (.iconst 0, 1) := by decide +kernel
theorem dL_undo_15 : decode cL_undo 15 = .ok (.ireturn, 1) := by decide +kernel
theorem dL_save_0 : decode cL_save 0 = .ok (.aload_n 2, 1) := by decide +kernel
theorem dL_save_1 : decode cL_save 1 = .ok (.iconst 0, 1) := by decide +kernel
theorem dL_save_2 : decode cL_save 2 = .ok (.aload_n 0, 1) := by decide +kernel
theorem dL_save_3 : decode cL_save 3 = .ok (.iload_n 1, 1) := by decide +kernel
theorem dL_save_4 : decode cL_save 4 = .ok (.invokevirtual 164, 3) := by decide +kernel
theorem dL_save_7 : decode cL_save 7 = .ok (.i2l, 1) := by decide +kernel
theorem dL_save_8 : decode cL_save 8 = .ok (.lastore, 1) := by decide +kernel
theorem dL_save_9 : decode cL_save 9 = .ok (.goto 6, 3) := by decide +kernel
theorem dL_save_12 : decode cL_save 12 = .ok (.astore_n 3, 1) := by decide +kernel
theorem dL_save_13 : decode cL_save 13 = .ok (.iconst 1, 1) := by decide +kernel
theorem dL_save_14 : decode cL_save 14 = .ok (.ireturn, 1) := by decide +kernel
theorem dL_save_15 : decode cL_save 15 = .ok (.iconst 0, 1) := by decide +kernel
theorem dL_save_16 : decode cL_save 16 = .ok (.ireturn, 1) := by decide +kernel
theorem dL_restore_0 : decode cL_restore 0 = .ok (.aload_n 2, 1) := by decide +kernel
theorem dL_restore_1 : decode cL_restore 1 = .ok (.iconst 0, 1) := by decide +kernel
theorem dL_restore_2 : decode cL_restore 2 = .ok (.aload_n 0, 1) := by decide +kernel
theorem dL_restore_3 : decode cL_restore 3 = .ok (.iload_n 1, 1) := by decide +kernel
theorem dL_restore_4 : decode cL_restore 4 = .ok (.invokevirtual 167, 3) := by decide +kernel
theorem dL_restore_7 : decode cL_restore 7 = .ok (.i2l, 1) := by decide +kernel
theorem dL_restore_8 : decode cL_restore 8 = .ok (.lastore, 1) := by decide +kernel
theorem dL_restore_9 : decode cL_restore 9 = .ok (.goto 9, 3) := by decide +kernel
theorem dL_restore_12 : decode cL_restore 12 = .ok (.astore_n 3, 1) := by decide +kernel
theorem dL_restore_13 : decode cL_restore 13 = .ok (.iconst 1, 1) := by decide +kernel
theorem dL_restore_14 : decode cL_restore 14 = .ok (.ireturn, 1) := by decide +kernel
theorem dL_restore_15 : decode cL_restore 15 = .ok (.astore_n 3, 1) := by decide +kernel
theorem dL_restore_16 : decode cL_restore 16 = .ok (.iconst 2, 1) := by decide +kernel
theorem dL_restore_17 : decode cL_restore 17 = .ok (.ireturn, 1) := by decide +kernel
theorem dL_restore_18 : decode cL_restore 18 = .ok (.iconst 0, 1) := by decide +kernel
theorem dL_restore_19 : decode cL_restore 19 = .ok (.ireturn, 1) := by decide +kernel
theorem dL_writeBatches_0 : decode cL_writeBatches 0 = .ok (.aload_n 2, 1) := by decide +kernel
theorem dL_writeBatches_1 : decode cL_writeBatches 1 = .ok (.iconst 0, 1) := by decide +kernel
theorem dL_writeBatches_2 : decode cL_writeBatches 2 = .ok (.aload_n 0, 1) := by decide +kernel
theorem dL_writeBatches_3 : decode cL_writeBatches 3 = .ok (.iload_n 1, 1) := by decide +kernel
theorem dL_writeBatches_4 : decode cL_writeBatches 4 = .ok (.invokevirtual 170, 3) := by decide +kernel
theorem dL_writeBatches_7 : decode cL_writeBatches 7 = .ok (.i2l, 1) := by decide +kernel
theorem dL_writeBatches_8 : decode cL_writeBatches 8 = .ok (.lastore, 1) := by decide +kernel
theorem dL_writeBatches_9 : decode cL_writeBatches 9 = .ok (.goto 6, 3) := by decide +kernel
theorem dL_writeBatches_12 : decode cL_writeBatches 12 = .ok (.astore_n 3, 1) := by decide +kernel
theorem dL_writeBatches_13 : decode cL_writeBatches 13 = .ok (.iconst 1, 1) := by decide +kernel
theorem dL_writeBatches_14 : decode cL_writeBatches 14 = .ok (.ireturn, 1) := by decide +kernel
theorem dL_writeBatches_15 : decode cL_writeBatches 15 = .ok (.iconst 0, 1) := by decide +kernel
theorem dL_writeBatches_16 : decode cL_writeBatches 16 = .ok (.ireturn, 1) := by decide +kernel
theorem dL_outputByte_0 : decode cL_outputByte 0 = .ok (.aload_n 2, 1) := by decide +kernel
theorem dL_outputByte_1 : decode cL_outputByte 1 = .ok (.iconst 0, 1) := by decide +kernel
theorem dL_outputByte_2 : decode cL_outputByte 2 = .ok (.aload_n 0, 1) := by decide +kernel
theorem dL_outputByte_3 : decode cL_outputByte 3 = .ok (.iload_n 1, 1) := by decide +kernel
theorem dL_outputByte_4 : decode cL_outputByte 4 = .ok (.invokevirtual 173, 3) := by decide +kernel
theorem dL_outputByte_7 : decode cL_outputByte 7 = .ok (.i2l, 1) := by decide +kernel
theorem dL_outputByte_8 : decode cL_outputByte 8 = .ok (.lastore, 1) := by decide +kernel
theorem dL_outputByte_9 : decode cL_outputByte 9 = .ok (.goto 6, 3) := by decide +kernel
theorem dL_outputByte_12 : decode cL_outputByte 12 = .ok (.astore_n 3, 1) := by decide +kernel
theorem dL_outputByte_13 : decode cL_outputByte 13 = .ok (.iconst 1, 1) := by decide +kernel
theorem dL_outputByte_14 : decode cL_outputByte 14 = .ok (.ireturn, 1) := by decide +kernel
theorem dL_outputByte_15 : decode cL_outputByte 15 = .ok (.iconst 0, 1) := by decide +kernel
theorem dL_outputByte_16 : decode cL_outputByte 16 = .ok (.ireturn, 1) := by decide +kernel
