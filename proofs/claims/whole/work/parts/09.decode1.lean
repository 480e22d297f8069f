/-! ===== printed by wip/whole/links.py: each instruction, decoded ===== -/
theorem D_Grid_init_0 : decode m_Grid_init.2.1 0 = .ok (.aload_n 0, 1) := by decide +kernel
theorem D_Grid_init_1 : decode m_Grid_init.2.1 1 = .ok (.invokespecial 3, 3) := by decide +kernel
theorem D_Grid_init_4 : decode m_Grid_init.2.1 4 = .ok (.aload_n 0, 1) := by decide +kernel
theorem D_Grid_init_5 : decode m_Grid_init.2.1 5 = .ok (.new 9, 3) := by decide +kernel
theorem D_Grid_init_8 : decode m_Grid_init.2.1 8 = .ok (.dup, 1) := by decide +kernel
theorem D_Grid_init_9 : decode m_Grid_init.2.1 9 = .ok (.bipush 36, 2) := by decide +kernel
theorem D_Grid_init_11 : decode m_Grid_init.2.1 11 = .ok (.invokespecial 11, 3) := by decide +kernel
theorem D_Grid_init_14 : decode m_Grid_init.2.1 14 = .ok (.putfield 14, 3) := by decide +kernel
theorem D_Grid_init_17 : decode m_Grid_init.2.1 17 = .ok (.aload_n 0, 1) := by decide +kernel
theorem D_Grid_init_18 : decode m_Grid_init.2.1 18 = .ok (.iconst 3, 1) := by decide +kernel
theorem D_Grid_init_19 : decode m_Grid_init.2.1 19 = .ok (.putfield 20, 3) := by decide +kernel
theorem D_Grid_init_22 : decode m_Grid_init.2.1 22 = .ok (.aload_n 0, 1) := by decide +kernel
theorem D_Grid_init_23 : decode m_Grid_init.2.1 23 = .ok (.iconst 3, 1) := by decide +kernel
theorem D_Grid_init_24 : decode m_Grid_init.2.1 24 = .ok (.putfield 24, 3) := by decide +kernel
theorem D_Grid_init_27 : decode m_Grid_init.2.1 27 = .ok (.aload_n 0, 1) := by decide +kernel
theorem D_Grid_init_28 : decode m_Grid_init.2.1 28 = .ok (.bipush 7, 2) := by decide +kernel
theorem D_Grid_init_30 : decode m_Grid_init.2.1 30 = .ok (.putfield 27, 3) := by decide +kernel
theorem D_Grid_init_33 : decode m_Grid_init.2.1 33 = .ok (.return_, 1) := by decide +kernel
theorem D_Grid_rows_0 : decode m_Grid_rows.2.1 0 = .ok (.aload_n 0, 1) := by decide +kernel
theorem D_Grid_rows_1 : decode m_Grid_rows.2.1 1 = .ok (.getfield 20, 3) := by decide +kernel
theorem D_Grid_rows_4 : decode m_Grid_rows.2.1 4 = .ok (.ireturn, 1) := by decide +kernel
theorem D_Grid_columns_0 : decode m_Grid_columns.2.1 0 = .ok (.aload_n 0, 1) := by decide +kernel
theorem D_Grid_columns_1 : decode m_Grid_columns.2.1 1 = .ok (.getfield 24, 3) := by decide +kernel
theorem D_Grid_columns_4 : decode m_Grid_columns.2.1 4 = .ok (.ireturn, 1) := by decide +kernel
theorem D_Grid_modulus_0 : decode m_Grid_modulus.2.1 0 = .ok (.aload_n 0, 1) := by decide +kernel
theorem D_Grid_modulus_1 : decode m_Grid_modulus.2.1 1 = .ok (.getfield 27, 3) := by decide +kernel
theorem D_Grid_modulus_4 : decode m_Grid_modulus.2.1 4 = .ok (.ireturn, 1) := by decide +kernel
theorem D_Grid_clear_0 : decode m_Grid_clear.2.1 0 = .ok (.aload_n 0, 1) := by decide +kernel
theorem D_Grid_clear_1 : decode m_Grid_clear.2.1 1 = .ok (.iload_n 1, 1) := by decide +kernel
theorem D_Grid_clear_2 : decode m_Grid_clear.2.1 2 = .ok (.putfield 20, 3) := by decide +kernel
theorem D_Grid_clear_5 : decode m_Grid_clear.2.1 5 = .ok (.aload_n 0, 1) := by decide +kernel
theorem D_Grid_clear_6 : decode m_Grid_clear.2.1 6 = .ok (.iload_n 2, 1) := by decide +kernel
theorem D_Grid_clear_7 : decode m_Grid_clear.2.1 7 = .ok (.putfield 24, 3) := by decide +kernel
theorem D_Grid_clear_10 : decode m_Grid_clear.2.1 10 = .ok (.aload_n 0, 1) := by decide +kernel
theorem D_Grid_clear_11 : decode m_Grid_clear.2.1 11 = .ok (.iload_n 3, 1) := by decide +kernel
theorem D_Grid_clear_12 : decode m_Grid_clear.2.1 12 = .ok (.putfield 27, 3) := by decide +kernel
theorem D_Grid_clear_15 : decode m_Grid_clear.2.1 15 = .ok (.aload_n 0, 1) := by decide +kernel
theorem D_Grid_clear_16 : decode m_Grid_clear.2.1 16 = .ok (.getfield 14, 3) := by decide +kernel
theorem D_Grid_clear_19 : decode m_Grid_clear.2.1 19 = .ok (.iconst 0, 1) := by decide +kernel
theorem D_Grid_clear_20 : decode m_Grid_clear.2.1 20 = .ok (.invokevirtual 30, 3) := by decide +kernel
theorem D_Grid_clear_23 : decode m_Grid_clear.2.1 23 = .ok (.return_, 1) := by decide +kernel
theorem D_Grid_copyFrom_0 : decode m_Grid_copyFrom.2.1 0 = .ok (.aload_n 0, 1) := by decide +kernel
theorem D_Grid_copyFrom_1 : decode m_Grid_copyFrom.2.1 1 = .ok (.aload_n 1, 1) := by decide +kernel
theorem D_Grid_copyFrom_2 : decode m_Grid_copyFrom.2.1 2 = .ok (.getfield 20, 3) := by decide +kernel
theorem D_Grid_copyFrom_5 : decode m_Grid_copyFrom.2.1 5 = .ok (.putfield 20, 3) := by decide +kernel
theorem D_Grid_copyFrom_8 : decode m_Grid_copyFrom.2.1 8 = .ok (.aload_n 0, 1) := by decide +kernel
theorem D_Grid_copyFrom_9 : decode m_Grid_copyFrom.2.1 9 = .ok (.aload_n 1, 1) := by decide +kernel
theorem D_Grid_copyFrom_10 : decode m_Grid_copyFrom.2.1 10 = .ok (.getfield 24, 3) := by decide +kernel
theorem D_Grid_copyFrom_13 : decode m_Grid_copyFrom.2.1 13 = .ok (.putfield 24, 3) := by decide +kernel
theorem D_Grid_copyFrom_16 : decode m_Grid_copyFrom.2.1 16 = .ok (.aload_n 0, 1) := by decide +kernel
theorem D_Grid_copyFrom_17 : decode m_Grid_copyFrom.2.1 17 = .ok (.aload_n 1, 1) := by decide +kernel
theorem D_Grid_copyFrom_18 : decode m_Grid_copyFrom.2.1 18 = .ok (.getfield 27, 3) := by decide +kernel
theorem D_Grid_copyFrom_21 : decode m_Grid_copyFrom.2.1 21 = .ok (.putfield 27, 3) := by decide +kernel
theorem D_Grid_copyFrom_24 : decode m_Grid_copyFrom.2.1 24 = .ok (.aload_n 0, 1) := by decide +kernel
theorem D_Grid_copyFrom_25 : decode m_Grid_copyFrom.2.1 25 = .ok (.getfield 14, 3) := by decide +kernel
theorem D_Grid_copyFrom_28 : decode m_Grid_copyFrom.2.1 28 = .ok (.aload_n 1, 1) := by decide +kernel
theorem D_Grid_copyFrom_29 : decode m_Grid_copyFrom.2.1 29 = .ok (.getfield 14, 3) := by decide +kernel
theorem D_Grid_copyFrom_32 : decode m_Grid_copyFrom.2.1 32 = .ok (.invokevirtual 33, 3) := by decide +kernel
theorem D_Grid_copyFrom_35 : decode m_Grid_copyFrom.2.1 35 = .ok (.return_, 1) := by decide +kernel
theorem D_Grid_has_0 : decode m_Grid_has.2.1 0 = .ok (.iload_n 1, 1) := by decide +kernel
theorem D_Grid_has_1 : decode m_Grid_has.2.1 1 = .ok (.ifCond .lt 27, 3) := by decide +kernel
theorem D_Grid_has_4 : decode m_Grid_has.2.1 4 = .ok (.iload_n 1, 1) := by decide +kernel
theorem D_Grid_has_5 : decode m_Grid_has.2.1 5 = .ok (.aload_n 0, 1) := by decide +kernel
theorem D_Grid_has_6 : decode m_Grid_has.2.1 6 = .ok (.getfield 20, 3) := by decide +kernel
theorem D_Grid_has_9 : decode m_Grid_has.2.1 9 = .ok (.if_icmp .ge 19, 3) := by decide +kernel
theorem D_Grid_has_12 : decode m_Grid_has.2.1 12 = .ok (.iload_n 2, 1) := by decide +kernel
theorem D_Grid_has_13 : decode m_Grid_has.2.1 13 = .ok (.ifCond .lt 15, 3) := by decide +kernel
theorem D_Grid_has_16 : decode m_Grid_has.2.1 16 = .ok (.iload_n 2, 1) := by decide +kernel
theorem D_Grid_has_17 : decode m_Grid_has.2.1 17 = .ok (.aload_n 0, 1) := by decide +kernel
theorem D_Grid_has_18 : decode m_Grid_has.2.1 18 = .ok (.getfield 24, 3) := by decide +kernel
theorem D_Grid_has_21 : decode m_Grid_has.2.1 21 = .ok (.if_icmp .ge 7, 3) := by decide +kernel
theorem D_Grid_has_24 : decode m_Grid_has.2.1 24 = .ok (.iconst 1, 1) := by decide +kernel
theorem D_Grid_has_25 : decode m_Grid_has.2.1 25 = .ok (.goto 4, 3) := by decide +kernel
theorem D_Grid_has_28 : decode m_Grid_has.2.1 28 = .ok (.iconst 0, 1) := by decide +kernel
theorem D_Grid_has_29 : decode m_Grid_has.2.1 29 = .ok (.ireturn, 1) := by decide +kernel
theorem D_Grid_number_0 : decode m_Grid_number.2.1 0 = .ok (.aload_n 0, 1) := by decide +kernel
theorem D_Grid_number_1 : decode m_Grid_number.2.1 1 = .ok (.iload_n 1, 1) := by decide +kernel
theorem D_Grid_number_2 : decode m_Grid_number.2.1 2 = .ok (.iload_n 2, 1) := by decide +kernel
theorem D_Grid_number_3 : decode m_Grid_number.2.1 3 = .ok (.invokevirtual 37, 3) := by decide +kernel
theorem D_Grid_number_6 : decode m_Grid_number.2.1 6 = .ok (.ifCond .eq 19, 3) := by decide +kernel
theorem D_Grid_number_9 : decode m_Grid_number.2.1 9 = .ok (.aload_n 0, 1) := by decide +kernel
theorem D_Grid_number_10 : decode m_Grid_number.2.1 10 = .ok (.getfield 14, 3) := by decide +kernel
theorem D_Grid_number_13 : decode m_Grid_number.2.1 13 = .ok (.bipush 6, 2) := by decide +kernel
theorem D_Grid_number_15 : decode m_Grid_number.2.1 15 = .ok (.iload_n 1, 1) := by decide +kernel
theorem D_Grid_number_16 : decode m_Grid_number.2.1 16 = .ok (.imul, 1) := by decide +kernel
theorem D_Grid_number_17 : decode m_Grid_number.2.1 17 = .ok (.iload_n 2, 1) := by decide +kernel
theorem D_Grid_number_18 : decode m_Grid_number.2.1 18 = .ok (.iadd, 1) := by decide +kernel
theorem D_Grid_number_19 : decode m_Grid_number.2.1 19 = .ok (.invokevirtual 41, 3) := by decide +kernel
theorem D_Grid_number_22 : decode m_Grid_number.2.1 22 = .ok (.goto 4, 3) := by decide +kernel
theorem D_Grid_number_25 : decode m_Grid_number.2.1 25 = .ok (.iconst 0, 1) := by decide +kernel
theorem D_Grid_number_26 : decode m_Grid_number.2.1 26 = .ok (.ireturn, 1) := by decide +kernel
theorem D_Grid_setNumber_0 : decode m_Grid_setNumber.2.1 0 = .ok (.aload_n 0, 1) := by decide +kernel
theorem D_Grid_setNumber_1 : decode m_Grid_setNumber.2.1 1 = .ok (.iload_n 1, 1) := by decide +kernel
theorem D_Grid_setNumber_2 : decode m_Grid_setNumber.2.1 2 = .ok (.iload_n 2, 1) := by decide +kernel
theorem D_Grid_setNumber_3 : decode m_Grid_setNumber.2.1 3 = .ok (.invokevirtual 37, 3) := by decide +kernel
theorem D_Grid_setNumber_6 : decode m_Grid_setNumber.2.1 6 = .ok (.ifCond .eq 17, 3) := by decide +kernel
theorem D_Grid_setNumber_9 : decode m_Grid_setNumber.2.1 9 = .ok (.aload_n 0, 1) := by decide +kernel
theorem D_Grid_setNumber_10 : decode m_Grid_setNumber.2.1 10 = .ok (.getfield 14, 3) := by decide +kernel
theorem D_Grid_setNumber_13 : decode m_Grid_setNumber.2.1 13 = .ok (.bipush 6, 2) := by decide +kernel
theorem D_Grid_setNumber_15 : decode m_Grid_setNumber.2.1 15 = .ok (.iload_n 1, 1) := by decide +kernel
theorem D_Grid_setNumber_16 : decode m_Grid_setNumber.2.1 16 = .ok (.imul, 1) := by decide +kernel
theorem D_Grid_setNumber_17 : decode m_Grid_setNumber.2.1 17 = .ok (.iload_n 2, 1) := by decide +kernel
theorem D_Grid_setNumber_18 : decode m_Grid_setNumber.2.1 18 = .ok (.iadd, 1) := by decide +kernel
theorem D_Grid_setNumber_19 : decode m_Grid_setNumber.2.1 19 = .ok (.iload_n 3, 1) := by decide +kernel
theorem D_Grid_setNumber_20 : decode m_Grid_setNumber.2.1 20 = .ok (.invokevirtual 45, 3) := by decide +kernel
theorem D_Grid_setNumber_23 : decode m_Grid_setNumber.2.1 23 = .ok (.return_, 1) := by decide +kernel
theorem D_Grid_toldInRow_0 : decode m_Grid_toldInRow.2.1 0 = .ok (.iconst 0, 1) := by decide +kernel
theorem D_Grid_toldInRow_1 : decode m_Grid_toldInRow.2.1 1 = .ok (.istore_n 2, 1) := by decide +kernel
theorem D_Grid_toldInRow_2 : decode m_Grid_toldInRow.2.1 2 = .ok (.iconst 0, 1) := by decide +kernel
theorem D_Grid_toldInRow_3 : decode m_Grid_toldInRow.2.1 3 = .ok (.istore_n 3, 1) := by decide +kernel
theorem D_Grid_toldInRow_4 : decode m_Grid_toldInRow.2.1 4 = .ok (.iload_n 3, 1) := by decide +kernel
theorem D_Grid_toldInRow_5 : decode m_Grid_toldInRow.2.1 5 = .ok (.aload_n 0, 1) := by decide +kernel
theorem D_Grid_toldInRow_6 : decode m_Grid_toldInRow.2.1 6 = .ok (.getfield 24, 3) := by decide +kernel
theorem D_Grid_toldInRow_9 : decode m_Grid_toldInRow.2.1 9 = .ok (.if_icmp .ge 24, 3) := by decide +kernel
theorem D_Grid_toldInRow_12 : decode m_Grid_toldInRow.2.1 12 = .ok (.aload_n 0, 1) := by decide +kernel
theorem D_Grid_toldInRow_13 : decode m_Grid_toldInRow.2.1 13 = .ok (.iload_n 1, 1) := by decide +kernel
theorem D_Grid_toldInRow_14 : decode m_Grid_toldInRow.2.1 14 = .ok (.iload_n 3, 1) := by decide +kernel
theorem D_Grid_toldInRow_15 : decode m_Grid_toldInRow.2.1 15 = .ok (.invokevirtual 49, 3) := by decide +kernel
theorem D_Grid_toldInRow_18 : decode m_Grid_toldInRow.2.1 18 = .ok (.ifCond .eq 9, 3) := by decide +kernel
theorem D_Grid_toldInRow_21 : decode m_Grid_toldInRow.2.1 21 = .ok (.iload_n 2, 1) := by decide +kernel
theorem D_Grid_toldInRow_22 : decode m_Grid_toldInRow.2.1 22 = .ok (.iconst 1, 1) := by decide +kernel
theorem D_Grid_toldInRow_23 : decode m_Grid_toldInRow.2.1 23 = .ok (.iload_n 3, 1) := by decide +kernel
theorem D_Grid_toldInRow_24 : decode m_Grid_toldInRow.2.1 24 = .ok (.ishl, 1) := by decide +kernel
theorem D_Grid_toldInRow_25 : decode m_Grid_toldInRow.2.1 25 = .ok (.ior, 1) := by decide +kernel
theorem D_Grid_toldInRow_26 : decode m_Grid_toldInRow.2.1 26 = .ok (.istore_n 2, 1) := by decide +kernel
theorem D_Grid_toldInRow_27 : decode m_Grid_toldInRow.2.1 27 = .ok (.iinc 3 1, 3) := by decide +kernel
theorem D_Grid_toldInRow_30 : decode m_Grid_toldInRow.2.1 30 = .ok (.goto (-26), 3) := by decide +kernel
theorem D_Grid_toldInRow_33 : decode m_Grid_toldInRow.2.1 33 = .ok (.iload_n 2, 1) := by decide +kernel
theorem D_Grid_toldInRow_34 : decode m_Grid_toldInRow.2.1 34 = .ok (.ireturn, 1) := by decide +kernel
theorem D_Grid_toldCount_0 : decode m_Grid_toldCount.2.1 0 = .ok (.iconst 0, 1) := by decide +kernel
theorem D_Grid_toldCount_1 : decode m_Grid_toldCount.2.1 1 = .ok (.istore_n 1, 1) := by decide +kernel
theorem D_Grid_toldCount_2 : decode m_Grid_toldCount.2.1 2 = .ok (.iconst 0, 1) := by decide +kernel
theorem D_Grid_toldCount_3 : decode m_Grid_toldCount.2.1 3 = .ok (.istore_n 2, 1) := by decide +kernel
theorem D_Grid_toldCount_4 : decode m_Grid_toldCount.2.1 4 = .ok (.iload_n 2, 1) := by decide +kernel
theorem D_Grid_toldCount_5 : decode m_Grid_toldCount.2.1 5 = .ok (.aload_n 0, 1) := by decide +kernel
theorem D_Grid_toldCount_6 : decode m_Grid_toldCount.2.1 6 = .ok (.getfield 20, 3) := by decide +kernel
theorem D_Grid_toldCount_9 : decode m_Grid_toldCount.2.1 9 = .ok (.if_icmp .ge 20, 3) := by decide +kernel
theorem D_Grid_toldCount_12 : decode m_Grid_toldCount.2.1 12 = .ok (.iload_n 1, 1) := by decide +kernel
theorem D_Grid_toldCount_13 : decode m_Grid_toldCount.2.1 13 = .ok (.aload_n 0, 1) := by decide +kernel
theorem D_Grid_toldCount_14 : decode m_Grid_toldCount.2.1 14 = .ok (.iload_n 2, 1) := by decide +kernel
theorem D_Grid_toldCount_15 : decode m_Grid_toldCount.2.1 15 = .ok (.invokevirtual 53, 3) := by decide +kernel
theorem D_Grid_toldCount_18 : decode m_Grid_toldCount.2.1 18 = .ok (.invokestatic 56, 3) := by decide +kernel
theorem D_Grid_toldCount_21 : decode m_Grid_toldCount.2.1 21 = .ok (.iadd, 1) := by decide +kernel
theorem D_Grid_toldCount_22 : decode m_Grid_toldCount.2.1 22 = .ok (.istore_n 1, 1) := by decide +kernel
theorem D_Grid_toldCount_23 : decode m_Grid_toldCount.2.1 23 = .ok (.iinc 2 1, 3) := by decide +kernel
theorem D_Grid_toldCount_26 : decode m_Grid_toldCount.2.1 26 = .ok (.goto (-22), 3) := by decide +kernel
theorem D_Grid_toldCount_29 : decode m_Grid_toldCount.2.1 29 = .ok (.iload_n 1, 1) := by decide +kernel
theorem D_Grid_toldCount_30 : decode m_Grid_toldCount.2.1 30 = .ok (.ireturn, 1) := by decide +kernel
theorem D_Grid_product_0 : decode m_Grid_product.2.1 0 = .ok (.aload_n 0, 1) := by decide +kernel
theorem D_Grid_product_1 : decode m_Grid_product.2.1 1 = .ok (.getfield 27, 3) := by decide +kernel
theorem D_Grid_product_4 : decode m_Grid_product.2.1 4 = .ok (.ifCond .le 14, 3) := by decide +kernel
theorem D_Grid_product_7 : decode m_Grid_product.2.1 7 = .ok (.iload_n 1, 1) := by decide +kernel
theorem D_Grid_product_8 : decode m_Grid_product.2.1 8 = .ok (.iload_n 2, 1) := by decide +kernel
theorem D_Grid_product_9 : decode m_Grid_product.2.1 9 = .ok (.imul, 1) := by decide +kernel
theorem D_Grid_product_10 : decode m_Grid_product.2.1 10 = .ok (.aload_n 0, 1) := by decide +kernel
theorem D_Grid_product_11 : decode m_Grid_product.2.1 11 = .ok (.getfield 27, 3) := by decide +kernel
theorem D_Grid_product_14 : decode m_Grid_product.2.1 14 = .ok (.irem, 1) := by decide +kernel
theorem D_Grid_product_15 : decode m_Grid_product.2.1 15 = .ok (.goto 4, 3) := by decide +kernel
theorem D_Grid_product_18 : decode m_Grid_product.2.1 18 = .ok (.iconst 0, 1) := by decide +kernel
theorem D_Grid_product_19 : decode m_Grid_product.2.1 19 = .ok (.ireturn, 1) := by decide +kernel
theorem D_Grid_remainder_0 : decode m_Grid_remainder.2.1 0 = .ok (.aload_n 0, 1) := by decide +kernel
theorem D_Grid_remainder_1 : decode m_Grid_remainder.2.1 1 = .ok (.getfield 27, 3) := by decide +kernel
theorem D_Grid_remainder_4 : decode m_Grid_remainder.2.1 4 = .ok (.ifCond .le 12, 3) := by decide +kernel
theorem D_Grid_remainder_7 : decode m_Grid_remainder.2.1 7 = .ok (.iload_n 1, 1) := by decide +kernel
theorem D_Grid_remainder_8 : decode m_Grid_remainder.2.1 8 = .ok (.aload_n 0, 1) := by decide +kernel
theorem D_Grid_remainder_9 : decode m_Grid_remainder.2.1 9 = .ok (.getfield 27, 3) := by decide +kernel
theorem D_Grid_remainder_12 : decode m_Grid_remainder.2.1 12 = .ok (.irem, 1) := by decide +kernel
theorem D_Grid_remainder_13 : decode m_Grid_remainder.2.1 13 = .ok (.goto 4, 3) := by decide +kernel
theorem D_Grid_remainder_16 : decode m_Grid_remainder.2.1 16 = .ok (.iconst 0, 1) := by decide +kernel
theorem D_Grid_remainder_17 : decode m_Grid_remainder.2.1 17 = .ok (.ireturn, 1) := by decide +kernel
theorem D_Grid_quotient_0 : decode m_Grid_quotient.2.1 0 = .ok (.iconst 0, 1) := by decide +kernel
theorem D_Grid_quotient_1 : decode m_Grid_quotient.2.1 1 = .ok (.istore_n 3, 1) := by decide +kernel
theorem D_Grid_quotient_2 : decode m_Grid_quotient.2.1 2 = .ok (.iload_n 3, 1) := by decide +kernel
theorem D_Grid_quotient_3 : decode m_Grid_quotient.2.1 3 = .ok (.aload_n 0, 1) := by decide +kernel
theorem D_Grid_quotient_4 : decode m_Grid_quotient.2.1 4 = .ok (.getfield 27, 3) := by decide +kernel
theorem D_Grid_quotient_7 : decode m_Grid_quotient.2.1 7 = .ok (.if_icmp .ge 21, 3) := by decide +kernel
theorem D_Grid_quotient_10 : decode m_Grid_quotient.2.1 10 = .ok (.aload_n 0, 1) := by decide +kernel
theorem D_Grid_quotient_11 : decode m_Grid_quotient.2.1 11 = .ok (.iload_n 3, 1) := by decide +kernel
theorem D_Grid_quotient_12 : decode m_Grid_quotient.2.1 12 = .ok (.iload_n 2, 1) := by decide +kernel
theorem D_Grid_quotient_13 : decode m_Grid_quotient.2.1 13 = .ok (.invokevirtual 61, 3) := by decide +kernel
theorem D_Grid_quotient_16 : decode m_Grid_quotient.2.1 16 = .ok (.iload_n 1, 1) := by decide +kernel
theorem D_Grid_quotient_17 : decode m_Grid_quotient.2.1 17 = .ok (.if_icmp .ne 5, 3) := by decide +kernel
theorem D_Grid_quotient_20 : decode m_Grid_quotient.2.1 20 = .ok (.iload_n 3, 1) := by decide +kernel
theorem D_Grid_quotient_21 : decode m_Grid_quotient.2.1 21 = .ok (.ireturn, 1) := by decide +kernel
theorem D_Grid_quotient_22 : decode m_Grid_quotient.2.1 22 = .ok (.iinc 3 1, 3) := by decide +kernel
theorem D_Grid_quotient_25 : decode m_Grid_quotient.2.1 25 = .ok (.goto (-23), 3) := by decide +kernel
theorem D_Grid_quotient_28 : decode m_Grid_quotient.2.1 28 = .ok (.iconst 0, 1) := by decide +kernel
theorem D_Grid_quotient_29 : decode m_Grid_quotient.2.1 29 = .ok (.ireturn, 1) := by decide +kernel
theorem D_Hist_init_0 : decode m_Hist_init.2.1 0 = .ok (.aload_n 0, 1) := by decide +kernel
theorem D_Hist_init_1 : decode m_Hist_init.2.1 1 = .ok (.invokespecial 3, 3) := by decide +kernel
theorem D_Hist_init_4 : decode m_Hist_init.2.1 4 = .ok (.aload_n 0, 1) := by decide +kernel
theorem D_Hist_init_5 : decode m_Hist_init.2.1 5 = .ok (.bipush 6, 2) := by decide +kernel
theorem D_Hist_init_7 : decode m_Hist_init.2.1 7 = .ok (.anewarray 9, 3) := by decide +kernel
theorem D_Hist_init_10 : decode m_Hist_init.2.1 10 = .ok (.putfield 11, 3) := by decide +kernel
theorem D_Hist_init_13 : decode m_Hist_init.2.1 13 = .ok (.iconst 0, 1) := by decide +kernel
theorem D_Hist_init_14 : decode m_Hist_init.2.1 14 = .ok (.istore_n 1, 1) := by decide +kernel
theorem D_Hist_init_15 : decode m_Hist_init.2.1 15 = .ok (.iload_n 1, 1) := by decide +kernel
theorem D_Hist_init_16 : decode m_Hist_init.2.1 16 = .ok (.aload_n 0, 1) := by decide +kernel
theorem D_Hist_init_17 : decode m_Hist_init.2.1 17 = .ok (.getfield 11, 3) := by decide +kernel
theorem D_Hist_init_20 : decode m_Hist_init.2.1 20 = .ok (.arraylength, 1) := by decide +kernel
theorem D_Hist_init_21 : decode m_Hist_init.2.1 21 = .ok (.if_icmp .ge 22, 3) := by decide +kernel
theorem D_Hist_init_24 : decode m_Hist_init.2.1 24 = .ok (.aload_n 0, 1) := by decide +kernel
theorem D_Hist_init_25 : decode m_Hist_init.2.1 25 = .ok (.getfield 11, 3) := by decide +kernel
theorem D_Hist_init_28 : decode m_Hist_init.2.1 28 = .ok (.iload_n 1, 1) := by decide +kernel
theorem D_Hist_init_29 : decode m_Hist_init.2.1 29 = .ok (.new 9, 3) := by decide +kernel
theorem D_Hist_init_32 : decode m_Hist_init.2.1 32 = .ok (.dup, 1) := by decide +kernel
theorem D_Hist_init_33 : decode m_Hist_init.2.1 33 = .ok (.invokespecial 17, 3) := by decide +kernel
theorem D_Hist_init_36 : decode m_Hist_init.2.1 36 = .ok (.aastore, 1) := by decide +kernel
theorem D_Hist_init_37 : decode m_Hist_init.2.1 37 = .ok (.iinc 1 1, 3) := by decide +kernel
theorem D_Hist_init_40 : decode m_Hist_init.2.1 40 = .ok (.goto (-25), 3) := by decide +kernel
theorem D_Hist_init_43 : decode m_Hist_init.2.1 43 = .ok (.return_, 1) := by decide +kernel
theorem D_Hist_size_0 : decode m_Hist_size.2.1 0 = .ok (.aload_n 0, 1) := by decide +kernel
theorem D_Hist_size_1 : decode m_Hist_size.2.1 1 = .ok (.getfield 18, 3) := by decide +kernel
theorem D_Hist_size_4 : decode m_Hist_size.2.1 4 = .ok (.ireturn, 1) := by decide +kernel
theorem D_Hist_record_0 : decode m_Hist_record.2.1 0 = .ok (.aload_n 0, 1) := by decide +kernel
theorem D_Hist_record_1 : decode m_Hist_record.2.1 1 = .ok (.getfield 18, 3) := by decide +kernel
theorem D_Hist_record_4 : decode m_Hist_record.2.1 4 = .ok (.bipush 6, 2) := by decide +kernel
theorem D_Hist_record_6 : decode m_Hist_record.2.1 6 = .ok (.if_icmp .ne 26, 3) := by decide +kernel
theorem D_Hist_record_9 : decode m_Hist_record.2.1 9 = .ok (.aload_n 0, 1) := by decide +kernel
theorem D_Hist_record_10 : decode m_Hist_record.2.1 10 = .ok (.aload_n 0, 1) := by decide +kernel
theorem D_Hist_record_11 : decode m_Hist_record.2.1 11 = .ok (.getfield 22, 3) := by decide +kernel
theorem D_Hist_record_14 : decode m_Hist_record.2.1 14 = .ok (.iconst 1, 1) := by decide +kernel
theorem D_Hist_record_15 : decode m_Hist_record.2.1 15 = .ok (.iadd, 1) := by decide +kernel
theorem D_Hist_record_16 : decode m_Hist_record.2.1 16 = .ok (.bipush 6, 2) := by decide +kernel
theorem D_Hist_record_18 : decode m_Hist_record.2.1 18 = .ok (.irem, 1) := by decide +kernel
theorem D_Hist_record_19 : decode m_Hist_record.2.1 19 = .ok (.putfield 22, 3) := by decide +kernel
theorem D_Hist_record_22 : decode m_Hist_record.2.1 22 = .ok (.aload_n 0, 1) := by decide +kernel
theorem D_Hist_record_23 : decode m_Hist_record.2.1 23 = .ok (.dup, 1) := by decide +kernel
theorem D_Hist_record_24 : decode m_Hist_record.2.1 24 = .ok (.getfield 18, 3) := by decide +kernel
theorem D_Hist_record_27 : decode m_Hist_record.2.1 27 = .ok (.iconst 1, 1) := by decide +kernel
theorem D_Hist_record_28 : decode m_Hist_record.2.1 28 = .ok (.isub, 1) := by decide +kernel
theorem D_Hist_record_29 : decode m_Hist_record.2.1 29 = .ok (.putfield 18, 3) := by decide +kernel
theorem D_Hist_record_32 : decode m_Hist_record.2.1 32 = .ok (.aload_n 0, 1) := by decide +kernel
theorem D_Hist_record_33 : decode m_Hist_record.2.1 33 = .ok (.aload_n 0, 1) := by decide +kernel
theorem D_Hist_record_34 : decode m_Hist_record.2.1 34 = .ok (.getfield 18, 3) := by decide +kernel
theorem D_Hist_record_37 : decode m_Hist_record.2.1 37 = .ok (.invokevirtual 25, 3) := by decide +kernel
theorem D_Hist_record_40 : decode m_Hist_record.2.1 40 = .ok (.astore_n 2, 1) := by decide +kernel
theorem D_Hist_record_41 : decode m_Hist_record.2.1 41 = .ok (.aload_n 2, 1) := by decide +kernel
theorem D_Hist_record_42 : decode m_Hist_record.2.1 42 = .ok (.ifnull 18, 3) := by decide +kernel
theorem D_Hist_record_45 : decode m_Hist_record.2.1 45 = .ok (.aload_n 2, 1) := by decide +kernel
theorem D_Hist_record_46 : decode m_Hist_record.2.1 46 = .ok (.aload_n 1, 1) := by decide +kernel
theorem D_Hist_record_47 : decode m_Hist_record.2.1 47 = .ok (.invokevirtual 29, 3) := by decide +kernel
theorem D_Hist_record_50 : decode m_Hist_record.2.1 50 = .ok (.aload_n 0, 1) := by decide +kernel
theorem D_Hist_record_51 : decode m_Hist_record.2.1 51 = .ok (.dup, 1) := by decide +kernel
theorem D_Hist_record_52 : decode m_Hist_record.2.1 52 = .ok (.getfield 18, 3) := by decide +kernel
theorem D_Hist_record_55 : decode m_Hist_record.2.1 55 = .ok (.iconst 1, 1) := by decide +kernel
theorem D_Hist_record_56 : decode m_Hist_record.2.1 56 = .ok (.iadd, 1) := by decide +kernel
theorem D_Hist_record_57 : decode m_Hist_record.2.1 57 = .ok (.putfield 18, 3) := by decide +kernel
theorem D_Hist_record_60 : decode m_Hist_record.2.1 60 = .ok (.return_, 1) := by decide +kernel
theorem D_Hist_takeLatest_0 : decode m_Hist_takeLatest.2.1 0 = .ok (.aload_n 0, 1) := by decide +kernel
theorem D_Hist_takeLatest_1 : decode m_Hist_takeLatest.2.1 1 = .ok (.getfield 18, 3) := by decide +kernel
theorem D_Hist_takeLatest_4 : decode m_Hist_takeLatest.2.1 4 = .ok (.ifCond .ne 5, 3) := by decide +kernel
theorem D_Hist_takeLatest_7 : decode m_Hist_takeLatest.2.1 7 = .ok (.aconst_null, 1) := by decide +kernel
theorem D_Hist_takeLatest_8 : decode m_Hist_takeLatest.2.1 8 = .ok (.areturn, 1) := by decide +kernel
theorem D_Hist_takeLatest_9 : decode m_Hist_takeLatest.2.1 9 = .ok (.aload_n 0, 1) := by decide +kernel
theorem D_Hist_takeLatest_10 : decode m_Hist_takeLatest.2.1 10 = .ok (.dup, 1) := by decide +kernel
theorem D_Hist_takeLatest_11 : decode m_Hist_takeLatest.2.1 11 = .ok (.getfield 18, 3) := by decide +kernel
theorem D_Hist_takeLatest_14 : decode m_Hist_takeLatest.2.1 14 = .ok (.iconst 1, 1) := by decide +kernel
theorem D_Hist_takeLatest_15 : decode m_Hist_takeLatest.2.1 15 = .ok (.isub, 1) := by decide +kernel
theorem D_Hist_takeLatest_16 : decode m_Hist_takeLatest.2.1 16 = .ok (.putfield 18, 3) := by decide +kernel
theorem D_Hist_takeLatest_19 : decode m_Hist_takeLatest.2.1 19 = .ok (.aload_n 0, 1) := by decide +kernel
theorem D_Hist_takeLatest_20 : decode m_Hist_takeLatest.2.1 20 = .ok (.aload_n 0, 1) := by decide +kernel
theorem D_Hist_takeLatest_21 : decode m_Hist_takeLatest.2.1 21 = .ok (.getfield 18, 3) := by decide +kernel
theorem D_Hist_takeLatest_24 : decode m_Hist_takeLatest.2.1 24 = .ok (.invokevirtual 25, 3) := by decide +kernel
theorem D_Hist_takeLatest_27 : decode m_Hist_takeLatest.2.1 27 = .ok (.areturn, 1) := by decide +kernel
theorem D_Hist_pastAt_0 : decode m_Hist_pastAt.2.1 0 = .ok (.aload_n 0, 1) := by decide +kernel
theorem D_Hist_pastAt_1 : decode m_Hist_pastAt.2.1 1 = .ok (.getfield 22, 3) := by decide +kernel
theorem D_Hist_pastAt_4 : decode m_Hist_pastAt.2.1 4 = .ok (.iload_n 1, 1) := by decide +kernel
theorem D_Hist_pastAt_5 : decode m_Hist_pastAt.2.1 5 = .ok (.iadd, 1) := by decide +kernel
theorem D_Hist_pastAt_6 : decode m_Hist_pastAt.2.1 6 = .ok (.bipush 6, 2) := by decide +kernel
theorem D_Hist_pastAt_8 : decode m_Hist_pastAt.2.1 8 = .ok (.irem, 1) := by decide +kernel
theorem D_Hist_pastAt_9 : decode m_Hist_pastAt.2.1 9 = .ok (.istore_n 2, 1) := by decide +kernel
theorem D_Hist_pastAt_10 : decode m_Hist_pastAt.2.1 10 = .ok (.iload_n 2, 1) := by decide +kernel
theorem D_Hist_pastAt_11 : decode m_Hist_pastAt.2.1 11 = .ok (.ifCond .lt 21, 3) := by decide +kernel
theorem D_Hist_pastAt_14 : decode m_Hist_pastAt.2.1 14 = .ok (.iload_n 2, 1) := by decide +kernel
theorem D_Hist_pastAt_15 : decode m_Hist_pastAt.2.1 15 = .ok (.aload_n 0, 1) := by decide +kernel
theorem D_Hist_pastAt_16 : decode m_Hist_pastAt.2.1 16 = .ok (.getfield 11, 3) := by decide +kernel
theorem D_Hist_pastAt_19 : decode m_Hist_pastAt.2.1 19 = .ok (.arraylength, 1) := by decide +kernel
theorem D_Hist_pastAt_20 : decode m_Hist_pastAt.2.1 20 = .ok (.if_icmp .ge 12, 3) := by decide +kernel
theorem D_Hist_pastAt_23 : decode m_Hist_pastAt.2.1 23 = .ok (.aload_n 0, 1) := by decide +kernel
theorem D_Hist_pastAt_24 : decode m_Hist_pastAt.2.1 24 = .ok (.getfield 11, 3) := by decide +kernel
theorem D_Hist_pastAt_27 : decode m_Hist_pastAt.2.1 27 = .ok (.iload_n 2, 1) := by decide +kernel
theorem D_Hist_pastAt_28 : decode m_Hist_pastAt.2.1 28 = .ok (.aaload, 1) := by decide +kernel
theorem D_Hist_pastAt_29 : decode m_Hist_pastAt.2.1 29 = .ok (.goto 4, 3) := by decide +kernel
theorem D_Hist_pastAt_32 : decode m_Hist_pastAt.2.1 32 = .ok (.aconst_null, 1) := by decide +kernel
theorem D_Hist_pastAt_33 : decode m_Hist_pastAt.2.1 33 = .ok (.areturn, 1) := by decide +kernel
theorem D_Min_init_0 : decode m_Min_init.2.1 0 = .ok (.aload_n 0, 1) := by decide +kernel
theorem D_Min_init_1 : decode m_Min_init.2.1 1 = .ok (.invokespecial 3, 3) := by decide +kernel
theorem D_Min_init_4 : decode m_Min_init.2.1 4 = .ok (.aload_n 0, 1) := by decide +kernel
theorem D_Min_init_5 : decode m_Min_init.2.1 5 = .ok (.new 9, 3) := by decide +kernel
theorem D_Min_init_8 : decode m_Min_init.2.1 8 = .ok (.dup, 1) := by decide +kernel
theorem D_Min_init_9 : decode m_Min_init.2.1 9 = .ok (.bipush 36, 2) := by decide +kernel
theorem D_Min_init_11 : decode m_Min_init.2.1 11 = .ok (.invokespecial 11, 3) := by decide +kernel
theorem D_Min_init_14 : decode m_Min_init.2.1 14 = .ok (.putfield 14, 3) := by decide +kernel
theorem D_Min_init_17 : decode m_Min_init.2.1 17 = .ok (.return_, 1) := by decide +kernel
theorem D_Min_countAll_0 : decode m_Min_countAll.2.1 0 = .ok (.iconst 0, 1) := by decide +kernel
theorem D_Min_countAll_1 : decode m_Min_countAll.2.1 1 = .ok (.istore_n 3, 1) := by decide +kernel
theorem D_Min_countAll_2 : decode m_Min_countAll.2.1 2 = .ok (.iconst 0, 1) := by decide +kernel
theorem D_Min_countAll_3 : decode m_Min_countAll.2.1 3 = .ok (.istore 4, 2) := by decide +kernel
theorem D_Min_countAll_5 : decode m_Min_countAll.2.1 5 = .ok (.iload 4, 2) := by decide +kernel
theorem D_Min_countAll_7 : decode m_Min_countAll.2.1 7 = .ok (.aload_n 1, 1) := by decide +kernel
theorem D_Min_countAll_8 : decode m_Min_countAll.2.1 8 = .ok (.invokevirtual 20, 3) := by decide +kernel
theorem D_Min_countAll_11 : decode m_Min_countAll.2.1 11 = .ok (.if_icmp .ge 40, 3) := by decide +kernel
theorem D_Min_countAll_14 : decode m_Min_countAll.2.1 14 = .ok (.iconst 0, 1) := by decide +kernel
theorem D_Min_countAll_15 : decode m_Min_countAll.2.1 15 = .ok (.istore 5, 2) := by decide +kernel
theorem D_Min_countAll_17 : decode m_Min_countAll.2.1 17 = .ok (.iload 5, 2) := by decide +kernel
theorem D_Min_countAll_19 : decode m_Min_countAll.2.1 19 = .ok (.aload_n 1, 1) := by decide +kernel
theorem D_Min_countAll_20 : decode m_Min_countAll.2.1 20 = .ok (.invokevirtual 26, 3) := by decide +kernel
theorem D_Min_countAll_23 : decode m_Min_countAll.2.1 23 = .ok (.if_icmp .ge 22, 3) := by decide +kernel
theorem D_Min_countAll_26 : decode m_Min_countAll.2.1 26 = .ok (.iload_n 3, 1) := by decide +kernel
theorem D_Min_countAll_27 : decode m_Min_countAll.2.1 27 = .ok (.aload_n 0, 1) := by decide +kernel
theorem D_Min_countAll_28 : decode m_Min_countAll.2.1 28 = .ok (.aload_n 1, 1) := by decide +kernel
theorem D_Min_countAll_29 : decode m_Min_countAll.2.1 29 = .ok (.iload 4, 2) := by decide +kernel
theorem D_Min_countAll_31 : decode m_Min_countAll.2.1 31 = .ok (.iload 5, 2) := by decide +kernel
theorem D_Min_countAll_33 : decode m_Min_countAll.2.1 33 = .ok (.iload_n 2, 1) := by decide +kernel
theorem D_Min_countAll_34 : decode m_Min_countAll.2.1 34 = .ok (.invokevirtual 29, 3) := by decide +kernel
theorem D_Min_countAll_37 : decode m_Min_countAll.2.1 37 = .ok (.iadd, 1) := by decide +kernel
theorem D_Min_countAll_38 : decode m_Min_countAll.2.1 38 = .ok (.istore_n 3, 1) := by decide +kernel
theorem D_Min_countAll_39 : decode m_Min_countAll.2.1 39 = .ok (.iinc 5 1, 3) := by decide +kernel
theorem D_Min_countAll_42 : decode m_Min_countAll.2.1 42 = .ok (.goto (-25), 3) := by decide +kernel
theorem D_Min_countAll_45 : decode m_Min_countAll.2.1 45 = .ok (.iinc 4 1, 3) := by decide +kernel
theorem D_Min_countAll_48 : decode m_Min_countAll.2.1 48 = .ok (.goto (-43), 3) := by decide +kernel
theorem D_Min_countAll_51 : decode m_Min_countAll.2.1 51 = .ok (.iload_n 3, 1) := by decide +kernel
theorem D_Min_countAll_52 : decode m_Min_countAll.2.1 52 = .ok (.ireturn, 1) := by decide +kernel
theorem D_Min_countBelow_0 : decode m_Min_countBelow.2.1 0 = .ok (.iconst 0, 1) := by decide +kernel
theorem D_Min_countBelow_1 : decode m_Min_countBelow.2.1 1 = .ok (.istore 5, 2) := by decide +kernel
theorem D_Min_countBelow_3 : decode m_Min_countBelow.2.1 3 = .ok (.iload_n 2, 1) := by decide +kernel
theorem D_Min_countBelow_4 : decode m_Min_countBelow.2.1 4 = .ok (.iconst 1, 1) := by decide +kernel
theorem D_Min_countBelow_5 : decode m_Min_countBelow.2.1 5 = .ok (.iadd, 1) := by decide +kernel
theorem D_Min_countBelow_6 : decode m_Min_countBelow.2.1 6 = .ok (.istore 6, 2) := by decide +kernel
theorem D_Min_countBelow_8 : decode m_Min_countBelow.2.1 8 = .ok (.iload 6, 2) := by decide +kernel
theorem D_Min_countBelow_10 : decode m_Min_countBelow.2.1 10 = .ok (.aload_n 1, 1) := by decide +kernel
theorem D_Min_countBelow_11 : decode m_Min_countBelow.2.1 11 = .ok (.invokevirtual 20, 3) := by decide +kernel
theorem D_Min_countBelow_14 : decode m_Min_countBelow.2.1 14 = .ok (.if_icmp .ge 63, 3) := by decide +kernel
theorem D_Min_countBelow_17 : decode m_Min_countBelow.2.1 17 = .ok (.iload_n 3, 1) := by decide +kernel
theorem D_Min_countBelow_18 : decode m_Min_countBelow.2.1 18 = .ok (.iconst 1, 1) := by decide +kernel
theorem D_Min_countBelow_19 : decode m_Min_countBelow.2.1 19 = .ok (.iadd, 1) := by decide +kernel
theorem D_Min_countBelow_20 : decode m_Min_countBelow.2.1 20 = .ok (.istore 7, 2) := by decide +kernel
theorem D_Min_countBelow_22 : decode m_Min_countBelow.2.1 22 = .ok (.iload 7, 2) := by decide +kernel
theorem D_Min_countBelow_24 : decode m_Min_countBelow.2.1 24 = .ok (.aload_n 1, 1) := by decide +kernel
theorem D_Min_countBelow_25 : decode m_Min_countBelow.2.1 25 = .ok (.invokevirtual 26, 3) := by decide +kernel
theorem D_Min_countBelow_28 : decode m_Min_countBelow.2.1 28 = .ok (.if_icmp .ge 43, 3) := by decide +kernel
theorem D_Min_countBelow_31 : decode m_Min_countBelow.2.1 31 = .ok (.aload_n 1, 1) := by decide +kernel
theorem D_Min_countBelow_32 : decode m_Min_countBelow.2.1 32 = .ok (.iload_n 2, 1) := by decide +kernel
theorem D_Min_countBelow_33 : decode m_Min_countBelow.2.1 33 = .ok (.iload 6, 2) := by decide +kernel
theorem D_Min_countBelow_35 : decode m_Min_countBelow.2.1 35 = .ok (.iload_n 3, 1) := by decide +kernel
theorem D_Min_countBelow_36 : decode m_Min_countBelow.2.1 36 = .ok (.iload 7, 2) := by decide +kernel
theorem D_Min_countBelow_38 : decode m_Min_countBelow.2.1 38 = .ok (.invokestatic 33, 3) := by decide +kernel
theorem D_Min_countBelow_41 : decode m_Min_countBelow.2.1 41 = .ok (.ifCond .eq 24, 3) := by decide +kernel
theorem D_Min_countBelow_44 : decode m_Min_countBelow.2.1 44 = .ok (.iload 4, 2) := by decide +kernel
theorem D_Min_countBelow_46 : decode m_Min_countBelow.2.1 46 = .ok (.ifCond .eq 16, 3) := by decide +kernel
theorem D_Min_countBelow_49 : decode m_Min_countBelow.2.1 49 = .ok (.aload_n 1, 1) := by decide +kernel
theorem D_Min_countBelow_50 : decode m_Min_countBelow.2.1 50 = .ok (.iload_n 2, 1) := by decide +kernel
theorem D_Min_countBelow_51 : decode m_Min_countBelow.2.1 51 = .ok (.iload 6, 2) := by decide +kernel
theorem D_Min_countBelow_53 : decode m_Min_countBelow.2.1 53 = .ok (.iload_n 3, 1) := by decide +kernel
theorem D_Min_countBelow_54 : decode m_Min_countBelow.2.1 54 = .ok (.iload 7, 2) := by decide +kernel
theorem D_Min_countBelow_56 : decode m_Min_countBelow.2.1 56 = .ok (.invokestatic 37, 3) := by decide +kernel
theorem D_Min_countBelow_59 : decode m_Min_countBelow.2.1 59 = .ok (.ifCond .ne 6, 3) := by decide +kernel
theorem D_Min_countBelow_62 : decode m_Min_countBelow.2.1 62 = .ok (.iinc 5 1, 3) := by decide +kernel
theorem D_Min_countBelow_65 : decode m_Min_countBelow.2.1 65 = .ok (.iinc 7 1, 3) := by decide +kernel
theorem D_Min_countBelow_68 : decode m_Min_countBelow.2.1 68 = .ok (.goto (-46), 3) := by decide +kernel
theorem D_Min_countBelow_71 : decode m_Min_countBelow.2.1 71 = .ok (.iinc 6 1, 3) := by decide +kernel
theorem D_Min_countBelow_74 : decode m_Min_countBelow.2.1 74 = .ok (.goto (-66), 3) := by decide +kernel
theorem D_Min_countBelow_77 : decode m_Min_countBelow.2.1 77 = .ok (.iload 5, 2) := by decide +kernel
theorem D_Min_countBelow_79 : decode m_Min_countBelow.2.1 79 = .ok (.ireturn, 1) := by decide +kernel
theorem D_Min_countThrough_0 : decode m_Min_countThrough.2.1 0 = .ok (.iconst 0, 1) := by decide +kernel
theorem D_Min_countThrough_1 : decode m_Min_countThrough.2.1 1 = .ok (.istore 4, 2) := by decide +kernel
theorem D_Min_countThrough_3 : decode m_Min_countThrough.2.1 3 = .ok (.iconst 0, 1) := by decide +kernel
theorem D_Min_countThrough_4 : decode m_Min_countThrough.2.1 4 = .ok (.istore 5, 2) := by decide +kernel
theorem D_Min_countThrough_6 : decode m_Min_countThrough.2.1 6 = .ok (.iload 5, 2) := by decide +kernel
theorem D_Min_countThrough_8 : decode m_Min_countThrough.2.1 8 = .ok (.aload_n 1, 1) := by decide +kernel
theorem D_Min_countThrough_9 : decode m_Min_countThrough.2.1 9 = .ok (.invokevirtual 20, 3) := by decide +kernel
theorem D_Min_countThrough_12 : decode m_Min_countThrough.2.1 12 = .ok (.if_icmp .ge 55, 3) := by decide +kernel
theorem D_Min_countThrough_15 : decode m_Min_countThrough.2.1 15 = .ok (.iconst 0, 1) := by decide +kernel
theorem D_Min_countThrough_16 : decode m_Min_countThrough.2.1 16 = .ok (.istore 6, 2) := by decide +kernel
theorem D_Min_countThrough_18 : decode m_Min_countThrough.2.1 18 = .ok (.iload 6, 2) := by decide +kernel
theorem D_Min_countThrough_20 : decode m_Min_countThrough.2.1 20 = .ok (.aload_n 1, 1) := by decide +kernel
theorem D_Min_countThrough_21 : decode m_Min_countThrough.2.1 21 = .ok (.invokevirtual 26, 3) := by decide +kernel
theorem D_Min_countThrough_24 : decode m_Min_countThrough.2.1 24 = .ok (.if_icmp .ge 37, 3) := by decide +kernel
theorem D_Min_countThrough_27 : decode m_Min_countThrough.2.1 27 = .ok (.iload 5, 2) := by decide +kernel
theorem D_Min_countThrough_29 : decode m_Min_countThrough.2.1 29 = .ok (.iload_n 2, 1) := by decide +kernel
theorem D_Min_countThrough_30 : decode m_Min_countThrough.2.1 30 = .ok (.if_icmp .eq 25, 3) := by decide +kernel
theorem D_Min_countThrough_33 : decode m_Min_countThrough.2.1 33 = .ok (.iload 6, 2) := by decide +kernel
theorem D_Min_countThrough_35 : decode m_Min_countThrough.2.1 35 = .ok (.iload_n 3, 1) := by decide +kernel
theorem D_Min_countThrough_36 : decode m_Min_countThrough.2.1 36 = .ok (.if_icmp .eq 19, 3) := by decide +kernel
theorem D_Min_countThrough_39 : decode m_Min_countThrough.2.1 39 = .ok (.aload_n 1, 1) := by decide +kernel
theorem D_Min_countThrough_40 : decode m_Min_countThrough.2.1 40 = .ok (.iload_n 2, 1) := by decide +kernel
theorem D_Min_countThrough_41 : decode m_Min_countThrough.2.1 41 = .ok (.iload 5, 2) := by decide +kernel
theorem D_Min_countThrough_43 : decode m_Min_countThrough.2.1 43 = .ok (.iload_n 3, 1) := by decide +kernel
theorem D_Min_countThrough_44 : decode m_Min_countThrough.2.1 44 = .ok (.iload 6, 2) := by decide +kernel
theorem D_Min_countThrough_46 : decode m_Min_countThrough.2.1 46 = .ok (.invokestatic 33, 3) := by decide +kernel
theorem D_Min_countThrough_49 : decode m_Min_countThrough.2.1 49 = .ok (.ifCond .eq 6, 3) := by decide +kernel
theorem D_Min_countThrough_52 : decode m_Min_countThrough.2.1 52 = .ok (.iinc 4 1, 3) := by decide +kernel
theorem D_Min_countThrough_55 : decode m_Min_countThrough.2.1 55 = .ok (.iinc 6 1, 3) := by decide +kernel
theorem D_Min_countThrough_58 : decode m_Min_countThrough.2.1 58 = .ok (.goto (-40), 3) := by decide +kernel
theorem D_Min_countThrough_61 : decode m_Min_countThrough.2.1 61 = .ok (.iinc 5 1, 3) := by decide +kernel
theorem D_Min_countThrough_64 : decode m_Min_countThrough.2.1 64 = .ok (.goto (-58), 3) := by decide +kernel
theorem D_Min_countThrough_67 : decode m_Min_countThrough.2.1 67 = .ok (.iload 4, 2) := by decide +kernel
theorem D_Min_countThrough_69 : decode m_Min_countThrough.2.1 69 = .ok (.ireturn, 1) := by decide +kernel
theorem D_Min_isMinor_0 : decode m_Min_isMinor.2.1 0 = .ok (.aload_n 0, 1) := by decide +kernel
theorem D_Min_isMinor_1 : decode m_Min_isMinor.2.1 1 = .ok (.iload_n 1, 1) := by decide +kernel
theorem D_Min_isMinor_2 : decode m_Min_isMinor.2.1 2 = .ok (.iload_n 3, 1) := by decide +kernel
theorem D_Min_isMinor_3 : decode m_Min_isMinor.2.1 3 = .ok (.invokevirtual 40, 3) := by decide +kernel
theorem D_Min_isMinor_6 : decode m_Min_isMinor.2.1 6 = .ok (.ifCond .eq 36, 3) := by decide +kernel
theorem D_Min_isMinor_9 : decode m_Min_isMinor.2.1 9 = .ok (.aload_n 0, 1) := by decide +kernel
theorem D_Min_isMinor_10 : decode m_Min_isMinor.2.1 10 = .ok (.iload_n 1, 1) := by decide +kernel
theorem D_Min_isMinor_11 : decode m_Min_isMinor.2.1 11 = .ok (.iload 4, 2) := by decide +kernel
theorem D_Min_isMinor_13 : decode m_Min_isMinor.2.1 13 = .ok (.invokevirtual 40, 3) := by decide +kernel
theorem D_Min_isMinor_16 : decode m_Min_isMinor.2.1 16 = .ok (.ifCond .eq 26, 3) := by decide +kernel
theorem D_Min_isMinor_19 : decode m_Min_isMinor.2.1 19 = .ok (.aload_n 0, 1) := by decide +kernel
theorem D_Min_isMinor_20 : decode m_Min_isMinor.2.1 20 = .ok (.iload_n 2, 1) := by decide +kernel
theorem D_Min_isMinor_21 : decode m_Min_isMinor.2.1 21 = .ok (.iload_n 3, 1) := by decide +kernel
theorem D_Min_isMinor_22 : decode m_Min_isMinor.2.1 22 = .ok (.invokevirtual 40, 3) := by decide +kernel
theorem D_Min_isMinor_25 : decode m_Min_isMinor.2.1 25 = .ok (.ifCond .eq 17, 3) := by decide +kernel
theorem D_Min_isMinor_28 : decode m_Min_isMinor.2.1 28 = .ok (.aload_n 0, 1) := by decide +kernel
theorem D_Min_isMinor_29 : decode m_Min_isMinor.2.1 29 = .ok (.iload_n 2, 1) := by decide +kernel
theorem D_Min_isMinor_30 : decode m_Min_isMinor.2.1 30 = .ok (.iload 4, 2) := by decide +kernel
theorem D_Min_isMinor_32 : decode m_Min_isMinor.2.1 32 = .ok (.invokevirtual 40, 3) := by decide +kernel
theorem D_Min_isMinor_35 : decode m_Min_isMinor.2.1 35 = .ok (.ifCond .eq 7, 3) := by decide +kernel
theorem D_Min_isMinor_38 : decode m_Min_isMinor.2.1 38 = .ok (.iconst 1, 1) := by decide +kernel
theorem D_Min_isMinor_39 : decode m_Min_isMinor.2.1 39 = .ok (.goto 4, 3) := by decide +kernel
theorem D_Min_isMinor_42 : decode m_Min_isMinor.2.1 42 = .ok (.iconst 0, 1) := by decide +kernel
theorem D_Min_isMinor_43 : decode m_Min_isMinor.2.1 43 = .ok (.ireturn, 1) := by decide +kernel
theorem D_Min_isZero_0 : decode m_Min_isZero.2.1 0 = .ok (.aload_n 0, 1) := by decide +kernel
theorem D_Min_isZero_1 : decode m_Min_isZero.2.1 1 = .ok (.aload_n 0, 1) := by decide +kernel
theorem D_Min_isZero_2 : decode m_Min_isZero.2.1 2 = .ok (.iload_n 1, 1) := by decide +kernel
theorem D_Min_isZero_3 : decode m_Min_isZero.2.1 3 = .ok (.iload_n 3, 1) := by decide +kernel
theorem D_Min_isZero_4 : decode m_Min_isZero.2.1 4 = .ok (.invokevirtual 40, 3) := by decide +kernel
theorem D_Min_isZero_7 : decode m_Min_isZero.2.1 7 = .ok (.aload_n 0, 1) := by decide +kernel
theorem D_Min_isZero_8 : decode m_Min_isZero.2.1 8 = .ok (.iload_n 2, 1) := by decide +kernel
theorem D_Min_isZero_9 : decode m_Min_isZero.2.1 9 = .ok (.iload 4, 2) := by decide +kernel
theorem D_Min_isZero_11 : decode m_Min_isZero.2.1 11 = .ok (.invokevirtual 40, 3) := by decide +kernel
theorem D_Min_isZero_14 : decode m_Min_isZero.2.1 14 = .ok (.invokevirtual 44, 3) := by decide +kernel
theorem D_Min_isZero_17 : decode m_Min_isZero.2.1 17 = .ok (.aload_n 0, 1) := by decide +kernel
theorem D_Min_isZero_18 : decode m_Min_isZero.2.1 18 = .ok (.aload_n 0, 1) := by decide +kernel
theorem D_Min_isZero_19 : decode m_Min_isZero.2.1 19 = .ok (.iload_n 1, 1) := by decide +kernel
theorem D_Min_isZero_20 : decode m_Min_isZero.2.1 20 = .ok (.iload 4, 2) := by decide +kernel
theorem D_Min_isZero_22 : decode m_Min_isZero.2.1 22 = .ok (.invokevirtual 40, 3) := by decide +kernel
theorem D_Min_isZero_25 : decode m_Min_isZero.2.1 25 = .ok (.aload_n 0, 1) := by decide +kernel
theorem D_Min_isZero_26 : decode m_Min_isZero.2.1 26 = .ok (.iload_n 2, 1) := by decide +kernel
theorem D_Min_isZero_27 : decode m_Min_isZero.2.1 27 = .ok (.iload_n 3, 1) := by decide +kernel
theorem D_Min_isZero_28 : decode m_Min_isZero.2.1 28 = .ok (.invokevirtual 40, 3) := by decide +kernel
theorem D_Min_isZero_31 : decode m_Min_isZero.2.1 31 = .ok (.invokevirtual 44, 3) := by decide +kernel
theorem D_Min_isZero_34 : decode m_Min_isZero.2.1 34 = .ok (.if_icmp .ne 7, 3) := by decide +kernel
theorem D_Min_isZero_37 : decode m_Min_isZero.2.1 37 = .ok (.iconst 1, 1) := by decide +kernel
theorem D_Min_isZero_38 : decode m_Min_isZero.2.1 38 = .ok (.goto 4, 3) := by decide +kernel
theorem D_Min_isZero_41 : decode m_Min_isZero.2.1 41 = .ok (.iconst 0, 1) := by decide +kernel
theorem D_Min_isZero_42 : decode m_Min_isZero.2.1 42 = .ok (.ireturn, 1) := by decide +kernel
theorem D_Min_leastRank_0 : decode m_Min_leastRank.2.1 0 = .ok (.iconst 0, 1) := by decide +kernel
theorem D_Min_leastRank_1 : decode m_Min_leastRank.2.1 1 = .ok (.istore_n 2, 1) := by decide +kernel
theorem D_Min_leastRank_2 : decode m_Min_leastRank.2.1 2 = .ok (.iconst 1, 1) := by decide +kernel
theorem D_Min_leastRank_3 : decode m_Min_leastRank.2.1 3 = .ok (.istore_n 3, 1) := by decide +kernel
theorem D_Min_leastRank_4 : decode m_Min_leastRank.2.1 4 = .ok (.iload_n 3, 1) := by decide +kernel
theorem D_Min_leastRank_5 : decode m_Min_leastRank.2.1 5 = .ok (.bipush 64, 2) := by decide +kernel
theorem D_Min_leastRank_7 : decode m_Min_leastRank.2.1 7 = .ok (.if_icmp .ge 20, 3) := by decide +kernel
theorem D_Min_leastRank_10 : decode m_Min_leastRank.2.1 10 = .ok (.iload_n 2, 1) := by decide +kernel
theorem D_Min_leastRank_11 : decode m_Min_leastRank.2.1 11 = .ok (.aload_n 0, 1) := by decide +kernel
theorem D_Min_leastRank_12 : decode m_Min_leastRank.2.1 12 = .ok (.aload_n 1, 1) := by decide +kernel
theorem D_Min_leastRank_13 : decode m_Min_leastRank.2.1 13 = .ok (.iload_n 3, 1) := by decide +kernel
theorem D_Min_leastRank_14 : decode m_Min_leastRank.2.1 14 = .ok (.invokevirtual 47, 3) := by decide +kernel
theorem D_Min_leastRank_17 : decode m_Min_leastRank.2.1 17 = .ok (.invokestatic 51, 3) := by decide +kernel
theorem D_Min_leastRank_20 : decode m_Min_leastRank.2.1 20 = .ok (.istore_n 2, 1) := by decide +kernel
theorem D_Min_leastRank_21 : decode m_Min_leastRank.2.1 21 = .ok (.iinc 3 1, 3) := by decide +kernel
theorem D_Min_leastRank_24 : decode m_Min_leastRank.2.1 24 = .ok (.goto (-20), 3) := by decide +kernel
theorem D_Min_leastRank_27 : decode m_Min_leastRank.2.1 27 = .ok (.iload_n 2, 1) := by decide +kernel
theorem D_Min_leastRank_28 : decode m_Min_leastRank.2.1 28 = .ok (.ireturn, 1) := by decide +kernel
theorem D_Min_rankOf_0 : decode m_Min_rankOf.2.1 0 = .ok (.bipush 63, 2) := by decide +kernel
theorem D_Min_rankOf_2 : decode m_Min_rankOf.2.1 2 = .ok (.istore_n 3, 1) := by decide +kernel
theorem D_Min_rankOf_3 : decode m_Min_rankOf.2.1 3 = .ok (.iconst 0, 1) := by decide +kernel
theorem D_Min_rankOf_4 : decode m_Min_rankOf.2.1 4 = .ok (.istore 4, 2) := by decide +kernel
theorem D_Min_rankOf_6 : decode m_Min_rankOf.2.1 6 = .ok (.iconst 0, 1) := by decide +kernel
theorem D_Min_rankOf_7 : decode m_Min_rankOf.2.1 7 = .ok (.istore 5, 2) := by decide +kernel
theorem D_Min_rankOf_9 : decode m_Min_rankOf.2.1 9 = .ok (.iload 5, 2) := by decide +kernel
theorem D_Min_rankOf_11 : decode m_Min_rankOf.2.1 11 = .ok (.bipush 6, 2) := by decide +kernel
theorem D_Min_rankOf_13 : decode m_Min_rankOf.2.1 13 = .ok (.if_icmp .ge 69, 3) := by decide +kernel
theorem D_Min_rankOf_16 : decode m_Min_rankOf.2.1 16 = .ok (.iload_n 2, 1) := by decide +kernel
theorem D_Min_rankOf_17 : decode m_Min_rankOf.2.1 17 = .ok (.iload 5, 2) := by decide +kernel
theorem D_Min_rankOf_19 : decode m_Min_rankOf.2.1 19 = .ok (.invokestatic 56, 3) := by decide +kernel
theorem D_Min_rankOf_22 : decode m_Min_rankOf.2.1 22 = .ok (.ifCond .eq 54, 3) := by decide +kernel
theorem D_Min_rankOf_25 : decode m_Min_rankOf.2.1 25 = .ok (.iload_n 3, 1) := by decide +kernel
theorem D_Min_rankOf_26 : decode m_Min_rankOf.2.1 26 = .ok (.aload_n 1, 1) := by decide +kernel
theorem D_Min_rankOf_27 : decode m_Min_rankOf.2.1 27 = .ok (.iload 5, 2) := by decide +kernel
theorem D_Min_rankOf_29 : decode m_Min_rankOf.2.1 29 = .ok (.invokevirtual 60, 3) := by decide +kernel
theorem D_Min_rankOf_32 : decode m_Min_rankOf.2.1 32 = .ok (.iand, 1) := by decide +kernel
theorem D_Min_rankOf_33 : decode m_Min_rankOf.2.1 33 = .ok (.istore_n 3, 1) := by decide +kernel
theorem D_Min_rankOf_34 : decode m_Min_rankOf.2.1 34 = .ok (.iconst 0, 1) := by decide +kernel
theorem D_Min_rankOf_35 : decode m_Min_rankOf.2.1 35 = .ok (.istore 6, 2) := by decide +kernel
theorem D_Min_rankOf_37 : decode m_Min_rankOf.2.1 37 = .ok (.iload 6, 2) := by decide +kernel
theorem D_Min_rankOf_39 : decode m_Min_rankOf.2.1 39 = .ok (.bipush 6, 2) := by decide +kernel
theorem D_Min_rankOf_41 : decode m_Min_rankOf.2.1 41 = .ok (.if_icmp .ge 32, 3) := by decide +kernel
theorem D_Min_rankOf_44 : decode m_Min_rankOf.2.1 44 = .ok (.aload_n 0, 1) := by decide +kernel
theorem D_Min_rankOf_45 : decode m_Min_rankOf.2.1 45 = .ok (.getfield 14, 3) := by decide +kernel
theorem D_Min_rankOf_48 : decode m_Min_rankOf.2.1 48 = .ok (.bipush 6, 2) := by decide +kernel
theorem D_Min_rankOf_50 : decode m_Min_rankOf.2.1 50 = .ok (.iload 4, 2) := by decide +kernel
theorem D_Min_rankOf_52 : decode m_Min_rankOf.2.1 52 = .ok (.imul, 1) := by decide +kernel
theorem D_Min_rankOf_53 : decode m_Min_rankOf.2.1 53 = .ok (.iload 6, 2) := by decide +kernel
theorem D_Min_rankOf_55 : decode m_Min_rankOf.2.1 55 = .ok (.iadd, 1) := by decide +kernel
theorem D_Min_rankOf_56 : decode m_Min_rankOf.2.1 56 = .ok (.aload_n 1, 1) := by decide +kernel
theorem D_Min_rankOf_57 : decode m_Min_rankOf.2.1 57 = .ok (.iload 5, 2) := by decide +kernel
theorem D_Min_rankOf_59 : decode m_Min_rankOf.2.1 59 = .ok (.iload 6, 2) := by decide +kernel
theorem D_Min_rankOf_61 : decode m_Min_rankOf.2.1 61 = .ok (.invokevirtual 40, 3) := by decide +kernel
theorem D_Min_rankOf_64 : decode m_Min_rankOf.2.1 64 = .ok (.invokevirtual 64, 3) := by decide +kernel
theorem D_Min_rankOf_67 : decode m_Min_rankOf.2.1 67 = .ok (.iinc 6 1, 3) := by decide +kernel
theorem D_Min_rankOf_70 : decode m_Min_rankOf.2.1 70 = .ok (.goto (-33), 3) := by decide +kernel
theorem D_Min_rankOf_73 : decode m_Min_rankOf.2.1 73 = .ok (.iinc 4 1, 3) := by decide +kernel
theorem D_Min_rankOf_76 : decode m_Min_rankOf.2.1 76 = .ok (.iinc 5 1, 3) := by decide +kernel
theorem D_Min_rankOf_79 : decode m_Min_rankOf.2.1 79 = .ok (.goto (-70), 3) := by decide +kernel
theorem D_Min_rankOf_82 : decode m_Min_rankOf.2.1 82 = .ok (.iconst 0, 1) := by decide +kernel
theorem D_Min_rankOf_83 : decode m_Min_rankOf.2.1 83 = .ok (.istore 5, 2) := by decide +kernel
theorem D_Min_rankOf_85 : decode m_Min_rankOf.2.1 85 = .ok (.iconst 0, 1) := by decide +kernel
theorem D_Min_rankOf_86 : decode m_Min_rankOf.2.1 86 = .ok (.istore 6, 2) := by decide +kernel
theorem D_Min_rankOf_88 : decode m_Min_rankOf.2.1 88 = .ok (.iload 6, 2) := by decide +kernel
theorem D_Min_rankOf_90 : decode m_Min_rankOf.2.1 90 = .ok (.bipush 6, 2) := by decide +kernel
theorem D_Min_rankOf_92 : decode m_Min_rankOf.2.1 92 = .ok (.if_icmp .ge 64, 3) := by decide +kernel
theorem D_Min_rankOf_95 : decode m_Min_rankOf.2.1 95 = .ok (.iload_n 3, 1) := by decide +kernel
theorem D_Min_rankOf_96 : decode m_Min_rankOf.2.1 96 = .ok (.iload 6, 2) := by decide +kernel
theorem D_Min_rankOf_98 : decode m_Min_rankOf.2.1 98 = .ok (.invokestatic 56, 3) := by decide +kernel
theorem D_Min_rankOf_101 : decode m_Min_rankOf.2.1 101 = .ok (.ifCond .eq 49, 3) := by decide +kernel
theorem D_Min_rankOf_104 : decode m_Min_rankOf.2.1 104 = .ok (.aload_n 0, 1) := by decide +kernel
theorem D_Min_rankOf_105 : decode m_Min_rankOf.2.1 105 = .ok (.iload 4, 2) := by decide +kernel
theorem D_Min_rankOf_107 : decode m_Min_rankOf.2.1 107 = .ok (.iload 5, 2) := by decide +kernel
theorem D_Min_rankOf_109 : decode m_Min_rankOf.2.1 109 = .ok (.iload 6, 2) := by decide +kernel
theorem D_Min_rankOf_111 : decode m_Min_rankOf.2.1 111 = .ok (.invokevirtual 68, 3) := by decide +kernel
theorem D_Min_rankOf_114 : decode m_Min_rankOf.2.1 114 = .ok (.ifCond .eq 36, 3) := by decide +kernel
theorem D_Min_rankOf_117 : decode m_Min_rankOf.2.1 117 = .ok (.iload 5, 2) := by decide +kernel
theorem D_Min_rankOf_119 : decode m_Min_rankOf.2.1 119 = .ok (.iconst 1, 1) := by decide +kernel
theorem D_Min_rankOf_120 : decode m_Min_rankOf.2.1 120 = .ok (.iadd, 1) := by decide +kernel
theorem D_Min_rankOf_121 : decode m_Min_rankOf.2.1 121 = .ok (.istore 7, 2) := by decide +kernel
theorem D_Min_rankOf_123 : decode m_Min_rankOf.2.1 123 = .ok (.iload 7, 2) := by decide +kernel
theorem D_Min_rankOf_125 : decode m_Min_rankOf.2.1 125 = .ok (.iload 4, 2) := by decide +kernel
theorem D_Min_rankOf_127 : decode m_Min_rankOf.2.1 127 = .ok (.if_icmp .ge 20, 3) := by decide +kernel
theorem D_Min_rankOf_130 : decode m_Min_rankOf.2.1 130 = .ok (.aload_n 0, 1) := by decide +kernel
theorem D_Min_rankOf_131 : decode m_Min_rankOf.2.1 131 = .ok (.aload_n 1, 1) := by decide +kernel
theorem D_Min_rankOf_132 : decode m_Min_rankOf.2.1 132 = .ok (.iload 5, 2) := by decide +kernel
theorem D_Min_rankOf_134 : decode m_Min_rankOf.2.1 134 = .ok (.iload 7, 2) := by decide +kernel
theorem D_Min_rankOf_136 : decode m_Min_rankOf.2.1 136 = .ok (.iload 6, 2) := by decide +kernel
theorem D_Min_rankOf_138 : decode m_Min_rankOf.2.1 138 = .ok (.invokevirtual 72, 3) := by decide +kernel
theorem D_Min_rankOf_141 : decode m_Min_rankOf.2.1 141 = .ok (.iinc 7 1, 3) := by decide +kernel
theorem D_Min_rankOf_144 : decode m_Min_rankOf.2.1 144 = .ok (.goto (-21), 3) := by decide +kernel
theorem D_Min_rankOf_147 : decode m_Min_rankOf.2.1 147 = .ok (.iinc 5 1, 3) := by decide +kernel
theorem D_Min_rankOf_150 : decode m_Min_rankOf.2.1 150 = .ok (.iinc 6 1, 3) := by decide +kernel
theorem D_Min_rankOf_153 : decode m_Min_rankOf.2.1 153 = .ok (.goto (-65), 3) := by decide +kernel
theorem D_Min_rankOf_156 : decode m_Min_rankOf.2.1 156 = .ok (.iload 5, 2) := by decide +kernel
theorem D_Min_rankOf_158 : decode m_Min_rankOf.2.1 158 = .ok (.ireturn, 1) := by decide +kernel
theorem D_Min_bringUp_0 : decode m_Min_bringUp.2.1 0 = .ok (.iload_n 2, 1) := by decide +kernel
theorem D_Min_bringUp_1 : decode m_Min_bringUp.2.1 1 = .ok (.istore 4, 2) := by decide +kernel
theorem D_Min_bringUp_3 : decode m_Min_bringUp.2.1 3 = .ok (.iload 4, 2) := by decide +kernel
theorem D_Min_bringUp_5 : decode m_Min_bringUp.2.1 5 = .ok (.iload_n 1, 1) := by decide +kernel
theorem D_Min_bringUp_6 : decode m_Min_bringUp.2.1 6 = .ok (.if_icmp .ge 66, 3) := by decide +kernel
theorem D_Min_bringUp_9 : decode m_Min_bringUp.2.1 9 = .ok (.aload_n 0, 1) := by decide +kernel
theorem D_Min_bringUp_10 : decode m_Min_bringUp.2.1 10 = .ok (.getfield 14, 3) := by decide +kernel
theorem D_Min_bringUp_13 : decode m_Min_bringUp.2.1 13 = .ok (.bipush 6, 2) := by decide +kernel
theorem D_Min_bringUp_15 : decode m_Min_bringUp.2.1 15 = .ok (.iload 4, 2) := by decide +kernel
theorem D_Min_bringUp_17 : decode m_Min_bringUp.2.1 17 = .ok (.imul, 1) := by decide +kernel
theorem D_Min_bringUp_18 : decode m_Min_bringUp.2.1 18 = .ok (.iload_n 3, 1) := by decide +kernel
theorem D_Min_bringUp_19 : decode m_Min_bringUp.2.1 19 = .ok (.iadd, 1) := by decide +kernel
theorem D_Min_bringUp_20 : decode m_Min_bringUp.2.1 20 = .ok (.invokevirtual 76, 3) := by decide +kernel
theorem D_Min_bringUp_23 : decode m_Min_bringUp.2.1 23 = .ok (.ifCond .eq 43, 3) := by decide +kernel
theorem D_Min_bringUp_26 : decode m_Min_bringUp.2.1 26 = .ok (.iconst 0, 1) := by decide +kernel
theorem D_Min_bringUp_27 : decode m_Min_bringUp.2.1 27 = .ok (.istore 5, 2) := by decide +kernel
theorem D_Min_bringUp_29 : decode m_Min_bringUp.2.1 29 = .ok (.iload 5, 2) := by decide +kernel
theorem D_Min_bringUp_31 : decode m_Min_bringUp.2.1 31 = .ok (.bipush 6, 2) := by decide +kernel
theorem D_Min_bringUp_33 : decode m_Min_bringUp.2.1 33 = .ok (.if_icmp .ge 31, 3) := by decide +kernel
theorem D_Min_bringUp_36 : decode m_Min_bringUp.2.1 36 = .ok (.aload_n 0, 1) := by decide +kernel
theorem D_Min_bringUp_37 : decode m_Min_bringUp.2.1 37 = .ok (.getfield 14, 3) := by decide +kernel
theorem D_Min_bringUp_40 : decode m_Min_bringUp.2.1 40 = .ok (.bipush 6, 2) := by decide +kernel
theorem D_Min_bringUp_42 : decode m_Min_bringUp.2.1 42 = .ok (.iload_n 2, 1) := by decide +kernel
theorem D_Min_bringUp_43 : decode m_Min_bringUp.2.1 43 = .ok (.imul, 1) := by decide +kernel
theorem D_Min_bringUp_44 : decode m_Min_bringUp.2.1 44 = .ok (.iload 5, 2) := by decide +kernel
theorem D_Min_bringUp_46 : decode m_Min_bringUp.2.1 46 = .ok (.iadd, 1) := by decide +kernel
theorem D_Min_bringUp_47 : decode m_Min_bringUp.2.1 47 = .ok (.bipush 6, 2) := by decide +kernel
theorem D_Min_bringUp_49 : decode m_Min_bringUp.2.1 49 = .ok (.iload 4, 2) := by decide +kernel
theorem D_Min_bringUp_51 : decode m_Min_bringUp.2.1 51 = .ok (.imul, 1) := by decide +kernel
theorem D_Min_bringUp_52 : decode m_Min_bringUp.2.1 52 = .ok (.iload 5, 2) := by decide +kernel
theorem D_Min_bringUp_54 : decode m_Min_bringUp.2.1 54 = .ok (.iadd, 1) := by decide +kernel
theorem D_Min_bringUp_55 : decode m_Min_bringUp.2.1 55 = .ok (.invokevirtual 79, 3) := by decide +kernel
theorem D_Min_bringUp_58 : decode m_Min_bringUp.2.1 58 = .ok (.iinc 5 1, 3) := by decide +kernel
theorem D_Min_bringUp_61 : decode m_Min_bringUp.2.1 61 = .ok (.goto (-32), 3) := by decide +kernel
theorem D_Min_bringUp_64 : decode m_Min_bringUp.2.1 64 = .ok (.iconst 1, 1) := by decide +kernel
theorem D_Min_bringUp_65 : decode m_Min_bringUp.2.1 65 = .ok (.ireturn, 1) := by decide +kernel
theorem D_Min_bringUp_66 : decode m_Min_bringUp.2.1 66 = .ok (.iinc 4 1, 3) := by decide +kernel
theorem D_Min_bringUp_69 : decode m_Min_bringUp.2.1 69 = .ok (.goto (-66), 3) := by decide +kernel
theorem D_Min_bringUp_72 : decode m_Min_bringUp.2.1 72 = .ok (.iconst 0, 1) := by decide +kernel
theorem D_Min_bringUp_73 : decode m_Min_bringUp.2.1 73 = .ok (.ireturn, 1) := by decide +kernel
theorem D_Min_eliminate_0 : decode m_Min_eliminate.2.1 0 = .ok (.aload_n 1, 1) := by decide +kernel
theorem D_Min_eliminate_1 : decode m_Min_eliminate.2.1 1 = .ok (.aload_n 0, 1) := by decide +kernel
theorem D_Min_eliminate_2 : decode m_Min_eliminate.2.1 2 = .ok (.getfield 14, 3) := by decide +kernel
theorem D_Min_eliminate_5 : decode m_Min_eliminate.2.1 5 = .ok (.bipush 6, 2) := by decide +kernel
theorem D_Min_eliminate_7 : decode m_Min_eliminate.2.1 7 = .ok (.iload_n 3, 1) := by decide +kernel
theorem D_Min_eliminate_8 : decode m_Min_eliminate.2.1 8 = .ok (.imul, 1) := by decide +kernel
theorem D_Min_eliminate_9 : decode m_Min_eliminate.2.1 9 = .ok (.iload 4, 2) := by decide +kernel
theorem D_Min_eliminate_11 : decode m_Min_eliminate.2.1 11 = .ok (.iadd, 1) := by decide +kernel
theorem D_Min_eliminate_12 : decode m_Min_eliminate.2.1 12 = .ok (.invokevirtual 76, 3) := by decide +kernel
theorem D_Min_eliminate_15 : decode m_Min_eliminate.2.1 15 = .ok (.aload_n 0, 1) := by decide +kernel
theorem D_Min_eliminate_16 : decode m_Min_eliminate.2.1 16 = .ok (.getfield 14, 3) := by decide +kernel
theorem D_Min_eliminate_19 : decode m_Min_eliminate.2.1 19 = .ok (.bipush 6, 2) := by decide +kernel
theorem D_Min_eliminate_21 : decode m_Min_eliminate.2.1 21 = .ok (.iload_n 2, 1) := by decide +kernel
theorem D_Min_eliminate_22 : decode m_Min_eliminate.2.1 22 = .ok (.imul, 1) := by decide +kernel
theorem D_Min_eliminate_23 : decode m_Min_eliminate.2.1 23 = .ok (.iload 4, 2) := by decide +kernel
theorem D_Min_eliminate_25 : decode m_Min_eliminate.2.1 25 = .ok (.iadd, 1) := by decide +kernel
theorem D_Min_eliminate_26 : decode m_Min_eliminate.2.1 26 = .ok (.invokevirtual 76, 3) := by decide +kernel
theorem D_Min_eliminate_29 : decode m_Min_eliminate.2.1 29 = .ok (.invokevirtual 82, 3) := by decide +kernel
theorem D_Min_eliminate_32 : decode m_Min_eliminate.2.1 32 = .ok (.istore 5, 2) := by decide +kernel
theorem D_Min_eliminate_34 : decode m_Min_eliminate.2.1 34 = .ok (.aload_n 1, 1) := by decide +kernel
theorem D_Min_eliminate_35 : decode m_Min_eliminate.2.1 35 = .ok (.invokevirtual 85, 3) := by decide +kernel
theorem D_Min_eliminate_38 : decode m_Min_eliminate.2.1 38 = .ok (.iload 5, 2) := by decide +kernel
theorem D_Min_eliminate_40 : decode m_Min_eliminate.2.1 40 = .ok (.isub, 1) := by decide +kernel
theorem D_Min_eliminate_41 : decode m_Min_eliminate.2.1 41 = .ok (.istore 6, 2) := by decide +kernel
theorem D_Min_eliminate_43 : decode m_Min_eliminate.2.1 43 = .ok (.iconst 0, 1) := by decide +kernel
theorem D_Min_eliminate_44 : decode m_Min_eliminate.2.1 44 = .ok (.istore 7, 2) := by decide +kernel
theorem D_Min_eliminate_46 : decode m_Min_eliminate.2.1 46 = .ok (.iload 7, 2) := by decide +kernel
theorem D_Min_eliminate_48 : decode m_Min_eliminate.2.1 48 = .ok (.bipush 6, 2) := by decide +kernel
theorem D_Min_eliminate_50 : decode m_Min_eliminate.2.1 50 = .ok (.if_icmp .ge 63, 3) := by decide +kernel
theorem D_Min_eliminate_53 : decode m_Min_eliminate.2.1 53 = .ok (.aload_n 0, 1) := by decide +kernel
theorem D_Min_eliminate_54 : decode m_Min_eliminate.2.1 54 = .ok (.getfield 14, 3) := by decide +kernel
theorem D_Min_eliminate_57 : decode m_Min_eliminate.2.1 57 = .ok (.bipush 6, 2) := by decide +kernel
theorem D_Min_eliminate_59 : decode m_Min_eliminate.2.1 59 = .ok (.iload_n 3, 1) := by decide +kernel
theorem D_Min_eliminate_60 : decode m_Min_eliminate.2.1 60 = .ok (.imul, 1) := by decide +kernel
theorem D_Min_eliminate_61 : decode m_Min_eliminate.2.1 61 = .ok (.iload 7, 2) := by decide +kernel
theorem D_Min_eliminate_63 : decode m_Min_eliminate.2.1 63 = .ok (.iadd, 1) := by decide +kernel
theorem D_Min_eliminate_64 : decode m_Min_eliminate.2.1 64 = .ok (.invokevirtual 76, 3) := by decide +kernel
theorem D_Min_eliminate_67 : decode m_Min_eliminate.2.1 67 = .ok (.iload 6, 2) := by decide +kernel
theorem D_Min_eliminate_69 : decode m_Min_eliminate.2.1 69 = .ok (.aload_n 0, 1) := by decide +kernel
theorem D_Min_eliminate_70 : decode m_Min_eliminate.2.1 70 = .ok (.getfield 14, 3) := by decide +kernel
theorem D_Min_eliminate_73 : decode m_Min_eliminate.2.1 73 = .ok (.bipush 6, 2) := by decide +kernel
theorem D_Min_eliminate_75 : decode m_Min_eliminate.2.1 75 = .ok (.iload_n 2, 1) := by decide +kernel
theorem D_Min_eliminate_76 : decode m_Min_eliminate.2.1 76 = .ok (.imul, 1) := by decide +kernel
theorem D_Min_eliminate_77 : decode m_Min_eliminate.2.1 77 = .ok (.iload 7, 2) := by decide +kernel
theorem D_Min_eliminate_79 : decode m_Min_eliminate.2.1 79 = .ok (.iadd, 1) := by decide +kernel
theorem D_Min_eliminate_80 : decode m_Min_eliminate.2.1 80 = .ok (.invokevirtual 76, 3) := by decide +kernel
theorem D_Min_eliminate_83 : decode m_Min_eliminate.2.1 83 = .ok (.imul, 1) := by decide +kernel
theorem D_Min_eliminate_84 : decode m_Min_eliminate.2.1 84 = .ok (.iadd, 1) := by decide +kernel
theorem D_Min_eliminate_85 : decode m_Min_eliminate.2.1 85 = .ok (.istore 8, 2) := by decide +kernel
theorem D_Min_eliminate_87 : decode m_Min_eliminate.2.1 87 = .ok (.aload_n 0, 1) := by decide +kernel
theorem D_Min_eliminate_88 : decode m_Min_eliminate.2.1 88 = .ok (.getfield 14, 3) := by decide +kernel
theorem D_Min_eliminate_91 : decode m_Min_eliminate.2.1 91 = .ok (.bipush 6, 2) := by decide +kernel
theorem D_Min_eliminate_93 : decode m_Min_eliminate.2.1 93 = .ok (.iload_n 3, 1) := by decide +kernel
theorem D_Min_eliminate_94 : decode m_Min_eliminate.2.1 94 = .ok (.imul, 1) := by decide +kernel
theorem D_Min_eliminate_95 : decode m_Min_eliminate.2.1 95 = .ok (.iload 7, 2) := by decide +kernel
theorem D_Min_eliminate_97 : decode m_Min_eliminate.2.1 97 = .ok (.iadd, 1) := by decide +kernel
theorem D_Min_eliminate_98 : decode m_Min_eliminate.2.1 98 = .ok (.aload_n 1, 1) := by decide +kernel
theorem D_Min_eliminate_99 : decode m_Min_eliminate.2.1 99 = .ok (.iload 8, 2) := by decide +kernel
theorem D_Min_eliminate_101 : decode m_Min_eliminate.2.1 101 = .ok (.invokevirtual 88, 3) := by decide +kernel
theorem D_Min_eliminate_104 : decode m_Min_eliminate.2.1 104 = .ok (.invokevirtual 64, 3) := by decide +kernel
theorem D_Min_eliminate_107 : decode m_Min_eliminate.2.1 107 = .ok (.iinc 7 1, 3) := by decide +kernel
theorem D_Min_eliminate_110 : decode m_Min_eliminate.2.1 110 = .ok (.goto (-64), 3) := by decide +kernel
theorem D_Min_eliminate_113 : decode m_Min_eliminate.2.1 113 = .ok (.return_, 1) := by decide +kernel
theorem D_Num_init_0 : decode m_Num_init.2.1 0 = .ok (.aload_n 0, 1) := by decide +kernel
theorem D_Num_init_1 : decode m_Num_init.2.1 1 = .ok (.invokespecial 1, 3) := by decide +kernel
theorem D_Num_init_4 : decode m_Num_init.2.1 4 = .ok (.aload_n 0, 1) := by decide +kernel
theorem D_Num_init_5 : decode m_Num_init.2.1 5 = .ok (.iload_n 1, 1) := by decide +kernel
theorem D_Num_init_6 : decode m_Num_init.2.1 6 = .ok (.iconst 0, 1) := by decide +kernel
theorem D_Num_init_7 : decode m_Num_init.2.1 7 = .ok (.invokestatic 7, 3) := by decide +kernel
theorem D_Num_init_10 : decode m_Num_init.2.1 10 = .ok (.newarray .int, 2) := by decide +kernel
theorem D_Num_init_12 : decode m_Num_init.2.1 12 = .ok (.putfield 13, 3) := by decide +kernel
theorem D_Num_init_15 : decode m_Num_init.2.1 15 = .ok (.return_, 1) := by decide +kernel
theorem D_Num_get_0 : decode m_Num_get.2.1 0 = .ok (.iload_n 1, 1) := by decide +kernel
theorem D_Num_get_1 : decode m_Num_get.2.1 1 = .ok (.ifCond .lt 21, 3) := by decide +kernel
theorem D_Num_get_4 : decode m_Num_get.2.1 4 = .ok (.iload_n 1, 1) := by decide +kernel
theorem D_Num_get_5 : decode m_Num_get.2.1 5 = .ok (.aload_n 0, 1) := by decide +kernel
theorem D_Num_get_6 : decode m_Num_get.2.1 6 = .ok (.getfield 13, 3) := by decide +kernel
theorem D_Num_get_9 : decode m_Num_get.2.1 9 = .ok (.arraylength, 1) := by decide +kernel
theorem D_Num_get_10 : decode m_Num_get.2.1 10 = .ok (.if_icmp .ge 12, 3) := by decide +kernel
theorem D_Num_get_13 : decode m_Num_get.2.1 13 = .ok (.aload_n 0, 1) := by decide +kernel
theorem D_Num_get_14 : decode m_Num_get.2.1 14 = .ok (.getfield 13, 3) := by decide +kernel
theorem D_Num_get_17 : decode m_Num_get.2.1 17 = .ok (.iload_n 1, 1) := by decide +kernel
theorem D_Num_get_18 : decode m_Num_get.2.1 18 = .ok (.iaload, 1) := by decide +kernel
theorem D_Num_get_19 : decode m_Num_get.2.1 19 = .ok (.goto 4, 3) := by decide +kernel
theorem D_Num_get_22 : decode m_Num_get.2.1 22 = .ok (.iconst 0, 1) := by decide +kernel
theorem D_Num_get_23 : decode m_Num_get.2.1 23 = .ok (.ireturn, 1) := by decide +kernel
theorem D_Num_set_0 : decode m_Num_set.2.1 0 = .ok (.iload_n 1, 1) := by decide +kernel
theorem D_Num_set_1 : decode m_Num_set.2.1 1 = .ok (.ifCond .lt 19, 3) := by decide +kernel
theorem D_Num_set_4 : decode m_Num_set.2.1 4 = .ok (.iload_n 1, 1) := by decide +kernel
theorem D_Num_set_5 : decode m_Num_set.2.1 5 = .ok (.aload_n 0, 1) := by decide +kernel
theorem D_Num_set_6 : decode m_Num_set.2.1 6 = .ok (.getfield 13, 3) := by decide +kernel
theorem D_Num_set_9 : decode m_Num_set.2.1 9 = .ok (.arraylength, 1) := by decide +kernel
theorem D_Num_set_10 : decode m_Num_set.2.1 10 = .ok (.if_icmp .ge 10, 3) := by decide +kernel
theorem D_Num_set_13 : decode m_Num_set.2.1 13 = .ok (.aload_n 0, 1) := by decide +kernel
theorem D_Num_set_14 : decode m_Num_set.2.1 14 = .ok (.getfield 13, 3) := by decide +kernel
theorem D_Num_set_17 : decode m_Num_set.2.1 17 = .ok (.iload_n 1, 1) := by decide +kernel
theorem D_Num_set_18 : decode m_Num_set.2.1 18 = .ok (.iload_n 2, 1) := by decide +kernel
theorem D_Num_set_19 : decode m_Num_set.2.1 19 = .ok (.iastore, 1) := by decide +kernel
theorem D_Num_set_20 : decode m_Num_set.2.1 20 = .ok (.return_, 1) := by decide +kernel
theorem D_Num_setEach_0 : decode m_Num_setEach.2.1 0 = .ok (.iconst 0, 1) := by decide +kernel
theorem D_Num_setEach_1 : decode m_Num_setEach.2.1 1 = .ok (.istore_n 2, 1) := by decide +kernel
theorem D_Num_setEach_2 : decode m_Num_setEach.2.1 2 = .ok (.iload_n 2, 1) := by decide +kernel
theorem D_Num_setEach_3 : decode m_Num_setEach.2.1 3 = .ok (.aload_n 0, 1) := by decide +kernel
theorem D_Num_setEach_4 : decode m_Num_setEach.2.1 4 = .ok (.getfield 13, 3) := by decide +kernel
theorem D_Num_setEach_7 : decode m_Num_setEach.2.1 7 = .ok (.arraylength, 1) := by decide +kernel
theorem D_Num_setEach_8 : decode m_Num_setEach.2.1 8 = .ok (.if_icmp .ge 16, 3) := by decide +kernel
theorem D_Num_setEach_11 : decode m_Num_setEach.2.1 11 = .ok (.aload_n 0, 1) := by decide +kernel
theorem D_Num_setEach_12 : decode m_Num_setEach.2.1 12 = .ok (.getfield 13, 3) := by decide +kernel
theorem D_Num_setEach_15 : decode m_Num_setEach.2.1 15 = .ok (.iload_n 2, 1) := by decide +kernel
theorem D_Num_setEach_16 : decode m_Num_setEach.2.1 16 = .ok (.iload_n 1, 1) := by decide +kernel
theorem D_Num_setEach_17 : decode m_Num_setEach.2.1 17 = .ok (.iastore, 1) := by decide +kernel
theorem D_Num_setEach_18 : decode m_Num_setEach.2.1 18 = .ok (.iinc 2 1, 3) := by decide +kernel
theorem D_Num_setEach_21 : decode m_Num_setEach.2.1 21 = .ok (.goto (-19), 3) := by decide +kernel
theorem D_Num_setEach_24 : decode m_Num_setEach.2.1 24 = .ok (.return_, 1) := by decide +kernel
theorem D_Num_copyFrom_0 : decode m_Num_copyFrom.2.1 0 = .ok (.iconst 0, 1) := by decide +kernel
theorem D_Num_copyFrom_1 : decode m_Num_copyFrom.2.1 1 = .ok (.istore_n 2, 1) := by decide +kernel
theorem D_Num_copyFrom_2 : decode m_Num_copyFrom.2.1 2 = .ok (.iload_n 2, 1) := by decide +kernel
theorem D_Num_copyFrom_3 : decode m_Num_copyFrom.2.1 3 = .ok (.aload_n 0, 1) := by decide +kernel
theorem D_Num_copyFrom_4 : decode m_Num_copyFrom.2.1 4 = .ok (.getfield 13, 3) := by decide +kernel
theorem D_Num_copyFrom_7 : decode m_Num_copyFrom.2.1 7 = .ok (.arraylength, 1) := by decide +kernel
theorem D_Num_copyFrom_8 : decode m_Num_copyFrom.2.1 8 = .ok (.if_icmp .ge 20, 3) := by decide +kernel
theorem D_Num_copyFrom_11 : decode m_Num_copyFrom.2.1 11 = .ok (.aload_n 0, 1) := by decide +kernel
theorem D_Num_copyFrom_12 : decode m_Num_copyFrom.2.1 12 = .ok (.getfield 13, 3) := by decide +kernel
theorem D_Num_copyFrom_15 : decode m_Num_copyFrom.2.1 15 = .ok (.iload_n 2, 1) := by decide +kernel
theorem D_Num_copyFrom_16 : decode m_Num_copyFrom.2.1 16 = .ok (.aload_n 1, 1) := by decide +kernel
theorem D_Num_copyFrom_17 : decode m_Num_copyFrom.2.1 17 = .ok (.iload_n 2, 1) := by decide +kernel
theorem D_Num_copyFrom_18 : decode m_Num_copyFrom.2.1 18 = .ok (.invokevirtual 19, 3) := by decide +kernel
theorem D_Num_copyFrom_21 : decode m_Num_copyFrom.2.1 21 = .ok (.iastore, 1) := by decide +kernel
theorem D_Num_copyFrom_22 : decode m_Num_copyFrom.2.1 22 = .ok (.iinc 2 1, 3) := by decide +kernel
theorem D_Num_copyFrom_25 : decode m_Num_copyFrom.2.1 25 = .ok (.goto (-23), 3) := by decide +kernel
theorem D_Num_copyFrom_28 : decode m_Num_copyFrom.2.1 28 = .ok (.return_, 1) := by decide +kernel
theorem D_Num_swap_0 : decode m_Num_swap.2.1 0 = .ok (.aload_n 0, 1) := by decide +kernel
theorem D_Num_swap_1 : decode m_Num_swap.2.1 1 = .ok (.iload_n 1, 1) := by decide +kernel
theorem D_Num_swap_2 : decode m_Num_swap.2.1 2 = .ok (.invokevirtual 19, 3) := by decide +kernel
theorem D_Num_swap_5 : decode m_Num_swap.2.1 5 = .ok (.istore_n 3, 1) := by decide +kernel
theorem D_Num_swap_6 : decode m_Num_swap.2.1 6 = .ok (.aload_n 0, 1) := by decide +kernel
theorem D_Num_swap_7 : decode m_Num_swap.2.1 7 = .ok (.iload_n 1, 1) := by decide +kernel
theorem D_Num_swap_8 : decode m_Num_swap.2.1 8 = .ok (.aload_n 0, 1) := by decide +kernel
theorem D_Num_swap_9 : decode m_Num_swap.2.1 9 = .ok (.iload_n 2, 1) := by decide +kernel
theorem D_Num_swap_10 : decode m_Num_swap.2.1 10 = .ok (.invokevirtual 19, 3) := by decide +kernel
theorem D_Num_swap_13 : decode m_Num_swap.2.1 13 = .ok (.invokevirtual 23, 3) := by decide +kernel
theorem D_Num_swap_16 : decode m_Num_swap.2.1 16 = .ok (.aload_n 0, 1) := by decide +kernel
theorem D_Num_swap_17 : decode m_Num_swap.2.1 17 = .ok (.iload_n 2, 1) := by decide +kernel
theorem D_Num_swap_18 : decode m_Num_swap.2.1 18 = .ok (.iload_n 3, 1) := by decide +kernel
theorem D_Num_swap_19 : decode m_Num_swap.2.1 19 = .ok (.invokevirtual 23, 3) := by decide +kernel
theorem D_Num_swap_22 : decode m_Num_swap.2.1 22 = .ok (.return_, 1) := by decide +kernel
theorem D_Pad_init_0 : decode m_Pad_init.2.1 0 = .ok (.aload_n 0, 1) := by decide +kernel
theorem D_Pad_init_1 : decode m_Pad_init.2.1 1 = .ok (.invokespecial 3, 3) := by decide +kernel
theorem D_Pad_init_4 : decode m_Pad_init.2.1 4 = .ok (.aload_n 0, 1) := by decide +kernel
theorem D_Pad_init_5 : decode m_Pad_init.2.1 5 = .ok (.new 9, 3) := by decide +kernel
theorem D_Pad_init_8 : decode m_Pad_init.2.1 8 = .ok (.dup, 1) := by decide +kernel
theorem D_Pad_init_9 : decode m_Pad_init.2.1 9 = .ok (.bipush 50, 2) := by decide +kernel
theorem D_Pad_init_11 : decode m_Pad_init.2.1 11 = .ok (.invokespecial 11, 3) := by decide +kernel
theorem D_Pad_init_14 : decode m_Pad_init.2.1 14 = .ok (.putfield 14, 3) := by decide +kernel
theorem D_Pad_init_17 : decode m_Pad_init.2.1 17 = .ok (.return_, 1) := by decide +kernel
theorem D_Pad_length_0 : decode m_Pad_length.2.1 0 = .ok (.aload_n 0, 1) := by decide +kernel
theorem D_Pad_length_1 : decode m_Pad_length.2.1 1 = .ok (.getfield 20, 3) := by decide +kernel
theorem D_Pad_length_4 : decode m_Pad_length.2.1 4 = .ok (.ireturn, 1) := by decide +kernel
theorem D_Pad_empty_0 : decode m_Pad_empty.2.1 0 = .ok (.aload_n 0, 1) := by decide +kernel
theorem D_Pad_empty_1 : decode m_Pad_empty.2.1 1 = .ok (.iconst 0, 1) := by decide +kernel
theorem D_Pad_empty_2 : decode m_Pad_empty.2.1 2 = .ok (.putfield 20, 3) := by decide +kernel
theorem D_Pad_empty_5 : decode m_Pad_empty.2.1 5 = .ok (.return_, 1) := by decide +kernel
theorem D_Pad_append_0 : decode m_Pad_append.2.1 0 = .ok (.aload_n 0, 1) := by decide +kernel
theorem D_Pad_append_1 : decode m_Pad_append.2.1 1 = .ok (.getfield 20, 3) := by decide +kernel
theorem D_Pad_append_4 : decode m_Pad_append.2.1 4 = .ok (.bipush 50, 2) := by decide +kernel
theorem D_Pad_append_6 : decode m_Pad_append.2.1 6 = .ok (.if_icmp .ge 25, 3) := by decide +kernel
theorem D_Pad_append_9 : decode m_Pad_append.2.1 9 = .ok (.aload_n 0, 1) := by decide +kernel
theorem D_Pad_append_10 : decode m_Pad_append.2.1 10 = .ok (.getfield 14, 3) := by decide +kernel
theorem D_Pad_append_13 : decode m_Pad_append.2.1 13 = .ok (.aload_n 0, 1) := by decide +kernel
theorem D_Pad_append_14 : decode m_Pad_append.2.1 14 = .ok (.getfield 20, 3) := by decide +kernel
theorem D_Pad_append_17 : decode m_Pad_append.2.1 17 = .ok (.iload_n 1, 1) := by decide +kernel
theorem D_Pad_append_18 : decode m_Pad_append.2.1 18 = .ok (.invokevirtual 24, 3) := by decide +kernel
theorem D_Pad_append_21 : decode m_Pad_append.2.1 21 = .ok (.aload_n 0, 1) := by decide +kernel
theorem D_Pad_append_22 : decode m_Pad_append.2.1 22 = .ok (.dup, 1) := by decide +kernel
theorem D_Pad_append_23 : decode m_Pad_append.2.1 23 = .ok (.getfield 20, 3) := by decide +kernel
theorem D_Pad_append_26 : decode m_Pad_append.2.1 26 = .ok (.iconst 1, 1) := by decide +kernel
theorem D_Pad_append_27 : decode m_Pad_append.2.1 27 = .ok (.iadd, 1) := by decide +kernel
theorem D_Pad_append_28 : decode m_Pad_append.2.1 28 = .ok (.putfield 20, 3) := by decide +kernel
theorem D_Pad_append_31 : decode m_Pad_append.2.1 31 = .ok (.return_, 1) := by decide +kernel
theorem D_Pad_scan_0 : decode m_Pad_scan.2.1 0 = .ok (.iconst 0, 1) := by decide +kernel
theorem D_Pad_scan_1 : decode m_Pad_scan.2.1 1 = .ok (.istore_n 1, 1) := by decide +kernel
theorem D_Pad_scan_2 : decode m_Pad_scan.2.1 2 = .ok (.iconst 0, 1) := by decide +kernel
theorem D_Pad_scan_3 : decode m_Pad_scan.2.1 3 = .ok (.istore_n 2, 1) := by decide +kernel
theorem D_Pad_scan_4 : decode m_Pad_scan.2.1 4 = .ok (.iconst 0, 1) := by decide +kernel
theorem D_Pad_scan_5 : decode m_Pad_scan.2.1 5 = .ok (.istore_n 3, 1) := by decide +kernel
theorem D_Pad_scan_6 : decode m_Pad_scan.2.1 6 = .ok (.iconst 0, 1) := by decide +kernel
theorem D_Pad_scan_7 : decode m_Pad_scan.2.1 7 = .ok (.istore 4, 2) := by decide +kernel
theorem D_Pad_scan_9 : decode m_Pad_scan.2.1 9 = .ok (.iload 4, 2) := by decide +kernel
theorem D_Pad_scan_11 : decode m_Pad_scan.2.1 11 = .ok (.aload_n 0, 1) := by decide +kernel
theorem D_Pad_scan_12 : decode m_Pad_scan.2.1 12 = .ok (.getfield 20, 3) := by decide +kernel
theorem D_Pad_scan_15 : decode m_Pad_scan.2.1 15 = .ok (.if_icmp .ge 88, 3) := by decide +kernel
theorem D_Pad_scan_18 : decode m_Pad_scan.2.1 18 = .ok (.aload_n 0, 1) := by decide +kernel
theorem D_Pad_scan_19 : decode m_Pad_scan.2.1 19 = .ok (.getfield 14, 3) := by decide +kernel
theorem D_Pad_scan_22 : decode m_Pad_scan.2.1 22 = .ok (.iload 4, 2) := by decide +kernel
theorem D_Pad_scan_24 : decode m_Pad_scan.2.1 24 = .ok (.invokevirtual 28, 3) := by decide +kernel
theorem D_Pad_scan_27 : decode m_Pad_scan.2.1 27 = .ok (.istore 5, 2) := by decide +kernel
theorem D_Pad_scan_29 : decode m_Pad_scan.2.1 29 = .ok (.iload 5, 2) := by decide +kernel
theorem D_Pad_scan_31 : decode m_Pad_scan.2.1 31 = .ok (.bipush 47, 2) := by decide +kernel
theorem D_Pad_scan_33 : decode m_Pad_scan.2.1 33 = .ok (.if_icmp .ne 35, 3) := by decide +kernel
theorem D_Pad_scan_36 : decode m_Pad_scan.2.1 36 = .ok (.iload_n 3, 1) := by decide +kernel
theorem D_Pad_scan_37 : decode m_Pad_scan.2.1 37 = .ok (.iconst 2, 1) := by decide +kernel
theorem D_Pad_scan_38 : decode m_Pad_scan.2.1 38 = .ok (.if_icmp .lt 17, 3) := by decide +kernel
theorem D_Pad_scan_41 : decode m_Pad_scan.2.1 41 = .ok (.iload_n 1, 1) := by decide +kernel
theorem D_Pad_scan_42 : decode m_Pad_scan.2.1 42 = .ok (.ifCond .le 8, 3) := by decide +kernel
theorem D_Pad_scan_45 : decode m_Pad_scan.2.1 45 = .ok (.iload_n 3, 1) := by decide +kernel
theorem D_Pad_scan_46 : decode m_Pad_scan.2.1 46 = .ok (.iload_n 2, 1) := by decide +kernel
theorem D_Pad_scan_47 : decode m_Pad_scan.2.1 47 = .ok (.if_icmp .ne 8, 3) := by decide +kernel
theorem D_Pad_scan_50 : decode m_Pad_scan.2.1 50 = .ok (.iload_n 1, 1) := by decide +kernel
theorem D_Pad_scan_51 : decode m_Pad_scan.2.1 51 = .ok (.iconst 5, 1) := by decide +kernel
theorem D_Pad_scan_52 : decode m_Pad_scan.2.1 52 = .ok (.if_icmp .ne 6, 3) := by decide +kernel
theorem D_Pad_scan_55 : decode m_Pad_scan.2.1 55 = .ok (.iload 4, 2) := by decide +kernel
theorem D_Pad_scan_57 : decode m_Pad_scan.2.1 57 = .ok (.ireturn, 1) := by decide +kernel
theorem D_Pad_scan_58 : decode m_Pad_scan.2.1 58 = .ok (.iload_n 3, 1) := by decide +kernel
theorem D_Pad_scan_59 : decode m_Pad_scan.2.1 59 = .ok (.istore_n 2, 1) := by decide +kernel
theorem D_Pad_scan_60 : decode m_Pad_scan.2.1 60 = .ok (.iconst 0, 1) := by decide +kernel
theorem D_Pad_scan_61 : decode m_Pad_scan.2.1 61 = .ok (.istore_n 3, 1) := by decide +kernel
theorem D_Pad_scan_62 : decode m_Pad_scan.2.1 62 = .ok (.iinc 1 1, 3) := by decide +kernel
theorem D_Pad_scan_65 : decode m_Pad_scan.2.1 65 = .ok (.goto 32, 3) := by decide +kernel
theorem D_Pad_scan_68 : decode m_Pad_scan.2.1 68 = .ok (.iload 5, 2) := by decide +kernel
theorem D_Pad_scan_70 : decode m_Pad_scan.2.1 70 = .ok (.invokestatic 32, 3) := by decide +kernel
theorem D_Pad_scan_73 : decode m_Pad_scan.2.1 73 = .ok (.iconst (-1), 1) := by decide +kernel
theorem D_Pad_scan_74 : decode m_Pad_scan.2.1 74 = .ok (.if_icmp .eq 17, 3) := by decide +kernel
theorem D_Pad_scan_77 : decode m_Pad_scan.2.1 77 = .ok (.iload_n 3, 1) := by decide +kernel
theorem D_Pad_scan_78 : decode m_Pad_scan.2.1 78 = .ok (.iload_n 1, 1) := by decide +kernel
theorem D_Pad_scan_79 : decode m_Pad_scan.2.1 79 = .ok (.ifCond .le 7, 3) := by decide +kernel
theorem D_Pad_scan_82 : decode m_Pad_scan.2.1 82 = .ok (.iload_n 2, 1) := by decide +kernel
theorem D_Pad_scan_83 : decode m_Pad_scan.2.1 83 = .ok (.goto 5, 3) := by decide +kernel
theorem D_Pad_scan_86 : decode m_Pad_scan.2.1 86 = .ok (.bipush 6, 2) := by decide +kernel
theorem D_Pad_scan_88 : decode m_Pad_scan.2.1 88 = .ok (.if_icmp .ne 6, 3) := by decide +kernel
theorem D_Pad_scan_91 : decode m_Pad_scan.2.1 91 = .ok (.iload 4, 2) := by decide +kernel
theorem D_Pad_scan_93 : decode m_Pad_scan.2.1 93 = .ok (.ireturn, 1) := by decide +kernel
theorem D_Pad_scan_94 : decode m_Pad_scan.2.1 94 = .ok (.iinc 3 1, 3) := by decide +kernel
theorem D_Pad_scan_97 : decode m_Pad_scan.2.1 97 = .ok (.iinc 4 1, 3) := by decide +kernel
theorem D_Pad_scan_100 : decode m_Pad_scan.2.1 100 = .ok (.goto (-91), 3) := by decide +kernel
theorem D_Pad_scan_103 : decode m_Pad_scan.2.1 103 = .ok (.iload_n 1, 1) := by decide +kernel
theorem D_Pad_scan_104 : decode m_Pad_scan.2.1 104 = .ok (.ifCond .eq 8, 3) := by decide +kernel
theorem D_Pad_scan_107 : decode m_Pad_scan.2.1 107 = .ok (.iload_n 3, 1) := by decide +kernel
theorem D_Pad_scan_108 : decode m_Pad_scan.2.1 108 = .ok (.iload_n 2, 1) := by decide +kernel
theorem D_Pad_scan_109 : decode m_Pad_scan.2.1 109 = .ok (.if_icmp .eq 8, 3) := by decide +kernel
theorem D_Pad_scan_112 : decode m_Pad_scan.2.1 112 = .ok (.aload_n 0, 1) := by decide +kernel
theorem D_Pad_scan_113 : decode m_Pad_scan.2.1 113 = .ok (.getfield 20, 3) := by decide +kernel
theorem D_Pad_scan_116 : decode m_Pad_scan.2.1 116 = .ok (.ireturn, 1) := by decide +kernel
theorem D_Pad_scan_117 : decode m_Pad_scan.2.1 117 = .ok (.aload_n 0, 1) := by decide +kernel
theorem D_Pad_scan_118 : decode m_Pad_scan.2.1 118 = .ok (.iload_n 1, 1) := by decide +kernel
theorem D_Pad_scan_119 : decode m_Pad_scan.2.1 119 = .ok (.iconst 1, 1) := by decide +kernel
theorem D_Pad_scan_120 : decode m_Pad_scan.2.1 120 = .ok (.iadd, 1) := by decide +kernel
theorem D_Pad_scan_121 : decode m_Pad_scan.2.1 121 = .ok (.putfield 35, 3) := by decide +kernel
theorem D_Pad_scan_124 : decode m_Pad_scan.2.1 124 = .ok (.aload_n 0, 1) := by decide +kernel
theorem D_Pad_scan_125 : decode m_Pad_scan.2.1 125 = .ok (.iload_n 2, 1) := by decide +kernel
theorem D_Pad_scan_126 : decode m_Pad_scan.2.1 126 = .ok (.putfield 38, 3) := by decide +kernel
theorem D_Pad_scan_129 : decode m_Pad_scan.2.1 129 = .ok (.bipush (-6), 2) := by decide +kernel
theorem D_Pad_scan_131 : decode m_Pad_scan.2.1 131 = .ok (.ireturn, 1) := by decide +kernel
theorem D_Pad_rows_0 : decode m_Pad_rows.2.1 0 = .ok (.aload_n 0, 1) := by decide +kernel
theorem D_Pad_rows_1 : decode m_Pad_rows.2.1 1 = .ok (.getfield 35, 3) := by decide +kernel
theorem D_Pad_rows_4 : decode m_Pad_rows.2.1 4 = .ok (.ireturn, 1) := by decide +kernel
theorem D_Pad_columns_0 : decode m_Pad_columns.2.1 0 = .ok (.aload_n 0, 1) := by decide +kernel
theorem D_Pad_columns_1 : decode m_Pad_columns.2.1 1 = .ok (.getfield 38, 3) := by decide +kernel
theorem D_Pad_columns_4 : decode m_Pad_columns.2.1 4 = .ok (.ireturn, 1) := by decide +kernel
theorem D_Pad_number_0 : decode m_Pad_number.2.1 0 = .ok (.aload_n 0, 1) := by decide +kernel
theorem D_Pad_number_1 : decode m_Pad_number.2.1 1 = .ok (.getfield 14, 3) := by decide +kernel
theorem D_Pad_number_4 : decode m_Pad_number.2.1 4 = .ok (.aload_n 0, 1) := by decide +kernel
theorem D_Pad_number_5 : decode m_Pad_number.2.1 5 = .ok (.getfield 38, 3) := by decide +kernel
theorem D_Pad_number_8 : decode m_Pad_number.2.1 8 = .ok (.iconst 1, 1) := by decide +kernel
theorem D_Pad_number_9 : decode m_Pad_number.2.1 9 = .ok (.iadd, 1) := by decide +kernel
theorem D_Pad_number_10 : decode m_Pad_number.2.1 10 = .ok (.iload_n 1, 1) := by decide +kernel
theorem D_Pad_number_11 : decode m_Pad_number.2.1 11 = .ok (.imul, 1) := by decide +kernel
theorem D_Pad_number_12 : decode m_Pad_number.2.1 12 = .ok (.iload_n 2, 1) := by decide +kernel
theorem D_Pad_number_13 : decode m_Pad_number.2.1 13 = .ok (.iadd, 1) := by decide +kernel
theorem D_Pad_number_14 : decode m_Pad_number.2.1 14 = .ok (.invokevirtual 28, 3) := by decide +kernel
theorem D_Pad_number_17 : decode m_Pad_number.2.1 17 = .ok (.invokestatic 32, 3) := by decide +kernel
theorem D_Pad_number_20 : decode m_Pad_number.2.1 20 = .ok (.ireturn, 1) := by decide +kernel
theorem D_Pad_greatestNumber_0 : decode m_Pad_greatestNumber.2.1 0 = .ok (.iconst 0, 1) := by decide +kernel
theorem D_Pad_greatestNumber_1 : decode m_Pad_greatestNumber.2.1 1 = .ok (.istore_n 1, 1) := by decide +kernel
theorem D_Pad_greatestNumber_2 : decode m_Pad_greatestNumber.2.1 2 = .ok (.iconst 0, 1) := by decide +kernel
theorem D_Pad_greatestNumber_3 : decode m_Pad_greatestNumber.2.1 3 = .ok (.istore_n 2, 1) := by decide +kernel
theorem D_Pad_greatestNumber_4 : decode m_Pad_greatestNumber.2.1 4 = .ok (.iload_n 2, 1) := by decide +kernel
theorem D_Pad_greatestNumber_5 : decode m_Pad_greatestNumber.2.1 5 = .ok (.aload_n 0, 1) := by decide +kernel
theorem D_Pad_greatestNumber_6 : decode m_Pad_greatestNumber.2.1 6 = .ok (.getfield 20, 3) := by decide +kernel
theorem D_Pad_greatestNumber_9 : decode m_Pad_greatestNumber.2.1 9 = .ok (.if_icmp .ge 25, 3) := by decide +kernel
theorem D_Pad_greatestNumber_12 : decode m_Pad_greatestNumber.2.1 12 = .ok (.iload_n 1, 1) := by decide +kernel
theorem D_Pad_greatestNumber_13 : decode m_Pad_greatestNumber.2.1 13 = .ok (.aload_n 0, 1) := by decide +kernel
theorem D_Pad_greatestNumber_14 : decode m_Pad_greatestNumber.2.1 14 = .ok (.getfield 14, 3) := by decide +kernel
theorem D_Pad_greatestNumber_17 : decode m_Pad_greatestNumber.2.1 17 = .ok (.iload_n 2, 1) := by decide +kernel
theorem D_Pad_greatestNumber_18 : decode m_Pad_greatestNumber.2.1 18 = .ok (.invokevirtual 28, 3) := by decide +kernel
theorem D_Pad_greatestNumber_21 : decode m_Pad_greatestNumber.2.1 21 = .ok (.invokestatic 32, 3) := by decide +kernel
theorem D_Pad_greatestNumber_24 : decode m_Pad_greatestNumber.2.1 24 = .ok (.invokestatic 41, 3) := by decide +kernel
theorem D_Pad_greatestNumber_27 : decode m_Pad_greatestNumber.2.1 27 = .ok (.istore_n 1, 1) := by decide +kernel
theorem D_Pad_greatestNumber_28 : decode m_Pad_greatestNumber.2.1 28 = .ok (.iinc 2 1, 3) := by decide +kernel
theorem D_Pad_greatestNumber_31 : decode m_Pad_greatestNumber.2.1 31 = .ok (.goto (-27), 3) := by decide +kernel
theorem D_Pad_greatestNumber_34 : decode m_Pad_greatestNumber.2.1 34 = .ok (.iload_n 1, 1) := by decide +kernel
theorem D_Pad_greatestNumber_35 : decode m_Pad_greatestNumber.2.1 35 = .ok (.ireturn, 1) := by decide +kernel
theorem D_Pad_signOf_0 : decode m_Pad_signOf.2.1 0 = .ok (.iload_n 0, 1) := by decide +kernel
theorem D_Pad_signOf_1 : decode m_Pad_signOf.2.1 1 = .ok (.bipush 46, 2) := by decide +kernel
theorem D_Pad_signOf_3 : decode m_Pad_signOf.2.1 3 = .ok (.if_icmp .ne 5, 3) := by decide +kernel
theorem D_Pad_signOf_6 : decode m_Pad_signOf.2.1 6 = .ok (.iconst 0, 1) := by decide +kernel
theorem D_Pad_signOf_7 : decode m_Pad_signOf.2.1 7 = .ok (.ireturn, 1) := by decide +kernel
theorem D_Pad_signOf_8 : decode m_Pad_signOf.2.1 8 = .ok (.iload_n 0, 1) := by decide +kernel
theorem D_Pad_signOf_9 : decode m_Pad_signOf.2.1 9 = .ok (.bipush 49, 2) := by decide +kernel
theorem D_Pad_signOf_11 : decode m_Pad_signOf.2.1 11 = .ok (.if_icmp .lt 14, 3) := by decide +kernel
theorem D_Pad_signOf_14 : decode m_Pad_signOf.2.1 14 = .ok (.iload_n 0, 1) := by decide +kernel
theorem D_Pad_signOf_15 : decode m_Pad_signOf.2.1 15 = .ok (.bipush 57, 2) := by decide +kernel
theorem D_Pad_signOf_17 : decode m_Pad_signOf.2.1 17 = .ok (.if_icmp .gt 8, 3) := by decide +kernel
theorem D_Pad_signOf_20 : decode m_Pad_signOf.2.1 20 = .ok (.iload_n 0, 1) := by decide +kernel
theorem D_Pad_signOf_21 : decode m_Pad_signOf.2.1 21 = .ok (.bipush 48, 2) := by decide +kernel
theorem D_Pad_signOf_23 : decode m_Pad_signOf.2.1 23 = .ok (.isub, 1) := by decide +kernel
theorem D_Pad_signOf_24 : decode m_Pad_signOf.2.1 24 = .ok (.ireturn, 1) := by decide +kernel
theorem D_Pad_signOf_25 : decode m_Pad_signOf.2.1 25 = .ok (.iload_n 0, 1) := by decide +kernel
theorem D_Pad_signOf_26 : decode m_Pad_signOf.2.1 26 = .ok (.bipush 97, 2) := by decide +kernel
theorem D_Pad_signOf_28 : decode m_Pad_signOf.2.1 28 = .ok (.if_icmp .lt 19, 3) := by decide +kernel
theorem D_Pad_signOf_31 : decode m_Pad_signOf.2.1 31 = .ok (.iload_n 0, 1) := by decide +kernel
theorem D_Pad_signOf_32 : decode m_Pad_signOf.2.1 32 = .ok (.bipush 99, 2) := by decide +kernel
theorem D_Pad_signOf_34 : decode m_Pad_signOf.2.1 34 = .ok (.if_icmp .gt 13, 3) := by decide +kernel
theorem D_Pad_signOf_37 : decode m_Pad_signOf.2.1 37 = .ok (.iload_n 0, 1) := by decide +kernel
theorem D_Pad_signOf_38 : decode m_Pad_signOf.2.1 38 = .ok (.bipush 97, 2) := by decide +kernel
theorem D_Pad_signOf_40 : decode m_Pad_signOf.2.1 40 = .ok (.isub, 1) := by decide +kernel
theorem D_Pad_signOf_41 : decode m_Pad_signOf.2.1 41 = .ok (.bipush 10, 2) := by decide +kernel
theorem D_Pad_signOf_43 : decode m_Pad_signOf.2.1 43 = .ok (.iadd, 1) := by decide +kernel
theorem D_Pad_signOf_44 : decode m_Pad_signOf.2.1 44 = .ok (.goto 4, 3) := by decide +kernel
theorem D_Pad_signOf_47 : decode m_Pad_signOf.2.1 47 = .ok (.iconst (-1), 1) := by decide +kernel
theorem D_Pad_signOf_48 : decode m_Pad_signOf.2.1 48 = .ok (.ireturn, 1) := by decide +kernel
theorem D_Parts_init_0 : decode m_Parts_init.2.1 0 = .ok (.aload_n 0, 1) := by decide +kernel
theorem D_Parts_init_1 : decode m_Parts_init.2.1 1 = .ok (.invokespecial 3, 3) := by decide +kernel
theorem D_Parts_init_4 : decode m_Parts_init.2.1 4 = .ok (.aload_n 0, 1) := by decide +kernel
theorem D_Parts_init_5 : decode m_Parts_init.2.1 5 = .ok (.new 9, 3) := by decide +kernel
theorem D_Parts_init_8 : decode m_Parts_init.2.1 8 = .ok (.dup, 1) := by decide +kernel
theorem D_Parts_init_9 : decode m_Parts_init.2.1 9 = .ok (.bipush 6, 2) := by decide +kernel
theorem D_Parts_init_11 : decode m_Parts_init.2.1 11 = .ok (.invokespecial 11, 3) := by decide +kernel
theorem D_Parts_init_14 : decode m_Parts_init.2.1 14 = .ok (.putfield 14, 3) := by decide +kernel
theorem D_Parts_init_17 : decode m_Parts_init.2.1 17 = .ok (.aload_n 0, 1) := by decide +kernel
theorem D_Parts_init_18 : decode m_Parts_init.2.1 18 = .ok (.new 9, 3) := by decide +kernel
theorem D_Parts_init_21 : decode m_Parts_init.2.1 21 = .ok (.dup, 1) := by decide +kernel
theorem D_Parts_init_22 : decode m_Parts_init.2.1 22 = .ok (.bipush 6, 2) := by decide +kernel
theorem D_Parts_init_24 : decode m_Parts_init.2.1 24 = .ok (.invokespecial 11, 3) := by decide +kernel
theorem D_Parts_init_27 : decode m_Parts_init.2.1 27 = .ok (.putfield 20, 3) := by decide +kernel
theorem D_Parts_init_30 : decode m_Parts_init.2.1 30 = .ok (.aload_n 0, 1) := by decide +kernel
theorem D_Parts_init_31 : decode m_Parts_init.2.1 31 = .ok (.new 9, 3) := by decide +kernel
theorem D_Parts_init_34 : decode m_Parts_init.2.1 34 = .ok (.dup, 1) := by decide +kernel
theorem D_Parts_init_35 : decode m_Parts_init.2.1 35 = .ok (.bipush 6, 2) := by decide +kernel
theorem D_Parts_init_37 : decode m_Parts_init.2.1 37 = .ok (.invokespecial 11, 3) := by decide +kernel
theorem D_Parts_init_40 : decode m_Parts_init.2.1 40 = .ok (.putfield 23, 3) := by decide +kernel
theorem D_Parts_init_43 : decode m_Parts_init.2.1 43 = .ok (.aload_n 0, 1) := by decide +kernel
theorem D_Parts_init_44 : decode m_Parts_init.2.1 44 = .ok (.new 9, 3) := by decide +kernel
theorem D_Parts_init_47 : decode m_Parts_init.2.1 47 = .ok (.dup, 1) := by decide +kernel
theorem D_Parts_init_48 : decode m_Parts_init.2.1 48 = .ok (.bipush 6, 2) := by decide +kernel
theorem D_Parts_init_50 : decode m_Parts_init.2.1 50 = .ok (.invokespecial 11, 3) := by decide +kernel
theorem D_Parts_init_53 : decode m_Parts_init.2.1 53 = .ok (.putfield 26, 3) := by decide +kernel
theorem D_Parts_init_56 : decode m_Parts_init.2.1 56 = .ok (.return_, 1) := by decide +kernel
theorem D_Parts_find_0 : decode m_Parts_find.2.1 0 = .ok (.aload_n 0, 1) := by decide +kernel
theorem D_Parts_find_1 : decode m_Parts_find.2.1 1 = .ok (.iconst 0, 1) := by decide +kernel
theorem D_Parts_find_2 : decode m_Parts_find.2.1 2 = .ok (.putfield 29, 3) := by decide +kernel
theorem D_Parts_find_5 : decode m_Parts_find.2.1 5 = .ok (.aload_n 0, 1) := by decide +kernel
theorem D_Parts_find_6 : decode m_Parts_find.2.1 6 = .ok (.getfield 14, 3) := by decide +kernel
theorem D_Parts_find_9 : decode m_Parts_find.2.1 9 = .ok (.iconst (-1), 1) := by decide +kernel
theorem D_Parts_find_10 : decode m_Parts_find.2.1 10 = .ok (.invokevirtual 33, 3) := by decide +kernel
theorem D_Parts_find_13 : decode m_Parts_find.2.1 13 = .ok (.aload_n 0, 1) := by decide +kernel
theorem D_Parts_find_14 : decode m_Parts_find.2.1 14 = .ok (.getfield 20, 3) := by decide +kernel
theorem D_Parts_find_17 : decode m_Parts_find.2.1 17 = .ok (.iconst (-1), 1) := by decide +kernel
theorem D_Parts_find_18 : decode m_Parts_find.2.1 18 = .ok (.invokevirtual 33, 3) := by decide +kernel
theorem D_Parts_find_21 : decode m_Parts_find.2.1 21 = .ok (.iconst 0, 1) := by decide +kernel
theorem D_Parts_find_22 : decode m_Parts_find.2.1 22 = .ok (.istore_n 2, 1) := by decide +kernel
theorem D_Parts_find_23 : decode m_Parts_find.2.1 23 = .ok (.iload_n 2, 1) := by decide +kernel
theorem D_Parts_find_24 : decode m_Parts_find.2.1 24 = .ok (.aload_n 1, 1) := by decide +kernel
theorem D_Parts_find_25 : decode m_Parts_find.2.1 25 = .ok (.invokevirtual 36, 3) := by decide +kernel
theorem D_Parts_find_28 : decode m_Parts_find.2.1 28 = .ok (.if_icmp .ge 57, 3) := by decide +kernel
theorem D_Parts_find_31 : decode m_Parts_find.2.1 31 = .ok (.aload_n 0, 1) := by decide +kernel
theorem D_Parts_find_32 : decode m_Parts_find.2.1 32 = .ok (.getfield 14, 3) := by decide +kernel
theorem D_Parts_find_35 : decode m_Parts_find.2.1 35 = .ok (.iload_n 2, 1) := by decide +kernel
theorem D_Parts_find_36 : decode m_Parts_find.2.1 36 = .ok (.invokevirtual 42, 3) := by decide +kernel
theorem D_Parts_find_39 : decode m_Parts_find.2.1 39 = .ok (.iconst (-1), 1) := by decide +kernel
theorem D_Parts_find_40 : decode m_Parts_find.2.1 40 = .ok (.if_icmp .ne 39, 3) := by decide +kernel
theorem D_Parts_find_43 : decode m_Parts_find.2.1 43 = .ok (.aload_n 0, 1) := by decide +kernel
theorem D_Parts_find_44 : decode m_Parts_find.2.1 44 = .ok (.getfield 14, 3) := by decide +kernel
theorem D_Parts_find_47 : decode m_Parts_find.2.1 47 = .ok (.iload_n 2, 1) := by decide +kernel
theorem D_Parts_find_48 : decode m_Parts_find.2.1 48 = .ok (.aload_n 0, 1) := by decide +kernel
theorem D_Parts_find_49 : decode m_Parts_find.2.1 49 = .ok (.getfield 29, 3) := by decide +kernel
theorem D_Parts_find_52 : decode m_Parts_find.2.1 52 = .ok (.invokevirtual 46, 3) := by decide +kernel
theorem D_Parts_find_55 : decode m_Parts_find.2.1 55 = .ok (.aload_n 0, 1) := by decide +kernel
theorem D_Parts_find_56 : decode m_Parts_find.2.1 56 = .ok (.getfield 23, 3) := by decide +kernel
theorem D_Parts_find_59 : decode m_Parts_find.2.1 59 = .ok (.iload_n 2, 1) := by decide +kernel
theorem D_Parts_find_60 : decode m_Parts_find.2.1 60 = .ok (.iconst 1, 1) := by decide +kernel
theorem D_Parts_find_61 : decode m_Parts_find.2.1 61 = .ok (.invokevirtual 46, 3) := by decide +kernel
theorem D_Parts_find_64 : decode m_Parts_find.2.1 64 = .ok (.aload_n 0, 1) := by decide +kernel
theorem D_Parts_find_65 : decode m_Parts_find.2.1 65 = .ok (.dup, 1) := by decide +kernel
theorem D_Parts_find_66 : decode m_Parts_find.2.1 66 = .ok (.getfield 29, 3) := by decide +kernel
theorem D_Parts_find_69 : decode m_Parts_find.2.1 69 = .ok (.iconst 1, 1) := by decide +kernel
theorem D_Parts_find_70 : decode m_Parts_find.2.1 70 = .ok (.iadd, 1) := by decide +kernel
theorem D_Parts_find_71 : decode m_Parts_find.2.1 71 = .ok (.putfield 29, 3) := by decide +kernel
theorem D_Parts_find_74 : decode m_Parts_find.2.1 74 = .ok (.aload_n 0, 1) := by decide +kernel
theorem D_Parts_find_75 : decode m_Parts_find.2.1 75 = .ok (.aload_n 1, 1) := by decide +kernel
theorem D_Parts_find_76 : decode m_Parts_find.2.1 76 = .ok (.invokevirtual 50, 3) := by decide +kernel
theorem D_Parts_find_79 : decode m_Parts_find.2.1 79 = .ok (.iinc 2 1, 3) := by decide +kernel
theorem D_Parts_find_82 : decode m_Parts_find.2.1 82 = .ok (.goto (-59), 3) := by decide +kernel
theorem D_Parts_find_85 : decode m_Parts_find.2.1 85 = .ok (.iconst 0, 1) := by decide +kernel
theorem D_Parts_find_86 : decode m_Parts_find.2.1 86 = .ok (.istore_n 2, 1) := by decide +kernel
theorem D_Parts_find_87 : decode m_Parts_find.2.1 87 = .ok (.iload_n 2, 1) := by decide +kernel
theorem D_Parts_find_88 : decode m_Parts_find.2.1 88 = .ok (.aload_n 1, 1) := by decide +kernel
theorem D_Parts_find_89 : decode m_Parts_find.2.1 89 = .ok (.invokevirtual 54, 3) := by decide +kernel
theorem D_Parts_find_92 : decode m_Parts_find.2.1 92 = .ok (.if_icmp .ge 52, 3) := by decide +kernel
theorem D_Parts_find_95 : decode m_Parts_find.2.1 95 = .ok (.aload_n 0, 1) := by decide +kernel
theorem D_Parts_find_96 : decode m_Parts_find.2.1 96 = .ok (.getfield 20, 3) := by decide +kernel
theorem D_Parts_find_99 : decode m_Parts_find.2.1 99 = .ok (.iload_n 2, 1) := by decide +kernel
theorem D_Parts_find_100 : decode m_Parts_find.2.1 100 = .ok (.invokevirtual 42, 3) := by decide +kernel
theorem D_Parts_find_103 : decode m_Parts_find.2.1 103 = .ok (.iconst (-1), 1) := by decide +kernel
theorem D_Parts_find_104 : decode m_Parts_find.2.1 104 = .ok (.if_icmp .ne 34, 3) := by decide +kernel
theorem D_Parts_find_107 : decode m_Parts_find.2.1 107 = .ok (.aload_n 0, 1) := by decide +kernel
theorem D_Parts_find_108 : decode m_Parts_find.2.1 108 = .ok (.getfield 20, 3) := by decide +kernel
theorem D_Parts_find_111 : decode m_Parts_find.2.1 111 = .ok (.iload_n 2, 1) := by decide +kernel
theorem D_Parts_find_112 : decode m_Parts_find.2.1 112 = .ok (.aload_n 0, 1) := by decide +kernel
theorem D_Parts_find_113 : decode m_Parts_find.2.1 113 = .ok (.getfield 29, 3) := by decide +kernel
theorem D_Parts_find_116 : decode m_Parts_find.2.1 116 = .ok (.invokevirtual 46, 3) := by decide +kernel
theorem D_Parts_find_119 : decode m_Parts_find.2.1 119 = .ok (.aload_n 0, 1) := by decide +kernel
theorem D_Parts_find_120 : decode m_Parts_find.2.1 120 = .ok (.getfield 26, 3) := by decide +kernel
theorem D_Parts_find_123 : decode m_Parts_find.2.1 123 = .ok (.iload_n 2, 1) := by decide +kernel
theorem D_Parts_find_124 : decode m_Parts_find.2.1 124 = .ok (.iconst 1, 1) := by decide +kernel
theorem D_Parts_find_125 : decode m_Parts_find.2.1 125 = .ok (.invokevirtual 46, 3) := by decide +kernel
theorem D_Parts_find_128 : decode m_Parts_find.2.1 128 = .ok (.aload_n 0, 1) := by decide +kernel
theorem D_Parts_find_129 : decode m_Parts_find.2.1 129 = .ok (.dup, 1) := by decide +kernel
theorem D_Parts_find_130 : decode m_Parts_find.2.1 130 = .ok (.getfield 29, 3) := by decide +kernel
theorem D_Parts_find_133 : decode m_Parts_find.2.1 133 = .ok (.iconst 1, 1) := by decide +kernel
theorem D_Parts_find_134 : decode m_Parts_find.2.1 134 = .ok (.iadd, 1) := by decide +kernel
theorem D_Parts_find_135 : decode m_Parts_find.2.1 135 = .ok (.putfield 29, 3) := by decide +kernel
theorem D_Parts_find_138 : decode m_Parts_find.2.1 138 = .ok (.iinc 2 1, 3) := by decide +kernel
theorem D_Parts_find_141 : decode m_Parts_find.2.1 141 = .ok (.goto (-54), 3) := by decide +kernel
theorem D_Parts_find_144 : decode m_Parts_find.2.1 144 = .ok (.aload_n 0, 1) := by decide +kernel
theorem D_Parts_find_145 : decode m_Parts_find.2.1 145 = .ok (.aload_n 0, 1) := by decide +kernel
theorem D_Parts_find_146 : decode m_Parts_find.2.1 146 = .ok (.aload_n 1, 1) := by decide +kernel
theorem D_Parts_find_147 : decode m_Parts_find.2.1 147 = .ok (.invokevirtual 57, 3) := by decide +kernel
theorem D_Parts_find_150 : decode m_Parts_find.2.1 150 = .ok (.putfield 61, 3) := by decide +kernel
theorem D_Parts_find_153 : decode m_Parts_find.2.1 153 = .ok (.return_, 1) := by decide +kernel
theorem D_Parts_spread_0 : decode m_Parts_spread.2.1 0 = .ok (.iconst 1, 1) := by decide +kernel
theorem D_Parts_spread_1 : decode m_Parts_spread.2.1 1 = .ok (.istore_n 2, 1) := by decide +kernel
theorem D_Parts_spread_2 : decode m_Parts_spread.2.1 2 = .ok (.iconst 0, 1) := by decide +kernel
theorem D_Parts_spread_3 : decode m_Parts_spread.2.1 3 = .ok (.istore_n 3, 1) := by decide +kernel
theorem D_Parts_spread_4 : decode m_Parts_spread.2.1 4 = .ok (.iload_n 3, 1) := by decide +kernel
theorem D_Parts_spread_5 : decode m_Parts_spread.2.1 5 = .ok (.bipush 12, 2) := by decide +kernel
theorem D_Parts_spread_7 : decode m_Parts_spread.2.1 7 = .ok (.if_icmp .gt 76, 3) := by decide +kernel
theorem D_Parts_spread_10 : decode m_Parts_spread.2.1 10 = .ok (.iload_n 2, 1) := by decide +kernel
theorem D_Parts_spread_11 : decode m_Parts_spread.2.1 11 = .ok (.ifCond .eq 72, 3) := by decide +kernel
theorem D_Parts_spread_14 : decode m_Parts_spread.2.1 14 = .ok (.iconst 0, 1) := by decide +kernel
theorem D_Parts_spread_15 : decode m_Parts_spread.2.1 15 = .ok (.istore_n 2, 1) := by decide +kernel
theorem D_Parts_spread_16 : decode m_Parts_spread.2.1 16 = .ok (.iconst 0, 1) := by decide +kernel
theorem D_Parts_spread_17 : decode m_Parts_spread.2.1 17 = .ok (.istore 4, 2) := by decide +kernel
theorem D_Parts_spread_19 : decode m_Parts_spread.2.1 19 = .ok (.iload 4, 2) := by decide +kernel
theorem D_Parts_spread_21 : decode m_Parts_spread.2.1 21 = .ok (.aload_n 1, 1) := by decide +kernel
theorem D_Parts_spread_22 : decode m_Parts_spread.2.1 22 = .ok (.invokevirtual 36, 3) := by decide +kernel
theorem D_Parts_spread_25 : decode m_Parts_spread.2.1 25 = .ok (.if_icmp .ge 52, 3) := by decide +kernel
theorem D_Parts_spread_28 : decode m_Parts_spread.2.1 28 = .ok (.iconst 0, 1) := by decide +kernel
theorem D_Parts_spread_29 : decode m_Parts_spread.2.1 29 = .ok (.istore 5, 2) := by decide +kernel
theorem D_Parts_spread_31 : decode m_Parts_spread.2.1 31 = .ok (.iload 5, 2) := by decide +kernel
theorem D_Parts_spread_33 : decode m_Parts_spread.2.1 33 = .ok (.aload_n 1, 1) := by decide +kernel
theorem D_Parts_spread_34 : decode m_Parts_spread.2.1 34 = .ok (.invokevirtual 54, 3) := by decide +kernel
theorem D_Parts_spread_37 : decode m_Parts_spread.2.1 37 = .ok (.if_icmp .ge 34, 3) := by decide +kernel
theorem D_Parts_spread_40 : decode m_Parts_spread.2.1 40 = .ok (.aload_n 1, 1) := by decide +kernel
theorem D_Parts_spread_41 : decode m_Parts_spread.2.1 41 = .ok (.iload 4, 2) := by decide +kernel
theorem D_Parts_spread_43 : decode m_Parts_spread.2.1 43 = .ok (.iload 5, 2) := by decide +kernel
theorem D_Parts_spread_45 : decode m_Parts_spread.2.1 45 = .ok (.invokevirtual 65, 3) := by decide +kernel
theorem D_Parts_spread_48 : decode m_Parts_spread.2.1 48 = .ok (.ifCond .eq 17, 3) := by decide +kernel
theorem D_Parts_spread_51 : decode m_Parts_spread.2.1 51 = .ok (.aload_n 0, 1) := by decide +kernel
theorem D_Parts_spread_52 : decode m_Parts_spread.2.1 52 = .ok (.aload_n 1, 1) := by decide +kernel
theorem D_Parts_spread_53 : decode m_Parts_spread.2.1 53 = .ok (.iload 4, 2) := by decide +kernel
theorem D_Parts_spread_55 : decode m_Parts_spread.2.1 55 = .ok (.iload 5, 2) := by decide +kernel
theorem D_Parts_spread_57 : decode m_Parts_spread.2.1 57 = .ok (.invokevirtual 69, 3) := by decide +kernel
theorem D_Parts_spread_60 : decode m_Parts_spread.2.1 60 = .ok (.ifCond .eq 5, 3) := by decide +kernel
theorem D_Parts_spread_63 : decode m_Parts_spread.2.1 63 = .ok (.iconst 1, 1) := by decide +kernel
theorem D_Parts_spread_64 : decode m_Parts_spread.2.1 64 = .ok (.istore_n 2, 1) := by decide +kernel
theorem D_Parts_spread_65 : decode m_Parts_spread.2.1 65 = .ok (.iinc 5 1, 3) := by decide +kernel
theorem D_Parts_spread_68 : decode m_Parts_spread.2.1 68 = .ok (.goto (-37), 3) := by decide +kernel
theorem D_Parts_spread_71 : decode m_Parts_spread.2.1 71 = .ok (.iinc 4 1, 3) := by decide +kernel
theorem D_Parts_spread_74 : decode m_Parts_spread.2.1 74 = .ok (.goto (-55), 3) := by decide +kernel
theorem D_Parts_spread_77 : decode m_Parts_spread.2.1 77 = .ok (.iinc 3 1, 3) := by decide +kernel
theorem D_Parts_spread_80 : decode m_Parts_spread.2.1 80 = .ok (.goto (-76), 3) := by decide +kernel
theorem D_Parts_spread_83 : decode m_Parts_spread.2.1 83 = .ok (.return_, 1) := by decide +kernel
theorem D_Parts_reachOver_0 : decode m_Parts_reachOver.2.1 0 = .ok (.aload_n 0, 1) := by decide +kernel
theorem D_Parts_reachOver_1 : decode m_Parts_reachOver.2.1 1 = .ok (.getfield 14, 3) := by decide +kernel
theorem D_Parts_reachOver_4 : decode m_Parts_reachOver.2.1 4 = .ok (.iload_n 2, 1) := by decide +kernel
theorem D_Parts_reachOver_5 : decode m_Parts_reachOver.2.1 5 = .ok (.invokevirtual 42, 3) := by decide +kernel
theorem D_Parts_reachOver_8 : decode m_Parts_reachOver.2.1 8 = .ok (.istore 4, 2) := by decide +kernel
theorem D_Parts_reachOver_10 : decode m_Parts_reachOver.2.1 10 = .ok (.aload_n 0, 1) := by decide +kernel
theorem D_Parts_reachOver_11 : decode m_Parts_reachOver.2.1 11 = .ok (.getfield 20, 3) := by decide +kernel
theorem D_Parts_reachOver_14 : decode m_Parts_reachOver.2.1 14 = .ok (.iload_n 3, 1) := by decide +kernel
theorem D_Parts_reachOver_15 : decode m_Parts_reachOver.2.1 15 = .ok (.invokevirtual 42, 3) := by decide +kernel
theorem D_Parts_reachOver_18 : decode m_Parts_reachOver.2.1 18 = .ok (.istore 5, 2) := by decide +kernel
theorem D_Parts_reachOver_20 : decode m_Parts_reachOver.2.1 20 = .ok (.aload_n 1, 1) := by decide +kernel
theorem D_Parts_reachOver_21 : decode m_Parts_reachOver.2.1 21 = .ok (.iload_n 2, 1) := by decide +kernel
theorem D_Parts_reachOver_22 : decode m_Parts_reachOver.2.1 22 = .ok (.iload_n 3, 1) := by decide +kernel
theorem D_Parts_reachOver_23 : decode m_Parts_reachOver.2.1 23 = .ok (.invokevirtual 65, 3) := by decide +kernel
theorem D_Parts_reachOver_26 : decode m_Parts_reachOver.2.1 26 = .ok (.istore 6, 2) := by decide +kernel
theorem D_Parts_reachOver_28 : decode m_Parts_reachOver.2.1 28 = .ok (.iload 4, 2) := by decide +kernel
theorem D_Parts_reachOver_30 : decode m_Parts_reachOver.2.1 30 = .ok (.iconst (-1), 1) := by decide +kernel
theorem D_Parts_reachOver_31 : decode m_Parts_reachOver.2.1 31 = .ok (.if_icmp .ne 7, 3) := by decide +kernel
theorem D_Parts_reachOver_34 : decode m_Parts_reachOver.2.1 34 = .ok (.iconst 1, 1) := by decide +kernel
theorem D_Parts_reachOver_35 : decode m_Parts_reachOver.2.1 35 = .ok (.goto 4, 3) := by decide +kernel
theorem D_Parts_reachOver_38 : decode m_Parts_reachOver.2.1 38 = .ok (.iconst 0, 1) := by decide +kernel
theorem D_Parts_reachOver_39 : decode m_Parts_reachOver.2.1 39 = .ok (.iload 5, 2) := by decide +kernel
theorem D_Parts_reachOver_41 : decode m_Parts_reachOver.2.1 41 = .ok (.iconst (-1), 1) := by decide +kernel
theorem D_Parts_reachOver_42 : decode m_Parts_reachOver.2.1 42 = .ok (.if_icmp .ne 7, 3) := by decide +kernel
theorem D_Parts_reachOver_45 : decode m_Parts_reachOver.2.1 45 = .ok (.iconst 1, 1) := by decide +kernel
theorem D_Parts_reachOver_46 : decode m_Parts_reachOver.2.1 46 = .ok (.goto 4, 3) := by decide +kernel
theorem D_Parts_reachOver_49 : decode m_Parts_reachOver.2.1 49 = .ok (.iconst 0, 1) := by decide +kernel
theorem D_Parts_reachOver_50 : decode m_Parts_reachOver.2.1 50 = .ok (.if_icmp .ne 5, 3) := by decide +kernel
theorem D_Parts_reachOver_53 : decode m_Parts_reachOver.2.1 53 = .ok (.iconst 0, 1) := by decide +kernel
theorem D_Parts_reachOver_54 : decode m_Parts_reachOver.2.1 54 = .ok (.ireturn, 1) := by decide +kernel
theorem D_Parts_reachOver_55 : decode m_Parts_reachOver.2.1 55 = .ok (.iload 4, 2) := by decide +kernel
theorem D_Parts_reachOver_57 : decode m_Parts_reachOver.2.1 57 = .ok (.iconst (-1), 1) := by decide +kernel
theorem D_Parts_reachOver_58 : decode m_Parts_reachOver.2.1 58 = .ok (.if_icmp .ne 38, 3) := by decide +kernel
theorem D_Parts_reachOver_61 : decode m_Parts_reachOver.2.1 61 = .ok (.aload_n 0, 1) := by decide +kernel
theorem D_Parts_reachOver_62 : decode m_Parts_reachOver.2.1 62 = .ok (.getfield 14, 3) := by decide +kernel
theorem D_Parts_reachOver_65 : decode m_Parts_reachOver.2.1 65 = .ok (.iload_n 2, 1) := by decide +kernel
theorem D_Parts_reachOver_66 : decode m_Parts_reachOver.2.1 66 = .ok (.iload 5, 2) := by decide +kernel
theorem D_Parts_reachOver_68 : decode m_Parts_reachOver.2.1 68 = .ok (.invokevirtual 46, 3) := by decide +kernel
theorem D_Parts_reachOver_71 : decode m_Parts_reachOver.2.1 71 = .ok (.aload_n 0, 1) := by decide +kernel
theorem D_Parts_reachOver_72 : decode m_Parts_reachOver.2.1 72 = .ok (.getfield 23, 3) := by decide +kernel
theorem D_Parts_reachOver_75 : decode m_Parts_reachOver.2.1 75 = .ok (.iload_n 2, 1) := by decide +kernel
theorem D_Parts_reachOver_76 : decode m_Parts_reachOver.2.1 76 = .ok (.aload_n 1, 1) := by decide +kernel
theorem D_Parts_reachOver_77 : decode m_Parts_reachOver.2.1 77 = .ok (.iload 6, 2) := by decide +kernel
theorem D_Parts_reachOver_79 : decode m_Parts_reachOver.2.1 79 = .ok (.aload_n 0, 1) := by decide +kernel
theorem D_Parts_reachOver_80 : decode m_Parts_reachOver.2.1 80 = .ok (.getfield 26, 3) := by decide +kernel
theorem D_Parts_reachOver_83 : decode m_Parts_reachOver.2.1 83 = .ok (.iload_n 3, 1) := by decide +kernel
theorem D_Parts_reachOver_84 : decode m_Parts_reachOver.2.1 84 = .ok (.invokevirtual 42, 3) := by decide +kernel
theorem D_Parts_reachOver_87 : decode m_Parts_reachOver.2.1 87 = .ok (.invokevirtual 73, 3) := by decide +kernel
theorem D_Parts_reachOver_90 : decode m_Parts_reachOver.2.1 90 = .ok (.invokevirtual 46, 3) := by decide +kernel
theorem D_Parts_reachOver_93 : decode m_Parts_reachOver.2.1 93 = .ok (.goto 35, 3) := by decide +kernel
theorem D_Parts_reachOver_96 : decode m_Parts_reachOver.2.1 96 = .ok (.aload_n 0, 1) := by decide +kernel
theorem D_Parts_reachOver_97 : decode m_Parts_reachOver.2.1 97 = .ok (.getfield 20, 3) := by decide +kernel
theorem D_Parts_reachOver_100 : decode m_Parts_reachOver.2.1 100 = .ok (.iload_n 3, 1) := by decide +kernel
theorem D_Parts_reachOver_101 : decode m_Parts_reachOver.2.1 101 = .ok (.iload 4, 2) := by decide +kernel
theorem D_Parts_reachOver_103 : decode m_Parts_reachOver.2.1 103 = .ok (.invokevirtual 46, 3) := by decide +kernel
theorem D_Parts_reachOver_106 : decode m_Parts_reachOver.2.1 106 = .ok (.aload_n 0, 1) := by decide +kernel
theorem D_Parts_reachOver_107 : decode m_Parts_reachOver.2.1 107 = .ok (.getfield 26, 3) := by decide +kernel
theorem D_Parts_reachOver_110 : decode m_Parts_reachOver.2.1 110 = .ok (.iload_n 3, 1) := by decide +kernel
theorem D_Parts_reachOver_111 : decode m_Parts_reachOver.2.1 111 = .ok (.aload_n 1, 1) := by decide +kernel
theorem D_Parts_reachOver_112 : decode m_Parts_reachOver.2.1 112 = .ok (.iload 6, 2) := by decide +kernel
theorem D_Parts_reachOver_114 : decode m_Parts_reachOver.2.1 114 = .ok (.aload_n 0, 1) := by decide +kernel
theorem D_Parts_reachOver_115 : decode m_Parts_reachOver.2.1 115 = .ok (.getfield 23, 3) := by decide +kernel
theorem D_Parts_reachOver_118 : decode m_Parts_reachOver.2.1 118 = .ok (.iload_n 2, 1) := by decide +kernel
theorem D_Parts_reachOver_119 : decode m_Parts_reachOver.2.1 119 = .ok (.invokevirtual 42, 3) := by decide +kernel
theorem D_Parts_reachOver_122 : decode m_Parts_reachOver.2.1 122 = .ok (.invokevirtual 73, 3) := by decide +kernel
theorem D_Parts_reachOver_125 : decode m_Parts_reachOver.2.1 125 = .ok (.invokevirtual 46, 3) := by decide +kernel
theorem D_Parts_reachOver_128 : decode m_Parts_reachOver.2.1 128 = .ok (.iconst 1, 1) := by decide +kernel
theorem D_Parts_reachOver_129 : decode m_Parts_reachOver.2.1 129 = .ok (.ireturn, 1) := by decide +kernel
theorem D_Parts_allToldAreProducts_0 : decode m_Parts_allToldAreProducts.2.1 0 = .ok (.iconst 0, 1) := by decide +kernel
theorem D_Parts_allToldAreProducts_1 : decode m_Parts_allToldAreProducts.2.1 1 = .ok (.istore_n 2, 1) := by decide +kernel
theorem D_Parts_allToldAreProducts_2 : decode m_Parts_allToldAreProducts.2.1 2 = .ok (.iload_n 2, 1) := by decide +kernel
theorem D_Parts_allToldAreProducts_3 : decode m_Parts_allToldAreProducts.2.1 3 = .ok (.aload_n 1, 1) := by decide +kernel
theorem D_Parts_allToldAreProducts_4 : decode m_Parts_allToldAreProducts.2.1 4 = .ok (.invokevirtual 36, 3) := by decide +kernel
theorem D_Parts_allToldAreProducts_7 : decode m_Parts_allToldAreProducts.2.1 7 = .ok (.if_icmp .ge 52, 3) := by decide +kernel
theorem D_Parts_allToldAreProducts_10 : decode m_Parts_allToldAreProducts.2.1 10 = .ok (.iconst 0, 1) := by decide +kernel
theorem D_Parts_allToldAreProducts_11 : decode m_Parts_allToldAreProducts.2.1 11 = .ok (.istore_n 3, 1) := by decide +kernel
theorem D_Parts_allToldAreProducts_12 : decode m_Parts_allToldAreProducts.2.1 12 = .ok (.iload_n 3, 1) := by decide +kernel
theorem D_Parts_allToldAreProducts_13 : decode m_Parts_allToldAreProducts.2.1 13 = .ok (.aload_n 1, 1) := by decide +kernel
theorem D_Parts_allToldAreProducts_14 : decode m_Parts_allToldAreProducts.2.1 14 = .ok (.invokevirtual 54, 3) := by decide +kernel
theorem D_Parts_allToldAreProducts_17 : decode m_Parts_allToldAreProducts.2.1 17 = .ok (.if_icmp .ge 36, 3) := by decide +kernel
theorem D_Parts_allToldAreProducts_20 : decode m_Parts_allToldAreProducts.2.1 20 = .ok (.aload_n 1, 1) := by decide +kernel
theorem D_Parts_allToldAreProducts_21 : decode m_Parts_allToldAreProducts.2.1 21 = .ok (.iload_n 2, 1) := by decide +kernel
theorem D_Parts_allToldAreProducts_22 : decode m_Parts_allToldAreProducts.2.1 22 = .ok (.iload_n 3, 1) := by decide +kernel
theorem D_Parts_allToldAreProducts_23 : decode m_Parts_allToldAreProducts.2.1 23 = .ok (.invokevirtual 65, 3) := by decide +kernel
theorem D_Parts_allToldAreProducts_26 : decode m_Parts_allToldAreProducts.2.1 26 = .ok (.istore 4, 2) := by decide +kernel
theorem D_Parts_allToldAreProducts_28 : decode m_Parts_allToldAreProducts.2.1 28 = .ok (.iload 4, 2) := by decide +kernel
theorem D_Parts_allToldAreProducts_30 : decode m_Parts_allToldAreProducts.2.1 30 = .ok (.ifCond .eq 17, 3) := by decide +kernel
theorem D_Parts_allToldAreProducts_33 : decode m_Parts_allToldAreProducts.2.1 33 = .ok (.iload 4, 2) := by decide +kernel
theorem D_Parts_allToldAreProducts_35 : decode m_Parts_allToldAreProducts.2.1 35 = .ok (.aload_n 0, 1) := by decide +kernel
theorem D_Parts_allToldAreProducts_36 : decode m_Parts_allToldAreProducts.2.1 36 = .ok (.aload_n 1, 1) := by decide +kernel
theorem D_Parts_allToldAreProducts_37 : decode m_Parts_allToldAreProducts.2.1 37 = .ok (.iload_n 2, 1) := by decide +kernel
theorem D_Parts_allToldAreProducts_38 : decode m_Parts_allToldAreProducts.2.1 38 = .ok (.iload_n 3, 1) := by decide +kernel
theorem D_Parts_allToldAreProducts_39 : decode m_Parts_allToldAreProducts.2.1 39 = .ok (.invokevirtual 76, 3) := by decide +kernel
theorem D_Parts_allToldAreProducts_42 : decode m_Parts_allToldAreProducts.2.1 42 = .ok (.if_icmp .eq 5, 3) := by decide +kernel
theorem D_Parts_allToldAreProducts_45 : decode m_Parts_allToldAreProducts.2.1 45 = .ok (.iconst 0, 1) := by decide +kernel
theorem D_Parts_allToldAreProducts_46 : decode m_Parts_allToldAreProducts.2.1 46 = .ok (.ireturn, 1) := by decide +kernel
theorem D_Parts_allToldAreProducts_47 : decode m_Parts_allToldAreProducts.2.1 47 = .ok (.iinc 3 1, 3) := by decide +kernel
theorem D_Parts_allToldAreProducts_50 : decode m_Parts_allToldAreProducts.2.1 50 = .ok (.goto (-38), 3) := by decide +kernel
theorem D_Parts_allToldAreProducts_53 : decode m_Parts_allToldAreProducts.2.1 53 = .ok (.iinc 2 1, 3) := by decide +kernel
theorem D_Parts_allToldAreProducts_56 : decode m_Parts_allToldAreProducts.2.1 56 = .ok (.goto (-54), 3) := by decide +kernel
theorem D_Parts_allToldAreProducts_59 : decode m_Parts_allToldAreProducts.2.1 59 = .ok (.iconst 1, 1) := by decide +kernel
theorem D_Parts_allToldAreProducts_60 : decode m_Parts_allToldAreProducts.2.1 60 = .ok (.ireturn, 1) := by decide +kernel
theorem D_Parts_size_0 : decode m_Parts_size.2.1 0 = .ok (.aload_n 0, 1) := by decide +kernel
theorem D_Parts_size_1 : decode m_Parts_size.2.1 1 = .ok (.getfield 29, 3) := by decide +kernel
theorem D_Parts_size_4 : decode m_Parts_size.2.1 4 = .ok (.ireturn, 1) := by decide +kernel
theorem D_Parts_isConsistent_0 : decode m_Parts_isConsistent.2.1 0 = .ok (.aload_n 0, 1) := by decide +kernel
theorem D_Parts_isConsistent_1 : decode m_Parts_isConsistent.2.1 1 = .ok (.getfield 61, 3) := by decide +kernel
theorem D_Parts_isConsistent_4 : decode m_Parts_isConsistent.2.1 4 = .ok (.ireturn, 1) := by decide +kernel
theorem D_Parts_partOfRow_0 : decode m_Parts_partOfRow.2.1 0 = .ok (.aload_n 0, 1) := by decide +kernel
theorem D_Parts_partOfRow_1 : decode m_Parts_partOfRow.2.1 1 = .ok (.getfield 14, 3) := by decide +kernel
theorem D_Parts_partOfRow_4 : decode m_Parts_partOfRow.2.1 4 = .ok (.iload_n 1, 1) := by decide +kernel
theorem D_Parts_partOfRow_5 : decode m_Parts_partOfRow.2.1 5 = .ok (.invokevirtual 42, 3) := by decide +kernel
theorem D_Parts_partOfRow_8 : decode m_Parts_partOfRow.2.1 8 = .ok (.ireturn, 1) := by decide +kernel
theorem D_Parts_partOfColumn_0 : decode m_Parts_partOfColumn.2.1 0 = .ok (.aload_n 0, 1) := by decide +kernel
theorem D_Parts_partOfColumn_1 : decode m_Parts_partOfColumn.2.1 1 = .ok (.getfield 20, 3) := by decide +kernel
theorem D_Parts_partOfColumn_4 : decode m_Parts_partOfColumn.2.1 4 = .ok (.iload_n 1, 1) := by decide +kernel
theorem D_Parts_partOfColumn_5 : decode m_Parts_partOfColumn.2.1 5 = .ok (.invokevirtual 42, 3) := by decide +kernel
theorem D_Parts_partOfColumn_8 : decode m_Parts_partOfColumn.2.1 8 = .ok (.ireturn, 1) := by decide +kernel
theorem D_Parts_areJoined_0 : decode m_Parts_areJoined.2.1 0 = .ok (.aload_n 0, 1) := by decide +kernel
theorem D_Parts_areJoined_1 : decode m_Parts_areJoined.2.1 1 = .ok (.getfield 14, 3) := by decide +kernel
theorem D_Parts_areJoined_4 : decode m_Parts_areJoined.2.1 4 = .ok (.iload_n 1, 1) := by decide +kernel
theorem D_Parts_areJoined_5 : decode m_Parts_areJoined.2.1 5 = .ok (.invokevirtual 42, 3) := by decide +kernel
theorem D_Parts_areJoined_8 : decode m_Parts_areJoined.2.1 8 = .ok (.aload_n 0, 1) := by decide +kernel
theorem D_Parts_areJoined_9 : decode m_Parts_areJoined.2.1 9 = .ok (.getfield 20, 3) := by decide +kernel
theorem D_Parts_areJoined_12 : decode m_Parts_areJoined.2.1 12 = .ok (.iload_n 2, 1) := by decide +kernel
theorem D_Parts_areJoined_13 : decode m_Parts_areJoined.2.1 13 = .ok (.invokevirtual 42, 3) := by decide +kernel
theorem D_Parts_areJoined_16 : decode m_Parts_areJoined.2.1 16 = .ok (.if_icmp .ne 7, 3) := by decide +kernel
theorem D_Parts_areJoined_19 : decode m_Parts_areJoined.2.1 19 = .ok (.iconst 1, 1) := by decide +kernel
theorem D_Parts_areJoined_20 : decode m_Parts_areJoined.2.1 20 = .ok (.goto 4, 3) := by decide +kernel
theorem D_Parts_areJoined_23 : decode m_Parts_areJoined.2.1 23 = .ok (.iconst 0, 1) := by decide +kernel
theorem D_Parts_areJoined_24 : decode m_Parts_areJoined.2.1 24 = .ok (.ireturn, 1) := by decide +kernel
theorem D_Parts_product_0 : decode m_Parts_product.2.1 0 = .ok (.aload_n 1, 1) := by decide +kernel
theorem D_Parts_product_1 : decode m_Parts_product.2.1 1 = .ok (.aload_n 0, 1) := by decide +kernel
theorem D_Parts_product_2 : decode m_Parts_product.2.1 2 = .ok (.getfield 23, 3) := by decide +kernel
theorem D_Parts_product_5 : decode m_Parts_product.2.1 5 = .ok (.iload_n 2, 1) := by decide +kernel
theorem D_Parts_product_6 : decode m_Parts_product.2.1 6 = .ok (.invokevirtual 42, 3) := by decide +kernel
theorem D_Parts_product_9 : decode m_Parts_product.2.1 9 = .ok (.aload_n 0, 1) := by decide +kernel
theorem D_Parts_product_10 : decode m_Parts_product.2.1 10 = .ok (.getfield 26, 3) := by decide +kernel
theorem D_Parts_product_13 : decode m_Parts_product.2.1 13 = .ok (.iload_n 3, 1) := by decide +kernel
theorem D_Parts_product_14 : decode m_Parts_product.2.1 14 = .ok (.invokevirtual 42, 3) := by decide +kernel
theorem D_Parts_product_17 : decode m_Parts_product.2.1 17 = .ok (.invokevirtual 80, 3) := by decide +kernel
theorem D_Parts_product_20 : decode m_Parts_product.2.1 20 = .ok (.ireturn, 1) := by decide +kernel
theorem D_Parts_following_0 : decode m_Parts_following.2.1 0 = .ok (.aload_n 0, 1) := by decide +kernel
theorem D_Parts_following_1 : decode m_Parts_following.2.1 1 = .ok (.getfield 61, 3) := by decide +kernel
theorem D_Parts_following_4 : decode m_Parts_following.2.1 4 = .ok (.ifCond .eq 22, 3) := by decide +kernel
theorem D_Parts_following_7 : decode m_Parts_following.2.1 7 = .ok (.aload_n 0, 1) := by decide +kernel
theorem D_Parts_following_8 : decode m_Parts_following.2.1 8 = .ok (.iload_n 2, 1) := by decide +kernel
theorem D_Parts_following_9 : decode m_Parts_following.2.1 9 = .ok (.iload_n 3, 1) := by decide +kernel
theorem D_Parts_following_10 : decode m_Parts_following.2.1 10 = .ok (.invokevirtual 82, 3) := by decide +kernel
theorem D_Parts_following_13 : decode m_Parts_following.2.1 13 = .ok (.ifCond .eq 13, 3) := by decide +kernel
theorem D_Parts_following_16 : decode m_Parts_following.2.1 16 = .ok (.aload_n 0, 1) := by decide +kernel
theorem D_Parts_following_17 : decode m_Parts_following.2.1 17 = .ok (.aload_n 1, 1) := by decide +kernel
theorem D_Parts_following_18 : decode m_Parts_following.2.1 18 = .ok (.iload_n 2, 1) := by decide +kernel
theorem D_Parts_following_19 : decode m_Parts_following.2.1 19 = .ok (.iload_n 3, 1) := by decide +kernel
theorem D_Parts_following_20 : decode m_Parts_following.2.1 20 = .ok (.invokevirtual 76, 3) := by decide +kernel
theorem D_Parts_following_23 : decode m_Parts_following.2.1 23 = .ok (.goto 5, 3) := by decide +kernel
theorem D_Parts_following_26 : decode m_Parts_following.2.1 26 = .ok (.bipush (-6), 2) := by decide +kernel
theorem D_Parts_following_28 : decode m_Parts_following.2.1 28 = .ok (.ireturn, 1) := by decide +kernel
theorem D_Parts_rowsOf_0 : decode m_Parts_rowsOf.2.1 0 = .ok (.aload_n 0, 1) := by decide +kernel
theorem D_Parts_rowsOf_1 : decode m_Parts_rowsOf.2.1 1 = .ok (.getfield 14, 3) := by decide +kernel
theorem D_Parts_rowsOf_4 : decode m_Parts_rowsOf.2.1 4 = .ok (.iload_n 1, 1) := by decide +kernel
theorem D_Parts_rowsOf_5 : decode m_Parts_rowsOf.2.1 5 = .ok (.invokestatic 86, 3) := by decide +kernel
theorem D_Parts_rowsOf_8 : decode m_Parts_rowsOf.2.1 8 = .ok (.ireturn, 1) := by decide +kernel
theorem D_Parts_columnsOf_0 : decode m_Parts_columnsOf.2.1 0 = .ok (.aload_n 0, 1) := by decide +kernel
theorem D_Parts_columnsOf_1 : decode m_Parts_columnsOf.2.1 1 = .ok (.getfield 20, 3) := by decide +kernel
theorem D_Parts_columnsOf_4 : decode m_Parts_columnsOf.2.1 4 = .ok (.iload_n 1, 1) := by decide +kernel
theorem D_Parts_columnsOf_5 : decode m_Parts_columnsOf.2.1 5 = .ok (.invokestatic 86, 3) := by decide +kernel
theorem D_Parts_columnsOf_8 : decode m_Parts_columnsOf.2.1 8 = .ok (.ireturn, 1) := by decide +kernel
theorem D_Parts_membersOf_0 : decode m_Parts_membersOf.2.1 0 = .ok (.iconst 0, 1) := by decide +kernel
theorem D_Parts_membersOf_1 : decode m_Parts_membersOf.2.1 1 = .ok (.istore_n 2, 1) := by decide +kernel
theorem D_Parts_membersOf_2 : decode m_Parts_membersOf.2.1 2 = .ok (.iconst 0, 1) := by decide +kernel
theorem D_Parts_membersOf_3 : decode m_Parts_membersOf.2.1 3 = .ok (.istore_n 3, 1) := by decide +kernel
theorem D_Parts_membersOf_4 : decode m_Parts_membersOf.2.1 4 = .ok (.iload_n 3, 1) := by decide +kernel
theorem D_Parts_membersOf_5 : decode m_Parts_membersOf.2.1 5 = .ok (.bipush 6, 2) := by decide +kernel
theorem D_Parts_membersOf_7 : decode m_Parts_membersOf.2.1 7 = .ok (.if_icmp .ge 24, 3) := by decide +kernel
theorem D_Parts_membersOf_10 : decode m_Parts_membersOf.2.1 10 = .ok (.aload_n 0, 1) := by decide +kernel
theorem D_Parts_membersOf_11 : decode m_Parts_membersOf.2.1 11 = .ok (.iload_n 3, 1) := by decide +kernel
theorem D_Parts_membersOf_12 : decode m_Parts_membersOf.2.1 12 = .ok (.invokevirtual 42, 3) := by decide +kernel
theorem D_Parts_membersOf_15 : decode m_Parts_membersOf.2.1 15 = .ok (.iload_n 1, 1) := by decide +kernel
theorem D_Parts_membersOf_16 : decode m_Parts_membersOf.2.1 16 = .ok (.if_icmp .ne 9, 3) := by decide +kernel
theorem D_Parts_membersOf_19 : decode m_Parts_membersOf.2.1 19 = .ok (.iload_n 2, 1) := by decide +kernel
theorem D_Parts_membersOf_20 : decode m_Parts_membersOf.2.1 20 = .ok (.iconst 1, 1) := by decide +kernel
theorem D_Parts_membersOf_21 : decode m_Parts_membersOf.2.1 21 = .ok (.iload_n 3, 1) := by decide +kernel
theorem D_Parts_membersOf_22 : decode m_Parts_membersOf.2.1 22 = .ok (.ishl, 1) := by decide +kernel
theorem D_Parts_membersOf_23 : decode m_Parts_membersOf.2.1 23 = .ok (.ior, 1) := by decide +kernel
theorem D_Parts_membersOf_24 : decode m_Parts_membersOf.2.1 24 = .ok (.istore_n 2, 1) := by decide +kernel
theorem D_Parts_membersOf_25 : decode m_Parts_membersOf.2.1 25 = .ok (.iinc 3 1, 3) := by decide +kernel
theorem D_Parts_membersOf_28 : decode m_Parts_membersOf.2.1 28 = .ok (.goto (-24), 3) := by decide +kernel
theorem D_Parts_membersOf_31 : decode m_Parts_membersOf.2.1 31 = .ok (.iload_n 2, 1) := by decide +kernel
theorem D_Parts_membersOf_32 : decode m_Parts_membersOf.2.1 32 = .ok (.ireturn, 1) := by decide +kernel
theorem D_Parts_toldIn_0 : decode m_Parts_toldIn.2.1 0 = .ok (.iconst 0, 1) := by decide +kernel
theorem D_Parts_toldIn_1 : decode m_Parts_toldIn.2.1 1 = .ok (.istore_n 3, 1) := by decide +kernel
theorem D_Parts_toldIn_2 : decode m_Parts_toldIn.2.1 2 = .ok (.iconst 0, 1) := by decide +kernel
theorem D_Parts_toldIn_3 : decode m_Parts_toldIn.2.1 3 = .ok (.istore 4, 2) := by decide +kernel
theorem D_Parts_toldIn_5 : decode m_Parts_toldIn.2.1 5 = .ok (.iload 4, 2) := by decide +kernel
theorem D_Parts_toldIn_7 : decode m_Parts_toldIn.2.1 7 = .ok (.aload_n 1, 1) := by decide +kernel
theorem D_Parts_toldIn_8 : decode m_Parts_toldIn.2.1 8 = .ok (.invokevirtual 36, 3) := by decide +kernel
theorem D_Parts_toldIn_11 : decode m_Parts_toldIn.2.1 11 = .ok (.if_icmp .ge 34, 3) := by decide +kernel
theorem D_Parts_toldIn_14 : decode m_Parts_toldIn.2.1 14 = .ok (.aload_n 0, 1) := by decide +kernel
theorem D_Parts_toldIn_15 : decode m_Parts_toldIn.2.1 15 = .ok (.getfield 14, 3) := by decide +kernel
theorem D_Parts_toldIn_18 : decode m_Parts_toldIn.2.1 18 = .ok (.iload 4, 2) := by decide +kernel
theorem D_Parts_toldIn_20 : decode m_Parts_toldIn.2.1 20 = .ok (.invokevirtual 42, 3) := by decide +kernel
theorem D_Parts_toldIn_23 : decode m_Parts_toldIn.2.1 23 = .ok (.iload_n 2, 1) := by decide +kernel
theorem D_Parts_toldIn_24 : decode m_Parts_toldIn.2.1 24 = .ok (.if_icmp .ne 15, 3) := by decide +kernel
theorem D_Parts_toldIn_27 : decode m_Parts_toldIn.2.1 27 = .ok (.iload_n 3, 1) := by decide +kernel
theorem D_Parts_toldIn_28 : decode m_Parts_toldIn.2.1 28 = .ok (.aload_n 1, 1) := by decide +kernel
theorem D_Parts_toldIn_29 : decode m_Parts_toldIn.2.1 29 = .ok (.iload 4, 2) := by decide +kernel
theorem D_Parts_toldIn_31 : decode m_Parts_toldIn.2.1 31 = .ok (.invokevirtual 90, 3) := by decide +kernel
theorem D_Parts_toldIn_34 : decode m_Parts_toldIn.2.1 34 = .ok (.invokestatic 93, 3) := by decide +kernel
theorem D_Parts_toldIn_37 : decode m_Parts_toldIn.2.1 37 = .ok (.iadd, 1) := by decide +kernel
theorem D_Parts_toldIn_38 : decode m_Parts_toldIn.2.1 38 = .ok (.istore_n 3, 1) := by decide +kernel
theorem D_Parts_toldIn_39 : decode m_Parts_toldIn.2.1 39 = .ok (.iinc 4 1, 3) := by decide +kernel
theorem D_Parts_toldIn_42 : decode m_Parts_toldIn.2.1 42 = .ok (.goto (-37), 3) := by decide +kernel
theorem D_Parts_toldIn_45 : decode m_Parts_toldIn.2.1 45 = .ok (.iload_n 3, 1) := by decide +kernel
theorem D_Parts_toldIn_46 : decode m_Parts_toldIn.2.1 46 = .ok (.ireturn, 1) := by decide +kernel
theorem D_Parts_joinedEntries_0 : decode m_Parts_joinedEntries.2.1 0 = .ok (.iconst 0, 1) := by decide +kernel
theorem D_Parts_joinedEntries_1 : decode m_Parts_joinedEntries.2.1 1 = .ok (.istore_n 1, 1) := by decide +kernel
theorem D_Parts_joinedEntries_2 : decode m_Parts_joinedEntries.2.1 2 = .ok (.iconst 0, 1) := by decide +kernel
theorem D_Parts_joinedEntries_3 : decode m_Parts_joinedEntries.2.1 3 = .ok (.istore_n 2, 1) := by decide +kernel
theorem D_Parts_joinedEntries_4 : decode m_Parts_joinedEntries.2.1 4 = .ok (.iload_n 2, 1) := by decide +kernel
theorem D_Parts_joinedEntries_5 : decode m_Parts_joinedEntries.2.1 5 = .ok (.aload_n 0, 1) := by decide +kernel
theorem D_Parts_joinedEntries_6 : decode m_Parts_joinedEntries.2.1 6 = .ok (.getfield 29, 3) := by decide +kernel
theorem D_Parts_joinedEntries_9 : decode m_Parts_joinedEntries.2.1 9 = .ok (.if_icmp .ge 29, 3) := by decide +kernel
theorem D_Parts_joinedEntries_12 : decode m_Parts_joinedEntries.2.1 12 = .ok (.iload_n 1, 1) := by decide +kernel
theorem D_Parts_joinedEntries_13 : decode m_Parts_joinedEntries.2.1 13 = .ok (.aload_n 0, 1) := by decide +kernel
theorem D_Parts_joinedEntries_14 : decode m_Parts_joinedEntries.2.1 14 = .ok (.iload_n 2, 1) := by decide +kernel
theorem D_Parts_joinedEntries_15 : decode m_Parts_joinedEntries.2.1 15 = .ok (.invokevirtual 98, 3) := by decide +kernel
theorem D_Parts_joinedEntries_18 : decode m_Parts_joinedEntries.2.1 18 = .ok (.invokestatic 93, 3) := by decide +kernel
theorem D_Parts_joinedEntries_21 : decode m_Parts_joinedEntries.2.1 21 = .ok (.aload_n 0, 1) := by decide +kernel
theorem D_Parts_joinedEntries_22 : decode m_Parts_joinedEntries.2.1 22 = .ok (.iload_n 2, 1) := by decide +kernel
theorem D_Parts_joinedEntries_23 : decode m_Parts_joinedEntries.2.1 23 = .ok (.invokevirtual 101, 3) := by decide +kernel
theorem D_Parts_joinedEntries_26 : decode m_Parts_joinedEntries.2.1 26 = .ok (.invokestatic 93, 3) := by decide +kernel
theorem D_Parts_joinedEntries_29 : decode m_Parts_joinedEntries.2.1 29 = .ok (.imul, 1) := by decide +kernel
theorem D_Parts_joinedEntries_30 : decode m_Parts_joinedEntries.2.1 30 = .ok (.iadd, 1) := by decide +kernel
theorem D_Parts_joinedEntries_31 : decode m_Parts_joinedEntries.2.1 31 = .ok (.istore_n 1, 1) := by decide +kernel
theorem D_Parts_joinedEntries_32 : decode m_Parts_joinedEntries.2.1 32 = .ok (.iinc 2 1, 3) := by decide +kernel
theorem D_Parts_joinedEntries_35 : decode m_Parts_joinedEntries.2.1 35 = .ok (.goto (-31), 3) := by decide +kernel
theorem D_Parts_joinedEntries_38 : decode m_Parts_joinedEntries.2.1 38 = .ok (.iload_n 1, 1) := by decide +kernel
theorem D_Parts_joinedEntries_39 : decode m_Parts_joinedEntries.2.1 39 = .ok (.ireturn, 1) := by decide +kernel
theorem D_Parts_gain_0 : decode m_Parts_gain.2.1 0 = .ok (.aload_n 0, 1) := by decide +kernel
theorem D_Parts_gain_1 : decode m_Parts_gain.2.1 1 = .ok (.iload_n 1, 1) := by decide +kernel
theorem D_Parts_gain_2 : decode m_Parts_gain.2.1 2 = .ok (.iload_n 2, 1) := by decide +kernel
theorem D_Parts_gain_3 : decode m_Parts_gain.2.1 3 = .ok (.invokevirtual 82, 3) := by decide +kernel
theorem D_Parts_gain_6 : decode m_Parts_gain.2.1 6 = .ok (.ifCond .eq 5, 3) := by decide +kernel
theorem D_Parts_gain_9 : decode m_Parts_gain.2.1 9 = .ok (.iconst 0, 1) := by decide +kernel
theorem D_Parts_gain_10 : decode m_Parts_gain.2.1 10 = .ok (.ireturn, 1) := by decide +kernel
theorem D_Parts_gain_11 : decode m_Parts_gain.2.1 11 = .ok (.aload_n 0, 1) := by decide +kernel
theorem D_Parts_gain_12 : decode m_Parts_gain.2.1 12 = .ok (.getfield 14, 3) := by decide +kernel
theorem D_Parts_gain_15 : decode m_Parts_gain.2.1 15 = .ok (.iload_n 1, 1) := by decide +kernel
theorem D_Parts_gain_16 : decode m_Parts_gain.2.1 16 = .ok (.invokevirtual 42, 3) := by decide +kernel
theorem D_Parts_gain_19 : decode m_Parts_gain.2.1 19 = .ok (.istore_n 3, 1) := by decide +kernel
theorem D_Parts_gain_20 : decode m_Parts_gain.2.1 20 = .ok (.aload_n 0, 1) := by decide +kernel
theorem D_Parts_gain_21 : decode m_Parts_gain.2.1 21 = .ok (.getfield 20, 3) := by decide +kernel
theorem D_Parts_gain_24 : decode m_Parts_gain.2.1 24 = .ok (.iload_n 2, 1) := by decide +kernel
theorem D_Parts_gain_25 : decode m_Parts_gain.2.1 25 = .ok (.invokevirtual 42, 3) := by decide +kernel
theorem D_Parts_gain_28 : decode m_Parts_gain.2.1 28 = .ok (.istore 4, 2) := by decide +kernel
theorem D_Parts_gain_30 : decode m_Parts_gain.2.1 30 = .ok (.aload_n 0, 1) := by decide +kernel
theorem D_Parts_gain_31 : decode m_Parts_gain.2.1 31 = .ok (.iload_n 3, 1) := by decide +kernel
theorem D_Parts_gain_32 : decode m_Parts_gain.2.1 32 = .ok (.invokevirtual 98, 3) := by decide +kernel
theorem D_Parts_gain_35 : decode m_Parts_gain.2.1 35 = .ok (.invokestatic 93, 3) := by decide +kernel
theorem D_Parts_gain_38 : decode m_Parts_gain.2.1 38 = .ok (.aload_n 0, 1) := by decide +kernel
theorem D_Parts_gain_39 : decode m_Parts_gain.2.1 39 = .ok (.iload 4, 2) := by decide +kernel
theorem D_Parts_gain_41 : decode m_Parts_gain.2.1 41 = .ok (.invokevirtual 101, 3) := by decide +kernel
theorem D_Parts_gain_44 : decode m_Parts_gain.2.1 44 = .ok (.invokestatic 93, 3) := by decide +kernel
theorem D_Parts_gain_47 : decode m_Parts_gain.2.1 47 = .ok (.imul, 1) := by decide +kernel
theorem D_Parts_gain_48 : decode m_Parts_gain.2.1 48 = .ok (.aload_n 0, 1) := by decide +kernel
theorem D_Parts_gain_49 : decode m_Parts_gain.2.1 49 = .ok (.iload 4, 2) := by decide +kernel
theorem D_Parts_gain_51 : decode m_Parts_gain.2.1 51 = .ok (.invokevirtual 98, 3) := by decide +kernel
theorem D_Parts_gain_54 : decode m_Parts_gain.2.1 54 = .ok (.invokestatic 93, 3) := by decide +kernel
theorem D_Parts_gain_57 : decode m_Parts_gain.2.1 57 = .ok (.aload_n 0, 1) := by decide +kernel
theorem D_Parts_gain_58 : decode m_Parts_gain.2.1 58 = .ok (.iload_n 3, 1) := by decide +kernel
theorem D_Parts_gain_59 : decode m_Parts_gain.2.1 59 = .ok (.invokevirtual 101, 3) := by decide +kernel
theorem D_Parts_gain_62 : decode m_Parts_gain.2.1 62 = .ok (.invokestatic 93, 3) := by decide +kernel
theorem D_Parts_gain_65 : decode m_Parts_gain.2.1 65 = .ok (.imul, 1) := by decide +kernel
theorem D_Parts_gain_66 : decode m_Parts_gain.2.1 66 = .ok (.iadd, 1) := by decide +kernel
theorem D_Parts_gain_67 : decode m_Parts_gain.2.1 67 = .ok (.ireturn, 1) := by decide +kernel
theorem D_Rings_init_0 : decode m_Rings_init.2.1 0 = .ok (.aload_n 0, 1) := by decide +kernel
theorem D_Rings_init_1 : decode m_Rings_init.2.1 1 = .ok (.invokespecial 3, 3) := by decide +kernel
theorem D_Rings_init_4 : decode m_Rings_init.2.1 4 = .ok (.aload_n 0, 1) := by decide +kernel
theorem D_Rings_init_5 : decode m_Rings_init.2.1 5 = .ok (.new 9, 3) := by decide +kernel
theorem D_Rings_init_8 : decode m_Rings_init.2.1 8 = .ok (.dup, 1) := by decide +kernel
theorem D_Rings_init_9 : decode m_Rings_init.2.1 9 = .ok (.invokespecial 11, 3) := by decide +kernel
theorem D_Rings_init_12 : decode m_Rings_init.2.1 12 = .ok (.putfield 12, 3) := by decide +kernel
theorem D_Rings_init_15 : decode m_Rings_init.2.1 15 = .ok (.aload_n 0, 1) := by decide +kernel
theorem D_Rings_init_16 : decode m_Rings_init.2.1 16 = .ok (.new 18, 3) := by decide +kernel
theorem D_Rings_init_19 : decode m_Rings_init.2.1 19 = .ok (.dup, 1) := by decide +kernel
theorem D_Rings_init_20 : decode m_Rings_init.2.1 20 = .ok (.bipush 6, 2) := by decide +kernel
theorem D_Rings_init_22 : decode m_Rings_init.2.1 22 = .ok (.invokespecial 20, 3) := by decide +kernel
theorem D_Rings_init_25 : decode m_Rings_init.2.1 25 = .ok (.putfield 23, 3) := by decide +kernel
theorem D_Rings_init_28 : decode m_Rings_init.2.1 28 = .ok (.aload_n 0, 1) := by decide +kernel
theorem D_Rings_init_29 : decode m_Rings_init.2.1 29 = .ok (.new 18, 3) := by decide +kernel
theorem D_Rings_init_32 : decode m_Rings_init.2.1 32 = .ok (.dup, 1) := by decide +kernel
theorem D_Rings_init_33 : decode m_Rings_init.2.1 33 = .ok (.sipush 832, 3) := by decide +kernel
theorem D_Rings_init_36 : decode m_Rings_init.2.1 36 = .ok (.invokespecial 20, 3) := by decide +kernel
theorem D_Rings_init_39 : decode m_Rings_init.2.1 39 = .ok (.putfield 27, 3) := by decide +kernel
theorem D_Rings_init_42 : decode m_Rings_init.2.1 42 = .ok (.aload_n 0, 1) := by decide +kernel
theorem D_Rings_init_43 : decode m_Rings_init.2.1 43 = .ok (.new 18, 3) := by decide +kernel
theorem D_Rings_init_46 : decode m_Rings_init.2.1 46 = .ok (.dup, 1) := by decide +kernel
theorem D_Rings_init_47 : decode m_Rings_init.2.1 47 = .ok (.bipush 6, 2) := by decide +kernel
theorem D_Rings_init_49 : decode m_Rings_init.2.1 49 = .ok (.invokespecial 20, 3) := by decide +kernel
theorem D_Rings_init_52 : decode m_Rings_init.2.1 52 = .ok (.putfield 30, 3) := by decide +kernel
theorem D_Rings_init_55 : decode m_Rings_init.2.1 55 = .ok (.return_, 1) := by decide +kernel
theorem D_Rings_search_0 : decode m_Rings_search.2.1 0 = .ok (.aload_n 0, 1) := by decide +kernel
theorem D_Rings_search_1 : decode m_Rings_search.2.1 1 = .ok (.getfield 12, 3) := by decide +kernel
theorem D_Rings_search_4 : decode m_Rings_search.2.1 4 = .ok (.aload_n 1, 1) := by decide +kernel
theorem D_Rings_search_5 : decode m_Rings_search.2.1 5 = .ok (.invokevirtual 33, 3) := by decide +kernel
theorem D_Rings_search_8 : decode m_Rings_search.2.1 8 = .ok (.aload_n 0, 1) := by decide +kernel
theorem D_Rings_search_9 : decode m_Rings_search.2.1 9 = .ok (.iload_n 2, 1) := by decide +kernel
theorem D_Rings_search_10 : decode m_Rings_search.2.1 10 = .ok (.putfield 37, 3) := by decide +kernel
theorem D_Rings_search_13 : decode m_Rings_search.2.1 13 = .ok (.aload_n 0, 1) := by decide +kernel
theorem D_Rings_search_14 : decode m_Rings_search.2.1 14 = .ok (.iload_n 3, 1) := by decide +kernel
theorem D_Rings_search_15 : decode m_Rings_search.2.1 15 = .ok (.ifCond .eq 15, 3) := by decide +kernel
theorem D_Rings_search_18 : decode m_Rings_search.2.1 18 = .ok (.aload_n 0, 1) := by decide +kernel
theorem D_Rings_search_19 : decode m_Rings_search.2.1 19 = .ok (.getfield 12, 3) := by decide +kernel
theorem D_Rings_search_22 : decode m_Rings_search.2.1 22 = .ok (.invokevirtual 41, 3) := by decide +kernel
theorem D_Rings_search_25 : decode m_Rings_search.2.1 25 = .ok (.iconst 1, 1) := by decide +kernel
theorem D_Rings_search_26 : decode m_Rings_search.2.1 26 = .ok (.isub, 1) := by decide +kernel
theorem D_Rings_search_27 : decode m_Rings_search.2.1 27 = .ok (.goto 4, 3) := by decide +kernel
theorem D_Rings_search_30 : decode m_Rings_search.2.1 30 = .ok (.iconst 1, 1) := by decide +kernel
theorem D_Rings_search_31 : decode m_Rings_search.2.1 31 = .ok (.putfield 45, 3) := by decide +kernel
theorem D_Rings_search_34 : decode m_Rings_search.2.1 34 = .ok (.aload_n 0, 1) := by decide +kernel
theorem D_Rings_search_35 : decode m_Rings_search.2.1 35 = .ok (.iconst 0, 1) := by decide +kernel
theorem D_Rings_search_36 : decode m_Rings_search.2.1 36 = .ok (.putfield 48, 3) := by decide +kernel
theorem D_Rings_search_39 : decode m_Rings_search.2.1 39 = .ok (.aload_n 0, 1) := by decide +kernel
theorem D_Rings_search_40 : decode m_Rings_search.2.1 40 = .ok (.iconst 0, 1) := by decide +kernel
theorem D_Rings_search_41 : decode m_Rings_search.2.1 41 = .ok (.putfield 51, 3) := by decide +kernel
theorem D_Rings_search_44 : decode m_Rings_search.2.1 44 = .ok (.aload_n 0, 1) := by decide +kernel
theorem D_Rings_search_45 : decode m_Rings_search.2.1 45 = .ok (.iconst 0, 1) := by decide +kernel
theorem D_Rings_search_46 : decode m_Rings_search.2.1 46 = .ok (.putfield 54, 3) := by decide +kernel
theorem D_Rings_search_49 : decode m_Rings_search.2.1 49 = .ok (.aload_n 0, 1) := by decide +kernel
theorem D_Rings_search_50 : decode m_Rings_search.2.1 50 = .ok (.iconst 0, 1) := by decide +kernel
theorem D_Rings_search_51 : decode m_Rings_search.2.1 51 = .ok (.putfield 57, 3) := by decide +kernel
theorem D_Rings_search_54 : decode m_Rings_search.2.1 54 = .ok (.aload_n 0, 1) := by decide +kernel
theorem D_Rings_search_55 : decode m_Rings_search.2.1 55 = .ok (.getfield 27, 3) := by decide +kernel
theorem D_Rings_search_58 : decode m_Rings_search.2.1 58 = .ok (.iconst 1, 1) := by decide +kernel
theorem D_Rings_search_59 : decode m_Rings_search.2.1 59 = .ok (.iconst 1, 1) := by decide +kernel
theorem D_Rings_search_60 : decode m_Rings_search.2.1 60 = .ok (.invokevirtual 60, 3) := by decide +kernel
theorem D_Rings_search_63 : decode m_Rings_search.2.1 63 = .ok (.iconst 0, 1) := by decide +kernel
theorem D_Rings_search_64 : decode m_Rings_search.2.1 64 = .ok (.istore 4, 2) := by decide +kernel
theorem D_Rings_search_66 : decode m_Rings_search.2.1 66 = .ok (.iload 4, 2) := by decide +kernel
theorem D_Rings_search_68 : decode m_Rings_search.2.1 68 = .ok (.bipush 6, 2) := by decide +kernel
theorem D_Rings_search_70 : decode m_Rings_search.2.1 70 = .ok (.if_icmp .ge 27, 3) := by decide +kernel
theorem D_Rings_search_73 : decode m_Rings_search.2.1 73 = .ok (.aload_n 0, 1) := by decide +kernel
theorem D_Rings_search_74 : decode m_Rings_search.2.1 74 = .ok (.getfield 23, 3) := by decide +kernel
theorem D_Rings_search_77 : decode m_Rings_search.2.1 77 = .ok (.iload 4, 2) := by decide +kernel
theorem D_Rings_search_79 : decode m_Rings_search.2.1 79 = .ok (.aload_n 0, 1) := by decide +kernel
theorem D_Rings_search_80 : decode m_Rings_search.2.1 80 = .ok (.getfield 12, 3) := by decide +kernel
theorem D_Rings_search_83 : decode m_Rings_search.2.1 83 = .ok (.iload 4, 2) := by decide +kernel
theorem D_Rings_search_85 : decode m_Rings_search.2.1 85 = .ok (.invokevirtual 64, 3) := by decide +kernel
theorem D_Rings_search_88 : decode m_Rings_search.2.1 88 = .ok (.invokevirtual 60, 3) := by decide +kernel
theorem D_Rings_search_91 : decode m_Rings_search.2.1 91 = .ok (.iinc 4 1, 3) := by decide +kernel
theorem D_Rings_search_94 : decode m_Rings_search.2.1 94 = .ok (.goto (-28), 3) := by decide +kernel
theorem D_Rings_search_97 : decode m_Rings_search.2.1 97 = .ok (.iconst 0, 1) := by decide +kernel
theorem D_Rings_search_98 : decode m_Rings_search.2.1 98 = .ok (.istore 4, 2) := by decide +kernel
theorem D_Rings_search_100 : decode m_Rings_search.2.1 100 = .ok (.iload 4, 2) := by decide +kernel
theorem D_Rings_search_102 : decode m_Rings_search.2.1 102 = .ok (.aload_n 0, 1) := by decide +kernel
theorem D_Rings_search_103 : decode m_Rings_search.2.1 103 = .ok (.getfield 12, 3) := by decide +kernel
theorem D_Rings_search_106 : decode m_Rings_search.2.1 106 = .ok (.invokevirtual 67, 3) := by decide +kernel
theorem D_Rings_search_109 : decode m_Rings_search.2.1 109 = .ok (.if_icmp .ge 26, 3) := by decide +kernel
theorem D_Rings_search_112 : decode m_Rings_search.2.1 112 = .ok (.aload_n 0, 1) := by decide +kernel
theorem D_Rings_search_113 : decode m_Rings_search.2.1 113 = .ok (.iload 4, 2) := by decide +kernel
theorem D_Rings_search_115 : decode m_Rings_search.2.1 115 = .ok (.putfield 70, 3) := by decide +kernel
theorem D_Rings_search_118 : decode m_Rings_search.2.1 118 = .ok (.aload_n 0, 1) := by decide +kernel
theorem D_Rings_search_119 : decode m_Rings_search.2.1 119 = .ok (.iconst 1, 1) := by decide +kernel
theorem D_Rings_search_120 : decode m_Rings_search.2.1 120 = .ok (.iload 4, 2) := by decide +kernel
theorem D_Rings_search_122 : decode m_Rings_search.2.1 122 = .ok (.iconst 1, 1) := by decide +kernel
theorem D_Rings_search_123 : decode m_Rings_search.2.1 123 = .ok (.iload 4, 2) := by decide +kernel
theorem D_Rings_search_125 : decode m_Rings_search.2.1 125 = .ok (.ishl, 1) := by decide +kernel
theorem D_Rings_search_126 : decode m_Rings_search.2.1 126 = .ok (.invokestatic 73, 3) := by decide +kernel
theorem D_Rings_search_129 : decode m_Rings_search.2.1 129 = .ok (.iinc 4 1, 3) := by decide +kernel
theorem D_Rings_search_132 : decode m_Rings_search.2.1 132 = .ok (.goto (-32), 3) := by decide +kernel
theorem D_Rings_search_135 : decode m_Rings_search.2.1 135 = .ok (.return_, 1) := by decide +kernel
theorem D_Rings_walk_0 : decode m_Rings_walk.2.1 0 = .ok (.iload_n 1, 1) := by decide +kernel
theorem D_Rings_walk_1 : decode m_Rings_walk.2.1 1 = .ok (.aload_n 0, 1) := by decide +kernel
theorem D_Rings_walk_2 : decode m_Rings_walk.2.1 2 = .ok (.getfield 37, 3) := by decide +kernel
theorem D_Rings_walk_5 : decode m_Rings_walk.2.1 5 = .ok (.if_icmp .lt 22, 3) := by decide +kernel
theorem D_Rings_walk_8 : decode m_Rings_walk.2.1 8 = .ok (.aload_n 0, 1) := by decide +kernel
theorem D_Rings_walk_9 : decode m_Rings_walk.2.1 9 = .ok (.iload_n 1, 1) := by decide +kernel
theorem D_Rings_walk_10 : decode m_Rings_walk.2.1 10 = .ok (.iload_n 2, 1) := by decide +kernel
theorem D_Rings_walk_11 : decode m_Rings_walk.2.1 11 = .ok (.aload_n 0, 1) := by decide +kernel
theorem D_Rings_walk_12 : decode m_Rings_walk.2.1 12 = .ok (.getfield 70, 3) := by decide +kernel
theorem D_Rings_walk_15 : decode m_Rings_walk.2.1 15 = .ok (.invokevirtual 77, 3) := by decide +kernel
theorem D_Rings_walk_18 : decode m_Rings_walk.2.1 18 = .ok (.ifCond .eq 8, 3) := by decide +kernel
theorem D_Rings_walk_21 : decode m_Rings_walk.2.1 21 = .ok (.aload_n 0, 1) := by decide +kernel
theorem D_Rings_walk_22 : decode m_Rings_walk.2.1 22 = .ok (.iload_n 3, 1) := by decide +kernel
theorem D_Rings_walk_23 : decode m_Rings_walk.2.1 23 = .ok (.invokevirtual 81, 3) := by decide +kernel
theorem D_Rings_walk_26 : decode m_Rings_walk.2.1 26 = .ok (.return_, 1) := by decide +kernel
theorem D_Rings_walk_27 : decode m_Rings_walk.2.1 27 = .ok (.aload_n 0, 1) := by decide +kernel
theorem D_Rings_walk_28 : decode m_Rings_walk.2.1 28 = .ok (.getfield 70, 3) := by decide +kernel
theorem D_Rings_walk_31 : decode m_Rings_walk.2.1 31 = .ok (.iconst 1, 1) := by decide +kernel
theorem D_Rings_walk_32 : decode m_Rings_walk.2.1 32 = .ok (.iadd, 1) := by decide +kernel
theorem D_Rings_walk_33 : decode m_Rings_walk.2.1 33 = .ok (.istore 4, 2) := by decide +kernel
theorem D_Rings_walk_35 : decode m_Rings_walk.2.1 35 = .ok (.iload 4, 2) := by decide +kernel
theorem D_Rings_walk_37 : decode m_Rings_walk.2.1 37 = .ok (.aload_n 0, 1) := by decide +kernel
theorem D_Rings_walk_38 : decode m_Rings_walk.2.1 38 = .ok (.getfield 12, 3) := by decide +kernel
theorem D_Rings_walk_41 : decode m_Rings_walk.2.1 41 = .ok (.invokevirtual 67, 3) := by decide +kernel
theorem D_Rings_walk_44 : decode m_Rings_walk.2.1 44 = .ok (.if_icmp .ge 44, 3) := by decide +kernel
theorem D_Rings_walk_47 : decode m_Rings_walk.2.1 47 = .ok (.iload_n 3, 1) := by decide +kernel
theorem D_Rings_walk_48 : decode m_Rings_walk.2.1 48 = .ok (.iload 4, 2) := by decide +kernel
theorem D_Rings_walk_50 : decode m_Rings_walk.2.1 50 = .ok (.invokestatic 84, 3) := by decide +kernel
theorem D_Rings_walk_53 : decode m_Rings_walk.2.1 53 = .ok (.ifCond .ne 29, 3) := by decide +kernel
theorem D_Rings_walk_56 : decode m_Rings_walk.2.1 56 = .ok (.aload_n 0, 1) := by decide +kernel
theorem D_Rings_walk_57 : decode m_Rings_walk.2.1 57 = .ok (.iload_n 1, 1) := by decide +kernel
theorem D_Rings_walk_58 : decode m_Rings_walk.2.1 58 = .ok (.iload_n 2, 1) := by decide +kernel
theorem D_Rings_walk_59 : decode m_Rings_walk.2.1 59 = .ok (.iload 4, 2) := by decide +kernel
theorem D_Rings_walk_61 : decode m_Rings_walk.2.1 61 = .ok (.invokevirtual 77, 3) := by decide +kernel
theorem D_Rings_walk_64 : decode m_Rings_walk.2.1 64 = .ok (.ifCond .eq 18, 3) := by decide +kernel
theorem D_Rings_walk_67 : decode m_Rings_walk.2.1 67 = .ok (.aload_n 0, 1) := by decide +kernel
theorem D_Rings_walk_68 : decode m_Rings_walk.2.1 68 = .ok (.iload_n 1, 1) := by decide +kernel
theorem D_Rings_walk_69 : decode m_Rings_walk.2.1 69 = .ok (.iconst 1, 1) := by decide +kernel
theorem D_Rings_walk_70 : decode m_Rings_walk.2.1 70 = .ok (.iadd, 1) := by decide +kernel
theorem D_Rings_walk_71 : decode m_Rings_walk.2.1 71 = .ok (.iload 4, 2) := by decide +kernel
theorem D_Rings_walk_73 : decode m_Rings_walk.2.1 73 = .ok (.iload_n 3, 1) := by decide +kernel
theorem D_Rings_walk_74 : decode m_Rings_walk.2.1 74 = .ok (.iconst 1, 1) := by decide +kernel
theorem D_Rings_walk_75 : decode m_Rings_walk.2.1 75 = .ok (.iload 4, 2) := by decide +kernel
theorem D_Rings_walk_77 : decode m_Rings_walk.2.1 77 = .ok (.ishl, 1) := by decide +kernel
theorem D_Rings_walk_78 : decode m_Rings_walk.2.1 78 = .ok (.ior, 1) := by decide +kernel
theorem D_Rings_walk_79 : decode m_Rings_walk.2.1 79 = .ok (.invokestatic 73, 3) := by decide +kernel
theorem D_Rings_walk_82 : decode m_Rings_walk.2.1 82 = .ok (.iinc 4 1, 3) := by decide +kernel
theorem D_Rings_walk_85 : decode m_Rings_walk.2.1 85 = .ok (.goto (-50), 3) := by decide +kernel
theorem D_Rings_walk_88 : decode m_Rings_walk.2.1 88 = .ok (.return_, 1) := by decide +kernel
theorem D_Rings_lead_0 : decode m_Rings_lead.2.1 0 = .ok (.aload_n 0, 1) := by decide +kernel
theorem D_Rings_lead_1 : decode m_Rings_lead.2.1 1 = .ok (.getfield 23, 3) := by decide +kernel
theorem D_Rings_lead_4 : decode m_Rings_lead.2.1 4 = .ok (.iload_n 2, 1) := by decide +kernel
theorem D_Rings_lead_5 : decode m_Rings_lead.2.1 5 = .ok (.invokevirtual 88, 3) := by decide +kernel
theorem D_Rings_lead_8 : decode m_Rings_lead.2.1 8 = .ok (.aload_n 0, 1) := by decide +kernel
theorem D_Rings_lead_9 : decode m_Rings_lead.2.1 9 = .ok (.getfield 23, 3) := by decide +kernel
theorem D_Rings_lead_12 : decode m_Rings_lead.2.1 12 = .ok (.iload_n 3, 1) := by decide +kernel
theorem D_Rings_lead_13 : decode m_Rings_lead.2.1 13 = .ok (.invokevirtual 88, 3) := by decide +kernel
theorem D_Rings_lead_16 : decode m_Rings_lead.2.1 16 = .ok (.iand, 1) := by decide +kernel
theorem D_Rings_lead_17 : decode m_Rings_lead.2.1 17 = .ok (.istore 4, 2) := by decide +kernel
theorem D_Rings_lead_19 : decode m_Rings_lead.2.1 19 = .ok (.aload_n 0, 1) := by decide +kernel
theorem D_Rings_lead_20 : decode m_Rings_lead.2.1 20 = .ok (.iload 4, 2) := by decide +kernel
theorem D_Rings_lead_22 : decode m_Rings_lead.2.1 22 = .ok (.iload_n 2, 1) := by decide +kernel
theorem D_Rings_lead_23 : decode m_Rings_lead.2.1 23 = .ok (.iload_n 3, 1) := by decide +kernel
theorem D_Rings_lead_24 : decode m_Rings_lead.2.1 24 = .ok (.invokevirtual 91, 3) := by decide +kernel
theorem D_Rings_lead_27 : decode m_Rings_lead.2.1 27 = .ok (.aload_n 0, 1) := by decide +kernel
theorem D_Rings_lead_28 : decode m_Rings_lead.2.1 28 = .ok (.iload_n 1, 1) := by decide +kernel
theorem D_Rings_lead_29 : decode m_Rings_lead.2.1 29 = .ok (.invokevirtual 95, 3) := by decide +kernel
theorem D_Rings_lead_32 : decode m_Rings_lead.2.1 32 = .ok (.iconst 0, 1) := by decide +kernel
theorem D_Rings_lead_33 : decode m_Rings_lead.2.1 33 = .ok (.istore 5, 2) := by decide +kernel
theorem D_Rings_lead_35 : decode m_Rings_lead.2.1 35 = .ok (.iconst 0, 1) := by decide +kernel
theorem D_Rings_lead_36 : decode m_Rings_lead.2.1 36 = .ok (.istore 6, 2) := by decide +kernel
theorem D_Rings_lead_38 : decode m_Rings_lead.2.1 38 = .ok (.iload 6, 2) := by decide +kernel
theorem D_Rings_lead_40 : decode m_Rings_lead.2.1 40 = .ok (.bipush 64, 2) := by decide +kernel
theorem D_Rings_lead_42 : decode m_Rings_lead.2.1 42 = .ok (.if_icmp .ge 74, 3) := by decide +kernel
theorem D_Rings_lead_45 : decode m_Rings_lead.2.1 45 = .ok (.iload 4, 2) := by decide +kernel
theorem D_Rings_lead_47 : decode m_Rings_lead.2.1 47 = .ok (.iload 6, 2) := by decide +kernel
theorem D_Rings_lead_49 : decode m_Rings_lead.2.1 49 = .ok (.iconst (-1), 1) := by decide +kernel
theorem D_Rings_lead_50 : decode m_Rings_lead.2.1 50 = .ok (.ixor, 1) := by decide +kernel
theorem D_Rings_lead_51 : decode m_Rings_lead.2.1 51 = .ok (.iand, 1) := by decide +kernel
theorem D_Rings_lead_52 : decode m_Rings_lead.2.1 52 = .ok (.istore 7, 2) := by decide +kernel
theorem D_Rings_lead_54 : decode m_Rings_lead.2.1 54 = .ok (.iload 7, 2) := by decide +kernel
theorem D_Rings_lead_56 : decode m_Rings_lead.2.1 56 = .ok (.ifCond .eq 54, 3) := by decide +kernel
theorem D_Rings_lead_59 : decode m_Rings_lead.2.1 59 = .ok (.iload 6, 2) := by decide +kernel
theorem D_Rings_lead_61 : decode m_Rings_lead.2.1 61 = .ok (.invokestatic 98, 3) := by decide +kernel
theorem D_Rings_lead_64 : decode m_Rings_lead.2.1 64 = .ok (.iload_n 1, 1) := by decide +kernel
theorem D_Rings_lead_65 : decode m_Rings_lead.2.1 65 = .ok (.iconst 1, 1) := by decide +kernel
theorem D_Rings_lead_66 : decode m_Rings_lead.2.1 66 = .ok (.isub, 1) := by decide +kernel
theorem D_Rings_lead_67 : decode m_Rings_lead.2.1 67 = .ok (.if_icmp .ne 43, 3) := by decide +kernel
theorem D_Rings_lead_70 : decode m_Rings_lead.2.1 70 = .ok (.iconst 0, 1) := by decide +kernel
theorem D_Rings_lead_71 : decode m_Rings_lead.2.1 71 = .ok (.istore 8, 2) := by decide +kernel
theorem D_Rings_lead_73 : decode m_Rings_lead.2.1 73 = .ok (.iload 8, 2) := by decide +kernel
theorem D_Rings_lead_75 : decode m_Rings_lead.2.1 75 = .ok (.bipush 6, 2) := by decide +kernel
theorem D_Rings_lead_77 : decode m_Rings_lead.2.1 77 = .ok (.if_icmp .ge 33, 3) := by decide +kernel
theorem D_Rings_lead_80 : decode m_Rings_lead.2.1 80 = .ok (.iload 7, 2) := by decide +kernel
theorem D_Rings_lead_82 : decode m_Rings_lead.2.1 82 = .ok (.iload 8, 2) := by decide +kernel
theorem D_Rings_lead_84 : decode m_Rings_lead.2.1 84 = .ok (.invokestatic 84, 3) := by decide +kernel
theorem D_Rings_lead_87 : decode m_Rings_lead.2.1 87 = .ok (.ifCond .eq 17, 3) := by decide +kernel
theorem D_Rings_lead_90 : decode m_Rings_lead.2.1 90 = .ok (.aload_n 0, 1) := by decide +kernel
theorem D_Rings_lead_91 : decode m_Rings_lead.2.1 91 = .ok (.iload 6, 2) := by decide +kernel
theorem D_Rings_lead_93 : decode m_Rings_lead.2.1 93 = .ok (.iload 8, 2) := by decide +kernel
theorem D_Rings_lead_95 : decode m_Rings_lead.2.1 95 = .ok (.invokevirtual 103, 3) := by decide +kernel
theorem D_Rings_lead_98 : decode m_Rings_lead.2.1 98 = .ok (.ifCond .eq 6, 3) := by decide +kernel
theorem D_Rings_lead_101 : decode m_Rings_lead.2.1 101 = .ok (.iconst 1, 1) := by decide +kernel
theorem D_Rings_lead_102 : decode m_Rings_lead.2.1 102 = .ok (.istore 5, 2) := by decide +kernel
theorem D_Rings_lead_104 : decode m_Rings_lead.2.1 104 = .ok (.iinc 8 1, 3) := by decide +kernel
theorem D_Rings_lead_107 : decode m_Rings_lead.2.1 107 = .ok (.goto (-34), 3) := by decide +kernel
theorem D_Rings_lead_110 : decode m_Rings_lead.2.1 110 = .ok (.iinc 6 1, 3) := by decide +kernel
theorem D_Rings_lead_113 : decode m_Rings_lead.2.1 113 = .ok (.goto (-75), 3) := by decide +kernel
theorem D_Rings_lead_116 : decode m_Rings_lead.2.1 116 = .ok (.iload 5, 2) := by decide +kernel
theorem D_Rings_lead_118 : decode m_Rings_lead.2.1 118 = .ok (.ireturn, 1) := by decide +kernel
theorem D_Rings_findRatios_0 : decode m_Rings_findRatios.2.1 0 = .ok (.iconst 0, 1) := by decide +kernel
theorem D_Rings_findRatios_1 : decode m_Rings_findRatios.2.1 1 = .ok (.istore 4, 2) := by decide +kernel
theorem D_Rings_findRatios_3 : decode m_Rings_findRatios.2.1 3 = .ok (.iload 4, 2) := by decide +kernel
theorem D_Rings_findRatios_5 : decode m_Rings_findRatios.2.1 5 = .ok (.bipush 6, 2) := by decide +kernel
theorem D_Rings_findRatios_7 : decode m_Rings_findRatios.2.1 7 = .ok (.if_icmp .ge 75, 3) := by decide +kernel
theorem D_Rings_findRatios_10 : decode m_Rings_findRatios.2.1 10 = .ok (.aload_n 0, 1) := by decide +kernel
theorem D_Rings_findRatios_11 : decode m_Rings_findRatios.2.1 11 = .ok (.getfield 45, 3) := by decide +kernel
theorem D_Rings_findRatios_14 : decode m_Rings_findRatios.2.1 14 = .ok (.iconst 1, 1) := by decide +kernel
theorem D_Rings_findRatios_15 : decode m_Rings_findRatios.2.1 15 = .ok (.if_icmp .le 51, 3) := by decide +kernel
theorem D_Rings_findRatios_18 : decode m_Rings_findRatios.2.1 18 = .ok (.iload_n 1, 1) := by decide +kernel
theorem D_Rings_findRatios_19 : decode m_Rings_findRatios.2.1 19 = .ok (.iload 4, 2) := by decide +kernel
theorem D_Rings_findRatios_21 : decode m_Rings_findRatios.2.1 21 = .ok (.invokestatic 84, 3) := by decide +kernel
theorem D_Rings_findRatios_24 : decode m_Rings_findRatios.2.1 24 = .ok (.ifCond .eq 42, 3) := by decide +kernel
theorem D_Rings_findRatios_27 : decode m_Rings_findRatios.2.1 27 = .ok (.aload_n 0, 1) := by decide +kernel
theorem D_Rings_findRatios_28 : decode m_Rings_findRatios.2.1 28 = .ok (.getfield 30, 3) := by decide +kernel
theorem D_Rings_findRatios_31 : decode m_Rings_findRatios.2.1 31 = .ok (.iload 4, 2) := by decide +kernel
theorem D_Rings_findRatios_33 : decode m_Rings_findRatios.2.1 33 = .ok (.aload_n 0, 1) := by decide +kernel
theorem D_Rings_findRatios_34 : decode m_Rings_findRatios.2.1 34 = .ok (.getfield 12, 3) := by decide +kernel
theorem D_Rings_findRatios_37 : decode m_Rings_findRatios.2.1 37 = .ok (.aload_n 0, 1) := by decide +kernel
theorem D_Rings_findRatios_38 : decode m_Rings_findRatios.2.1 38 = .ok (.getfield 12, 3) := by decide +kernel
theorem D_Rings_findRatios_41 : decode m_Rings_findRatios.2.1 41 = .ok (.iload_n 2, 1) := by decide +kernel
theorem D_Rings_findRatios_42 : decode m_Rings_findRatios.2.1 42 = .ok (.iload 4, 2) := by decide +kernel
theorem D_Rings_findRatios_44 : decode m_Rings_findRatios.2.1 44 = .ok (.invokevirtual 106, 3) := by decide +kernel
theorem D_Rings_findRatios_47 : decode m_Rings_findRatios.2.1 47 = .ok (.aload_n 0, 1) := by decide +kernel
theorem D_Rings_findRatios_48 : decode m_Rings_findRatios.2.1 48 = .ok (.getfield 12, 3) := by decide +kernel
theorem D_Rings_findRatios_51 : decode m_Rings_findRatios.2.1 51 = .ok (.iload_n 3, 1) := by decide +kernel
theorem D_Rings_findRatios_52 : decode m_Rings_findRatios.2.1 52 = .ok (.iload 4, 2) := by decide +kernel
theorem D_Rings_findRatios_54 : decode m_Rings_findRatios.2.1 54 = .ok (.invokevirtual 106, 3) := by decide +kernel
theorem D_Rings_findRatios_57 : decode m_Rings_findRatios.2.1 57 = .ok (.invokevirtual 110, 3) := by decide +kernel
theorem D_Rings_findRatios_60 : decode m_Rings_findRatios.2.1 60 = .ok (.invokevirtual 60, 3) := by decide +kernel
theorem D_Rings_findRatios_63 : decode m_Rings_findRatios.2.1 63 = .ok (.goto 13, 3) := by decide +kernel
theorem D_Rings_findRatios_66 : decode m_Rings_findRatios.2.1 66 = .ok (.aload_n 0, 1) := by decide +kernel
theorem D_Rings_findRatios_67 : decode m_Rings_findRatios.2.1 67 = .ok (.getfield 30, 3) := by decide +kernel
theorem D_Rings_findRatios_70 : decode m_Rings_findRatios.2.1 70 = .ok (.iload 4, 2) := by decide +kernel
theorem D_Rings_findRatios_72 : decode m_Rings_findRatios.2.1 72 = .ok (.iconst 1, 1) := by decide +kernel
theorem D_Rings_findRatios_73 : decode m_Rings_findRatios.2.1 73 = .ok (.invokevirtual 60, 3) := by decide +kernel
theorem D_Rings_findRatios_76 : decode m_Rings_findRatios.2.1 76 = .ok (.iinc 4 1, 3) := by decide +kernel
theorem D_Rings_findRatios_79 : decode m_Rings_findRatios.2.1 79 = .ok (.goto (-76), 3) := by decide +kernel
theorem D_Rings_findRatios_82 : decode m_Rings_findRatios.2.1 82 = .ok (.return_, 1) := by decide +kernel
theorem D_Rings_leadOn_0 : decode m_Rings_leadOn.2.1 0 = .ok (.iload_n 1, 1) := by decide +kernel
theorem D_Rings_leadOn_1 : decode m_Rings_leadOn.2.1 1 = .ok (.iconst 1, 1) := by decide +kernel
theorem D_Rings_leadOn_2 : decode m_Rings_leadOn.2.1 2 = .ok (.iload_n 2, 1) := by decide +kernel
theorem D_Rings_leadOn_3 : decode m_Rings_leadOn.2.1 3 = .ok (.ishl, 1) := by decide +kernel
theorem D_Rings_leadOn_4 : decode m_Rings_leadOn.2.1 4 = .ok (.ior, 1) := by decide +kernel
theorem D_Rings_leadOn_5 : decode m_Rings_leadOn.2.1 5 = .ok (.istore_n 3, 1) := by decide +kernel
theorem D_Rings_leadOn_6 : decode m_Rings_leadOn.2.1 6 = .ok (.aload_n 0, 1) := by decide +kernel
theorem D_Rings_leadOn_7 : decode m_Rings_leadOn.2.1 7 = .ok (.getfield 30, 3) := by decide +kernel
theorem D_Rings_leadOn_10 : decode m_Rings_leadOn.2.1 10 = .ok (.iload_n 2, 1) := by decide +kernel
theorem D_Rings_leadOn_11 : decode m_Rings_leadOn.2.1 11 = .ok (.invokevirtual 88, 3) := by decide +kernel
theorem D_Rings_leadOn_14 : decode m_Rings_leadOn.2.1 14 = .ok (.istore 4, 2) := by decide +kernel
theorem D_Rings_leadOn_16 : decode m_Rings_leadOn.2.1 16 = .ok (.iconst 0, 1) := by decide +kernel
theorem D_Rings_leadOn_17 : decode m_Rings_leadOn.2.1 17 = .ok (.istore 5, 2) := by decide +kernel
theorem D_Rings_leadOn_19 : decode m_Rings_leadOn.2.1 19 = .ok (.iconst 1, 1) := by decide +kernel
theorem D_Rings_leadOn_20 : decode m_Rings_leadOn.2.1 20 = .ok (.istore 6, 2) := by decide +kernel
theorem D_Rings_leadOn_22 : decode m_Rings_leadOn.2.1 22 = .ok (.iload 6, 2) := by decide +kernel
theorem D_Rings_leadOn_24 : decode m_Rings_leadOn.2.1 24 = .ok (.aload_n 0, 1) := by decide +kernel
theorem D_Rings_leadOn_25 : decode m_Rings_leadOn.2.1 25 = .ok (.getfield 45, 3) := by decide +kernel
theorem D_Rings_leadOn_28 : decode m_Rings_leadOn.2.1 28 = .ok (.if_icmp .gt 72, 3) := by decide +kernel
theorem D_Rings_leadOn_31 : decode m_Rings_leadOn.2.1 31 = .ok (.aload_n 0, 1) := by decide +kernel
theorem D_Rings_leadOn_32 : decode m_Rings_leadOn.2.1 32 = .ok (.getfield 27, 3) := by decide +kernel
theorem D_Rings_leadOn_35 : decode m_Rings_leadOn.2.1 35 = .ok (.bipush 13, 2) := by decide +kernel
theorem D_Rings_leadOn_37 : decode m_Rings_leadOn.2.1 37 = .ok (.iload_n 1, 1) := by decide +kernel
theorem D_Rings_leadOn_38 : decode m_Rings_leadOn.2.1 38 = .ok (.imul, 1) := by decide +kernel
theorem D_Rings_leadOn_39 : decode m_Rings_leadOn.2.1 39 = .ok (.iload 6, 2) := by decide +kernel
theorem D_Rings_leadOn_41 : decode m_Rings_leadOn.2.1 41 = .ok (.iadd, 1) := by decide +kernel
theorem D_Rings_leadOn_42 : decode m_Rings_leadOn.2.1 42 = .ok (.invokevirtual 88, 3) := by decide +kernel
theorem D_Rings_leadOn_45 : decode m_Rings_leadOn.2.1 45 = .ok (.istore 7, 2) := by decide +kernel
theorem D_Rings_leadOn_47 : decode m_Rings_leadOn.2.1 47 = .ok (.iload 7, 2) := by decide +kernel
theorem D_Rings_leadOn_49 : decode m_Rings_leadOn.2.1 49 = .ok (.ifCond .eq 45, 3) := by decide +kernel
theorem D_Rings_leadOn_52 : decode m_Rings_leadOn.2.1 52 = .ok (.bipush 13, 2) := by decide +kernel
theorem D_Rings_leadOn_54 : decode m_Rings_leadOn.2.1 54 = .ok (.iload_n 3, 1) := by decide +kernel
theorem D_Rings_leadOn_55 : decode m_Rings_leadOn.2.1 55 = .ok (.imul, 1) := by decide +kernel
theorem D_Rings_leadOn_56 : decode m_Rings_leadOn.2.1 56 = .ok (.aload_n 0, 1) := by decide +kernel
theorem D_Rings_leadOn_57 : decode m_Rings_leadOn.2.1 57 = .ok (.getfield 12, 3) := by decide +kernel
theorem D_Rings_leadOn_60 : decode m_Rings_leadOn.2.1 60 = .ok (.iload 6, 2) := by decide +kernel
theorem D_Rings_leadOn_62 : decode m_Rings_leadOn.2.1 62 = .ok (.iload 4, 2) := by decide +kernel
theorem D_Rings_leadOn_64 : decode m_Rings_leadOn.2.1 64 = .ok (.invokevirtual 113, 3) := by decide +kernel
theorem D_Rings_leadOn_67 : decode m_Rings_leadOn.2.1 67 = .ok (.iadd, 1) := by decide +kernel
theorem D_Rings_leadOn_68 : decode m_Rings_leadOn.2.1 68 = .ok (.istore 8, 2) := by decide +kernel
theorem D_Rings_leadOn_70 : decode m_Rings_leadOn.2.1 70 = .ok (.aload_n 0, 1) := by decide +kernel
theorem D_Rings_leadOn_71 : decode m_Rings_leadOn.2.1 71 = .ok (.getfield 27, 3) := by decide +kernel
theorem D_Rings_leadOn_74 : decode m_Rings_leadOn.2.1 74 = .ok (.iload 8, 2) := by decide +kernel
theorem D_Rings_leadOn_76 : decode m_Rings_leadOn.2.1 76 = .ok (.aload_n 0, 1) := by decide +kernel
theorem D_Rings_leadOn_77 : decode m_Rings_leadOn.2.1 77 = .ok (.getfield 27, 3) := by decide +kernel
theorem D_Rings_leadOn_80 : decode m_Rings_leadOn.2.1 80 = .ok (.iload 8, 2) := by decide +kernel
theorem D_Rings_leadOn_82 : decode m_Rings_leadOn.2.1 82 = .ok (.invokevirtual 88, 3) := by decide +kernel
theorem D_Rings_leadOn_85 : decode m_Rings_leadOn.2.1 85 = .ok (.iload 7, 2) := by decide +kernel
theorem D_Rings_leadOn_87 : decode m_Rings_leadOn.2.1 87 = .ok (.iadd, 1) := by decide +kernel
theorem D_Rings_leadOn_88 : decode m_Rings_leadOn.2.1 88 = .ok (.invokevirtual 60, 3) := by decide +kernel
theorem D_Rings_leadOn_91 : decode m_Rings_leadOn.2.1 91 = .ok (.iconst 1, 1) := by decide +kernel
theorem D_Rings_leadOn_92 : decode m_Rings_leadOn.2.1 92 = .ok (.istore 5, 2) := by decide +kernel
theorem D_Rings_leadOn_94 : decode m_Rings_leadOn.2.1 94 = .ok (.iinc 6 1, 3) := by decide +kernel
theorem D_Rings_leadOn_97 : decode m_Rings_leadOn.2.1 97 = .ok (.goto (-75), 3) := by decide +kernel
theorem D_Rings_leadOn_100 : decode m_Rings_leadOn.2.1 100 = .ok (.iload 5, 2) := by decide +kernel
theorem D_Rings_leadOn_102 : decode m_Rings_leadOn.2.1 102 = .ok (.ireturn, 1) := by decide +kernel
theorem D_Rings_forgetSetsOf_0 : decode m_Rings_forgetSetsOf.2.1 0 = .ok (.iconst 0, 1) := by decide +kernel
theorem D_Rings_forgetSetsOf_1 : decode m_Rings_forgetSetsOf.2.1 1 = .ok (.istore_n 2, 1) := by decide +kernel
theorem D_Rings_forgetSetsOf_2 : decode m_Rings_forgetSetsOf.2.1 2 = .ok (.iload_n 2, 1) := by decide +kernel
theorem D_Rings_forgetSetsOf_3 : decode m_Rings_forgetSetsOf.2.1 3 = .ok (.bipush 64, 2) := by decide +kernel
theorem D_Rings_forgetSetsOf_5 : decode m_Rings_forgetSetsOf.2.1 5 = .ok (.if_icmp .ge 47, 3) := by decide +kernel
theorem D_Rings_forgetSetsOf_8 : decode m_Rings_forgetSetsOf.2.1 8 = .ok (.iload_n 2, 1) := by decide +kernel
theorem D_Rings_forgetSetsOf_9 : decode m_Rings_forgetSetsOf.2.1 9 = .ok (.invokestatic 98, 3) := by decide +kernel
theorem D_Rings_forgetSetsOf_12 : decode m_Rings_forgetSetsOf.2.1 12 = .ok (.iload_n 1, 1) := by decide +kernel
theorem D_Rings_forgetSetsOf_13 : decode m_Rings_forgetSetsOf.2.1 13 = .ok (.if_icmp .ne 33, 3) := by decide +kernel
theorem D_Rings_forgetSetsOf_16 : decode m_Rings_forgetSetsOf.2.1 16 = .ok (.iconst 1, 1) := by decide +kernel
theorem D_Rings_forgetSetsOf_17 : decode m_Rings_forgetSetsOf.2.1 17 = .ok (.istore_n 3, 1) := by decide +kernel
theorem D_Rings_forgetSetsOf_18 : decode m_Rings_forgetSetsOf.2.1 18 = .ok (.iload_n 3, 1) := by decide +kernel
theorem D_Rings_forgetSetsOf_19 : decode m_Rings_forgetSetsOf.2.1 19 = .ok (.aload_n 0, 1) := by decide +kernel
theorem D_Rings_forgetSetsOf_20 : decode m_Rings_forgetSetsOf.2.1 20 = .ok (.getfield 45, 3) := by decide +kernel
theorem D_Rings_forgetSetsOf_23 : decode m_Rings_forgetSetsOf.2.1 23 = .ok (.if_icmp .gt 23, 3) := by decide +kernel
theorem D_Rings_forgetSetsOf_26 : decode m_Rings_forgetSetsOf.2.1 26 = .ok (.aload_n 0, 1) := by decide +kernel
theorem D_Rings_forgetSetsOf_27 : decode m_Rings_forgetSetsOf.2.1 27 = .ok (.getfield 27, 3) := by decide +kernel
theorem D_Rings_forgetSetsOf_30 : decode m_Rings_forgetSetsOf.2.1 30 = .ok (.bipush 13, 2) := by decide +kernel
theorem D_Rings_forgetSetsOf_32 : decode m_Rings_forgetSetsOf.2.1 32 = .ok (.iload_n 2, 1) := by decide +kernel
theorem D_Rings_forgetSetsOf_33 : decode m_Rings_forgetSetsOf.2.1 33 = .ok (.imul, 1) := by decide +kernel
theorem D_Rings_forgetSetsOf_34 : decode m_Rings_forgetSetsOf.2.1 34 = .ok (.iload_n 3, 1) := by decide +kernel
theorem D_Rings_forgetSetsOf_35 : decode m_Rings_forgetSetsOf.2.1 35 = .ok (.iadd, 1) := by decide +kernel
theorem D_Rings_forgetSetsOf_36 : decode m_Rings_forgetSetsOf.2.1 36 = .ok (.iconst 0, 1) := by decide +kernel
theorem D_Rings_forgetSetsOf_37 : decode m_Rings_forgetSetsOf.2.1 37 = .ok (.invokevirtual 60, 3) := by decide +kernel
theorem D_Rings_forgetSetsOf_40 : decode m_Rings_forgetSetsOf.2.1 40 = .ok (.iinc 3 1, 3) := by decide +kernel
theorem D_Rings_forgetSetsOf_43 : decode m_Rings_forgetSetsOf.2.1 43 = .ok (.goto (-25), 3) := by decide +kernel
theorem D_Rings_forgetSetsOf_46 : decode m_Rings_forgetSetsOf.2.1 46 = .ok (.iinc 2 1, 3) := by decide +kernel
theorem D_Rings_forgetSetsOf_49 : decode m_Rings_forgetSetsOf.2.1 49 = .ok (.goto (-47), 3) := by decide +kernel
theorem D_Rings_forgetSetsOf_52 : decode m_Rings_forgetSetsOf.2.1 52 = .ok (.return_, 1) := by decide +kernel
theorem D_Rings_collect_0 : decode m_Rings_collect.2.1 0 = .ok (.iconst 0, 1) := by decide +kernel
theorem D_Rings_collect_1 : decode m_Rings_collect.2.1 1 = .ok (.istore_n 2, 1) := by decide +kernel
theorem D_Rings_collect_2 : decode m_Rings_collect.2.1 2 = .ok (.iload_n 2, 1) := by decide +kernel
theorem D_Rings_collect_3 : decode m_Rings_collect.2.1 3 = .ok (.bipush 64, 2) := by decide +kernel
theorem D_Rings_collect_5 : decode m_Rings_collect.2.1 5 = .ok (.if_icmp .ge 77, 3) := by decide +kernel
theorem D_Rings_collect_8 : decode m_Rings_collect.2.1 8 = .ok (.iload_n 2, 1) := by decide +kernel
theorem D_Rings_collect_9 : decode m_Rings_collect.2.1 9 = .ok (.invokestatic 98, 3) := by decide +kernel
theorem D_Rings_collect_12 : decode m_Rings_collect.2.1 12 = .ok (.aload_n 0, 1) := by decide +kernel
theorem D_Rings_collect_13 : decode m_Rings_collect.2.1 13 = .ok (.getfield 37, 3) := by decide +kernel
theorem D_Rings_collect_16 : decode m_Rings_collect.2.1 16 = .ok (.if_icmp .ne 60, 3) := by decide +kernel
theorem D_Rings_collect_19 : decode m_Rings_collect.2.1 19 = .ok (.aload_n 0, 1) := by decide +kernel
theorem D_Rings_collect_20 : decode m_Rings_collect.2.1 20 = .ok (.dup, 1) := by decide +kernel
theorem D_Rings_collect_21 : decode m_Rings_collect.2.1 21 = .ok (.getfield 48, 3) := by decide +kernel
theorem D_Rings_collect_24 : decode m_Rings_collect.2.1 24 = .ok (.aload_n 0, 1) := by decide +kernel
theorem D_Rings_collect_25 : decode m_Rings_collect.2.1 25 = .ok (.getfield 27, 3) := by decide +kernel
theorem D_Rings_collect_28 : decode m_Rings_collect.2.1 28 = .ok (.bipush 13, 2) := by decide +kernel
theorem D_Rings_collect_30 : decode m_Rings_collect.2.1 30 = .ok (.iload_n 2, 1) := by decide +kernel
theorem D_Rings_collect_31 : decode m_Rings_collect.2.1 31 = .ok (.imul, 1) := by decide +kernel
theorem D_Rings_collect_32 : decode m_Rings_collect.2.1 32 = .ok (.iconst 1, 1) := by decide +kernel
theorem D_Rings_collect_33 : decode m_Rings_collect.2.1 33 = .ok (.iadd, 1) := by decide +kernel
theorem D_Rings_collect_34 : decode m_Rings_collect.2.1 34 = .ok (.invokevirtual 88, 3) := by decide +kernel
theorem D_Rings_collect_37 : decode m_Rings_collect.2.1 37 = .ok (.iadd, 1) := by decide +kernel
theorem D_Rings_collect_38 : decode m_Rings_collect.2.1 38 = .ok (.putfield 48, 3) := by decide +kernel
theorem D_Rings_collect_41 : decode m_Rings_collect.2.1 41 = .ok (.iconst 2, 1) := by decide +kernel
theorem D_Rings_collect_42 : decode m_Rings_collect.2.1 42 = .ok (.istore_n 3, 1) := by decide +kernel
theorem D_Rings_collect_43 : decode m_Rings_collect.2.1 43 = .ok (.iload_n 3, 1) := by decide +kernel
theorem D_Rings_collect_44 : decode m_Rings_collect.2.1 44 = .ok (.aload_n 0, 1) := by decide +kernel
theorem D_Rings_collect_45 : decode m_Rings_collect.2.1 45 = .ok (.getfield 45, 3) := by decide +kernel
theorem D_Rings_collect_48 : decode m_Rings_collect.2.1 48 = .ok (.if_icmp .gt 28, 3) := by decide +kernel
theorem D_Rings_collect_51 : decode m_Rings_collect.2.1 51 = .ok (.aload_n 0, 1) := by decide +kernel
theorem D_Rings_collect_52 : decode m_Rings_collect.2.1 52 = .ok (.aload_n 0, 1) := by decide +kernel
theorem D_Rings_collect_53 : decode m_Rings_collect.2.1 53 = .ok (.getfield 27, 3) := by decide +kernel
theorem D_Rings_collect_56 : decode m_Rings_collect.2.1 56 = .ok (.bipush 13, 2) := by decide +kernel
theorem D_Rings_collect_58 : decode m_Rings_collect.2.1 58 = .ok (.iload_n 2, 1) := by decide +kernel
theorem D_Rings_collect_59 : decode m_Rings_collect.2.1 59 = .ok (.imul, 1) := by decide +kernel
theorem D_Rings_collect_60 : decode m_Rings_collect.2.1 60 = .ok (.iload_n 3, 1) := by decide +kernel
theorem D_Rings_collect_61 : decode m_Rings_collect.2.1 61 = .ok (.iadd, 1) := by decide +kernel
theorem D_Rings_collect_62 : decode m_Rings_collect.2.1 62 = .ok (.invokevirtual 88, 3) := by decide +kernel
theorem D_Rings_collect_65 : decode m_Rings_collect.2.1 65 = .ok (.iload_n 1, 1) := by decide +kernel
theorem D_Rings_collect_66 : decode m_Rings_collect.2.1 66 = .ok (.iload_n 2, 1) := by decide +kernel
theorem D_Rings_collect_67 : decode m_Rings_collect.2.1 67 = .ok (.invokevirtual 116, 3) := by decide +kernel
theorem D_Rings_collect_70 : decode m_Rings_collect.2.1 70 = .ok (.iinc 3 1, 3) := by decide +kernel
theorem D_Rings_collect_73 : decode m_Rings_collect.2.1 73 = .ok (.goto (-30), 3) := by decide +kernel
theorem D_Rings_collect_76 : decode m_Rings_collect.2.1 76 = .ok (.iinc 2 1, 3) := by decide +kernel
theorem D_Rings_collect_79 : decode m_Rings_collect.2.1 79 = .ok (.goto (-77), 3) := by decide +kernel
theorem D_Rings_collect_82 : decode m_Rings_collect.2.1 82 = .ok (.return_, 1) := by decide +kernel
theorem D_Rings_noteWrong_0 : decode m_Rings_noteWrong.2.1 0 = .ok (.iload_n 1, 1) := by decide +kernel
theorem D_Rings_noteWrong_1 : decode m_Rings_noteWrong.2.1 1 = .ok (.ifCond .ne 4, 3) := by decide +kernel
theorem D_Rings_noteWrong_4 : decode m_Rings_noteWrong.2.1 4 = .ok (.return_, 1) := by decide +kernel
theorem D_Rings_noteWrong_5 : decode m_Rings_noteWrong.2.1 5 = .ok (.iload_n 2, 1) := by decide +kernel
theorem D_Rings_noteWrong_6 : decode m_Rings_noteWrong.2.1 6 = .ok (.aload_n 0, 1) := by decide +kernel
theorem D_Rings_noteWrong_7 : decode m_Rings_noteWrong.2.1 7 = .ok (.getfield 54, 3) := by decide +kernel
theorem D_Rings_noteWrong_10 : decode m_Rings_noteWrong.2.1 10 = .ok (.if_icmp .lt 19, 3) := by decide +kernel
theorem D_Rings_noteWrong_13 : decode m_Rings_noteWrong.2.1 13 = .ok (.iload_n 2, 1) := by decide +kernel
theorem D_Rings_noteWrong_14 : decode m_Rings_noteWrong.2.1 14 = .ok (.aload_n 0, 1) := by decide +kernel
theorem D_Rings_noteWrong_15 : decode m_Rings_noteWrong.2.1 15 = .ok (.getfield 54, 3) := by decide +kernel
theorem D_Rings_noteWrong_18 : decode m_Rings_noteWrong.2.1 18 = .ok (.if_icmp .ne 15, 3) := by decide +kernel
theorem D_Rings_noteWrong_21 : decode m_Rings_noteWrong.2.1 21 = .ok (.iload_n 3, 1) := by decide +kernel
theorem D_Rings_noteWrong_22 : decode m_Rings_noteWrong.2.1 22 = .ok (.aload_n 0, 1) := by decide +kernel
theorem D_Rings_noteWrong_23 : decode m_Rings_noteWrong.2.1 23 = .ok (.getfield 57, 3) := by decide +kernel
theorem D_Rings_noteWrong_26 : decode m_Rings_noteWrong.2.1 26 = .ok (.if_icmp .ge 7, 3) := by decide +kernel
theorem D_Rings_noteWrong_29 : decode m_Rings_noteWrong.2.1 29 = .ok (.iconst 1, 1) := by decide +kernel
theorem D_Rings_noteWrong_30 : decode m_Rings_noteWrong.2.1 30 = .ok (.goto 4, 3) := by decide +kernel
theorem D_Rings_noteWrong_33 : decode m_Rings_noteWrong.2.1 33 = .ok (.iconst 0, 1) := by decide +kernel
theorem D_Rings_noteWrong_34 : decode m_Rings_noteWrong.2.1 34 = .ok (.istore 4, 2) := by decide +kernel
theorem D_Rings_noteWrong_36 : decode m_Rings_noteWrong.2.1 36 = .ok (.aload_n 0, 1) := by decide +kernel
theorem D_Rings_noteWrong_37 : decode m_Rings_noteWrong.2.1 37 = .ok (.getfield 51, 3) := by decide +kernel
theorem D_Rings_noteWrong_40 : decode m_Rings_noteWrong.2.1 40 = .ok (.ifCond .eq 8, 3) := by decide +kernel
theorem D_Rings_noteWrong_43 : decode m_Rings_noteWrong.2.1 43 = .ok (.iload 4, 2) := by decide +kernel
theorem D_Rings_noteWrong_45 : decode m_Rings_noteWrong.2.1 45 = .ok (.ifCond .eq 13, 3) := by decide +kernel
theorem D_Rings_noteWrong_48 : decode m_Rings_noteWrong.2.1 48 = .ok (.aload_n 0, 1) := by decide +kernel
theorem D_Rings_noteWrong_49 : decode m_Rings_noteWrong.2.1 49 = .ok (.iload_n 2, 1) := by decide +kernel
theorem D_Rings_noteWrong_50 : decode m_Rings_noteWrong.2.1 50 = .ok (.putfield 54, 3) := by decide +kernel
theorem D_Rings_noteWrong_53 : decode m_Rings_noteWrong.2.1 53 = .ok (.aload_n 0, 1) := by decide +kernel
theorem D_Rings_noteWrong_54 : decode m_Rings_noteWrong.2.1 54 = .ok (.iload_n 3, 1) := by decide +kernel
theorem D_Rings_noteWrong_55 : decode m_Rings_noteWrong.2.1 55 = .ok (.putfield 57, 3) := by decide +kernel
theorem D_Rings_noteWrong_58 : decode m_Rings_noteWrong.2.1 58 = .ok (.aload_n 0, 1) := by decide +kernel
theorem D_Rings_noteWrong_59 : decode m_Rings_noteWrong.2.1 59 = .ok (.dup, 1) := by decide +kernel
theorem D_Rings_noteWrong_60 : decode m_Rings_noteWrong.2.1 60 = .ok (.getfield 48, 3) := by decide +kernel
theorem D_Rings_noteWrong_63 : decode m_Rings_noteWrong.2.1 63 = .ok (.iload_n 1, 1) := by decide +kernel
theorem D_Rings_noteWrong_64 : decode m_Rings_noteWrong.2.1 64 = .ok (.iadd, 1) := by decide +kernel
theorem D_Rings_noteWrong_65 : decode m_Rings_noteWrong.2.1 65 = .ok (.putfield 48, 3) := by decide +kernel
theorem D_Rings_noteWrong_68 : decode m_Rings_noteWrong.2.1 68 = .ok (.aload_n 0, 1) := by decide +kernel
theorem D_Rings_noteWrong_69 : decode m_Rings_noteWrong.2.1 69 = .ok (.dup, 1) := by decide +kernel
theorem D_Rings_noteWrong_70 : decode m_Rings_noteWrong.2.1 70 = .ok (.getfield 51, 3) := by decide +kernel
theorem D_Rings_noteWrong_73 : decode m_Rings_noteWrong.2.1 73 = .ok (.iload_n 1, 1) := by decide +kernel
theorem D_Rings_noteWrong_74 : decode m_Rings_noteWrong.2.1 74 = .ok (.iadd, 1) := by decide +kernel
theorem D_Rings_noteWrong_75 : decode m_Rings_noteWrong.2.1 75 = .ok (.putfield 51, 3) := by decide +kernel
theorem D_Rings_noteWrong_78 : decode m_Rings_noteWrong.2.1 78 = .ok (.return_, 1) := by decide +kernel
theorem D_Rings_all_0 : decode m_Rings_all.2.1 0 = .ok (.aload_n 0, 1) := by decide +kernel
theorem D_Rings_all_1 : decode m_Rings_all.2.1 1 = .ok (.getfield 48, 3) := by decide +kernel
theorem D_Rings_all_4 : decode m_Rings_all.2.1 4 = .ok (.iconst 2, 1) := by decide +kernel
theorem D_Rings_all_5 : decode m_Rings_all.2.1 5 = .ok (.idiv, 1) := by decide +kernel
theorem D_Rings_all_6 : decode m_Rings_all.2.1 6 = .ok (.ireturn, 1) := by decide +kernel
theorem D_Rings_wrongOnes_0 : decode m_Rings_wrongOnes.2.1 0 = .ok (.aload_n 0, 1) := by decide +kernel
theorem D_Rings_wrongOnes_1 : decode m_Rings_wrongOnes.2.1 1 = .ok (.getfield 51, 3) := by decide +kernel
theorem D_Rings_wrongOnes_4 : decode m_Rings_wrongOnes.2.1 4 = .ok (.iconst 2, 1) := by decide +kernel
theorem D_Rings_wrongOnes_5 : decode m_Rings_wrongOnes.2.1 5 = .ok (.idiv, 1) := by decide +kernel
theorem D_Rings_wrongOnes_6 : decode m_Rings_wrongOnes.2.1 6 = .ok (.ireturn, 1) := by decide +kernel
theorem D_Rings_wrongRows_0 : decode m_Rings_wrongRows.2.1 0 = .ok (.aload_n 0, 1) := by decide +kernel
theorem D_Rings_wrongRows_1 : decode m_Rings_wrongRows.2.1 1 = .ok (.getfield 54, 3) := by decide +kernel
theorem D_Rings_wrongRows_4 : decode m_Rings_wrongRows.2.1 4 = .ok (.ireturn, 1) := by decide +kernel
theorem D_Rings_wrongColumns_0 : decode m_Rings_wrongColumns.2.1 0 = .ok (.aload_n 0, 1) := by decide +kernel
theorem D_Rings_wrongColumns_1 : decode m_Rings_wrongColumns.2.1 1 = .ok (.getfield 57, 3) := by decide +kernel
theorem D_Rings_wrongColumns_4 : decode m_Rings_wrongColumns.2.1 4 = .ok (.ireturn, 1) := by decide +kernel
theorem D_Slot_init_0 : decode m_Slot_init.2.1 0 = .ok (.aload_n 0, 1) := by decide +kernel
theorem D_Slot_init_1 : decode m_Slot_init.2.1 1 = .ok (.invokespecial 1, 3) := by decide +kernel
theorem D_Slot_init_4 : decode m_Slot_init.2.1 4 = .ok (.aload_n 0, 1) := by decide +kernel
theorem D_Slot_init_5 : decode m_Slot_init.2.1 5 = .ok (.new 7, 3) := by decide +kernel
theorem D_Slot_init_8 : decode m_Slot_init.2.1 8 = .ok (.dup, 1) := by decide +kernel
theorem D_Slot_init_9 : decode m_Slot_init.2.1 9 = .ok (.invokespecial 9, 3) := by decide +kernel
theorem D_Slot_init_12 : decode m_Slot_init.2.1 12 = .ok (.putfield 10, 3) := by decide +kernel
theorem D_Slot_init_15 : decode m_Slot_init.2.1 15 = .ok (.return_, 1) := by decide +kernel
theorem D_Slot_isFilled_0 : decode m_Slot_isFilled.2.1 0 = .ok (.aload_n 0, 1) := by decide +kernel
theorem D_Slot_isFilled_1 : decode m_Slot_isFilled.2.1 1 = .ok (.getfield 16, 3) := by decide +kernel
theorem D_Slot_isFilled_4 : decode m_Slot_isFilled.2.1 4 = .ok (.ireturn, 1) := by decide +kernel
theorem D_Slot_keep_0 : decode m_Slot_keep.2.1 0 = .ok (.aload_n 0, 1) := by decide +kernel
theorem D_Slot_keep_1 : decode m_Slot_keep.2.1 1 = .ok (.getfield 10, 3) := by decide +kernel
theorem D_Slot_keep_4 : decode m_Slot_keep.2.1 4 = .ok (.aload_n 1, 1) := by decide +kernel
theorem D_Slot_keep_5 : decode m_Slot_keep.2.1 5 = .ok (.invokevirtual 20, 3) := by decide +kernel
theorem D_Slot_keep_8 : decode m_Slot_keep.2.1 8 = .ok (.aload_n 0, 1) := by decide +kernel
theorem D_Slot_keep_9 : decode m_Slot_keep.2.1 9 = .ok (.iconst 1, 1) := by decide +kernel
theorem D_Slot_keep_10 : decode m_Slot_keep.2.1 10 = .ok (.putfield 16, 3) := by decide +kernel
theorem D_Slot_keep_13 : decode m_Slot_keep.2.1 13 = .ok (.return_, 1) := by decide +kernel
theorem D_Slot_giveTo_0 : decode m_Slot_giveTo.2.1 0 = .ok (.aload_n 1, 1) := by decide +kernel
theorem D_Slot_giveTo_1 : decode m_Slot_giveTo.2.1 1 = .ok (.aload_n 0, 1) := by decide +kernel
theorem D_Slot_giveTo_2 : decode m_Slot_giveTo.2.1 2 = .ok (.getfield 10, 3) := by decide +kernel
theorem D_Slot_giveTo_5 : decode m_Slot_giveTo.2.1 5 = .ok (.invokevirtual 20, 3) := by decide +kernel
theorem D_Slot_giveTo_8 : decode m_Slot_giveTo.2.1 8 = .ok (.return_, 1) := by decide +kernel
theorem D_O_init_0 : decode m_O_init.2.1 0 = .ok (.aload_n 0, 1) := by decide +kernel
theorem D_O_init_1 : decode m_O_init.2.1 1 = .ok (.invokespecial 1, 3) := by decide +kernel
theorem D_O_init_4 : decode m_O_init.2.1 4 = .ok (.aload_n 0, 1) := by decide +kernel
theorem D_O_init_5 : decode m_O_init.2.1 5 = .ok (.new 7, 3) := by decide +kernel
theorem D_O_init_8 : decode m_O_init.2.1 8 = .ok (.dup, 1) := by decide +kernel
theorem D_O_init_9 : decode m_O_init.2.1 9 = .ok (.invokespecial 9, 3) := by decide +kernel
theorem D_O_init_12 : decode m_O_init.2.1 12 = .ok (.putfield 10, 3) := by decide +kernel
theorem D_O_init_15 : decode m_O_init.2.1 15 = .ok (.aload_n 0, 1) := by decide +kernel
theorem D_O_init_16 : decode m_O_init.2.1 16 = .ok (.new 7, 3) := by decide +kernel
theorem D_O_init_19 : decode m_O_init.2.1 19 = .ok (.dup, 1) := by decide +kernel
theorem D_O_init_20 : decode m_O_init.2.1 20 = .ok (.invokespecial 9, 3) := by decide +kernel
theorem D_O_init_23 : decode m_O_init.2.1 23 = .ok (.putfield 16, 3) := by decide +kernel
theorem D_O_init_26 : decode m_O_init.2.1 26 = .ok (.aload_n 0, 1) := by decide +kernel
theorem D_O_init_27 : decode m_O_init.2.1 27 = .ok (.new 19, 3) := by decide +kernel
theorem D_O_init_30 : decode m_O_init.2.1 30 = .ok (.dup, 1) := by decide +kernel
theorem D_O_init_31 : decode m_O_init.2.1 31 = .ok (.invokespecial 21, 3) := by decide +kernel
theorem D_O_init_34 : decode m_O_init.2.1 34 = .ok (.putfield 22, 3) := by decide +kernel
theorem D_O_init_37 : decode m_O_init.2.1 37 = .ok (.aload_n 0, 1) := by decide +kernel
theorem D_O_init_38 : decode m_O_init.2.1 38 = .ok (.new 26, 3) := by decide +kernel
theorem D_O_init_41 : decode m_O_init.2.1 41 = .ok (.dup, 1) := by decide +kernel
theorem D_O_init_42 : decode m_O_init.2.1 42 = .ok (.invokespecial 28, 3) := by decide +kernel
theorem D_O_init_45 : decode m_O_init.2.1 45 = .ok (.putfield 29, 3) := by decide +kernel
theorem D_O_init_48 : decode m_O_init.2.1 48 = .ok (.aload_n 0, 1) := by decide +kernel
theorem D_O_init_49 : decode m_O_init.2.1 49 = .ok (.new 33, 3) := by decide +kernel
theorem D_O_init_52 : decode m_O_init.2.1 52 = .ok (.dup, 1) := by decide +kernel
theorem D_O_init_53 : decode m_O_init.2.1 53 = .ok (.invokespecial 35, 3) := by decide +kernel
theorem D_O_init_56 : decode m_O_init.2.1 56 = .ok (.putfield 36, 3) := by decide +kernel
theorem D_O_init_59 : decode m_O_init.2.1 59 = .ok (.aload_n 0, 1) := by decide +kernel
theorem D_O_init_60 : decode m_O_init.2.1 60 = .ok (.new 40, 3) := by decide +kernel
theorem D_O_init_63 : decode m_O_init.2.1 63 = .ok (.dup, 1) := by decide +kernel
theorem D_O_init_64 : decode m_O_init.2.1 64 = .ok (.invokespecial 42, 3) := by decide +kernel
theorem D_O_init_67 : decode m_O_init.2.1 67 = .ok (.putfield 43, 3) := by decide +kernel
theorem D_O_init_70 : decode m_O_init.2.1 70 = .ok (.aload_n 0, 1) := by decide +kernel
theorem D_O_init_71 : decode m_O_init.2.1 71 = .ok (.new 47, 3) := by decide +kernel
theorem D_O_init_74 : decode m_O_init.2.1 74 = .ok (.dup, 1) := by decide +kernel
theorem D_O_init_75 : decode m_O_init.2.1 75 = .ok (.invokespecial 49, 3) := by decide +kernel
theorem D_O_init_78 : decode m_O_init.2.1 78 = .ok (.putfield 50, 3) := by decide +kernel
theorem D_O_init_81 : decode m_O_init.2.1 81 = .ok (.aload_n 0, 1) := by decide +kernel
theorem D_O_init_82 : decode m_O_init.2.1 82 = .ok (.iconst 2, 1) := by decide +kernel
theorem D_O_init_83 : decode m_O_init.2.1 83 = .ok (.anewarray 54, 3) := by decide +kernel
theorem D_O_init_86 : decode m_O_init.2.1 86 = .ok (.putfield 56, 3) := by decide +kernel
theorem D_O_init_89 : decode m_O_init.2.1 89 = .ok (.iconst 0, 1) := by decide +kernel
theorem D_O_init_90 : decode m_O_init.2.1 90 = .ok (.istore_n 1, 1) := by decide +kernel
theorem D_O_init_91 : decode m_O_init.2.1 91 = .ok (.iload_n 1, 1) := by decide +kernel
theorem D_O_init_92 : decode m_O_init.2.1 92 = .ok (.aload_n 0, 1) := by decide +kernel
theorem D_O_init_93 : decode m_O_init.2.1 93 = .ok (.getfield 56, 3) := by decide +kernel
theorem D_O_init_96 : decode m_O_init.2.1 96 = .ok (.arraylength, 1) := by decide +kernel
theorem D_O_init_97 : decode m_O_init.2.1 97 = .ok (.if_icmp .ge 22, 3) := by decide +kernel
theorem D_O_init_100 : decode m_O_init.2.1 100 = .ok (.aload_n 0, 1) := by decide +kernel
theorem D_O_init_101 : decode m_O_init.2.1 101 = .ok (.getfield 56, 3) := by decide +kernel
theorem D_O_init_104 : decode m_O_init.2.1 104 = .ok (.iload_n 1, 1) := by decide +kernel
theorem D_O_init_105 : decode m_O_init.2.1 105 = .ok (.new 54, 3) := by decide +kernel
theorem D_O_init_108 : decode m_O_init.2.1 108 = .ok (.dup, 1) := by decide +kernel
theorem D_O_init_109 : decode m_O_init.2.1 109 = .ok (.invokespecial 60, 3) := by decide +kernel
theorem D_O_init_112 : decode m_O_init.2.1 112 = .ok (.aastore, 1) := by decide +kernel
theorem D_O_init_113 : decode m_O_init.2.1 113 = .ok (.iinc 1 1, 3) := by decide +kernel
theorem D_O_init_116 : decode m_O_init.2.1 116 = .ok (.goto (-25), 3) := by decide +kernel
theorem D_O_init_119 : decode m_O_init.2.1 119 = .ok (.return_, 1) := by decide +kernel
theorem D_O_begin_0 : decode m_O_begin.2.1 0 = .ok (.iload_n 1, 1) := by decide +kernel
theorem D_O_begin_1 : decode m_O_begin.2.1 1 = .ok (.iconst 2, 1) := by decide +kernel
theorem D_O_begin_2 : decode m_O_begin.2.1 2 = .ok (.bipush 6, 2) := by decide +kernel
theorem D_O_begin_4 : decode m_O_begin.2.1 4 = .ok (.invokestatic 61, 3) := by decide +kernel
theorem D_O_begin_7 : decode m_O_begin.2.1 7 = .ok (.ifCond .ne 20, 3) := by decide +kernel
theorem D_O_begin_10 : decode m_O_begin.2.1 10 = .ok (.iload_n 2, 1) := by decide +kernel
theorem D_O_begin_11 : decode m_O_begin.2.1 11 = .ok (.iconst 2, 1) := by decide +kernel
theorem D_O_begin_12 : decode m_O_begin.2.1 12 = .ok (.bipush 6, 2) := by decide +kernel
theorem D_O_begin_14 : decode m_O_begin.2.1 14 = .ok (.invokestatic 61, 3) := by decide +kernel
theorem D_O_begin_17 : decode m_O_begin.2.1 17 = .ok (.ifCond .ne 10, 3) := by decide +kernel
theorem D_O_begin_20 : decode m_O_begin.2.1 20 = .ok (.iload_n 3, 1) := by decide +kernel
theorem D_O_begin_21 : decode m_O_begin.2.1 21 = .ok (.invokestatic 65, 3) := by decide +kernel
theorem D_O_begin_24 : decode m_O_begin.2.1 24 = .ok (.ifCond .ne 6, 3) := by decide +kernel
theorem D_O_begin_27 : decode m_O_begin.2.1 27 = .ok (.bipush (-2), 2) := by decide +kernel
theorem D_O_begin_29 : decode m_O_begin.2.1 29 = .ok (.ireturn, 1) := by decide +kernel
theorem D_O_begin_30 : decode m_O_begin.2.1 30 = .ok (.aload_n 0, 1) := by decide +kernel
theorem D_O_begin_31 : decode m_O_begin.2.1 31 = .ok (.getfield 10, 3) := by decide +kernel
theorem D_O_begin_34 : decode m_O_begin.2.1 34 = .ok (.invokevirtual 69, 3) := by decide +kernel
theorem D_O_begin_37 : decode m_O_begin.2.1 37 = .ok (.istore 4, 2) := by decide +kernel
theorem D_O_begin_39 : decode m_O_begin.2.1 39 = .ok (.aload_n 0, 1) := by decide +kernel
theorem D_O_begin_40 : decode m_O_begin.2.1 40 = .ok (.getfield 50, 3) := by decide +kernel
theorem D_O_begin_43 : decode m_O_begin.2.1 43 = .ok (.aload_n 0, 1) := by decide +kernel
theorem D_O_begin_44 : decode m_O_begin.2.1 44 = .ok (.getfield 10, 3) := by decide +kernel
theorem D_O_begin_47 : decode m_O_begin.2.1 47 = .ok (.invokevirtual 73, 3) := by decide +kernel
theorem D_O_begin_50 : decode m_O_begin.2.1 50 = .ok (.aload_n 0, 1) := by decide +kernel
theorem D_O_begin_51 : decode m_O_begin.2.1 51 = .ok (.getfield 10, 3) := by decide +kernel
theorem D_O_begin_54 : decode m_O_begin.2.1 54 = .ok (.iload_n 1, 1) := by decide +kernel
theorem D_O_begin_55 : decode m_O_begin.2.1 55 = .ok (.iload_n 2, 1) := by decide +kernel
theorem D_O_begin_56 : decode m_O_begin.2.1 56 = .ok (.iload_n 3, 1) := by decide +kernel
theorem D_O_begin_57 : decode m_O_begin.2.1 57 = .ok (.invokevirtual 77, 3) := by decide +kernel
theorem D_O_begin_60 : decode m_O_begin.2.1 60 = .ok (.iload 4, 2) := by decide +kernel
theorem D_O_begin_62 : decode m_O_begin.2.1 62 = .ok (.ireturn, 1) := by decide +kernel
theorem D_O_tell_0 : decode m_O_tell.2.1 0 = .ok (.aload_n 0, 1) := by decide +kernel
theorem D_O_tell_1 : decode m_O_tell.2.1 1 = .ok (.iload_n 1, 1) := by decide +kernel
theorem D_O_tell_2 : decode m_O_tell.2.1 2 = .ok (.iload_n 2, 1) := by decide +kernel
theorem D_O_tell_3 : decode m_O_tell.2.1 3 = .ok (.iload_n 3, 1) := by decide +kernel
theorem D_O_tell_4 : decode m_O_tell.2.1 4 = .ok (.invokevirtual 81, 3) := by decide +kernel
theorem D_O_tell_7 : decode m_O_tell.2.1 7 = .ok (.istore 4, 2) := by decide +kernel
theorem D_O_tell_9 : decode m_O_tell.2.1 9 = .ok (.iload 4, 2) := by decide +kernel
theorem D_O_tell_11 : decode m_O_tell.2.1 11 = .ok (.ifCond .eq 6, 3) := by decide +kernel
theorem D_O_tell_14 : decode m_O_tell.2.1 14 = .ok (.iload 4, 2) := by decide +kernel
theorem D_O_tell_16 : decode m_O_tell.2.1 16 = .ok (.ireturn, 1) := by decide +kernel
theorem D_O_tell_17 : decode m_O_tell.2.1 17 = .ok (.aload_n 0, 1) := by decide +kernel
theorem D_O_tell_18 : decode m_O_tell.2.1 18 = .ok (.getfield 10, 3) := by decide +kernel
theorem D_O_tell_21 : decode m_O_tell.2.1 21 = .ok (.iload_n 1, 1) := by decide +kernel
theorem D_O_tell_22 : decode m_O_tell.2.1 22 = .ok (.iload_n 2, 1) := by decide +kernel
theorem D_O_tell_23 : decode m_O_tell.2.1 23 = .ok (.invokevirtual 85, 3) := by decide +kernel
theorem D_O_tell_26 : decode m_O_tell.2.1 26 = .ok (.istore 5, 2) := by decide +kernel
theorem D_O_tell_28 : decode m_O_tell.2.1 28 = .ok (.aload_n 0, 1) := by decide +kernel
theorem D_O_tell_29 : decode m_O_tell.2.1 29 = .ok (.getfield 50, 3) := by decide +kernel
theorem D_O_tell_32 : decode m_O_tell.2.1 32 = .ok (.aload_n 0, 1) := by decide +kernel
theorem D_O_tell_33 : decode m_O_tell.2.1 33 = .ok (.getfield 10, 3) := by decide +kernel
theorem D_O_tell_36 : decode m_O_tell.2.1 36 = .ok (.invokevirtual 73, 3) := by decide +kernel
theorem D_O_tell_39 : decode m_O_tell.2.1 39 = .ok (.aload_n 0, 1) := by decide +kernel
theorem D_O_tell_40 : decode m_O_tell.2.1 40 = .ok (.getfield 10, 3) := by decide +kernel
theorem D_O_tell_43 : decode m_O_tell.2.1 43 = .ok (.iload_n 1, 1) := by decide +kernel
theorem D_O_tell_44 : decode m_O_tell.2.1 44 = .ok (.iload_n 2, 1) := by decide +kernel
theorem D_O_tell_45 : decode m_O_tell.2.1 45 = .ok (.iload_n 3, 1) := by decide +kernel
theorem D_O_tell_46 : decode m_O_tell.2.1 46 = .ok (.invokevirtual 89, 3) := by decide +kernel
theorem D_O_tell_49 : decode m_O_tell.2.1 49 = .ok (.iload 5, 2) := by decide +kernel
theorem D_O_tell_51 : decode m_O_tell.2.1 51 = .ok (.ireturn, 1) := by decide +kernel
theorem D_O_tellAll_0 : decode m_O_tellAll.2.1 0 = .ok (.aload_n 0, 1) := by decide +kernel
theorem D_O_tellAll_1 : decode m_O_tellAll.2.1 1 = .ok (.getfield 22, 3) := by decide +kernel
theorem D_O_tellAll_4 : decode m_O_tellAll.2.1 4 = .ok (.aload_n 0, 1) := by decide +kernel
theorem D_O_tellAll_5 : decode m_O_tellAll.2.1 5 = .ok (.getfield 10, 3) := by decide +kernel
theorem D_O_tellAll_8 : decode m_O_tellAll.2.1 8 = .ok (.invokevirtual 92, 3) := by decide +kernel
theorem D_O_tellAll_11 : decode m_O_tellAll.2.1 11 = .ok (.aload_n 0, 1) := by decide +kernel
theorem D_O_tellAll_12 : decode m_O_tellAll.2.1 12 = .ok (.getfield 22, 3) := by decide +kernel
theorem D_O_tellAll_15 : decode m_O_tellAll.2.1 15 = .ok (.invokevirtual 95, 3) := by decide +kernel
theorem D_O_tellAll_18 : decode m_O_tellAll.2.1 18 = .ok (.ifCond .ne 6, 3) := by decide +kernel
theorem D_O_tellAll_21 : decode m_O_tellAll.2.1 21 = .ok (.bipush (-5), 2) := by decide +kernel
theorem D_O_tellAll_23 : decode m_O_tellAll.2.1 23 = .ok (.ireturn, 1) := by decide +kernel
theorem D_O_tellAll_24 : decode m_O_tellAll.2.1 24 = .ok (.aload_n 0, 1) := by decide +kernel
theorem D_O_tellAll_25 : decode m_O_tellAll.2.1 25 = .ok (.getfield 10, 3) := by decide +kernel
theorem D_O_tellAll_28 : decode m_O_tellAll.2.1 28 = .ok (.invokevirtual 69, 3) := by decide +kernel
theorem D_O_tellAll_31 : decode m_O_tellAll.2.1 31 = .ok (.istore_n 1, 1) := by decide +kernel
theorem D_O_tellAll_32 : decode m_O_tellAll.2.1 32 = .ok (.aload_n 0, 1) := by decide +kernel
theorem D_O_tellAll_33 : decode m_O_tellAll.2.1 33 = .ok (.getfield 50, 3) := by decide +kernel
theorem D_O_tellAll_36 : decode m_O_tellAll.2.1 36 = .ok (.aload_n 0, 1) := by decide +kernel
theorem D_O_tellAll_37 : decode m_O_tellAll.2.1 37 = .ok (.getfield 10, 3) := by decide +kernel
theorem D_O_tellAll_40 : decode m_O_tellAll.2.1 40 = .ok (.invokevirtual 73, 3) := by decide +kernel
theorem D_O_tellAll_43 : decode m_O_tellAll.2.1 43 = .ok (.iconst 0, 1) := by decide +kernel
theorem D_O_tellAll_44 : decode m_O_tellAll.2.1 44 = .ok (.istore_n 2, 1) := by decide +kernel
theorem D_O_tellAll_45 : decode m_O_tellAll.2.1 45 = .ok (.iload_n 2, 1) := by decide +kernel
theorem D_O_tellAll_46 : decode m_O_tellAll.2.1 46 = .ok (.aload_n 0, 1) := by decide +kernel
theorem D_O_tellAll_47 : decode m_O_tellAll.2.1 47 = .ok (.getfield 10, 3) := by decide +kernel
theorem D_O_tellAll_50 : decode m_O_tellAll.2.1 50 = .ok (.invokevirtual 99, 3) := by decide +kernel
theorem D_O_tellAll_53 : decode m_O_tellAll.2.1 53 = .ok (.if_icmp .ge 62, 3) := by decide +kernel
theorem D_O_tellAll_56 : decode m_O_tellAll.2.1 56 = .ok (.iconst 0, 1) := by decide +kernel
theorem D_O_tellAll_57 : decode m_O_tellAll.2.1 57 = .ok (.istore_n 3, 1) := by decide +kernel
theorem D_O_tellAll_58 : decode m_O_tellAll.2.1 58 = .ok (.iload_n 3, 1) := by decide +kernel
theorem D_O_tellAll_59 : decode m_O_tellAll.2.1 59 = .ok (.aload_n 0, 1) := by decide +kernel
theorem D_O_tellAll_60 : decode m_O_tellAll.2.1 60 = .ok (.getfield 10, 3) := by decide +kernel
theorem D_O_tellAll_63 : decode m_O_tellAll.2.1 63 = .ok (.invokevirtual 102, 3) := by decide +kernel
theorem D_O_tellAll_66 : decode m_O_tellAll.2.1 66 = .ok (.if_icmp .ge 43, 3) := by decide +kernel
theorem D_O_tellAll_69 : decode m_O_tellAll.2.1 69 = .ok (.aload_n 0, 1) := by decide +kernel
theorem D_O_tellAll_70 : decode m_O_tellAll.2.1 70 = .ok (.getfield 22, 3) := by decide +kernel
theorem D_O_tellAll_73 : decode m_O_tellAll.2.1 73 = .ok (.iload_n 2, 1) := by decide +kernel
theorem D_O_tellAll_74 : decode m_O_tellAll.2.1 74 = .ok (.iload_n 3, 1) := by decide +kernel
theorem D_O_tellAll_75 : decode m_O_tellAll.2.1 75 = .ok (.invokevirtual 105, 3) := by decide +kernel
theorem D_O_tellAll_78 : decode m_O_tellAll.2.1 78 = .ok (.ifCond .eq 25, 3) := by decide +kernel
theorem D_O_tellAll_81 : decode m_O_tellAll.2.1 81 = .ok (.aload_n 0, 1) := by decide +kernel
theorem D_O_tellAll_82 : decode m_O_tellAll.2.1 82 = .ok (.getfield 10, 3) := by decide +kernel
theorem D_O_tellAll_85 : decode m_O_tellAll.2.1 85 = .ok (.iload_n 2, 1) := by decide +kernel
theorem D_O_tellAll_86 : decode m_O_tellAll.2.1 86 = .ok (.iload_n 3, 1) := by decide +kernel
theorem D_O_tellAll_87 : decode m_O_tellAll.2.1 87 = .ok (.aload_n 0, 1) := by decide +kernel
theorem D_O_tellAll_88 : decode m_O_tellAll.2.1 88 = .ok (.getfield 22, 3) := by decide +kernel
theorem D_O_tellAll_91 : decode m_O_tellAll.2.1 91 = .ok (.aload_n 0, 1) := by decide +kernel
theorem D_O_tellAll_92 : decode m_O_tellAll.2.1 92 = .ok (.getfield 10, 3) := by decide +kernel
theorem D_O_tellAll_95 : decode m_O_tellAll.2.1 95 = .ok (.iload_n 2, 1) := by decide +kernel
theorem D_O_tellAll_96 : decode m_O_tellAll.2.1 96 = .ok (.iload_n 3, 1) := by decide +kernel
theorem D_O_tellAll_97 : decode m_O_tellAll.2.1 97 = .ok (.invokevirtual 109, 3) := by decide +kernel
theorem D_O_tellAll_100 : decode m_O_tellAll.2.1 100 = .ok (.invokevirtual 89, 3) := by decide +kernel
theorem D_O_tellAll_103 : decode m_O_tellAll.2.1 103 = .ok (.iinc 3 1, 3) := by decide +kernel
theorem D_O_tellAll_106 : decode m_O_tellAll.2.1 106 = .ok (.goto (-48), 3) := by decide +kernel
theorem D_O_tellAll_109 : decode m_O_tellAll.2.1 109 = .ok (.iinc 2 1, 3) := by decide +kernel
theorem D_O_tellAll_112 : decode m_O_tellAll.2.1 112 = .ok (.goto (-67), 3) := by decide +kernel
theorem D_O_tellAll_115 : decode m_O_tellAll.2.1 115 = .ok (.aload_n 0, 1) := by decide +kernel
theorem D_O_tellAll_116 : decode m_O_tellAll.2.1 116 = .ok (.getfield 10, 3) := by decide +kernel
theorem D_O_tellAll_119 : decode m_O_tellAll.2.1 119 = .ok (.invokevirtual 69, 3) := by decide +kernel
theorem D_O_tellAll_122 : decode m_O_tellAll.2.1 122 = .ok (.iload_n 1, 1) := by decide +kernel
theorem D_O_tellAll_123 : decode m_O_tellAll.2.1 123 = .ok (.isub, 1) := by decide +kernel
theorem D_O_tellAll_124 : decode m_O_tellAll.2.1 124 = .ok (.ireturn, 1) := by decide +kernel
theorem D_O_read_0 : decode m_O_read.2.1 0 = .ok (.aload_n 0, 1) := by decide +kernel
theorem D_O_read_1 : decode m_O_read.2.1 1 = .ok (.getfield 43, 3) := by decide +kernel
theorem D_O_read_4 : decode m_O_read.2.1 4 = .ok (.invokevirtual 113, 3) := by decide +kernel
theorem D_O_read_7 : decode m_O_read.2.1 7 = .ok (.bipush (-6), 2) := by decide +kernel
theorem D_O_read_9 : decode m_O_read.2.1 9 = .ok (.if_icmp .eq 6, 3) := by decide +kernel
theorem D_O_read_12 : decode m_O_read.2.1 12 = .ok (.bipush (-3), 2) := by decide +kernel
theorem D_O_read_14 : decode m_O_read.2.1 14 = .ok (.ireturn, 1) := by decide +kernel
theorem D_O_read_15 : decode m_O_read.2.1 15 = .ok (.aload_n 0, 1) := by decide +kernel
theorem D_O_read_16 : decode m_O_read.2.1 16 = .ok (.getfield 43, 3) := by decide +kernel
theorem D_O_read_19 : decode m_O_read.2.1 19 = .ok (.invokevirtual 116, 3) := by decide +kernel
theorem D_O_read_22 : decode m_O_read.2.1 22 = .ok (.aload_n 0, 1) := by decide +kernel
theorem D_O_read_23 : decode m_O_read.2.1 23 = .ok (.getfield 10, 3) := by decide +kernel
theorem D_O_read_26 : decode m_O_read.2.1 26 = .ok (.invokevirtual 119, 3) := by decide +kernel
theorem D_O_read_29 : decode m_O_read.2.1 29 = .ok (.if_icmp .lt 6, 3) := by decide +kernel
theorem D_O_read_32 : decode m_O_read.2.1 32 = .ok (.bipush (-2), 2) := by decide +kernel
theorem D_O_read_34 : decode m_O_read.2.1 34 = .ok (.ireturn, 1) := by decide +kernel
theorem D_O_read_35 : decode m_O_read.2.1 35 = .ok (.aload_n 0, 1) := by decide +kernel
theorem D_O_read_36 : decode m_O_read.2.1 36 = .ok (.getfield 50, 3) := by decide +kernel
theorem D_O_read_39 : decode m_O_read.2.1 39 = .ok (.aload_n 0, 1) := by decide +kernel
theorem D_O_read_40 : decode m_O_read.2.1 40 = .ok (.getfield 10, 3) := by decide +kernel
theorem D_O_read_43 : decode m_O_read.2.1 43 = .ok (.invokevirtual 73, 3) := by decide +kernel
theorem D_O_read_46 : decode m_O_read.2.1 46 = .ok (.aload_n 0, 1) := by decide +kernel
theorem D_O_read_47 : decode m_O_read.2.1 47 = .ok (.getfield 10, 3) := by decide +kernel
theorem D_O_read_50 : decode m_O_read.2.1 50 = .ok (.aload_n 0, 1) := by decide +kernel
theorem D_O_read_51 : decode m_O_read.2.1 51 = .ok (.getfield 43, 3) := by decide +kernel
theorem D_O_read_54 : decode m_O_read.2.1 54 = .ok (.invokevirtual 122, 3) := by decide +kernel
theorem D_O_read_57 : decode m_O_read.2.1 57 = .ok (.aload_n 0, 1) := by decide +kernel
theorem D_O_read_58 : decode m_O_read.2.1 58 = .ok (.getfield 43, 3) := by decide +kernel
theorem D_O_read_61 : decode m_O_read.2.1 61 = .ok (.invokevirtual 123, 3) := by decide +kernel
theorem D_O_read_64 : decode m_O_read.2.1 64 = .ok (.aload_n 0, 1) := by decide +kernel
theorem D_O_read_65 : decode m_O_read.2.1 65 = .ok (.getfield 10, 3) := by decide +kernel
theorem D_O_read_68 : decode m_O_read.2.1 68 = .ok (.invokevirtual 119, 3) := by decide +kernel
theorem D_O_read_71 : decode m_O_read.2.1 71 = .ok (.invokevirtual 77, 3) := by decide +kernel
theorem D_O_read_74 : decode m_O_read.2.1 74 = .ok (.iconst 0, 1) := by decide +kernel
theorem D_O_read_75 : decode m_O_read.2.1 75 = .ok (.istore_n 1, 1) := by decide +kernel
theorem D_O_read_76 : decode m_O_read.2.1 76 = .ok (.iload_n 1, 1) := by decide +kernel
theorem D_O_read_77 : decode m_O_read.2.1 77 = .ok (.aload_n 0, 1) := by decide +kernel
theorem D_O_read_78 : decode m_O_read.2.1 78 = .ok (.getfield 10, 3) := by decide +kernel
theorem D_O_read_81 : decode m_O_read.2.1 81 = .ok (.invokevirtual 99, 3) := by decide +kernel
theorem D_O_read_84 : decode m_O_read.2.1 84 = .ok (.if_icmp .ge 46, 3) := by decide +kernel
theorem D_O_read_87 : decode m_O_read.2.1 87 = .ok (.iconst 0, 1) := by decide +kernel
theorem D_O_read_88 : decode m_O_read.2.1 88 = .ok (.istore_n 2, 1) := by decide +kernel
theorem D_O_read_89 : decode m_O_read.2.1 89 = .ok (.iload_n 2, 1) := by decide +kernel
theorem D_O_read_90 : decode m_O_read.2.1 90 = .ok (.aload_n 0, 1) := by decide +kernel
theorem D_O_read_91 : decode m_O_read.2.1 91 = .ok (.getfield 10, 3) := by decide +kernel
theorem D_O_read_94 : decode m_O_read.2.1 94 = .ok (.invokevirtual 102, 3) := by decide +kernel
theorem D_O_read_97 : decode m_O_read.2.1 97 = .ok (.if_icmp .ge 27, 3) := by decide +kernel
theorem D_O_read_100 : decode m_O_read.2.1 100 = .ok (.aload_n 0, 1) := by decide +kernel
theorem D_O_read_101 : decode m_O_read.2.1 101 = .ok (.getfield 10, 3) := by decide +kernel
theorem D_O_read_104 : decode m_O_read.2.1 104 = .ok (.iload_n 1, 1) := by decide +kernel
theorem D_O_read_105 : decode m_O_read.2.1 105 = .ok (.iload_n 2, 1) := by decide +kernel
theorem D_O_read_106 : decode m_O_read.2.1 106 = .ok (.aload_n 0, 1) := by decide +kernel
theorem D_O_read_107 : decode m_O_read.2.1 107 = .ok (.getfield 43, 3) := by decide +kernel
theorem D_O_read_110 : decode m_O_read.2.1 110 = .ok (.iload_n 1, 1) := by decide +kernel
theorem D_O_read_111 : decode m_O_read.2.1 111 = .ok (.iload_n 2, 1) := by decide +kernel
theorem D_O_read_112 : decode m_O_read.2.1 112 = .ok (.invokevirtual 124, 3) := by decide +kernel
theorem D_O_read_115 : decode m_O_read.2.1 115 = .ok (.invokevirtual 89, 3) := by decide +kernel
theorem D_O_read_118 : decode m_O_read.2.1 118 = .ok (.iinc 2 1, 3) := by decide +kernel
theorem D_O_read_121 : decode m_O_read.2.1 121 = .ok (.goto (-32), 3) := by decide +kernel
theorem D_O_read_124 : decode m_O_read.2.1 124 = .ok (.iinc 1 1, 3) := by decide +kernel
theorem D_O_read_127 : decode m_O_read.2.1 127 = .ok (.goto (-51), 3) := by decide +kernel
theorem D_O_read_130 : decode m_O_read.2.1 130 = .ok (.aload_n 0, 1) := by decide +kernel
theorem D_O_read_131 : decode m_O_read.2.1 131 = .ok (.getfield 43, 3) := by decide +kernel
theorem D_O_read_134 : decode m_O_read.2.1 134 = .ok (.invokevirtual 125, 3) := by decide +kernel
theorem D_O_read_137 : decode m_O_read.2.1 137 = .ok (.aload_n 0, 1) := by decide +kernel
theorem D_O_read_138 : decode m_O_read.2.1 138 = .ok (.getfield 10, 3) := by decide +kernel
theorem D_O_read_141 : decode m_O_read.2.1 141 = .ok (.invokevirtual 69, 3) := by decide +kernel
theorem D_O_read_144 : decode m_O_read.2.1 144 = .ok (.ireturn, 1) := by decide +kernel
theorem D_O_entry_0 : decode m_O_entry.2.1 0 = .ok (.aload_n 0, 1) := by decide +kernel
theorem D_O_entry_1 : decode m_O_entry.2.1 1 = .ok (.getfield 10, 3) := by decide +kernel
theorem D_O_entry_4 : decode m_O_entry.2.1 4 = .ok (.iload_n 1, 1) := by decide +kernel
theorem D_O_entry_5 : decode m_O_entry.2.1 5 = .ok (.iload_n 2, 1) := by decide +kernel
theorem D_O_entry_6 : decode m_O_entry.2.1 6 = .ok (.invokevirtual 128, 3) := by decide +kernel
theorem D_O_entry_9 : decode m_O_entry.2.1 9 = .ok (.ifCond .ne 5, 3) := by decide +kernel
theorem D_O_entry_12 : decode m_O_entry.2.1 12 = .ok (.iconst (-1), 1) := by decide +kernel
theorem D_O_entry_13 : decode m_O_entry.2.1 13 = .ok (.ireturn, 1) := by decide +kernel
theorem D_O_entry_14 : decode m_O_entry.2.1 14 = .ok (.iload_n 3, 1) := by decide +kernel
theorem D_O_entry_15 : decode m_O_entry.2.1 15 = .ok (.tableswitch 124 0 3 #[29, 39, 64, 110], 29) := by decide +kernel
theorem D_O_entry_44 : decode m_O_entry.2.1 44 = .ok (.aload_n 0, 1) := by decide +kernel
theorem D_O_entry_45 : decode m_O_entry.2.1 45 = .ok (.getfield 10, 3) := by decide +kernel
theorem D_O_entry_48 : decode m_O_entry.2.1 48 = .ok (.iload_n 1, 1) := by decide +kernel
theorem D_O_entry_49 : decode m_O_entry.2.1 49 = .ok (.iload_n 2, 1) := by decide +kernel
theorem D_O_entry_50 : decode m_O_entry.2.1 50 = .ok (.invokevirtual 85, 3) := by decide +kernel
theorem D_O_entry_53 : decode m_O_entry.2.1 53 = .ok (.ireturn, 1) := by decide +kernel
theorem D_O_entry_54 : decode m_O_entry.2.1 54 = .ok (.aload_n 0, 1) := by decide +kernel
theorem D_O_entry_55 : decode m_O_entry.2.1 55 = .ok (.getfield 22, 3) := by decide +kernel
theorem D_O_entry_58 : decode m_O_entry.2.1 58 = .ok (.aload_n 0, 1) := by decide +kernel
theorem D_O_entry_59 : decode m_O_entry.2.1 59 = .ok (.getfield 10, 3) := by decide +kernel
theorem D_O_entry_62 : decode m_O_entry.2.1 62 = .ok (.invokevirtual 92, 3) := by decide +kernel
theorem D_O_entry_65 : decode m_O_entry.2.1 65 = .ok (.aload_n 0, 1) := by decide +kernel
theorem D_O_entry_66 : decode m_O_entry.2.1 66 = .ok (.getfield 22, 3) := by decide +kernel
theorem D_O_entry_69 : decode m_O_entry.2.1 69 = .ok (.aload_n 0, 1) := by decide +kernel
theorem D_O_entry_70 : decode m_O_entry.2.1 70 = .ok (.getfield 10, 3) := by decide +kernel
theorem D_O_entry_73 : decode m_O_entry.2.1 73 = .ok (.iload_n 1, 1) := by decide +kernel
theorem D_O_entry_74 : decode m_O_entry.2.1 74 = .ok (.iload_n 2, 1) := by decide +kernel
theorem D_O_entry_75 : decode m_O_entry.2.1 75 = .ok (.invokevirtual 131, 3) := by decide +kernel
theorem D_O_entry_78 : decode m_O_entry.2.1 78 = .ok (.ireturn, 1) := by decide +kernel
theorem D_O_entry_79 : decode m_O_entry.2.1 79 = .ok (.aload_n 0, 1) := by decide +kernel
theorem D_O_entry_80 : decode m_O_entry.2.1 80 = .ok (.getfield 16, 3) := by decide +kernel
theorem D_O_entry_83 : decode m_O_entry.2.1 83 = .ok (.aload_n 0, 1) := by decide +kernel
theorem D_O_entry_84 : decode m_O_entry.2.1 84 = .ok (.getfield 10, 3) := by decide +kernel
theorem D_O_entry_87 : decode m_O_entry.2.1 87 = .ok (.invokevirtual 134, 3) := by decide +kernel
theorem D_O_entry_90 : decode m_O_entry.2.1 90 = .ok (.aload_n 0, 1) := by decide +kernel
theorem D_O_entry_91 : decode m_O_entry.2.1 91 = .ok (.getfield 16, 3) := by decide +kernel
theorem D_O_entry_94 : decode m_O_entry.2.1 94 = .ok (.iload_n 1, 1) := by decide +kernel
theorem D_O_entry_95 : decode m_O_entry.2.1 95 = .ok (.iload_n 2, 1) := by decide +kernel
theorem D_O_entry_96 : decode m_O_entry.2.1 96 = .ok (.iconst 0, 1) := by decide +kernel
theorem D_O_entry_97 : decode m_O_entry.2.1 97 = .ok (.invokevirtual 89, 3) := by decide +kernel
theorem D_O_entry_100 : decode m_O_entry.2.1 100 = .ok (.aload_n 0, 1) := by decide +kernel
theorem D_O_entry_101 : decode m_O_entry.2.1 101 = .ok (.getfield 22, 3) := by decide +kernel
theorem D_O_entry_104 : decode m_O_entry.2.1 104 = .ok (.aload_n 0, 1) := by decide +kernel
theorem D_O_entry_105 : decode m_O_entry.2.1 105 = .ok (.getfield 16, 3) := by decide +kernel
theorem D_O_entry_108 : decode m_O_entry.2.1 108 = .ok (.invokevirtual 92, 3) := by decide +kernel
theorem D_O_entry_111 : decode m_O_entry.2.1 111 = .ok (.aload_n 0, 1) := by decide +kernel
theorem D_O_entry_112 : decode m_O_entry.2.1 112 = .ok (.getfield 22, 3) := by decide +kernel
theorem D_O_entry_115 : decode m_O_entry.2.1 115 = .ok (.aload_n 0, 1) := by decide +kernel
theorem D_O_entry_116 : decode m_O_entry.2.1 116 = .ok (.getfield 16, 3) := by decide +kernel
theorem D_O_entry_119 : decode m_O_entry.2.1 119 = .ok (.iload_n 1, 1) := by decide +kernel
theorem D_O_entry_120 : decode m_O_entry.2.1 120 = .ok (.iload_n 2, 1) := by decide +kernel
theorem D_O_entry_121 : decode m_O_entry.2.1 121 = .ok (.invokevirtual 131, 3) := by decide +kernel
theorem D_O_entry_124 : decode m_O_entry.2.1 124 = .ok (.ireturn, 1) := by decide +kernel
theorem D_O_entry_125 : decode m_O_entry.2.1 125 = .ok (.aload_n 0, 1) := by decide +kernel
theorem D_O_entry_126 : decode m_O_entry.2.1 126 = .ok (.getfield 36, 3) := by decide +kernel
theorem D_O_entry_129 : decode m_O_entry.2.1 129 = .ok (.aload_n 0, 1) := by decide +kernel
theorem D_O_entry_130 : decode m_O_entry.2.1 130 = .ok (.getfield 10, 3) := by decide +kernel
theorem D_O_entry_133 : decode m_O_entry.2.1 133 = .ok (.iload_n 1, 1) := by decide +kernel
theorem D_O_entry_134 : decode m_O_entry.2.1 134 = .ok (.iload_n 2, 1) := by decide +kernel
theorem D_O_entry_135 : decode m_O_entry.2.1 135 = .ok (.invokevirtual 137, 3) := by decide +kernel
theorem D_O_entry_138 : decode m_O_entry.2.1 138 = .ok (.ireturn, 1) := by decide +kernel
theorem D_O_entry_139 : decode m_O_entry.2.1 139 = .ok (.bipush (-2), 2) := by decide +kernel
theorem D_O_entry_141 : decode m_O_entry.2.1 141 = .ok (.ireturn, 1) := by decide +kernel
theorem D_O_part_0 : decode m_O_part.2.1 0 = .ok (.aload_n 0, 1) := by decide +kernel
theorem D_O_part_1 : decode m_O_part.2.1 1 = .ok (.getfield 22, 3) := by decide +kernel
theorem D_O_part_4 : decode m_O_part.2.1 4 = .ok (.aload_n 0, 1) := by decide +kernel
theorem D_O_part_5 : decode m_O_part.2.1 5 = .ok (.getfield 10, 3) := by decide +kernel
theorem D_O_part_8 : decode m_O_part.2.1 8 = .ok (.invokevirtual 92, 3) := by decide +kernel
theorem D_O_part_11 : decode m_O_part.2.1 11 = .ok (.iload_n 1, 1) := by decide +kernel
theorem D_O_part_12 : decode m_O_part.2.1 12 = .ok (.iconst 0, 1) := by decide +kernel
theorem D_O_part_13 : decode m_O_part.2.1 13 = .ok (.aload_n 0, 1) := by decide +kernel
theorem D_O_part_14 : decode m_O_part.2.1 14 = .ok (.getfield 22, 3) := by decide +kernel
theorem D_O_part_17 : decode m_O_part.2.1 17 = .ok (.invokevirtual 140, 3) := by decide +kernel
theorem D_O_part_20 : decode m_O_part.2.1 20 = .ok (.iconst 1, 1) := by decide +kernel
theorem D_O_part_21 : decode m_O_part.2.1 21 = .ok (.isub, 1) := by decide +kernel
theorem D_O_part_22 : decode m_O_part.2.1 22 = .ok (.invokestatic 61, 3) := by decide +kernel
theorem D_O_part_25 : decode m_O_part.2.1 25 = .ok (.ifCond .eq 5, 3) := by decide +kernel
theorem D_O_part_28 : decode m_O_part.2.1 28 = .ok (.iconst (-1), 1) := by decide +kernel
theorem D_O_part_29 : decode m_O_part.2.1 29 = .ok (.ireturn, 1) := by decide +kernel
theorem D_O_part_30 : decode m_O_part.2.1 30 = .ok (.iload_n 2, 1) := by decide +kernel
theorem D_O_part_31 : decode m_O_part.2.1 31 = .ok (.tableswitch 56 0 2 #[25, 34, 43], 25) := by decide +kernel
theorem D_O_part_56 : decode m_O_part.2.1 56 = .ok (.aload_n 0, 1) := by decide +kernel
theorem D_O_part_57 : decode m_O_part.2.1 57 = .ok (.getfield 22, 3) := by decide +kernel
theorem D_O_part_60 : decode m_O_part.2.1 60 = .ok (.iload_n 1, 1) := by decide +kernel
theorem D_O_part_61 : decode m_O_part.2.1 61 = .ok (.invokevirtual 143, 3) := by decide +kernel
theorem D_O_part_64 : decode m_O_part.2.1 64 = .ok (.ireturn, 1) := by decide +kernel
theorem D_O_part_65 : decode m_O_part.2.1 65 = .ok (.aload_n 0, 1) := by decide +kernel
theorem D_O_part_66 : decode m_O_part.2.1 66 = .ok (.getfield 22, 3) := by decide +kernel
theorem D_O_part_69 : decode m_O_part.2.1 69 = .ok (.iload_n 1, 1) := by decide +kernel
theorem D_O_part_70 : decode m_O_part.2.1 70 = .ok (.invokevirtual 147, 3) := by decide +kernel
theorem D_O_part_73 : decode m_O_part.2.1 73 = .ok (.ireturn, 1) := by decide +kernel
theorem D_O_part_74 : decode m_O_part.2.1 74 = .ok (.aload_n 0, 1) := by decide +kernel
theorem D_O_part_75 : decode m_O_part.2.1 75 = .ok (.getfield 22, 3) := by decide +kernel
theorem D_O_part_78 : decode m_O_part.2.1 78 = .ok (.aload_n 0, 1) := by decide +kernel
theorem D_O_part_79 : decode m_O_part.2.1 79 = .ok (.getfield 10, 3) := by decide +kernel
theorem D_O_part_82 : decode m_O_part.2.1 82 = .ok (.iload_n 1, 1) := by decide +kernel
theorem D_O_part_83 : decode m_O_part.2.1 83 = .ok (.invokevirtual 150, 3) := by decide +kernel
theorem D_O_part_86 : decode m_O_part.2.1 86 = .ok (.ireturn, 1) := by decide +kernel
theorem D_O_part_87 : decode m_O_part.2.1 87 = .ok (.bipush (-2), 2) := by decide +kernel
theorem D_O_part_89 : decode m_O_part.2.1 89 = .ok (.ireturn, 1) := by decide +kernel
theorem D_O_count_0 : decode m_O_count.2.1 0 = .ok (.iload_n 1, 1) := by decide +kernel
theorem D_O_count_1 : decode m_O_count.2.1 1 = .ok (.tableswitch 155 0 11 #[63, 71, 79, 87, 95, 95, 95, 101, 114, 127, 139, 147], 63) := by decide +kernel
theorem D_O_count_64 : decode m_O_count.2.1 64 = .ok (.aload_n 0, 1) := by decide +kernel
theorem D_O_count_65 : decode m_O_count.2.1 65 = .ok (.getfield 10, 3) := by decide +kernel
theorem D_O_count_68 : decode m_O_count.2.1 68 = .ok (.invokevirtual 99, 3) := by decide +kernel
theorem D_O_count_71 : decode m_O_count.2.1 71 = .ok (.ireturn, 1) := by decide +kernel
theorem D_O_count_72 : decode m_O_count.2.1 72 = .ok (.aload_n 0, 1) := by decide +kernel
theorem D_O_count_73 : decode m_O_count.2.1 73 = .ok (.getfield 10, 3) := by decide +kernel
theorem D_O_count_76 : decode m_O_count.2.1 76 = .ok (.invokevirtual 102, 3) := by decide +kernel
theorem D_O_count_79 : decode m_O_count.2.1 79 = .ok (.ireturn, 1) := by decide +kernel
theorem D_O_count_80 : decode m_O_count.2.1 80 = .ok (.aload_n 0, 1) := by decide +kernel
theorem D_O_count_81 : decode m_O_count.2.1 81 = .ok (.getfield 10, 3) := by decide +kernel
theorem D_O_count_84 : decode m_O_count.2.1 84 = .ok (.invokevirtual 119, 3) := by decide +kernel
theorem D_O_count_87 : decode m_O_count.2.1 87 = .ok (.ireturn, 1) := by decide +kernel
theorem D_O_count_88 : decode m_O_count.2.1 88 = .ok (.aload_n 0, 1) := by decide +kernel
theorem D_O_count_89 : decode m_O_count.2.1 89 = .ok (.getfield 10, 3) := by decide +kernel
theorem D_O_count_92 : decode m_O_count.2.1 92 = .ok (.invokevirtual 69, 3) := by decide +kernel
theorem D_O_count_95 : decode m_O_count.2.1 95 = .ok (.ireturn, 1) := by decide +kernel
theorem D_O_count_96 : decode m_O_count.2.1 96 = .ok (.aload_n 0, 1) := by decide +kernel
theorem D_O_count_97 : decode m_O_count.2.1 97 = .ok (.iload_n 1, 1) := by decide +kernel
theorem D_O_count_98 : decode m_O_count.2.1 98 = .ok (.invokevirtual 154, 3) := by decide +kernel
theorem D_O_count_101 : decode m_O_count.2.1 101 = .ok (.ireturn, 1) := by decide +kernel
theorem D_O_count_102 : decode m_O_count.2.1 102 = .ok (.aload_n 0, 1) := by decide +kernel
theorem D_O_count_103 : decode m_O_count.2.1 103 = .ok (.getfield 36, 3) := by decide +kernel
theorem D_O_count_106 : decode m_O_count.2.1 106 = .ok (.aload_n 0, 1) := by decide +kernel
theorem D_O_count_107 : decode m_O_count.2.1 107 = .ok (.getfield 10, 3) := by decide +kernel
theorem D_O_count_110 : decode m_O_count.2.1 110 = .ok (.iconst 0, 1) := by decide +kernel
theorem D_O_count_111 : decode m_O_count.2.1 111 = .ok (.invokevirtual 157, 3) := by decide +kernel
theorem D_O_count_114 : decode m_O_count.2.1 114 = .ok (.ireturn, 1) := by decide +kernel
theorem D_O_count_115 : decode m_O_count.2.1 115 = .ok (.aload_n 0, 1) := by decide +kernel
theorem D_O_count_116 : decode m_O_count.2.1 116 = .ok (.getfield 36, 3) := by decide +kernel
theorem D_O_count_119 : decode m_O_count.2.1 119 = .ok (.aload_n 0, 1) := by decide +kernel
theorem D_O_count_120 : decode m_O_count.2.1 120 = .ok (.getfield 10, 3) := by decide +kernel
theorem D_O_count_123 : decode m_O_count.2.1 123 = .ok (.iconst 1, 1) := by decide +kernel
theorem D_O_count_124 : decode m_O_count.2.1 124 = .ok (.invokevirtual 157, 3) := by decide +kernel
theorem D_O_count_127 : decode m_O_count.2.1 127 = .ok (.ireturn, 1) := by decide +kernel
theorem D_O_count_128 : decode m_O_count.2.1 128 = .ok (.aload_n 0, 1) := by decide +kernel
theorem D_O_count_129 : decode m_O_count.2.1 129 = .ok (.getfield 36, 3) := by decide +kernel
theorem D_O_count_132 : decode m_O_count.2.1 132 = .ok (.aload_n 0, 1) := by decide +kernel
theorem D_O_count_133 : decode m_O_count.2.1 133 = .ok (.getfield 10, 3) := by decide +kernel
theorem D_O_count_136 : decode m_O_count.2.1 136 = .ok (.invokevirtual 161, 3) := by decide +kernel
theorem D_O_count_139 : decode m_O_count.2.1 139 = .ok (.ireturn, 1) := by decide +kernel
theorem D_O_count_140 : decode m_O_count.2.1 140 = .ok (.aload_n 0, 1) := by decide +kernel
theorem D_O_count_141 : decode m_O_count.2.1 141 = .ok (.getfield 43, 3) := by decide +kernel
theorem D_O_count_144 : decode m_O_count.2.1 144 = .ok (.invokevirtual 165, 3) := by decide +kernel
theorem D_O_count_147 : decode m_O_count.2.1 147 = .ok (.ireturn, 1) := by decide +kernel
theorem D_O_count_148 : decode m_O_count.2.1 148 = .ok (.aload_n 0, 1) := by decide +kernel
theorem D_O_count_149 : decode m_O_count.2.1 149 = .ok (.getfield 50, 3) := by decide +kernel
theorem D_O_count_152 : decode m_O_count.2.1 152 = .ok (.invokevirtual 168, 3) := by decide +kernel
theorem D_O_count_155 : decode m_O_count.2.1 155 = .ok (.ireturn, 1) := by decide +kernel
theorem D_O_count_156 : decode m_O_count.2.1 156 = .ok (.bipush (-2), 2) := by decide +kernel
theorem D_O_count_158 : decode m_O_count.2.1 158 = .ok (.ireturn, 1) := by decide +kernel
theorem D_O_countOfParts_0 : decode m_O_countOfParts.2.1 0 = .ok (.aload_n 0, 1) := by decide +kernel
theorem D_O_countOfParts_1 : decode m_O_countOfParts.2.1 1 = .ok (.getfield 22, 3) := by decide +kernel
theorem D_O_countOfParts_4 : decode m_O_countOfParts.2.1 4 = .ok (.aload_n 0, 1) := by decide +kernel
theorem D_O_countOfParts_5 : decode m_O_countOfParts.2.1 5 = .ok (.getfield 10, 3) := by decide +kernel
theorem D_O_countOfParts_8 : decode m_O_countOfParts.2.1 8 = .ok (.invokevirtual 92, 3) := by decide +kernel
theorem D_O_countOfParts_11 : decode m_O_countOfParts.2.1 11 = .ok (.iload_n 1, 1) := by decide +kernel
theorem D_O_countOfParts_12 : decode m_O_countOfParts.2.1 12 = .ok (.iconst 4, 1) := by decide +kernel
theorem D_O_countOfParts_13 : decode m_O_countOfParts.2.1 13 = .ok (.if_icmp .ne 11, 3) := by decide +kernel
theorem D_O_countOfParts_16 : decode m_O_countOfParts.2.1 16 = .ok (.aload_n 0, 1) := by decide +kernel
theorem D_O_countOfParts_17 : decode m_O_countOfParts.2.1 17 = .ok (.getfield 22, 3) := by decide +kernel
theorem D_O_countOfParts_20 : decode m_O_countOfParts.2.1 20 = .ok (.invokevirtual 140, 3) := by decide +kernel
theorem D_O_countOfParts_23 : decode m_O_countOfParts.2.1 23 = .ok (.ireturn, 1) := by decide +kernel
theorem D_O_countOfParts_24 : decode m_O_countOfParts.2.1 24 = .ok (.iload_n 1, 1) := by decide +kernel
theorem D_O_countOfParts_25 : decode m_O_countOfParts.2.1 25 = .ok (.iconst 5, 1) := by decide +kernel
theorem D_O_countOfParts_26 : decode m_O_countOfParts.2.1 26 = .ok (.if_icmp .ne 19, 3) := by decide +kernel
theorem D_O_countOfParts_29 : decode m_O_countOfParts.2.1 29 = .ok (.aload_n 0, 1) := by decide +kernel
theorem D_O_countOfParts_30 : decode m_O_countOfParts.2.1 30 = .ok (.getfield 22, 3) := by decide +kernel
theorem D_O_countOfParts_33 : decode m_O_countOfParts.2.1 33 = .ok (.invokevirtual 95, 3) := by decide +kernel
theorem D_O_countOfParts_36 : decode m_O_countOfParts.2.1 36 = .ok (.ifCond .eq 7, 3) := by decide +kernel
theorem D_O_countOfParts_39 : decode m_O_countOfParts.2.1 39 = .ok (.iconst 1, 1) := by decide +kernel
theorem D_O_countOfParts_40 : decode m_O_countOfParts.2.1 40 = .ok (.goto 4, 3) := by decide +kernel
theorem D_O_countOfParts_43 : decode m_O_countOfParts.2.1 43 = .ok (.iconst 0, 1) := by decide +kernel
theorem D_O_countOfParts_44 : decode m_O_countOfParts.2.1 44 = .ok (.ireturn, 1) := by decide +kernel
theorem D_O_countOfParts_45 : decode m_O_countOfParts.2.1 45 = .ok (.aload_n 0, 1) := by decide +kernel
theorem D_O_countOfParts_46 : decode m_O_countOfParts.2.1 46 = .ok (.getfield 22, 3) := by decide +kernel
theorem D_O_countOfParts_49 : decode m_O_countOfParts.2.1 49 = .ok (.invokevirtual 169, 3) := by decide +kernel
theorem D_O_countOfParts_52 : decode m_O_countOfParts.2.1 52 = .ok (.ireturn, 1) := by decide +kernel
theorem D_O_cycles_0 : decode m_O_cycles.2.1 0 = .ok (.iload_n 1, 1) := by decide +kernel
theorem D_O_cycles_1 : decode m_O_cycles.2.1 1 = .ok (.iconst 4, 1) := by decide +kernel
theorem D_O_cycles_2 : decode m_O_cycles.2.1 2 = .ok (.bipush 12, 2) := by decide +kernel
theorem D_O_cycles_4 : decode m_O_cycles.2.1 4 = .ok (.invokestatic 61, 3) := by decide +kernel
theorem D_O_cycles_7 : decode m_O_cycles.2.1 7 = .ok (.ifCond .ne 18, 3) := by decide +kernel
theorem D_O_cycles_10 : decode m_O_cycles.2.1 10 = .ok (.iload_n 1, 1) := by decide +kernel
theorem D_O_cycles_11 : decode m_O_cycles.2.1 11 = .ok (.iconst 1, 1) := by decide +kernel
theorem D_O_cycles_12 : decode m_O_cycles.2.1 12 = .ok (.iand, 1) := by decide +kernel
theorem D_O_cycles_13 : decode m_O_cycles.2.1 13 = .ok (.ifCond .ne 12, 3) := by decide +kernel
theorem D_O_cycles_16 : decode m_O_cycles.2.1 16 = .ok (.iload_n 2, 1) := by decide +kernel
theorem D_O_cycles_17 : decode m_O_cycles.2.1 17 = .ok (.iconst 0, 1) := by decide +kernel
theorem D_O_cycles_18 : decode m_O_cycles.2.1 18 = .ok (.iconst 1, 1) := by decide +kernel
theorem D_O_cycles_19 : decode m_O_cycles.2.1 19 = .ok (.invokestatic 61, 3) := by decide +kernel
theorem D_O_cycles_22 : decode m_O_cycles.2.1 22 = .ok (.ifCond .eq 6, 3) := by decide +kernel
theorem D_O_cycles_25 : decode m_O_cycles.2.1 25 = .ok (.bipush (-2), 2) := by decide +kernel
theorem D_O_cycles_27 : decode m_O_cycles.2.1 27 = .ok (.ireturn, 1) := by decide +kernel
theorem D_O_cycles_28 : decode m_O_cycles.2.1 28 = .ok (.aload_n 0, 1) := by decide +kernel
theorem D_O_cycles_29 : decode m_O_cycles.2.1 29 = .ok (.getfield 29, 3) := by decide +kernel
theorem D_O_cycles_32 : decode m_O_cycles.2.1 32 = .ok (.aload_n 0, 1) := by decide +kernel
theorem D_O_cycles_33 : decode m_O_cycles.2.1 33 = .ok (.getfield 10, 3) := by decide +kernel
theorem D_O_cycles_36 : decode m_O_cycles.2.1 36 = .ok (.iload_n 1, 1) := by decide +kernel
theorem D_O_cycles_37 : decode m_O_cycles.2.1 37 = .ok (.iconst 1, 1) := by decide +kernel
theorem D_O_cycles_38 : decode m_O_cycles.2.1 38 = .ok (.ishr, 1) := by decide +kernel
theorem D_O_cycles_39 : decode m_O_cycles.2.1 39 = .ok (.iload_n 2, 1) := by decide +kernel
theorem D_O_cycles_40 : decode m_O_cycles.2.1 40 = .ok (.iconst 1, 1) := by decide +kernel
theorem D_O_cycles_41 : decode m_O_cycles.2.1 41 = .ok (.if_icmp .ne 7, 3) := by decide +kernel
theorem D_O_cycles_44 : decode m_O_cycles.2.1 44 = .ok (.iconst 1, 1) := by decide +kernel
theorem D_O_cycles_45 : decode m_O_cycles.2.1 45 = .ok (.goto 4, 3) := by decide +kernel
theorem D_O_cycles_48 : decode m_O_cycles.2.1 48 = .ok (.iconst 0, 1) := by decide +kernel
theorem D_O_cycles_49 : decode m_O_cycles.2.1 49 = .ok (.invokevirtual 172, 3) := by decide +kernel
theorem D_O_cycles_52 : decode m_O_cycles.2.1 52 = .ok (.iload_n 2, 1) := by decide +kernel
theorem D_O_cycles_53 : decode m_O_cycles.2.1 53 = .ok (.ifCond .ne 13, 3) := by decide +kernel
theorem D_O_cycles_56 : decode m_O_cycles.2.1 56 = .ok (.aload_n 0, 1) := by decide +kernel
theorem D_O_cycles_57 : decode m_O_cycles.2.1 57 = .ok (.getfield 29, 3) := by decide +kernel
theorem D_O_cycles_60 : decode m_O_cycles.2.1 60 = .ok (.invokevirtual 176, 3) := by decide +kernel
theorem D_O_cycles_63 : decode m_O_cycles.2.1 63 = .ok (.goto 10, 3) := by decide +kernel
theorem D_O_cycles_66 : decode m_O_cycles.2.1 66 = .ok (.aload_n 0, 1) := by decide +kernel
theorem D_O_cycles_67 : decode m_O_cycles.2.1 67 = .ok (.getfield 29, 3) := by decide +kernel
theorem D_O_cycles_70 : decode m_O_cycles.2.1 70 = .ok (.invokevirtual 179, 3) := by decide +kernel
theorem D_O_cycles_73 : decode m_O_cycles.2.1 73 = .ok (.ireturn, 1) := by decide +kernel
theorem D_O_wrong_0 : decode m_O_wrong.2.1 0 = .ok (.iload_n 1, 1) := by decide +kernel
theorem D_O_wrong_1 : decode m_O_wrong.2.1 1 = .ok (.iconst 0, 1) := by decide +kernel
theorem D_O_wrong_2 : decode m_O_wrong.2.1 2 = .ok (.iconst 2, 1) := by decide +kernel
theorem D_O_wrong_3 : decode m_O_wrong.2.1 3 = .ok (.invokestatic 61, 3) := by decide +kernel
theorem D_O_wrong_6 : decode m_O_wrong.2.1 6 = .ok (.ifCond .eq 6, 3) := by decide +kernel
theorem D_O_wrong_9 : decode m_O_wrong.2.1 9 = .ok (.bipush (-2), 2) := by decide +kernel
theorem D_O_wrong_11 : decode m_O_wrong.2.1 11 = .ok (.ireturn, 1) := by decide +kernel
theorem D_O_wrong_12 : decode m_O_wrong.2.1 12 = .ok (.aload_n 0, 1) := by decide +kernel
theorem D_O_wrong_13 : decode m_O_wrong.2.1 13 = .ok (.invokevirtual 182, 3) := by decide +kernel
theorem D_O_wrong_16 : decode m_O_wrong.2.1 16 = .ok (.istore_n 2, 1) := by decide +kernel
theorem D_O_wrong_17 : decode m_O_wrong.2.1 17 = .ok (.iload_n 2, 1) := by decide +kernel
theorem D_O_wrong_18 : decode m_O_wrong.2.1 18 = .ok (.ifCond .ne 6, 3) := by decide +kernel
theorem D_O_wrong_21 : decode m_O_wrong.2.1 21 = .ok (.bipush (-6), 2) := by decide +kernel
theorem D_O_wrong_23 : decode m_O_wrong.2.1 23 = .ok (.ireturn, 1) := by decide +kernel
theorem D_O_wrong_24 : decode m_O_wrong.2.1 24 = .ok (.iload_n 1, 1) := by decide +kernel
theorem D_O_wrong_25 : decode m_O_wrong.2.1 25 = .ok (.ifCond .ne 7, 3) := by decide +kernel
theorem D_O_wrong_28 : decode m_O_wrong.2.1 28 = .ok (.iconst 2, 1) := by decide +kernel
theorem D_O_wrong_29 : decode m_O_wrong.2.1 29 = .ok (.iload_n 2, 1) := by decide +kernel
theorem D_O_wrong_30 : decode m_O_wrong.2.1 30 = .ok (.imul, 1) := by decide +kernel
theorem D_O_wrong_31 : decode m_O_wrong.2.1 31 = .ok (.ireturn, 1) := by decide +kernel
theorem D_O_wrong_32 : decode m_O_wrong.2.1 32 = .ok (.iload_n 1, 1) := by decide +kernel
theorem D_O_wrong_33 : decode m_O_wrong.2.1 33 = .ok (.iconst 1, 1) := by decide +kernel
theorem D_O_wrong_34 : decode m_O_wrong.2.1 34 = .ok (.if_icmp .ne 13, 3) := by decide +kernel
theorem D_O_wrong_37 : decode m_O_wrong.2.1 37 = .ok (.aload_n 0, 1) := by decide +kernel
theorem D_O_wrong_38 : decode m_O_wrong.2.1 38 = .ok (.getfield 29, 3) := by decide +kernel
theorem D_O_wrong_41 : decode m_O_wrong.2.1 41 = .ok (.invokevirtual 185, 3) := by decide +kernel
theorem D_O_wrong_44 : decode m_O_wrong.2.1 44 = .ok (.goto 10, 3) := by decide +kernel
theorem D_O_wrong_47 : decode m_O_wrong.2.1 47 = .ok (.aload_n 0, 1) := by decide +kernel
theorem D_O_wrong_48 : decode m_O_wrong.2.1 48 = .ok (.getfield 29, 3) := by decide +kernel
theorem D_O_wrong_51 : decode m_O_wrong.2.1 51 = .ok (.invokevirtual 188, 3) := by decide +kernel
theorem D_O_wrong_54 : decode m_O_wrong.2.1 54 = .ok (.ireturn, 1) := by decide +kernel
theorem D_O_shortestWrongTurns_0 : decode m_O_shortestWrongTurns.2.1 0 = .ok (.aload_n 0, 1) := by decide +kernel
theorem D_O_shortestWrongTurns_1 : decode m_O_shortestWrongTurns.2.1 1 = .ok (.getfield 22, 3) := by decide +kernel
theorem D_O_shortestWrongTurns_4 : decode m_O_shortestWrongTurns.2.1 4 = .ok (.aload_n 0, 1) := by decide +kernel
theorem D_O_shortestWrongTurns_5 : decode m_O_shortestWrongTurns.2.1 5 = .ok (.getfield 10, 3) := by decide +kernel
theorem D_O_shortestWrongTurns_8 : decode m_O_shortestWrongTurns.2.1 8 = .ok (.invokevirtual 92, 3) := by decide +kernel
theorem D_O_shortestWrongTurns_11 : decode m_O_shortestWrongTurns.2.1 11 = .ok (.aload_n 0, 1) := by decide +kernel
theorem D_O_shortestWrongTurns_12 : decode m_O_shortestWrongTurns.2.1 12 = .ok (.getfield 22, 3) := by decide +kernel
theorem D_O_shortestWrongTurns_15 : decode m_O_shortestWrongTurns.2.1 15 = .ok (.invokevirtual 95, 3) := by decide +kernel
theorem D_O_shortestWrongTurns_18 : decode m_O_shortestWrongTurns.2.1 18 = .ok (.ifCond .eq 5, 3) := by decide +kernel
theorem D_O_shortestWrongTurns_21 : decode m_O_shortestWrongTurns.2.1 21 = .ok (.iconst 0, 1) := by decide +kernel
theorem D_O_shortestWrongTurns_22 : decode m_O_shortestWrongTurns.2.1 22 = .ok (.ireturn, 1) := by decide +kernel
theorem D_O_shortestWrongTurns_23 : decode m_O_shortestWrongTurns.2.1 23 = .ok (.iconst 2, 1) := by decide +kernel
theorem D_O_shortestWrongTurns_24 : decode m_O_shortestWrongTurns.2.1 24 = .ok (.istore_n 1, 1) := by decide +kernel
theorem D_O_shortestWrongTurns_25 : decode m_O_shortestWrongTurns.2.1 25 = .ok (.iload_n 1, 1) := by decide +kernel
theorem D_O_shortestWrongTurns_26 : decode m_O_shortestWrongTurns.2.1 26 = .ok (.bipush 6, 2) := by decide +kernel
theorem D_O_shortestWrongTurns_28 : decode m_O_shortestWrongTurns.2.1 28 = .ok (.if_icmp .gt 34, 3) := by decide +kernel
theorem D_O_shortestWrongTurns_31 : decode m_O_shortestWrongTurns.2.1 31 = .ok (.aload_n 0, 1) := by decide +kernel
theorem D_O_shortestWrongTurns_32 : decode m_O_shortestWrongTurns.2.1 32 = .ok (.getfield 29, 3) := by decide +kernel
theorem D_O_shortestWrongTurns_35 : decode m_O_shortestWrongTurns.2.1 35 = .ok (.aload_n 0, 1) := by decide +kernel
theorem D_O_shortestWrongTurns_36 : decode m_O_shortestWrongTurns.2.1 36 = .ok (.getfield 10, 3) := by decide +kernel
theorem D_O_shortestWrongTurns_39 : decode m_O_shortestWrongTurns.2.1 39 = .ok (.iload_n 1, 1) := by decide +kernel
theorem D_O_shortestWrongTurns_40 : decode m_O_shortestWrongTurns.2.1 40 = .ok (.iconst 1, 1) := by decide +kernel
theorem D_O_shortestWrongTurns_41 : decode m_O_shortestWrongTurns.2.1 41 = .ok (.invokevirtual 172, 3) := by decide +kernel
theorem D_O_shortestWrongTurns_44 : decode m_O_shortestWrongTurns.2.1 44 = .ok (.aload_n 0, 1) := by decide +kernel
theorem D_O_shortestWrongTurns_45 : decode m_O_shortestWrongTurns.2.1 45 = .ok (.getfield 29, 3) := by decide +kernel
theorem D_O_shortestWrongTurns_48 : decode m_O_shortestWrongTurns.2.1 48 = .ok (.invokevirtual 179, 3) := by decide +kernel
theorem D_O_shortestWrongTurns_51 : decode m_O_shortestWrongTurns.2.1 51 = .ok (.ifCond .le 5, 3) := by decide +kernel
theorem D_O_shortestWrongTurns_54 : decode m_O_shortestWrongTurns.2.1 54 = .ok (.iload_n 1, 1) := by decide +kernel
theorem D_O_shortestWrongTurns_55 : decode m_O_shortestWrongTurns.2.1 55 = .ok (.ireturn, 1) := by decide +kernel
theorem D_O_shortestWrongTurns_56 : decode m_O_shortestWrongTurns.2.1 56 = .ok (.iinc 1 1, 3) := by decide +kernel
theorem D_O_shortestWrongTurns_59 : decode m_O_shortestWrongTurns.2.1 59 = .ok (.goto (-34), 3) := by decide +kernel
theorem D_O_shortestWrongTurns_62 : decode m_O_shortestWrongTurns.2.1 62 = .ok (.iconst 0, 1) := by decide +kernel
theorem D_O_shortestWrongTurns_63 : decode m_O_shortestWrongTurns.2.1 63 = .ok (.ireturn, 1) := by decide +kernel
theorem D_O_completions_0 : decode m_O_completions.2.1 0 = .ok (.aload_n 0, 1) := by decide +kernel
theorem D_O_completions_1 : decode m_O_completions.2.1 1 = .ok (.getfield 22, 3) := by decide +kernel
theorem D_O_completions_4 : decode m_O_completions.2.1 4 = .ok (.aload_n 0, 1) := by decide +kernel
theorem D_O_completions_5 : decode m_O_completions.2.1 5 = .ok (.getfield 10, 3) := by decide +kernel
theorem D_O_completions_8 : decode m_O_completions.2.1 8 = .ok (.invokevirtual 92, 3) := by decide +kernel
theorem D_O_completions_11 : decode m_O_completions.2.1 11 = .ok (.aload_n 0, 1) := by decide +kernel
theorem D_O_completions_12 : decode m_O_completions.2.1 12 = .ok (.invokevirtual 191, 3) := by decide +kernel
theorem D_O_completions_15 : decode m_O_completions.2.1 15 = .ok (.lreturn, 1) := by decide +kernel
theorem D_O_completed_0 : decode m_O_completed.2.1 0 = .ok (.aload_n 0, 1) := by decide +kernel
theorem D_O_completed_1 : decode m_O_completed.2.1 1 = .ok (.getfield 22, 3) := by decide +kernel
theorem D_O_completed_4 : decode m_O_completed.2.1 4 = .ok (.aload_n 0, 1) := by decide +kernel
theorem D_O_completed_5 : decode m_O_completed.2.1 5 = .ok (.getfield 10, 3) := by decide +kernel
theorem D_O_completed_8 : decode m_O_completed.2.1 8 = .ok (.invokevirtual 92, 3) := by decide +kernel
theorem D_O_completed_11 : decode m_O_completed.2.1 11 = .ok (.lload_n 1, 1) := by decide +kernel
theorem D_O_completed_12 : decode m_O_completed.2.1 12 = .ok (.lconst 0, 1) := by decide +kernel
theorem D_O_completed_13 : decode m_O_completed.2.1 13 = .ok (.lcmp, 1) := by decide +kernel
theorem D_O_completed_14 : decode m_O_completed.2.1 14 = .ok (.ifCond .lt 25, 3) := by decide +kernel
theorem D_O_completed_17 : decode m_O_completed.2.1 17 = .ok (.lload_n 1, 1) := by decide +kernel
theorem D_O_completed_18 : decode m_O_completed.2.1 18 = .ok (.aload_n 0, 1) := by decide +kernel
theorem D_O_completed_19 : decode m_O_completed.2.1 19 = .ok (.invokevirtual 191, 3) := by decide +kernel
theorem D_O_completed_22 : decode m_O_completed.2.1 22 = .ok (.lcmp, 1) := by decide +kernel
theorem D_O_completed_23 : decode m_O_completed.2.1 23 = .ok (.ifCond .ge 16, 3) := by decide +kernel
theorem D_O_completed_26 : decode m_O_completed.2.1 26 = .ok (.aload_n 0, 1) := by decide +kernel
theorem D_O_completed_27 : decode m_O_completed.2.1 27 = .ok (.getfield 10, 3) := by decide +kernel
theorem D_O_completed_30 : decode m_O_completed.2.1 30 = .ok (.iload_n 3, 1) := by decide +kernel
theorem D_O_completed_31 : decode m_O_completed.2.1 31 = .ok (.iload 4, 2) := by decide +kernel
theorem D_O_completed_33 : decode m_O_completed.2.1 33 = .ok (.invokevirtual 128, 3) := by decide +kernel
theorem D_O_completed_36 : decode m_O_completed.2.1 36 = .ok (.ifCond .ne 5, 3) := by decide +kernel
theorem D_O_completed_39 : decode m_O_completed.2.1 39 = .ok (.iconst (-1), 1) := by decide +kernel
theorem D_O_completed_40 : decode m_O_completed.2.1 40 = .ok (.ireturn, 1) := by decide +kernel
theorem D_O_completed_41 : decode m_O_completed.2.1 41 = .ok (.aload_n 0, 1) := by decide +kernel
theorem D_O_completed_42 : decode m_O_completed.2.1 42 = .ok (.lload_n 1, 1) := by decide +kernel
theorem D_O_completed_43 : decode m_O_completed.2.1 43 = .ok (.aload_n 0, 1) := by decide +kernel
theorem D_O_completed_44 : decode m_O_completed.2.1 44 = .ok (.getfield 22, 3) := by decide +kernel
theorem D_O_completed_47 : decode m_O_completed.2.1 47 = .ok (.iload_n 3, 1) := by decide +kernel
theorem D_O_completed_48 : decode m_O_completed.2.1 48 = .ok (.invokevirtual 195, 3) := by decide +kernel
theorem D_O_completed_51 : decode m_O_completed.2.1 51 = .ok (.invokevirtual 198, 3) := by decide +kernel
theorem D_O_completed_54 : decode m_O_completed.2.1 54 = .ok (.istore 5, 2) := by decide +kernel
theorem D_O_completed_56 : decode m_O_completed.2.1 56 = .ok (.aload_n 0, 1) := by decide +kernel
theorem D_O_completed_57 : decode m_O_completed.2.1 57 = .ok (.lload_n 1, 1) := by decide +kernel
theorem D_O_completed_58 : decode m_O_completed.2.1 58 = .ok (.aload_n 0, 1) := by decide +kernel
theorem D_O_completed_59 : decode m_O_completed.2.1 59 = .ok (.getfield 22, 3) := by decide +kernel
theorem D_O_completed_62 : decode m_O_completed.2.1 62 = .ok (.iload 4, 2) := by decide +kernel
theorem D_O_completed_64 : decode m_O_completed.2.1 64 = .ok (.invokevirtual 202, 3) := by decide +kernel
theorem D_O_completed_67 : decode m_O_completed.2.1 67 = .ok (.invokevirtual 198, 3) := by decide +kernel
theorem D_O_completed_70 : decode m_O_completed.2.1 70 = .ok (.istore 6, 2) := by decide +kernel
theorem D_O_completed_72 : decode m_O_completed.2.1 72 = .ok (.aload_n 0, 1) := by decide +kernel
theorem D_O_completed_73 : decode m_O_completed.2.1 73 = .ok (.getfield 10, 3) := by decide +kernel
theorem D_O_completed_76 : decode m_O_completed.2.1 76 = .ok (.aload_n 0, 1) := by decide +kernel
theorem D_O_completed_77 : decode m_O_completed.2.1 77 = .ok (.getfield 22, 3) := by decide +kernel
theorem D_O_completed_80 : decode m_O_completed.2.1 80 = .ok (.aload_n 0, 1) := by decide +kernel
theorem D_O_completed_81 : decode m_O_completed.2.1 81 = .ok (.getfield 10, 3) := by decide +kernel
theorem D_O_completed_84 : decode m_O_completed.2.1 84 = .ok (.iload_n 3, 1) := by decide +kernel
theorem D_O_completed_85 : decode m_O_completed.2.1 85 = .ok (.iload 4, 2) := by decide +kernel
theorem D_O_completed_87 : decode m_O_completed.2.1 87 = .ok (.invokevirtual 109, 3) := by decide +kernel
theorem D_O_completed_90 : decode m_O_completed.2.1 90 = .ok (.iload 5, 2) := by decide +kernel
theorem D_O_completed_92 : decode m_O_completed.2.1 92 = .ok (.invokevirtual 205, 3) := by decide +kernel
theorem D_O_completed_95 : decode m_O_completed.2.1 95 = .ok (.istore 7, 2) := by decide +kernel
theorem D_O_completed_97 : decode m_O_completed.2.1 97 = .ok (.aload_n 0, 1) := by decide +kernel
theorem D_O_completed_98 : decode m_O_completed.2.1 98 = .ok (.getfield 10, 3) := by decide +kernel
theorem D_O_completed_101 : decode m_O_completed.2.1 101 = .ok (.iload 7, 2) := by decide +kernel
theorem D_O_completed_103 : decode m_O_completed.2.1 103 = .ok (.iload 6, 2) := by decide +kernel
theorem D_O_completed_105 : decode m_O_completed.2.1 105 = .ok (.invokevirtual 207, 3) := by decide +kernel
theorem D_O_completed_108 : decode m_O_completed.2.1 108 = .ok (.ireturn, 1) := by decide +kernel
theorem D_O_countCompletions_0 : decode m_O_countCompletions.2.1 0 = .ok (.aload_n 0, 1) := by decide +kernel
theorem D_O_countCompletions_1 : decode m_O_countCompletions.2.1 1 = .ok (.getfield 22, 3) := by decide +kernel
theorem D_O_countCompletions_4 : decode m_O_countCompletions.2.1 4 = .ok (.invokevirtual 95, 3) := by decide +kernel
theorem D_O_countCompletions_7 : decode m_O_countCompletions.2.1 7 = .ok (.ifCond .ne 5, 3) := by decide +kernel
theorem D_O_countCompletions_10 : decode m_O_countCompletions.2.1 10 = .ok (.lconst 0, 1) := by decide +kernel
theorem D_O_countCompletions_11 : decode m_O_countCompletions.2.1 11 = .ok (.lreturn, 1) := by decide +kernel
theorem D_O_countCompletions_12 : decode m_O_countCompletions.2.1 12 = .ok (.lconst 1, 1) := by decide +kernel
theorem D_O_countCompletions_13 : decode m_O_countCompletions.2.1 13 = .ok (.lstore_n 1, 1) := by decide +kernel
theorem D_O_countCompletions_14 : decode m_O_countCompletions.2.1 14 = .ok (.iconst 1, 1) := by decide +kernel
theorem D_O_countCompletions_15 : decode m_O_countCompletions.2.1 15 = .ok (.istore_n 3, 1) := by decide +kernel
theorem D_O_countCompletions_16 : decode m_O_countCompletions.2.1 16 = .ok (.iload_n 3, 1) := by decide +kernel
theorem D_O_countCompletions_17 : decode m_O_countCompletions.2.1 17 = .ok (.aload_n 0, 1) := by decide +kernel
theorem D_O_countCompletions_18 : decode m_O_countCompletions.2.1 18 = .ok (.getfield 22, 3) := by decide +kernel
theorem D_O_countCompletions_21 : decode m_O_countCompletions.2.1 21 = .ok (.invokevirtual 140, 3) := by decide +kernel
theorem D_O_countCompletions_24 : decode m_O_countCompletions.2.1 24 = .ok (.if_icmp .ge 22, 3) := by decide +kernel
theorem D_O_countCompletions_27 : decode m_O_countCompletions.2.1 27 = .ok (.lload_n 1, 1) := by decide +kernel
theorem D_O_countCompletions_28 : decode m_O_countCompletions.2.1 28 = .ok (.aload_n 0, 1) := by decide +kernel
theorem D_O_countCompletions_29 : decode m_O_countCompletions.2.1 29 = .ok (.getfield 10, 3) := by decide +kernel
theorem D_O_countCompletions_32 : decode m_O_countCompletions.2.1 32 = .ok (.invokevirtual 119, 3) := by decide +kernel
theorem D_O_countCompletions_35 : decode m_O_countCompletions.2.1 35 = .ok (.iconst 1, 1) := by decide +kernel
theorem D_O_countCompletions_36 : decode m_O_countCompletions.2.1 36 = .ok (.isub, 1) := by decide +kernel
theorem D_O_countCompletions_37 : decode m_O_countCompletions.2.1 37 = .ok (.i2l, 1) := by decide +kernel
theorem D_O_countCompletions_38 : decode m_O_countCompletions.2.1 38 = .ok (.lmul, 1) := by decide +kernel
theorem D_O_countCompletions_39 : decode m_O_countCompletions.2.1 39 = .ok (.lstore_n 1, 1) := by decide +kernel
theorem D_O_countCompletions_40 : decode m_O_countCompletions.2.1 40 = .ok (.iinc 3 1, 3) := by decide +kernel
theorem D_O_countCompletions_43 : decode m_O_countCompletions.2.1 43 = .ok (.goto (-27), 3) := by decide +kernel
theorem D_O_countCompletions_46 : decode m_O_countCompletions.2.1 46 = .ok (.lload_n 1, 1) := by decide +kernel
theorem D_O_countCompletions_47 : decode m_O_countCompletions.2.1 47 = .ok (.lreturn, 1) := by decide +kernel
theorem D_O_factorOf_0 : decode m_O_factorOf.2.1 0 = .ok (.aload_n 0, 1) := by decide +kernel
theorem D_O_factorOf_1 : decode m_O_factorOf.2.1 1 = .ok (.getfield 10, 3) := by decide +kernel
theorem D_O_factorOf_4 : decode m_O_factorOf.2.1 4 = .ok (.invokevirtual 119, 3) := by decide +kernel
theorem D_O_factorOf_7 : decode m_O_factorOf.2.1 7 = .ok (.iconst 1, 1) := by decide +kernel
theorem D_O_factorOf_8 : decode m_O_factorOf.2.1 8 = .ok (.isub, 1) := by decide +kernel
theorem D_O_factorOf_9 : decode m_O_factorOf.2.1 9 = .ok (.istore 4, 2) := by decide +kernel
theorem D_O_factorOf_11 : decode m_O_factorOf.2.1 11 = .ok (.iload_n 3, 1) := by decide +kernel
theorem D_O_factorOf_12 : decode m_O_factorOf.2.1 12 = .ok (.ifCond .le 8, 3) := by decide +kernel
theorem D_O_factorOf_15 : decode m_O_factorOf.2.1 15 = .ok (.iload 4, 2) := by decide +kernel
theorem D_O_factorOf_17 : decode m_O_factorOf.2.1 17 = .ok (.ifCond .gt 5, 3) := by decide +kernel
theorem D_O_factorOf_20 : decode m_O_factorOf.2.1 20 = .ok (.iconst 1, 1) := by decide +kernel
theorem D_O_factorOf_21 : decode m_O_factorOf.2.1 21 = .ok (.ireturn, 1) := by decide +kernel
theorem D_O_factorOf_22 : decode m_O_factorOf.2.1 22 = .ok (.lload_n 1, 1) := by decide +kernel
theorem D_O_factorOf_23 : decode m_O_factorOf.2.1 23 = .ok (.lstore 5, 2) := by decide +kernel
theorem D_O_factorOf_25 : decode m_O_factorOf.2.1 25 = .ok (.iconst 1, 1) := by decide +kernel
theorem D_O_factorOf_26 : decode m_O_factorOf.2.1 26 = .ok (.istore 7, 2) := by decide +kernel
theorem D_O_factorOf_28 : decode m_O_factorOf.2.1 28 = .ok (.iload 7, 2) := by decide +kernel
theorem D_O_factorOf_30 : decode m_O_factorOf.2.1 30 = .ok (.iload_n 3, 1) := by decide +kernel
theorem D_O_factorOf_31 : decode m_O_factorOf.2.1 31 = .ok (.if_icmp .ge 17, 3) := by decide +kernel
theorem D_O_factorOf_34 : decode m_O_factorOf.2.1 34 = .ok (.lload 5, 2) := by decide +kernel
theorem D_O_factorOf_36 : decode m_O_factorOf.2.1 36 = .ok (.iload 4, 2) := by decide +kernel
theorem D_O_factorOf_38 : decode m_O_factorOf.2.1 38 = .ok (.i2l, 1) := by decide +kernel
theorem D_O_factorOf_39 : decode m_O_factorOf.2.1 39 = .ok (.ldiv, 1) := by decide +kernel
theorem D_O_factorOf_40 : decode m_O_factorOf.2.1 40 = .ok (.lstore 5, 2) := by decide +kernel
theorem D_O_factorOf_42 : decode m_O_factorOf.2.1 42 = .ok (.iinc 7 1, 3) := by decide +kernel
theorem D_O_factorOf_45 : decode m_O_factorOf.2.1 45 = .ok (.goto (-17), 3) := by decide +kernel
theorem D_O_factorOf_48 : decode m_O_factorOf.2.1 48 = .ok (.iconst 1, 1) := by decide +kernel
theorem D_O_factorOf_49 : decode m_O_factorOf.2.1 49 = .ok (.lload 5, 2) := by decide +kernel
theorem D_O_factorOf_51 : decode m_O_factorOf.2.1 51 = .ok (.iload 4, 2) := by decide +kernel
theorem D_O_factorOf_53 : decode m_O_factorOf.2.1 53 = .ok (.i2l, 1) := by decide +kernel
theorem D_O_factorOf_54 : decode m_O_factorOf.2.1 54 = .ok (.lrem, 1) := by decide +kernel
theorem D_O_factorOf_55 : decode m_O_factorOf.2.1 55 = .ok (.l2i, 1) := by decide +kernel
theorem D_O_factorOf_56 : decode m_O_factorOf.2.1 56 = .ok (.iadd, 1) := by decide +kernel
theorem D_O_factorOf_57 : decode m_O_factorOf.2.1 57 = .ok (.ireturn, 1) := by decide +kernel
theorem D_O_isWellIf_0 : decode m_O_isWellIf.2.1 0 = .ok (.aload_n 0, 1) := by decide +kernel
theorem D_O_isWellIf_1 : decode m_O_isWellIf.2.1 1 = .ok (.iload_n 1, 1) := by decide +kernel
theorem D_O_isWellIf_2 : decode m_O_isWellIf.2.1 2 = .ok (.iload_n 2, 1) := by decide +kernel
theorem D_O_isWellIf_3 : decode m_O_isWellIf.2.1 3 = .ok (.iload_n 3, 1) := by decide +kernel
theorem D_O_isWellIf_4 : decode m_O_isWellIf.2.1 4 = .ok (.invokevirtual 81, 3) := by decide +kernel
theorem D_O_isWellIf_7 : decode m_O_isWellIf.2.1 7 = .ok (.istore 4, 2) := by decide +kernel
theorem D_O_isWellIf_9 : decode m_O_isWellIf.2.1 9 = .ok (.iload 4, 2) := by decide +kernel
theorem D_O_isWellIf_11 : decode m_O_isWellIf.2.1 11 = .ok (.ifCond .eq 6, 3) := by decide +kernel
theorem D_O_isWellIf_14 : decode m_O_isWellIf.2.1 14 = .ok (.iload 4, 2) := by decide +kernel
theorem D_O_isWellIf_16 : decode m_O_isWellIf.2.1 16 = .ok (.ireturn, 1) := by decide +kernel
theorem D_O_isWellIf_17 : decode m_O_isWellIf.2.1 17 = .ok (.aload_n 0, 1) := by decide +kernel
theorem D_O_isWellIf_18 : decode m_O_isWellIf.2.1 18 = .ok (.getfield 16, 3) := by decide +kernel
theorem D_O_isWellIf_21 : decode m_O_isWellIf.2.1 21 = .ok (.aload_n 0, 1) := by decide +kernel
theorem D_O_isWellIf_22 : decode m_O_isWellIf.2.1 22 = .ok (.getfield 10, 3) := by decide +kernel
theorem D_O_isWellIf_25 : decode m_O_isWellIf.2.1 25 = .ok (.invokevirtual 134, 3) := by decide +kernel
theorem D_O_isWellIf_28 : decode m_O_isWellIf.2.1 28 = .ok (.aload_n 0, 1) := by decide +kernel
theorem D_O_isWellIf_29 : decode m_O_isWellIf.2.1 29 = .ok (.getfield 16, 3) := by decide +kernel
theorem D_O_isWellIf_32 : decode m_O_isWellIf.2.1 32 = .ok (.iload_n 1, 1) := by decide +kernel
theorem D_O_isWellIf_33 : decode m_O_isWellIf.2.1 33 = .ok (.iload_n 2, 1) := by decide +kernel
theorem D_O_isWellIf_34 : decode m_O_isWellIf.2.1 34 = .ok (.iload_n 3, 1) := by decide +kernel
theorem D_O_isWellIf_35 : decode m_O_isWellIf.2.1 35 = .ok (.invokevirtual 89, 3) := by decide +kernel
theorem D_O_isWellIf_38 : decode m_O_isWellIf.2.1 38 = .ok (.aload_n 0, 1) := by decide +kernel
theorem D_O_isWellIf_39 : decode m_O_isWellIf.2.1 39 = .ok (.getfield 22, 3) := by decide +kernel
theorem D_O_isWellIf_42 : decode m_O_isWellIf.2.1 42 = .ok (.aload_n 0, 1) := by decide +kernel
theorem D_O_isWellIf_43 : decode m_O_isWellIf.2.1 43 = .ok (.getfield 16, 3) := by decide +kernel
theorem D_O_isWellIf_46 : decode m_O_isWellIf.2.1 46 = .ok (.invokevirtual 92, 3) := by decide +kernel
theorem D_O_isWellIf_49 : decode m_O_isWellIf.2.1 49 = .ok (.aload_n 0, 1) := by decide +kernel
theorem D_O_isWellIf_50 : decode m_O_isWellIf.2.1 50 = .ok (.getfield 22, 3) := by decide +kernel
theorem D_O_isWellIf_53 : decode m_O_isWellIf.2.1 53 = .ok (.invokevirtual 95, 3) := by decide +kernel
theorem D_O_isWellIf_56 : decode m_O_isWellIf.2.1 56 = .ok (.ifCond .eq 7, 3) := by decide +kernel
theorem D_O_isWellIf_59 : decode m_O_isWellIf.2.1 59 = .ok (.iconst 1, 1) := by decide +kernel
theorem D_O_isWellIf_60 : decode m_O_isWellIf.2.1 60 = .ok (.goto 4, 3) := by decide +kernel
theorem D_O_isWellIf_63 : decode m_O_isWellIf.2.1 63 = .ok (.iconst 0, 1) := by decide +kernel
theorem D_O_isWellIf_64 : decode m_O_isWellIf.2.1 64 = .ok (.ireturn, 1) := by decide +kernel
theorem D_O_spoilers_0 : decode m_O_spoilers.2.1 0 = .ok (.aload_n 0, 1) := by decide +kernel
theorem D_O_spoilers_1 : decode m_O_spoilers.2.1 1 = .ok (.getfield 22, 3) := by decide +kernel
theorem D_O_spoilers_4 : decode m_O_spoilers.2.1 4 = .ok (.aload_n 0, 1) := by decide +kernel
theorem D_O_spoilers_5 : decode m_O_spoilers.2.1 5 = .ok (.getfield 10, 3) := by decide +kernel
theorem D_O_spoilers_8 : decode m_O_spoilers.2.1 8 = .ok (.invokevirtual 92, 3) := by decide +kernel
theorem D_O_spoilers_11 : decode m_O_spoilers.2.1 11 = .ok (.aload_n 0, 1) := by decide +kernel
theorem D_O_spoilers_12 : decode m_O_spoilers.2.1 12 = .ok (.getfield 22, 3) := by decide +kernel
theorem D_O_spoilers_15 : decode m_O_spoilers.2.1 15 = .ok (.invokevirtual 95, 3) := by decide +kernel
theorem D_O_spoilers_18 : decode m_O_spoilers.2.1 18 = .ok (.ifCond .eq 7, 3) := by decide +kernel
theorem D_O_spoilers_21 : decode m_O_spoilers.2.1 21 = .ok (.ldc2_w 210, 3) := by decide +kernel
theorem D_O_spoilers_24 : decode m_O_spoilers.2.1 24 = .ok (.lreturn, 1) := by decide +kernel
theorem D_O_spoilers_25 : decode m_O_spoilers.2.1 25 = .ok (.lconst 0, 1) := by decide +kernel
theorem D_O_spoilers_26 : decode m_O_spoilers.2.1 26 = .ok (.lstore_n 1, 1) := by decide +kernel
theorem D_O_spoilers_27 : decode m_O_spoilers.2.1 27 = .ok (.iconst 0, 1) := by decide +kernel
theorem D_O_spoilers_28 : decode m_O_spoilers.2.1 28 = .ok (.istore_n 3, 1) := by decide +kernel
theorem D_O_spoilers_29 : decode m_O_spoilers.2.1 29 = .ok (.iload_n 3, 1) := by decide +kernel
theorem D_O_spoilers_30 : decode m_O_spoilers.2.1 30 = .ok (.aload_n 0, 1) := by decide +kernel
theorem D_O_spoilers_31 : decode m_O_spoilers.2.1 31 = .ok (.getfield 10, 3) := by decide +kernel
theorem D_O_spoilers_34 : decode m_O_spoilers.2.1 34 = .ok (.invokevirtual 99, 3) := by decide +kernel
theorem D_O_spoilers_37 : decode m_O_spoilers.2.1 37 = .ok (.if_icmp .ge 67, 3) := by decide +kernel
theorem D_O_spoilers_40 : decode m_O_spoilers.2.1 40 = .ok (.iconst 0, 1) := by decide +kernel
theorem D_O_spoilers_41 : decode m_O_spoilers.2.1 41 = .ok (.istore 4, 2) := by decide +kernel
theorem D_O_spoilers_43 : decode m_O_spoilers.2.1 43 = .ok (.iload 4, 2) := by decide +kernel
theorem D_O_spoilers_45 : decode m_O_spoilers.2.1 45 = .ok (.aload_n 0, 1) := by decide +kernel
theorem D_O_spoilers_46 : decode m_O_spoilers.2.1 46 = .ok (.getfield 10, 3) := by decide +kernel
theorem D_O_spoilers_49 : decode m_O_spoilers.2.1 49 = .ok (.invokevirtual 102, 3) := by decide +kernel
theorem D_O_spoilers_52 : decode m_O_spoilers.2.1 52 = .ok (.if_icmp .ge 46, 3) := by decide +kernel
theorem D_O_spoilers_55 : decode m_O_spoilers.2.1 55 = .ok (.aload_n 0, 1) := by decide +kernel
theorem D_O_spoilers_56 : decode m_O_spoilers.2.1 56 = .ok (.getfield 10, 3) := by decide +kernel
theorem D_O_spoilers_59 : decode m_O_spoilers.2.1 59 = .ok (.iload_n 3, 1) := by decide +kernel
theorem D_O_spoilers_60 : decode m_O_spoilers.2.1 60 = .ok (.iload 4, 2) := by decide +kernel
theorem D_O_spoilers_62 : decode m_O_spoilers.2.1 62 = .ok (.invokevirtual 85, 3) := by decide +kernel
theorem D_O_spoilers_65 : decode m_O_spoilers.2.1 65 = .ok (.ifCond .eq 27, 3) := by decide +kernel
theorem D_O_spoilers_68 : decode m_O_spoilers.2.1 68 = .ok (.aload_n 0, 1) := by decide +kernel
theorem D_O_spoilers_69 : decode m_O_spoilers.2.1 69 = .ok (.iload_n 3, 1) := by decide +kernel
theorem D_O_spoilers_70 : decode m_O_spoilers.2.1 70 = .ok (.iload 4, 2) := by decide +kernel
theorem D_O_spoilers_72 : decode m_O_spoilers.2.1 72 = .ok (.iconst 0, 1) := by decide +kernel
theorem D_O_spoilers_73 : decode m_O_spoilers.2.1 73 = .ok (.invokevirtual 212, 3) := by decide +kernel
theorem D_O_spoilers_76 : decode m_O_spoilers.2.1 76 = .ok (.iconst 1, 1) := by decide +kernel
theorem D_O_spoilers_77 : decode m_O_spoilers.2.1 77 = .ok (.if_icmp .ne 15, 3) := by decide +kernel
theorem D_O_spoilers_80 : decode m_O_spoilers.2.1 80 = .ok (.lload_n 1, 1) := by decide +kernel
theorem D_O_spoilers_81 : decode m_O_spoilers.2.1 81 = .ok (.lconst 1, 1) := by decide +kernel
theorem D_O_spoilers_82 : decode m_O_spoilers.2.1 82 = .ok (.bipush 6, 2) := by decide +kernel
theorem D_O_spoilers_84 : decode m_O_spoilers.2.1 84 = .ok (.iload_n 3, 1) := by decide +kernel
theorem D_O_spoilers_85 : decode m_O_spoilers.2.1 85 = .ok (.imul, 1) := by decide +kernel
theorem D_O_spoilers_86 : decode m_O_spoilers.2.1 86 = .ok (.iload 4, 2) := by decide +kernel
theorem D_O_spoilers_88 : decode m_O_spoilers.2.1 88 = .ok (.iadd, 1) := by decide +kernel
theorem D_O_spoilers_89 : decode m_O_spoilers.2.1 89 = .ok (.lshl, 1) := by decide +kernel
theorem D_O_spoilers_90 : decode m_O_spoilers.2.1 90 = .ok (.lor, 1) := by decide +kernel
theorem D_O_spoilers_91 : decode m_O_spoilers.2.1 91 = .ok (.lstore_n 1, 1) := by decide +kernel
theorem D_O_spoilers_92 : decode m_O_spoilers.2.1 92 = .ok (.iinc 4 1, 3) := by decide +kernel
theorem D_O_spoilers_95 : decode m_O_spoilers.2.1 95 = .ok (.goto (-52), 3) := by decide +kernel
theorem D_O_spoilers_98 : decode m_O_spoilers.2.1 98 = .ok (.iinc 3 1, 3) := by decide +kernel
theorem D_O_spoilers_101 : decode m_O_spoilers.2.1 101 = .ok (.goto (-72), 3) := by decide +kernel
theorem D_O_spoilers_104 : decode m_O_spoilers.2.1 104 = .ok (.lload_n 1, 1) := by decide +kernel
theorem D_O_spoilers_105 : decode m_O_spoilers.2.1 105 = .ok (.lreturn, 1) := by decide +kernel
theorem D_O_bestEntry_0 : decode m_O_bestEntry.2.1 0 = .ok (.iload_n 1, 1) := by decide +kernel
theorem D_O_bestEntry_1 : decode m_O_bestEntry.2.1 1 = .ok (.iconst 0, 1) := by decide +kernel
theorem D_O_bestEntry_2 : decode m_O_bestEntry.2.1 2 = .ok (.iconst 2, 1) := by decide +kernel
theorem D_O_bestEntry_3 : decode m_O_bestEntry.2.1 3 = .ok (.invokestatic 61, 3) := by decide +kernel
theorem D_O_bestEntry_6 : decode m_O_bestEntry.2.1 6 = .ok (.ifCond .eq 6, 3) := by decide +kernel
theorem D_O_bestEntry_9 : decode m_O_bestEntry.2.1 9 = .ok (.bipush (-2), 2) := by decide +kernel
theorem D_O_bestEntry_11 : decode m_O_bestEntry.2.1 11 = .ok (.ireturn, 1) := by decide +kernel
theorem D_O_bestEntry_12 : decode m_O_bestEntry.2.1 12 = .ok (.aload_n 0, 1) := by decide +kernel
theorem D_O_bestEntry_13 : decode m_O_bestEntry.2.1 13 = .ok (.getfield 22, 3) := by decide +kernel
theorem D_O_bestEntry_16 : decode m_O_bestEntry.2.1 16 = .ok (.aload_n 0, 1) := by decide +kernel
theorem D_O_bestEntry_17 : decode m_O_bestEntry.2.1 17 = .ok (.getfield 10, 3) := by decide +kernel
theorem D_O_bestEntry_20 : decode m_O_bestEntry.2.1 20 = .ok (.invokevirtual 92, 3) := by decide +kernel
theorem D_O_bestEntry_23 : decode m_O_bestEntry.2.1 23 = .ok (.iconst 0, 1) := by decide +kernel
theorem D_O_bestEntry_24 : decode m_O_bestEntry.2.1 24 = .ok (.istore_n 2, 1) := by decide +kernel
theorem D_O_bestEntry_25 : decode m_O_bestEntry.2.1 25 = .ok (.iconst 0, 1) := by decide +kernel
theorem D_O_bestEntry_26 : decode m_O_bestEntry.2.1 26 = .ok (.istore_n 3, 1) := by decide +kernel
theorem D_O_bestEntry_27 : decode m_O_bestEntry.2.1 27 = .ok (.iconst 0, 1) := by decide +kernel
theorem D_O_bestEntry_28 : decode m_O_bestEntry.2.1 28 = .ok (.istore 4, 2) := by decide +kernel
theorem D_O_bestEntry_30 : decode m_O_bestEntry.2.1 30 = .ok (.iconst 0, 1) := by decide +kernel
theorem D_O_bestEntry_31 : decode m_O_bestEntry.2.1 31 = .ok (.istore 5, 2) := by decide +kernel
theorem D_O_bestEntry_33 : decode m_O_bestEntry.2.1 33 = .ok (.iload 5, 2) := by decide +kernel
theorem D_O_bestEntry_35 : decode m_O_bestEntry.2.1 35 = .ok (.aload_n 0, 1) := by decide +kernel
theorem D_O_bestEntry_36 : decode m_O_bestEntry.2.1 36 = .ok (.getfield 10, 3) := by decide +kernel
theorem D_O_bestEntry_39 : decode m_O_bestEntry.2.1 39 = .ok (.invokevirtual 99, 3) := by decide +kernel
theorem D_O_bestEntry_42 : decode m_O_bestEntry.2.1 42 = .ok (.if_icmp .ge 60, 3) := by decide +kernel
theorem D_O_bestEntry_45 : decode m_O_bestEntry.2.1 45 = .ok (.iconst 0, 1) := by decide +kernel
theorem D_O_bestEntry_46 : decode m_O_bestEntry.2.1 46 = .ok (.istore 6, 2) := by decide +kernel
theorem D_O_bestEntry_48 : decode m_O_bestEntry.2.1 48 = .ok (.iload 6, 2) := by decide +kernel
theorem D_O_bestEntry_50 : decode m_O_bestEntry.2.1 50 = .ok (.aload_n 0, 1) := by decide +kernel
theorem D_O_bestEntry_51 : decode m_O_bestEntry.2.1 51 = .ok (.getfield 10, 3) := by decide +kernel
theorem D_O_bestEntry_54 : decode m_O_bestEntry.2.1 54 = .ok (.invokevirtual 102, 3) := by decide +kernel
theorem D_O_bestEntry_57 : decode m_O_bestEntry.2.1 57 = .ok (.if_icmp .ge 39, 3) := by decide +kernel
theorem D_O_bestEntry_60 : decode m_O_bestEntry.2.1 60 = .ok (.aload_n 0, 1) := by decide +kernel
theorem D_O_bestEntry_61 : decode m_O_bestEntry.2.1 61 = .ok (.getfield 22, 3) := by decide +kernel
theorem D_O_bestEntry_64 : decode m_O_bestEntry.2.1 64 = .ok (.iload 5, 2) := by decide +kernel
theorem D_O_bestEntry_66 : decode m_O_bestEntry.2.1 66 = .ok (.iload 6, 2) := by decide +kernel
theorem D_O_bestEntry_68 : decode m_O_bestEntry.2.1 68 = .ok (.invokevirtual 215, 3) := by decide +kernel
theorem D_O_bestEntry_71 : decode m_O_bestEntry.2.1 71 = .ok (.istore 7, 2) := by decide +kernel
theorem D_O_bestEntry_73 : decode m_O_bestEntry.2.1 73 = .ok (.iload 7, 2) := by decide +kernel
theorem D_O_bestEntry_75 : decode m_O_bestEntry.2.1 75 = .ok (.iload 4, 2) := by decide +kernel
theorem D_O_bestEntry_77 : decode m_O_bestEntry.2.1 77 = .ok (.if_icmp .le 13, 3) := by decide +kernel
theorem D_O_bestEntry_80 : decode m_O_bestEntry.2.1 80 = .ok (.iload 5, 2) := by decide +kernel
theorem D_O_bestEntry_82 : decode m_O_bestEntry.2.1 82 = .ok (.istore_n 2, 1) := by decide +kernel
theorem D_O_bestEntry_83 : decode m_O_bestEntry.2.1 83 = .ok (.iload 6, 2) := by decide +kernel
theorem D_O_bestEntry_85 : decode m_O_bestEntry.2.1 85 = .ok (.istore_n 3, 1) := by decide +kernel
theorem D_O_bestEntry_86 : decode m_O_bestEntry.2.1 86 = .ok (.iload 7, 2) := by decide +kernel
theorem D_O_bestEntry_88 : decode m_O_bestEntry.2.1 88 = .ok (.istore 4, 2) := by decide +kernel
theorem D_O_bestEntry_90 : decode m_O_bestEntry.2.1 90 = .ok (.iinc 6 1, 3) := by decide +kernel
theorem D_O_bestEntry_93 : decode m_O_bestEntry.2.1 93 = .ok (.goto (-45), 3) := by decide +kernel
theorem D_O_bestEntry_96 : decode m_O_bestEntry.2.1 96 = .ok (.iinc 5 1, 3) := by decide +kernel
theorem D_O_bestEntry_99 : decode m_O_bestEntry.2.1 99 = .ok (.goto (-66), 3) := by decide +kernel
theorem D_O_bestEntry_102 : decode m_O_bestEntry.2.1 102 = .ok (.iload 4, 2) := by decide +kernel
theorem D_O_bestEntry_104 : decode m_O_bestEntry.2.1 104 = .ok (.ifCond .ne 6, 3) := by decide +kernel
theorem D_O_bestEntry_107 : decode m_O_bestEntry.2.1 107 = .ok (.bipush (-6), 2) := by decide +kernel
theorem D_O_bestEntry_109 : decode m_O_bestEntry.2.1 109 = .ok (.ireturn, 1) := by decide +kernel
theorem D_O_bestEntry_110 : decode m_O_bestEntry.2.1 110 = .ok (.iload_n 1, 1) := by decide +kernel
theorem D_O_bestEntry_111 : decode m_O_bestEntry.2.1 111 = .ok (.ifCond .ne 5, 3) := by decide +kernel
theorem D_O_bestEntry_114 : decode m_O_bestEntry.2.1 114 = .ok (.iload_n 2, 1) := by decide +kernel
theorem D_O_bestEntry_115 : decode m_O_bestEntry.2.1 115 = .ok (.ireturn, 1) := by decide +kernel
theorem D_O_bestEntry_116 : decode m_O_bestEntry.2.1 116 = .ok (.iload_n 1, 1) := by decide +kernel
theorem D_O_bestEntry_117 : decode m_O_bestEntry.2.1 117 = .ok (.iconst 1, 1) := by decide +kernel
theorem D_O_bestEntry_118 : decode m_O_bestEntry.2.1 118 = .ok (.if_icmp .ne 7, 3) := by decide +kernel
theorem D_O_bestEntry_121 : decode m_O_bestEntry.2.1 121 = .ok (.iload_n 3, 1) := by decide +kernel
theorem D_O_bestEntry_122 : decode m_O_bestEntry.2.1 122 = .ok (.goto 5, 3) := by decide +kernel
theorem D_O_bestEntry_125 : decode m_O_bestEntry.2.1 125 = .ok (.iload 4, 2) := by decide +kernel
theorem D_O_bestEntry_127 : decode m_O_bestEntry.2.1 127 = .ok (.ireturn, 1) := by decide +kernel
theorem D_O_put_0 : decode m_O_put.2.1 0 = .ok (.lload_n 1, 1) := by decide +kernel
theorem D_O_put_1 : decode m_O_put.2.1 1 = .ok (.invokestatic 218, 3) := by decide +kernel
theorem D_O_put_4 : decode m_O_put.2.1 4 = .ok (.istore_n 3, 1) := by decide +kernel
theorem D_O_put_5 : decode m_O_put.2.1 5 = .ok (.iload_n 3, 1) := by decide +kernel
theorem D_O_put_6 : decode m_O_put.2.1 6 = .ok (.ifCond .ne 6, 3) := by decide +kernel
theorem D_O_put_9 : decode m_O_put.2.1 9 = .ok (.bipush (-2), 2) := by decide +kernel
theorem D_O_put_11 : decode m_O_put.2.1 11 = .ok (.ireturn, 1) := by decide +kernel
theorem D_O_put_12 : decode m_O_put.2.1 12 = .ok (.aload_n 0, 1) := by decide +kernel
theorem D_O_put_13 : decode m_O_put.2.1 13 = .ok (.getfield 43, 3) := by decide +kernel
theorem D_O_put_16 : decode m_O_put.2.1 16 = .ok (.invokevirtual 165, 3) := by decide +kernel
theorem D_O_put_19 : decode m_O_put.2.1 19 = .ok (.iload_n 3, 1) := by decide +kernel
theorem D_O_put_20 : decode m_O_put.2.1 20 = .ok (.iadd, 1) := by decide +kernel
theorem D_O_put_21 : decode m_O_put.2.1 21 = .ok (.bipush 50, 2) := by decide +kernel
theorem D_O_put_23 : decode m_O_put.2.1 23 = .ok (.if_icmp .le 6, 3) := by decide +kernel
theorem D_O_put_26 : decode m_O_put.2.1 26 = .ok (.bipush (-4), 2) := by decide +kernel
theorem D_O_put_28 : decode m_O_put.2.1 28 = .ok (.ireturn, 1) := by decide +kernel
theorem D_O_put_29 : decode m_O_put.2.1 29 = .ok (.iload_n 3, 1) := by decide +kernel
theorem D_O_put_30 : decode m_O_put.2.1 30 = .ok (.iconst 1, 1) := by decide +kernel
theorem D_O_put_31 : decode m_O_put.2.1 31 = .ok (.isub, 1) := by decide +kernel
theorem D_O_put_32 : decode m_O_put.2.1 32 = .ok (.istore 4, 2) := by decide +kernel
theorem D_O_put_34 : decode m_O_put.2.1 34 = .ok (.iload 4, 2) := by decide +kernel
theorem D_O_put_36 : decode m_O_put.2.1 36 = .ok (.ifCond .lt 28, 3) := by decide +kernel
theorem D_O_put_39 : decode m_O_put.2.1 39 = .ok (.aload_n 0, 1) := by decide +kernel
theorem D_O_put_40 : decode m_O_put.2.1 40 = .ok (.getfield 43, 3) := by decide +kernel
theorem D_O_put_43 : decode m_O_put.2.1 43 = .ok (.lload_n 1, 1) := by decide +kernel
theorem D_O_put_44 : decode m_O_put.2.1 44 = .ok (.bipush 8, 2) := by decide +kernel
theorem D_O_put_46 : decode m_O_put.2.1 46 = .ok (.iload 4, 2) := by decide +kernel
theorem D_O_put_48 : decode m_O_put.2.1 48 = .ok (.imul, 1) := by decide +kernel
theorem D_O_put_49 : decode m_O_put.2.1 49 = .ok (.lushr, 1) := by decide +kernel
theorem D_O_put_50 : decode m_O_put.2.1 50 = .ok (.l2i, 1) := by decide +kernel
theorem D_O_put_51 : decode m_O_put.2.1 51 = .ok (.sipush 255, 3) := by decide +kernel
theorem D_O_put_54 : decode m_O_put.2.1 54 = .ok (.iand, 1) := by decide +kernel
theorem D_O_put_55 : decode m_O_put.2.1 55 = .ok (.invokevirtual 222, 3) := by decide +kernel
theorem D_O_put_58 : decode m_O_put.2.1 58 = .ok (.iinc 4 (-1), 3) := by decide +kernel
theorem D_O_put_61 : decode m_O_put.2.1 61 = .ok (.goto (-27), 3) := by decide +kernel
theorem D_O_put_64 : decode m_O_put.2.1 64 = .ok (.aload_n 0, 1) := by decide +kernel
theorem D_O_put_65 : decode m_O_put.2.1 65 = .ok (.getfield 43, 3) := by decide +kernel
theorem D_O_put_68 : decode m_O_put.2.1 68 = .ok (.invokevirtual 165, 3) := by decide +kernel
theorem D_O_put_71 : decode m_O_put.2.1 71 = .ok (.ireturn, 1) := by decide +kernel
theorem D_O_wipe_0 : decode m_O_wipe.2.1 0 = .ok (.aload_n 0, 1) := by decide +kernel
theorem D_O_wipe_1 : decode m_O_wipe.2.1 1 = .ok (.getfield 43, 3) := by decide +kernel
theorem D_O_wipe_4 : decode m_O_wipe.2.1 4 = .ok (.invokevirtual 165, 3) := by decide +kernel
theorem D_O_wipe_7 : decode m_O_wipe.2.1 7 = .ok (.istore_n 1, 1) := by decide +kernel
theorem D_O_wipe_8 : decode m_O_wipe.2.1 8 = .ok (.aload_n 0, 1) := by decide +kernel
theorem D_O_wipe_9 : decode m_O_wipe.2.1 9 = .ok (.getfield 43, 3) := by decide +kernel
theorem D_O_wipe_12 : decode m_O_wipe.2.1 12 = .ok (.invokevirtual 125, 3) := by decide +kernel
theorem D_O_wipe_15 : decode m_O_wipe.2.1 15 = .ok (.iload_n 1, 1) := by decide +kernel
theorem D_O_wipe_16 : decode m_O_wipe.2.1 16 = .ok (.ireturn, 1) := by decide +kernel
theorem D_O_fault_0 : decode m_O_fault.2.1 0 = .ok (.aload_n 0, 1) := by decide +kernel
theorem D_O_fault_1 : decode m_O_fault.2.1 1 = .ok (.getfield 43, 3) := by decide +kernel
theorem D_O_fault_4 : decode m_O_fault.2.1 4 = .ok (.invokevirtual 113, 3) := by decide +kernel
theorem D_O_fault_7 : decode m_O_fault.2.1 7 = .ok (.ireturn, 1) := by decide +kernel
theorem D_O_sizeOf_0 : decode m_O_sizeOf.2.1 0 = .ok (.lload_n 0, 1) := by decide +kernel
theorem D_O_sizeOf_1 : decode m_O_sizeOf.2.1 1 = .ok (.lstore_n 2, 1) := by decide +kernel
theorem D_O_sizeOf_2 : decode m_O_sizeOf.2.1 2 = .ok (.iconst 0, 1) := by decide +kernel
theorem D_O_sizeOf_3 : decode m_O_sizeOf.2.1 3 = .ok (.istore 4, 2) := by decide +kernel
theorem D_O_sizeOf_5 : decode m_O_sizeOf.2.1 5 = .ok (.iconst 0, 1) := by decide +kernel
theorem D_O_sizeOf_6 : decode m_O_sizeOf.2.1 6 = .ok (.istore 5, 2) := by decide +kernel
theorem D_O_sizeOf_8 : decode m_O_sizeOf.2.1 8 = .ok (.iload 5, 2) := by decide +kernel
theorem D_O_sizeOf_10 : decode m_O_sizeOf.2.1 10 = .ok (.bipush 8, 2) := by decide +kernel
theorem D_O_sizeOf_12 : decode m_O_sizeOf.2.1 12 = .ok (.if_icmp .ge 41, 3) := by decide +kernel
theorem D_O_sizeOf_15 : decode m_O_sizeOf.2.1 15 = .ok (.lload_n 2, 1) := by decide +kernel
theorem D_O_sizeOf_16 : decode m_O_sizeOf.2.1 16 = .ok (.lconst 0, 1) := by decide +kernel
theorem D_O_sizeOf_17 : decode m_O_sizeOf.2.1 17 = .ok (.lcmp, 1) := by decide +kernel
theorem D_O_sizeOf_18 : decode m_O_sizeOf.2.1 18 = .ok (.ifCond .eq 35, 3) := by decide +kernel
theorem D_O_sizeOf_21 : decode m_O_sizeOf.2.1 21 = .ok (.lload_n 2, 1) := by decide +kernel
theorem D_O_sizeOf_22 : decode m_O_sizeOf.2.1 22 = .ok (.ldc2_w 226, 3) := by decide +kernel
theorem D_O_sizeOf_25 : decode m_O_sizeOf.2.1 25 = .ok (.land, 1) := by decide +kernel
theorem D_O_sizeOf_26 : decode m_O_sizeOf.2.1 26 = .ok (.l2i, 1) := by decide +kernel
theorem D_O_sizeOf_27 : decode m_O_sizeOf.2.1 27 = .ok (.bipush 33, 2) := by decide +kernel
theorem D_O_sizeOf_29 : decode m_O_sizeOf.2.1 29 = .ok (.bipush 126, 2) := by decide +kernel
theorem D_O_sizeOf_31 : decode m_O_sizeOf.2.1 31 = .ok (.invokestatic 61, 3) := by decide +kernel
theorem D_O_sizeOf_34 : decode m_O_sizeOf.2.1 34 = .ok (.ifCond .eq 5, 3) := by decide +kernel
theorem D_O_sizeOf_37 : decode m_O_sizeOf.2.1 37 = .ok (.iconst 0, 1) := by decide +kernel
theorem D_O_sizeOf_38 : decode m_O_sizeOf.2.1 38 = .ok (.ireturn, 1) := by decide +kernel
theorem D_O_sizeOf_39 : decode m_O_sizeOf.2.1 39 = .ok (.iinc 4 1, 3) := by decide +kernel
theorem D_O_sizeOf_42 : decode m_O_sizeOf.2.1 42 = .ok (.lload_n 2, 1) := by decide +kernel
theorem D_O_sizeOf_43 : decode m_O_sizeOf.2.1 43 = .ok (.bipush 8, 2) := by decide +kernel
theorem D_O_sizeOf_45 : decode m_O_sizeOf.2.1 45 = .ok (.lushr, 1) := by decide +kernel
theorem D_O_sizeOf_46 : decode m_O_sizeOf.2.1 46 = .ok (.lstore_n 2, 1) := by decide +kernel
theorem D_O_sizeOf_47 : decode m_O_sizeOf.2.1 47 = .ok (.iinc 5 1, 3) := by decide +kernel
theorem D_O_sizeOf_50 : decode m_O_sizeOf.2.1 50 = .ok (.goto (-42), 3) := by decide +kernel
theorem D_O_sizeOf_53 : decode m_O_sizeOf.2.1 53 = .ok (.iload 4, 2) := by decide +kernel
theorem D_O_sizeOf_55 : decode m_O_sizeOf.2.1 55 = .ok (.ireturn, 1) := by decide +kernel
theorem D_O_undo_0 : decode m_O_undo.2.1 0 = .ok (.aload_n 0, 1) := by decide +kernel
theorem D_O_undo_1 : decode m_O_undo.2.1 1 = .ok (.getfield 50, 3) := by decide +kernel
theorem D_O_undo_4 : decode m_O_undo.2.1 4 = .ok (.invokevirtual 228, 3) := by decide +kernel
theorem D_O_undo_7 : decode m_O_undo.2.1 7 = .ok (.astore_n 1, 1) := by decide +kernel
theorem D_O_undo_8 : decode m_O_undo.2.1 8 = .ok (.aload_n 1, 1) := by decide +kernel
theorem D_O_undo_9 : decode m_O_undo.2.1 9 = .ok (.ifnonnull 6, 3) := by decide +kernel
theorem D_O_undo_12 : decode m_O_undo.2.1 12 = .ok (.bipush (-5), 2) := by decide +kernel
theorem D_O_undo_14 : decode m_O_undo.2.1 14 = .ok (.ireturn, 1) := by decide +kernel
theorem D_O_undo_15 : decode m_O_undo.2.1 15 = .ok (.aload_n 0, 1) := by decide +kernel
theorem D_O_undo_16 : decode m_O_undo.2.1 16 = .ok (.getfield 10, 3) := by decide +kernel
theorem D_O_undo_19 : decode m_O_undo.2.1 19 = .ok (.aload_n 1, 1) := by decide +kernel
theorem D_O_undo_20 : decode m_O_undo.2.1 20 = .ok (.invokevirtual 134, 3) := by decide +kernel
theorem D_O_undo_23 : decode m_O_undo.2.1 23 = .ok (.aload_n 0, 1) := by decide +kernel
theorem D_O_undo_24 : decode m_O_undo.2.1 24 = .ok (.getfield 50, 3) := by decide +kernel
theorem D_O_undo_27 : decode m_O_undo.2.1 27 = .ok (.invokevirtual 168, 3) := by decide +kernel
theorem D_O_undo_30 : decode m_O_undo.2.1 30 = .ok (.ireturn, 1) := by decide +kernel
theorem D_O_save_0 : decode m_O_save.2.1 0 = .ok (.aload_n 0, 1) := by decide +kernel
theorem D_O_save_1 : decode m_O_save.2.1 1 = .ok (.iload_n 1, 1) := by decide +kernel
theorem D_O_save_2 : decode m_O_save.2.1 2 = .ok (.invokevirtual 232, 3) := by decide +kernel
theorem D_O_save_5 : decode m_O_save.2.1 5 = .ok (.astore_n 2, 1) := by decide +kernel
theorem D_O_save_6 : decode m_O_save.2.1 6 = .ok (.aload_n 2, 1) := by decide +kernel
theorem D_O_save_7 : decode m_O_save.2.1 7 = .ok (.ifnonnull 6, 3) := by decide +kernel
theorem D_O_save_10 : decode m_O_save.2.1 10 = .ok (.bipush (-2), 2) := by decide +kernel
theorem D_O_save_12 : decode m_O_save.2.1 12 = .ok (.ireturn, 1) := by decide +kernel
theorem D_O_save_13 : decode m_O_save.2.1 13 = .ok (.aload_n 2, 1) := by decide +kernel
theorem D_O_save_14 : decode m_O_save.2.1 14 = .ok (.aload_n 0, 1) := by decide +kernel
theorem D_O_save_15 : decode m_O_save.2.1 15 = .ok (.getfield 10, 3) := by decide +kernel
theorem D_O_save_18 : decode m_O_save.2.1 18 = .ok (.invokevirtual 236, 3) := by decide +kernel
theorem D_O_save_21 : decode m_O_save.2.1 21 = .ok (.aload_n 0, 1) := by decide +kernel
theorem D_O_save_22 : decode m_O_save.2.1 22 = .ok (.getfield 10, 3) := by decide +kernel
theorem D_O_save_25 : decode m_O_save.2.1 25 = .ok (.invokevirtual 69, 3) := by decide +kernel
theorem D_O_save_28 : decode m_O_save.2.1 28 = .ok (.ireturn, 1) := by decide +kernel
theorem D_O_restore_0 : decode m_O_restore.2.1 0 = .ok (.aload_n 0, 1) := by decide +kernel
theorem D_O_restore_1 : decode m_O_restore.2.1 1 = .ok (.iload_n 1, 1) := by decide +kernel
theorem D_O_restore_2 : decode m_O_restore.2.1 2 = .ok (.invokevirtual 232, 3) := by decide +kernel
theorem D_O_restore_5 : decode m_O_restore.2.1 5 = .ok (.astore_n 2, 1) := by decide +kernel
theorem D_O_restore_6 : decode m_O_restore.2.1 6 = .ok (.aload_n 2, 1) := by decide +kernel
theorem D_O_restore_7 : decode m_O_restore.2.1 7 = .ok (.ifnonnull 6, 3) := by decide +kernel
theorem D_O_restore_10 : decode m_O_restore.2.1 10 = .ok (.bipush (-2), 2) := by decide +kernel
theorem D_O_restore_12 : decode m_O_restore.2.1 12 = .ok (.ireturn, 1) := by decide +kernel
theorem D_O_restore_13 : decode m_O_restore.2.1 13 = .ok (.aload_n 2, 1) := by decide +kernel
theorem D_O_restore_14 : decode m_O_restore.2.1 14 = .ok (.invokevirtual 239, 3) := by decide +kernel
theorem D_O_restore_17 : decode m_O_restore.2.1 17 = .ok (.ifCond .ne 6, 3) := by decide +kernel
theorem D_O_restore_20 : decode m_O_restore.2.1 20 = .ok (.bipush (-5), 2) := by decide +kernel
theorem D_O_restore_22 : decode m_O_restore.2.1 22 = .ok (.ireturn, 1) := by decide +kernel
theorem D_O_restore_23 : decode m_O_restore.2.1 23 = .ok (.aload_n 0, 1) := by decide +kernel
theorem D_O_restore_24 : decode m_O_restore.2.1 24 = .ok (.getfield 50, 3) := by decide +kernel
theorem D_O_restore_27 : decode m_O_restore.2.1 27 = .ok (.aload_n 0, 1) := by decide +kernel
theorem D_O_restore_28 : decode m_O_restore.2.1 28 = .ok (.getfield 10, 3) := by decide +kernel
theorem D_O_restore_31 : decode m_O_restore.2.1 31 = .ok (.invokevirtual 73, 3) := by decide +kernel
theorem D_O_restore_34 : decode m_O_restore.2.1 34 = .ok (.aload_n 2, 1) := by decide +kernel
theorem D_O_restore_35 : decode m_O_restore.2.1 35 = .ok (.aload_n 0, 1) := by decide +kernel
theorem D_O_restore_36 : decode m_O_restore.2.1 36 = .ok (.getfield 10, 3) := by decide +kernel
theorem D_O_restore_39 : decode m_O_restore.2.1 39 = .ok (.invokevirtual 242, 3) := by decide +kernel
theorem D_O_restore_42 : decode m_O_restore.2.1 42 = .ok (.aload_n 0, 1) := by decide +kernel
theorem D_O_restore_43 : decode m_O_restore.2.1 43 = .ok (.getfield 10, 3) := by decide +kernel
theorem D_O_restore_46 : decode m_O_restore.2.1 46 = .ok (.invokevirtual 69, 3) := by decide +kernel
theorem D_O_restore_49 : decode m_O_restore.2.1 49 = .ok (.ireturn, 1) := by decide +kernel
theorem D_O_slotAt_0 : decode m_O_slotAt.2.1 0 = .ok (.iload_n 1, 1) := by decide +kernel
theorem D_O_slotAt_1 : decode m_O_slotAt.2.1 1 = .ok (.ifCond .lt 21, 3) := by decide +kernel
theorem D_O_slotAt_4 : decode m_O_slotAt.2.1 4 = .ok (.iload_n 1, 1) := by decide +kernel
theorem D_O_slotAt_5 : decode m_O_slotAt.2.1 5 = .ok (.aload_n 0, 1) := by decide +kernel
theorem D_O_slotAt_6 : decode m_O_slotAt.2.1 6 = .ok (.getfield 56, 3) := by decide +kernel
theorem D_O_slotAt_9 : decode m_O_slotAt.2.1 9 = .ok (.arraylength, 1) := by decide +kernel
theorem D_O_slotAt_10 : decode m_O_slotAt.2.1 10 = .ok (.if_icmp .ge 12, 3) := by decide +kernel
theorem D_O_slotAt_13 : decode m_O_slotAt.2.1 13 = .ok (.aload_n 0, 1) := by decide +kernel
theorem D_O_slotAt_14 : decode m_O_slotAt.2.1 14 = .ok (.getfield 56, 3) := by decide +kernel
theorem D_O_slotAt_17 : decode m_O_slotAt.2.1 17 = .ok (.iload_n 1, 1) := by decide +kernel
theorem D_O_slotAt_18 : decode m_O_slotAt.2.1 18 = .ok (.aaload, 1) := by decide +kernel
theorem D_O_slotAt_19 : decode m_O_slotAt.2.1 19 = .ok (.goto 4, 3) := by decide +kernel
theorem D_O_slotAt_22 : decode m_O_slotAt.2.1 22 = .ok (.aconst_null, 1) := by decide +kernel
theorem D_O_slotAt_23 : decode m_O_slotAt.2.1 23 = .ok (.areturn, 1) := by decide +kernel
theorem D_O_errorOfTelling_0 : decode m_O_errorOfTelling.2.1 0 = .ok (.aload_n 0, 1) := by decide +kernel
theorem D_O_errorOfTelling_1 : decode m_O_errorOfTelling.2.1 1 = .ok (.getfield 10, 3) := by decide +kernel
theorem D_O_errorOfTelling_4 : decode m_O_errorOfTelling.2.1 4 = .ok (.iload_n 1, 1) := by decide +kernel
theorem D_O_errorOfTelling_5 : decode m_O_errorOfTelling.2.1 5 = .ok (.iload_n 2, 1) := by decide +kernel
theorem D_O_errorOfTelling_6 : decode m_O_errorOfTelling.2.1 6 = .ok (.invokevirtual 128, 3) := by decide +kernel
theorem D_O_errorOfTelling_9 : decode m_O_errorOfTelling.2.1 9 = .ok (.ifCond .ne 5, 3) := by decide +kernel
theorem D_O_errorOfTelling_12 : decode m_O_errorOfTelling.2.1 12 = .ok (.iconst (-1), 1) := by decide +kernel
theorem D_O_errorOfTelling_13 : decode m_O_errorOfTelling.2.1 13 = .ok (.ireturn, 1) := by decide +kernel
theorem D_O_errorOfTelling_14 : decode m_O_errorOfTelling.2.1 14 = .ok (.iload_n 3, 1) := by decide +kernel
theorem D_O_errorOfTelling_15 : decode m_O_errorOfTelling.2.1 15 = .ok (.iconst 0, 1) := by decide +kernel
theorem D_O_errorOfTelling_16 : decode m_O_errorOfTelling.2.1 16 = .ok (.aload_n 0, 1) := by decide +kernel
theorem D_O_errorOfTelling_17 : decode m_O_errorOfTelling.2.1 17 = .ok (.getfield 10, 3) := by decide +kernel
theorem D_O_errorOfTelling_20 : decode m_O_errorOfTelling.2.1 20 = .ok (.invokevirtual 119, 3) := by decide +kernel
theorem D_O_errorOfTelling_23 : decode m_O_errorOfTelling.2.1 23 = .ok (.iconst 1, 1) := by decide +kernel
theorem D_O_errorOfTelling_24 : decode m_O_errorOfTelling.2.1 24 = .ok (.isub, 1) := by decide +kernel
theorem D_O_errorOfTelling_25 : decode m_O_errorOfTelling.2.1 25 = .ok (.invokestatic 61, 3) := by decide +kernel
theorem D_O_errorOfTelling_28 : decode m_O_errorOfTelling.2.1 28 = .ok (.ifCond .eq 8, 3) := by decide +kernel
theorem D_O_errorOfTelling_31 : decode m_O_errorOfTelling.2.1 31 = .ok (.bipush (-2), 2) := by decide +kernel
theorem D_O_errorOfTelling_33 : decode m_O_errorOfTelling.2.1 33 = .ok (.goto 4, 3) := by decide +kernel
theorem D_O_errorOfTelling_36 : decode m_O_errorOfTelling.2.1 36 = .ok (.iconst 0, 1) := by decide +kernel
theorem D_O_errorOfTelling_37 : decode m_O_errorOfTelling.2.1 37 = .ok (.ireturn, 1) := by decide +kernel
theorem D_O_isOutside_0 : decode m_O_isOutside.2.1 0 = .ok (.iload_n 0, 1) := by decide +kernel
theorem D_O_isOutside_1 : decode m_O_isOutside.2.1 1 = .ok (.iload_n 1, 1) := by decide +kernel
theorem D_O_isOutside_2 : decode m_O_isOutside.2.1 2 = .ok (.if_icmp .lt 8, 3) := by decide +kernel
theorem D_O_isOutside_5 : decode m_O_isOutside.2.1 5 = .ok (.iload_n 0, 1) := by decide +kernel
theorem D_O_isOutside_6 : decode m_O_isOutside.2.1 6 = .ok (.iload_n 2, 1) := by decide +kernel
theorem D_O_isOutside_7 : decode m_O_isOutside.2.1 7 = .ok (.if_icmp .le 7, 3) := by decide +kernel
theorem D_O_isOutside_10 : decode m_O_isOutside.2.1 10 = .ok (.iconst 1, 1) := by decide +kernel
theorem D_O_isOutside_11 : decode m_O_isOutside.2.1 11 = .ok (.goto 4, 3) := by decide +kernel
theorem D_O_isOutside_14 : decode m_O_isOutside.2.1 14 = .ok (.iconst 0, 1) := by decide +kernel
theorem D_O_isOutside_15 : decode m_O_isOutside.2.1 15 = .ok (.ireturn, 1) := by decide +kernel
theorem D_O_isModulus_0 : decode m_O_isModulus.2.1 0 = .ok (.iload_n 0, 1) := by decide +kernel
theorem D_O_isModulus_1 : decode m_O_isModulus.2.1 1 = .ok (.iconst 5, 1) := by decide +kernel
theorem D_O_isModulus_2 : decode m_O_isModulus.2.1 2 = .ok (.if_icmp .eq 21, 3) := by decide +kernel
theorem D_O_isModulus_5 : decode m_O_isModulus.2.1 5 = .ok (.iload_n 0, 1) := by decide +kernel
theorem D_O_isModulus_6 : decode m_O_isModulus.2.1 6 = .ok (.bipush 7, 2) := by decide +kernel
theorem D_O_isModulus_8 : decode m_O_isModulus.2.1 8 = .ok (.if_icmp .eq 15, 3) := by decide +kernel
theorem D_O_isModulus_11 : decode m_O_isModulus.2.1 11 = .ok (.iload_n 0, 1) := by decide +kernel
theorem D_O_isModulus_12 : decode m_O_isModulus.2.1 12 = .ok (.bipush 11, 2) := by decide +kernel
theorem D_O_isModulus_14 : decode m_O_isModulus.2.1 14 = .ok (.if_icmp .eq 9, 3) := by decide +kernel
theorem D_O_isModulus_17 : decode m_O_isModulus.2.1 17 = .ok (.iload_n 0, 1) := by decide +kernel
theorem D_O_isModulus_18 : decode m_O_isModulus.2.1 18 = .ok (.bipush 13, 2) := by decide +kernel
theorem D_O_isModulus_20 : decode m_O_isModulus.2.1 20 = .ok (.if_icmp .ne 7, 3) := by decide +kernel
theorem D_O_isModulus_23 : decode m_O_isModulus.2.1 23 = .ok (.iconst 1, 1) := by decide +kernel
theorem D_O_isModulus_24 : decode m_O_isModulus.2.1 24 = .ok (.goto 4, 3) := by decide +kernel
theorem D_O_isModulus_27 : decode m_O_isModulus.2.1 27 = .ok (.iconst 0, 1) := by decide +kernel
theorem D_O_isModulus_28 : decode m_O_isModulus.2.1 28 = .ok (.ireturn, 1) := by decide +kernel
theorem D_O_holds_0 : decode m_O_holds.2.1 0 = .ok (.iload_n 0, 1) := by decide +kernel
theorem D_O_holds_1 : decode m_O_holds.2.1 1 = .ok (.iload_n 1, 1) := by decide +kernel
theorem D_O_holds_2 : decode m_O_holds.2.1 2 = .ok (.ishr, 1) := by decide +kernel
theorem D_O_holds_3 : decode m_O_holds.2.1 3 = .ok (.iconst 1, 1) := by decide +kernel
theorem D_O_holds_4 : decode m_O_holds.2.1 4 = .ok (.iand, 1) := by decide +kernel
theorem D_O_holds_5 : decode m_O_holds.2.1 5 = .ok (.ifCond .eq 7, 3) := by decide +kernel
theorem D_O_holds_8 : decode m_O_holds.2.1 8 = .ok (.iconst 1, 1) := by decide +kernel
theorem D_O_holds_9 : decode m_O_holds.2.1 9 = .ok (.goto 4, 3) := by decide +kernel
theorem D_O_holds_12 : decode m_O_holds.2.1 12 = .ok (.iconst 0, 1) := by decide +kernel
theorem D_O_holds_13 : decode m_O_holds.2.1 13 = .ok (.ireturn, 1) := by decide +kernel
theorem D_Int_bitCount_0 : decode m_Int_bitCount.2.1 0 = .ok (.iload_n 0, 1) := by decide +kernel
theorem D_Int_bitCount_1 : decode m_Int_bitCount.2.1 1 = .ok (.iload_n 0, 1) := by decide +kernel
theorem D_Int_bitCount_2 : decode m_Int_bitCount.2.1 2 = .ok (.iconst 1, 1) := by decide +kernel
theorem D_Int_bitCount_3 : decode m_Int_bitCount.2.1 3 = .ok (.iushr, 1) := by decide +kernel
theorem D_Int_bitCount_4 : decode m_Int_bitCount.2.1 4 = .ok (.ldc_w 265, 3) := by decide +kernel
theorem D_Int_bitCount_7 : decode m_Int_bitCount.2.1 7 = .ok (.iand, 1) := by decide +kernel
theorem D_Int_bitCount_8 : decode m_Int_bitCount.2.1 8 = .ok (.isub, 1) := by decide +kernel
theorem D_Int_bitCount_9 : decode m_Int_bitCount.2.1 9 = .ok (.istore_n 0, 1) := by decide +kernel
theorem D_Int_bitCount_10 : decode m_Int_bitCount.2.1 10 = .ok (.iload_n 0, 1) := by decide +kernel
theorem D_Int_bitCount_11 : decode m_Int_bitCount.2.1 11 = .ok (.ldc_w 266, 3) := by decide +kernel
theorem D_Int_bitCount_14 : decode m_Int_bitCount.2.1 14 = .ok (.iand, 1) := by decide +kernel
theorem D_Int_bitCount_15 : decode m_Int_bitCount.2.1 15 = .ok (.iload_n 0, 1) := by decide +kernel
theorem D_Int_bitCount_16 : decode m_Int_bitCount.2.1 16 = .ok (.iconst 2, 1) := by decide +kernel
theorem D_Int_bitCount_17 : decode m_Int_bitCount.2.1 17 = .ok (.iushr, 1) := by decide +kernel
theorem D_Int_bitCount_18 : decode m_Int_bitCount.2.1 18 = .ok (.ldc_w 266, 3) := by decide +kernel
theorem D_Int_bitCount_21 : decode m_Int_bitCount.2.1 21 = .ok (.iand, 1) := by decide +kernel
theorem D_Int_bitCount_22 : decode m_Int_bitCount.2.1 22 = .ok (.iadd, 1) := by decide +kernel
theorem D_Int_bitCount_23 : decode m_Int_bitCount.2.1 23 = .ok (.istore_n 0, 1) := by decide +kernel
theorem D_Int_bitCount_24 : decode m_Int_bitCount.2.1 24 = .ok (.iload_n 0, 1) := by decide +kernel
theorem D_Int_bitCount_25 : decode m_Int_bitCount.2.1 25 = .ok (.iload_n 0, 1) := by decide +kernel
theorem D_Int_bitCount_26 : decode m_Int_bitCount.2.1 26 = .ok (.iconst 4, 1) := by decide +kernel
theorem D_Int_bitCount_27 : decode m_Int_bitCount.2.1 27 = .ok (.iushr, 1) := by decide +kernel
theorem D_Int_bitCount_28 : decode m_Int_bitCount.2.1 28 = .ok (.iadd, 1) := by decide +kernel
theorem D_Int_bitCount_29 : decode m_Int_bitCount.2.1 29 = .ok (.ldc_w 267, 3) := by decide +kernel
theorem D_Int_bitCount_32 : decode m_Int_bitCount.2.1 32 = .ok (.iand, 1) := by decide +kernel
theorem D_Int_bitCount_33 : decode m_Int_bitCount.2.1 33 = .ok (.istore_n 0, 1) := by decide +kernel
theorem D_Int_bitCount_34 : decode m_Int_bitCount.2.1 34 = .ok (.iload_n 0, 1) := by decide +kernel
theorem D_Int_bitCount_35 : decode m_Int_bitCount.2.1 35 = .ok (.iload_n 0, 1) := by decide +kernel
theorem D_Int_bitCount_36 : decode m_Int_bitCount.2.1 36 = .ok (.bipush 8, 2) := by decide +kernel
theorem D_Int_bitCount_38 : decode m_Int_bitCount.2.1 38 = .ok (.iushr, 1) := by decide +kernel
theorem D_Int_bitCount_39 : decode m_Int_bitCount.2.1 39 = .ok (.iadd, 1) := by decide +kernel
theorem D_Int_bitCount_40 : decode m_Int_bitCount.2.1 40 = .ok (.istore_n 0, 1) := by decide +kernel
theorem D_Int_bitCount_41 : decode m_Int_bitCount.2.1 41 = .ok (.iload_n 0, 1) := by decide +kernel
theorem D_Int_bitCount_42 : decode m_Int_bitCount.2.1 42 = .ok (.iload_n 0, 1) := by decide +kernel
theorem D_Int_bitCount_43 : decode m_Int_bitCount.2.1 43 = .ok (.bipush 16, 2) := by decide +kernel
theorem D_Int_bitCount_45 : decode m_Int_bitCount.2.1 45 = .ok (.iushr, 1) := by decide +kernel
theorem D_Int_bitCount_46 : decode m_Int_bitCount.2.1 46 = .ok (.iadd, 1) := by decide +kernel
theorem D_Int_bitCount_47 : decode m_Int_bitCount.2.1 47 = .ok (.istore_n 0, 1) := by decide +kernel
theorem D_Int_bitCount_48 : decode m_Int_bitCount.2.1 48 = .ok (.iload_n 0, 1) := by decide +kernel
theorem D_Int_bitCount_49 : decode m_Int_bitCount.2.1 49 = .ok (.bipush 63, 2) := by decide +kernel
theorem D_Int_bitCount_51 : decode m_Int_bitCount.2.1 51 = .ok (.iand, 1) := by decide +kernel
theorem D_Int_bitCount_52 : decode m_Int_bitCount.2.1 52 = .ok (.ireturn, 1) := by decide +kernel
theorem D_Math_max_0 : decode m_Math_max.2.1 0 = .ok (.iload_n 0, 1) := by decide +kernel
theorem D_Math_max_1 : decode m_Math_max.2.1 1 = .ok (.iload_n 1, 1) := by decide +kernel
theorem D_Math_max_2 : decode m_Math_max.2.1 2 = .ok (.if_icmp .lt 7, 3) := by decide +kernel
theorem D_Math_max_5 : decode m_Math_max.2.1 5 = .ok (.iload_n 0, 1) := by decide +kernel
theorem D_Math_max_6 : decode m_Math_max.2.1 6 = .ok (.goto 4, 3) := by decide +kernel
theorem D_Math_max_9 : decode m_Math_max.2.1 9 = .ok (.iload_n 1, 1) := by decide +kernel
theorem D_Math_max_10 : decode m_Math_max.2.1 10 = .ok (.ireturn, 1) := by decide +kernel
