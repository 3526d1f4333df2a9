theorem dL_open_0 : decode cL_open 0 = .ok (.aload 7, 2) := by decide +kernel
theorem dL_open_2 : decode cL_open 2 = .ok (.iconst 0, 1) := by decide +kernel
theorem dL_open_3 : decode cL_open 3 = .ok (.aload_n 0, 1) := by decide +kernel
theorem dL_open_4 : decode cL_open 4 = .ok (.iload_n 1, 1) := by decide +kernel
theorem dL_open_5 : decode cL_open 5 = .ok (.iload_n 2, 1) := by decide +kernel
theorem dL_open_6 : decode cL_open 6 = .ok (.iload_n 3, 1) := by decide +kernel
theorem dL_open_7 : decode cL_open 7 = .ok (.iload 4, 2) := by decide +kernel
theorem dL_open_9 : decode cL_open 9 = .ok (.iload 5, 2) := by decide +kernel
theorem dL_open_11 : decode cL_open 11 = .ok (.iload 6, 2) := by decide +kernel
theorem dL_open_13 : decode cL_open 13 = .ok (.invokevirtual 7, 3) := by decide +kernel
theorem dL_open_16 : decode cL_open 16 = .ok (.i2l, 1) := by decide +kernel
theorem dL_open_17 : decode cL_open 17 = .ok (.lastore, 1) := by decide +kernel
theorem dL_open_18 : decode cL_open 18 = .ok (.goto 11, 3) := by decide +kernel
theorem dL_open_21 : decode cL_open 21 = .ok (.astore 8, 2) := by decide +kernel
theorem dL_open_23 : decode cL_open 23 = .ok (.iconst 1, 1) := by decide +kernel
theorem dL_open_24 : decode cL_open 24 = .ok (.ireturn, 1) := by decide +kernel
theorem dL_open_25 : decode cL_open 25 = .ok (.astore 8, 2) := by decide +kernel
theorem dL_open_27 : decode cL_open 27 = .ok (.iconst 2, 1) := by decide +kernel
theorem dL_open_28 : decode cL_open 28 = .ok (.ireturn, 1) := by decide +kernel
theorem dL_open_29 : decode cL_open 29 = .ok (.iconst 0, 1) := by decide +kernel
theorem dL_open_30 : decode cL_open 30 = .ok (.ireturn, 1) := by decide +kernel
theorem dL_charge_0 : decode cL_charge 0 = .ok (.aload_n 0, 1) := by decide +kernel
theorem dL_charge_1 : decode cL_charge 1 = .ok (.iload_n 1, 1) := by decide +kernel
theorem dL_charge_2 : decode cL_charge 2 = .ok (.iload_n 2, 1) := by decide +kernel
theorem dL_charge_3 : decode cL_charge 3 = .ok (.invokevirtual 17, 3) := by decide +kernel
theorem dL_charge_6 : decode cL_charge 6 = .ok (.goto 9, 3) := by decide +kernel
theorem dL_charge_9 : decode cL_charge 9 = .ok (.astore_n 3, 1) := by decide +kernel
theorem dL_charge_10 : decode cL_charge 10 = .ok (.iconst 1, 1) := by decide +kernel
theorem dL_charge_11 : decode cL_charge 11 = .ok (.ireturn, 1) := by decide +kernel
theorem dL_charge_12 : decode cL_charge 12 = .ok (.astore_n 3, 1) := by decide +kernel
theorem dL_charge_13 : decode cL_charge 13 = .ok (.iconst 2, 1) := by decide +kernel
theorem dL_charge_14 : decode cL_charge 14 = .ok (.ireturn, 1) := by decide +kernel
theorem dL_charge_15 : decode cL_charge 15 = .ok (.iconst 0, 1) := by decide +kernel
theorem dL_charge_16 : decode cL_charge 16 = .ok (.ireturn, 1) := by decide +kernel
theorem dL_advance_0 : decode cL_advance 0 = .ok (.aload_n 2, 1) := by decide +kernel
theorem dL_advance_1 : decode cL_advance 1 = .ok (.iconst 0, 1) := by decide +kernel
theorem dL_advance_2 : decode cL_advance 2 = .ok (.aload_n 0, 1) := by decide +kernel
theorem dL_advance_3 : decode cL_advance 3 = .ok (.iload_n 1, 1) := by decide +kernel
theorem dL_advance_4 : decode cL_advance 4 = .ok (.invokevirtual 23, 3) := by decide +kernel
theorem dL_advance_7 : decode cL_advance 7 = .ok (.i2l, 1) := by decide +kernel
theorem dL_advance_8 : decode cL_advance 8 = .ok (.lastore, 1) := by decide +kernel
theorem dL_advance_9 : decode cL_advance 9 = .ok (.goto 9, 3) := by decide +kernel
theorem dL_advance_12 : decode cL_advance 12 = .ok (.astore_n 3, 1) := by decide +kernel
theorem dL_advance_13 : decode cL_advance 13 = .ok (.iconst 1, 1) := by decide +kernel
theorem dL_advance_14 : decode cL_advance 14 = .ok (.ireturn, 1) := by decide +kernel
theorem dL_advance_15 : decode cL_advance 15 = .ok (.astore_n 3, 1) := by decide +kernel
theorem dL_advance_16 : decode cL_advance 16 = .ok (.iconst 2, 1) := by decide +kernel
theorem dL_advance_17 : decode cL_advance 17 = .ok (.ireturn, 1) := by decide +kernel
theorem dL_advance_18 : decode cL_advance 18 = .ok (.iconst 0, 1) := by decide +kernel
theorem dL_advance_19 : decode cL_advance 19 = .ok (.ireturn, 1) := by decide +kernel
theorem dL_pay_0 : decode cL_pay 0 = .ok (.aload_n 3, 1) := by decide +kernel
theorem dL_pay_1 : decode cL_pay 1 = .ok (.iconst 0, 1) := by decide +kernel
theorem dL_pay_2 : decode cL_pay 2 = .ok (.aload_n 0, 1) := by decide +kernel
theorem dL_pay_3 : decode cL_pay 3 = .ok (.iload_n 1, 1) := by decide +kernel
theorem dL_pay_4 : decode cL_pay 4 = .ok (.iload_n 2, 1) := by decide +kernel
theorem dL_pay_5 : decode cL_pay 5 = .ok (.invokevirtual 27, 3) := by decide +kernel
theorem dL_pay_8 : decode cL_pay 8 = .ok (.i2l, 1) := by decide +kernel
theorem dL_pay_9 : decode cL_pay 9 = .ok (.lastore, 1) := by decide +kernel
theorem dL_pay_10 : decode cL_pay 10 = .ok (.goto 11, 3) := by decide +kernel
theorem dL_pay_13 : decode cL_pay 13 = .ok (.astore 4, 2) := by decide +kernel
theorem dL_pay_15 : decode cL_pay 15 = .ok (.iconst 1, 1) := by decide +kernel
theorem dL_pay_16 : decode cL_pay 16 = .ok (.ireturn, 1) := by decide +kernel
theorem dL_pay_17 : decode cL_pay 17 = .ok (.astore 4, 2) := by decide +kernel
theorem dL_pay_19 : decode cL_pay 19 = .ok (.iconst 2, 1) := by decide +kernel
theorem dL_pay_20 : decode cL_pay 20 = .ok (.ireturn, 1) := by decide +kernel
theorem dL_pay_21 : decode cL_pay 21 = .ok (.iconst 0, 1) := by decide +kernel
theorem dL_pay_22 : decode cL_pay 22 = .ok (.ireturn, 1) := by decide +kernel
theorem dL_part_0 : decode cL_part 0 = .ok (.aload_n 3, 1) := by decide +kernel
theorem dL_part_1 : decode cL_part 1 = .ok (.iconst 0, 1) := by decide +kernel
theorem dL_part_2 : decode cL_part 2 = .ok (.aload_n 0, 1) := by decide +kernel
theorem dL_part_3 : decode cL_part 3 = .ok (.iload_n 1, 1) := by decide +kernel
theorem dL_part_4 : decode cL_part 4 = .ok (.iload_n 2, 1) := by decide +kernel
theorem dL_part_5 : decode cL_part 5 = .ok (.invokevirtual 31, 3) := by decide +kernel
theorem dL_part_8 : decode cL_part 8 = .ok (.i2l, 1) := by decide +kernel
theorem dL_part_9 : decode cL_part 9 = .ok (.lastore, 1) := by decide +kernel
theorem dL_part_10 : decode cL_part 10 = .ok (.goto 15, 3) := by decide +kernel
theorem dL_part_13 : decode cL_part 13 = .ok (.astore 4, 2) := by decide +kernel
theorem dL_part_15 : decode cL_part 15 = .ok (.iconst 1, 1) := by decide +kernel
theorem dL_part_16 : decode cL_part 16 = .ok (.ireturn, 1) := by decide +kernel
theorem dL_part_17 : decode cL_part 17 = .ok (.astore 4, 2) := by decide +kernel
theorem dL_part_19 : decode cL_part 19 = .ok (.iconst 2, 1) := by decide +kernel
theorem dL_part_20 : decode cL_part 20 = .ok (.ireturn, 1) := by decide +kernel
theorem dL_part_21 : decode cL_part 21 = .ok (.astore 4, 2) := by decide +kernel
theorem dL_part_23 : decode cL_part 23 = .ok (.iconst 3, 1) := by decide +kernel
theorem dL_part_24 : decode cL_part 24 = .ok (.ireturn, 1) := by decide +kernel
theorem dL_part_25 : decode cL_part 25 = .ok (.iconst 0, 1) := by decide +kernel
theorem dL_part_26 : decode cL_part 26 = .ok (.ireturn, 1) := by decide +kernel
theorem dL_due_0 : decode cL_due 0 = .ok (.aload_n 3, 1) := by decide +kernel
theorem dL_due_1 : decode cL_due 1 = .ok (.iconst 0, 1) := by decide +kernel
theorem dL_due_2 : decode cL_due 2 = .ok (.aload_n 0, 1) := by decide +kernel
theorem dL_due_3 : decode cL_due 3 = .ok (.iload_n 1, 1) := by decide +kernel
theorem dL_due_4 : decode cL_due 4 = .ok (.iload_n 2, 1) := by decide +kernel
theorem dL_due_5 : decode cL_due 5 = .ok (.invokevirtual 34, 3) := by decide +kernel
theorem dL_due_8 : decode cL_due 8 = .ok (.i2l, 1) := by decide +kernel
theorem dL_due_9 : decode cL_due 9 = .ok (.lastore, 1) := by decide +kernel
theorem dL_due_10 : decode cL_due 10 = .ok (.goto 11, 3) := by decide +kernel
theorem dL_due_13 : decode cL_due 13 = .ok (.astore 4, 2) := by decide +kernel
theorem dL_due_15 : decode cL_due 15 = .ok (.iconst 1, 1) := by decide +kernel
theorem dL_due_16 : decode cL_due 16 = .ok (.ireturn, 1) := by decide +kernel
theorem dL_due_17 : decode cL_due 17 = .ok (.astore 4, 2) := by decide +kernel
theorem dL_due_19 : decode cL_due 19 = .ok (.iconst 2, 1) := by decide +kernel
theorem dL_due_20 : decode cL_due 20 = .ok (.ireturn, 1) := by decide +kernel
theorem dL_due_21 : decode cL_due 21 = .ok (.iconst 0, 1) := by decide +kernel
theorem dL_due_22 : decode cL_due 22 = .ok (.ireturn, 1) := by decide +kernel
theorem dL_principal_0 : decode cL_principal 0 = .ok (.aload_n 2, 1) := by decide +kernel
theorem dL_principal_1 : decode cL_principal 1 = .ok (.iconst 0, 1) := by decide +kernel
theorem dL_principal_2 : decode cL_principal 2 = .ok (.aload_n 0, 1) := by decide +kernel
theorem dL_principal_3 : decode cL_principal 3 = .ok (.iload_n 1, 1) := by decide +kernel
theorem dL_principal_4 : decode cL_principal 4 = .ok (.invokevirtual 37, 3) := by decide +kernel
theorem dL_principal_7 : decode cL_principal 7 = .ok (.i2l, 1) := by decide +kernel
theorem dL_principal_8 : decode cL_principal 8 = .ok (.lastore, 1) := by decide +kernel
theorem dL_principal_9 : decode cL_principal 9 = .ok (.goto 6, 3) := by decide +kernel
theorem dL_principal_12 : decode cL_principal 12 = .ok (.astore_n 3, 1) := by decide +kernel
theorem dL_principal_13 : decode cL_principal 13 = .ok (.iconst 1, 1) := by decide +kernel
theorem dL_principal_14 : decode cL_principal 14 = .ok (.ireturn, 1) := by decide +kernel
theorem dL_principal_15 : decode cL_principal 15 = .ok (.iconst 0, 1) := by decide +kernel
theorem dL_principal_16 : decode cL_principal 16 = .ok (.ireturn, 1) := by decide +kernel
theorem dL_level_0 : decode cL_level 0 = .ok (.aload_n 2, 1) := by decide +kernel
theorem dL_level_1 : decode cL_level 1 = .ok (.iconst 0, 1) := by decide +kernel
theorem dL_level_2 : decode cL_level 2 = .ok (.aload_n 0, 1) := by decide +kernel
theorem dL_level_3 : decode cL_level 3 = .ok (.iload_n 1, 1) := by decide +kernel
theorem dL_level_4 : decode cL_level 4 = .ok (.invokevirtual 40, 3) := by decide +kernel
theorem dL_level_7 : decode cL_level 7 = .ok (.i2l, 1) := by decide +kernel
theorem dL_level_8 : decode cL_level 8 = .ok (.lastore, 1) := by decide +kernel
theorem dL_level_9 : decode cL_level 9 = .ok (.goto 6, 3) := by decide +kernel
theorem dL_level_12 : decode cL_level 12 = .ok (.astore_n 3, 1) := by decide +kernel
theorem dL_level_13 : decode cL_level 13 = .ok (.iconst 1, 1) := by decide +kernel
theorem dL_level_14 : decode cL_level 14 = .ok (.ireturn, 1) := by decide +kernel
theorem dL_level_15 : decode cL_level 15 = .ok (.iconst 0, 1) := by decide +kernel
theorem dL_level_16 : decode cL_level 16 = .ok (.ireturn, 1) := by decide +kernel
theorem dL_accrued_0 : decode cL_accrued 0 = .ok (.aload_n 2, 1) := by decide +kernel
theorem dL_accrued_1 : decode cL_accrued 1 = .ok (.iconst 0, 1) := by decide +kernel
theorem dL_accrued_2 : decode cL_accrued 2 = .ok (.aload_n 0, 1) := by decide +kernel
theorem dL_accrued_3 : decode cL_accrued 3 = .ok (.iload_n 1, 1) := by decide +kernel
theorem dL_accrued_4 : decode cL_accrued 4 = .ok (.invokevirtual 43, 3) := by decide +kernel
theorem dL_accrued_7 : decode cL_accrued 7 = .ok (.i2l, 1) := by decide +kernel
theorem dL_accrued_8 : decode cL_accrued 8 = .ok (.lastore, 1) := by decide +kernel
theorem dL_accrued_9 : decode cL_accrued 9 = .ok (.goto 6, 3) := by decide +kernel
theorem dL_accrued_12 : decode cL_accrued 12 = .ok (.astore_n 3, 1) := by decide +kernel
theorem dL_accrued_13 : decode cL_accrued 13 = .ok (.iconst 1, 1) := by decide +kernel
theorem dL_accrued_14 : decode cL_accrued 14 = .ok (.ireturn, 1) := by decide +kernel
theorem dL_accrued_15 : decode cL_accrued 15 = .ok (.iconst 0, 1) := by decide +kernel
theorem dL_accrued_16 : decode cL_accrued 16 = .ok (.ireturn, 1) := by decide +kernel
theorem dL_owed_0 : decode cL_owed 0 = .ok (.aload_n 3, 1) := by decide +kernel
theorem dL_owed_1 : decode cL_owed 1 = .ok (.iconst 0, 1) := by decide +kernel
theorem dL_owed_2 : decode cL_owed 2 = .ok (.aload_n 0, 1) := by decide +kernel
theorem dL_owed_3 : decode cL_owed 3 = .ok (.iload_n 1, 1) := by decide +kernel
theorem dL_owed_4 : decode cL_owed 4 = .ok (.iload_n 2, 1) := by decide +kernel
theorem dL_owed_5 : decode cL_owed 5 = .ok (.invokevirtual 46, 3) := by decide +kernel
theorem dL_owed_8 : decode cL_owed 8 = .ok (.i2l, 1) := by decide +kernel
theorem dL_owed_9 : decode cL_owed 9 = .ok (.lastore, 1) := by decide +kernel
theorem dL_owed_10 : decode cL_owed 10 = .ok (.goto 11, 3) := by decide +kernel
theorem dL_owed_13 : decode cL_owed 13 = .ok (.astore 4, 2) := by decide +kernel
theorem dL_owed_15 : decode cL_owed 15 = .ok (.iconst 1, 1) := by decide +kernel
theorem dL_owed_16 : decode cL_owed 16 = .ok (.ireturn, 1) := by decide +kernel
theorem dL_owed_17 : decode cL_owed 17 = .ok (.astore 4, 2) := by decide +kernel
theorem dL_owed_19 : decode cL_owed 19 = .ok (.iconst 2, 1) := by decide +kernel
theorem dL_owed_20 : decode cL_owed 20 = .ok (.ireturn, 1) := by decide +kernel
theorem dL_owed_21 : decode cL_owed 21 = .ok (.iconst 0, 1) := by decide +kernel
theorem dL_owed_22 : decode cL_owed 22 = .ok (.ireturn, 1) := by decide +kernel
theorem dL_escrow_0 : decode cL_escrow 0 = .ok (.aload_n 2, 1) := by decide +kernel
theorem dL_escrow_1 : decode cL_escrow 1 = .ok (.iconst 0, 1) := by decide +kernel
theorem dL_escrow_2 : decode cL_escrow 2 = .ok (.aload_n 0, 1) := by decide +kernel
theorem dL_escrow_3 : decode cL_escrow 3 = .ok (.iload_n 1, 1) := by decide +kernel
theorem dL_escrow_4 : decode cL_escrow 4 = .ok (.invokevirtual 49, 3) := by decide +kernel
theorem dL_escrow_7 : decode cL_escrow 7 = .ok (.i2l, 1) := by decide +kernel
theorem dL_escrow_8 : decode cL_escrow 8 = .ok (.lastore, 1) := by decide +kernel
theorem dL_escrow_9 : decode cL_escrow 9 = .ok (.goto 6, 3) := by decide +kernel
theorem dL_escrow_12 : decode cL_escrow 12 = .ok (.astore_n 3, 1) := by decide +kernel
theorem dL_escrow_13 : decode cL_escrow 13 = .ok (.iconst 1, 1) := by decide +kernel
theorem dL_escrow_14 : decode cL_escrow 14 = .ok (.ireturn, 1) := by decide +kernel
theorem dL_escrow_15 : decode cL_escrow 15 = .ok (.iconst 0, 1) := by decide +kernel
theorem dL_escrow_16 : decode cL_escrow 16 = .ok (.ireturn, 1) := by decide +kernel
theorem dL_deposit_0 : decode cL_deposit 0 = .ok (.aload_n 2, 1) := by decide +kernel
theorem dL_deposit_1 : decode cL_deposit 1 = .ok (.iconst 0, 1) := by decide +kernel
theorem dL_deposit_2 : decode cL_deposit 2 = .ok (.aload_n 0, 1) := by decide +kernel
theorem dL_deposit_3 : decode cL_deposit 3 = .ok (.iload_n 1, 1) := by decide +kernel
theorem dL_deposit_4 : decode cL_deposit 4 = .ok (.invokevirtual 52, 3) := by decide +kernel
theorem dL_deposit_7 : decode cL_deposit 7 = .ok (.i2l, 1) := by decide +kernel
theorem dL_deposit_8 : decode cL_deposit 8 = .ok (.lastore, 1) := by decide +kernel
theorem dL_deposit_9 : decode cL_deposit 9 = .ok (.goto 6, 3) := by decide +kernel
theorem dL_deposit_12 : decode cL_deposit 12 = .ok (.astore_n 3, 1) := by decide +kernel
theorem dL_deposit_13 : decode cL_deposit 13 = .ok (.iconst 1, 1) := by decide +kernel
theorem dL_deposit_14 : decode cL_deposit 14 = .ok (.ireturn, 1) := by decide +kernel
theorem dL_deposit_15 : decode cL_deposit 15 = .ok (.iconst 0, 1) := by decide +kernel
theorem dL_deposit_16 : decode cL_deposit 16 = .ok (.ireturn, 1) := by decide +kernel
theorem dL_bills_0 : decode cL_bills 0 = .ok (.aload_n 2, 1) := by decide +kernel
theorem dL_bills_1 : decode cL_bills 1 = .ok (.iconst 0, 1) := by decide +kernel
theorem dL_bills_2 : decode cL_bills 2 = .ok (.aload_n 0, 1) := by decide +kernel
theorem dL_bills_3 : decode cL_bills 3 = .ok (.iload_n 1, 1) := by decide +kernel
theorem dL_bills_4 : decode cL_bills 4 = .ok (.invokevirtual 55, 3) := by decide +kernel
theorem dL_bills_7 : decode cL_bills 7 = .ok (.i2l, 1) := by decide +kernel
theorem dL_bills_8 : decode cL_bills 8 = .ok (.lastore, 1) := by decide +kernel
theorem dL_bills_9 : decode cL_bills 9 = .ok (.goto 6, 3) := by decide +kernel
theorem dL_bills_12 : decode cL_bills 12 = .ok (.astore_n 3, 1) := by decide +kernel
theorem dL_bills_13 : decode cL_bills 13 = .ok (.iconst 1, 1) := by decide +kernel
theorem dL_bills_14 : decode cL_bills 14 = .ok (.ireturn, 1) := by decide +kernel
theorem dL_bills_15 : decode cL_bills 15 = .ok (.iconst 0, 1) := by decide +kernel
theorem dL_bills_16 : decode cL_bills 16 = .ok (.ireturn, 1) := by decide +kernel
theorem dL_bill_0 : decode cL_bill 0 = .ok (.aload 4, 2) := by decide +kernel
theorem dL_bill_2 : decode cL_bill 2 = .ok (.iconst 0, 1) := by decide +kernel
theorem dL_bill_3 : decode cL_bill 3 = .ok (.aload_n 0, 1) := by decide +kernel
theorem dL_bill_4 : decode cL_bill 4 = .ok (.iload_n 1, 1) := by decide +kernel
theorem dL_bill_5 : decode cL_bill 5 = .ok (.iload_n 2, 1) := by decide +kernel
theorem dL_bill_6 : decode cL_bill 6 = .ok (.iload_n 3, 1) := by decide +kernel
theorem dL_bill_7 : decode cL_bill 7 = .ok (.invokevirtual 58, 3) := by decide +kernel
theorem dL_bill_10 : decode cL_bill 10 = .ok (.i2l, 1) := by decide +kernel
theorem dL_bill_11 : decode cL_bill 11 = .ok (.lastore, 1) := by decide +kernel
theorem dL_bill_12 : decode cL_bill 12 = .ok (.goto 15, 3) := by decide +kernel
theorem dL_bill_15 : decode cL_bill 15 = .ok (.astore 5, 2) := by decide +kernel
theorem dL_bill_17 : decode cL_bill 17 = .ok (.iconst 1, 1) := by decide +kernel
theorem dL_bill_18 : decode cL_bill 18 = .ok (.ireturn, 1) := by decide +kernel
theorem dL_bill_19 : decode cL_bill 19 = .ok (.astore 5, 2) := by decide +kernel
theorem dL_bill_21 : decode cL_bill 21 = .ok (.iconst 2, 1) := by decide +kernel
theorem dL_bill_22 : decode cL_bill 22 = .ok (.ireturn, 1) := by decide +kernel
theorem dL_bill_23 : decode cL_bill 23 = .ok (.astore 5, 2) := by decide +kernel
theorem dL_bill_25 : decode cL_bill 25 = .ok (.iconst 3, 1) := by decide +kernel
theorem dL_bill_26 : decode cL_bill 26 = .ok (.ireturn, 1) := by decide +kernel
theorem dL_bill_27 : decode cL_bill 27 = .ok (.iconst 0, 1) := by decide +kernel
theorem dL_bill_28 : decode cL_bill 28 = .ok (.ireturn, 1) := by decide +kernel
theorem dL_interest_0 : decode cL_interest 0 = .ok (.aload 7, 2) := by decide +kernel
theorem dL_interest_2 : decode cL_interest 2 = .ok (.iconst 0, 1) := by decide +kernel
theorem dL_interest_3 : decode cL_interest 3 = .ok (.aload_n 0, 1) := by decide +kernel
theorem dL_interest_4 : decode cL_interest 4 = .ok (.iload_n 1, 1) := by decide +kernel
theorem dL_interest_5 : decode cL_interest 5 = .ok (.iload_n 2, 1) := by decide +kernel
theorem dL_interest_6 : decode cL_interest 6 = .ok (.iload_n 3, 1) := by decide +kernel
theorem dL_interest_7 : decode cL_interest 7 = .ok (.iload 4, 2) := by decide +kernel
theorem dL_interest_9 : decode cL_interest 9 = .ok (.iload 5, 2) := by decide +kernel
theorem dL_interest_11 : decode cL_interest 11 = .ok (.iload 6, 2) := by decide +kernel
theorem dL_interest_13 : decode cL_interest 13 = .ok (.invokevirtual 64, 3) := by decide +kernel
theorem dL_interest_16 : decode cL_interest 16 = .ok (.i2l, 1) := by decide +kernel
theorem dL_interest_17 : decode cL_interest 17 = .ok (.lastore, 1) := by decide +kernel
theorem dL_interest_18 : decode cL_interest 18 = .ok (.goto 7, 3) := by decide +kernel
theorem dL_interest_21 : decode cL_interest 21 = .ok (.astore 8, 2) := by decide +kernel
theorem dL_interest_23 : decode cL_interest 23 = .ok (.iconst 1, 1) := by decide +kernel
theorem dL_interest_24 : decode cL_interest 24 = .ok (.ireturn, 1) := by decide +kernel
theorem dL_interest_25 : decode cL_interest 25 = .ok (.iconst 0, 1) := by decide +kernel
theorem dL_interest_26 : decode cL_interest 26 = .ok (.ireturn, 1) := by decide +kernel
