/-! what stands in the law's methods: decoded -/
theorem d_La_attach_0 : decode b_La_attach 0 = .ok (.aload_n 0, 1) := by decide +kernel
theorem d_La_attach_1 : decode b_La_attach 1 = .ok (.iload_n 1, 1) := by decide +kernel
theorem d_La_attach_2 : decode b_La_attach 2 = .ok (.iload_n 2, 1) := by decide +kernel
theorem d_La_attach_3 : decode b_La_attach 3 = .ok (.iload_n 3, 1) := by decide +kernel
theorem d_La_attach_4 : decode b_La_attach 4 = .ok (.iload 4, 2) := by decide +kernel
theorem d_La_attach_6 : decode b_La_attach 6 = .ok (.invokevirtual 7, 3) := by decide +kernel
theorem d_La_attach_9 : decode b_La_attach 9 = .ok (.goto 15, 3) := by decide +kernel
theorem d_La_attach_12 : decode b_La_attach 12 = .ok (.astore 5, 2) := by decide +kernel
theorem d_La_attach_14 : decode b_La_attach 14 = .ok (.iconst 1, 1) := by decide +kernel
theorem d_La_attach_15 : decode b_La_attach 15 = .ok (.ireturn, 1) := by decide +kernel
theorem d_La_attach_16 : decode b_La_attach 16 = .ok (.astore 5, 2) := by decide +kernel
theorem d_La_attach_18 : decode b_La_attach 18 = .ok (.iconst 2, 1) := by decide +kernel
theorem d_La_attach_19 : decode b_La_attach 19 = .ok (.ireturn, 1) := by decide +kernel
theorem d_La_attach_20 : decode b_La_attach 20 = .ok (.astore 5, 2) := by decide +kernel
theorem d_La_attach_22 : decode b_La_attach 22 = .ok (.iconst 3, 1) := by decide +kernel
theorem d_La_attach_23 : decode b_La_attach 23 = .ok (.ireturn, 1) := by decide +kernel
theorem d_La_attach_24 : decode b_La_attach 24 = .ok (.iconst 0, 1) := by decide +kernel
theorem d_La_attach_25 : decode b_La_attach 25 = .ok (.ireturn, 1) := by decide +kernel
theorem d_La_send_0 : decode b_La_send 0 = .ok (.aload 4, 2) := by decide +kernel
theorem d_La_send_2 : decode b_La_send 2 = .ok (.iconst 0, 1) := by decide +kernel
theorem d_La_send_3 : decode b_La_send 3 = .ok (.aload_n 0, 1) := by decide +kernel
theorem d_La_send_4 : decode b_La_send 4 = .ok (.iload_n 1, 1) := by decide +kernel
theorem d_La_send_5 : decode b_La_send 5 = .ok (.iload_n 2, 1) := by decide +kernel
theorem d_La_send_6 : decode b_La_send 6 = .ok (.iload_n 3, 1) := by decide +kernel
theorem d_La_send_7 : decode b_La_send 7 = .ok (.invokevirtual 19, 3) := by decide +kernel
theorem d_La_send_10 : decode b_La_send 10 = .ok (.i2l, 1) := by decide +kernel
theorem d_La_send_11 : decode b_La_send 11 = .ok (.lastore, 1) := by decide +kernel
theorem d_La_send_12 : decode b_La_send 12 = .ok (.goto 15, 3) := by decide +kernel
theorem d_La_send_15 : decode b_La_send 15 = .ok (.astore 5, 2) := by decide +kernel
theorem d_La_send_17 : decode b_La_send 17 = .ok (.iconst 1, 1) := by decide +kernel
theorem d_La_send_18 : decode b_La_send 18 = .ok (.ireturn, 1) := by decide +kernel
theorem d_La_send_19 : decode b_La_send 19 = .ok (.astore 5, 2) := by decide +kernel
theorem d_La_send_21 : decode b_La_send 21 = .ok (.iconst 2, 1) := by decide +kernel
theorem d_La_send_22 : decode b_La_send 22 = .ok (.ireturn, 1) := by decide +kernel
theorem d_La_send_23 : decode b_La_send 23 = .ok (.astore 5, 2) := by decide +kernel
theorem d_La_send_25 : decode b_La_send 25 = .ok (.iconst 3, 1) := by decide +kernel
theorem d_La_send_26 : decode b_La_send 26 = .ok (.ireturn, 1) := by decide +kernel
theorem d_La_send_27 : decode b_La_send 27 = .ok (.iconst 0, 1) := by decide +kernel
theorem d_La_send_28 : decode b_La_send 28 = .ok (.ireturn, 1) := by decide +kernel
theorem d_La_deliver_0 : decode b_La_deliver 0 = .ok (.aload_n 3, 1) := by decide +kernel
theorem d_La_deliver_1 : decode b_La_deliver 1 = .ok (.iconst 0, 1) := by decide +kernel
theorem d_La_deliver_2 : decode b_La_deliver 2 = .ok (.aload_n 0, 1) := by decide +kernel
theorem d_La_deliver_3 : decode b_La_deliver 3 = .ok (.iload_n 1, 1) := by decide +kernel
theorem d_La_deliver_4 : decode b_La_deliver 4 = .ok (.iload_n 2, 1) := by decide +kernel
theorem d_La_deliver_5 : decode b_La_deliver 5 = .ok (.invokevirtual 23, 3) := by decide +kernel
theorem d_La_deliver_8 : decode b_La_deliver 8 = .ok (.i2l, 1) := by decide +kernel
theorem d_La_deliver_9 : decode b_La_deliver 9 = .ok (.lastore, 1) := by decide +kernel
theorem d_La_deliver_10 : decode b_La_deliver 10 = .ok (.goto 7, 3) := by decide +kernel
theorem d_La_deliver_13 : decode b_La_deliver 13 = .ok (.astore 4, 2) := by decide +kernel
theorem d_La_deliver_15 : decode b_La_deliver 15 = .ok (.iconst 1, 1) := by decide +kernel
theorem d_La_deliver_16 : decode b_La_deliver 16 = .ok (.ireturn, 1) := by decide +kernel
theorem d_La_deliver_17 : decode b_La_deliver 17 = .ok (.iconst 0, 1) := by decide +kernel
theorem d_La_deliver_18 : decode b_La_deliver 18 = .ok (.ireturn, 1) := by decide +kernel
