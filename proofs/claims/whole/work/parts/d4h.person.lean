/-! decode rows of the two methods person (printed by program) -/
theorem dX11_person_0 : decode cX11_person 0 = .ok (.aload_n 0, 1) := by decide +kernel
theorem dX11_person_1 : decode cX11_person 1 = .ok (.getfield 28, 3) := by decide +kernel
theorem dX11_person_4 : decode cX11_person 4 = .ok (.getfield 167, 3) := by decide +kernel
theorem dX11_person_7 : decode cX11_person 7 = .ok (.iload_n 1, 1) := by decide +kernel
theorem dX11_person_8 : decode cX11_person 8 = .ok (.invokevirtual 130, 3) := by decide +kernel
theorem dX11_person_11 : decode cX11_person 11 = .ok (.ifCond .ne 11, 3) := by decide +kernel
theorem dX11_person_14 : decode cX11_person 14 = .ok (.new 170, 3) := by decide +kernel
theorem dX11_person_17 : decode cX11_person 17 = .ok (.dup, 1) := by decide +kernel
theorem dX11_person_18 : decode cX11_person 18 = .ok (.invokespecial 172, 3) := by decide +kernel
theorem dX11_person_21 : decode cX11_person 21 = .ok (.athrow, 1) := by decide +kernel
theorem dX11_person_22 : decode cX11_person 22 = .ok (.aload_n 0, 1) := by decide +kernel
theorem dX11_person_23 : decode cX11_person 23 = .ok (.getfield 45, 3) := by decide +kernel
theorem dX11_person_26 : decode cX11_person 26 = .ok (.getfield 155, 3) := by decide +kernel
theorem dX11_person_29 : decode cX11_person 29 = .ok (.astore_n 3, 1) := by decide +kernel
theorem dX11_person_30 : decode cX11_person 30 = .ok (.iload_n 2, 1) := by decide +kernel
theorem dX11_person_31 : decode cX11_person 31 = .ok (.tableswitch 155 0 8 #[49, 63, 73, 80, 90, 97, 107, 124, 138], 49) := by decide +kernel
theorem dX11_person_186 : decode cX11_person 186 = .ok (.new 170, 3) := by decide +kernel
theorem dX11_person_189 : decode cX11_person 189 = .ok (.dup, 1) := by decide +kernel
theorem dX11_person_190 : decode cX11_person 190 = .ok (.invokespecial 172, 3) := by decide +kernel
theorem dX11_person_193 : decode cX11_person 193 = .ok (.athrow, 1) := by decide +kernel
theorem dL_person_0 : decode cL_person 0 = .ok (.aload_n 3, 1) := by decide +kernel
theorem dL_person_1 : decode cL_person 1 = .ok (.iconst 0, 1) := by decide +kernel
theorem dL_person_2 : decode cL_person 2 = .ok (.aload_n 0, 1) := by decide +kernel
theorem dL_person_3 : decode cL_person 3 = .ok (.iload_n 1, 1) := by decide +kernel
theorem dL_person_4 : decode cL_person 4 = .ok (.iload_n 2, 1) := by decide +kernel
theorem dL_person_5 : decode cL_person 5 = .ok (.invokevirtual 7, 3) := by decide +kernel
theorem dL_person_8 : decode cL_person 8 = .ok (.i2l, 1) := by decide +kernel
theorem dL_person_9 : decode cL_person 9 = .ok (.lastore, 1) := by decide +kernel
theorem dL_person_10 : decode cL_person 10 = .ok (.goto 7, 3) := by decide +kernel
theorem dL_person_13 : decode cL_person 13 = .ok (.astore 4, 2) := by decide +kernel
theorem dL_person_15 : decode cL_person 15 = .ok (.iconst 1, 1) := by decide +kernel
theorem dL_person_16 : decode cL_person 16 = .ok (.ireturn, 1) := by decide +kernel
theorem dL_person_17 : decode cL_person 17 = .ok (.iconst 0, 1) := by decide +kernel
theorem dL_person_18 : decode cL_person 18 = .ok (.ireturn, 1) := by decide +kernel
