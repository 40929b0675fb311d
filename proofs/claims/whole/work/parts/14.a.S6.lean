theorem dX6_isWithin_0 : decode cX6_isWithin 0 = .ok (.iload_n 0, 1) := by decide +kernel
theorem dX6_isWithin_1 : decode cX6_isWithin 1 = .ok (.iload_n 1, 1) := by decide +kernel
theorem dX6_isWithin_2 : decode cX6_isWithin 2 = .ok (.if_icmp .lt 12, 3) := by decide +kernel
theorem dX6_isWithin_5 : decode cX6_isWithin 5 = .ok (.iload_n 0, 1) := by decide +kernel
theorem dX6_isWithin_6 : decode cX6_isWithin 6 = .ok (.iload_n 2, 1) := by decide +kernel
theorem dX6_isWithin_7 : decode cX6_isWithin 7 = .ok (.if_icmp .gt 7, 3) := by decide +kernel
theorem dX6_isWithin_10 : decode cX6_isWithin 10 = .ok (.iconst 1, 1) := by decide +kernel
theorem dX6_isWithin_11 : decode cX6_isWithin 11 = .ok (.goto 4, 3) := by decide +kernel
theorem dX6_isWithin_14 : decode cX6_isWithin 14 = .ok (.iconst 0, 1) := by decide +kernel
theorem dX6_isWithin_15 : decode cX6_isWithin 15 = .ok (.ireturn, 1) := by decide +kernel
theorem dX6_isMinute_0 : decode cX6_isMinute 0 = .ok (.iload_n 0, 1) := by decide +kernel
theorem dX6_isMinute_1 : decode cX6_isMinute 1 = .ok (.iconst 0, 1) := by decide +kernel
theorem dX6_isMinute_2 : decode cX6_isMinute 2 = .ok (.sipush 479, 3) := by decide +kernel
theorem dX6_isMinute_5 : decode cX6_isMinute 5 = .ok (.invokestatic 75, 3) := by decide +kernel
theorem dX6_isMinute_8 : decode cX6_isMinute 8 = .ok (.ireturn, 1) := by decide +kernel
theorem dX6_isSetting_0 : decode cX6_isSetting 0 = .ok (.iload_n 0, 1) := by decide +kernel
theorem dX6_isSetting_1 : decode cX6_isSetting 1 = .ok (.iconst 0, 1) := by decide +kernel
theorem dX6_isSetting_2 : decode cX6_isSetting 2 = .ok (.iconst 2, 1) := by decide +kernel
theorem dX6_isSetting_3 : decode cX6_isSetting 3 = .ok (.invokestatic 75, 3) := by decide +kernel
theorem dX6_isSetting_6 : decode cX6_isSetting 6 = .ok (.ireturn, 1) := by decide +kernel
theorem dX6_isSettingValue_0 : decode cX6_isSettingValue 0 = .ok (.iload_n 0, 1) := by decide +kernel
theorem dX6_isSettingValue_1 : decode cX6_isSettingValue 1 = .ok (.invokestatic 143, 3) := by decide +kernel
theorem dX6_isSettingValue_4 : decode cX6_isSettingValue 4 = .ok (.ifCond .eq 24, 3) := by decide +kernel
theorem dX6_isSettingValue_7 : decode cX6_isSettingValue 7 = .ok (.iload_n 1, 1) := by decide +kernel
theorem dX6_isSettingValue_8 : decode cX6_isSettingValue 8 = .ok (.getstatic 277, 3) := by decide +kernel
theorem dX6_isSettingValue_11 : decode cX6_isSettingValue 11 = .ok (.iload_n 0, 1) := by decide +kernel
theorem dX6_isSettingValue_12 : decode cX6_isSettingValue 12 = .ok (.iaload, 1) := by decide +kernel
theorem dX6_isSettingValue_13 : decode cX6_isSettingValue 13 = .ok (.getstatic 280, 3) := by decide +kernel
theorem dX6_isSettingValue_16 : decode cX6_isSettingValue 16 = .ok (.iload_n 0, 1) := by decide +kernel
theorem dX6_isSettingValue_17 : decode cX6_isSettingValue 17 = .ok (.iaload, 1) := by decide +kernel
theorem dX6_isSettingValue_18 : decode cX6_isSettingValue 18 = .ok (.invokestatic 75, 3) := by decide +kernel
theorem dX6_isSettingValue_21 : decode cX6_isSettingValue 21 = .ok (.ifCond .eq 7, 3) := by decide +kernel
theorem dX6_isSettingValue_24 : decode cX6_isSettingValue 24 = .ok (.iconst 1, 1) := by decide +kernel
theorem dX6_isSettingValue_25 : decode cX6_isSettingValue 25 = .ok (.goto 4, 3) := by decide +kernel
theorem dX6_isSettingValue_28 : decode cX6_isSettingValue 28 = .ok (.iconst 0, 1) := by decide +kernel
theorem dX6_isSettingValue_29 : decode cX6_isSettingValue 29 = .ok (.ireturn, 1) := by decide +kernel
