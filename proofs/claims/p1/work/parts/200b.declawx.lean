theorem dL_law_23 : decode cL_law 23 = .ok (.iload 4, 2) := by decide +kernel
theorem dL_law_25 : decode cL_law 25 = .ok (.aload_n 0, 1) := by decide +kernel
theorem dL_law_26 : decode cL_law 26 = .ok (.arraylength, 1) := by decide +kernel
theorem dL_law_27 : decode cL_law 27 = .ok (.bipush 6, 2) := by decide +kernel
theorem dL_law_29 : decode cL_law 29 = .ok (.isub, 1) := by decide +kernel
theorem dL_law_30 : decode cL_law 30 = .ok (.if_icmp .gt 2688, 3) := by decide +kernel
theorem dL_law_33 : decode cL_law 33 = .ok (.aload_n 0, 1) := by decide +kernel
theorem dL_law_34 : decode cL_law 34 = .ok (.iload 4, 2) := by decide +kernel
theorem dL_law_36 : decode cL_law 36 = .ok (.iaload, 1) := by decide +kernel
theorem dL_law_37 : decode cL_law 37 = .ok (.bipush 63, 2) := by decide +kernel
theorem dL_law_39 : decode cL_law 39 = .ok (.iand, 1) := by decide +kernel
theorem dL_law_40 : decode cL_law 40 = .ok (.tableswitch 2672 0 45 #[200, 304, 360, 428, 472, 485, 564, 632, 688, 779, 871, 915, 928, 941, 954, 1010, 1078, 1134, 1190, 1258, 1326, 1406, 1462, 1518, 1586, 1654, 1698, 1711, 1724, 1737, 1781, 1825, 1869, 1882, 1938, 1994, 2050, 2125, 2212, 2268, 2336, 2403, 2466, 2522, 2590, 2658], 200) := by decide +kernel
theorem dL_law_2712 : decode cL_law 2712 = .ok (.iinc 4 6, 3) := by decide +kernel
theorem dL_law_2715 : decode cL_law 2715 = .ok (.goto (-2692), 3) := by decide +kernel
theorem dL_law_2718 : decode cL_law 2718 = .ok (.iconst 1, 1) := by decide +kernel
theorem dL_law_2719 : decode cL_law 2719 = .ok (.ireturn, 1) := by decide +kernel
