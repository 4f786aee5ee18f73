theorem dL_option_27 : decode cL_option 27 = .ok (.ireturn, 1) := by decide +kernel
theorem dL_late_0 : decode cL_late 0 = .ok (.aload 8, 2) := by decide +kernel
theorem dL_late_2 : decode cL_late 2 = .ok (.iconst 0, 1) := by decide +kernel
theorem dL_late_3 : decode cL_late 3 = .ok (.aload_n 0, 1) := by decide +kernel
theorem dL_late_4 : decode cL_late 4 = .ok (.iload_n 1, 1) := by decide +kernel
theorem dL_late_5 : decode cL_late 5 = .ok (.iload_n 2, 1) := by decide +kernel
theorem dL_late_6 : decode cL_late 6 = .ok (.iload_n 3, 1) := by decide +kernel
theorem dL_late_7 : decode cL_late 7 = .ok (.iload 4, 2) := by decide +kernel
theorem dL_late_9 : decode cL_late 9 = .ok (.iload 5, 2) := by decide +kernel
theorem dL_late_11 : decode cL_late 11 = .ok (.iload 6, 2) := by decide +kernel
theorem dL_late_13 : decode cL_late 13 = .ok (.iload 7, 2) := by decide +kernel
theorem dL_late_15 : decode cL_late 15 = .ok (.invokevirtual 70, 3) := by decide +kernel
theorem dL_late_18 : decode cL_late 18 = .ok (.lastore, 1) := by decide +kernel
theorem dL_late_19 : decode cL_late 19 = .ok (.goto 7, 3) := by decide +kernel
theorem dL_late_22 : decode cL_late 22 = .ok (.astore 9, 2) := by decide +kernel
theorem dL_late_24 : decode cL_late 24 = .ok (.iconst 1, 1) := by decide +kernel
theorem dL_late_25 : decode cL_late 25 = .ok (.ireturn, 1) := by decide +kernel
theorem dL_late_26 : decode cL_late 26 = .ok (.iconst 0, 1) := by decide +kernel
theorem dL_late_27 : decode cL_late 27 = .ok (.ireturn, 1) := by decide +kernel
theorem dL_now_0 : decode cL_now 0 = .ok (.aload 7, 2) := by decide +kernel
theorem dL_now_2 : decode cL_now 2 = .ok (.iconst 0, 1) := by decide +kernel
theorem dL_now_3 : decode cL_now 3 = .ok (.aload_n 0, 1) := by decide +kernel
theorem dL_now_4 : decode cL_now 4 = .ok (.iload_n 1, 1) := by decide +kernel
theorem dL_now_5 : decode cL_now 5 = .ok (.iload_n 2, 1) := by decide +kernel
theorem dL_now_6 : decode cL_now 6 = .ok (.iload_n 3, 1) := by decide +kernel
theorem dL_now_7 : decode cL_now 7 = .ok (.iload 4, 2) := by decide +kernel
theorem dL_now_9 : decode cL_now 9 = .ok (.iload 5, 2) := by decide +kernel
theorem dL_now_11 : decode cL_now 11 = .ok (.iload 6, 2) := by decide +kernel
theorem dL_now_13 : decode cL_now 13 = .ok (.invokevirtual 73, 3) := by decide +kernel
theorem dL_now_16 : decode cL_now 16 = .ok (.ifCond .eq 7, 3) := by decide +kernel
theorem dL_now_19 : decode cL_now 19 = .ok (.lconst 1, 1) := by decide +kernel
theorem dL_now_20 : decode cL_now 20 = .ok (.goto 4, 3) := by decide +kernel
theorem dL_now_23 : decode cL_now 23 = .ok (.lconst 0, 1) := by decide +kernel
theorem dL_now_24 : decode cL_now 24 = .ok (.lastore, 1) := by decide +kernel
theorem dL_now_25 : decode cL_now 25 = .ok (.goto 7, 3) := by decide +kernel
theorem dL_now_28 : decode cL_now 28 = .ok (.astore 8, 2) := by decide +kernel
theorem dL_now_30 : decode cL_now 30 = .ok (.iconst 1, 1) := by decide +kernel
theorem dL_now_31 : decode cL_now 31 = .ok (.ireturn, 1) := by decide +kernel
theorem dL_now_32 : decode cL_now 32 = .ok (.iconst 0, 1) := by decide +kernel
theorem dL_now_33 : decode cL_now 33 = .ok (.ireturn, 1) := by decide +kernel
theorem dL_nights_0 : decode cL_nights 0 = .ok (.aload_n 3, 1) := by decide +kernel
theorem dL_nights_1 : decode cL_nights 1 = .ok (.iconst 0, 1) := by decide +kernel
theorem dL_nights_2 : decode cL_nights 2 = .ok (.aload_n 0, 1) := by decide +kernel
theorem dL_nights_3 : decode cL_nights 3 = .ok (.iload_n 1, 1) := by decide +kernel
theorem dL_nights_4 : decode cL_nights 4 = .ok (.iload_n 2, 1) := by decide +kernel
theorem dL_nights_5 : decode cL_nights 5 = .ok (.invokevirtual 77, 3) := by decide +kernel
theorem dL_nights_8 : decode cL_nights 8 = .ok (.i2l, 1) := by decide +kernel
theorem dL_nights_9 : decode cL_nights 9 = .ok (.lastore, 1) := by decide +kernel
theorem dL_nights_10 : decode cL_nights 10 = .ok (.goto 11, 3) := by decide +kernel
theorem dL_nights_13 : decode cL_nights 13 = .ok (.astore 4, 2) := by decide +kernel
theorem dL_nights_15 : decode cL_nights 15 = .ok (.iconst 1, 1) := by decide +kernel
theorem dL_nights_16 : decode cL_nights 16 = .ok (.ireturn, 1) := by decide +kernel
theorem dL_nights_17 : decode cL_nights 17 = .ok (.astore 4, 2) := by decide +kernel
theorem dL_nights_19 : decode cL_nights 19 = .ok (.iconst 2, 1) := by decide +kernel
theorem dL_nights_20 : decode cL_nights 20 = .ok (.ireturn, 1) := by decide +kernel
theorem dL_nights_21 : decode cL_nights 21 = .ok (.iconst 0, 1) := by decide +kernel
theorem dL_nights_22 : decode cL_nights 22 = .ok (.ireturn, 1) := by decide +kernel
theorem dL_night_0 : decode cL_night 0 = .ok (.aload_n 3, 1) := by decide +kernel
theorem dL_night_1 : decode cL_night 1 = .ok (.iconst 0, 1) := by decide +kernel
theorem dL_night_2 : decode cL_night 2 = .ok (.aload_n 0, 1) := by decide +kernel
theorem dL_night_3 : decode cL_night 3 = .ok (.iload_n 1, 1) := by decide +kernel
theorem dL_night_4 : decode cL_night 4 = .ok (.iload_n 2, 1) := by decide +kernel
theorem dL_night_5 : decode cL_night 5 = .ok (.invokevirtual 80, 3) := by decide +kernel
theorem dL_night_8 : decode cL_night 8 = .ok (.i2l, 1) := by decide +kernel
theorem dL_night_9 : decode cL_night 9 = .ok (.lastore, 1) := by decide +kernel
theorem dL_night_10 : decode cL_night 10 = .ok (.goto 11, 3) := by decide +kernel
theorem dL_night_13 : decode cL_night 13 = .ok (.astore 4, 2) := by decide +kernel
theorem dL_night_15 : decode cL_night 15 = .ok (.iconst 1, 1) := by decide +kernel
theorem dL_night_16 : decode cL_night 16 = .ok (.ireturn, 1) := by decide +kernel
theorem dL_night_17 : decode cL_night 17 = .ok (.astore 4, 2) := by decide +kernel
theorem dL_night_19 : decode cL_night 19 = .ok (.iconst 2, 1) := by decide +kernel
theorem dL_night_20 : decode cL_night 20 = .ok (.ireturn, 1) := by decide +kernel
theorem dL_night_21 : decode cL_night 21 = .ok (.iconst 0, 1) := by decide +kernel
theorem dL_night_22 : decode cL_night 22 = .ok (.ireturn, 1) := by decide +kernel
theorem dL_looks_0 : decode cL_looks 0 = .ok (.aload 4, 2) := by decide +kernel
theorem dL_looks_2 : decode cL_looks 2 = .ok (.iconst 0, 1) := by decide +kernel
theorem dL_looks_3 : decode cL_looks 3 = .ok (.aload_n 0, 1) := by decide +kernel
theorem dL_looks_4 : decode cL_looks 4 = .ok (.iload_n 1, 1) := by decide +kernel
theorem dL_looks_5 : decode cL_looks 5 = .ok (.iload_n 2, 1) := by decide +kernel
theorem dL_looks_6 : decode cL_looks 6 = .ok (.iload_n 3, 1) := by decide +kernel
theorem dL_looks_7 : decode cL_looks 7 = .ok (.invokevirtual 83, 3) := by decide +kernel
theorem dL_looks_10 : decode cL_looks 10 = .ok (.i2l, 1) := by decide +kernel
theorem dL_looks_11 : decode cL_looks 11 = .ok (.lastore, 1) := by decide +kernel
theorem dL_looks_12 : decode cL_looks 12 = .ok (.goto 7, 3) := by decide +kernel
theorem dL_looks_15 : decode cL_looks 15 = .ok (.astore 5, 2) := by decide +kernel
theorem dL_looks_17 : decode cL_looks 17 = .ok (.iconst 1, 1) := by decide +kernel
theorem dL_looks_18 : decode cL_looks 18 = .ok (.ireturn, 1) := by decide +kernel
theorem dL_looks_19 : decode cL_looks 19 = .ok (.iconst 0, 1) := by decide +kernel
theorem dL_looks_20 : decode cL_looks 20 = .ok (.ireturn, 1) := by decide +kernel
theorem dL_leaky_0 : decode cL_leaky 0 = .ok (.aload_n 2, 1) := by decide +kernel
theorem dL_leaky_1 : decode cL_leaky 1 = .ok (.iconst 0, 1) := by decide +kernel
theorem dL_leaky_2 : decode cL_leaky 2 = .ok (.aload_n 0, 1) := by decide +kernel
theorem dL_leaky_3 : decode cL_leaky 3 = .ok (.iload_n 1, 1) := by decide +kernel
theorem dL_leaky_4 : decode cL_leaky 4 = .ok (.invokevirtual 86, 3) := by decide +kernel
theorem dL_leaky_7 : decode cL_leaky 7 = .ok (.i2l, 1) := by decide +kernel
theorem dL_leaky_8 : decode cL_leaky 8 = .ok (.lastore, 1) := by decide +kernel
theorem dL_leaky_9 : decode cL_leaky 9 = .ok (.goto 6, 3) := by decide +kernel
theorem dL_leaky_12 : decode cL_leaky 12 = .ok (.astore_n 3, 1) := by decide +kernel
theorem dL_leaky_13 : decode cL_leaky 13 = .ok (.iconst 1, 1) := by decide +kernel
theorem dL_leaky_14 : decode cL_leaky 14 = .ok (.ireturn, 1) := by decide +kernel
theorem dL_leaky_15 : decode cL_leaky 15 = .ok (.iconst 0, 1) := by decide +kernel
theorem dL_leaky_16 : decode cL_leaky 16 = .ok (.ireturn, 1) := by decide +kernel
theorem dL_misses_0 : decode cL_misses 0 = .ok (.aload_n 3, 1) := by decide +kernel
theorem dL_misses_1 : decode cL_misses 1 = .ok (.iconst 0, 1) := by decide +kernel
theorem dL_misses_2 : decode cL_misses 2 = .ok (.aload_n 0, 1) := by decide +kernel
theorem dL_misses_3 : decode cL_misses 3 = .ok (.iload_n 1, 1) := by decide +kernel
theorem dL_misses_4 : decode cL_misses 4 = .ok (.iload_n 2, 1) := by decide +kernel
theorem dL_misses_5 : decode cL_misses 5 = .ok (.invokevirtual 89, 3) := by decide +kernel
theorem dL_misses_8 : decode cL_misses 8 = .ok (.i2l, 1) := by decide +kernel
theorem dL_misses_9 : decode cL_misses 9 = .ok (.lastore, 1) := by decide +kernel
theorem dL_misses_10 : decode cL_misses 10 = .ok (.goto 11, 3) := by decide +kernel
theorem dL_misses_13 : decode cL_misses 13 = .ok (.astore 4, 2) := by decide +kernel
theorem dL_misses_15 : decode cL_misses 15 = .ok (.iconst 1, 1) := by decide +kernel
theorem dL_misses_16 : decode cL_misses 16 = .ok (.ireturn, 1) := by decide +kernel
theorem dL_misses_17 : decode cL_misses 17 = .ok (.astore 4, 2) := by decide +kernel
theorem dL_misses_19 : decode cL_misses 19 = .ok (.iconst 2, 1) := by decide +kernel
theorem dL_misses_20 : decode cL_misses 20 = .ok (.ireturn, 1) := by decide +kernel
theorem dL_misses_21 : decode cL_misses 21 = .ok (.iconst 0, 1) := by decide +kernel
theorem dL_misses_22 : decode cL_misses 22 = .ok (.ireturn, 1) := by decide +kernel
theorem dL_seam_0 : decode cL_seam 0 = .ok (.aload 5, 2) := by decide +kernel
theorem dL_seam_2 : decode cL_seam 2 = .ok (.iconst 0, 1) := by decide +kernel
theorem dL_seam_3 : decode cL_seam 3 = .ok (.aload_n 0, 1) := by decide +kernel
theorem dL_seam_4 : decode cL_seam 4 = .ok (.iload_n 1, 1) := by decide +kernel
theorem dL_seam_5 : decode cL_seam 5 = .ok (.iload_n 2, 1) := by decide +kernel
theorem dL_seam_6 : decode cL_seam 6 = .ok (.iload_n 3, 1) := by decide +kernel
theorem dL_seam_7 : decode cL_seam 7 = .ok (.iload 4, 2) := by decide +kernel
theorem dL_seam_9 : decode cL_seam 9 = .ok (.invokevirtual 92, 3) := by decide +kernel
theorem dL_seam_12 : decode cL_seam 12 = .ok (.i2l, 1) := by decide +kernel
theorem dL_seam_13 : decode cL_seam 13 = .ok (.lastore, 1) := by decide +kernel
theorem dL_seam_14 : decode cL_seam 14 = .ok (.goto 11, 3) := by decide +kernel
theorem dL_seam_17 : decode cL_seam 17 = .ok (.astore 6, 2) := by decide +kernel
theorem dL_seam_19 : decode cL_seam 19 = .ok (.iconst 1, 1) := by decide +kernel
theorem dL_seam_20 : decode cL_seam 20 = .ok (.ireturn, 1) := by decide +kernel
theorem dL_seam_21 : decode cL_seam 21 = .ok (.astore 6, 2) := by decide +kernel
theorem dL_seam_23 : decode cL_seam 23 = .ok (.iconst 2, 1) := by decide +kernel
theorem dL_seam_24 : decode cL_seam 24 = .ok (.ireturn, 1) := by decide +kernel
theorem dL_seam_25 : decode cL_seam 25 = .ok (.iconst 0, 1) := by decide +kernel
theorem dL_seam_26 : decode cL_seam 26 = .ok (.ireturn, 1) := by decide +kernel
theorem dL_sellers_0 : decode cL_sellers 0 = .ok (.aload 4, 2) := by decide +kernel
theorem dL_sellers_2 : decode cL_sellers 2 = .ok (.iconst 0, 1) := by decide +kernel
theorem dL_sellers_3 : decode cL_sellers 3 = .ok (.aload_n 0, 1) := by decide +kernel
theorem dL_sellers_4 : decode cL_sellers 4 = .ok (.iload_n 1, 1) := by decide +kernel
theorem dL_sellers_5 : decode cL_sellers 5 = .ok (.iload_n 2, 1) := by decide +kernel
theorem dL_sellers_6 : decode cL_sellers 6 = .ok (.iload_n 3, 1) := by decide +kernel
theorem dL_sellers_7 : decode cL_sellers 7 = .ok (.invokevirtual 95, 3) := by decide +kernel
theorem dL_sellers_10 : decode cL_sellers 10 = .ok (.i2l, 1) := by decide +kernel
theorem dL_sellers_11 : decode cL_sellers 11 = .ok (.lastore, 1) := by decide +kernel
theorem dL_sellers_12 : decode cL_sellers 12 = .ok (.goto 11, 3) := by decide +kernel
theorem dL_sellers_15 : decode cL_sellers 15 = .ok (.astore 5, 2) := by decide +kernel
theorem dL_sellers_17 : decode cL_sellers 17 = .ok (.iconst 1, 1) := by decide +kernel
theorem dL_sellers_18 : decode cL_sellers 18 = .ok (.ireturn, 1) := by decide +kernel
theorem dL_sellers_19 : decode cL_sellers 19 = .ok (.astore 5, 2) := by decide +kernel
theorem dL_sellers_21 : decode cL_sellers 21 = .ok (.iconst 2, 1) := by decide +kernel
theorem dL_sellers_22 : decode cL_sellers 22 = .ok (.ireturn, 1) := by decide +kernel
theorem dL_sellers_23 : decode cL_sellers 23 = .ok (.iconst 0, 1) := by decide +kernel
theorem dL_sellers_24 : decode cL_sellers 24 = .ok (.ireturn, 1) := by decide +kernel
theorem dL_gets_0 : decode cL_gets 0 = .ok (.aload 4, 2) := by decide +kernel
theorem dL_gets_2 : decode cL_gets 2 = .ok (.iconst 0, 1) := by decide +kernel
theorem dL_gets_3 : decode cL_gets 3 = .ok (.aload_n 0, 1) := by decide +kernel
theorem dL_gets_4 : decode cL_gets 4 = .ok (.iload_n 1, 1) := by decide +kernel
theorem dL_gets_5 : decode cL_gets 5 = .ok (.iload_n 2, 1) := by decide +kernel
theorem dL_gets_6 : decode cL_gets 6 = .ok (.iload_n 3, 1) := by decide +kernel
theorem dL_gets_7 : decode cL_gets 7 = .ok (.invokevirtual 98, 3) := by decide +kernel
theorem dL_gets_10 : decode cL_gets 10 = .ok (.i2l, 1) := by decide +kernel
theorem dL_gets_11 : decode cL_gets 11 = .ok (.lastore, 1) := by decide +kernel
theorem dL_gets_12 : decode cL_gets 12 = .ok (.goto 11, 3) := by decide +kernel
theorem dL_gets_15 : decode cL_gets 15 = .ok (.astore 5, 2) := by decide +kernel
theorem dL_gets_17 : decode cL_gets 17 = .ok (.iconst 1, 1) := by decide +kernel
theorem dL_gets_18 : decode cL_gets 18 = .ok (.ireturn, 1) := by decide +kernel
theorem dL_gets_19 : decode cL_gets 19 = .ok (.astore 5, 2) := by decide +kernel
theorem dL_gets_21 : decode cL_gets 21 = .ok (.iconst 2, 1) := by decide +kernel
theorem dL_gets_22 : decode cL_gets 22 = .ok (.ireturn, 1) := by decide +kernel
theorem dL_gets_23 : decode cL_gets 23 = .ok (.iconst 0, 1) := by decide +kernel
theorem dL_gets_24 : decode cL_gets 24 = .ok (.ireturn, 1) := by decide +kernel
theorem dL_moons_0 : decode cL_moons 0 = .ok (.aload_n 2, 1) := by decide +kernel
theorem dL_moons_1 : decode cL_moons 1 = .ok (.iconst 0, 1) := by decide +kernel
theorem dL_moons_2 : decode cL_moons 2 = .ok (.aload_n 0, 1) := by decide +kernel
theorem dL_moons_3 : decode cL_moons 3 = .ok (.iload_n 1, 1) := by decide +kernel
theorem dL_moons_4 : decode cL_moons 4 = .ok (.invokevirtual 101, 3) := by decide +kernel
theorem dL_moons_7 : decode cL_moons 7 = .ok (.i2l, 1) := by decide +kernel
theorem dL_moons_8 : decode cL_moons 8 = .ok (.lastore, 1) := by decide +kernel
theorem dL_moons_9 : decode cL_moons 9 = .ok (.goto 6, 3) := by decide +kernel
theorem dL_moons_12 : decode cL_moons 12 = .ok (.astore_n 3, 1) := by decide +kernel
theorem dL_moons_13 : decode cL_moons 13 = .ok (.iconst 1, 1) := by decide +kernel
theorem dL_moons_14 : decode cL_moons 14 = .ok (.ireturn, 1) := by decide +kernel
theorem dL_moons_15 : decode cL_moons 15 = .ok (.iconst 0, 1) := by decide +kernel
theorem dL_moons_16 : decode cL_moons 16 = .ok (.ireturn, 1) := by decide +kernel
theorem dL_dark_0 : decode cL_dark 0 = .ok (.aload_n 2, 1) := by decide +kernel
theorem dL_dark_1 : decode cL_dark 1 = .ok (.iconst 0, 1) := by decide +kernel
theorem dL_dark_2 : decode cL_dark 2 = .ok (.aload_n 0, 1) := by decide +kernel
theorem dL_dark_3 : decode cL_dark 3 = .ok (.iload_n 1, 1) := by decide +kernel
theorem dL_dark_4 : decode cL_dark 4 = .ok (.invokevirtual 104, 3) := by decide +kernel
theorem dL_dark_7 : decode cL_dark 7 = .ok (.i2l, 1) := by decide +kernel
theorem dL_dark_8 : decode cL_dark 8 = .ok (.lastore, 1) := by decide +kernel
theorem dL_dark_9 : decode cL_dark 9 = .ok (.goto 6, 3) := by decide +kernel
theorem dL_dark_12 : decode cL_dark 12 = .ok (.astore_n 3, 1) := by decide +kernel
theorem dL_dark_13 : decode cL_dark 13 = .ok (.iconst 1, 1) := by decide +kernel
theorem dL_dark_14 : decode cL_dark 14 = .ok (.ireturn, 1) := by decide +kernel
theorem dL_dark_15 : decode cL_dark 15 = .ok (.iconst 0, 1) := by decide +kernel
theorem dL_dark_16 : decode cL_dark 16 = .ok (.ireturn, 1) := by decide +kernel
theorem dL_bright_0 : decode cL_bright 0 = .ok (.aload_n 2, 1) := by decide +kernel
theorem dL_bright_1 : decode cL_bright 1 = .ok (.iconst 0, 1) := by decide +kernel
theorem dL_bright_2 : decode cL_bright 2 = .ok (.aload_n 0, 1) := by decide +kernel
theorem dL_bright_3 : decode cL_bright 3 = .ok (.iload_n 1, 1) := by decide +kernel
theorem dL_bright_4 : decode cL_bright 4 = .ok (.invokevirtual 107, 3) := by decide +kernel
theorem dL_bright_7 : decode cL_bright 7 = .ok (.i2l, 1) := by decide +kernel
theorem dL_bright_8 : decode cL_bright 8 = .ok (.lastore, 1) := by decide +kernel
theorem dL_bright_9 : decode cL_bright 9 = .ok (.goto 6, 3) := by decide +kernel
theorem dL_bright_12 : decode cL_bright 12 = .ok (.astore_n 3, 1) := by decide +kernel
theorem dL_bright_13 : decode cL_bright 13 = .ok (.iconst 1, 1) := by decide +kernel
theorem dL_bright_14 : decode cL_bright 14 = .ok (.ireturn, 1) := by decide +kernel
theorem dL_bright_15 : decode cL_bright 15 = .ok (.iconst 0, 1) := by decide +kernel
theorem dL_bright_16 : decode cL_bright 16 = .ok (.ireturn, 1) := by decide +kernel
theorem dL_darks_0 : decode cL_darks 0 = .ok (.aload_n 3, 1) := by decide +kernel
theorem dL_darks_1 : decode cL_darks 1 = .ok (.iconst 0, 1) := by decide +kernel
theorem dL_darks_2 : decode cL_darks 2 = .ok (.aload_n 0, 1) := by decide +kernel
theorem dL_darks_3 : decode cL_darks 3 = .ok (.iload_n 1, 1) := by decide +kernel
theorem dL_darks_4 : decode cL_darks 4 = .ok (.iload_n 2, 1) := by decide +kernel
theorem dL_darks_5 : decode cL_darks 5 = .ok (.invokevirtual 110, 3) := by decide +kernel
theorem dL_darks_8 : decode cL_darks 8 = .ok (.i2l, 1) := by decide +kernel
theorem dL_darks_9 : decode cL_darks 9 = .ok (.lastore, 1) := by decide +kernel
theorem dL_darks_10 : decode cL_darks 10 = .ok (.goto 7, 3) := by decide +kernel
theorem dL_darks_13 : decode cL_darks 13 = .ok (.astore 4, 2) := by decide +kernel
theorem dL_darks_15 : decode cL_darks 15 = .ok (.iconst 1, 1) := by decide +kernel
theorem dL_darks_16 : decode cL_darks 16 = .ok (.ireturn, 1) := by decide +kernel
theorem dL_darks_17 : decode cL_darks 17 = .ok (.iconst 0, 1) := by decide +kernel
theorem dL_darks_18 : decode cL_darks 18 = .ok (.ireturn, 1) := by decide +kernel
theorem dL_clouds_0 : decode cL_clouds 0 = .ok (.aload 6, 2) := by decide +kernel
theorem dL_clouds_2 : decode cL_clouds 2 = .ok (.iconst 0, 1) := by decide +kernel
theorem dL_clouds_3 : decode cL_clouds 3 = .ok (.aload_n 0, 1) := by decide +kernel
theorem dL_clouds_4 : decode cL_clouds 4 = .ok (.iload_n 1, 1) := by decide +kernel
theorem dL_clouds_5 : decode cL_clouds 5 = .ok (.iload_n 2, 1) := by decide +kernel
theorem dL_clouds_6 : decode cL_clouds 6 = .ok (.iload_n 3, 1) := by decide +kernel
theorem dL_clouds_7 : decode cL_clouds 7 = .ok (.iload 4, 2) := by decide +kernel
theorem dL_clouds_9 : decode cL_clouds 9 = .ok (.iload 5, 2) := by decide +kernel
theorem dL_clouds_11 : decode cL_clouds 11 = .ok (.invokevirtual 113, 3) := by decide +kernel
theorem dL_clouds_14 : decode cL_clouds 14 = .ok (.i2l, 1) := by decide +kernel
theorem dL_clouds_15 : decode cL_clouds 15 = .ok (.lastore, 1) := by decide +kernel
theorem dL_clouds_16 : decode cL_clouds 16 = .ok (.goto 7, 3) := by decide +kernel
theorem dL_clouds_19 : decode cL_clouds 19 = .ok (.astore 7, 2) := by decide +kernel
theorem dL_clouds_21 : decode cL_clouds 21 = .ok (.iconst 1, 1) := by decide +kernel
theorem dL_clouds_22 : decode cL_clouds 22 = .ok (.ireturn, 1) := by decide +kernel
theorem dL_clouds_23 : decode cL_clouds 23 = .ok (.iconst 0, 1) := by decide +kernel
theorem dL_clouds_24 : decode cL_clouds 24 = .ok (.ireturn, 1) := by decide +kernel
theorem dL_span_0 : decode cL_span 0 = .ok (.aload 7, 2) := by decide +kernel
theorem dL_span_2 : decode cL_span 2 = .ok (.iconst 0, 1) := by decide +kernel
theorem dL_span_3 : decode cL_span 3 = .ok (.aload_n 0, 1) := by decide +kernel
theorem dL_span_4 : decode cL_span 4 = .ok (.iload_n 1, 1) := by decide +kernel
theorem dL_span_5 : decode cL_span 5 = .ok (.iload_n 2, 1) := by decide +kernel
theorem dL_span_6 : decode cL_span 6 = .ok (.iload_n 3, 1) := by decide +kernel
theorem dL_span_7 : decode cL_span 7 = .ok (.iload 4, 2) := by decide +kernel
theorem dL_span_9 : decode cL_span 9 = .ok (.iload 5, 2) := by decide +kernel
theorem dL_span_11 : decode cL_span 11 = .ok (.iload 6, 2) := by decide +kernel
theorem dL_span_13 : decode cL_span 13 = .ok (.invokevirtual 117, 3) := by decide +kernel
theorem dL_span_16 : decode cL_span 16 = .ok (.i2l, 1) := by decide +kernel
theorem dL_span_17 : decode cL_span 17 = .ok (.lastore, 1) := by decide +kernel
theorem dL_span_18 : decode cL_span 18 = .ok (.goto 7, 3) := by decide +kernel
theorem dL_span_21 : decode cL_span 21 = .ok (.astore 8, 2) := by decide +kernel
theorem dL_span_23 : decode cL_span 23 = .ok (.iconst 1, 1) := by decide +kernel
theorem dL_span_24 : decode cL_span 24 = .ok (.ireturn, 1) := by decide +kernel
theorem dL_span_25 : decode cL_span 25 = .ok (.iconst 0, 1) := by decide +kernel
theorem dL_span_26 : decode cL_span 26 = .ok (.ireturn, 1) := by decide +kernel
theorem dL_ahead_0 : decode cL_ahead 0 = .ok (.aload 4, 2) := by decide +kernel
theorem dL_ahead_2 : decode cL_ahead 2 = .ok (.iconst 0, 1) := by decide +kernel
theorem dL_ahead_3 : decode cL_ahead 3 = .ok (.aload_n 0, 1) := by decide +kernel
theorem dL_ahead_4 : decode cL_ahead 4 = .ok (.iload_n 1, 1) := by decide +kernel
theorem dL_ahead_5 : decode cL_ahead 5 = .ok (.iload_n 2, 1) := by decide +kernel
theorem dL_ahead_6 : decode cL_ahead 6 = .ok (.iload_n 3, 1) := by decide +kernel
theorem dL_ahead_7 : decode cL_ahead 7 = .ok (.invokevirtual 121, 3) := by decide +kernel
theorem dL_ahead_10 : decode cL_ahead 10 = .ok (.i2l, 1) := by decide +kernel
theorem dL_ahead_11 : decode cL_ahead 11 = .ok (.lastore, 1) := by decide +kernel
theorem dL_ahead_12 : decode cL_ahead 12 = .ok (.goto 11, 3) := by decide +kernel
theorem dL_ahead_15 : decode cL_ahead 15 = .ok (.astore 5, 2) := by decide +kernel
theorem dL_ahead_17 : decode cL_ahead 17 = .ok (.iconst 1, 1) := by decide +kernel
theorem dL_ahead_18 : decode cL_ahead 18 = .ok (.ireturn, 1) := by decide +kernel
theorem dL_ahead_19 : decode cL_ahead 19 = .ok (.astore 5, 2) := by decide +kernel
theorem dL_ahead_21 : decode cL_ahead 21 = .ok (.iconst 2, 1) := by decide +kernel
theorem dL_ahead_22 : decode cL_ahead 22 = .ok (.ireturn, 1) := by decide +kernel
theorem dL_ahead_23 : decode cL_ahead 23 = .ok (.iconst 0, 1) := by decide +kernel
theorem dL_ahead_24 : decode cL_ahead 24 = .ok (.ireturn, 1) := by decide +kernel
theorem dL_chosen_0 : decode cL_chosen 0 = .ok (.aload_n 2, 1) := by decide +kernel
theorem dL_chosen_1 : decode cL_chosen 1 = .ok (.iconst 0, 1) := by decide +kernel
theorem dL_chosen_2 : decode cL_chosen 2 = .ok (.aload_n 0, 1) := by decide +kernel
theorem dL_chosen_3 : decode cL_chosen 3 = .ok (.iload_n 1, 1) := by decide +kernel
theorem dL_chosen_4 : decode cL_chosen 4 = .ok (.invokevirtual 124, 3) := by decide +kernel
theorem dL_chosen_7 : decode cL_chosen 7 = .ok (.i2l, 1) := by decide +kernel
theorem dL_chosen_8 : decode cL_chosen 8 = .ok (.lastore, 1) := by decide +kernel
theorem dL_chosen_9 : decode cL_chosen 9 = .ok (.goto 6, 3) := by decide +kernel
theorem dL_chosen_12 : decode cL_chosen 12 = .ok (.astore_n 3, 1) := by decide +kernel
theorem dL_chosen_13 : decode cL_chosen 13 = .ok (.iconst 1, 1) := by decide +kernel
theorem dL_chosen_14 : decode cL_chosen 14 = .ok (.ireturn, 1) := by decide +kernel
theorem dL_chosen_15 : decode cL_chosen 15 = .ok (.iconst 0, 1) := by decide +kernel
theorem dL_chosen_16 : decode cL_chosen 16 = .ok (.ireturn, 1) := by decide +kernel
