theorem dX11_can_0 : decode cX11_can 0 = .ok (.aload_n 0, 1) := by decide +kernel
theorem dX11_can_1 : decode cX11_can 1 = .ok (.iload_n 1, 1) := by decide +kernel
theorem dX11_can_2 : decode cX11_can 2 = .ok (.invokevirtual 225, 3) := by decide +kernel
theorem dX11_can_5 : decode cX11_can 5 = .ok (.aload_n 0, 1) := by decide +kernel
theorem dX11_can_6 : decode cX11_can 6 = .ok (.getfield 19, 3) := by decide +kernel
theorem dX11_can_9 : decode cX11_can 9 = .ok (.iload_n 1, 1) := by decide +kernel
theorem dX11_can_10 : decode cX11_can 10 = .ok (.invokevirtual 246, 3) := by decide +kernel
theorem dX11_can_13 : decode cX11_can 13 = .ok (.ireturn, 1) := by decide +kernel
theorem dX11_sales_0 : decode cX11_sales 0 = .ok (.aload_n 0, 1) := by decide +kernel
theorem dX11_sales_1 : decode cX11_sales 1 = .ok (.iload_n 1, 1) := by decide +kernel
theorem dX11_sales_2 : decode cX11_sales 2 = .ok (.iconst 0, 1) := by decide +kernel
theorem dX11_sales_3 : decode cX11_sales 3 = .ok (.iconst 1, 1) := by decide +kernel
theorem dX11_sales_4 : decode cX11_sales 4 = .ok (.invokestatic 140, 3) := by decide +kernel
theorem dX11_sales_7 : decode cX11_sales 7 = .ok (.invokevirtual 100, 3) := by decide +kernel
theorem dX11_sales_10 : decode cX11_sales 10 = .ok (.iload_n 1, 1) := by decide +kernel
theorem dX11_sales_11 : decode cX11_sales 11 = .ok (.ifCond .ne 15, 3) := by decide +kernel
theorem dX11_sales_14 : decode cX11_sales 14 = .ok (.aload_n 0, 1) := by decide +kernel
theorem dX11_sales_15 : decode cX11_sales 15 = .ok (.getfield 28, 3) := by decide +kernel
theorem dX11_sales_18 : decode cX11_sales 18 = .ok (.iconst (-1), 1) := by decide +kernel
theorem dX11_sales_19 : decode cX11_sales 19 = .ok (.iconst 0, 1) := by decide +kernel
theorem dX11_sales_20 : decode cX11_sales 20 = .ok (.invokevirtual 250, 3) := by decide +kernel
theorem dX11_sales_23 : decode cX11_sales 23 = .ok (.goto 10, 3) := by decide +kernel
theorem dX11_sales_26 : decode cX11_sales 26 = .ok (.aload_n 0, 1) := by decide +kernel
theorem dX11_sales_27 : decode cX11_sales 27 = .ok (.getfield 28, 3) := by decide +kernel
theorem dX11_sales_30 : decode cX11_sales 30 = .ok (.invokevirtual 253, 3) := by decide +kernel
theorem dX11_sales_33 : decode cX11_sales 33 = .ok (.ireturn, 1) := by decide +kernel
theorem dX11_more_0 : decode cX11_more 0 = .ok (.aload_n 0, 1) := by decide +kernel
theorem dX11_more_1 : decode cX11_more 1 = .ok (.iload_n 1, 1) := by decide +kernel
theorem dX11_more_2 : decode cX11_more 2 = .ok (.invokevirtual 215, 3) := by decide +kernel
theorem dX11_more_5 : decode cX11_more 5 = .ok (.aload_n 0, 1) := by decide +kernel
theorem dX11_more_6 : decode cX11_more 6 = .ok (.iload_n 2, 1) := by decide +kernel
theorem dX11_more_7 : decode cX11_more 7 = .ok (.iconst 0, 1) := by decide +kernel
theorem dX11_more_8 : decode cX11_more 8 = .ok (.bipush 99, 2) := by decide +kernel
theorem dX11_more_10 : decode cX11_more 10 = .ok (.invokestatic 140, 3) := by decide +kernel
theorem dX11_more_13 : decode cX11_more 13 = .ok (.invokevirtual 100, 3) := by decide +kernel
theorem dX11_more_16 : decode cX11_more 16 = .ok (.aload_n 0, 1) := by decide +kernel
theorem dX11_more_17 : decode cX11_more 17 = .ok (.getfield 28, 3) := by decide +kernel
theorem dX11_more_20 : decode cX11_more 20 = .ok (.iload_n 1, 1) := by decide +kernel
theorem dX11_more_21 : decode cX11_more 21 = .ok (.iload_n 2, 1) := by decide +kernel
theorem dX11_more_22 : decode cX11_more 22 = .ok (.invokevirtual 250, 3) := by decide +kernel
theorem dX11_more_25 : decode cX11_more 25 = .ok (.ireturn, 1) := by decide +kernel
theorem dX11_brings_0 : decode cX11_brings 0 = .ok (.aload_n 0, 1) := by decide +kernel
theorem dX11_brings_1 : decode cX11_brings 1 = .ok (.iload_n 1, 1) := by decide +kernel
theorem dX11_brings_2 : decode cX11_brings 2 = .ok (.invokevirtual 215, 3) := by decide +kernel
theorem dX11_brings_5 : decode cX11_brings 5 = .ok (.aload_n 0, 1) := by decide +kernel
theorem dX11_brings_6 : decode cX11_brings 6 = .ok (.iload_n 2, 1) := by decide +kernel
theorem dX11_brings_7 : decode cX11_brings 7 = .ok (.invokevirtual 215, 3) := by decide +kernel
theorem dX11_brings_10 : decode cX11_brings 10 = .ok (.aload_n 0, 1) := by decide +kernel
theorem dX11_brings_11 : decode cX11_brings 11 = .ok (.iload_n 1, 1) := by decide +kernel
theorem dX11_brings_12 : decode cX11_brings 12 = .ok (.iload_n 2, 1) := by decide +kernel
theorem dX11_brings_13 : decode cX11_brings 13 = .ok (.if_icmp .eq 16, 3) := by decide +kernel
theorem dX11_brings_16 : decode cX11_brings 16 = .ok (.iload_n 3, 1) := by decide +kernel
theorem dX11_brings_17 : decode cX11_brings 17 = .ok (.iconst 0, 1) := by decide +kernel
theorem dX11_brings_18 : decode cX11_brings 18 = .ok (.iconst 1, 1) := by decide +kernel
theorem dX11_brings_19 : decode cX11_brings 19 = .ok (.invokestatic 140, 3) := by decide +kernel
theorem dX11_brings_22 : decode cX11_brings 22 = .ok (.ifCond .eq 7, 3) := by decide +kernel
theorem dX11_brings_25 : decode cX11_brings 25 = .ok (.iconst 1, 1) := by decide +kernel
theorem dX11_brings_26 : decode cX11_brings 26 = .ok (.goto 4, 3) := by decide +kernel
theorem dX11_brings_29 : decode cX11_brings 29 = .ok (.iconst 0, 1) := by decide +kernel
theorem dX11_brings_30 : decode cX11_brings 30 = .ok (.invokevirtual 100, 3) := by decide +kernel
theorem dX11_brings_33 : decode cX11_brings 33 = .ok (.aload_n 0, 1) := by decide +kernel
theorem dX11_brings_34 : decode cX11_brings 34 = .ok (.getfield 28, 3) := by decide +kernel
theorem dX11_brings_37 : decode cX11_brings 37 = .ok (.iload_n 1, 1) := by decide +kernel
theorem dX11_brings_38 : decode cX11_brings 38 = .ok (.iload_n 2, 1) := by decide +kernel
theorem dX11_brings_39 : decode cX11_brings 39 = .ok (.invokevirtual 256, 3) := by decide +kernel
theorem dX11_brings_42 : decode cX11_brings 42 = .ok (.iload_n 3, 1) := by decide +kernel
theorem dX11_brings_43 : decode cX11_brings 43 = .ok (.ifCond .ne 13, 3) := by decide +kernel
theorem dX11_brings_46 : decode cX11_brings 46 = .ok (.aload_n 0, 1) := by decide +kernel
theorem dX11_brings_47 : decode cX11_brings 47 = .ok (.getfield 28, 3) := by decide +kernel
theorem dX11_brings_50 : decode cX11_brings 50 = .ok (.getfield 260, 3) := by decide +kernel
theorem dX11_brings_53 : decode cX11_brings 53 = .ok (.goto 10, 3) := by decide +kernel
theorem dX11_brings_56 : decode cX11_brings 56 = .ok (.aload_n 0, 1) := by decide +kernel
theorem dX11_brings_57 : decode cX11_brings 57 = .ok (.getfield 28, 3) := by decide +kernel
theorem dX11_brings_60 : decode cX11_brings 60 = .ok (.getfield 263, 3) := by decide +kernel
theorem dX11_brings_63 : decode cX11_brings 63 = .ok (.ireturn, 1) := by decide +kernel
theorem dX11_price_0 : decode cX11_price 0 = .ok (.aload_n 0, 1) := by decide +kernel
theorem dX11_price_1 : decode cX11_price 1 = .ok (.iload_n 1, 1) := by decide +kernel
theorem dX11_price_2 : decode cX11_price 2 = .ok (.invokevirtual 215, 3) := by decide +kernel
theorem dX11_price_5 : decode cX11_price 5 = .ok (.aload_n 0, 1) := by decide +kernel
theorem dX11_price_6 : decode cX11_price 6 = .ok (.getfield 28, 3) := by decide +kernel
theorem dX11_price_9 : decode cX11_price 9 = .ok (.iload_n 1, 1) := by decide +kernel
theorem dX11_price_10 : decode cX11_price 10 = .ok (.invokevirtual 266, 3) := by decide +kernel
theorem dX11_price_13 : decode cX11_price 13 = .ok (.ireturn, 1) := by decide +kernel
theorem dX11_corner_0 : decode cX11_corner 0 = .ok (.aload_n 0, 1) := by decide +kernel
theorem dX11_corner_1 : decode cX11_corner 1 = .ok (.iload_n 1, 1) := by decide +kernel
theorem dX11_corner_2 : decode cX11_corner 2 = .ok (.invokevirtual 215, 3) := by decide +kernel
theorem dX11_corner_5 : decode cX11_corner 5 = .ok (.aload_n 0, 1) := by decide +kernel
theorem dX11_corner_6 : decode cX11_corner 6 = .ok (.iload_n 2, 1) := by decide +kernel
theorem dX11_corner_7 : decode cX11_corner 7 = .ok (.iconst 0, 1) := by decide +kernel
theorem dX11_corner_8 : decode cX11_corner 8 = .ok (.bipush 100, 2) := by decide +kernel
theorem dX11_corner_10 : decode cX11_corner 10 = .ok (.invokestatic 140, 3) := by decide +kernel
theorem dX11_corner_13 : decode cX11_corner 13 = .ok (.invokevirtual 100, 3) := by decide +kernel
theorem dX11_corner_16 : decode cX11_corner 16 = .ok (.aload_n 0, 1) := by decide +kernel
theorem dX11_corner_17 : decode cX11_corner 17 = .ok (.getfield 28, 3) := by decide +kernel
theorem dX11_corner_20 : decode cX11_corner 20 = .ok (.iload_n 1, 1) := by decide +kernel
theorem dX11_corner_21 : decode cX11_corner 21 = .ok (.iload_n 2, 1) := by decide +kernel
theorem dX11_corner_22 : decode cX11_corner 22 = .ok (.invokevirtual 269, 3) := by decide +kernel
theorem dX11_corner_25 : decode cX11_corner 25 = .ok (.ireturn, 1) := by decide +kernel
theorem dX11_option_0 : decode cX11_option 0 = .ok (.aload_n 0, 1) := by decide +kernel
theorem dX11_option_1 : decode cX11_option 1 = .ok (.iload_n 1, 1) := by decide +kernel
theorem dX11_option_2 : decode cX11_option 2 = .ok (.iload_n 2, 1) := by decide +kernel
theorem dX11_option_3 : decode cX11_option 3 = .ok (.iload_n 3, 1) := by decide +kernel
theorem dX11_option_4 : decode cX11_option 4 = .ok (.iload 4, 2) := by decide +kernel
theorem dX11_option_6 : decode cX11_option 6 = .ok (.iload 5, 2) := by decide +kernel
theorem dX11_option_8 : decode cX11_option 8 = .ok (.iload 6, 2) := by decide +kernel
theorem dX11_option_10 : decode cX11_option 10 = .ok (.invokestatic 272, 3) := by decide +kernel
theorem dX11_option_13 : decode cX11_option 13 = .ok (.ifCond .eq 17, 3) := by decide +kernel
theorem dX11_option_16 : decode cX11_option 16 = .ok (.iload 7, 2) := by decide +kernel
theorem dX11_option_18 : decode cX11_option 18 = .ok (.iconst 0, 1) := by decide +kernel
theorem dX11_option_19 : decode cX11_option 19 = .ok (.iconst 1, 1) := by decide +kernel
theorem dX11_option_20 : decode cX11_option 20 = .ok (.invokestatic 140, 3) := by decide +kernel
theorem dX11_option_23 : decode cX11_option 23 = .ok (.ifCond .eq 7, 3) := by decide +kernel
theorem dX11_option_26 : decode cX11_option 26 = .ok (.iconst 1, 1) := by decide +kernel
theorem dX11_option_27 : decode cX11_option 27 = .ok (.goto 4, 3) := by decide +kernel
theorem dX11_option_30 : decode cX11_option 30 = .ok (.iconst 0, 1) := by decide +kernel
theorem dX11_option_31 : decode cX11_option 31 = .ok (.invokevirtual 100, 3) := by decide +kernel
theorem dX11_option_34 : decode cX11_option 34 = .ok (.iload_n 1, 1) := by decide +kernel
theorem dX11_option_35 : decode cX11_option 35 = .ok (.iload_n 2, 1) := by decide +kernel
theorem dX11_option_36 : decode cX11_option 36 = .ok (.iload_n 3, 1) := by decide +kernel
theorem dX11_option_37 : decode cX11_option 37 = .ok (.iload 4, 2) := by decide +kernel
theorem dX11_option_39 : decode cX11_option 39 = .ok (.iload 5, 2) := by decide +kernel
theorem dX11_option_41 : decode cX11_option 41 = .ok (.iload 6, 2) := by decide +kernel
theorem dX11_option_43 : decode cX11_option 43 = .ok (.iconst 0, 1) := by decide +kernel
theorem dX11_option_44 : decode cX11_option 44 = .ok (.invokestatic 276, 3) := by decide +kernel
theorem dX11_option_47 : decode cX11_option 47 = .ok (.iload 6, 2) := by decide +kernel
theorem dX11_option_49 : decode cX11_option 49 = .ok (.iload 7, 2) := by decide +kernel
theorem dX11_option_51 : decode cX11_option 51 = .ok (.invokestatic 280, 3) := by decide +kernel
theorem dX11_option_54 : decode cX11_option 54 = .ok (.lreturn, 1) := by decide +kernel
theorem dX11_late_0 : decode cX11_late 0 = .ok (.aload_n 0, 1) := by decide +kernel
theorem dX11_late_1 : decode cX11_late 1 = .ok (.iload_n 1, 1) := by decide +kernel
theorem dX11_late_2 : decode cX11_late 2 = .ok (.iload_n 2, 1) := by decide +kernel
theorem dX11_late_3 : decode cX11_late 3 = .ok (.iload_n 3, 1) := by decide +kernel
theorem dX11_late_4 : decode cX11_late 4 = .ok (.iload 4, 2) := by decide +kernel
theorem dX11_late_6 : decode cX11_late 6 = .ok (.iload 5, 2) := by decide +kernel
theorem dX11_late_8 : decode cX11_late 8 = .ok (.iload 6, 2) := by decide +kernel
theorem dX11_late_10 : decode cX11_late 10 = .ok (.invokestatic 272, 3) := by decide +kernel
theorem dX11_late_13 : decode cX11_late 13 = .ok (.ifCond .eq 17, 3) := by decide +kernel
theorem dX11_late_16 : decode cX11_late 16 = .ok (.iload 7, 2) := by decide +kernel
theorem dX11_late_18 : decode cX11_late 18 = .ok (.iconst 0, 1) := by decide +kernel
theorem dX11_late_19 : decode cX11_late 19 = .ok (.iconst 1, 1) := by decide +kernel
theorem dX11_late_20 : decode cX11_late 20 = .ok (.invokestatic 140, 3) := by decide +kernel
theorem dX11_late_23 : decode cX11_late 23 = .ok (.ifCond .eq 7, 3) := by decide +kernel
theorem dX11_late_26 : decode cX11_late 26 = .ok (.iconst 1, 1) := by decide +kernel
theorem dX11_late_27 : decode cX11_late 27 = .ok (.goto 4, 3) := by decide +kernel
theorem dX11_late_30 : decode cX11_late 30 = .ok (.iconst 0, 1) := by decide +kernel
theorem dX11_late_31 : decode cX11_late 31 = .ok (.invokevirtual 100, 3) := by decide +kernel
theorem dX11_late_34 : decode cX11_late 34 = .ok (.iload_n 1, 1) := by decide +kernel
theorem dX11_late_35 : decode cX11_late 35 = .ok (.iload_n 2, 1) := by decide +kernel
theorem dX11_late_36 : decode cX11_late 36 = .ok (.iload_n 3, 1) := by decide +kernel
theorem dX11_late_37 : decode cX11_late 37 = .ok (.iload 4, 2) := by decide +kernel
theorem dX11_late_39 : decode cX11_late 39 = .ok (.iload 5, 2) := by decide +kernel
theorem dX11_late_41 : decode cX11_late 41 = .ok (.iload 6, 2) := by decide +kernel
theorem dX11_late_43 : decode cX11_late 43 = .ok (.iconst 1, 1) := by decide +kernel
theorem dX11_late_44 : decode cX11_late 44 = .ok (.invokestatic 276, 3) := by decide +kernel
theorem dX11_late_47 : decode cX11_late 47 = .ok (.iload 6, 2) := by decide +kernel
theorem dX11_late_49 : decode cX11_late 49 = .ok (.iload 7, 2) := by decide +kernel
theorem dX11_late_51 : decode cX11_late 51 = .ok (.invokestatic 280, 3) := by decide +kernel
theorem dX11_late_54 : decode cX11_late 54 = .ok (.lreturn, 1) := by decide +kernel
theorem dX11_now_0 : decode cX11_now 0 = .ok (.aload_n 0, 1) := by decide +kernel
theorem dX11_now_1 : decode cX11_now 1 = .ok (.iload_n 1, 1) := by decide +kernel
theorem dX11_now_2 : decode cX11_now 2 = .ok (.iload_n 2, 1) := by decide +kernel
theorem dX11_now_3 : decode cX11_now 3 = .ok (.iload_n 3, 1) := by decide +kernel
theorem dX11_now_4 : decode cX11_now 4 = .ok (.iload 4, 2) := by decide +kernel
theorem dX11_now_6 : decode cX11_now 6 = .ok (.iload 5, 2) := by decide +kernel
theorem dX11_now_8 : decode cX11_now 8 = .ok (.iload 6, 2) := by decide +kernel
theorem dX11_now_10 : decode cX11_now 10 = .ok (.invokestatic 272, 3) := by decide +kernel
theorem dX11_now_13 : decode cX11_now 13 = .ok (.invokevirtual 100, 3) := by decide +kernel
theorem dX11_now_16 : decode cX11_now 16 = .ok (.iload_n 1, 1) := by decide +kernel
theorem dX11_now_17 : decode cX11_now 17 = .ok (.iload 5, 2) := by decide +kernel
theorem dX11_now_19 : decode cX11_now 19 = .ok (.if_icmp .le 35, 3) := by decide +kernel
theorem dX11_now_22 : decode cX11_now 22 = .ok (.iload_n 1, 1) := by decide +kernel
theorem dX11_now_23 : decode cX11_now 23 = .ok (.iload 5, 2) := by decide +kernel
theorem dX11_now_25 : decode cX11_now 25 = .ok (.isub, 1) := by decide +kernel
theorem dX11_now_26 : decode cX11_now 26 = .ok (.i2l, 1) := by decide +kernel
theorem dX11_now_27 : decode cX11_now 27 = .ok (.iload 6, 2) := by decide +kernel
theorem dX11_now_29 : decode cX11_now 29 = .ok (.invokestatic 284, 3) := by decide +kernel
theorem dX11_now_32 : decode cX11_now 32 = .ok (.lmul, 1) := by decide +kernel
theorem dX11_now_33 : decode cX11_now 33 = .ok (.iload_n 1, 1) := by decide +kernel
theorem dX11_now_34 : decode cX11_now 34 = .ok (.iload_n 2, 1) := by decide +kernel
theorem dX11_now_35 : decode cX11_now 35 = .ok (.iload_n 3, 1) := by decide +kernel
theorem dX11_now_36 : decode cX11_now 36 = .ok (.iload 4, 2) := by decide +kernel
theorem dX11_now_38 : decode cX11_now 38 = .ok (.iload 5, 2) := by decide +kernel
theorem dX11_now_40 : decode cX11_now 40 = .ok (.iload 6, 2) := by decide +kernel
theorem dX11_now_42 : decode cX11_now 42 = .ok (.iconst 0, 1) := by decide +kernel
theorem dX11_now_43 : decode cX11_now 43 = .ok (.invokestatic 276, 3) := by decide +kernel
theorem dX11_now_46 : decode cX11_now 46 = .ok (.lcmp, 1) := by decide +kernel
theorem dX11_now_47 : decode cX11_now 47 = .ok (.ifCond .lt 7, 3) := by decide +kernel
theorem dX11_now_50 : decode cX11_now 50 = .ok (.iconst 1, 1) := by decide +kernel
theorem dX11_now_51 : decode cX11_now 51 = .ok (.goto 4, 3) := by decide +kernel
theorem dX11_now_54 : decode cX11_now 54 = .ok (.iconst 0, 1) := by decide +kernel
theorem dX11_now_55 : decode cX11_now 55 = .ok (.ireturn, 1) := by decide +kernel
theorem dX11_sellers_0 : decode cX11_sellers 0 = .ok (.aload_n 0, 1) := by decide +kernel
theorem dX11_sellers_1 : decode cX11_sellers 1 = .ok (.iload_n 1, 1) := by decide +kernel
theorem dX11_sellers_2 : decode cX11_sellers 2 = .ok (.invokevirtual 215, 3) := by decide +kernel
theorem dX11_sellers_5 : decode cX11_sellers 5 = .ok (.aload_n 0, 1) := by decide +kernel
theorem dX11_sellers_6 : decode cX11_sellers 6 = .ok (.iload_n 2, 1) := by decide +kernel
theorem dX11_sellers_7 : decode cX11_sellers 7 = .ok (.iconst 0, 1) := by decide +kernel
theorem dX11_sellers_8 : decode cX11_sellers 8 = .ok (.bipush 20, 2) := by decide +kernel
theorem dX11_sellers_10 : decode cX11_sellers 10 = .ok (.invokestatic 140, 3) := by decide +kernel
theorem dX11_sellers_13 : decode cX11_sellers 13 = .ok (.ifCond .eq 16, 3) := by decide +kernel
theorem dX11_sellers_16 : decode cX11_sellers 16 = .ok (.iload_n 3, 1) := by decide +kernel
theorem dX11_sellers_17 : decode cX11_sellers 17 = .ok (.iconst 0, 1) := by decide +kernel
theorem dX11_sellers_18 : decode cX11_sellers 18 = .ok (.iconst 2, 1) := by decide +kernel
theorem dX11_sellers_19 : decode cX11_sellers 19 = .ok (.invokestatic 140, 3) := by decide +kernel
theorem dX11_sellers_22 : decode cX11_sellers 22 = .ok (.ifCond .eq 7, 3) := by decide +kernel
theorem dX11_sellers_25 : decode cX11_sellers 25 = .ok (.iconst 1, 1) := by decide +kernel
theorem dX11_sellers_26 : decode cX11_sellers 26 = .ok (.goto 4, 3) := by decide +kernel
theorem dX11_sellers_29 : decode cX11_sellers 29 = .ok (.iconst 0, 1) := by decide +kernel
theorem dX11_sellers_30 : decode cX11_sellers 30 = .ok (.invokevirtual 100, 3) := by decide +kernel
theorem dX11_sellers_33 : decode cX11_sellers 33 = .ok (.aload_n 0, 1) := by decide +kernel
theorem dX11_sellers_34 : decode cX11_sellers 34 = .ok (.getfield 28, 3) := by decide +kernel
theorem dX11_sellers_37 : decode cX11_sellers 37 = .ok (.iload_n 1, 1) := by decide +kernel
theorem dX11_sellers_38 : decode cX11_sellers 38 = .ok (.iload_n 2, 1) := by decide +kernel
theorem dX11_sellers_39 : decode cX11_sellers 39 = .ok (.invokevirtual 288, 3) := by decide +kernel
theorem dX11_sellers_42 : decode cX11_sellers 42 = .ok (.iload_n 3, 1) := by decide +kernel
theorem dX11_sellers_43 : decode cX11_sellers 43 = .ok (.ifCond .ne 11, 3) := by decide +kernel
theorem dX11_sellers_46 : decode cX11_sellers 46 = .ok (.aload_n 0, 1) := by decide +kernel
theorem dX11_sellers_47 : decode cX11_sellers 47 = .ok (.getfield 28, 3) := by decide +kernel
theorem dX11_sellers_50 : decode cX11_sellers 50 = .ok (.getfield 291, 3) := by decide +kernel
theorem dX11_sellers_53 : decode cX11_sellers 53 = .ok (.ireturn, 1) := by decide +kernel
theorem dX11_sellers_54 : decode cX11_sellers 54 = .ok (.iload_n 3, 1) := by decide +kernel
theorem dX11_sellers_55 : decode cX11_sellers 55 = .ok (.iconst 1, 1) := by decide +kernel
theorem dX11_sellers_56 : decode cX11_sellers 56 = .ok (.if_icmp .ne 13, 3) := by decide +kernel
theorem dX11_sellers_59 : decode cX11_sellers 59 = .ok (.aload_n 0, 1) := by decide +kernel
theorem dX11_sellers_60 : decode cX11_sellers 60 = .ok (.getfield 28, 3) := by decide +kernel
theorem dX11_sellers_63 : decode cX11_sellers 63 = .ok (.getfield 294, 3) := by decide +kernel
theorem dX11_sellers_66 : decode cX11_sellers 66 = .ok (.goto 10, 3) := by decide +kernel
theorem dX11_sellers_69 : decode cX11_sellers 69 = .ok (.aload_n 0, 1) := by decide +kernel
theorem dX11_sellers_70 : decode cX11_sellers 70 = .ok (.getfield 28, 3) := by decide +kernel
theorem dX11_sellers_73 : decode cX11_sellers 73 = .ok (.getfield 297, 3) := by decide +kernel
theorem dX11_sellers_76 : decode cX11_sellers 76 = .ok (.ireturn, 1) := by decide +kernel
theorem dX11_gets_0 : decode cX11_gets 0 = .ok (.aload_n 0, 1) := by decide +kernel
theorem dX11_gets_1 : decode cX11_gets 1 = .ok (.iload_n 1, 1) := by decide +kernel
theorem dX11_gets_2 : decode cX11_gets 2 = .ok (.invokevirtual 215, 3) := by decide +kernel
theorem dX11_gets_5 : decode cX11_gets 5 = .ok (.aload_n 0, 1) := by decide +kernel
theorem dX11_gets_6 : decode cX11_gets 6 = .ok (.iload_n 2, 1) := by decide +kernel
theorem dX11_gets_7 : decode cX11_gets 7 = .ok (.iconst 0, 1) := by decide +kernel
theorem dX11_gets_8 : decode cX11_gets 8 = .ok (.bipush 99, 2) := by decide +kernel
theorem dX11_gets_10 : decode cX11_gets 10 = .ok (.invokestatic 140, 3) := by decide +kernel
theorem dX11_gets_13 : decode cX11_gets 13 = .ok (.ifCond .eq 17, 3) := by decide +kernel
theorem dX11_gets_16 : decode cX11_gets 16 = .ok (.iload_n 3, 1) := by decide +kernel
theorem dX11_gets_17 : decode cX11_gets 17 = .ok (.iconst 0, 1) := by decide +kernel
theorem dX11_gets_18 : decode cX11_gets 18 = .ok (.bipush 99, 2) := by decide +kernel
theorem dX11_gets_20 : decode cX11_gets 20 = .ok (.invokestatic 140, 3) := by decide +kernel
theorem dX11_gets_23 : decode cX11_gets 23 = .ok (.ifCond .eq 7, 3) := by decide +kernel
theorem dX11_gets_26 : decode cX11_gets 26 = .ok (.iconst 1, 1) := by decide +kernel
theorem dX11_gets_27 : decode cX11_gets 27 = .ok (.goto 4, 3) := by decide +kernel
theorem dX11_gets_30 : decode cX11_gets 30 = .ok (.iconst 0, 1) := by decide +kernel
theorem dX11_gets_31 : decode cX11_gets 31 = .ok (.invokevirtual 100, 3) := by decide +kernel
theorem dX11_gets_34 : decode cX11_gets 34 = .ok (.aload_n 0, 1) := by decide +kernel
theorem dX11_gets_35 : decode cX11_gets 35 = .ok (.getfield 28, 3) := by decide +kernel
theorem dX11_gets_38 : decode cX11_gets 38 = .ok (.iload_n 1, 1) := by decide +kernel
theorem dX11_gets_39 : decode cX11_gets 39 = .ok (.iload_n 2, 1) := by decide +kernel
theorem dX11_gets_40 : decode cX11_gets 40 = .ok (.iload_n 3, 1) := by decide +kernel
theorem dX11_gets_41 : decode cX11_gets 41 = .ok (.invokevirtual 300, 3) := by decide +kernel
theorem dX11_gets_44 : decode cX11_gets 44 = .ok (.ireturn, 1) := by decide +kernel
theorem dX11_nights_0 : decode cX11_nights 0 = .ok (.aload_n 0, 1) := by decide +kernel
theorem dX11_nights_1 : decode cX11_nights 1 = .ok (.iload_n 1, 1) := by decide +kernel
theorem dX11_nights_2 : decode cX11_nights 2 = .ok (.invokevirtual 215, 3) := by decide +kernel
theorem dX11_nights_5 : decode cX11_nights 5 = .ok (.aload_n 0, 1) := by decide +kernel
theorem dX11_nights_6 : decode cX11_nights 6 = .ok (.iload_n 2, 1) := by decide +kernel
theorem dX11_nights_7 : decode cX11_nights 7 = .ok (.iconst 1, 1) := by decide +kernel
theorem dX11_nights_8 : decode cX11_nights 8 = .ok (.bipush 24, 2) := by decide +kernel
theorem dX11_nights_10 : decode cX11_nights 10 = .ok (.invokestatic 140, 3) := by decide +kernel
theorem dX11_nights_13 : decode cX11_nights 13 = .ok (.invokevirtual 100, 3) := by decide +kernel
theorem dX11_nights_16 : decode cX11_nights 16 = .ok (.aload_n 0, 1) := by decide +kernel
theorem dX11_nights_17 : decode cX11_nights 17 = .ok (.getfield 35, 3) := by decide +kernel
theorem dX11_nights_20 : decode cX11_nights 20 = .ok (.iload_n 1, 1) := by decide +kernel
theorem dX11_nights_21 : decode cX11_nights 21 = .ok (.iload_n 2, 1) := by decide +kernel
theorem dX11_nights_22 : decode cX11_nights 22 = .ok (.invokevirtual 303, 3) := by decide +kernel
theorem dX11_nights_25 : decode cX11_nights 25 = .ok (.aload_n 0, 1) := by decide +kernel
theorem dX11_nights_26 : decode cX11_nights 26 = .ok (.getfield 35, 3) := by decide +kernel
theorem dX11_nights_29 : decode cX11_nights 29 = .ok (.getfield 306, 3) := by decide +kernel
theorem dX11_nights_32 : decode cX11_nights 32 = .ok (.ireturn, 1) := by decide +kernel
theorem dX11_night_0 : decode cX11_night 0 = .ok (.aload_n 0, 1) := by decide +kernel
theorem dX11_night_1 : decode cX11_night 1 = .ok (.iload_n 1, 1) := by decide +kernel
theorem dX11_night_2 : decode cX11_night 2 = .ok (.invokevirtual 225, 3) := by decide +kernel
theorem dX11_night_5 : decode cX11_night 5 = .ok (.aload_n 0, 1) := by decide +kernel
theorem dX11_night_6 : decode cX11_night 6 = .ok (.iload_n 2, 1) := by decide +kernel
theorem dX11_night_7 : decode cX11_night 7 = .ok (.iconst 1, 1) := by decide +kernel
theorem dX11_night_8 : decode cX11_night 8 = .ok (.bipush 24, 2) := by decide +kernel
theorem dX11_night_10 : decode cX11_night 10 = .ok (.invokestatic 140, 3) := by decide +kernel
theorem dX11_night_13 : decode cX11_night 13 = .ok (.invokevirtual 100, 3) := by decide +kernel
theorem dX11_night_16 : decode cX11_night 16 = .ok (.aload_n 0, 1) := by decide +kernel
theorem dX11_night_17 : decode cX11_night 17 = .ok (.getfield 35, 3) := by decide +kernel
theorem dX11_night_20 : decode cX11_night 20 = .ok (.aload_n 0, 1) := by decide +kernel
theorem dX11_night_21 : decode cX11_night 21 = .ok (.getfield 19, 3) := by decide +kernel
theorem dX11_night_24 : decode cX11_night 24 = .ok (.getfield 128, 3) := by decide +kernel
theorem dX11_night_27 : decode cX11_night 27 = .ok (.getfield 191, 3) := by decide +kernel
theorem dX11_night_30 : decode cX11_night 30 = .ok (.iload_n 1, 1) := by decide +kernel
theorem dX11_night_31 : decode cX11_night 31 = .ok (.iconst 0, 1) := by decide +kernel
theorem dX11_night_32 : decode cX11_night 32 = .ok (.invokevirtual 218, 3) := by decide +kernel
theorem dX11_night_35 : decode cX11_night 35 = .ok (.iload_n 2, 1) := by decide +kernel
theorem dX11_night_36 : decode cX11_night 36 = .ok (.invokevirtual 303, 3) := by decide +kernel
theorem dX11_night_39 : decode cX11_night 39 = .ok (.aload_n 0, 1) := by decide +kernel
theorem dX11_night_40 : decode cX11_night 40 = .ok (.getfield 35, 3) := by decide +kernel
theorem dX11_night_43 : decode cX11_night 43 = .ok (.iload_n 1, 1) := by decide +kernel
theorem dX11_night_44 : decode cX11_night 44 = .ok (.invokevirtual 309, 3) := by decide +kernel
theorem dX11_night_47 : decode cX11_night 47 = .ok (.ireturn, 1) := by decide +kernel
theorem dX11_looks_0 : decode cX11_looks 0 = .ok (.aload_n 0, 1) := by decide +kernel
theorem dX11_looks_1 : decode cX11_looks 1 = .ok (.iload_n 1, 1) := by decide +kernel
theorem dX11_looks_2 : decode cX11_looks 2 = .ok (.iconst 1, 1) := by decide +kernel
theorem dX11_looks_3 : decode cX11_looks 3 = .ok (.bipush 40, 2) := by decide +kernel
theorem dX11_looks_5 : decode cX11_looks 5 = .ok (.invokestatic 140, 3) := by decide +kernel
theorem dX11_looks_8 : decode cX11_looks 8 = .ok (.ifCond .eq 26, 3) := by decide +kernel
theorem dX11_looks_11 : decode cX11_looks 11 = .ok (.iload_n 2, 1) := by decide +kernel
theorem dX11_looks_12 : decode cX11_looks 12 = .ok (.iconst 1, 1) := by decide +kernel
theorem dX11_looks_13 : decode cX11_looks 13 = .ok (.bipush 40, 2) := by decide +kernel
theorem dX11_looks_15 : decode cX11_looks 15 = .ok (.invokestatic 140, 3) := by decide +kernel
theorem dX11_looks_18 : decode cX11_looks 18 = .ok (.ifCond .eq 16, 3) := by decide +kernel
theorem dX11_looks_21 : decode cX11_looks 21 = .ok (.iload_n 3, 1) := by decide +kernel
theorem dX11_looks_22 : decode cX11_looks 22 = .ok (.iconst 0, 1) := by decide +kernel
theorem dX11_looks_23 : decode cX11_looks 23 = .ok (.iconst 1, 1) := by decide +kernel
theorem dX11_looks_24 : decode cX11_looks 24 = .ok (.invokestatic 140, 3) := by decide +kernel
theorem dX11_looks_27 : decode cX11_looks 27 = .ok (.ifCond .eq 7, 3) := by decide +kernel
theorem dX11_looks_30 : decode cX11_looks 30 = .ok (.iconst 1, 1) := by decide +kernel
theorem dX11_looks_31 : decode cX11_looks 31 = .ok (.goto 4, 3) := by decide +kernel
theorem dX11_looks_34 : decode cX11_looks 34 = .ok (.iconst 0, 1) := by decide +kernel
theorem dX11_looks_35 : decode cX11_looks 35 = .ok (.invokevirtual 100, 3) := by decide +kernel
theorem dX11_looks_38 : decode cX11_looks 38 = .ok (.iconst 0, 1) := by decide +kernel
theorem dX11_looks_39 : decode cX11_looks 39 = .ok (.istore 4, 2) := by decide +kernel
theorem dX11_looks_41 : decode cX11_looks 41 = .ok (.iconst 2, 1) := by decide +kernel
theorem dX11_looks_42 : decode cX11_looks 42 = .ok (.istore 5, 2) := by decide +kernel
theorem dX11_looks_44 : decode cX11_looks 44 = .ok (.iload 5, 2) := by decide +kernel
theorem dX11_looks_46 : decode cX11_looks 46 = .ok (.iload_n 1, 1) := by decide +kernel
theorem dX11_looks_47 : decode cX11_looks 47 = .ok (.if_icmp .gt 33, 3) := by decide +kernel
theorem dX11_looks_50 : decode cX11_looks 50 = .ok (.aload_n 0, 1) := by decide +kernel
theorem dX11_looks_51 : decode cX11_looks 51 = .ok (.iload 5, 2) := by decide +kernel
theorem dX11_looks_53 : decode cX11_looks 53 = .ok (.iload_n 2, 1) := by decide +kernel
theorem dX11_looks_54 : decode cX11_looks 54 = .ok (.invokevirtual 312, 3) := by decide +kernel
theorem dX11_looks_57 : decode cX11_looks 57 = .ok (.istore 4, 2) := by decide +kernel
theorem dX11_looks_59 : decode cX11_looks 59 = .ok (.aload_n 0, 1) := by decide +kernel
theorem dX11_looks_60 : decode cX11_looks 60 = .ok (.getfield 81, 3) := by decide +kernel
theorem dX11_looks_63 : decode cX11_looks 63 = .ok (.iload 5, 2) := by decide +kernel
theorem dX11_looks_65 : decode cX11_looks 65 = .ok (.aload_n 0, 1) := by decide +kernel
theorem dX11_looks_66 : decode cX11_looks 66 = .ok (.iload 5, 2) := by decide +kernel
theorem dX11_looks_68 : decode cX11_looks 68 = .ok (.iload 4, 2) := by decide +kernel
theorem dX11_looks_70 : decode cX11_looks 70 = .ok (.invokevirtual 315, 3) := by decide +kernel
theorem dX11_looks_73 : decode cX11_looks 73 = .ok (.iastore, 1) := by decide +kernel
theorem dX11_looks_74 : decode cX11_looks 74 = .ok (.iinc 5 1, 3) := by decide +kernel
theorem dX11_looks_77 : decode cX11_looks 77 = .ok (.goto (-33), 3) := by decide +kernel
theorem dX11_looks_80 : decode cX11_looks 80 = .ok (.iload_n 3, 1) := by decide +kernel
theorem dX11_looks_81 : decode cX11_looks 81 = .ok (.ifCond .ne 12, 3) := by decide +kernel
theorem dX11_looks_84 : decode cX11_looks 84 = .ok (.aload_n 0, 1) := by decide +kernel
theorem dX11_looks_85 : decode cX11_looks 85 = .ok (.getfield 81, 3) := by decide +kernel
theorem dX11_looks_88 : decode cX11_looks 88 = .ok (.iload_n 1, 1) := by decide +kernel
theorem dX11_looks_89 : decode cX11_looks 89 = .ok (.iaload, 1) := by decide +kernel
theorem dX11_looks_90 : decode cX11_looks 90 = .ok (.goto 5, 3) := by decide +kernel
theorem dX11_looks_93 : decode cX11_looks 93 = .ok (.iload 4, 2) := by decide +kernel
theorem dX11_looks_95 : decode cX11_looks 95 = .ok (.ireturn, 1) := by decide +kernel
theorem dX11_leaky_0 : decode cX11_leaky 0 = .ok (.aload_n 0, 1) := by decide +kernel
theorem dX11_leaky_1 : decode cX11_leaky 1 = .ok (.iload_n 1, 1) := by decide +kernel
theorem dX11_leaky_2 : decode cX11_leaky 2 = .ok (.iconst 0, 1) := by decide +kernel
theorem dX11_leaky_3 : decode cX11_leaky 3 = .ok (.iconst 3, 1) := by decide +kernel
theorem dX11_leaky_4 : decode cX11_leaky 4 = .ok (.invokestatic 140, 3) := by decide +kernel
theorem dX11_leaky_7 : decode cX11_leaky 7 = .ok (.invokevirtual 100, 3) := by decide +kernel
theorem dX11_leaky_10 : decode cX11_leaky 10 = .ok (.aload_n 0, 1) := by decide +kernel
theorem dX11_leaky_11 : decode cX11_leaky 11 = .ok (.getfield 63, 3) := by decide +kernel
theorem dX11_leaky_14 : decode cX11_leaky 14 = .ok (.aload_n 0, 1) := by decide +kernel
theorem dX11_leaky_15 : decode cX11_leaky 15 = .ok (.getfield 19, 3) := by decide +kernel
theorem dX11_leaky_18 : decode cX11_leaky 18 = .ok (.getfield 128, 3) := by decide +kernel
theorem dX11_leaky_21 : decode cX11_leaky 21 = .ok (.iload_n 1, 1) := by decide +kernel
theorem dX11_leaky_22 : decode cX11_leaky 22 = .ok (.invokevirtual 318, 3) := by decide +kernel
theorem dX11_leaky_25 : decode cX11_leaky 25 = .ok (.ireturn, 1) := by decide +kernel
theorem dX11_misses_0 : decode cX11_misses 0 = .ok (.aload_n 0, 1) := by decide +kernel
theorem dX11_misses_1 : decode cX11_misses 1 = .ok (.iload_n 1, 1) := by decide +kernel
theorem dX11_misses_2 : decode cX11_misses 2 = .ok (.invokevirtual 215, 3) := by decide +kernel
theorem dX11_misses_5 : decode cX11_misses 5 = .ok (.aload_n 0, 1) := by decide +kernel
theorem dX11_misses_6 : decode cX11_misses 6 = .ok (.iload_n 2, 1) := by decide +kernel
theorem dX11_misses_7 : decode cX11_misses 7 = .ok (.ifCond .lt 25, 3) := by decide +kernel
theorem dX11_misses_10 : decode cX11_misses 10 = .ok (.iload_n 2, 1) := by decide +kernel
theorem dX11_misses_11 : decode cX11_misses 11 = .ok (.aload_n 0, 1) := by decide +kernel
theorem dX11_misses_12 : decode cX11_misses 12 = .ok (.getfield 19, 3) := by decide +kernel
theorem dX11_misses_15 : decode cX11_misses 15 = .ok (.getfield 128, 3) := by decide +kernel
theorem dX11_misses_18 : decode cX11_misses 18 = .ok (.getfield 131, 3) := by decide +kernel
theorem dX11_misses_21 : decode cX11_misses 21 = .ok (.getfield 135, 3) := by decide +kernel
theorem dX11_misses_24 : decode cX11_misses 24 = .ok (.ishr, 1) := by decide +kernel
theorem dX11_misses_25 : decode cX11_misses 25 = .ok (.ifCond .ne 7, 3) := by decide +kernel
theorem dX11_misses_28 : decode cX11_misses 28 = .ok (.iconst 1, 1) := by decide +kernel
theorem dX11_misses_29 : decode cX11_misses 29 = .ok (.goto 4, 3) := by decide +kernel
theorem dX11_misses_32 : decode cX11_misses 32 = .ok (.iconst 0, 1) := by decide +kernel
theorem dX11_misses_33 : decode cX11_misses 33 = .ok (.invokevirtual 100, 3) := by decide +kernel
theorem dX11_misses_36 : decode cX11_misses 36 = .ok (.aload_n 0, 1) := by decide +kernel
theorem dX11_misses_37 : decode cX11_misses 37 = .ok (.getfield 19, 3) := by decide +kernel
theorem dX11_misses_40 : decode cX11_misses 40 = .ok (.getfield 128, 3) := by decide +kernel
theorem dX11_misses_43 : decode cX11_misses 43 = .ok (.iload_n 1, 1) := by decide +kernel
theorem dX11_misses_44 : decode cX11_misses 44 = .ok (.iload_n 2, 1) := by decide +kernel
theorem dX11_misses_45 : decode cX11_misses 45 = .ok (.invokevirtual 322, 3) := by decide +kernel
theorem dX11_misses_48 : decode cX11_misses 48 = .ok (.ireturn, 1) := by decide +kernel
theorem dX11_seam_0 : decode cX11_seam 0 = .ok (.aload_n 0, 1) := by decide +kernel
theorem dX11_seam_1 : decode cX11_seam 1 = .ok (.iload_n 1, 1) := by decide +kernel
theorem dX11_seam_2 : decode cX11_seam 2 = .ok (.invokevirtual 229, 3) := by decide +kernel
theorem dX11_seam_5 : decode cX11_seam 5 = .ok (.aload_n 0, 1) := by decide +kernel
theorem dX11_seam_6 : decode cX11_seam 6 = .ok (.iload_n 2, 1) := by decide +kernel
theorem dX11_seam_7 : decode cX11_seam 7 = .ok (.iconst 1, 1) := by decide +kernel
theorem dX11_seam_8 : decode cX11_seam 8 = .ok (.iconst 4, 1) := by decide +kernel
theorem dX11_seam_9 : decode cX11_seam 9 = .ok (.invokestatic 140, 3) := by decide +kernel
theorem dX11_seam_12 : decode cX11_seam 12 = .ok (.ifCond .eq 27, 3) := by decide +kernel
theorem dX11_seam_15 : decode cX11_seam 15 = .ok (.iload_n 3, 1) := by decide +kernel
theorem dX11_seam_16 : decode cX11_seam 16 = .ok (.iconst 0, 1) := by decide +kernel
theorem dX11_seam_17 : decode cX11_seam 17 = .ok (.bipush 9, 2) := by decide +kernel
theorem dX11_seam_19 : decode cX11_seam 19 = .ok (.invokestatic 140, 3) := by decide +kernel
theorem dX11_seam_22 : decode cX11_seam 22 = .ok (.ifCond .eq 17, 3) := by decide +kernel
theorem dX11_seam_25 : decode cX11_seam 25 = .ok (.iload 4, 2) := by decide +kernel
theorem dX11_seam_27 : decode cX11_seam 27 = .ok (.iconst 0, 1) := by decide +kernel
theorem dX11_seam_28 : decode cX11_seam 28 = .ok (.iconst 1, 1) := by decide +kernel
theorem dX11_seam_29 : decode cX11_seam 29 = .ok (.invokestatic 140, 3) := by decide +kernel
theorem dX11_seam_32 : decode cX11_seam 32 = .ok (.ifCond .eq 7, 3) := by decide +kernel
theorem dX11_seam_35 : decode cX11_seam 35 = .ok (.iconst 1, 1) := by decide +kernel
theorem dX11_seam_36 : decode cX11_seam 36 = .ok (.goto 4, 3) := by decide +kernel
theorem dX11_seam_39 : decode cX11_seam 39 = .ok (.iconst 0, 1) := by decide +kernel
theorem dX11_seam_40 : decode cX11_seam 40 = .ok (.invokevirtual 100, 3) := by decide +kernel
theorem dX11_seam_43 : decode cX11_seam 43 = .ok (.aload_n 0, 1) := by decide +kernel
theorem dX11_seam_44 : decode cX11_seam 44 = .ok (.getfield 19, 3) := by decide +kernel
theorem dX11_seam_47 : decode cX11_seam 47 = .ok (.iload_n 1, 1) := by decide +kernel
theorem dX11_seam_48 : decode cX11_seam 48 = .ok (.iload_n 2, 1) := by decide +kernel
theorem dX11_seam_49 : decode cX11_seam 49 = .ok (.iload_n 3, 1) := by decide +kernel
theorem dX11_seam_50 : decode cX11_seam 50 = .ok (.invokevirtual 325, 3) := by decide +kernel
theorem dX11_seam_53 : decode cX11_seam 53 = .ok (.iload 4, 2) := by decide +kernel
theorem dX11_seam_55 : decode cX11_seam 55 = .ok (.ifCond .ne 13, 3) := by decide +kernel
theorem dX11_seam_58 : decode cX11_seam 58 = .ok (.aload_n 0, 1) := by decide +kernel
theorem dX11_seam_59 : decode cX11_seam 59 = .ok (.getfield 19, 3) := by decide +kernel
theorem dX11_seam_62 : decode cX11_seam 62 = .ok (.getfield 329, 3) := by decide +kernel
theorem dX11_seam_65 : decode cX11_seam 65 = .ok (.goto 10, 3) := by decide +kernel
theorem dX11_seam_68 : decode cX11_seam 68 = .ok (.aload_n 0, 1) := by decide +kernel
theorem dX11_seam_69 : decode cX11_seam 69 = .ok (.getfield 19, 3) := by decide +kernel
theorem dX11_seam_72 : decode cX11_seam 72 = .ok (.getfield 332, 3) := by decide +kernel
theorem dX11_seam_75 : decode cX11_seam 75 = .ok (.ireturn, 1) := by decide +kernel
theorem dX11_moons_0 : decode cX11_moons 0 = .ok (.aload_n 0, 1) := by decide +kernel
theorem dX11_moons_1 : decode cX11_moons 1 = .ok (.iload_n 1, 1) := by decide +kernel
theorem dX11_moons_2 : decode cX11_moons 2 = .ok (.invokestatic 335, 3) := by decide +kernel
theorem dX11_moons_5 : decode cX11_moons 5 = .ok (.invokevirtual 100, 3) := by decide +kernel
theorem dX11_moons_8 : decode cX11_moons 8 = .ok (.aload_n 0, 1) := by decide +kernel
theorem dX11_moons_9 : decode cX11_moons 9 = .ok (.getfield 19, 3) := by decide +kernel
theorem dX11_moons_12 : decode cX11_moons 12 = .ok (.getfield 128, 3) := by decide +kernel
theorem dX11_moons_15 : decode cX11_moons 15 = .ok (.iload_n 1, 1) := by decide +kernel
theorem dX11_moons_16 : decode cX11_moons 16 = .ok (.invokevirtual 338, 3) := by decide +kernel
theorem dX11_moons_19 : decode cX11_moons 19 = .ok (.ireturn, 1) := by decide +kernel
theorem dX11_dark_0 : decode cX11_dark 0 = .ok (.aload_n 0, 1) := by decide +kernel
theorem dX11_dark_1 : decode cX11_dark 1 = .ok (.iload_n 1, 1) := by decide +kernel
theorem dX11_dark_2 : decode cX11_dark 2 = .ok (.invokestatic 335, 3) := by decide +kernel
theorem dX11_dark_5 : decode cX11_dark 5 = .ok (.invokevirtual 100, 3) := by decide +kernel
theorem dX11_dark_8 : decode cX11_dark 8 = .ok (.aload_n 0, 1) := by decide +kernel
theorem dX11_dark_9 : decode cX11_dark 9 = .ok (.getfield 19, 3) := by decide +kernel
theorem dX11_dark_12 : decode cX11_dark 12 = .ok (.getfield 128, 3) := by decide +kernel
theorem dX11_dark_15 : decode cX11_dark 15 = .ok (.iload_n 1, 1) := by decide +kernel
theorem dX11_dark_16 : decode cX11_dark 16 = .ok (.iconst 0, 1) := by decide +kernel
theorem dX11_dark_17 : decode cX11_dark 17 = .ok (.invokevirtual 341, 3) := by decide +kernel
theorem dX11_dark_20 : decode cX11_dark 20 = .ok (.ireturn, 1) := by decide +kernel
theorem dX11_bright_0 : decode cX11_bright 0 = .ok (.aload_n 0, 1) := by decide +kernel
theorem dX11_bright_1 : decode cX11_bright 1 = .ok (.iload_n 1, 1) := by decide +kernel
theorem dX11_bright_2 : decode cX11_bright 2 = .ok (.invokestatic 335, 3) := by decide +kernel
theorem dX11_bright_5 : decode cX11_bright 5 = .ok (.invokevirtual 100, 3) := by decide +kernel
theorem dX11_bright_8 : decode cX11_bright 8 = .ok (.aload_n 0, 1) := by decide +kernel
theorem dX11_bright_9 : decode cX11_bright 9 = .ok (.getfield 19, 3) := by decide +kernel
theorem dX11_bright_12 : decode cX11_bright 12 = .ok (.getfield 128, 3) := by decide +kernel
theorem dX11_bright_15 : decode cX11_bright 15 = .ok (.iload_n 1, 1) := by decide +kernel
theorem dX11_bright_16 : decode cX11_bright 16 = .ok (.iconst 1, 1) := by decide +kernel
theorem dX11_bright_17 : decode cX11_bright 17 = .ok (.aload_n 0, 1) := by decide +kernel
theorem dX11_bright_18 : decode cX11_bright 18 = .ok (.getfield 19, 3) := by decide +kernel
theorem dX11_bright_21 : decode cX11_bright 21 = .ok (.getfield 128, 3) := by decide +kernel
theorem dX11_bright_24 : decode cX11_bright 24 = .ok (.getfield 197, 3) := by decide +kernel
theorem dX11_bright_27 : decode cX11_bright 27 = .ok (.getfield 135, 3) := by decide +kernel
theorem dX11_bright_30 : decode cX11_bright 30 = .ok (.ishl, 1) := by decide +kernel
theorem dX11_bright_31 : decode cX11_bright 31 = .ok (.iconst 1, 1) := by decide +kernel
theorem dX11_bright_32 : decode cX11_bright 32 = .ok (.isub, 1) := by decide +kernel
theorem dX11_bright_33 : decode cX11_bright 33 = .ok (.invokevirtual 341, 3) := by decide +kernel
theorem dX11_bright_36 : decode cX11_bright 36 = .ok (.ireturn, 1) := by decide +kernel
theorem dX11_darks_0 : decode cX11_darks 0 = .ok (.aload_n 0, 1) := by decide +kernel
theorem dX11_darks_1 : decode cX11_darks 1 = .ok (.iload_n 1, 1) := by decide +kernel
theorem dX11_darks_2 : decode cX11_darks 2 = .ok (.invokestatic 335, 3) := by decide +kernel
theorem dX11_darks_5 : decode cX11_darks 5 = .ok (.ifCond .eq 19, 3) := by decide +kernel
theorem dX11_darks_8 : decode cX11_darks 8 = .ok (.iload_n 2, 1) := by decide +kernel
theorem dX11_darks_9 : decode cX11_darks 9 = .ok (.invokestatic 335, 3) := by decide +kernel
theorem dX11_darks_12 : decode cX11_darks 12 = .ok (.ifCond .eq 12, 3) := by decide +kernel
theorem dX11_darks_15 : decode cX11_darks 15 = .ok (.iload_n 1, 1) := by decide +kernel
theorem dX11_darks_16 : decode cX11_darks 16 = .ok (.iload_n 2, 1) := by decide +kernel
theorem dX11_darks_17 : decode cX11_darks 17 = .ok (.if_icmp .gt 7, 3) := by decide +kernel
theorem dX11_darks_20 : decode cX11_darks 20 = .ok (.iconst 1, 1) := by decide +kernel
theorem dX11_darks_21 : decode cX11_darks 21 = .ok (.goto 4, 3) := by decide +kernel
theorem dX11_darks_24 : decode cX11_darks 24 = .ok (.iconst 0, 1) := by decide +kernel
theorem dX11_darks_25 : decode cX11_darks 25 = .ok (.invokevirtual 100, 3) := by decide +kernel
theorem dX11_darks_28 : decode cX11_darks 28 = .ok (.iconst 0, 1) := by decide +kernel
theorem dX11_darks_29 : decode cX11_darks 29 = .ok (.istore_n 3, 1) := by decide +kernel
theorem dX11_darks_30 : decode cX11_darks 30 = .ok (.iload_n 1, 1) := by decide +kernel
theorem dX11_darks_31 : decode cX11_darks 31 = .ok (.istore 4, 2) := by decide +kernel
theorem dX11_darks_33 : decode cX11_darks 33 = .ok (.iload 4, 2) := by decide +kernel
theorem dX11_darks_35 : decode cX11_darks 35 = .ok (.iload_n 2, 1) := by decide +kernel
theorem dX11_darks_36 : decode cX11_darks 36 = .ok (.if_icmp .gt 27, 3) := by decide +kernel
theorem dX11_darks_39 : decode cX11_darks 39 = .ok (.aload_n 0, 1) := by decide +kernel
theorem dX11_darks_40 : decode cX11_darks 40 = .ok (.getfield 19, 3) := by decide +kernel
theorem dX11_darks_43 : decode cX11_darks 43 = .ok (.getfield 128, 3) := by decide +kernel
theorem dX11_darks_46 : decode cX11_darks 46 = .ok (.iload 4, 2) := by decide +kernel
theorem dX11_darks_48 : decode cX11_darks 48 = .ok (.invokevirtual 338, 3) := by decide +kernel
theorem dX11_darks_51 : decode cX11_darks 51 = .ok (.ifCond .ne 6, 3) := by decide +kernel
theorem dX11_darks_54 : decode cX11_darks 54 = .ok (.iinc 3 1, 3) := by decide +kernel
theorem dX11_darks_57 : decode cX11_darks 57 = .ok (.iinc 4 1, 3) := by decide +kernel
theorem dX11_darks_60 : decode cX11_darks 60 = .ok (.goto (-27), 3) := by decide +kernel
theorem dX11_darks_63 : decode cX11_darks 63 = .ok (.iload_n 3, 1) := by decide +kernel
theorem dX11_darks_64 : decode cX11_darks 64 = .ok (.ireturn, 1) := by decide +kernel
theorem dX11_clouds_0 : decode cX11_clouds 0 = .ok (.aload_n 0, 1) := by decide +kernel
theorem dX11_clouds_1 : decode cX11_clouds 1 = .ok (.iload_n 2, 1) := by decide +kernel
theorem dX11_clouds_2 : decode cX11_clouds 2 = .ok (.iload_n 3, 1) := by decide +kernel
theorem dX11_clouds_3 : decode cX11_clouds 3 = .ok (.iload 4, 2) := by decide +kernel
theorem dX11_clouds_5 : decode cX11_clouds 5 = .ok (.invokestatic 344, 3) := by decide +kernel
theorem dX11_clouds_8 : decode cX11_clouds 8 = .ok (.ifCond .eq 17, 3) := by decide +kernel
theorem dX11_clouds_11 : decode cX11_clouds 11 = .ok (.iload 5, 2) := by decide +kernel
theorem dX11_clouds_13 : decode cX11_clouds 13 = .ok (.iconst 0, 1) := by decide +kernel
theorem dX11_clouds_14 : decode cX11_clouds 14 = .ok (.iconst 2, 1) := by decide +kernel
theorem dX11_clouds_15 : decode cX11_clouds 15 = .ok (.invokestatic 140, 3) := by decide +kernel
theorem dX11_clouds_18 : decode cX11_clouds 18 = .ok (.ifCond .eq 7, 3) := by decide +kernel
theorem dX11_clouds_21 : decode cX11_clouds 21 = .ok (.iconst 1, 1) := by decide +kernel
theorem dX11_clouds_22 : decode cX11_clouds 22 = .ok (.goto 4, 3) := by decide +kernel
theorem dX11_clouds_25 : decode cX11_clouds 25 = .ok (.iconst 0, 1) := by decide +kernel
theorem dX11_clouds_26 : decode cX11_clouds 26 = .ok (.invokevirtual 100, 3) := by decide +kernel
theorem dX11_clouds_29 : decode cX11_clouds 29 = .ok (.aload_n 0, 1) := by decide +kernel
theorem dX11_clouds_30 : decode cX11_clouds 30 = .ok (.getfield 19, 3) := by decide +kernel
theorem dX11_clouds_33 : decode cX11_clouds 33 = .ok (.getfield 128, 3) := by decide +kernel
theorem dX11_clouds_36 : decode cX11_clouds 36 = .ok (.iload_n 1, 1) := by decide +kernel
theorem dX11_clouds_37 : decode cX11_clouds 37 = .ok (.iload_n 2, 1) := by decide +kernel
theorem dX11_clouds_38 : decode cX11_clouds 38 = .ok (.iload_n 3, 1) := by decide +kernel
theorem dX11_clouds_39 : decode cX11_clouds 39 = .ok (.iload 4, 2) := by decide +kernel
theorem dX11_clouds_41 : decode cX11_clouds 41 = .ok (.iload 5, 2) := by decide +kernel
theorem dX11_clouds_43 : decode cX11_clouds 43 = .ok (.invokevirtual 347, 3) := by decide +kernel
theorem dX11_clouds_46 : decode cX11_clouds 46 = .ok (.ireturn, 1) := by decide +kernel
theorem dX11_span_0 : decode cX11_span 0 = .ok (.aload_n 0, 1) := by decide +kernel
theorem dX11_span_1 : decode cX11_span 1 = .ok (.iload_n 2, 1) := by decide +kernel
theorem dX11_span_2 : decode cX11_span 2 = .ok (.iconst 1, 1) := by decide +kernel
theorem dX11_span_3 : decode cX11_span 3 = .ok (.bipush 40, 2) := by decide +kernel
theorem dX11_span_5 : decode cX11_span 5 = .ok (.invokestatic 140, 3) := by decide +kernel
theorem dX11_span_8 : decode cX11_span 8 = .ok (.ifCond .eq 28, 3) := by decide +kernel
theorem dX11_span_11 : decode cX11_span 11 = .ok (.iload_n 3, 1) := by decide +kernel
theorem dX11_span_12 : decode cX11_span 12 = .ok (.iload 4, 2) := by decide +kernel
theorem dX11_span_14 : decode cX11_span 14 = .ok (.iload 5, 2) := by decide +kernel
theorem dX11_span_16 : decode cX11_span 16 = .ok (.invokestatic 344, 3) := by decide +kernel
theorem dX11_span_19 : decode cX11_span 19 = .ok (.ifCond .eq 17, 3) := by decide +kernel
theorem dX11_span_22 : decode cX11_span 22 = .ok (.iload 6, 2) := by decide +kernel
theorem dX11_span_24 : decode cX11_span 24 = .ok (.iconst 0, 1) := by decide +kernel
theorem dX11_span_25 : decode cX11_span 25 = .ok (.iconst 2, 1) := by decide +kernel
theorem dX11_span_26 : decode cX11_span 26 = .ok (.invokestatic 140, 3) := by decide +kernel
theorem dX11_span_29 : decode cX11_span 29 = .ok (.ifCond .eq 7, 3) := by decide +kernel
theorem dX11_span_32 : decode cX11_span 32 = .ok (.iconst 1, 1) := by decide +kernel
theorem dX11_span_33 : decode cX11_span 33 = .ok (.goto 4, 3) := by decide +kernel
theorem dX11_span_36 : decode cX11_span 36 = .ok (.iconst 0, 1) := by decide +kernel
theorem dX11_span_37 : decode cX11_span 37 = .ok (.invokevirtual 100, 3) := by decide +kernel
theorem dX11_span_40 : decode cX11_span 40 = .ok (.iload 5, 2) := by decide +kernel
theorem dX11_span_42 : decode cX11_span 42 = .ok (.istore 7, 2) := by decide +kernel
theorem dX11_span_44 : decode cX11_span 44 = .ok (.iconst 0, 1) := by decide +kernel
theorem dX11_span_45 : decode cX11_span 45 = .ok (.istore 8, 2) := by decide +kernel
theorem dX11_span_47 : decode cX11_span 47 = .ok (.iconst 0, 1) := by decide +kernel
theorem dX11_span_48 : decode cX11_span 48 = .ok (.istore 9, 2) := by decide +kernel
theorem dX11_span_50 : decode cX11_span 50 = .ok (.iconst 0, 1) := by decide +kernel
theorem dX11_span_51 : decode cX11_span 51 = .ok (.istore 10, 2) := by decide +kernel
theorem dX11_span_53 : decode cX11_span 53 = .ok (.iload 10, 2) := by decide +kernel
theorem dX11_span_55 : decode cX11_span 55 = .ok (.iload_n 2, 1) := by decide +kernel
theorem dX11_span_56 : decode cX11_span 56 = .ok (.if_icmp .ge 56, 3) := by decide +kernel
theorem dX11_span_59 : decode cX11_span 59 = .ok (.aload_n 0, 1) := by decide +kernel
theorem dX11_span_60 : decode cX11_span 60 = .ok (.getfield 19, 3) := by decide +kernel
theorem dX11_span_63 : decode cX11_span 63 = .ok (.getfield 128, 3) := by decide +kernel
theorem dX11_span_66 : decode cX11_span 66 = .ok (.iload_n 1, 1) := by decide +kernel
theorem dX11_span_67 : decode cX11_span 67 = .ok (.iload 10, 2) := by decide +kernel
theorem dX11_span_69 : decode cX11_span 69 = .ok (.iadd, 1) := by decide +kernel
theorem dX11_span_70 : decode cX11_span 70 = .ok (.iload_n 3, 1) := by decide +kernel
theorem dX11_span_71 : decode cX11_span 71 = .ok (.iload 4, 2) := by decide +kernel
theorem dX11_span_73 : decode cX11_span 73 = .ok (.iload 5, 2) := by decide +kernel
theorem dX11_span_75 : decode cX11_span 75 = .ok (.iconst 0, 1) := by decide +kernel
theorem dX11_span_76 : decode cX11_span 76 = .ok (.invokevirtual 347, 3) := by decide +kernel
theorem dX11_span_79 : decode cX11_span 79 = .ok (.istore 11, 2) := by decide +kernel
theorem dX11_span_81 : decode cX11_span 81 = .ok (.iload 7, 2) := by decide +kernel
theorem dX11_span_83 : decode cX11_span 83 = .ok (.iload 11, 2) := by decide +kernel
theorem dX11_span_85 : decode cX11_span 85 = .ok (.invokestatic 351, 3) := by decide +kernel
theorem dX11_span_88 : decode cX11_span 88 = .ok (.istore 7, 2) := by decide +kernel
theorem dX11_span_90 : decode cX11_span 90 = .ok (.iload 8, 2) := by decide +kernel
theorem dX11_span_92 : decode cX11_span 92 = .ok (.iload 11, 2) := by decide +kernel
theorem dX11_span_94 : decode cX11_span 94 = .ok (.invokestatic 356, 3) := by decide +kernel
theorem dX11_span_97 : decode cX11_span 97 = .ok (.istore 8, 2) := by decide +kernel
theorem dX11_span_99 : decode cX11_span 99 = .ok (.iload 9, 2) := by decide +kernel
theorem dX11_span_101 : decode cX11_span 101 = .ok (.iload 11, 2) := by decide +kernel
theorem dX11_span_103 : decode cX11_span 103 = .ok (.iadd, 1) := by decide +kernel
theorem dX11_span_104 : decode cX11_span 104 = .ok (.istore 9, 2) := by decide +kernel
theorem dX11_span_106 : decode cX11_span 106 = .ok (.iinc 10 1, 3) := by decide +kernel
theorem dX11_span_109 : decode cX11_span 109 = .ok (.goto (-56), 3) := by decide +kernel
theorem dX11_span_112 : decode cX11_span 112 = .ok (.iload 6, 2) := by decide +kernel
theorem dX11_span_114 : decode cX11_span 114 = .ok (.ifCond .ne 6, 3) := by decide +kernel
theorem dX11_span_117 : decode cX11_span 117 = .ok (.iload 7, 2) := by decide +kernel
theorem dX11_span_119 : decode cX11_span 119 = .ok (.ireturn, 1) := by decide +kernel
theorem dX11_span_120 : decode cX11_span 120 = .ok (.iload 6, 2) := by decide +kernel
theorem dX11_span_122 : decode cX11_span 122 = .ok (.iconst 1, 1) := by decide +kernel
theorem dX11_span_123 : decode cX11_span 123 = .ok (.if_icmp .ne 8, 3) := by decide +kernel
theorem dX11_span_126 : decode cX11_span 126 = .ok (.iload 8, 2) := by decide +kernel
theorem dX11_span_128 : decode cX11_span 128 = .ok (.goto 5, 3) := by decide +kernel
theorem dX11_span_131 : decode cX11_span 131 = .ok (.iload 9, 2) := by decide +kernel
theorem dX11_span_133 : decode cX11_span 133 = .ok (.ireturn, 1) := by decide +kernel
theorem dX11_ahead_0 : decode cX11_ahead 0 = .ok (.aload_n 0, 1) := by decide +kernel
theorem dX11_ahead_1 : decode cX11_ahead 1 = .ok (.iload_n 1, 1) := by decide +kernel
theorem dX11_ahead_2 : decode cX11_ahead 2 = .ok (.invokevirtual 215, 3) := by decide +kernel
theorem dX11_ahead_5 : decode cX11_ahead 5 = .ok (.aload_n 0, 1) := by decide +kernel
theorem dX11_ahead_6 : decode cX11_ahead 6 = .ok (.iload_n 2, 1) := by decide +kernel
theorem dX11_ahead_7 : decode cX11_ahead 7 = .ok (.iconst 0, 1) := by decide +kernel
theorem dX11_ahead_8 : decode cX11_ahead 8 = .ok (.bipush 60, 2) := by decide +kernel
theorem dX11_ahead_10 : decode cX11_ahead 10 = .ok (.invokestatic 140, 3) := by decide +kernel
theorem dX11_ahead_13 : decode cX11_ahead 13 = .ok (.ifCond .eq 16, 3) := by decide +kernel
theorem dX11_ahead_16 : decode cX11_ahead 16 = .ok (.iload_n 3, 1) := by decide +kernel
theorem dX11_ahead_17 : decode cX11_ahead 17 = .ok (.iconst 0, 1) := by decide +kernel
theorem dX11_ahead_18 : decode cX11_ahead 18 = .ok (.iconst 1, 1) := by decide +kernel
theorem dX11_ahead_19 : decode cX11_ahead 19 = .ok (.invokestatic 140, 3) := by decide +kernel
theorem dX11_ahead_22 : decode cX11_ahead 22 = .ok (.ifCond .eq 7, 3) := by decide +kernel
theorem dX11_ahead_25 : decode cX11_ahead 25 = .ok (.iconst 1, 1) := by decide +kernel
theorem dX11_ahead_26 : decode cX11_ahead 26 = .ok (.goto 4, 3) := by decide +kernel
theorem dX11_ahead_29 : decode cX11_ahead 29 = .ok (.iconst 0, 1) := by decide +kernel
theorem dX11_ahead_30 : decode cX11_ahead 30 = .ok (.invokevirtual 100, 3) := by decide +kernel
theorem dX11_ahead_33 : decode cX11_ahead 33 = .ok (.iload_n 3, 1) := by decide +kernel
theorem dX11_ahead_34 : decode cX11_ahead 34 = .ok (.ifCond .ne 7, 3) := by decide +kernel
theorem dX11_ahead_37 : decode cX11_ahead 37 = .ok (.iconst 0, 1) := by decide +kernel
theorem dX11_ahead_38 : decode cX11_ahead 38 = .ok (.goto 4, 3) := by decide +kernel
theorem dX11_ahead_41 : decode cX11_ahead 41 = .ok (.iconst 1, 1) := by decide +kernel
theorem dX11_ahead_42 : decode cX11_ahead 42 = .ok (.istore 4, 2) := by decide +kernel
theorem dX11_ahead_44 : decode cX11_ahead 44 = .ok (.aload_n 0, 1) := by decide +kernel
theorem dX11_ahead_45 : decode cX11_ahead 45 = .ok (.getfield 19, 3) := by decide +kernel
theorem dX11_ahead_48 : decode cX11_ahead 48 = .ok (.getfield 158, 3) := by decide +kernel
theorem dX11_ahead_51 : decode cX11_ahead 51 = .ok (.getfield 208, 3) := by decide +kernel
theorem dX11_ahead_54 : decode cX11_ahead 54 = .ok (.iload_n 1, 1) := by decide +kernel
theorem dX11_ahead_55 : decode cX11_ahead 55 = .ok (.iload 4, 2) := by decide +kernel
theorem dX11_ahead_57 : decode cX11_ahead 57 = .ok (.invokevirtual 218, 3) := by decide +kernel
theorem dX11_ahead_60 : decode cX11_ahead 60 = .ok (.istore 5, 2) := by decide +kernel
theorem dX11_ahead_62 : decode cX11_ahead 62 = .ok (.iconst 0, 1) := by decide +kernel
theorem dX11_ahead_63 : decode cX11_ahead 63 = .ok (.istore 6, 2) := by decide +kernel
theorem dX11_ahead_65 : decode cX11_ahead 65 = .ok (.iload 6, 2) := by decide +kernel
theorem dX11_ahead_67 : decode cX11_ahead 67 = .ok (.iload_n 2, 1) := by decide +kernel
theorem dX11_ahead_68 : decode cX11_ahead 68 = .ok (.if_icmp .ge 23, 3) := by decide +kernel
theorem dX11_ahead_71 : decode cX11_ahead 71 = .ok (.aload_n 0, 1) := by decide +kernel
theorem dX11_ahead_72 : decode cX11_ahead 72 = .ok (.getfield 19, 3) := by decide +kernel
theorem dX11_ahead_75 : decode cX11_ahead 75 = .ok (.iload_n 1, 1) := by decide +kernel
theorem dX11_ahead_76 : decode cX11_ahead 76 = .ok (.iload 4, 2) := by decide +kernel
theorem dX11_ahead_78 : decode cX11_ahead 78 = .ok (.iload 5, 2) := by decide +kernel
theorem dX11_ahead_80 : decode cX11_ahead 80 = .ok (.invokevirtual 359, 3) := by decide +kernel
theorem dX11_ahead_83 : decode cX11_ahead 83 = .ok (.istore 5, 2) := by decide +kernel
theorem dX11_ahead_85 : decode cX11_ahead 85 = .ok (.iinc 6 1, 3) := by decide +kernel
theorem dX11_ahead_88 : decode cX11_ahead 88 = .ok (.goto (-23), 3) := by decide +kernel
theorem dX11_ahead_91 : decode cX11_ahead 91 = .ok (.iload 5, 2) := by decide +kernel
theorem dX11_ahead_93 : decode cX11_ahead 93 = .ok (.ireturn, 1) := by decide +kernel
theorem dX11_chosen_0 : decode cX11_chosen 0 = .ok (.aload_n 0, 1) := by decide +kernel
theorem dX11_chosen_1 : decode cX11_chosen 1 = .ok (.iload_n 1, 1) := by decide +kernel
theorem dX11_chosen_2 : decode cX11_chosen 2 = .ok (.iconst 0, 1) := by decide +kernel
theorem dX11_chosen_3 : decode cX11_chosen 3 = .ok (.iconst 1, 1) := by decide +kernel
theorem dX11_chosen_4 : decode cX11_chosen 4 = .ok (.invokestatic 140, 3) := by decide +kernel
theorem dX11_chosen_7 : decode cX11_chosen 7 = .ok (.invokevirtual 100, 3) := by decide +kernel
theorem dX11_chosen_10 : decode cX11_chosen 10 = .ok (.iload_n 1, 1) := by decide +kernel
theorem dX11_chosen_11 : decode cX11_chosen 11 = .ok (.ifCond .ne 13, 3) := by decide +kernel
theorem dX11_chosen_14 : decode cX11_chosen 14 = .ok (.aload_n 0, 1) := by decide +kernel
theorem dX11_chosen_15 : decode cX11_chosen 15 = .ok (.getfield 19, 3) := by decide +kernel
theorem dX11_chosen_18 : decode cX11_chosen 18 = .ok (.invokevirtual 362, 3) := by decide +kernel
theorem dX11_chosen_21 : decode cX11_chosen 21 = .ok (.goto 10, 3) := by decide +kernel
theorem dX11_chosen_24 : decode cX11_chosen 24 = .ok (.aload_n 0, 1) := by decide +kernel
theorem dX11_chosen_25 : decode cX11_chosen 25 = .ok (.getfield 19, 3) := by decide +kernel
theorem dX11_chosen_28 : decode cX11_chosen 28 = .ok (.invokevirtual 365, 3) := by decide +kernel
theorem dX11_chosen_31 : decode cX11_chosen 31 = .ok (.ireturn, 1) := by decide +kernel
theorem dX11_image_0 : decode cX11_image 0 = .ok (.aload_n 0, 1) := by decide +kernel
theorem dX11_image_1 : decode cX11_image 1 = .ok (.getfield 122, 3) := by decide +kernel
theorem dX11_image_4 : decode cX11_image 4 = .ok (.iconst 0, 1) := by decide +kernel
theorem dX11_image_5 : decode cX11_image 5 = .ok (.iconst 2, 1) := by decide +kernel
theorem dX11_image_6 : decode cX11_image 6 = .ok (.invokestatic 140, 3) := by decide +kernel
theorem dX11_image_9 : decode cX11_image 9 = .ok (.ifCond .ne 5, 3) := by decide +kernel
theorem dX11_image_12 : decode cX11_image 12 = .ok (.iconst (-1), 1) := by decide +kernel
theorem dX11_image_13 : decode cX11_image 13 = .ok (.ireturn, 1) := by decide +kernel
theorem dX11_image_14 : decode cX11_image 14 = .ok (.aload_n 0, 1) := by decide +kernel
theorem dX11_image_15 : decode cX11_image 15 = .ok (.getfield 77, 3) := by decide +kernel
theorem dX11_image_18 : decode cX11_image 18 = .ok (.aload_n 0, 1) := by decide +kernel
theorem dX11_image_19 : decode cX11_image 19 = .ok (.getfield 122, 3) := by decide +kernel
theorem dX11_image_22 : decode cX11_image 22 = .ok (.aaload, 1) := by decide +kernel
theorem dX11_image_23 : decode cX11_image 23 = .ok (.ifnonnull 19, 3) := by decide +kernel
theorem dX11_image_26 : decode cX11_image 26 = .ok (.aload_n 0, 1) := by decide +kernel
theorem dX11_image_27 : decode cX11_image 27 = .ok (.getfield 77, 3) := by decide +kernel
theorem dX11_image_30 : decode cX11_image 30 = .ok (.aload_n 0, 1) := by decide +kernel
theorem dX11_image_31 : decode cX11_image 31 = .ok (.getfield 122, 3) := by decide +kernel
theorem dX11_image_34 : decode cX11_image 34 = .ok (.new 70, 3) := by decide +kernel
theorem dX11_image_37 : decode cX11_image 37 = .ok (.dup, 1) := by decide +kernel
theorem dX11_image_38 : decode cX11_image 38 = .ok (.invokespecial 72, 3) := by decide +kernel
theorem dX11_image_41 : decode cX11_image 41 = .ok (.aastore, 1) := by decide +kernel
theorem dX11_image_42 : decode cX11_image 42 = .ok (.aload_n 0, 1) := by decide +kernel
theorem dX11_image_43 : decode cX11_image 43 = .ok (.getfield 77, 3) := by decide +kernel
theorem dX11_image_46 : decode cX11_image 46 = .ok (.aload_n 0, 1) := by decide +kernel
theorem dX11_image_47 : decode cX11_image 47 = .ok (.getfield 122, 3) := by decide +kernel
theorem dX11_image_50 : decode cX11_image 50 = .ok (.aaload, 1) := by decide +kernel
theorem dX11_image_51 : decode cX11_image 51 = .ok (.aload_n 0, 1) := by decide +kernel
theorem dX11_image_52 : decode cX11_image 52 = .ok (.getfield 73, 3) := by decide +kernel
theorem dX11_image_55 : decode cX11_image 55 = .ok (.invokevirtual 368, 3) := by decide +kernel
theorem dX11_image_58 : decode cX11_image 58 = .ok (.aload_n 0, 1) := by decide +kernel
theorem dX11_image_59 : decode cX11_image 59 = .ok (.getfield 77, 3) := by decide +kernel
theorem dX11_image_62 : decode cX11_image 62 = .ok (.aload_n 0, 1) := by decide +kernel
theorem dX11_image_63 : decode cX11_image 63 = .ok (.getfield 122, 3) := by decide +kernel
theorem dX11_image_66 : decode cX11_image 66 = .ok (.aaload, 1) := by decide +kernel
theorem dX11_image_67 : decode cX11_image 67 = .ok (.aload_n 0, 1) := by decide +kernel
theorem dX11_image_68 : decode cX11_image 68 = .ok (.getfield 19, 3) := by decide +kernel
theorem dX11_image_71 : decode cX11_image 71 = .ok (.getfield 158, 3) := by decide +kernel
theorem dX11_image_74 : decode cX11_image 74 = .ok (.invokevirtual 162, 3) := by decide +kernel
theorem dX11_image_77 : decode cX11_image 77 = .ok (.aload_n 0, 1) := by decide +kernel
theorem dX11_image_78 : decode cX11_image 78 = .ok (.dup, 1) := by decide +kernel
theorem dX11_image_79 : decode cX11_image 79 = .ok (.getfield 122, 3) := by decide +kernel
theorem dX11_image_82 : decode cX11_image 82 = .ok (.iconst 1, 1) := by decide +kernel
theorem dX11_image_83 : decode cX11_image 83 = .ok (.iadd, 1) := by decide +kernel
theorem dX11_image_84 : decode cX11_image 84 = .ok (.putfield 122, 3) := by decide +kernel
theorem dX11_image_87 : decode cX11_image 87 = .ok (.aload_n 0, 1) := by decide +kernel
theorem dX11_image_88 : decode cX11_image 88 = .ok (.getfield 122, 3) := by decide +kernel
theorem dX11_image_91 : decode cX11_image 91 = .ok (.ireturn, 1) := by decide +kernel
theorem dX11_restore_0 : decode cX11_restore 0 = .ok (.aload_n 0, 1) := by decide +kernel
theorem dX11_restore_1 : decode cX11_restore 1 = .ok (.getfield 122, 3) := by decide +kernel
theorem dX11_restore_4 : decode cX11_restore 4 = .ok (.iconst 1, 1) := by decide +kernel
theorem dX11_restore_5 : decode cX11_restore 5 = .ok (.iconst 3, 1) := by decide +kernel
theorem dX11_restore_6 : decode cX11_restore 6 = .ok (.invokestatic 140, 3) := by decide +kernel
theorem dX11_restore_9 : decode cX11_restore 9 = .ok (.ifCond .eq 17, 3) := by decide +kernel
theorem dX11_restore_12 : decode cX11_restore 12 = .ok (.aload_n 0, 1) := by decide +kernel
theorem dX11_restore_13 : decode cX11_restore 13 = .ok (.getfield 77, 3) := by decide +kernel
theorem dX11_restore_16 : decode cX11_restore 16 = .ok (.aload_n 0, 1) := by decide +kernel
theorem dX11_restore_17 : decode cX11_restore 17 = .ok (.getfield 122, 3) := by decide +kernel
theorem dX11_restore_20 : decode cX11_restore 20 = .ok (.iconst 1, 1) := by decide +kernel
theorem dX11_restore_21 : decode cX11_restore 21 = .ok (.isub, 1) := by decide +kernel
theorem dX11_restore_22 : decode cX11_restore 22 = .ok (.aaload, 1) := by decide +kernel
theorem dX11_restore_23 : decode cX11_restore 23 = .ok (.ifnonnull 5, 3) := by decide +kernel
theorem dX11_restore_26 : decode cX11_restore 26 = .ok (.iconst (-1), 1) := by decide +kernel
theorem dX11_restore_27 : decode cX11_restore 27 = .ok (.ireturn, 1) := by decide +kernel
theorem dX11_restore_28 : decode cX11_restore 28 = .ok (.aload_n 0, 1) := by decide +kernel
theorem dX11_restore_29 : decode cX11_restore 29 = .ok (.dup, 1) := by decide +kernel
theorem dX11_restore_30 : decode cX11_restore 30 = .ok (.getfield 122, 3) := by decide +kernel
theorem dX11_restore_33 : decode cX11_restore 33 = .ok (.iconst 1, 1) := by decide +kernel
theorem dX11_restore_34 : decode cX11_restore 34 = .ok (.isub, 1) := by decide +kernel
theorem dX11_restore_35 : decode cX11_restore 35 = .ok (.putfield 122, 3) := by decide +kernel
theorem dX11_restore_38 : decode cX11_restore 38 = .ok (.aload_n 0, 1) := by decide +kernel
theorem dX11_restore_39 : decode cX11_restore 39 = .ok (.getfield 77, 3) := by decide +kernel
theorem dX11_restore_42 : decode cX11_restore 42 = .ok (.aload_n 0, 1) := by decide +kernel
theorem dX11_restore_43 : decode cX11_restore 43 = .ok (.getfield 122, 3) := by decide +kernel
theorem dX11_restore_46 : decode cX11_restore 46 = .ok (.aaload, 1) := by decide +kernel
theorem dX11_restore_47 : decode cX11_restore 47 = .ok (.aload_n 0, 1) := by decide +kernel
theorem dX11_restore_48 : decode cX11_restore 48 = .ok (.getfield 19, 3) := by decide +kernel
theorem dX11_restore_51 : decode cX11_restore 51 = .ok (.getfield 158, 3) := by decide +kernel
theorem dX11_restore_54 : decode cX11_restore 54 = .ok (.invokevirtual 188, 3) := by decide +kernel
theorem dX11_restore_57 : decode cX11_restore 57 = .ok (.aload_n 0, 1) := by decide +kernel
theorem dX11_restore_58 : decode cX11_restore 58 = .ok (.getfield 73, 3) := by decide +kernel
theorem dX11_restore_61 : decode cX11_restore 61 = .ok (.aload_n 0, 1) := by decide +kernel
theorem dX11_restore_62 : decode cX11_restore 62 = .ok (.getfield 77, 3) := by decide +kernel
theorem dX11_restore_65 : decode cX11_restore 65 = .ok (.aload_n 0, 1) := by decide +kernel
theorem dX11_restore_66 : decode cX11_restore 66 = .ok (.getfield 122, 3) := by decide +kernel
theorem dX11_restore_69 : decode cX11_restore 69 = .ok (.aaload, 1) := by decide +kernel
theorem dX11_restore_70 : decode cX11_restore 70 = .ok (.invokevirtual 368, 3) := by decide +kernel
theorem dX11_restore_73 : decode cX11_restore 73 = .ok (.aload_n 0, 1) := by decide +kernel
theorem dX11_restore_74 : decode cX11_restore 74 = .ok (.iconst 0, 1) := by decide +kernel
theorem dX11_restore_75 : decode cX11_restore 75 = .ok (.putfield 125, 3) := by decide +kernel
theorem dX11_restore_78 : decode cX11_restore 78 = .ok (.aload_n 0, 1) := by decide +kernel
theorem dX11_restore_79 : decode cX11_restore 79 = .ok (.getfield 122, 3) := by decide +kernel
theorem dX11_restore_82 : decode cX11_restore 82 = .ok (.ireturn, 1) := by decide +kernel
theorem dX11_status_0 : decode cX11_status 0 = .ok (.iload_n 1, 1) := by decide +kernel
theorem dX11_status_1 : decode cX11_status 1 = .ok (.ifCond .ne 8, 3) := by decide +kernel
theorem dX11_status_4 : decode cX11_status 4 = .ok (.aload_n 0, 1) := by decide +kernel
theorem dX11_status_5 : decode cX11_status 5 = .ok (.getfield 371, 3) := by decide +kernel
theorem dX11_status_8 : decode cX11_status 8 = .ok (.ireturn, 1) := by decide +kernel
theorem dX11_status_9 : decode cX11_status 9 = .ok (.iload_n 1, 1) := by decide +kernel
theorem dX11_status_10 : decode cX11_status 10 = .ok (.iconst 1, 1) := by decide +kernel
theorem dX11_status_11 : decode cX11_status 11 = .ok (.if_icmp .ne 10, 3) := by decide +kernel
theorem dX11_status_14 : decode cX11_status 14 = .ok (.aload_n 0, 1) := by decide +kernel
theorem dX11_status_15 : decode cX11_status 15 = .ok (.getfield 374, 3) := by decide +kernel
theorem dX11_status_18 : decode cX11_status 18 = .ok (.goto 4, 3) := by decide +kernel
theorem dX11_status_21 : decode cX11_status 21 = .ok (.iconst (-1), 1) := by decide +kernel
theorem dX11_status_22 : decode cX11_status 22 = .ok (.ireturn, 1) := by decide +kernel
theorem dX11_count_0 : decode cX11_count 0 = .ok (.iload_n 1, 1) := by decide +kernel
theorem dX11_count_1 : decode cX11_count 1 = .ok (.tableswitch 48 0 2 #[27, 32, 40], 27) := by decide +kernel
theorem dX11_count_28 : decode cX11_count 28 = .ok (.aload_n 0, 1) := by decide +kernel
theorem dX11_count_29 : decode cX11_count 29 = .ok (.getfield 122, 3) := by decide +kernel
theorem dX11_count_32 : decode cX11_count 32 = .ok (.ireturn, 1) := by decide +kernel
theorem dX11_count_33 : decode cX11_count 33 = .ok (.aload_n 0, 1) := by decide +kernel
theorem dX11_count_34 : decode cX11_count 34 = .ok (.getfield 10, 3) := by decide +kernel
theorem dX11_count_37 : decode cX11_count 37 = .ok (.getfield 89, 3) := by decide +kernel
theorem dX11_count_40 : decode cX11_count 40 = .ok (.ireturn, 1) := by decide +kernel
theorem dX11_count_41 : decode cX11_count 41 = .ok (.aload_n 0, 1) := by decide +kernel
theorem dX11_count_42 : decode cX11_count 42 = .ok (.getfield 73, 3) := by decide +kernel
theorem dX11_count_45 : decode cX11_count 45 = .ok (.getfield 121, 3) := by decide +kernel
theorem dX11_count_48 : decode cX11_count 48 = .ok (.ireturn, 1) := by decide +kernel
theorem dX11_count_49 : decode cX11_count 49 = .ok (.iconst (-1), 1) := by decide +kernel
theorem dX11_count_50 : decode cX11_count 50 = .ok (.ireturn, 1) := by decide +kernel
theorem dX11_need_0 : decode cX11_need 0 = .ok (.iload_n 1, 1) := by decide +kernel
theorem dX11_need_1 : decode cX11_need 1 = .ok (.ifCond .ne 21, 3) := by decide +kernel
theorem dX11_need_4 : decode cX11_need 4 = .ok (.aload_n 0, 1) := by decide +kernel
theorem dX11_need_5 : decode cX11_need 5 = .ok (.dup, 1) := by decide +kernel
theorem dX11_need_6 : decode cX11_need 6 = .ok (.getfield 374, 3) := by decide +kernel
theorem dX11_need_9 : decode cX11_need 9 = .ok (.iconst 1, 1) := by decide +kernel
theorem dX11_need_10 : decode cX11_need 10 = .ok (.iadd, 1) := by decide +kernel
theorem dX11_need_11 : decode cX11_need 11 = .ok (.putfield 374, 3) := by decide +kernel
theorem dX11_need_14 : decode cX11_need 14 = .ok (.new 377, 3) := by decide +kernel
theorem dX11_need_17 : decode cX11_need 17 = .ok (.dup, 1) := by decide +kernel
theorem dX11_need_18 : decode cX11_need 18 = .ok (.invokespecial 379, 3) := by decide +kernel
theorem dX11_need_21 : decode cX11_need 21 = .ok (.athrow, 1) := by decide +kernel
theorem dX11_need_22 : decode cX11_need 22 = .ok (.return_, 1) := by decide +kernel
theorem dX11_needSuch_0 : decode cX11_needSuch 0 = .ok (.iload_n 1, 1) := by decide +kernel
theorem dX11_needSuch_1 : decode cX11_needSuch 1 = .ok (.ifCond .ne 21, 3) := by decide +kernel
theorem dX11_needSuch_4 : decode cX11_needSuch 4 = .ok (.aload_n 0, 1) := by decide +kernel
theorem dX11_needSuch_5 : decode cX11_needSuch 5 = .ok (.dup, 1) := by decide +kernel
theorem dX11_needSuch_6 : decode cX11_needSuch 6 = .ok (.getfield 371, 3) := by decide +kernel
theorem dX11_needSuch_9 : decode cX11_needSuch 9 = .ok (.iconst 1, 1) := by decide +kernel
theorem dX11_needSuch_10 : decode cX11_needSuch 10 = .ok (.iadd, 1) := by decide +kernel
theorem dX11_needSuch_11 : decode cX11_needSuch 11 = .ok (.putfield 371, 3) := by decide +kernel
theorem dX11_needSuch_14 : decode cX11_needSuch 14 = .ok (.new 380, 3) := by decide +kernel
theorem dX11_needSuch_17 : decode cX11_needSuch 17 = .ok (.dup, 1) := by decide +kernel
theorem dX11_needSuch_18 : decode cX11_needSuch 18 = .ok (.invokespecial 382, 3) := by decide +kernel
theorem dX11_needSuch_21 : decode cX11_needSuch 21 = .ok (.athrow, 1) := by decide +kernel
theorem dX11_needSuch_22 : decode cX11_needSuch 22 = .ok (.return_, 1) := by decide +kernel
theorem dX11_needPlace_0 : decode cX11_needPlace 0 = .ok (.aload_n 0, 1) := by decide +kernel
theorem dX11_needPlace_1 : decode cX11_needPlace 1 = .ok (.aload_n 0, 1) := by decide +kernel
theorem dX11_needPlace_2 : decode cX11_needPlace 2 = .ok (.getfield 19, 3) := by decide +kernel
theorem dX11_needPlace_5 : decode cX11_needPlace 5 = .ok (.getfield 128, 3) := by decide +kernel
theorem dX11_needPlace_8 : decode cX11_needPlace 8 = .ok (.getfield 131, 3) := by decide +kernel
theorem dX11_needPlace_11 : decode cX11_needPlace 11 = .ok (.iload_n 1, 1) := by decide +kernel
theorem dX11_needPlace_12 : decode cX11_needPlace 12 = .ok (.invokevirtual 383, 3) := by decide +kernel
theorem dX11_needPlace_15 : decode cX11_needPlace 15 = .ok (.invokevirtual 386, 3) := by decide +kernel
theorem dX11_needPlace_18 : decode cX11_needPlace 18 = .ok (.return_, 1) := by decide +kernel
theorem dX11_needWant_0 : decode cX11_needWant 0 = .ok (.aload_n 0, 1) := by decide +kernel
theorem dX11_needWant_1 : decode cX11_needWant 1 = .ok (.aload_n 0, 1) := by decide +kernel
theorem dX11_needWant_2 : decode cX11_needWant 2 = .ok (.getfield 19, 3) := by decide +kernel
theorem dX11_needWant_5 : decode cX11_needWant 5 = .ok (.getfield 128, 3) := by decide +kernel
theorem dX11_needWant_8 : decode cX11_needWant 8 = .ok (.getfield 191, 3) := by decide +kernel
theorem dX11_needWant_11 : decode cX11_needWant 11 = .ok (.iload_n 1, 1) := by decide +kernel
theorem dX11_needWant_12 : decode cX11_needWant 12 = .ok (.invokevirtual 383, 3) := by decide +kernel
theorem dX11_needWant_15 : decode cX11_needWant 15 = .ok (.invokevirtual 386, 3) := by decide +kernel
theorem dX11_needWant_18 : decode cX11_needWant 18 = .ok (.return_, 1) := by decide +kernel
theorem dX11_needMine_0 : decode cX11_needMine 0 = .ok (.aload_n 0, 1) := by decide +kernel
theorem dX11_needMine_1 : decode cX11_needMine 1 = .ok (.aload_n 0, 1) := by decide +kernel
theorem dX11_needMine_2 : decode cX11_needMine 2 = .ok (.getfield 19, 3) := by decide +kernel
theorem dX11_needMine_5 : decode cX11_needMine 5 = .ok (.getfield 128, 3) := by decide +kernel
theorem dX11_needMine_8 : decode cX11_needMine 8 = .ok (.getfield 194, 3) := by decide +kernel
theorem dX11_needMine_11 : decode cX11_needMine 11 = .ok (.iload_n 1, 1) := by decide +kernel
theorem dX11_needMine_12 : decode cX11_needMine 12 = .ok (.invokevirtual 383, 3) := by decide +kernel
theorem dX11_needMine_15 : decode cX11_needMine 15 = .ok (.invokevirtual 386, 3) := by decide +kernel
theorem dX11_needMine_18 : decode cX11_needMine 18 = .ok (.return_, 1) := by decide +kernel
theorem dX11_isWithin_0 : decode cX11_isWithin 0 = .ok (.iload_n 0, 1) := by decide +kernel
theorem dX11_isWithin_1 : decode cX11_isWithin 1 = .ok (.iload_n 1, 1) := by decide +kernel
theorem dX11_isWithin_2 : decode cX11_isWithin 2 = .ok (.if_icmp .lt 12, 3) := by decide +kernel
theorem dX11_isWithin_5 : decode cX11_isWithin 5 = .ok (.iload_n 0, 1) := by decide +kernel
theorem dX11_isWithin_6 : decode cX11_isWithin 6 = .ok (.iload_n 2, 1) := by decide +kernel
theorem dX11_isWithin_7 : decode cX11_isWithin 7 = .ok (.if_icmp .gt 7, 3) := by decide +kernel
theorem dX11_isWithin_10 : decode cX11_isWithin 10 = .ok (.iconst 1, 1) := by decide +kernel
theorem dX11_isWithin_11 : decode cX11_isWithin 11 = .ok (.goto 4, 3) := by decide +kernel
theorem dX11_isWithin_14 : decode cX11_isWithin 14 = .ok (.iconst 0, 1) := by decide +kernel
theorem dX11_isWithin_15 : decode cX11_isWithin 15 = .ok (.ireturn, 1) := by decide +kernel
theorem dX11_isDay_0 : decode cX11_isDay 0 = .ok (.iload_n 0, 1) := by decide +kernel
theorem dX11_isDay_1 : decode cX11_isDay 1 = .ok (.iconst 0, 1) := by decide +kernel
theorem dX11_isDay_2 : decode cX11_isDay 2 = .ok (.sipush 9999, 3) := by decide +kernel
theorem dX11_isDay_5 : decode cX11_isDay 5 = .ok (.invokestatic 140, 3) := by decide +kernel
theorem dX11_isDay_8 : decode cX11_isDay 8 = .ok (.ireturn, 1) := by decide +kernel
theorem dX11_isCloudSpan_0 : decode cX11_isCloudSpan 0 = .ok (.iload_n 0, 1) := by decide +kernel
theorem dX11_isCloudSpan_1 : decode cX11_isCloudSpan 1 = .ok (.iconst 0, 1) := by decide +kernel
theorem dX11_isCloudSpan_2 : decode cX11_isCloudSpan 2 = .ok (.bipush 16, 2) := by decide +kernel
theorem dX11_isCloudSpan_4 : decode cX11_isCloudSpan 4 = .ok (.invokestatic 140, 3) := by decide +kernel
theorem dX11_isCloudSpan_7 : decode cX11_isCloudSpan 7 = .ok (.ifCond .eq 24, 3) := by decide +kernel
theorem dX11_isCloudSpan_10 : decode cX11_isCloudSpan 10 = .ok (.iload_n 1, 1) := by decide +kernel
theorem dX11_isCloudSpan_11 : decode cX11_isCloudSpan 11 = .ok (.invokestatic 335, 3) := by decide +kernel
theorem dX11_isCloudSpan_14 : decode cX11_isCloudSpan 14 = .ok (.ifCond .eq 17, 3) := by decide +kernel
theorem dX11_isCloudSpan_17 : decode cX11_isCloudSpan 17 = .ok (.iload_n 2, 1) := by decide +kernel
theorem dX11_isCloudSpan_18 : decode cX11_isCloudSpan 18 = .ok (.iconst 1, 1) := by decide +kernel
theorem dX11_isCloudSpan_19 : decode cX11_isCloudSpan 19 = .ok (.bipush 60, 2) := by decide +kernel
theorem dX11_isCloudSpan_21 : decode cX11_isCloudSpan 21 = .ok (.invokestatic 140, 3) := by decide +kernel
theorem dX11_isCloudSpan_24 : decode cX11_isCloudSpan 24 = .ok (.ifCond .eq 7, 3) := by decide +kernel
theorem dX11_isCloudSpan_27 : decode cX11_isCloudSpan 27 = .ok (.iconst 1, 1) := by decide +kernel
theorem dX11_isCloudSpan_28 : decode cX11_isCloudSpan 28 = .ok (.goto 4, 3) := by decide +kernel
theorem dX11_isCloudSpan_31 : decode cX11_isCloudSpan 31 = .ok (.iconst 0, 1) := by decide +kernel
theorem dX11_isCloudSpan_32 : decode cX11_isCloudSpan 32 = .ok (.ireturn, 1) := by decide +kernel
theorem dX11_isText_0 : decode cX11_isText 0 = .ok (.iload_n 1, 1) := by decide +kernel
theorem dX11_isText_1 : decode cX11_isText 1 = .ok (.iconst 0, 1) := by decide +kernel
theorem dX11_isText_2 : decode cX11_isText 2 = .ok (.iload_n 2, 1) := by decide +kernel
theorem dX11_isText_3 : decode cX11_isText 3 = .ok (.invokestatic 140, 3) := by decide +kernel
theorem dX11_isText_6 : decode cX11_isText 6 = .ok (.ifCond .eq 18, 3) := by decide +kernel
theorem dX11_isText_9 : decode cX11_isText 9 = .ok (.iload_n 1, 1) := by decide +kernel
theorem dX11_isText_10 : decode cX11_isText 10 = .ok (.aload_n 0, 1) := by decide +kernel
theorem dX11_isText_11 : decode cX11_isText 11 = .ok (.getfield 10, 3) := by decide +kernel
theorem dX11_isText_14 : decode cX11_isText 14 = .ok (.getfield 89, 3) := by decide +kernel
theorem dX11_isText_17 : decode cX11_isText 17 = .ok (.if_icmp .gt 7, 3) := by decide +kernel
theorem dX11_isText_20 : decode cX11_isText 20 = .ok (.iconst 1, 1) := by decide +kernel
theorem dX11_isText_21 : decode cX11_isText 21 = .ok (.goto 4, 3) := by decide +kernel
theorem dX11_isText_24 : decode cX11_isText 24 = .ok (.iconst 0, 1) := by decide +kernel
theorem dX11_isText_25 : decode cX11_isText 25 = .ok (.ireturn, 1) := by decide +kernel
theorem dX11_endText_0 : decode cX11_endText 0 = .ok (.aload_n 0, 1) := by decide +kernel
theorem dX11_endText_1 : decode cX11_endText 1 = .ok (.aload_n 0, 1) := by decide +kernel
theorem dX11_endText_2 : decode cX11_endText 2 = .ok (.getfield 10, 3) := by decide +kernel
theorem dX11_endText_5 : decode cX11_endText 5 = .ok (.getfield 389, 3) := by decide +kernel
theorem dX11_endText_8 : decode cX11_endText 8 = .ok (.ifCond .ne 7, 3) := by decide +kernel
theorem dX11_endText_11 : decode cX11_endText 11 = .ok (.iconst (-1), 1) := by decide +kernel
theorem dX11_endText_12 : decode cX11_endText 12 = .ok (.goto 10, 3) := by decide +kernel
theorem dX11_endText_15 : decode cX11_endText 15 = .ok (.aload_n 0, 1) := by decide +kernel
theorem dX11_endText_16 : decode cX11_endText 16 = .ok (.getfield 10, 3) := by decide +kernel
theorem dX11_endText_19 : decode cX11_endText 19 = .ok (.getfield 392, 3) := by decide +kernel
theorem dX11_endText_22 : decode cX11_endText 22 = .ok (.putfield 85, 3) := by decide +kernel
theorem dX11_endText_25 : decode cX11_endText 25 = .ok (.aload_n 0, 1) := by decide +kernel
theorem dX11_endText_26 : decode cX11_endText 26 = .ok (.getfield 10, 3) := by decide +kernel
theorem dX11_endText_29 : decode cX11_endText 29 = .ok (.iconst 0, 1) := by decide +kernel
theorem dX11_endText_30 : decode cX11_endText 30 = .ok (.putfield 89, 3) := by decide +kernel
theorem dX11_endText_33 : decode cX11_endText 33 = .ok (.aload_n 0, 1) := by decide +kernel
theorem dX11_endText_34 : decode cX11_endText 34 = .ok (.getfield 10, 3) := by decide +kernel
theorem dX11_endText_37 : decode cX11_endText 37 = .ok (.getfield 389, 3) := by decide +kernel
theorem dX11_endText_40 : decode cX11_endText 40 = .ok (.ifCond .ne 7, 3) := by decide +kernel
theorem dX11_endText_43 : decode cX11_endText 43 = .ok (.iconst 0, 1) := by decide +kernel
theorem dX11_endText_44 : decode cX11_endText 44 = .ok (.goto 13, 3) := by decide +kernel
theorem dX11_endText_47 : decode cX11_endText 47 = .ok (.aload_n 0, 1) := by decide +kernel
theorem dX11_endText_48 : decode cX11_endText 48 = .ok (.getfield 10, 3) := by decide +kernel
theorem dX11_endText_51 : decode cX11_endText 51 = .ok (.getfield 389, 3) := by decide +kernel
theorem dX11_endText_54 : decode cX11_endText 54 = .ok (.bipush 10, 2) := by decide +kernel
theorem dX11_endText_56 : decode cX11_endText 56 = .ok (.isub, 1) := by decide +kernel
theorem dX11_endText_57 : decode cX11_endText 57 = .ok (.ireturn, 1) := by decide +kernel
theorem dX11_isOption_0 : decode cX11_isOption 0 = .ok (.iload_n 0, 1) := by decide +kernel
theorem dX11_isOption_1 : decode cX11_isOption 1 = .ok (.iconst 0, 1) := by decide +kernel
theorem dX11_isOption_2 : decode cX11_isOption 2 = .ok (.sipush 999, 3) := by decide +kernel
theorem dX11_isOption_5 : decode cX11_isOption 5 = .ok (.invokestatic 140, 3) := by decide +kernel
theorem dX11_isOption_8 : decode cX11_isOption 8 = .ok (.ifCond .eq 60, 3) := by decide +kernel
theorem dX11_isOption_11 : decode cX11_isOption 11 = .ok (.iload_n 1, 1) := by decide +kernel
theorem dX11_isOption_12 : decode cX11_isOption 12 = .ok (.iconst 0, 1) := by decide +kernel
theorem dX11_isOption_13 : decode cX11_isOption 13 = .ok (.bipush 99, 2) := by decide +kernel
theorem dX11_isOption_15 : decode cX11_isOption 15 = .ok (.invokestatic 140, 3) := by decide +kernel
theorem dX11_isOption_18 : decode cX11_isOption 18 = .ok (.ifCond .eq 50, 3) := by decide +kernel
theorem dX11_isOption_21 : decode cX11_isOption 21 = .ok (.iload_n 2, 1) := by decide +kernel
theorem dX11_isOption_22 : decode cX11_isOption 22 = .ok (.iconst 0, 1) := by decide +kernel
theorem dX11_isOption_23 : decode cX11_isOption 23 = .ok (.bipush 99, 2) := by decide +kernel
theorem dX11_isOption_25 : decode cX11_isOption 25 = .ok (.invokestatic 140, 3) := by decide +kernel
theorem dX11_isOption_28 : decode cX11_isOption 28 = .ok (.ifCond .eq 40, 3) := by decide +kernel
theorem dX11_isOption_31 : decode cX11_isOption 31 = .ok (.iload_n 3, 1) := by decide +kernel
theorem dX11_isOption_32 : decode cX11_isOption 32 = .ok (.iconst 0, 1) := by decide +kernel
theorem dX11_isOption_33 : decode cX11_isOption 33 = .ok (.bipush 16, 2) := by decide +kernel
theorem dX11_isOption_35 : decode cX11_isOption 35 = .ok (.invokestatic 140, 3) := by decide +kernel
theorem dX11_isOption_38 : decode cX11_isOption 38 = .ok (.ifCond .eq 30, 3) := by decide +kernel
theorem dX11_isOption_41 : decode cX11_isOption 41 = .ok (.iload 4, 2) := by decide +kernel
theorem dX11_isOption_43 : decode cX11_isOption 43 = .ok (.iconst 0, 1) := by decide +kernel
theorem dX11_isOption_44 : decode cX11_isOption 44 = .ok (.sipush 999, 3) := by decide +kernel
theorem dX11_isOption_47 : decode cX11_isOption 47 = .ok (.invokestatic 140, 3) := by decide +kernel
theorem dX11_isOption_50 : decode cX11_isOption 50 = .ok (.ifCond .eq 18, 3) := by decide +kernel
theorem dX11_isOption_53 : decode cX11_isOption 53 = .ok (.iload 5, 2) := by decide +kernel
theorem dX11_isOption_55 : decode cX11_isOption 55 = .ok (.iconst 0, 1) := by decide +kernel
theorem dX11_isOption_56 : decode cX11_isOption 56 = .ok (.bipush 6, 2) := by decide +kernel
theorem dX11_isOption_58 : decode cX11_isOption 58 = .ok (.invokestatic 140, 3) := by decide +kernel
theorem dX11_isOption_61 : decode cX11_isOption 61 = .ok (.ifCond .eq 7, 3) := by decide +kernel
theorem dX11_isOption_64 : decode cX11_isOption 64 = .ok (.iconst 1, 1) := by decide +kernel
theorem dX11_isOption_65 : decode cX11_isOption 65 = .ok (.goto 4, 3) := by decide +kernel
theorem dX11_isOption_68 : decode cX11_isOption 68 = .ok (.iconst 0, 1) := by decide +kernel
theorem dX11_isOption_69 : decode cX11_isOption 69 = .ok (.ireturn, 1) := by decide +kernel
theorem dX11_scale_0 : decode cX11_scale 0 = .ok (.lconst 1, 1) := by decide +kernel
theorem dX11_scale_1 : decode cX11_scale 1 = .ok (.iconst 4, 1) := by decide +kernel
theorem dX11_scale_2 : decode cX11_scale 2 = .ok (.iload_n 0, 1) := by decide +kernel
theorem dX11_scale_3 : decode cX11_scale 3 = .ok (.imul, 1) := by decide +kernel
theorem dX11_scale_4 : decode cX11_scale 4 = .ok (.lshl, 1) := by decide +kernel
theorem dX11_scale_5 : decode cX11_scale 5 = .ok (.lreturn, 1) := by decide +kernel
theorem dX11_optionWorth_0 : decode cX11_optionWorth 0 = .ok (.iload_n 0, 1) := by decide +kernel
theorem dX11_optionWorth_1 : decode cX11_optionWorth 1 = .ok (.iload 4, 2) := by decide +kernel
theorem dX11_optionWorth_3 : decode cX11_optionWorth 3 = .ok (.isub, 1) := by decide +kernel
theorem dX11_optionWorth_4 : decode cX11_optionWorth 4 = .ok (.iconst 0, 1) := by decide +kernel
theorem dX11_optionWorth_5 : decode cX11_optionWorth 5 = .ok (.invokestatic 356, 3) := by decide +kernel
theorem dX11_optionWorth_8 : decode cX11_optionWorth 8 = .ok (.i2l, 1) := by decide +kernel
theorem dX11_optionWorth_9 : decode cX11_optionWorth 9 = .ok (.iload 5, 2) := by decide +kernel
theorem dX11_optionWorth_11 : decode cX11_optionWorth 11 = .ok (.invokestatic 284, 3) := by decide +kernel
theorem dX11_optionWorth_14 : decode cX11_optionWorth 14 = .ok (.lmul, 1) := by decide +kernel
theorem dX11_optionWorth_15 : decode cX11_optionWorth 15 = .ok (.lstore 7, 2) := by decide +kernel
theorem dX11_optionWorth_17 : decode cX11_optionWorth 17 = .ok (.iload 5, 2) := by decide +kernel
theorem dX11_optionWorth_19 : decode cX11_optionWorth 19 = .ok (.ifCond .gt 6, 3) := by decide +kernel
theorem dX11_optionWorth_22 : decode cX11_optionWorth 22 = .ok (.lload 7, 2) := by decide +kernel
theorem dX11_optionWorth_24 : decode cX11_optionWorth 24 = .ok (.lreturn, 1) := by decide +kernel
theorem dX11_optionWorth_25 : decode cX11_optionWorth 25 = .ok (.iload_n 0, 1) := by decide +kernel
theorem dX11_optionWorth_26 : decode cX11_optionWorth 26 = .ok (.iload_n 1, 1) := by decide +kernel
theorem dX11_optionWorth_27 : decode cX11_optionWorth 27 = .ok (.iadd, 1) := by decide +kernel
theorem dX11_optionWorth_28 : decode cX11_optionWorth 28 = .ok (.iload_n 1, 1) := by decide +kernel
theorem dX11_optionWorth_29 : decode cX11_optionWorth 29 = .ok (.iload_n 2, 1) := by decide +kernel
theorem dX11_optionWorth_30 : decode cX11_optionWorth 30 = .ok (.iload_n 3, 1) := by decide +kernel
theorem dX11_optionWorth_31 : decode cX11_optionWorth 31 = .ok (.iload 4, 2) := by decide +kernel
theorem dX11_optionWorth_33 : decode cX11_optionWorth 33 = .ok (.iload 5, 2) := by decide +kernel
theorem dX11_optionWorth_35 : decode cX11_optionWorth 35 = .ok (.iconst 1, 1) := by decide +kernel
theorem dX11_optionWorth_36 : decode cX11_optionWorth 36 = .ok (.isub, 1) := by decide +kernel
theorem dX11_optionWorth_37 : decode cX11_optionWorth 37 = .ok (.iload 6, 2) := by decide +kernel
theorem dX11_optionWorth_39 : decode cX11_optionWorth 39 = .ok (.invokestatic 276, 3) := by decide +kernel
theorem dX11_optionWorth_42 : decode cX11_optionWorth 42 = .ok (.lstore 9, 2) := by decide +kernel
theorem dX11_optionWorth_44 : decode cX11_optionWorth 44 = .ok (.iload_n 0, 1) := by decide +kernel
theorem dX11_optionWorth_45 : decode cX11_optionWorth 45 = .ok (.iload_n 2, 1) := by decide +kernel
theorem dX11_optionWorth_46 : decode cX11_optionWorth 46 = .ok (.isub, 1) := by decide +kernel
theorem dX11_optionWorth_47 : decode cX11_optionWorth 47 = .ok (.iconst 0, 1) := by decide +kernel
theorem dX11_optionWorth_48 : decode cX11_optionWorth 48 = .ok (.invokestatic 356, 3) := by decide +kernel
theorem dX11_optionWorth_51 : decode cX11_optionWorth 51 = .ok (.iload_n 1, 1) := by decide +kernel
theorem dX11_optionWorth_52 : decode cX11_optionWorth 52 = .ok (.iload_n 2, 1) := by decide +kernel
theorem dX11_optionWorth_53 : decode cX11_optionWorth 53 = .ok (.iload_n 3, 1) := by decide +kernel
theorem dX11_optionWorth_54 : decode cX11_optionWorth 54 = .ok (.iload 4, 2) := by decide +kernel
theorem dX11_optionWorth_56 : decode cX11_optionWorth 56 = .ok (.iload 5, 2) := by decide +kernel
theorem dX11_optionWorth_58 : decode cX11_optionWorth 58 = .ok (.iconst 1, 1) := by decide +kernel
theorem dX11_optionWorth_59 : decode cX11_optionWorth 59 = .ok (.isub, 1) := by decide +kernel
theorem dX11_optionWorth_60 : decode cX11_optionWorth 60 = .ok (.iload 6, 2) := by decide +kernel
theorem dX11_optionWorth_62 : decode cX11_optionWorth 62 = .ok (.invokestatic 276, 3) := by decide +kernel
theorem dX11_optionWorth_65 : decode cX11_optionWorth 65 = .ok (.lstore 11, 2) := by decide +kernel
theorem dX11_optionWorth_67 : decode cX11_optionWorth 67 = .ok (.iload_n 3, 1) := by decide +kernel
theorem dX11_optionWorth_68 : decode cX11_optionWorth 68 = .ok (.i2l, 1) := by decide +kernel
theorem dX11_optionWorth_69 : decode cX11_optionWorth 69 = .ok (.lload 9, 2) := by decide +kernel
theorem dX11_optionWorth_71 : decode cX11_optionWorth 71 = .ok (.lmul, 1) := by decide +kernel
theorem dX11_optionWorth_72 : decode cX11_optionWorth 72 = .ok (.bipush 16, 2) := by decide +kernel
theorem dX11_optionWorth_74 : decode cX11_optionWorth 74 = .ok (.iload_n 3, 1) := by decide +kernel
theorem dX11_optionWorth_75 : decode cX11_optionWorth 75 = .ok (.isub, 1) := by decide +kernel
theorem dX11_optionWorth_76 : decode cX11_optionWorth 76 = .ok (.i2l, 1) := by decide +kernel
theorem dX11_optionWorth_77 : decode cX11_optionWorth 77 = .ok (.lload 11, 2) := by decide +kernel
theorem dX11_optionWorth_79 : decode cX11_optionWorth 79 = .ok (.lmul, 1) := by decide +kernel
theorem dX11_optionWorth_80 : decode cX11_optionWorth 80 = .ok (.ladd, 1) := by decide +kernel
theorem dX11_optionWorth_81 : decode cX11_optionWorth 81 = .ok (.lstore 13, 2) := by decide +kernel
theorem dX11_optionWorth_83 : decode cX11_optionWorth 83 = .ok (.iload 6, 2) := by decide +kernel
theorem dX11_optionWorth_85 : decode cX11_optionWorth 85 = .ok (.ifCond .eq 8, 3) := by decide +kernel
theorem dX11_optionWorth_88 : decode cX11_optionWorth 88 = .ok (.lload 13, 2) := by decide +kernel
theorem dX11_optionWorth_90 : decode cX11_optionWorth 90 = .ok (.goto 10, 3) := by decide +kernel
theorem dX11_optionWorth_93 : decode cX11_optionWorth 93 = .ok (.lload 7, 2) := by decide +kernel
theorem dX11_optionWorth_95 : decode cX11_optionWorth 95 = .ok (.lload 13, 2) := by decide +kernel
theorem dX11_optionWorth_97 : decode cX11_optionWorth 97 = .ok (.invokestatic 395, 3) := by decide +kernel
theorem dX11_optionWorth_100 : decode cX11_optionWorth 100 = .ok (.lreturn, 1) := by decide +kernel
theorem dX11_partOfFraction_0 : decode cX11_partOfFraction 0 = .ok (.lload_n 0, 1) := by decide +kernel
theorem dX11_partOfFraction_1 : decode cX11_partOfFraction 1 = .ok (.lstore 4, 2) := by decide +kernel
theorem dX11_partOfFraction_3 : decode cX11_partOfFraction 3 = .ok (.iload_n 2, 1) := by decide +kernel
theorem dX11_partOfFraction_4 : decode cX11_partOfFraction 4 = .ok (.invokestatic 284, 3) := by decide +kernel
theorem dX11_partOfFraction_7 : decode cX11_partOfFraction 7 = .ok (.lstore 6, 2) := by decide +kernel
theorem dX11_partOfFraction_9 : decode cX11_partOfFraction 9 = .ok (.iconst 0, 1) := by decide +kernel
theorem dX11_partOfFraction_10 : decode cX11_partOfFraction 10 = .ok (.istore 8, 2) := by decide +kernel
theorem dX11_partOfFraction_12 : decode cX11_partOfFraction 12 = .ok (.iload 8, 2) := by decide +kernel
theorem dX11_partOfFraction_14 : decode cX11_partOfFraction 14 = .ok (.iconst 4, 1) := by decide +kernel
theorem dX11_partOfFraction_15 : decode cX11_partOfFraction 15 = .ok (.iload_n 2, 1) := by decide +kernel
theorem dX11_partOfFraction_16 : decode cX11_partOfFraction 16 = .ok (.imul, 1) := by decide +kernel
theorem dX11_partOfFraction_17 : decode cX11_partOfFraction 17 = .ok (.if_icmp .ge 36, 3) := by decide +kernel
theorem dX11_partOfFraction_20 : decode cX11_partOfFraction 20 = .ok (.lload 4, 2) := by decide +kernel
theorem dX11_partOfFraction_22 : decode cX11_partOfFraction 22 = .ok (.ldc2_w 398, 3) := by decide +kernel
theorem dX11_partOfFraction_25 : decode cX11_partOfFraction 25 = .ok (.lrem, 1) := by decide +kernel
theorem dX11_partOfFraction_26 : decode cX11_partOfFraction 26 = .ok (.lconst 0, 1) := by decide +kernel
theorem dX11_partOfFraction_27 : decode cX11_partOfFraction 27 = .ok (.lcmp, 1) := by decide +kernel
theorem dX11_partOfFraction_28 : decode cX11_partOfFraction 28 = .ok (.ifCond .ne 25, 3) := by decide +kernel
theorem dX11_partOfFraction_31 : decode cX11_partOfFraction 31 = .ok (.lload 4, 2) := by decide +kernel
theorem dX11_partOfFraction_33 : decode cX11_partOfFraction 33 = .ok (.ldc2_w 398, 3) := by decide +kernel
theorem dX11_partOfFraction_36 : decode cX11_partOfFraction 36 = .ok (.ldiv, 1) := by decide +kernel
theorem dX11_partOfFraction_37 : decode cX11_partOfFraction 37 = .ok (.lstore 4, 2) := by decide +kernel
theorem dX11_partOfFraction_39 : decode cX11_partOfFraction 39 = .ok (.lload 6, 2) := by decide +kernel
theorem dX11_partOfFraction_41 : decode cX11_partOfFraction 41 = .ok (.ldc2_w 398, 3) := by decide +kernel
theorem dX11_partOfFraction_44 : decode cX11_partOfFraction 44 = .ok (.ldiv, 1) := by decide +kernel
theorem dX11_partOfFraction_45 : decode cX11_partOfFraction 45 = .ok (.lstore 6, 2) := by decide +kernel
theorem dX11_partOfFraction_47 : decode cX11_partOfFraction 47 = .ok (.iinc 8 1, 3) := by decide +kernel
theorem dX11_partOfFraction_50 : decode cX11_partOfFraction 50 = .ok (.goto (-38), 3) := by decide +kernel
theorem dX11_partOfFraction_53 : decode cX11_partOfFraction 53 = .ok (.iload_n 3, 1) := by decide +kernel
theorem dX11_partOfFraction_54 : decode cX11_partOfFraction 54 = .ok (.ifCond .ne 8, 3) := by decide +kernel
theorem dX11_partOfFraction_57 : decode cX11_partOfFraction 57 = .ok (.lload 4, 2) := by decide +kernel
theorem dX11_partOfFraction_59 : decode cX11_partOfFraction 59 = .ok (.goto 5, 3) := by decide +kernel
theorem dX11_partOfFraction_62 : decode cX11_partOfFraction 62 = .ok (.lload 6, 2) := by decide +kernel
theorem dX11_partOfFraction_64 : decode cX11_partOfFraction 64 = .ok (.lreturn, 1) := by decide +kernel
theorem dX11_firstLook_0 : decode cX11_firstLook 0 = .ok (.iconst 1, 1) := by decide +kernel
theorem dX11_firstLook_1 : decode cX11_firstLook 1 = .ok (.istore_n 3, 1) := by decide +kernel
theorem dX11_firstLook_2 : decode cX11_firstLook 2 = .ok (.iconst 2, 1) := by decide +kernel
theorem dX11_firstLook_3 : decode cX11_firstLook 3 = .ok (.istore 4, 2) := by decide +kernel
theorem dX11_firstLook_5 : decode cX11_firstLook 5 = .ok (.iload 4, 2) := by decide +kernel
theorem dX11_firstLook_7 : decode cX11_firstLook 7 = .ok (.iload_n 2, 1) := by decide +kernel
theorem dX11_firstLook_8 : decode cX11_firstLook 8 = .ok (.if_icmp .gt 34, 3) := by decide +kernel
theorem dX11_firstLook_11 : decode cX11_firstLook 11 = .ok (.iload 4, 2) := by decide +kernel
theorem dX11_firstLook_13 : decode cX11_firstLook 13 = .ok (.iload_n 1, 1) := by decide +kernel
theorem dX11_firstLook_14 : decode cX11_firstLook 14 = .ok (.if_icmp .ge 28, 3) := by decide +kernel
theorem dX11_firstLook_17 : decode cX11_firstLook 17 = .ok (.aload_n 0, 1) := by decide +kernel
theorem dX11_firstLook_18 : decode cX11_firstLook 18 = .ok (.iload_n 1, 1) := by decide +kernel
theorem dX11_firstLook_19 : decode cX11_firstLook 19 = .ok (.iload 4, 2) := by decide +kernel
theorem dX11_firstLook_21 : decode cX11_firstLook 21 = .ok (.invokevirtual 315, 3) := by decide +kernel
theorem dX11_firstLook_24 : decode cX11_firstLook 24 = .ok (.aload_n 0, 1) := by decide +kernel
theorem dX11_firstLook_25 : decode cX11_firstLook 25 = .ok (.iload_n 1, 1) := by decide +kernel
theorem dX11_firstLook_26 : decode cX11_firstLook 26 = .ok (.iload_n 3, 1) := by decide +kernel
theorem dX11_firstLook_27 : decode cX11_firstLook 27 = .ok (.invokevirtual 315, 3) := by decide +kernel
theorem dX11_firstLook_30 : decode cX11_firstLook 30 = .ok (.if_icmp .ge 6, 3) := by decide +kernel
theorem dX11_firstLook_33 : decode cX11_firstLook 33 = .ok (.iload 4, 2) := by decide +kernel
theorem dX11_firstLook_35 : decode cX11_firstLook 35 = .ok (.istore_n 3, 1) := by decide +kernel
theorem dX11_firstLook_36 : decode cX11_firstLook 36 = .ok (.iinc 4 1, 3) := by decide +kernel
theorem dX11_firstLook_39 : decode cX11_firstLook 39 = .ok (.goto (-34), 3) := by decide +kernel
theorem dX11_firstLook_42 : decode cX11_firstLook 42 = .ok (.iload_n 3, 1) := by decide +kernel
theorem dX11_firstLook_43 : decode cX11_firstLook 43 = .ok (.ireturn, 1) := by decide +kernel
theorem dX11_looksBehind_0 : decode cX11_looksBehind 0 = .ok (.iload_n 2, 1) := by decide +kernel
theorem dX11_looksBehind_1 : decode cX11_looksBehind 1 = .ok (.ifCond .le 39, 3) := by decide +kernel
theorem dX11_looksBehind_4 : decode cX11_looksBehind 4 = .ok (.iload_n 2, 1) := by decide +kernel
theorem dX11_looksBehind_5 : decode cX11_looksBehind 5 = .ok (.iload_n 1, 1) := by decide +kernel
theorem dX11_looksBehind_6 : decode cX11_looksBehind 6 = .ok (.if_icmp .ge 34, 3) := by decide +kernel
theorem dX11_looksBehind_9 : decode cX11_looksBehind 9 = .ok (.iload_n 1, 1) := by decide +kernel
theorem dX11_looksBehind_10 : decode cX11_looksBehind 10 = .ok (.aload_n 0, 1) := by decide +kernel
theorem dX11_looksBehind_11 : decode cX11_looksBehind 11 = .ok (.getfield 81, 3) := by decide +kernel
theorem dX11_looksBehind_14 : decode cX11_looksBehind 14 = .ok (.arraylength, 1) := by decide +kernel
theorem dX11_looksBehind_15 : decode cX11_looksBehind 15 = .ok (.if_icmp .ge 25, 3) := by decide +kernel
theorem dX11_looksBehind_18 : decode cX11_looksBehind 18 = .ok (.iconst 1, 1) := by decide +kernel
theorem dX11_looksBehind_19 : decode cX11_looksBehind 19 = .ok (.aload_n 0, 1) := by decide +kernel
theorem dX11_looksBehind_20 : decode cX11_looksBehind 20 = .ok (.getfield 81, 3) := by decide +kernel
theorem dX11_looksBehind_23 : decode cX11_looksBehind 23 = .ok (.iload_n 2, 1) := by decide +kernel
theorem dX11_looksBehind_24 : decode cX11_looksBehind 24 = .ok (.iaload, 1) := by decide +kernel
theorem dX11_looksBehind_25 : decode cX11_looksBehind 25 = .ok (.aload_n 0, 1) := by decide +kernel
theorem dX11_looksBehind_26 : decode cX11_looksBehind 26 = .ok (.getfield 81, 3) := by decide +kernel
theorem dX11_looksBehind_29 : decode cX11_looksBehind 29 = .ok (.iload_n 1, 1) := by decide +kernel
theorem dX11_looksBehind_30 : decode cX11_looksBehind 30 = .ok (.iload_n 2, 1) := by decide +kernel
theorem dX11_looksBehind_31 : decode cX11_looksBehind 31 = .ok (.isub, 1) := by decide +kernel
theorem dX11_looksBehind_32 : decode cX11_looksBehind 32 = .ok (.iaload, 1) := by decide +kernel
theorem dX11_looksBehind_33 : decode cX11_looksBehind 33 = .ok (.invokestatic 356, 3) := by decide +kernel
theorem dX11_looksBehind_36 : decode cX11_looksBehind 36 = .ok (.iadd, 1) := by decide +kernel
theorem dX11_looksBehind_37 : decode cX11_looksBehind 37 = .ok (.goto 4, 3) := by decide +kernel
theorem dX11_looksBehind_40 : decode cX11_looksBehind 40 = .ok (.iconst 0, 1) := by decide +kernel
theorem dX11_looksBehind_41 : decode cX11_looksBehind 41 = .ok (.ireturn, 1) := by decide +kernel
theorem dX12_thrown_0 : decode cX12_thrown 0 = .ok (.aload_n 0, 1) := by decide +kernel
theorem dX12_thrown_1 : decode cX12_thrown 1 = .ok (.getfield 3, 3) := by decide +kernel
theorem dX12_thrown_4 : decode cX12_thrown 4 = .ok (.ireturn, 1) := by decide +kernel
theorem dX12_may_0 : decode cX12_may 0 = .ok (.iload_n 1, 1) := by decide +kernel
theorem dX12_may_1 : decode cX12_may 1 = .ok (.ifCond .ne 25, 3) := by decide +kernel
theorem dX12_may_4 : decode cX12_may 4 = .ok (.aload_n 0, 1) := by decide +kernel
theorem dX12_may_5 : decode cX12_may 5 = .ok (.getfield 3, 3) := by decide +kernel
theorem dX12_may_8 : decode cX12_may 8 = .ok (.ifCond .ne 18, 3) := by decide +kernel
theorem dX12_may_11 : decode cX12_may 11 = .ok (.aload_n 0, 1) := by decide +kernel
theorem dX12_may_12 : decode cX12_may 12 = .ok (.iload_n 2, 1) := by decide +kernel
theorem dX12_may_13 : decode cX12_may 13 = .ok (.putfield 3, 3) := by decide +kernel
theorem dX12_may_16 : decode cX12_may 16 = .ok (.aload_n 0, 1) := by decide +kernel
theorem dX12_may_17 : decode cX12_may 17 = .ok (.getfield 7, 3) := by decide +kernel
theorem dX12_may_20 : decode cX12_may 20 = .ok (.iload_n 3, 1) := by decide +kernel
theorem dX12_may_21 : decode cX12_may 21 = .ok (.dup2, 1) := by decide +kernel
theorem dX12_may_22 : decode cX12_may 22 = .ok (.iaload, 1) := by decide +kernel
theorem dX12_may_23 : decode cX12_may 23 = .ok (.iconst 1, 1) := by decide +kernel
theorem dX12_may_24 : decode cX12_may 24 = .ok (.iadd, 1) := by decide +kernel
theorem dX12_may_25 : decode cX12_may 25 = .ok (.iastore, 1) := by decide +kernel
theorem dX12_may_26 : decode cX12_may 26 = .ok (.aload_n 0, 1) := by decide +kernel
theorem dX12_may_27 : decode cX12_may 27 = .ok (.getfield 3, 3) := by decide +kernel
theorem dX12_may_30 : decode cX12_may 30 = .ok (.ifCond .ne 7, 3) := by decide +kernel
theorem dX12_may_33 : decode cX12_may 33 = .ok (.iconst 1, 1) := by decide +kernel
theorem dX12_may_34 : decode cX12_may 34 = .ok (.goto 4, 3) := by decide +kernel
theorem dX12_may_37 : decode cX12_may 37 = .ok (.iconst 0, 1) := by decide +kernel
theorem dX12_may_38 : decode cX12_may 38 = .ok (.ireturn, 1) := by decide +kernel
theorem dX12_within_0 : decode cX12_within 0 = .ok (.iload_n 0, 1) := by decide +kernel
theorem dX12_within_1 : decode cX12_within 1 = .ok (.iload_n 1, 1) := by decide +kernel
theorem dX12_within_2 : decode cX12_within 2 = .ok (.if_icmp .lt 12, 3) := by decide +kernel
theorem dX12_within_5 : decode cX12_within 5 = .ok (.iload_n 0, 1) := by decide +kernel
theorem dX12_within_6 : decode cX12_within 6 = .ok (.iload_n 2, 1) := by decide +kernel
theorem dX12_within_7 : decode cX12_within 7 = .ok (.if_icmp .gt 7, 3) := by decide +kernel
theorem dX12_within_10 : decode cX12_within 10 = .ok (.iconst 1, 1) := by decide +kernel
theorem dX12_within_11 : decode cX12_within 11 = .ok (.goto 4, 3) := by decide +kernel
theorem dX12_within_14 : decode cX12_within 14 = .ok (.iconst 0, 1) := by decide +kernel
theorem dX12_within_15 : decode cX12_within 15 = .ok (.ireturn, 1) := by decide +kernel
theorem dX12_init_0 : decode cX12_init 0 = .ok (.aload_n 0, 1) := by decide +kernel
theorem dX12_init_1 : decode cX12_init 1 = .ok (.invokespecial 11, 3) := by decide +kernel
theorem dX12_init_4 : decode cX12_init 4 = .ok (.aload_n 0, 1) := by decide +kernel
theorem dX12_init_5 : decode cX12_init 5 = .ok (.iconst 2, 1) := by decide +kernel
theorem dX12_init_6 : decode cX12_init 6 = .ok (.newarray .int, 2) := by decide +kernel
theorem dX12_init_8 : decode cX12_init 8 = .ok (.putfield 7, 3) := by decide +kernel
theorem dX12_init_11 : decode cX12_init 11 = .ok (.aload_n 0, 1) := by decide +kernel
theorem dX12_init_12 : decode cX12_init 12 = .ok (.iconst (-1), 1) := by decide +kernel
theorem dX12_init_13 : decode cX12_init 13 = .ok (.putfield 17, 3) := by decide +kernel
theorem dX12_init_16 : decode cX12_init 16 = .ok (.aload_n 0, 1) := by decide +kernel
theorem dX12_init_17 : decode cX12_init 17 = .ok (.sipush 600, 3) := by decide +kernel
theorem dX12_init_20 : decode cX12_init 20 = .ok (.newarray .int, 2) := by decide +kernel
theorem dX12_init_22 : decode cX12_init 22 = .ok (.putfield 20, 3) := by decide +kernel
theorem dX12_init_25 : decode cX12_init 25 = .ok (.aload_n 0, 1) := by decide +kernel
theorem dX12_init_26 : decode cX12_init 26 = .ok (.bipush 24, 2) := by decide +kernel
theorem dX12_init_28 : decode cX12_init 28 = .ok (.newarray .int, 2) := by decide +kernel
theorem dX12_init_30 : decode cX12_init 30 = .ok (.putfield 23, 3) := by decide +kernel
theorem dX12_init_33 : decode cX12_init 33 = .ok (.aload_n 0, 1) := by decide +kernel
theorem dX12_init_34 : decode cX12_init 34 = .ok (.bipush 48, 2) := by decide +kernel
theorem dX12_init_36 : decode cX12_init 36 = .ok (.newarray .int, 2) := by decide +kernel
theorem dX12_init_38 : decode cX12_init 38 = .ok (.putfield 26, 3) := by decide +kernel
theorem dX12_init_41 : decode cX12_init 41 = .ok (.aload_n 0, 1) := by decide +kernel
theorem dX12_init_42 : decode cX12_init 42 = .ok (.bipush 9, 2) := by decide +kernel
theorem dX12_init_44 : decode cX12_init 44 = .ok (.newarray .int, 2) := by decide +kernel
theorem dX12_init_46 : decode cX12_init 46 = .ok (.putfield 29, 3) := by decide +kernel
theorem dX12_init_49 : decode cX12_init 49 = .ok (.aload_n 0, 1) := by decide +kernel
theorem dX12_init_50 : decode cX12_init 50 = .ok (.bipush 6, 2) := by decide +kernel
theorem dX12_init_52 : decode cX12_init 52 = .ok (.newarray .int, 2) := by decide +kernel
theorem dX12_init_54 : decode cX12_init 54 = .ok (.putfield 32, 3) := by decide +kernel
theorem dX12_init_57 : decode cX12_init 57 = .ok (.aload_n 0, 1) := by decide +kernel
theorem dX12_init_58 : decode cX12_init 58 = .ok (.bipush 24, 2) := by decide +kernel
theorem dX12_init_60 : decode cX12_init 60 = .ok (.newarray .int, 2) := by decide +kernel
theorem dX12_init_62 : decode cX12_init 62 = .ok (.putfield 35, 3) := by decide +kernel
theorem dX12_init_65 : decode cX12_init 65 = .ok (.aload_n 0, 1) := by decide +kernel
theorem dX12_init_66 : decode cX12_init 66 = .ok (.bipush 48, 2) := by decide +kernel
theorem dX12_init_68 : decode cX12_init 68 = .ok (.newarray .int, 2) := by decide +kernel
theorem dX12_init_70 : decode cX12_init 70 = .ok (.putfield 38, 3) := by decide +kernel
theorem dX12_init_73 : decode cX12_init 73 = .ok (.aload_n 0, 1) := by decide +kernel
theorem dX12_init_74 : decode cX12_init 74 = .ok (.bipush 9, 2) := by decide +kernel
theorem dX12_init_76 : decode cX12_init 76 = .ok (.newarray .int, 2) := by decide +kernel
theorem dX12_init_78 : decode cX12_init 78 = .ok (.putfield 41, 3) := by decide +kernel
theorem dX12_init_81 : decode cX12_init 81 = .ok (.aload_n 0, 1) := by decide +kernel
theorem dX12_init_82 : decode cX12_init 82 = .ok (.bipush 6, 2) := by decide +kernel
theorem dX12_init_84 : decode cX12_init 84 = .ok (.newarray .int, 2) := by decide +kernel
theorem dX12_init_86 : decode cX12_init 86 = .ok (.putfield 44, 3) := by decide +kernel
theorem dX12_init_89 : decode cX12_init 89 = .ok (.aload_n 0, 1) := by decide +kernel
theorem dX12_init_90 : decode cX12_init 90 = .ok (.sipush 150, 3) := by decide +kernel
theorem dX12_init_93 : decode cX12_init 93 = .ok (.newarray .int, 2) := by decide +kernel
theorem dX12_init_95 : decode cX12_init 95 = .ok (.putfield 47, 3) := by decide +kernel
theorem dX12_init_98 : decode cX12_init 98 = .ok (.aload_n 0, 1) := by decide +kernel
theorem dX12_init_99 : decode cX12_init 99 = .ok (.sipush 150, 3) := by decide +kernel
theorem dX12_init_102 : decode cX12_init 102 = .ok (.newarray .int, 2) := by decide +kernel
theorem dX12_init_104 : decode cX12_init 104 = .ok (.putfield 50, 3) := by decide +kernel
theorem dX12_init_107 : decode cX12_init 107 = .ok (.aload_n 0, 1) := by decide +kernel
theorem dX12_init_108 : decode cX12_init 108 = .ok (.sipush 300, 3) := by decide +kernel
theorem dX12_init_111 : decode cX12_init 111 = .ok (.newarray .int, 2) := by decide +kernel
theorem dX12_init_113 : decode cX12_init 113 = .ok (.putfield 53, 3) := by decide +kernel
theorem dX12_init_116 : decode cX12_init 116 = .ok (.aload_n 0, 1) := by decide +kernel
theorem dX12_init_117 : decode cX12_init 117 = .ok (.sipush 300, 3) := by decide +kernel
theorem dX12_init_120 : decode cX12_init 120 = .ok (.newarray .int, 2) := by decide +kernel
theorem dX12_init_122 : decode cX12_init 122 = .ok (.putfield 56, 3) := by decide +kernel
theorem dX12_init_125 : decode cX12_init 125 = .ok (.aload_n 0, 1) := by decide +kernel
theorem dX12_init_126 : decode cX12_init 126 = .ok (.iconst 2, 1) := by decide +kernel
theorem dX12_init_127 : decode cX12_init 127 = .ok (.newarray .int, 2) := by decide +kernel
theorem dX12_init_129 : decode cX12_init 129 = .ok (.putfield 59, 3) := by decide +kernel
theorem dX12_init_132 : decode cX12_init 132 = .ok (.aload_n 0, 1) := by decide +kernel
theorem dX12_init_133 : decode cX12_init 133 = .ok (.sipush 150, 3) := by decide +kernel
theorem dX12_init_136 : decode cX12_init 136 = .ok (.newarray .int, 2) := by decide +kernel
theorem dX12_init_138 : decode cX12_init 138 = .ok (.putfield 62, 3) := by decide +kernel
theorem dX12_init_141 : decode cX12_init 141 = .ok (.aload_n 0, 1) := by decide +kernel
theorem dX12_init_142 : decode cX12_init 142 = .ok (.bipush 7, 2) := by decide +kernel
theorem dX12_init_144 : decode cX12_init 144 = .ok (.newarray .int, 2) := by decide +kernel
theorem dX12_init_146 : decode cX12_init 146 = .ok (.putfield 65, 3) := by decide +kernel
theorem dX12_init_149 : decode cX12_init 149 = .ok (.aload_n 0, 1) := by decide +kernel
theorem dX12_init_150 : decode cX12_init 150 = .ok (.sipush 250, 3) := by decide +kernel
theorem dX12_init_153 : decode cX12_init 153 = .ok (.newarray .int, 2) := by decide +kernel
theorem dX12_init_155 : decode cX12_init 155 = .ok (.putfield 68, 3) := by decide +kernel
theorem dX12_init_158 : decode cX12_init 158 = .ok (.aload_n 0, 1) := by decide +kernel
theorem dX12_init_159 : decode cX12_init 159 = .ok (.sipush 250, 3) := by decide +kernel
theorem dX12_init_162 : decode cX12_init 162 = .ok (.newarray .int, 2) := by decide +kernel
theorem dX12_init_164 : decode cX12_init 164 = .ok (.putfield 71, 3) := by decide +kernel
theorem dX12_init_167 : decode cX12_init 167 = .ok (.aload_n 0, 1) := by decide +kernel
theorem dX12_init_168 : decode cX12_init 168 = .ok (.bipush 50, 2) := by decide +kernel
theorem dX12_init_170 : decode cX12_init 170 = .ok (.newarray .int, 2) := by decide +kernel
theorem dX12_init_172 : decode cX12_init 172 = .ok (.putfield 74, 3) := by decide +kernel
theorem dX12_init_175 : decode cX12_init 175 = .ok (.aload_n 0, 1) := by decide +kernel
theorem dX12_init_176 : decode cX12_init 176 = .ok (.bipush 50, 2) := by decide +kernel
theorem dX12_init_178 : decode cX12_init 178 = .ok (.newarray .int, 2) := by decide +kernel
theorem dX12_init_180 : decode cX12_init 180 = .ok (.putfield 77, 3) := by decide +kernel
theorem dX12_init_183 : decode cX12_init 183 = .ok (.aload_n 0, 1) := by decide +kernel
theorem dX12_init_184 : decode cX12_init 184 = .ok (.sipush 800, 3) := by decide +kernel
theorem dX12_init_187 : decode cX12_init 187 = .ok (.newarray .int, 2) := by decide +kernel
theorem dX12_init_189 : decode cX12_init 189 = .ok (.putfield 80, 3) := by decide +kernel
theorem dX12_init_192 : decode cX12_init 192 = .ok (.aload_n 0, 1) := by decide +kernel
theorem dX12_init_193 : decode cX12_init 193 = .ok (.bipush 12, 2) := by decide +kernel
theorem dX12_init_195 : decode cX12_init 195 = .ok (.newarray .int, 2) := by decide +kernel
theorem dX12_init_197 : decode cX12_init 197 = .ok (.putfield 83, 3) := by decide +kernel
theorem dX12_init_200 : decode cX12_init 200 = .ok (.aload_n 0, 1) := by decide +kernel
theorem dX12_init_201 : decode cX12_init 201 = .ok (.bipush 12, 2) := by decide +kernel
theorem dX12_init_203 : decode cX12_init 203 = .ok (.newarray .int, 2) := by decide +kernel
theorem dX12_init_205 : decode cX12_init 205 = .ok (.putfield 86, 3) := by decide +kernel
theorem dX12_init_208 : decode cX12_init 208 = .ok (.aload_n 0, 1) := by decide +kernel
theorem dX12_init_209 : decode cX12_init 209 = .ok (.bipush 12, 2) := by decide +kernel
theorem dX12_init_211 : decode cX12_init 211 = .ok (.newarray .int, 2) := by decide +kernel
theorem dX12_init_213 : decode cX12_init 213 = .ok (.putfield 89, 3) := by decide +kernel
theorem dX12_init_216 : decode cX12_init 216 = .ok (.aload_n 0, 1) := by decide +kernel
theorem dX12_init_217 : decode cX12_init 217 = .ok (.bipush 12, 2) := by decide +kernel
theorem dX12_init_219 : decode cX12_init 219 = .ok (.newarray .int, 2) := by decide +kernel
theorem dX12_init_221 : decode cX12_init 221 = .ok (.putfield 92, 3) := by decide +kernel
theorem dX12_init_224 : decode cX12_init 224 = .ok (.aload_n 0, 1) := by decide +kernel
theorem dX12_init_225 : decode cX12_init 225 = .ok (.bipush 12, 2) := by decide +kernel
theorem dX12_init_227 : decode cX12_init 227 = .ok (.newarray .int, 2) := by decide +kernel
theorem dX12_init_229 : decode cX12_init 229 = .ok (.putfield 95, 3) := by decide +kernel
theorem dX12_init_232 : decode cX12_init 232 = .ok (.aload_n 0, 1) := by decide +kernel
theorem dX12_init_233 : decode cX12_init 233 = .ok (.bipush 41, 2) := by decide +kernel
theorem dX12_init_235 : decode cX12_init 235 = .ok (.newarray .int, 2) := by decide +kernel
theorem dX12_init_237 : decode cX12_init 237 = .ok (.putfield 98, 3) := by decide +kernel
theorem dX12_init_240 : decode cX12_init 240 = .ok (.aload_n 0, 1) := by decide +kernel
theorem dX12_init_241 : decode cX12_init 241 = .ok (.bipush 41, 2) := by decide +kernel
theorem dX12_init_243 : decode cX12_init 243 = .ok (.newarray .int, 2) := by decide +kernel
theorem dX12_init_245 : decode cX12_init 245 = .ok (.putfield 101, 3) := by decide +kernel
theorem dX12_init_248 : decode cX12_init 248 = .ok (.aload_n 0, 1) := by decide +kernel
theorem dX12_init_249 : decode cX12_init 249 = .ok (.bipush 6, 2) := by decide +kernel
theorem dX12_init_251 : decode cX12_init 251 = .ok (.newarray .int, 2) := by decide +kernel
theorem dX12_init_253 : decode cX12_init 253 = .ok (.putfield 104, 3) := by decide +kernel
theorem dX12_init_256 : decode cX12_init 256 = .ok (.aload_n 0, 1) := by decide +kernel
theorem dX12_init_257 : decode cX12_init 257 = .ok (.sipush 2553, 3) := by decide +kernel
theorem dX12_init_260 : decode cX12_init 260 = .ok (.newarray .int, 2) := by decide +kernel
theorem dX12_init_262 : decode cX12_init 262 = .ok (.putfield 107, 3) := by decide +kernel
theorem dX12_init_265 : decode cX12_init 265 = .ok (.aload_n 0, 1) := by decide +kernel
theorem dX12_init_266 : decode cX12_init 266 = .ok (.invokevirtual 110, 3) := by decide +kernel
theorem dX12_init_269 : decode cX12_init 269 = .ok (.aload_n 0, 1) := by decide +kernel
theorem dX12_init_270 : decode cX12_init 270 = .ok (.invokevirtual 113, 3) := by decide +kernel
theorem dX12_init_273 : decode cX12_init 273 = .ok (.return_, 1) := by decide +kernel
theorem dX12_feed_0 : decode cX12_feed 0 = .ok (.aload_n 0, 1) := by decide +kernel
theorem dX12_feed_1 : decode cX12_feed 1 = .ok (.iconst 0, 1) := by decide +kernel
theorem dX12_feed_2 : decode cX12_feed 2 = .ok (.putfield 3, 3) := by decide +kernel
theorem dX12_feed_5 : decode cX12_feed 5 = .ok (.aload_n 0, 1) := by decide +kernel
theorem dX12_feed_6 : decode cX12_feed 6 = .ok (.getfield 116, 3) := by decide +kernel
theorem dX12_feed_9 : decode cX12_feed 9 = .ok (.bipush 20, 2) := by decide +kernel
theorem dX12_feed_11 : decode cX12_feed 11 = .ok (.iadd, 1) := by decide +kernel
theorem dX12_feed_12 : decode cX12_feed 12 = .ok (.sipush 600, 3) := by decide +kernel
theorem dX12_feed_15 : decode cX12_feed 15 = .ok (.if_icmp .le 5, 3) := by decide +kernel
theorem dX12_feed_18 : decode cX12_feed 18 = .ok (.iconst (-1), 1) := by decide +kernel
theorem dX12_feed_19 : decode cX12_feed 19 = .ok (.ireturn, 1) := by decide +kernel
theorem dX12_feed_20 : decode cX12_feed 20 = .ok (.iconst 0, 1) := by decide +kernel
theorem dX12_feed_21 : decode cX12_feed 21 = .ok (.istore 6, 2) := by decide +kernel
theorem dX12_feed_23 : decode cX12_feed 23 = .ok (.iload 6, 2) := by decide +kernel
theorem dX12_feed_25 : decode cX12_feed 25 = .ok (.bipush 20, 2) := by decide +kernel
theorem dX12_feed_27 : decode cX12_feed 27 = .ok (.if_icmp .ge 93, 3) := by decide +kernel
theorem dX12_feed_30 : decode cX12_feed 30 = .ok (.iload 6, 2) := by decide +kernel
theorem dX12_feed_32 : decode cX12_feed 32 = .ok (.iconst 4, 1) := by decide +kernel
theorem dX12_feed_33 : decode cX12_feed 33 = .ok (.if_icmp .ge 7, 3) := by decide +kernel
theorem dX12_feed_36 : decode cX12_feed 36 = .ok (.iload_n 1, 1) := by decide +kernel
theorem dX12_feed_37 : decode cX12_feed 37 = .ok (.goto 39, 3) := by decide +kernel
theorem dX12_feed_40 : decode cX12_feed 40 = .ok (.iload 6, 2) := by decide +kernel
theorem dX12_feed_42 : decode cX12_feed 42 = .ok (.bipush 8, 2) := by decide +kernel
theorem dX12_feed_44 : decode cX12_feed 44 = .ok (.if_icmp .ge 7, 3) := by decide +kernel
theorem dX12_feed_47 : decode cX12_feed 47 = .ok (.iload_n 2, 1) := by decide +kernel
theorem dX12_feed_48 : decode cX12_feed 48 = .ok (.goto 28, 3) := by decide +kernel
theorem dX12_feed_51 : decode cX12_feed 51 = .ok (.iload 6, 2) := by decide +kernel
theorem dX12_feed_53 : decode cX12_feed 53 = .ok (.bipush 12, 2) := by decide +kernel
theorem dX12_feed_55 : decode cX12_feed 55 = .ok (.if_icmp .ge 7, 3) := by decide +kernel
theorem dX12_feed_58 : decode cX12_feed 58 = .ok (.iload_n 3, 1) := by decide +kernel
theorem dX12_feed_59 : decode cX12_feed 59 = .ok (.goto 17, 3) := by decide +kernel
theorem dX12_feed_62 : decode cX12_feed 62 = .ok (.iload 6, 2) := by decide +kernel
theorem dX12_feed_64 : decode cX12_feed 64 = .ok (.bipush 16, 2) := by decide +kernel
theorem dX12_feed_66 : decode cX12_feed 66 = .ok (.if_icmp .ge 8, 3) := by decide +kernel
theorem dX12_feed_69 : decode cX12_feed 69 = .ok (.iload 4, 2) := by decide +kernel
theorem dX12_feed_71 : decode cX12_feed 71 = .ok (.goto 5, 3) := by decide +kernel
theorem dX12_feed_74 : decode cX12_feed 74 = .ok (.iload 5, 2) := by decide +kernel
theorem dX12_feed_76 : decode cX12_feed 76 = .ok (.istore 7, 2) := by decide +kernel
theorem dX12_feed_78 : decode cX12_feed 78 = .ok (.aload_n 0, 1) := by decide +kernel
theorem dX12_feed_79 : decode cX12_feed 79 = .ok (.getfield 20, 3) := by decide +kernel
theorem dX12_feed_82 : decode cX12_feed 82 = .ok (.aload_n 0, 1) := by decide +kernel
theorem dX12_feed_83 : decode cX12_feed 83 = .ok (.getfield 116, 3) := by decide +kernel
theorem dX12_feed_86 : decode cX12_feed 86 = .ok (.iload 7, 2) := by decide +kernel
theorem dX12_feed_88 : decode cX12_feed 88 = .ok (.bipush 24, 2) := by decide +kernel
theorem dX12_feed_90 : decode cX12_feed 90 = .ok (.bipush 8, 2) := by decide +kernel
theorem dX12_feed_92 : decode cX12_feed 92 = .ok (.iload 6, 2) := by decide +kernel
theorem dX12_feed_94 : decode cX12_feed 94 = .ok (.iconst 4, 1) := by decide +kernel
theorem dX12_feed_95 : decode cX12_feed 95 = .ok (.irem, 1) := by decide +kernel
theorem dX12_feed_96 : decode cX12_feed 96 = .ok (.imul, 1) := by decide +kernel
theorem dX12_feed_97 : decode cX12_feed 97 = .ok (.isub, 1) := by decide +kernel
theorem dX12_feed_98 : decode cX12_feed 98 = .ok (.ishr, 1) := by decide +kernel
theorem dX12_feed_99 : decode cX12_feed 99 = .ok (.sipush 255, 3) := by decide +kernel
theorem dX12_feed_102 : decode cX12_feed 102 = .ok (.iand, 1) := by decide +kernel
theorem dX12_feed_103 : decode cX12_feed 103 = .ok (.iastore, 1) := by decide +kernel
theorem dX12_feed_104 : decode cX12_feed 104 = .ok (.aload_n 0, 1) := by decide +kernel
theorem dX12_feed_105 : decode cX12_feed 105 = .ok (.dup, 1) := by decide +kernel
theorem dX12_feed_106 : decode cX12_feed 106 = .ok (.getfield 116, 3) := by decide +kernel
theorem dX12_feed_109 : decode cX12_feed 109 = .ok (.iconst 1, 1) := by decide +kernel
theorem dX12_feed_110 : decode cX12_feed 110 = .ok (.iadd, 1) := by decide +kernel
theorem dX12_feed_111 : decode cX12_feed 111 = .ok (.putfield 116, 3) := by decide +kernel
theorem dX12_feed_114 : decode cX12_feed 114 = .ok (.iinc 6 1, 3) := by decide +kernel
theorem dX12_feed_117 : decode cX12_feed 117 = .ok (.goto (-94), 3) := by decide +kernel
theorem dX12_feed_120 : decode cX12_feed 120 = .ok (.aload_n 0, 1) := by decide +kernel
theorem dX12_feed_121 : decode cX12_feed 121 = .ok (.getfield 116, 3) := by decide +kernel
theorem dX12_feed_124 : decode cX12_feed 124 = .ok (.ireturn, 1) := by decide +kernel
theorem dX12_fine_0 : decode cX12_fine 0 = .ok (.aload_n 0, 1) := by decide +kernel
theorem dX12_fine_1 : decode cX12_fine 1 = .ok (.getfield 119, 3) := by decide +kernel
theorem dX12_fine_4 : decode cX12_fine 4 = .ok (.iconst (-1), 1) := by decide +kernel
theorem dX12_fine_5 : decode cX12_fine 5 = .ok (.if_icmp .ne 7, 3) := by decide +kernel
theorem dX12_fine_8 : decode cX12_fine 8 = .ok (.iconst 1, 1) := by decide +kernel
theorem dX12_fine_9 : decode cX12_fine 9 = .ok (.goto 4, 3) := by decide +kernel
theorem dX12_fine_12 : decode cX12_fine 12 = .ok (.iconst 0, 1) := by decide +kernel
theorem dX12_fine_13 : decode cX12_fine 13 = .ok (.ireturn, 1) := by decide +kernel
theorem dX12_wrong_0 : decode cX12_wrong 0 = .ok (.aload_n 0, 1) := by decide +kernel
theorem dX12_wrong_1 : decode cX12_wrong 1 = .ok (.getfield 119, 3) := by decide +kernel
theorem dX12_wrong_4 : decode cX12_wrong 4 = .ok (.iconst (-1), 1) := by decide +kernel
theorem dX12_wrong_5 : decode cX12_wrong 5 = .ok (.if_icmp .eq 4, 3) := by decide +kernel
theorem dX12_wrong_8 : decode cX12_wrong 8 = .ok (.return_, 1) := by decide +kernel
theorem dX12_wrong_9 : decode cX12_wrong 9 = .ok (.aload_n 0, 1) := by decide +kernel
theorem dX12_wrong_10 : decode cX12_wrong 10 = .ok (.iload_n 2, 1) := by decide +kernel
theorem dX12_wrong_11 : decode cX12_wrong 11 = .ok (.putfield 119, 3) := by decide +kernel
theorem dX12_wrong_14 : decode cX12_wrong 14 = .ok (.aload_n 0, 1) := by decide +kernel
theorem dX12_wrong_15 : decode cX12_wrong 15 = .ok (.iload_n 1, 1) := by decide +kernel
theorem dX12_wrong_16 : decode cX12_wrong 16 = .ok (.putfield 122, 3) := by decide +kernel
theorem dX12_wrong_19 : decode cX12_wrong 19 = .ok (.return_, 1) := by decide +kernel
theorem dX12_here_0 : decode cX12_here 0 = .ok (.aload_n 0, 1) := by decide +kernel
theorem dX12_here_1 : decode cX12_here 1 = .ok (.getfield 125, 3) := by decide +kernel
theorem dX12_here_4 : decode cX12_here 4 = .ok (.aload_n 0, 1) := by decide +kernel
theorem dX12_here_5 : decode cX12_here 5 = .ok (.getfield 128, 3) := by decide +kernel
theorem dX12_here_8 : decode cX12_here 8 = .ok (.if_icmp .ge 30, 3) := by decide +kernel
theorem dX12_here_11 : decode cX12_here 11 = .ok (.aload_n 0, 1) := by decide +kernel
theorem dX12_here_12 : decode cX12_here 12 = .ok (.getfield 20, 3) := by decide +kernel
theorem dX12_here_15 : decode cX12_here 15 = .ok (.aload_n 0, 1) := by decide +kernel
theorem dX12_here_16 : decode cX12_here 16 = .ok (.getfield 125, 3) := by decide +kernel
theorem dX12_here_19 : decode cX12_here 19 = .ok (.iaload, 1) := by decide +kernel
theorem dX12_here_20 : decode cX12_here 20 = .ok (.bipush 32, 2) := by decide +kernel
theorem dX12_here_22 : decode cX12_here 22 = .ok (.if_icmp .ne 16, 3) := by decide +kernel
theorem dX12_here_25 : decode cX12_here 25 = .ok (.aload_n 0, 1) := by decide +kernel
theorem dX12_here_26 : decode cX12_here 26 = .ok (.dup, 1) := by decide +kernel
theorem dX12_here_27 : decode cX12_here 27 = .ok (.getfield 125, 3) := by decide +kernel
theorem dX12_here_30 : decode cX12_here 30 = .ok (.iconst 1, 1) := by decide +kernel
theorem dX12_here_31 : decode cX12_here 31 = .ok (.iadd, 1) := by decide +kernel
theorem dX12_here_32 : decode cX12_here 32 = .ok (.putfield 125, 3) := by decide +kernel
theorem dX12_here_35 : decode cX12_here 35 = .ok (.goto (-35), 3) := by decide +kernel
theorem dX12_here_38 : decode cX12_here 38 = .ok (.aload_n 0, 1) := by decide +kernel
theorem dX12_here_39 : decode cX12_here 39 = .ok (.getfield 125, 3) := by decide +kernel
theorem dX12_here_42 : decode cX12_here 42 = .ok (.aload_n 0, 1) := by decide +kernel
theorem dX12_here_43 : decode cX12_here 43 = .ok (.getfield 128, 3) := by decide +kernel
theorem dX12_here_46 : decode cX12_here 46 = .ok (.if_icmp .ge 15, 3) := by decide +kernel
theorem dX12_here_49 : decode cX12_here 49 = .ok (.aload_n 0, 1) := by decide +kernel
theorem dX12_here_50 : decode cX12_here 50 = .ok (.getfield 20, 3) := by decide +kernel
theorem dX12_here_53 : decode cX12_here 53 = .ok (.aload_n 0, 1) := by decide +kernel
theorem dX12_here_54 : decode cX12_here 54 = .ok (.getfield 125, 3) := by decide +kernel
theorem dX12_here_57 : decode cX12_here 57 = .ok (.iaload, 1) := by decide +kernel
theorem dX12_here_58 : decode cX12_here 58 = .ok (.goto 4, 3) := by decide +kernel
theorem dX12_here_61 : decode cX12_here 61 = .ok (.iconst 0, 1) := by decide +kernel
theorem dX12_here_62 : decode cX12_here 62 = .ok (.ireturn, 1) := by decide +kernel
theorem dX12_isSmall_0 : decode cX12_isSmall 0 = .ok (.iload_n 0, 1) := by decide +kernel
theorem dX12_isSmall_1 : decode cX12_isSmall 1 = .ok (.bipush 97, 2) := by decide +kernel
theorem dX12_isSmall_3 : decode cX12_isSmall 3 = .ok (.if_icmp .lt 13, 3) := by decide +kernel
theorem dX12_isSmall_6 : decode cX12_isSmall 6 = .ok (.iload_n 0, 1) := by decide +kernel
theorem dX12_isSmall_7 : decode cX12_isSmall 7 = .ok (.bipush 122, 2) := by decide +kernel
theorem dX12_isSmall_9 : decode cX12_isSmall 9 = .ok (.if_icmp .gt 7, 3) := by decide +kernel
theorem dX12_isSmall_12 : decode cX12_isSmall 12 = .ok (.iconst 1, 1) := by decide +kernel
theorem dX12_isSmall_13 : decode cX12_isSmall 13 = .ok (.goto 4, 3) := by decide +kernel
theorem dX12_isSmall_16 : decode cX12_isSmall 16 = .ok (.iconst 0, 1) := by decide +kernel
theorem dX12_isSmall_17 : decode cX12_isSmall 17 = .ok (.ireturn, 1) := by decide +kernel
theorem dX12_isDigit_0 : decode cX12_isDigit 0 = .ok (.iload_n 0, 1) := by decide +kernel
theorem dX12_isDigit_1 : decode cX12_isDigit 1 = .ok (.bipush 48, 2) := by decide +kernel
theorem dX12_isDigit_3 : decode cX12_isDigit 3 = .ok (.if_icmp .lt 13, 3) := by decide +kernel
theorem dX12_isDigit_6 : decode cX12_isDigit 6 = .ok (.iload_n 0, 1) := by decide +kernel
theorem dX12_isDigit_7 : decode cX12_isDigit 7 = .ok (.bipush 57, 2) := by decide +kernel
theorem dX12_isDigit_9 : decode cX12_isDigit 9 = .ok (.if_icmp .gt 7, 3) := by decide +kernel
theorem dX12_isDigit_12 : decode cX12_isDigit 12 = .ok (.iconst 1, 1) := by decide +kernel
theorem dX12_isDigit_13 : decode cX12_isDigit 13 = .ok (.goto 4, 3) := by decide +kernel
theorem dX12_isDigit_16 : decode cX12_isDigit 16 = .ok (.iconst 0, 1) := by decide +kernel
theorem dX12_isDigit_17 : decode cX12_isDigit 17 = .ok (.ireturn, 1) := by decide +kernel
theorem dX12_word_0 : decode cX12_word 0 = .ok (.aload_n 0, 1) := by decide +kernel
theorem dX12_word_1 : decode cX12_word 1 = .ok (.invokevirtual 131, 3) := by decide +kernel
theorem dX12_word_4 : decode cX12_word 4 = .ok (.pop, 1) := by decide +kernel
theorem dX12_word_5 : decode cX12_word 5 = .ok (.iconst 0, 1) := by decide +kernel
theorem dX12_word_6 : decode cX12_word 6 = .ok (.istore_n 1, 1) := by decide +kernel
theorem dX12_word_7 : decode cX12_word 7 = .ok (.iconst 0, 1) := by decide +kernel
theorem dX12_word_8 : decode cX12_word 8 = .ok (.istore_n 2, 1) := by decide +kernel
theorem dX12_word_9 : decode cX12_word 9 = .ok (.aload_n 0, 1) := by decide +kernel
theorem dX12_word_10 : decode cX12_word 10 = .ok (.getfield 125, 3) := by decide +kernel
theorem dX12_word_13 : decode cX12_word 13 = .ok (.istore_n 3, 1) := by decide +kernel
theorem dX12_word_14 : decode cX12_word 14 = .ok (.iload_n 3, 1) := by decide +kernel
theorem dX12_word_15 : decode cX12_word 15 = .ok (.aload_n 0, 1) := by decide +kernel
theorem dX12_word_16 : decode cX12_word 16 = .ok (.getfield 128, 3) := by decide +kernel
theorem dX12_word_19 : decode cX12_word 19 = .ok (.if_icmp .ge 48, 3) := by decide +kernel
theorem dX12_word_22 : decode cX12_word 22 = .ok (.aload_n 0, 1) := by decide +kernel
theorem dX12_word_23 : decode cX12_word 23 = .ok (.getfield 20, 3) := by decide +kernel
theorem dX12_word_26 : decode cX12_word 26 = .ok (.iload_n 3, 1) := by decide +kernel
theorem dX12_word_27 : decode cX12_word 27 = .ok (.iaload, 1) := by decide +kernel
theorem dX12_word_28 : decode cX12_word 28 = .ok (.invokestatic 135, 3) := by decide +kernel
theorem dX12_word_31 : decode cX12_word 31 = .ok (.ifCond .eq 36, 3) := by decide +kernel
theorem dX12_word_34 : decode cX12_word 34 = .ok (.iload_n 2, 1) := by decide +kernel
theorem dX12_word_35 : decode cX12_word 35 = .ok (.bipush 6, 2) := by decide +kernel
theorem dX12_word_37 : decode cX12_word 37 = .ok (.if_icmp .ge 19, 3) := by decide +kernel
theorem dX12_word_40 : decode cX12_word 40 = .ok (.iload_n 1, 1) := by decide +kernel
theorem dX12_word_41 : decode cX12_word 41 = .ok (.iconst 5, 1) := by decide +kernel
theorem dX12_word_42 : decode cX12_word 42 = .ok (.ishl, 1) := by decide +kernel
theorem dX12_word_43 : decode cX12_word 43 = .ok (.aload_n 0, 1) := by decide +kernel
theorem dX12_word_44 : decode cX12_word 44 = .ok (.getfield 20, 3) := by decide +kernel
theorem dX12_word_47 : decode cX12_word 47 = .ok (.iload_n 3, 1) := by decide +kernel
theorem dX12_word_48 : decode cX12_word 48 = .ok (.iaload, 1) := by decide +kernel
theorem dX12_word_49 : decode cX12_word 49 = .ok (.bipush 96, 2) := by decide +kernel
theorem dX12_word_51 : decode cX12_word 51 = .ok (.isub, 1) := by decide +kernel
theorem dX12_word_52 : decode cX12_word 52 = .ok (.ior, 1) := by decide +kernel
theorem dX12_word_53 : decode cX12_word 53 = .ok (.goto 4, 3) := by decide +kernel
theorem dX12_word_56 : decode cX12_word 56 = .ok (.iconst 0, 1) := by decide +kernel
theorem dX12_word_57 : decode cX12_word 57 = .ok (.istore_n 1, 1) := by decide +kernel
theorem dX12_word_58 : decode cX12_word 58 = .ok (.iinc 2 1, 3) := by decide +kernel
theorem dX12_word_61 : decode cX12_word 61 = .ok (.iinc 3 1, 3) := by decide +kernel
theorem dX12_word_64 : decode cX12_word 64 = .ok (.goto (-50), 3) := by decide +kernel
theorem dX12_word_67 : decode cX12_word 67 = .ok (.iload_n 2, 1) := by decide +kernel
theorem dX12_word_68 : decode cX12_word 68 = .ok (.bipush 6, 2) := by decide +kernel
theorem dX12_word_70 : decode cX12_word 70 = .ok (.if_icmp .le 7, 3) := by decide +kernel
theorem dX12_word_73 : decode cX12_word 73 = .ok (.iconst 0, 1) := by decide +kernel
theorem dX12_word_74 : decode cX12_word 74 = .ok (.goto 4, 3) := by decide +kernel
theorem dX12_word_77 : decode cX12_word 77 = .ok (.iload_n 1, 1) := by decide +kernel
theorem dX12_word_78 : decode cX12_word 78 = .ok (.ireturn, 1) := by decide +kernel
theorem dX12_of_0 : decode cX12_of 0 = .ok (.iconst 0, 1) := by decide +kernel
theorem dX12_of_1 : decode cX12_of 1 = .ok (.istore_n 1, 1) := by decide +kernel
theorem dX12_of_2 : decode cX12_of 2 = .ok (.iconst 0, 1) := by decide +kernel
theorem dX12_of_3 : decode cX12_of 3 = .ok (.istore_n 2, 1) := by decide +kernel
theorem dX12_of_4 : decode cX12_of 4 = .ok (.iload_n 2, 1) := by decide +kernel
theorem dX12_of_5 : decode cX12_of 5 = .ok (.aload_n 0, 1) := by decide +kernel
theorem dX12_of_6 : decode cX12_of 6 = .ok (.invokevirtual 139, 3) := by decide +kernel
theorem dX12_of_9 : decode cX12_of 9 = .ok (.if_icmp .ge 22, 3) := by decide +kernel
theorem dX12_of_12 : decode cX12_of 12 = .ok (.iload_n 1, 1) := by decide +kernel
theorem dX12_of_13 : decode cX12_of 13 = .ok (.iconst 5, 1) := by decide +kernel
theorem dX12_of_14 : decode cX12_of 14 = .ok (.ishl, 1) := by decide +kernel
theorem dX12_of_15 : decode cX12_of 15 = .ok (.aload_n 0, 1) := by decide +kernel
theorem dX12_of_16 : decode cX12_of 16 = .ok (.iload_n 2, 1) := by decide +kernel
theorem dX12_of_17 : decode cX12_of 17 = .ok (.invokevirtual 144, 3) := by decide +kernel
theorem dX12_of_20 : decode cX12_of 20 = .ok (.bipush 96, 2) := by decide +kernel
theorem dX12_of_22 : decode cX12_of 22 = .ok (.isub, 1) := by decide +kernel
theorem dX12_of_23 : decode cX12_of 23 = .ok (.ior, 1) := by decide +kernel
theorem dX12_of_24 : decode cX12_of 24 = .ok (.istore_n 1, 1) := by decide +kernel
theorem dX12_of_25 : decode cX12_of 25 = .ok (.iinc 2 1, 3) := by decide +kernel
theorem dX12_of_28 : decode cX12_of 28 = .ok (.goto (-24), 3) := by decide +kernel
theorem dX12_of_31 : decode cX12_of 31 = .ok (.iload_n 1, 1) := by decide +kernel
theorem dX12_of_32 : decode cX12_of 32 = .ok (.ireturn, 1) := by decide +kernel
theorem dX12_pass_0 : decode cX12_pass 0 = .ok (.aload_n 0, 1) := by decide +kernel
theorem dX12_pass_1 : decode cX12_pass 1 = .ok (.getfield 125, 3) := by decide +kernel
theorem dX12_pass_4 : decode cX12_pass 4 = .ok (.aload_n 0, 1) := by decide +kernel
theorem dX12_pass_5 : decode cX12_pass 5 = .ok (.getfield 128, 3) := by decide +kernel
theorem dX12_pass_8 : decode cX12_pass 8 = .ok (.if_icmp .ge 31, 3) := by decide +kernel
theorem dX12_pass_11 : decode cX12_pass 11 = .ok (.aload_n 0, 1) := by decide +kernel
theorem dX12_pass_12 : decode cX12_pass 12 = .ok (.getfield 20, 3) := by decide +kernel
theorem dX12_pass_15 : decode cX12_pass 15 = .ok (.aload_n 0, 1) := by decide +kernel
theorem dX12_pass_16 : decode cX12_pass 16 = .ok (.getfield 125, 3) := by decide +kernel
theorem dX12_pass_19 : decode cX12_pass 19 = .ok (.iaload, 1) := by decide +kernel
theorem dX12_pass_20 : decode cX12_pass 20 = .ok (.invokestatic 135, 3) := by decide +kernel
theorem dX12_pass_23 : decode cX12_pass 23 = .ok (.ifCond .eq 16, 3) := by decide +kernel
theorem dX12_pass_26 : decode cX12_pass 26 = .ok (.aload_n 0, 1) := by decide +kernel
theorem dX12_pass_27 : decode cX12_pass 27 = .ok (.dup, 1) := by decide +kernel
theorem dX12_pass_28 : decode cX12_pass 28 = .ok (.getfield 125, 3) := by decide +kernel
theorem dX12_pass_31 : decode cX12_pass 31 = .ok (.iconst 1, 1) := by decide +kernel
theorem dX12_pass_32 : decode cX12_pass 32 = .ok (.iadd, 1) := by decide +kernel
theorem dX12_pass_33 : decode cX12_pass 33 = .ok (.putfield 125, 3) := by decide +kernel
theorem dX12_pass_36 : decode cX12_pass 36 = .ok (.goto (-36), 3) := by decide +kernel
theorem dX12_pass_39 : decode cX12_pass 39 = .ok (.return_, 1) := by decide +kernel
theorem dX12_readNumber_0 : decode cX12_readNumber 0 = .ok (.aload_n 0, 1) := by decide +kernel
theorem dX12_readNumber_1 : decode cX12_readNumber 1 = .ok (.invokevirtual 148, 3) := by decide +kernel
theorem dX12_readNumber_4 : decode cX12_readNumber 4 = .ok (.ifCond .ne 5, 3) := by decide +kernel
theorem dX12_readNumber_7 : decode cX12_readNumber 7 = .ok (.iconst 0, 1) := by decide +kernel
theorem dX12_readNumber_8 : decode cX12_readNumber 8 = .ok (.ireturn, 1) := by decide +kernel
theorem dX12_readNumber_9 : decode cX12_readNumber 9 = .ok (.aload_n 0, 1) := by decide +kernel
theorem dX12_readNumber_10 : decode cX12_readNumber 10 = .ok (.invokevirtual 131, 3) := by decide +kernel
theorem dX12_readNumber_13 : decode cX12_readNumber 13 = .ok (.istore_n 3, 1) := by decide +kernel
theorem dX12_readNumber_14 : decode cX12_readNumber 14 = .ok (.aload_n 0, 1) := by decide +kernel
theorem dX12_readNumber_15 : decode cX12_readNumber 15 = .ok (.getfield 125, 3) := by decide +kernel
theorem dX12_readNumber_18 : decode cX12_readNumber 18 = .ok (.istore 4, 2) := by decide +kernel
theorem dX12_readNumber_20 : decode cX12_readNumber 20 = .ok (.iconst 0, 1) := by decide +kernel
theorem dX12_readNumber_21 : decode cX12_readNumber 21 = .ok (.istore 5, 2) := by decide +kernel
theorem dX12_readNumber_23 : decode cX12_readNumber 23 = .ok (.iload_n 3, 1) := by decide +kernel
theorem dX12_readNumber_24 : decode cX12_readNumber 24 = .ok (.invokestatic 152, 3) := by decide +kernel
theorem dX12_readNumber_27 : decode cX12_readNumber 27 = .ok (.ifCond .ne 14, 3) := by decide +kernel
theorem dX12_readNumber_30 : decode cX12_readNumber 30 = .ok (.aload_n 0, 1) := by decide +kernel
theorem dX12_readNumber_31 : decode cX12_readNumber 31 = .ok (.iconst 1, 1) := by decide +kernel
theorem dX12_readNumber_32 : decode cX12_readNumber 32 = .ok (.aload_n 0, 1) := by decide +kernel
theorem dX12_readNumber_33 : decode cX12_readNumber 33 = .ok (.getfield 125, 3) := by decide +kernel
theorem dX12_readNumber_36 : decode cX12_readNumber 36 = .ok (.invokevirtual 155, 3) := by decide +kernel
theorem dX12_readNumber_39 : decode cX12_readNumber 39 = .ok (.iconst 0, 1) := by decide +kernel
theorem dX12_readNumber_40 : decode cX12_readNumber 40 = .ok (.ireturn, 1) := by decide +kernel
theorem dX12_readNumber_41 : decode cX12_readNumber 41 = .ok (.aload_n 0, 1) := by decide +kernel
theorem dX12_readNumber_42 : decode cX12_readNumber 42 = .ok (.getfield 125, 3) := by decide +kernel
theorem dX12_readNumber_45 : decode cX12_readNumber 45 = .ok (.aload_n 0, 1) := by decide +kernel
theorem dX12_readNumber_46 : decode cX12_readNumber 46 = .ok (.getfield 128, 3) := by decide +kernel
theorem dX12_readNumber_49 : decode cX12_readNumber 49 = .ok (.if_icmp .ge 65, 3) := by decide +kernel
theorem dX12_readNumber_52 : decode cX12_readNumber 52 = .ok (.aload_n 0, 1) := by decide +kernel
theorem dX12_readNumber_53 : decode cX12_readNumber 53 = .ok (.getfield 20, 3) := by decide +kernel
theorem dX12_readNumber_56 : decode cX12_readNumber 56 = .ok (.aload_n 0, 1) := by decide +kernel
theorem dX12_readNumber_57 : decode cX12_readNumber 57 = .ok (.getfield 125, 3) := by decide +kernel
theorem dX12_readNumber_60 : decode cX12_readNumber 60 = .ok (.iaload, 1) := by decide +kernel
theorem dX12_readNumber_61 : decode cX12_readNumber 61 = .ok (.invokestatic 152, 3) := by decide +kernel
theorem dX12_readNumber_64 : decode cX12_readNumber 64 = .ok (.ifCond .eq 50, 3) := by decide +kernel
theorem dX12_readNumber_67 : decode cX12_readNumber 67 = .ok (.iload 5, 2) := by decide +kernel
theorem dX12_readNumber_69 : decode cX12_readNumber 69 = .ok (.sipush 9999, 3) := by decide +kernel
theorem dX12_readNumber_72 : decode cX12_readNumber 72 = .ok (.if_icmp .le 9, 3) := by decide +kernel
theorem dX12_readNumber_75 : decode cX12_readNumber 75 = .ok (.sipush 10000, 3) := by decide +kernel
theorem dX12_readNumber_78 : decode cX12_readNumber 78 = .ok (.goto 21, 3) := by decide +kernel
theorem dX12_readNumber_81 : decode cX12_readNumber 81 = .ok (.bipush 10, 2) := by decide +kernel
theorem dX12_readNumber_83 : decode cX12_readNumber 83 = .ok (.iload 5, 2) := by decide +kernel
theorem dX12_readNumber_85 : decode cX12_readNumber 85 = .ok (.imul, 1) := by decide +kernel
theorem dX12_readNumber_86 : decode cX12_readNumber 86 = .ok (.aload_n 0, 1) := by decide +kernel
theorem dX12_readNumber_87 : decode cX12_readNumber 87 = .ok (.getfield 20, 3) := by decide +kernel
theorem dX12_readNumber_90 : decode cX12_readNumber 90 = .ok (.aload_n 0, 1) := by decide +kernel
theorem dX12_readNumber_91 : decode cX12_readNumber 91 = .ok (.getfield 125, 3) := by decide +kernel
theorem dX12_readNumber_94 : decode cX12_readNumber 94 = .ok (.iaload, 1) := by decide +kernel
theorem dX12_readNumber_95 : decode cX12_readNumber 95 = .ok (.iadd, 1) := by decide +kernel
theorem dX12_readNumber_96 : decode cX12_readNumber 96 = .ok (.bipush 48, 2) := by decide +kernel
theorem dX12_readNumber_98 : decode cX12_readNumber 98 = .ok (.isub, 1) := by decide +kernel
theorem dX12_readNumber_99 : decode cX12_readNumber 99 = .ok (.istore 5, 2) := by decide +kernel
theorem dX12_readNumber_101 : decode cX12_readNumber 101 = .ok (.aload_n 0, 1) := by decide +kernel
theorem dX12_readNumber_102 : decode cX12_readNumber 102 = .ok (.dup, 1) := by decide +kernel
theorem dX12_readNumber_103 : decode cX12_readNumber 103 = .ok (.getfield 125, 3) := by decide +kernel
theorem dX12_readNumber_106 : decode cX12_readNumber 106 = .ok (.iconst 1, 1) := by decide +kernel
theorem dX12_readNumber_107 : decode cX12_readNumber 107 = .ok (.iadd, 1) := by decide +kernel
theorem dX12_readNumber_108 : decode cX12_readNumber 108 = .ok (.putfield 125, 3) := by decide +kernel
theorem dX12_readNumber_111 : decode cX12_readNumber 111 = .ok (.goto (-70), 3) := by decide +kernel
theorem dX12_readNumber_114 : decode cX12_readNumber 114 = .ok (.iload 5, 2) := by decide +kernel
theorem dX12_readNumber_116 : decode cX12_readNumber 116 = .ok (.iload_n 1, 1) := by decide +kernel
theorem dX12_readNumber_117 : decode cX12_readNumber 117 = .ok (.if_icmp .lt 9, 3) := by decide +kernel
theorem dX12_readNumber_120 : decode cX12_readNumber 120 = .ok (.iload 5, 2) := by decide +kernel
theorem dX12_readNumber_122 : decode cX12_readNumber 122 = .ok (.iload_n 2, 1) := by decide +kernel
theorem dX12_readNumber_123 : decode cX12_readNumber 123 = .ok (.if_icmp .le 12, 3) := by decide +kernel
theorem dX12_readNumber_126 : decode cX12_readNumber 126 = .ok (.aload_n 0, 1) := by decide +kernel
theorem dX12_readNumber_127 : decode cX12_readNumber 127 = .ok (.iconst 2, 1) := by decide +kernel
theorem dX12_readNumber_128 : decode cX12_readNumber 128 = .ok (.iload 4, 2) := by decide +kernel
theorem dX12_readNumber_130 : decode cX12_readNumber 130 = .ok (.invokevirtual 155, 3) := by decide +kernel
theorem dX12_readNumber_133 : decode cX12_readNumber 133 = .ok (.iconst 0, 1) := by decide +kernel
theorem dX12_readNumber_134 : decode cX12_readNumber 134 = .ok (.ireturn, 1) := by decide +kernel
theorem dX12_readNumber_135 : decode cX12_readNumber 135 = .ok (.iload 5, 2) := by decide +kernel
theorem dX12_readNumber_137 : decode cX12_readNumber 137 = .ok (.ireturn, 1) := by decide +kernel
theorem dX12_sign_0 : decode cX12_sign 0 = .ok (.aload_n 0, 1) := by decide +kernel
theorem dX12_sign_1 : decode cX12_sign 1 = .ok (.invokevirtual 148, 3) := by decide +kernel
theorem dX12_sign_4 : decode cX12_sign 4 = .ok (.ifCond .eq 20, 3) := by decide +kernel
theorem dX12_sign_7 : decode cX12_sign 7 = .ok (.aload_n 0, 1) := by decide +kernel
theorem dX12_sign_8 : decode cX12_sign 8 = .ok (.invokevirtual 131, 3) := by decide +kernel
theorem dX12_sign_11 : decode cX12_sign 11 = .ok (.iload_n 1, 1) := by decide +kernel
theorem dX12_sign_12 : decode cX12_sign 12 = .ok (.if_icmp .eq 12, 3) := by decide +kernel
theorem dX12_sign_15 : decode cX12_sign 15 = .ok (.aload_n 0, 1) := by decide +kernel
theorem dX12_sign_16 : decode cX12_sign 16 = .ok (.iconst 1, 1) := by decide +kernel
theorem dX12_sign_17 : decode cX12_sign 17 = .ok (.aload_n 0, 1) := by decide +kernel
theorem dX12_sign_18 : decode cX12_sign 18 = .ok (.getfield 125, 3) := by decide +kernel
theorem dX12_sign_21 : decode cX12_sign 21 = .ok (.invokevirtual 155, 3) := by decide +kernel
theorem dX12_sign_24 : decode cX12_sign 24 = .ok (.aload_n 0, 1) := by decide +kernel
theorem dX12_sign_25 : decode cX12_sign 25 = .ok (.invokevirtual 148, 3) := by decide +kernel
theorem dX12_sign_28 : decode cX12_sign 28 = .ok (.ifCond .eq 13, 3) := by decide +kernel
theorem dX12_sign_31 : decode cX12_sign 31 = .ok (.aload_n 0, 1) := by decide +kernel
theorem dX12_sign_32 : decode cX12_sign 32 = .ok (.dup, 1) := by decide +kernel
theorem dX12_sign_33 : decode cX12_sign 33 = .ok (.getfield 125, 3) := by decide +kernel
theorem dX12_sign_36 : decode cX12_sign 36 = .ok (.iconst 1, 1) := by decide +kernel
theorem dX12_sign_37 : decode cX12_sign 37 = .ok (.iadd, 1) := by decide +kernel
theorem dX12_sign_38 : decode cX12_sign 38 = .ok (.putfield 125, 3) := by decide +kernel
theorem dX12_sign_41 : decode cX12_sign 41 = .ok (.return_, 1) := by decide +kernel
theorem dX12_isMore_0 : decode cX12_isMore 0 = .ok (.aload_n 0, 1) := by decide +kernel
theorem dX12_isMore_1 : decode cX12_isMore 1 = .ok (.invokevirtual 131, 3) := by decide +kernel
theorem dX12_isMore_4 : decode cX12_isMore 4 = .ok (.pop, 1) := by decide +kernel
theorem dX12_isMore_5 : decode cX12_isMore 5 = .ok (.aload_n 0, 1) := by decide +kernel
theorem dX12_isMore_6 : decode cX12_isMore 6 = .ok (.getfield 125, 3) := by decide +kernel
theorem dX12_isMore_9 : decode cX12_isMore 9 = .ok (.aload_n 0, 1) := by decide +kernel
theorem dX12_isMore_10 : decode cX12_isMore 10 = .ok (.getfield 128, 3) := by decide +kernel
theorem dX12_isMore_13 : decode cX12_isMore 13 = .ok (.if_icmp .ge 7, 3) := by decide +kernel
theorem dX12_isMore_16 : decode cX12_isMore 16 = .ok (.iconst 1, 1) := by decide +kernel
theorem dX12_isMore_17 : decode cX12_isMore 17 = .ok (.goto 4, 3) := by decide +kernel
theorem dX12_isMore_20 : decode cX12_isMore 20 = .ok (.iconst 0, 1) := by decide +kernel
theorem dX12_isMore_21 : decode cX12_isMore 21 = .ok (.ireturn, 1) := by decide +kernel
theorem dX12_begins_0 : decode cX12_begins 0 = .ok (.aload_n 0, 1) := by decide +kernel
theorem dX12_begins_1 : decode cX12_begins 1 = .ok (.iconst 0, 1) := by decide +kernel
theorem dX12_begins_2 : decode cX12_begins 2 = .ok (.putfield 116, 3) := by decide +kernel
theorem dX12_begins_5 : decode cX12_begins 5 = .ok (.aload_n 0, 1) := by decide +kernel
theorem dX12_begins_6 : decode cX12_begins 6 = .ok (.iconst (-1), 1) := by decide +kernel
theorem dX12_begins_7 : decode cX12_begins 7 = .ok (.putfield 17, 3) := by decide +kernel
theorem dX12_begins_10 : decode cX12_begins 10 = .ok (.aload_n 0, 1) := by decide +kernel
theorem dX12_begins_11 : decode cX12_begins 11 = .ok (.iload_n 1, 1) := by decide +kernel
theorem dX12_begins_12 : decode cX12_begins 12 = .ok (.putfield 128, 3) := by decide +kernel
theorem dX12_begins_15 : decode cX12_begins 15 = .ok (.aload_n 0, 1) := by decide +kernel
theorem dX12_begins_16 : decode cX12_begins 16 = .ok (.iconst 0, 1) := by decide +kernel
theorem dX12_begins_17 : decode cX12_begins 17 = .ok (.putfield 125, 3) := by decide +kernel
theorem dX12_begins_20 : decode cX12_begins 20 = .ok (.aload_n 0, 1) := by decide +kernel
theorem dX12_begins_21 : decode cX12_begins 21 = .ok (.iconst (-1), 1) := by decide +kernel
theorem dX12_begins_22 : decode cX12_begins 22 = .ok (.putfield 119, 3) := by decide +kernel
theorem dX12_begins_25 : decode cX12_begins 25 = .ok (.aload_n 0, 1) := by decide +kernel
theorem dX12_begins_26 : decode cX12_begins 26 = .ok (.iconst 0, 1) := by decide +kernel
theorem dX12_begins_27 : decode cX12_begins 27 = .ok (.putfield 159, 3) := by decide +kernel
theorem dX12_begins_30 : decode cX12_begins 30 = .ok (.return_, 1) := by decide +kernel
theorem dX12_result_0 : decode cX12_result 0 = .ok (.aload_n 0, 1) := by decide +kernel
theorem dX12_result_1 : decode cX12_result 1 = .ok (.aload_n 0, 1) := by decide +kernel
theorem dX12_result_2 : decode cX12_result 2 = .ok (.getfield 119, 3) := by decide +kernel
theorem dX12_result_5 : decode cX12_result 5 = .ok (.putfield 17, 3) := by decide +kernel
theorem dX12_result_8 : decode cX12_result 8 = .ok (.aload_n 0, 1) := by decide +kernel
theorem dX12_result_9 : decode cX12_result 9 = .ok (.invokevirtual 148, 3) := by decide +kernel
theorem dX12_result_12 : decode cX12_result 12 = .ok (.ifCond .eq 7, 3) := by decide +kernel
theorem dX12_result_15 : decode cX12_result 15 = .ok (.iload_n 1, 1) := by decide +kernel
theorem dX12_result_16 : decode cX12_result 16 = .ok (.goto 10, 3) := by decide +kernel
theorem dX12_result_19 : decode cX12_result 19 = .ok (.aload_n 0, 1) := by decide +kernel
theorem dX12_result_20 : decode cX12_result 20 = .ok (.getfield 122, 3) := by decide +kernel
theorem dX12_result_23 : decode cX12_result 23 = .ok (.bipush 10, 2) := by decide +kernel
theorem dX12_result_25 : decode cX12_result 25 = .ok (.isub, 1) := by decide +kernel
theorem dX12_result_26 : decode cX12_result 26 = .ok (.ireturn, 1) := by decide +kernel
theorem dX12_fault_0 : decode cX12_fault 0 = .ok (.aload_n 0, 1) := by decide +kernel
theorem dX12_fault_1 : decode cX12_fault 1 = .ok (.iconst 0, 1) := by decide +kernel
theorem dX12_fault_2 : decode cX12_fault 2 = .ok (.putfield 3, 3) := by decide +kernel
theorem dX12_fault_5 : decode cX12_fault 5 = .ok (.aload_n 0, 1) := by decide +kernel
theorem dX12_fault_6 : decode cX12_fault 6 = .ok (.getfield 17, 3) := by decide +kernel
theorem dX12_fault_9 : decode cX12_fault 9 = .ok (.ireturn, 1) := by decide +kernel
theorem dX12_clears_0 : decode cX12_clears 0 = .ok (.aload_n 0, 1) := by decide +kernel
theorem dX12_clears_1 : decode cX12_clears 1 = .ok (.iconst 0, 1) := by decide +kernel
theorem dX12_clears_2 : decode cX12_clears 2 = .ok (.putfield 162, 3) := by decide +kernel
theorem dX12_clears_5 : decode cX12_clears 5 = .ok (.aload_n 0, 1) := by decide +kernel
theorem dX12_clears_6 : decode cX12_clears 6 = .ok (.iconst 0, 1) := by decide +kernel
theorem dX12_clears_7 : decode cX12_clears 7 = .ok (.putfield 165, 3) := by decide +kernel
theorem dX12_clears_10 : decode cX12_clears 10 = .ok (.aload_n 0, 1) := by decide +kernel
theorem dX12_clears_11 : decode cX12_clears 11 = .ok (.iconst 0, 1) := by decide +kernel
theorem dX12_clears_12 : decode cX12_clears 12 = .ok (.putfield 168, 3) := by decide +kernel
theorem dX12_clears_15 : decode cX12_clears 15 = .ok (.aload_n 0, 1) := by decide +kernel
theorem dX12_clears_16 : decode cX12_clears 16 = .ok (.iconst 0, 1) := by decide +kernel
theorem dX12_clears_17 : decode cX12_clears 17 = .ok (.putfield 171, 3) := by decide +kernel
theorem dX12_clears_20 : decode cX12_clears 20 = .ok (.aload_n 0, 1) := by decide +kernel
theorem dX12_clears_21 : decode cX12_clears 21 = .ok (.iconst 1, 1) := by decide +kernel
theorem dX12_clears_22 : decode cX12_clears 22 = .ok (.putfield 174, 3) := by decide +kernel
theorem dX12_clears_25 : decode cX12_clears 25 = .ok (.aload_n 0, 1) := by decide +kernel
theorem dX12_clears_26 : decode cX12_clears 26 = .ok (.iconst 3, 1) := by decide +kernel
theorem dX12_clears_27 : decode cX12_clears 27 = .ok (.putfield 177, 3) := by decide +kernel
theorem dX12_clears_30 : decode cX12_clears 30 = .ok (.return_, 1) := by decide +kernel
theorem dX12_copies_0 : decode cX12_copies 0 = .ok (.iconst 0, 1) := by decide +kernel
theorem dX12_copies_1 : decode cX12_copies 1 = .ok (.istore 4, 2) := by decide +kernel
theorem dX12_copies_3 : decode cX12_copies 3 = .ok (.iload 4, 2) := by decide +kernel
theorem dX12_copies_5 : decode cX12_copies 5 = .ok (.iload_n 3, 1) := by decide +kernel
theorem dX12_copies_6 : decode cX12_copies 6 = .ok (.if_icmp .ge 17, 3) := by decide +kernel
theorem dX12_copies_9 : decode cX12_copies 9 = .ok (.aload_n 2, 1) := by decide +kernel
theorem dX12_copies_10 : decode cX12_copies 10 = .ok (.iload 4, 2) := by decide +kernel
theorem dX12_copies_12 : decode cX12_copies 12 = .ok (.aload_n 1, 1) := by decide +kernel
theorem dX12_copies_13 : decode cX12_copies 13 = .ok (.iload 4, 2) := by decide +kernel
theorem dX12_copies_15 : decode cX12_copies 15 = .ok (.iaload, 1) := by decide +kernel
theorem dX12_copies_16 : decode cX12_copies 16 = .ok (.iastore, 1) := by decide +kernel
theorem dX12_copies_17 : decode cX12_copies 17 = .ok (.iinc 4 1, 3) := by decide +kernel
theorem dX12_copies_20 : decode cX12_copies 20 = .ok (.goto (-17), 3) := by decide +kernel
theorem dX12_copies_23 : decode cX12_copies 23 = .ok (.return_, 1) := by decide +kernel
theorem dX12_sets_0 : decode cX12_sets 0 = .ok (.aload_n 0, 1) := by decide +kernel
theorem dX12_sets_1 : decode cX12_sets 1 = .ok (.aload_n 0, 1) := by decide +kernel
theorem dX12_sets_2 : decode cX12_sets 2 = .ok (.getfield 162, 3) := by decide +kernel
theorem dX12_sets_5 : decode cX12_sets 5 = .ok (.putfield 180, 3) := by decide +kernel
theorem dX12_sets_8 : decode cX12_sets 8 = .ok (.aload_n 0, 1) := by decide +kernel
theorem dX12_sets_9 : decode cX12_sets 9 = .ok (.aload_n 0, 1) := by decide +kernel
theorem dX12_sets_10 : decode cX12_sets 10 = .ok (.getfield 165, 3) := by decide +kernel
theorem dX12_sets_13 : decode cX12_sets 13 = .ok (.putfield 183, 3) := by decide +kernel
theorem dX12_sets_16 : decode cX12_sets 16 = .ok (.aload_n 0, 1) := by decide +kernel
theorem dX12_sets_17 : decode cX12_sets 17 = .ok (.aload_n 0, 1) := by decide +kernel
theorem dX12_sets_18 : decode cX12_sets 18 = .ok (.getfield 168, 3) := by decide +kernel
theorem dX12_sets_21 : decode cX12_sets 21 = .ok (.putfield 186, 3) := by decide +kernel
theorem dX12_sets_24 : decode cX12_sets 24 = .ok (.aload_n 0, 1) := by decide +kernel
theorem dX12_sets_25 : decode cX12_sets 25 = .ok (.aload_n 0, 1) := by decide +kernel
theorem dX12_sets_26 : decode cX12_sets 26 = .ok (.getfield 171, 3) := by decide +kernel
theorem dX12_sets_29 : decode cX12_sets 29 = .ok (.putfield 189, 3) := by decide +kernel
theorem dX12_sets_32 : decode cX12_sets 32 = .ok (.aload_n 0, 1) := by decide +kernel
theorem dX12_sets_33 : decode cX12_sets 33 = .ok (.aload_n 0, 1) := by decide +kernel
theorem dX12_sets_34 : decode cX12_sets 34 = .ok (.getfield 174, 3) := by decide +kernel
theorem dX12_sets_37 : decode cX12_sets 37 = .ok (.putfield 192, 3) := by decide +kernel
theorem dX12_sets_40 : decode cX12_sets 40 = .ok (.aload_n 0, 1) := by decide +kernel
theorem dX12_sets_41 : decode cX12_sets 41 = .ok (.aload_n 0, 1) := by decide +kernel
theorem dX12_sets_42 : decode cX12_sets 42 = .ok (.getfield 177, 3) := by decide +kernel
theorem dX12_sets_45 : decode cX12_sets 45 = .ok (.putfield 195, 3) := by decide +kernel
theorem dX12_sets_48 : decode cX12_sets 48 = .ok (.aload_n 0, 1) := by decide +kernel
theorem dX12_sets_49 : decode cX12_sets 49 = .ok (.aload_n 0, 1) := by decide +kernel
theorem dX12_sets_50 : decode cX12_sets 50 = .ok (.getfield 23, 3) := by decide +kernel
theorem dX12_sets_53 : decode cX12_sets 53 = .ok (.aload_n 0, 1) := by decide +kernel
theorem dX12_sets_54 : decode cX12_sets 54 = .ok (.getfield 35, 3) := by decide +kernel
theorem dX12_sets_57 : decode cX12_sets 57 = .ok (.bipush 24, 2) := by decide +kernel
theorem dX12_sets_59 : decode cX12_sets 59 = .ok (.invokevirtual 198, 3) := by decide +kernel
theorem dX12_sets_62 : decode cX12_sets 62 = .ok (.aload_n 0, 1) := by decide +kernel
theorem dX12_sets_63 : decode cX12_sets 63 = .ok (.aload_n 0, 1) := by decide +kernel
theorem dX12_sets_64 : decode cX12_sets 64 = .ok (.getfield 26, 3) := by decide +kernel
theorem dX12_sets_67 : decode cX12_sets 67 = .ok (.aload_n 0, 1) := by decide +kernel
theorem dX12_sets_68 : decode cX12_sets 68 = .ok (.getfield 38, 3) := by decide +kernel
theorem dX12_sets_71 : decode cX12_sets 71 = .ok (.bipush 48, 2) := by decide +kernel
theorem dX12_sets_73 : decode cX12_sets 73 = .ok (.invokevirtual 198, 3) := by decide +kernel
theorem dX12_sets_76 : decode cX12_sets 76 = .ok (.aload_n 0, 1) := by decide +kernel
theorem dX12_sets_77 : decode cX12_sets 77 = .ok (.aload_n 0, 1) := by decide +kernel
theorem dX12_sets_78 : decode cX12_sets 78 = .ok (.getfield 29, 3) := by decide +kernel
theorem dX12_sets_81 : decode cX12_sets 81 = .ok (.aload_n 0, 1) := by decide +kernel
theorem dX12_sets_82 : decode cX12_sets 82 = .ok (.getfield 41, 3) := by decide +kernel
theorem dX12_sets_85 : decode cX12_sets 85 = .ok (.bipush 9, 2) := by decide +kernel
theorem dX12_sets_87 : decode cX12_sets 87 = .ok (.invokevirtual 198, 3) := by decide +kernel
theorem dX12_sets_90 : decode cX12_sets 90 = .ok (.aload_n 0, 1) := by decide +kernel
theorem dX12_sets_91 : decode cX12_sets 91 = .ok (.aload_n 0, 1) := by decide +kernel
theorem dX12_sets_92 : decode cX12_sets 92 = .ok (.getfield 32, 3) := by decide +kernel
theorem dX12_sets_95 : decode cX12_sets 95 = .ok (.aload_n 0, 1) := by decide +kernel
theorem dX12_sets_96 : decode cX12_sets 96 = .ok (.getfield 44, 3) := by decide +kernel
theorem dX12_sets_99 : decode cX12_sets 99 = .ok (.bipush 6, 2) := by decide +kernel
theorem dX12_sets_101 : decode cX12_sets 101 = .ok (.invokevirtual 198, 3) := by decide +kernel
theorem dX12_sets_104 : decode cX12_sets 104 = .ok (.aload_n 0, 1) := by decide +kernel
theorem dX12_sets_105 : decode cX12_sets 105 = .ok (.getfield 59, 3) := by decide +kernel
theorem dX12_sets_108 : decode cX12_sets 108 = .ok (.iconst 0, 1) := by decide +kernel
theorem dX12_sets_109 : decode cX12_sets 109 = .ok (.iconst 0, 1) := by decide +kernel
theorem dX12_sets_110 : decode cX12_sets 110 = .ok (.iastore, 1) := by decide +kernel
theorem dX12_sets_111 : decode cX12_sets 111 = .ok (.aload_n 0, 1) := by decide +kernel
theorem dX12_sets_112 : decode cX12_sets 112 = .ok (.getfield 59, 3) := by decide +kernel
theorem dX12_sets_115 : decode cX12_sets 115 = .ok (.iconst 1, 1) := by decide +kernel
theorem dX12_sets_116 : decode cX12_sets 116 = .ok (.iconst 0, 1) := by decide +kernel
theorem dX12_sets_117 : decode cX12_sets 117 = .ok (.iastore, 1) := by decide +kernel
theorem dX12_sets_118 : decode cX12_sets 118 = .ok (.aload_n 0, 1) := by decide +kernel
theorem dX12_sets_119 : decode cX12_sets 119 = .ok (.iconst 0, 1) := by decide +kernel
theorem dX12_sets_120 : decode cX12_sets 120 = .ok (.putfield 202, 3) := by decide +kernel
theorem dX12_sets_123 : decode cX12_sets 123 = .ok (.aload_n 0, 1) := by decide +kernel
theorem dX12_sets_124 : decode cX12_sets 124 = .ok (.iconst 0, 1) := by decide +kernel
theorem dX12_sets_125 : decode cX12_sets 125 = .ok (.putfield 205, 3) := by decide +kernel
theorem dX12_sets_128 : decode cX12_sets 128 = .ok (.aload_n 0, 1) := by decide +kernel
theorem dX12_sets_129 : decode cX12_sets 129 = .ok (.iconst 0, 1) := by decide +kernel
theorem dX12_sets_130 : decode cX12_sets 130 = .ok (.putfield 208, 3) := by decide +kernel
theorem dX12_sets_133 : decode cX12_sets 133 = .ok (.aload_n 0, 1) := by decide +kernel
theorem dX12_sets_134 : decode cX12_sets 134 = .ok (.iconst 0, 1) := by decide +kernel
theorem dX12_sets_135 : decode cX12_sets 135 = .ok (.putfield 211, 3) := by decide +kernel
theorem dX12_sets_138 : decode cX12_sets 138 = .ok (.iconst 0, 1) := by decide +kernel
theorem dX12_sets_139 : decode cX12_sets 139 = .ok (.istore_n 1, 1) := by decide +kernel
theorem dX12_sets_140 : decode cX12_sets 140 = .ok (.iload_n 1, 1) := by decide +kernel
theorem dX12_sets_141 : decode cX12_sets 141 = .ok (.bipush 50, 2) := by decide +kernel
theorem dX12_sets_143 : decode cX12_sets 143 = .ok (.if_icmp .ge 16, 3) := by decide +kernel
theorem dX12_sets_146 : decode cX12_sets 146 = .ok (.aload_n 0, 1) := by decide +kernel
theorem dX12_sets_147 : decode cX12_sets 147 = .ok (.getfield 77, 3) := by decide +kernel
theorem dX12_sets_150 : decode cX12_sets 150 = .ok (.iload_n 1, 1) := by decide +kernel
theorem dX12_sets_151 : decode cX12_sets 151 = .ok (.iconst 0, 1) := by decide +kernel
theorem dX12_sets_152 : decode cX12_sets 152 = .ok (.iastore, 1) := by decide +kernel
theorem dX12_sets_153 : decode cX12_sets 153 = .ok (.iinc 1 1, 3) := by decide +kernel
theorem dX12_sets_156 : decode cX12_sets 156 = .ok (.goto (-16), 3) := by decide +kernel
theorem dX12_sets_159 : decode cX12_sets 159 = .ok (.iconst 0, 1) := by decide +kernel
theorem dX12_sets_160 : decode cX12_sets 160 = .ok (.istore_n 1, 1) := by decide +kernel
theorem dX12_sets_161 : decode cX12_sets 161 = .ok (.iload_n 1, 1) := by decide +kernel
theorem dX12_sets_162 : decode cX12_sets 162 = .ok (.aload_n 0, 1) := by decide +kernel
theorem dX12_sets_163 : decode cX12_sets 163 = .ok (.getfield 180, 3) := by decide +kernel
theorem dX12_sets_166 : decode cX12_sets 166 = .ok (.if_icmp .ge 46, 3) := by decide +kernel
theorem dX12_sets_169 : decode cX12_sets 169 = .ok (.aload_n 0, 1) := by decide +kernel
theorem dX12_sets_170 : decode cX12_sets 170 = .ok (.getfield 77, 3) := by decide +kernel
theorem dX12_sets_173 : decode cX12_sets 173 = .ok (.iconst 0, 1) := by decide +kernel
theorem dX12_sets_174 : decode cX12_sets 174 = .ok (.iload_n 1, 1) := by decide +kernel
theorem dX12_sets_175 : decode cX12_sets 175 = .ok (.iadd, 1) := by decide +kernel
theorem dX12_sets_176 : decode cX12_sets 176 = .ok (.aload_n 0, 1) := by decide +kernel
theorem dX12_sets_177 : decode cX12_sets 177 = .ok (.getfield 35, 3) := by decide +kernel
theorem dX12_sets_180 : decode cX12_sets 180 = .ok (.iconst 4, 1) := by decide +kernel
theorem dX12_sets_181 : decode cX12_sets 181 = .ok (.iload_n 1, 1) := by decide +kernel
theorem dX12_sets_182 : decode cX12_sets 182 = .ok (.imul, 1) := by decide +kernel
theorem dX12_sets_183 : decode cX12_sets 183 = .ok (.iconst 1, 1) := by decide +kernel
theorem dX12_sets_184 : decode cX12_sets 184 = .ok (.iadd, 1) := by decide +kernel
theorem dX12_sets_185 : decode cX12_sets 185 = .ok (.iaload, 1) := by decide +kernel
theorem dX12_sets_186 : decode cX12_sets 186 = .ok (.iastore, 1) := by decide +kernel
theorem dX12_sets_187 : decode cX12_sets 187 = .ok (.aload_n 0, 1) := by decide +kernel
theorem dX12_sets_188 : decode cX12_sets 188 = .ok (.getfield 77, 3) := by decide +kernel
theorem dX12_sets_191 : decode cX12_sets 191 = .ok (.bipush 6, 2) := by decide +kernel
theorem dX12_sets_193 : decode cX12_sets 193 = .ok (.iload_n 1, 1) := by decide +kernel
theorem dX12_sets_194 : decode cX12_sets 194 = .ok (.iadd, 1) := by decide +kernel
theorem dX12_sets_195 : decode cX12_sets 195 = .ok (.aload_n 0, 1) := by decide +kernel
theorem dX12_sets_196 : decode cX12_sets 196 = .ok (.getfield 35, 3) := by decide +kernel
theorem dX12_sets_199 : decode cX12_sets 199 = .ok (.iconst 4, 1) := by decide +kernel
theorem dX12_sets_200 : decode cX12_sets 200 = .ok (.iload_n 1, 1) := by decide +kernel
theorem dX12_sets_201 : decode cX12_sets 201 = .ok (.imul, 1) := by decide +kernel
theorem dX12_sets_202 : decode cX12_sets 202 = .ok (.iconst 2, 1) := by decide +kernel
theorem dX12_sets_203 : decode cX12_sets 203 = .ok (.iadd, 1) := by decide +kernel
theorem dX12_sets_204 : decode cX12_sets 204 = .ok (.iaload, 1) := by decide +kernel
theorem dX12_sets_205 : decode cX12_sets 205 = .ok (.iastore, 1) := by decide +kernel
theorem dX12_sets_206 : decode cX12_sets 206 = .ok (.iinc 1 1, 3) := by decide +kernel
theorem dX12_sets_209 : decode cX12_sets 209 = .ok (.goto (-48), 3) := by decide +kernel
theorem dX12_sets_212 : decode cX12_sets 212 = .ok (.iconst 0, 1) := by decide +kernel
theorem dX12_sets_213 : decode cX12_sets 213 = .ok (.istore_n 1, 1) := by decide +kernel
theorem dX12_sets_214 : decode cX12_sets 214 = .ok (.iload_n 1, 1) := by decide +kernel
theorem dX12_sets_215 : decode cX12_sets 215 = .ok (.bipush 12, 2) := by decide +kernel
theorem dX12_sets_217 : decode cX12_sets 217 = .ok (.if_icmp .ge 31, 3) := by decide +kernel
theorem dX12_sets_220 : decode cX12_sets 220 = .ok (.aload_n 0, 1) := by decide +kernel
theorem dX12_sets_221 : decode cX12_sets 221 = .ok (.getfield 77, 3) := by decide +kernel
theorem dX12_sets_224 : decode cX12_sets 224 = .ok (.bipush 18, 2) := by decide +kernel
theorem dX12_sets_226 : decode cX12_sets 226 = .ok (.iload_n 1, 1) := by decide +kernel
theorem dX12_sets_227 : decode cX12_sets 227 = .ok (.iadd, 1) := by decide +kernel
theorem dX12_sets_228 : decode cX12_sets 228 = .ok (.iload_n 1, 1) := by decide +kernel
theorem dX12_sets_229 : decode cX12_sets 229 = .ok (.aload_n 0, 1) := by decide +kernel
theorem dX12_sets_230 : decode cX12_sets 230 = .ok (.getfield 183, 3) := by decide +kernel
theorem dX12_sets_233 : decode cX12_sets 233 = .ok (.if_icmp .ge 7, 3) := by decide +kernel
theorem dX12_sets_236 : decode cX12_sets 236 = .ok (.iconst 1, 1) := by decide +kernel
theorem dX12_sets_237 : decode cX12_sets 237 = .ok (.goto 4, 3) := by decide +kernel
theorem dX12_sets_240 : decode cX12_sets 240 = .ok (.iconst 0, 1) := by decide +kernel
theorem dX12_sets_241 : decode cX12_sets 241 = .ok (.iastore, 1) := by decide +kernel
theorem dX12_sets_242 : decode cX12_sets 242 = .ok (.iinc 1 1, 3) := by decide +kernel
theorem dX12_sets_245 : decode cX12_sets 245 = .ok (.goto (-31), 3) := by decide +kernel
theorem dX12_sets_248 : decode cX12_sets 248 = .ok (.iconst 0, 1) := by decide +kernel
theorem dX12_sets_249 : decode cX12_sets 249 = .ok (.istore_n 1, 1) := by decide +kernel
theorem dX12_sets_250 : decode cX12_sets 250 = .ok (.iload_n 1, 1) := by decide +kernel
theorem dX12_sets_251 : decode cX12_sets 251 = .ok (.aload_n 0, 1) := by decide +kernel
theorem dX12_sets_252 : decode cX12_sets 252 = .ok (.getfield 186, 3) := by decide +kernel
theorem dX12_sets_255 : decode cX12_sets 255 = .ok (.if_icmp .ge 28, 3) := by decide +kernel
theorem dX12_sets_258 : decode cX12_sets 258 = .ok (.aload_n 0, 1) := by decide +kernel
theorem dX12_sets_259 : decode cX12_sets 259 = .ok (.getfield 77, 3) := by decide +kernel
theorem dX12_sets_262 : decode cX12_sets 262 = .ok (.bipush 42, 2) := by decide +kernel
theorem dX12_sets_264 : decode cX12_sets 264 = .ok (.iload_n 1, 1) := by decide +kernel
theorem dX12_sets_265 : decode cX12_sets 265 = .ok (.iadd, 1) := by decide +kernel
theorem dX12_sets_266 : decode cX12_sets 266 = .ok (.aload_n 0, 1) := by decide +kernel
theorem dX12_sets_267 : decode cX12_sets 267 = .ok (.getfield 41, 3) := by decide +kernel
theorem dX12_sets_270 : decode cX12_sets 270 = .ok (.iconst 3, 1) := by decide +kernel
theorem dX12_sets_271 : decode cX12_sets 271 = .ok (.iload_n 1, 1) := by decide +kernel
theorem dX12_sets_272 : decode cX12_sets 272 = .ok (.imul, 1) := by decide +kernel
theorem dX12_sets_273 : decode cX12_sets 273 = .ok (.iconst 1, 1) := by decide +kernel
theorem dX12_sets_274 : decode cX12_sets 274 = .ok (.iadd, 1) := by decide +kernel
theorem dX12_sets_275 : decode cX12_sets 275 = .ok (.iaload, 1) := by decide +kernel
theorem dX12_sets_276 : decode cX12_sets 276 = .ok (.iastore, 1) := by decide +kernel
theorem dX12_sets_277 : decode cX12_sets 277 = .ok (.iinc 1 1, 3) := by decide +kernel
theorem dX12_sets_280 : decode cX12_sets 280 = .ok (.goto (-30), 3) := by decide +kernel
theorem dX12_sets_283 : decode cX12_sets 283 = .ok (.aload_n 0, 1) := by decide +kernel
theorem dX12_sets_284 : decode cX12_sets 284 = .ok (.aload_n 0, 1) := by decide +kernel
theorem dX12_sets_285 : decode cX12_sets 285 = .ok (.getfield 77, 3) := by decide +kernel
theorem dX12_sets_288 : decode cX12_sets 288 = .ok (.aload_n 0, 1) := by decide +kernel
theorem dX12_sets_289 : decode cX12_sets 289 = .ok (.getfield 74, 3) := by decide +kernel
theorem dX12_sets_292 : decode cX12_sets 292 = .ok (.bipush 50, 2) := by decide +kernel
theorem dX12_sets_294 : decode cX12_sets 294 = .ok (.invokevirtual 198, 3) := by decide +kernel
theorem dX12_sets_297 : decode cX12_sets 297 = .ok (.return_, 1) := by decide +kernel
theorem dX12_readRow_0 : decode cX12_readRow 0 = .ok (.iload_n 1, 1) := by decide +kernel
theorem dX12_readRow_1 : decode cX12_readRow 1 = .ok (.ldc 214, 2) := by decide +kernel
theorem dX12_readRow_3 : decode cX12_readRow 3 = .ok (.invokestatic 216, 3) := by decide +kernel
theorem dX12_readRow_6 : decode cX12_readRow 6 = .ok (.if_icmp .ne 64, 3) := by decide +kernel
theorem dX12_readRow_9 : decode cX12_readRow 9 = .ok (.iconst 4, 1) := by decide +kernel
theorem dX12_readRow_10 : decode cX12_readRow 10 = .ok (.aload_n 0, 1) := by decide +kernel
theorem dX12_readRow_11 : decode cX12_readRow 11 = .ok (.getfield 162, 3) := by decide +kernel
theorem dX12_readRow_14 : decode cX12_readRow 14 = .ok (.imul, 1) := by decide +kernel
theorem dX12_readRow_15 : decode cX12_readRow 15 = .ok (.istore_n 2, 1) := by decide +kernel
theorem dX12_readRow_16 : decode cX12_readRow 16 = .ok (.aload_n 0, 1) := by decide +kernel
theorem dX12_readRow_17 : decode cX12_readRow 17 = .ok (.getfield 23, 3) := by decide +kernel
theorem dX12_readRow_20 : decode cX12_readRow 20 = .ok (.iload_n 2, 1) := by decide +kernel
theorem dX12_readRow_21 : decode cX12_readRow 21 = .ok (.aload_n 0, 1) := by decide +kernel
theorem dX12_readRow_22 : decode cX12_readRow 22 = .ok (.iconst 0, 1) := by decide +kernel
theorem dX12_readRow_23 : decode cX12_readRow 23 = .ok (.bipush 40, 2) := by decide +kernel
theorem dX12_readRow_25 : decode cX12_readRow 25 = .ok (.invokevirtual 220, 3) := by decide +kernel
theorem dX12_readRow_28 : decode cX12_readRow 28 = .ok (.iastore, 1) := by decide +kernel
theorem dX12_readRow_29 : decode cX12_readRow 29 = .ok (.iconst 1, 1) := by decide +kernel
theorem dX12_readRow_30 : decode cX12_readRow 30 = .ok (.istore_n 3, 1) := by decide +kernel
theorem dX12_readRow_31 : decode cX12_readRow 31 = .ok (.iload_n 3, 1) := by decide +kernel
theorem dX12_readRow_32 : decode cX12_readRow 32 = .ok (.iconst 4, 1) := by decide +kernel
theorem dX12_readRow_33 : decode cX12_readRow 33 = .ok (.if_icmp .ge 24, 3) := by decide +kernel
theorem dX12_readRow_36 : decode cX12_readRow 36 = .ok (.aload_n 0, 1) := by decide +kernel
theorem dX12_readRow_37 : decode cX12_readRow 37 = .ok (.getfield 23, 3) := by decide +kernel
theorem dX12_readRow_40 : decode cX12_readRow 40 = .ok (.iload_n 2, 1) := by decide +kernel
theorem dX12_readRow_41 : decode cX12_readRow 41 = .ok (.iload_n 3, 1) := by decide +kernel
theorem dX12_readRow_42 : decode cX12_readRow 42 = .ok (.iadd, 1) := by decide +kernel
theorem dX12_readRow_43 : decode cX12_readRow 43 = .ok (.aload_n 0, 1) := by decide +kernel
theorem dX12_readRow_44 : decode cX12_readRow 44 = .ok (.iconst 0, 1) := by decide +kernel
theorem dX12_readRow_45 : decode cX12_readRow 45 = .ok (.bipush 99, 2) := by decide +kernel
theorem dX12_readRow_47 : decode cX12_readRow 47 = .ok (.invokevirtual 220, 3) := by decide +kernel
theorem dX12_readRow_50 : decode cX12_readRow 50 = .ok (.iastore, 1) := by decide +kernel
theorem dX12_readRow_51 : decode cX12_readRow 51 = .ok (.iinc 3 1, 3) := by decide +kernel
theorem dX12_readRow_54 : decode cX12_readRow 54 = .ok (.goto (-23), 3) := by decide +kernel
theorem dX12_readRow_57 : decode cX12_readRow 57 = .ok (.aload_n 0, 1) := by decide +kernel
theorem dX12_readRow_58 : decode cX12_readRow 58 = .ok (.dup, 1) := by decide +kernel
theorem dX12_readRow_59 : decode cX12_readRow 59 = .ok (.getfield 162, 3) := by decide +kernel
theorem dX12_readRow_62 : decode cX12_readRow 62 = .ok (.iconst 1, 1) := by decide +kernel
theorem dX12_readRow_63 : decode cX12_readRow 63 = .ok (.iadd, 1) := by decide +kernel
theorem dX12_readRow_64 : decode cX12_readRow 64 = .ok (.putfield 162, 3) := by decide +kernel
theorem dX12_readRow_67 : decode cX12_readRow 67 = .ok (.goto 221, 3) := by decide +kernel
theorem dX12_readRow_70 : decode cX12_readRow 70 = .ok (.iload_n 1, 1) := by decide +kernel
theorem dX12_readRow_71 : decode cX12_readRow 71 = .ok (.ldc 224, 2) := by decide +kernel
theorem dX12_readRow_73 : decode cX12_readRow 73 = .ok (.invokestatic 216, 3) := by decide +kernel
theorem dX12_readRow_76 : decode cX12_readRow 76 = .ok (.if_icmp .ne 84, 3) := by decide +kernel
theorem dX12_readRow_79 : decode cX12_readRow 79 = .ok (.iconst 4, 1) := by decide +kernel
theorem dX12_readRow_80 : decode cX12_readRow 80 = .ok (.aload_n 0, 1) := by decide +kernel
theorem dX12_readRow_81 : decode cX12_readRow 81 = .ok (.getfield 165, 3) := by decide +kernel
theorem dX12_readRow_84 : decode cX12_readRow 84 = .ok (.imul, 1) := by decide +kernel
theorem dX12_readRow_85 : decode cX12_readRow 85 = .ok (.istore_n 2, 1) := by decide +kernel
theorem dX12_readRow_86 : decode cX12_readRow 86 = .ok (.aload_n 0, 1) := by decide +kernel
theorem dX12_readRow_87 : decode cX12_readRow 87 = .ok (.getfield 26, 3) := by decide +kernel
theorem dX12_readRow_90 : decode cX12_readRow 90 = .ok (.iload_n 2, 1) := by decide +kernel
theorem dX12_readRow_91 : decode cX12_readRow 91 = .ok (.aload_n 0, 1) := by decide +kernel
theorem dX12_readRow_92 : decode cX12_readRow 92 = .ok (.iconst 0, 1) := by decide +kernel
theorem dX12_readRow_93 : decode cX12_readRow 93 = .ok (.aload_n 0, 1) := by decide +kernel
theorem dX12_readRow_94 : decode cX12_readRow 94 = .ok (.getfield 162, 3) := by decide +kernel
theorem dX12_readRow_97 : decode cX12_readRow 97 = .ok (.iconst 1, 1) := by decide +kernel
theorem dX12_readRow_98 : decode cX12_readRow 98 = .ok (.isub, 1) := by decide +kernel
theorem dX12_readRow_99 : decode cX12_readRow 99 = .ok (.invokevirtual 220, 3) := by decide +kernel
theorem dX12_readRow_102 : decode cX12_readRow 102 = .ok (.iastore, 1) := by decide +kernel
theorem dX12_readRow_103 : decode cX12_readRow 103 = .ok (.aload_n 0, 1) := by decide +kernel
theorem dX12_readRow_104 : decode cX12_readRow 104 = .ok (.getfield 26, 3) := by decide +kernel
theorem dX12_readRow_107 : decode cX12_readRow 107 = .ok (.iload_n 2, 1) := by decide +kernel
theorem dX12_readRow_108 : decode cX12_readRow 108 = .ok (.iconst 1, 1) := by decide +kernel
theorem dX12_readRow_109 : decode cX12_readRow 109 = .ok (.iadd, 1) := by decide +kernel
theorem dX12_readRow_110 : decode cX12_readRow 110 = .ok (.aload_n 0, 1) := by decide +kernel
theorem dX12_readRow_111 : decode cX12_readRow 111 = .ok (.iconst 1, 1) := by decide +kernel
theorem dX12_readRow_112 : decode cX12_readRow 112 = .ok (.bipush 12, 2) := by decide +kernel
theorem dX12_readRow_114 : decode cX12_readRow 114 = .ok (.invokevirtual 220, 3) := by decide +kernel
theorem dX12_readRow_117 : decode cX12_readRow 117 = .ok (.iastore, 1) := by decide +kernel
theorem dX12_readRow_118 : decode cX12_readRow 118 = .ok (.aload_n 0, 1) := by decide +kernel
theorem dX12_readRow_119 : decode cX12_readRow 119 = .ok (.getfield 26, 3) := by decide +kernel
theorem dX12_readRow_122 : decode cX12_readRow 122 = .ok (.iload_n 2, 1) := by decide +kernel
theorem dX12_readRow_123 : decode cX12_readRow 123 = .ok (.iconst 2, 1) := by decide +kernel
theorem dX12_readRow_124 : decode cX12_readRow 124 = .ok (.iadd, 1) := by decide +kernel
theorem dX12_readRow_125 : decode cX12_readRow 125 = .ok (.aload_n 0, 1) := by decide +kernel
theorem dX12_readRow_126 : decode cX12_readRow 126 = .ok (.iconst 0, 1) := by decide +kernel
theorem dX12_readRow_127 : decode cX12_readRow 127 = .ok (.iconst 1, 1) := by decide +kernel
theorem dX12_readRow_128 : decode cX12_readRow 128 = .ok (.invokevirtual 220, 3) := by decide +kernel
theorem dX12_readRow_131 : decode cX12_readRow 131 = .ok (.iastore, 1) := by decide +kernel
theorem dX12_readRow_132 : decode cX12_readRow 132 = .ok (.aload_n 0, 1) := by decide +kernel
theorem dX12_readRow_133 : decode cX12_readRow 133 = .ok (.getfield 26, 3) := by decide +kernel
theorem dX12_readRow_136 : decode cX12_readRow 136 = .ok (.iload_n 2, 1) := by decide +kernel
theorem dX12_readRow_137 : decode cX12_readRow 137 = .ok (.iconst 3, 1) := by decide +kernel
theorem dX12_readRow_138 : decode cX12_readRow 138 = .ok (.iadd, 1) := by decide +kernel
theorem dX12_readRow_139 : decode cX12_readRow 139 = .ok (.aload_n 0, 1) := by decide +kernel
theorem dX12_readRow_140 : decode cX12_readRow 140 = .ok (.iconst 0, 1) := by decide +kernel
theorem dX12_readRow_141 : decode cX12_readRow 141 = .ok (.bipush 99, 2) := by decide +kernel
theorem dX12_readRow_143 : decode cX12_readRow 143 = .ok (.invokevirtual 220, 3) := by decide +kernel
theorem dX12_readRow_146 : decode cX12_readRow 146 = .ok (.iastore, 1) := by decide +kernel
theorem dX12_readRow_147 : decode cX12_readRow 147 = .ok (.aload_n 0, 1) := by decide +kernel
theorem dX12_readRow_148 : decode cX12_readRow 148 = .ok (.dup, 1) := by decide +kernel
theorem dX12_readRow_149 : decode cX12_readRow 149 = .ok (.getfield 165, 3) := by decide +kernel
theorem dX12_readRow_152 : decode cX12_readRow 152 = .ok (.iconst 1, 1) := by decide +kernel
theorem dX12_readRow_153 : decode cX12_readRow 153 = .ok (.iadd, 1) := by decide +kernel
theorem dX12_readRow_154 : decode cX12_readRow 154 = .ok (.putfield 165, 3) := by decide +kernel
theorem dX12_readRow_157 : decode cX12_readRow 157 = .ok (.goto 131, 3) := by decide +kernel
theorem dX12_readRow_160 : decode cX12_readRow 160 = .ok (.iload_n 1, 1) := by decide +kernel
theorem dX12_readRow_161 : decode cX12_readRow 161 = .ok (.ldc 226, 2) := by decide +kernel
theorem dX12_readRow_163 : decode cX12_readRow 163 = .ok (.invokestatic 216, 3) := by decide +kernel
theorem dX12_readRow_166 : decode cX12_readRow 166 = .ok (.if_icmp .ne 71, 3) := by decide +kernel
theorem dX12_readRow_169 : decode cX12_readRow 169 = .ok (.iconst 3, 1) := by decide +kernel
theorem dX12_readRow_170 : decode cX12_readRow 170 = .ok (.aload_n 0, 1) := by decide +kernel
theorem dX12_readRow_171 : decode cX12_readRow 171 = .ok (.getfield 168, 3) := by decide +kernel
theorem dX12_readRow_174 : decode cX12_readRow 174 = .ok (.imul, 1) := by decide +kernel
theorem dX12_readRow_175 : decode cX12_readRow 175 = .ok (.istore_n 2, 1) := by decide +kernel
theorem dX12_readRow_176 : decode cX12_readRow 176 = .ok (.aload_n 0, 1) := by decide +kernel
theorem dX12_readRow_177 : decode cX12_readRow 177 = .ok (.getfield 29, 3) := by decide +kernel
theorem dX12_readRow_180 : decode cX12_readRow 180 = .ok (.iload_n 2, 1) := by decide +kernel
theorem dX12_readRow_181 : decode cX12_readRow 181 = .ok (.aload_n 0, 1) := by decide +kernel
theorem dX12_readRow_182 : decode cX12_readRow 182 = .ok (.iconst 0, 1) := by decide +kernel
theorem dX12_readRow_183 : decode cX12_readRow 183 = .ok (.aload_n 0, 1) := by decide +kernel
theorem dX12_readRow_184 : decode cX12_readRow 184 = .ok (.getfield 162, 3) := by decide +kernel
theorem dX12_readRow_187 : decode cX12_readRow 187 = .ok (.iconst 1, 1) := by decide +kernel
theorem dX12_readRow_188 : decode cX12_readRow 188 = .ok (.isub, 1) := by decide +kernel
theorem dX12_readRow_189 : decode cX12_readRow 189 = .ok (.invokevirtual 220, 3) := by decide +kernel
theorem dX12_readRow_192 : decode cX12_readRow 192 = .ok (.iastore, 1) := by decide +kernel
theorem dX12_readRow_193 : decode cX12_readRow 193 = .ok (.aload_n 0, 1) := by decide +kernel
theorem dX12_readRow_194 : decode cX12_readRow 194 = .ok (.getfield 29, 3) := by decide +kernel
theorem dX12_readRow_197 : decode cX12_readRow 197 = .ok (.iload_n 2, 1) := by decide +kernel
theorem dX12_readRow_198 : decode cX12_readRow 198 = .ok (.iconst 1, 1) := by decide +kernel
theorem dX12_readRow_199 : decode cX12_readRow 199 = .ok (.iadd, 1) := by decide +kernel
theorem dX12_readRow_200 : decode cX12_readRow 200 = .ok (.aload_n 0, 1) := by decide +kernel
theorem dX12_readRow_201 : decode cX12_readRow 201 = .ok (.iconst 0, 1) := by decide +kernel
theorem dX12_readRow_202 : decode cX12_readRow 202 = .ok (.sipush 400, 3) := by decide +kernel
theorem dX12_readRow_205 : decode cX12_readRow 205 = .ok (.invokevirtual 220, 3) := by decide +kernel
theorem dX12_readRow_208 : decode cX12_readRow 208 = .ok (.iastore, 1) := by decide +kernel
theorem dX12_readRow_209 : decode cX12_readRow 209 = .ok (.aload_n 0, 1) := by decide +kernel
theorem dX12_readRow_210 : decode cX12_readRow 210 = .ok (.getfield 29, 3) := by decide +kernel
theorem dX12_readRow_213 : decode cX12_readRow 213 = .ok (.iload_n 2, 1) := by decide +kernel
theorem dX12_readRow_214 : decode cX12_readRow 214 = .ok (.iconst 2, 1) := by decide +kernel
theorem dX12_readRow_215 : decode cX12_readRow 215 = .ok (.iadd, 1) := by decide +kernel
theorem dX12_readRow_216 : decode cX12_readRow 216 = .ok (.aload_n 0, 1) := by decide +kernel
theorem dX12_readRow_217 : decode cX12_readRow 217 = .ok (.iconst 0, 1) := by decide +kernel
theorem dX12_readRow_218 : decode cX12_readRow 218 = .ok (.bipush 11, 2) := by decide +kernel
theorem dX12_readRow_220 : decode cX12_readRow 220 = .ok (.invokevirtual 220, 3) := by decide +kernel
theorem dX12_readRow_223 : decode cX12_readRow 223 = .ok (.iastore, 1) := by decide +kernel
theorem dX12_readRow_224 : decode cX12_readRow 224 = .ok (.aload_n 0, 1) := by decide +kernel
theorem dX12_readRow_225 : decode cX12_readRow 225 = .ok (.dup, 1) := by decide +kernel
theorem dX12_readRow_226 : decode cX12_readRow 226 = .ok (.getfield 168, 3) := by decide +kernel
theorem dX12_readRow_229 : decode cX12_readRow 229 = .ok (.iconst 1, 1) := by decide +kernel
theorem dX12_readRow_230 : decode cX12_readRow 230 = .ok (.iadd, 1) := by decide +kernel
theorem dX12_readRow_231 : decode cX12_readRow 231 = .ok (.putfield 168, 3) := by decide +kernel
theorem dX12_readRow_234 : decode cX12_readRow 234 = .ok (.goto 54, 3) := by decide +kernel
theorem dX12_readRow_237 : decode cX12_readRow 237 = .ok (.iconst 2, 1) := by decide +kernel
theorem dX12_readRow_238 : decode cX12_readRow 238 = .ok (.aload_n 0, 1) := by decide +kernel
theorem dX12_readRow_239 : decode cX12_readRow 239 = .ok (.getfield 171, 3) := by decide +kernel
theorem dX12_readRow_242 : decode cX12_readRow 242 = .ok (.imul, 1) := by decide +kernel
theorem dX12_readRow_243 : decode cX12_readRow 243 = .ok (.istore_n 2, 1) := by decide +kernel
theorem dX12_readRow_244 : decode cX12_readRow 244 = .ok (.aload_n 0, 1) := by decide +kernel
theorem dX12_readRow_245 : decode cX12_readRow 245 = .ok (.getfield 32, 3) := by decide +kernel
theorem dX12_readRow_248 : decode cX12_readRow 248 = .ok (.iload_n 2, 1) := by decide +kernel
theorem dX12_readRow_249 : decode cX12_readRow 249 = .ok (.aload_n 0, 1) := by decide +kernel
theorem dX12_readRow_250 : decode cX12_readRow 250 = .ok (.iconst 1, 1) := by decide +kernel
theorem dX12_readRow_251 : decode cX12_readRow 251 = .ok (.bipush 30, 2) := by decide +kernel
theorem dX12_readRow_253 : decode cX12_readRow 253 = .ok (.invokevirtual 220, 3) := by decide +kernel
theorem dX12_readRow_256 : decode cX12_readRow 256 = .ok (.iastore, 1) := by decide +kernel
theorem dX12_readRow_257 : decode cX12_readRow 257 = .ok (.aload_n 0, 1) := by decide +kernel
theorem dX12_readRow_258 : decode cX12_readRow 258 = .ok (.getfield 32, 3) := by decide +kernel
theorem dX12_readRow_261 : decode cX12_readRow 261 = .ok (.iload_n 2, 1) := by decide +kernel
theorem dX12_readRow_262 : decode cX12_readRow 262 = .ok (.iconst 1, 1) := by decide +kernel
theorem dX12_readRow_263 : decode cX12_readRow 263 = .ok (.iadd, 1) := by decide +kernel
theorem dX12_readRow_264 : decode cX12_readRow 264 = .ok (.aload_n 0, 1) := by decide +kernel
theorem dX12_readRow_265 : decode cX12_readRow 265 = .ok (.iconst 0, 1) := by decide +kernel
theorem dX12_readRow_266 : decode cX12_readRow 266 = .ok (.aload_n 0, 1) := by decide +kernel
theorem dX12_readRow_267 : decode cX12_readRow 267 = .ok (.getfield 32, 3) := by decide +kernel
theorem dX12_readRow_270 : decode cX12_readRow 270 = .ok (.iload_n 2, 1) := by decide +kernel
theorem dX12_readRow_271 : decode cX12_readRow 271 = .ok (.iaload, 1) := by decide +kernel
theorem dX12_readRow_272 : decode cX12_readRow 272 = .ok (.iconst 1, 1) := by decide +kernel
theorem dX12_readRow_273 : decode cX12_readRow 273 = .ok (.isub, 1) := by decide +kernel
theorem dX12_readRow_274 : decode cX12_readRow 274 = .ok (.invokevirtual 220, 3) := by decide +kernel
theorem dX12_readRow_277 : decode cX12_readRow 277 = .ok (.iastore, 1) := by decide +kernel
theorem dX12_readRow_278 : decode cX12_readRow 278 = .ok (.aload_n 0, 1) := by decide +kernel
theorem dX12_readRow_279 : decode cX12_readRow 279 = .ok (.dup, 1) := by decide +kernel
theorem dX12_readRow_280 : decode cX12_readRow 280 = .ok (.getfield 171, 3) := by decide +kernel
theorem dX12_readRow_283 : decode cX12_readRow 283 = .ok (.iconst 1, 1) := by decide +kernel
theorem dX12_readRow_284 : decode cX12_readRow 284 = .ok (.iadd, 1) := by decide +kernel
theorem dX12_readRow_285 : decode cX12_readRow 285 = .ok (.putfield 171, 3) := by decide +kernel
theorem dX12_readRow_288 : decode cX12_readRow 288 = .ok (.return_, 1) := by decide +kernel
theorem dX12_isFull_0 : decode cX12_isFull 0 = .ok (.iload_n 1, 1) := by decide +kernel
theorem dX12_isFull_1 : decode cX12_isFull 1 = .ok (.ldc 214, 2) := by decide +kernel
theorem dX12_isFull_3 : decode cX12_isFull 3 = .ok (.invokestatic 216, 3) := by decide +kernel
theorem dX12_isFull_6 : decode cX12_isFull 6 = .ok (.if_icmp .ne 12, 3) := by decide +kernel
theorem dX12_isFull_9 : decode cX12_isFull 9 = .ok (.aload_n 0, 1) := by decide +kernel
theorem dX12_isFull_10 : decode cX12_isFull 10 = .ok (.getfield 162, 3) := by decide +kernel
theorem dX12_isFull_13 : decode cX12_isFull 13 = .ok (.bipush 6, 2) := by decide +kernel
theorem dX12_isFull_15 : decode cX12_isFull 15 = .ok (.if_icmp .eq 55, 3) := by decide +kernel
theorem dX12_isFull_18 : decode cX12_isFull 18 = .ok (.iload_n 1, 1) := by decide +kernel
theorem dX12_isFull_19 : decode cX12_isFull 19 = .ok (.ldc 224, 2) := by decide +kernel
theorem dX12_isFull_21 : decode cX12_isFull 21 = .ok (.invokestatic 216, 3) := by decide +kernel
theorem dX12_isFull_24 : decode cX12_isFull 24 = .ok (.if_icmp .ne 12, 3) := by decide +kernel
theorem dX12_isFull_27 : decode cX12_isFull 27 = .ok (.aload_n 0, 1) := by decide +kernel
theorem dX12_isFull_28 : decode cX12_isFull 28 = .ok (.getfield 165, 3) := by decide +kernel
theorem dX12_isFull_31 : decode cX12_isFull 31 = .ok (.bipush 12, 2) := by decide +kernel
theorem dX12_isFull_33 : decode cX12_isFull 33 = .ok (.if_icmp .eq 37, 3) := by decide +kernel
theorem dX12_isFull_36 : decode cX12_isFull 36 = .ok (.iload_n 1, 1) := by decide +kernel
theorem dX12_isFull_37 : decode cX12_isFull 37 = .ok (.ldc 226, 2) := by decide +kernel
theorem dX12_isFull_39 : decode cX12_isFull 39 = .ok (.invokestatic 216, 3) := by decide +kernel
theorem dX12_isFull_42 : decode cX12_isFull 42 = .ok (.if_icmp .ne 11, 3) := by decide +kernel
theorem dX12_isFull_45 : decode cX12_isFull 45 = .ok (.aload_n 0, 1) := by decide +kernel
theorem dX12_isFull_46 : decode cX12_isFull 46 = .ok (.getfield 168, 3) := by decide +kernel
theorem dX12_isFull_49 : decode cX12_isFull 49 = .ok (.iconst 3, 1) := by decide +kernel
theorem dX12_isFull_50 : decode cX12_isFull 50 = .ok (.if_icmp .eq 20, 3) := by decide +kernel
theorem dX12_isFull_53 : decode cX12_isFull 53 = .ok (.iload_n 1, 1) := by decide +kernel
theorem dX12_isFull_54 : decode cX12_isFull 54 = .ok (.ldc 228, 2) := by decide +kernel
theorem dX12_isFull_56 : decode cX12_isFull 56 = .ok (.invokestatic 216, 3) := by decide +kernel
theorem dX12_isFull_59 : decode cX12_isFull 59 = .ok (.if_icmp .ne 15, 3) := by decide +kernel
theorem dX12_isFull_62 : decode cX12_isFull 62 = .ok (.aload_n 0, 1) := by decide +kernel
theorem dX12_isFull_63 : decode cX12_isFull 63 = .ok (.getfield 171, 3) := by decide +kernel
theorem dX12_isFull_66 : decode cX12_isFull 66 = .ok (.iconst 3, 1) := by decide +kernel
theorem dX12_isFull_67 : decode cX12_isFull 67 = .ok (.if_icmp .ne 7, 3) := by decide +kernel
theorem dX12_isFull_70 : decode cX12_isFull 70 = .ok (.iconst 1, 1) := by decide +kernel
theorem dX12_isFull_71 : decode cX12_isFull 71 = .ok (.goto 4, 3) := by decide +kernel
theorem dX12_isFull_74 : decode cX12_isFull 74 = .ok (.iconst 0, 1) := by decide +kernel
theorem dX12_isFull_75 : decode cX12_isFull 75 = .ok (.ireturn, 1) := by decide +kernel
theorem dX12_coast_0 : decode cX12_coast 0 = .ok (.aload_n 0, 1) := by decide +kernel
theorem dX12_coast_1 : decode cX12_coast 1 = .ok (.iconst 0, 1) := by decide +kernel
theorem dX12_coast_2 : decode cX12_coast 2 = .ok (.putfield 3, 3) := by decide +kernel
theorem dX12_coast_5 : decode cX12_coast 5 = .ok (.aload_n 0, 1) := by decide +kernel
theorem dX12_coast_6 : decode cX12_coast 6 = .ok (.iload_n 1, 1) := by decide +kernel
theorem dX12_coast_7 : decode cX12_coast 7 = .ok (.ifCond .lt 15, 3) := by decide +kernel
theorem dX12_coast_10 : decode cX12_coast 10 = .ok (.iload_n 1, 1) := by decide +kernel
theorem dX12_coast_11 : decode cX12_coast 11 = .ok (.aload_n 0, 1) := by decide +kernel
theorem dX12_coast_12 : decode cX12_coast 12 = .ok (.getfield 116, 3) := by decide +kernel
theorem dX12_coast_15 : decode cX12_coast 15 = .ok (.if_icmp .gt 7, 3) := by decide +kernel
theorem dX12_coast_18 : decode cX12_coast 18 = .ok (.iconst 1, 1) := by decide +kernel
theorem dX12_coast_19 : decode cX12_coast 19 = .ok (.goto 4, 3) := by decide +kernel
theorem dX12_coast_22 : decode cX12_coast 22 = .ok (.iconst 0, 1) := by decide +kernel
theorem dX12_coast_23 : decode cX12_coast 23 = .ok (.iconst 1, 1) := by decide +kernel
theorem dX12_coast_24 : decode cX12_coast 24 = .ok (.iconst 1, 1) := by decide +kernel
theorem dX12_coast_25 : decode cX12_coast 25 = .ok (.invokevirtual 229, 3) := by decide +kernel
theorem dX12_coast_28 : decode cX12_coast 28 = .ok (.ifCond .ne 5, 3) := by decide +kernel
theorem dX12_coast_31 : decode cX12_coast 31 = .ok (.iconst 0, 1) := by decide +kernel
theorem dX12_coast_32 : decode cX12_coast 32 = .ok (.ireturn, 1) := by decide +kernel
theorem dX12_coast_33 : decode cX12_coast 33 = .ok (.aload_n 0, 1) := by decide +kernel
theorem dX12_coast_34 : decode cX12_coast 34 = .ok (.iload_n 1, 1) := by decide +kernel
theorem dX12_coast_35 : decode cX12_coast 35 = .ok (.invokevirtual 233, 3) := by decide +kernel
theorem dX12_coast_38 : decode cX12_coast 38 = .ok (.aload_n 0, 1) := by decide +kernel
theorem dX12_coast_39 : decode cX12_coast 39 = .ok (.invokevirtual 110, 3) := by decide +kernel
theorem dX12_coast_42 : decode cX12_coast 42 = .ok (.iconst 0, 1) := by decide +kernel
theorem dX12_coast_43 : decode cX12_coast 43 = .ok (.istore_n 2, 1) := by decide +kernel
theorem dX12_coast_44 : decode cX12_coast 44 = .ok (.aload_n 0, 1) := by decide +kernel
theorem dX12_coast_45 : decode cX12_coast 45 = .ok (.invokevirtual 148, 3) := by decide +kernel
theorem dX12_coast_48 : decode cX12_coast 48 = .ok (.ifCond .eq 189, 3) := by decide +kernel
theorem dX12_coast_51 : decode cX12_coast 51 = .ok (.aload_n 0, 1) := by decide +kernel
theorem dX12_coast_52 : decode cX12_coast 52 = .ok (.invokevirtual 237, 3) := by decide +kernel
theorem dX12_coast_55 : decode cX12_coast 55 = .ok (.ifCond .eq 182, 3) := by decide +kernel
theorem dX12_coast_58 : decode cX12_coast 58 = .ok (.aload_n 0, 1) := by decide +kernel
theorem dX12_coast_59 : decode cX12_coast 59 = .ok (.invokevirtual 240, 3) := by decide +kernel
theorem dX12_coast_62 : decode cX12_coast 62 = .ok (.istore_n 3, 1) := by decide +kernel
theorem dX12_coast_63 : decode cX12_coast 63 = .ok (.iload_n 3, 1) := by decide +kernel
theorem dX12_coast_64 : decode cX12_coast 64 = .ok (.ldc 214, 2) := by decide +kernel
theorem dX12_coast_66 : decode cX12_coast 66 = .ok (.invokestatic 216, 3) := by decide +kernel
theorem dX12_coast_69 : decode cX12_coast 69 = .ok (.if_icmp .eq 30, 3) := by decide +kernel
theorem dX12_coast_72 : decode cX12_coast 72 = .ok (.iload_n 3, 1) := by decide +kernel
theorem dX12_coast_73 : decode cX12_coast 73 = .ok (.ldc 224, 2) := by decide +kernel
theorem dX12_coast_75 : decode cX12_coast 75 = .ok (.invokestatic 216, 3) := by decide +kernel
theorem dX12_coast_78 : decode cX12_coast 78 = .ok (.if_icmp .eq 21, 3) := by decide +kernel
theorem dX12_coast_81 : decode cX12_coast 81 = .ok (.iload_n 3, 1) := by decide +kernel
theorem dX12_coast_82 : decode cX12_coast 82 = .ok (.ldc 226, 2) := by decide +kernel
theorem dX12_coast_84 : decode cX12_coast 84 = .ok (.invokestatic 216, 3) := by decide +kernel
theorem dX12_coast_87 : decode cX12_coast 87 = .ok (.if_icmp .eq 12, 3) := by decide +kernel
theorem dX12_coast_90 : decode cX12_coast 90 = .ok (.iload_n 3, 1) := by decide +kernel
theorem dX12_coast_91 : decode cX12_coast 91 = .ok (.ldc 228, 2) := by decide +kernel
theorem dX12_coast_93 : decode cX12_coast 93 = .ok (.invokestatic 216, 3) := by decide +kernel
theorem dX12_coast_96 : decode cX12_coast 96 = .ok (.if_icmp .ne 7, 3) := by decide +kernel
theorem dX12_coast_99 : decode cX12_coast 99 = .ok (.iconst 1, 1) := by decide +kernel
theorem dX12_coast_100 : decode cX12_coast 100 = .ok (.goto 4, 3) := by decide +kernel
theorem dX12_coast_103 : decode cX12_coast 103 = .ok (.iconst 0, 1) := by decide +kernel
theorem dX12_coast_104 : decode cX12_coast 104 = .ok (.istore 4, 2) := by decide +kernel
theorem dX12_coast_106 : decode cX12_coast 106 = .ok (.iload 4, 2) := by decide +kernel
theorem dX12_coast_108 : decode cX12_coast 108 = .ok (.ifCond .ne 33, 3) := by decide +kernel
theorem dX12_coast_111 : decode cX12_coast 111 = .ok (.iload_n 3, 1) := by decide +kernel
theorem dX12_coast_112 : decode cX12_coast 112 = .ok (.ldc 243, 2) := by decide +kernel
theorem dX12_coast_114 : decode cX12_coast 114 = .ok (.invokestatic 216, 3) := by decide +kernel
theorem dX12_coast_117 : decode cX12_coast 117 = .ok (.if_icmp .eq 24, 3) := by decide +kernel
theorem dX12_coast_120 : decode cX12_coast 120 = .ok (.iload_n 3, 1) := by decide +kernel
theorem dX12_coast_121 : decode cX12_coast 121 = .ok (.ldc 244, 2) := by decide +kernel
theorem dX12_coast_123 : decode cX12_coast 123 = .ok (.invokestatic 216, 3) := by decide +kernel
theorem dX12_coast_126 : decode cX12_coast 126 = .ok (.if_icmp .eq 15, 3) := by decide +kernel
theorem dX12_coast_129 : decode cX12_coast 129 = .ok (.aload_n 0, 1) := by decide +kernel
theorem dX12_coast_130 : decode cX12_coast 130 = .ok (.iconst 1, 1) := by decide +kernel
theorem dX12_coast_131 : decode cX12_coast 131 = .ok (.aload_n 0, 1) := by decide +kernel
theorem dX12_coast_132 : decode cX12_coast 132 = .ok (.getfield 125, 3) := by decide +kernel
theorem dX12_coast_135 : decode cX12_coast 135 = .ok (.invokevirtual 155, 3) := by decide +kernel
theorem dX12_coast_138 : decode cX12_coast 138 = .ok (.goto 26, 3) := by decide +kernel
theorem dX12_coast_141 : decode cX12_coast 141 = .ok (.iload_n 2, 1) := by decide +kernel
theorem dX12_coast_142 : decode cX12_coast 142 = .ok (.bipush 60, 2) := by decide +kernel
theorem dX12_coast_144 : decode cX12_coast 144 = .ok (.if_icmp .eq 11, 3) := by decide +kernel
theorem dX12_coast_147 : decode cX12_coast 147 = .ok (.aload_n 0, 1) := by decide +kernel
theorem dX12_coast_148 : decode cX12_coast 148 = .ok (.iload_n 3, 1) := by decide +kernel
theorem dX12_coast_149 : decode cX12_coast 149 = .ok (.invokevirtual 245, 3) := by decide +kernel
theorem dX12_coast_152 : decode cX12_coast 152 = .ok (.ifCond .eq 12, 3) := by decide +kernel
theorem dX12_coast_155 : decode cX12_coast 155 = .ok (.aload_n 0, 1) := by decide +kernel
theorem dX12_coast_156 : decode cX12_coast 156 = .ok (.iconst 3, 1) := by decide +kernel
theorem dX12_coast_157 : decode cX12_coast 157 = .ok (.aload_n 0, 1) := by decide +kernel
theorem dX12_coast_158 : decode cX12_coast 158 = .ok (.getfield 125, 3) := by decide +kernel
theorem dX12_coast_161 : decode cX12_coast 161 = .ok (.invokevirtual 155, 3) := by decide +kernel
theorem dX12_coast_164 : decode cX12_coast 164 = .ok (.aload_n 0, 1) := by decide +kernel
theorem dX12_coast_165 : decode cX12_coast 165 = .ok (.invokevirtual 148, 3) := by decide +kernel
theorem dX12_coast_168 : decode cX12_coast 168 = .ok (.ifCond .ne 6, 3) := by decide +kernel
theorem dX12_coast_171 : decode cX12_coast 171 = .ok (.goto 66, 3) := by decide +kernel
theorem dX12_coast_174 : decode cX12_coast 174 = .ok (.aload_n 0, 1) := by decide +kernel
theorem dX12_coast_175 : decode cX12_coast 175 = .ok (.invokevirtual 248, 3) := by decide +kernel
theorem dX12_coast_178 : decode cX12_coast 178 = .ok (.iload 4, 2) := by decide +kernel
theorem dX12_coast_180 : decode cX12_coast 180 = .ok (.ifCond .eq 11, 3) := by decide +kernel
theorem dX12_coast_183 : decode cX12_coast 183 = .ok (.aload_n 0, 1) := by decide +kernel
theorem dX12_coast_184 : decode cX12_coast 184 = .ok (.iload_n 3, 1) := by decide +kernel
theorem dX12_coast_185 : decode cX12_coast 185 = .ok (.invokevirtual 251, 3) := by decide +kernel
theorem dX12_coast_188 : decode cX12_coast 188 = .ok (.goto 37, 3) := by decide +kernel
theorem dX12_coast_191 : decode cX12_coast 191 = .ok (.iload_n 3, 1) := by decide +kernel
theorem dX12_coast_192 : decode cX12_coast 192 = .ok (.ldc 243, 2) := by decide +kernel
theorem dX12_coast_194 : decode cX12_coast 194 = .ok (.invokestatic 216, 3) := by decide +kernel
theorem dX12_coast_197 : decode cX12_coast 197 = .ok (.if_icmp .ne 17, 3) := by decide +kernel
theorem dX12_coast_200 : decode cX12_coast 200 = .ok (.aload_n 0, 1) := by decide +kernel
theorem dX12_coast_201 : decode cX12_coast 201 = .ok (.aload_n 0, 1) := by decide +kernel
theorem dX12_coast_202 : decode cX12_coast 202 = .ok (.iconst 0, 1) := by decide +kernel
theorem dX12_coast_203 : decode cX12_coast 203 = .ok (.bipush 8, 2) := by decide +kernel
theorem dX12_coast_205 : decode cX12_coast 205 = .ok (.invokevirtual 220, 3) := by decide +kernel
theorem dX12_coast_208 : decode cX12_coast 208 = .ok (.putfield 174, 3) := by decide +kernel
theorem dX12_coast_211 : decode cX12_coast 211 = .ok (.goto 14, 3) := by decide +kernel
theorem dX12_coast_214 : decode cX12_coast 214 = .ok (.aload_n 0, 1) := by decide +kernel
theorem dX12_coast_215 : decode cX12_coast 215 = .ok (.aload_n 0, 1) := by decide +kernel
theorem dX12_coast_216 : decode cX12_coast 216 = .ok (.iconst 0, 1) := by decide +kernel
theorem dX12_coast_217 : decode cX12_coast 217 = .ok (.bipush 99, 2) := by decide +kernel
theorem dX12_coast_219 : decode cX12_coast 219 = .ok (.invokevirtual 220, 3) := by decide +kernel
theorem dX12_coast_222 : decode cX12_coast 222 = .ok (.putfield 177, 3) := by decide +kernel
theorem dX12_coast_225 : decode cX12_coast 225 = .ok (.aload_n 0, 1) := by decide +kernel
theorem dX12_coast_226 : decode cX12_coast 226 = .ok (.bipush 59, 2) := by decide +kernel
theorem dX12_coast_228 : decode cX12_coast 228 = .ok (.invokevirtual 254, 3) := by decide +kernel
theorem dX12_coast_231 : decode cX12_coast 231 = .ok (.iinc 2 1, 3) := by decide +kernel
theorem dX12_coast_234 : decode cX12_coast 234 = .ok (.goto (-190), 3) := by decide +kernel
theorem dX12_coast_237 : decode cX12_coast 237 = .ok (.aload_n 0, 1) := by decide +kernel
theorem dX12_coast_238 : decode cX12_coast 238 = .ok (.aload_n 0, 1) := by decide +kernel
theorem dX12_coast_239 : decode cX12_coast 239 = .ok (.getfield 162, 3) := by decide +kernel
theorem dX12_coast_242 : decode cX12_coast 242 = .ok (.invokevirtual 257, 3) := by decide +kernel
theorem dX12_coast_245 : decode cX12_coast 245 = .ok (.istore_n 3, 1) := by decide +kernel
theorem dX12_coast_246 : decode cX12_coast 246 = .ok (.aload_n 0, 1) := by decide +kernel
theorem dX12_coast_247 : decode cX12_coast 247 = .ok (.getfield 119, 3) := by decide +kernel
theorem dX12_coast_250 : decode cX12_coast 250 = .ok (.iconst (-1), 1) := by decide +kernel
theorem dX12_coast_251 : decode cX12_coast 251 = .ok (.if_icmp .ne 7, 3) := by decide +kernel
theorem dX12_coast_254 : decode cX12_coast 254 = .ok (.aload_n 0, 1) := by decide +kernel
theorem dX12_coast_255 : decode cX12_coast 255 = .ok (.invokevirtual 113, 3) := by decide +kernel
theorem dX12_coast_258 : decode cX12_coast 258 = .ok (.iload_n 3, 1) := by decide +kernel
theorem dX12_coast_259 : decode cX12_coast 259 = .ok (.ireturn, 1) := by decide +kernel
theorem dX12_emit_0 : decode cX12_emit 0 = .ok (.aload_n 0, 1) := by decide +kernel
theorem dX12_emit_1 : decode cX12_emit 1 = .ok (.invokevirtual 148, 3) := by decide +kernel
theorem dX12_emit_4 : decode cX12_emit 4 = .ok (.ifCond .ne 4, 3) := by decide +kernel
theorem dX12_emit_7 : decode cX12_emit 7 = .ok (.return_, 1) := by decide +kernel
theorem dX12_emit_8 : decode cX12_emit 8 = .ok (.aload_n 0, 1) := by decide +kernel
theorem dX12_emit_9 : decode cX12_emit 9 = .ok (.getfield 47, 3) := by decide +kernel
theorem dX12_emit_12 : decode cX12_emit 12 = .ok (.aload_n 0, 1) := by decide +kernel
theorem dX12_emit_13 : decode cX12_emit 13 = .ok (.getfield 261, 3) := by decide +kernel
theorem dX12_emit_16 : decode cX12_emit 16 = .ok (.iload_n 1, 1) := by decide +kernel
theorem dX12_emit_17 : decode cX12_emit 17 = .ok (.iastore, 1) := by decide +kernel
theorem dX12_emit_18 : decode cX12_emit 18 = .ok (.aload_n 0, 1) := by decide +kernel
theorem dX12_emit_19 : decode cX12_emit 19 = .ok (.getfield 50, 3) := by decide +kernel
theorem dX12_emit_22 : decode cX12_emit 22 = .ok (.aload_n 0, 1) := by decide +kernel
theorem dX12_emit_23 : decode cX12_emit 23 = .ok (.getfield 261, 3) := by decide +kernel
theorem dX12_emit_26 : decode cX12_emit 26 = .ok (.iload_n 2, 1) := by decide +kernel
theorem dX12_emit_27 : decode cX12_emit 27 = .ok (.iastore, 1) := by decide +kernel
theorem dX12_emit_28 : decode cX12_emit 28 = .ok (.aload_n 0, 1) := by decide +kernel
theorem dX12_emit_29 : decode cX12_emit 29 = .ok (.dup, 1) := by decide +kernel
theorem dX12_emit_30 : decode cX12_emit 30 = .ok (.getfield 261, 3) := by decide +kernel
theorem dX12_emit_33 : decode cX12_emit 33 = .ok (.iconst 1, 1) := by decide +kernel
theorem dX12_emit_34 : decode cX12_emit 34 = .ok (.iadd, 1) := by decide +kernel
theorem dX12_emit_35 : decode cX12_emit 35 = .ok (.putfield 261, 3) := by decide +kernel
theorem dX12_emit_38 : decode cX12_emit 38 = .ok (.return_, 1) := by decide +kernel
theorem dX12_opensOne_0 : decode cX12_opensOne 0 = .ok (.aload_n 0, 1) := by decide +kernel
theorem dX12_opensOne_1 : decode cX12_opensOne 1 = .ok (.invokevirtual 148, 3) := by decide +kernel
theorem dX12_opensOne_4 : decode cX12_opensOne 4 = .ok (.ifCond .eq 21, 3) := by decide +kernel
theorem dX12_opensOne_7 : decode cX12_opensOne 7 = .ok (.aload_n 0, 1) := by decide +kernel
theorem dX12_opensOne_8 : decode cX12_opensOne 8 = .ok (.getfield 159, 3) := by decide +kernel
theorem dX12_opensOne_11 : decode cX12_opensOne 11 = .ok (.bipush 6, 2) := by decide +kernel
theorem dX12_opensOne_13 : decode cX12_opensOne 13 = .ok (.if_icmp .ne 12, 3) := by decide +kernel
theorem dX12_opensOne_16 : decode cX12_opensOne 16 = .ok (.aload_n 0, 1) := by decide +kernel
theorem dX12_opensOne_17 : decode cX12_opensOne 17 = .ok (.iconst 3, 1) := by decide +kernel
theorem dX12_opensOne_18 : decode cX12_opensOne 18 = .ok (.aload_n 0, 1) := by decide +kernel
theorem dX12_opensOne_19 : decode cX12_opensOne 19 = .ok (.getfield 125, 3) := by decide +kernel
theorem dX12_opensOne_22 : decode cX12_opensOne 22 = .ok (.invokevirtual 155, 3) := by decide +kernel
theorem dX12_opensOne_25 : decode cX12_opensOne 25 = .ok (.aload_n 0, 1) := by decide +kernel
theorem dX12_opensOne_26 : decode cX12_opensOne 26 = .ok (.invokevirtual 148, 3) := by decide +kernel
theorem dX12_opensOne_29 : decode cX12_opensOne 29 = .ok (.ifCond .eq 13, 3) := by decide +kernel
theorem dX12_opensOne_32 : decode cX12_opensOne 32 = .ok (.aload_n 0, 1) := by decide +kernel
theorem dX12_opensOne_33 : decode cX12_opensOne 33 = .ok (.dup, 1) := by decide +kernel
theorem dX12_opensOne_34 : decode cX12_opensOne 34 = .ok (.getfield 125, 3) := by decide +kernel
theorem dX12_opensOne_37 : decode cX12_opensOne 37 = .ok (.iload_n 1, 1) := by decide +kernel
theorem dX12_opensOne_38 : decode cX12_opensOne 38 = .ok (.iadd, 1) := by decide +kernel
theorem dX12_opensOne_39 : decode cX12_opensOne 39 = .ok (.putfield 125, 3) := by decide +kernel
theorem dX12_opensOne_42 : decode cX12_opensOne 42 = .ok (.aload_n 0, 1) := by decide +kernel
theorem dX12_opensOne_43 : decode cX12_opensOne 43 = .ok (.dup, 1) := by decide +kernel
theorem dX12_opensOne_44 : decode cX12_opensOne 44 = .ok (.getfield 159, 3) := by decide +kernel
theorem dX12_opensOne_47 : decode cX12_opensOne 47 = .ok (.iconst 1, 1) := by decide +kernel
theorem dX12_opensOne_48 : decode cX12_opensOne 48 = .ok (.iadd, 1) := by decide +kernel
theorem dX12_opensOne_49 : decode cX12_opensOne 49 = .ok (.putfield 159, 3) := by decide +kernel
theorem dX12_opensOne_52 : decode cX12_opensOne 52 = .ok (.return_, 1) := by decide +kernel
theorem dX12_readSum_0 : decode cX12_readSum 0 = .ok (.aload_n 0, 1) := by decide +kernel
theorem dX12_readSum_1 : decode cX12_readSum 1 = .ok (.invokevirtual 264, 3) := by decide +kernel
theorem dX12_readSum_4 : decode cX12_readSum 4 = .ok (.aload_n 0, 1) := by decide +kernel
theorem dX12_readSum_5 : decode cX12_readSum 5 = .ok (.invokevirtual 148, 3) := by decide +kernel
theorem dX12_readSum_8 : decode cX12_readSum 8 = .ok (.ifCond .eq 59, 3) := by decide +kernel
theorem dX12_readSum_11 : decode cX12_readSum 11 = .ok (.aload_n 0, 1) := by decide +kernel
theorem dX12_readSum_12 : decode cX12_readSum 12 = .ok (.invokevirtual 131, 3) := by decide +kernel
theorem dX12_readSum_15 : decode cX12_readSum 15 = .ok (.bipush 43, 2) := by decide +kernel
theorem dX12_readSum_17 : decode cX12_readSum 17 = .ok (.if_icmp .eq 12, 3) := by decide +kernel
theorem dX12_readSum_20 : decode cX12_readSum 20 = .ok (.aload_n 0, 1) := by decide +kernel
theorem dX12_readSum_21 : decode cX12_readSum 21 = .ok (.invokevirtual 131, 3) := by decide +kernel
theorem dX12_readSum_24 : decode cX12_readSum 24 = .ok (.bipush 45, 2) := by decide +kernel
theorem dX12_readSum_26 : decode cX12_readSum 26 = .ok (.if_icmp .ne 41, 3) := by decide +kernel
theorem dX12_readSum_29 : decode cX12_readSum 29 = .ok (.aload_n 0, 1) := by decide +kernel
theorem dX12_readSum_30 : decode cX12_readSum 30 = .ok (.invokevirtual 131, 3) := by decide +kernel
theorem dX12_readSum_33 : decode cX12_readSum 33 = .ok (.bipush 43, 2) := by decide +kernel
theorem dX12_readSum_35 : decode cX12_readSum 35 = .ok (.if_icmp .ne 7, 3) := by decide +kernel
theorem dX12_readSum_38 : decode cX12_readSum 38 = .ok (.iconst 2, 1) := by decide +kernel
theorem dX12_readSum_39 : decode cX12_readSum 39 = .ok (.goto 4, 3) := by decide +kernel
theorem dX12_readSum_42 : decode cX12_readSum 42 = .ok (.iconst 3, 1) := by decide +kernel
theorem dX12_readSum_43 : decode cX12_readSum 43 = .ok (.istore_n 1, 1) := by decide +kernel
theorem dX12_readSum_44 : decode cX12_readSum 44 = .ok (.aload_n 0, 1) := by decide +kernel
theorem dX12_readSum_45 : decode cX12_readSum 45 = .ok (.dup, 1) := by decide +kernel
theorem dX12_readSum_46 : decode cX12_readSum 46 = .ok (.getfield 125, 3) := by decide +kernel
theorem dX12_readSum_49 : decode cX12_readSum 49 = .ok (.iconst 1, 1) := by decide +kernel
theorem dX12_readSum_50 : decode cX12_readSum 50 = .ok (.iadd, 1) := by decide +kernel
theorem dX12_readSum_51 : decode cX12_readSum 51 = .ok (.putfield 125, 3) := by decide +kernel
theorem dX12_readSum_54 : decode cX12_readSum 54 = .ok (.aload_n 0, 1) := by decide +kernel
theorem dX12_readSum_55 : decode cX12_readSum 55 = .ok (.invokevirtual 264, 3) := by decide +kernel
theorem dX12_readSum_58 : decode cX12_readSum 58 = .ok (.aload_n 0, 1) := by decide +kernel
theorem dX12_readSum_59 : decode cX12_readSum 59 = .ok (.iload_n 1, 1) := by decide +kernel
theorem dX12_readSum_60 : decode cX12_readSum 60 = .ok (.iconst 0, 1) := by decide +kernel
theorem dX12_readSum_61 : decode cX12_readSum 61 = .ok (.invokevirtual 267, 3) := by decide +kernel
theorem dX12_readSum_64 : decode cX12_readSum 64 = .ok (.goto (-60), 3) := by decide +kernel
theorem dX12_readSum_67 : decode cX12_readSum 67 = .ok (.return_, 1) := by decide +kernel
theorem dX12_readProduct_0 : decode cX12_readProduct 0 = .ok (.aload_n 0, 1) := by decide +kernel
theorem dX12_readProduct_1 : decode cX12_readProduct 1 = .ok (.invokevirtual 270, 3) := by decide +kernel
theorem dX12_readProduct_4 : decode cX12_readProduct 4 = .ok (.aload_n 0, 1) := by decide +kernel
theorem dX12_readProduct_5 : decode cX12_readProduct 5 = .ok (.invokevirtual 148, 3) := by decide +kernel
theorem dX12_readProduct_8 : decode cX12_readProduct 8 = .ok (.ifCond .eq 59, 3) := by decide +kernel
theorem dX12_readProduct_11 : decode cX12_readProduct 11 = .ok (.aload_n 0, 1) := by decide +kernel
theorem dX12_readProduct_12 : decode cX12_readProduct 12 = .ok (.invokevirtual 131, 3) := by decide +kernel
theorem dX12_readProduct_15 : decode cX12_readProduct 15 = .ok (.bipush 42, 2) := by decide +kernel
theorem dX12_readProduct_17 : decode cX12_readProduct 17 = .ok (.if_icmp .eq 12, 3) := by decide +kernel
theorem dX12_readProduct_20 : decode cX12_readProduct 20 = .ok (.aload_n 0, 1) := by decide +kernel
theorem dX12_readProduct_21 : decode cX12_readProduct 21 = .ok (.invokevirtual 131, 3) := by decide +kernel
theorem dX12_readProduct_24 : decode cX12_readProduct 24 = .ok (.bipush 47, 2) := by decide +kernel
theorem dX12_readProduct_26 : decode cX12_readProduct 26 = .ok (.if_icmp .ne 41, 3) := by decide +kernel
theorem dX12_readProduct_29 : decode cX12_readProduct 29 = .ok (.aload_n 0, 1) := by decide +kernel
theorem dX12_readProduct_30 : decode cX12_readProduct 30 = .ok (.invokevirtual 131, 3) := by decide +kernel
theorem dX12_readProduct_33 : decode cX12_readProduct 33 = .ok (.bipush 42, 2) := by decide +kernel
theorem dX12_readProduct_35 : decode cX12_readProduct 35 = .ok (.if_icmp .ne 7, 3) := by decide +kernel
theorem dX12_readProduct_38 : decode cX12_readProduct 38 = .ok (.iconst 4, 1) := by decide +kernel
theorem dX12_readProduct_39 : decode cX12_readProduct 39 = .ok (.goto 4, 3) := by decide +kernel
theorem dX12_readProduct_42 : decode cX12_readProduct 42 = .ok (.iconst 5, 1) := by decide +kernel
theorem dX12_readProduct_43 : decode cX12_readProduct 43 = .ok (.istore_n 1, 1) := by decide +kernel
theorem dX12_readProduct_44 : decode cX12_readProduct 44 = .ok (.aload_n 0, 1) := by decide +kernel
theorem dX12_readProduct_45 : decode cX12_readProduct 45 = .ok (.dup, 1) := by decide +kernel
theorem dX12_readProduct_46 : decode cX12_readProduct 46 = .ok (.getfield 125, 3) := by decide +kernel
theorem dX12_readProduct_49 : decode cX12_readProduct 49 = .ok (.iconst 1, 1) := by decide +kernel
theorem dX12_readProduct_50 : decode cX12_readProduct 50 = .ok (.iadd, 1) := by decide +kernel
theorem dX12_readProduct_51 : decode cX12_readProduct 51 = .ok (.putfield 125, 3) := by decide +kernel
theorem dX12_readProduct_54 : decode cX12_readProduct 54 = .ok (.aload_n 0, 1) := by decide +kernel
theorem dX12_readProduct_55 : decode cX12_readProduct 55 = .ok (.invokevirtual 270, 3) := by decide +kernel
theorem dX12_readProduct_58 : decode cX12_readProduct 58 = .ok (.aload_n 0, 1) := by decide +kernel
theorem dX12_readProduct_59 : decode cX12_readProduct 59 = .ok (.iload_n 1, 1) := by decide +kernel
theorem dX12_readProduct_60 : decode cX12_readProduct 60 = .ok (.iconst 0, 1) := by decide +kernel
theorem dX12_readProduct_61 : decode cX12_readProduct 61 = .ok (.invokevirtual 267, 3) := by decide +kernel
theorem dX12_readProduct_64 : decode cX12_readProduct 64 = .ok (.goto (-60), 3) := by decide +kernel
theorem dX12_readProduct_67 : decode cX12_readProduct 67 = .ok (.return_, 1) := by decide +kernel
theorem dX12_readTwo_0 : decode cX12_readTwo 0 = .ok (.aload_n 0, 1) := by decide +kernel
theorem dX12_readTwo_1 : decode cX12_readTwo 1 = .ok (.iload_n 1, 1) := by decide +kernel
theorem dX12_readTwo_2 : decode cX12_readTwo 2 = .ok (.invokevirtual 273, 3) := by decide +kernel
theorem dX12_readTwo_5 : decode cX12_readTwo 5 = .ok (.aload_n 0, 1) := by decide +kernel
theorem dX12_readTwo_6 : decode cX12_readTwo 6 = .ok (.bipush 91, 2) := by decide +kernel
theorem dX12_readTwo_8 : decode cX12_readTwo 8 = .ok (.invokevirtual 254, 3) := by decide +kernel
theorem dX12_readTwo_11 : decode cX12_readTwo 11 = .ok (.aload_n 0, 1) := by decide +kernel
theorem dX12_readTwo_12 : decode cX12_readTwo 12 = .ok (.invokevirtual 276, 3) := by decide +kernel
theorem dX12_readTwo_15 : decode cX12_readTwo 15 = .ok (.aload_n 0, 1) := by decide +kernel
theorem dX12_readTwo_16 : decode cX12_readTwo 16 = .ok (.bipush 44, 2) := by decide +kernel
theorem dX12_readTwo_18 : decode cX12_readTwo 18 = .ok (.invokevirtual 254, 3) := by decide +kernel
theorem dX12_readTwo_21 : decode cX12_readTwo 21 = .ok (.aload_n 0, 1) := by decide +kernel
theorem dX12_readTwo_22 : decode cX12_readTwo 22 = .ok (.invokevirtual 276, 3) := by decide +kernel
theorem dX12_readTwo_25 : decode cX12_readTwo 25 = .ok (.aload_n 0, 1) := by decide +kernel
theorem dX12_readTwo_26 : decode cX12_readTwo 26 = .ok (.bipush 93, 2) := by decide +kernel
theorem dX12_readTwo_28 : decode cX12_readTwo 28 = .ok (.invokevirtual 254, 3) := by decide +kernel
theorem dX12_readTwo_31 : decode cX12_readTwo 31 = .ok (.aload_n 0, 1) := by decide +kernel
theorem dX12_readTwo_32 : decode cX12_readTwo 32 = .ok (.dup, 1) := by decide +kernel
theorem dX12_readTwo_33 : decode cX12_readTwo 33 = .ok (.getfield 159, 3) := by decide +kernel
theorem dX12_readTwo_36 : decode cX12_readTwo 36 = .ok (.iconst 1, 1) := by decide +kernel
theorem dX12_readTwo_37 : decode cX12_readTwo 37 = .ok (.isub, 1) := by decide +kernel
theorem dX12_readTwo_38 : decode cX12_readTwo 38 = .ok (.putfield 159, 3) := by decide +kernel
theorem dX12_readTwo_41 : decode cX12_readTwo 41 = .ok (.aload_n 0, 1) := by decide +kernel
theorem dX12_readTwo_42 : decode cX12_readTwo 42 = .ok (.iload_n 2, 1) := by decide +kernel
theorem dX12_readTwo_43 : decode cX12_readTwo 43 = .ok (.iconst 0, 1) := by decide +kernel
theorem dX12_readTwo_44 : decode cX12_readTwo 44 = .ok (.invokevirtual 267, 3) := by decide +kernel
theorem dX12_readTwo_47 : decode cX12_readTwo 47 = .ok (.return_, 1) := by decide +kernel
theorem dX12_factHere_0 : decode cX12_factHere 0 = .ok (.aload_n 0, 1) := by decide +kernel
theorem dX12_factHere_1 : decode cX12_factHere 1 = .ok (.invokevirtual 240, 3) := by decide +kernel
theorem dX12_factHere_4 : decode cX12_factHere 4 = .ok (.istore_n 1, 1) := by decide +kernel
theorem dX12_factHere_5 : decode cX12_factHere 5 = .ok (.iload_n 1, 1) := by decide +kernel
theorem dX12_factHere_6 : decode cX12_factHere 6 = .ok (.ldc_w 279, 3) := by decide +kernel
theorem dX12_factHere_9 : decode cX12_factHere 9 = .ok (.invokestatic 216, 3) := by decide +kernel
theorem dX12_factHere_12 : decode cX12_factHere 12 = .ok (.if_icmp .ne 7, 3) := by decide +kernel
theorem dX12_factHere_15 : decode cX12_factHere 15 = .ok (.iconst 0, 1) := by decide +kernel
theorem dX12_factHere_16 : decode cX12_factHere 16 = .ok (.goto 89, 3) := by decide +kernel
theorem dX12_factHere_19 : decode cX12_factHere 19 = .ok (.iload_n 1, 1) := by decide +kernel
theorem dX12_factHere_20 : decode cX12_factHere 20 = .ok (.ldc_w 281, 3) := by decide +kernel
theorem dX12_factHere_23 : decode cX12_factHere 23 = .ok (.invokestatic 216, 3) := by decide +kernel
theorem dX12_factHere_26 : decode cX12_factHere 26 = .ok (.if_icmp .ne 7, 3) := by decide +kernel
theorem dX12_factHere_29 : decode cX12_factHere 29 = .ok (.iconst 1, 1) := by decide +kernel
theorem dX12_factHere_30 : decode cX12_factHere 30 = .ok (.goto 75, 3) := by decide +kernel
theorem dX12_factHere_33 : decode cX12_factHere 33 = .ok (.iload_n 1, 1) := by decide +kernel
theorem dX12_factHere_34 : decode cX12_factHere 34 = .ok (.ldc_w 283, 3) := by decide +kernel
theorem dX12_factHere_37 : decode cX12_factHere 37 = .ok (.invokestatic 216, 3) := by decide +kernel
theorem dX12_factHere_40 : decode cX12_factHere 40 = .ok (.if_icmp .ne 7, 3) := by decide +kernel
theorem dX12_factHere_43 : decode cX12_factHere 43 = .ok (.iconst 2, 1) := by decide +kernel
theorem dX12_factHere_44 : decode cX12_factHere 44 = .ok (.goto 61, 3) := by decide +kernel
theorem dX12_factHere_47 : decode cX12_factHere 47 = .ok (.iload_n 1, 1) := by decide +kernel
theorem dX12_factHere_48 : decode cX12_factHere 48 = .ok (.ldc_w 285, 3) := by decide +kernel
theorem dX12_factHere_51 : decode cX12_factHere 51 = .ok (.invokestatic 216, 3) := by decide +kernel
theorem dX12_factHere_54 : decode cX12_factHere 54 = .ok (.if_icmp .ne 7, 3) := by decide +kernel
theorem dX12_factHere_57 : decode cX12_factHere 57 = .ok (.iconst 3, 1) := by decide +kernel
theorem dX12_factHere_58 : decode cX12_factHere 58 = .ok (.goto 47, 3) := by decide +kernel
theorem dX12_factHere_61 : decode cX12_factHere 61 = .ok (.iload_n 1, 1) := by decide +kernel
theorem dX12_factHere_62 : decode cX12_factHere 62 = .ok (.ldc_w 287, 3) := by decide +kernel
theorem dX12_factHere_65 : decode cX12_factHere 65 = .ok (.invokestatic 216, 3) := by decide +kernel
theorem dX12_factHere_68 : decode cX12_factHere 68 = .ok (.if_icmp .ne 7, 3) := by decide +kernel
theorem dX12_factHere_71 : decode cX12_factHere 71 = .ok (.iconst 4, 1) := by decide +kernel
theorem dX12_factHere_72 : decode cX12_factHere 72 = .ok (.goto 33, 3) := by decide +kernel
theorem dX12_factHere_75 : decode cX12_factHere 75 = .ok (.iload_n 1, 1) := by decide +kernel
theorem dX12_factHere_76 : decode cX12_factHere 76 = .ok (.ldc_w 289, 3) := by decide +kernel
theorem dX12_factHere_79 : decode cX12_factHere 79 = .ok (.invokestatic 216, 3) := by decide +kernel
theorem dX12_factHere_82 : decode cX12_factHere 82 = .ok (.if_icmp .ne 7, 3) := by decide +kernel
theorem dX12_factHere_85 : decode cX12_factHere 85 = .ok (.iconst 5, 1) := by decide +kernel
theorem dX12_factHere_86 : decode cX12_factHere 86 = .ok (.goto 19, 3) := by decide +kernel
theorem dX12_factHere_89 : decode cX12_factHere 89 = .ok (.iload_n 1, 1) := by decide +kernel
theorem dX12_factHere_90 : decode cX12_factHere 90 = .ok (.ldc_w 291, 3) := by decide +kernel
theorem dX12_factHere_93 : decode cX12_factHere 93 = .ok (.invokestatic 216, 3) := by decide +kernel
theorem dX12_factHere_96 : decode cX12_factHere 96 = .ok (.if_icmp .ne 8, 3) := by decide +kernel
theorem dX12_factHere_99 : decode cX12_factHere 99 = .ok (.bipush 6, 2) := by decide +kernel
theorem dX12_factHere_101 : decode cX12_factHere 101 = .ok (.goto 4, 3) := by decide +kernel
theorem dX12_factHere_104 : decode cX12_factHere 104 = .ok (.iconst (-1), 1) := by decide +kernel
theorem dX12_factHere_105 : decode cX12_factHere 105 = .ok (.ireturn, 1) := by decide +kernel
theorem dX12_readUnit_0 : decode cX12_readUnit 0 = .ok (.aload_n 0, 1) := by decide +kernel
theorem dX12_readUnit_1 : decode cX12_readUnit 1 = .ok (.invokevirtual 148, 3) := by decide +kernel
theorem dX12_readUnit_4 : decode cX12_readUnit 4 = .ok (.ifCond .ne 4, 3) := by decide +kernel
theorem dX12_readUnit_7 : decode cX12_readUnit 7 = .ok (.return_, 1) := by decide +kernel
theorem dX12_readUnit_8 : decode cX12_readUnit 8 = .ok (.aload_n 0, 1) := by decide +kernel
theorem dX12_readUnit_9 : decode cX12_readUnit 9 = .ok (.invokevirtual 131, 3) := by decide +kernel
theorem dX12_readUnit_12 : decode cX12_readUnit 12 = .ok (.bipush 40, 2) := by decide +kernel
theorem dX12_readUnit_14 : decode cX12_readUnit 14 = .ok (.if_icmp .ne 31, 3) := by decide +kernel
theorem dX12_readUnit_17 : decode cX12_readUnit 17 = .ok (.aload_n 0, 1) := by decide +kernel
theorem dX12_readUnit_18 : decode cX12_readUnit 18 = .ok (.iconst 1, 1) := by decide +kernel
theorem dX12_readUnit_19 : decode cX12_readUnit 19 = .ok (.invokevirtual 273, 3) := by decide +kernel
theorem dX12_readUnit_22 : decode cX12_readUnit 22 = .ok (.aload_n 0, 1) := by decide +kernel
theorem dX12_readUnit_23 : decode cX12_readUnit 23 = .ok (.invokevirtual 276, 3) := by decide +kernel
theorem dX12_readUnit_26 : decode cX12_readUnit 26 = .ok (.aload_n 0, 1) := by decide +kernel
theorem dX12_readUnit_27 : decode cX12_readUnit 27 = .ok (.bipush 41, 2) := by decide +kernel
theorem dX12_readUnit_29 : decode cX12_readUnit 29 = .ok (.invokevirtual 254, 3) := by decide +kernel
theorem dX12_readUnit_32 : decode cX12_readUnit 32 = .ok (.aload_n 0, 1) := by decide +kernel
theorem dX12_readUnit_33 : decode cX12_readUnit 33 = .ok (.dup, 1) := by decide +kernel
