theorem dL_corner_0 : decode cL_corner 0 = .ok (.aload_n 2, 1) := by decide +kernel
theorem dL_corner_1 : decode cL_corner 1 = .ok (.iconst 0, 1) := by decide +kernel
theorem dL_corner_2 : decode cL_corner 2 = .ok (.aload_n 0, 1) := by decide +kernel
theorem dL_corner_3 : decode cL_corner 3 = .ok (.iload_n 1, 1) := by decide +kernel
theorem dL_corner_4 : decode cL_corner 4 = .ok (.invokevirtual 7, 3) := by decide +kernel
theorem dL_corner_7 : decode cL_corner 7 = .ok (.i2l, 1) := by decide +kernel
theorem dL_corner_8 : decode cL_corner 8 = .ok (.lastore, 1) := by decide +kernel
theorem dL_corner_9 : decode cL_corner 9 = .ok (.goto 6, 3) := by decide +kernel
theorem dL_corner_12 : decode cL_corner 12 = .ok (.astore_n 3, 1) := by decide +kernel
theorem dL_corner_13 : decode cL_corner 13 = .ok (.iconst 1, 1) := by decide +kernel
theorem dL_corner_14 : decode cL_corner 14 = .ok (.ireturn, 1) := by decide +kernel
theorem dL_corner_15 : decode cL_corner 15 = .ok (.iconst 0, 1) := by decide +kernel
theorem dL_corner_16 : decode cL_corner 16 = .ok (.ireturn, 1) := by decide +kernel
theorem dL_law_0 : decode cL_law 0 = .ok (.aload_n 2, 1) := by decide +kernel
theorem dL_law_1 : decode cL_law 1 = .ok (.iconst 0, 1) := by decide +kernel
theorem dL_law_2 : decode cL_law 2 = .ok (.aload_n 0, 1) := by decide +kernel
theorem dL_law_3 : decode cL_law 3 = .ok (.iload_n 1, 1) := by decide +kernel
theorem dL_law_4 : decode cL_law 4 = .ok (.invokevirtual 15, 3) := by decide +kernel
theorem dL_law_7 : decode cL_law 7 = .ok (.i2l, 1) := by decide +kernel
theorem dL_law_8 : decode cL_law 8 = .ok (.lastore, 1) := by decide +kernel
theorem dL_law_9 : decode cL_law 9 = .ok (.goto 6, 3) := by decide +kernel
theorem dL_law_12 : decode cL_law 12 = .ok (.astore_n 3, 1) := by decide +kernel
theorem dL_law_13 : decode cL_law 13 = .ok (.iconst 1, 1) := by decide +kernel
theorem dL_law_14 : decode cL_law 14 = .ok (.ireturn, 1) := by decide +kernel
theorem dL_law_15 : decode cL_law 15 = .ok (.iconst 0, 1) := by decide +kernel
theorem dL_law_16 : decode cL_law 16 = .ok (.ireturn, 1) := by decide +kernel
theorem dL_work_0 : decode cL_work 0 = .ok (.aload_n 2, 1) := by decide +kernel
theorem dL_work_1 : decode cL_work 1 = .ok (.iconst 0, 1) := by decide +kernel
theorem dL_work_2 : decode cL_work 2 = .ok (.aload_n 0, 1) := by decide +kernel
theorem dL_work_3 : decode cL_work 3 = .ok (.iload_n 1, 1) := by decide +kernel
theorem dL_work_4 : decode cL_work 4 = .ok (.invokevirtual 18, 3) := by decide +kernel
theorem dL_work_7 : decode cL_work 7 = .ok (.i2l, 1) := by decide +kernel
theorem dL_work_8 : decode cL_work 8 = .ok (.lastore, 1) := by decide +kernel
theorem dL_work_9 : decode cL_work 9 = .ok (.goto 6, 3) := by decide +kernel
theorem dL_work_12 : decode cL_work 12 = .ok (.astore_n 3, 1) := by decide +kernel
theorem dL_work_13 : decode cL_work 13 = .ok (.iconst 1, 1) := by decide +kernel
theorem dL_work_14 : decode cL_work 14 = .ok (.ireturn, 1) := by decide +kernel
theorem dL_work_15 : decode cL_work 15 = .ok (.iconst 0, 1) := by decide +kernel
theorem dL_work_16 : decode cL_work 16 = .ok (.ireturn, 1) := by decide +kernel
theorem dL_book_0 : decode cL_book 0 = .ok (.aload_n 2, 1) := by decide +kernel
theorem dL_book_1 : decode cL_book 1 = .ok (.iconst 0, 1) := by decide +kernel
theorem dL_book_2 : decode cL_book 2 = .ok (.aload_n 0, 1) := by decide +kernel
theorem dL_book_3 : decode cL_book 3 = .ok (.iload_n 1, 1) := by decide +kernel
theorem dL_book_4 : decode cL_book 4 = .ok (.invokevirtual 21, 3) := by decide +kernel
theorem dL_book_7 : decode cL_book 7 = .ok (.i2l, 1) := by decide +kernel
theorem dL_book_8 : decode cL_book 8 = .ok (.lastore, 1) := by decide +kernel
theorem dL_book_9 : decode cL_book 9 = .ok (.goto 6, 3) := by decide +kernel
theorem dL_book_12 : decode cL_book 12 = .ok (.astore_n 3, 1) := by decide +kernel
theorem dL_book_13 : decode cL_book 13 = .ok (.iconst 1, 1) := by decide +kernel
theorem dL_book_14 : decode cL_book 14 = .ok (.ireturn, 1) := by decide +kernel
theorem dL_book_15 : decode cL_book 15 = .ok (.iconst 0, 1) := by decide +kernel
theorem dL_book_16 : decode cL_book 16 = .ok (.ireturn, 1) := by decide +kernel
theorem dL_told_0 : decode cL_told 0 = .ok (.aload_n 2, 1) := by decide +kernel
theorem dL_told_1 : decode cL_told 1 = .ok (.iconst 0, 1) := by decide +kernel
theorem dL_told_2 : decode cL_told 2 = .ok (.aload_n 0, 1) := by decide +kernel
theorem dL_told_3 : decode cL_told 3 = .ok (.iload_n 1, 1) := by decide +kernel
theorem dL_told_4 : decode cL_told 4 = .ok (.invokevirtual 24, 3) := by decide +kernel
theorem dL_told_7 : decode cL_told 7 = .ok (.i2l, 1) := by decide +kernel
theorem dL_told_8 : decode cL_told 8 = .ok (.lastore, 1) := by decide +kernel
theorem dL_told_9 : decode cL_told 9 = .ok (.goto 6, 3) := by decide +kernel
theorem dL_told_12 : decode cL_told 12 = .ok (.astore_n 3, 1) := by decide +kernel
theorem dL_told_13 : decode cL_told 13 = .ok (.iconst 1, 1) := by decide +kernel
theorem dL_told_14 : decode cL_told 14 = .ok (.ireturn, 1) := by decide +kernel
theorem dL_told_15 : decode cL_told 15 = .ok (.iconst 0, 1) := by decide +kernel
theorem dL_told_16 : decode cL_told 16 = .ok (.ireturn, 1) := by decide +kernel
theorem dL_view_0 : decode cL_view 0 = .ok (.aload_n 3, 1) := by decide +kernel
theorem dL_view_1 : decode cL_view 1 = .ok (.iconst 0, 1) := by decide +kernel
theorem dL_view_2 : decode cL_view 2 = .ok (.aload_n 0, 1) := by decide +kernel
theorem dL_view_3 : decode cL_view 3 = .ok (.iload_n 1, 1) := by decide +kernel
theorem dL_view_4 : decode cL_view 4 = .ok (.iload_n 2, 1) := by decide +kernel
theorem dL_view_5 : decode cL_view 5 = .ok (.invokevirtual 27, 3) := by decide +kernel
theorem dL_view_8 : decode cL_view 8 = .ok (.i2l, 1) := by decide +kernel
theorem dL_view_9 : decode cL_view 9 = .ok (.lastore, 1) := by decide +kernel
theorem dL_view_10 : decode cL_view 10 = .ok (.goto 11, 3) := by decide +kernel
theorem dL_view_13 : decode cL_view 13 = .ok (.astore 4, 2) := by decide +kernel
theorem dL_view_15 : decode cL_view 15 = .ok (.iconst 1, 1) := by decide +kernel
theorem dL_view_16 : decode cL_view 16 = .ok (.ireturn, 1) := by decide +kernel
theorem dL_view_17 : decode cL_view 17 = .ok (.astore 4, 2) := by decide +kernel
theorem dL_view_19 : decode cL_view 19 = .ok (.iconst 2, 1) := by decide +kernel
theorem dL_view_20 : decode cL_view 20 = .ok (.ireturn, 1) := by decide +kernel
theorem dL_view_21 : decode cL_view 21 = .ok (.iconst 0, 1) := by decide +kernel
theorem dL_view_22 : decode cL_view 22 = .ok (.ireturn, 1) := by decide +kernel
theorem dL_tenant_0 : decode cL_tenant 0 = .ok (.aload_n 3, 1) := by decide +kernel
theorem dL_tenant_1 : decode cL_tenant 1 = .ok (.iconst 0, 1) := by decide +kernel
theorem dL_tenant_2 : decode cL_tenant 2 = .ok (.aload_n 0, 1) := by decide +kernel
theorem dL_tenant_3 : decode cL_tenant 3 = .ok (.iload_n 1, 1) := by decide +kernel
theorem dL_tenant_4 : decode cL_tenant 4 = .ok (.iload_n 2, 1) := by decide +kernel
theorem dL_tenant_5 : decode cL_tenant 5 = .ok (.invokevirtual 33, 3) := by decide +kernel
theorem dL_tenant_8 : decode cL_tenant 8 = .ok (.i2l, 1) := by decide +kernel
theorem dL_tenant_9 : decode cL_tenant 9 = .ok (.lastore, 1) := by decide +kernel
theorem dL_tenant_10 : decode cL_tenant 10 = .ok (.goto 11, 3) := by decide +kernel
theorem dL_tenant_13 : decode cL_tenant 13 = .ok (.astore 4, 2) := by decide +kernel
theorem dL_tenant_15 : decode cL_tenant 15 = .ok (.iconst 1, 1) := by decide +kernel
theorem dL_tenant_16 : decode cL_tenant 16 = .ok (.ireturn, 1) := by decide +kernel
theorem dL_tenant_17 : decode cL_tenant 17 = .ok (.astore 4, 2) := by decide +kernel
theorem dL_tenant_19 : decode cL_tenant 19 = .ok (.iconst 2, 1) := by decide +kernel
theorem dL_tenant_20 : decode cL_tenant 20 = .ok (.ireturn, 1) := by decide +kernel
theorem dL_tenant_21 : decode cL_tenant 21 = .ok (.iconst 0, 1) := by decide +kernel
theorem dL_tenant_22 : decode cL_tenant 22 = .ok (.ireturn, 1) := by decide +kernel
theorem dL_bubble_0 : decode cL_bubble 0 = .ok (.aload_n 3, 1) := by decide +kernel
theorem dL_bubble_1 : decode cL_bubble 1 = .ok (.iconst 0, 1) := by decide +kernel
theorem dL_bubble_2 : decode cL_bubble 2 = .ok (.aload_n 0, 1) := by decide +kernel
theorem dL_bubble_3 : decode cL_bubble 3 = .ok (.iload_n 1, 1) := by decide +kernel
theorem dL_bubble_4 : decode cL_bubble 4 = .ok (.iload_n 2, 1) := by decide +kernel
theorem dL_bubble_5 : decode cL_bubble 5 = .ok (.invokevirtual 36, 3) := by decide +kernel
theorem dL_bubble_8 : decode cL_bubble 8 = .ok (.i2l, 1) := by decide +kernel
theorem dL_bubble_9 : decode cL_bubble 9 = .ok (.lastore, 1) := by decide +kernel
theorem dL_bubble_10 : decode cL_bubble 10 = .ok (.goto 11, 3) := by decide +kernel
theorem dL_bubble_13 : decode cL_bubble 13 = .ok (.astore 4, 2) := by decide +kernel
theorem dL_bubble_15 : decode cL_bubble 15 = .ok (.iconst 1, 1) := by decide +kernel
theorem dL_bubble_16 : decode cL_bubble 16 = .ok (.ireturn, 1) := by decide +kernel
theorem dL_bubble_17 : decode cL_bubble 17 = .ok (.astore 4, 2) := by decide +kernel
theorem dL_bubble_19 : decode cL_bubble 19 = .ok (.iconst 2, 1) := by decide +kernel
theorem dL_bubble_20 : decode cL_bubble 20 = .ok (.ireturn, 1) := by decide +kernel
theorem dL_bubble_21 : decode cL_bubble 21 = .ok (.iconst 0, 1) := by decide +kernel
theorem dL_bubble_22 : decode cL_bubble 22 = .ok (.ireturn, 1) := by decide +kernel
theorem dL_would_0 : decode cL_would 0 = .ok (.aload 9, 2) := by decide +kernel
theorem dL_would_2 : decode cL_would 2 = .ok (.iconst 0, 1) := by decide +kernel
theorem dL_would_3 : decode cL_would 3 = .ok (.aload_n 0, 1) := by decide +kernel
theorem dL_would_4 : decode cL_would 4 = .ok (.iload_n 1, 1) := by decide +kernel
theorem dL_would_5 : decode cL_would 5 = .ok (.iload_n 2, 1) := by decide +kernel
theorem dL_would_6 : decode cL_would 6 = .ok (.iload_n 3, 1) := by decide +kernel
theorem dL_would_7 : decode cL_would 7 = .ok (.iload 4, 2) := by decide +kernel
theorem dL_would_9 : decode cL_would 9 = .ok (.iload 5, 2) := by decide +kernel
theorem dL_would_11 : decode cL_would 11 = .ok (.iload 6, 2) := by decide +kernel
theorem dL_would_13 : decode cL_would 13 = .ok (.iload 7, 2) := by decide +kernel
theorem dL_would_15 : decode cL_would 15 = .ok (.iload 8, 2) := by decide +kernel
theorem dL_would_17 : decode cL_would 17 = .ok (.invokevirtual 39, 3) := by decide +kernel
theorem dL_would_20 : decode cL_would 20 = .ok (.i2l, 1) := by decide +kernel
theorem dL_would_21 : decode cL_would 21 = .ok (.lastore, 1) := by decide +kernel
theorem dL_would_22 : decode cL_would 22 = .ok (.goto 7, 3) := by decide +kernel
theorem dL_would_25 : decode cL_would 25 = .ok (.astore 10, 2) := by decide +kernel
theorem dL_would_27 : decode cL_would 27 = .ok (.iconst 1, 1) := by decide +kernel
theorem dL_would_28 : decode cL_would 28 = .ok (.ireturn, 1) := by decide +kernel
theorem dL_would_29 : decode cL_would 29 = .ok (.iconst 0, 1) := by decide +kernel
theorem dL_would_30 : decode cL_would 30 = .ok (.ireturn, 1) := by decide +kernel
theorem dL_ahead_0 : decode cL_ahead 0 = .ok (.aload_n 3, 1) := by decide +kernel
theorem dL_ahead_1 : decode cL_ahead 1 = .ok (.iconst 0, 1) := by decide +kernel
theorem dL_ahead_2 : decode cL_ahead 2 = .ok (.aload_n 0, 1) := by decide +kernel
theorem dL_ahead_3 : decode cL_ahead 3 = .ok (.iload_n 1, 1) := by decide +kernel
theorem dL_ahead_4 : decode cL_ahead 4 = .ok (.iload_n 2, 1) := by decide +kernel
theorem dL_ahead_5 : decode cL_ahead 5 = .ok (.invokevirtual 43, 3) := by decide +kernel
theorem dL_ahead_8 : decode cL_ahead 8 = .ok (.i2l, 1) := by decide +kernel
theorem dL_ahead_9 : decode cL_ahead 9 = .ok (.lastore, 1) := by decide +kernel
theorem dL_ahead_10 : decode cL_ahead 10 = .ok (.goto 7, 3) := by decide +kernel
theorem dL_ahead_13 : decode cL_ahead 13 = .ok (.astore 4, 2) := by decide +kernel
theorem dL_ahead_15 : decode cL_ahead 15 = .ok (.iconst 1, 1) := by decide +kernel
theorem dL_ahead_16 : decode cL_ahead 16 = .ok (.ireturn, 1) := by decide +kernel
theorem dL_ahead_17 : decode cL_ahead 17 = .ok (.iconst 0, 1) := by decide +kernel
theorem dL_ahead_18 : decode cL_ahead 18 = .ok (.ireturn, 1) := by decide +kernel
theorem dL_wall_0 : decode cL_wall 0 = .ok (.aload 4, 2) := by decide +kernel
theorem dL_wall_2 : decode cL_wall 2 = .ok (.iconst 0, 1) := by decide +kernel
theorem dL_wall_3 : decode cL_wall 3 = .ok (.aload_n 0, 1) := by decide +kernel
theorem dL_wall_4 : decode cL_wall 4 = .ok (.iload_n 1, 1) := by decide +kernel
theorem dL_wall_5 : decode cL_wall 5 = .ok (.iload_n 2, 1) := by decide +kernel
theorem dL_wall_6 : decode cL_wall 6 = .ok (.iload_n 3, 1) := by decide +kernel
theorem dL_wall_7 : decode cL_wall 7 = .ok (.invokevirtual 46, 3) := by decide +kernel
theorem dL_wall_10 : decode cL_wall 10 = .ok (.i2l, 1) := by decide +kernel
theorem dL_wall_11 : decode cL_wall 11 = .ok (.lastore, 1) := by decide +kernel
theorem dL_wall_12 : decode cL_wall 12 = .ok (.goto 11, 3) := by decide +kernel
theorem dL_wall_15 : decode cL_wall 15 = .ok (.astore 5, 2) := by decide +kernel
theorem dL_wall_17 : decode cL_wall 17 = .ok (.iconst 1, 1) := by decide +kernel
theorem dL_wall_18 : decode cL_wall 18 = .ok (.ireturn, 1) := by decide +kernel
theorem dL_wall_19 : decode cL_wall 19 = .ok (.astore 5, 2) := by decide +kernel
theorem dL_wall_21 : decode cL_wall 21 = .ok (.iconst 2, 1) := by decide +kernel
theorem dL_wall_22 : decode cL_wall 22 = .ok (.ireturn, 1) := by decide +kernel
theorem dL_wall_23 : decode cL_wall 23 = .ok (.iconst 0, 1) := by decide +kernel
theorem dL_wall_24 : decode cL_wall 24 = .ok (.ireturn, 1) := by decide +kernel
theorem dL_lasts_0 : decode cL_lasts 0 = .ok (.aload_n 2, 1) := by decide +kernel
theorem dL_lasts_1 : decode cL_lasts 1 = .ok (.iconst 0, 1) := by decide +kernel
theorem dL_lasts_2 : decode cL_lasts 2 = .ok (.aload_n 0, 1) := by decide +kernel
theorem dL_lasts_3 : decode cL_lasts 3 = .ok (.iload_n 1, 1) := by decide +kernel
theorem dL_lasts_4 : decode cL_lasts 4 = .ok (.invokevirtual 50, 3) := by decide +kernel
theorem dL_lasts_7 : decode cL_lasts 7 = .ok (.i2l, 1) := by decide +kernel
theorem dL_lasts_8 : decode cL_lasts 8 = .ok (.lastore, 1) := by decide +kernel
theorem dL_lasts_9 : decode cL_lasts 9 = .ok (.goto 6, 3) := by decide +kernel
theorem dL_lasts_12 : decode cL_lasts 12 = .ok (.astore_n 3, 1) := by decide +kernel
theorem dL_lasts_13 : decode cL_lasts 13 = .ok (.iconst 1, 1) := by decide +kernel
theorem dL_lasts_14 : decode cL_lasts 14 = .ok (.ireturn, 1) := by decide +kernel
theorem dL_lasts_15 : decode cL_lasts 15 = .ok (.iconst 0, 1) := by decide +kernel
theorem dL_lasts_16 : decode cL_lasts 16 = .ok (.ireturn, 1) := by decide +kernel
theorem dL_pitch_0 : decode cL_pitch 0 = .ok (.aload_n 3, 1) := by decide +kernel
theorem dL_pitch_1 : decode cL_pitch 1 = .ok (.iconst 0, 1) := by decide +kernel
theorem dL_pitch_2 : decode cL_pitch 2 = .ok (.aload_n 0, 1) := by decide +kernel
theorem dL_pitch_3 : decode cL_pitch 3 = .ok (.iload_n 1, 1) := by decide +kernel
theorem dL_pitch_4 : decode cL_pitch 4 = .ok (.iload_n 2, 1) := by decide +kernel
theorem dL_pitch_5 : decode cL_pitch 5 = .ok (.invokevirtual 53, 3) := by decide +kernel
theorem dL_pitch_8 : decode cL_pitch 8 = .ok (.i2l, 1) := by decide +kernel
theorem dL_pitch_9 : decode cL_pitch 9 = .ok (.lastore, 1) := by decide +kernel
theorem dL_pitch_10 : decode cL_pitch 10 = .ok (.goto 7, 3) := by decide +kernel
theorem dL_pitch_13 : decode cL_pitch 13 = .ok (.astore 4, 2) := by decide +kernel
theorem dL_pitch_15 : decode cL_pitch 15 = .ok (.iconst 1, 1) := by decide +kernel
theorem dL_pitch_16 : decode cL_pitch 16 = .ok (.ireturn, 1) := by decide +kernel
theorem dL_pitch_17 : decode cL_pitch 17 = .ok (.iconst 0, 1) := by decide +kernel
theorem dL_pitch_18 : decode cL_pitch 18 = .ok (.ireturn, 1) := by decide +kernel
theorem dL_street_0 : decode cL_street 0 = .ok (.aload_n 3, 1) := by decide +kernel
theorem dL_street_1 : decode cL_street 1 = .ok (.iconst 0, 1) := by decide +kernel
theorem dL_street_2 : decode cL_street 2 = .ok (.aload_n 0, 1) := by decide +kernel
theorem dL_street_3 : decode cL_street 3 = .ok (.iload_n 1, 1) := by decide +kernel
theorem dL_street_4 : decode cL_street 4 = .ok (.iload_n 2, 1) := by decide +kernel
theorem dL_street_5 : decode cL_street 5 = .ok (.invokevirtual 56, 3) := by decide +kernel
theorem dL_street_8 : decode cL_street 8 = .ok (.i2l, 1) := by decide +kernel
theorem dL_street_9 : decode cL_street 9 = .ok (.lastore, 1) := by decide +kernel
theorem dL_street_10 : decode cL_street 10 = .ok (.goto 7, 3) := by decide +kernel
theorem dL_street_13 : decode cL_street 13 = .ok (.astore 4, 2) := by decide +kernel
theorem dL_street_15 : decode cL_street 15 = .ok (.iconst 1, 1) := by decide +kernel
theorem dL_street_16 : decode cL_street 16 = .ok (.ireturn, 1) := by decide +kernel
theorem dL_street_17 : decode cL_street 17 = .ok (.iconst 0, 1) := by decide +kernel
theorem dL_street_18 : decode cL_street 18 = .ok (.ireturn, 1) := by decide +kernel
theorem dL_fits_0 : decode cL_fits 0 = .ok (.aload_n 2, 1) := by decide +kernel
theorem dL_fits_1 : decode cL_fits 1 = .ok (.iconst 0, 1) := by decide +kernel
theorem dL_fits_2 : decode cL_fits 2 = .ok (.aload_n 0, 1) := by decide +kernel
theorem dL_fits_3 : decode cL_fits 3 = .ok (.iload_n 1, 1) := by decide +kernel
theorem dL_fits_4 : decode cL_fits 4 = .ok (.invokevirtual 59, 3) := by decide +kernel
theorem dL_fits_7 : decode cL_fits 7 = .ok (.i2l, 1) := by decide +kernel
theorem dL_fits_8 : decode cL_fits 8 = .ok (.lastore, 1) := by decide +kernel
theorem dL_fits_9 : decode cL_fits 9 = .ok (.goto 6, 3) := by decide +kernel
theorem dL_fits_12 : decode cL_fits 12 = .ok (.astore_n 3, 1) := by decide +kernel
theorem dL_fits_13 : decode cL_fits 13 = .ok (.iconst 1, 1) := by decide +kernel
theorem dL_fits_14 : decode cL_fits 14 = .ok (.ireturn, 1) := by decide +kernel
theorem dL_fits_15 : decode cL_fits 15 = .ok (.iconst 0, 1) := by decide +kernel
theorem dL_fits_16 : decode cL_fits 16 = .ok (.ireturn, 1) := by decide +kernel
theorem dL_look_0 : decode cL_look 0 = .ok (.aload_n 2, 1) := by decide +kernel
theorem dL_look_1 : decode cL_look 1 = .ok (.iconst 0, 1) := by decide +kernel
theorem dL_look_2 : decode cL_look 2 = .ok (.aload_n 0, 1) := by decide +kernel
theorem dL_look_3 : decode cL_look 3 = .ok (.iload_n 1, 1) := by decide +kernel
theorem dL_look_4 : decode cL_look 4 = .ok (.invokevirtual 62, 3) := by decide +kernel
theorem dL_look_7 : decode cL_look 7 = .ok (.i2l, 1) := by decide +kernel
theorem dL_look_8 : decode cL_look 8 = .ok (.lastore, 1) := by decide +kernel
theorem dL_look_9 : decode cL_look 9 = .ok (.goto 6, 3) := by decide +kernel
theorem dL_look_12 : decode cL_look 12 = .ok (.astore_n 3, 1) := by decide +kernel
theorem dL_look_13 : decode cL_look 13 = .ok (.iconst 1, 1) := by decide +kernel
theorem dL_look_14 : decode cL_look 14 = .ok (.ireturn, 1) := by decide +kernel
theorem dL_look_15 : decode cL_look 15 = .ok (.iconst 0, 1) := by decide +kernel
theorem dL_look_16 : decode cL_look 16 = .ok (.ireturn, 1) := by decide +kernel
theorem dL_stands_0 : decode cL_stands 0 = .ok (.aload 4, 2) := by decide +kernel
theorem dL_stands_2 : decode cL_stands 2 = .ok (.iconst 0, 1) := by decide +kernel
theorem dL_stands_3 : decode cL_stands 3 = .ok (.aload_n 0, 1) := by decide +kernel
theorem dL_stands_4 : decode cL_stands 4 = .ok (.iload_n 1, 1) := by decide +kernel
theorem dL_stands_5 : decode cL_stands 5 = .ok (.iload_n 2, 1) := by decide +kernel
theorem dL_stands_6 : decode cL_stands 6 = .ok (.iload_n 3, 1) := by decide +kernel
theorem dL_stands_7 : decode cL_stands 7 = .ok (.invokevirtual 65, 3) := by decide +kernel
theorem dL_stands_10 : decode cL_stands 10 = .ok (.lastore, 1) := by decide +kernel
theorem dL_stands_11 : decode cL_stands 11 = .ok (.goto 7, 3) := by decide +kernel
theorem dL_stands_14 : decode cL_stands 14 = .ok (.astore 5, 2) := by decide +kernel
theorem dL_stands_16 : decode cL_stands 16 = .ok (.iconst 1, 1) := by decide +kernel
theorem dL_stands_17 : decode cL_stands 17 = .ok (.ireturn, 1) := by decide +kernel
theorem dL_stands_18 : decode cL_stands 18 = .ok (.iconst 0, 1) := by decide +kernel
theorem dL_stands_19 : decode cL_stands 19 = .ok (.ireturn, 1) := by decide +kernel
theorem dL_mean_0 : decode cL_mean 0 = .ok (.aload 4, 2) := by decide +kernel
theorem dL_mean_2 : decode cL_mean 2 = .ok (.iconst 0, 1) := by decide +kernel
theorem dL_mean_3 : decode cL_mean 3 = .ok (.aload_n 0, 1) := by decide +kernel
theorem dL_mean_4 : decode cL_mean 4 = .ok (.iload_n 1, 1) := by decide +kernel
theorem dL_mean_5 : decode cL_mean 5 = .ok (.iload_n 2, 1) := by decide +kernel
theorem dL_mean_6 : decode cL_mean 6 = .ok (.iload_n 3, 1) := by decide +kernel
theorem dL_mean_7 : decode cL_mean 7 = .ok (.invokevirtual 69, 3) := by decide +kernel
theorem dL_mean_10 : decode cL_mean 10 = .ok (.lastore, 1) := by decide +kernel
theorem dL_mean_11 : decode cL_mean 11 = .ok (.goto 7, 3) := by decide +kernel
theorem dL_mean_14 : decode cL_mean 14 = .ok (.astore 5, 2) := by decide +kernel
theorem dL_mean_16 : decode cL_mean 16 = .ok (.iconst 1, 1) := by decide +kernel
theorem dL_mean_17 : decode cL_mean 17 = .ok (.ireturn, 1) := by decide +kernel
theorem dL_mean_18 : decode cL_mean 18 = .ok (.iconst 0, 1) := by decide +kernel
theorem dL_mean_19 : decode cL_mean 19 = .ok (.ireturn, 1) := by decide +kernel
theorem dL_sure_0 : decode cL_sure 0 = .ok (.aload_n 2, 1) := by decide +kernel
theorem dL_sure_1 : decode cL_sure 1 = .ok (.iconst 0, 1) := by decide +kernel
theorem dL_sure_2 : decode cL_sure 2 = .ok (.aload_n 0, 1) := by decide +kernel
theorem dL_sure_3 : decode cL_sure 3 = .ok (.iload_n 1, 1) := by decide +kernel
theorem dL_sure_4 : decode cL_sure 4 = .ok (.invokevirtual 72, 3) := by decide +kernel
theorem dL_sure_7 : decode cL_sure 7 = .ok (.i2l, 1) := by decide +kernel
theorem dL_sure_8 : decode cL_sure 8 = .ok (.lastore, 1) := by decide +kernel
theorem dL_sure_9 : decode cL_sure 9 = .ok (.goto 6, 3) := by decide +kernel
theorem dL_sure_12 : decode cL_sure 12 = .ok (.astore_n 3, 1) := by decide +kernel
theorem dL_sure_13 : decode cL_sure 13 = .ok (.iconst 1, 1) := by decide +kernel
theorem dL_sure_14 : decode cL_sure 14 = .ok (.ireturn, 1) := by decide +kernel
theorem dL_sure_15 : decode cL_sure 15 = .ok (.iconst 0, 1) := by decide +kernel
theorem dL_sure_16 : decode cL_sure 16 = .ok (.ireturn, 1) := by decide +kernel
theorem dL_pay_0 : decode cL_pay 0 = .ok (.aload 4, 2) := by decide +kernel
theorem dL_pay_2 : decode cL_pay 2 = .ok (.iconst 0, 1) := by decide +kernel
theorem dL_pay_3 : decode cL_pay 3 = .ok (.aload_n 0, 1) := by decide +kernel
theorem dL_pay_4 : decode cL_pay 4 = .ok (.iload_n 1, 1) := by decide +kernel
theorem dL_pay_5 : decode cL_pay 5 = .ok (.iload_n 2, 1) := by decide +kernel
theorem dL_pay_6 : decode cL_pay 6 = .ok (.iload_n 3, 1) := by decide +kernel
theorem dL_pay_7 : decode cL_pay 7 = .ok (.invokevirtual 75, 3) := by decide +kernel
theorem dL_pay_10 : decode cL_pay 10 = .ok (.i2l, 1) := by decide +kernel
theorem dL_pay_11 : decode cL_pay 11 = .ok (.lastore, 1) := by decide +kernel
theorem dL_pay_12 : decode cL_pay 12 = .ok (.goto 7, 3) := by decide +kernel
theorem dL_pay_15 : decode cL_pay 15 = .ok (.astore 5, 2) := by decide +kernel
theorem dL_pay_17 : decode cL_pay 17 = .ok (.iconst 1, 1) := by decide +kernel
theorem dL_pay_18 : decode cL_pay 18 = .ok (.ireturn, 1) := by decide +kernel
theorem dL_pay_19 : decode cL_pay 19 = .ok (.iconst 0, 1) := by decide +kernel
theorem dL_pay_20 : decode cL_pay 20 = .ok (.ireturn, 1) := by decide +kernel
theorem dL_sun_0 : decode cL_sun 0 = .ok (.aload 4, 2) := by decide +kernel
theorem dL_sun_2 : decode cL_sun 2 = .ok (.iconst 0, 1) := by decide +kernel
theorem dL_sun_3 : decode cL_sun 3 = .ok (.aload_n 0, 1) := by decide +kernel
theorem dL_sun_4 : decode cL_sun 4 = .ok (.iload_n 1, 1) := by decide +kernel
theorem dL_sun_5 : decode cL_sun 5 = .ok (.iload_n 2, 1) := by decide +kernel
theorem dL_sun_6 : decode cL_sun 6 = .ok (.iload_n 3, 1) := by decide +kernel
theorem dL_sun_7 : decode cL_sun 7 = .ok (.invokevirtual 78, 3) := by decide +kernel
theorem dL_sun_10 : decode cL_sun 10 = .ok (.i2l, 1) := by decide +kernel
theorem dL_sun_11 : decode cL_sun 11 = .ok (.lastore, 1) := by decide +kernel
theorem dL_sun_12 : decode cL_sun 12 = .ok (.goto 11, 3) := by decide +kernel
theorem dL_sun_15 : decode cL_sun 15 = .ok (.astore 5, 2) := by decide +kernel
theorem dL_sun_17 : decode cL_sun 17 = .ok (.iconst 1, 1) := by decide +kernel
theorem dL_sun_18 : decode cL_sun 18 = .ok (.ireturn, 1) := by decide +kernel
theorem dL_sun_19 : decode cL_sun 19 = .ok (.astore 5, 2) := by decide +kernel
theorem dL_sun_21 : decode cL_sun 21 = .ok (.iconst 2, 1) := by decide +kernel
theorem dL_sun_22 : decode cL_sun 22 = .ok (.ireturn, 1) := by decide +kernel
theorem dL_sun_23 : decode cL_sun 23 = .ok (.iconst 0, 1) := by decide +kernel
theorem dL_sun_24 : decode cL_sun 24 = .ok (.ireturn, 1) := by decide +kernel
theorem dL_richest_0 : decode cL_richest 0 = .ok (.aload_n 2, 1) := by decide +kernel
theorem dL_richest_1 : decode cL_richest 1 = .ok (.iconst 0, 1) := by decide +kernel
theorem dL_richest_2 : decode cL_richest 2 = .ok (.aload_n 0, 1) := by decide +kernel
theorem dL_richest_3 : decode cL_richest 3 = .ok (.iload_n 1, 1) := by decide +kernel
theorem dL_richest_4 : decode cL_richest 4 = .ok (.invokevirtual 81, 3) := by decide +kernel
theorem dL_richest_7 : decode cL_richest 7 = .ok (.i2l, 1) := by decide +kernel
theorem dL_richest_8 : decode cL_richest 8 = .ok (.lastore, 1) := by decide +kernel
theorem dL_richest_9 : decode cL_richest 9 = .ok (.goto 6, 3) := by decide +kernel
theorem dL_richest_12 : decode cL_richest 12 = .ok (.astore_n 3, 1) := by decide +kernel
theorem dL_richest_13 : decode cL_richest 13 = .ok (.iconst 1, 1) := by decide +kernel
theorem dL_richest_14 : decode cL_richest 14 = .ok (.ireturn, 1) := by decide +kernel
theorem dL_richest_15 : decode cL_richest 15 = .ok (.iconst 0, 1) := by decide +kernel
theorem dL_richest_16 : decode cL_richest 16 = .ok (.ireturn, 1) := by decide +kernel
theorem dL_offer_0 : decode cL_offer 0 = .ok (.aload_n 3, 1) := by decide +kernel
theorem dL_offer_1 : decode cL_offer 1 = .ok (.iconst 0, 1) := by decide +kernel
theorem dL_offer_2 : decode cL_offer 2 = .ok (.aload_n 0, 1) := by decide +kernel
theorem dL_offer_3 : decode cL_offer 3 = .ok (.iload_n 1, 1) := by decide +kernel
theorem dL_offer_4 : decode cL_offer 4 = .ok (.iload_n 2, 1) := by decide +kernel
theorem dL_offer_5 : decode cL_offer 5 = .ok (.invokevirtual 84, 3) := by decide +kernel
theorem dL_offer_8 : decode cL_offer 8 = .ok (.i2l, 1) := by decide +kernel
theorem dL_offer_9 : decode cL_offer 9 = .ok (.lastore, 1) := by decide +kernel
theorem dL_offer_10 : decode cL_offer 10 = .ok (.goto 11, 3) := by decide +kernel
theorem dL_offer_13 : decode cL_offer 13 = .ok (.astore 4, 2) := by decide +kernel
theorem dL_offer_15 : decode cL_offer 15 = .ok (.iconst 1, 1) := by decide +kernel
theorem dL_offer_16 : decode cL_offer 16 = .ok (.ireturn, 1) := by decide +kernel
theorem dL_offer_17 : decode cL_offer 17 = .ok (.astore 4, 2) := by decide +kernel
theorem dL_offer_19 : decode cL_offer 19 = .ok (.iconst 2, 1) := by decide +kernel
theorem dL_offer_20 : decode cL_offer 20 = .ok (.ireturn, 1) := by decide +kernel
theorem dL_offer_21 : decode cL_offer 21 = .ok (.iconst 0, 1) := by decide +kernel
theorem dL_offer_22 : decode cL_offer 22 = .ok (.ireturn, 1) := by decide +kernel
theorem dL_lost_0 : decode cL_lost 0 = .ok (.aload_n 3, 1) := by decide +kernel
theorem dL_lost_1 : decode cL_lost 1 = .ok (.iconst 0, 1) := by decide +kernel
theorem dL_lost_2 : decode cL_lost 2 = .ok (.aload_n 0, 1) := by decide +kernel
theorem dL_lost_3 : decode cL_lost 3 = .ok (.iload_n 1, 1) := by decide +kernel
theorem dL_lost_4 : decode cL_lost 4 = .ok (.iload_n 2, 1) := by decide +kernel
theorem dL_lost_5 : decode cL_lost 5 = .ok (.invokevirtual 87, 3) := by decide +kernel
theorem dL_lost_8 : decode cL_lost 8 = .ok (.i2l, 1) := by decide +kernel
theorem dL_lost_9 : decode cL_lost 9 = .ok (.lastore, 1) := by decide +kernel
theorem dL_lost_10 : decode cL_lost 10 = .ok (.goto 7, 3) := by decide +kernel
theorem dL_lost_13 : decode cL_lost 13 = .ok (.astore 4, 2) := by decide +kernel
theorem dL_lost_15 : decode cL_lost 15 = .ok (.iconst 1, 1) := by decide +kernel
theorem dL_lost_16 : decode cL_lost 16 = .ok (.ireturn, 1) := by decide +kernel
theorem dL_lost_17 : decode cL_lost 17 = .ok (.iconst 0, 1) := by decide +kernel
theorem dL_lost_18 : decode cL_lost 18 = .ok (.ireturn, 1) := by decide +kernel
theorem dL_terrace_0 : decode cL_terrace 0 = .ok (.aload_n 2, 1) := by decide +kernel
theorem dL_terrace_1 : decode cL_terrace 1 = .ok (.iconst 0, 1) := by decide +kernel
theorem dL_terrace_2 : decode cL_terrace 2 = .ok (.aload_n 0, 1) := by decide +kernel
theorem dL_terrace_3 : decode cL_terrace 3 = .ok (.iload_n 1, 1) := by decide +kernel
theorem dL_terrace_4 : decode cL_terrace 4 = .ok (.invokevirtual 90, 3) := by decide +kernel
theorem dL_terrace_7 : decode cL_terrace 7 = .ok (.i2l, 1) := by decide +kernel
theorem dL_terrace_8 : decode cL_terrace 8 = .ok (.lastore, 1) := by decide +kernel
theorem dL_terrace_9 : decode cL_terrace 9 = .ok (.goto 6, 3) := by decide +kernel
theorem dL_terrace_12 : decode cL_terrace 12 = .ok (.astore_n 3, 1) := by decide +kernel
theorem dL_terrace_13 : decode cL_terrace 13 = .ok (.iconst 1, 1) := by decide +kernel
theorem dL_terrace_14 : decode cL_terrace 14 = .ok (.ireturn, 1) := by decide +kernel
theorem dL_terrace_15 : decode cL_terrace 15 = .ok (.iconst 0, 1) := by decide +kernel
theorem dL_terrace_16 : decode cL_terrace 16 = .ok (.ireturn, 1) := by decide +kernel
theorem dL_overlap_0 : decode cL_overlap 0 = .ok (.aload_n 3, 1) := by decide +kernel
theorem dL_overlap_1 : decode cL_overlap 1 = .ok (.iconst 0, 1) := by decide +kernel
theorem dL_overlap_2 : decode cL_overlap 2 = .ok (.aload_n 0, 1) := by decide +kernel
theorem dL_overlap_3 : decode cL_overlap 3 = .ok (.iload_n 1, 1) := by decide +kernel
theorem dL_overlap_4 : decode cL_overlap 4 = .ok (.iload_n 2, 1) := by decide +kernel
theorem dL_overlap_5 : decode cL_overlap 5 = .ok (.invokevirtual 93, 3) := by decide +kernel
theorem dL_overlap_8 : decode cL_overlap 8 = .ok (.i2l, 1) := by decide +kernel
theorem dL_overlap_9 : decode cL_overlap 9 = .ok (.lastore, 1) := by decide +kernel
theorem dL_overlap_10 : decode cL_overlap 10 = .ok (.goto 7, 3) := by decide +kernel
theorem dL_overlap_13 : decode cL_overlap 13 = .ok (.astore 4, 2) := by decide +kernel
theorem dL_overlap_15 : decode cL_overlap 15 = .ok (.iconst 1, 1) := by decide +kernel
theorem dL_overlap_16 : decode cL_overlap 16 = .ok (.ireturn, 1) := by decide +kernel
theorem dL_overlap_17 : decode cL_overlap 17 = .ok (.iconst 0, 1) := by decide +kernel
theorem dL_overlap_18 : decode cL_overlap 18 = .ok (.ireturn, 1) := by decide +kernel
theorem dL_vacant_0 : decode cL_vacant 0 = .ok (.aload_n 2, 1) := by decide +kernel
theorem dL_vacant_1 : decode cL_vacant 1 = .ok (.iconst 0, 1) := by decide +kernel
theorem dL_vacant_2 : decode cL_vacant 2 = .ok (.aload_n 0, 1) := by decide +kernel
theorem dL_vacant_3 : decode cL_vacant 3 = .ok (.iload_n 1, 1) := by decide +kernel
theorem dL_vacant_4 : decode cL_vacant 4 = .ok (.invokevirtual 96, 3) := by decide +kernel
theorem dL_vacant_7 : decode cL_vacant 7 = .ok (.i2l, 1) := by decide +kernel
theorem dL_vacant_8 : decode cL_vacant 8 = .ok (.lastore, 1) := by decide +kernel
theorem dL_vacant_9 : decode cL_vacant 9 = .ok (.goto 6, 3) := by decide +kernel
theorem dL_vacant_12 : decode cL_vacant 12 = .ok (.astore_n 3, 1) := by decide +kernel
theorem dL_vacant_13 : decode cL_vacant 13 = .ok (.iconst 1, 1) := by decide +kernel
theorem dL_vacant_14 : decode cL_vacant 14 = .ok (.ireturn, 1) := by decide +kernel
theorem dL_vacant_15 : decode cL_vacant 15 = .ok (.iconst 0, 1) := by decide +kernel
theorem dL_vacant_16 : decode cL_vacant 16 = .ok (.ireturn, 1) := by decide +kernel
theorem dL_needs_0 : decode cL_needs 0 = .ok (.aload_n 3, 1) := by decide +kernel
theorem dL_needs_1 : decode cL_needs 1 = .ok (.iconst 0, 1) := by decide +kernel
theorem dL_needs_2 : decode cL_needs 2 = .ok (.aload_n 0, 1) := by decide +kernel
theorem dL_needs_3 : decode cL_needs 3 = .ok (.iload_n 1, 1) := by decide +kernel
theorem dL_needs_4 : decode cL_needs 4 = .ok (.iload_n 2, 1) := by decide +kernel
theorem dL_needs_5 : decode cL_needs 5 = .ok (.invokevirtual 99, 3) := by decide +kernel
theorem dL_needs_8 : decode cL_needs 8 = .ok (.i2l, 1) := by decide +kernel
theorem dL_needs_9 : decode cL_needs 9 = .ok (.lastore, 1) := by decide +kernel
theorem dL_needs_10 : decode cL_needs 10 = .ok (.goto 7, 3) := by decide +kernel
theorem dL_needs_13 : decode cL_needs 13 = .ok (.astore 4, 2) := by decide +kernel
theorem dL_needs_15 : decode cL_needs 15 = .ok (.iconst 1, 1) := by decide +kernel
theorem dL_needs_16 : decode cL_needs 16 = .ok (.ireturn, 1) := by decide +kernel
theorem dL_needs_17 : decode cL_needs 17 = .ok (.iconst 0, 1) := by decide +kernel
theorem dL_needs_18 : decode cL_needs 18 = .ok (.ireturn, 1) := by decide +kernel
theorem dL_buyers_0 : decode cL_buyers 0 = .ok (.aload_n 3, 1) := by decide +kernel
theorem dL_buyers_1 : decode cL_buyers 1 = .ok (.iconst 0, 1) := by decide +kernel
theorem dL_buyers_2 : decode cL_buyers 2 = .ok (.aload_n 0, 1) := by decide +kernel
theorem dL_buyers_3 : decode cL_buyers 3 = .ok (.iload_n 1, 1) := by decide +kernel
theorem dL_buyers_4 : decode cL_buyers 4 = .ok (.iload_n 2, 1) := by decide +kernel
theorem dL_buyers_5 : decode cL_buyers 5 = .ok (.invokevirtual 102, 3) := by decide +kernel
theorem dL_buyers_8 : decode cL_buyers 8 = .ok (.i2l, 1) := by decide +kernel
theorem dL_buyers_9 : decode cL_buyers 9 = .ok (.lastore, 1) := by decide +kernel
theorem dL_buyers_10 : decode cL_buyers 10 = .ok (.goto 11, 3) := by decide +kernel
theorem dL_buyers_13 : decode cL_buyers 13 = .ok (.astore 4, 2) := by decide +kernel
theorem dL_buyers_15 : decode cL_buyers 15 = .ok (.iconst 1, 1) := by decide +kernel
theorem dL_buyers_16 : decode cL_buyers 16 = .ok (.ireturn, 1) := by decide +kernel
theorem dL_buyers_17 : decode cL_buyers 17 = .ok (.astore 4, 2) := by decide +kernel
theorem dL_buyers_19 : decode cL_buyers 19 = .ok (.iconst 2, 1) := by decide +kernel
theorem dL_buyers_20 : decode cL_buyers 20 = .ok (.ireturn, 1) := by decide +kernel
theorem dL_buyers_21 : decode cL_buyers 21 = .ok (.iconst 0, 1) := by decide +kernel
theorem dL_buyers_22 : decode cL_buyers 22 = .ok (.ireturn, 1) := by decide +kernel
theorem dL_affords_0 : decode cL_affords 0 = .ok (.aload_n 2, 1) := by decide +kernel
theorem dL_affords_1 : decode cL_affords 1 = .ok (.iconst 0, 1) := by decide +kernel
theorem dL_affords_2 : decode cL_affords 2 = .ok (.aload_n 0, 1) := by decide +kernel
theorem dL_affords_3 : decode cL_affords 3 = .ok (.iload_n 1, 1) := by decide +kernel
theorem dL_affords_4 : decode cL_affords 4 = .ok (.invokevirtual 105, 3) := by decide +kernel
theorem dL_affords_7 : decode cL_affords 7 = .ok (.i2l, 1) := by decide +kernel
theorem dL_affords_8 : decode cL_affords 8 = .ok (.lastore, 1) := by decide +kernel
theorem dL_affords_9 : decode cL_affords 9 = .ok (.goto 6, 3) := by decide +kernel
theorem dL_affords_12 : decode cL_affords 12 = .ok (.astore_n 3, 1) := by decide +kernel
theorem dL_affords_13 : decode cL_affords 13 = .ok (.iconst 1, 1) := by decide +kernel
theorem dL_affords_14 : decode cL_affords 14 = .ok (.ireturn, 1) := by decide +kernel
theorem dL_affords_15 : decode cL_affords 15 = .ok (.iconst 0, 1) := by decide +kernel
theorem dL_affords_16 : decode cL_affords 16 = .ok (.ireturn, 1) := by decide +kernel
theorem dL_front_0 : decode cL_front 0 = .ok (.aload 4, 2) := by decide +kernel
theorem dL_front_2 : decode cL_front 2 = .ok (.iconst 0, 1) := by decide +kernel
theorem dL_front_3 : decode cL_front 3 = .ok (.aload_n 0, 1) := by decide +kernel
theorem dL_front_4 : decode cL_front 4 = .ok (.iload_n 1, 1) := by decide +kernel
theorem dL_front_5 : decode cL_front 5 = .ok (.iload_n 2, 1) := by decide +kernel
theorem dL_front_6 : decode cL_front 6 = .ok (.iload_n 3, 1) := by decide +kernel
theorem dL_front_7 : decode cL_front 7 = .ok (.invokevirtual 108, 3) := by decide +kernel
theorem dL_front_10 : decode cL_front 10 = .ok (.i2l, 1) := by decide +kernel
theorem dL_front_11 : decode cL_front 11 = .ok (.lastore, 1) := by decide +kernel
theorem dL_front_12 : decode cL_front 12 = .ok (.goto 7, 3) := by decide +kernel
theorem dL_front_15 : decode cL_front 15 = .ok (.astore 5, 2) := by decide +kernel
theorem dL_front_17 : decode cL_front 17 = .ok (.iconst 1, 1) := by decide +kernel
theorem dL_front_18 : decode cL_front 18 = .ok (.ireturn, 1) := by decide +kernel
theorem dL_front_19 : decode cL_front 19 = .ok (.iconst 0, 1) := by decide +kernel
theorem dL_front_20 : decode cL_front 20 = .ok (.ireturn, 1) := by decide +kernel
theorem dL_closest_0 : decode cL_closest 0 = .ok (.aload_n 3, 1) := by decide +kernel
theorem dL_closest_1 : decode cL_closest 1 = .ok (.iconst 0, 1) := by decide +kernel
theorem dL_closest_2 : decode cL_closest 2 = .ok (.aload_n 0, 1) := by decide +kernel
theorem dL_closest_3 : decode cL_closest 3 = .ok (.iload_n 1, 1) := by decide +kernel
theorem dL_closest_4 : decode cL_closest 4 = .ok (.iload_n 2, 1) := by decide +kernel
theorem dL_closest_5 : decode cL_closest 5 = .ok (.invokevirtual 111, 3) := by decide +kernel
theorem dL_closest_8 : decode cL_closest 8 = .ok (.i2l, 1) := by decide +kernel
theorem dL_closest_9 : decode cL_closest 9 = .ok (.lastore, 1) := by decide +kernel
theorem dL_closest_10 : decode cL_closest 10 = .ok (.goto 11, 3) := by decide +kernel
theorem dL_closest_13 : decode cL_closest 13 = .ok (.astore 4, 2) := by decide +kernel
theorem dL_closest_15 : decode cL_closest 15 = .ok (.iconst 1, 1) := by decide +kernel
theorem dL_closest_16 : decode cL_closest 16 = .ok (.ireturn, 1) := by decide +kernel
theorem dL_closest_17 : decode cL_closest 17 = .ok (.astore 4, 2) := by decide +kernel
theorem dL_closest_19 : decode cL_closest 19 = .ok (.iconst 2, 1) := by decide +kernel
theorem dL_closest_20 : decode cL_closest 20 = .ok (.ireturn, 1) := by decide +kernel
theorem dL_closest_21 : decode cL_closest 21 = .ok (.iconst 0, 1) := by decide +kernel
theorem dL_closest_22 : decode cL_closest 22 = .ok (.ireturn, 1) := by decide +kernel
theorem dL_afternoon_0 : decode cL_afternoon 0 = .ok (.aload 5, 2) := by decide +kernel
theorem dL_afternoon_2 : decode cL_afternoon 2 = .ok (.iconst 0, 1) := by decide +kernel
theorem dL_afternoon_3 : decode cL_afternoon 3 = .ok (.aload_n 0, 1) := by decide +kernel
theorem dL_afternoon_4 : decode cL_afternoon 4 = .ok (.iload_n 1, 1) := by decide +kernel
theorem dL_afternoon_5 : decode cL_afternoon 5 = .ok (.iload_n 2, 1) := by decide +kernel
theorem dL_afternoon_6 : decode cL_afternoon 6 = .ok (.iload_n 3, 1) := by decide +kernel
theorem dL_afternoon_7 : decode cL_afternoon 7 = .ok (.iload 4, 2) := by decide +kernel
theorem dL_afternoon_9 : decode cL_afternoon 9 = .ok (.invokevirtual 114, 3) := by decide +kernel
theorem dL_afternoon_12 : decode cL_afternoon 12 = .ok (.i2l, 1) := by decide +kernel
theorem dL_afternoon_13 : decode cL_afternoon 13 = .ok (.lastore, 1) := by decide +kernel
theorem dL_afternoon_14 : decode cL_afternoon 14 = .ok (.goto 7, 3) := by decide +kernel
theorem dL_afternoon_17 : decode cL_afternoon 17 = .ok (.astore 6, 2) := by decide +kernel
theorem dL_afternoon_19 : decode cL_afternoon 19 = .ok (.iconst 1, 1) := by decide +kernel
theorem dL_afternoon_20 : decode cL_afternoon 20 = .ok (.ireturn, 1) := by decide +kernel
theorem dL_afternoon_21 : decode cL_afternoon 21 = .ok (.iconst 0, 1) := by decide +kernel
theorem dL_afternoon_22 : decode cL_afternoon 22 = .ok (.ireturn, 1) := by decide +kernel
theorem dL_span_0 : decode cL_span 0 = .ok (.aload 7, 2) := by decide +kernel
theorem dL_span_2 : decode cL_span 2 = .ok (.iconst 0, 1) := by decide +kernel
theorem dL_span_3 : decode cL_span 3 = .ok (.aload_n 0, 1) := by decide +kernel
theorem dL_span_4 : decode cL_span 4 = .ok (.iload_n 1, 1) := by decide +kernel
theorem dL_span_5 : decode cL_span 5 = .ok (.iload_n 2, 1) := by decide +kernel
theorem dL_span_6 : decode cL_span 6 = .ok (.iload_n 3, 1) := by decide +kernel
theorem dL_span_7 : decode cL_span 7 = .ok (.iload 4, 2) := by decide +kernel
theorem dL_span_9 : decode cL_span 9 = .ok (.iload 5, 2) := by decide +kernel
theorem dL_span_11 : decode cL_span 11 = .ok (.iload 6, 2) := by decide +kernel
theorem dL_span_13 : decode cL_span 13 = .ok (.invokevirtual 118, 3) := by decide +kernel
theorem dL_span_16 : decode cL_span 16 = .ok (.i2l, 1) := by decide +kernel
theorem dL_span_17 : decode cL_span 17 = .ok (.lastore, 1) := by decide +kernel
theorem dL_span_18 : decode cL_span 18 = .ok (.goto 7, 3) := by decide +kernel
theorem dL_span_21 : decode cL_span 21 = .ok (.astore 8, 2) := by decide +kernel
theorem dL_span_23 : decode cL_span 23 = .ok (.iconst 1, 1) := by decide +kernel
theorem dL_span_24 : decode cL_span 24 = .ok (.ireturn, 1) := by decide +kernel
theorem dL_span_25 : decode cL_span 25 = .ok (.iconst 0, 1) := by decide +kernel
theorem dL_span_26 : decode cL_span 26 = .ok (.ireturn, 1) := by decide +kernel
