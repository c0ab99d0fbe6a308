theorem dX0_init_0 : decode cX0_init 0 = .ok (.aload_n 0, 1) := by decide +kernel
theorem dX0_init_1 : decode cX0_init 1 = .ok (.invokespecial 3, 3) := by decide +kernel
theorem dX0_init_4 : decode cX0_init 4 = .ok (.aload_n 0, 1) := by decide +kernel
theorem dX0_init_5 : decode cX0_init 5 = .ok (.bipush 16, 2) := by decide +kernel
theorem dX0_init_7 : decode cX0_init 7 = .ok (.newarray .int, 2) := by decide +kernel
theorem dX0_init_9 : decode cX0_init 9 = .ok (.putfield 9, 3) := by decide +kernel
theorem dX0_init_12 : decode cX0_init 12 = .ok (.return_, 1) := by decide +kernel
theorem dX0_boatAt_0 : decode cX0_boatAt 0 = .ok (.iload_n 1, 1) := by decide +kernel
theorem dX0_boatAt_1 : decode cX0_boatAt 1 = .ok (.ifCond .lt 20, 3) := by decide +kernel
theorem dX0_boatAt_4 : decode cX0_boatAt 4 = .ok (.iload_n 1, 1) := by decide +kernel
theorem dX0_boatAt_5 : decode cX0_boatAt 5 = .ok (.aload_n 0, 1) := by decide +kernel
theorem dX0_boatAt_6 : decode cX0_boatAt 6 = .ok (.getfield 15, 3) := by decide +kernel
theorem dX0_boatAt_9 : decode cX0_boatAt 9 = .ok (.if_icmp .ge 12, 3) := by decide +kernel
theorem dX0_boatAt_12 : decode cX0_boatAt 12 = .ok (.aload_n 0, 1) := by decide +kernel
theorem dX0_boatAt_13 : decode cX0_boatAt 13 = .ok (.getfield 9, 3) := by decide +kernel
theorem dX0_boatAt_16 : decode cX0_boatAt 16 = .ok (.iload_n 1, 1) := by decide +kernel
theorem dX0_boatAt_17 : decode cX0_boatAt 17 = .ok (.iaload, 1) := by decide +kernel
theorem dX0_boatAt_18 : decode cX0_boatAt 18 = .ok (.goto 4, 3) := by decide +kernel
theorem dX0_boatAt_21 : decode cX0_boatAt 21 = .ok (.iconst (-1), 1) := by decide +kernel
theorem dX0_boatAt_22 : decode cX0_boatAt 22 = .ok (.ireturn, 1) := by decide +kernel
theorem dX0_append_0 : decode cX0_append 0 = .ok (.aload_n 0, 1) := by decide +kernel
theorem dX0_append_1 : decode cX0_append 1 = .ok (.getfield 15, 3) := by decide +kernel
theorem dX0_append_4 : decode cX0_append 4 = .ok (.bipush 16, 2) := by decide +kernel
theorem dX0_append_6 : decode cX0_append 6 = .ok (.if_icmp .ge 23, 3) := by decide +kernel
theorem dX0_append_9 : decode cX0_append 9 = .ok (.aload_n 0, 1) := by decide +kernel
theorem dX0_append_10 : decode cX0_append 10 = .ok (.getfield 9, 3) := by decide +kernel
theorem dX0_append_13 : decode cX0_append 13 = .ok (.aload_n 0, 1) := by decide +kernel
theorem dX0_append_14 : decode cX0_append 14 = .ok (.getfield 15, 3) := by decide +kernel
theorem dX0_append_17 : decode cX0_append 17 = .ok (.iload_n 1, 1) := by decide +kernel
theorem dX0_append_18 : decode cX0_append 18 = .ok (.iastore, 1) := by decide +kernel
theorem dX0_append_19 : decode cX0_append 19 = .ok (.aload_n 0, 1) := by decide +kernel
theorem dX0_append_20 : decode cX0_append 20 = .ok (.dup, 1) := by decide +kernel
theorem dX0_append_21 : decode cX0_append 21 = .ok (.getfield 15, 3) := by decide +kernel
theorem dX0_append_24 : decode cX0_append 24 = .ok (.iconst 1, 1) := by decide +kernel
theorem dX0_append_25 : decode cX0_append 25 = .ok (.iadd, 1) := by decide +kernel
theorem dX0_append_26 : decode cX0_append 26 = .ok (.putfield 15, 3) := by decide +kernel
theorem dX0_append_29 : decode cX0_append 29 = .ok (.return_, 1) := by decide +kernel
theorem dX0_placeOf_0 : decode cX0_placeOf 0 = .ok (.iconst 0, 1) := by decide +kernel
theorem dX0_placeOf_1 : decode cX0_placeOf 1 = .ok (.istore_n 2, 1) := by decide +kernel
theorem dX0_placeOf_2 : decode cX0_placeOf 2 = .ok (.iload_n 2, 1) := by decide +kernel
theorem dX0_placeOf_3 : decode cX0_placeOf 3 = .ok (.aload_n 0, 1) := by decide +kernel
theorem dX0_placeOf_4 : decode cX0_placeOf 4 = .ok (.getfield 15, 3) := by decide +kernel
theorem dX0_placeOf_7 : decode cX0_placeOf 7 = .ok (.if_icmp .ge 21, 3) := by decide +kernel
theorem dX0_placeOf_10 : decode cX0_placeOf 10 = .ok (.aload_n 0, 1) := by decide +kernel
theorem dX0_placeOf_11 : decode cX0_placeOf 11 = .ok (.getfield 9, 3) := by decide +kernel
theorem dX0_placeOf_14 : decode cX0_placeOf 14 = .ok (.iload_n 2, 1) := by decide +kernel
theorem dX0_placeOf_15 : decode cX0_placeOf 15 = .ok (.iaload, 1) := by decide +kernel
theorem dX0_placeOf_16 : decode cX0_placeOf 16 = .ok (.iload_n 1, 1) := by decide +kernel
theorem dX0_placeOf_17 : decode cX0_placeOf 17 = .ok (.if_icmp .ne 5, 3) := by decide +kernel
theorem dX0_placeOf_20 : decode cX0_placeOf 20 = .ok (.iload_n 2, 1) := by decide +kernel
theorem dX0_placeOf_21 : decode cX0_placeOf 21 = .ok (.ireturn, 1) := by decide +kernel
theorem dX0_placeOf_22 : decode cX0_placeOf 22 = .ok (.iinc 2 1, 3) := by decide +kernel
theorem dX0_placeOf_25 : decode cX0_placeOf 25 = .ok (.goto (-23), 3) := by decide +kernel
theorem dX0_placeOf_28 : decode cX0_placeOf 28 = .ok (.iconst (-1), 1) := by decide +kernel
theorem dX0_placeOf_29 : decode cX0_placeOf 29 = .ok (.ireturn, 1) := by decide +kernel
theorem dX0_removeAt_0 : decode cX0_removeAt 0 = .ok (.iload_n 1, 1) := by decide +kernel
theorem dX0_removeAt_1 : decode cX0_removeAt 1 = .ok (.ifCond .lt 11, 3) := by decide +kernel
theorem dX0_removeAt_4 : decode cX0_removeAt 4 = .ok (.iload_n 1, 1) := by decide +kernel
theorem dX0_removeAt_5 : decode cX0_removeAt 5 = .ok (.aload_n 0, 1) := by decide +kernel
theorem dX0_removeAt_6 : decode cX0_removeAt 6 = .ok (.getfield 15, 3) := by decide +kernel
theorem dX0_removeAt_9 : decode cX0_removeAt 9 = .ok (.if_icmp .lt 4, 3) := by decide +kernel
theorem dX0_removeAt_12 : decode cX0_removeAt 12 = .ok (.return_, 1) := by decide +kernel
theorem dX0_removeAt_13 : decode cX0_removeAt 13 = .ok (.aload_n 0, 1) := by decide +kernel
theorem dX0_removeAt_14 : decode cX0_removeAt 14 = .ok (.getfield 9, 3) := by decide +kernel
theorem dX0_removeAt_17 : decode cX0_removeAt 17 = .ok (.iload_n 1, 1) := by decide +kernel
theorem dX0_removeAt_18 : decode cX0_removeAt 18 = .ok (.iconst 1, 1) := by decide +kernel
theorem dX0_removeAt_19 : decode cX0_removeAt 19 = .ok (.iadd, 1) := by decide +kernel
theorem dX0_removeAt_20 : decode cX0_removeAt 20 = .ok (.aload_n 0, 1) := by decide +kernel
theorem dX0_removeAt_21 : decode cX0_removeAt 21 = .ok (.getfield 9, 3) := by decide +kernel
theorem dX0_removeAt_24 : decode cX0_removeAt 24 = .ok (.iload_n 1, 1) := by decide +kernel
theorem dX0_removeAt_25 : decode cX0_removeAt 25 = .ok (.aload_n 0, 1) := by decide +kernel
theorem dX0_removeAt_26 : decode cX0_removeAt 26 = .ok (.getfield 15, 3) := by decide +kernel
theorem dX0_removeAt_29 : decode cX0_removeAt 29 = .ok (.iload_n 1, 1) := by decide +kernel
theorem dX0_removeAt_30 : decode cX0_removeAt 30 = .ok (.isub, 1) := by decide +kernel
theorem dX0_removeAt_31 : decode cX0_removeAt 31 = .ok (.iconst 1, 1) := by decide +kernel
theorem dX0_removeAt_32 : decode cX0_removeAt 32 = .ok (.isub, 1) := by decide +kernel
theorem dX0_removeAt_33 : decode cX0_removeAt 33 = .ok (.invokestatic 19, 3) := by decide +kernel
theorem dX0_removeAt_36 : decode cX0_removeAt 36 = .ok (.aload_n 0, 1) := by decide +kernel
theorem dX0_removeAt_37 : decode cX0_removeAt 37 = .ok (.dup, 1) := by decide +kernel
theorem dX0_removeAt_38 : decode cX0_removeAt 38 = .ok (.getfield 15, 3) := by decide +kernel
theorem dX0_removeAt_41 : decode cX0_removeAt 41 = .ok (.iconst 1, 1) := by decide +kernel
theorem dX0_removeAt_42 : decode cX0_removeAt 42 = .ok (.isub, 1) := by decide +kernel
theorem dX0_removeAt_43 : decode cX0_removeAt 43 = .ok (.putfield 15, 3) := by decide +kernel
theorem dX0_removeAt_46 : decode cX0_removeAt 46 = .ok (.return_, 1) := by decide +kernel
theorem dX1_init_0 : decode cX1_init 0 = .ok (.aload_n 0, 1) := by decide +kernel
theorem dX1_init_1 : decode cX1_init 1 = .ok (.invokespecial 3, 3) := by decide +kernel
theorem dX1_init_4 : decode cX1_init 4 = .ok (.aload_n 0, 1) := by decide +kernel
theorem dX1_init_5 : decode cX1_init 5 = .ok (.iconst 1, 1) := by decide +kernel
theorem dX1_init_6 : decode cX1_init 6 = .ok (.putfield 9, 3) := by decide +kernel
theorem dX1_init_9 : decode cX1_init 9 = .ok (.aload_n 0, 1) := by decide +kernel
theorem dX1_init_10 : decode cX1_init 10 = .ok (.bipush 60, 2) := by decide +kernel
theorem dX1_init_12 : decode cX1_init 12 = .ok (.newarray .int, 2) := by decide +kernel
theorem dX1_init_14 : decode cX1_init 14 = .ok (.putfield 15, 3) := by decide +kernel
theorem dX1_init_17 : decode cX1_init 17 = .ok (.return_, 1) := by decide +kernel
set_option maxRecDepth 20000 in
theorem ggX1_renew_J7_fill_53178 : GoodIn wsX1_renew wsJ7_fill_53178 := goodIn_r _ [8] (by decide +kernel) (by decide +kernel)
set_option maxRecDepth 20000 in
theorem gX1_renew_J7_fill_53178 : GoodIn wsX1_renew (va_wsS RX1 26 yJ7_fill_53178 wsJ7_fill_53178) := goodIn_app (goodIn_of _ (by decide +kernel)) ggX1_renew_J7_fill_53178
theorem dX1_renew_0 : decode cX1_renew 0 = .ok (.aload_n 0, 1) := by decide +kernel
theorem dX1_renew_1 : decode cX1_renew 1 = .ok (.iconst 0, 1) := by decide +kernel
theorem dX1_renew_2 : decode cX1_renew 2 = .ok (.putfield 9, 3) := by decide +kernel
theorem dX1_renew_5 : decode cX1_renew 5 = .ok (.aload_n 0, 1) := by decide +kernel
theorem dX1_renew_6 : decode cX1_renew 6 = .ok (.iload_n 1, 1) := by decide +kernel
theorem dX1_renew_7 : decode cX1_renew 7 = .ok (.putfield 19, 3) := by decide +kernel
theorem dX1_renew_10 : decode cX1_renew 10 = .ok (.aload_n 0, 1) := by decide +kernel
theorem dX1_renew_11 : decode cX1_renew 11 = .ok (.iload_n 2, 1) := by decide +kernel
theorem dX1_renew_12 : decode cX1_renew 12 = .ok (.putfield 23, 3) := by decide +kernel
theorem dX1_renew_15 : decode cX1_renew 15 = .ok (.aload_n 0, 1) := by decide +kernel
theorem dX1_renew_16 : decode cX1_renew 16 = .ok (.getfield 15, 3) := by decide +kernel
theorem dX1_renew_19 : decode cX1_renew 19 = .ok (.iconst 0, 1) := by decide +kernel
theorem dX1_renew_20 : decode cX1_renew 20 = .ok (.invokestatic 26, 3) := by decide +kernel
theorem dX1_renew_23 : decode cX1_renew 23 = .ok (.return_, 1) := by decide +kernel
theorem dX1_faultAt_0 : decode cX1_faultAt 0 = .ok (.aload_n 0, 1) := by decide +kernel
theorem dX1_faultAt_1 : decode cX1_faultAt 1 = .ok (.getfield 9, 3) := by decide +kernel
theorem dX1_faultAt_4 : decode cX1_faultAt 4 = .ok (.ifCond .eq 5, 3) := by decide +kernel
theorem dX1_faultAt_7 : decode cX1_faultAt 7 = .ok (.iconst 1, 1) := by decide +kernel
theorem dX1_faultAt_8 : decode cX1_faultAt 8 = .ok (.ireturn, 1) := by decide +kernel
theorem dX1_faultAt_9 : decode cX1_faultAt 9 = .ok (.aload_n 0, 1) := by decide +kernel
theorem dX1_faultAt_10 : decode cX1_faultAt 10 = .ok (.getfield 19, 3) := by decide +kernel
theorem dX1_faultAt_13 : decode cX1_faultAt 13 = .ok (.iload_n 1, 1) := by decide +kernel
theorem dX1_faultAt_14 : decode cX1_faultAt 14 = .ok (.if_icmp .eq 5, 3) := by decide +kernel
theorem dX1_faultAt_17 : decode cX1_faultAt 17 = .ok (.iconst 3, 1) := by decide +kernel
theorem dX1_faultAt_18 : decode cX1_faultAt 18 = .ok (.ireturn, 1) := by decide +kernel
theorem dX1_faultAt_19 : decode cX1_faultAt 19 = .ok (.iload_n 2, 1) := by decide +kernel
theorem dX1_faultAt_20 : decode cX1_faultAt 20 = .ok (.ifCond .lt 11, 3) := by decide +kernel
theorem dX1_faultAt_23 : decode cX1_faultAt 23 = .ok (.iload_n 2, 1) := by decide +kernel
theorem dX1_faultAt_24 : decode cX1_faultAt 24 = .ok (.aload_n 0, 1) := by decide +kernel
theorem dX1_faultAt_25 : decode cX1_faultAt 25 = .ok (.getfield 23, 3) := by decide +kernel
theorem dX1_faultAt_28 : decode cX1_faultAt 28 = .ok (.if_icmp .lt 7, 3) := by decide +kernel
theorem dX1_faultAt_31 : decode cX1_faultAt 31 = .ok (.iconst 2, 1) := by decide +kernel
theorem dX1_faultAt_32 : decode cX1_faultAt 32 = .ok (.goto 4, 3) := by decide +kernel
theorem dX1_faultAt_35 : decode cX1_faultAt 35 = .ok (.iconst 0, 1) := by decide +kernel
theorem dX1_faultAt_36 : decode cX1_faultAt 36 = .ok (.ireturn, 1) := by decide +kernel
theorem dX1_hasSpan_0 : decode cX1_hasSpan 0 = .ok (.iload_n 1, 1) := by decide +kernel
theorem dX1_hasSpan_1 : decode cX1_hasSpan 1 = .ok (.ifCond .lt 21, 3) := by decide +kernel
theorem dX1_hasSpan_4 : decode cX1_hasSpan 4 = .ok (.iload_n 2, 1) := by decide +kernel
theorem dX1_hasSpan_5 : decode cX1_hasSpan 5 = .ok (.ifCond .lt 17, 3) := by decide +kernel
theorem dX1_hasSpan_8 : decode cX1_hasSpan 8 = .ok (.iload_n 2, 1) := by decide +kernel
theorem dX1_hasSpan_9 : decode cX1_hasSpan 9 = .ok (.aload_n 0, 1) := by decide +kernel
theorem dX1_hasSpan_10 : decode cX1_hasSpan 10 = .ok (.getfield 23, 3) := by decide +kernel
theorem dX1_hasSpan_13 : decode cX1_hasSpan 13 = .ok (.iload_n 1, 1) := by decide +kernel
theorem dX1_hasSpan_14 : decode cX1_hasSpan 14 = .ok (.isub, 1) := by decide +kernel
theorem dX1_hasSpan_15 : decode cX1_hasSpan 15 = .ok (.if_icmp .gt 7, 3) := by decide +kernel
theorem dX1_hasSpan_18 : decode cX1_hasSpan 18 = .ok (.iconst 1, 1) := by decide +kernel
theorem dX1_hasSpan_19 : decode cX1_hasSpan 19 = .ok (.goto 4, 3) := by decide +kernel
theorem dX1_hasSpan_22 : decode cX1_hasSpan 22 = .ok (.iconst 0, 1) := by decide +kernel
theorem dX1_hasSpan_23 : decode cX1_hasSpan 23 = .ok (.ireturn, 1) := by decide +kernel
theorem dX1_put_0 : decode cX1_put 0 = .ok (.aload_n 0, 1) := by decide +kernel
theorem dX1_put_1 : decode cX1_put 1 = .ok (.getfield 19, 3) := by decide +kernel
theorem dX1_put_4 : decode cX1_put 4 = .ok (.lookupswitch 50 #[(0, 28), (1, 39)], 28) := by decide +kernel
theorem dX1_put_32 : decode cX1_put 32 = .ok (.aload_n 0, 1) := by decide +kernel
theorem dX1_put_33 : decode cX1_put 33 = .ok (.getfield 15, 3) := by decide +kernel
theorem dX1_put_36 : decode cX1_put 36 = .ok (.iload_n 1, 1) := by decide +kernel
theorem dX1_put_37 : decode cX1_put 37 = .ok (.iload_n 2, 1) := by decide +kernel
theorem dX1_put_38 : decode cX1_put 38 = .ok (.i2b, 1) := by decide +kernel
theorem dX1_put_39 : decode cX1_put 39 = .ok (.iastore, 1) := by decide +kernel
theorem dX1_put_40 : decode cX1_put 40 = .ok (.goto 21, 3) := by decide +kernel
theorem dX1_put_43 : decode cX1_put 43 = .ok (.aload_n 0, 1) := by decide +kernel
theorem dX1_put_44 : decode cX1_put 44 = .ok (.getfield 15, 3) := by decide +kernel
theorem dX1_put_47 : decode cX1_put 47 = .ok (.iload_n 1, 1) := by decide +kernel
theorem dX1_put_48 : decode cX1_put 48 = .ok (.iload_n 2, 1) := by decide +kernel
theorem dX1_put_49 : decode cX1_put 49 = .ok (.i2s, 1) := by decide +kernel
theorem dX1_put_50 : decode cX1_put 50 = .ok (.iastore, 1) := by decide +kernel
theorem dX1_put_51 : decode cX1_put 51 = .ok (.goto 10, 3) := by decide +kernel
theorem dX1_put_54 : decode cX1_put 54 = .ok (.aload_n 0, 1) := by decide +kernel
theorem dX1_put_55 : decode cX1_put 55 = .ok (.getfield 15, 3) := by decide +kernel
theorem dX1_put_58 : decode cX1_put 58 = .ok (.iload_n 1, 1) := by decide +kernel
theorem dX1_put_59 : decode cX1_put 59 = .ok (.iload_n 2, 1) := by decide +kernel
theorem dX1_put_60 : decode cX1_put 60 = .ok (.iastore, 1) := by decide +kernel
theorem dX1_put_61 : decode cX1_put 61 = .ok (.return_, 1) := by decide +kernel
theorem dX2_init_0 : decode cX2_init 0 = .ok (.aload_n 0, 1) := by decide +kernel
theorem dX2_init_1 : decode cX2_init 1 = .ok (.invokespecial 3, 3) := by decide +kernel
theorem dX2_init_4 : decode cX2_init 4 = .ok (.aload_n 0, 1) := by decide +kernel
theorem dX2_init_5 : decode cX2_init 5 = .ok (.bipush 30, 2) := by decide +kernel
theorem dX2_init_7 : decode cX2_init 7 = .ok (.putfield 9, 3) := by decide +kernel
theorem dX2_init_10 : decode cX2_init 10 = .ok (.aload_n 0, 1) := by decide +kernel
theorem dX2_init_11 : decode cX2_init 11 = .ok (.iconst 4, 1) := by decide +kernel
theorem dX2_init_12 : decode cX2_init 12 = .ok (.newarray .int, 2) := by decide +kernel
theorem dX2_init_14 : decode cX2_init 14 = .ok (.putfield 15, 3) := by decide +kernel
theorem dX2_init_17 : decode cX2_init 17 = .ok (.aload_n 0, 1) := by decide +kernel
theorem dX2_init_18 : decode cX2_init 18 = .ok (.iconst 4, 1) := by decide +kernel
theorem dX2_init_19 : decode cX2_init 19 = .ok (.newarray .int, 2) := by decide +kernel
theorem dX2_init_21 : decode cX2_init 21 = .ok (.putfield 19, 3) := by decide +kernel
theorem dX2_init_24 : decode cX2_init 24 = .ok (.aload_n 0, 1) := by decide +kernel
theorem dX2_init_25 : decode cX2_init 25 = .ok (.iconst 4, 1) := by decide +kernel
theorem dX2_init_26 : decode cX2_init 26 = .ok (.newarray .int, 2) := by decide +kernel
theorem dX2_init_28 : decode cX2_init 28 = .ok (.putfield 22, 3) := by decide +kernel
theorem dX2_init_31 : decode cX2_init 31 = .ok (.aload_n 0, 1) := by decide +kernel
theorem dX2_init_32 : decode cX2_init 32 = .ok (.iconst 4, 1) := by decide +kernel
theorem dX2_init_33 : decode cX2_init 33 = .ok (.newarray .int, 2) := by decide +kernel
theorem dX2_init_35 : decode cX2_init 35 = .ok (.putfield 25, 3) := by decide +kernel
theorem dX2_init_38 : decode cX2_init 38 = .ok (.aload_n 0, 1) := by decide +kernel
theorem dX2_init_39 : decode cX2_init 39 = .ok (.iconst 4, 1) := by decide +kernel
theorem dX2_init_40 : decode cX2_init 40 = .ok (.newarray .int, 2) := by decide +kernel
theorem dX2_init_42 : decode cX2_init 42 = .ok (.putfield 28, 3) := by decide +kernel
theorem dX2_init_45 : decode cX2_init 45 = .ok (.aload_n 0, 1) := by decide +kernel
theorem dX2_init_46 : decode cX2_init 46 = .ok (.iconst 4, 1) := by decide +kernel
theorem dX2_init_47 : decode cX2_init 47 = .ok (.newarray .int, 2) := by decide +kernel
theorem dX2_init_49 : decode cX2_init 49 = .ok (.putfield 31, 3) := by decide +kernel
theorem dX2_init_52 : decode cX2_init 52 = .ok (.aload_n 0, 1) := by decide +kernel
theorem dX2_init_53 : decode cX2_init 53 = .ok (.bipush 60, 2) := by decide +kernel
theorem dX2_init_55 : decode cX2_init 55 = .ok (.newarray .int, 2) := by decide +kernel
theorem dX2_init_57 : decode cX2_init 57 = .ok (.putfield 34, 3) := by decide +kernel
theorem dX2_init_60 : decode cX2_init 60 = .ok (.aload_n 0, 1) := by decide +kernel
theorem dX2_init_61 : decode cX2_init 61 = .ok (.iconst 4, 1) := by decide +kernel
theorem dX2_init_62 : decode cX2_init 62 = .ok (.newarray .int, 2) := by decide +kernel
theorem dX2_init_64 : decode cX2_init 64 = .ok (.putfield 37, 3) := by decide +kernel
theorem dX2_init_67 : decode cX2_init 67 = .ok (.return_, 1) := by decide +kernel
theorem dX2_becomeLike_0 : decode cX2_becomeLike 0 = .ok (.aload_n 0, 1) := by decide +kernel
theorem dX2_becomeLike_1 : decode cX2_becomeLike 1 = .ok (.aload_n 1, 1) := by decide +kernel
theorem dX2_becomeLike_2 : decode cX2_becomeLike 2 = .ok (.getfield 9, 3) := by decide +kernel
theorem dX2_becomeLike_5 : decode cX2_becomeLike 5 = .ok (.putfield 9, 3) := by decide +kernel
theorem dX2_becomeLike_8 : decode cX2_becomeLike 8 = .ok (.aload_n 0, 1) := by decide +kernel
theorem dX2_becomeLike_9 : decode cX2_becomeLike 9 = .ok (.aload_n 1, 1) := by decide +kernel
theorem dX2_becomeLike_10 : decode cX2_becomeLike 10 = .ok (.getfield 40, 3) := by decide +kernel
theorem dX2_becomeLike_13 : decode cX2_becomeLike 13 = .ok (.putfield 40, 3) := by decide +kernel
theorem dX2_becomeLike_16 : decode cX2_becomeLike 16 = .ok (.aload_n 0, 1) := by decide +kernel
theorem dX2_becomeLike_17 : decode cX2_becomeLike 17 = .ok (.aload_n 1, 1) := by decide +kernel
theorem dX2_becomeLike_18 : decode cX2_becomeLike 18 = .ok (.getfield 43, 3) := by decide +kernel
theorem dX2_becomeLike_21 : decode cX2_becomeLike 21 = .ok (.putfield 43, 3) := by decide +kernel
theorem dX2_becomeLike_24 : decode cX2_becomeLike 24 = .ok (.aload_n 0, 1) := by decide +kernel
theorem dX2_becomeLike_25 : decode cX2_becomeLike 25 = .ok (.aload_n 1, 1) := by decide +kernel
theorem dX2_becomeLike_26 : decode cX2_becomeLike 26 = .ok (.getfield 46, 3) := by decide +kernel
theorem dX2_becomeLike_29 : decode cX2_becomeLike 29 = .ok (.putfield 46, 3) := by decide +kernel
theorem dX2_becomeLike_32 : decode cX2_becomeLike 32 = .ok (.aload_n 1, 1) := by decide +kernel
theorem dX2_becomeLike_33 : decode cX2_becomeLike 33 = .ok (.getfield 15, 3) := by decide +kernel
theorem dX2_becomeLike_36 : decode cX2_becomeLike 36 = .ok (.iconst 0, 1) := by decide +kernel
theorem dX2_becomeLike_37 : decode cX2_becomeLike 37 = .ok (.aload_n 0, 1) := by decide +kernel
theorem dX2_becomeLike_38 : decode cX2_becomeLike 38 = .ok (.getfield 15, 3) := by decide +kernel
theorem dX2_becomeLike_41 : decode cX2_becomeLike 41 = .ok (.iconst 0, 1) := by decide +kernel
theorem dX2_becomeLike_42 : decode cX2_becomeLike 42 = .ok (.iconst 4, 1) := by decide +kernel
theorem dX2_becomeLike_43 : decode cX2_becomeLike 43 = .ok (.invokestatic 49, 3) := by decide +kernel
theorem dX2_becomeLike_46 : decode cX2_becomeLike 46 = .ok (.aload_n 1, 1) := by decide +kernel
theorem dX2_becomeLike_47 : decode cX2_becomeLike 47 = .ok (.getfield 19, 3) := by decide +kernel
theorem dX2_becomeLike_50 : decode cX2_becomeLike 50 = .ok (.iconst 0, 1) := by decide +kernel
theorem dX2_becomeLike_51 : decode cX2_becomeLike 51 = .ok (.aload_n 0, 1) := by decide +kernel
theorem dX2_becomeLike_52 : decode cX2_becomeLike 52 = .ok (.getfield 19, 3) := by decide +kernel
theorem dX2_becomeLike_55 : decode cX2_becomeLike 55 = .ok (.iconst 0, 1) := by decide +kernel
theorem dX2_becomeLike_56 : decode cX2_becomeLike 56 = .ok (.iconst 4, 1) := by decide +kernel
theorem dX2_becomeLike_57 : decode cX2_becomeLike 57 = .ok (.invokestatic 49, 3) := by decide +kernel
theorem dX2_becomeLike_60 : decode cX2_becomeLike 60 = .ok (.aload_n 1, 1) := by decide +kernel
theorem dX2_becomeLike_61 : decode cX2_becomeLike 61 = .ok (.getfield 22, 3) := by decide +kernel
theorem dX2_becomeLike_64 : decode cX2_becomeLike 64 = .ok (.iconst 0, 1) := by decide +kernel
theorem dX2_becomeLike_65 : decode cX2_becomeLike 65 = .ok (.aload_n 0, 1) := by decide +kernel
theorem dX2_becomeLike_66 : decode cX2_becomeLike 66 = .ok (.getfield 22, 3) := by decide +kernel
theorem dX2_becomeLike_69 : decode cX2_becomeLike 69 = .ok (.iconst 0, 1) := by decide +kernel
theorem dX2_becomeLike_70 : decode cX2_becomeLike 70 = .ok (.iconst 4, 1) := by decide +kernel
theorem dX2_becomeLike_71 : decode cX2_becomeLike 71 = .ok (.invokestatic 49, 3) := by decide +kernel
theorem dX2_becomeLike_74 : decode cX2_becomeLike 74 = .ok (.aload_n 1, 1) := by decide +kernel
theorem dX2_becomeLike_75 : decode cX2_becomeLike 75 = .ok (.getfield 25, 3) := by decide +kernel
theorem dX2_becomeLike_78 : decode cX2_becomeLike 78 = .ok (.iconst 0, 1) := by decide +kernel
theorem dX2_becomeLike_79 : decode cX2_becomeLike 79 = .ok (.aload_n 0, 1) := by decide +kernel
theorem dX2_becomeLike_80 : decode cX2_becomeLike 80 = .ok (.getfield 25, 3) := by decide +kernel
theorem dX2_becomeLike_83 : decode cX2_becomeLike 83 = .ok (.iconst 0, 1) := by decide +kernel
theorem dX2_becomeLike_84 : decode cX2_becomeLike 84 = .ok (.iconst 4, 1) := by decide +kernel
theorem dX2_becomeLike_85 : decode cX2_becomeLike 85 = .ok (.invokestatic 49, 3) := by decide +kernel
theorem dX2_becomeLike_88 : decode cX2_becomeLike 88 = .ok (.aload_n 1, 1) := by decide +kernel
theorem dX2_becomeLike_89 : decode cX2_becomeLike 89 = .ok (.getfield 28, 3) := by decide +kernel
theorem dX2_becomeLike_92 : decode cX2_becomeLike 92 = .ok (.iconst 0, 1) := by decide +kernel
theorem dX2_becomeLike_93 : decode cX2_becomeLike 93 = .ok (.aload_n 0, 1) := by decide +kernel
theorem dX2_becomeLike_94 : decode cX2_becomeLike 94 = .ok (.getfield 28, 3) := by decide +kernel
theorem dX2_becomeLike_97 : decode cX2_becomeLike 97 = .ok (.iconst 0, 1) := by decide +kernel
theorem dX2_becomeLike_98 : decode cX2_becomeLike 98 = .ok (.iconst 4, 1) := by decide +kernel
theorem dX2_becomeLike_99 : decode cX2_becomeLike 99 = .ok (.invokestatic 49, 3) := by decide +kernel
theorem dX2_becomeLike_102 : decode cX2_becomeLike 102 = .ok (.aload_n 1, 1) := by decide +kernel
theorem dX2_becomeLike_103 : decode cX2_becomeLike 103 = .ok (.getfield 31, 3) := by decide +kernel
theorem dX2_becomeLike_106 : decode cX2_becomeLike 106 = .ok (.iconst 0, 1) := by decide +kernel
theorem dX2_becomeLike_107 : decode cX2_becomeLike 107 = .ok (.aload_n 0, 1) := by decide +kernel
theorem dX2_becomeLike_108 : decode cX2_becomeLike 108 = .ok (.getfield 31, 3) := by decide +kernel
theorem dX2_becomeLike_111 : decode cX2_becomeLike 111 = .ok (.iconst 0, 1) := by decide +kernel
theorem dX2_becomeLike_112 : decode cX2_becomeLike 112 = .ok (.iconst 4, 1) := by decide +kernel
theorem dX2_becomeLike_113 : decode cX2_becomeLike 113 = .ok (.invokestatic 49, 3) := by decide +kernel
theorem dX2_becomeLike_116 : decode cX2_becomeLike 116 = .ok (.return_, 1) := by decide +kernel
set_option maxRecDepth 20000 in
theorem ggX2_addBasin_X2_riseOf : GoodIn wsX2_addBasin wsX2_riseOf := goodIn_r _ [11] (by decide +kernel) (by decide +kernel)
set_option maxRecDepth 20000 in
theorem gX2_addBasin_X2_riseOf : GoodIn wsX2_addBasin (va_wsS RX2 55 yX2_riseOf wsX2_riseOf) := goodIn_app (goodIn_of _ (by decide +kernel)) ggX2_addBasin_X2_riseOf
theorem dX2_addBasin_0 : decode cX2_addBasin 0 = .ok (.aload_n 0, 1) := by decide +kernel
theorem dX2_addBasin_1 : decode cX2_addBasin 1 = .ok (.getfield 43, 3) := by decide +kernel
theorem dX2_addBasin_4 : decode cX2_addBasin 4 = .ok (.istore 4, 2) := by decide +kernel
theorem dX2_addBasin_6 : decode cX2_addBasin 6 = .ok (.iload 4, 2) := by decide +kernel
theorem dX2_addBasin_8 : decode cX2_addBasin 8 = .ok (.iconst 4, 1) := by decide +kernel
theorem dX2_addBasin_9 : decode cX2_addBasin 9 = .ok (.if_icmp .lt 4, 3) := by decide +kernel
theorem dX2_addBasin_12 : decode cX2_addBasin 12 = .ok (.return_, 1) := by decide +kernel
theorem dX2_addBasin_13 : decode cX2_addBasin 13 = .ok (.aload_n 0, 1) := by decide +kernel
theorem dX2_addBasin_14 : decode cX2_addBasin 14 = .ok (.getfield 15, 3) := by decide +kernel
theorem dX2_addBasin_17 : decode cX2_addBasin 17 = .ok (.iload 4, 2) := by decide +kernel
theorem dX2_addBasin_19 : decode cX2_addBasin 19 = .ok (.iload_n 1, 1) := by decide +kernel
theorem dX2_addBasin_20 : decode cX2_addBasin 20 = .ok (.iastore, 1) := by decide +kernel
theorem dX2_addBasin_21 : decode cX2_addBasin 21 = .ok (.aload_n 0, 1) := by decide +kernel
theorem dX2_addBasin_22 : decode cX2_addBasin 22 = .ok (.getfield 19, 3) := by decide +kernel
theorem dX2_addBasin_25 : decode cX2_addBasin 25 = .ok (.iload 4, 2) := by decide +kernel
theorem dX2_addBasin_27 : decode cX2_addBasin 27 = .ok (.iload_n 2, 1) := by decide +kernel
theorem dX2_addBasin_28 : decode cX2_addBasin 28 = .ok (.iastore, 1) := by decide +kernel
theorem dX2_addBasin_29 : decode cX2_addBasin 29 = .ok (.aload_n 0, 1) := by decide +kernel
theorem dX2_addBasin_30 : decode cX2_addBasin 30 = .ok (.getfield 22, 3) := by decide +kernel
theorem dX2_addBasin_33 : decode cX2_addBasin 33 = .ok (.iload 4, 2) := by decide +kernel
theorem dX2_addBasin_35 : decode cX2_addBasin 35 = .ok (.iload_n 3, 1) := by decide +kernel
theorem dX2_addBasin_36 : decode cX2_addBasin 36 = .ok (.iastore, 1) := by decide +kernel
theorem dX2_addBasin_37 : decode cX2_addBasin 37 = .ok (.aload_n 0, 1) := by decide +kernel
theorem dX2_addBasin_38 : decode cX2_addBasin 38 = .ok (.getfield 25, 3) := by decide +kernel
theorem dX2_addBasin_41 : decode cX2_addBasin 41 = .ok (.iload 4, 2) := by decide +kernel
theorem dX2_addBasin_43 : decode cX2_addBasin 43 = .ok (.iload_n 3, 1) := by decide +kernel
theorem dX2_addBasin_44 : decode cX2_addBasin 44 = .ok (.invokestatic 55, 3) := by decide +kernel
theorem dX2_addBasin_47 : decode cX2_addBasin 47 = .ok (.iastore, 1) := by decide +kernel
theorem dX2_addBasin_48 : decode cX2_addBasin 48 = .ok (.aload_n 0, 1) := by decide +kernel
theorem dX2_addBasin_49 : decode cX2_addBasin 49 = .ok (.getfield 28, 3) := by decide +kernel
theorem dX2_addBasin_52 : decode cX2_addBasin 52 = .ok (.iload 4, 2) := by decide +kernel
theorem dX2_addBasin_54 : decode cX2_addBasin 54 = .ok (.iconst 0, 1) := by decide +kernel
theorem dX2_addBasin_55 : decode cX2_addBasin 55 = .ok (.iastore, 1) := by decide +kernel
theorem dX2_addBasin_56 : decode cX2_addBasin 56 = .ok (.aload_n 0, 1) := by decide +kernel
theorem dX2_addBasin_57 : decode cX2_addBasin 57 = .ok (.getfield 31, 3) := by decide +kernel
theorem dX2_addBasin_60 : decode cX2_addBasin 60 = .ok (.iload 4, 2) := by decide +kernel
theorem dX2_addBasin_62 : decode cX2_addBasin 62 = .ok (.iconst 0, 1) := by decide +kernel
theorem dX2_addBasin_63 : decode cX2_addBasin 63 = .ok (.iastore, 1) := by decide +kernel
theorem dX2_addBasin_64 : decode cX2_addBasin 64 = .ok (.aload_n 0, 1) := by decide +kernel
theorem dX2_addBasin_65 : decode cX2_addBasin 65 = .ok (.dup, 1) := by decide +kernel
theorem dX2_addBasin_66 : decode cX2_addBasin 66 = .ok (.getfield 43, 3) := by decide +kernel
theorem dX2_addBasin_69 : decode cX2_addBasin 69 = .ok (.iconst 1, 1) := by decide +kernel
theorem dX2_addBasin_70 : decode cX2_addBasin 70 = .ok (.iadd, 1) := by decide +kernel
theorem dX2_addBasin_71 : decode cX2_addBasin 71 = .ok (.putfield 43, 3) := by decide +kernel
theorem dX2_addBasin_74 : decode cX2_addBasin 74 = .ok (.return_, 1) := by decide +kernel
theorem dX2_riseOf_0 : decode cX2_riseOf 0 = .ok (.iload_n 0, 1) := by decide +kernel
theorem dX2_riseOf_1 : decode cX2_riseOf 1 = .ok (.lookupswitch 32 #[(1, 27), (2, 30)], 27) := by decide +kernel
theorem dX2_riseOf_28 : decode cX2_riseOf 28 = .ok (.bipush 6, 2) := by decide +kernel
theorem dX2_riseOf_30 : decode cX2_riseOf 30 = .ok (.ireturn, 1) := by decide +kernel
theorem dX2_riseOf_31 : decode cX2_riseOf 31 = .ok (.iconst 3, 1) := by decide +kernel
theorem dX2_riseOf_32 : decode cX2_riseOf 32 = .ok (.ireturn, 1) := by decide +kernel
theorem dX2_riseOf_33 : decode cX2_riseOf 33 = .ok (.iconst 2, 1) := by decide +kernel
theorem dX2_riseOf_34 : decode cX2_riseOf 34 = .ok (.ireturn, 1) := by decide +kernel
theorem dX2_isOut_0 : decode cX2_isOut 0 = .ok (.aload_n 0, 1) := by decide +kernel
theorem dX2_isOut_1 : decode cX2_isOut 1 = .ok (.getfield 46, 3) := by decide +kernel
theorem dX2_isOut_4 : decode cX2_isOut 4 = .ok (.iload_n 1, 1) := by decide +kernel
theorem dX2_isOut_5 : decode cX2_isOut 5 = .ok (.ishr, 1) := by decide +kernel
theorem dX2_isOut_6 : decode cX2_isOut 6 = .ok (.iconst 1, 1) := by decide +kernel
theorem dX2_isOut_7 : decode cX2_isOut 7 = .ok (.iand, 1) := by decide +kernel
theorem dX2_isOut_8 : decode cX2_isOut 8 = .ok (.ifCond .eq 7, 3) := by decide +kernel
theorem dX2_isOut_11 : decode cX2_isOut 11 = .ok (.iconst 1, 1) := by decide +kernel
theorem dX2_isOut_12 : decode cX2_isOut 12 = .ok (.goto 4, 3) := by decide +kernel
theorem dX2_isOut_15 : decode cX2_isOut 15 = .ok (.iconst 0, 1) := by decide +kernel
theorem dX2_isOut_16 : decode cX2_isOut 16 = .ok (.ireturn, 1) := by decide +kernel
theorem dX2_levelHolding_0 : decode cX2_levelHolding 0 = .ok (.bipush 6, 2) := by decide +kernel
theorem dX2_levelHolding_2 : decode cX2_levelHolding 2 = .ok (.aload_n 0, 1) := by decide +kernel
theorem dX2_levelHolding_3 : decode cX2_levelHolding 3 = .ok (.getfield 15, 3) := by decide +kernel
theorem dX2_levelHolding_6 : decode cX2_levelHolding 6 = .ok (.iload_n 1, 1) := by decide +kernel
theorem dX2_levelHolding_7 : decode cX2_levelHolding 7 = .ok (.iaload, 1) := by decide +kernel
theorem dX2_levelHolding_8 : decode cX2_levelHolding 8 = .ok (.imul, 1) := by decide +kernel
theorem dX2_levelHolding_9 : decode cX2_levelHolding 9 = .ok (.aload_n 0, 1) := by decide +kernel
theorem dX2_levelHolding_10 : decode cX2_levelHolding 10 = .ok (.getfield 25, 3) := by decide +kernel
theorem dX2_levelHolding_13 : decode cX2_levelHolding 13 = .ok (.iload_n 1, 1) := by decide +kernel
theorem dX2_levelHolding_14 : decode cX2_levelHolding 14 = .ok (.iaload, 1) := by decide +kernel
theorem dX2_levelHolding_15 : decode cX2_levelHolding 15 = .ok (.iload_n 2, 1) := by decide +kernel
theorem dX2_levelHolding_16 : decode cX2_levelHolding 16 = .ok (.imul, 1) := by decide +kernel
theorem dX2_levelHolding_17 : decode cX2_levelHolding 17 = .ok (.iadd, 1) := by decide +kernel
theorem dX2_levelHolding_18 : decode cX2_levelHolding 18 = .ok (.ireturn, 1) := by decide +kernel
theorem dX2_heldInAll_0 : decode cX2_heldInAll 0 = .ok (.iconst 0, 1) := by decide +kernel
theorem dX2_heldInAll_1 : decode cX2_heldInAll 1 = .ok (.istore_n 1, 1) := by decide +kernel
theorem dX2_heldInAll_2 : decode cX2_heldInAll 2 = .ok (.iconst 0, 1) := by decide +kernel
theorem dX2_heldInAll_3 : decode cX2_heldInAll 3 = .ok (.istore_n 2, 1) := by decide +kernel
theorem dX2_heldInAll_4 : decode cX2_heldInAll 4 = .ok (.iload_n 2, 1) := by decide +kernel
theorem dX2_heldInAll_5 : decode cX2_heldInAll 5 = .ok (.aload_n 0, 1) := by decide +kernel
theorem dX2_heldInAll_6 : decode cX2_heldInAll 6 = .ok (.getfield 43, 3) := by decide +kernel
theorem dX2_heldInAll_9 : decode cX2_heldInAll 9 = .ok (.if_icmp .ge 18, 3) := by decide +kernel
theorem dX2_heldInAll_12 : decode cX2_heldInAll 12 = .ok (.iload_n 1, 1) := by decide +kernel
theorem dX2_heldInAll_13 : decode cX2_heldInAll 13 = .ok (.aload_n 0, 1) := by decide +kernel
theorem dX2_heldInAll_14 : decode cX2_heldInAll 14 = .ok (.getfield 31, 3) := by decide +kernel
theorem dX2_heldInAll_17 : decode cX2_heldInAll 17 = .ok (.iload_n 2, 1) := by decide +kernel
theorem dX2_heldInAll_18 : decode cX2_heldInAll 18 = .ok (.iaload, 1) := by decide +kernel
theorem dX2_heldInAll_19 : decode cX2_heldInAll 19 = .ok (.iadd, 1) := by decide +kernel
theorem dX2_heldInAll_20 : decode cX2_heldInAll 20 = .ok (.istore_n 1, 1) := by decide +kernel
theorem dX2_heldInAll_21 : decode cX2_heldInAll 21 = .ok (.iinc 2 1, 3) := by decide +kernel
theorem dX2_heldInAll_24 : decode cX2_heldInAll 24 = .ok (.goto (-20), 3) := by decide +kernel
theorem dX2_heldInAll_27 : decode cX2_heldInAll 27 = .ok (.iload_n 1, 1) := by decide +kernel
theorem dX2_heldInAll_28 : decode cX2_heldInAll 28 = .ok (.ireturn, 1) := by decide +kernel
set_option maxRecDepth 20000 in
theorem ggX2_drawnBy_X2_makeTurn : GoodIn wsX2_drawnBy wsX2_makeTurn := goodIn_r _ [7, 1, 8, 2, 9, 10, 11, 12, 13, 14, 15, 16, 17, 18, 6, 19, 20, 21, 22, 23, 24, 25, 26, 27, 28, 29, 30, 31, 32, 33, 34, 35, 36, 37, 38, 39, 40, 41, 42, 43, 44, 45, 46, 47, 48, 49, 50, 51, 52, 53, 54, 55, 56, 57, 58, 59, 60] (by decide +kernel) (by decide +kernel)
set_option maxRecDepth 20000 in
theorem gX2_drawnBy_X2_makeTurn : GoodIn wsX2_drawnBy (wsV RX2 59 RX2 yX2_makeTurn wsX2_makeTurn) := goodIn_app (goodIn_of _ (by decide +kernel)) ggX2_drawnBy_X2_makeTurn
theorem dX2_drawnBy_0 : decode cX2_drawnBy 0 = .ok (.iconst 0, 1) := by decide +kernel
theorem dX2_drawnBy_1 : decode cX2_drawnBy 1 = .ok (.istore_n 3, 1) := by decide +kernel
theorem dX2_drawnBy_2 : decode cX2_drawnBy 2 = .ok (.iconst 0, 1) := by decide +kernel
theorem dX2_drawnBy_3 : decode cX2_drawnBy 3 = .ok (.istore 4, 2) := by decide +kernel
theorem dX2_drawnBy_5 : decode cX2_drawnBy 5 = .ok (.iload 4, 2) := by decide +kernel
theorem dX2_drawnBy_7 : decode cX2_drawnBy 7 = .ok (.iload_n 1, 1) := by decide +kernel
theorem dX2_drawnBy_8 : decode cX2_drawnBy 8 = .ok (.if_icmp .ge 44, 3) := by decide +kernel
theorem dX2_drawnBy_11 : decode cX2_drawnBy 11 = .ok (.iload_n 3, 1) := by decide +kernel
theorem dX2_drawnBy_12 : decode cX2_drawnBy 12 = .ok (.iload_n 2, 1) := by decide +kernel
theorem dX2_drawnBy_13 : decode cX2_drawnBy 13 = .ok (.if_icmp .ge 39, 3) := by decide +kernel
theorem dX2_drawnBy_16 : decode cX2_drawnBy 16 = .ok (.aload_n 0, 1) := by decide +kernel
theorem dX2_drawnBy_17 : decode cX2_drawnBy 17 = .ok (.getfield 40, 3) := by decide +kernel
theorem dX2_drawnBy_20 : decode cX2_drawnBy 20 = .ok (.ifCond .ne 7, 3) := by decide +kernel
theorem dX2_drawnBy_23 : decode cX2_drawnBy 23 = .ok (.iconst 1, 1) := by decide +kernel
theorem dX2_drawnBy_24 : decode cX2_drawnBy 24 = .ok (.goto 4, 3) := by decide +kernel
theorem dX2_drawnBy_27 : decode cX2_drawnBy 27 = .ok (.iconst 0, 1) := by decide +kernel
theorem dX2_drawnBy_28 : decode cX2_drawnBy 28 = .ok (.istore 5, 2) := by decide +kernel
theorem dX2_drawnBy_30 : decode cX2_drawnBy 30 = .ok (.aload_n 0, 1) := by decide +kernel
theorem dX2_drawnBy_31 : decode cX2_drawnBy 31 = .ok (.invokevirtual 59, 3) := by decide +kernel
theorem dX2_drawnBy_34 : decode cX2_drawnBy 34 = .ok (.iload 5, 2) := by decide +kernel
theorem dX2_drawnBy_36 : decode cX2_drawnBy 36 = .ok (.ifCond .eq 10, 3) := by decide +kernel
theorem dX2_drawnBy_39 : decode cX2_drawnBy 39 = .ok (.iload_n 3, 1) := by decide +kernel
theorem dX2_drawnBy_40 : decode cX2_drawnBy 40 = .ok (.aload_n 0, 1) := by decide +kernel
theorem dX2_drawnBy_41 : decode cX2_drawnBy 41 = .ok (.getfield 62, 3) := by decide +kernel
theorem dX2_drawnBy_44 : decode cX2_drawnBy 44 = .ok (.iadd, 1) := by decide +kernel
theorem dX2_drawnBy_45 : decode cX2_drawnBy 45 = .ok (.istore_n 3, 1) := by decide +kernel
theorem dX2_drawnBy_46 : decode cX2_drawnBy 46 = .ok (.iinc 4 1, 3) := by decide +kernel
theorem dX2_drawnBy_49 : decode cX2_drawnBy 49 = .ok (.goto (-44), 3) := by decide +kernel
theorem dX2_drawnBy_52 : decode cX2_drawnBy 52 = .ok (.iload_n 3, 1) := by decide +kernel
theorem dX2_drawnBy_53 : decode cX2_drawnBy 53 = .ok (.ireturn, 1) := by decide +kernel
set_option maxRecDepth 20000 in
theorem ggX2_makeTurn_J7_fill_53178 : GoodIn wsX2_makeTurn wsJ7_fill_53178 := goodIn_r _ [10] (by decide +kernel) (by decide +kernel)
set_option maxRecDepth 20000 in
theorem gX2_makeTurn_J7_fill_53178 : GoodIn wsX2_makeTurn (va_wsS RX2 65 yJ7_fill_53178 wsJ7_fill_53178) := goodIn_app (goodIn_of _ (by decide +kernel)) ggX2_makeTurn_J7_fill_53178
set_option maxRecDepth 20000 in
theorem ggX2_makeTurn_X2_basinToGive : GoodIn wsX2_makeTurn wsX2_basinToGive := goodIn_r _ [15, 16, 6, 17, 18, 19, 14, 20, 21, 22, 23, 24, 25, 26, 27, 43, 44, 45, 46, 47, 48, 49, 50, 51, 52, 53, 54, 55, 56] (by decide +kernel) (by decide +kernel)
set_option maxRecDepth 20000 in
theorem gX2_makeTurn_X2_basinToGive : GoodIn wsX2_makeTurn (wsV RX2 71 RX2 yX2_basinToGive wsX2_basinToGive) := goodIn_app (goodIn_of _ (by decide +kernel)) ggX2_makeTurn_X2_basinToGive
set_option maxRecDepth 20000 in
theorem ggX2_makeTurn_X2_basinToTake : GoodIn wsX2_makeTurn wsX2_basinToTake := goodIn_r _ [31, 16, 6, 32, 17, 18, 19, 14, 20, 21, 22, 23, 24, 25, 26, 27, 43, 44, 45, 46, 47, 48, 49, 50, 51, 52, 53, 54, 55, 56] (by decide +kernel) (by decide +kernel)
set_option maxRecDepth 20000 in
theorem gX2_makeTurn_X2_basinToTake : GoodIn wsX2_makeTurn (wsV RX2 74 RX2 yX2_basinToTake wsX2_basinToTake) := goodIn_app (goodIn_of _ (by decide +kernel)) ggX2_makeTurn_X2_basinToTake
set_option maxRecDepth 20000 in
theorem ggX2_makeTurn_X2_loseByLeaks : GoodIn wsX2_makeTurn wsX2_loseByLeaks := goodIn_r _ [36, 37, 16, 38, 6, 39, 40, 41, 42, 43, 44, 45, 46, 47, 48, 49, 50, 51, 52, 53, 54, 55, 56] (by decide +kernel) (by decide +kernel)
set_option maxRecDepth 20000 in
theorem gX2_makeTurn_X2_loseByLeaks : GoodIn wsX2_makeTurn (wsV RX2 77 RX2 yX2_loseByLeaks wsX2_loseByLeaks) := goodIn_app (goodIn_of _ (by decide +kernel)) ggX2_makeTurn_X2_loseByLeaks
theorem dX2_makeTurn_0 : decode cX2_makeTurn 0 = .ok (.aload_n 0, 1) := by decide +kernel
theorem dX2_makeTurn_1 : decode cX2_makeTurn 1 = .ok (.getfield 40, 3) := by decide +kernel
theorem dX2_makeTurn_4 : decode cX2_makeTurn 4 = .ok (.ifCond .ne 7, 3) := by decide +kernel
theorem dX2_makeTurn_7 : decode cX2_makeTurn 7 = .ok (.iconst 1, 1) := by decide +kernel
theorem dX2_makeTurn_8 : decode cX2_makeTurn 8 = .ok (.goto 4, 3) := by decide +kernel
theorem dX2_makeTurn_11 : decode cX2_makeTurn 11 = .ok (.iconst 0, 1) := by decide +kernel
theorem dX2_makeTurn_12 : decode cX2_makeTurn 12 = .ok (.istore_n 1, 1) := by decide +kernel
theorem dX2_makeTurn_13 : decode cX2_makeTurn 13 = .ok (.iload_n 1, 1) := by decide +kernel
theorem dX2_makeTurn_14 : decode cX2_makeTurn 14 = .ok (.ifCond .eq 7, 3) := by decide +kernel
theorem dX2_makeTurn_17 : decode cX2_makeTurn 17 = .ok (.iconst 1, 1) := by decide +kernel
theorem dX2_makeTurn_18 : decode cX2_makeTurn 18 = .ok (.goto 4, 3) := by decide +kernel
theorem dX2_makeTurn_21 : decode cX2_makeTurn 21 = .ok (.iconst (-1), 1) := by decide +kernel
theorem dX2_makeTurn_22 : decode cX2_makeTurn 22 = .ok (.istore_n 2, 1) := by decide +kernel
theorem dX2_makeTurn_23 : decode cX2_makeTurn 23 = .ok (.aload_n 0, 1) := by decide +kernel
theorem dX2_makeTurn_24 : decode cX2_makeTurn 24 = .ok (.getfield 37, 3) := by decide +kernel
theorem dX2_makeTurn_27 : decode cX2_makeTurn 27 = .ok (.iconst 0, 1) := by decide +kernel
theorem dX2_makeTurn_28 : decode cX2_makeTurn 28 = .ok (.invokestatic 65, 3) := by decide +kernel
theorem dX2_makeTurn_31 : decode cX2_makeTurn 31 = .ok (.aload_n 0, 1) := by decide +kernel
theorem dX2_makeTurn_32 : decode cX2_makeTurn 32 = .ok (.iconst 0, 1) := by decide +kernel
theorem dX2_makeTurn_33 : decode cX2_makeTurn 33 = .ok (.putfield 62, 3) := by decide +kernel
theorem dX2_makeTurn_36 : decode cX2_makeTurn 36 = .ok (.iconst 0, 1) := by decide +kernel
theorem dX2_makeTurn_37 : decode cX2_makeTurn 37 = .ok (.istore_n 3, 1) := by decide +kernel
theorem dX2_makeTurn_38 : decode cX2_makeTurn 38 = .ok (.iload_n 3, 1) := by decide +kernel
theorem dX2_makeTurn_39 : decode cX2_makeTurn 39 = .ok (.aload_n 0, 1) := by decide +kernel
theorem dX2_makeTurn_40 : decode cX2_makeTurn 40 = .ok (.getfield 9, 3) := by decide +kernel
theorem dX2_makeTurn_43 : decode cX2_makeTurn 43 = .ok (.if_icmp .ge 99, 3) := by decide +kernel
theorem dX2_makeTurn_46 : decode cX2_makeTurn 46 = .ok (.aload_n 0, 1) := by decide +kernel
theorem dX2_makeTurn_47 : decode cX2_makeTurn 47 = .ok (.dup, 1) := by decide +kernel
theorem dX2_makeTurn_48 : decode cX2_makeTurn 48 = .ok (.getfield 40, 3) := by decide +kernel
theorem dX2_makeTurn_51 : decode cX2_makeTurn 51 = .ok (.iload_n 2, 1) := by decide +kernel
theorem dX2_makeTurn_52 : decode cX2_makeTurn 52 = .ok (.iadd, 1) := by decide +kernel
theorem dX2_makeTurn_53 : decode cX2_makeTurn 53 = .ok (.putfield 40, 3) := by decide +kernel
theorem dX2_makeTurn_56 : decode cX2_makeTurn 56 = .ok (.iload_n 1, 1) := by decide +kernel
theorem dX2_makeTurn_57 : decode cX2_makeTurn 57 = .ok (.ifCond .eq 17, 3) := by decide +kernel
theorem dX2_makeTurn_60 : decode cX2_makeTurn 60 = .ok (.aload_n 0, 1) := by decide +kernel
theorem dX2_makeTurn_61 : decode cX2_makeTurn 61 = .ok (.bipush 6, 2) := by decide +kernel
theorem dX2_makeTurn_63 : decode cX2_makeTurn 63 = .ok (.aload_n 0, 1) := by decide +kernel
theorem dX2_makeTurn_64 : decode cX2_makeTurn 64 = .ok (.getfield 40, 3) := by decide +kernel
theorem dX2_makeTurn_67 : decode cX2_makeTurn 67 = .ok (.imul, 1) := by decide +kernel
theorem dX2_makeTurn_68 : decode cX2_makeTurn 68 = .ok (.invokevirtual 71, 3) := by decide +kernel
theorem dX2_makeTurn_71 : decode cX2_makeTurn 71 = .ok (.goto 14, 3) := by decide +kernel
theorem dX2_makeTurn_74 : decode cX2_makeTurn 74 = .ok (.aload_n 0, 1) := by decide +kernel
theorem dX2_makeTurn_75 : decode cX2_makeTurn 75 = .ok (.bipush 6, 2) := by decide +kernel
theorem dX2_makeTurn_77 : decode cX2_makeTurn 77 = .ok (.aload_n 0, 1) := by decide +kernel
theorem dX2_makeTurn_78 : decode cX2_makeTurn 78 = .ok (.getfield 40, 3) := by decide +kernel
theorem dX2_makeTurn_81 : decode cX2_makeTurn 81 = .ok (.imul, 1) := by decide +kernel
theorem dX2_makeTurn_82 : decode cX2_makeTurn 82 = .ok (.invokevirtual 74, 3) := by decide +kernel
theorem dX2_makeTurn_85 : decode cX2_makeTurn 85 = .ok (.istore 4, 2) := by decide +kernel
theorem dX2_makeTurn_87 : decode cX2_makeTurn 87 = .ok (.aload_n 0, 1) := by decide +kernel
theorem dX2_makeTurn_88 : decode cX2_makeTurn 88 = .ok (.getfield 34, 3) := by decide +kernel
theorem dX2_makeTurn_91 : decode cX2_makeTurn 91 = .ok (.iload_n 3, 1) := by decide +kernel
theorem dX2_makeTurn_92 : decode cX2_makeTurn 92 = .ok (.iload 4, 2) := by decide +kernel
theorem dX2_makeTurn_94 : decode cX2_makeTurn 94 = .ok (.iastore, 1) := by decide +kernel
theorem dX2_makeTurn_95 : decode cX2_makeTurn 95 = .ok (.iload 4, 2) := by decide +kernel
theorem dX2_makeTurn_97 : decode cX2_makeTurn 97 = .ok (.iconst (-1), 1) := by decide +kernel
theorem dX2_makeTurn_98 : decode cX2_makeTurn 98 = .ok (.if_icmp .ne 16, 3) := by decide +kernel
theorem dX2_makeTurn_101 : decode cX2_makeTurn 101 = .ok (.aload_n 0, 1) := by decide +kernel
theorem dX2_makeTurn_102 : decode cX2_makeTurn 102 = .ok (.dup, 1) := by decide +kernel
theorem dX2_makeTurn_103 : decode cX2_makeTurn 103 = .ok (.getfield 62, 3) := by decide +kernel
theorem dX2_makeTurn_106 : decode cX2_makeTurn 106 = .ok (.iconst 1, 1) := by decide +kernel
theorem dX2_makeTurn_107 : decode cX2_makeTurn 107 = .ok (.iadd, 1) := by decide +kernel
theorem dX2_makeTurn_108 : decode cX2_makeTurn 108 = .ok (.putfield 62, 3) := by decide +kernel
theorem dX2_makeTurn_111 : decode cX2_makeTurn 111 = .ok (.goto 25, 3) := by decide +kernel
theorem dX2_makeTurn_114 : decode cX2_makeTurn 114 = .ok (.aload_n 0, 1) := by decide +kernel
theorem dX2_makeTurn_115 : decode cX2_makeTurn 115 = .ok (.getfield 31, 3) := by decide +kernel
theorem dX2_makeTurn_118 : decode cX2_makeTurn 118 = .ok (.iload 4, 2) := by decide +kernel
theorem dX2_makeTurn_120 : decode cX2_makeTurn 120 = .ok (.dup2, 1) := by decide +kernel
theorem dX2_makeTurn_121 : decode cX2_makeTurn 121 = .ok (.iaload, 1) := by decide +kernel
theorem dX2_makeTurn_122 : decode cX2_makeTurn 122 = .ok (.iload_n 2, 1) := by decide +kernel
theorem dX2_makeTurn_123 : decode cX2_makeTurn 123 = .ok (.isub, 1) := by decide +kernel
theorem dX2_makeTurn_124 : decode cX2_makeTurn 124 = .ok (.iastore, 1) := by decide +kernel
theorem dX2_makeTurn_125 : decode cX2_makeTurn 125 = .ok (.aload_n 0, 1) := by decide +kernel
theorem dX2_makeTurn_126 : decode cX2_makeTurn 126 = .ok (.getfield 37, 3) := by decide +kernel
theorem dX2_makeTurn_129 : decode cX2_makeTurn 129 = .ok (.iload 4, 2) := by decide +kernel
theorem dX2_makeTurn_131 : decode cX2_makeTurn 131 = .ok (.dup2, 1) := by decide +kernel
theorem dX2_makeTurn_132 : decode cX2_makeTurn 132 = .ok (.iaload, 1) := by decide +kernel
theorem dX2_makeTurn_133 : decode cX2_makeTurn 133 = .ok (.iconst 1, 1) := by decide +kernel
theorem dX2_makeTurn_134 : decode cX2_makeTurn 134 = .ok (.iadd, 1) := by decide +kernel
theorem dX2_makeTurn_135 : decode cX2_makeTurn 135 = .ok (.iastore, 1) := by decide +kernel
theorem dX2_makeTurn_136 : decode cX2_makeTurn 136 = .ok (.iinc 3 1, 3) := by decide +kernel
theorem dX2_makeTurn_139 : decode cX2_makeTurn 139 = .ok (.goto (-101), 3) := by decide +kernel
theorem dX2_makeTurn_142 : decode cX2_makeTurn 142 = .ok (.aload_n 0, 1) := by decide +kernel
theorem dX2_makeTurn_143 : decode cX2_makeTurn 143 = .ok (.invokevirtual 77, 3) := by decide +kernel
theorem dX2_makeTurn_146 : decode cX2_makeTurn 146 = .ok (.return_, 1) := by decide +kernel
set_option maxRecDepth 20000 in
theorem ggX2_basinToGive_X2_isOut : GoodIn wsX2_basinToGive wsX2_isOut := goodIn_r _ [7, 8, 15, 16, 17, 18, 19, 20, 21, 22, 23, 24, 25, 26, 27, 28] (by decide +kernel) (by decide +kernel)
set_option maxRecDepth 20000 in
theorem gX2_basinToGive_X2_isOut : GoodIn wsX2_basinToGive (wsV RX2 80 RX2 yX2_isOut wsX2_isOut) := goodIn_app (goodIn_of _ (by decide +kernel)) ggX2_basinToGive_X2_isOut
set_option maxRecDepth 20000 in
theorem ggX2_basinToGive_X2_levelHolding : GoodIn wsX2_basinToGive wsX2_levelHolding := goodIn_r _ [12, 13, 14, 15, 16, 17, 18, 19, 20, 21, 22, 23, 24, 25, 26, 27, 28] (by decide +kernel) (by decide +kernel)
set_option maxRecDepth 20000 in
theorem gX2_basinToGive_X2_levelHolding : GoodIn wsX2_basinToGive (wsV RX2 84 RX2 yX2_levelHolding wsX2_levelHolding) := goodIn_app (goodIn_of _ (by decide +kernel)) ggX2_basinToGive_X2_levelHolding
theorem dX2_basinToGive_0 : decode cX2_basinToGive 0 = .ok (.iconst (-1), 1) := by decide +kernel
theorem dX2_basinToGive_1 : decode cX2_basinToGive 1 = .ok (.istore_n 2, 1) := by decide +kernel
theorem dX2_basinToGive_2 : decode cX2_basinToGive 2 = .ok (.iconst 0, 1) := by decide +kernel
theorem dX2_basinToGive_3 : decode cX2_basinToGive 3 = .ok (.istore_n 3, 1) := by decide +kernel
theorem dX2_basinToGive_4 : decode cX2_basinToGive 4 = .ok (.iconst 0, 1) := by decide +kernel
theorem dX2_basinToGive_5 : decode cX2_basinToGive 5 = .ok (.istore 4, 2) := by decide +kernel
theorem dX2_basinToGive_7 : decode cX2_basinToGive 7 = .ok (.iload 4, 2) := by decide +kernel
theorem dX2_basinToGive_9 : decode cX2_basinToGive 9 = .ok (.aload_n 0, 1) := by decide +kernel
theorem dX2_basinToGive_10 : decode cX2_basinToGive 10 = .ok (.getfield 43, 3) := by decide +kernel
theorem dX2_basinToGive_13 : decode cX2_basinToGive 13 = .ok (.if_icmp .ge 72, 3) := by decide +kernel
theorem dX2_basinToGive_16 : decode cX2_basinToGive 16 = .ok (.aload_n 0, 1) := by decide +kernel
theorem dX2_basinToGive_17 : decode cX2_basinToGive 17 = .ok (.iload 4, 2) := by decide +kernel
theorem dX2_basinToGive_19 : decode cX2_basinToGive 19 = .ok (.invokevirtual 80, 3) := by decide +kernel
theorem dX2_basinToGive_22 : decode cX2_basinToGive 22 = .ok (.ifCond .ne 57, 3) := by decide +kernel
theorem dX2_basinToGive_25 : decode cX2_basinToGive 25 = .ok (.aload_n 0, 1) := by decide +kernel
theorem dX2_basinToGive_26 : decode cX2_basinToGive 26 = .ok (.getfield 31, 3) := by decide +kernel
theorem dX2_basinToGive_29 : decode cX2_basinToGive 29 = .ok (.iload 4, 2) := by decide +kernel
theorem dX2_basinToGive_31 : decode cX2_basinToGive 31 = .ok (.iaload, 1) := by decide +kernel
theorem dX2_basinToGive_32 : decode cX2_basinToGive 32 = .ok (.iconst 1, 1) := by decide +kernel
theorem dX2_basinToGive_33 : decode cX2_basinToGive 33 = .ok (.if_icmp .ge 6, 3) := by decide +kernel
theorem dX2_basinToGive_36 : decode cX2_basinToGive 36 = .ok (.goto 43, 3) := by decide +kernel
theorem dX2_basinToGive_39 : decode cX2_basinToGive 39 = .ok (.aload_n 0, 1) := by decide +kernel
theorem dX2_basinToGive_40 : decode cX2_basinToGive 40 = .ok (.iload 4, 2) := by decide +kernel
theorem dX2_basinToGive_42 : decode cX2_basinToGive 42 = .ok (.aload_n 0, 1) := by decide +kernel
theorem dX2_basinToGive_43 : decode cX2_basinToGive 43 = .ok (.getfield 31, 3) := by decide +kernel
theorem dX2_basinToGive_46 : decode cX2_basinToGive 46 = .ok (.iload 4, 2) := by decide +kernel
theorem dX2_basinToGive_48 : decode cX2_basinToGive 48 = .ok (.iaload, 1) := by decide +kernel
theorem dX2_basinToGive_49 : decode cX2_basinToGive 49 = .ok (.iconst 1, 1) := by decide +kernel
theorem dX2_basinToGive_50 : decode cX2_basinToGive 50 = .ok (.isub, 1) := by decide +kernel
theorem dX2_basinToGive_51 : decode cX2_basinToGive 51 = .ok (.invokevirtual 84, 3) := by decide +kernel
theorem dX2_basinToGive_54 : decode cX2_basinToGive 54 = .ok (.istore 5, 2) := by decide +kernel
theorem dX2_basinToGive_56 : decode cX2_basinToGive 56 = .ok (.iload 5, 2) := by decide +kernel
theorem dX2_basinToGive_58 : decode cX2_basinToGive 58 = .ok (.iload_n 1, 1) := by decide +kernel
theorem dX2_basinToGive_59 : decode cX2_basinToGive 59 = .ok (.if_icmp .lt 20, 3) := by decide +kernel
theorem dX2_basinToGive_62 : decode cX2_basinToGive 62 = .ok (.iload_n 2, 1) := by decide +kernel
theorem dX2_basinToGive_63 : decode cX2_basinToGive 63 = .ok (.iconst (-1), 1) := by decide +kernel
theorem dX2_basinToGive_64 : decode cX2_basinToGive 64 = .ok (.if_icmp .eq 9, 3) := by decide +kernel
theorem dX2_basinToGive_67 : decode cX2_basinToGive 67 = .ok (.iload 5, 2) := by decide +kernel
theorem dX2_basinToGive_69 : decode cX2_basinToGive 69 = .ok (.iload_n 3, 1) := by decide +kernel
theorem dX2_basinToGive_70 : decode cX2_basinToGive 70 = .ok (.if_icmp .ge 9, 3) := by decide +kernel
theorem dX2_basinToGive_73 : decode cX2_basinToGive 73 = .ok (.iload 4, 2) := by decide +kernel
theorem dX2_basinToGive_75 : decode cX2_basinToGive 75 = .ok (.istore_n 2, 1) := by decide +kernel
theorem dX2_basinToGive_76 : decode cX2_basinToGive 76 = .ok (.iload 5, 2) := by decide +kernel
theorem dX2_basinToGive_78 : decode cX2_basinToGive 78 = .ok (.istore_n 3, 1) := by decide +kernel
theorem dX2_basinToGive_79 : decode cX2_basinToGive 79 = .ok (.iinc 4 1, 3) := by decide +kernel
theorem dX2_basinToGive_82 : decode cX2_basinToGive 82 = .ok (.goto (-75), 3) := by decide +kernel
theorem dX2_basinToGive_85 : decode cX2_basinToGive 85 = .ok (.iload_n 2, 1) := by decide +kernel
theorem dX2_basinToGive_86 : decode cX2_basinToGive 86 = .ok (.ireturn, 1) := by decide +kernel
set_option maxRecDepth 20000 in
theorem ggX2_basinToTake_X2_isOut : GoodIn wsX2_basinToTake wsX2_isOut := goodIn_r _ [8, 9, 16, 17, 18, 19, 20, 21, 22, 23, 24, 25, 26, 27, 28, 29] (by decide +kernel) (by decide +kernel)
set_option maxRecDepth 20000 in
theorem gX2_basinToTake_X2_isOut : GoodIn wsX2_basinToTake (wsV RX2 80 RX2 yX2_isOut wsX2_isOut) := goodIn_app (goodIn_of _ (by decide +kernel)) ggX2_basinToTake_X2_isOut
set_option maxRecDepth 20000 in
theorem ggX2_basinToTake_X2_levelHolding : GoodIn wsX2_basinToTake wsX2_levelHolding := goodIn_r _ [13, 14, 15, 16, 17, 18, 19, 20, 21, 22, 23, 24, 25, 26, 27, 28, 29] (by decide +kernel) (by decide +kernel)
set_option maxRecDepth 20000 in
theorem gX2_basinToTake_X2_levelHolding : GoodIn wsX2_basinToTake (wsV RX2 84 RX2 yX2_levelHolding wsX2_levelHolding) := goodIn_app (goodIn_of _ (by decide +kernel)) ggX2_basinToTake_X2_levelHolding
theorem dX2_basinToTake_0 : decode cX2_basinToTake 0 = .ok (.iconst (-1), 1) := by decide +kernel
theorem dX2_basinToTake_1 : decode cX2_basinToTake 1 = .ok (.istore_n 2, 1) := by decide +kernel
theorem dX2_basinToTake_2 : decode cX2_basinToTake 2 = .ok (.iconst 0, 1) := by decide +kernel
theorem dX2_basinToTake_3 : decode cX2_basinToTake 3 = .ok (.istore_n 3, 1) := by decide +kernel
theorem dX2_basinToTake_4 : decode cX2_basinToTake 4 = .ok (.iconst 0, 1) := by decide +kernel
theorem dX2_basinToTake_5 : decode cX2_basinToTake 5 = .ok (.istore 4, 2) := by decide +kernel
theorem dX2_basinToTake_7 : decode cX2_basinToTake 7 = .ok (.iload 4, 2) := by decide +kernel
theorem dX2_basinToTake_9 : decode cX2_basinToTake 9 = .ok (.aload_n 0, 1) := by decide +kernel
theorem dX2_basinToTake_10 : decode cX2_basinToTake 10 = .ok (.getfield 43, 3) := by decide +kernel
theorem dX2_basinToTake_13 : decode cX2_basinToTake 13 = .ok (.if_icmp .ge 78, 3) := by decide +kernel
theorem dX2_basinToTake_16 : decode cX2_basinToTake 16 = .ok (.aload_n 0, 1) := by decide +kernel
theorem dX2_basinToTake_17 : decode cX2_basinToTake 17 = .ok (.iload 4, 2) := by decide +kernel
theorem dX2_basinToTake_19 : decode cX2_basinToTake 19 = .ok (.invokevirtual 80, 3) := by decide +kernel
theorem dX2_basinToTake_22 : decode cX2_basinToTake 22 = .ok (.ifCond .ne 63, 3) := by decide +kernel
theorem dX2_basinToTake_25 : decode cX2_basinToTake 25 = .ok (.aload_n 0, 1) := by decide +kernel
theorem dX2_basinToTake_26 : decode cX2_basinToTake 26 = .ok (.getfield 31, 3) := by decide +kernel
theorem dX2_basinToTake_29 : decode cX2_basinToTake 29 = .ok (.iload 4, 2) := by decide +kernel
theorem dX2_basinToTake_31 : decode cX2_basinToTake 31 = .ok (.iaload, 1) := by decide +kernel
theorem dX2_basinToTake_32 : decode cX2_basinToTake 32 = .ok (.aload_n 0, 1) := by decide +kernel
theorem dX2_basinToTake_33 : decode cX2_basinToTake 33 = .ok (.getfield 19, 3) := by decide +kernel
theorem dX2_basinToTake_36 : decode cX2_basinToTake 36 = .ok (.iload 4, 2) := by decide +kernel
theorem dX2_basinToTake_38 : decode cX2_basinToTake 38 = .ok (.iaload, 1) := by decide +kernel
theorem dX2_basinToTake_39 : decode cX2_basinToTake 39 = .ok (.if_icmp .lt 6, 3) := by decide +kernel
theorem dX2_basinToTake_42 : decode cX2_basinToTake 42 = .ok (.goto 43, 3) := by decide +kernel
theorem dX2_basinToTake_45 : decode cX2_basinToTake 45 = .ok (.aload_n 0, 1) := by decide +kernel
theorem dX2_basinToTake_46 : decode cX2_basinToTake 46 = .ok (.iload 4, 2) := by decide +kernel
theorem dX2_basinToTake_48 : decode cX2_basinToTake 48 = .ok (.aload_n 0, 1) := by decide +kernel
theorem dX2_basinToTake_49 : decode cX2_basinToTake 49 = .ok (.getfield 31, 3) := by decide +kernel
theorem dX2_basinToTake_52 : decode cX2_basinToTake 52 = .ok (.iload 4, 2) := by decide +kernel
theorem dX2_basinToTake_54 : decode cX2_basinToTake 54 = .ok (.iaload, 1) := by decide +kernel
theorem dX2_basinToTake_55 : decode cX2_basinToTake 55 = .ok (.iconst 1, 1) := by decide +kernel
theorem dX2_basinToTake_56 : decode cX2_basinToTake 56 = .ok (.iadd, 1) := by decide +kernel
theorem dX2_basinToTake_57 : decode cX2_basinToTake 57 = .ok (.invokevirtual 84, 3) := by decide +kernel
theorem dX2_basinToTake_60 : decode cX2_basinToTake 60 = .ok (.istore 5, 2) := by decide +kernel
theorem dX2_basinToTake_62 : decode cX2_basinToTake 62 = .ok (.iload 5, 2) := by decide +kernel
theorem dX2_basinToTake_64 : decode cX2_basinToTake 64 = .ok (.iload_n 1, 1) := by decide +kernel
theorem dX2_basinToTake_65 : decode cX2_basinToTake 65 = .ok (.if_icmp .gt 20, 3) := by decide +kernel
theorem dX2_basinToTake_68 : decode cX2_basinToTake 68 = .ok (.iload_n 2, 1) := by decide +kernel
theorem dX2_basinToTake_69 : decode cX2_basinToTake 69 = .ok (.iconst (-1), 1) := by decide +kernel
theorem dX2_basinToTake_70 : decode cX2_basinToTake 70 = .ok (.if_icmp .eq 9, 3) := by decide +kernel
theorem dX2_basinToTake_73 : decode cX2_basinToTake 73 = .ok (.iload 5, 2) := by decide +kernel
theorem dX2_basinToTake_75 : decode cX2_basinToTake 75 = .ok (.iload_n 3, 1) := by decide +kernel
theorem dX2_basinToTake_76 : decode cX2_basinToTake 76 = .ok (.if_icmp .le 9, 3) := by decide +kernel
theorem dX2_basinToTake_79 : decode cX2_basinToTake 79 = .ok (.iload 4, 2) := by decide +kernel
theorem dX2_basinToTake_81 : decode cX2_basinToTake 81 = .ok (.istore_n 2, 1) := by decide +kernel
theorem dX2_basinToTake_82 : decode cX2_basinToTake 82 = .ok (.iload 5, 2) := by decide +kernel
theorem dX2_basinToTake_84 : decode cX2_basinToTake 84 = .ok (.istore_n 3, 1) := by decide +kernel
theorem dX2_basinToTake_85 : decode cX2_basinToTake 85 = .ok (.iinc 4 1, 3) := by decide +kernel
theorem dX2_basinToTake_88 : decode cX2_basinToTake 88 = .ok (.goto (-81), 3) := by decide +kernel
theorem dX2_basinToTake_91 : decode cX2_basinToTake 91 = .ok (.iload_n 2, 1) := by decide +kernel
theorem dX2_basinToTake_92 : decode cX2_basinToTake 92 = .ok (.ireturn, 1) := by decide +kernel
theorem dX2_loseByLeaks_0 : decode cX2_loseByLeaks 0 = .ok (.aload_n 0, 1) := by decide +kernel
theorem dX2_loseByLeaks_1 : decode cX2_loseByLeaks 1 = .ok (.iconst 0, 1) := by decide +kernel
theorem dX2_loseByLeaks_2 : decode cX2_loseByLeaks 2 = .ok (.putfield 88, 3) := by decide +kernel
theorem dX2_loseByLeaks_5 : decode cX2_loseByLeaks 5 = .ok (.iconst 0, 1) := by decide +kernel
theorem dX2_loseByLeaks_6 : decode cX2_loseByLeaks 6 = .ok (.istore_n 1, 1) := by decide +kernel
theorem dX2_loseByLeaks_7 : decode cX2_loseByLeaks 7 = .ok (.iload_n 1, 1) := by decide +kernel
theorem dX2_loseByLeaks_8 : decode cX2_loseByLeaks 8 = .ok (.aload_n 0, 1) := by decide +kernel
theorem dX2_loseByLeaks_9 : decode cX2_loseByLeaks 9 = .ok (.getfield 43, 3) := by decide +kernel
theorem dX2_loseByLeaks_12 : decode cX2_loseByLeaks 12 = .ok (.if_icmp .ge 45, 3) := by decide +kernel
theorem dX2_loseByLeaks_15 : decode cX2_loseByLeaks 15 = .ok (.aload_n 0, 1) := by decide +kernel
theorem dX2_loseByLeaks_16 : decode cX2_loseByLeaks 16 = .ok (.getfield 28, 3) := by decide +kernel
theorem dX2_loseByLeaks_19 : decode cX2_loseByLeaks 19 = .ok (.iload_n 1, 1) := by decide +kernel
theorem dX2_loseByLeaks_20 : decode cX2_loseByLeaks 20 = .ok (.iaload, 1) := by decide +kernel
theorem dX2_loseByLeaks_21 : decode cX2_loseByLeaks 21 = .ok (.aload_n 0, 1) := by decide +kernel
theorem dX2_loseByLeaks_22 : decode cX2_loseByLeaks 22 = .ok (.getfield 31, 3) := by decide +kernel
theorem dX2_loseByLeaks_25 : decode cX2_loseByLeaks 25 = .ok (.iload_n 1, 1) := by decide +kernel
theorem dX2_loseByLeaks_26 : decode cX2_loseByLeaks 26 = .ok (.iaload, 1) := by decide +kernel
theorem dX2_loseByLeaks_27 : decode cX2_loseByLeaks 27 = .ok (.invokestatic 91, 3) := by decide +kernel
theorem dX2_loseByLeaks_30 : decode cX2_loseByLeaks 30 = .ok (.istore_n 2, 1) := by decide +kernel
theorem dX2_loseByLeaks_31 : decode cX2_loseByLeaks 31 = .ok (.aload_n 0, 1) := by decide +kernel
theorem dX2_loseByLeaks_32 : decode cX2_loseByLeaks 32 = .ok (.getfield 31, 3) := by decide +kernel
theorem dX2_loseByLeaks_35 : decode cX2_loseByLeaks 35 = .ok (.iload_n 1, 1) := by decide +kernel
theorem dX2_loseByLeaks_36 : decode cX2_loseByLeaks 36 = .ok (.dup2, 1) := by decide +kernel
theorem dX2_loseByLeaks_37 : decode cX2_loseByLeaks 37 = .ok (.iaload, 1) := by decide +kernel
theorem dX2_loseByLeaks_38 : decode cX2_loseByLeaks 38 = .ok (.iload_n 2, 1) := by decide +kernel
theorem dX2_loseByLeaks_39 : decode cX2_loseByLeaks 39 = .ok (.isub, 1) := by decide +kernel
theorem dX2_loseByLeaks_40 : decode cX2_loseByLeaks 40 = .ok (.iastore, 1) := by decide +kernel
theorem dX2_loseByLeaks_41 : decode cX2_loseByLeaks 41 = .ok (.aload_n 0, 1) := by decide +kernel
theorem dX2_loseByLeaks_42 : decode cX2_loseByLeaks 42 = .ok (.dup, 1) := by decide +kernel
theorem dX2_loseByLeaks_43 : decode cX2_loseByLeaks 43 = .ok (.getfield 88, 3) := by decide +kernel
theorem dX2_loseByLeaks_46 : decode cX2_loseByLeaks 46 = .ok (.iload_n 2, 1) := by decide +kernel
theorem dX2_loseByLeaks_47 : decode cX2_loseByLeaks 47 = .ok (.iadd, 1) := by decide +kernel
theorem dX2_loseByLeaks_48 : decode cX2_loseByLeaks 48 = .ok (.putfield 88, 3) := by decide +kernel
theorem dX2_loseByLeaks_51 : decode cX2_loseByLeaks 51 = .ok (.iinc 1 1, 3) := by decide +kernel
theorem dX2_loseByLeaks_54 : decode cX2_loseByLeaks 54 = .ok (.goto (-47), 3) := by decide +kernel
theorem dX2_loseByLeaks_57 : decode cX2_loseByLeaks 57 = .ok (.return_, 1) := by decide +kernel
set_option maxRecDepth 20000 in
theorem ggX3_init_X2_init : GoodIn wsX3_init wsX2_init := goodIn_r _ [20, 21, 2, 3, 22, 13, 23, 24, 25, 26, 27, 28, 29, 30, 40, 41, 42, 43, 44, 45, 46, 47, 48, 49, 50, 51, 52, 53] (by decide +kernel) (by decide +kernel)
set_option maxRecDepth 20000 in
theorem gX3_init_X2_init_n9 : GoodIn wsX3_init (wsX2_init) := ggX3_init_X2_init
set_option maxRecDepth 20000 in
theorem ggX3_init_X0_init : GoodIn wsX3_init wsX0_init := goodIn_r _ [32, 33, 2, 3, 13, 34, 67, 68] (by decide +kernel) (by decide +kernel)
set_option maxRecDepth 20000 in
theorem gX3_init_X0_init_n35 : GoodIn wsX3_init (wsX0_init) := ggX3_init_X0_init
set_option maxRecDepth 20000 in
theorem ggX3_init_X1_init : GoodIn wsX3_init wsX1_init := goodIn_r _ [36, 37, 2, 3, 38, 13, 39, 69, 70, 71, 72] (by decide +kernel) (by decide +kernel)
set_option maxRecDepth 20000 in
theorem gX3_init_X1_init_n36 : GoodIn wsX3_init (wsX1_init) := ggX3_init_X1_init
theorem dX3_init_0 : decode cX3_init 0 = .ok (.aload_n 0, 1) := by decide +kernel
theorem dX3_init_1 : decode cX3_init 1 = .ok (.invokespecial 1, 3) := by decide +kernel
theorem dX3_init_4 : decode cX3_init 4 = .ok (.aload_n 0, 1) := by decide +kernel
theorem dX3_init_5 : decode cX3_init 5 = .ok (.new 7, 3) := by decide +kernel
theorem dX3_init_8 : decode cX3_init 8 = .ok (.dup, 1) := by decide +kernel
theorem dX3_init_9 : decode cX3_init 9 = .ok (.invokespecial 9, 3) := by decide +kernel
theorem dX3_init_12 : decode cX3_init 12 = .ok (.putfield 10, 3) := by decide +kernel
theorem dX3_init_15 : decode cX3_init 15 = .ok (.aload_n 0, 1) := by decide +kernel
theorem dX3_init_16 : decode cX3_init 16 = .ok (.new 7, 3) := by decide +kernel
theorem dX3_init_19 : decode cX3_init 19 = .ok (.dup, 1) := by decide +kernel
theorem dX3_init_20 : decode cX3_init 20 = .ok (.invokespecial 9, 3) := by decide +kernel
theorem dX3_init_23 : decode cX3_init 23 = .ok (.putfield 16, 3) := by decide +kernel
theorem dX3_init_26 : decode cX3_init 26 = .ok (.aload_n 0, 1) := by decide +kernel
theorem dX3_init_27 : decode cX3_init 27 = .ok (.iconst 2, 1) := by decide +kernel
theorem dX3_init_28 : decode cX3_init 28 = .ok (.anewarray 19, 3) := by decide +kernel
theorem dX3_init_31 : decode cX3_init 31 = .ok (.putfield 21, 3) := by decide +kernel
theorem dX3_init_34 : decode cX3_init 34 = .ok (.aload_n 0, 1) := by decide +kernel
theorem dX3_init_35 : decode cX3_init 35 = .ok (.iconst 4, 1) := by decide +kernel
theorem dX3_init_36 : decode cX3_init 36 = .ok (.anewarray 25, 3) := by decide +kernel
theorem dX3_init_39 : decode cX3_init 39 = .ok (.putfield 27, 3) := by decide +kernel
theorem dX3_init_42 : decode cX3_init 42 = .ok (.aload_n 0, 1) := by decide +kernel
theorem dX3_init_43 : decode cX3_init 43 = .ok (.sipush 540, 3) := by decide +kernel
theorem dX3_init_46 : decode cX3_init 46 = .ok (.newarray .int, 2) := by decide +kernel
theorem dX3_init_48 : decode cX3_init 48 = .ok (.putfield 31, 3) := by decide +kernel
theorem dX3_init_51 : decode cX3_init 51 = .ok (.aload_n 0, 1) := by decide +kernel
theorem dX3_init_52 : decode cX3_init 52 = .ok (.getfield 21, 3) := by decide +kernel
theorem dX3_init_55 : decode cX3_init 55 = .ok (.iconst 0, 1) := by decide +kernel
theorem dX3_init_56 : decode cX3_init 56 = .ok (.new 19, 3) := by decide +kernel
theorem dX3_init_59 : decode cX3_init 59 = .ok (.dup, 1) := by decide +kernel
theorem dX3_init_60 : decode cX3_init 60 = .ok (.invokespecial 35, 3) := by decide +kernel
theorem dX3_init_63 : decode cX3_init 63 = .ok (.aastore, 1) := by decide +kernel
theorem dX3_init_64 : decode cX3_init 64 = .ok (.aload_n 0, 1) := by decide +kernel
theorem dX3_init_65 : decode cX3_init 65 = .ok (.getfield 21, 3) := by decide +kernel
theorem dX3_init_68 : decode cX3_init 68 = .ok (.iconst 1, 1) := by decide +kernel
theorem dX3_init_69 : decode cX3_init 69 = .ok (.new 19, 3) := by decide +kernel
theorem dX3_init_72 : decode cX3_init 72 = .ok (.dup, 1) := by decide +kernel
theorem dX3_init_73 : decode cX3_init 73 = .ok (.invokespecial 35, 3) := by decide +kernel
theorem dX3_init_76 : decode cX3_init 76 = .ok (.aastore, 1) := by decide +kernel
theorem dX3_init_77 : decode cX3_init 77 = .ok (.iconst 0, 1) := by decide +kernel
theorem dX3_init_78 : decode cX3_init 78 = .ok (.istore_n 1, 1) := by decide +kernel
theorem dX3_init_79 : decode cX3_init 79 = .ok (.iload_n 1, 1) := by decide +kernel
theorem dX3_init_80 : decode cX3_init 80 = .ok (.iconst 4, 1) := by decide +kernel
theorem dX3_init_81 : decode cX3_init 81 = .ok (.if_icmp .ge 22, 3) := by decide +kernel
theorem dX3_init_84 : decode cX3_init 84 = .ok (.aload_n 0, 1) := by decide +kernel
theorem dX3_init_85 : decode cX3_init 85 = .ok (.getfield 27, 3) := by decide +kernel
theorem dX3_init_88 : decode cX3_init 88 = .ok (.iload_n 1, 1) := by decide +kernel
theorem dX3_init_89 : decode cX3_init 89 = .ok (.new 25, 3) := by decide +kernel
theorem dX3_init_92 : decode cX3_init 92 = .ok (.dup, 1) := by decide +kernel
theorem dX3_init_93 : decode cX3_init 93 = .ok (.invokespecial 36, 3) := by decide +kernel
theorem dX3_init_96 : decode cX3_init 96 = .ok (.aastore, 1) := by decide +kernel
theorem dX3_init_97 : decode cX3_init 97 = .ok (.iinc 1 1, 3) := by decide +kernel
theorem dX3_init_100 : decode cX3_init 100 = .ok (.goto (-21), 3) := by decide +kernel
theorem dX3_init_103 : decode cX3_init 103 = .ok (.return_, 1) := by decide +kernel
theorem dX3_head_0 : decode cX3_head 0 = .ok (.iload_n 1, 1) := by decide +kernel
theorem dX3_head_1 : decode cX3_head 1 = .ok (.iconst 1, 1) := by decide +kernel
theorem dX3_head_2 : decode cX3_head 2 = .ok (.if_icmp .lt 9, 3) := by decide +kernel
theorem dX3_head_5 : decode cX3_head 5 = .ok (.iload_n 1, 1) := by decide +kernel
theorem dX3_head_6 : decode cX3_head 6 = .ok (.bipush 60, 2) := by decide +kernel
theorem dX3_head_8 : decode cX3_head 8 = .ok (.if_icmp .le 6, 3) := by decide +kernel
theorem dX3_head_11 : decode cX3_head 11 = .ok (.bipush (-2), 2) := by decide +kernel
theorem dX3_head_13 : decode cX3_head 13 = .ok (.ireturn, 1) := by decide +kernel
theorem dX3_head_14 : decode cX3_head 14 = .ok (.aload_n 0, 1) := by decide +kernel
theorem dX3_head_15 : decode cX3_head 15 = .ok (.getfield 10, 3) := by decide +kernel
theorem dX3_head_18 : decode cX3_head 18 = .ok (.getfield 37, 3) := by decide +kernel
theorem dX3_head_21 : decode cX3_head 21 = .ok (.ifCond .eq 6, 3) := by decide +kernel
theorem dX3_head_24 : decode cX3_head 24 = .ok (.bipush (-3), 2) := by decide +kernel
theorem dX3_head_26 : decode cX3_head 26 = .ok (.ireturn, 1) := by decide +kernel
theorem dX3_head_27 : decode cX3_head 27 = .ok (.aload_n 0, 1) := by decide +kernel
theorem dX3_head_28 : decode cX3_head 28 = .ok (.getfield 10, 3) := by decide +kernel
theorem dX3_head_31 : decode cX3_head 31 = .ok (.getfield 41, 3) := by decide +kernel
theorem dX3_head_34 : decode cX3_head 34 = .ok (.istore_n 2, 1) := by decide +kernel
theorem dX3_head_35 : decode cX3_head 35 = .ok (.aload_n 0, 1) := by decide +kernel
theorem dX3_head_36 : decode cX3_head 36 = .ok (.getfield 10, 3) := by decide +kernel
theorem dX3_head_39 : decode cX3_head 39 = .ok (.iload_n 1, 1) := by decide +kernel
theorem dX3_head_40 : decode cX3_head 40 = .ok (.putfield 41, 3) := by decide +kernel
theorem dX3_head_43 : decode cX3_head 43 = .ok (.iload_n 2, 1) := by decide +kernel
theorem dX3_head_44 : decode cX3_head 44 = .ok (.ireturn, 1) := by decide +kernel
set_option maxRecDepth 20000 in
theorem ggX3_basin_X3_mayBeBasin : GoodIn wsX3_basin wsX3_mayBeBasin := goodIn_r _ [6] (by decide +kernel) (by decide +kernel)
set_option maxRecDepth 20000 in
theorem gX3_basin_X3_mayBeBasin : GoodIn wsX3_basin (va_wsS RX3 44 yX3_mayBeBasin wsX3_mayBeBasin) := goodIn_app (goodIn_of _ (by decide +kernel)) ggX3_basin_X3_mayBeBasin
set_option maxRecDepth 20000 in
theorem ggX3_basin_X2_addBasin : GoodIn wsX3_basin wsX2_addBasin := goodIn_r _ [11, 12, 13, 14, 15, 16, 17, 18, 19, 20, 10, 21, 35, 36, 37, 38, 39, 40, 41, 42, 43, 44, 45, 46, 47, 48] (by decide +kernel) (by decide +kernel)
set_option maxRecDepth 20000 in
theorem gX3_basin_X2_addBasin : GoodIn wsX3_basin (wsV RX3 51 RX2 yX2_addBasin wsX2_addBasin) := goodIn_app (goodIn_of _ (by decide +kernel)) ggX3_basin_X2_addBasin
theorem dX3_basin_0 : decode cX3_basin 0 = .ok (.iload_n 1, 1) := by decide +kernel
theorem dX3_basin_1 : decode cX3_basin 1 = .ok (.iload_n 2, 1) := by decide +kernel
theorem dX3_basin_2 : decode cX3_basin 2 = .ok (.iload_n 3, 1) := by decide +kernel
theorem dX3_basin_3 : decode cX3_basin 3 = .ok (.invokestatic 44, 3) := by decide +kernel
theorem dX3_basin_6 : decode cX3_basin 6 = .ok (.ifCond .ne 6, 3) := by decide +kernel
theorem dX3_basin_9 : decode cX3_basin 9 = .ok (.bipush (-2), 2) := by decide +kernel
theorem dX3_basin_11 : decode cX3_basin 11 = .ok (.ireturn, 1) := by decide +kernel
theorem dX3_basin_12 : decode cX3_basin 12 = .ok (.aload_n 0, 1) := by decide +kernel
theorem dX3_basin_13 : decode cX3_basin 13 = .ok (.getfield 10, 3) := by decide +kernel
theorem dX3_basin_16 : decode cX3_basin 16 = .ok (.getfield 48, 3) := by decide +kernel
theorem dX3_basin_19 : decode cX3_basin 19 = .ok (.iconst 4, 1) := by decide +kernel
theorem dX3_basin_20 : decode cX3_basin 20 = .ok (.if_icmp .lt 6, 3) := by decide +kernel
theorem dX3_basin_23 : decode cX3_basin 23 = .ok (.bipush (-4), 2) := by decide +kernel
theorem dX3_basin_25 : decode cX3_basin 25 = .ok (.ireturn, 1) := by decide +kernel
theorem dX3_basin_26 : decode cX3_basin 26 = .ok (.aload_n 0, 1) := by decide +kernel
theorem dX3_basin_27 : decode cX3_basin 27 = .ok (.getfield 10, 3) := by decide +kernel
theorem dX3_basin_30 : decode cX3_basin 30 = .ok (.iload_n 1, 1) := by decide +kernel
theorem dX3_basin_31 : decode cX3_basin 31 = .ok (.iload_n 2, 1) := by decide +kernel
theorem dX3_basin_32 : decode cX3_basin 32 = .ok (.iload_n 3, 1) := by decide +kernel
theorem dX3_basin_33 : decode cX3_basin 33 = .ok (.invokevirtual 51, 3) := by decide +kernel
theorem dX3_basin_36 : decode cX3_basin 36 = .ok (.aload_n 0, 1) := by decide +kernel
theorem dX3_basin_37 : decode cX3_basin 37 = .ok (.getfield 10, 3) := by decide +kernel
theorem dX3_basin_40 : decode cX3_basin 40 = .ok (.getfield 48, 3) := by decide +kernel
theorem dX3_basin_43 : decode cX3_basin 43 = .ok (.ireturn, 1) := by decide +kernel
theorem dX3_back_0 : decode cX3_back 0 = .ok (.aload_n 0, 1) := by decide +kernel
theorem dX3_back_1 : decode cX3_back 1 = .ok (.getfield 10, 3) := by decide +kernel
theorem dX3_back_4 : decode cX3_back 4 = .ok (.getfield 48, 3) := by decide +kernel
theorem dX3_back_7 : decode cX3_back 7 = .ok (.iconst 1, 1) := by decide +kernel
theorem dX3_back_8 : decode cX3_back 8 = .ok (.isub, 1) := by decide +kernel
theorem dX3_back_9 : decode cX3_back 9 = .ok (.istore_n 1, 1) := by decide +kernel
theorem dX3_back_10 : decode cX3_back 10 = .ok (.iload_n 1, 1) := by decide +kernel
theorem dX3_back_11 : decode cX3_back 11 = .ok (.ifCond .lt 15, 3) := by decide +kernel
theorem dX3_back_14 : decode cX3_back 14 = .ok (.aload_n 0, 1) := by decide +kernel
theorem dX3_back_15 : decode cX3_back 15 = .ok (.getfield 10, 3) := by decide +kernel
theorem dX3_back_18 : decode cX3_back 18 = .ok (.getfield 55, 3) := by decide +kernel
theorem dX3_back_21 : decode cX3_back 21 = .ok (.iload_n 1, 1) := by decide +kernel
theorem dX3_back_22 : decode cX3_back 22 = .ok (.iaload, 1) := by decide +kernel
theorem dX3_back_23 : decode cX3_back 23 = .ok (.ifCond .eq 6, 3) := by decide +kernel
theorem dX3_back_26 : decode cX3_back 26 = .ok (.bipush (-3), 2) := by decide +kernel
theorem dX3_back_28 : decode cX3_back 28 = .ok (.ireturn, 1) := by decide +kernel
theorem dX3_back_29 : decode cX3_back 29 = .ok (.aload_n 0, 1) := by decide +kernel
theorem dX3_back_30 : decode cX3_back 30 = .ok (.getfield 10, 3) := by decide +kernel
theorem dX3_back_33 : decode cX3_back 33 = .ok (.iload_n 1, 1) := by decide +kernel
theorem dX3_back_34 : decode cX3_back 34 = .ok (.putfield 48, 3) := by decide +kernel
theorem dX3_back_37 : decode cX3_back 37 = .ok (.aload_n 0, 1) := by decide +kernel
theorem dX3_back_38 : decode cX3_back 38 = .ok (.getfield 10, 3) := by decide +kernel
theorem dX3_back_41 : decode cX3_back 41 = .ok (.dup, 1) := by decide +kernel
theorem dX3_back_42 : decode cX3_back 42 = .ok (.getfield 58, 3) := by decide +kernel
theorem dX3_back_45 : decode cX3_back 45 = .ok (.iconst 1, 1) := by decide +kernel
theorem dX3_back_46 : decode cX3_back 46 = .ok (.iload_n 1, 1) := by decide +kernel
theorem dX3_back_47 : decode cX3_back 47 = .ok (.ishl, 1) := by decide +kernel
theorem dX3_back_48 : decode cX3_back 48 = .ok (.iconst (-1), 1) := by decide +kernel
theorem dX3_back_49 : decode cX3_back 49 = .ok (.ixor, 1) := by decide +kernel
theorem dX3_back_50 : decode cX3_back 50 = .ok (.iand, 1) := by decide +kernel
theorem dX3_back_51 : decode cX3_back 51 = .ok (.putfield 58, 3) := by decide +kernel
theorem dX3_back_54 : decode cX3_back 54 = .ok (.iload_n 1, 1) := by decide +kernel
theorem dX3_back_55 : decode cX3_back 55 = .ok (.ireturn, 1) := by decide +kernel
set_option maxRecDepth 20000 in
theorem ggX3_out_X3_isBasin : GoodIn wsX3_out wsX3_isBasin := goodIn_r _ [7, 1, 8, 9, 10, 11, 12, 13, 14, 15, 16, 17, 18, 19, 20, 21, 22, 23, 24, 25, 26, 27, 28, 29, 30, 31, 32, 33, 34, 35] (by decide +kernel) (by decide +kernel)
set_option maxRecDepth 20000 in
theorem gX3_out_X3_isBasin : GoodIn wsX3_out (wsV RX3 61 RX3 yX3_isBasin wsX3_isBasin) := goodIn_app (goodIn_of _ (by decide +kernel)) ggX3_out_X3_isBasin
theorem dX3_out_0 : decode cX3_out 0 = .ok (.aload_n 0, 1) := by decide +kernel
theorem dX3_out_1 : decode cX3_out 1 = .ok (.iload_n 1, 1) := by decide +kernel
theorem dX3_out_2 : decode cX3_out 2 = .ok (.invokevirtual 61, 3) := by decide +kernel
theorem dX3_out_5 : decode cX3_out 5 = .ok (.ifCond .ne 6, 3) := by decide +kernel
theorem dX3_out_8 : decode cX3_out 8 = .ok (.bipush (-2), 2) := by decide +kernel
theorem dX3_out_10 : decode cX3_out 10 = .ok (.ireturn, 1) := by decide +kernel
theorem dX3_out_11 : decode cX3_out 11 = .ok (.aload_n 0, 1) := by decide +kernel
theorem dX3_out_12 : decode cX3_out 12 = .ok (.getfield 10, 3) := by decide +kernel
theorem dX3_out_15 : decode cX3_out 15 = .ok (.dup, 1) := by decide +kernel
theorem dX3_out_16 : decode cX3_out 16 = .ok (.getfield 58, 3) := by decide +kernel
theorem dX3_out_19 : decode cX3_out 19 = .ok (.iconst 1, 1) := by decide +kernel
theorem dX3_out_20 : decode cX3_out 20 = .ok (.iload_n 1, 1) := by decide +kernel
theorem dX3_out_21 : decode cX3_out 21 = .ok (.ishl, 1) := by decide +kernel
theorem dX3_out_22 : decode cX3_out 22 = .ok (.ixor, 1) := by decide +kernel
theorem dX3_out_23 : decode cX3_out 23 = .ok (.putfield 58, 3) := by decide +kernel
theorem dX3_out_26 : decode cX3_out 26 = .ok (.aload_n 0, 1) := by decide +kernel
theorem dX3_out_27 : decode cX3_out 27 = .ok (.getfield 10, 3) := by decide +kernel
theorem dX3_out_30 : decode cX3_out 30 = .ok (.getfield 58, 3) := by decide +kernel
theorem dX3_out_33 : decode cX3_out 33 = .ok (.ireturn, 1) := by decide +kernel
set_option maxRecDepth 20000 in
theorem ggX3_leak_X3_isBasin : GoodIn wsX3_leak wsX3_isBasin := goodIn_r _ [7, 1, 8, 9, 10, 11, 12, 13, 14, 15, 16, 17, 18, 19, 20, 21, 22, 23, 24, 25, 26, 27, 28, 29, 30, 31, 32, 33, 34, 35] (by decide +kernel) (by decide +kernel)
set_option maxRecDepth 20000 in
theorem gX3_leak_X3_isBasin : GoodIn wsX3_leak (wsV RX3 61 RX3 yX3_isBasin wsX3_isBasin) := goodIn_app (goodIn_of _ (by decide +kernel)) ggX3_leak_X3_isBasin
theorem dX3_leak_0 : decode cX3_leak 0 = .ok (.aload_n 0, 1) := by decide +kernel
theorem dX3_leak_1 : decode cX3_leak 1 = .ok (.iload_n 1, 1) := by decide +kernel
theorem dX3_leak_2 : decode cX3_leak 2 = .ok (.invokevirtual 61, 3) := by decide +kernel
theorem dX3_leak_5 : decode cX3_leak 5 = .ok (.ifCond .eq 12, 3) := by decide +kernel
theorem dX3_leak_8 : decode cX3_leak 8 = .ok (.iload_n 2, 1) := by decide +kernel
theorem dX3_leak_9 : decode cX3_leak 9 = .ok (.ifCond .lt 8, 3) := by decide +kernel
theorem dX3_leak_12 : decode cX3_leak 12 = .ok (.iload_n 2, 1) := by decide +kernel
theorem dX3_leak_13 : decode cX3_leak 13 = .ok (.iconst 3, 1) := by decide +kernel
theorem dX3_leak_14 : decode cX3_leak 14 = .ok (.if_icmp .le 6, 3) := by decide +kernel
theorem dX3_leak_17 : decode cX3_leak 17 = .ok (.bipush (-2), 2) := by decide +kernel
theorem dX3_leak_19 : decode cX3_leak 19 = .ok (.ireturn, 1) := by decide +kernel
theorem dX3_leak_20 : decode cX3_leak 20 = .ok (.aload_n 0, 1) := by decide +kernel
theorem dX3_leak_21 : decode cX3_leak 21 = .ok (.getfield 10, 3) := by decide +kernel
theorem dX3_leak_24 : decode cX3_leak 24 = .ok (.getfield 65, 3) := by decide +kernel
theorem dX3_leak_27 : decode cX3_leak 27 = .ok (.iload_n 1, 1) := by decide +kernel
theorem dX3_leak_28 : decode cX3_leak 28 = .ok (.iaload, 1) := by decide +kernel
theorem dX3_leak_29 : decode cX3_leak 29 = .ok (.istore_n 3, 1) := by decide +kernel
theorem dX3_leak_30 : decode cX3_leak 30 = .ok (.aload_n 0, 1) := by decide +kernel
theorem dX3_leak_31 : decode cX3_leak 31 = .ok (.getfield 10, 3) := by decide +kernel
theorem dX3_leak_34 : decode cX3_leak 34 = .ok (.getfield 65, 3) := by decide +kernel
theorem dX3_leak_37 : decode cX3_leak 37 = .ok (.iload_n 1, 1) := by decide +kernel
theorem dX3_leak_38 : decode cX3_leak 38 = .ok (.iload_n 2, 1) := by decide +kernel
theorem dX3_leak_39 : decode cX3_leak 39 = .ok (.iastore, 1) := by decide +kernel
theorem dX3_leak_40 : decode cX3_leak 40 = .ok (.iload_n 3, 1) := by decide +kernel
theorem dX3_leak_41 : decode cX3_leak 41 = .ok (.ireturn, 1) := by decide +kernel
set_option maxRecDepth 20000 in
theorem ggX3_read_X3_isSheet : GoodIn wsX3_read wsX3_isSheet := goodIn_r _ [10] (by decide +kernel) (by decide +kernel)
set_option maxRecDepth 20000 in
theorem gX3_read_X3_isSheet : GoodIn wsX3_read (va_wsS RX3 68 yX3_isSheet wsX3_isSheet) := goodIn_app (goodIn_of _ (by decide +kernel)) ggX3_read_X3_isSheet
set_option maxRecDepth 20000 in
theorem ggX3_read_X3_found : GoodIn wsX3_read wsX3_found := goodIn_r _ [14, 15, 34, 35, 36, 37, 38, 39, 40, 41, 42, 43, 44, 45, 46] (by decide +kernel) (by decide +kernel)
set_option maxRecDepth 20000 in
theorem gX3_read_X3_found : GoodIn wsX3_read (wsV RX3 75 RX3 yX3_found wsX3_found) := goodIn_app (goodIn_of _ (by decide +kernel)) ggX3_read_X3_found
set_option maxRecDepth 20000 in
theorem ggX3_read_X3_mayBeBasin : GoodIn wsX3_read wsX3_mayBeBasin := goodIn_r _ [18] (by decide +kernel) (by decide +kernel)
set_option maxRecDepth 20000 in
theorem gX3_read_X3_mayBeBasin : GoodIn wsX3_read (va_wsS RX3 44 yX3_mayBeBasin wsX3_mayBeBasin) := goodIn_app (goodIn_of _ (by decide +kernel)) ggX3_read_X3_mayBeBasin
set_option maxRecDepth 20000 in
theorem ggX3_read_X2_addBasin : GoodIn wsX3_read wsX2_addBasin := goodIn_r _ [23, 24, 25, 26, 27, 28, 29, 30, 31, 32, 22, 33, 51, 52, 53, 54, 55, 56, 57, 58, 59, 60, 61, 62, 63, 64] (by decide +kernel) (by decide +kernel)
set_option maxRecDepth 20000 in
theorem gX3_read_X2_addBasin : GoodIn wsX3_read (wsV RX3 51 RX2 yX2_addBasin wsX2_addBasin) := goodIn_app (goodIn_of _ (by decide +kernel)) ggX3_read_X2_addBasin
theorem dX3_read_0 : decode cX3_read 0 = .ok (.iload_n 1, 1) := by decide +kernel
theorem dX3_read_1 : decode cX3_read 1 = .ok (.invokestatic 68, 3) := by decide +kernel
theorem dX3_read_4 : decode cX3_read 4 = .ok (.ifCond .ne 6, 3) := by decide +kernel
theorem dX3_read_7 : decode cX3_read 7 = .ok (.bipush (-2), 2) := by decide +kernel
theorem dX3_read_9 : decode cX3_read 9 = .ok (.ireturn, 1) := by decide +kernel
theorem dX3_read_10 : decode cX3_read 10 = .ok (.aload_n 0, 1) := by decide +kernel
theorem dX3_read_11 : decode cX3_read 11 = .ok (.getfield 27, 3) := by decide +kernel
theorem dX3_read_14 : decode cX3_read 14 = .ok (.iload_n 1, 1) := by decide +kernel
theorem dX3_read_15 : decode cX3_read 15 = .ok (.aaload, 1) := by decide +kernel
theorem dX3_read_16 : decode cX3_read 16 = .ok (.astore_n 2, 1) := by decide +kernel
theorem dX3_read_17 : decode cX3_read 17 = .ok (.aload_n 2, 1) := by decide +kernel
theorem dX3_read_18 : decode cX3_read 18 = .ok (.getfield 71, 3) := by decide +kernel
theorem dX3_read_21 : decode cX3_read 21 = .ok (.ifCond .eq 9, 3) := by decide +kernel
theorem dX3_read_24 : decode cX3_read 24 = .ok (.aload_n 0, 1) := by decide +kernel
theorem dX3_read_25 : decode cX3_read 25 = .ok (.iconst 1, 1) := by decide +kernel
theorem dX3_read_26 : decode cX3_read 26 = .ok (.invokevirtual 75, 3) := by decide +kernel
theorem dX3_read_29 : decode cX3_read 29 = .ok (.ireturn, 1) := by decide +kernel
theorem dX3_read_30 : decode cX3_read 30 = .ok (.iconst 0, 1) := by decide +kernel
theorem dX3_read_31 : decode cX3_read 31 = .ok (.istore_n 3, 1) := by decide +kernel
theorem dX3_read_32 : decode cX3_read 32 = .ok (.iconst 0, 1) := by decide +kernel
theorem dX3_read_33 : decode cX3_read 33 = .ok (.istore 4, 2) := by decide +kernel
theorem dX3_read_35 : decode cX3_read 35 = .ok (.iload 4, 2) := by decide +kernel
theorem dX3_read_37 : decode cX3_read 37 = .ok (.iconst 2, 1) := by decide +kernel
theorem dX3_read_38 : decode cX3_read 38 = .ok (.iadd, 1) := by decide +kernel
theorem dX3_read_39 : decode cX3_read 39 = .ok (.aload_n 2, 1) := by decide +kernel
theorem dX3_read_40 : decode cX3_read 40 = .ok (.getfield 79, 3) := by decide +kernel
theorem dX3_read_43 : decode cX3_read 43 = .ok (.if_icmp .ge 89, 3) := by decide +kernel
theorem dX3_read_46 : decode cX3_read 46 = .ok (.aload_n 0, 1) := by decide +kernel
theorem dX3_read_47 : decode cX3_read 47 = .ok (.getfield 10, 3) := by decide +kernel
theorem dX3_read_50 : decode cX3_read 50 = .ok (.getfield 48, 3) := by decide +kernel
theorem dX3_read_53 : decode cX3_read 53 = .ok (.iconst 4, 1) := by decide +kernel
theorem dX3_read_54 : decode cX3_read 54 = .ok (.if_icmp .ge 78, 3) := by decide +kernel
theorem dX3_read_57 : decode cX3_read 57 = .ok (.aload_n 2, 1) := by decide +kernel
theorem dX3_read_58 : decode cX3_read 58 = .ok (.getfield 82, 3) := by decide +kernel
theorem dX3_read_61 : decode cX3_read 61 = .ok (.iload 4, 2) := by decide +kernel
theorem dX3_read_63 : decode cX3_read 63 = .ok (.iaload, 1) := by decide +kernel
theorem dX3_read_64 : decode cX3_read 64 = .ok (.aload_n 2, 1) := by decide +kernel
theorem dX3_read_65 : decode cX3_read 65 = .ok (.getfield 82, 3) := by decide +kernel
theorem dX3_read_68 : decode cX3_read 68 = .ok (.iload 4, 2) := by decide +kernel
theorem dX3_read_70 : decode cX3_read 70 = .ok (.iconst 1, 1) := by decide +kernel
theorem dX3_read_71 : decode cX3_read 71 = .ok (.iadd, 1) := by decide +kernel
theorem dX3_read_72 : decode cX3_read 72 = .ok (.iaload, 1) := by decide +kernel
theorem dX3_read_73 : decode cX3_read 73 = .ok (.aload_n 2, 1) := by decide +kernel
theorem dX3_read_74 : decode cX3_read 74 = .ok (.getfield 82, 3) := by decide +kernel
theorem dX3_read_77 : decode cX3_read 77 = .ok (.iload 4, 2) := by decide +kernel
theorem dX3_read_79 : decode cX3_read 79 = .ok (.iconst 2, 1) := by decide +kernel
theorem dX3_read_80 : decode cX3_read 80 = .ok (.iadd, 1) := by decide +kernel
theorem dX3_read_81 : decode cX3_read 81 = .ok (.iaload, 1) := by decide +kernel
theorem dX3_read_82 : decode cX3_read 82 = .ok (.invokestatic 44, 3) := by decide +kernel
theorem dX3_read_85 : decode cX3_read 85 = .ok (.ifCond .ne 6, 3) := by decide +kernel
theorem dX3_read_88 : decode cX3_read 88 = .ok (.goto 44, 3) := by decide +kernel
theorem dX3_read_91 : decode cX3_read 91 = .ok (.aload_n 0, 1) := by decide +kernel
theorem dX3_read_92 : decode cX3_read 92 = .ok (.getfield 10, 3) := by decide +kernel
theorem dX3_read_95 : decode cX3_read 95 = .ok (.aload_n 2, 1) := by decide +kernel
theorem dX3_read_96 : decode cX3_read 96 = .ok (.getfield 82, 3) := by decide +kernel
theorem dX3_read_99 : decode cX3_read 99 = .ok (.iload 4, 2) := by decide +kernel
theorem dX3_read_101 : decode cX3_read 101 = .ok (.iaload, 1) := by decide +kernel
theorem dX3_read_102 : decode cX3_read 102 = .ok (.aload_n 2, 1) := by decide +kernel
theorem dX3_read_103 : decode cX3_read 103 = .ok (.getfield 82, 3) := by decide +kernel
theorem dX3_read_106 : decode cX3_read 106 = .ok (.iload 4, 2) := by decide +kernel
theorem dX3_read_108 : decode cX3_read 108 = .ok (.iconst 1, 1) := by decide +kernel
theorem dX3_read_109 : decode cX3_read 109 = .ok (.iadd, 1) := by decide +kernel
theorem dX3_read_110 : decode cX3_read 110 = .ok (.iaload, 1) := by decide +kernel
theorem dX3_read_111 : decode cX3_read 111 = .ok (.aload_n 2, 1) := by decide +kernel
theorem dX3_read_112 : decode cX3_read 112 = .ok (.getfield 82, 3) := by decide +kernel
theorem dX3_read_115 : decode cX3_read 115 = .ok (.iload 4, 2) := by decide +kernel
theorem dX3_read_117 : decode cX3_read 117 = .ok (.iconst 2, 1) := by decide +kernel
theorem dX3_read_118 : decode cX3_read 118 = .ok (.iadd, 1) := by decide +kernel
theorem dX3_read_119 : decode cX3_read 119 = .ok (.iaload, 1) := by decide +kernel
theorem dX3_read_120 : decode cX3_read 120 = .ok (.invokevirtual 51, 3) := by decide +kernel
theorem dX3_read_123 : decode cX3_read 123 = .ok (.iinc 3 1, 3) := by decide +kernel
theorem dX3_read_126 : decode cX3_read 126 = .ok (.iinc 4 3, 3) := by decide +kernel
theorem dX3_read_129 : decode cX3_read 129 = .ok (.goto (-94), 3) := by decide +kernel
theorem dX3_read_132 : decode cX3_read 132 = .ok (.iload_n 3, 1) := by decide +kernel
theorem dX3_read_133 : decode cX3_read 133 = .ok (.ireturn, 1) := by decide +kernel
set_option maxRecDepth 20000 in
theorem ggX3_info_X3_isBasin : GoodIn wsX3_info wsX3_isBasin := goodIn_r _ [11, 1, 12, 25, 26, 27, 28, 29, 30, 31, 32, 33, 34, 35, 36, 37, 38, 39, 40, 41, 42, 43, 44, 45, 46, 47, 48, 49, 50, 51] (by decide +kernel) (by decide +kernel)
set_option maxRecDepth 20000 in
theorem gX3_info_X3_isBasin : GoodIn wsX3_info (wsV RX3 61 RX3 yX3_isBasin wsX3_isBasin) := goodIn_app (goodIn_of _ (by decide +kernel)) ggX3_info_X3_isBasin
set_option maxRecDepth 20000 in
theorem ggX3_info_X2_levelHolding : GoodIn wsX3_info wsX2_levelHolding := goodIn_r _ [17, 18, 19, 38, 39, 40, 41, 42, 43, 44, 45, 46, 47, 48, 49, 50, 51] (by decide +kernel) (by decide +kernel)
set_option maxRecDepth 20000 in
theorem gX3_info_X2_levelHolding : GoodIn wsX3_info (wsV RX3 94 RX2 yX2_levelHolding wsX2_levelHolding) := goodIn_app (goodIn_of _ (by decide +kernel)) ggX3_info_X2_levelHolding
set_option maxRecDepth 20000 in
theorem ggX3_info_X2_isOut : GoodIn wsX3_info wsX2_isOut := goodIn_r _ [23, 24, 38, 39, 40, 41, 42, 43, 44, 45, 46, 47, 48, 49, 50, 51] (by decide +kernel) (by decide +kernel)
set_option maxRecDepth 20000 in
theorem gX3_info_X2_isOut : GoodIn wsX3_info (wsV RX3 98 RX2 yX2_isOut wsX2_isOut) := goodIn_app (goodIn_of _ (by decide +kernel)) ggX3_info_X2_isOut
theorem dX3_info_0 : decode cX3_info 0 = .ok (.aload_n 0, 1) := by decide +kernel
theorem dX3_info_1 : decode cX3_info 1 = .ok (.iload_n 1, 1) := by decide +kernel
theorem dX3_info_2 : decode cX3_info 2 = .ok (.invokevirtual 61, 3) := by decide +kernel
theorem dX3_info_5 : decode cX3_info 5 = .ok (.ifCond .ne 6, 3) := by decide +kernel
theorem dX3_info_8 : decode cX3_info 8 = .ok (.bipush (-2), 2) := by decide +kernel
theorem dX3_info_10 : decode cX3_info 10 = .ok (.ireturn, 1) := by decide +kernel
theorem dX3_info_11 : decode cX3_info 11 = .ok (.iload_n 2, 1) := by decide +kernel
theorem dX3_info_12 : decode cX3_info 12 = .ok (.tableswitch 129 0 6 #[44, 54, 64, 74, 84, 94, 112], 44) := by decide +kernel
theorem dX3_info_56 : decode cX3_info 56 = .ok (.aload_n 0, 1) := by decide +kernel
theorem dX3_info_57 : decode cX3_info 57 = .ok (.getfield 10, 3) := by decide +kernel
theorem dX3_info_60 : decode cX3_info 60 = .ok (.getfield 85, 3) := by decide +kernel
theorem dX3_info_63 : decode cX3_info 63 = .ok (.iload_n 1, 1) := by decide +kernel
theorem dX3_info_64 : decode cX3_info 64 = .ok (.iaload, 1) := by decide +kernel
theorem dX3_info_65 : decode cX3_info 65 = .ok (.ireturn, 1) := by decide +kernel
theorem dX3_info_66 : decode cX3_info 66 = .ok (.aload_n 0, 1) := by decide +kernel
theorem dX3_info_67 : decode cX3_info 67 = .ok (.getfield 10, 3) := by decide +kernel
theorem dX3_info_70 : decode cX3_info 70 = .ok (.getfield 88, 3) := by decide +kernel
theorem dX3_info_73 : decode cX3_info 73 = .ok (.iload_n 1, 1) := by decide +kernel
theorem dX3_info_74 : decode cX3_info 74 = .ok (.iaload, 1) := by decide +kernel
theorem dX3_info_75 : decode cX3_info 75 = .ok (.ireturn, 1) := by decide +kernel
theorem dX3_info_76 : decode cX3_info 76 = .ok (.aload_n 0, 1) := by decide +kernel
theorem dX3_info_77 : decode cX3_info 77 = .ok (.getfield 10, 3) := by decide +kernel
theorem dX3_info_80 : decode cX3_info 80 = .ok (.getfield 91, 3) := by decide +kernel
theorem dX3_info_83 : decode cX3_info 83 = .ok (.iload_n 1, 1) := by decide +kernel
theorem dX3_info_84 : decode cX3_info 84 = .ok (.iaload, 1) := by decide +kernel
theorem dX3_info_85 : decode cX3_info 85 = .ok (.ireturn, 1) := by decide +kernel
theorem dX3_info_86 : decode cX3_info 86 = .ok (.aload_n 0, 1) := by decide +kernel
theorem dX3_info_87 : decode cX3_info 87 = .ok (.getfield 10, 3) := by decide +kernel
theorem dX3_info_90 : decode cX3_info 90 = .ok (.getfield 65, 3) := by decide +kernel
theorem dX3_info_93 : decode cX3_info 93 = .ok (.iload_n 1, 1) := by decide +kernel
theorem dX3_info_94 : decode cX3_info 94 = .ok (.iaload, 1) := by decide +kernel
theorem dX3_info_95 : decode cX3_info 95 = .ok (.ireturn, 1) := by decide +kernel
theorem dX3_info_96 : decode cX3_info 96 = .ok (.aload_n 0, 1) := by decide +kernel
theorem dX3_info_97 : decode cX3_info 97 = .ok (.getfield 10, 3) := by decide +kernel
theorem dX3_info_100 : decode cX3_info 100 = .ok (.getfield 55, 3) := by decide +kernel
theorem dX3_info_103 : decode cX3_info 103 = .ok (.iload_n 1, 1) := by decide +kernel
theorem dX3_info_104 : decode cX3_info 104 = .ok (.iaload, 1) := by decide +kernel
theorem dX3_info_105 : decode cX3_info 105 = .ok (.ireturn, 1) := by decide +kernel
theorem dX3_info_106 : decode cX3_info 106 = .ok (.aload_n 0, 1) := by decide +kernel
theorem dX3_info_107 : decode cX3_info 107 = .ok (.getfield 10, 3) := by decide +kernel
theorem dX3_info_110 : decode cX3_info 110 = .ok (.iload_n 1, 1) := by decide +kernel
theorem dX3_info_111 : decode cX3_info 111 = .ok (.aload_n 0, 1) := by decide +kernel
theorem dX3_info_112 : decode cX3_info 112 = .ok (.getfield 10, 3) := by decide +kernel
theorem dX3_info_115 : decode cX3_info 115 = .ok (.getfield 55, 3) := by decide +kernel
theorem dX3_info_118 : decode cX3_info 118 = .ok (.iload_n 1, 1) := by decide +kernel
theorem dX3_info_119 : decode cX3_info 119 = .ok (.iaload, 1) := by decide +kernel
theorem dX3_info_120 : decode cX3_info 120 = .ok (.invokevirtual 94, 3) := by decide +kernel
theorem dX3_info_123 : decode cX3_info 123 = .ok (.ireturn, 1) := by decide +kernel
theorem dX3_info_124 : decode cX3_info 124 = .ok (.aload_n 0, 1) := by decide +kernel
theorem dX3_info_125 : decode cX3_info 125 = .ok (.getfield 10, 3) := by decide +kernel
theorem dX3_info_128 : decode cX3_info 128 = .ok (.iload_n 1, 1) := by decide +kernel
theorem dX3_info_129 : decode cX3_info 129 = .ok (.invokevirtual 98, 3) := by decide +kernel
theorem dX3_info_132 : decode cX3_info 132 = .ok (.ifCond .eq 7, 3) := by decide +kernel
theorem dX3_info_135 : decode cX3_info 135 = .ok (.iconst 1, 1) := by decide +kernel
theorem dX3_info_136 : decode cX3_info 136 = .ok (.goto 4, 3) := by decide +kernel
theorem dX3_info_139 : decode cX3_info 139 = .ok (.iconst 0, 1) := by decide +kernel
theorem dX3_info_140 : decode cX3_info 140 = .ok (.ireturn, 1) := by decide +kernel
theorem dX3_info_141 : decode cX3_info 141 = .ok (.bipush (-2), 2) := by decide +kernel
theorem dX3_info_143 : decode cX3_info 143 = .ok (.ireturn, 1) := by decide +kernel
theorem dX3_chamber_0 : decode cX3_chamber 0 = .ok (.iload_n 1, 1) := by decide +kernel
theorem dX3_chamber_1 : decode cX3_chamber 1 = .ok (.tableswitch 54 0 2 #[27, 35, 46], 27) := by decide +kernel
theorem dX3_chamber_28 : decode cX3_chamber 28 = .ok (.aload_n 0, 1) := by decide +kernel
theorem dX3_chamber_29 : decode cX3_chamber 29 = .ok (.getfield 10, 3) := by decide +kernel
theorem dX3_chamber_32 : decode cX3_chamber 32 = .ok (.getfield 37, 3) := by decide +kernel
theorem dX3_chamber_35 : decode cX3_chamber 35 = .ok (.ireturn, 1) := by decide +kernel
theorem dX3_chamber_36 : decode cX3_chamber 36 = .ok (.bipush 6, 2) := by decide +kernel
theorem dX3_chamber_38 : decode cX3_chamber 38 = .ok (.aload_n 0, 1) := by decide +kernel
theorem dX3_chamber_39 : decode cX3_chamber 39 = .ok (.getfield 10, 3) := by decide +kernel
theorem dX3_chamber_42 : decode cX3_chamber 42 = .ok (.getfield 37, 3) := by decide +kernel
theorem dX3_chamber_45 : decode cX3_chamber 45 = .ok (.imul, 1) := by decide +kernel
theorem dX3_chamber_46 : decode cX3_chamber 46 = .ok (.ireturn, 1) := by decide +kernel
theorem dX3_chamber_47 : decode cX3_chamber 47 = .ok (.aload_n 0, 1) := by decide +kernel
theorem dX3_chamber_48 : decode cX3_chamber 48 = .ok (.getfield 10, 3) := by decide +kernel
theorem dX3_chamber_51 : decode cX3_chamber 51 = .ok (.getfield 41, 3) := by decide +kernel
theorem dX3_chamber_54 : decode cX3_chamber 54 = .ok (.ireturn, 1) := by decide +kernel
theorem dX3_chamber_55 : decode cX3_chamber 55 = .ok (.bipush (-2), 2) := by decide +kernel
theorem dX3_chamber_57 : decode cX3_chamber 57 = .ok (.ireturn, 1) := by decide +kernel
theorem dX3_isBasin_0 : decode cX3_isBasin 0 = .ok (.iload_n 1, 1) := by decide +kernel
theorem dX3_isBasin_1 : decode cX3_isBasin 1 = .ok (.ifCond .lt 18, 3) := by decide +kernel
theorem dX3_isBasin_4 : decode cX3_isBasin 4 = .ok (.iload_n 1, 1) := by decide +kernel
theorem dX3_isBasin_5 : decode cX3_isBasin 5 = .ok (.aload_n 0, 1) := by decide +kernel
theorem dX3_isBasin_6 : decode cX3_isBasin 6 = .ok (.getfield 10, 3) := by decide +kernel
theorem dX3_isBasin_9 : decode cX3_isBasin 9 = .ok (.getfield 48, 3) := by decide +kernel
theorem dX3_isBasin_12 : decode cX3_isBasin 12 = .ok (.if_icmp .ge 7, 3) := by decide +kernel
theorem dX3_isBasin_15 : decode cX3_isBasin 15 = .ok (.iconst 1, 1) := by decide +kernel
theorem dX3_isBasin_16 : decode cX3_isBasin 16 = .ok (.goto 4, 3) := by decide +kernel
theorem dX3_isBasin_19 : decode cX3_isBasin 19 = .ok (.iconst 0, 1) := by decide +kernel
theorem dX3_isBasin_20 : decode cX3_isBasin 20 = .ok (.ireturn, 1) := by decide +kernel
theorem dX3_mayBeBasin_0 : decode cX3_mayBeBasin 0 = .ok (.iload_n 0, 1) := by decide +kernel
theorem dX3_mayBeBasin_1 : decode cX3_mayBeBasin 1 = .ok (.ifCond .lt 34, 3) := by decide +kernel
theorem dX3_mayBeBasin_4 : decode cX3_mayBeBasin 4 = .ok (.iload_n 0, 1) := by decide +kernel
theorem dX3_mayBeBasin_5 : decode cX3_mayBeBasin 5 = .ok (.bipush 60, 2) := by decide +kernel
theorem dX3_mayBeBasin_7 : decode cX3_mayBeBasin 7 = .ok (.if_icmp .ge 28, 3) := by decide +kernel
theorem dX3_mayBeBasin_10 : decode cX3_mayBeBasin 10 = .ok (.iload_n 1, 1) := by decide +kernel
theorem dX3_mayBeBasin_11 : decode cX3_mayBeBasin 11 = .ok (.iconst 1, 1) := by decide +kernel
theorem dX3_mayBeBasin_12 : decode cX3_mayBeBasin 12 = .ok (.if_icmp .lt 23, 3) := by decide +kernel
theorem dX3_mayBeBasin_15 : decode cX3_mayBeBasin 15 = .ok (.iload_n 1, 1) := by decide +kernel
theorem dX3_mayBeBasin_16 : decode cX3_mayBeBasin 16 = .ok (.bipush 60, 2) := by decide +kernel
theorem dX3_mayBeBasin_18 : decode cX3_mayBeBasin 18 = .ok (.if_icmp .gt 17, 3) := by decide +kernel
theorem dX3_mayBeBasin_21 : decode cX3_mayBeBasin 21 = .ok (.iload_n 2, 1) := by decide +kernel
theorem dX3_mayBeBasin_22 : decode cX3_mayBeBasin 22 = .ok (.iconst 1, 1) := by decide +kernel
theorem dX3_mayBeBasin_23 : decode cX3_mayBeBasin 23 = .ok (.if_icmp .lt 12, 3) := by decide +kernel
theorem dX3_mayBeBasin_26 : decode cX3_mayBeBasin 26 = .ok (.iload_n 2, 1) := by decide +kernel
theorem dX3_mayBeBasin_27 : decode cX3_mayBeBasin 27 = .ok (.iconst 3, 1) := by decide +kernel
theorem dX3_mayBeBasin_28 : decode cX3_mayBeBasin 28 = .ok (.if_icmp .gt 7, 3) := by decide +kernel
theorem dX3_mayBeBasin_31 : decode cX3_mayBeBasin 31 = .ok (.iconst 1, 1) := by decide +kernel
theorem dX3_mayBeBasin_32 : decode cX3_mayBeBasin 32 = .ok (.goto 4, 3) := by decide +kernel
theorem dX3_mayBeBasin_35 : decode cX3_mayBeBasin 35 = .ok (.iconst 0, 1) := by decide +kernel
theorem dX3_mayBeBasin_36 : decode cX3_mayBeBasin 36 = .ok (.ireturn, 1) := by decide +kernel
set_option maxRecDepth 20000 in
theorem ggX3_boat_X3_isWay : GoodIn wsX3_boat wsX3_isWay := goodIn_r _ [7] (by decide +kernel) (by decide +kernel)
set_option maxRecDepth 20000 in
theorem gX3_boat_X3_isWay : GoodIn wsX3_boat (va_wsS RX3 101 yX3_isWay wsX3_isWay) := goodIn_app (goodIn_of _ (by decide +kernel)) ggX3_boat_X3_isWay
set_option maxRecDepth 20000 in
theorem ggX3_boat_X0_append : GoodIn wsX3_boat wsX0_append := goodIn_r _ [12, 13, 14, 28, 29] (by decide +kernel) (by decide +kernel)
set_option maxRecDepth 20000 in
theorem gX3_boat_X0_append : GoodIn wsX3_boat (wsV RX3 108 RX0 yX0_append wsX0_append) := goodIn_app (goodIn_of _ (by decide +kernel)) ggX3_boat_X0_append
theorem dX3_boat_0 : decode cX3_boat 0 = .ok (.iload_n 1, 1) := by decide +kernel
theorem dX3_boat_1 : decode cX3_boat 1 = .ok (.invokestatic 101, 3) := by decide +kernel
theorem dX3_boat_4 : decode cX3_boat 4 = .ok (.ifCond .ne 6, 3) := by decide +kernel
theorem dX3_boat_7 : decode cX3_boat 7 = .ok (.bipush (-2), 2) := by decide +kernel
theorem dX3_boat_9 : decode cX3_boat 9 = .ok (.ireturn, 1) := by decide +kernel
theorem dX3_boat_10 : decode cX3_boat 10 = .ok (.aload_n 0, 1) := by decide +kernel
theorem dX3_boat_11 : decode cX3_boat 11 = .ok (.getfield 21, 3) := by decide +kernel
theorem dX3_boat_14 : decode cX3_boat 14 = .ok (.iload_n 1, 1) := by decide +kernel
theorem dX3_boat_15 : decode cX3_boat 15 = .ok (.aaload, 1) := by decide +kernel
theorem dX3_boat_16 : decode cX3_boat 16 = .ok (.getfield 104, 3) := by decide +kernel
theorem dX3_boat_19 : decode cX3_boat 19 = .ok (.bipush 16, 2) := by decide +kernel
theorem dX3_boat_21 : decode cX3_boat 21 = .ok (.if_icmp .ge 12, 3) := by decide +kernel
theorem dX3_boat_24 : decode cX3_boat 24 = .ok (.aload_n 0, 1) := by decide +kernel
theorem dX3_boat_25 : decode cX3_boat 25 = .ok (.getfield 105, 3) := by decide +kernel
theorem dX3_boat_28 : decode cX3_boat 28 = .ok (.bipush 100, 2) := by decide +kernel
theorem dX3_boat_30 : decode cX3_boat 30 = .ok (.if_icmp .lt 6, 3) := by decide +kernel
theorem dX3_boat_33 : decode cX3_boat 33 = .ok (.bipush (-4), 2) := by decide +kernel
theorem dX3_boat_35 : decode cX3_boat 35 = .ok (.ireturn, 1) := by decide +kernel
theorem dX3_boat_36 : decode cX3_boat 36 = .ok (.aload_n 0, 1) := by decide +kernel
theorem dX3_boat_37 : decode cX3_boat 37 = .ok (.getfield 105, 3) := by decide +kernel
theorem dX3_boat_40 : decode cX3_boat 40 = .ok (.istore_n 2, 1) := by decide +kernel
theorem dX3_boat_41 : decode cX3_boat 41 = .ok (.aload_n 0, 1) := by decide +kernel
theorem dX3_boat_42 : decode cX3_boat 42 = .ok (.getfield 21, 3) := by decide +kernel
theorem dX3_boat_45 : decode cX3_boat 45 = .ok (.iload_n 1, 1) := by decide +kernel
theorem dX3_boat_46 : decode cX3_boat 46 = .ok (.aaload, 1) := by decide +kernel
theorem dX3_boat_47 : decode cX3_boat 47 = .ok (.iload_n 2, 1) := by decide +kernel
theorem dX3_boat_48 : decode cX3_boat 48 = .ok (.invokevirtual 108, 3) := by decide +kernel
theorem dX3_boat_51 : decode cX3_boat 51 = .ok (.aload_n 0, 1) := by decide +kernel
theorem dX3_boat_52 : decode cX3_boat 52 = .ok (.dup, 1) := by decide +kernel
theorem dX3_boat_53 : decode cX3_boat 53 = .ok (.getfield 105, 3) := by decide +kernel
theorem dX3_boat_56 : decode cX3_boat 56 = .ok (.iconst 1, 1) := by decide +kernel
theorem dX3_boat_57 : decode cX3_boat 57 = .ok (.iadd, 1) := by decide +kernel
theorem dX3_boat_58 : decode cX3_boat 58 = .ok (.putfield 105, 3) := by decide +kernel
theorem dX3_boat_61 : decode cX3_boat 61 = .ok (.iload_n 2, 1) := by decide +kernel
theorem dX3_boat_62 : decode cX3_boat 62 = .ok (.ireturn, 1) := by decide +kernel
set_option maxRecDepth 20000 in
theorem ggX3_leave_X0_placeOf : GoodIn wsX3_leave wsX0_placeOf := goodIn_r _ [7, 8, 9, 31, 32] (by decide +kernel) (by decide +kernel)
set_option maxRecDepth 20000 in
theorem gX3_leave_X0_placeOf : GoodIn wsX3_leave (wsV RX3 112 RX0 yX0_placeOf wsX0_placeOf) := goodIn_app (goodIn_of _ (by decide +kernel)) ggX3_leave_X0_placeOf
set_option maxRecDepth 20000 in
theorem ggX3_leave_X0_removeAt : GoodIn wsX3_leave wsX0_removeAt := goodIn_r _ [13, 8, 9, 14, 15, 16, 17, 31, 32] (by decide +kernel) (by decide +kernel)
set_option maxRecDepth 20000 in
theorem gX3_leave_X0_removeAt : GoodIn wsX3_leave (wsV RX3 115 RX0 yX0_removeAt wsX0_removeAt) := goodIn_app (goodIn_of _ (by decide +kernel)) ggX3_leave_X0_removeAt
theorem dX3_leave_0 : decode cX3_leave 0 = .ok (.iload_n 1, 1) := by decide +kernel
theorem dX3_leave_1 : decode cX3_leave 1 = .ok (.ifCond .ge 6, 3) := by decide +kernel
theorem dX3_leave_4 : decode cX3_leave 4 = .ok (.bipush (-2), 2) := by decide +kernel
theorem dX3_leave_6 : decode cX3_leave 6 = .ok (.ireturn, 1) := by decide +kernel
theorem dX3_leave_7 : decode cX3_leave 7 = .ok (.iconst 0, 1) := by decide +kernel
theorem dX3_leave_8 : decode cX3_leave 8 = .ok (.istore_n 2, 1) := by decide +kernel
theorem dX3_leave_9 : decode cX3_leave 9 = .ok (.iload_n 2, 1) := by decide +kernel
theorem dX3_leave_10 : decode cX3_leave 10 = .ok (.iconst 1, 1) := by decide +kernel
theorem dX3_leave_11 : decode cX3_leave 11 = .ok (.if_icmp .gt 45, 3) := by decide +kernel
theorem dX3_leave_14 : decode cX3_leave 14 = .ok (.aload_n 0, 1) := by decide +kernel
theorem dX3_leave_15 : decode cX3_leave 15 = .ok (.getfield 21, 3) := by decide +kernel
theorem dX3_leave_18 : decode cX3_leave 18 = .ok (.iload_n 2, 1) := by decide +kernel
theorem dX3_leave_19 : decode cX3_leave 19 = .ok (.aaload, 1) := by decide +kernel
theorem dX3_leave_20 : decode cX3_leave 20 = .ok (.iload_n 1, 1) := by decide +kernel
theorem dX3_leave_21 : decode cX3_leave 21 = .ok (.invokevirtual 112, 3) := by decide +kernel
theorem dX3_leave_24 : decode cX3_leave 24 = .ok (.istore_n 3, 1) := by decide +kernel
theorem dX3_leave_25 : decode cX3_leave 25 = .ok (.iload_n 3, 1) := by decide +kernel
theorem dX3_leave_26 : decode cX3_leave 26 = .ok (.iconst (-1), 1) := by decide +kernel
theorem dX3_leave_27 : decode cX3_leave 27 = .ok (.if_icmp .eq 23, 3) := by decide +kernel
theorem dX3_leave_30 : decode cX3_leave 30 = .ok (.aload_n 0, 1) := by decide +kernel
theorem dX3_leave_31 : decode cX3_leave 31 = .ok (.getfield 21, 3) := by decide +kernel
theorem dX3_leave_34 : decode cX3_leave 34 = .ok (.iload_n 2, 1) := by decide +kernel
theorem dX3_leave_35 : decode cX3_leave 35 = .ok (.aaload, 1) := by decide +kernel
theorem dX3_leave_36 : decode cX3_leave 36 = .ok (.iload_n 3, 1) := by decide +kernel
theorem dX3_leave_37 : decode cX3_leave 37 = .ok (.invokevirtual 115, 3) := by decide +kernel
theorem dX3_leave_40 : decode cX3_leave 40 = .ok (.aload_n 0, 1) := by decide +kernel
theorem dX3_leave_41 : decode cX3_leave 41 = .ok (.getfield 21, 3) := by decide +kernel
theorem dX3_leave_44 : decode cX3_leave 44 = .ok (.iload_n 2, 1) := by decide +kernel
theorem dX3_leave_45 : decode cX3_leave 45 = .ok (.aaload, 1) := by decide +kernel
theorem dX3_leave_46 : decode cX3_leave 46 = .ok (.getfield 104, 3) := by decide +kernel
theorem dX3_leave_49 : decode cX3_leave 49 = .ok (.ireturn, 1) := by decide +kernel
theorem dX3_leave_50 : decode cX3_leave 50 = .ok (.iinc 2 1, 3) := by decide +kernel
theorem dX3_leave_53 : decode cX3_leave 53 = .ok (.goto (-44), 3) := by decide +kernel
theorem dX3_leave_56 : decode cX3_leave 56 = .ok (.bipush (-3), 2) := by decide +kernel
theorem dX3_leave_58 : decode cX3_leave 58 = .ok (.ireturn, 1) := by decide +kernel
set_option maxRecDepth 20000 in
theorem ggX3_waits_X3_isWay : GoodIn wsX3_waits wsX3_isWay := goodIn_r _ [6] (by decide +kernel) (by decide +kernel)
set_option maxRecDepth 20000 in
theorem gX3_waits_X3_isWay : GoodIn wsX3_waits (va_wsS RX3 101 yX3_isWay wsX3_isWay) := goodIn_app (goodIn_of _ (by decide +kernel)) ggX3_waits_X3_isWay
set_option maxRecDepth 20000 in
theorem ggX3_waits_X0_boatAt : GoodIn wsX3_waits wsX0_boatAt := goodIn_r _ [11, 12, 13, 27, 28] (by decide +kernel) (by decide +kernel)
set_option maxRecDepth 20000 in
theorem gX3_waits_X0_boatAt : GoodIn wsX3_waits (wsV RX3 118 RX0 yX0_boatAt wsX0_boatAt) := goodIn_app (goodIn_of _ (by decide +kernel)) ggX3_waits_X0_boatAt
theorem dX3_waits_0 : decode cX3_waits 0 = .ok (.iload_n 1, 1) := by decide +kernel
theorem dX3_waits_1 : decode cX3_waits 1 = .ok (.invokestatic 101, 3) := by decide +kernel
theorem dX3_waits_4 : decode cX3_waits 4 = .ok (.ifCond .eq 14, 3) := by decide +kernel
theorem dX3_waits_7 : decode cX3_waits 7 = .ok (.iload_n 2, 1) := by decide +kernel
theorem dX3_waits_8 : decode cX3_waits 8 = .ok (.iconst (-1), 1) := by decide +kernel
theorem dX3_waits_9 : decode cX3_waits 9 = .ok (.if_icmp .lt 9, 3) := by decide +kernel
theorem dX3_waits_12 : decode cX3_waits 12 = .ok (.iload_n 2, 1) := by decide +kernel
theorem dX3_waits_13 : decode cX3_waits 13 = .ok (.bipush 16, 2) := by decide +kernel
theorem dX3_waits_15 : decode cX3_waits 15 = .ok (.if_icmp .lt 6, 3) := by decide +kernel
theorem dX3_waits_18 : decode cX3_waits 18 = .ok (.bipush (-2), 2) := by decide +kernel
theorem dX3_waits_20 : decode cX3_waits 20 = .ok (.ireturn, 1) := by decide +kernel
theorem dX3_waits_21 : decode cX3_waits 21 = .ok (.iload_n 2, 1) := by decide +kernel
theorem dX3_waits_22 : decode cX3_waits 22 = .ok (.iconst (-1), 1) := by decide +kernel
theorem dX3_waits_23 : decode cX3_waits 23 = .ok (.if_icmp .ne 15, 3) := by decide +kernel
theorem dX3_waits_26 : decode cX3_waits 26 = .ok (.aload_n 0, 1) := by decide +kernel
theorem dX3_waits_27 : decode cX3_waits 27 = .ok (.getfield 21, 3) := by decide +kernel
theorem dX3_waits_30 : decode cX3_waits 30 = .ok (.iload_n 1, 1) := by decide +kernel
theorem dX3_waits_31 : decode cX3_waits 31 = .ok (.aaload, 1) := by decide +kernel
theorem dX3_waits_32 : decode cX3_waits 32 = .ok (.getfield 104, 3) := by decide +kernel
theorem dX3_waits_35 : decode cX3_waits 35 = .ok (.goto 13, 3) := by decide +kernel
theorem dX3_waits_38 : decode cX3_waits 38 = .ok (.aload_n 0, 1) := by decide +kernel
theorem dX3_waits_39 : decode cX3_waits 39 = .ok (.getfield 21, 3) := by decide +kernel
theorem dX3_waits_42 : decode cX3_waits 42 = .ok (.iload_n 1, 1) := by decide +kernel
theorem dX3_waits_43 : decode cX3_waits 43 = .ok (.aaload, 1) := by decide +kernel
theorem dX3_waits_44 : decode cX3_waits 44 = .ok (.iload_n 2, 1) := by decide +kernel
theorem dX3_waits_45 : decode cX3_waits 45 = .ok (.invokevirtual 118, 3) := by decide +kernel
theorem dX3_waits_48 : decode cX3_waits 48 = .ok (.ireturn, 1) := by decide +kernel
theorem dX3_rule_0 : decode cX3_rule 0 = .ok (.iload_n 1, 1) := by decide +kernel
theorem dX3_rule_1 : decode cX3_rule 1 = .ok (.ifCond .eq 11, 3) := by decide +kernel
theorem dX3_rule_4 : decode cX3_rule 4 = .ok (.iload_n 1, 1) := by decide +kernel
theorem dX3_rule_5 : decode cX3_rule 5 = .ok (.iconst 1, 1) := by decide +kernel
theorem dX3_rule_6 : decode cX3_rule 6 = .ok (.if_icmp .eq 6, 3) := by decide +kernel
theorem dX3_rule_9 : decode cX3_rule 9 = .ok (.bipush (-2), 2) := by decide +kernel
theorem dX3_rule_11 : decode cX3_rule 11 = .ok (.ireturn, 1) := by decide +kernel
theorem dX3_rule_12 : decode cX3_rule 12 = .ok (.aload_n 0, 1) := by decide +kernel
theorem dX3_rule_13 : decode cX3_rule 13 = .ok (.getfield 121, 3) := by decide +kernel
theorem dX3_rule_16 : decode cX3_rule 16 = .ok (.istore_n 2, 1) := by decide +kernel
theorem dX3_rule_17 : decode cX3_rule 17 = .ok (.aload_n 0, 1) := by decide +kernel
theorem dX3_rule_18 : decode cX3_rule 18 = .ok (.iload_n 1, 1) := by decide +kernel
theorem dX3_rule_19 : decode cX3_rule 19 = .ok (.putfield 121, 3) := by decide +kernel
theorem dX3_rule_22 : decode cX3_rule 22 = .ok (.iload_n 2, 1) := by decide +kernel
theorem dX3_rule_23 : decode cX3_rule 23 = .ok (.ireturn, 1) := by decide +kernel
set_option maxRecDepth 20000 in
theorem ggX3_serve_X3_wayServedNext : GoodIn wsX3_serve wsX3_wayServedNext := goodIn_r _ [7, 2, 8, 9, 10, 11, 12, 13, 14, 15, 16, 17, 18, 6, 19, 20, 21, 97, 98, 99, 100, 101, 102, 103, 104, 105, 106, 107, 108, 109, 110, 111, 112, 113, 114, 115, 116, 117, 118, 119, 120, 121, 122, 123, 124, 125] (by decide +kernel) (by decide +kernel)
set_option maxRecDepth 20000 in
theorem gX3_serve_X3_wayServedNext : GoodIn wsX3_serve (wsV RX3 124 RX3 yX3_wayServedNext wsX3_wayServedNext) := goodIn_app (goodIn_of _ (by decide +kernel)) ggX3_serve_X3_wayServedNext
set_option maxRecDepth 20000 in
theorem ggX3_serve_X3_turnsToServe : GoodIn wsX3_serve wsX3_turnsToServe := goodIn_r _ [25, 16, 17, 18, 6, 19, 20, 21, 97, 98, 99, 100, 101, 102, 103, 104, 105, 106, 107, 108, 109, 112, 113, 114, 115, 116, 117, 118, 119, 120, 121, 122, 123, 124, 125] (by decide +kernel) (by decide +kernel)
set_option maxRecDepth 20000 in
theorem gX3_serve_X3_turnsToServe : GoodIn wsX3_serve (wsV RX3 128 RX3 yX3_turnsToServe wsX3_turnsToServe) := goodIn_app (goodIn_of _ (by decide +kernel)) ggX3_serve_X3_turnsToServe
set_option maxRecDepth 20000 in
theorem ggX3_serve_X3_makeTurnFor : GoodIn wsX3_serve wsX3_makeTurnFor := goodIn_r _ [29, 20, 21, 30, 31, 32, 33, 34, 35, 1, 36, 37, 38, 39, 40, 41, 42, 43, 44, 45, 46, 47, 48, 49, 50, 51, 52, 53, 54, 55, 56, 57, 58, 59, 60, 61, 62, 63, 64, 65, 66, 67, 68, 69, 70, 71, 72, 73, 74, 75, 76, 77, 78, 79, 80, 81, 82, 83, 84, 6, 85, 86, 87, 88, 97, 98, 99, 100, 101, 102, 103, 104, 105, 106, 107, 108, 109, 112, 113, 114, 115, 116, 117, 118, 119, 120, 121, 122, 123, 124, 125] (by decide +kernel) (by decide +kernel)
set_option maxRecDepth 20000 in
theorem gX3_serve_X3_makeTurnFor : GoodIn wsX3_serve (wsV RX3 134 RX3 yX3_makeTurnFor wsX3_makeTurnFor) := goodIn_app (goodIn_of _ (by decide +kernel)) ggX3_serve_X3_makeTurnFor
set_option maxRecDepth 20000 in
theorem ggX3_serve_X0_boatAt : GoodIn wsX3_serve wsX0_boatAt := goodIn_r _ [13, 14, 15, 110, 111] (by decide +kernel) (by decide +kernel)
set_option maxRecDepth 20000 in
theorem gX3_serve_X0_boatAt : GoodIn wsX3_serve (wsV RX3 118 RX0 yX0_boatAt wsX0_boatAt) := goodIn_app (goodIn_of _ (by decide +kernel)) ggX3_serve_X0_boatAt
set_option maxRecDepth 20000 in
theorem ggX3_serve_X0_removeAt : GoodIn wsX3_serve wsX0_removeAt := goodIn_r _ [92, 14, 15, 93, 94, 95, 96, 110, 111] (by decide +kernel) (by decide +kernel)
set_option maxRecDepth 20000 in
theorem gX3_serve_X0_removeAt : GoodIn wsX3_serve (wsV RX3 115 RX0 yX0_removeAt wsX0_removeAt) := goodIn_app (goodIn_of _ (by decide +kernel)) ggX3_serve_X0_removeAt
theorem dX3_serve_0 : decode cX3_serve 0 = .ok (.aload_n 0, 1) := by decide +kernel
theorem dX3_serve_1 : decode cX3_serve 1 = .ok (.invokevirtual 124, 3) := by decide +kernel
theorem dX3_serve_4 : decode cX3_serve 4 = .ok (.istore_n 1, 1) := by decide +kernel
theorem dX3_serve_5 : decode cX3_serve 5 = .ok (.iload_n 1, 1) := by decide +kernel
theorem dX3_serve_6 : decode cX3_serve 6 = .ok (.iconst (-1), 1) := by decide +kernel
theorem dX3_serve_7 : decode cX3_serve 7 = .ok (.if_icmp .ne 6, 3) := by decide +kernel
theorem dX3_serve_10 : decode cX3_serve 10 = .ok (.bipush (-3), 2) := by decide +kernel
theorem dX3_serve_12 : decode cX3_serve 12 = .ok (.ireturn, 1) := by decide +kernel
theorem dX3_serve_13 : decode cX3_serve 13 = .ok (.aload_n 0, 1) := by decide +kernel
theorem dX3_serve_14 : decode cX3_serve 14 = .ok (.iload_n 1, 1) := by decide +kernel
theorem dX3_serve_15 : decode cX3_serve 15 = .ok (.invokevirtual 128, 3) := by decide +kernel
theorem dX3_serve_18 : decode cX3_serve 18 = .ok (.istore_n 2, 1) := by decide +kernel
theorem dX3_serve_19 : decode cX3_serve 19 = .ok (.aload_n 0, 1) := by decide +kernel
theorem dX3_serve_20 : decode cX3_serve 20 = .ok (.getfield 131, 3) := by decide +kernel
theorem dX3_serve_23 : decode cX3_serve 23 = .ok (.iload_n 2, 1) := by decide +kernel
theorem dX3_serve_24 : decode cX3_serve 24 = .ok (.iadd, 1) := by decide +kernel
theorem dX3_serve_25 : decode cX3_serve 25 = .ok (.bipush 60, 2) := by decide +kernel
theorem dX3_serve_27 : decode cX3_serve 27 = .ok (.if_icmp .le 6, 3) := by decide +kernel
theorem dX3_serve_30 : decode cX3_serve 30 = .ok (.bipush (-4), 2) := by decide +kernel
theorem dX3_serve_32 : decode cX3_serve 32 = .ok (.ireturn, 1) := by decide +kernel
theorem dX3_serve_33 : decode cX3_serve 33 = .ok (.iload_n 2, 1) := by decide +kernel
theorem dX3_serve_34 : decode cX3_serve 34 = .ok (.iconst 2, 1) := by decide +kernel
theorem dX3_serve_35 : decode cX3_serve 35 = .ok (.if_icmp .ne 8, 3) := by decide +kernel
theorem dX3_serve_38 : decode cX3_serve 38 = .ok (.aload_n 0, 1) := by decide +kernel
theorem dX3_serve_39 : decode cX3_serve 39 = .ok (.iconst (-1), 1) := by decide +kernel
theorem dX3_serve_40 : decode cX3_serve 40 = .ok (.invokevirtual 134, 3) := by decide +kernel
theorem dX3_serve_43 : decode cX3_serve 43 = .ok (.aload_n 0, 1) := by decide +kernel
theorem dX3_serve_44 : decode cX3_serve 44 = .ok (.getfield 21, 3) := by decide +kernel
theorem dX3_serve_47 : decode cX3_serve 47 = .ok (.iload_n 1, 1) := by decide +kernel
theorem dX3_serve_48 : decode cX3_serve 48 = .ok (.aaload, 1) := by decide +kernel
theorem dX3_serve_49 : decode cX3_serve 49 = .ok (.iconst 0, 1) := by decide +kernel
theorem dX3_serve_50 : decode cX3_serve 50 = .ok (.invokevirtual 118, 3) := by decide +kernel
theorem dX3_serve_53 : decode cX3_serve 53 = .ok (.istore_n 3, 1) := by decide +kernel
theorem dX3_serve_54 : decode cX3_serve 54 = .ok (.aload_n 0, 1) := by decide +kernel
theorem dX3_serve_55 : decode cX3_serve 55 = .ok (.getfield 21, 3) := by decide +kernel
theorem dX3_serve_58 : decode cX3_serve 58 = .ok (.iload_n 1, 1) := by decide +kernel
theorem dX3_serve_59 : decode cX3_serve 59 = .ok (.aaload, 1) := by decide +kernel
theorem dX3_serve_60 : decode cX3_serve 60 = .ok (.iconst 0, 1) := by decide +kernel
theorem dX3_serve_61 : decode cX3_serve 61 = .ok (.invokevirtual 115, 3) := by decide +kernel
theorem dX3_serve_64 : decode cX3_serve 64 = .ok (.aload_n 0, 1) := by decide +kernel
theorem dX3_serve_65 : decode cX3_serve 65 = .ok (.iload_n 3, 1) := by decide +kernel
theorem dX3_serve_66 : decode cX3_serve 66 = .ok (.invokevirtual 134, 3) := by decide +kernel
theorem dX3_serve_69 : decode cX3_serve 69 = .ok (.iload_n 3, 1) := by decide +kernel
theorem dX3_serve_70 : decode cX3_serve 70 = .ok (.ireturn, 1) := by decide +kernel
set_option maxRecDepth 20000 in
theorem ggX3_next_X3_wayServedNext : GoodIn wsX3_next wsX3_wayServedNext := goodIn_r _ [6, 1, 7, 8, 9, 10, 11, 12, 13, 14, 15, 16, 17, 5, 18, 19, 20, 25, 26, 27, 28, 29, 30, 31, 32, 33, 34, 35, 36, 37, 38, 39, 40, 41, 42, 43, 44, 45, 46, 47, 48, 49, 50, 51, 52, 53] (by decide +kernel) (by decide +kernel)
set_option maxRecDepth 20000 in
theorem gX3_next_X3_wayServedNext : GoodIn wsX3_next (wsV RX3 124 RX3 yX3_wayServedNext wsX3_wayServedNext) := goodIn_app (goodIn_of _ (by decide +kernel)) ggX3_next_X3_wayServedNext
set_option maxRecDepth 20000 in
theorem ggX3_next_X0_boatAt : GoodIn wsX3_next wsX0_boatAt := goodIn_r _ [12, 13, 14, 38, 39] (by decide +kernel) (by decide +kernel)
set_option maxRecDepth 20000 in
theorem gX3_next_X0_boatAt : GoodIn wsX3_next (wsV RX3 118 RX0 yX0_boatAt wsX0_boatAt) := goodIn_app (goodIn_of _ (by decide +kernel)) ggX3_next_X0_boatAt
set_option maxRecDepth 20000 in
theorem ggX3_next_X3_turnsToServe : GoodIn wsX3_next wsX3_turnsToServe := goodIn_r _ [24, 15, 16, 17, 5, 18, 19, 20, 25, 26, 27, 28, 29, 30, 31, 32, 33, 34, 35, 36, 37, 40, 41, 42, 43, 44, 45, 46, 47, 48, 49, 50, 51, 52, 53] (by decide +kernel) (by decide +kernel)
set_option maxRecDepth 20000 in
theorem gX3_next_X3_turnsToServe : GoodIn wsX3_next (wsV RX3 128 RX3 yX3_turnsToServe wsX3_turnsToServe) := goodIn_app (goodIn_of _ (by decide +kernel)) ggX3_next_X3_turnsToServe
theorem dX3_next_0 : decode cX3_next 0 = .ok (.iload_n 1, 1) := by decide +kernel
theorem dX3_next_1 : decode cX3_next 1 = .ok (.ifCond .eq 11, 3) := by decide +kernel
theorem dX3_next_4 : decode cX3_next 4 = .ok (.iload_n 1, 1) := by decide +kernel
theorem dX3_next_5 : decode cX3_next 5 = .ok (.iconst 1, 1) := by decide +kernel
theorem dX3_next_6 : decode cX3_next 6 = .ok (.if_icmp .eq 6, 3) := by decide +kernel
theorem dX3_next_9 : decode cX3_next 9 = .ok (.bipush (-2), 2) := by decide +kernel
theorem dX3_next_11 : decode cX3_next 11 = .ok (.ireturn, 1) := by decide +kernel
theorem dX3_next_12 : decode cX3_next 12 = .ok (.aload_n 0, 1) := by decide +kernel
theorem dX3_next_13 : decode cX3_next 13 = .ok (.invokevirtual 124, 3) := by decide +kernel
theorem dX3_next_16 : decode cX3_next 16 = .ok (.istore_n 2, 1) := by decide +kernel
theorem dX3_next_17 : decode cX3_next 17 = .ok (.iload_n 2, 1) := by decide +kernel
theorem dX3_next_18 : decode cX3_next 18 = .ok (.iconst (-1), 1) := by decide +kernel
theorem dX3_next_19 : decode cX3_next 19 = .ok (.if_icmp .ne 13, 3) := by decide +kernel
theorem dX3_next_22 : decode cX3_next 22 = .ok (.iload_n 1, 1) := by decide +kernel
theorem dX3_next_23 : decode cX3_next 23 = .ok (.ifCond .ne 7, 3) := by decide +kernel
theorem dX3_next_26 : decode cX3_next 26 = .ok (.iconst (-1), 1) := by decide +kernel
theorem dX3_next_27 : decode cX3_next 27 = .ok (.goto 4, 3) := by decide +kernel
theorem dX3_next_30 : decode cX3_next 30 = .ok (.iconst 0, 1) := by decide +kernel
theorem dX3_next_31 : decode cX3_next 31 = .ok (.ireturn, 1) := by decide +kernel
theorem dX3_next_32 : decode cX3_next 32 = .ok (.iload_n 1, 1) := by decide +kernel
theorem dX3_next_33 : decode cX3_next 33 = .ok (.ifCond .ne 16, 3) := by decide +kernel
theorem dX3_next_36 : decode cX3_next 36 = .ok (.aload_n 0, 1) := by decide +kernel
theorem dX3_next_37 : decode cX3_next 37 = .ok (.getfield 21, 3) := by decide +kernel
theorem dX3_next_40 : decode cX3_next 40 = .ok (.iload_n 2, 1) := by decide +kernel
theorem dX3_next_41 : decode cX3_next 41 = .ok (.aaload, 1) := by decide +kernel
theorem dX3_next_42 : decode cX3_next 42 = .ok (.iconst 0, 1) := by decide +kernel
theorem dX3_next_43 : decode cX3_next 43 = .ok (.invokevirtual 118, 3) := by decide +kernel
theorem dX3_next_46 : decode cX3_next 46 = .ok (.goto 8, 3) := by decide +kernel
theorem dX3_next_49 : decode cX3_next 49 = .ok (.aload_n 0, 1) := by decide +kernel
theorem dX3_next_50 : decode cX3_next 50 = .ok (.iload_n 2, 1) := by decide +kernel
theorem dX3_next_51 : decode cX3_next 51 = .ok (.invokevirtual 128, 3) := by decide +kernel
theorem dX3_next_54 : decode cX3_next 54 = .ok (.ireturn, 1) := by decide +kernel
theorem dX3_isWay_0 : decode cX3_isWay 0 = .ok (.iload_n 0, 1) := by decide +kernel
theorem dX3_isWay_1 : decode cX3_isWay 1 = .ok (.ifCond .eq 8, 3) := by decide +kernel
theorem dX3_isWay_4 : decode cX3_isWay 4 = .ok (.iload_n 0, 1) := by decide +kernel
theorem dX3_isWay_5 : decode cX3_isWay 5 = .ok (.iconst 1, 1) := by decide +kernel
theorem dX3_isWay_6 : decode cX3_isWay 6 = .ok (.if_icmp .ne 7, 3) := by decide +kernel
theorem dX3_isWay_9 : decode cX3_isWay 9 = .ok (.iconst 1, 1) := by decide +kernel
theorem dX3_isWay_10 : decode cX3_isWay 10 = .ok (.goto 4, 3) := by decide +kernel
theorem dX3_isWay_13 : decode cX3_isWay 13 = .ok (.iconst 0, 1) := by decide +kernel
theorem dX3_isWay_14 : decode cX3_isWay 14 = .ok (.ireturn, 1) := by decide +kernel
theorem dX3_wayAtChamber_0 : decode cX3_wayAtChamber 0 = .ok (.aload_n 0, 1) := by decide +kernel
theorem dX3_wayAtChamber_1 : decode cX3_wayAtChamber 1 = .ok (.getfield 10, 3) := by decide +kernel
theorem dX3_wayAtChamber_4 : decode cX3_wayAtChamber 4 = .ok (.getfield 37, 3) := by decide +kernel
theorem dX3_wayAtChamber_7 : decode cX3_wayAtChamber 7 = .ok (.ifCond .ne 7, 3) := by decide +kernel
theorem dX3_wayAtChamber_10 : decode cX3_wayAtChamber 10 = .ok (.iconst 1, 1) := by decide +kernel
theorem dX3_wayAtChamber_11 : decode cX3_wayAtChamber 11 = .ok (.goto 4, 3) := by decide +kernel
theorem dX3_wayAtChamber_14 : decode cX3_wayAtChamber 14 = .ok (.iconst 0, 1) := by decide +kernel
theorem dX3_wayAtChamber_15 : decode cX3_wayAtChamber 15 = .ok (.ireturn, 1) := by decide +kernel
set_option maxRecDepth 20000 in
theorem ggX3_wayServedNext_X0_boatAt : GoodIn wsX3_wayServedNext wsX0_boatAt := goodIn_r _ [7, 8, 9, 30, 31] (by decide +kernel) (by decide +kernel)
set_option maxRecDepth 20000 in
theorem gX3_wayServedNext_X0_boatAt : GoodIn wsX3_wayServedNext (wsV RX3 118 RX0 yX0_boatAt wsX0_boatAt) := goodIn_app (goodIn_of _ (by decide +kernel)) ggX3_wayServedNext_X0_boatAt
set_option maxRecDepth 20000 in
theorem ggX3_wayServedNext_X3_wayAtChamber : GoodIn wsX3_wayServedNext wsX3_wayAtChamber := goodIn_r _ [14, 15, 16, 17, 18, 19, 20, 21, 22, 23, 24, 25, 26, 27, 28, 29, 32, 33, 34, 35, 36, 37, 38, 39, 40, 41, 42, 43, 44, 45] (by decide +kernel) (by decide +kernel)
set_option maxRecDepth 20000 in
theorem gX3_wayServedNext_X3_wayAtChamber : GoodIn wsX3_wayServedNext (wsV RX3 137 RX3 yX3_wayAtChamber wsX3_wayAtChamber) := goodIn_app (goodIn_of _ (by decide +kernel)) ggX3_wayServedNext_X3_wayAtChamber
theorem dX3_wayServedNext_0 : decode cX3_wayServedNext 0 = .ok (.aload_n 0, 1) := by decide +kernel
theorem dX3_wayServedNext_1 : decode cX3_wayServedNext 1 = .ok (.getfield 21, 3) := by decide +kernel
theorem dX3_wayServedNext_4 : decode cX3_wayServedNext 4 = .ok (.iconst 0, 1) := by decide +kernel
theorem dX3_wayServedNext_5 : decode cX3_wayServedNext 5 = .ok (.aaload, 1) := by decide +kernel
theorem dX3_wayServedNext_6 : decode cX3_wayServedNext 6 = .ok (.iconst 0, 1) := by decide +kernel
theorem dX3_wayServedNext_7 : decode cX3_wayServedNext 7 = .ok (.invokevirtual 118, 3) := by decide +kernel
theorem dX3_wayServedNext_10 : decode cX3_wayServedNext 10 = .ok (.istore_n 1, 1) := by decide +kernel
theorem dX3_wayServedNext_11 : decode cX3_wayServedNext 11 = .ok (.aload_n 0, 1) := by decide +kernel
theorem dX3_wayServedNext_12 : decode cX3_wayServedNext 12 = .ok (.getfield 21, 3) := by decide +kernel
theorem dX3_wayServedNext_15 : decode cX3_wayServedNext 15 = .ok (.iconst 1, 1) := by decide +kernel
theorem dX3_wayServedNext_16 : decode cX3_wayServedNext 16 = .ok (.aaload, 1) := by decide +kernel
theorem dX3_wayServedNext_17 : decode cX3_wayServedNext 17 = .ok (.iconst 0, 1) := by decide +kernel
theorem dX3_wayServedNext_18 : decode cX3_wayServedNext 18 = .ok (.invokevirtual 118, 3) := by decide +kernel
theorem dX3_wayServedNext_21 : decode cX3_wayServedNext 21 = .ok (.istore_n 2, 1) := by decide +kernel
theorem dX3_wayServedNext_22 : decode cX3_wayServedNext 22 = .ok (.iload_n 1, 1) := by decide +kernel
theorem dX3_wayServedNext_23 : decode cX3_wayServedNext 23 = .ok (.iconst (-1), 1) := by decide +kernel
theorem dX3_wayServedNext_24 : decode cX3_wayServedNext 24 = .ok (.if_icmp .ne 14, 3) := by decide +kernel
theorem dX3_wayServedNext_27 : decode cX3_wayServedNext 27 = .ok (.iload_n 2, 1) := by decide +kernel
theorem dX3_wayServedNext_28 : decode cX3_wayServedNext 28 = .ok (.iconst (-1), 1) := by decide +kernel
theorem dX3_wayServedNext_29 : decode cX3_wayServedNext 29 = .ok (.if_icmp .ne 7, 3) := by decide +kernel
theorem dX3_wayServedNext_32 : decode cX3_wayServedNext 32 = .ok (.iconst (-1), 1) := by decide +kernel
theorem dX3_wayServedNext_33 : decode cX3_wayServedNext 33 = .ok (.goto 4, 3) := by decide +kernel
theorem dX3_wayServedNext_36 : decode cX3_wayServedNext 36 = .ok (.iconst 1, 1) := by decide +kernel
theorem dX3_wayServedNext_37 : decode cX3_wayServedNext 37 = .ok (.ireturn, 1) := by decide +kernel
theorem dX3_wayServedNext_38 : decode cX3_wayServedNext 38 = .ok (.iload_n 2, 1) := by decide +kernel
theorem dX3_wayServedNext_39 : decode cX3_wayServedNext 39 = .ok (.iconst (-1), 1) := by decide +kernel
theorem dX3_wayServedNext_40 : decode cX3_wayServedNext 40 = .ok (.if_icmp .ne 5, 3) := by decide +kernel
theorem dX3_wayServedNext_43 : decode cX3_wayServedNext 43 = .ok (.iconst 0, 1) := by decide +kernel
theorem dX3_wayServedNext_44 : decode cX3_wayServedNext 44 = .ok (.ireturn, 1) := by decide +kernel
theorem dX3_wayServedNext_45 : decode cX3_wayServedNext 45 = .ok (.aload_n 0, 1) := by decide +kernel
theorem dX3_wayServedNext_46 : decode cX3_wayServedNext 46 = .ok (.getfield 121, 3) := by decide +kernel
theorem dX3_wayServedNext_49 : decode cX3_wayServedNext 49 = .ok (.iconst 1, 1) := by decide +kernel
theorem dX3_wayServedNext_50 : decode cX3_wayServedNext 50 = .ok (.if_icmp .ne 8, 3) := by decide +kernel
theorem dX3_wayServedNext_53 : decode cX3_wayServedNext 53 = .ok (.aload_n 0, 1) := by decide +kernel
theorem dX3_wayServedNext_54 : decode cX3_wayServedNext 54 = .ok (.invokevirtual 137, 3) := by decide +kernel
theorem dX3_wayServedNext_57 : decode cX3_wayServedNext 57 = .ok (.ireturn, 1) := by decide +kernel
theorem dX3_wayServedNext_58 : decode cX3_wayServedNext 58 = .ok (.iload_n 1, 1) := by decide +kernel
theorem dX3_wayServedNext_59 : decode cX3_wayServedNext 59 = .ok (.iload_n 2, 1) := by decide +kernel
theorem dX3_wayServedNext_60 : decode cX3_wayServedNext 60 = .ok (.if_icmp .ge 7, 3) := by decide +kernel
theorem dX3_wayServedNext_63 : decode cX3_wayServedNext 63 = .ok (.iconst 0, 1) := by decide +kernel
theorem dX3_wayServedNext_64 : decode cX3_wayServedNext 64 = .ok (.goto 4, 3) := by decide +kernel
theorem dX3_wayServedNext_67 : decode cX3_wayServedNext 67 = .ok (.iconst 1, 1) := by decide +kernel
theorem dX3_wayServedNext_68 : decode cX3_wayServedNext 68 = .ok (.ireturn, 1) := by decide +kernel
set_option maxRecDepth 20000 in
theorem ggX3_turnsToServe_X3_wayAtChamber : GoodIn wsX3_turnsToServe wsX3_wayAtChamber := goodIn_r _ [5, 6, 7, 8, 9, 10, 11, 12, 13, 14, 15, 16, 17, 18, 19, 20, 21, 22, 23, 24, 25, 26, 27, 28, 29, 30, 31, 32, 33, 34] (by decide +kernel) (by decide +kernel)
set_option maxRecDepth 20000 in
theorem gX3_turnsToServe_X3_wayAtChamber : GoodIn wsX3_turnsToServe (wsV RX3 137 RX3 yX3_wayAtChamber wsX3_wayAtChamber) := goodIn_app (goodIn_of _ (by decide +kernel)) ggX3_turnsToServe_X3_wayAtChamber
theorem dX3_turnsToServe_0 : decode cX3_turnsToServe 0 = .ok (.iload_n 1, 1) := by decide +kernel
theorem dX3_turnsToServe_1 : decode cX3_turnsToServe 1 = .ok (.aload_n 0, 1) := by decide +kernel
theorem dX3_turnsToServe_2 : decode cX3_turnsToServe 2 = .ok (.invokevirtual 137, 3) := by decide +kernel
theorem dX3_turnsToServe_5 : decode cX3_turnsToServe 5 = .ok (.if_icmp .ne 7, 3) := by decide +kernel
theorem dX3_turnsToServe_8 : decode cX3_turnsToServe 8 = .ok (.iconst 1, 1) := by decide +kernel
theorem dX3_turnsToServe_9 : decode cX3_turnsToServe 9 = .ok (.goto 4, 3) := by decide +kernel
theorem dX3_turnsToServe_12 : decode cX3_turnsToServe 12 = .ok (.iconst 2, 1) := by decide +kernel
theorem dX3_turnsToServe_13 : decode cX3_turnsToServe 13 = .ok (.ireturn, 1) := by decide +kernel
set_option maxRecDepth 20000 in
theorem ggX3_turn_X3_makeTurnFor : GoodIn wsX3_turn wsX3_makeTurnFor := goodIn_r _ [8, 2, 9, 10, 3, 11, 12, 13, 14, 1, 15, 16, 17, 18, 19, 20, 21, 22, 23, 24, 25, 26, 27, 28, 29, 30, 31, 32, 33, 34, 35, 36, 37, 38, 39, 40, 41, 42, 43, 44, 45, 46, 47, 48, 49, 50, 51, 52, 53, 54, 55, 56, 57, 58, 59, 60, 61, 62, 63, 7, 64, 65, 66, 67, 68, 69, 70, 71, 72, 73, 74, 75, 76, 77, 78, 79, 80, 81, 82, 83, 84, 85, 86, 87, 88, 89, 90, 91, 92, 93, 94] (by decide +kernel) (by decide +kernel)
set_option maxRecDepth 20000 in
theorem gX3_turn_X3_makeTurnFor : GoodIn wsX3_turn (wsV RX3 134 RX3 yX3_makeTurnFor wsX3_makeTurnFor) := goodIn_app (goodIn_of _ (by decide +kernel)) ggX3_turn_X3_makeTurnFor
theorem dX3_turn_0 : decode cX3_turn 0 = .ok (.aload_n 0, 1) := by decide +kernel
theorem dX3_turn_1 : decode cX3_turn 1 = .ok (.getfield 131, 3) := by decide +kernel
theorem dX3_turn_4 : decode cX3_turn 4 = .ok (.bipush 60, 2) := by decide +kernel
theorem dX3_turn_6 : decode cX3_turn 6 = .ok (.if_icmp .lt 6, 3) := by decide +kernel
theorem dX3_turn_9 : decode cX3_turn 9 = .ok (.bipush (-4), 2) := by decide +kernel
theorem dX3_turn_11 : decode cX3_turn 11 = .ok (.ireturn, 1) := by decide +kernel
theorem dX3_turn_12 : decode cX3_turn 12 = .ok (.aload_n 0, 1) := by decide +kernel
theorem dX3_turn_13 : decode cX3_turn 13 = .ok (.iconst (-1), 1) := by decide +kernel
theorem dX3_turn_14 : decode cX3_turn 14 = .ok (.invokevirtual 134, 3) := by decide +kernel
theorem dX3_turn_17 : decode cX3_turn 17 = .ok (.aload_n 0, 1) := by decide +kernel
theorem dX3_turn_18 : decode cX3_turn 18 = .ok (.getfield 10, 3) := by decide +kernel
theorem dX3_turn_21 : decode cX3_turn 21 = .ok (.getfield 140, 3) := by decide +kernel
theorem dX3_turn_24 : decode cX3_turn 24 = .ok (.ireturn, 1) := by decide +kernel
theorem dX3_ledger_0 : decode cX3_ledger 0 = .ok (.iload_n 1, 1) := by decide +kernel
theorem dX3_ledger_1 : decode cX3_ledger 1 = .ok (.ifCond .lt 21, 3) := by decide +kernel
theorem dX3_ledger_4 : decode cX3_ledger 4 = .ok (.iload_n 1, 1) := by decide +kernel
theorem dX3_ledger_5 : decode cX3_ledger 5 = .ok (.aload_n 0, 1) := by decide +kernel
theorem dX3_ledger_6 : decode cX3_ledger 6 = .ok (.getfield 131, 3) := by decide +kernel
theorem dX3_ledger_9 : decode cX3_ledger 9 = .ok (.if_icmp .ge 13, 3) := by decide +kernel
theorem dX3_ledger_12 : decode cX3_ledger 12 = .ok (.iload_n 2, 1) := by decide +kernel
theorem dX3_ledger_13 : decode cX3_ledger 13 = .ok (.ifCond .lt 9, 3) := by decide +kernel
theorem dX3_ledger_16 : decode cX3_ledger 16 = .ok (.iload_n 2, 1) := by decide +kernel
theorem dX3_ledger_17 : decode cX3_ledger 17 = .ok (.bipush 9, 2) := by decide +kernel
theorem dX3_ledger_19 : decode cX3_ledger 19 = .ok (.if_icmp .lt 6, 3) := by decide +kernel
theorem dX3_ledger_22 : decode cX3_ledger 22 = .ok (.bipush (-2), 2) := by decide +kernel
theorem dX3_ledger_24 : decode cX3_ledger 24 = .ok (.ireturn, 1) := by decide +kernel
theorem dX3_ledger_25 : decode cX3_ledger 25 = .ok (.aload_n 0, 1) := by decide +kernel
theorem dX3_ledger_26 : decode cX3_ledger 26 = .ok (.getfield 31, 3) := by decide +kernel
theorem dX3_ledger_29 : decode cX3_ledger 29 = .ok (.iload_n 1, 1) := by decide +kernel
theorem dX3_ledger_30 : decode cX3_ledger 30 = .ok (.bipush 9, 2) := by decide +kernel
theorem dX3_ledger_32 : decode cX3_ledger 32 = .ok (.imul, 1) := by decide +kernel
theorem dX3_ledger_33 : decode cX3_ledger 33 = .ok (.iload_n 2, 1) := by decide +kernel
theorem dX3_ledger_34 : decode cX3_ledger 34 = .ok (.iadd, 1) := by decide +kernel
theorem dX3_ledger_35 : decode cX3_ledger 35 = .ok (.iaload, 1) := by decide +kernel
theorem dX3_ledger_36 : decode cX3_ledger 36 = .ok (.ireturn, 1) := by decide +kernel
theorem dX3_wipe_0 : decode cX3_wipe 0 = .ok (.aload_n 0, 1) := by decide +kernel
theorem dX3_wipe_1 : decode cX3_wipe 1 = .ok (.getfield 131, 3) := by decide +kernel
theorem dX3_wipe_4 : decode cX3_wipe 4 = .ok (.istore_n 1, 1) := by decide +kernel
theorem dX3_wipe_5 : decode cX3_wipe 5 = .ok (.aload_n 0, 1) := by decide +kernel
theorem dX3_wipe_6 : decode cX3_wipe 6 = .ok (.iconst 0, 1) := by decide +kernel
theorem dX3_wipe_7 : decode cX3_wipe 7 = .ok (.putfield 131, 3) := by decide +kernel
theorem dX3_wipe_10 : decode cX3_wipe 10 = .ok (.iload_n 1, 1) := by decide +kernel
theorem dX3_wipe_11 : decode cX3_wipe 11 = .ok (.ireturn, 1) := by decide +kernel
set_option maxRecDepth 20000 in
theorem ggX3_total_X2_heldInAll : GoodIn wsX3_total wsX2_heldInAll := goodIn_r _ [10, 11, 12, 26, 27, 28, 29, 30, 31, 32, 33, 34, 35, 36, 37, 38, 39] (by decide +kernel) (by decide +kernel)
set_option maxRecDepth 20000 in
theorem gX3_total_X2_heldInAll : GoodIn wsX3_total (wsV RX3 152 RX2 yX2_heldInAll wsX2_heldInAll) := goodIn_app (goodIn_of _ (by decide +kernel)) ggX3_total_X2_heldInAll
theorem dX3_total_0 : decode cX3_total 0 = .ok (.iload_n 1, 1) := by decide +kernel
theorem dX3_total_1 : decode cX3_total 1 = .ok (.tableswitch 63 0 4 #[35, 40, 45, 50, 58], 35) := by decide +kernel
theorem dX3_total_36 : decode cX3_total 36 = .ok (.aload_n 0, 1) := by decide +kernel
theorem dX3_total_37 : decode cX3_total 37 = .ok (.getfield 143, 3) := by decide +kernel
theorem dX3_total_40 : decode cX3_total 40 = .ok (.ireturn, 1) := by decide +kernel
theorem dX3_total_41 : decode cX3_total 41 = .ok (.aload_n 0, 1) := by decide +kernel
theorem dX3_total_42 : decode cX3_total 42 = .ok (.getfield 146, 3) := by decide +kernel
theorem dX3_total_45 : decode cX3_total 45 = .ok (.ireturn, 1) := by decide +kernel
theorem dX3_total_46 : decode cX3_total 46 = .ok (.aload_n 0, 1) := by decide +kernel
theorem dX3_total_47 : decode cX3_total 47 = .ok (.getfield 149, 3) := by decide +kernel
theorem dX3_total_50 : decode cX3_total 50 = .ok (.ireturn, 1) := by decide +kernel
theorem dX3_total_51 : decode cX3_total 51 = .ok (.aload_n 0, 1) := by decide +kernel
theorem dX3_total_52 : decode cX3_total 52 = .ok (.getfield 10, 3) := by decide +kernel
theorem dX3_total_55 : decode cX3_total 55 = .ok (.invokevirtual 152, 3) := by decide +kernel
theorem dX3_total_58 : decode cX3_total 58 = .ok (.ireturn, 1) := by decide +kernel
theorem dX3_total_59 : decode cX3_total 59 = .ok (.aload_n 0, 1) := by decide +kernel
theorem dX3_total_60 : decode cX3_total 60 = .ok (.getfield 155, 3) := by decide +kernel
theorem dX3_total_63 : decode cX3_total 63 = .ok (.ireturn, 1) := by decide +kernel
theorem dX3_total_64 : decode cX3_total 64 = .ok (.bipush (-2), 2) := by decide +kernel
theorem dX3_total_66 : decode cX3_total 66 = .ok (.ireturn, 1) := by decide +kernel
set_option maxRecDepth 20000 in
theorem ggX3_makeTurnFor_X2_makeTurn : GoodIn wsX3_makeTurnFor wsX2_makeTurn := goodIn_r _ [14, 15, 16, 17, 18, 19, 20, 21, 22, 23, 24, 25, 26, 27, 13, 28, 29, 30, 31, 32, 33, 34, 35, 36, 37, 38, 39, 40, 41, 42, 43, 44, 45, 46, 47, 48, 49, 50, 51, 52, 53, 54, 55, 77, 78, 79, 80, 81, 82, 83, 84, 85, 86, 87, 88, 89, 90] (by decide +kernel) (by decide +kernel)
set_option maxRecDepth 20000 in
theorem gX3_makeTurnFor_X2_makeTurn : GoodIn wsX3_makeTurnFor (wsV RX3 158 RX2 yX2_makeTurn wsX2_makeTurn) := goodIn_app (goodIn_of _ (by decide +kernel)) ggX3_makeTurnFor_X2_makeTurn
set_option maxRecDepth 20000 in
theorem ggX3_makeTurnFor_X3_enterTurn : GoodIn wsX3_makeTurnFor wsX3_enterTurn := goodIn_r _ [60, 9, 61, 1, 62, 4, 7, 63, 64, 65, 66, 67, 68, 69, 70, 71, 72, 73, 74, 75, 76, 77, 78, 79, 80, 81, 82, 83, 84, 85, 86, 87, 88, 89, 90] (by decide +kernel) (by decide +kernel)
set_option maxRecDepth 20000 in
theorem gX3_makeTurnFor_X3_enterTurn : GoodIn wsX3_makeTurnFor (wsV RX3 164 RX3 yX3_enterTurn wsX3_enterTurn) := goodIn_app (goodIn_of _ (by decide +kernel)) ggX3_makeTurnFor_X3_enterTurn
theorem dX3_makeTurnFor_0 : decode cX3_makeTurnFor 0 = .ok (.aload_n 0, 1) := by decide +kernel
theorem dX3_makeTurnFor_1 : decode cX3_makeTurnFor 1 = .ok (.getfield 10, 3) := by decide +kernel
theorem dX3_makeTurnFor_4 : decode cX3_makeTurnFor 4 = .ok (.getfield 37, 3) := by decide +kernel
theorem dX3_makeTurnFor_7 : decode cX3_makeTurnFor 7 = .ok (.ifCond .ne 7, 3) := by decide +kernel
theorem dX3_makeTurnFor_10 : decode cX3_makeTurnFor 10 = .ok (.iconst 1, 1) := by decide +kernel
theorem dX3_makeTurnFor_11 : decode cX3_makeTurnFor 11 = .ok (.goto 4, 3) := by decide +kernel
theorem dX3_makeTurnFor_14 : decode cX3_makeTurnFor 14 = .ok (.iconst 0, 1) := by decide +kernel
theorem dX3_makeTurnFor_15 : decode cX3_makeTurnFor 15 = .ok (.istore_n 2, 1) := by decide +kernel
theorem dX3_makeTurnFor_16 : decode cX3_makeTurnFor 16 = .ok (.aload_n 0, 1) := by decide +kernel
theorem dX3_makeTurnFor_17 : decode cX3_makeTurnFor 17 = .ok (.getfield 10, 3) := by decide +kernel
theorem dX3_makeTurnFor_20 : decode cX3_makeTurnFor 20 = .ok (.invokevirtual 158, 3) := by decide +kernel
theorem dX3_makeTurnFor_23 : decode cX3_makeTurnFor 23 = .ok (.iload_n 2, 1) := by decide +kernel
theorem dX3_makeTurnFor_24 : decode cX3_makeTurnFor 24 = .ok (.ifCond .eq 22, 3) := by decide +kernel
theorem dX3_makeTurnFor_27 : decode cX3_makeTurnFor 27 = .ok (.aload_n 0, 1) := by decide +kernel
theorem dX3_makeTurnFor_28 : decode cX3_makeTurnFor 28 = .ok (.dup, 1) := by decide +kernel
theorem dX3_makeTurnFor_29 : decode cX3_makeTurnFor 29 = .ok (.getfield 143, 3) := by decide +kernel
theorem dX3_makeTurnFor_32 : decode cX3_makeTurnFor 32 = .ok (.aload_n 0, 1) := by decide +kernel
theorem dX3_makeTurnFor_33 : decode cX3_makeTurnFor 33 = .ok (.getfield 10, 3) := by decide +kernel
theorem dX3_makeTurnFor_36 : decode cX3_makeTurnFor 36 = .ok (.getfield 140, 3) := by decide +kernel
theorem dX3_makeTurnFor_39 : decode cX3_makeTurnFor 39 = .ok (.iadd, 1) := by decide +kernel
theorem dX3_makeTurnFor_40 : decode cX3_makeTurnFor 40 = .ok (.putfield 143, 3) := by decide +kernel
theorem dX3_makeTurnFor_43 : decode cX3_makeTurnFor 43 = .ok (.goto 19, 3) := by decide +kernel
theorem dX3_makeTurnFor_46 : decode cX3_makeTurnFor 46 = .ok (.aload_n 0, 1) := by decide +kernel
theorem dX3_makeTurnFor_47 : decode cX3_makeTurnFor 47 = .ok (.dup, 1) := by decide +kernel
theorem dX3_makeTurnFor_48 : decode cX3_makeTurnFor 48 = .ok (.getfield 146, 3) := by decide +kernel
theorem dX3_makeTurnFor_51 : decode cX3_makeTurnFor 51 = .ok (.aload_n 0, 1) := by decide +kernel
theorem dX3_makeTurnFor_52 : decode cX3_makeTurnFor 52 = .ok (.getfield 10, 3) := by decide +kernel
theorem dX3_makeTurnFor_55 : decode cX3_makeTurnFor 55 = .ok (.getfield 140, 3) := by decide +kernel
theorem dX3_makeTurnFor_58 : decode cX3_makeTurnFor 58 = .ok (.iadd, 1) := by decide +kernel
theorem dX3_makeTurnFor_59 : decode cX3_makeTurnFor 59 = .ok (.putfield 146, 3) := by decide +kernel
theorem dX3_makeTurnFor_62 : decode cX3_makeTurnFor 62 = .ok (.aload_n 0, 1) := by decide +kernel
theorem dX3_makeTurnFor_63 : decode cX3_makeTurnFor 63 = .ok (.dup, 1) := by decide +kernel
theorem dX3_makeTurnFor_64 : decode cX3_makeTurnFor 64 = .ok (.getfield 149, 3) := by decide +kernel
theorem dX3_makeTurnFor_67 : decode cX3_makeTurnFor 67 = .ok (.aload_n 0, 1) := by decide +kernel
theorem dX3_makeTurnFor_68 : decode cX3_makeTurnFor 68 = .ok (.getfield 10, 3) := by decide +kernel
theorem dX3_makeTurnFor_71 : decode cX3_makeTurnFor 71 = .ok (.getfield 161, 3) := by decide +kernel
theorem dX3_makeTurnFor_74 : decode cX3_makeTurnFor 74 = .ok (.iadd, 1) := by decide +kernel
theorem dX3_makeTurnFor_75 : decode cX3_makeTurnFor 75 = .ok (.putfield 149, 3) := by decide +kernel
theorem dX3_makeTurnFor_78 : decode cX3_makeTurnFor 78 = .ok (.aload_n 0, 1) := by decide +kernel
theorem dX3_makeTurnFor_79 : decode cX3_makeTurnFor 79 = .ok (.dup, 1) := by decide +kernel
theorem dX3_makeTurnFor_80 : decode cX3_makeTurnFor 80 = .ok (.getfield 155, 3) := by decide +kernel
theorem dX3_makeTurnFor_83 : decode cX3_makeTurnFor 83 = .ok (.iconst 1, 1) := by decide +kernel
theorem dX3_makeTurnFor_84 : decode cX3_makeTurnFor 84 = .ok (.iadd, 1) := by decide +kernel
theorem dX3_makeTurnFor_85 : decode cX3_makeTurnFor 85 = .ok (.putfield 155, 3) := by decide +kernel
theorem dX3_makeTurnFor_88 : decode cX3_makeTurnFor 88 = .ok (.aload_n 0, 1) := by decide +kernel
theorem dX3_makeTurnFor_89 : decode cX3_makeTurnFor 89 = .ok (.getfield 131, 3) := by decide +kernel
theorem dX3_makeTurnFor_92 : decode cX3_makeTurnFor 92 = .ok (.bipush 60, 2) := by decide +kernel
theorem dX3_makeTurnFor_94 : decode cX3_makeTurnFor 94 = .ok (.if_icmp .ge 9, 3) := by decide +kernel
theorem dX3_makeTurnFor_97 : decode cX3_makeTurnFor 97 = .ok (.aload_n 0, 1) := by decide +kernel
theorem dX3_makeTurnFor_98 : decode cX3_makeTurnFor 98 = .ok (.iload_n 1, 1) := by decide +kernel
theorem dX3_makeTurnFor_99 : decode cX3_makeTurnFor 99 = .ok (.iload_n 2, 1) := by decide +kernel
theorem dX3_makeTurnFor_100 : decode cX3_makeTurnFor 100 = .ok (.invokevirtual 164, 3) := by decide +kernel
theorem dX3_makeTurnFor_103 : decode cX3_makeTurnFor 103 = .ok (.return_, 1) := by decide +kernel
theorem dX3_enterTurn_0 : decode cX3_enterTurn 0 = .ok (.aload_n 0, 1) := by decide +kernel
theorem dX3_enterTurn_1 : decode cX3_enterTurn 1 = .ok (.getfield 131, 3) := by decide +kernel
theorem dX3_enterTurn_4 : decode cX3_enterTurn 4 = .ok (.bipush 9, 2) := by decide +kernel
theorem dX3_enterTurn_6 : decode cX3_enterTurn 6 = .ok (.imul, 1) := by decide +kernel
theorem dX3_enterTurn_7 : decode cX3_enterTurn 7 = .ok (.istore_n 3, 1) := by decide +kernel
theorem dX3_enterTurn_8 : decode cX3_enterTurn 8 = .ok (.aload_n 0, 1) := by decide +kernel
theorem dX3_enterTurn_9 : decode cX3_enterTurn 9 = .ok (.getfield 31, 3) := by decide +kernel
theorem dX3_enterTurn_12 : decode cX3_enterTurn 12 = .ok (.iload_n 3, 1) := by decide +kernel
theorem dX3_enterTurn_13 : decode cX3_enterTurn 13 = .ok (.iload_n 1, 1) := by decide +kernel
theorem dX3_enterTurn_14 : decode cX3_enterTurn 14 = .ok (.iastore, 1) := by decide +kernel
theorem dX3_enterTurn_15 : decode cX3_enterTurn 15 = .ok (.aload_n 0, 1) := by decide +kernel
theorem dX3_enterTurn_16 : decode cX3_enterTurn 16 = .ok (.getfield 31, 3) := by decide +kernel
theorem dX3_enterTurn_19 : decode cX3_enterTurn 19 = .ok (.iload_n 3, 1) := by decide +kernel
theorem dX3_enterTurn_20 : decode cX3_enterTurn 20 = .ok (.iconst 1, 1) := by decide +kernel
theorem dX3_enterTurn_21 : decode cX3_enterTurn 21 = .ok (.iadd, 1) := by decide +kernel
theorem dX3_enterTurn_22 : decode cX3_enterTurn 22 = .ok (.iload_n 2, 1) := by decide +kernel
theorem dX3_enterTurn_23 : decode cX3_enterTurn 23 = .ok (.ifCond .eq 7, 3) := by decide +kernel
theorem dX3_enterTurn_26 : decode cX3_enterTurn 26 = .ok (.iconst 1, 1) := by decide +kernel
theorem dX3_enterTurn_27 : decode cX3_enterTurn 27 = .ok (.goto 4, 3) := by decide +kernel
theorem dX3_enterTurn_30 : decode cX3_enterTurn 30 = .ok (.iconst 0, 1) := by decide +kernel
theorem dX3_enterTurn_31 : decode cX3_enterTurn 31 = .ok (.iastore, 1) := by decide +kernel
theorem dX3_enterTurn_32 : decode cX3_enterTurn 32 = .ok (.aload_n 0, 1) := by decide +kernel
theorem dX3_enterTurn_33 : decode cX3_enterTurn 33 = .ok (.getfield 31, 3) := by decide +kernel
theorem dX3_enterTurn_36 : decode cX3_enterTurn 36 = .ok (.iload_n 3, 1) := by decide +kernel
theorem dX3_enterTurn_37 : decode cX3_enterTurn 37 = .ok (.iconst 2, 1) := by decide +kernel
theorem dX3_enterTurn_38 : decode cX3_enterTurn 38 = .ok (.iadd, 1) := by decide +kernel
theorem dX3_enterTurn_39 : decode cX3_enterTurn 39 = .ok (.aload_n 0, 1) := by decide +kernel
theorem dX3_enterTurn_40 : decode cX3_enterTurn 40 = .ok (.getfield 10, 3) := by decide +kernel
theorem dX3_enterTurn_43 : decode cX3_enterTurn 43 = .ok (.getfield 41, 3) := by decide +kernel
theorem dX3_enterTurn_46 : decode cX3_enterTurn 46 = .ok (.aload_n 0, 1) := by decide +kernel
theorem dX3_enterTurn_47 : decode cX3_enterTurn 47 = .ok (.getfield 10, 3) := by decide +kernel
theorem dX3_enterTurn_50 : decode cX3_enterTurn 50 = .ok (.getfield 140, 3) := by decide +kernel
theorem dX3_enterTurn_53 : decode cX3_enterTurn 53 = .ok (.isub, 1) := by decide +kernel
theorem dX3_enterTurn_54 : decode cX3_enterTurn 54 = .ok (.iastore, 1) := by decide +kernel
theorem dX3_enterTurn_55 : decode cX3_enterTurn 55 = .ok (.aload_n 0, 1) := by decide +kernel
theorem dX3_enterTurn_56 : decode cX3_enterTurn 56 = .ok (.getfield 31, 3) := by decide +kernel
theorem dX3_enterTurn_59 : decode cX3_enterTurn 59 = .ok (.iload_n 3, 1) := by decide +kernel
theorem dX3_enterTurn_60 : decode cX3_enterTurn 60 = .ok (.iconst 3, 1) := by decide +kernel
theorem dX3_enterTurn_61 : decode cX3_enterTurn 61 = .ok (.iadd, 1) := by decide +kernel
theorem dX3_enterTurn_62 : decode cX3_enterTurn 62 = .ok (.aload_n 0, 1) := by decide +kernel
theorem dX3_enterTurn_63 : decode cX3_enterTurn 63 = .ok (.getfield 10, 3) := by decide +kernel
theorem dX3_enterTurn_66 : decode cX3_enterTurn 66 = .ok (.getfield 140, 3) := by decide +kernel
theorem dX3_enterTurn_69 : decode cX3_enterTurn 69 = .ok (.iastore, 1) := by decide +kernel
theorem dX3_enterTurn_70 : decode cX3_enterTurn 70 = .ok (.aload_n 0, 1) := by decide +kernel
theorem dX3_enterTurn_71 : decode cX3_enterTurn 71 = .ok (.getfield 31, 3) := by decide +kernel
theorem dX3_enterTurn_74 : decode cX3_enterTurn 74 = .ok (.iload_n 3, 1) := by decide +kernel
theorem dX3_enterTurn_75 : decode cX3_enterTurn 75 = .ok (.iconst 4, 1) := by decide +kernel
theorem dX3_enterTurn_76 : decode cX3_enterTurn 76 = .ok (.iadd, 1) := by decide +kernel
theorem dX3_enterTurn_77 : decode cX3_enterTurn 77 = .ok (.aload_n 0, 1) := by decide +kernel
theorem dX3_enterTurn_78 : decode cX3_enterTurn 78 = .ok (.getfield 10, 3) := by decide +kernel
theorem dX3_enterTurn_81 : decode cX3_enterTurn 81 = .ok (.getfield 161, 3) := by decide +kernel
theorem dX3_enterTurn_84 : decode cX3_enterTurn 84 = .ok (.iastore, 1) := by decide +kernel
theorem dX3_enterTurn_85 : decode cX3_enterTurn 85 = .ok (.iconst 0, 1) := by decide +kernel
theorem dX3_enterTurn_86 : decode cX3_enterTurn 86 = .ok (.istore 4, 2) := by decide +kernel
theorem dX3_enterTurn_88 : decode cX3_enterTurn 88 = .ok (.iload 4, 2) := by decide +kernel
theorem dX3_enterTurn_90 : decode cX3_enterTurn 90 = .ok (.iconst 4, 1) := by decide +kernel
theorem dX3_enterTurn_91 : decode cX3_enterTurn 91 = .ok (.if_icmp .ge 30, 3) := by decide +kernel
theorem dX3_enterTurn_94 : decode cX3_enterTurn 94 = .ok (.aload_n 0, 1) := by decide +kernel
theorem dX3_enterTurn_95 : decode cX3_enterTurn 95 = .ok (.getfield 31, 3) := by decide +kernel
theorem dX3_enterTurn_98 : decode cX3_enterTurn 98 = .ok (.iload_n 3, 1) := by decide +kernel
theorem dX3_enterTurn_99 : decode cX3_enterTurn 99 = .ok (.iconst 5, 1) := by decide +kernel
theorem dX3_enterTurn_100 : decode cX3_enterTurn 100 = .ok (.iadd, 1) := by decide +kernel
theorem dX3_enterTurn_101 : decode cX3_enterTurn 101 = .ok (.iload 4, 2) := by decide +kernel
theorem dX3_enterTurn_103 : decode cX3_enterTurn 103 = .ok (.iadd, 1) := by decide +kernel
theorem dX3_enterTurn_104 : decode cX3_enterTurn 104 = .ok (.aload_n 0, 1) := by decide +kernel
theorem dX3_enterTurn_105 : decode cX3_enterTurn 105 = .ok (.getfield 10, 3) := by decide +kernel
theorem dX3_enterTurn_108 : decode cX3_enterTurn 108 = .ok (.getfield 168, 3) := by decide +kernel
