theorem dX8_isWithin_0 : decode cX8_isWithin 0 = .ok (.iload_n 0, 1) := by decide +kernel
theorem dX8_isWithin_1 : decode cX8_isWithin 1 = .ok (.iload_n 1, 1) := by decide +kernel
theorem dX8_isWithin_2 : decode cX8_isWithin 2 = .ok (.if_icmp .lt 12, 3) := by decide +kernel
theorem dX8_isWithin_14 : decode cX8_isWithin 14 = .ok (.iconst 0, 1) := by decide +kernel
theorem dX8_isWithin_15 : decode cX8_isWithin 15 = .ok (.ireturn, 1) := by decide +kernel
theorem dX8_isWithin_5 : decode cX8_isWithin 5 = .ok (.iload_n 0, 1) := by decide +kernel
theorem dX8_isWithin_6 : decode cX8_isWithin 6 = .ok (.iload_n 2, 1) := by decide +kernel
theorem dX8_isWithin_7 : decode cX8_isWithin 7 = .ok (.if_icmp .gt 7, 3) := by decide +kernel
theorem dX8_isWithin_10 : decode cX8_isWithin 10 = .ok (.iconst 1, 1) := by decide +kernel
theorem dX8_isWithin_11 : decode cX8_isWithin 11 = .ok (.goto 4, 3) := by decide +kernel
theorem dX7_hasNode_0 : decode cX7_hasNode 0 = .ok (.iload_n 1, 1) := by decide +kernel
theorem dX7_hasNode_1 : decode cX7_hasNode 1 = .ok (.ifCond .lt 15, 3) := by decide +kernel
theorem dX7_hasNode_16 : decode cX7_hasNode 16 = .ok (.iconst 0, 1) := by decide +kernel
theorem dX7_hasNode_17 : decode cX7_hasNode 17 = .ok (.ireturn, 1) := by decide +kernel
theorem dX7_hasNode_4 : decode cX7_hasNode 4 = .ok (.iload_n 1, 1) := by decide +kernel
theorem dX7_hasNode_5 : decode cX7_hasNode 5 = .ok (.aload_n 0, 1) := by decide +kernel
theorem dX7_hasNode_6 : decode cX7_hasNode 6 = .ok (.getfield 58, 3) := by decide +kernel
theorem dX7_hasNode_9 : decode cX7_hasNode 9 = .ok (.if_icmp .ge 7, 3) := by decide +kernel
theorem dX7_hasNode_12 : decode cX7_hasNode 12 = .ok (.iconst 1, 1) := by decide +kernel
theorem dX7_hasNode_13 : decode cX7_hasNode 13 = .ok (.goto 4, 3) := by decide +kernel
theorem dX7_hasCut_0 : decode cX7_hasCut 0 = .ok (.iload_n 1, 1) := by decide +kernel
theorem dX7_hasCut_1 : decode cX7_hasCut 1 = .ok (.ifCond .lt 15, 3) := by decide +kernel
theorem dX7_hasCut_16 : decode cX7_hasCut 16 = .ok (.iconst 0, 1) := by decide +kernel
theorem dX7_hasCut_17 : decode cX7_hasCut 17 = .ok (.ireturn, 1) := by decide +kernel
theorem dX7_hasCut_4 : decode cX7_hasCut 4 = .ok (.iload_n 1, 1) := by decide +kernel
theorem dX7_hasCut_5 : decode cX7_hasCut 5 = .ok (.aload_n 0, 1) := by decide +kernel
theorem dX7_hasCut_6 : decode cX7_hasCut 6 = .ok (.getfield 62, 3) := by decide +kernel
theorem dX7_hasCut_9 : decode cX7_hasCut 9 = .ok (.if_icmp .ge 7, 3) := by decide +kernel
theorem dX7_hasCut_12 : decode cX7_hasCut 12 = .ok (.iconst 1, 1) := by decide +kernel
theorem dX7_hasCut_13 : decode cX7_hasCut 13 = .ok (.goto 4, 3) := by decide +kernel
theorem dX5_hasColumn_0 : decode cX5_hasColumn 0 = .ok (.iload_n 1, 1) := by decide +kernel
theorem dX5_hasColumn_1 : decode cX5_hasColumn 1 = .ok (.ifCond .lt 15, 3) := by decide +kernel
theorem dX5_hasColumn_16 : decode cX5_hasColumn 16 = .ok (.iconst 0, 1) := by decide +kernel
theorem dX5_hasColumn_17 : decode cX5_hasColumn 17 = .ok (.ireturn, 1) := by decide +kernel
theorem dX5_hasColumn_4 : decode cX5_hasColumn 4 = .ok (.iload_n 1, 1) := by decide +kernel
theorem dX5_hasColumn_5 : decode cX5_hasColumn 5 = .ok (.aload_n 0, 1) := by decide +kernel
theorem dX5_hasColumn_6 : decode cX5_hasColumn 6 = .ok (.getfield 58, 3) := by decide +kernel
theorem dX5_hasColumn_9 : decode cX5_hasColumn 9 = .ok (.if_icmp .ge 7, 3) := by decide +kernel
theorem dX5_hasColumn_12 : decode cX5_hasColumn 12 = .ok (.iconst 1, 1) := by decide +kernel
theorem dX5_hasColumn_13 : decode cX5_hasColumn 13 = .ok (.goto 4, 3) := by decide +kernel
theorem dX5_hasRow_0 : decode cX5_hasRow 0 = .ok (.iload_n 1, 1) := by decide +kernel
theorem dX5_hasRow_1 : decode cX5_hasRow 1 = .ok (.ifCond .lt 15, 3) := by decide +kernel
theorem dX5_hasRow_16 : decode cX5_hasRow 16 = .ok (.iconst 0, 1) := by decide +kernel
theorem dX5_hasRow_17 : decode cX5_hasRow 17 = .ok (.ireturn, 1) := by decide +kernel
theorem dX5_hasRow_4 : decode cX5_hasRow 4 = .ok (.iload_n 1, 1) := by decide +kernel
theorem dX5_hasRow_5 : decode cX5_hasRow 5 = .ok (.aload_n 0, 1) := by decide +kernel
theorem dX5_hasRow_6 : decode cX5_hasRow 6 = .ok (.getfield 62, 3) := by decide +kernel
theorem dX5_hasRow_9 : decode cX5_hasRow 9 = .ok (.if_icmp .ge 7, 3) := by decide +kernel
theorem dX5_hasRow_12 : decode cX5_hasRow 12 = .ok (.iconst 1, 1) := by decide +kernel
theorem dX5_hasRow_13 : decode cX5_hasRow 13 = .ok (.goto 4, 3) := by decide +kernel
theorem dX7_isPlanted_0 : decode cX7_isPlanted 0 = .ok (.aload_n 0, 1) := by decide +kernel
theorem dX7_isPlanted_1 : decode cX7_isPlanted 1 = .ok (.getfield 58, 3) := by decide +kernel
theorem dX7_isPlanted_4 : decode cX7_isPlanted 4 = .ok (.ifCond .le 7, 3) := by decide +kernel
theorem dX7_isPlanted_11 : decode cX7_isPlanted 11 = .ok (.iconst 0, 1) := by decide +kernel
theorem dX7_isPlanted_12 : decode cX7_isPlanted 12 = .ok (.ireturn, 1) := by decide +kernel
theorem dX7_openCount_0 : decode cX7_openCount 0 = .ok (.iconst 0, 1) := by decide +kernel
theorem dX7_openCount_1 : decode cX7_openCount 1 = .ok (.istore_n 1, 1) := by decide +kernel
theorem dX7_openCount_2 : decode cX7_openCount 2 = .ok (.iconst 0, 1) := by decide +kernel
theorem dX7_openCount_3 : decode cX7_openCount 3 = .ok (.istore_n 2, 1) := by decide +kernel
theorem dX7_openCount_4 : decode cX7_openCount 4 = .ok (.iload_n 2, 1) := by decide +kernel
theorem dX7_openCount_5 : decode cX7_openCount 5 = .ok (.aload_n 0, 1) := by decide +kernel
theorem dX7_openCount_6 : decode cX7_openCount 6 = .ok (.getfield 58, 3) := by decide +kernel
theorem dX7_openCount_9 : decode cX7_openCount 9 = .ok (.if_icmp .ge 26, 3) := by decide +kernel
theorem dX7_openCount_35 : decode cX7_openCount 35 = .ok (.iload_n 1, 1) := by decide +kernel
theorem dX7_openCount_36 : decode cX7_openCount 36 = .ok (.ireturn, 1) := by decide +kernel
theorem dX7_boundPoint_0 : decode cX7_boundPoint 0 = .ok (.aload_n 0, 1) := by decide +kernel
theorem dX7_boundPoint_1 : decode cX7_boundPoint 1 = .ok (.invokevirtual 90, 3) := by decide +kernel
theorem dX7_boundPoint_4 : decode cX7_boundPoint 4 = .ok (.ifCond .eq 17, 3) := by decide +kernel
theorem dX7_boundPoint_21 : decode cX7_boundPoint 21 = .ok (.aconst_null, 1) := by decide +kernel
theorem dX7_boundPoint_22 : decode cX7_boundPoint 22 = .ok (.areturn, 1) := by decide +kernel
theorem dX7_meetRow_0 : decode cX7_meetRow 0 = .ok (.aload_n 0, 1) := by decide +kernel
theorem dX7_meetRow_1 : decode cX7_meetRow 1 = .ok (.invokevirtual 90, 3) := by decide +kernel
theorem dX7_meetRow_4 : decode cX7_meetRow 4 = .ok (.ifCond .ne 4, 3) := by decide +kernel
theorem dX7_meetRow_7 : decode cX7_meetRow 7 = .ok (.return_, 1) := by decide +kernel
theorem dX5_keepColumn_0 : decode cX5_keepColumn 0 = .ok (.aload_n 0, 1) := by decide +kernel
theorem dX5_keepColumn_1 : decode cX5_keepColumn 1 = .ok (.getfield 58, 3) := by decide +kernel
theorem dX5_keepColumn_4 : decode cX5_keepColumn 4 = .ok (.istore 5, 2) := by decide +kernel
theorem dX5_keepColumn_6 : decode cX5_keepColumn 6 = .ok (.aload_n 0, 1) := by decide +kernel
theorem dX5_keepColumn_7 : decode cX5_keepColumn 7 = .ok (.getfield 9, 3) := by decide +kernel
theorem dX5_keepColumn_10 : decode cX5_keepColumn 10 = .ok (.iload 5, 2) := by decide +kernel
theorem dX5_keepColumn_12 : decode cX5_keepColumn 12 = .ok (.iload_n 1, 1) := by decide +kernel
theorem dX5_keepColumn_13 : decode cX5_keepColumn 13 = .ok (.iastore, 1) := by decide +kernel
theorem dX5_keepColumn_14 : decode cX5_keepColumn 14 = .ok (.aload_n 0, 1) := by decide +kernel
theorem dX5_keepColumn_15 : decode cX5_keepColumn 15 = .ok (.getfield 15, 3) := by decide +kernel
theorem dX5_keepColumn_18 : decode cX5_keepColumn 18 = .ok (.iload 5, 2) := by decide +kernel
theorem dX5_keepColumn_20 : decode cX5_keepColumn 20 = .ok (.iload_n 2, 1) := by decide +kernel
theorem dX5_keepColumn_21 : decode cX5_keepColumn 21 = .ok (.iastore, 1) := by decide +kernel
theorem dX5_keepColumn_22 : decode cX5_keepColumn 22 = .ok (.aload_n 0, 1) := by decide +kernel
theorem dX5_keepColumn_23 : decode cX5_keepColumn 23 = .ok (.getfield 18, 3) := by decide +kernel
theorem dX5_keepColumn_26 : decode cX5_keepColumn 26 = .ok (.iload 5, 2) := by decide +kernel
theorem dX5_keepColumn_28 : decode cX5_keepColumn 28 = .ok (.iload_n 3, 1) := by decide +kernel
theorem dX5_keepColumn_29 : decode cX5_keepColumn 29 = .ok (.iastore, 1) := by decide +kernel
theorem dX5_keepColumn_30 : decode cX5_keepColumn 30 = .ok (.aload_n 0, 1) := by decide +kernel
theorem dX5_keepColumn_31 : decode cX5_keepColumn 31 = .ok (.getfield 25, 3) := by decide +kernel
theorem dX5_keepColumn_34 : decode cX5_keepColumn 34 = .ok (.iload 5, 2) := by decide +kernel
theorem dX5_keepColumn_36 : decode cX5_keepColumn 36 = .ok (.iload_n 2, 1) := by decide +kernel
theorem dX5_keepColumn_37 : decode cX5_keepColumn 37 = .ok (.iastore, 1) := by decide +kernel
theorem dX5_keepColumn_38 : decode cX5_keepColumn 38 = .ok (.aload_n 0, 1) := by decide +kernel
theorem dX5_keepColumn_39 : decode cX5_keepColumn 39 = .ok (.getfield 28, 3) := by decide +kernel
theorem dX5_keepColumn_42 : decode cX5_keepColumn 42 = .ok (.iload 5, 2) := by decide +kernel
theorem dX5_keepColumn_44 : decode cX5_keepColumn 44 = .ok (.iload_n 3, 1) := by decide +kernel
theorem dX5_keepColumn_45 : decode cX5_keepColumn 45 = .ok (.iastore, 1) := by decide +kernel
theorem dX5_keepColumn_46 : decode cX5_keepColumn 46 = .ok (.aload_n 0, 1) := by decide +kernel
theorem dX5_keepColumn_47 : decode cX5_keepColumn 47 = .ok (.getfield 21, 3) := by decide +kernel
theorem dX5_keepColumn_50 : decode cX5_keepColumn 50 = .ok (.iload 5, 2) := by decide +kernel
theorem dX5_keepColumn_52 : decode cX5_keepColumn 52 = .ok (.iload 4, 2) := by decide +kernel
theorem dX5_keepColumn_54 : decode cX5_keepColumn 54 = .ok (.bastore, 1) := by decide +kernel
theorem dX5_keepColumn_55 : decode cX5_keepColumn 55 = .ok (.aload_n 0, 1) := by decide +kernel
theorem dX5_keepColumn_56 : decode cX5_keepColumn 56 = .ok (.dup, 1) := by decide +kernel
theorem dX5_keepColumn_57 : decode cX5_keepColumn 57 = .ok (.getfield 58, 3) := by decide +kernel
theorem dX5_keepColumn_60 : decode cX5_keepColumn 60 = .ok (.iconst 1, 1) := by decide +kernel
theorem dX5_keepColumn_61 : decode cX5_keepColumn 61 = .ok (.iadd, 1) := by decide +kernel
theorem dX5_keepColumn_62 : decode cX5_keepColumn 62 = .ok (.putfield 58, 3) := by decide +kernel
theorem dX5_keepColumn_65 : decode cX5_keepColumn 65 = .ok (.iload 5, 2) := by decide +kernel
theorem dX5_keepColumn_67 : decode cX5_keepColumn 67 = .ok (.ireturn, 1) := by decide +kernel
theorem dX5_canMultiply_0 : decode cX5_canMultiply 0 = .ok (.iload_n 2, 1) := by decide +kernel
theorem dX5_canMultiply_1 : decode cX5_canMultiply 1 = .ok (.bipush (-5), 2) := by decide +kernel
theorem dX5_canMultiply_3 : decode cX5_canMultiply 3 = .ok (.iconst 5, 1) := by decide +kernel
theorem dX5_canMultiply_4 : decode cX5_canMultiply 4 = .ok (.invokestatic 65, 3) := by decide +kernel
theorem dX5_canMultiply_7 : decode cX5_canMultiply 7 = .ok (.ifCond .eq 19, 3) := by decide +kernel
theorem dX5_canMultiply_26 : decode cX5_canMultiply 26 = .ok (.iconst 0, 1) := by decide +kernel
theorem dX5_canMultiply_27 : decode cX5_canMultiply 27 = .ok (.ireturn, 1) := by decide +kernel
theorem dX5_canMultiply_10 : decode cX5_canMultiply 10 = .ok (.iload_n 2, 1) := by decide +kernel
theorem dX5_canMultiply_11 : decode cX5_canMultiply 11 = .ok (.ifCond .eq 11, 3) := by decide +kernel
theorem dX5_canMultiply_22 : decode cX5_canMultiply 22 = .ok (.iconst 1, 1) := by decide +kernel
theorem dX5_canMultiply_23 : decode cX5_canMultiply 23 = .ok (.goto 4, 3) := by decide +kernel
theorem dX5_canMultiply_14 : decode cX5_canMultiply 14 = .ok (.iload_n 1, 1) := by decide +kernel
theorem dX5_canMultiply_15 : decode cX5_canMultiply 15 = .ok (.aload_n 0, 1) := by decide +kernel
theorem dX5_canMultiply_16 : decode cX5_canMultiply 16 = .ok (.getfield 58, 3) := by decide +kernel
theorem dX5_canMultiply_19 : decode cX5_canMultiply 19 = .ok (.if_icmp .ge 7, 3) := by decide +kernel
theorem dX5_keepNarrowed_0 : decode cX5_keepNarrowed 0 = .ok (.iconst 0, 1) := by decide +kernel
theorem dX5_keepNarrowed_1 : decode cX5_keepNarrowed 1 = .ok (.istore_n 1, 1) := by decide +kernel
theorem dX5_keepNarrowed_2 : decode cX5_keepNarrowed 2 = .ok (.iconst 0, 1) := by decide +kernel
theorem dX5_keepNarrowed_3 : decode cX5_keepNarrowed 3 = .ok (.istore_n 2, 1) := by decide +kernel
theorem dX5_keepNarrowed_4 : decode cX5_keepNarrowed 4 = .ok (.iload_n 2, 1) := by decide +kernel
theorem dX5_keepNarrowed_5 : decode cX5_keepNarrowed 5 = .ok (.aload_n 0, 1) := by decide +kernel
theorem dX5_keepNarrowed_6 : decode cX5_keepNarrowed 6 = .ok (.getfield 58, 3) := by decide +kernel
theorem dX5_keepNarrowed_9 : decode cX5_keepNarrowed 9 = .ok (.if_icmp .ge 79, 3) := by decide +kernel
theorem dX5_keepNarrowed_88 : decode cX5_keepNarrowed 88 = .ok (.iload_n 1, 1) := by decide +kernel
theorem dX5_keepNarrowed_89 : decode cX5_keepNarrowed 89 = .ok (.ireturn, 1) := by decide +kernel
theorem dX5_narrowBounds_0 : decode cX5_narrowBounds 0 = .ok (.aload_n 0, 1) := by decide +kernel
theorem dX5_narrowBounds_1 : decode cX5_narrowBounds 1 = .ok (.getfield 25, 3) := by decide +kernel
theorem dX5_narrowBounds_4 : decode cX5_narrowBounds 4 = .ok (.iconst 0, 1) := by decide +kernel
theorem dX5_narrowBounds_5 : decode cX5_narrowBounds 5 = .ok (.aload_n 0, 1) := by decide +kernel
theorem dX5_narrowBounds_6 : decode cX5_narrowBounds 6 = .ok (.getfield 31, 3) := by decide +kernel
theorem dX5_narrowBounds_9 : decode cX5_narrowBounds 9 = .ok (.iconst 0, 1) := by decide +kernel
theorem dX5_narrowBounds_10 : decode cX5_narrowBounds 10 = .ok (.iconst 4, 1) := by decide +kernel
theorem dX5_narrowBounds_11 : decode cX5_narrowBounds 11 = .ok (.invokestatic 72, 3) := by decide +kernel
theorem dX5_narrowBounds_14 : decode cX5_narrowBounds 14 = .ok (.aload_n 0, 1) := by decide +kernel
theorem dX5_narrowBounds_15 : decode cX5_narrowBounds 15 = .ok (.getfield 28, 3) := by decide +kernel
theorem dX5_narrowBounds_18 : decode cX5_narrowBounds 18 = .ok (.iconst 0, 1) := by decide +kernel
theorem dX5_narrowBounds_19 : decode cX5_narrowBounds 19 = .ok (.aload_n 0, 1) := by decide +kernel
theorem dX5_narrowBounds_20 : decode cX5_narrowBounds 20 = .ok (.getfield 34, 3) := by decide +kernel
theorem dX5_narrowBounds_23 : decode cX5_narrowBounds 23 = .ok (.iconst 0, 1) := by decide +kernel
theorem dX5_narrowBounds_24 : decode cX5_narrowBounds 24 = .ok (.iconst 4, 1) := by decide +kernel
theorem dX5_narrowBounds_25 : decode cX5_narrowBounds 25 = .ok (.invokestatic 72, 3) := by decide +kernel
theorem dX5_narrowBounds_28 : decode cX5_narrowBounds 28 = .ok (.iconst 1, 1) := by decide +kernel
theorem dX5_narrowBounds_29 : decode cX5_narrowBounds 29 = .ok (.istore_n 1, 1) := by decide +kernel
theorem dX5_narrowBounds_30 : decode cX5_narrowBounds 30 = .ok (.iconst 0, 1) := by decide +kernel
theorem dX5_narrowBounds_31 : decode cX5_narrowBounds 31 = .ok (.istore_n 2, 1) := by decide +kernel
theorem dX5_narrowBounds_32 : decode cX5_narrowBounds 32 = .ok (.iload_n 1, 1) := by decide +kernel
theorem dX5_narrowBounds_33 : decode cX5_narrowBounds 33 = .ok (.ifCond .eq 57, 3) := by decide +kernel
theorem dX5_narrowBounds_36 : decode cX5_narrowBounds 36 = .ok (.iload_n 2, 1) := by decide +kernel
theorem dX5_narrowBounds_37 : decode cX5_narrowBounds 37 = .ok (.bipush 100, 2) := by decide +kernel
theorem dX5_narrowBounds_39 : decode cX5_narrowBounds 39 = .ok (.if_icmp .ge 51, 3) := by decide +kernel
theorem dX5_narrowBounds_42 : decode cX5_narrowBounds 42 = .ok (.iconst 0, 1) := by decide +kernel
theorem dX5_narrowBounds_43 : decode cX5_narrowBounds 43 = .ok (.istore_n 1, 1) := by decide +kernel
theorem dX5_narrowBounds_44 : decode cX5_narrowBounds 44 = .ok (.iconst 0, 1) := by decide +kernel
theorem dX5_narrowBounds_45 : decode cX5_narrowBounds 45 = .ok (.istore_n 3, 1) := by decide +kernel
theorem dX5_narrowBounds_46 : decode cX5_narrowBounds 46 = .ok (.iload_n 3, 1) := by decide +kernel
theorem dX5_narrowBounds_47 : decode cX5_narrowBounds 47 = .ok (.aload_n 0, 1) := by decide +kernel
theorem dX5_narrowBounds_48 : decode cX5_narrowBounds 48 = .ok (.getfield 62, 3) := by decide +kernel
theorem dX5_narrowBounds_51 : decode cX5_narrowBounds 51 = .ok (.if_icmp .ge 33, 3) := by decide +kernel
theorem dX5_narrowBounds_84 : decode cX5_narrowBounds 84 = .ok (.iinc 2 1, 3) := by decide +kernel
theorem dX5_narrowBounds_87 : decode cX5_narrowBounds 87 = .ok (.goto (-55), 3) := by decide +kernel
theorem dX5_narrowBounds_90 : decode cX5_narrowBounds 90 = .ok (.aload_n 0, 1) := by decide +kernel
theorem dX5_narrowBounds_91 : decode cX5_narrowBounds 91 = .ok (.invokevirtual 86, 3) := by decide +kernel
theorem dX5_narrowBounds_94 : decode cX5_narrowBounds 94 = .ok (.ireturn, 1) := by decide +kernel
theorem dX5_wholeCount_0 : decode cX5_wholeCount 0 = .ok (.iconst 0, 1) := by decide +kernel
theorem dX5_wholeCount_1 : decode cX5_wholeCount 1 = .ok (.istore_n 1, 1) := by decide +kernel
theorem dX5_wholeCount_2 : decode cX5_wholeCount 2 = .ok (.iconst 0, 1) := by decide +kernel
theorem dX5_wholeCount_3 : decode cX5_wholeCount 3 = .ok (.istore_n 2, 1) := by decide +kernel
theorem dX5_wholeCount_4 : decode cX5_wholeCount 4 = .ok (.iload_n 2, 1) := by decide +kernel
theorem dX5_wholeCount_5 : decode cX5_wholeCount 5 = .ok (.aload_n 0, 1) := by decide +kernel
theorem dX5_wholeCount_6 : decode cX5_wholeCount 6 = .ok (.getfield 58, 3) := by decide +kernel
theorem dX5_wholeCount_9 : decode cX5_wholeCount 9 = .ok (.if_icmp .ge 21, 3) := by decide +kernel
theorem dX5_wholeCount_30 : decode cX5_wholeCount 30 = .ok (.iload_n 1, 1) := by decide +kernel
theorem dX5_wholeCount_31 : decode cX5_wholeCount 31 = .ok (.ireturn, 1) := by decide +kernel
theorem dX5_pointCount_0 : decode cX5_pointCount 0 = .ok (.iconst 1, 1) := by decide +kernel
theorem dX5_pointCount_1 : decode cX5_pointCount 1 = .ok (.istore_n 1, 1) := by decide +kernel
theorem dX5_pointCount_2 : decode cX5_pointCount 2 = .ok (.iconst 0, 1) := by decide +kernel
theorem dX5_pointCount_3 : decode cX5_pointCount 3 = .ok (.istore_n 2, 1) := by decide +kernel
theorem dX5_pointCount_4 : decode cX5_pointCount 4 = .ok (.iload_n 2, 1) := by decide +kernel
theorem dX5_pointCount_5 : decode cX5_pointCount 5 = .ok (.aload_n 0, 1) := by decide +kernel
theorem dX5_pointCount_6 : decode cX5_pointCount 6 = .ok (.getfield 58, 3) := by decide +kernel
theorem dX5_pointCount_9 : decode cX5_pointCount 9 = .ok (.if_icmp .ge 27, 3) := by decide +kernel
theorem dX5_pointCount_36 : decode cX5_pointCount 36 = .ok (.iload_n 1, 1) := by decide +kernel
theorem dX5_pointCount_37 : decode cX5_pointCount 37 = .ok (.ireturn, 1) := by decide +kernel
theorem dX0_start_0 : decode cX0_start 0 = .ok (.aload_n 0, 1) := by decide +kernel
theorem dX0_start_1 : decode cX0_start 1 = .ok (.iload_n 1, 1) := by decide +kernel
theorem dX0_start_2 : decode cX0_start 2 = .ok (.iconst 4, 1) := by decide +kernel
theorem dX0_start_3 : decode cX0_start 3 = .ok (.invokestatic 42, 3) := by decide +kernel
theorem dX0_start_6 : decode cX0_start 6 = .ok (.putfield 48, 3) := by decide +kernel
theorem dX0_start_9 : decode cX0_start 9 = .ok (.aload_n 0, 1) := by decide +kernel
theorem dX0_start_10 : decode cX0_start 10 = .ok (.iconst 0, 1) := by decide +kernel
theorem dX0_start_11 : decode cX0_start 11 = .ok (.putfield 52, 3) := by decide +kernel
theorem dX0_start_14 : decode cX0_start 14 = .ok (.aload_n 0, 1) := by decide +kernel
theorem dX0_start_15 : decode cX0_start 15 = .ok (.getfield 12, 3) := by decide +kernel
theorem dX0_start_18 : decode cX0_start 18 = .ok (.lconst 1, 1) := by decide +kernel
theorem dX0_start_19 : decode cX0_start 19 = .ok (.putfield 55, 3) := by decide +kernel
theorem dX0_start_22 : decode cX0_start 22 = .ok (.iconst 0, 1) := by decide +kernel
theorem dX0_start_23 : decode cX0_start 23 = .ok (.istore 5, 2) := by decide +kernel
theorem dX0_start_25 : decode cX0_start 25 = .ok (.iload 5, 2) := by decide +kernel
theorem dX0_start_27 : decode cX0_start 27 = .ok (.aload_n 0, 1) := by decide +kernel
theorem dX0_start_28 : decode cX0_start 28 = .ok (.getfield 48, 3) := by decide +kernel
theorem dX0_start_31 : decode cX0_start 31 = .ok (.if_icmp .ge 138, 3) := by decide +kernel
theorem dX0_start_169 : decode cX0_start 169 = .ok (.return_, 1) := by decide +kernel
theorem dX0_firstBroken_0 : decode cX0_firstBroken 0 = .ok (.iconst 0, 1) := by decide +kernel
theorem dX0_firstBroken_1 : decode cX0_firstBroken 1 = .ok (.istore_n 1, 1) := by decide +kernel
theorem dX0_firstBroken_2 : decode cX0_firstBroken 2 = .ok (.iload_n 1, 1) := by decide +kernel
theorem dX0_firstBroken_3 : decode cX0_firstBroken 3 = .ok (.aload_n 0, 1) := by decide +kernel
theorem dX0_firstBroken_4 : decode cX0_firstBroken 4 = .ok (.getfield 52, 3) := by decide +kernel
theorem dX0_firstBroken_7 : decode cX0_firstBroken 7 = .ok (.if_icmp .ge 21, 3) := by decide +kernel
theorem dX0_firstBroken_28 : decode cX0_firstBroken 28 = .ok (.iconst (-1), 1) := by decide +kernel
theorem dX0_firstBroken_29 : decode cX0_firstBroken 29 = .ok (.ireturn, 1) := by decide +kernel
theorem dX0_search_0 : decode cX0_search 0 = .ok (.iconst 0, 1) := by decide +kernel
theorem dX0_search_1 : decode cX0_search 1 = .ok (.istore_n 1, 1) := by decide +kernel
theorem dX0_search_2 : decode cX0_search 2 = .ok (.iload_n 1, 1) := by decide +kernel
theorem dX0_search_3 : decode cX0_search 3 = .ok (.ldc 83, 2) := by decide +kernel
theorem dX0_search_5 : decode cX0_search 5 = .ok (.if_icmp .ge 46, 3) := by decide +kernel
theorem dX0_search_8 : decode cX0_search 8 = .ok (.aload_n 0, 1) := by decide +kernel
theorem dX0_search_9 : decode cX0_search 9 = .ok (.invokevirtual 84, 3) := by decide +kernel
theorem dX0_search_12 : decode cX0_search 12 = .ok (.istore_n 2, 1) := by decide +kernel
theorem dX0_search_13 : decode cX0_search 13 = .ok (.iload_n 2, 1) := by decide +kernel
theorem dX0_search_14 : decode cX0_search 14 = .ok (.ifCond .ge 5, 3) := by decide +kernel
theorem dX0_search_17 : decode cX0_search 17 = .ok (.iconst 1, 1) := by decide +kernel
theorem dX0_search_18 : decode cX0_search 18 = .ok (.ireturn, 1) := by decide +kernel
theorem dX5_canHoldTogether_0 : decode cX5_canHoldTogether 0 = .ok (.aload_n 0, 1) := by decide +kernel
theorem dX5_canHoldTogether_1 : decode cX5_canHoldTogether 1 = .ok (.getfield 53, 3) := by decide +kernel
theorem dX5_canHoldTogether_4 : decode cX5_canHoldTogether 4 = .ok (.aload_n 0, 1) := by decide +kernel
theorem dX5_canHoldTogether_5 : decode cX5_canHoldTogether 5 = .ok (.getfield 58, 3) := by decide +kernel
theorem dX5_canHoldTogether_8 : decode cX5_canHoldTogether 8 = .ok (.aload_n 0, 1) := by decide +kernel
theorem dX5_canHoldTogether_9 : decode cX5_canHoldTogether 9 = .ok (.getfield 9, 3) := by decide +kernel
theorem dX5_canHoldTogether_12 : decode cX5_canHoldTogether 12 = .ok (.aload_n 0, 1) := by decide +kernel
theorem dX5_canHoldTogether_13 : decode cX5_canHoldTogether 13 = .ok (.getfield 15, 3) := by decide +kernel
theorem dX5_canHoldTogether_16 : decode cX5_canHoldTogether 16 = .ok (.aload_n 0, 1) := by decide +kernel
theorem dX5_canHoldTogether_17 : decode cX5_canHoldTogether 17 = .ok (.getfield 18, 3) := by decide +kernel
theorem dX5_canHoldTogether_20 : decode cX5_canHoldTogether 20 = .ok (.invokevirtual 128, 3) := by decide +kernel
theorem dX5_canHoldTogether_23 : decode cX5_canHoldTogether 23 = .ok (.iconst 0, 1) := by decide +kernel
theorem dX5_canHoldTogether_24 : decode cX5_canHoldTogether 24 = .ok (.istore_n 2, 1) := by decide +kernel
theorem dX5_canHoldTogether_25 : decode cX5_canHoldTogether 25 = .ok (.iload_n 2, 1) := by decide +kernel
theorem dX5_canHoldTogether_26 : decode cX5_canHoldTogether 26 = .ok (.aload_n 0, 1) := by decide +kernel
theorem dX5_canHoldTogether_27 : decode cX5_canHoldTogether 27 = .ok (.getfield 62, 3) := by decide +kernel
theorem dX5_canHoldTogether_30 : decode cX5_canHoldTogether 30 = .ok (.if_icmp .ge 30, 3) := by decide +kernel
theorem dX5_canHoldTogether_60 : decode cX5_canHoldTogether 60 = .ok (.aload_n 0, 1) := by decide +kernel
theorem dX5_canHoldTogether_61 : decode cX5_canHoldTogether 61 = .ok (.getfield 53, 3) := by decide +kernel
theorem dX5_canHoldTogether_64 : decode cX5_canHoldTogether 64 = .ok (.invokevirtual 136, 3) := by decide +kernel
theorem dX5_canHoldTogether_67 : decode cX5_canHoldTogether 67 = .ok (.ireturn, 1) := by decide +kernel
theorem dX5_clashingRows_0 : decode cX5_clashingRows 0 = .ok (.iconst 1, 1) := by decide +kernel
theorem dX5_clashingRows_1 : decode cX5_clashingRows 1 = .ok (.aload_n 0, 1) := by decide +kernel
theorem dX5_clashingRows_2 : decode cX5_clashingRows 2 = .ok (.getfield 62, 3) := by decide +kernel
theorem dX5_clashingRows_5 : decode cX5_clashingRows 5 = .ok (.ishl, 1) := by decide +kernel
theorem dX5_clashingRows_6 : decode cX5_clashingRows 6 = .ok (.iconst 1, 1) := by decide +kernel
theorem dX5_clashingRows_7 : decode cX5_clashingRows 7 = .ok (.isub, 1) := by decide +kernel
theorem dX5_clashingRows_8 : decode cX5_clashingRows 8 = .ok (.istore_n 1, 1) := by decide +kernel
theorem dX5_clashingRows_9 : decode cX5_clashingRows 9 = .ok (.aload_n 0, 1) := by decide +kernel
theorem dX5_clashingRows_10 : decode cX5_clashingRows 10 = .ok (.iload_n 1, 1) := by decide +kernel
theorem dX5_clashingRows_11 : decode cX5_clashingRows 11 = .ok (.invokevirtual 124, 3) := by decide +kernel
theorem dX5_clashingRows_14 : decode cX5_clashingRows 14 = .ok (.ifCond .eq 5, 3) := by decide +kernel
theorem dX5_clashingRows_17 : decode cX5_clashingRows 17 = .ok (.iconst 0, 1) := by decide +kernel
theorem dX5_clashingRows_18 : decode cX5_clashingRows 18 = .ok (.ireturn, 1) := by decide +kernel
theorem dX4_setWhole_0 : decode cX4_setWhole 0 = .ok (.aload_n 0, 1) := by decide +kernel
theorem dX4_setWhole_1 : decode cX4_setWhole 1 = .ok (.getfield 9, 3) := by decide +kernel
theorem dX4_setWhole_4 : decode cX4_setWhole 4 = .ok (.iconst 0, 1) := by decide +kernel
theorem dX4_setWhole_5 : decode cX4_setWhole 5 = .ok (.iload_n 1, 1) := by decide +kernel
theorem dX4_setWhole_6 : decode cX4_setWhole 6 = .ok (.i2l, 1) := by decide +kernel
theorem dX4_setWhole_7 : decode cX4_setWhole 7 = .ok (.lastore, 1) := by decide +kernel
theorem dX4_setWhole_8 : decode cX4_setWhole 8 = .ok (.aload_n 0, 1) := by decide +kernel
theorem dX4_setWhole_9 : decode cX4_setWhole 9 = .ok (.getfield 9, 3) := by decide +kernel
theorem dX4_setWhole_12 : decode cX4_setWhole 12 = .ok (.iconst 1, 1) := by decide +kernel
theorem dX4_setWhole_13 : decode cX4_setWhole 13 = .ok (.iload_n 2, 1) := by decide +kernel
theorem dX4_setWhole_14 : decode cX4_setWhole 14 = .ok (.i2l, 1) := by decide +kernel
theorem dX4_setWhole_15 : decode cX4_setWhole 15 = .ok (.lastore, 1) := by decide +kernel
theorem dX4_setWhole_16 : decode cX4_setWhole 16 = .ok (.aload_n 0, 1) := by decide +kernel
theorem dX4_setWhole_17 : decode cX4_setWhole 17 = .ok (.getfield 9, 3) := by decide +kernel
theorem dX4_setWhole_20 : decode cX4_setWhole 20 = .ok (.iconst 2, 1) := by decide +kernel
theorem dX4_setWhole_21 : decode cX4_setWhole 21 = .ok (.iload_n 3, 1) := by decide +kernel
theorem dX4_setWhole_22 : decode cX4_setWhole 22 = .ok (.i2l, 1) := by decide +kernel
theorem dX4_setWhole_23 : decode cX4_setWhole 23 = .ok (.lastore, 1) := by decide +kernel
theorem dX4_setWhole_24 : decode cX4_setWhole 24 = .ok (.aload_n 0, 1) := by decide +kernel
theorem dX4_setWhole_25 : decode cX4_setWhole 25 = .ok (.getfield 9, 3) := by decide +kernel
theorem dX4_setWhole_28 : decode cX4_setWhole 28 = .ok (.iconst 3, 1) := by decide +kernel
theorem dX4_setWhole_29 : decode cX4_setWhole 29 = .ok (.iload 4, 2) := by decide +kernel
theorem dX4_setWhole_31 : decode cX4_setWhole 31 = .ok (.i2l, 1) := by decide +kernel
theorem dX4_setWhole_32 : decode cX4_setWhole 32 = .ok (.lastore, 1) := by decide +kernel
theorem dX4_setWhole_33 : decode cX4_setWhole 33 = .ok (.aload_n 0, 1) := by decide +kernel
theorem dX4_setWhole_34 : decode cX4_setWhole 34 = .ok (.lconst 1, 1) := by decide +kernel
theorem dX4_setWhole_35 : decode cX4_setWhole 35 = .ok (.putfield 15, 3) := by decide +kernel
theorem dX4_setWhole_38 : decode cX4_setWhole 38 = .ok (.return_, 1) := by decide +kernel
theorem dX6_setFactors_0 : decode cX6_setFactors 0 = .ok (.aload_n 0, 1) := by decide +kernel
theorem dX6_setFactors_1 : decode cX6_setFactors 1 = .ok (.getfield 9, 3) := by decide +kernel
theorem dX6_setFactors_4 : decode cX6_setFactors 4 = .ok (.iconst 0, 1) := by decide +kernel
theorem dX6_setFactors_5 : decode cX6_setFactors 5 = .ok (.iload_n 1, 1) := by decide +kernel
theorem dX6_setFactors_6 : decode cX6_setFactors 6 = .ok (.iastore, 1) := by decide +kernel
theorem dX6_setFactors_7 : decode cX6_setFactors 7 = .ok (.aload_n 0, 1) := by decide +kernel
theorem dX6_setFactors_8 : decode cX6_setFactors 8 = .ok (.getfield 9, 3) := by decide +kernel
theorem dX6_setFactors_11 : decode cX6_setFactors 11 = .ok (.iconst 1, 1) := by decide +kernel
theorem dX6_setFactors_12 : decode cX6_setFactors 12 = .ok (.iload_n 2, 1) := by decide +kernel
theorem dX6_setFactors_13 : decode cX6_setFactors 13 = .ok (.iastore, 1) := by decide +kernel
theorem dX6_setFactors_14 : decode cX6_setFactors 14 = .ok (.aload_n 0, 1) := by decide +kernel
theorem dX6_setFactors_15 : decode cX6_setFactors 15 = .ok (.getfield 9, 3) := by decide +kernel
theorem dX6_setFactors_18 : decode cX6_setFactors 18 = .ok (.iconst 2, 1) := by decide +kernel
theorem dX6_setFactors_19 : decode cX6_setFactors 19 = .ok (.iload_n 3, 1) := by decide +kernel
theorem dX6_setFactors_20 : decode cX6_setFactors 20 = .ok (.iastore, 1) := by decide +kernel
theorem dX6_setFactors_21 : decode cX6_setFactors 21 = .ok (.aload_n 0, 1) := by decide +kernel
theorem dX6_setFactors_22 : decode cX6_setFactors 22 = .ok (.getfield 9, 3) := by decide +kernel
theorem dX6_setFactors_25 : decode cX6_setFactors 25 = .ok (.iconst 3, 1) := by decide +kernel
theorem dX6_setFactors_26 : decode cX6_setFactors 26 = .ok (.iload 4, 2) := by decide +kernel
theorem dX6_setFactors_28 : decode cX6_setFactors 28 = .ok (.iastore, 1) := by decide +kernel
theorem dX6_setFactors_29 : decode cX6_setFactors 29 = .ok (.return_, 1) := by decide +kernel
theorem dX5_price_0 : decode cX5_price 0 = .ok (.lconst 0, 1) := by decide +kernel
theorem dX5_price_1 : decode cX5_price 1 = .ok (.lstore_n 2, 1) := by decide +kernel
theorem dX5_price_2 : decode cX5_price 2 = .ok (.iconst 0, 1) := by decide +kernel
theorem dX5_price_3 : decode cX5_price 3 = .ok (.istore 4, 2) := by decide +kernel
theorem dX5_price_5 : decode cX5_price 5 = .ok (.iload 4, 2) := by decide +kernel
theorem dX5_price_7 : decode cX5_price 7 = .ok (.aload_n 0, 1) := by decide +kernel
theorem dX5_price_8 : decode cX5_price 8 = .ok (.getfield 58, 3) := by decide +kernel
theorem dX5_price_11 : decode cX5_price 11 = .ok (.if_icmp .ge 28, 3) := by decide +kernel
theorem dX5_price_39 : decode cX5_price 39 = .ok (.aload_n 1, 1) := by decide +kernel
theorem dX5_price_40 : decode cX5_price 40 = .ok (.lload_n 2, 1) := by decide +kernel
theorem dX5_price_41 : decode cX5_price 41 = .ok (.putfield 143, 3) := by decide +kernel
theorem dX5_price_44 : decode cX5_price 44 = .ok (.return_, 1) := by decide +kernel
theorem dX5_keepsRows_0 : decode cX5_keepsRows 0 = .ok (.iconst 0, 1) := by decide +kernel
theorem dX5_keepsRows_1 : decode cX5_keepsRows 1 = .ok (.istore_n 2, 1) := by decide +kernel
theorem dX5_keepsRows_2 : decode cX5_keepsRows 2 = .ok (.iload_n 2, 1) := by decide +kernel
theorem dX5_keepsRows_3 : decode cX5_keepsRows 3 = .ok (.aload_n 0, 1) := by decide +kernel
theorem dX5_keepsRows_4 : decode cX5_keepsRows 4 = .ok (.getfield 62, 3) := by decide +kernel
theorem dX5_keepsRows_7 : decode cX5_keepsRows 7 = .ok (.if_icmp .ge 24, 3) := by decide +kernel
theorem dX5_keepsRows_31 : decode cX5_keepsRows 31 = .ok (.iconst 1, 1) := by decide +kernel
theorem dX5_keepsRows_32 : decode cX5_keepsRows 32 = .ok (.ireturn, 1) := by decide +kernel
theorem dX5_advanceTrial_0 : decode cX5_advanceTrial 0 = .ok (.iconst 0, 1) := by decide +kernel
theorem dX5_advanceTrial_1 : decode cX5_advanceTrial 1 = .ok (.istore_n 1, 1) := by decide +kernel
theorem dX5_advanceTrial_2 : decode cX5_advanceTrial 2 = .ok (.iload_n 1, 1) := by decide +kernel
theorem dX5_advanceTrial_3 : decode cX5_advanceTrial 3 = .ok (.aload_n 0, 1) := by decide +kernel
theorem dX5_advanceTrial_4 : decode cX5_advanceTrial 4 = .ok (.getfield 58, 3) := by decide +kernel
theorem dX5_advanceTrial_7 : decode cX5_advanceTrial 7 = .ok (.if_icmp .ge 59, 3) := by decide +kernel
theorem dX5_advanceTrial_66 : decode cX5_advanceTrial 66 = .ok (.return_, 1) := by decide +kernel
theorem dX5_leastCost_0 : decode cX5_leastCost 0 = .ok (.aload_n 0, 1) := by decide +kernel
theorem dX5_leastCost_1 : decode cX5_leastCost 1 = .ok (.getfield 46, 3) := by decide +kernel
theorem dX5_leastCost_4 : decode cX5_leastCost 4 = .ok (.aload_n 0, 1) := by decide +kernel
theorem dX5_leastCost_5 : decode cX5_leastCost 5 = .ok (.getfield 15, 3) := by decide +kernel
theorem dX5_leastCost_8 : decode cX5_leastCost 8 = .ok (.iconst 0, 1) := by decide +kernel
theorem dX5_leastCost_9 : decode cX5_leastCost 9 = .ok (.iaload, 1) := by decide +kernel
theorem dX5_leastCost_10 : decode cX5_leastCost 10 = .ok (.aload_n 0, 1) := by decide +kernel
theorem dX5_leastCost_11 : decode cX5_leastCost 11 = .ok (.getfield 15, 3) := by decide +kernel
theorem dX5_leastCost_14 : decode cX5_leastCost 14 = .ok (.iconst 1, 1) := by decide +kernel
theorem dX5_leastCost_15 : decode cX5_leastCost 15 = .ok (.iaload, 1) := by decide +kernel
theorem dX5_leastCost_16 : decode cX5_leastCost 16 = .ok (.aload_n 0, 1) := by decide +kernel
theorem dX5_leastCost_17 : decode cX5_leastCost 17 = .ok (.getfield 15, 3) := by decide +kernel
theorem dX5_leastCost_20 : decode cX5_leastCost 20 = .ok (.iconst 2, 1) := by decide +kernel
theorem dX5_leastCost_21 : decode cX5_leastCost 21 = .ok (.iaload, 1) := by decide +kernel
theorem dX5_leastCost_22 : decode cX5_leastCost 22 = .ok (.aload_n 0, 1) := by decide +kernel
theorem dX5_leastCost_23 : decode cX5_leastCost 23 = .ok (.getfield 15, 3) := by decide +kernel
theorem dX5_leastCost_26 : decode cX5_leastCost 26 = .ok (.iconst 3, 1) := by decide +kernel
theorem dX5_leastCost_27 : decode cX5_leastCost 27 = .ok (.iaload, 1) := by decide +kernel
theorem dX5_leastCost_28 : decode cX5_leastCost 28 = .ok (.invokevirtual 171, 3) := by decide +kernel
theorem dX5_leastCost_31 : decode cX5_leastCost 31 = .ok (.sipush 1000, 3) := by decide +kernel
theorem dX5_leastCost_34 : decode cX5_leastCost 34 = .ok (.istore_n 1, 1) := by decide +kernel
theorem dX5_leastCost_35 : decode cX5_leastCost 35 = .ok (.aload_n 0, 1) := by decide +kernel
theorem dX5_leastCost_36 : decode cX5_leastCost 36 = .ok (.invokevirtual 175, 3) := by decide +kernel
theorem dX5_leastCost_39 : decode cX5_leastCost 39 = .ok (.sipush 6000, 3) := by decide +kernel
theorem dX5_leastCost_42 : decode cX5_leastCost 42 = .ok (.invokestatic 108, 3) := by decide +kernel
theorem dX5_leastCost_45 : decode cX5_leastCost 45 = .ok (.istore_n 2, 1) := by decide +kernel
theorem dX5_leastCost_46 : decode cX5_leastCost 46 = .ok (.iconst 0, 1) := by decide +kernel
theorem dX5_leastCost_47 : decode cX5_leastCost 47 = .ok (.istore_n 3, 1) := by decide +kernel
theorem dX5_leastCost_48 : decode cX5_leastCost 48 = .ok (.iload_n 3, 1) := by decide +kernel
theorem dX5_leastCost_49 : decode cX5_leastCost 49 = .ok (.iload_n 2, 1) := by decide +kernel
theorem dX5_leastCost_50 : decode cX5_leastCost 50 = .ok (.if_icmp .ge 54, 3) := by decide +kernel
theorem dX5_leastCost_53 : decode cX5_leastCost 53 = .ok (.aload_n 0, 1) := by decide +kernel
theorem dX5_leastCost_54 : decode cX5_leastCost 54 = .ok (.aload_n 0, 1) := by decide +kernel
theorem dX5_leastCost_55 : decode cX5_leastCost 55 = .ok (.getfield 46, 3) := by decide +kernel
theorem dX5_leastCost_58 : decode cX5_leastCost 58 = .ok (.invokevirtual 178, 3) := by decide +kernel
theorem dX5_leastCost_61 : decode cX5_leastCost 61 = .ok (.aload_n 0, 1) := by decide +kernel
theorem dX5_leastCost_62 : decode cX5_leastCost 62 = .ok (.getfield 46, 3) := by decide +kernel
theorem dX5_leastCost_65 : decode cX5_leastCost 65 = .ok (.getfield 143, 3) := by decide +kernel
theorem dX5_leastCost_68 : decode cX5_leastCost 68 = .ok (.iload_n 1, 1) := by decide +kernel
theorem dX5_leastCost_69 : decode cX5_leastCost 69 = .ok (.i2l, 1) := by decide +kernel
theorem dX5_leastCost_70 : decode cX5_leastCost 70 = .ok (.lcmp, 1) := by decide +kernel
theorem dX5_leastCost_71 : decode cX5_leastCost 71 = .ok (.ifCond .ge 23, 3) := by decide +kernel
theorem dX5_leastCost_74 : decode cX5_leastCost 74 = .ok (.aload_n 0, 1) := by decide +kernel
theorem dX5_leastCost_75 : decode cX5_leastCost 75 = .ok (.aload_n 0, 1) := by decide +kernel
theorem dX5_leastCost_76 : decode cX5_leastCost 76 = .ok (.getfield 46, 3) := by decide +kernel
theorem dX5_leastCost_79 : decode cX5_leastCost 79 = .ok (.invokevirtual 165, 3) := by decide +kernel
theorem dX5_leastCost_82 : decode cX5_leastCost 82 = .ok (.ifCond .eq 12, 3) := by decide +kernel
theorem dX5_leastCost_85 : decode cX5_leastCost 85 = .ok (.aload_n 0, 1) := by decide +kernel
theorem dX5_leastCost_86 : decode cX5_leastCost 86 = .ok (.getfield 46, 3) := by decide +kernel
theorem dX5_leastCost_89 : decode cX5_leastCost 89 = .ok (.getfield 143, 3) := by decide +kernel
theorem dX5_leastCost_92 : decode cX5_leastCost 92 = .ok (.l2i, 1) := by decide +kernel
theorem dX5_leastCost_93 : decode cX5_leastCost 93 = .ok (.istore_n 1, 1) := by decide +kernel
theorem dX5_leastCost_94 : decode cX5_leastCost 94 = .ok (.aload_n 0, 1) := by decide +kernel
theorem dX5_leastCost_95 : decode cX5_leastCost 95 = .ok (.invokevirtual 181, 3) := by decide +kernel
theorem dX5_leastCost_98 : decode cX5_leastCost 98 = .ok (.iinc 3 1, 3) := by decide +kernel
theorem dX5_leastCost_101 : decode cX5_leastCost 101 = .ok (.goto (-53), 3) := by decide +kernel
theorem dX5_leastCost_104 : decode cX5_leastCost 104 = .ok (.iload_n 1, 1) := by decide +kernel
theorem dX5_leastCost_105 : decode cX5_leastCost 105 = .ok (.ireturn, 1) := by decide +kernel
theorem dX8_lower_0 : decode cX8_lower 0 = .ok (.aload_n 0, 1) := by decide +kernel
theorem dX8_lower_1 : decode cX8_lower 1 = .ok (.getfield 20, 3) := by decide +kernel
theorem dX8_lower_4 : decode cX8_lower 4 = .ok (.iload_n 1, 1) := by decide +kernel
theorem dX8_lower_5 : decode cX8_lower 5 = .ok (.invokevirtual 96, 3) := by decide +kernel
theorem dX8_lower_8 : decode cX8_lower 8 = .ok (.ifCond .ne 13, 3) := by decide +kernel
theorem dX8_lower_11 : decode cX8_lower 11 = .ok (.new 100, 3) := by decide +kernel
theorem dX8_lower_14 : decode cX8_lower 14 = .ok (.dup, 1) := by decide +kernel
theorem dX8_lower_15 : decode cX8_lower 15 = .ok (.ldc 102, 2) := by decide +kernel
theorem dX8_lower_17 : decode cX8_lower 17 = .ok (.invokespecial 104, 3) := by decide +kernel
theorem dX8_lower_20 : decode cX8_lower 20 = .ok (.athrow, 1) := by decide +kernel
theorem dX8_upper_0 : decode cX8_upper 0 = .ok (.aload_n 0, 1) := by decide +kernel
theorem dX8_upper_1 : decode cX8_upper 1 = .ok (.getfield 20, 3) := by decide +kernel
theorem dX8_upper_4 : decode cX8_upper 4 = .ok (.iload_n 1, 1) := by decide +kernel
theorem dX8_upper_5 : decode cX8_upper 5 = .ok (.invokevirtual 96, 3) := by decide +kernel
theorem dX8_upper_8 : decode cX8_upper 8 = .ok (.ifCond .ne 13, 3) := by decide +kernel
theorem dX8_upper_11 : decode cX8_upper 11 = .ok (.new 100, 3) := by decide +kernel
theorem dX8_upper_14 : decode cX8_upper 14 = .ok (.dup, 1) := by decide +kernel
theorem dX8_upper_15 : decode cX8_upper 15 = .ok (.ldc 102, 2) := by decide +kernel
theorem dX8_upper_17 : decode cX8_upper 17 = .ok (.invokespecial 104, 3) := by decide +kernel
theorem dX8_upper_20 : decode cX8_upper 20 = .ok (.athrow, 1) := by decide +kernel
theorem dX8_areAlike_0 : decode cX8_areAlike 0 = .ok (.aload_n 0, 1) := by decide +kernel
theorem dX8_areAlike_1 : decode cX8_areAlike 1 = .ok (.getfield 20, 3) := by decide +kernel
theorem dX8_areAlike_4 : decode cX8_areAlike 4 = .ok (.iload_n 1, 1) := by decide +kernel
theorem dX8_areAlike_5 : decode cX8_areAlike 5 = .ok (.invokevirtual 96, 3) := by decide +kernel
theorem dX8_areAlike_8 : decode cX8_areAlike 8 = .ok (.ifCond .eq 14, 3) := by decide +kernel
theorem dX8_areAlike_22 : decode cX8_areAlike 22 = .ok (.new 100, 3) := by decide +kernel
theorem dX8_areAlike_25 : decode cX8_areAlike 25 = .ok (.dup, 1) := by decide +kernel
theorem dX8_areAlike_26 : decode cX8_areAlike 26 = .ok (.ldc 102, 2) := by decide +kernel
theorem dX8_areAlike_28 : decode cX8_areAlike 28 = .ok (.invokespecial 104, 3) := by decide +kernel
theorem dX8_areAlike_31 : decode cX8_areAlike 31 = .ok (.athrow, 1) := by decide +kernel
theorem dX8_state_0 : decode cX8_state 0 = .ok (.aload_n 0, 1) := by decide +kernel
theorem dX8_state_1 : decode cX8_state 1 = .ok (.getfield 12, 3) := by decide +kernel
theorem dX8_state_4 : decode cX8_state 4 = .ok (.iload_n 1, 1) := by decide +kernel
theorem dX8_state_5 : decode cX8_state 5 = .ok (.invokevirtual 149, 3) := by decide +kernel
theorem dX8_state_8 : decode cX8_state 8 = .ok (.ifCond .ne 13, 3) := by decide +kernel
theorem dX8_state_11 : decode cX8_state 11 = .ok (.new 100, 3) := by decide +kernel
theorem dX8_state_14 : decode cX8_state 14 = .ok (.dup, 1) := by decide +kernel
theorem dX8_state_15 : decode cX8_state 15 = .ok (.ldc 152, 2) := by decide +kernel
theorem dX8_state_17 : decode cX8_state 17 = .ok (.invokespecial 104, 3) := by decide +kernel
theorem dX8_state_20 : decode cX8_state 20 = .ok (.athrow, 1) := by decide +kernel
theorem dX8_parent_0 : decode cX8_parent 0 = .ok (.aload_n 0, 1) := by decide +kernel
theorem dX8_parent_1 : decode cX8_parent 1 = .ok (.getfield 12, 3) := by decide +kernel
theorem dX8_parent_4 : decode cX8_parent 4 = .ok (.iload_n 1, 1) := by decide +kernel
theorem dX8_parent_5 : decode cX8_parent 5 = .ok (.invokevirtual 149, 3) := by decide +kernel
theorem dX8_parent_8 : decode cX8_parent 8 = .ok (.ifCond .ne 13, 3) := by decide +kernel
theorem dX8_parent_11 : decode cX8_parent 11 = .ok (.new 100, 3) := by decide +kernel
theorem dX8_parent_14 : decode cX8_parent 14 = .ok (.dup, 1) := by decide +kernel
theorem dX8_parent_15 : decode cX8_parent 15 = .ok (.ldc 152, 2) := by decide +kernel
theorem dX8_parent_17 : decode cX8_parent 17 = .ok (.invokespecial 104, 3) := by decide +kernel
theorem dX8_parent_20 : decode cX8_parent 20 = .ok (.athrow, 1) := by decide +kernel
theorem dX8_lowerAt_0 : decode cX8_lowerAt 0 = .ok (.aload_n 0, 1) := by decide +kernel
theorem dX8_lowerAt_1 : decode cX8_lowerAt 1 = .ok (.getfield 12, 3) := by decide +kernel
theorem dX8_lowerAt_4 : decode cX8_lowerAt 4 = .ok (.iload_n 1, 1) := by decide +kernel
theorem dX8_lowerAt_5 : decode cX8_lowerAt 5 = .ok (.invokevirtual 149, 3) := by decide +kernel
theorem dX8_lowerAt_8 : decode cX8_lowerAt 8 = .ok (.ifCond .eq 14, 3) := by decide +kernel
theorem dX8_lowerAt_22 : decode cX8_lowerAt 22 = .ok (.new 100, 3) := by decide +kernel
theorem dX8_lowerAt_25 : decode cX8_lowerAt 25 = .ok (.dup, 1) := by decide +kernel
theorem dX8_lowerAt_26 : decode cX8_lowerAt 26 = .ok (.ldc 172, 2) := by decide +kernel
theorem dX8_lowerAt_28 : decode cX8_lowerAt 28 = .ok (.invokespecial 104, 3) := by decide +kernel
theorem dX8_lowerAt_31 : decode cX8_lowerAt 31 = .ok (.athrow, 1) := by decide +kernel
theorem dX8_upperAt_0 : decode cX8_upperAt 0 = .ok (.aload_n 0, 1) := by decide +kernel
theorem dX8_upperAt_1 : decode cX8_upperAt 1 = .ok (.getfield 12, 3) := by decide +kernel
theorem dX8_upperAt_4 : decode cX8_upperAt 4 = .ok (.iload_n 1, 1) := by decide +kernel
theorem dX8_upperAt_5 : decode cX8_upperAt 5 = .ok (.invokevirtual 149, 3) := by decide +kernel
theorem dX8_upperAt_8 : decode cX8_upperAt 8 = .ok (.ifCond .eq 14, 3) := by decide +kernel
theorem dX8_upperAt_22 : decode cX8_upperAt 22 = .ok (.new 100, 3) := by decide +kernel
theorem dX8_upperAt_25 : decode cX8_upperAt 25 = .ok (.dup, 1) := by decide +kernel
theorem dX8_upperAt_26 : decode cX8_upperAt 26 = .ok (.ldc 172, 2) := by decide +kernel
theorem dX8_upperAt_28 : decode cX8_upperAt 28 = .ok (.invokespecial 104, 3) := by decide +kernel
theorem dX8_upperAt_31 : decode cX8_upperAt 31 = .ok (.athrow, 1) := by decide +kernel
theorem dX8_value_0 : decode cX8_value 0 = .ok (.aload_n 0, 1) := by decide +kernel
theorem dX8_value_1 : decode cX8_value 1 = .ok (.getfield 12, 3) := by decide +kernel
theorem dX8_value_4 : decode cX8_value 4 = .ok (.iload_n 1, 1) := by decide +kernel
theorem dX8_value_5 : decode cX8_value 5 = .ok (.invokevirtual 149, 3) := by decide +kernel
theorem dX8_value_8 : decode cX8_value 8 = .ok (.ifCond .ne 13, 3) := by decide +kernel
theorem dX8_value_11 : decode cX8_value 11 = .ok (.new 100, 3) := by decide +kernel
theorem dX8_value_14 : decode cX8_value 14 = .ok (.dup, 1) := by decide +kernel
theorem dX8_value_15 : decode cX8_value 15 = .ok (.ldc 152, 2) := by decide +kernel
theorem dX8_value_17 : decode cX8_value 17 = .ok (.invokespecial 104, 3) := by decide +kernel
theorem dX8_value_20 : decode cX8_value 20 = .ok (.athrow, 1) := by decide +kernel
theorem dX8_point_0 : decode cX8_point 0 = .ok (.aload_n 0, 1) := by decide +kernel
theorem dX8_point_1 : decode cX8_point 1 = .ok (.getfield 12, 3) := by decide +kernel
theorem dX8_point_4 : decode cX8_point 4 = .ok (.iload_n 1, 1) := by decide +kernel
theorem dX8_point_5 : decode cX8_point 5 = .ok (.invokevirtual 149, 3) := by decide +kernel
theorem dX8_point_8 : decode cX8_point 8 = .ok (.ifCond .eq 14, 3) := by decide +kernel
theorem dX8_point_22 : decode cX8_point 22 = .ok (.new 100, 3) := by decide +kernel
theorem dX8_point_25 : decode cX8_point 25 = .ok (.dup, 1) := by decide +kernel
theorem dX8_point_26 : decode cX8_point 26 = .ok (.ldc 172, 2) := by decide +kernel
theorem dX8_point_28 : decode cX8_point 28 = .ok (.invokespecial 104, 3) := by decide +kernel
theorem dX8_point_31 : decode cX8_point 31 = .ok (.athrow, 1) := by decide +kernel
theorem dX8_round_0 : decode cX8_round 0 = .ok (.aload_n 0, 1) := by decide +kernel
theorem dX8_round_1 : decode cX8_round 1 = .ok (.getfield 12, 3) := by decide +kernel
theorem dX8_round_4 : decode cX8_round 4 = .ok (.iload_n 1, 1) := by decide +kernel
theorem dX8_round_5 : decode cX8_round 5 = .ok (.invokevirtual 149, 3) := by decide +kernel
theorem dX8_round_8 : decode cX8_round 8 = .ok (.ifCond .ne 13, 3) := by decide +kernel
theorem dX8_round_11 : decode cX8_round 11 = .ok (.new 100, 3) := by decide +kernel
theorem dX8_round_14 : decode cX8_round 14 = .ok (.dup, 1) := by decide +kernel
theorem dX8_round_15 : decode cX8_round 15 = .ok (.ldc 152, 2) := by decide +kernel
theorem dX8_round_17 : decode cX8_round 17 = .ok (.invokespecial 104, 3) := by decide +kernel
theorem dX8_round_20 : decode cX8_round 20 = .ok (.athrow, 1) := by decide +kernel
theorem dX8_solution_0 : decode cX8_solution 0 = .ok (.aload_n 0, 1) := by decide +kernel
theorem dX8_solution_1 : decode cX8_solution 1 = .ok (.getfield 20, 3) := by decide +kernel
theorem dX8_solution_4 : decode cX8_solution 4 = .ok (.iload_n 1, 1) := by decide +kernel
theorem dX8_solution_5 : decode cX8_solution 5 = .ok (.invokevirtual 96, 3) := by decide +kernel
theorem dX8_solution_8 : decode cX8_solution 8 = .ok (.ifCond .ne 13, 3) := by decide +kernel
theorem dX8_solution_11 : decode cX8_solution 11 = .ok (.new 100, 3) := by decide +kernel
theorem dX8_solution_14 : decode cX8_solution 14 = .ok (.dup, 1) := by decide +kernel
theorem dX8_solution_15 : decode cX8_solution 15 = .ok (.ldc 102, 2) := by decide +kernel
theorem dX8_solution_17 : decode cX8_solution 17 = .ok (.invokespecial 104, 3) := by decide +kernel
theorem dX8_solution_20 : decode cX8_solution 20 = .ok (.athrow, 1) := by decide +kernel
theorem dX8_cutByRounding_0 : decode cX8_cutByRounding 0 = .ok (.aload_n 0, 1) := by decide +kernel
theorem dX8_cutByRounding_1 : decode cX8_cutByRounding 1 = .ok (.getfield 12, 3) := by decide +kernel
theorem dX8_cutByRounding_4 : decode cX8_cutByRounding 4 = .ok (.iload_n 1, 1) := by decide +kernel
theorem dX8_cutByRounding_5 : decode cX8_cutByRounding 5 = .ok (.invokevirtual 149, 3) := by decide +kernel
theorem dX8_cutByRounding_8 : decode cX8_cutByRounding 8 = .ok (.ifCond .eq 14, 3) := by decide +kernel
theorem dX8_cutByRounding_22 : decode cX8_cutByRounding 22 = .ok (.new 100, 3) := by decide +kernel
theorem dX8_cutByRounding_25 : decode cX8_cutByRounding 25 = .ok (.dup, 1) := by decide +kernel
theorem dX8_cutByRounding_26 : decode cX8_cutByRounding 26 = .ok (.ldc 240, 2) := by decide +kernel
theorem dX8_cutByRounding_28 : decode cX8_cutByRounding 28 = .ok (.invokespecial 104, 3) := by decide +kernel
theorem dX8_cutByRounding_31 : decode cX8_cutByRounding 31 = .ok (.athrow, 1) := by decide +kernel
theorem dX8_cutByCover_0 : decode cX8_cutByCover 0 = .ok (.aload_n 0, 1) := by decide +kernel
theorem dX8_cutByCover_1 : decode cX8_cutByCover 1 = .ok (.getfield 20, 3) := by decide +kernel
theorem dX8_cutByCover_4 : decode cX8_cutByCover 4 = .ok (.iload_n 1, 1) := by decide +kernel
theorem dX8_cutByCover_5 : decode cX8_cutByCover 5 = .ok (.invokevirtual 237, 3) := by decide +kernel
theorem dX8_cutByCover_8 : decode cX8_cutByCover 8 = .ok (.ifCond .ne 14, 3) := by decide +kernel
theorem dX8_cutByCover_11 : decode cX8_cutByCover 11 = .ok (.new 100, 3) := by decide +kernel
theorem dX8_cutByCover_14 : decode cX8_cutByCover 14 = .ok (.dup, 1) := by decide +kernel
theorem dX8_cutByCover_15 : decode cX8_cutByCover 15 = .ok (.ldc_w 259, 3) := by decide +kernel
theorem dX8_cutByCover_18 : decode cX8_cutByCover 18 = .ok (.invokespecial 104, 3) := by decide +kernel
theorem dX8_cutByCover_21 : decode cX8_cutByCover 21 = .ok (.athrow, 1) := by decide +kernel
theorem dX8_cutByLikeness_0 : decode cX8_cutByLikeness 0 = .ok (.aload_n 0, 1) := by decide +kernel
theorem dX8_cutByLikeness_1 : decode cX8_cutByLikeness 1 = .ok (.getfield 20, 3) := by decide +kernel
theorem dX8_cutByLikeness_4 : decode cX8_cutByLikeness 4 = .ok (.iload_n 1, 1) := by decide +kernel
theorem dX8_cutByLikeness_5 : decode cX8_cutByLikeness 5 = .ok (.invokevirtual 96, 3) := by decide +kernel
theorem dX8_cutByLikeness_8 : decode cX8_cutByLikeness 8 = .ok (.ifCond .eq 14, 3) := by decide +kernel
theorem dX8_cutByLikeness_22 : decode cX8_cutByLikeness 22 = .ok (.new 100, 3) := by decide +kernel
theorem dX8_cutByLikeness_25 : decode cX8_cutByLikeness 25 = .ok (.dup, 1) := by decide +kernel
theorem dX8_cutByLikeness_26 : decode cX8_cutByLikeness 26 = .ok (.ldc 102, 2) := by decide +kernel
theorem dX8_cutByLikeness_28 : decode cX8_cutByLikeness 28 = .ok (.invokespecial 104, 3) := by decide +kernel
theorem dX8_cutByLikeness_31 : decode cX8_cutByLikeness 31 = .ok (.athrow, 1) := by decide +kernel
theorem dX8_kind_0 : decode cX8_kind 0 = .ok (.aload_n 0, 1) := by decide +kernel
theorem dX8_kind_1 : decode cX8_kind 1 = .ok (.getfield 12, 3) := by decide +kernel
theorem dX8_kind_4 : decode cX8_kind 4 = .ok (.iload_n 1, 1) := by decide +kernel
theorem dX8_kind_5 : decode cX8_kind 5 = .ok (.invokevirtual 279, 3) := by decide +kernel
theorem dX8_kind_8 : decode cX8_kind 8 = .ok (.ifCond .ne 14, 3) := by decide +kernel
theorem dX8_kind_11 : decode cX8_kind 11 = .ok (.new 100, 3) := by decide +kernel
theorem dX8_kind_14 : decode cX8_kind 14 = .ok (.dup, 1) := by decide +kernel
theorem dX8_kind_15 : decode cX8_kind 15 = .ok (.ldc_w 282, 3) := by decide +kernel
theorem dX8_kind_18 : decode cX8_kind 18 = .ok (.invokespecial 104, 3) := by decide +kernel
theorem dX8_kind_21 : decode cX8_kind 21 = .ok (.athrow, 1) := by decide +kernel
theorem dX8_coefficient_0 : decode cX8_coefficient 0 = .ok (.aload_n 0, 1) := by decide +kernel
theorem dX8_coefficient_1 : decode cX8_coefficient 1 = .ok (.getfield 12, 3) := by decide +kernel
theorem dX8_coefficient_4 : decode cX8_coefficient 4 = .ok (.iload_n 1, 1) := by decide +kernel
theorem dX8_coefficient_5 : decode cX8_coefficient 5 = .ok (.invokevirtual 279, 3) := by decide +kernel
theorem dX8_coefficient_8 : decode cX8_coefficient 8 = .ok (.ifCond .eq 14, 3) := by decide +kernel
theorem dX8_coefficient_22 : decode cX8_coefficient 22 = .ok (.new 100, 3) := by decide +kernel
theorem dX8_coefficient_25 : decode cX8_coefficient 25 = .ok (.dup, 1) := by decide +kernel
theorem dX8_coefficient_26 : decode cX8_coefficient 26 = .ok (.ldc_w 293, 3) := by decide +kernel
theorem dX8_coefficient_29 : decode cX8_coefficient 29 = .ok (.invokespecial 104, 3) := by decide +kernel
theorem dX8_coefficient_32 : decode cX8_coefficient 32 = .ok (.athrow, 1) := by decide +kernel
theorem dX8_side_0 : decode cX8_side 0 = .ok (.aload_n 0, 1) := by decide +kernel
theorem dX8_side_1 : decode cX8_side 1 = .ok (.getfield 12, 3) := by decide +kernel
theorem dX8_side_4 : decode cX8_side 4 = .ok (.iload_n 1, 1) := by decide +kernel
theorem dX8_side_5 : decode cX8_side 5 = .ok (.invokevirtual 279, 3) := by decide +kernel
theorem dX8_side_8 : decode cX8_side 8 = .ok (.ifCond .ne 14, 3) := by decide +kernel
theorem dX8_side_11 : decode cX8_side 11 = .ok (.new 100, 3) := by decide +kernel
theorem dX8_side_14 : decode cX8_side 14 = .ok (.dup, 1) := by decide +kernel
theorem dX8_side_15 : decode cX8_side 15 = .ok (.ldc_w 282, 3) := by decide +kernel
theorem dX8_side_18 : decode cX8_side 18 = .ok (.invokespecial 104, 3) := by decide +kernel
theorem dX8_side_21 : decode cX8_side 21 = .ok (.athrow, 1) := by decide +kernel
theorem dX8_age_0 : decode cX8_age 0 = .ok (.aload_n 0, 1) := by decide +kernel
theorem dX8_age_1 : decode cX8_age 1 = .ok (.getfield 12, 3) := by decide +kernel
theorem dX8_age_4 : decode cX8_age 4 = .ok (.iload_n 1, 1) := by decide +kernel
theorem dX8_age_5 : decode cX8_age 5 = .ok (.invokevirtual 279, 3) := by decide +kernel
theorem dX8_age_8 : decode cX8_age 8 = .ok (.ifCond .ne 14, 3) := by decide +kernel
theorem dX8_age_11 : decode cX8_age 11 = .ok (.new 100, 3) := by decide +kernel
theorem dX8_age_14 : decode cX8_age 14 = .ok (.dup, 1) := by decide +kernel
theorem dX8_age_15 : decode cX8_age 15 = .ok (.ldc_w 282, 3) := by decide +kernel
theorem dX8_age_18 : decode cX8_age 18 = .ok (.invokespecial 104, 3) := by decide +kernel
theorem dX8_age_21 : decode cX8_age 21 = .ok (.athrow, 1) := by decide +kernel
theorem dX8_gain_0 : decode cX8_gain 0 = .ok (.aload_n 0, 1) := by decide +kernel
theorem dX8_gain_1 : decode cX8_gain 1 = .ok (.getfield 20, 3) := by decide +kernel
theorem dX8_gain_4 : decode cX8_gain 4 = .ok (.iload_n 1, 1) := by decide +kernel
theorem dX8_gain_5 : decode cX8_gain 5 = .ok (.invokevirtual 96, 3) := by decide +kernel
theorem dX8_gain_8 : decode cX8_gain 8 = .ok (.ifCond .ne 13, 3) := by decide +kernel
theorem dX8_gain_11 : decode cX8_gain 11 = .ok (.new 100, 3) := by decide +kernel
theorem dX8_gain_14 : decode cX8_gain 14 = .ok (.dup, 1) := by decide +kernel
theorem dX8_gain_15 : decode cX8_gain 15 = .ok (.ldc 102, 2) := by decide +kernel
theorem dX8_gain_17 : decode cX8_gain 17 = .ok (.invokespecial 104, 3) := by decide +kernel
theorem dX8_gain_20 : decode cX8_gain 20 = .ok (.athrow, 1) := by decide +kernel
theorem dX8_unkept_0 : decode cX8_unkept 0 = .ok (.aload_n 0, 1) := by decide +kernel
theorem dX8_unkept_1 : decode cX8_unkept 1 = .ok (.getfield 20, 3) := by decide +kernel
theorem dX8_unkept_4 : decode cX8_unkept 4 = .ok (.invokevirtual 115, 3) := by decide +kernel
theorem dX8_unkept_7 : decode cX8_unkept 7 = .ok (.istore_n 1, 1) := by decide +kernel
theorem dX8_unkept_8 : decode cX8_unkept 8 = .ok (.iload_n 1, 1) := by decide +kernel
theorem dX8_unkept_9 : decode cX8_unkept 9 = .ok (.ifCond .ne 13, 3) := by decide +kernel
theorem dX8_unkept_12 : decode cX8_unkept 12 = .ok (.new 118, 3) := by decide +kernel
theorem dX8_unkept_15 : decode cX8_unkept 15 = .ok (.dup, 1) := by decide +kernel
theorem dX8_unkept_16 : decode cX8_unkept 16 = .ok (.ldc 120, 2) := by decide +kernel
theorem dX8_unkept_18 : decode cX8_unkept 18 = .ok (.invokespecial 122, 3) := by decide +kernel
theorem dX8_unkept_21 : decode cX8_unkept 21 = .ok (.athrow, 1) := by decide +kernel
theorem dX8_bound_0 : decode cX8_bound 0 = .ok (.aload_n 0, 1) := by decide +kernel
theorem dX8_bound_1 : decode cX8_bound 1 = .ok (.getfield 12, 3) := by decide +kernel
theorem dX8_bound_4 : decode cX8_bound 4 = .ok (.invokevirtual 199, 3) := by decide +kernel
theorem dX8_bound_7 : decode cX8_bound 7 = .ok (.astore_n 1, 1) := by decide +kernel
theorem dX8_bound_8 : decode cX8_bound 8 = .ok (.aload_n 1, 1) := by decide +kernel
theorem dX8_bound_9 : decode cX8_bound 9 = .ok (.ifnonnull 13, 3) := by decide +kernel
theorem dX8_bound_12 : decode cX8_bound 12 = .ok (.new 118, 3) := by decide +kernel
theorem dX8_bound_15 : decode cX8_bound 15 = .ok (.dup, 1) := by decide +kernel
theorem dX8_bound_16 : decode cX8_bound 16 = .ok (.ldc 203, 2) := by decide +kernel
theorem dX8_bound_18 : decode cX8_bound 18 = .ok (.invokespecial 122, 3) := by decide +kernel
theorem dX8_bound_21 : decode cX8_bound 21 = .ok (.athrow, 1) := by decide +kernel
theorem dX8_best_0 : decode cX8_best 0 = .ok (.aload_n 0, 1) := by decide +kernel
theorem dX8_best_1 : decode cX8_best 1 = .ok (.getfield 12, 3) := by decide +kernel
theorem dX8_best_4 : decode cX8_best 4 = .ok (.getfield 218, 3) := by decide +kernel
theorem dX8_best_7 : decode cX8_best 7 = .ok (.ifCond .ne 13, 3) := by decide +kernel
theorem dX8_best_10 : decode cX8_best 10 = .ok (.new 118, 3) := by decide +kernel
theorem dX8_best_13 : decode cX8_best 13 = .ok (.dup, 1) := by decide +kernel
theorem dX8_best_14 : decode cX8_best 14 = .ok (.ldc 222, 2) := by decide +kernel
theorem dX8_best_16 : decode cX8_best 16 = .ok (.invokespecial 122, 3) := by decide +kernel
theorem dX8_best_19 : decode cX8_best 19 = .ok (.athrow, 1) := by decide +kernel
theorem dX8_offer_0 : decode cX8_offer 0 = .ok (.aload_n 0, 1) := by decide +kernel
theorem dX8_offer_1 : decode cX8_offer 1 = .ok (.getfield 12, 3) := by decide +kernel
theorem dX8_offer_4 : decode cX8_offer 4 = .ok (.invokevirtual 41, 3) := by decide +kernel
theorem dX8_offer_7 : decode cX8_offer 7 = .ok (.ifCond .ne 13, 3) := by decide +kernel
theorem dX8_offer_10 : decode cX8_offer 10 = .ok (.new 45, 3) := by decide +kernel
theorem dX8_offer_13 : decode cX8_offer 13 = .ok (.dup, 1) := by decide +kernel
theorem dX8_offer_14 : decode cX8_offer 14 = .ok (.ldc 138, 2) := by decide +kernel
theorem dX8_offer_16 : decode cX8_offer 16 = .ok (.invokespecial 49, 3) := by decide +kernel
theorem dX8_offer_19 : decode cX8_offer 19 = .ok (.athrow, 1) := by decide +kernel
theorem dX8_gap_0 : decode cX8_gap 0 = .ok (.aload_n 0, 1) := by decide +kernel
theorem dX8_gap_1 : decode cX8_gap 1 = .ok (.getfield 12, 3) := by decide +kernel
theorem dX8_gap_4 : decode cX8_gap 4 = .ok (.invokevirtual 199, 3) := by decide +kernel
theorem dX8_gap_7 : decode cX8_gap 7 = .ok (.astore_n 1, 1) := by decide +kernel
theorem dX8_gap_8 : decode cX8_gap 8 = .ok (.aload_n 0, 1) := by decide +kernel
theorem dX8_gap_9 : decode cX8_gap 9 = .ok (.getfield 12, 3) := by decide +kernel
theorem dX8_gap_12 : decode cX8_gap 12 = .ok (.getfield 218, 3) := by decide +kernel
theorem dX8_gap_15 : decode cX8_gap 15 = .ok (.ifCond .eq 7, 3) := by decide +kernel
theorem dX8_gap_22 : decode cX8_gap 22 = .ok (.new 309, 3) := by decide +kernel
theorem dX8_gap_25 : decode cX8_gap 25 = .ok (.dup, 1) := by decide +kernel
theorem dX8_gap_26 : decode cX8_gap 26 = .ok (.ldc_w 311, 3) := by decide +kernel
theorem dX8_gap_29 : decode cX8_gap 29 = .ok (.invokespecial 313, 3) := by decide +kernel
theorem dX8_gap_32 : decode cX8_gap 32 = .ok (.athrow, 1) := by decide +kernel
theorem dX8_meanDepth_0 : decode cX8_meanDepth 0 = .ok (.aload_n 0, 1) := by decide +kernel
theorem dX8_meanDepth_1 : decode cX8_meanDepth 1 = .ok (.getfield 12, 3) := by decide +kernel
theorem dX8_meanDepth_4 : decode cX8_meanDepth 4 = .ok (.getfield 143, 3) := by decide +kernel
theorem dX8_meanDepth_7 : decode cX8_meanDepth 7 = .ok (.istore_n 1, 1) := by decide +kernel
theorem dX8_meanDepth_8 : decode cX8_meanDepth 8 = .ok (.iload_n 1, 1) := by decide +kernel
theorem dX8_meanDepth_9 : decode cX8_meanDepth 9 = .ok (.iconst 1, 1) := by decide +kernel
theorem dX8_meanDepth_10 : decode cX8_meanDepth 10 = .ok (.if_icmp .ge 13, 3) := by decide +kernel
theorem dX8_meanDepth_13 : decode cX8_meanDepth 13 = .ok (.new 309, 3) := by decide +kernel
theorem dX8_meanDepth_16 : decode cX8_meanDepth 16 = .ok (.dup, 1) := by decide +kernel
theorem dX8_meanDepth_17 : decode cX8_meanDepth 17 = .ok (.ldc 138, 2) := by decide +kernel
theorem dX8_meanDepth_19 : decode cX8_meanDepth 19 = .ok (.invokespecial 313, 3) := by decide +kernel
theorem dX8_meanDepth_22 : decode cX8_meanDepth 22 = .ok (.athrow, 1) := by decide +kernel
theorem dX8_tighten_0 : decode cX8_tighten 0 = .ok (.aload_n 0, 1) := by decide +kernel
theorem dX8_tighten_1 : decode cX8_tighten 1 = .ok (.getfield 12, 3) := by decide +kernel
theorem dX8_tighten_4 : decode cX8_tighten 4 = .ok (.invokevirtual 41, 3) := by decide +kernel
theorem dX8_tighten_7 : decode cX8_tighten 7 = .ok (.ifCond .eq 13, 3) := by decide +kernel
theorem dX8_tighten_20 : decode cX8_tighten 20 = .ok (.aload_n 0, 1) := by decide +kernel
theorem dX8_tighten_21 : decode cX8_tighten 21 = .ok (.getfield 20, 3) := by decide +kernel
theorem dX8_tighten_24 : decode cX8_tighten 24 = .ok (.invokevirtual 87, 3) := by decide +kernel
theorem dX8_tighten_27 : decode cX8_tighten 27 = .ok (.istore_n 1, 1) := by decide +kernel
theorem dX8_tighten_28 : decode cX8_tighten 28 = .ok (.iload_n 1, 1) := by decide +kernel
theorem dX8_tighten_29 : decode cX8_tighten 29 = .ok (.ifCond .ge 13, 3) := by decide +kernel
theorem dX8_tighten_42 : decode cX8_tighten 42 = .ok (.iload_n 1, 1) := by decide +kernel
theorem dX8_tighten_43 : decode cX8_tighten 43 = .ok (.ireturn, 1) := by decide +kernel
theorem dX8_bestByAll_0 : decode cX8_bestByAll 0 = .ok (.aload_n 0, 1) := by decide +kernel
theorem dX8_bestByAll_1 : decode cX8_bestByAll 1 = .ok (.getfield 20, 3) := by decide +kernel
theorem dX8_bestByAll_4 : decode cX8_bestByAll 4 = .ok (.invokevirtual 133, 3) := by decide +kernel
theorem dX8_bestByAll_7 : decode cX8_bestByAll 7 = .ok (.aload_n 0, 1) := by decide +kernel
theorem dX8_bestByAll_8 : decode cX8_bestByAll 8 = .ok (.getfield 20, 3) := by decide +kernel
theorem dX8_bestByAll_11 : decode cX8_bestByAll 11 = .ok (.getfield 32, 3) := by decide +kernel
theorem dX8_bestByAll_14 : decode cX8_bestByAll 14 = .ok (.if_icmp .lt 16, 3) := by decide +kernel
theorem dX8_bestByAll_17 : decode cX8_bestByAll 17 = .ok (.aload_n 0, 1) := by decide +kernel
theorem dX8_bestByAll_18 : decode cX8_bestByAll 18 = .ok (.getfield 20, 3) := by decide +kernel
theorem dX8_bestByAll_21 : decode cX8_bestByAll 21 = .ok (.invokevirtual 227, 3) := by decide +kernel
theorem dX8_bestByAll_24 : decode cX8_bestByAll 24 = .ok (.sipush 6000, 3) := by decide +kernel
theorem dX8_bestByAll_27 : decode cX8_bestByAll 27 = .ok (.if_icmp .le 13, 3) := by decide +kernel
theorem dX8_bestByAll_40 : decode cX8_bestByAll 40 = .ok (.aload_n 0, 1) := by decide +kernel
theorem dX8_bestByAll_41 : decode cX8_bestByAll 41 = .ok (.getfield 20, 3) := by decide +kernel
theorem dX8_bestByAll_44 : decode cX8_bestByAll 44 = .ok (.invokevirtual 232, 3) := by decide +kernel
theorem dX8_bestByAll_47 : decode cX8_bestByAll 47 = .ok (.istore_n 1, 1) := by decide +kernel
theorem dX8_bestByAll_48 : decode cX8_bestByAll 48 = .ok (.iload_n 1, 1) := by decide +kernel
theorem dX8_bestByAll_49 : decode cX8_bestByAll 49 = .ok (.sipush 1000, 3) := by decide +kernel
theorem dX8_bestByAll_52 : decode cX8_bestByAll 52 = .ok (.if_icmp .ne 13, 3) := by decide +kernel
theorem dX8_bestByAll_65 : decode cX8_bestByAll 65 = .ok (.iload_n 1, 1) := by decide +kernel
theorem dX8_bestByAll_66 : decode cX8_bestByAll 66 = .ok (.ireturn, 1) := by decide +kernel
theorem dX8_nodes_0 : decode cX8_nodes 0 = .ok (.aload_n 0, 1) := by decide +kernel
theorem dX8_nodes_1 : decode cX8_nodes 1 = .ok (.getfield 12, 3) := by decide +kernel
theorem dX8_nodes_4 : decode cX8_nodes 4 = .ok (.getfield 143, 3) := by decide +kernel
theorem dX8_nodes_7 : decode cX8_nodes 7 = .ok (.ireturn, 1) := by decide +kernel
theorem dX8_open_0 : decode cX8_open 0 = .ok (.aload_n 0, 1) := by decide +kernel
theorem dX8_open_1 : decode cX8_open 1 = .ok (.getfield 12, 3) := by decide +kernel
theorem dX8_open_4 : decode cX8_open 4 = .ok (.invokevirtual 146, 3) := by decide +kernel
theorem dX8_open_7 : decode cX8_open 7 = .ok (.ireturn, 1) := by decide +kernel
theorem dX8_cuts_0 : decode cX8_cuts 0 = .ok (.aload_n 0, 1) := by decide +kernel
theorem dX8_cuts_1 : decode cX8_cuts 1 = .ok (.getfield 12, 3) := by decide +kernel
theorem dX8_cuts_4 : decode cX8_cuts 4 = .ok (.getfield 244, 3) := by decide +kernel
theorem dX8_cuts_7 : decode cX8_cuts 7 = .ok (.ireturn, 1) := by decide +kernel
theorem dX8_addColumn_0 : decode cX8_addColumn 0 = .ok (.iload_n 1, 1) := by decide +kernel
theorem dX8_addColumn_1 : decode cX8_addColumn 1 = .ok (.bipush (-9), 2) := by decide +kernel
theorem dX8_addColumn_3 : decode cX8_addColumn 3 = .ok (.bipush 9, 2) := by decide +kernel
theorem dX8_addColumn_5 : decode cX8_addColumn 5 = .ok (.invokestatic 21, 3) := by decide +kernel
theorem dX8_addColumn_8 : decode cX8_addColumn 8 = .ok (.ifCond .eq 24, 3) := by decide +kernel
theorem dX8_addColumn_32 : decode cX8_addColumn 32 = .ok (.new 25, 3) := by decide +kernel
theorem dX8_addColumn_35 : decode cX8_addColumn 35 = .ok (.dup, 1) := by decide +kernel
theorem dX8_addColumn_36 : decode cX8_addColumn 36 = .ok (.ldc 27, 2) := by decide +kernel
theorem dX8_addColumn_38 : decode cX8_addColumn 38 = .ok (.invokespecial 29, 3) := by decide +kernel
theorem dX8_addColumn_41 : decode cX8_addColumn 41 = .ok (.athrow, 1) := by decide +kernel
theorem dX8_addColumn_11 : decode cX8_addColumn 11 = .ok (.iload_n 2, 1) := by decide +kernel
theorem dX8_addColumn_12 : decode cX8_addColumn 12 = .ok (.bipush (-9), 2) := by decide +kernel
theorem dX8_addColumn_14 : decode cX8_addColumn 14 = .ok (.bipush 9, 2) := by decide +kernel
theorem dX8_addColumn_16 : decode cX8_addColumn 16 = .ok (.invokestatic 21, 3) := by decide +kernel
theorem dX8_addColumn_19 : decode cX8_addColumn 19 = .ok (.ifCond .eq 13, 3) := by decide +kernel
theorem dX8_addColumn_22 : decode cX8_addColumn 22 = .ok (.iload_n 3, 1) := by decide +kernel
theorem dX8_addColumn_23 : decode cX8_addColumn 23 = .ok (.iload_n 2, 1) := by decide +kernel
theorem dX8_addColumn_24 : decode cX8_addColumn 24 = .ok (.bipush 9, 2) := by decide +kernel
theorem dX8_addColumn_26 : decode cX8_addColumn 26 = .ok (.invokestatic 21, 3) := by decide +kernel
theorem dX8_addColumn_29 : decode cX8_addColumn 29 = .ok (.ifCond .ne 13, 3) := by decide +kernel
theorem dX8_addColumn_42 : decode cX8_addColumn 42 = .ok (.aload_n 0, 1) := by decide +kernel
theorem dX8_addColumn_43 : decode cX8_addColumn 43 = .ok (.getfield 20, 3) := by decide +kernel
theorem dX8_addColumn_46 : decode cX8_addColumn 46 = .ok (.getfield 32, 3) := by decide +kernel
theorem dX8_addColumn_49 : decode cX8_addColumn 49 = .ok (.iconst 4, 1) := by decide +kernel
theorem dX8_addColumn_50 : decode cX8_addColumn 50 = .ok (.if_icmp .ge 23, 3) := by decide +kernel
theorem dX8_addColumn_53 : decode cX8_addColumn 53 = .ok (.aload_n 0, 1) := by decide +kernel
theorem dX8_addColumn_54 : decode cX8_addColumn 54 = .ok (.getfield 20, 3) := by decide +kernel
theorem dX8_addColumn_57 : decode cX8_addColumn 57 = .ok (.getfield 38, 3) := by decide +kernel
theorem dX8_addColumn_60 : decode cX8_addColumn 60 = .ok (.ifCond .gt 13, 3) := by decide +kernel
theorem dX8_addColumn_63 : decode cX8_addColumn 63 = .ok (.aload_n 0, 1) := by decide +kernel
theorem dX8_addColumn_64 : decode cX8_addColumn 64 = .ok (.getfield 12, 3) := by decide +kernel
theorem dX8_addColumn_67 : decode cX8_addColumn 67 = .ok (.invokevirtual 41, 3) := by decide +kernel
theorem dX8_addColumn_70 : decode cX8_addColumn 70 = .ok (.ifCond .eq 13, 3) := by decide +kernel
theorem dX8_addColumn_83 : decode cX8_addColumn 83 = .ok (.aload_n 0, 1) := by decide +kernel
theorem dX8_addColumn_84 : decode cX8_addColumn 84 = .ok (.getfield 20, 3) := by decide +kernel
theorem dX8_addColumn_87 : decode cX8_addColumn 87 = .ok (.iload_n 1, 1) := by decide +kernel
theorem dX8_addColumn_88 : decode cX8_addColumn 88 = .ok (.iload_n 2, 1) := by decide +kernel
theorem dX8_addColumn_89 : decode cX8_addColumn 89 = .ok (.iload_n 3, 1) := by decide +kernel
theorem dX8_addColumn_90 : decode cX8_addColumn 90 = .ok (.iload 4, 2) := by decide +kernel
theorem dX8_addColumn_92 : decode cX8_addColumn 92 = .ok (.invokevirtual 50, 3) := by decide +kernel
theorem dX8_addColumn_95 : decode cX8_addColumn 95 = .ok (.ireturn, 1) := by decide +kernel
theorem dX8_addRow_28 : decode cX8_addRow 28 = .ok (.iload_n 2, 1) := by decide +kernel
theorem dX8_addRow_29 : decode cX8_addRow 29 = .ok (.bipush (-99), 2) := by decide +kernel
theorem dX8_addRow_31 : decode cX8_addRow 31 = .ok (.bipush 99, 2) := by decide +kernel
theorem dX8_addRow_33 : decode cX8_addRow 33 = .ok (.invokestatic 21, 3) := by decide +kernel
theorem dX8_addRow_36 : decode cX8_addRow 36 = .ok (.ifCond .eq 54, 3) := by decide +kernel
theorem dX8_addRow_90 : decode cX8_addRow 90 = .ok (.new 25, 3) := by decide +kernel
theorem dX8_addRow_93 : decode cX8_addRow 93 = .ok (.dup, 1) := by decide +kernel
theorem dX8_addRow_94 : decode cX8_addRow 94 = .ok (.ldc 60, 2) := by decide +kernel
theorem dX8_addRow_96 : decode cX8_addRow 96 = .ok (.invokespecial 29, 3) := by decide +kernel
theorem dX8_addRow_99 : decode cX8_addRow 99 = .ok (.athrow, 1) := by decide +kernel
theorem dX8_addRow_39 : decode cX8_addRow 39 = .ok (.aload_n 0, 1) := by decide +kernel
theorem dX8_addRow_40 : decode cX8_addRow 40 = .ok (.getfield 20, 3) := by decide +kernel
theorem dX8_addRow_43 : decode cX8_addRow 43 = .ok (.iconst 0, 1) := by decide +kernel
theorem dX8_addRow_44 : decode cX8_addRow 44 = .ok (.iload_n 3, 1) := by decide +kernel
theorem dX8_addRow_45 : decode cX8_addRow 45 = .ok (.invokevirtual 56, 3) := by decide +kernel
theorem dX8_addRow_48 : decode cX8_addRow 48 = .ok (.ifCond .eq 42, 3) := by decide +kernel
theorem dX8_addRow_51 : decode cX8_addRow 51 = .ok (.aload_n 0, 1) := by decide +kernel
theorem dX8_addRow_52 : decode cX8_addRow 52 = .ok (.getfield 20, 3) := by decide +kernel
theorem dX8_addRow_55 : decode cX8_addRow 55 = .ok (.iconst 1, 1) := by decide +kernel
theorem dX8_addRow_56 : decode cX8_addRow 56 = .ok (.iload 4, 2) := by decide +kernel
theorem dX8_addRow_58 : decode cX8_addRow 58 = .ok (.invokevirtual 56, 3) := by decide +kernel
theorem dX8_addRow_61 : decode cX8_addRow 61 = .ok (.ifCond .eq 29, 3) := by decide +kernel
theorem dX8_addRow_64 : decode cX8_addRow 64 = .ok (.aload_n 0, 1) := by decide +kernel
theorem dX8_addRow_65 : decode cX8_addRow 65 = .ok (.getfield 20, 3) := by decide +kernel
theorem dX8_addRow_68 : decode cX8_addRow 68 = .ok (.iconst 2, 1) := by decide +kernel
theorem dX8_addRow_69 : decode cX8_addRow 69 = .ok (.iload 5, 2) := by decide +kernel
theorem dX8_addRow_71 : decode cX8_addRow 71 = .ok (.invokevirtual 56, 3) := by decide +kernel
theorem dX8_addRow_74 : decode cX8_addRow 74 = .ok (.ifCond .eq 16, 3) := by decide +kernel
theorem dX8_addRow_77 : decode cX8_addRow 77 = .ok (.aload_n 0, 1) := by decide +kernel
theorem dX8_addRow_78 : decode cX8_addRow 78 = .ok (.getfield 20, 3) := by decide +kernel
theorem dX8_addRow_81 : decode cX8_addRow 81 = .ok (.iconst 3, 1) := by decide +kernel
theorem dX8_addRow_82 : decode cX8_addRow 82 = .ok (.iload 6, 2) := by decide +kernel
theorem dX8_addRow_84 : decode cX8_addRow 84 = .ok (.invokevirtual 56, 3) := by decide +kernel
theorem dX8_addRow_87 : decode cX8_addRow 87 = .ok (.ifCond .ne 13, 3) := by decide +kernel
theorem dX8_addRow_100 : decode cX8_addRow 100 = .ok (.aload_n 0, 1) := by decide +kernel
theorem dX8_addRow_101 : decode cX8_addRow 101 = .ok (.getfield 20, 3) := by decide +kernel
theorem dX8_addRow_104 : decode cX8_addRow 104 = .ok (.getfield 38, 3) := by decide +kernel
theorem dX8_addRow_107 : decode cX8_addRow 107 = .ok (.bipush 8, 2) := by decide +kernel
theorem dX8_addRow_109 : decode cX8_addRow 109 = .ok (.if_icmp .lt 13, 3) := by decide +kernel
theorem dX8_addRow_122 : decode cX8_addRow 122 = .ok (.aload_n 0, 1) := by decide +kernel
theorem dX8_addRow_123 : decode cX8_addRow 123 = .ok (.getfield 20, 3) := by decide +kernel
theorem dX8_addRow_126 : decode cX8_addRow 126 = .ok (.getfield 38, 3) := by decide +kernel
theorem dX8_addRow_129 : decode cX8_addRow 129 = .ok (.istore 7, 2) := by decide +kernel
theorem dX8_addRow_131 : decode cX8_addRow 131 = .ok (.aload_n 0, 1) := by decide +kernel
theorem dX8_addRow_132 : decode cX8_addRow 132 = .ok (.getfield 20, 3) := by decide +kernel
theorem dX8_addRow_135 : decode cX8_addRow 135 = .ok (.getfield 64, 3) := by decide +kernel
theorem dX8_addRow_138 : decode cX8_addRow 138 = .ok (.iload 7, 2) := by decide +kernel
theorem dX8_addRow_140 : decode cX8_addRow 140 = .ok (.aaload, 1) := by decide +kernel
theorem dX8_addRow_141 : decode cX8_addRow 141 = .ok (.astore 8, 2) := by decide +kernel
theorem dX8_addRow_143 : decode cX8_addRow 143 = .ok (.aload 8, 2) := by decide +kernel
theorem dX8_addRow_145 : decode cX8_addRow 145 = .ok (.iload_n 1, 1) := by decide +kernel
theorem dX8_addRow_146 : decode cX8_addRow 146 = .ok (.putfield 68, 3) := by decide +kernel
theorem dX8_addRow_149 : decode cX8_addRow 149 = .ok (.aload 8, 2) := by decide +kernel
theorem dX8_addRow_151 : decode cX8_addRow 151 = .ok (.iload_n 2, 1) := by decide +kernel
theorem dX8_addRow_152 : decode cX8_addRow 152 = .ok (.putfield 74, 3) := by decide +kernel
theorem dX8_addRow_155 : decode cX8_addRow 155 = .ok (.aload 8, 2) := by decide +kernel
theorem dX8_addRow_157 : decode cX8_addRow 157 = .ok (.iload_n 3, 1) := by decide +kernel
theorem dX8_addRow_158 : decode cX8_addRow 158 = .ok (.iload 4, 2) := by decide +kernel
theorem dX8_addRow_160 : decode cX8_addRow 160 = .ok (.iload 5, 2) := by decide +kernel
theorem dX8_addRow_162 : decode cX8_addRow 162 = .ok (.iload 6, 2) := by decide +kernel
theorem dX8_addRow_164 : decode cX8_addRow 164 = .ok (.invokevirtual 77, 3) := by decide +kernel
theorem dX8_addRow_167 : decode cX8_addRow 167 = .ok (.aload_n 0, 1) := by decide +kernel
theorem dX8_addRow_168 : decode cX8_addRow 168 = .ok (.getfield 20, 3) := by decide +kernel
theorem dX8_addRow_171 : decode cX8_addRow 171 = .ok (.dup, 1) := by decide +kernel
theorem dX8_addRow_172 : decode cX8_addRow 172 = .ok (.getfield 38, 3) := by decide +kernel
theorem dX8_addRow_175 : decode cX8_addRow 175 = .ok (.iconst 1, 1) := by decide +kernel
theorem dX8_addRow_176 : decode cX8_addRow 176 = .ok (.iadd, 1) := by decide +kernel
theorem dX8_addRow_177 : decode cX8_addRow 177 = .ok (.putfield 38, 3) := by decide +kernel
theorem dX8_addRow_180 : decode cX8_addRow 180 = .ok (.aload_n 0, 1) := by decide +kernel
theorem dX8_addRow_181 : decode cX8_addRow 181 = .ok (.getfield 12, 3) := by decide +kernel
theorem dX8_addRow_184 : decode cX8_addRow 184 = .ok (.aload 8, 2) := by decide +kernel
theorem dX8_addRow_186 : decode cX8_addRow 186 = .ok (.invokevirtual 81, 3) := by decide +kernel
theorem dX8_addRow_189 : decode cX8_addRow 189 = .ok (.iload 7, 2) := by decide +kernel
theorem dX8_addRow_191 : decode cX8_addRow 191 = .ok (.ireturn, 1) := by decide +kernel
theorem dX8_addRow_0 : decode cX8_addRow 0 = .ok (.iload_n 1, 1) := by decide +kernel
theorem dX8_addRow_1 : decode cX8_addRow 1 = .ok (.bipush 108, 2) := by decide +kernel
theorem dX8_addRow_3 : decode cX8_addRow 3 = .ok (.if_icmp .eq 25, 3) := by decide +kernel
theorem dX8_addRow_6 : decode cX8_addRow 6 = .ok (.iload_n 1, 1) := by decide +kernel
theorem dX8_addRow_7 : decode cX8_addRow 7 = .ok (.bipush 103, 2) := by decide +kernel
theorem dX8_addRow_9 : decode cX8_addRow 9 = .ok (.if_icmp .eq 19, 3) := by decide +kernel
theorem dX8_addRow_12 : decode cX8_addRow 12 = .ok (.iload_n 1, 1) := by decide +kernel
theorem dX8_addRow_13 : decode cX8_addRow 13 = .ok (.bipush 101, 2) := by decide +kernel
theorem dX8_addRow_15 : decode cX8_addRow 15 = .ok (.if_icmp .eq 13, 3) := by decide +kernel
theorem dX8_addRow_18 : decode cX8_addRow 18 = .ok (.new 25, 3) := by decide +kernel
theorem dX8_addRow_21 : decode cX8_addRow 21 = .ok (.dup, 1) := by decide +kernel
theorem dX8_addRow_22 : decode cX8_addRow 22 = .ok (.ldc 54, 2) := by decide +kernel
theorem dX8_addRow_24 : decode cX8_addRow 24 = .ok (.invokespecial 29, 3) := by decide +kernel
theorem dX8_addRow_27 : decode cX8_addRow 27 = .ok (.athrow, 1) := by decide +kernel
theorem dX8_begin_50 : decode cX8_begin 50 = .ok (.aload_n 0, 1) := by decide +kernel
theorem dX8_begin_51 : decode cX8_begin 51 = .ok (.getfield 20, 3) := by decide +kernel
theorem dX8_begin_54 : decode cX8_begin 54 = .ok (.getfield 32, 3) := by decide +kernel
theorem dX8_begin_57 : decode cX8_begin 57 = .ok (.ifCond .ne 13, 3) := by decide +kernel
theorem dX8_begin_60 : decode cX8_begin 60 = .ok (.new 45, 3) := by decide +kernel
theorem dX8_begin_63 : decode cX8_begin 63 = .ok (.dup, 1) := by decide +kernel
theorem dX8_begin_64 : decode cX8_begin 64 = .ok (.ldc 127, 2) := by decide +kernel
theorem dX8_begin_66 : decode cX8_begin 66 = .ok (.invokespecial 49, 3) := by decide +kernel
theorem dX8_begin_69 : decode cX8_begin 69 = .ok (.athrow, 1) := by decide +kernel
theorem dX8_begin_22 : decode cX8_begin 22 = .ok (.iload_n 2, 1) := by decide +kernel
theorem dX8_begin_23 : decode cX8_begin 23 = .ok (.bipush 102, 2) := by decide +kernel
theorem dX8_begin_25 : decode cX8_begin 25 = .ok (.if_icmp .eq 25, 3) := by decide +kernel
theorem dX8_begin_28 : decode cX8_begin 28 = .ok (.iload_n 2, 1) := by decide +kernel
theorem dX8_begin_29 : decode cX8_begin 29 = .ok (.bipush 104, 2) := by decide +kernel
theorem dX8_begin_31 : decode cX8_begin 31 = .ok (.if_icmp .eq 19, 3) := by decide +kernel
theorem dX8_begin_34 : decode cX8_begin 34 = .ok (.iload_n 2, 1) := by decide +kernel
theorem dX8_begin_35 : decode cX8_begin 35 = .ok (.bipush 108, 2) := by decide +kernel
theorem dX8_begin_37 : decode cX8_begin 37 = .ok (.if_icmp .eq 13, 3) := by decide +kernel
theorem dX8_begin_40 : decode cX8_begin 40 = .ok (.new 25, 3) := by decide +kernel
theorem dX8_begin_43 : decode cX8_begin 43 = .ok (.dup, 1) := by decide +kernel
theorem dX8_begin_44 : decode cX8_begin 44 = .ok (.ldc 125, 2) := by decide +kernel
theorem dX8_begin_46 : decode cX8_begin 46 = .ok (.invokespecial 29, 3) := by decide +kernel
theorem dX8_begin_49 : decode cX8_begin 49 = .ok (.athrow, 1) := by decide +kernel
theorem dX8_begin_0 : decode cX8_begin 0 = .ok (.iload_n 1, 1) := by decide +kernel
theorem dX8_begin_1 : decode cX8_begin 1 = .ok (.bipush 98, 2) := by decide +kernel
theorem dX8_begin_3 : decode cX8_begin 3 = .ok (.if_icmp .eq 19, 3) := by decide +kernel
theorem dX8_begin_6 : decode cX8_begin 6 = .ok (.iload_n 1, 1) := by decide +kernel
theorem dX8_begin_7 : decode cX8_begin 7 = .ok (.bipush 100, 2) := by decide +kernel
theorem dX8_begin_9 : decode cX8_begin 9 = .ok (.if_icmp .eq 13, 3) := by decide +kernel
theorem dX8_begin_12 : decode cX8_begin 12 = .ok (.new 25, 3) := by decide +kernel
theorem dX8_begin_15 : decode cX8_begin 15 = .ok (.dup, 1) := by decide +kernel
theorem dX8_begin_16 : decode cX8_begin 16 = .ok (.ldc 123, 2) := by decide +kernel
theorem dX8_begin_18 : decode cX8_begin 18 = .ok (.invokespecial 29, 3) := by decide +kernel
theorem dX8_begin_21 : decode cX8_begin 21 = .ok (.athrow, 1) := by decide +kernel
theorem dX8_solve_0 : decode cX8_solve 0 = .ok (.iload_n 1, 1) := by decide +kernel
theorem dX8_solve_1 : decode cX8_solve 1 = .ok (.iconst 1, 1) := by decide +kernel
theorem dX8_solve_2 : decode cX8_solve 2 = .ok (.bipush 41, 2) := by decide +kernel
theorem dX8_solve_4 : decode cX8_solve 4 = .ok (.invokestatic 21, 3) := by decide +kernel
theorem dX8_solve_7 : decode cX8_solve 7 = .ok (.ifCond .ne 13, 3) := by decide +kernel
theorem dX8_solve_20 : decode cX8_solve 20 = .ok (.aload_n 0, 1) := by decide +kernel
theorem dX8_solve_21 : decode cX8_solve 21 = .ok (.getfield 12, 3) := by decide +kernel
theorem dX8_solve_24 : decode cX8_solve 24 = .ok (.invokevirtual 41, 3) := by decide +kernel
theorem dX8_solve_27 : decode cX8_solve 27 = .ok (.ifCond .ne 13, 3) := by decide +kernel
theorem dX8_solve_30 : decode cX8_solve 30 = .ok (.new 45, 3) := by decide +kernel
theorem dX8_solve_33 : decode cX8_solve 33 = .ok (.dup, 1) := by decide +kernel
theorem dX8_solve_34 : decode cX8_solve 34 = .ok (.ldc 138, 2) := by decide +kernel
theorem dX8_solve_36 : decode cX8_solve 36 = .ok (.invokespecial 49, 3) := by decide +kernel
theorem dX8_solve_39 : decode cX8_solve 39 = .ok (.athrow, 1) := by decide +kernel
theorem dX8_solve_10 : decode cX8_solve 10 = .ok (.new 25, 3) := by decide +kernel
theorem dX8_solve_13 : decode cX8_solve 13 = .ok (.dup, 1) := by decide +kernel
theorem dX8_solve_14 : decode cX8_solve 14 = .ok (.ldc 136, 2) := by decide +kernel
theorem dX8_solve_16 : decode cX8_solve 16 = .ok (.invokespecial 29, 3) := by decide +kernel
theorem dX8_solve_19 : decode cX8_solve 19 = .ok (.athrow, 1) := by decide +kernel
theorem dX9_fails_0 : decode cX9_fails 0 = .ok (.aload_n 0, 1) := by decide +kernel
theorem dX9_fails_1 : decode cX9_fails 1 = .ok (.iload_n 1, 1) := by decide +kernel
theorem dX9_fails_2 : decode cX9_fails 2 = .ok (.putfield 120, 3) := by decide +kernel
theorem dX9_fails_5 : decode cX9_fails 5 = .ok (.iconst 0, 1) := by decide +kernel
theorem dX9_fails_6 : decode cX9_fails 6 = .ok (.ireturn, 1) := by decide +kernel
theorem dX9_thrown_0 : decode cX9_thrown 0 = .ok (.aload_n 0, 1) := by decide +kernel
theorem dX9_thrown_1 : decode cX9_thrown 1 = .ok (.getfield 120, 3) := by decide +kernel
theorem dX9_thrown_4 : decode cX9_thrown 4 = .ok (.ireturn, 1) := by decide +kernel
theorem dX9_isBetween_0 : decode cX9_isBetween 0 = .ok (.iload_n 1, 1) := by decide +kernel
theorem dX9_isBetween_1 : decode cX9_isBetween 1 = .ok (.iload_n 0, 1) := by decide +kernel
theorem dX9_isBetween_2 : decode cX9_isBetween 2 = .ok (.if_icmp .gt 12, 3) := by decide +kernel
theorem dX9_isBetween_14 : decode cX9_isBetween 14 = .ok (.iconst 0, 1) := by decide +kernel
theorem dX9_isBetween_15 : decode cX9_isBetween 15 = .ok (.ireturn, 1) := by decide +kernel
theorem dX9_isBetween_5 : decode cX9_isBetween 5 = .ok (.iload_n 0, 1) := by decide +kernel
theorem dX9_isBetween_6 : decode cX9_isBetween 6 = .ok (.iload_n 2, 1) := by decide +kernel
theorem dX9_isBetween_7 : decode cX9_isBetween 7 = .ok (.if_icmp .gt 7, 3) := by decide +kernel
theorem dX9_isBetween_10 : decode cX9_isBetween 10 = .ok (.iconst 1, 1) := by decide +kernel
theorem dX9_isBetween_11 : decode cX9_isBetween 11 = .ok (.goto 4, 3) := by decide +kernel
theorem dX9_isColumn_0 : decode cX9_isColumn 0 = .ok (.iload_n 1, 1) := by decide +kernel
theorem dX9_isColumn_1 : decode cX9_isColumn 1 = .ok (.iconst 0, 1) := by decide +kernel
theorem dX9_isColumn_2 : decode cX9_isColumn 2 = .ok (.aload_n 0, 1) := by decide +kernel
theorem dX9_isColumn_3 : decode cX9_isColumn 3 = .ok (.getfield 142, 3) := by decide +kernel
theorem dX9_isColumn_6 : decode cX9_isColumn 6 = .ok (.iconst 1, 1) := by decide +kernel
theorem dX9_isColumn_7 : decode cX9_isColumn 7 = .ok (.isub, 1) := by decide +kernel
theorem dX9_isColumn_8 : decode cX9_isColumn 8 = .ok (.invokestatic 175, 3) := by decide +kernel
theorem dX9_isColumn_11 : decode cX9_isColumn 11 = .ok (.ireturn, 1) := by decide +kernel
theorem dX9_isNode_0 : decode cX9_isNode 0 = .ok (.iload_n 1, 1) := by decide +kernel
theorem dX9_isNode_1 : decode cX9_isNode 1 = .ok (.iconst 0, 1) := by decide +kernel
theorem dX9_isNode_2 : decode cX9_isNode 2 = .ok (.aload_n 0, 1) := by decide +kernel
theorem dX9_isNode_3 : decode cX9_isNode 3 = .ok (.getfield 186, 3) := by decide +kernel
theorem dX9_isNode_6 : decode cX9_isNode 6 = .ok (.iconst 1, 1) := by decide +kernel
theorem dX9_isNode_7 : decode cX9_isNode 7 = .ok (.isub, 1) := by decide +kernel
theorem dX9_isNode_8 : decode cX9_isNode 8 = .ok (.invokestatic 175, 3) := by decide +kernel
theorem dX9_isNode_11 : decode cX9_isNode 11 = .ok (.ireturn, 1) := by decide +kernel
theorem dX9_isCut_0 : decode cX9_isCut 0 = .ok (.iload_n 1, 1) := by decide +kernel
theorem dX9_isCut_1 : decode cX9_isCut 1 = .ok (.iconst 0, 1) := by decide +kernel
theorem dX9_isCut_2 : decode cX9_isCut 2 = .ok (.aload_n 0, 1) := by decide +kernel
theorem dX9_isCut_3 : decode cX9_isCut 3 = .ok (.getfield 203, 3) := by decide +kernel
theorem dX9_isCut_6 : decode cX9_isCut 6 = .ok (.iconst 1, 1) := by decide +kernel
theorem dX9_isCut_7 : decode cX9_isCut 7 = .ok (.isub, 1) := by decide +kernel
theorem dX9_isCut_8 : decode cX9_isCut 8 = .ok (.invokestatic 175, 3) := by decide +kernel
theorem dX9_isCut_11 : decode cX9_isCut 11 = .ok (.ireturn, 1) := by decide +kernel
theorem dX9_isRow_0 : decode cX9_isRow 0 = .ok (.iload_n 1, 1) := by decide +kernel
theorem dX9_isRow_1 : decode cX9_isRow 1 = .ok (.iconst 0, 1) := by decide +kernel
theorem dX9_isRow_2 : decode cX9_isRow 2 = .ok (.aload_n 0, 1) := by decide +kernel
theorem dX9_isRow_3 : decode cX9_isRow 3 = .ok (.getfield 183, 3) := by decide +kernel
theorem dX9_isRow_6 : decode cX9_isRow 6 = .ok (.iconst 1, 1) := by decide +kernel
theorem dX9_isRow_7 : decode cX9_isRow 7 = .ok (.isub, 1) := by decide +kernel
theorem dX9_isRow_8 : decode cX9_isRow 8 = .ok (.invokestatic 175, 3) := by decide +kernel
theorem dX9_isRow_11 : decode cX9_isRow 11 = .ok (.ireturn, 1) := by decide +kernel
theorem dX9_bounding_0 : decode cX9_bounding 0 = .ok (.aload_n 0, 1) := by decide +kernel
theorem dX9_bounding_1 : decode cX9_bounding 1 = .ok (.getfield 186, 3) := by decide +kernel
theorem dX9_bounding_4 : decode cX9_bounding 4 = .ok (.ifCond .eq 14, 3) := by decide +kernel
theorem dX9_bounding_18 : decode cX9_bounding 18 = .ok (.bipush (-2), 2) := by decide +kernel
theorem dX9_bounding_20 : decode cX9_bounding 20 = .ok (.ireturn, 1) := by decide +kernel
theorem dX9_begins_0 : decode cX9_begins 0 = .ok (.aload_n 0, 1) := by decide +kernel
theorem dX9_begins_1 : decode cX9_begins 1 = .ok (.getfield 103, 3) := by decide +kernel
theorem dX9_begins_4 : decode cX9_begins 4 = .ok (.iconst 0, 1) := by decide +kernel
theorem dX9_begins_5 : decode cX9_begins 5 = .ok (.iconst 0, 1) := by decide +kernel
theorem dX9_begins_6 : decode cX9_begins 6 = .ok (.iastore, 1) := by decide +kernel
theorem dX9_begins_7 : decode cX9_begins 7 = .ok (.iconst 0, 1) := by decide +kernel
theorem dX9_begins_8 : decode cX9_begins 8 = .ok (.istore_n 3, 1) := by decide +kernel
theorem dX9_begins_9 : decode cX9_begins 9 = .ok (.iload_n 3, 1) := by decide +kernel
theorem dX9_begins_10 : decode cX9_begins 10 = .ok (.iconst 4, 1) := by decide +kernel
theorem dX9_begins_11 : decode cX9_begins 11 = .ok (.if_icmp .ge 116, 3) := by decide +kernel
theorem dX9_begins_14 : decode cX9_begins 14 = .ok (.aload_n 0, 1) := by decide +kernel
theorem dX9_begins_15 : decode cX9_begins 15 = .ok (.getfield 114, 3) := by decide +kernel
theorem dX9_begins_18 : decode cX9_begins 18 = .ok (.iconst 0, 1) := by decide +kernel
theorem dX9_begins_19 : decode cX9_begins 19 = .ok (.aaload, 1) := by decide +kernel
theorem dX9_begins_20 : decode cX9_begins 20 = .ok (.iload_n 3, 1) := by decide +kernel
theorem dX9_begins_21 : decode cX9_begins 21 = .ok (.iload_n 3, 1) := by decide +kernel
theorem dX9_begins_22 : decode cX9_begins 22 = .ok (.aload_n 0, 1) := by decide +kernel
theorem dX9_begins_23 : decode cX9_begins 23 = .ok (.getfield 142, 3) := by decide +kernel
theorem dX9_begins_26 : decode cX9_begins 26 = .ok (.if_icmp .lt 7, 3) := by decide +kernel
theorem dX9_begins_29 : decode cX9_begins 29 = .ok (.iconst 1, 1) := by decide +kernel
theorem dX9_begins_30 : decode cX9_begins 30 = .ok (.goto 4, 3) := by decide +kernel
theorem dX9_begins_34 : decode cX9_begins 34 = .ok (.bastore, 1) := by decide +kernel
theorem dX9_begins_35 : decode cX9_begins 35 = .ok (.aload_n 0, 1) := by decide +kernel
theorem dX9_begins_36 : decode cX9_begins 36 = .ok (.getfield 106, 3) := by decide +kernel
theorem dX9_begins_39 : decode cX9_begins 39 = .ok (.iload_n 3, 1) := by decide +kernel
theorem dX9_begins_40 : decode cX9_begins 40 = .ok (.aload_n 1, 1) := by decide +kernel
theorem dX9_begins_41 : decode cX9_begins 41 = .ok (.iload_n 3, 1) := by decide +kernel
theorem dX9_begins_42 : decode cX9_begins 42 = .ok (.iaload, 1) := by decide +kernel
theorem dX9_begins_43 : decode cX9_begins 43 = .ok (.iastore, 1) := by decide +kernel
theorem dX9_begins_44 : decode cX9_begins 44 = .ok (.aload_n 0, 1) := by decide +kernel
theorem dX9_begins_45 : decode cX9_begins 45 = .ok (.getfield 109, 3) := by decide +kernel
theorem dX9_begins_48 : decode cX9_begins 48 = .ok (.iload_n 3, 1) := by decide +kernel
theorem dX9_begins_49 : decode cX9_begins 49 = .ok (.aload_n 2, 1) := by decide +kernel
theorem dX9_begins_50 : decode cX9_begins 50 = .ok (.iload_n 3, 1) := by decide +kernel
theorem dX9_begins_51 : decode cX9_begins 51 = .ok (.iaload, 1) := by decide +kernel
theorem dX9_begins_52 : decode cX9_begins 52 = .ok (.iastore, 1) := by decide +kernel
theorem dX9_begins_53 : decode cX9_begins 53 = .ok (.aload_n 0, 1) := by decide +kernel
theorem dX9_begins_54 : decode cX9_begins 54 = .ok (.getfield 100, 3) := by decide +kernel
theorem dX9_begins_57 : decode cX9_begins 57 = .ok (.iconst 0, 1) := by decide +kernel
theorem dX9_begins_58 : decode cX9_begins 58 = .ok (.aaload, 1) := by decide +kernel
theorem dX9_begins_59 : decode cX9_begins 59 = .ok (.iconst 0, 1) := by decide +kernel
theorem dX9_begins_60 : decode cX9_begins 60 = .ok (.aaload, 1) := by decide +kernel
theorem dX9_begins_61 : decode cX9_begins 61 = .ok (.iload_n 3, 1) := by decide +kernel
theorem dX9_begins_62 : decode cX9_begins 62 = .ok (.iload_n 3, 1) := by decide +kernel
theorem dX9_begins_63 : decode cX9_begins 63 = .ok (.aload_n 0, 1) := by decide +kernel
theorem dX9_begins_64 : decode cX9_begins 64 = .ok (.getfield 142, 3) := by decide +kernel
theorem dX9_begins_67 : decode cX9_begins 67 = .ok (.if_icmp .ge 13, 3) := by decide +kernel
theorem dX9_begins_80 : decode cX9_begins 80 = .ok (.lconst 0, 1) := by decide +kernel
theorem dX9_begins_81 : decode cX9_begins 81 = .ok (.lastore, 1) := by decide +kernel
theorem dX9_begins_82 : decode cX9_begins 82 = .ok (.iconst 1, 1) := by decide +kernel
theorem dX9_begins_83 : decode cX9_begins 83 = .ok (.istore 4, 2) := by decide +kernel
theorem dX9_begins_85 : decode cX9_begins 85 = .ok (.iload 4, 2) := by decide +kernel
theorem dX9_begins_87 : decode cX9_begins 87 = .ok (.iconst 4, 1) := by decide +kernel
theorem dX9_begins_88 : decode cX9_begins 88 = .ok (.if_icmp .gt 33, 3) := by decide +kernel
theorem dX9_begins_91 : decode cX9_begins 91 = .ok (.aload_n 0, 1) := by decide +kernel
theorem dX9_begins_92 : decode cX9_begins 92 = .ok (.getfield 100, 3) := by decide +kernel
theorem dX9_begins_95 : decode cX9_begins 95 = .ok (.iconst 0, 1) := by decide +kernel
theorem dX9_begins_96 : decode cX9_begins 96 = .ok (.aaload, 1) := by decide +kernel
theorem dX9_begins_97 : decode cX9_begins 97 = .ok (.iload 4, 2) := by decide +kernel
theorem dX9_begins_99 : decode cX9_begins 99 = .ok (.aaload, 1) := by decide +kernel
theorem dX9_begins_100 : decode cX9_begins 100 = .ok (.iload_n 3, 1) := by decide +kernel
theorem dX9_begins_101 : decode cX9_begins 101 = .ok (.iload 4, 2) := by decide +kernel
theorem dX9_begins_103 : decode cX9_begins 103 = .ok (.iload_n 3, 1) := by decide +kernel
theorem dX9_begins_104 : decode cX9_begins 104 = .ok (.iconst 1, 1) := by decide +kernel
theorem dX9_begins_105 : decode cX9_begins 105 = .ok (.iadd, 1) := by decide +kernel
theorem dX9_begins_106 : decode cX9_begins 106 = .ok (.if_icmp .ne 7, 3) := by decide +kernel
theorem dX9_begins_109 : decode cX9_begins 109 = .ok (.lconst 1, 1) := by decide +kernel
theorem dX9_begins_110 : decode cX9_begins 110 = .ok (.goto 4, 3) := by decide +kernel
theorem dX9_begins_114 : decode cX9_begins 114 = .ok (.lastore, 1) := by decide +kernel
theorem dX9_begins_115 : decode cX9_begins 115 = .ok (.iinc 4 1, 3) := by decide +kernel
theorem dX9_begins_118 : decode cX9_begins 118 = .ok (.goto (-33), 3) := by decide +kernel
theorem dX9_begins_113 : decode cX9_begins 113 = .ok (.lconst 0, 1) := by decide +kernel
theorem dX9_begins_121 : decode cX9_begins 121 = .ok (.iinc 3 1, 3) := by decide +kernel
theorem dX9_begins_124 : decode cX9_begins 124 = .ok (.goto (-115), 3) := by decide +kernel
theorem dX9_begins_127 : decode cX9_begins 127 = .ok (.return_, 1) := by decide +kernel
theorem dX9_corner_0 : decode cX9_corner 0 = .ok (.aload_n 0, 1) := by decide +kernel
theorem dX9_corner_1 : decode cX9_corner 1 = .ok (.lconst 1, 1) := by decide +kernel
theorem dX9_corner_2 : decode cX9_corner 2 = .ok (.putfield 138, 3) := by decide +kernel
theorem dX9_corner_5 : decode cX9_corner 5 = .ok (.iconst 0, 1) := by decide +kernel
theorem dX9_corner_6 : decode cX9_corner 6 = .ok (.istore_n 2, 1) := by decide +kernel
theorem dX9_corner_7 : decode cX9_corner 7 = .ok (.iload_n 2, 1) := by decide +kernel
theorem dX9_corner_8 : decode cX9_corner 8 = .ok (.aload_n 0, 1) := by decide +kernel
theorem dX9_corner_9 : decode cX9_corner 9 = .ok (.getfield 142, 3) := by decide +kernel
theorem dX9_corner_12 : decode cX9_corner 12 = .ok (.if_icmp .ge 87, 3) := by decide +kernel
theorem dX9_corner_99 : decode cX9_corner 99 = .ok (.return_, 1) := by decide +kernel
theorem dX9_finds_0 : decode cX9_finds 0 = .ok (.aload_n 0, 1) := by decide +kernel
theorem dX9_finds_1 : decode cX9_finds 1 = .ok (.iload_n 1, 1) := by decide +kernel
theorem dX9_finds_2 : decode cX9_finds 2 = .ok (.invokevirtual 151, 3) := by decide +kernel
theorem dX9_finds_5 : decode cX9_finds 5 = .ok (.iconst 0, 1) := by decide +kernel
theorem dX9_finds_6 : decode cX9_finds 6 = .ok (.istore_n 2, 1) := by decide +kernel
theorem dX9_finds_7 : decode cX9_finds 7 = .ok (.iload_n 2, 1) := by decide +kernel
theorem dX9_finds_8 : decode cX9_finds 8 = .ok (.aload_n 0, 1) := by decide +kernel
theorem dX9_finds_9 : decode cX9_finds 9 = .ok (.getfield 103, 3) := by decide +kernel
theorem dX9_finds_12 : decode cX9_finds 12 = .ok (.iload_n 1, 1) := by decide +kernel
theorem dX9_finds_13 : decode cX9_finds 13 = .ok (.iaload, 1) := by decide +kernel
theorem dX9_finds_14 : decode cX9_finds 14 = .ok (.if_icmp .ge 313, 3) := by decide +kernel
theorem dX9_finds_327 : decode cX9_finds 327 = .ok (.iconst 1, 1) := by decide +kernel
theorem dX9_finds_328 : decode cX9_finds 328 = .ok (.ireturn, 1) := by decide +kernel
theorem dX9_holds_0 : decode cX9_holds 0 = .ok (.aload_n 0, 1) := by decide +kernel
theorem dX9_holds_1 : decode cX9_holds 1 = .ok (.aload_n 0, 1) := by decide +kernel
theorem dX9_holds_2 : decode cX9_holds 2 = .ok (.getfield 13, 3) := by decide +kernel
theorem dX9_holds_5 : decode cX9_holds 5 = .ok (.aload_n 0, 1) := by decide +kernel
theorem dX9_holds_6 : decode cX9_holds 6 = .ok (.getfield 16, 3) := by decide +kernel
theorem dX9_holds_9 : decode cX9_holds 9 = .ok (.invokevirtual 234, 3) := by decide +kernel
theorem dX9_holds_12 : decode cX9_holds 12 = .ok (.iconst 0, 1) := by decide +kernel
theorem dX9_holds_13 : decode cX9_holds 13 = .ok (.istore_n 2, 1) := by decide +kernel
theorem dX9_holds_14 : decode cX9_holds 14 = .ok (.iload_n 2, 1) := by decide +kernel
theorem dX9_holds_15 : decode cX9_holds 15 = .ok (.aload_n 0, 1) := by decide +kernel
theorem dX9_holds_16 : decode cX9_holds 16 = .ok (.getfield 183, 3) := by decide +kernel
theorem dX9_holds_19 : decode cX9_holds 19 = .ok (.if_icmp .ge 23, 3) := by decide +kernel
theorem dX9_holds_42 : decode cX9_holds 42 = .ok (.aload_n 0, 1) := by decide +kernel
theorem dX9_holds_43 : decode cX9_holds 43 = .ok (.iconst 0, 1) := by decide +kernel
theorem dX9_holds_44 : decode cX9_holds 44 = .ok (.invokevirtual 163, 3) := by decide +kernel
theorem dX9_holds_47 : decode cX9_holds 47 = .ok (.ireturn, 1) := by decide +kernel
theorem dX9_isSolution_0 : decode cX9_isSolution 0 = .ok (.iconst 1, 1) := by decide +kernel
theorem dX9_isSolution_1 : decode cX9_isSolution 1 = .ok (.istore_n 1, 1) := by decide +kernel
theorem dX9_isSolution_2 : decode cX9_isSolution 2 = .ok (.iconst 0, 1) := by decide +kernel
theorem dX9_isSolution_3 : decode cX9_isSolution 3 = .ok (.istore_n 2, 1) := by decide +kernel
theorem dX9_isSolution_4 : decode cX9_isSolution 4 = .ok (.iload_n 2, 1) := by decide +kernel
theorem dX9_isSolution_5 : decode cX9_isSolution 5 = .ok (.aload_n 0, 1) := by decide +kernel
theorem dX9_isSolution_6 : decode cX9_isSolution 6 = .ok (.getfield 142, 3) := by decide +kernel
theorem dX9_isSolution_9 : decode cX9_isSolution 9 = .ok (.if_icmp .ge 69, 3) := by decide +kernel
theorem dX9_isSolution_78 : decode cX9_isSolution 78 = .ok (.iconst 0, 1) := by decide +kernel
theorem dX9_isSolution_79 : decode cX9_isSolution 79 = .ok (.istore_n 2, 1) := by decide +kernel
theorem dX9_isSolution_80 : decode cX9_isSolution 80 = .ok (.iload_n 2, 1) := by decide +kernel
theorem dX9_isSolution_81 : decode cX9_isSolution 81 = .ok (.aload_n 0, 1) := by decide +kernel
theorem dX9_isSolution_82 : decode cX9_isSolution 82 = .ok (.getfield 183, 3) := by decide +kernel
theorem dX9_isSolution_85 : decode cX9_isSolution 85 = .ok (.if_icmp .ge 25, 3) := by decide +kernel
theorem dX9_isSolution_110 : decode cX9_isSolution 110 = .ok (.iload_n 1, 1) := by decide +kernel
theorem dX9_isSolution_111 : decode cX9_isSolution 111 = .ok (.ireturn, 1) := by decide +kernel
theorem dX9_top_0 : decode cX9_top 0 = .ok (.lconst 0, 1) := by decide +kernel
theorem dX9_top_1 : decode cX9_top 1 = .ok (.lstore_n 2, 1) := by decide +kernel
theorem dX9_top_2 : decode cX9_top 2 = .ok (.iconst 0, 1) := by decide +kernel
theorem dX9_top_3 : decode cX9_top 3 = .ok (.istore 4, 2) := by decide +kernel
theorem dX9_top_5 : decode cX9_top 5 = .ok (.iload 4, 2) := by decide +kernel
theorem dX9_top_7 : decode cX9_top 7 = .ok (.aload_n 0, 1) := by decide +kernel
theorem dX9_top_8 : decode cX9_top 8 = .ok (.getfield 142, 3) := by decide +kernel
theorem dX9_top_11 : decode cX9_top 11 = .ok (.if_icmp .ge 25, 3) := by decide +kernel
theorem dX9_top_36 : decode cX9_top 36 = .ok (.lload_n 2, 1) := by decide +kernel
theorem dX9_top_37 : decode cX9_top 37 = .ok (.lreturn, 1) := by decide +kernel
theorem dX9_tighten_0 : decode cX9_tighten 0 = .ok (.aload_n 0, 1) := by decide +kernel
theorem dX9_tighten_1 : decode cX9_tighten 1 = .ok (.iconst 0, 1) := by decide +kernel
theorem dX9_tighten_2 : decode cX9_tighten 2 = .ok (.putfield 120, 3) := by decide +kernel
theorem dX9_tighten_5 : decode cX9_tighten 5 = .ok (.aload_n 0, 1) := by decide +kernel
theorem dX9_tighten_6 : decode cX9_tighten 6 = .ok (.getfield 186, 3) := by decide +kernel
theorem dX9_tighten_9 : decode cX9_tighten 9 = .ok (.ifCond .le 9, 3) := by decide +kernel
theorem dX9_tighten_18 : decode cX9_tighten 18 = .ok (.iconst 4, 1) := by decide +kernel
theorem dX9_tighten_19 : decode cX9_tighten 19 = .ok (.newarray .int, 2) := by decide +kernel
theorem dX9_tighten_21 : decode cX9_tighten 21 = .ok (.astore_n 1, 1) := by decide +kernel
theorem dX9_tighten_22 : decode cX9_tighten 22 = .ok (.iconst 4, 1) := by decide +kernel
theorem dX9_tighten_23 : decode cX9_tighten 23 = .ok (.newarray .int, 2) := by decide +kernel
theorem dX9_tighten_25 : decode cX9_tighten 25 = .ok (.astore_n 2, 1) := by decide +kernel
theorem dX9_tighten_26 : decode cX9_tighten 26 = .ok (.iconst 0, 1) := by decide +kernel
theorem dX9_tighten_27 : decode cX9_tighten 27 = .ok (.istore_n 3, 1) := by decide +kernel
theorem dX9_tighten_28 : decode cX9_tighten 28 = .ok (.iload_n 3, 1) := by decide +kernel
theorem dX9_tighten_29 : decode cX9_tighten 29 = .ok (.aload_n 0, 1) := by decide +kernel
theorem dX9_tighten_30 : decode cX9_tighten 30 = .ok (.getfield 142, 3) := by decide +kernel
theorem dX9_tighten_33 : decode cX9_tighten 33 = .ok (.if_icmp .ge 27, 3) := by decide +kernel
theorem dX9_tighten_60 : decode cX9_tighten 60 = .ok (.iconst 1, 1) := by decide +kernel
theorem dX9_tighten_61 : decode cX9_tighten 61 = .ok (.istore_n 3, 1) := by decide +kernel
theorem dX9_tighten_62 : decode cX9_tighten 62 = .ok (.iload_n 3, 1) := by decide +kernel
theorem dX9_tighten_63 : decode cX9_tighten 63 = .ok (.ifCond .eq 151, 3) := by decide +kernel
theorem dX9_tighten_66 : decode cX9_tighten 66 = .ok (.iconst 0, 1) := by decide +kernel
theorem dX9_tighten_67 : decode cX9_tighten 67 = .ok (.istore_n 3, 1) := by decide +kernel
theorem dX9_tighten_68 : decode cX9_tighten 68 = .ok (.iconst 0, 1) := by decide +kernel
theorem dX9_tighten_69 : decode cX9_tighten 69 = .ok (.istore 4, 2) := by decide +kernel
theorem dX9_tighten_71 : decode cX9_tighten 71 = .ok (.iload 4, 2) := by decide +kernel
theorem dX9_tighten_73 : decode cX9_tighten 73 = .ok (.aload_n 0, 1) := by decide +kernel
theorem dX9_tighten_74 : decode cX9_tighten 74 = .ok (.getfield 183, 3) := by decide +kernel
theorem dX9_tighten_77 : decode cX9_tighten 77 = .ok (.if_icmp .ge 134, 3) := by decide +kernel
theorem dX9_tighten_211 : decode cX9_tighten 211 = .ok (.goto (-149), 3) := by decide +kernel
theorem dX9_tighten_214 : decode cX9_tighten 214 = .ok (.iconst 0, 1) := by decide +kernel
theorem dX9_tighten_215 : decode cX9_tighten 215 = .ok (.istore 4, 2) := by decide +kernel
theorem dX9_tighten_217 : decode cX9_tighten 217 = .ok (.iconst 0, 1) := by decide +kernel
theorem dX9_tighten_218 : decode cX9_tighten 218 = .ok (.istore 5, 2) := by decide +kernel
theorem dX9_tighten_220 : decode cX9_tighten 220 = .ok (.iload 5, 2) := by decide +kernel
theorem dX9_tighten_222 : decode cX9_tighten 222 = .ok (.aload_n 0, 1) := by decide +kernel
theorem dX9_tighten_223 : decode cX9_tighten 223 = .ok (.getfield 142, 3) := by decide +kernel
theorem dX9_tighten_226 : decode cX9_tighten 226 = .ok (.if_icmp .ge 75, 3) := by decide +kernel
theorem dX9_tighten_301 : decode cX9_tighten 301 = .ok (.iload 4, 2) := by decide +kernel
theorem dX9_tighten_303 : decode cX9_tighten 303 = .ok (.ireturn, 1) := by decide +kernel
theorem dX9_lower_0 : decode cX9_lower 0 = .ok (.aload_n 0, 1) := by decide +kernel
theorem dX9_lower_1 : decode cX9_lower 1 = .ok (.iconst 0, 1) := by decide +kernel
theorem dX9_lower_2 : decode cX9_lower 2 = .ok (.putfield 120, 3) := by decide +kernel
theorem dX9_lower_5 : decode cX9_lower 5 = .ok (.aload_n 0, 1) := by decide +kernel
theorem dX9_lower_6 : decode cX9_lower 6 = .ok (.iload_n 1, 1) := by decide +kernel
theorem dX9_lower_7 : decode cX9_lower 7 = .ok (.invokevirtual 227, 3) := by decide +kernel
theorem dX9_lower_10 : decode cX9_lower 10 = .ok (.ifCond .eq 12, 3) := by decide +kernel
theorem dX9_lower_22 : decode cX9_lower 22 = .ok (.aload_n 0, 1) := by decide +kernel
theorem dX9_lower_23 : decode cX9_lower 23 = .ok (.iconst 1, 1) := by decide +kernel
theorem dX9_lower_24 : decode cX9_lower 24 = .ok (.invokevirtual 179, 3) := by decide +kernel
theorem dX9_lower_27 : decode cX9_lower 27 = .ok (.ireturn, 1) := by decide +kernel
theorem dX9_upper_0 : decode cX9_upper 0 = .ok (.aload_n 0, 1) := by decide +kernel
theorem dX9_upper_1 : decode cX9_upper 1 = .ok (.iconst 0, 1) := by decide +kernel
theorem dX9_upper_2 : decode cX9_upper 2 = .ok (.putfield 120, 3) := by decide +kernel
theorem dX9_upper_5 : decode cX9_upper 5 = .ok (.aload_n 0, 1) := by decide +kernel
theorem dX9_upper_6 : decode cX9_upper 6 = .ok (.iload_n 1, 1) := by decide +kernel
theorem dX9_upper_7 : decode cX9_upper 7 = .ok (.invokevirtual 227, 3) := by decide +kernel
theorem dX9_upper_10 : decode cX9_upper 10 = .ok (.ifCond .eq 12, 3) := by decide +kernel
theorem dX9_upper_22 : decode cX9_upper 22 = .ok (.aload_n 0, 1) := by decide +kernel
theorem dX9_upper_23 : decode cX9_upper 23 = .ok (.iconst 1, 1) := by decide +kernel
theorem dX9_upper_24 : decode cX9_upper 24 = .ok (.invokevirtual 179, 3) := by decide +kernel
theorem dX9_upper_27 : decode cX9_upper 27 = .ok (.ireturn, 1) := by decide +kernel
theorem dX9_areAlike_0 : decode cX9_areAlike 0 = .ok (.aload_n 0, 1) := by decide +kernel
theorem dX9_areAlike_1 : decode cX9_areAlike 1 = .ok (.aload_n 0, 1) := by decide +kernel
theorem dX9_areAlike_2 : decode cX9_areAlike 2 = .ok (.iload_n 1, 1) := by decide +kernel
theorem dX9_areAlike_3 : decode cX9_areAlike 3 = .ok (.invokevirtual 227, 3) := by decide +kernel
theorem dX9_areAlike_6 : decode cX9_areAlike 6 = .ok (.ifCond .eq 15, 3) := by decide +kernel
theorem dX9_areAlike_21 : decode cX9_areAlike 21 = .ok (.iconst 1, 1) := by decide +kernel
theorem dX9_areAlike_22 : decode cX9_areAlike 22 = .ok (.putfield 120, 3) := by decide +kernel
theorem dX9_areAlike_25 : decode cX9_areAlike 25 = .ok (.aload_n 0, 1) := by decide +kernel
theorem dX9_areAlike_26 : decode cX9_areAlike 26 = .ok (.getfield 120, 3) := by decide +kernel
theorem dX9_areAlike_29 : decode cX9_areAlike 29 = .ok (.ifCond .ne 16, 3) := by decide +kernel
theorem dX9_areAlike_45 : decode cX9_areAlike 45 = .ok (.iconst 0, 1) := by decide +kernel
theorem dX9_areAlike_46 : decode cX9_areAlike 46 = .ok (.ireturn, 1) := by decide +kernel
theorem dX9_unkept_0 : decode cX9_unkept 0 = .ok (.aload_n 0, 1) := by decide +kernel
theorem dX9_unkept_1 : decode cX9_unkept 1 = .ok (.iconst 0, 1) := by decide +kernel
theorem dX9_unkept_2 : decode cX9_unkept 2 = .ok (.putfield 120, 3) := by decide +kernel
theorem dX9_unkept_5 : decode cX9_unkept 5 = .ok (.iconst 1, 1) := by decide +kernel
theorem dX9_unkept_6 : decode cX9_unkept 6 = .ok (.aload_n 0, 1) := by decide +kernel
theorem dX9_unkept_7 : decode cX9_unkept 7 = .ok (.getfield 183, 3) := by decide +kernel
theorem dX9_unkept_10 : decode cX9_unkept 10 = .ok (.ishl, 1) := by decide +kernel
theorem dX9_unkept_11 : decode cX9_unkept 11 = .ok (.iconst 1, 1) := by decide +kernel
theorem dX9_unkept_12 : decode cX9_unkept 12 = .ok (.isub, 1) := by decide +kernel
theorem dX9_unkept_13 : decode cX9_unkept 13 = .ok (.istore_n 1, 1) := by decide +kernel
theorem dX9_unkept_14 : decode cX9_unkept 14 = .ok (.aload_n 0, 1) := by decide +kernel
theorem dX9_unkept_15 : decode cX9_unkept 15 = .ok (.iload_n 1, 1) := by decide +kernel
theorem dX9_unkept_16 : decode cX9_unkept 16 = .ok (.invokevirtual 241, 3) := by decide +kernel
theorem dX9_unkept_19 : decode cX9_unkept 19 = .ok (.ifCond .eq 9, 3) := by decide +kernel
theorem dX9_unkept_22 : decode cX9_unkept 22 = .ok (.aload_n 0, 1) := by decide +kernel
theorem dX9_unkept_23 : decode cX9_unkept 23 = .ok (.iconst 1, 1) := by decide +kernel
theorem dX9_unkept_24 : decode cX9_unkept 24 = .ok (.invokevirtual 179, 3) := by decide +kernel
theorem dX9_unkept_27 : decode cX9_unkept 27 = .ok (.ireturn, 1) := by decide +kernel
theorem dX9_nodes_0 : decode cX9_nodes 0 = .ok (.aload_n 0, 1) := by decide +kernel
theorem dX9_nodes_1 : decode cX9_nodes 1 = .ok (.iconst 0, 1) := by decide +kernel
theorem dX9_nodes_2 : decode cX9_nodes 2 = .ok (.putfield 120, 3) := by decide +kernel
theorem dX9_nodes_5 : decode cX9_nodes 5 = .ok (.aload_n 0, 1) := by decide +kernel
theorem dX9_nodes_6 : decode cX9_nodes 6 = .ok (.getfield 186, 3) := by decide +kernel
theorem dX9_nodes_9 : decode cX9_nodes 9 = .ok (.ireturn, 1) := by decide +kernel
theorem dX9_open_0 : decode cX9_open 0 = .ok (.aload_n 0, 1) := by decide +kernel
theorem dX9_open_1 : decode cX9_open 1 = .ok (.iconst 0, 1) := by decide +kernel
theorem dX9_open_2 : decode cX9_open 2 = .ok (.putfield 120, 3) := by decide +kernel
theorem dX9_open_5 : decode cX9_open 5 = .ok (.iconst 0, 1) := by decide +kernel
theorem dX9_open_6 : decode cX9_open 6 = .ok (.istore_n 1, 1) := by decide +kernel
theorem dX9_open_7 : decode cX9_open 7 = .ok (.iconst 0, 1) := by decide +kernel
theorem dX9_open_8 : decode cX9_open 8 = .ok (.istore_n 2, 1) := by decide +kernel
theorem dX9_open_9 : decode cX9_open 9 = .ok (.iload_n 2, 1) := by decide +kernel
theorem dX9_open_10 : decode cX9_open 10 = .ok (.aload_n 0, 1) := by decide +kernel
theorem dX9_open_11 : decode cX9_open 11 = .ok (.getfield 186, 3) := by decide +kernel
theorem dX9_open_14 : decode cX9_open 14 = .ok (.if_icmp .ge 28, 3) := by decide +kernel
theorem dX9_open_42 : decode cX9_open 42 = .ok (.iload_n 1, 1) := by decide +kernel
theorem dX9_open_43 : decode cX9_open 43 = .ok (.ireturn, 1) := by decide +kernel
theorem dX9_state_0 : decode cX9_state 0 = .ok (.aload_n 0, 1) := by decide +kernel
theorem dX9_state_1 : decode cX9_state 1 = .ok (.iconst 0, 1) := by decide +kernel
theorem dX9_state_2 : decode cX9_state 2 = .ok (.putfield 120, 3) := by decide +kernel
theorem dX9_state_5 : decode cX9_state 5 = .ok (.aload_n 0, 1) := by decide +kernel
theorem dX9_state_6 : decode cX9_state 6 = .ok (.iload_n 1, 1) := by decide +kernel
theorem dX9_state_7 : decode cX9_state 7 = .ok (.invokevirtual 320, 3) := by decide +kernel
theorem dX9_state_10 : decode cX9_state 10 = .ok (.ifCond .eq 12, 3) := by decide +kernel
theorem dX9_state_22 : decode cX9_state 22 = .ok (.aload_n 0, 1) := by decide +kernel
theorem dX9_state_23 : decode cX9_state 23 = .ok (.iconst 1, 1) := by decide +kernel
theorem dX9_state_24 : decode cX9_state 24 = .ok (.invokevirtual 179, 3) := by decide +kernel
theorem dX9_state_27 : decode cX9_state 27 = .ok (.i2c, 1) := by decide +kernel
theorem dX9_state_28 : decode cX9_state 28 = .ok (.ireturn, 1) := by decide +kernel
theorem dX9_parent_0 : decode cX9_parent 0 = .ok (.aload_n 0, 1) := by decide +kernel
theorem dX9_parent_1 : decode cX9_parent 1 = .ok (.iconst 0, 1) := by decide +kernel
theorem dX9_parent_2 : decode cX9_parent 2 = .ok (.putfield 120, 3) := by decide +kernel
theorem dX9_parent_5 : decode cX9_parent 5 = .ok (.aload_n 0, 1) := by decide +kernel
theorem dX9_parent_6 : decode cX9_parent 6 = .ok (.iload_n 1, 1) := by decide +kernel
theorem dX9_parent_7 : decode cX9_parent 7 = .ok (.invokevirtual 320, 3) := by decide +kernel
theorem dX9_parent_10 : decode cX9_parent 10 = .ok (.ifCond .ne 9, 3) := by decide +kernel
theorem dX9_parent_13 : decode cX9_parent 13 = .ok (.aload_n 0, 1) := by decide +kernel
theorem dX9_parent_14 : decode cX9_parent 14 = .ok (.iconst 1, 1) := by decide +kernel
theorem dX9_parent_15 : decode cX9_parent 15 = .ok (.invokevirtual 179, 3) := by decide +kernel
theorem dX9_parent_18 : decode cX9_parent 18 = .ok (.ireturn, 1) := by decide +kernel
theorem dX9_lowerAt_0 : decode cX9_lowerAt 0 = .ok (.aload_n 0, 1) := by decide +kernel
theorem dX9_lowerAt_1 : decode cX9_lowerAt 1 = .ok (.iconst 0, 1) := by decide +kernel
theorem dX9_lowerAt_2 : decode cX9_lowerAt 2 = .ok (.putfield 120, 3) := by decide +kernel
theorem dX9_lowerAt_5 : decode cX9_lowerAt 5 = .ok (.aload_n 0, 1) := by decide +kernel
theorem dX9_lowerAt_6 : decode cX9_lowerAt 6 = .ok (.iload_n 1, 1) := by decide +kernel
theorem dX9_lowerAt_7 : decode cX9_lowerAt 7 = .ok (.invokevirtual 320, 3) := by decide +kernel
theorem dX9_lowerAt_10 : decode cX9_lowerAt 10 = .ok (.ifCond .eq 22, 3) := by decide +kernel
theorem dX9_lowerAt_32 : decode cX9_lowerAt 32 = .ok (.aload_n 0, 1) := by decide +kernel
theorem dX9_lowerAt_33 : decode cX9_lowerAt 33 = .ok (.iconst 1, 1) := by decide +kernel
theorem dX9_lowerAt_34 : decode cX9_lowerAt 34 = .ok (.invokevirtual 179, 3) := by decide +kernel
theorem dX9_lowerAt_37 : decode cX9_lowerAt 37 = .ok (.ireturn, 1) := by decide +kernel
theorem dX9_upperAt_0 : decode cX9_upperAt 0 = .ok (.aload_n 0, 1) := by decide +kernel
theorem dX9_upperAt_1 : decode cX9_upperAt 1 = .ok (.iconst 0, 1) := by decide +kernel
theorem dX9_upperAt_2 : decode cX9_upperAt 2 = .ok (.putfield 120, 3) := by decide +kernel
theorem dX9_upperAt_5 : decode cX9_upperAt 5 = .ok (.aload_n 0, 1) := by decide +kernel
theorem dX9_upperAt_6 : decode cX9_upperAt 6 = .ok (.iload_n 1, 1) := by decide +kernel
theorem dX9_upperAt_7 : decode cX9_upperAt 7 = .ok (.invokevirtual 320, 3) := by decide +kernel
theorem dX9_upperAt_10 : decode cX9_upperAt 10 = .ok (.ifCond .eq 22, 3) := by decide +kernel
theorem dX9_upperAt_32 : decode cX9_upperAt 32 = .ok (.aload_n 0, 1) := by decide +kernel
theorem dX9_upperAt_33 : decode cX9_upperAt 33 = .ok (.iconst 1, 1) := by decide +kernel
theorem dX9_upperAt_34 : decode cX9_upperAt 34 = .ok (.invokevirtual 179, 3) := by decide +kernel
theorem dX9_upperAt_37 : decode cX9_upperAt 37 = .ok (.ireturn, 1) := by decide +kernel
theorem dX9_value_0 : decode cX9_value 0 = .ok (.aload_n 0, 1) := by decide +kernel
theorem dX9_value_1 : decode cX9_value 1 = .ok (.iconst 0, 1) := by decide +kernel
theorem dX9_value_2 : decode cX9_value 2 = .ok (.putfield 120, 3) := by decide +kernel
theorem dX9_value_5 : decode cX9_value 5 = .ok (.aload_n 0, 1) := by decide +kernel
theorem dX9_value_6 : decode cX9_value 6 = .ok (.iload_n 1, 1) := by decide +kernel
theorem dX9_value_7 : decode cX9_value 7 = .ok (.invokevirtual 320, 3) := by decide +kernel
theorem dX9_value_10 : decode cX9_value 10 = .ok (.ifCond .ne 10, 3) := by decide +kernel
theorem dX9_value_13 : decode cX9_value 13 = .ok (.aload_n 0, 1) := by decide +kernel
theorem dX9_value_14 : decode cX9_value 14 = .ok (.iconst 1, 1) := by decide +kernel
theorem dX9_value_15 : decode cX9_value 15 = .ok (.invokevirtual 179, 3) := by decide +kernel
theorem dX9_value_18 : decode cX9_value 18 = .ok (.i2l, 1) := by decide +kernel
theorem dX9_value_19 : decode cX9_value 19 = .ok (.lreturn, 1) := by decide +kernel
theorem dX9_point_0 : decode cX9_point 0 = .ok (.aload_n 0, 1) := by decide +kernel
theorem dX9_point_1 : decode cX9_point 1 = .ok (.iconst 0, 1) := by decide +kernel
theorem dX9_point_2 : decode cX9_point 2 = .ok (.putfield 120, 3) := by decide +kernel
theorem dX9_point_5 : decode cX9_point 5 = .ok (.aload_n 0, 1) := by decide +kernel
theorem dX9_point_6 : decode cX9_point 6 = .ok (.iload_n 1, 1) := by decide +kernel
theorem dX9_point_7 : decode cX9_point 7 = .ok (.invokevirtual 320, 3) := by decide +kernel
theorem dX9_point_10 : decode cX9_point 10 = .ok (.ifCond .eq 11, 3) := by decide +kernel
theorem dX9_point_21 : decode cX9_point 21 = .ok (.aload_n 0, 1) := by decide +kernel
theorem dX9_point_22 : decode cX9_point 22 = .ok (.iconst 1, 1) := by decide +kernel
theorem dX9_point_23 : decode cX9_point 23 = .ok (.invokevirtual 179, 3) := by decide +kernel
theorem dX9_point_26 : decode cX9_point 26 = .ok (.i2l, 1) := by decide +kernel
theorem dX9_point_27 : decode cX9_point 27 = .ok (.lreturn, 1) := by decide +kernel
theorem dX9_bound_0 : decode cX9_bound 0 = .ok (.aload_n 0, 1) := by decide +kernel
theorem dX9_bound_1 : decode cX9_bound 1 = .ok (.iconst 0, 1) := by decide +kernel
theorem dX9_bound_2 : decode cX9_bound 2 = .ok (.putfield 120, 3) := by decide +kernel
theorem dX9_bound_5 : decode cX9_bound 5 = .ok (.aload_n 0, 1) := by decide +kernel
theorem dX9_bound_6 : decode cX9_bound 6 = .ok (.invokevirtual 331, 3) := by decide +kernel
theorem dX9_bound_9 : decode cX9_bound 9 = .ok (.istore_n 1, 1) := by decide +kernel
theorem dX9_bound_10 : decode cX9_bound 10 = .ok (.iload_n 1, 1) := by decide +kernel
theorem dX9_bound_11 : decode cX9_bound 11 = .ok (.bipush (-2), 2) := by decide +kernel
theorem dX9_bound_13 : decode cX9_bound 13 = .ok (.if_icmp .ne 10, 3) := by decide +kernel
theorem dX9_bound_16 : decode cX9_bound 16 = .ok (.aload_n 0, 1) := by decide +kernel
theorem dX9_bound_17 : decode cX9_bound 17 = .ok (.iconst 1, 1) := by decide +kernel
theorem dX9_bound_18 : decode cX9_bound 18 = .ok (.invokevirtual 179, 3) := by decide +kernel
theorem dX9_bound_21 : decode cX9_bound 21 = .ok (.i2l, 1) := by decide +kernel
theorem dX9_bound_22 : decode cX9_bound 22 = .ok (.lreturn, 1) := by decide +kernel
theorem dX9_offer_0 : decode cX9_offer 0 = .ok (.aload_n 0, 1) := by decide +kernel
theorem dX9_offer_1 : decode cX9_offer 1 = .ok (.aload_n 0, 1) := by decide +kernel
theorem dX9_offer_2 : decode cX9_offer 2 = .ok (.getfield 186, 3) := by decide +kernel
theorem dX9_offer_5 : decode cX9_offer 5 = .ok (.ifCond .ne 7, 3) := by decide +kernel
theorem dX9_offer_8 : decode cX9_offer 8 = .ok (.iconst 1, 1) := by decide +kernel
theorem dX9_offer_9 : decode cX9_offer 9 = .ok (.goto 4, 3) := by decide +kernel
theorem dX9_offer_13 : decode cX9_offer 13 = .ok (.putfield 120, 3) := by decide +kernel
theorem dX9_offer_16 : decode cX9_offer 16 = .ok (.aload_n 0, 1) := by decide +kernel
theorem dX9_offer_17 : decode cX9_offer 17 = .ok (.getfield 120, 3) := by decide +kernel
theorem dX9_offer_20 : decode cX9_offer 20 = .ok (.ifCond .le 5, 3) := by decide +kernel
theorem dX9_offer_23 : decode cX9_offer 23 = .ok (.iconst 0, 1) := by decide +kernel
theorem dX9_offer_24 : decode cX9_offer 24 = .ok (.ireturn, 1) := by decide +kernel
theorem dX9_round_0 : decode cX9_round 0 = .ok (.aload_n 0, 1) := by decide +kernel
theorem dX9_round_1 : decode cX9_round 1 = .ok (.aload_n 0, 1) := by decide +kernel
theorem dX9_round_2 : decode cX9_round 2 = .ok (.iload_n 1, 1) := by decide +kernel
theorem dX9_round_3 : decode cX9_round 3 = .ok (.invokevirtual 320, 3) := by decide +kernel
theorem dX9_round_6 : decode cX9_round 6 = .ok (.ifCond .ne 7, 3) := by decide +kernel
theorem dX9_round_9 : decode cX9_round 9 = .ok (.iconst 1, 1) := by decide +kernel
theorem dX9_round_10 : decode cX9_round 10 = .ok (.goto 16, 3) := by decide +kernel
theorem dX9_round_26 : decode cX9_round 26 = .ok (.putfield 120, 3) := by decide +kernel
theorem dX9_round_29 : decode cX9_round 29 = .ok (.aload_n 0, 1) := by decide +kernel
theorem dX9_round_30 : decode cX9_round 30 = .ok (.getfield 120, 3) := by decide +kernel
theorem dX9_round_33 : decode cX9_round 33 = .ok (.ifCond .le 5, 3) := by decide +kernel
theorem dX9_round_36 : decode cX9_round 36 = .ok (.iconst 0, 1) := by decide +kernel
theorem dX9_round_37 : decode cX9_round 37 = .ok (.ireturn, 1) := by decide +kernel
theorem dX9_best_0 : decode cX9_best 0 = .ok (.aload_n 0, 1) := by decide +kernel
theorem dX9_best_1 : decode cX9_best 1 = .ok (.aload_n 0, 1) := by decide +kernel
theorem dX9_best_2 : decode cX9_best 2 = .ok (.getfield 192, 3) := by decide +kernel
theorem dX9_best_5 : decode cX9_best 5 = .ok (.ifCond .eq 7, 3) := by decide +kernel
theorem dX9_best_12 : decode cX9_best 12 = .ok (.iconst 1, 1) := by decide +kernel
theorem dX9_best_13 : decode cX9_best 13 = .ok (.putfield 120, 3) := by decide +kernel
theorem dX9_best_16 : decode cX9_best 16 = .ok (.aload_n 0, 1) := by decide +kernel
theorem dX9_best_17 : decode cX9_best 17 = .ok (.getfield 120, 3) := by decide +kernel
theorem dX9_best_20 : decode cX9_best 20 = .ok (.ifCond .le 7, 3) := by decide +kernel
theorem dX9_best_23 : decode cX9_best 23 = .ok (.lconst 0, 1) := by decide +kernel
theorem dX9_best_24 : decode cX9_best 24 = .ok (.goto 18, 3) := by decide +kernel
theorem dX9_best_42 : decode cX9_best 42 = .ok (.lreturn, 1) := by decide +kernel
theorem dX9_solution_0 : decode cX9_solution 0 = .ok (.aload_n 0, 1) := by decide +kernel
theorem dX9_solution_1 : decode cX9_solution 1 = .ok (.aload_n 0, 1) := by decide +kernel
theorem dX9_solution_2 : decode cX9_solution 2 = .ok (.iload_n 1, 1) := by decide +kernel
theorem dX9_solution_3 : decode cX9_solution 3 = .ok (.invokevirtual 227, 3) := by decide +kernel
theorem dX9_solution_6 : decode cX9_solution 6 = .ok (.ifCond .ne 7, 3) := by decide +kernel
theorem dX9_solution_9 : decode cX9_solution 9 = .ok (.iconst 1, 1) := by decide +kernel
theorem dX9_solution_10 : decode cX9_solution 10 = .ok (.goto 15, 3) := by decide +kernel
theorem dX9_solution_25 : decode cX9_solution 25 = .ok (.putfield 120, 3) := by decide +kernel
theorem dX9_solution_28 : decode cX9_solution 28 = .ok (.aload_n 0, 1) := by decide +kernel
theorem dX9_solution_29 : decode cX9_solution 29 = .ok (.getfield 120, 3) := by decide +kernel
theorem dX9_solution_32 : decode cX9_solution 32 = .ok (.ifCond .le 7, 3) := by decide +kernel
theorem dX9_solution_35 : decode cX9_solution 35 = .ok (.lconst 0, 1) := by decide +kernel
theorem dX9_solution_36 : decode cX9_solution 36 = .ok (.goto 16, 3) := by decide +kernel
theorem dX9_solution_52 : decode cX9_solution 52 = .ok (.lreturn, 1) := by decide +kernel
theorem dX9_bestByAll_0 : decode cX9_bestByAll 0 = .ok (.aload_n 0, 1) := by decide +kernel
theorem dX9_bestByAll_1 : decode cX9_bestByAll 1 = .ok (.iconst 0, 1) := by decide +kernel
theorem dX9_bestByAll_2 : decode cX9_bestByAll 2 = .ok (.putfield 120, 3) := by decide +kernel
theorem dX9_bestByAll_5 : decode cX9_bestByAll 5 = .ok (.iconst 1, 1) := by decide +kernel
theorem dX9_bestByAll_6 : decode cX9_bestByAll 6 = .ok (.istore_n 1, 1) := by decide +kernel
theorem dX9_bestByAll_7 : decode cX9_bestByAll 7 = .ok (.iconst 0, 1) := by decide +kernel
theorem dX9_bestByAll_8 : decode cX9_bestByAll 8 = .ok (.istore_n 2, 1) := by decide +kernel
theorem dX9_bestByAll_9 : decode cX9_bestByAll 9 = .ok (.iload_n 2, 1) := by decide +kernel
theorem dX9_bestByAll_10 : decode cX9_bestByAll 10 = .ok (.aload_n 0, 1) := by decide +kernel
theorem dX9_bestByAll_11 : decode cX9_bestByAll 11 = .ok (.getfield 142, 3) := by decide +kernel
theorem dX9_bestByAll_14 : decode cX9_bestByAll 14 = .ok (.if_icmp .ge 42, 3) := by decide +kernel
theorem dX9_bestByAll_56 : decode cX9_bestByAll 56 = .ok (.iload_n 1, 1) := by decide +kernel
theorem dX9_bestByAll_57 : decode cX9_bestByAll 57 = .ok (.sipush 6000, 3) := by decide +kernel
theorem dX9_bestByAll_60 : decode cX9_bestByAll 60 = .ok (.if_icmp .le 9, 3) := by decide +kernel
theorem dX9_bestByAll_69 : decode cX9_bestByAll 69 = .ok (.ldc_w 342, 3) := by decide +kernel
theorem dX9_bestByAll_72 : decode cX9_bestByAll 72 = .ok (.istore_n 2, 1) := by decide +kernel
theorem dX9_bestByAll_73 : decode cX9_bestByAll 73 = .ok (.aload_n 0, 1) := by decide +kernel
theorem dX9_bestByAll_74 : decode cX9_bestByAll 74 = .ok (.lconst 1, 1) := by decide +kernel
theorem dX9_bestByAll_75 : decode cX9_bestByAll 75 = .ok (.putfield 138, 3) := by decide +kernel
theorem dX9_bestByAll_78 : decode cX9_bestByAll 78 = .ok (.iconst 0, 1) := by decide +kernel
theorem dX9_bestByAll_79 : decode cX9_bestByAll 79 = .ok (.istore_n 3, 1) := by decide +kernel
theorem dX9_bestByAll_80 : decode cX9_bestByAll 80 = .ok (.iload_n 3, 1) := by decide +kernel
theorem dX9_bestByAll_81 : decode cX9_bestByAll 81 = .ok (.iload_n 1, 1) := by decide +kernel
theorem dX9_bestByAll_82 : decode cX9_bestByAll 82 = .ok (.if_icmp .ge 103, 3) := by decide +kernel
theorem dX9_bestByAll_85 : decode cX9_bestByAll 85 = .ok (.iload_n 3, 1) := by decide +kernel
theorem dX9_bestByAll_86 : decode cX9_bestByAll 86 = .ok (.istore 4, 2) := by decide +kernel
theorem dX9_bestByAll_88 : decode cX9_bestByAll 88 = .ok (.iconst 0, 1) := by decide +kernel
theorem dX9_bestByAll_89 : decode cX9_bestByAll 89 = .ok (.istore 5, 2) := by decide +kernel
theorem dX9_bestByAll_91 : decode cX9_bestByAll 91 = .ok (.iload 5, 2) := by decide +kernel
theorem dX9_bestByAll_93 : decode cX9_bestByAll 93 = .ok (.aload_n 0, 1) := by decide +kernel
theorem dX9_bestByAll_94 : decode cX9_bestByAll 94 = .ok (.getfield 142, 3) := by decide +kernel
theorem dX9_bestByAll_97 : decode cX9_bestByAll 97 = .ok (.if_icmp .ge 56, 3) := by decide +kernel
theorem dX9_bestByAll_153 : decode cX9_bestByAll 153 = .ok (.aload_n 0, 1) := by decide +kernel
theorem dX9_bestByAll_154 : decode cX9_bestByAll 154 = .ok (.invokevirtual 334, 3) := by decide +kernel
theorem dX9_bestByAll_157 : decode cX9_bestByAll 157 = .ok (.ifCond .eq 20, 3) := by decide +kernel
theorem dX9_bestByAll_160 : decode cX9_bestByAll 160 = .ok (.iload_n 2, 1) := by decide +kernel
theorem dX9_bestByAll_161 : decode cX9_bestByAll 161 = .ok (.i2l, 1) := by decide +kernel
theorem dX9_bestByAll_162 : decode cX9_bestByAll 162 = .ok (.aload_n 0, 1) := by decide +kernel
theorem dX9_bestByAll_163 : decode cX9_bestByAll 163 = .ok (.aload_n 0, 1) := by decide +kernel
theorem dX9_bestByAll_164 : decode cX9_bestByAll 164 = .ok (.getfield 117, 3) := by decide +kernel
theorem dX9_bestByAll_167 : decode cX9_bestByAll 167 = .ok (.invokevirtual 251, 3) := by decide +kernel
theorem dX9_bestByAll_170 : decode cX9_bestByAll 170 = .ok (.invokestatic 343, 3) := by decide +kernel
theorem dX9_bestByAll_173 : decode cX9_bestByAll 173 = .ok (.l2i, 1) := by decide +kernel
theorem dX9_bestByAll_174 : decode cX9_bestByAll 174 = .ok (.goto 4, 3) := by decide +kernel
theorem dX9_bestByAll_178 : decode cX9_bestByAll 178 = .ok (.istore_n 2, 1) := by decide +kernel
theorem dX9_bestByAll_179 : decode cX9_bestByAll 179 = .ok (.iinc 3 1, 3) := by decide +kernel
theorem dX9_bestByAll_182 : decode cX9_bestByAll 182 = .ok (.goto (-102), 3) := by decide +kernel
theorem dX9_bestByAll_185 : decode cX9_bestByAll 185 = .ok (.iload_n 2, 1) := by decide +kernel
theorem dX9_bestByAll_186 : decode cX9_bestByAll 186 = .ok (.ldc_w 342, 3) := by decide +kernel
theorem dX9_bestByAll_189 : decode cX9_bestByAll 189 = .ok (.if_icmp .ne 11, 3) := by decide +kernel
theorem dX9_bestByAll_200 : decode cX9_bestByAll 200 = .ok (.iload_n 2, 1) := by decide +kernel
theorem dX9_bestByAll_201 : decode cX9_bestByAll 201 = .ok (.ireturn, 1) := by decide +kernel
theorem dX9_cutByRounding_0 : decode cX9_cutByRounding 0 = .ok (.aload_n 0, 1) := by decide +kernel
theorem dX9_cutByRounding_1 : decode cX9_cutByRounding 1 = .ok (.iconst 0, 1) := by decide +kernel
theorem dX9_cutByRounding_2 : decode cX9_cutByRounding 2 = .ok (.putfield 120, 3) := by decide +kernel
theorem dX9_cutByRounding_5 : decode cX9_cutByRounding 5 = .ok (.aload_n 0, 1) := by decide +kernel
theorem dX9_cutByRounding_6 : decode cX9_cutByRounding 6 = .ok (.iload_n 1, 1) := by decide +kernel
theorem dX9_cutByRounding_7 : decode cX9_cutByRounding 7 = .ok (.invokevirtual 320, 3) := by decide +kernel
theorem dX9_cutByRounding_10 : decode cX9_cutByRounding 10 = .ok (.ifCond .eq 11, 3) := by decide +kernel
theorem dX9_cutByRounding_21 : decode cX9_cutByRounding 21 = .ok (.aload_n 0, 1) := by decide +kernel
theorem dX9_cutByRounding_22 : decode cX9_cutByRounding 22 = .ok (.iconst 1, 1) := by decide +kernel
theorem dX9_cutByRounding_23 : decode cX9_cutByRounding 23 = .ok (.invokevirtual 179, 3) := by decide +kernel
theorem dX9_cutByRounding_26 : decode cX9_cutByRounding 26 = .ok (.ireturn, 1) := by decide +kernel
theorem dX9_cutByCover_0 : decode cX9_cutByCover 0 = .ok (.aload_n 0, 1) := by decide +kernel
theorem dX9_cutByCover_1 : decode cX9_cutByCover 1 = .ok (.iconst 0, 1) := by decide +kernel
theorem dX9_cutByCover_2 : decode cX9_cutByCover 2 = .ok (.putfield 120, 3) := by decide +kernel
theorem dX9_cutByCover_5 : decode cX9_cutByCover 5 = .ok (.aload_n 0, 1) := by decide +kernel
theorem dX9_cutByCover_6 : decode cX9_cutByCover 6 = .ok (.iload_n 1, 1) := by decide +kernel
theorem dX9_cutByCover_7 : decode cX9_cutByCover 7 = .ok (.invokevirtual 345, 3) := by decide +kernel
theorem dX9_cutByCover_10 : decode cX9_cutByCover 10 = .ok (.ifCond .ne 9, 3) := by decide +kernel
theorem dX9_cutByCover_13 : decode cX9_cutByCover 13 = .ok (.aload_n 0, 1) := by decide +kernel
theorem dX9_cutByCover_14 : decode cX9_cutByCover 14 = .ok (.iconst 1, 1) := by decide +kernel
theorem dX9_cutByCover_15 : decode cX9_cutByCover 15 = .ok (.invokevirtual 179, 3) := by decide +kernel
theorem dX9_cutByCover_18 : decode cX9_cutByCover 18 = .ok (.ireturn, 1) := by decide +kernel
theorem dX9_cutByLikeness_0 : decode cX9_cutByLikeness 0 = .ok (.aload_n 0, 1) := by decide +kernel
theorem dX9_cutByLikeness_1 : decode cX9_cutByLikeness 1 = .ok (.iconst 0, 1) := by decide +kernel
theorem dX9_cutByLikeness_2 : decode cX9_cutByLikeness 2 = .ok (.putfield 120, 3) := by decide +kernel
theorem dX9_cutByLikeness_5 : decode cX9_cutByLikeness 5 = .ok (.aload_n 0, 1) := by decide +kernel
theorem dX9_cutByLikeness_6 : decode cX9_cutByLikeness 6 = .ok (.iload_n 1, 1) := by decide +kernel
theorem dX9_cutByLikeness_7 : decode cX9_cutByLikeness 7 = .ok (.invokevirtual 227, 3) := by decide +kernel
theorem dX9_cutByLikeness_10 : decode cX9_cutByLikeness 10 = .ok (.ifCond .eq 11, 3) := by decide +kernel
theorem dX9_cutByLikeness_21 : decode cX9_cutByLikeness 21 = .ok (.aload_n 0, 1) := by decide +kernel
theorem dX9_cutByLikeness_22 : decode cX9_cutByLikeness 22 = .ok (.iconst 1, 1) := by decide +kernel
theorem dX9_cutByLikeness_23 : decode cX9_cutByLikeness 23 = .ok (.invokevirtual 179, 3) := by decide +kernel
theorem dX9_cutByLikeness_26 : decode cX9_cutByLikeness 26 = .ok (.ireturn, 1) := by decide +kernel
theorem dX9_cuts_0 : decode cX9_cuts 0 = .ok (.aload_n 0, 1) := by decide +kernel
theorem dX9_cuts_1 : decode cX9_cuts 1 = .ok (.iconst 0, 1) := by decide +kernel
theorem dX9_cuts_2 : decode cX9_cuts 2 = .ok (.putfield 120, 3) := by decide +kernel
theorem dX9_cuts_5 : decode cX9_cuts 5 = .ok (.aload_n 0, 1) := by decide +kernel
theorem dX9_cuts_6 : decode cX9_cuts 6 = .ok (.getfield 203, 3) := by decide +kernel
theorem dX9_cuts_9 : decode cX9_cuts 9 = .ok (.ireturn, 1) := by decide +kernel
theorem dX9_kind_0 : decode cX9_kind 0 = .ok (.aload_n 0, 1) := by decide +kernel
theorem dX9_kind_1 : decode cX9_kind 1 = .ok (.iconst 0, 1) := by decide +kernel
theorem dX9_kind_2 : decode cX9_kind 2 = .ok (.putfield 120, 3) := by decide +kernel
theorem dX9_kind_5 : decode cX9_kind 5 = .ok (.aload_n 0, 1) := by decide +kernel
theorem dX9_kind_6 : decode cX9_kind 6 = .ok (.iload_n 1, 1) := by decide +kernel
theorem dX9_kind_7 : decode cX9_kind 7 = .ok (.invokevirtual 352, 3) := by decide +kernel
theorem dX9_kind_10 : decode cX9_kind 10 = .ok (.ifCond .eq 12, 3) := by decide +kernel
theorem dX9_kind_22 : decode cX9_kind 22 = .ok (.aload_n 0, 1) := by decide +kernel
theorem dX9_kind_23 : decode cX9_kind 23 = .ok (.iconst 1, 1) := by decide +kernel
theorem dX9_kind_24 : decode cX9_kind 24 = .ok (.invokevirtual 179, 3) := by decide +kernel
theorem dX9_kind_27 : decode cX9_kind 27 = .ok (.i2c, 1) := by decide +kernel
theorem dX9_kind_28 : decode cX9_kind 28 = .ok (.ireturn, 1) := by decide +kernel
theorem dX9_coefficient_0 : decode cX9_coefficient 0 = .ok (.aload_n 0, 1) := by decide +kernel
theorem dX9_coefficient_1 : decode cX9_coefficient 1 = .ok (.iconst 0, 1) := by decide +kernel
theorem dX9_coefficient_2 : decode cX9_coefficient 2 = .ok (.putfield 120, 3) := by decide +kernel
theorem dX9_coefficient_5 : decode cX9_coefficient 5 = .ok (.aload_n 0, 1) := by decide +kernel
theorem dX9_coefficient_6 : decode cX9_coefficient 6 = .ok (.iload_n 1, 1) := by decide +kernel
theorem dX9_coefficient_7 : decode cX9_coefficient 7 = .ok (.invokevirtual 352, 3) := by decide +kernel
theorem dX9_coefficient_10 : decode cX9_coefficient 10 = .ok (.ifCond .eq 22, 3) := by decide +kernel
theorem dX9_coefficient_32 : decode cX9_coefficient 32 = .ok (.aload_n 0, 1) := by decide +kernel
theorem dX9_coefficient_33 : decode cX9_coefficient 33 = .ok (.iconst 1, 1) := by decide +kernel
theorem dX9_coefficient_34 : decode cX9_coefficient 34 = .ok (.invokevirtual 179, 3) := by decide +kernel
theorem dX9_coefficient_37 : decode cX9_coefficient 37 = .ok (.ireturn, 1) := by decide +kernel
theorem dX9_side_0 : decode cX9_side 0 = .ok (.aload_n 0, 1) := by decide +kernel
theorem dX9_side_1 : decode cX9_side 1 = .ok (.iconst 0, 1) := by decide +kernel
theorem dX9_side_2 : decode cX9_side 2 = .ok (.putfield 120, 3) := by decide +kernel
theorem dX9_side_5 : decode cX9_side 5 = .ok (.aload_n 0, 1) := by decide +kernel
theorem dX9_side_6 : decode cX9_side 6 = .ok (.iload_n 1, 1) := by decide +kernel
theorem dX9_side_7 : decode cX9_side 7 = .ok (.invokevirtual 352, 3) := by decide +kernel
theorem dX9_side_10 : decode cX9_side 10 = .ok (.ifCond .eq 12, 3) := by decide +kernel
theorem dX9_side_22 : decode cX9_side 22 = .ok (.aload_n 0, 1) := by decide +kernel
theorem dX9_side_23 : decode cX9_side 23 = .ok (.iconst 1, 1) := by decide +kernel
theorem dX9_side_24 : decode cX9_side 24 = .ok (.invokevirtual 179, 3) := by decide +kernel
theorem dX9_side_27 : decode cX9_side 27 = .ok (.ireturn, 1) := by decide +kernel
theorem dX9_age_0 : decode cX9_age 0 = .ok (.aload_n 0, 1) := by decide +kernel
theorem dX9_age_1 : decode cX9_age 1 = .ok (.iconst 0, 1) := by decide +kernel
theorem dX9_age_2 : decode cX9_age 2 = .ok (.putfield 120, 3) := by decide +kernel
theorem dX9_age_5 : decode cX9_age 5 = .ok (.aload_n 0, 1) := by decide +kernel
theorem dX9_age_6 : decode cX9_age 6 = .ok (.iload_n 1, 1) := by decide +kernel
theorem dX9_age_7 : decode cX9_age 7 = .ok (.invokevirtual 352, 3) := by decide +kernel
theorem dX9_age_10 : decode cX9_age 10 = .ok (.ifCond .eq 12, 3) := by decide +kernel
theorem dX9_age_22 : decode cX9_age 22 = .ok (.aload_n 0, 1) := by decide +kernel
theorem dX9_age_23 : decode cX9_age 23 = .ok (.iconst 1, 1) := by decide +kernel
theorem dX9_age_24 : decode cX9_age 24 = .ok (.invokevirtual 179, 3) := by decide +kernel
theorem dX9_age_27 : decode cX9_age 27 = .ok (.ireturn, 1) := by decide +kernel
theorem dX9_gain_0 : decode cX9_gain 0 = .ok (.aload_n 0, 1) := by decide +kernel
theorem dX9_gain_1 : decode cX9_gain 1 = .ok (.iconst 0, 1) := by decide +kernel
theorem dX9_gain_2 : decode cX9_gain 2 = .ok (.putfield 120, 3) := by decide +kernel
theorem dX9_gain_5 : decode cX9_gain 5 = .ok (.aload_n 0, 1) := by decide +kernel
theorem dX9_gain_6 : decode cX9_gain 6 = .ok (.iload_n 1, 1) := by decide +kernel
theorem dX9_gain_7 : decode cX9_gain 7 = .ok (.invokevirtual 227, 3) := by decide +kernel
theorem dX9_gain_10 : decode cX9_gain 10 = .ok (.ifCond .ne 9, 3) := by decide +kernel
theorem dX9_gain_13 : decode cX9_gain 13 = .ok (.aload_n 0, 1) := by decide +kernel
theorem dX9_gain_14 : decode cX9_gain 14 = .ok (.iconst 1, 1) := by decide +kernel
theorem dX9_gain_15 : decode cX9_gain 15 = .ok (.invokevirtual 179, 3) := by decide +kernel
theorem dX9_gain_18 : decode cX9_gain 18 = .ok (.ireturn, 1) := by decide +kernel
theorem dX9_addColumn_0 : decode cX9_addColumn 0 = .ok (.aload_n 0, 1) := by decide +kernel
theorem dX9_addColumn_1 : decode cX9_addColumn 1 = .ok (.iconst 0, 1) := by decide +kernel
theorem dX9_addColumn_2 : decode cX9_addColumn 2 = .ok (.putfield 120, 3) := by decide +kernel
theorem dX9_addColumn_5 : decode cX9_addColumn 5 = .ok (.iload_n 1, 1) := by decide +kernel
theorem dX9_addColumn_6 : decode cX9_addColumn 6 = .ok (.bipush (-9), 2) := by decide +kernel
theorem dX9_addColumn_8 : decode cX9_addColumn 8 = .ok (.bipush 9, 2) := by decide +kernel
theorem dX9_addColumn_10 : decode cX9_addColumn 10 = .ok (.invokestatic 175, 3) := by decide +kernel
theorem dX9_addColumn_13 : decode cX9_addColumn 13 = .ok (.ifCond .eq 24, 3) := by decide +kernel
theorem dX9_addColumn_37 : decode cX9_addColumn 37 = .ok (.aload_n 0, 1) := by decide +kernel
theorem dX9_addColumn_38 : decode cX9_addColumn 38 = .ok (.iconst 1, 1) := by decide +kernel
theorem dX9_addColumn_39 : decode cX9_addColumn 39 = .ok (.invokevirtual 179, 3) := by decide +kernel
theorem dX9_addColumn_42 : decode cX9_addColumn 42 = .ok (.ireturn, 1) := by decide +kernel
theorem dX9_addColumn_16 : decode cX9_addColumn 16 = .ok (.iload_n 2, 1) := by decide +kernel
theorem dX9_addColumn_17 : decode cX9_addColumn 17 = .ok (.bipush (-9), 2) := by decide +kernel
theorem dX9_addColumn_19 : decode cX9_addColumn 19 = .ok (.bipush 9, 2) := by decide +kernel
theorem dX9_addColumn_21 : decode cX9_addColumn 21 = .ok (.invokestatic 175, 3) := by decide +kernel
theorem dX9_addColumn_24 : decode cX9_addColumn 24 = .ok (.ifCond .eq 13, 3) := by decide +kernel
theorem dX9_addColumn_27 : decode cX9_addColumn 27 = .ok (.iload_n 3, 1) := by decide +kernel
theorem dX9_addColumn_28 : decode cX9_addColumn 28 = .ok (.iload_n 2, 1) := by decide +kernel
theorem dX9_addColumn_29 : decode cX9_addColumn 29 = .ok (.bipush 9, 2) := by decide +kernel
theorem dX9_addColumn_31 : decode cX9_addColumn 31 = .ok (.invokestatic 175, 3) := by decide +kernel
theorem dX9_addColumn_34 : decode cX9_addColumn 34 = .ok (.ifCond .ne 9, 3) := by decide +kernel
theorem dX9_addColumn_43 : decode cX9_addColumn 43 = .ok (.aload_n 0, 1) := by decide +kernel
theorem dX9_addColumn_44 : decode cX9_addColumn 44 = .ok (.getfield 142, 3) := by decide +kernel
theorem dX9_addColumn_47 : decode cX9_addColumn 47 = .ok (.iconst 4, 1) := by decide +kernel
theorem dX9_addColumn_48 : decode cX9_addColumn 48 = .ok (.if_icmp .eq 17, 3) := by decide +kernel
theorem dX9_addColumn_51 : decode cX9_addColumn 51 = .ok (.aload_n 0, 1) := by decide +kernel
theorem dX9_addColumn_52 : decode cX9_addColumn 52 = .ok (.getfield 183, 3) := by decide +kernel
theorem dX9_addColumn_55 : decode cX9_addColumn 55 = .ok (.ifCond .gt 10, 3) := by decide +kernel
theorem dX9_addColumn_58 : decode cX9_addColumn 58 = .ok (.aload_n 0, 1) := by decide +kernel
theorem dX9_addColumn_59 : decode cX9_addColumn 59 = .ok (.getfield 186, 3) := by decide +kernel
theorem dX9_addColumn_62 : decode cX9_addColumn 62 = .ok (.ifCond .le 9, 3) := by decide +kernel
theorem dX9_addColumn_71 : decode cX9_addColumn 71 = .ok (.aload_n 0, 1) := by decide +kernel
theorem dX9_addColumn_72 : decode cX9_addColumn 72 = .ok (.getfield 9, 3) := by decide +kernel
theorem dX9_addColumn_75 : decode cX9_addColumn 75 = .ok (.aload_n 0, 1) := by decide +kernel
theorem dX9_addColumn_76 : decode cX9_addColumn 76 = .ok (.getfield 142, 3) := by decide +kernel
theorem dX9_addColumn_79 : decode cX9_addColumn 79 = .ok (.iload_n 1, 1) := by decide +kernel
theorem dX9_addColumn_80 : decode cX9_addColumn 80 = .ok (.iastore, 1) := by decide +kernel
theorem dX9_addColumn_81 : decode cX9_addColumn 81 = .ok (.aload_n 0, 1) := by decide +kernel
theorem dX9_addColumn_82 : decode cX9_addColumn 82 = .ok (.getfield 13, 3) := by decide +kernel
theorem dX9_addColumn_85 : decode cX9_addColumn 85 = .ok (.aload_n 0, 1) := by decide +kernel
theorem dX9_addColumn_86 : decode cX9_addColumn 86 = .ok (.getfield 142, 3) := by decide +kernel
theorem dX9_addColumn_89 : decode cX9_addColumn 89 = .ok (.iload_n 2, 1) := by decide +kernel
theorem dX9_addColumn_90 : decode cX9_addColumn 90 = .ok (.iastore, 1) := by decide +kernel
theorem dX9_addColumn_91 : decode cX9_addColumn 91 = .ok (.aload_n 0, 1) := by decide +kernel
theorem dX9_addColumn_92 : decode cX9_addColumn 92 = .ok (.getfield 16, 3) := by decide +kernel
theorem dX9_addColumn_95 : decode cX9_addColumn 95 = .ok (.aload_n 0, 1) := by decide +kernel
theorem dX9_addColumn_96 : decode cX9_addColumn 96 = .ok (.getfield 142, 3) := by decide +kernel
theorem dX9_addColumn_99 : decode cX9_addColumn 99 = .ok (.iload_n 3, 1) := by decide +kernel
theorem dX9_addColumn_100 : decode cX9_addColumn 100 = .ok (.iastore, 1) := by decide +kernel
theorem dX9_addColumn_101 : decode cX9_addColumn 101 = .ok (.aload_n 0, 1) := by decide +kernel
theorem dX9_addColumn_102 : decode cX9_addColumn 102 = .ok (.getfield 19, 3) := by decide +kernel
theorem dX9_addColumn_105 : decode cX9_addColumn 105 = .ok (.aload_n 0, 1) := by decide +kernel
theorem dX9_addColumn_106 : decode cX9_addColumn 106 = .ok (.getfield 142, 3) := by decide +kernel
theorem dX9_addColumn_109 : decode cX9_addColumn 109 = .ok (.iload_n 2, 1) := by decide +kernel
theorem dX9_addColumn_110 : decode cX9_addColumn 110 = .ok (.iastore, 1) := by decide +kernel
theorem dX9_addColumn_111 : decode cX9_addColumn 111 = .ok (.aload_n 0, 1) := by decide +kernel
theorem dX9_addColumn_112 : decode cX9_addColumn 112 = .ok (.getfield 22, 3) := by decide +kernel
theorem dX9_addColumn_115 : decode cX9_addColumn 115 = .ok (.aload_n 0, 1) := by decide +kernel
theorem dX9_addColumn_116 : decode cX9_addColumn 116 = .ok (.getfield 142, 3) := by decide +kernel
theorem dX9_addColumn_119 : decode cX9_addColumn 119 = .ok (.iload_n 3, 1) := by decide +kernel
theorem dX9_addColumn_120 : decode cX9_addColumn 120 = .ok (.iastore, 1) := by decide +kernel
theorem dX9_addColumn_121 : decode cX9_addColumn 121 = .ok (.aload_n 0, 1) := by decide +kernel
theorem dX9_addColumn_122 : decode cX9_addColumn 122 = .ok (.getfield 28, 3) := by decide +kernel
theorem dX9_addColumn_125 : decode cX9_addColumn 125 = .ok (.aload_n 0, 1) := by decide +kernel
theorem dX9_addColumn_126 : decode cX9_addColumn 126 = .ok (.getfield 142, 3) := by decide +kernel
theorem dX9_addColumn_129 : decode cX9_addColumn 129 = .ok (.iload 4, 2) := by decide +kernel
theorem dX9_addColumn_131 : decode cX9_addColumn 131 = .ok (.bastore, 1) := by decide +kernel
theorem dX9_addColumn_132 : decode cX9_addColumn 132 = .ok (.aload_n 0, 1) := by decide +kernel
theorem dX9_addColumn_133 : decode cX9_addColumn 133 = .ok (.dup, 1) := by decide +kernel
theorem dX9_addColumn_134 : decode cX9_addColumn 134 = .ok (.getfield 142, 3) := by decide +kernel
theorem dX9_addColumn_137 : decode cX9_addColumn 137 = .ok (.iconst 1, 1) := by decide +kernel
theorem dX9_addColumn_138 : decode cX9_addColumn 138 = .ok (.iadd, 1) := by decide +kernel
theorem dX9_addColumn_139 : decode cX9_addColumn 139 = .ok (.putfield 142, 3) := by decide +kernel
theorem dX9_addColumn_142 : decode cX9_addColumn 142 = .ok (.aload_n 0, 1) := by decide +kernel
theorem dX9_addColumn_143 : decode cX9_addColumn 143 = .ok (.getfield 142, 3) := by decide +kernel
theorem dX9_addColumn_146 : decode cX9_addColumn 146 = .ok (.iconst 1, 1) := by decide +kernel
theorem dX9_addColumn_147 : decode cX9_addColumn 147 = .ok (.isub, 1) := by decide +kernel
theorem dX9_addColumn_148 : decode cX9_addColumn 148 = .ok (.ireturn, 1) := by decide +kernel
theorem dX9_solve_0 : decode cX9_solve 0 = .ok (.aload_n 0, 1) := by decide +kernel
theorem dX9_solve_1 : decode cX9_solve 1 = .ok (.iconst 0, 1) := by decide +kernel
theorem dX9_solve_2 : decode cX9_solve 2 = .ok (.putfield 120, 3) := by decide +kernel
theorem dX9_solve_5 : decode cX9_solve 5 = .ok (.iload_n 1, 1) := by decide +kernel
theorem dX9_solve_6 : decode cX9_solve 6 = .ok (.iconst 1, 1) := by decide +kernel
theorem dX9_solve_7 : decode cX9_solve 7 = .ok (.bipush 41, 2) := by decide +kernel
theorem dX9_solve_9 : decode cX9_solve 9 = .ok (.invokestatic 175, 3) := by decide +kernel
theorem dX9_solve_12 : decode cX9_solve 12 = .ok (.ifCond .ne 9, 3) := by decide +kernel
theorem dX9_solve_21 : decode cX9_solve 21 = .ok (.aload_n 0, 1) := by decide +kernel
theorem dX9_solve_22 : decode cX9_solve 22 = .ok (.getfield 186, 3) := by decide +kernel
theorem dX9_solve_25 : decode cX9_solve 25 = .ok (.ifCond .ne 9, 3) := by decide +kernel
theorem dX9_solve_28 : decode cX9_solve 28 = .ok (.aload_n 0, 1) := by decide +kernel
theorem dX9_solve_29 : decode cX9_solve 29 = .ok (.iconst 2, 1) := by decide +kernel
theorem dX9_solve_30 : decode cX9_solve 30 = .ok (.invokevirtual 179, 3) := by decide +kernel
theorem dX9_solve_33 : decode cX9_solve 33 = .ok (.ireturn, 1) := by decide +kernel
theorem dX9_solve_15 : decode cX9_solve 15 = .ok (.aload_n 0, 1) := by decide +kernel
theorem dX9_solve_16 : decode cX9_solve 16 = .ok (.iconst 1, 1) := by decide +kernel
theorem dX9_solve_17 : decode cX9_solve 17 = .ok (.invokevirtual 179, 3) := by decide +kernel
theorem dX9_solve_20 : decode cX9_solve 20 = .ok (.ireturn, 1) := by decide +kernel
theorem dX9_begin_0 : decode cX9_begin 0 = .ok (.aload_n 0, 1) := by decide +kernel
theorem dX9_begin_1 : decode cX9_begin 1 = .ok (.iconst 0, 1) := by decide +kernel
theorem dX9_begin_2 : decode cX9_begin 2 = .ok (.putfield 120, 3) := by decide +kernel
theorem dX9_begin_41 : decode cX9_begin 41 = .ok (.aload_n 0, 1) := by decide +kernel
theorem dX9_begin_42 : decode cX9_begin 42 = .ok (.getfield 142, 3) := by decide +kernel
theorem dX9_begin_45 : decode cX9_begin 45 = .ok (.ifCond .ne 9, 3) := by decide +kernel
theorem dX9_begin_48 : decode cX9_begin 48 = .ok (.aload_n 0, 1) := by decide +kernel
theorem dX9_begin_49 : decode cX9_begin 49 = .ok (.iconst 2, 1) := by decide +kernel
theorem dX9_begin_50 : decode cX9_begin 50 = .ok (.invokevirtual 179, 3) := by decide +kernel
theorem dX9_begin_53 : decode cX9_begin 53 = .ok (.ireturn, 1) := by decide +kernel
theorem dX9_begin_17 : decode cX9_begin 17 = .ok (.iload_n 2, 1) := by decide +kernel
theorem dX9_begin_18 : decode cX9_begin 18 = .ok (.bipush 102, 2) := by decide +kernel
theorem dX9_begin_20 : decode cX9_begin 20 = .ok (.if_icmp .eq 21, 3) := by decide +kernel
theorem dX9_begin_23 : decode cX9_begin 23 = .ok (.iload_n 2, 1) := by decide +kernel
theorem dX9_begin_24 : decode cX9_begin 24 = .ok (.bipush 104, 2) := by decide +kernel
theorem dX9_begin_26 : decode cX9_begin 26 = .ok (.if_icmp .eq 15, 3) := by decide +kernel
theorem dX9_begin_29 : decode cX9_begin 29 = .ok (.iload_n 2, 1) := by decide +kernel
theorem dX9_begin_30 : decode cX9_begin 30 = .ok (.bipush 108, 2) := by decide +kernel
theorem dX9_begin_32 : decode cX9_begin 32 = .ok (.if_icmp .eq 9, 3) := by decide +kernel
theorem dX9_begin_35 : decode cX9_begin 35 = .ok (.aload_n 0, 1) := by decide +kernel
theorem dX9_begin_36 : decode cX9_begin 36 = .ok (.iconst 1, 1) := by decide +kernel
theorem dX9_begin_37 : decode cX9_begin 37 = .ok (.invokevirtual 179, 3) := by decide +kernel
theorem dX9_begin_40 : decode cX9_begin 40 = .ok (.ireturn, 1) := by decide +kernel
theorem dX9_begin_5 : decode cX9_begin 5 = .ok (.iload_n 1, 1) := by decide +kernel
theorem dX9_begin_6 : decode cX9_begin 6 = .ok (.bipush 98, 2) := by decide +kernel
theorem dX9_begin_8 : decode cX9_begin 8 = .ok (.if_icmp .eq 9, 3) := by decide +kernel
theorem dX9_begin_11 : decode cX9_begin 11 = .ok (.iload_n 1, 1) := by decide +kernel
theorem dX9_begin_12 : decode cX9_begin 12 = .ok (.bipush 100, 2) := by decide +kernel
theorem dX9_begin_14 : decode cX9_begin 14 = .ok (.if_icmp .ne 21, 3) := by decide +kernel
theorem dX9_addRow_0 : decode cX9_addRow 0 = .ok (.aload_n 0, 1) := by decide +kernel
theorem dX9_addRow_1 : decode cX9_addRow 1 = .ok (.iconst 0, 1) := by decide +kernel
theorem dX9_addRow_2 : decode cX9_addRow 2 = .ok (.putfield 120, 3) := by decide +kernel
theorem dX9_addRow_5 : decode cX9_addRow 5 = .ok (.iconst 4, 1) := by decide +kernel
theorem dX9_addRow_6 : decode cX9_addRow 6 = .ok (.newarray .int, 2) := by decide +kernel
theorem dX9_addRow_8 : decode cX9_addRow 8 = .ok (.dup, 1) := by decide +kernel
theorem dX9_addRow_9 : decode cX9_addRow 9 = .ok (.iconst 0, 1) := by decide +kernel
theorem dX9_addRow_10 : decode cX9_addRow 10 = .ok (.iload_n 3, 1) := by decide +kernel
theorem dX9_addRow_11 : decode cX9_addRow 11 = .ok (.iastore, 1) := by decide +kernel
theorem dX9_addRow_12 : decode cX9_addRow 12 = .ok (.dup, 1) := by decide +kernel
theorem dX9_addRow_13 : decode cX9_addRow 13 = .ok (.iconst 1, 1) := by decide +kernel
theorem dX9_addRow_14 : decode cX9_addRow 14 = .ok (.iload 4, 2) := by decide +kernel
theorem dX9_addRow_16 : decode cX9_addRow 16 = .ok (.iastore, 1) := by decide +kernel
theorem dX9_addRow_17 : decode cX9_addRow 17 = .ok (.dup, 1) := by decide +kernel
theorem dX9_addRow_18 : decode cX9_addRow 18 = .ok (.iconst 2, 1) := by decide +kernel
theorem dX9_addRow_19 : decode cX9_addRow 19 = .ok (.iload 5, 2) := by decide +kernel
theorem dX9_addRow_21 : decode cX9_addRow 21 = .ok (.iastore, 1) := by decide +kernel
theorem dX9_addRow_22 : decode cX9_addRow 22 = .ok (.dup, 1) := by decide +kernel
theorem dX9_addRow_23 : decode cX9_addRow 23 = .ok (.iconst 3, 1) := by decide +kernel
theorem dX9_addRow_24 : decode cX9_addRow 24 = .ok (.iload 6, 2) := by decide +kernel
theorem dX9_addRow_26 : decode cX9_addRow 26 = .ok (.iastore, 1) := by decide +kernel
theorem dX9_addRow_27 : decode cX9_addRow 27 = .ok (.astore 7, 2) := by decide +kernel
theorem dX9_addRow_63 : decode cX9_addRow 63 = .ok (.istore 8, 2) := by decide +kernel
theorem dX9_addRow_65 : decode cX9_addRow 65 = .ok (.iconst 0, 1) := by decide +kernel
theorem dX9_addRow_66 : decode cX9_addRow 66 = .ok (.istore 9, 2) := by decide +kernel
theorem dX9_addRow_68 : decode cX9_addRow 68 = .ok (.iload 9, 2) := by decide +kernel
theorem dX9_addRow_70 : decode cX9_addRow 70 = .ok (.iconst 4, 1) := by decide +kernel
theorem dX9_addRow_71 : decode cX9_addRow 71 = .ok (.if_icmp .ge 50, 3) := by decide +kernel
theorem dX9_addRow_74 : decode cX9_addRow 74 = .ok (.iload 8, 2) := by decide +kernel
theorem dX9_addRow_112 : decode cX9_addRow 112 = .ok (.ior, 1) := by decide +kernel
theorem dX9_addRow_113 : decode cX9_addRow 113 = .ok (.istore 8, 2) := by decide +kernel
theorem dX9_addRow_115 : decode cX9_addRow 115 = .ok (.iinc 9 1, 3) := by decide +kernel
theorem dX9_addRow_118 : decode cX9_addRow 118 = .ok (.goto (-50), 3) := by decide +kernel
theorem dX9_addRow_121 : decode cX9_addRow 121 = .ok (.iload 8, 2) := by decide +kernel
theorem dX9_addRow_123 : decode cX9_addRow 123 = .ok (.ifCond .eq 9, 3) := by decide +kernel
theorem dX9_addRow_132 : decode cX9_addRow 132 = .ok (.aload_n 0, 1) := by decide +kernel
theorem dX9_addRow_133 : decode cX9_addRow 133 = .ok (.getfield 183, 3) := by decide +kernel
theorem dX9_addRow_136 : decode cX9_addRow 136 = .ok (.bipush 8, 2) := by decide +kernel
theorem dX9_addRow_138 : decode cX9_addRow 138 = .ok (.if_icmp .ne 9, 3) := by decide +kernel
theorem dX9_addRow_147 : decode cX9_addRow 147 = .ok (.iconst 0, 1) := by decide +kernel
theorem dX9_addRow_148 : decode cX9_addRow 148 = .ok (.istore 9, 2) := by decide +kernel
theorem dX9_addRow_150 : decode cX9_addRow 150 = .ok (.iload 9, 2) := by decide +kernel
theorem dX9_addRow_152 : decode cX9_addRow 152 = .ok (.iconst 4, 1) := by decide +kernel
theorem dX9_addRow_153 : decode cX9_addRow 153 = .ok (.if_icmp .ge 26, 3) := by decide +kernel
theorem dX9_addRow_156 : decode cX9_addRow 156 = .ok (.aload_n 0, 1) := by decide +kernel
theorem dX9_addRow_157 : decode cX9_addRow 157 = .ok (.getfield 34, 3) := by decide +kernel
theorem dX9_addRow_160 : decode cX9_addRow 160 = .ok (.aload_n 0, 1) := by decide +kernel
theorem dX9_addRow_161 : decode cX9_addRow 161 = .ok (.getfield 183, 3) := by decide +kernel
theorem dX9_addRow_164 : decode cX9_addRow 164 = .ok (.aaload, 1) := by decide +kernel
theorem dX9_addRow_165 : decode cX9_addRow 165 = .ok (.iload 9, 2) := by decide +kernel
theorem dX9_addRow_167 : decode cX9_addRow 167 = .ok (.aload 7, 2) := by decide +kernel
theorem dX9_addRow_169 : decode cX9_addRow 169 = .ok (.iload 9, 2) := by decide +kernel
theorem dX9_addRow_171 : decode cX9_addRow 171 = .ok (.iaload, 1) := by decide +kernel
theorem dX9_addRow_172 : decode cX9_addRow 172 = .ok (.iastore, 1) := by decide +kernel
theorem dX9_addRow_173 : decode cX9_addRow 173 = .ok (.iinc 9 1, 3) := by decide +kernel
theorem dX9_addRow_176 : decode cX9_addRow 176 = .ok (.goto (-26), 3) := by decide +kernel
theorem dX9_addRow_179 : decode cX9_addRow 179 = .ok (.aload_n 0, 1) := by decide +kernel
theorem dX9_addRow_180 : decode cX9_addRow 180 = .ok (.getfield 25, 3) := by decide +kernel
theorem dX9_addRow_183 : decode cX9_addRow 183 = .ok (.aload_n 0, 1) := by decide +kernel
theorem dX9_addRow_184 : decode cX9_addRow 184 = .ok (.getfield 183, 3) := by decide +kernel
theorem dX9_addRow_187 : decode cX9_addRow 187 = .ok (.iload_n 2, 1) := by decide +kernel
theorem dX9_addRow_188 : decode cX9_addRow 188 = .ok (.iastore, 1) := by decide +kernel
theorem dX9_addRow_189 : decode cX9_addRow 189 = .ok (.aload_n 0, 1) := by decide +kernel
theorem dX9_addRow_190 : decode cX9_addRow 190 = .ok (.getfield 37, 3) := by decide +kernel
theorem dX9_addRow_193 : decode cX9_addRow 193 = .ok (.aload_n 0, 1) := by decide +kernel
theorem dX9_addRow_194 : decode cX9_addRow 194 = .ok (.getfield 183, 3) := by decide +kernel
theorem dX9_addRow_197 : decode cX9_addRow 197 = .ok (.iload_n 1, 1) := by decide +kernel
theorem dX9_addRow_198 : decode cX9_addRow 198 = .ok (.castore, 1) := by decide +kernel
theorem dX9_addRow_199 : decode cX9_addRow 199 = .ok (.aload_n 0, 1) := by decide +kernel
theorem dX9_addRow_200 : decode cX9_addRow 200 = .ok (.dup, 1) := by decide +kernel
theorem dX9_addRow_201 : decode cX9_addRow 201 = .ok (.getfield 183, 3) := by decide +kernel
theorem dX9_addRow_204 : decode cX9_addRow 204 = .ok (.iconst 1, 1) := by decide +kernel
theorem dX9_addRow_205 : decode cX9_addRow 205 = .ok (.iadd, 1) := by decide +kernel
theorem dX9_addRow_206 : decode cX9_addRow 206 = .ok (.putfield 183, 3) := by decide +kernel
theorem dX9_addRow_209 : decode cX9_addRow 209 = .ok (.aload_n 0, 1) := by decide +kernel
theorem dX9_addRow_210 : decode cX9_addRow 210 = .ok (.getfield 186, 3) := by decide +kernel
theorem dX9_addRow_213 : decode cX9_addRow 213 = .ok (.ifCond .le 7, 3) := by decide +kernel
theorem dX9_addRow_220 : decode cX9_addRow 220 = .ok (.aload_n 0, 1) := by decide +kernel
theorem dX9_addRow_221 : decode cX9_addRow 221 = .ok (.getfield 183, 3) := by decide +kernel
theorem dX9_addRow_224 : decode cX9_addRow 224 = .ok (.iconst 1, 1) := by decide +kernel
theorem dX9_addRow_225 : decode cX9_addRow 225 = .ok (.isub, 1) := by decide +kernel
theorem dX9_addRow_226 : decode cX9_addRow 226 = .ok (.ireturn, 1) := by decide +kernel
theorem dX9_addRow_126 : decode cX9_addRow 126 = .ok (.aload_n 0, 1) := by decide +kernel
theorem dX9_addRow_127 : decode cX9_addRow 127 = .ok (.iconst 1, 1) := by decide +kernel
theorem dX9_addRow_128 : decode cX9_addRow 128 = .ok (.invokevirtual 179, 3) := by decide +kernel
theorem dX9_addRow_131 : decode cX9_addRow 131 = .ok (.ireturn, 1) := by decide +kernel
theorem dX9_addRow_76 : decode cX9_addRow 76 = .ok (.aload 7, 2) := by decide +kernel
theorem dX9_addRow_78 : decode cX9_addRow 78 = .ok (.iload 9, 2) := by decide +kernel
theorem dX9_addRow_80 : decode cX9_addRow 80 = .ok (.iaload, 1) := by decide +kernel
theorem dX9_addRow_81 : decode cX9_addRow 81 = .ok (.bipush (-5), 2) := by decide +kernel
theorem dX9_addRow_83 : decode cX9_addRow 83 = .ok (.iconst 5, 1) := by decide +kernel
theorem dX9_addRow_84 : decode cX9_addRow 84 = .ok (.invokestatic 175, 3) := by decide +kernel
theorem dX9_addRow_87 : decode cX9_addRow 87 = .ok (.ifCond .eq 20, 3) := by decide +kernel
theorem dX9_addRow_107 : decode cX9_addRow 107 = .ok (.iconst 1, 1) := by decide +kernel
theorem dX9_addRow_108 : decode cX9_addRow 108 = .ok (.goto 4, 3) := by decide +kernel
theorem dX9_addRow_90 : decode cX9_addRow 90 = .ok (.aload 7, 2) := by decide +kernel
theorem dX9_addRow_92 : decode cX9_addRow 92 = .ok (.iload 9, 2) := by decide +kernel
theorem dX9_addRow_94 : decode cX9_addRow 94 = .ok (.iaload, 1) := by decide +kernel
theorem dX9_addRow_95 : decode cX9_addRow 95 = .ok (.ifCond .eq 16, 3) := by decide +kernel
theorem dX9_addRow_111 : decode cX9_addRow 111 = .ok (.iconst 0, 1) := by decide +kernel
theorem dX9_addRow_98 : decode cX9_addRow 98 = .ok (.iload 9, 2) := by decide +kernel
theorem dX9_addRow_100 : decode cX9_addRow 100 = .ok (.aload_n 0, 1) := by decide +kernel
theorem dX9_addRow_101 : decode cX9_addRow 101 = .ok (.getfield 142, 3) := by decide +kernel
theorem dX9_addRow_104 : decode cX9_addRow 104 = .ok (.if_icmp .lt 7, 3) := by decide +kernel
theorem dX9_addRow_29 : decode cX9_addRow 29 = .ok (.iload_n 1, 1) := by decide +kernel
theorem dX9_addRow_30 : decode cX9_addRow 30 = .ok (.bipush 108, 2) := by decide +kernel
theorem dX9_addRow_32 : decode cX9_addRow 32 = .ok (.if_icmp .eq 15, 3) := by decide +kernel
theorem dX9_addRow_47 : decode cX9_addRow 47 = .ok (.iload_n 2, 1) := by decide +kernel
theorem dX9_addRow_48 : decode cX9_addRow 48 = .ok (.bipush (-99), 2) := by decide +kernel
theorem dX9_addRow_50 : decode cX9_addRow 50 = .ok (.bipush 99, 2) := by decide +kernel
theorem dX9_addRow_52 : decode cX9_addRow 52 = .ok (.invokestatic 175, 3) := by decide +kernel
theorem dX9_addRow_55 : decode cX9_addRow 55 = .ok (.ifCond .ne 7, 3) := by decide +kernel
theorem dX9_addRow_62 : decode cX9_addRow 62 = .ok (.iconst 0, 1) := by decide +kernel
theorem dX9_addRow_58 : decode cX9_addRow 58 = .ok (.iconst 1, 1) := by decide +kernel
theorem dX9_addRow_59 : decode cX9_addRow 59 = .ok (.goto 4, 3) := by decide +kernel
theorem dX9_addRow_35 : decode cX9_addRow 35 = .ok (.iload_n 1, 1) := by decide +kernel
theorem dX9_addRow_36 : decode cX9_addRow 36 = .ok (.bipush 103, 2) := by decide +kernel
theorem dX9_addRow_38 : decode cX9_addRow 38 = .ok (.if_icmp .eq 9, 3) := by decide +kernel
theorem dX9_addRow_41 : decode cX9_addRow 41 = .ok (.iload_n 1, 1) := by decide +kernel
theorem dX9_addRow_42 : decode cX9_addRow 42 = .ok (.bipush 101, 2) := by decide +kernel
theorem dX9_addRow_44 : decode cX9_addRow 44 = .ok (.if_icmp .ne 14, 3) := by decide +kernel
theorem dX9_gap_0 : decode cX9_gap 0 = .ok (.aload_n 0, 1) := by decide +kernel
theorem dX9_gap_1 : decode cX9_gap 1 = .ok (.iconst 0, 1) := by decide +kernel
theorem dX9_gap_2 : decode cX9_gap 2 = .ok (.putfield 120, 3) := by decide +kernel
theorem dX9_gap_5 : decode cX9_gap 5 = .ok (.aload_n 0, 1) := by decide +kernel
theorem dX9_gap_6 : decode cX9_gap 6 = .ok (.getfield 192, 3) := by decide +kernel
theorem dX9_gap_9 : decode cX9_gap 9 = .ok (.ifCond .eq 12, 3) := by decide +kernel
theorem dX9_gap_21 : decode cX9_gap 21 = .ok (.aload_n 0, 1) := by decide +kernel
theorem dX9_gap_22 : decode cX9_gap 22 = .ok (.iconst 1, 1) := by decide +kernel
theorem dX9_gap_23 : decode cX9_gap 23 = .ok (.invokevirtual 179, 3) := by decide +kernel
theorem dX9_gap_26 : decode cX9_gap 26 = .ok (.i2f, 1) := by decide +kernel
theorem dX9_gap_27 : decode cX9_gap 27 = .ok (.freturn, 1) := by decide +kernel
theorem dX9_meanDepth_0 : decode cX9_meanDepth 0 = .ok (.aload_n 0, 1) := by decide +kernel
theorem dX9_meanDepth_1 : decode cX9_meanDepth 1 = .ok (.iconst 0, 1) := by decide +kernel
theorem dX9_meanDepth_2 : decode cX9_meanDepth 2 = .ok (.putfield 120, 3) := by decide +kernel
theorem dX9_meanDepth_5 : decode cX9_meanDepth 5 = .ok (.aload_n 0, 1) := by decide +kernel
theorem dX9_meanDepth_6 : decode cX9_meanDepth 6 = .ok (.getfield 186, 3) := by decide +kernel
theorem dX9_meanDepth_9 : decode cX9_meanDepth 9 = .ok (.ifCond .ne 10, 3) := by decide +kernel
theorem dX9_meanDepth_12 : decode cX9_meanDepth 12 = .ok (.aload_n 0, 1) := by decide +kernel
theorem dX9_meanDepth_13 : decode cX9_meanDepth 13 = .ok (.iconst 1, 1) := by decide +kernel
theorem dX9_meanDepth_14 : decode cX9_meanDepth 14 = .ok (.invokevirtual 179, 3) := by decide +kernel
theorem dX9_meanDepth_17 : decode cX9_meanDepth 17 = .ok (.i2d, 1) := by decide +kernel
theorem dX9_meanDepth_18 : decode cX9_meanDepth 18 = .ok (.dreturn, 1) := by decide +kernel
theorem dL_addColumn_0 : decode cL_addColumn 0 = .ok (.aload 5, 2) := by decide +kernel
theorem dL_addColumn_2 : decode cL_addColumn 2 = .ok (.iconst 0, 1) := by decide +kernel
theorem dL_addColumn_3 : decode cL_addColumn 3 = .ok (.aload_n 0, 1) := by decide +kernel
theorem dL_addColumn_4 : decode cL_addColumn 4 = .ok (.iload_n 1, 1) := by decide +kernel
theorem dL_addColumn_5 : decode cL_addColumn 5 = .ok (.iload_n 2, 1) := by decide +kernel
theorem dL_addColumn_6 : decode cL_addColumn 6 = .ok (.iload_n 3, 1) := by decide +kernel
theorem dL_addColumn_7 : decode cL_addColumn 7 = .ok (.iload 4, 2) := by decide +kernel
theorem dL_addColumn_9 : decode cL_addColumn 9 = .ok (.invokevirtual 7, 3) := by decide +kernel
theorem dL_addColumn_17 : decode cL_addColumn 17 = .ok (.astore 6, 2) := by decide +kernel
theorem dL_addColumn_19 : decode cL_addColumn 19 = .ok (.iconst 1, 1) := by decide +kernel
theorem dL_addColumn_20 : decode cL_addColumn 20 = .ok (.ireturn, 1) := by decide +kernel
theorem dL_addColumn_12 : decode cL_addColumn 12 = .ok (.i2l, 1) := by decide +kernel
theorem dL_addColumn_13 : decode cL_addColumn 13 = .ok (.lastore, 1) := by decide +kernel
theorem dL_addColumn_14 : decode cL_addColumn 14 = .ok (.goto 11, 3) := by decide +kernel
theorem dL_addColumn_25 : decode cL_addColumn 25 = .ok (.iconst 0, 1) := by decide +kernel
theorem dL_addColumn_26 : decode cL_addColumn 26 = .ok (.ireturn, 1) := by decide +kernel
theorem dL_addRow_0 : decode cL_addRow 0 = .ok (.aload 7, 2) := by decide +kernel
theorem dL_addRow_2 : decode cL_addRow 2 = .ok (.iconst 0, 1) := by decide +kernel
theorem dL_addRow_3 : decode cL_addRow 3 = .ok (.aload_n 0, 1) := by decide +kernel
theorem dL_addRow_4 : decode cL_addRow 4 = .ok (.iload_n 1, 1) := by decide +kernel
theorem dL_addRow_5 : decode cL_addRow 5 = .ok (.iload_n 2, 1) := by decide +kernel
theorem dL_addRow_6 : decode cL_addRow 6 = .ok (.iload_n 3, 1) := by decide +kernel
theorem dL_addRow_7 : decode cL_addRow 7 = .ok (.iload 4, 2) := by decide +kernel
theorem dL_addRow_9 : decode cL_addRow 9 = .ok (.iload 5, 2) := by decide +kernel
theorem dL_addRow_11 : decode cL_addRow 11 = .ok (.iload 6, 2) := by decide +kernel
theorem dL_addRow_13 : decode cL_addRow 13 = .ok (.invokevirtual 17, 3) := by decide +kernel
theorem dL_addRow_21 : decode cL_addRow 21 = .ok (.astore 8, 2) := by decide +kernel
theorem dL_addRow_23 : decode cL_addRow 23 = .ok (.iconst 1, 1) := by decide +kernel
theorem dL_addRow_24 : decode cL_addRow 24 = .ok (.ireturn, 1) := by decide +kernel
theorem dL_addRow_16 : decode cL_addRow 16 = .ok (.i2l, 1) := by decide +kernel
theorem dL_addRow_17 : decode cL_addRow 17 = .ok (.lastore, 1) := by decide +kernel
theorem dL_addRow_18 : decode cL_addRow 18 = .ok (.goto 11, 3) := by decide +kernel
theorem dL_addRow_29 : decode cL_addRow 29 = .ok (.iconst 0, 1) := by decide +kernel
theorem dL_addRow_30 : decode cL_addRow 30 = .ok (.ireturn, 1) := by decide +kernel
theorem dL_age_0 : decode cL_age 0 = .ok (.aload_n 2, 1) := by decide +kernel
theorem dL_age_1 : decode cL_age 1 = .ok (.iconst 0, 1) := by decide +kernel
theorem dL_age_2 : decode cL_age 2 = .ok (.aload_n 0, 1) := by decide +kernel
theorem dL_age_3 : decode cL_age 3 = .ok (.iload_n 1, 1) := by decide +kernel
theorem dL_age_4 : decode cL_age 4 = .ok (.invokevirtual 114, 3) := by decide +kernel
theorem dL_age_12 : decode cL_age 12 = .ok (.astore_n 3, 1) := by decide +kernel
theorem dL_age_13 : decode cL_age 13 = .ok (.iconst 1, 1) := by decide +kernel
theorem dL_age_14 : decode cL_age 14 = .ok (.ireturn, 1) := by decide +kernel
theorem dL_areAlike_0 : decode cL_areAlike 0 = .ok (.aload_n 3, 1) := by decide +kernel
theorem dL_areAlike_1 : decode cL_areAlike 1 = .ok (.iconst 0, 1) := by decide +kernel
theorem dL_areAlike_2 : decode cL_areAlike 2 = .ok (.aload_n 0, 1) := by decide +kernel
theorem dL_areAlike_3 : decode cL_areAlike 3 = .ok (.iload_n 1, 1) := by decide +kernel
theorem dL_areAlike_4 : decode cL_areAlike 4 = .ok (.iload_n 2, 1) := by decide +kernel
theorem dL_areAlike_5 : decode cL_areAlike 5 = .ok (.invokevirtual 36, 3) := by decide +kernel
theorem dL_areAlike_20 : decode cL_areAlike 20 = .ok (.astore 4, 2) := by decide +kernel
theorem dL_areAlike_22 : decode cL_areAlike 22 = .ok (.iconst 1, 1) := by decide +kernel
theorem dL_areAlike_23 : decode cL_areAlike 23 = .ok (.ireturn, 1) := by decide +kernel
theorem dL_begin_0 : decode cL_begin 0 = .ok (.aload_n 3, 1) := by decide +kernel
theorem dL_begin_1 : decode cL_begin 1 = .ok (.iconst 0, 1) := by decide +kernel
theorem dL_begin_2 : decode cL_begin 2 = .ok (.aload_n 0, 1) := by decide +kernel
theorem dL_begin_3 : decode cL_begin 3 = .ok (.iload_n 1, 1) := by decide +kernel
theorem dL_begin_4 : decode cL_begin 4 = .ok (.iload_n 2, 1) := by decide +kernel
theorem dL_begin_5 : decode cL_begin 5 = .ok (.invokevirtual 45, 3) := by decide +kernel
theorem dL_begin_13 : decode cL_begin 13 = .ok (.astore 4, 2) := by decide +kernel
theorem dL_begin_15 : decode cL_begin 15 = .ok (.iconst 1, 1) := by decide +kernel
theorem dL_begin_16 : decode cL_begin 16 = .ok (.ireturn, 1) := by decide +kernel
theorem dL_begin_17 : decode cL_begin 17 = .ok (.astore 4, 2) := by decide +kernel
theorem dL_begin_19 : decode cL_begin 19 = .ok (.iconst 2, 1) := by decide +kernel
theorem dL_begin_20 : decode cL_begin 20 = .ok (.ireturn, 1) := by decide +kernel
theorem dL_best_0 : decode cL_best 0 = .ok (.aload_n 1, 1) := by decide +kernel
theorem dL_best_1 : decode cL_best 1 = .ok (.iconst 0, 1) := by decide +kernel
theorem dL_best_2 : decode cL_best 2 = .ok (.aload_n 0, 1) := by decide +kernel
theorem dL_best_3 : decode cL_best 3 = .ok (.invokevirtual 86, 3) := by decide +kernel
theorem dL_best_10 : decode cL_best 10 = .ok (.astore_n 2, 1) := by decide +kernel
theorem dL_best_11 : decode cL_best 11 = .ok (.iconst 1, 1) := by decide +kernel
theorem dL_best_12 : decode cL_best 12 = .ok (.ireturn, 1) := by decide +kernel
theorem dL_bestByAll_0 : decode cL_bestByAll 0 = .ok (.aload_n 1, 1) := by decide +kernel
theorem dL_bestByAll_1 : decode cL_bestByAll 1 = .ok (.iconst 0, 1) := by decide +kernel
theorem dL_bestByAll_2 : decode cL_bestByAll 2 = .ok (.aload_n 0, 1) := by decide +kernel
theorem dL_bestByAll_3 : decode cL_bestByAll 3 = .ok (.invokevirtual 92, 3) := by decide +kernel
theorem dL_bestByAll_6 : decode cL_bestByAll 6 = .ok (.i2l, 1) := by decide +kernel
theorem dL_bestByAll_7 : decode cL_bestByAll 7 = .ok (.lastore, 1) := by decide +kernel
theorem dL_bestByAll_8 : decode cL_bestByAll 8 = .ok (.goto 9, 3) := by decide +kernel
theorem dL_bestByAll_17 : decode cL_bestByAll 17 = .ok (.iconst 0, 1) := by decide +kernel
theorem dL_bestByAll_18 : decode cL_bestByAll 18 = .ok (.ireturn, 1) := by decide +kernel
theorem dL_bound_0 : decode cL_bound 0 = .ok (.aload_n 1, 1) := by decide +kernel
theorem dL_bound_1 : decode cL_bound 1 = .ok (.iconst 0, 1) := by decide +kernel
theorem dL_bound_2 : decode cL_bound 2 = .ok (.aload_n 0, 1) := by decide +kernel
theorem dL_bound_3 : decode cL_bound 3 = .ok (.invokevirtual 74, 3) := by decide +kernel
theorem dL_bound_10 : decode cL_bound 10 = .ok (.astore_n 2, 1) := by decide +kernel
theorem dL_bound_11 : decode cL_bound 11 = .ok (.iconst 1, 1) := by decide +kernel
theorem dL_bound_12 : decode cL_bound 12 = .ok (.ireturn, 1) := by decide +kernel
theorem dL_coefficient_0 : decode cL_coefficient 0 = .ok (.aload_n 3, 1) := by decide +kernel
theorem dL_coefficient_1 : decode cL_coefficient 1 = .ok (.iconst 0, 1) := by decide +kernel
theorem dL_coefficient_2 : decode cL_coefficient 2 = .ok (.aload_n 0, 1) := by decide +kernel
theorem dL_coefficient_3 : decode cL_coefficient 3 = .ok (.iload_n 1, 1) := by decide +kernel
theorem dL_coefficient_4 : decode cL_coefficient 4 = .ok (.iload_n 2, 1) := by decide +kernel
theorem dL_coefficient_5 : decode cL_coefficient 5 = .ok (.invokevirtual 108, 3) := by decide +kernel
theorem dL_coefficient_13 : decode cL_coefficient 13 = .ok (.astore 4, 2) := by decide +kernel
theorem dL_coefficient_15 : decode cL_coefficient 15 = .ok (.iconst 1, 1) := by decide +kernel
theorem dL_coefficient_16 : decode cL_coefficient 16 = .ok (.ireturn, 1) := by decide +kernel
theorem dL_cutByCover_0 : decode cL_cutByCover 0 = .ok (.aload_n 2, 1) := by decide +kernel
theorem dL_cutByCover_1 : decode cL_cutByCover 1 = .ok (.iconst 0, 1) := by decide +kernel
theorem dL_cutByCover_2 : decode cL_cutByCover 2 = .ok (.aload_n 0, 1) := by decide +kernel
theorem dL_cutByCover_3 : decode cL_cutByCover 3 = .ok (.iload_n 1, 1) := by decide +kernel
theorem dL_cutByCover_4 : decode cL_cutByCover 4 = .ok (.invokevirtual 99, 3) := by decide +kernel
theorem dL_cutByCover_12 : decode cL_cutByCover 12 = .ok (.astore_n 3, 1) := by decide +kernel
theorem dL_cutByCover_13 : decode cL_cutByCover 13 = .ok (.iconst 1, 1) := by decide +kernel
theorem dL_cutByCover_14 : decode cL_cutByCover 14 = .ok (.ireturn, 1) := by decide +kernel
theorem dL_cutByLikeness_0 : decode cL_cutByLikeness 0 = .ok (.aload_n 3, 1) := by decide +kernel
theorem dL_cutByLikeness_1 : decode cL_cutByLikeness 1 = .ok (.iconst 0, 1) := by decide +kernel
theorem dL_cutByLikeness_2 : decode cL_cutByLikeness 2 = .ok (.aload_n 0, 1) := by decide +kernel
theorem dL_cutByLikeness_3 : decode cL_cutByLikeness 3 = .ok (.iload_n 1, 1) := by decide +kernel
theorem dL_cutByLikeness_4 : decode cL_cutByLikeness 4 = .ok (.iload_n 2, 1) := by decide +kernel
theorem dL_cutByLikeness_5 : decode cL_cutByLikeness 5 = .ok (.invokevirtual 102, 3) := by decide +kernel
theorem dL_cutByLikeness_13 : decode cL_cutByLikeness 13 = .ok (.astore 4, 2) := by decide +kernel
theorem dL_cutByLikeness_15 : decode cL_cutByLikeness 15 = .ok (.iconst 1, 1) := by decide +kernel
theorem dL_cutByLikeness_16 : decode cL_cutByLikeness 16 = .ok (.ireturn, 1) := by decide +kernel
theorem dL_cutByRounding_0 : decode cL_cutByRounding 0 = .ok (.aload 4, 2) := by decide +kernel
theorem dL_cutByRounding_2 : decode cL_cutByRounding 2 = .ok (.iconst 0, 1) := by decide +kernel
theorem dL_cutByRounding_3 : decode cL_cutByRounding 3 = .ok (.aload_n 0, 1) := by decide +kernel
theorem dL_cutByRounding_4 : decode cL_cutByRounding 4 = .ok (.iload_n 1, 1) := by decide +kernel
theorem dL_cutByRounding_5 : decode cL_cutByRounding 5 = .ok (.iload_n 2, 1) := by decide +kernel
theorem dL_cutByRounding_6 : decode cL_cutByRounding 6 = .ok (.iload_n 3, 1) := by decide +kernel
theorem dL_cutByRounding_7 : decode cL_cutByRounding 7 = .ok (.invokevirtual 95, 3) := by decide +kernel
theorem dL_cutByRounding_15 : decode cL_cutByRounding 15 = .ok (.astore 5, 2) := by decide +kernel
theorem dL_cutByRounding_17 : decode cL_cutByRounding 17 = .ok (.iconst 1, 1) := by decide +kernel
theorem dL_cutByRounding_18 : decode cL_cutByRounding 18 = .ok (.ireturn, 1) := by decide +kernel
theorem dL_gain_0 : decode cL_gain 0 = .ok (.aload_n 3, 1) := by decide +kernel
theorem dL_gain_1 : decode cL_gain 1 = .ok (.iconst 0, 1) := by decide +kernel
theorem dL_gain_2 : decode cL_gain 2 = .ok (.aload_n 0, 1) := by decide +kernel
theorem dL_gain_3 : decode cL_gain 3 = .ok (.iload_n 1, 1) := by decide +kernel
theorem dL_gain_4 : decode cL_gain 4 = .ok (.iload_n 2, 1) := by decide +kernel
theorem dL_gain_5 : decode cL_gain 5 = .ok (.invokevirtual 117, 3) := by decide +kernel
theorem dL_gain_13 : decode cL_gain 13 = .ok (.astore 4, 2) := by decide +kernel
theorem dL_gain_15 : decode cL_gain 15 = .ok (.iconst 1, 1) := by decide +kernel
theorem dL_gain_16 : decode cL_gain 16 = .ok (.ireturn, 1) := by decide +kernel
theorem dL_gap_0 : decode cL_gap 0 = .ok (.aload_n 1, 1) := by decide +kernel
theorem dL_gap_1 : decode cL_gap 1 = .ok (.iconst 0, 1) := by decide +kernel
theorem dL_gap_2 : decode cL_gap 2 = .ok (.aload_n 0, 1) := by decide +kernel
theorem dL_gap_3 : decode cL_gap 3 = .ok (.invokevirtual 121, 3) := by decide +kernel
theorem dL_gap_11 : decode cL_gap 11 = .ok (.astore_n 2, 1) := by decide +kernel
theorem dL_gap_12 : decode cL_gap 12 = .ok (.iconst 1, 1) := by decide +kernel
theorem dL_gap_13 : decode cL_gap 13 = .ok (.ireturn, 1) := by decide +kernel
theorem dL_kind_0 : decode cL_kind 0 = .ok (.aload_n 2, 1) := by decide +kernel
theorem dL_kind_1 : decode cL_kind 1 = .ok (.iconst 0, 1) := by decide +kernel
theorem dL_kind_2 : decode cL_kind 2 = .ok (.aload_n 0, 1) := by decide +kernel
theorem dL_kind_3 : decode cL_kind 3 = .ok (.iload_n 1, 1) := by decide +kernel
theorem dL_kind_4 : decode cL_kind 4 = .ok (.invokevirtual 105, 3) := by decide +kernel
theorem dL_kind_12 : decode cL_kind 12 = .ok (.astore_n 3, 1) := by decide +kernel
theorem dL_kind_13 : decode cL_kind 13 = .ok (.iconst 1, 1) := by decide +kernel
theorem dL_kind_14 : decode cL_kind 14 = .ok (.ireturn, 1) := by decide +kernel
theorem dL_lower_0 : decode cL_lower 0 = .ok (.aload_n 2, 1) := by decide +kernel
theorem dL_lower_1 : decode cL_lower 1 = .ok (.iconst 0, 1) := by decide +kernel
theorem dL_lower_2 : decode cL_lower 2 = .ok (.aload_n 0, 1) := by decide +kernel
theorem dL_lower_3 : decode cL_lower 3 = .ok (.iload_n 1, 1) := by decide +kernel
theorem dL_lower_4 : decode cL_lower 4 = .ok (.invokevirtual 27, 3) := by decide +kernel
theorem dL_lower_12 : decode cL_lower 12 = .ok (.astore_n 3, 1) := by decide +kernel
theorem dL_lower_13 : decode cL_lower 13 = .ok (.iconst 1, 1) := by decide +kernel
theorem dL_lower_14 : decode cL_lower 14 = .ok (.ireturn, 1) := by decide +kernel
theorem dL_lowerAt_0 : decode cL_lowerAt 0 = .ok (.aload_n 3, 1) := by decide +kernel
theorem dL_lowerAt_1 : decode cL_lowerAt 1 = .ok (.iconst 0, 1) := by decide +kernel
theorem dL_lowerAt_2 : decode cL_lowerAt 2 = .ok (.aload_n 0, 1) := by decide +kernel
theorem dL_lowerAt_3 : decode cL_lowerAt 3 = .ok (.iload_n 1, 1) := by decide +kernel
theorem dL_lowerAt_4 : decode cL_lowerAt 4 = .ok (.iload_n 2, 1) := by decide +kernel
theorem dL_lowerAt_5 : decode cL_lowerAt 5 = .ok (.invokevirtual 59, 3) := by decide +kernel
theorem dL_lowerAt_13 : decode cL_lowerAt 13 = .ok (.astore 4, 2) := by decide +kernel
theorem dL_lowerAt_15 : decode cL_lowerAt 15 = .ok (.iconst 1, 1) := by decide +kernel
theorem dL_lowerAt_16 : decode cL_lowerAt 16 = .ok (.ireturn, 1) := by decide +kernel
theorem dL_meanDepth_0 : decode cL_meanDepth 0 = .ok (.aload_n 1, 1) := by decide +kernel
theorem dL_meanDepth_1 : decode cL_meanDepth 1 = .ok (.iconst 0, 1) := by decide +kernel
theorem dL_meanDepth_2 : decode cL_meanDepth 2 = .ok (.aload_n 0, 1) := by decide +kernel
theorem dL_meanDepth_3 : decode cL_meanDepth 3 = .ok (.invokevirtual 127, 3) := by decide +kernel
theorem dL_meanDepth_10 : decode cL_meanDepth 10 = .ok (.astore_n 2, 1) := by decide +kernel
theorem dL_meanDepth_11 : decode cL_meanDepth 11 = .ok (.iconst 1, 1) := by decide +kernel
theorem dL_meanDepth_12 : decode cL_meanDepth 12 = .ok (.ireturn, 1) := by decide +kernel
theorem dL_offer_0 : decode cL_offer 0 = .ok (.aload 5, 2) := by decide +kernel
theorem dL_offer_2 : decode cL_offer 2 = .ok (.iconst 0, 1) := by decide +kernel
theorem dL_offer_3 : decode cL_offer 3 = .ok (.aload_n 0, 1) := by decide +kernel
theorem dL_offer_4 : decode cL_offer 4 = .ok (.iload_n 1, 1) := by decide +kernel
theorem dL_offer_5 : decode cL_offer 5 = .ok (.iload_n 2, 1) := by decide +kernel
theorem dL_offer_6 : decode cL_offer 6 = .ok (.iload_n 3, 1) := by decide +kernel
theorem dL_offer_7 : decode cL_offer 7 = .ok (.iload 4, 2) := by decide +kernel
theorem dL_offer_9 : decode cL_offer 9 = .ok (.invokevirtual 78, 3) := by decide +kernel
theorem dL_offer_24 : decode cL_offer 24 = .ok (.astore 6, 2) := by decide +kernel
theorem dL_offer_26 : decode cL_offer 26 = .ok (.iconst 1, 1) := by decide +kernel
theorem dL_offer_27 : decode cL_offer 27 = .ok (.ireturn, 1) := by decide +kernel
theorem dL_parent_0 : decode cL_parent 0 = .ok (.aload_n 2, 1) := by decide +kernel
theorem dL_parent_1 : decode cL_parent 1 = .ok (.iconst 0, 1) := by decide +kernel
theorem dL_parent_2 : decode cL_parent 2 = .ok (.aload_n 0, 1) := by decide +kernel
theorem dL_parent_3 : decode cL_parent 3 = .ok (.iload_n 1, 1) := by decide +kernel
theorem dL_parent_4 : decode cL_parent 4 = .ok (.invokevirtual 56, 3) := by decide +kernel
theorem dL_parent_12 : decode cL_parent 12 = .ok (.astore_n 3, 1) := by decide +kernel
theorem dL_parent_13 : decode cL_parent 13 = .ok (.iconst 1, 1) := by decide +kernel
theorem dL_parent_14 : decode cL_parent 14 = .ok (.ireturn, 1) := by decide +kernel
theorem dL_point_0 : decode cL_point 0 = .ok (.aload_n 3, 1) := by decide +kernel
theorem dL_point_1 : decode cL_point 1 = .ok (.iconst 0, 1) := by decide +kernel
theorem dL_point_2 : decode cL_point 2 = .ok (.aload_n 0, 1) := by decide +kernel
theorem dL_point_3 : decode cL_point 3 = .ok (.iload_n 1, 1) := by decide +kernel
theorem dL_point_4 : decode cL_point 4 = .ok (.iload_n 2, 1) := by decide +kernel
theorem dL_point_5 : decode cL_point 5 = .ok (.invokevirtual 70, 3) := by decide +kernel
theorem dL_point_12 : decode cL_point 12 = .ok (.astore 4, 2) := by decide +kernel
theorem dL_point_14 : decode cL_point 14 = .ok (.iconst 1, 1) := by decide +kernel
theorem dL_point_15 : decode cL_point 15 = .ok (.ireturn, 1) := by decide +kernel
theorem dL_round_0 : decode cL_round 0 = .ok (.aload_n 2, 1) := by decide +kernel
theorem dL_round_1 : decode cL_round 1 = .ok (.iconst 0, 1) := by decide +kernel
theorem dL_round_2 : decode cL_round 2 = .ok (.aload_n 0, 1) := by decide +kernel
theorem dL_round_3 : decode cL_round 3 = .ok (.iload_n 1, 1) := by decide +kernel
theorem dL_round_4 : decode cL_round 4 = .ok (.invokevirtual 82, 3) := by decide +kernel
theorem dL_round_19 : decode cL_round 19 = .ok (.astore_n 3, 1) := by decide +kernel
theorem dL_round_20 : decode cL_round 20 = .ok (.iconst 1, 1) := by decide +kernel
theorem dL_round_21 : decode cL_round 21 = .ok (.ireturn, 1) := by decide +kernel
theorem dL_side_0 : decode cL_side 0 = .ok (.aload_n 2, 1) := by decide +kernel
theorem dL_side_1 : decode cL_side 1 = .ok (.iconst 0, 1) := by decide +kernel
theorem dL_side_2 : decode cL_side 2 = .ok (.aload_n 0, 1) := by decide +kernel
theorem dL_side_3 : decode cL_side 3 = .ok (.iload_n 1, 1) := by decide +kernel
theorem dL_side_4 : decode cL_side 4 = .ok (.invokevirtual 111, 3) := by decide +kernel
theorem dL_side_12 : decode cL_side 12 = .ok (.astore_n 3, 1) := by decide +kernel
theorem dL_side_13 : decode cL_side 13 = .ok (.iconst 1, 1) := by decide +kernel
theorem dL_side_14 : decode cL_side 14 = .ok (.ireturn, 1) := by decide +kernel
theorem dL_solution_0 : decode cL_solution 0 = .ok (.aload_n 2, 1) := by decide +kernel
theorem dL_solution_1 : decode cL_solution 1 = .ok (.iconst 0, 1) := by decide +kernel
theorem dL_solution_2 : decode cL_solution 2 = .ok (.aload_n 0, 1) := by decide +kernel
theorem dL_solution_3 : decode cL_solution 3 = .ok (.iload_n 1, 1) := by decide +kernel
theorem dL_solution_4 : decode cL_solution 4 = .ok (.invokevirtual 89, 3) := by decide +kernel
theorem dL_solution_11 : decode cL_solution 11 = .ok (.astore_n 3, 1) := by decide +kernel
theorem dL_solution_12 : decode cL_solution 12 = .ok (.iconst 1, 1) := by decide +kernel
theorem dL_solution_13 : decode cL_solution 13 = .ok (.ireturn, 1) := by decide +kernel
theorem dL_solve_0 : decode cL_solve 0 = .ok (.aload_n 2, 1) := by decide +kernel
theorem dL_solve_1 : decode cL_solve 1 = .ok (.iconst 0, 1) := by decide +kernel
theorem dL_solve_2 : decode cL_solve 2 = .ok (.aload_n 0, 1) := by decide +kernel
theorem dL_solve_3 : decode cL_solve 3 = .ok (.iload_n 1, 1) := by decide +kernel
theorem dL_solve_4 : decode cL_solve 4 = .ok (.invokevirtual 49, 3) := by decide +kernel
theorem dL_solve_12 : decode cL_solve 12 = .ok (.astore_n 3, 1) := by decide +kernel
theorem dL_solve_13 : decode cL_solve 13 = .ok (.iconst 1, 1) := by decide +kernel
theorem dL_solve_14 : decode cL_solve 14 = .ok (.ireturn, 1) := by decide +kernel
theorem dL_solve_15 : decode cL_solve 15 = .ok (.astore_n 3, 1) := by decide +kernel
theorem dL_solve_16 : decode cL_solve 16 = .ok (.iconst 2, 1) := by decide +kernel
theorem dL_solve_17 : decode cL_solve 17 = .ok (.ireturn, 1) := by decide +kernel
theorem dL_state_0 : decode cL_state 0 = .ok (.aload_n 2, 1) := by decide +kernel
theorem dL_state_1 : decode cL_state 1 = .ok (.iconst 0, 1) := by decide +kernel
theorem dL_state_2 : decode cL_state 2 = .ok (.aload_n 0, 1) := by decide +kernel
theorem dL_state_3 : decode cL_state 3 = .ok (.iload_n 1, 1) := by decide +kernel
theorem dL_state_4 : decode cL_state 4 = .ok (.invokevirtual 52, 3) := by decide +kernel
theorem dL_state_12 : decode cL_state 12 = .ok (.astore_n 3, 1) := by decide +kernel
theorem dL_state_13 : decode cL_state 13 = .ok (.iconst 1, 1) := by decide +kernel
theorem dL_state_14 : decode cL_state 14 = .ok (.ireturn, 1) := by decide +kernel
theorem dL_tighten_0 : decode cL_tighten 0 = .ok (.aload_n 1, 1) := by decide +kernel
theorem dL_tighten_1 : decode cL_tighten 1 = .ok (.iconst 0, 1) := by decide +kernel
theorem dL_tighten_2 : decode cL_tighten 2 = .ok (.aload_n 0, 1) := by decide +kernel
theorem dL_tighten_3 : decode cL_tighten 3 = .ok (.invokevirtual 21, 3) := by decide +kernel
theorem dL_tighten_6 : decode cL_tighten 6 = .ok (.i2l, 1) := by decide +kernel
theorem dL_tighten_7 : decode cL_tighten 7 = .ok (.lastore, 1) := by decide +kernel
theorem dL_tighten_8 : decode cL_tighten 8 = .ok (.goto 9, 3) := by decide +kernel
theorem dL_tighten_17 : decode cL_tighten 17 = .ok (.iconst 0, 1) := by decide +kernel
theorem dL_tighten_18 : decode cL_tighten 18 = .ok (.ireturn, 1) := by decide +kernel
theorem dL_unkept_0 : decode cL_unkept 0 = .ok (.aload_n 1, 1) := by decide +kernel
theorem dL_unkept_1 : decode cL_unkept 1 = .ok (.iconst 0, 1) := by decide +kernel
theorem dL_unkept_2 : decode cL_unkept 2 = .ok (.aload_n 0, 1) := by decide +kernel
theorem dL_unkept_3 : decode cL_unkept 3 = .ok (.invokevirtual 40, 3) := by decide +kernel
theorem dL_unkept_11 : decode cL_unkept 11 = .ok (.astore_n 2, 1) := by decide +kernel
theorem dL_unkept_12 : decode cL_unkept 12 = .ok (.iconst 1, 1) := by decide +kernel
theorem dL_unkept_13 : decode cL_unkept 13 = .ok (.ireturn, 1) := by decide +kernel
theorem dL_upper_0 : decode cL_upper 0 = .ok (.aload_n 2, 1) := by decide +kernel
theorem dL_upper_1 : decode cL_upper 1 = .ok (.iconst 0, 1) := by decide +kernel
theorem dL_upper_2 : decode cL_upper 2 = .ok (.aload_n 0, 1) := by decide +kernel
theorem dL_upper_3 : decode cL_upper 3 = .ok (.iload_n 1, 1) := by decide +kernel
theorem dL_upper_4 : decode cL_upper 4 = .ok (.invokevirtual 33, 3) := by decide +kernel
theorem dL_upper_12 : decode cL_upper 12 = .ok (.astore_n 3, 1) := by decide +kernel
theorem dL_upper_13 : decode cL_upper 13 = .ok (.iconst 1, 1) := by decide +kernel
theorem dL_upper_14 : decode cL_upper 14 = .ok (.ireturn, 1) := by decide +kernel
theorem dL_upperAt_0 : decode cL_upperAt 0 = .ok (.aload_n 3, 1) := by decide +kernel
theorem dL_upperAt_1 : decode cL_upperAt 1 = .ok (.iconst 0, 1) := by decide +kernel
theorem dL_upperAt_2 : decode cL_upperAt 2 = .ok (.aload_n 0, 1) := by decide +kernel
theorem dL_upperAt_3 : decode cL_upperAt 3 = .ok (.iload_n 1, 1) := by decide +kernel
theorem dL_upperAt_4 : decode cL_upperAt 4 = .ok (.iload_n 2, 1) := by decide +kernel
theorem dL_upperAt_5 : decode cL_upperAt 5 = .ok (.invokevirtual 63, 3) := by decide +kernel
theorem dL_upperAt_13 : decode cL_upperAt 13 = .ok (.astore 4, 2) := by decide +kernel
theorem dL_upperAt_15 : decode cL_upperAt 15 = .ok (.iconst 1, 1) := by decide +kernel
theorem dL_upperAt_16 : decode cL_upperAt 16 = .ok (.ireturn, 1) := by decide +kernel
theorem dL_value_0 : decode cL_value 0 = .ok (.aload_n 2, 1) := by decide +kernel
theorem dL_value_1 : decode cL_value 1 = .ok (.iconst 0, 1) := by decide +kernel
theorem dL_value_2 : decode cL_value 2 = .ok (.aload_n 0, 1) := by decide +kernel
theorem dL_value_3 : decode cL_value 3 = .ok (.iload_n 1, 1) := by decide +kernel
theorem dL_value_4 : decode cL_value 4 = .ok (.invokevirtual 66, 3) := by decide +kernel
theorem dL_value_11 : decode cL_value 11 = .ok (.astore_n 3, 1) := by decide +kernel
theorem dL_value_12 : decode cL_value 12 = .ok (.iconst 1, 1) := by decide +kernel
theorem dL_value_13 : decode cL_value 13 = .ok (.ireturn, 1) := by decide +kernel
theorem dL_law_196 : decode cL_law 196 = .ok (.aload_n 1, 1) := by decide +kernel
theorem dL_law_197 : decode cL_law 197 = .ok (.aload_n 0, 1) := by decide +kernel
theorem dL_law_198 : decode cL_law 198 = .ok (.iload 5, 2) := by decide +kernel
theorem dL_law_200 : decode cL_law 200 = .ok (.iconst 1, 1) := by decide +kernel
theorem dL_law_201 : decode cL_law 201 = .ok (.iadd, 1) := by decide +kernel
theorem dL_law_202 : decode cL_law 202 = .ok (.iaload, 1) := by decide +kernel
theorem dL_law_203 : decode cL_law 203 = .ok (.aload_n 0, 1) := by decide +kernel
theorem dL_law_204 : decode cL_law 204 = .ok (.iload 5, 2) := by decide +kernel
theorem dL_law_206 : decode cL_law 206 = .ok (.iconst 2, 1) := by decide +kernel
theorem dL_law_207 : decode cL_law 207 = .ok (.iadd, 1) := by decide +kernel
theorem dL_law_208 : decode cL_law 208 = .ok (.iaload, 1) := by decide +kernel
theorem dL_law_209 : decode cL_law 209 = .ok (.aload_n 0, 1) := by decide +kernel
theorem dL_law_210 : decode cL_law 210 = .ok (.iload 5, 2) := by decide +kernel
theorem dL_law_212 : decode cL_law 212 = .ok (.iconst 3, 1) := by decide +kernel
theorem dL_law_213 : decode cL_law 213 = .ok (.iadd, 1) := by decide +kernel
theorem dL_law_214 : decode cL_law 214 = .ok (.iaload, 1) := by decide +kernel
theorem dL_law_215 : decode cL_law 215 = .ok (.aload_n 0, 1) := by decide +kernel
theorem dL_law_216 : decode cL_law 216 = .ok (.iload 5, 2) := by decide +kernel
theorem dL_law_218 : decode cL_law 218 = .ok (.iconst 4, 1) := by decide +kernel
theorem dL_law_219 : decode cL_law 219 = .ok (.iadd, 1) := by decide +kernel
theorem dL_law_220 : decode cL_law 220 = .ok (.iaload, 1) := by decide +kernel
theorem dL_law_229 : decode cL_law 229 = .ok (.aload_n 3, 1) := by decide +kernel
theorem dL_law_230 : decode cL_law 230 = .ok (.invokestatic 135, 3) := by decide +kernel
theorem dL_law_233 : decode cL_law 233 = .ok (.istore 6, 2) := by decide +kernel
theorem dL_law_235 : decode cL_law 235 = .ok (.aload_n 2, 1) := by decide +kernel
theorem dL_law_236 : decode cL_law 236 = .ok (.aload_n 0, 1) := by decide +kernel
theorem dL_law_237 : decode cL_law 237 = .ok (.iload 5, 2) := by decide +kernel
theorem dL_law_239 : decode cL_law 239 = .ok (.iconst 1, 1) := by decide +kernel
theorem dL_law_240 : decode cL_law 240 = .ok (.iadd, 1) := by decide +kernel
theorem dL_law_241 : decode cL_law 241 = .ok (.iaload, 1) := by decide +kernel
theorem dL_law_242 : decode cL_law 242 = .ok (.aload_n 0, 1) := by decide +kernel
theorem dL_law_243 : decode cL_law 243 = .ok (.iload 5, 2) := by decide +kernel
theorem dL_law_245 : decode cL_law 245 = .ok (.iconst 2, 1) := by decide +kernel
theorem dL_law_246 : decode cL_law 246 = .ok (.iadd, 1) := by decide +kernel
theorem dL_law_247 : decode cL_law 247 = .ok (.iaload, 1) := by decide +kernel
theorem dL_law_248 : decode cL_law 248 = .ok (.aload_n 0, 1) := by decide +kernel
theorem dL_law_249 : decode cL_law 249 = .ok (.iload 5, 2) := by decide +kernel
theorem dL_law_251 : decode cL_law 251 = .ok (.iconst 3, 1) := by decide +kernel
theorem dL_law_252 : decode cL_law 252 = .ok (.iadd, 1) := by decide +kernel
theorem dL_law_253 : decode cL_law 253 = .ok (.iaload, 1) := by decide +kernel
theorem dL_law_254 : decode cL_law 254 = .ok (.aload_n 0, 1) := by decide +kernel
theorem dL_law_255 : decode cL_law 255 = .ok (.iload 5, 2) := by decide +kernel
theorem dL_law_257 : decode cL_law 257 = .ok (.iconst 4, 1) := by decide +kernel
theorem dL_law_258 : decode cL_law 258 = .ok (.iadd, 1) := by decide +kernel
theorem dL_law_259 : decode cL_law 259 = .ok (.iaload, 1) := by decide +kernel
theorem dL_law_268 : decode cL_law 268 = .ok (.invokevirtual 140, 3) := by decide +kernel
theorem dL_law_271 : decode cL_law 271 = .ok (.istore 7, 2) := by decide +kernel
theorem dL_law_273 : decode cL_law 273 = .ok (.aload_n 2, 1) := by decide +kernel
theorem dL_law_274 : decode cL_law 274 = .ok (.invokevirtual 141, 3) := by decide +kernel
theorem dL_law_277 : decode cL_law 277 = .ok (.iload 6, 2) := by decide +kernel
theorem dL_law_279 : decode cL_law 279 = .ok (.if_icmp .eq 5, 3) := by decide +kernel
theorem dL_law_284 : decode cL_law 284 = .ok (.iload 6, 2) := by decide +kernel
theorem dL_law_286 : decode cL_law 286 = .ok (.ifCond .ne 15, 3) := by decide +kernel
theorem dL_law_301 : decode cL_law 301 = .ok (.goto 1937, 3) := by decide +kernel
theorem dL_law_289 : decode cL_law 289 = .ok (.aload_n 3, 1) := by decide +kernel
theorem dL_law_290 : decode cL_law 290 = .ok (.iconst 0, 1) := by decide +kernel
theorem dL_law_291 : decode cL_law 291 = .ok (.laload, 1) := by decide +kernel
theorem dL_law_292 : decode cL_law 292 = .ok (.iload 7, 2) := by decide +kernel
theorem dL_law_294 : decode cL_law 294 = .ok (.i2l, 1) := by decide +kernel
theorem dL_law_295 : decode cL_law 295 = .ok (.lcmp, 1) := by decide +kernel
theorem dL_law_296 : decode cL_law 296 = .ok (.ifCond .eq 5, 3) := by decide +kernel
theorem dL_law_260 : decode cL_law 260 = .ok (.ifCond .eq 7, 3) := by decide +kernel
theorem dL_law_267 : decode cL_law 267 = .ok (.iconst 0, 1) := by decide +kernel
theorem dL_law_263 : decode cL_law 263 = .ok (.iconst 1, 1) := by decide +kernel
theorem dL_law_264 : decode cL_law 264 = .ok (.goto 4, 3) := by decide +kernel
theorem dL_law_221 : decode cL_law 221 = .ok (.ifCond .eq 7, 3) := by decide +kernel
theorem dL_law_228 : decode cL_law 228 = .ok (.iconst 0, 1) := by decide +kernel
theorem dL_law_224 : decode cL_law 224 = .ok (.iconst 1, 1) := by decide +kernel
theorem dL_law_225 : decode cL_law 225 = .ok (.goto 4, 3) := by decide +kernel
theorem dL_law_304 : decode cL_law 304 = .ok (.aload_n 1, 1) := by decide +kernel
theorem dL_law_305 : decode cL_law 305 = .ok (.aload_n 0, 1) := by decide +kernel
theorem dL_law_306 : decode cL_law 306 = .ok (.iload 5, 2) := by decide +kernel
theorem dL_law_308 : decode cL_law 308 = .ok (.iconst 1, 1) := by decide +kernel
theorem dL_law_309 : decode cL_law 309 = .ok (.iadd, 1) := by decide +kernel
theorem dL_law_310 : decode cL_law 310 = .ok (.iaload, 1) := by decide +kernel
theorem dL_law_311 : decode cL_law 311 = .ok (.i2c, 1) := by decide +kernel
theorem dL_law_312 : decode cL_law 312 = .ok (.aload_n 0, 1) := by decide +kernel
theorem dL_law_313 : decode cL_law 313 = .ok (.iload 5, 2) := by decide +kernel
theorem dL_law_315 : decode cL_law 315 = .ok (.iconst 2, 1) := by decide +kernel
theorem dL_law_316 : decode cL_law 316 = .ok (.iadd, 1) := by decide +kernel
theorem dL_law_317 : decode cL_law 317 = .ok (.iaload, 1) := by decide +kernel
theorem dL_law_318 : decode cL_law 318 = .ok (.aload_n 0, 1) := by decide +kernel
theorem dL_law_319 : decode cL_law 319 = .ok (.iload 5, 2) := by decide +kernel
theorem dL_law_321 : decode cL_law 321 = .ok (.iconst 3, 1) := by decide +kernel
theorem dL_law_322 : decode cL_law 322 = .ok (.iadd, 1) := by decide +kernel
theorem dL_law_323 : decode cL_law 323 = .ok (.iaload, 1) := by decide +kernel
theorem dL_law_324 : decode cL_law 324 = .ok (.aload_n 0, 1) := by decide +kernel
theorem dL_law_325 : decode cL_law 325 = .ok (.iload 5, 2) := by decide +kernel
theorem dL_law_327 : decode cL_law 327 = .ok (.iconst 4, 1) := by decide +kernel
theorem dL_law_328 : decode cL_law 328 = .ok (.iadd, 1) := by decide +kernel
theorem dL_law_329 : decode cL_law 329 = .ok (.iaload, 1) := by decide +kernel
theorem dL_law_330 : decode cL_law 330 = .ok (.aload_n 0, 1) := by decide +kernel
theorem dL_law_331 : decode cL_law 331 = .ok (.iload 5, 2) := by decide +kernel
theorem dL_law_333 : decode cL_law 333 = .ok (.iconst 5, 1) := by decide +kernel
theorem dL_law_334 : decode cL_law 334 = .ok (.iadd, 1) := by decide +kernel
theorem dL_law_335 : decode cL_law 335 = .ok (.iaload, 1) := by decide +kernel
theorem dL_law_336 : decode cL_law 336 = .ok (.aload_n 0, 1) := by decide +kernel
theorem dL_law_337 : decode cL_law 337 = .ok (.iload 5, 2) := by decide +kernel
theorem dL_law_339 : decode cL_law 339 = .ok (.bipush 6, 2) := by decide +kernel
theorem dL_law_341 : decode cL_law 341 = .ok (.iadd, 1) := by decide +kernel
theorem dL_law_342 : decode cL_law 342 = .ok (.iaload, 1) := by decide +kernel
theorem dL_law_343 : decode cL_law 343 = .ok (.aload_n 3, 1) := by decide +kernel
theorem dL_law_344 : decode cL_law 344 = .ok (.invokestatic 144, 3) := by decide +kernel
theorem dL_law_347 : decode cL_law 347 = .ok (.istore 6, 2) := by decide +kernel
theorem dL_law_349 : decode cL_law 349 = .ok (.aload_n 2, 1) := by decide +kernel
theorem dL_law_350 : decode cL_law 350 = .ok (.aload_n 0, 1) := by decide +kernel
theorem dL_law_351 : decode cL_law 351 = .ok (.iload 5, 2) := by decide +kernel
theorem dL_law_353 : decode cL_law 353 = .ok (.iconst 1, 1) := by decide +kernel
theorem dL_law_354 : decode cL_law 354 = .ok (.iadd, 1) := by decide +kernel
theorem dL_law_355 : decode cL_law 355 = .ok (.iaload, 1) := by decide +kernel
theorem dL_law_356 : decode cL_law 356 = .ok (.i2c, 1) := by decide +kernel
theorem dL_law_357 : decode cL_law 357 = .ok (.aload_n 0, 1) := by decide +kernel
theorem dL_law_358 : decode cL_law 358 = .ok (.iload 5, 2) := by decide +kernel
theorem dL_law_360 : decode cL_law 360 = .ok (.iconst 2, 1) := by decide +kernel
theorem dL_law_361 : decode cL_law 361 = .ok (.iadd, 1) := by decide +kernel
theorem dL_law_362 : decode cL_law 362 = .ok (.iaload, 1) := by decide +kernel
theorem dL_law_363 : decode cL_law 363 = .ok (.aload_n 0, 1) := by decide +kernel
theorem dL_law_364 : decode cL_law 364 = .ok (.iload 5, 2) := by decide +kernel
theorem dL_law_366 : decode cL_law 366 = .ok (.iconst 3, 1) := by decide +kernel
theorem dL_law_367 : decode cL_law 367 = .ok (.iadd, 1) := by decide +kernel
theorem dL_law_368 : decode cL_law 368 = .ok (.iaload, 1) := by decide +kernel
theorem dL_law_369 : decode cL_law 369 = .ok (.aload_n 0, 1) := by decide +kernel
theorem dL_law_370 : decode cL_law 370 = .ok (.iload 5, 2) := by decide +kernel
theorem dL_law_372 : decode cL_law 372 = .ok (.iconst 4, 1) := by decide +kernel
theorem dL_law_373 : decode cL_law 373 = .ok (.iadd, 1) := by decide +kernel
theorem dL_law_374 : decode cL_law 374 = .ok (.iaload, 1) := by decide +kernel
theorem dL_law_375 : decode cL_law 375 = .ok (.aload_n 0, 1) := by decide +kernel
theorem dL_law_376 : decode cL_law 376 = .ok (.iload 5, 2) := by decide +kernel
theorem dL_law_378 : decode cL_law 378 = .ok (.iconst 5, 1) := by decide +kernel
theorem dL_law_379 : decode cL_law 379 = .ok (.iadd, 1) := by decide +kernel
theorem dL_law_380 : decode cL_law 380 = .ok (.iaload, 1) := by decide +kernel
theorem dL_law_381 : decode cL_law 381 = .ok (.aload_n 0, 1) := by decide +kernel
theorem dL_law_382 : decode cL_law 382 = .ok (.iload 5, 2) := by decide +kernel
theorem dL_law_384 : decode cL_law 384 = .ok (.bipush 6, 2) := by decide +kernel
theorem dL_law_386 : decode cL_law 386 = .ok (.iadd, 1) := by decide +kernel
theorem dL_law_387 : decode cL_law 387 = .ok (.iaload, 1) := by decide +kernel
theorem dL_law_388 : decode cL_law 388 = .ok (.invokevirtual 147, 3) := by decide +kernel
theorem dL_law_391 : decode cL_law 391 = .ok (.istore 7, 2) := by decide +kernel
theorem dL_law_393 : decode cL_law 393 = .ok (.aload_n 2, 1) := by decide +kernel
theorem dL_law_394 : decode cL_law 394 = .ok (.invokevirtual 141, 3) := by decide +kernel
theorem dL_law_397 : decode cL_law 397 = .ok (.iload 6, 2) := by decide +kernel
theorem dL_law_399 : decode cL_law 399 = .ok (.if_icmp .eq 5, 3) := by decide +kernel
theorem dL_law_404 : decode cL_law 404 = .ok (.iload 6, 2) := by decide +kernel
theorem dL_law_406 : decode cL_law 406 = .ok (.ifCond .ne 15, 3) := by decide +kernel
theorem dL_law_421 : decode cL_law 421 = .ok (.goto 1817, 3) := by decide +kernel
theorem dL_law_409 : decode cL_law 409 = .ok (.aload_n 3, 1) := by decide +kernel
theorem dL_law_410 : decode cL_law 410 = .ok (.iconst 0, 1) := by decide +kernel
theorem dL_law_411 : decode cL_law 411 = .ok (.laload, 1) := by decide +kernel
theorem dL_law_412 : decode cL_law 412 = .ok (.iload 7, 2) := by decide +kernel
theorem dL_law_414 : decode cL_law 414 = .ok (.i2l, 1) := by decide +kernel
theorem dL_law_415 : decode cL_law 415 = .ok (.lcmp, 1) := by decide +kernel
theorem dL_law_416 : decode cL_law 416 = .ok (.ifCond .eq 5, 3) := by decide +kernel
theorem dL_law_424 : decode cL_law 424 = .ok (.aload_n 1, 1) := by decide +kernel
theorem dL_law_425 : decode cL_law 425 = .ok (.aload_n 3, 1) := by decide +kernel
theorem dL_law_426 : decode cL_law 426 = .ok (.invokestatic 148, 3) := by decide +kernel
theorem dL_law_429 : decode cL_law 429 = .ok (.istore 6, 2) := by decide +kernel
theorem dL_law_431 : decode cL_law 431 = .ok (.aload_n 2, 1) := by decide +kernel
theorem dL_law_432 : decode cL_law 432 = .ok (.invokevirtual 151, 3) := by decide +kernel
theorem dL_law_435 : decode cL_law 435 = .ok (.istore 7, 2) := by decide +kernel
theorem dL_law_437 : decode cL_law 437 = .ok (.aload_n 2, 1) := by decide +kernel
theorem dL_law_438 : decode cL_law 438 = .ok (.invokevirtual 141, 3) := by decide +kernel
theorem dL_law_441 : decode cL_law 441 = .ok (.iload 6, 2) := by decide +kernel
theorem dL_law_443 : decode cL_law 443 = .ok (.if_icmp .eq 5, 3) := by decide +kernel
theorem dL_law_448 : decode cL_law 448 = .ok (.iload 6, 2) := by decide +kernel
theorem dL_law_450 : decode cL_law 450 = .ok (.ifCond .ne 15, 3) := by decide +kernel
theorem dL_law_453 : decode cL_law 453 = .ok (.aload_n 3, 1) := by decide +kernel
theorem dL_law_454 : decode cL_law 454 = .ok (.iconst 0, 1) := by decide +kernel
theorem dL_law_455 : decode cL_law 455 = .ok (.laload, 1) := by decide +kernel
theorem dL_law_456 : decode cL_law 456 = .ok (.iload 7, 2) := by decide +kernel
theorem dL_law_458 : decode cL_law 458 = .ok (.i2l, 1) := by decide +kernel
theorem dL_law_459 : decode cL_law 459 = .ok (.lcmp, 1) := by decide +kernel
theorem dL_law_460 : decode cL_law 460 = .ok (.ifCond .eq 5, 3) := by decide +kernel
theorem dL_law_465 : decode cL_law 465 = .ok (.goto 1773, 3) := by decide +kernel
theorem dL_law_468 : decode cL_law 468 = .ok (.aload_n 1, 1) := by decide +kernel
theorem dL_law_469 : decode cL_law 469 = .ok (.aload_n 0, 1) := by decide +kernel
theorem dL_law_470 : decode cL_law 470 = .ok (.iload 5, 2) := by decide +kernel
theorem dL_law_472 : decode cL_law 472 = .ok (.iconst 1, 1) := by decide +kernel
theorem dL_law_473 : decode cL_law 473 = .ok (.iadd, 1) := by decide +kernel
theorem dL_law_474 : decode cL_law 474 = .ok (.iaload, 1) := by decide +kernel
theorem dL_law_475 : decode cL_law 475 = .ok (.aload_n 3, 1) := by decide +kernel
theorem dL_law_476 : decode cL_law 476 = .ok (.invokestatic 152, 3) := by decide +kernel
theorem dL_law_479 : decode cL_law 479 = .ok (.istore 6, 2) := by decide +kernel
theorem dL_law_481 : decode cL_law 481 = .ok (.aload_n 2, 1) := by decide +kernel
theorem dL_law_482 : decode cL_law 482 = .ok (.aload_n 0, 1) := by decide +kernel
theorem dL_law_483 : decode cL_law 483 = .ok (.iload 5, 2) := by decide +kernel
theorem dL_law_485 : decode cL_law 485 = .ok (.iconst 1, 1) := by decide +kernel
theorem dL_law_486 : decode cL_law 486 = .ok (.iadd, 1) := by decide +kernel
theorem dL_law_487 : decode cL_law 487 = .ok (.iaload, 1) := by decide +kernel
theorem dL_law_488 : decode cL_law 488 = .ok (.invokevirtual 155, 3) := by decide +kernel
theorem dL_law_491 : decode cL_law 491 = .ok (.istore 7, 2) := by decide +kernel
theorem dL_law_493 : decode cL_law 493 = .ok (.aload_n 2, 1) := by decide +kernel
theorem dL_law_494 : decode cL_law 494 = .ok (.invokevirtual 141, 3) := by decide +kernel
theorem dL_law_497 : decode cL_law 497 = .ok (.iload 6, 2) := by decide +kernel
theorem dL_law_499 : decode cL_law 499 = .ok (.if_icmp .eq 5, 3) := by decide +kernel
theorem dL_law_504 : decode cL_law 504 = .ok (.iload 6, 2) := by decide +kernel
theorem dL_law_506 : decode cL_law 506 = .ok (.ifCond .ne 15, 3) := by decide +kernel
theorem dL_law_521 : decode cL_law 521 = .ok (.goto 1717, 3) := by decide +kernel
theorem dL_law_524 : decode cL_law 524 = .ok (.aload_n 1, 1) := by decide +kernel
theorem dL_law_525 : decode cL_law 525 = .ok (.aload_n 0, 1) := by decide +kernel
theorem dL_law_526 : decode cL_law 526 = .ok (.iload 5, 2) := by decide +kernel
theorem dL_law_528 : decode cL_law 528 = .ok (.iconst 1, 1) := by decide +kernel
theorem dL_law_529 : decode cL_law 529 = .ok (.iadd, 1) := by decide +kernel
theorem dL_law_530 : decode cL_law 530 = .ok (.iaload, 1) := by decide +kernel
theorem dL_law_531 : decode cL_law 531 = .ok (.aload_n 3, 1) := by decide +kernel
theorem dL_law_532 : decode cL_law 532 = .ok (.invokestatic 156, 3) := by decide +kernel
theorem dL_law_535 : decode cL_law 535 = .ok (.istore 6, 2) := by decide +kernel
theorem dL_law_537 : decode cL_law 537 = .ok (.aload_n 2, 1) := by decide +kernel
theorem dL_law_538 : decode cL_law 538 = .ok (.aload_n 0, 1) := by decide +kernel
theorem dL_law_539 : decode cL_law 539 = .ok (.iload 5, 2) := by decide +kernel
theorem dL_law_541 : decode cL_law 541 = .ok (.iconst 1, 1) := by decide +kernel
theorem dL_law_542 : decode cL_law 542 = .ok (.iadd, 1) := by decide +kernel
theorem dL_law_543 : decode cL_law 543 = .ok (.iaload, 1) := by decide +kernel
theorem dL_law_544 : decode cL_law 544 = .ok (.invokevirtual 158, 3) := by decide +kernel
theorem dL_law_547 : decode cL_law 547 = .ok (.istore 7, 2) := by decide +kernel
theorem dL_law_549 : decode cL_law 549 = .ok (.aload_n 2, 1) := by decide +kernel
theorem dL_law_550 : decode cL_law 550 = .ok (.invokevirtual 141, 3) := by decide +kernel
theorem dL_law_553 : decode cL_law 553 = .ok (.iload 6, 2) := by decide +kernel
theorem dL_law_555 : decode cL_law 555 = .ok (.if_icmp .eq 5, 3) := by decide +kernel
theorem dL_law_560 : decode cL_law 560 = .ok (.iload 6, 2) := by decide +kernel
theorem dL_law_562 : decode cL_law 562 = .ok (.ifCond .ne 15, 3) := by decide +kernel
theorem dL_law_577 : decode cL_law 577 = .ok (.goto 1661, 3) := by decide +kernel
theorem dL_law_580 : decode cL_law 580 = .ok (.aload_n 1, 1) := by decide +kernel
theorem dL_law_581 : decode cL_law 581 = .ok (.aload_n 0, 1) := by decide +kernel
theorem dL_law_582 : decode cL_law 582 = .ok (.iload 5, 2) := by decide +kernel
theorem dL_law_584 : decode cL_law 584 = .ok (.iconst 1, 1) := by decide +kernel
theorem dL_law_585 : decode cL_law 585 = .ok (.iadd, 1) := by decide +kernel
theorem dL_law_586 : decode cL_law 586 = .ok (.iaload, 1) := by decide +kernel
theorem dL_law_587 : decode cL_law 587 = .ok (.aload_n 0, 1) := by decide +kernel
theorem dL_law_588 : decode cL_law 588 = .ok (.iload 5, 2) := by decide +kernel
theorem dL_law_590 : decode cL_law 590 = .ok (.iconst 2, 1) := by decide +kernel
theorem dL_law_591 : decode cL_law 591 = .ok (.iadd, 1) := by decide +kernel
theorem dL_law_592 : decode cL_law 592 = .ok (.iaload, 1) := by decide +kernel
theorem dL_law_593 : decode cL_law 593 = .ok (.aload_n 3, 1) := by decide +kernel
theorem dL_law_594 : decode cL_law 594 = .ok (.invokestatic 159, 3) := by decide +kernel
theorem dL_law_597 : decode cL_law 597 = .ok (.istore 6, 2) := by decide +kernel
theorem dL_law_599 : decode cL_law 599 = .ok (.aload_n 2, 1) := by decide +kernel
theorem dL_law_600 : decode cL_law 600 = .ok (.aload_n 0, 1) := by decide +kernel
theorem dL_law_601 : decode cL_law 601 = .ok (.iload 5, 2) := by decide +kernel
theorem dL_law_603 : decode cL_law 603 = .ok (.iconst 1, 1) := by decide +kernel
theorem dL_law_604 : decode cL_law 604 = .ok (.iadd, 1) := by decide +kernel
theorem dL_law_605 : decode cL_law 605 = .ok (.iaload, 1) := by decide +kernel
theorem dL_law_606 : decode cL_law 606 = .ok (.aload_n 0, 1) := by decide +kernel
theorem dL_law_607 : decode cL_law 607 = .ok (.iload 5, 2) := by decide +kernel
theorem dL_law_609 : decode cL_law 609 = .ok (.iconst 2, 1) := by decide +kernel
theorem dL_law_610 : decode cL_law 610 = .ok (.iadd, 1) := by decide +kernel
theorem dL_law_611 : decode cL_law 611 = .ok (.iaload, 1) := by decide +kernel
theorem dL_law_612 : decode cL_law 612 = .ok (.invokevirtual 162, 3) := by decide +kernel
theorem dL_law_615 : decode cL_law 615 = .ok (.istore 7, 2) := by decide +kernel
theorem dL_law_617 : decode cL_law 617 = .ok (.aload_n 2, 1) := by decide +kernel
theorem dL_law_618 : decode cL_law 618 = .ok (.invokevirtual 141, 3) := by decide +kernel
theorem dL_law_621 : decode cL_law 621 = .ok (.iload 6, 2) := by decide +kernel
theorem dL_law_623 : decode cL_law 623 = .ok (.if_icmp .eq 5, 3) := by decide +kernel
theorem dL_law_628 : decode cL_law 628 = .ok (.iload 6, 2) := by decide +kernel
theorem dL_law_630 : decode cL_law 630 = .ok (.ifCond .ne 22, 3) := by decide +kernel
theorem dL_law_652 : decode cL_law 652 = .ok (.goto 1586, 3) := by decide +kernel
theorem dL_law_655 : decode cL_law 655 = .ok (.aload_n 1, 1) := by decide +kernel
theorem dL_law_656 : decode cL_law 656 = .ok (.aload_n 3, 1) := by decide +kernel
theorem dL_law_657 : decode cL_law 657 = .ok (.invokestatic 163, 3) := by decide +kernel
theorem dL_law_660 : decode cL_law 660 = .ok (.istore 6, 2) := by decide +kernel
theorem dL_law_662 : decode cL_law 662 = .ok (.aload_n 2, 1) := by decide +kernel
theorem dL_law_663 : decode cL_law 663 = .ok (.invokevirtual 165, 3) := by decide +kernel
theorem dL_law_666 : decode cL_law 666 = .ok (.istore 7, 2) := by decide +kernel
theorem dL_law_668 : decode cL_law 668 = .ok (.aload_n 2, 1) := by decide +kernel
theorem dL_law_669 : decode cL_law 669 = .ok (.invokevirtual 141, 3) := by decide +kernel
theorem dL_law_672 : decode cL_law 672 = .ok (.iload 6, 2) := by decide +kernel
theorem dL_law_674 : decode cL_law 674 = .ok (.if_icmp .eq 5, 3) := by decide +kernel
theorem dL_law_679 : decode cL_law 679 = .ok (.iload 6, 2) := by decide +kernel
theorem dL_law_681 : decode cL_law 681 = .ok (.ifCond .ne 15, 3) := by decide +kernel
theorem dL_law_696 : decode cL_law 696 = .ok (.goto 1542, 3) := by decide +kernel
theorem dL_law_699 : decode cL_law 699 = .ok (.aload_n 1, 1) := by decide +kernel
theorem dL_law_700 : decode cL_law 700 = .ok (.aload_n 0, 1) := by decide +kernel
theorem dL_law_701 : decode cL_law 701 = .ok (.iload 5, 2) := by decide +kernel
theorem dL_law_703 : decode cL_law 703 = .ok (.iconst 1, 1) := by decide +kernel
theorem dL_law_704 : decode cL_law 704 = .ok (.iadd, 1) := by decide +kernel
theorem dL_law_705 : decode cL_law 705 = .ok (.iaload, 1) := by decide +kernel
theorem dL_law_706 : decode cL_law 706 = .ok (.i2c, 1) := by decide +kernel
theorem dL_law_707 : decode cL_law 707 = .ok (.aload_n 0, 1) := by decide +kernel
theorem dL_law_708 : decode cL_law 708 = .ok (.iload 5, 2) := by decide +kernel
theorem dL_law_710 : decode cL_law 710 = .ok (.iconst 2, 1) := by decide +kernel
theorem dL_law_711 : decode cL_law 711 = .ok (.iadd, 1) := by decide +kernel
theorem dL_law_712 : decode cL_law 712 = .ok (.iaload, 1) := by decide +kernel
theorem dL_law_713 : decode cL_law 713 = .ok (.i2c, 1) := by decide +kernel
theorem dL_law_714 : decode cL_law 714 = .ok (.aload_n 3, 1) := by decide +kernel
theorem dL_law_715 : decode cL_law 715 = .ok (.invokestatic 166, 3) := by decide +kernel
theorem dL_law_718 : decode cL_law 718 = .ok (.istore 6, 2) := by decide +kernel
theorem dL_law_720 : decode cL_law 720 = .ok (.aload_n 2, 1) := by decide +kernel
theorem dL_law_721 : decode cL_law 721 = .ok (.aload_n 0, 1) := by decide +kernel
theorem dL_law_722 : decode cL_law 722 = .ok (.iload 5, 2) := by decide +kernel
theorem dL_law_724 : decode cL_law 724 = .ok (.iconst 1, 1) := by decide +kernel
theorem dL_law_725 : decode cL_law 725 = .ok (.iadd, 1) := by decide +kernel
theorem dL_law_726 : decode cL_law 726 = .ok (.iaload, 1) := by decide +kernel
theorem dL_law_727 : decode cL_law 727 = .ok (.i2c, 1) := by decide +kernel
theorem dL_law_728 : decode cL_law 728 = .ok (.aload_n 0, 1) := by decide +kernel
theorem dL_law_729 : decode cL_law 729 = .ok (.iload 5, 2) := by decide +kernel
theorem dL_law_731 : decode cL_law 731 = .ok (.iconst 2, 1) := by decide +kernel
theorem dL_law_732 : decode cL_law 732 = .ok (.iadd, 1) := by decide +kernel
theorem dL_law_733 : decode cL_law 733 = .ok (.iaload, 1) := by decide +kernel
theorem dL_law_734 : decode cL_law 734 = .ok (.i2c, 1) := by decide +kernel
theorem dL_law_735 : decode cL_law 735 = .ok (.invokevirtual 169, 3) := by decide +kernel
theorem dL_law_738 : decode cL_law 738 = .ok (.istore 7, 2) := by decide +kernel
theorem dL_law_740 : decode cL_law 740 = .ok (.aload_n 2, 1) := by decide +kernel
theorem dL_law_741 : decode cL_law 741 = .ok (.invokevirtual 141, 3) := by decide +kernel
theorem dL_law_744 : decode cL_law 744 = .ok (.iload 6, 2) := by decide +kernel
theorem dL_law_746 : decode cL_law 746 = .ok (.if_icmp .eq 5, 3) := by decide +kernel
theorem dL_law_751 : decode cL_law 751 = .ok (.iload 6, 2) := by decide +kernel
theorem dL_law_753 : decode cL_law 753 = .ok (.ifCond .ne 15, 3) := by decide +kernel
theorem dL_law_768 : decode cL_law 768 = .ok (.goto 1470, 3) := by decide +kernel
theorem dL_law_756 : decode cL_law 756 = .ok (.aload_n 3, 1) := by decide +kernel
theorem dL_law_757 : decode cL_law 757 = .ok (.iconst 0, 1) := by decide +kernel
theorem dL_law_758 : decode cL_law 758 = .ok (.laload, 1) := by decide +kernel
theorem dL_law_759 : decode cL_law 759 = .ok (.iload 7, 2) := by decide +kernel
theorem dL_law_761 : decode cL_law 761 = .ok (.i2l, 1) := by decide +kernel
theorem dL_law_762 : decode cL_law 762 = .ok (.lcmp, 1) := by decide +kernel
theorem dL_law_763 : decode cL_law 763 = .ok (.ifCond .eq 5, 3) := by decide +kernel
theorem dL_law_771 : decode cL_law 771 = .ok (.aload_n 1, 1) := by decide +kernel
theorem dL_law_772 : decode cL_law 772 = .ok (.aload_n 0, 1) := by decide +kernel
theorem dL_law_773 : decode cL_law 773 = .ok (.iload 5, 2) := by decide +kernel
theorem dL_law_775 : decode cL_law 775 = .ok (.iconst 1, 1) := by decide +kernel
theorem dL_law_776 : decode cL_law 776 = .ok (.iadd, 1) := by decide +kernel
theorem dL_law_777 : decode cL_law 777 = .ok (.iaload, 1) := by decide +kernel
theorem dL_law_778 : decode cL_law 778 = .ok (.aload_n 3, 1) := by decide +kernel
theorem dL_law_779 : decode cL_law 779 = .ok (.invokestatic 170, 3) := by decide +kernel
theorem dL_law_782 : decode cL_law 782 = .ok (.istore 6, 2) := by decide +kernel
theorem dL_law_784 : decode cL_law 784 = .ok (.aload_n 2, 1) := by decide +kernel
theorem dL_law_785 : decode cL_law 785 = .ok (.aload_n 0, 1) := by decide +kernel
theorem dL_law_786 : decode cL_law 786 = .ok (.iload 5, 2) := by decide +kernel
theorem dL_law_788 : decode cL_law 788 = .ok (.iconst 1, 1) := by decide +kernel
theorem dL_law_789 : decode cL_law 789 = .ok (.iadd, 1) := by decide +kernel
theorem dL_law_790 : decode cL_law 790 = .ok (.iaload, 1) := by decide +kernel
theorem dL_law_791 : decode cL_law 791 = .ok (.invokevirtual 172, 3) := by decide +kernel
theorem dL_law_794 : decode cL_law 794 = .ok (.istore 7, 2) := by decide +kernel
theorem dL_law_796 : decode cL_law 796 = .ok (.aload_n 2, 1) := by decide +kernel
theorem dL_law_797 : decode cL_law 797 = .ok (.invokevirtual 141, 3) := by decide +kernel
theorem dL_law_800 : decode cL_law 800 = .ok (.iload 6, 2) := by decide +kernel
theorem dL_law_802 : decode cL_law 802 = .ok (.if_icmp .eq 5, 3) := by decide +kernel
theorem dL_law_807 : decode cL_law 807 = .ok (.iload 6, 2) := by decide +kernel
theorem dL_law_809 : decode cL_law 809 = .ok (.ifCond .ne 15, 3) := by decide +kernel
theorem dL_law_824 : decode cL_law 824 = .ok (.goto 1414, 3) := by decide +kernel
theorem dL_law_812 : decode cL_law 812 = .ok (.aload_n 3, 1) := by decide +kernel
theorem dL_law_813 : decode cL_law 813 = .ok (.iconst 0, 1) := by decide +kernel
theorem dL_law_814 : decode cL_law 814 = .ok (.laload, 1) := by decide +kernel
theorem dL_law_815 : decode cL_law 815 = .ok (.iload 7, 2) := by decide +kernel
theorem dL_law_817 : decode cL_law 817 = .ok (.i2l, 1) := by decide +kernel
theorem dL_law_818 : decode cL_law 818 = .ok (.lcmp, 1) := by decide +kernel
theorem dL_law_819 : decode cL_law 819 = .ok (.ifCond .eq 5, 3) := by decide +kernel
theorem dL_law_827 : decode cL_law 827 = .ok (.aload_n 1, 1) := by decide +kernel
theorem dL_law_828 : decode cL_law 828 = .ok (.invokevirtual 173, 3) := by decide +kernel
theorem dL_law_831 : decode cL_law 831 = .ok (.aload_n 2, 1) := by decide +kernel
theorem dL_law_832 : decode cL_law 832 = .ok (.invokevirtual 176, 3) := by decide +kernel
theorem dL_law_835 : decode cL_law 835 = .ok (.if_icmp .eq 1403, 3) := by decide +kernel
theorem dL_law_840 : decode cL_law 840 = .ok (.aload_n 1, 1) := by decide +kernel
theorem dL_law_841 : decode cL_law 841 = .ok (.invokevirtual 177, 3) := by decide +kernel
theorem dL_law_844 : decode cL_law 844 = .ok (.aload_n 2, 1) := by decide +kernel
theorem dL_law_845 : decode cL_law 845 = .ok (.invokevirtual 180, 3) := by decide +kernel
theorem dL_law_848 : decode cL_law 848 = .ok (.if_icmp .eq 1390, 3) := by decide +kernel
theorem dL_law_853 : decode cL_law 853 = .ok (.aload_n 1, 1) := by decide +kernel
theorem dL_law_854 : decode cL_law 854 = .ok (.aload_n 0, 1) := by decide +kernel
theorem dL_law_855 : decode cL_law 855 = .ok (.iload 5, 2) := by decide +kernel
theorem dL_law_857 : decode cL_law 857 = .ok (.iconst 1, 1) := by decide +kernel
theorem dL_law_858 : decode cL_law 858 = .ok (.iadd, 1) := by decide +kernel
theorem dL_law_859 : decode cL_law 859 = .ok (.iaload, 1) := by decide +kernel
theorem dL_law_860 : decode cL_law 860 = .ok (.aload_n 3, 1) := by decide +kernel
theorem dL_law_861 : decode cL_law 861 = .ok (.invokestatic 181, 3) := by decide +kernel
theorem dL_law_864 : decode cL_law 864 = .ok (.istore 6, 2) := by decide +kernel
theorem dL_law_866 : decode cL_law 866 = .ok (.aload_n 2, 1) := by decide +kernel
theorem dL_law_867 : decode cL_law 867 = .ok (.aload_n 0, 1) := by decide +kernel
theorem dL_law_868 : decode cL_law 868 = .ok (.iload 5, 2) := by decide +kernel
theorem dL_law_870 : decode cL_law 870 = .ok (.iconst 1, 1) := by decide +kernel
theorem dL_law_871 : decode cL_law 871 = .ok (.iadd, 1) := by decide +kernel
theorem dL_law_872 : decode cL_law 872 = .ok (.iaload, 1) := by decide +kernel
theorem dL_law_873 : decode cL_law 873 = .ok (.invokevirtual 183, 3) := by decide +kernel
theorem dL_law_876 : decode cL_law 876 = .ok (.istore 7, 2) := by decide +kernel
theorem dL_law_878 : decode cL_law 878 = .ok (.aload_n 2, 1) := by decide +kernel
theorem dL_law_879 : decode cL_law 879 = .ok (.invokevirtual 141, 3) := by decide +kernel
theorem dL_law_882 : decode cL_law 882 = .ok (.iload 6, 2) := by decide +kernel
theorem dL_law_884 : decode cL_law 884 = .ok (.if_icmp .eq 5, 3) := by decide +kernel
theorem dL_law_889 : decode cL_law 889 = .ok (.iload 6, 2) := by decide +kernel
theorem dL_law_891 : decode cL_law 891 = .ok (.ifCond .ne 15, 3) := by decide +kernel
theorem dL_law_906 : decode cL_law 906 = .ok (.goto 1332, 3) := by decide +kernel
theorem dL_law_909 : decode cL_law 909 = .ok (.aload_n 1, 1) := by decide +kernel
theorem dL_law_910 : decode cL_law 910 = .ok (.aload_n 0, 1) := by decide +kernel
theorem dL_law_911 : decode cL_law 911 = .ok (.iload 5, 2) := by decide +kernel
theorem dL_law_913 : decode cL_law 913 = .ok (.iconst 1, 1) := by decide +kernel
theorem dL_law_914 : decode cL_law 914 = .ok (.iadd, 1) := by decide +kernel
theorem dL_law_915 : decode cL_law 915 = .ok (.iaload, 1) := by decide +kernel
theorem dL_law_916 : decode cL_law 916 = .ok (.aload_n 3, 1) := by decide +kernel
theorem dL_law_917 : decode cL_law 917 = .ok (.invokestatic 184, 3) := by decide +kernel
theorem dL_law_920 : decode cL_law 920 = .ok (.istore 6, 2) := by decide +kernel
theorem dL_law_922 : decode cL_law 922 = .ok (.aload_n 2, 1) := by decide +kernel
theorem dL_law_923 : decode cL_law 923 = .ok (.aload_n 0, 1) := by decide +kernel
theorem dL_law_924 : decode cL_law 924 = .ok (.iload 5, 2) := by decide +kernel
theorem dL_law_926 : decode cL_law 926 = .ok (.iconst 1, 1) := by decide +kernel
theorem dL_law_927 : decode cL_law 927 = .ok (.iadd, 1) := by decide +kernel
theorem dL_law_928 : decode cL_law 928 = .ok (.iaload, 1) := by decide +kernel
theorem dL_law_929 : decode cL_law 929 = .ok (.invokevirtual 186, 3) := by decide +kernel
theorem dL_law_932 : decode cL_law 932 = .ok (.istore 7, 2) := by decide +kernel
theorem dL_law_934 : decode cL_law 934 = .ok (.aload_n 2, 1) := by decide +kernel
theorem dL_law_935 : decode cL_law 935 = .ok (.invokevirtual 141, 3) := by decide +kernel
theorem dL_law_938 : decode cL_law 938 = .ok (.iload 6, 2) := by decide +kernel
theorem dL_law_940 : decode cL_law 940 = .ok (.if_icmp .eq 5, 3) := by decide +kernel
theorem dL_law_945 : decode cL_law 945 = .ok (.iload 6, 2) := by decide +kernel
theorem dL_law_947 : decode cL_law 947 = .ok (.ifCond .ne 15, 3) := by decide +kernel
theorem dL_law_962 : decode cL_law 962 = .ok (.goto 1276, 3) := by decide +kernel
theorem dL_law_965 : decode cL_law 965 = .ok (.aload_n 1, 1) := by decide +kernel
theorem dL_law_966 : decode cL_law 966 = .ok (.aload_n 0, 1) := by decide +kernel
theorem dL_law_967 : decode cL_law 967 = .ok (.iload 5, 2) := by decide +kernel
theorem dL_law_969 : decode cL_law 969 = .ok (.iconst 1, 1) := by decide +kernel
theorem dL_law_970 : decode cL_law 970 = .ok (.iadd, 1) := by decide +kernel
theorem dL_law_971 : decode cL_law 971 = .ok (.iaload, 1) := by decide +kernel
theorem dL_law_972 : decode cL_law 972 = .ok (.aload_n 0, 1) := by decide +kernel
theorem dL_law_973 : decode cL_law 973 = .ok (.iload 5, 2) := by decide +kernel
theorem dL_law_975 : decode cL_law 975 = .ok (.iconst 2, 1) := by decide +kernel
theorem dL_law_976 : decode cL_law 976 = .ok (.iadd, 1) := by decide +kernel
theorem dL_law_977 : decode cL_law 977 = .ok (.iaload, 1) := by decide +kernel
theorem dL_law_978 : decode cL_law 978 = .ok (.aload_n 3, 1) := by decide +kernel
theorem dL_law_979 : decode cL_law 979 = .ok (.invokestatic 187, 3) := by decide +kernel
theorem dL_law_982 : decode cL_law 982 = .ok (.istore 6, 2) := by decide +kernel
theorem dL_law_984 : decode cL_law 984 = .ok (.aload_n 2, 1) := by decide +kernel
theorem dL_law_985 : decode cL_law 985 = .ok (.aload_n 0, 1) := by decide +kernel
theorem dL_law_986 : decode cL_law 986 = .ok (.iload 5, 2) := by decide +kernel
theorem dL_law_988 : decode cL_law 988 = .ok (.iconst 1, 1) := by decide +kernel
theorem dL_law_989 : decode cL_law 989 = .ok (.iadd, 1) := by decide +kernel
theorem dL_law_990 : decode cL_law 990 = .ok (.iaload, 1) := by decide +kernel
theorem dL_law_991 : decode cL_law 991 = .ok (.aload_n 0, 1) := by decide +kernel
theorem dL_law_992 : decode cL_law 992 = .ok (.iload 5, 2) := by decide +kernel
theorem dL_law_994 : decode cL_law 994 = .ok (.iconst 2, 1) := by decide +kernel
theorem dL_law_995 : decode cL_law 995 = .ok (.iadd, 1) := by decide +kernel
theorem dL_law_996 : decode cL_law 996 = .ok (.iaload, 1) := by decide +kernel
theorem dL_law_997 : decode cL_law 997 = .ok (.invokevirtual 189, 3) := by decide +kernel
theorem dL_law_1000 : decode cL_law 1000 = .ok (.istore 7, 2) := by decide +kernel
theorem dL_law_1002 : decode cL_law 1002 = .ok (.aload_n 2, 1) := by decide +kernel
theorem dL_law_1003 : decode cL_law 1003 = .ok (.invokevirtual 141, 3) := by decide +kernel
theorem dL_law_1006 : decode cL_law 1006 = .ok (.iload 6, 2) := by decide +kernel
theorem dL_law_1008 : decode cL_law 1008 = .ok (.if_icmp .eq 5, 3) := by decide +kernel
theorem dL_law_1013 : decode cL_law 1013 = .ok (.iload 6, 2) := by decide +kernel
theorem dL_law_1015 : decode cL_law 1015 = .ok (.ifCond .ne 15, 3) := by decide +kernel
theorem dL_law_1030 : decode cL_law 1030 = .ok (.goto 1208, 3) := by decide +kernel
theorem dL_law_1033 : decode cL_law 1033 = .ok (.aload_n 1, 1) := by decide +kernel
theorem dL_law_1034 : decode cL_law 1034 = .ok (.aload_n 0, 1) := by decide +kernel
theorem dL_law_1035 : decode cL_law 1035 = .ok (.iload 5, 2) := by decide +kernel
theorem dL_law_1037 : decode cL_law 1037 = .ok (.iconst 1, 1) := by decide +kernel
theorem dL_law_1038 : decode cL_law 1038 = .ok (.iadd, 1) := by decide +kernel
theorem dL_law_1039 : decode cL_law 1039 = .ok (.iaload, 1) := by decide +kernel
theorem dL_law_1040 : decode cL_law 1040 = .ok (.aload_n 0, 1) := by decide +kernel
theorem dL_law_1041 : decode cL_law 1041 = .ok (.iload 5, 2) := by decide +kernel
theorem dL_law_1043 : decode cL_law 1043 = .ok (.iconst 2, 1) := by decide +kernel
theorem dL_law_1044 : decode cL_law 1044 = .ok (.iadd, 1) := by decide +kernel
theorem dL_law_1045 : decode cL_law 1045 = .ok (.iaload, 1) := by decide +kernel
theorem dL_law_1046 : decode cL_law 1046 = .ok (.aload_n 3, 1) := by decide +kernel
theorem dL_law_1047 : decode cL_law 1047 = .ok (.invokestatic 190, 3) := by decide +kernel
theorem dL_law_1050 : decode cL_law 1050 = .ok (.istore 6, 2) := by decide +kernel
theorem dL_law_1052 : decode cL_law 1052 = .ok (.aload_n 2, 1) := by decide +kernel
theorem dL_law_1053 : decode cL_law 1053 = .ok (.aload_n 0, 1) := by decide +kernel
theorem dL_law_1054 : decode cL_law 1054 = .ok (.iload 5, 2) := by decide +kernel
theorem dL_law_1056 : decode cL_law 1056 = .ok (.iconst 1, 1) := by decide +kernel
theorem dL_law_1057 : decode cL_law 1057 = .ok (.iadd, 1) := by decide +kernel
theorem dL_law_1058 : decode cL_law 1058 = .ok (.iaload, 1) := by decide +kernel
theorem dL_law_1059 : decode cL_law 1059 = .ok (.aload_n 0, 1) := by decide +kernel
theorem dL_law_1060 : decode cL_law 1060 = .ok (.iload 5, 2) := by decide +kernel
theorem dL_law_1062 : decode cL_law 1062 = .ok (.iconst 2, 1) := by decide +kernel
theorem dL_law_1063 : decode cL_law 1063 = .ok (.iadd, 1) := by decide +kernel
theorem dL_law_1064 : decode cL_law 1064 = .ok (.iaload, 1) := by decide +kernel
theorem dL_law_1065 : decode cL_law 1065 = .ok (.invokevirtual 192, 3) := by decide +kernel
theorem dL_law_1068 : decode cL_law 1068 = .ok (.istore 7, 2) := by decide +kernel
theorem dL_law_1070 : decode cL_law 1070 = .ok (.aload_n 2, 1) := by decide +kernel
theorem dL_law_1071 : decode cL_law 1071 = .ok (.invokevirtual 141, 3) := by decide +kernel
theorem dL_law_1074 : decode cL_law 1074 = .ok (.iload 6, 2) := by decide +kernel
theorem dL_law_1076 : decode cL_law 1076 = .ok (.if_icmp .eq 5, 3) := by decide +kernel
theorem dL_law_1081 : decode cL_law 1081 = .ok (.iload 6, 2) := by decide +kernel
theorem dL_law_1083 : decode cL_law 1083 = .ok (.ifCond .ne 15, 3) := by decide +kernel
theorem dL_law_1098 : decode cL_law 1098 = .ok (.goto 1140, 3) := by decide +kernel
theorem dL_law_1101 : decode cL_law 1101 = .ok (.aload_n 1, 1) := by decide +kernel
theorem dL_law_1102 : decode cL_law 1102 = .ok (.aload_n 0, 1) := by decide +kernel
theorem dL_law_1103 : decode cL_law 1103 = .ok (.iload 5, 2) := by decide +kernel
theorem dL_law_1105 : decode cL_law 1105 = .ok (.iconst 1, 1) := by decide +kernel
theorem dL_law_1106 : decode cL_law 1106 = .ok (.iadd, 1) := by decide +kernel
theorem dL_law_1107 : decode cL_law 1107 = .ok (.iaload, 1) := by decide +kernel
theorem dL_law_1108 : decode cL_law 1108 = .ok (.aload_n 3, 1) := by decide +kernel
theorem dL_law_1109 : decode cL_law 1109 = .ok (.invokestatic 193, 3) := by decide +kernel
theorem dL_law_1112 : decode cL_law 1112 = .ok (.istore 6, 2) := by decide +kernel
theorem dL_law_1114 : decode cL_law 1114 = .ok (.aload_n 2, 1) := by decide +kernel
theorem dL_law_1115 : decode cL_law 1115 = .ok (.aload_n 0, 1) := by decide +kernel
theorem dL_law_1116 : decode cL_law 1116 = .ok (.iload 5, 2) := by decide +kernel
theorem dL_law_1118 : decode cL_law 1118 = .ok (.iconst 1, 1) := by decide +kernel
theorem dL_law_1119 : decode cL_law 1119 = .ok (.iadd, 1) := by decide +kernel
theorem dL_law_1120 : decode cL_law 1120 = .ok (.iaload, 1) := by decide +kernel
theorem dL_law_1121 : decode cL_law 1121 = .ok (.invokevirtual 195, 3) := by decide +kernel
theorem dL_law_1124 : decode cL_law 1124 = .ok (.lstore 7, 2) := by decide +kernel
theorem dL_law_1126 : decode cL_law 1126 = .ok (.aload_n 2, 1) := by decide +kernel
theorem dL_law_1127 : decode cL_law 1127 = .ok (.invokevirtual 141, 3) := by decide +kernel
theorem dL_law_1130 : decode cL_law 1130 = .ok (.iload 6, 2) := by decide +kernel
theorem dL_law_1132 : decode cL_law 1132 = .ok (.if_icmp .eq 5, 3) := by decide +kernel
theorem dL_law_1137 : decode cL_law 1137 = .ok (.iload 6, 2) := by decide +kernel
theorem dL_law_1139 : decode cL_law 1139 = .ok (.ifCond .ne 14, 3) := by decide +kernel
theorem dL_law_1153 : decode cL_law 1153 = .ok (.goto 1085, 3) := by decide +kernel
theorem dL_law_1156 : decode cL_law 1156 = .ok (.aload_n 1, 1) := by decide +kernel
theorem dL_law_1157 : decode cL_law 1157 = .ok (.aload_n 0, 1) := by decide +kernel
theorem dL_law_1158 : decode cL_law 1158 = .ok (.iload 5, 2) := by decide +kernel
theorem dL_law_1160 : decode cL_law 1160 = .ok (.iconst 1, 1) := by decide +kernel
theorem dL_law_1161 : decode cL_law 1161 = .ok (.iadd, 1) := by decide +kernel
theorem dL_law_1162 : decode cL_law 1162 = .ok (.iaload, 1) := by decide +kernel
theorem dL_law_1163 : decode cL_law 1163 = .ok (.aload_n 0, 1) := by decide +kernel
theorem dL_law_1164 : decode cL_law 1164 = .ok (.iload 5, 2) := by decide +kernel
theorem dL_law_1166 : decode cL_law 1166 = .ok (.iconst 2, 1) := by decide +kernel
theorem dL_law_1167 : decode cL_law 1167 = .ok (.iadd, 1) := by decide +kernel
theorem dL_law_1168 : decode cL_law 1168 = .ok (.iaload, 1) := by decide +kernel
theorem dL_law_1169 : decode cL_law 1169 = .ok (.aload_n 3, 1) := by decide +kernel
theorem dL_law_1170 : decode cL_law 1170 = .ok (.invokestatic 196, 3) := by decide +kernel
theorem dL_law_1173 : decode cL_law 1173 = .ok (.istore 6, 2) := by decide +kernel
theorem dL_law_1175 : decode cL_law 1175 = .ok (.aload_n 2, 1) := by decide +kernel
theorem dL_law_1176 : decode cL_law 1176 = .ok (.aload_n 0, 1) := by decide +kernel
theorem dL_law_1177 : decode cL_law 1177 = .ok (.iload 5, 2) := by decide +kernel
theorem dL_law_1179 : decode cL_law 1179 = .ok (.iconst 1, 1) := by decide +kernel
theorem dL_law_1180 : decode cL_law 1180 = .ok (.iadd, 1) := by decide +kernel
theorem dL_law_1181 : decode cL_law 1181 = .ok (.iaload, 1) := by decide +kernel
theorem dL_law_1182 : decode cL_law 1182 = .ok (.aload_n 0, 1) := by decide +kernel
theorem dL_law_1183 : decode cL_law 1183 = .ok (.iload 5, 2) := by decide +kernel
theorem dL_law_1185 : decode cL_law 1185 = .ok (.iconst 2, 1) := by decide +kernel
theorem dL_law_1186 : decode cL_law 1186 = .ok (.iadd, 1) := by decide +kernel
theorem dL_law_1187 : decode cL_law 1187 = .ok (.iaload, 1) := by decide +kernel
theorem dL_law_1188 : decode cL_law 1188 = .ok (.invokevirtual 198, 3) := by decide +kernel
theorem dL_law_1191 : decode cL_law 1191 = .ok (.lstore 7, 2) := by decide +kernel
theorem dL_law_1193 : decode cL_law 1193 = .ok (.aload_n 2, 1) := by decide +kernel
theorem dL_law_1194 : decode cL_law 1194 = .ok (.invokevirtual 141, 3) := by decide +kernel
theorem dL_law_1197 : decode cL_law 1197 = .ok (.iload 6, 2) := by decide +kernel
theorem dL_law_1199 : decode cL_law 1199 = .ok (.if_icmp .eq 5, 3) := by decide +kernel
theorem dL_law_1204 : decode cL_law 1204 = .ok (.iload 6, 2) := by decide +kernel
theorem dL_law_1206 : decode cL_law 1206 = .ok (.ifCond .ne 14, 3) := by decide +kernel
theorem dL_law_1220 : decode cL_law 1220 = .ok (.goto 1018, 3) := by decide +kernel
theorem dL_law_1223 : decode cL_law 1223 = .ok (.aload_n 1, 1) := by decide +kernel
theorem dL_law_1224 : decode cL_law 1224 = .ok (.aload_n 3, 1) := by decide +kernel
theorem dL_law_1225 : decode cL_law 1225 = .ok (.invokestatic 199, 3) := by decide +kernel
theorem dL_law_1228 : decode cL_law 1228 = .ok (.istore 6, 2) := by decide +kernel
theorem dL_law_1230 : decode cL_law 1230 = .ok (.aload_n 2, 1) := by decide +kernel
theorem dL_law_1231 : decode cL_law 1231 = .ok (.invokevirtual 201, 3) := by decide +kernel
theorem dL_law_1234 : decode cL_law 1234 = .ok (.lstore 7, 2) := by decide +kernel
theorem dL_law_1236 : decode cL_law 1236 = .ok (.aload_n 2, 1) := by decide +kernel
theorem dL_law_1237 : decode cL_law 1237 = .ok (.invokevirtual 141, 3) := by decide +kernel
theorem dL_law_1240 : decode cL_law 1240 = .ok (.iload 6, 2) := by decide +kernel
theorem dL_law_1242 : decode cL_law 1242 = .ok (.if_icmp .eq 5, 3) := by decide +kernel
theorem dL_law_1247 : decode cL_law 1247 = .ok (.iload 6, 2) := by decide +kernel
theorem dL_law_1249 : decode cL_law 1249 = .ok (.ifCond .ne 14, 3) := by decide +kernel
theorem dL_law_1263 : decode cL_law 1263 = .ok (.goto 975, 3) := by decide +kernel
theorem dL_law_1266 : decode cL_law 1266 = .ok (.aload_n 1, 1) := by decide +kernel
theorem dL_law_1267 : decode cL_law 1267 = .ok (.aload_n 0, 1) := by decide +kernel
theorem dL_law_1268 : decode cL_law 1268 = .ok (.iload 5, 2) := by decide +kernel
theorem dL_law_1270 : decode cL_law 1270 = .ok (.iconst 1, 1) := by decide +kernel
theorem dL_law_1271 : decode cL_law 1271 = .ok (.iadd, 1) := by decide +kernel
theorem dL_law_1272 : decode cL_law 1272 = .ok (.iaload, 1) := by decide +kernel
theorem dL_law_1273 : decode cL_law 1273 = .ok (.aload_n 0, 1) := by decide +kernel
theorem dL_law_1274 : decode cL_law 1274 = .ok (.iload 5, 2) := by decide +kernel
theorem dL_law_1276 : decode cL_law 1276 = .ok (.iconst 2, 1) := by decide +kernel
theorem dL_law_1277 : decode cL_law 1277 = .ok (.iadd, 1) := by decide +kernel
theorem dL_law_1278 : decode cL_law 1278 = .ok (.iaload, 1) := by decide +kernel
theorem dL_law_1279 : decode cL_law 1279 = .ok (.aload_n 0, 1) := by decide +kernel
theorem dL_law_1280 : decode cL_law 1280 = .ok (.iload 5, 2) := by decide +kernel
theorem dL_law_1282 : decode cL_law 1282 = .ok (.iconst 3, 1) := by decide +kernel
theorem dL_law_1283 : decode cL_law 1283 = .ok (.iadd, 1) := by decide +kernel
theorem dL_law_1284 : decode cL_law 1284 = .ok (.iaload, 1) := by decide +kernel
theorem dL_law_1285 : decode cL_law 1285 = .ok (.aload_n 0, 1) := by decide +kernel
theorem dL_law_1286 : decode cL_law 1286 = .ok (.iload 5, 2) := by decide +kernel
theorem dL_law_1288 : decode cL_law 1288 = .ok (.iconst 4, 1) := by decide +kernel
theorem dL_law_1289 : decode cL_law 1289 = .ok (.iadd, 1) := by decide +kernel
theorem dL_law_1290 : decode cL_law 1290 = .ok (.iaload, 1) := by decide +kernel
theorem dL_law_1291 : decode cL_law 1291 = .ok (.aload_n 3, 1) := by decide +kernel
theorem dL_law_1292 : decode cL_law 1292 = .ok (.invokestatic 202, 3) := by decide +kernel
theorem dL_law_1295 : decode cL_law 1295 = .ok (.istore 6, 2) := by decide +kernel
theorem dL_law_1297 : decode cL_law 1297 = .ok (.aload_n 2, 1) := by decide +kernel
theorem dL_law_1298 : decode cL_law 1298 = .ok (.aload_n 0, 1) := by decide +kernel
theorem dL_law_1299 : decode cL_law 1299 = .ok (.iload 5, 2) := by decide +kernel
theorem dL_law_1301 : decode cL_law 1301 = .ok (.iconst 1, 1) := by decide +kernel
theorem dL_law_1302 : decode cL_law 1302 = .ok (.iadd, 1) := by decide +kernel
theorem dL_law_1303 : decode cL_law 1303 = .ok (.iaload, 1) := by decide +kernel
theorem dL_law_1304 : decode cL_law 1304 = .ok (.aload_n 0, 1) := by decide +kernel
theorem dL_law_1305 : decode cL_law 1305 = .ok (.iload 5, 2) := by decide +kernel
theorem dL_law_1307 : decode cL_law 1307 = .ok (.iconst 2, 1) := by decide +kernel
theorem dL_law_1308 : decode cL_law 1308 = .ok (.iadd, 1) := by decide +kernel
theorem dL_law_1309 : decode cL_law 1309 = .ok (.iaload, 1) := by decide +kernel
theorem dL_law_1310 : decode cL_law 1310 = .ok (.aload_n 0, 1) := by decide +kernel
theorem dL_law_1311 : decode cL_law 1311 = .ok (.iload 5, 2) := by decide +kernel
theorem dL_law_1313 : decode cL_law 1313 = .ok (.iconst 3, 1) := by decide +kernel
theorem dL_law_1314 : decode cL_law 1314 = .ok (.iadd, 1) := by decide +kernel
theorem dL_law_1315 : decode cL_law 1315 = .ok (.iaload, 1) := by decide +kernel
theorem dL_law_1316 : decode cL_law 1316 = .ok (.aload_n 0, 1) := by decide +kernel
theorem dL_law_1317 : decode cL_law 1317 = .ok (.iload 5, 2) := by decide +kernel
theorem dL_law_1319 : decode cL_law 1319 = .ok (.iconst 4, 1) := by decide +kernel
theorem dL_law_1320 : decode cL_law 1320 = .ok (.iadd, 1) := by decide +kernel
theorem dL_law_1321 : decode cL_law 1321 = .ok (.iaload, 1) := by decide +kernel
theorem dL_law_1322 : decode cL_law 1322 = .ok (.invokevirtual 205, 3) := by decide +kernel
theorem dL_law_1325 : decode cL_law 1325 = .ok (.istore 7, 2) := by decide +kernel
theorem dL_law_1327 : decode cL_law 1327 = .ok (.aload_n 2, 1) := by decide +kernel
theorem dL_law_1328 : decode cL_law 1328 = .ok (.invokevirtual 141, 3) := by decide +kernel
theorem dL_law_1331 : decode cL_law 1331 = .ok (.iload 6, 2) := by decide +kernel
theorem dL_law_1333 : decode cL_law 1333 = .ok (.if_icmp .eq 5, 3) := by decide +kernel
theorem dL_law_1338 : decode cL_law 1338 = .ok (.iload 6, 2) := by decide +kernel
theorem dL_law_1340 : decode cL_law 1340 = .ok (.ifCond .ne 22, 3) := by decide +kernel
theorem dL_law_1362 : decode cL_law 1362 = .ok (.goto 876, 3) := by decide +kernel
theorem dL_law_1365 : decode cL_law 1365 = .ok (.aload_n 1, 1) := by decide +kernel
theorem dL_law_1366 : decode cL_law 1366 = .ok (.aload_n 0, 1) := by decide +kernel
theorem dL_law_1367 : decode cL_law 1367 = .ok (.iload 5, 2) := by decide +kernel
theorem dL_law_1369 : decode cL_law 1369 = .ok (.iconst 1, 1) := by decide +kernel
theorem dL_law_1370 : decode cL_law 1370 = .ok (.iadd, 1) := by decide +kernel
theorem dL_law_1371 : decode cL_law 1371 = .ok (.iaload, 1) := by decide +kernel
theorem dL_law_1372 : decode cL_law 1372 = .ok (.aload_n 3, 1) := by decide +kernel
theorem dL_law_1373 : decode cL_law 1373 = .ok (.invokestatic 206, 3) := by decide +kernel
theorem dL_law_1376 : decode cL_law 1376 = .ok (.istore 6, 2) := by decide +kernel
theorem dL_law_1378 : decode cL_law 1378 = .ok (.aload_n 2, 1) := by decide +kernel
theorem dL_law_1379 : decode cL_law 1379 = .ok (.aload_n 0, 1) := by decide +kernel
theorem dL_law_1380 : decode cL_law 1380 = .ok (.iload 5, 2) := by decide +kernel
theorem dL_law_1382 : decode cL_law 1382 = .ok (.iconst 1, 1) := by decide +kernel
theorem dL_law_1383 : decode cL_law 1383 = .ok (.iadd, 1) := by decide +kernel
theorem dL_law_1384 : decode cL_law 1384 = .ok (.iaload, 1) := by decide +kernel
theorem dL_law_1385 : decode cL_law 1385 = .ok (.invokevirtual 208, 3) := by decide +kernel
theorem dL_law_1388 : decode cL_law 1388 = .ok (.istore 7, 2) := by decide +kernel
theorem dL_law_1390 : decode cL_law 1390 = .ok (.aload_n 2, 1) := by decide +kernel
theorem dL_law_1391 : decode cL_law 1391 = .ok (.invokevirtual 141, 3) := by decide +kernel
theorem dL_law_1394 : decode cL_law 1394 = .ok (.iload 6, 2) := by decide +kernel
theorem dL_law_1396 : decode cL_law 1396 = .ok (.if_icmp .eq 5, 3) := by decide +kernel
theorem dL_law_1401 : decode cL_law 1401 = .ok (.iload 6, 2) := by decide +kernel
theorem dL_law_1403 : decode cL_law 1403 = .ok (.ifCond .ne 22, 3) := by decide +kernel
theorem dL_law_1425 : decode cL_law 1425 = .ok (.goto 813, 3) := by decide +kernel
theorem dL_law_1428 : decode cL_law 1428 = .ok (.aload_n 1, 1) := by decide +kernel
theorem dL_law_1429 : decode cL_law 1429 = .ok (.aload_n 3, 1) := by decide +kernel
theorem dL_law_1430 : decode cL_law 1430 = .ok (.invokestatic 209, 3) := by decide +kernel
theorem dL_law_1433 : decode cL_law 1433 = .ok (.istore 6, 2) := by decide +kernel
theorem dL_law_1435 : decode cL_law 1435 = .ok (.aload_n 2, 1) := by decide +kernel
theorem dL_law_1436 : decode cL_law 1436 = .ok (.invokevirtual 211, 3) := by decide +kernel
theorem dL_law_1439 : decode cL_law 1439 = .ok (.lstore 7, 2) := by decide +kernel
theorem dL_law_1441 : decode cL_law 1441 = .ok (.aload_n 2, 1) := by decide +kernel
theorem dL_law_1442 : decode cL_law 1442 = .ok (.invokevirtual 141, 3) := by decide +kernel
theorem dL_law_1445 : decode cL_law 1445 = .ok (.iload 6, 2) := by decide +kernel
theorem dL_law_1447 : decode cL_law 1447 = .ok (.if_icmp .eq 5, 3) := by decide +kernel
theorem dL_law_1452 : decode cL_law 1452 = .ok (.iload 6, 2) := by decide +kernel
theorem dL_law_1454 : decode cL_law 1454 = .ok (.ifCond .ne 14, 3) := by decide +kernel
theorem dL_law_1468 : decode cL_law 1468 = .ok (.goto 770, 3) := by decide +kernel
theorem dL_law_1471 : decode cL_law 1471 = .ok (.aload_n 1, 1) := by decide +kernel
theorem dL_law_1472 : decode cL_law 1472 = .ok (.aload_n 0, 1) := by decide +kernel
theorem dL_law_1473 : decode cL_law 1473 = .ok (.iload 5, 2) := by decide +kernel
theorem dL_law_1475 : decode cL_law 1475 = .ok (.iconst 1, 1) := by decide +kernel
theorem dL_law_1476 : decode cL_law 1476 = .ok (.iadd, 1) := by decide +kernel
theorem dL_law_1477 : decode cL_law 1477 = .ok (.iaload, 1) := by decide +kernel
theorem dL_law_1478 : decode cL_law 1478 = .ok (.aload_n 3, 1) := by decide +kernel
theorem dL_law_1479 : decode cL_law 1479 = .ok (.invokestatic 212, 3) := by decide +kernel
theorem dL_law_1482 : decode cL_law 1482 = .ok (.istore 6, 2) := by decide +kernel
theorem dL_law_1484 : decode cL_law 1484 = .ok (.aload_n 2, 1) := by decide +kernel
theorem dL_law_1485 : decode cL_law 1485 = .ok (.aload_n 0, 1) := by decide +kernel
theorem dL_law_1486 : decode cL_law 1486 = .ok (.iload 5, 2) := by decide +kernel
theorem dL_law_1488 : decode cL_law 1488 = .ok (.iconst 1, 1) := by decide +kernel
theorem dL_law_1489 : decode cL_law 1489 = .ok (.iadd, 1) := by decide +kernel
theorem dL_law_1490 : decode cL_law 1490 = .ok (.iaload, 1) := by decide +kernel
theorem dL_law_1491 : decode cL_law 1491 = .ok (.invokevirtual 214, 3) := by decide +kernel
theorem dL_law_1494 : decode cL_law 1494 = .ok (.lstore 7, 2) := by decide +kernel
theorem dL_law_1496 : decode cL_law 1496 = .ok (.aload_n 2, 1) := by decide +kernel
theorem dL_law_1497 : decode cL_law 1497 = .ok (.invokevirtual 141, 3) := by decide +kernel
theorem dL_law_1500 : decode cL_law 1500 = .ok (.iload 6, 2) := by decide +kernel
theorem dL_law_1502 : decode cL_law 1502 = .ok (.if_icmp .eq 5, 3) := by decide +kernel
theorem dL_law_1507 : decode cL_law 1507 = .ok (.iload 6, 2) := by decide +kernel
theorem dL_law_1509 : decode cL_law 1509 = .ok (.ifCond .ne 14, 3) := by decide +kernel
theorem dL_law_1523 : decode cL_law 1523 = .ok (.goto 715, 3) := by decide +kernel
theorem dL_law_1526 : decode cL_law 1526 = .ok (.aload_n 1, 1) := by decide +kernel
theorem dL_law_1527 : decode cL_law 1527 = .ok (.aload_n 3, 1) := by decide +kernel
theorem dL_law_1528 : decode cL_law 1528 = .ok (.invokestatic 215, 3) := by decide +kernel
theorem dL_law_1531 : decode cL_law 1531 = .ok (.istore 6, 2) := by decide +kernel
theorem dL_law_1533 : decode cL_law 1533 = .ok (.aload_n 2, 1) := by decide +kernel
theorem dL_law_1534 : decode cL_law 1534 = .ok (.invokevirtual 217, 3) := by decide +kernel
theorem dL_law_1537 : decode cL_law 1537 = .ok (.istore 7, 2) := by decide +kernel
theorem dL_law_1539 : decode cL_law 1539 = .ok (.aload_n 2, 1) := by decide +kernel
theorem dL_law_1540 : decode cL_law 1540 = .ok (.invokevirtual 141, 3) := by decide +kernel
theorem dL_law_1543 : decode cL_law 1543 = .ok (.iload 6, 2) := by decide +kernel
theorem dL_law_1545 : decode cL_law 1545 = .ok (.if_icmp .eq 5, 3) := by decide +kernel
theorem dL_law_1550 : decode cL_law 1550 = .ok (.iload 6, 2) := by decide +kernel
theorem dL_law_1552 : decode cL_law 1552 = .ok (.ifCond .ne 15, 3) := by decide +kernel
theorem dL_law_1555 : decode cL_law 1555 = .ok (.aload_n 3, 1) := by decide +kernel
theorem dL_law_1556 : decode cL_law 1556 = .ok (.iconst 0, 1) := by decide +kernel
theorem dL_law_1557 : decode cL_law 1557 = .ok (.laload, 1) := by decide +kernel
theorem dL_law_1558 : decode cL_law 1558 = .ok (.iload 7, 2) := by decide +kernel
theorem dL_law_1560 : decode cL_law 1560 = .ok (.i2l, 1) := by decide +kernel
theorem dL_law_1561 : decode cL_law 1561 = .ok (.lcmp, 1) := by decide +kernel
theorem dL_law_1562 : decode cL_law 1562 = .ok (.ifCond .eq 5, 3) := by decide +kernel
theorem dL_law_1567 : decode cL_law 1567 = .ok (.goto 671, 3) := by decide +kernel
theorem dL_law_1570 : decode cL_law 1570 = .ok (.aload_n 1, 1) := by decide +kernel
theorem dL_law_1571 : decode cL_law 1571 = .ok (.aload_n 0, 1) := by decide +kernel
theorem dL_law_1572 : decode cL_law 1572 = .ok (.iload 5, 2) := by decide +kernel
theorem dL_law_1574 : decode cL_law 1574 = .ok (.iconst 1, 1) := by decide +kernel
theorem dL_law_1575 : decode cL_law 1575 = .ok (.iadd, 1) := by decide +kernel
theorem dL_law_1576 : decode cL_law 1576 = .ok (.iaload, 1) := by decide +kernel
theorem dL_law_1577 : decode cL_law 1577 = .ok (.aload_n 0, 1) := by decide +kernel
theorem dL_law_1578 : decode cL_law 1578 = .ok (.iload 5, 2) := by decide +kernel
theorem dL_law_1580 : decode cL_law 1580 = .ok (.iconst 2, 1) := by decide +kernel
theorem dL_law_1581 : decode cL_law 1581 = .ok (.iadd, 1) := by decide +kernel
theorem dL_law_1582 : decode cL_law 1582 = .ok (.iaload, 1) := by decide +kernel
theorem dL_law_1583 : decode cL_law 1583 = .ok (.aload_n 0, 1) := by decide +kernel
theorem dL_law_1584 : decode cL_law 1584 = .ok (.iload 5, 2) := by decide +kernel
theorem dL_law_1586 : decode cL_law 1586 = .ok (.iconst 3, 1) := by decide +kernel
theorem dL_law_1587 : decode cL_law 1587 = .ok (.iadd, 1) := by decide +kernel
theorem dL_law_1588 : decode cL_law 1588 = .ok (.iaload, 1) := by decide +kernel
theorem dL_law_1589 : decode cL_law 1589 = .ok (.aload_n 3, 1) := by decide +kernel
theorem dL_law_1590 : decode cL_law 1590 = .ok (.invokestatic 218, 3) := by decide +kernel
theorem dL_law_1593 : decode cL_law 1593 = .ok (.istore 6, 2) := by decide +kernel
theorem dL_law_1595 : decode cL_law 1595 = .ok (.aload_n 2, 1) := by decide +kernel
theorem dL_law_1596 : decode cL_law 1596 = .ok (.aload_n 0, 1) := by decide +kernel
theorem dL_law_1597 : decode cL_law 1597 = .ok (.iload 5, 2) := by decide +kernel
theorem dL_law_1599 : decode cL_law 1599 = .ok (.iconst 1, 1) := by decide +kernel
theorem dL_law_1600 : decode cL_law 1600 = .ok (.iadd, 1) := by decide +kernel
theorem dL_law_1601 : decode cL_law 1601 = .ok (.iaload, 1) := by decide +kernel
theorem dL_law_1602 : decode cL_law 1602 = .ok (.aload_n 0, 1) := by decide +kernel
theorem dL_law_1603 : decode cL_law 1603 = .ok (.iload 5, 2) := by decide +kernel
theorem dL_law_1605 : decode cL_law 1605 = .ok (.iconst 2, 1) := by decide +kernel
theorem dL_law_1606 : decode cL_law 1606 = .ok (.iadd, 1) := by decide +kernel
theorem dL_law_1607 : decode cL_law 1607 = .ok (.iaload, 1) := by decide +kernel
theorem dL_law_1608 : decode cL_law 1608 = .ok (.aload_n 0, 1) := by decide +kernel
theorem dL_law_1609 : decode cL_law 1609 = .ok (.iload 5, 2) := by decide +kernel
theorem dL_law_1611 : decode cL_law 1611 = .ok (.iconst 3, 1) := by decide +kernel
theorem dL_law_1612 : decode cL_law 1612 = .ok (.iadd, 1) := by decide +kernel
theorem dL_law_1613 : decode cL_law 1613 = .ok (.iaload, 1) := by decide +kernel
theorem dL_law_1614 : decode cL_law 1614 = .ok (.invokevirtual 221, 3) := by decide +kernel
theorem dL_law_1617 : decode cL_law 1617 = .ok (.istore 7, 2) := by decide +kernel
theorem dL_law_1619 : decode cL_law 1619 = .ok (.aload_n 2, 1) := by decide +kernel
theorem dL_law_1620 : decode cL_law 1620 = .ok (.invokevirtual 141, 3) := by decide +kernel
theorem dL_law_1623 : decode cL_law 1623 = .ok (.iload 6, 2) := by decide +kernel
theorem dL_law_1625 : decode cL_law 1625 = .ok (.if_icmp .eq 5, 3) := by decide +kernel
theorem dL_law_1630 : decode cL_law 1630 = .ok (.iload 6, 2) := by decide +kernel
theorem dL_law_1632 : decode cL_law 1632 = .ok (.ifCond .ne 15, 3) := by decide +kernel
theorem dL_law_1647 : decode cL_law 1647 = .ok (.goto 591, 3) := by decide +kernel
theorem dL_law_1650 : decode cL_law 1650 = .ok (.aload_n 1, 1) := by decide +kernel
theorem dL_law_1651 : decode cL_law 1651 = .ok (.aload_n 0, 1) := by decide +kernel
theorem dL_law_1652 : decode cL_law 1652 = .ok (.iload 5, 2) := by decide +kernel
theorem dL_law_1654 : decode cL_law 1654 = .ok (.iconst 1, 1) := by decide +kernel
theorem dL_law_1655 : decode cL_law 1655 = .ok (.iadd, 1) := by decide +kernel
theorem dL_law_1656 : decode cL_law 1656 = .ok (.iaload, 1) := by decide +kernel
theorem dL_law_1657 : decode cL_law 1657 = .ok (.aload_n 3, 1) := by decide +kernel
theorem dL_law_1658 : decode cL_law 1658 = .ok (.invokestatic 222, 3) := by decide +kernel
theorem dL_law_1661 : decode cL_law 1661 = .ok (.istore 6, 2) := by decide +kernel
theorem dL_law_1663 : decode cL_law 1663 = .ok (.aload_n 2, 1) := by decide +kernel
theorem dL_law_1664 : decode cL_law 1664 = .ok (.aload_n 0, 1) := by decide +kernel
theorem dL_law_1665 : decode cL_law 1665 = .ok (.iload 5, 2) := by decide +kernel
theorem dL_law_1667 : decode cL_law 1667 = .ok (.iconst 1, 1) := by decide +kernel
theorem dL_law_1668 : decode cL_law 1668 = .ok (.iadd, 1) := by decide +kernel
theorem dL_law_1669 : decode cL_law 1669 = .ok (.iaload, 1) := by decide +kernel
theorem dL_law_1670 : decode cL_law 1670 = .ok (.invokevirtual 224, 3) := by decide +kernel
theorem dL_law_1673 : decode cL_law 1673 = .ok (.istore 7, 2) := by decide +kernel
theorem dL_law_1675 : decode cL_law 1675 = .ok (.aload_n 2, 1) := by decide +kernel
theorem dL_law_1676 : decode cL_law 1676 = .ok (.invokevirtual 141, 3) := by decide +kernel
theorem dL_law_1679 : decode cL_law 1679 = .ok (.iload 6, 2) := by decide +kernel
theorem dL_law_1681 : decode cL_law 1681 = .ok (.if_icmp .eq 5, 3) := by decide +kernel
theorem dL_law_1686 : decode cL_law 1686 = .ok (.iload 6, 2) := by decide +kernel
theorem dL_law_1688 : decode cL_law 1688 = .ok (.ifCond .ne 15, 3) := by decide +kernel
theorem dL_law_1703 : decode cL_law 1703 = .ok (.goto 535, 3) := by decide +kernel
theorem dL_law_1706 : decode cL_law 1706 = .ok (.aload_n 1, 1) := by decide +kernel
theorem dL_law_1707 : decode cL_law 1707 = .ok (.aload_n 0, 1) := by decide +kernel
theorem dL_law_1708 : decode cL_law 1708 = .ok (.iload 5, 2) := by decide +kernel
theorem dL_law_1710 : decode cL_law 1710 = .ok (.iconst 1, 1) := by decide +kernel
theorem dL_law_1711 : decode cL_law 1711 = .ok (.iadd, 1) := by decide +kernel
theorem dL_law_1712 : decode cL_law 1712 = .ok (.iaload, 1) := by decide +kernel
theorem dL_law_1713 : decode cL_law 1713 = .ok (.aload_n 0, 1) := by decide +kernel
theorem dL_law_1714 : decode cL_law 1714 = .ok (.iload 5, 2) := by decide +kernel
theorem dL_law_1716 : decode cL_law 1716 = .ok (.iconst 2, 1) := by decide +kernel
theorem dL_law_1717 : decode cL_law 1717 = .ok (.iadd, 1) := by decide +kernel
theorem dL_law_1718 : decode cL_law 1718 = .ok (.iaload, 1) := by decide +kernel
theorem dL_law_1719 : decode cL_law 1719 = .ok (.aload_n 3, 1) := by decide +kernel
theorem dL_law_1720 : decode cL_law 1720 = .ok (.invokestatic 225, 3) := by decide +kernel
theorem dL_law_1723 : decode cL_law 1723 = .ok (.istore 6, 2) := by decide +kernel
theorem dL_law_1725 : decode cL_law 1725 = .ok (.aload_n 2, 1) := by decide +kernel
theorem dL_law_1726 : decode cL_law 1726 = .ok (.aload_n 0, 1) := by decide +kernel
theorem dL_law_1727 : decode cL_law 1727 = .ok (.iload 5, 2) := by decide +kernel
theorem dL_law_1729 : decode cL_law 1729 = .ok (.iconst 1, 1) := by decide +kernel
theorem dL_law_1730 : decode cL_law 1730 = .ok (.iadd, 1) := by decide +kernel
theorem dL_law_1731 : decode cL_law 1731 = .ok (.iaload, 1) := by decide +kernel
theorem dL_law_1732 : decode cL_law 1732 = .ok (.aload_n 0, 1) := by decide +kernel
theorem dL_law_1733 : decode cL_law 1733 = .ok (.iload 5, 2) := by decide +kernel
theorem dL_law_1735 : decode cL_law 1735 = .ok (.iconst 2, 1) := by decide +kernel
theorem dL_law_1736 : decode cL_law 1736 = .ok (.iadd, 1) := by decide +kernel
theorem dL_law_1737 : decode cL_law 1737 = .ok (.iaload, 1) := by decide +kernel
theorem dL_law_1738 : decode cL_law 1738 = .ok (.invokevirtual 227, 3) := by decide +kernel
theorem dL_law_1741 : decode cL_law 1741 = .ok (.istore 7, 2) := by decide +kernel
theorem dL_law_1743 : decode cL_law 1743 = .ok (.aload_n 2, 1) := by decide +kernel
theorem dL_law_1744 : decode cL_law 1744 = .ok (.invokevirtual 141, 3) := by decide +kernel
theorem dL_law_1747 : decode cL_law 1747 = .ok (.iload 6, 2) := by decide +kernel
theorem dL_law_1749 : decode cL_law 1749 = .ok (.if_icmp .eq 5, 3) := by decide +kernel
theorem dL_law_1754 : decode cL_law 1754 = .ok (.iload 6, 2) := by decide +kernel
theorem dL_law_1756 : decode cL_law 1756 = .ok (.ifCond .ne 15, 3) := by decide +kernel
theorem dL_law_1771 : decode cL_law 1771 = .ok (.goto 467, 3) := by decide +kernel
theorem dL_law_1774 : decode cL_law 1774 = .ok (.aload_n 1, 1) := by decide +kernel
theorem dL_law_1775 : decode cL_law 1775 = .ok (.invokevirtual 228, 3) := by decide +kernel
theorem dL_law_1778 : decode cL_law 1778 = .ok (.aload_n 2, 1) := by decide +kernel
theorem dL_law_1779 : decode cL_law 1779 = .ok (.invokevirtual 231, 3) := by decide +kernel
theorem dL_law_1782 : decode cL_law 1782 = .ok (.if_icmp .eq 456, 3) := by decide +kernel
theorem dL_law_1787 : decode cL_law 1787 = .ok (.aload_n 1, 1) := by decide +kernel
theorem dL_law_1788 : decode cL_law 1788 = .ok (.aload_n 0, 1) := by decide +kernel
theorem dL_law_1789 : decode cL_law 1789 = .ok (.iload 5, 2) := by decide +kernel
theorem dL_law_1791 : decode cL_law 1791 = .ok (.iconst 1, 1) := by decide +kernel
theorem dL_law_1792 : decode cL_law 1792 = .ok (.iadd, 1) := by decide +kernel
theorem dL_law_1793 : decode cL_law 1793 = .ok (.iaload, 1) := by decide +kernel
theorem dL_law_1794 : decode cL_law 1794 = .ok (.aload_n 3, 1) := by decide +kernel
theorem dL_law_1795 : decode cL_law 1795 = .ok (.invokestatic 232, 3) := by decide +kernel
theorem dL_law_1798 : decode cL_law 1798 = .ok (.istore 6, 2) := by decide +kernel
theorem dL_law_1800 : decode cL_law 1800 = .ok (.aload_n 2, 1) := by decide +kernel
theorem dL_law_1801 : decode cL_law 1801 = .ok (.aload_n 0, 1) := by decide +kernel
theorem dL_law_1802 : decode cL_law 1802 = .ok (.iload 5, 2) := by decide +kernel
theorem dL_law_1804 : decode cL_law 1804 = .ok (.iconst 1, 1) := by decide +kernel
theorem dL_law_1805 : decode cL_law 1805 = .ok (.iadd, 1) := by decide +kernel
theorem dL_law_1806 : decode cL_law 1806 = .ok (.iaload, 1) := by decide +kernel
theorem dL_law_1807 : decode cL_law 1807 = .ok (.invokevirtual 234, 3) := by decide +kernel
theorem dL_law_1810 : decode cL_law 1810 = .ok (.istore 7, 2) := by decide +kernel
theorem dL_law_1812 : decode cL_law 1812 = .ok (.aload_n 2, 1) := by decide +kernel
theorem dL_law_1813 : decode cL_law 1813 = .ok (.invokevirtual 141, 3) := by decide +kernel
theorem dL_law_1816 : decode cL_law 1816 = .ok (.iload 6, 2) := by decide +kernel
theorem dL_law_1818 : decode cL_law 1818 = .ok (.if_icmp .eq 5, 3) := by decide +kernel
theorem dL_law_1823 : decode cL_law 1823 = .ok (.iload 6, 2) := by decide +kernel
theorem dL_law_1825 : decode cL_law 1825 = .ok (.ifCond .ne 15, 3) := by decide +kernel
theorem dL_law_1840 : decode cL_law 1840 = .ok (.goto 398, 3) := by decide +kernel
theorem dL_law_1843 : decode cL_law 1843 = .ok (.aload_n 1, 1) := by decide +kernel
theorem dL_law_1844 : decode cL_law 1844 = .ok (.aload_n 0, 1) := by decide +kernel
theorem dL_law_1845 : decode cL_law 1845 = .ok (.iload 5, 2) := by decide +kernel
theorem dL_law_1847 : decode cL_law 1847 = .ok (.iconst 1, 1) := by decide +kernel
theorem dL_law_1848 : decode cL_law 1848 = .ok (.iadd, 1) := by decide +kernel
theorem dL_law_1849 : decode cL_law 1849 = .ok (.iaload, 1) := by decide +kernel
theorem dL_law_1850 : decode cL_law 1850 = .ok (.aload_n 0, 1) := by decide +kernel
theorem dL_law_1851 : decode cL_law 1851 = .ok (.iload 5, 2) := by decide +kernel
theorem dL_law_1853 : decode cL_law 1853 = .ok (.iconst 2, 1) := by decide +kernel
theorem dL_law_1854 : decode cL_law 1854 = .ok (.iadd, 1) := by decide +kernel
theorem dL_law_1855 : decode cL_law 1855 = .ok (.iaload, 1) := by decide +kernel
theorem dL_law_1856 : decode cL_law 1856 = .ok (.aload_n 3, 1) := by decide +kernel
theorem dL_law_1857 : decode cL_law 1857 = .ok (.invokestatic 235, 3) := by decide +kernel
theorem dL_law_1860 : decode cL_law 1860 = .ok (.istore 6, 2) := by decide +kernel
theorem dL_law_1862 : decode cL_law 1862 = .ok (.aload_n 2, 1) := by decide +kernel
theorem dL_law_1863 : decode cL_law 1863 = .ok (.aload_n 0, 1) := by decide +kernel
theorem dL_law_1864 : decode cL_law 1864 = .ok (.iload 5, 2) := by decide +kernel
theorem dL_law_1866 : decode cL_law 1866 = .ok (.iconst 1, 1) := by decide +kernel
theorem dL_law_1867 : decode cL_law 1867 = .ok (.iadd, 1) := by decide +kernel
theorem dL_law_1868 : decode cL_law 1868 = .ok (.iaload, 1) := by decide +kernel
theorem dL_law_1869 : decode cL_law 1869 = .ok (.aload_n 0, 1) := by decide +kernel
theorem dL_law_1870 : decode cL_law 1870 = .ok (.iload 5, 2) := by decide +kernel
theorem dL_law_1872 : decode cL_law 1872 = .ok (.iconst 2, 1) := by decide +kernel
theorem dL_law_1873 : decode cL_law 1873 = .ok (.iadd, 1) := by decide +kernel
theorem dL_law_1874 : decode cL_law 1874 = .ok (.iaload, 1) := by decide +kernel
theorem dL_law_1875 : decode cL_law 1875 = .ok (.invokevirtual 237, 3) := by decide +kernel
theorem dL_law_1878 : decode cL_law 1878 = .ok (.istore 7, 2) := by decide +kernel
theorem dL_law_1880 : decode cL_law 1880 = .ok (.aload_n 2, 1) := by decide +kernel
theorem dL_law_1881 : decode cL_law 1881 = .ok (.invokevirtual 141, 3) := by decide +kernel
theorem dL_law_1884 : decode cL_law 1884 = .ok (.iload 6, 2) := by decide +kernel
theorem dL_law_1886 : decode cL_law 1886 = .ok (.if_icmp .eq 5, 3) := by decide +kernel
theorem dL_law_1891 : decode cL_law 1891 = .ok (.iload 6, 2) := by decide +kernel
theorem dL_law_1893 : decode cL_law 1893 = .ok (.ifCond .ne 15, 3) := by decide +kernel
theorem dL_law_1908 : decode cL_law 1908 = .ok (.goto 330, 3) := by decide +kernel
theorem dL_law_1911 : decode cL_law 1911 = .ok (.aload_n 1, 1) := by decide +kernel
theorem dL_law_1912 : decode cL_law 1912 = .ok (.aload_n 0, 1) := by decide +kernel
theorem dL_law_1913 : decode cL_law 1913 = .ok (.iload 5, 2) := by decide +kernel
theorem dL_law_1915 : decode cL_law 1915 = .ok (.iconst 1, 1) := by decide +kernel
theorem dL_law_1916 : decode cL_law 1916 = .ok (.iadd, 1) := by decide +kernel
theorem dL_law_1917 : decode cL_law 1917 = .ok (.iaload, 1) := by decide +kernel
theorem dL_law_1918 : decode cL_law 1918 = .ok (.aload_n 3, 1) := by decide +kernel
theorem dL_law_1919 : decode cL_law 1919 = .ok (.invokestatic 238, 3) := by decide +kernel
theorem dL_law_1922 : decode cL_law 1922 = .ok (.istore 6, 2) := by decide +kernel
theorem dL_law_1924 : decode cL_law 1924 = .ok (.aload_n 2, 1) := by decide +kernel
theorem dL_law_1925 : decode cL_law 1925 = .ok (.aload_n 0, 1) := by decide +kernel
theorem dL_law_1926 : decode cL_law 1926 = .ok (.iload 5, 2) := by decide +kernel
theorem dL_law_1928 : decode cL_law 1928 = .ok (.iconst 1, 1) := by decide +kernel
theorem dL_law_1929 : decode cL_law 1929 = .ok (.iadd, 1) := by decide +kernel
theorem dL_law_1930 : decode cL_law 1930 = .ok (.iaload, 1) := by decide +kernel
theorem dL_law_1931 : decode cL_law 1931 = .ok (.invokevirtual 240, 3) := by decide +kernel
theorem dL_law_1934 : decode cL_law 1934 = .ok (.istore 7, 2) := by decide +kernel
theorem dL_law_1936 : decode cL_law 1936 = .ok (.aload_n 2, 1) := by decide +kernel
theorem dL_law_1937 : decode cL_law 1937 = .ok (.invokevirtual 141, 3) := by decide +kernel
theorem dL_law_1940 : decode cL_law 1940 = .ok (.iload 6, 2) := by decide +kernel
theorem dL_law_1942 : decode cL_law 1942 = .ok (.if_icmp .eq 5, 3) := by decide +kernel
theorem dL_law_1947 : decode cL_law 1947 = .ok (.iload 6, 2) := by decide +kernel
theorem dL_law_1949 : decode cL_law 1949 = .ok (.ifCond .ne 15, 3) := by decide +kernel
theorem dL_law_1964 : decode cL_law 1964 = .ok (.goto 274, 3) := by decide +kernel
theorem dL_law_1967 : decode cL_law 1967 = .ok (.aload_n 1, 1) := by decide +kernel
theorem dL_law_1968 : decode cL_law 1968 = .ok (.aload_n 0, 1) := by decide +kernel
theorem dL_law_1969 : decode cL_law 1969 = .ok (.iload 5, 2) := by decide +kernel
theorem dL_law_1971 : decode cL_law 1971 = .ok (.iconst 1, 1) := by decide +kernel
theorem dL_law_1972 : decode cL_law 1972 = .ok (.iadd, 1) := by decide +kernel
theorem dL_law_1973 : decode cL_law 1973 = .ok (.iaload, 1) := by decide +kernel
theorem dL_law_1974 : decode cL_law 1974 = .ok (.aload_n 3, 1) := by decide +kernel
theorem dL_law_1975 : decode cL_law 1975 = .ok (.invokestatic 241, 3) := by decide +kernel
theorem dL_law_1978 : decode cL_law 1978 = .ok (.istore 6, 2) := by decide +kernel
theorem dL_law_1980 : decode cL_law 1980 = .ok (.aload_n 2, 1) := by decide +kernel
theorem dL_law_1981 : decode cL_law 1981 = .ok (.aload_n 0, 1) := by decide +kernel
theorem dL_law_1982 : decode cL_law 1982 = .ok (.iload 5, 2) := by decide +kernel
theorem dL_law_1984 : decode cL_law 1984 = .ok (.iconst 1, 1) := by decide +kernel
theorem dL_law_1985 : decode cL_law 1985 = .ok (.iadd, 1) := by decide +kernel
theorem dL_law_1986 : decode cL_law 1986 = .ok (.iaload, 1) := by decide +kernel
theorem dL_law_1987 : decode cL_law 1987 = .ok (.invokevirtual 243, 3) := by decide +kernel
theorem dL_law_1990 : decode cL_law 1990 = .ok (.istore 7, 2) := by decide +kernel
theorem dL_law_1992 : decode cL_law 1992 = .ok (.aload_n 2, 1) := by decide +kernel
theorem dL_law_1993 : decode cL_law 1993 = .ok (.invokevirtual 141, 3) := by decide +kernel
theorem dL_law_1996 : decode cL_law 1996 = .ok (.iload 6, 2) := by decide +kernel
theorem dL_law_1998 : decode cL_law 1998 = .ok (.if_icmp .eq 5, 3) := by decide +kernel
theorem dL_law_2003 : decode cL_law 2003 = .ok (.iload 6, 2) := by decide +kernel
theorem dL_law_2005 : decode cL_law 2005 = .ok (.ifCond .ne 15, 3) := by decide +kernel
theorem dL_law_2020 : decode cL_law 2020 = .ok (.goto 218, 3) := by decide +kernel
theorem dL_law_2023 : decode cL_law 2023 = .ok (.aload_n 1, 1) := by decide +kernel
theorem dL_law_2024 : decode cL_law 2024 = .ok (.aload_n 0, 1) := by decide +kernel
theorem dL_law_2025 : decode cL_law 2025 = .ok (.iload 5, 2) := by decide +kernel
theorem dL_law_2027 : decode cL_law 2027 = .ok (.iconst 1, 1) := by decide +kernel
theorem dL_law_2028 : decode cL_law 2028 = .ok (.iadd, 1) := by decide +kernel
theorem dL_law_2029 : decode cL_law 2029 = .ok (.iaload, 1) := by decide +kernel
theorem dL_law_2030 : decode cL_law 2030 = .ok (.aload_n 0, 1) := by decide +kernel
theorem dL_law_2031 : decode cL_law 2031 = .ok (.iload 5, 2) := by decide +kernel
theorem dL_law_2033 : decode cL_law 2033 = .ok (.iconst 2, 1) := by decide +kernel
theorem dL_law_2034 : decode cL_law 2034 = .ok (.iadd, 1) := by decide +kernel
theorem dL_law_2035 : decode cL_law 2035 = .ok (.iaload, 1) := by decide +kernel
theorem dL_law_2044 : decode cL_law 2044 = .ok (.aload_n 3, 1) := by decide +kernel
theorem dL_law_2045 : decode cL_law 2045 = .ok (.invokestatic 244, 3) := by decide +kernel
theorem dL_law_2048 : decode cL_law 2048 = .ok (.istore 6, 2) := by decide +kernel
theorem dL_law_2050 : decode cL_law 2050 = .ok (.aload_n 2, 1) := by decide +kernel
theorem dL_law_2051 : decode cL_law 2051 = .ok (.aload_n 0, 1) := by decide +kernel
theorem dL_law_2052 : decode cL_law 2052 = .ok (.iload 5, 2) := by decide +kernel
theorem dL_law_2054 : decode cL_law 2054 = .ok (.iconst 1, 1) := by decide +kernel
theorem dL_law_2055 : decode cL_law 2055 = .ok (.iadd, 1) := by decide +kernel
theorem dL_law_2056 : decode cL_law 2056 = .ok (.iaload, 1) := by decide +kernel
theorem dL_law_2057 : decode cL_law 2057 = .ok (.aload_n 0, 1) := by decide +kernel
theorem dL_law_2058 : decode cL_law 2058 = .ok (.iload 5, 2) := by decide +kernel
theorem dL_law_2060 : decode cL_law 2060 = .ok (.iconst 2, 1) := by decide +kernel
theorem dL_law_2061 : decode cL_law 2061 = .ok (.iadd, 1) := by decide +kernel
theorem dL_law_2062 : decode cL_law 2062 = .ok (.iaload, 1) := by decide +kernel
theorem dL_law_2071 : decode cL_law 2071 = .ok (.invokevirtual 247, 3) := by decide +kernel
theorem dL_law_2074 : decode cL_law 2074 = .ok (.istore 7, 2) := by decide +kernel
theorem dL_law_2076 : decode cL_law 2076 = .ok (.aload_n 2, 1) := by decide +kernel
theorem dL_law_2077 : decode cL_law 2077 = .ok (.invokevirtual 141, 3) := by decide +kernel
theorem dL_law_2080 : decode cL_law 2080 = .ok (.iload 6, 2) := by decide +kernel
theorem dL_law_2082 : decode cL_law 2082 = .ok (.if_icmp .eq 5, 3) := by decide +kernel
theorem dL_law_2087 : decode cL_law 2087 = .ok (.iload 6, 2) := by decide +kernel
theorem dL_law_2089 : decode cL_law 2089 = .ok (.ifCond .ne 15, 3) := by decide +kernel
theorem dL_law_2104 : decode cL_law 2104 = .ok (.goto 134, 3) := by decide +kernel
theorem dL_law_2063 : decode cL_law 2063 = .ok (.ifCond .eq 7, 3) := by decide +kernel
theorem dL_law_2070 : decode cL_law 2070 = .ok (.iconst 0, 1) := by decide +kernel
theorem dL_law_2066 : decode cL_law 2066 = .ok (.iconst 1, 1) := by decide +kernel
theorem dL_law_2067 : decode cL_law 2067 = .ok (.goto 4, 3) := by decide +kernel
theorem dL_law_2036 : decode cL_law 2036 = .ok (.ifCond .eq 7, 3) := by decide +kernel
theorem dL_law_2043 : decode cL_law 2043 = .ok (.iconst 0, 1) := by decide +kernel
theorem dL_law_2039 : decode cL_law 2039 = .ok (.iconst 1, 1) := by decide +kernel
theorem dL_law_2040 : decode cL_law 2040 = .ok (.goto 4, 3) := by decide +kernel
theorem dL_law_2107 : decode cL_law 2107 = .ok (.aload_n 1, 1) := by decide +kernel
theorem dL_law_2108 : decode cL_law 2108 = .ok (.aload 4, 2) := by decide +kernel
theorem dL_law_2110 : decode cL_law 2110 = .ok (.invokestatic 248, 3) := by decide +kernel
theorem dL_law_2113 : decode cL_law 2113 = .ok (.istore 6, 2) := by decide +kernel
theorem dL_law_2115 : decode cL_law 2115 = .ok (.aload_n 2, 1) := by decide +kernel
theorem dL_law_2116 : decode cL_law 2116 = .ok (.invokevirtual 251, 3) := by decide +kernel
theorem dL_law_2119 : decode cL_law 2119 = .ok (.fstore 7, 2) := by decide +kernel
theorem dL_law_2121 : decode cL_law 2121 = .ok (.aload_n 2, 1) := by decide +kernel
theorem dL_law_2122 : decode cL_law 2122 = .ok (.invokevirtual 141, 3) := by decide +kernel
theorem dL_law_2125 : decode cL_law 2125 = .ok (.iload 6, 2) := by decide +kernel
theorem dL_law_2127 : decode cL_law 2127 = .ok (.if_icmp .eq 5, 3) := by decide +kernel
theorem dL_law_2132 : decode cL_law 2132 = .ok (.iload 6, 2) := by decide +kernel
theorem dL_law_2134 : decode cL_law 2134 = .ok (.ifCond .ne 36, 3) := by decide +kernel
theorem dL_law_2170 : decode cL_law 2170 = .ok (.goto 68, 3) := by decide +kernel
theorem dL_law_2173 : decode cL_law 2173 = .ok (.aload_n 1, 1) := by decide +kernel
theorem dL_law_2174 : decode cL_law 2174 = .ok (.aload 4, 2) := by decide +kernel
theorem dL_law_2176 : decode cL_law 2176 = .ok (.invokestatic 252, 3) := by decide +kernel
theorem dL_law_2179 : decode cL_law 2179 = .ok (.istore 6, 2) := by decide +kernel
theorem dL_law_2181 : decode cL_law 2181 = .ok (.aload_n 2, 1) := by decide +kernel
theorem dL_law_2182 : decode cL_law 2182 = .ok (.invokevirtual 254, 3) := by decide +kernel
theorem dL_law_2185 : decode cL_law 2185 = .ok (.dstore 7, 2) := by decide +kernel
theorem dL_law_2187 : decode cL_law 2187 = .ok (.aload_n 2, 1) := by decide +kernel
theorem dL_law_2188 : decode cL_law 2188 = .ok (.invokevirtual 141, 3) := by decide +kernel
theorem dL_law_2191 : decode cL_law 2191 = .ok (.iload 6, 2) := by decide +kernel
theorem dL_law_2193 : decode cL_law 2193 = .ok (.if_icmp .eq 5, 3) := by decide +kernel
theorem dL_law_2198 : decode cL_law 2198 = .ok (.iload 6, 2) := by decide +kernel
theorem dL_law_2200 : decode cL_law 2200 = .ok (.ifCond .ne 35, 3) := by decide +kernel
theorem dL_law_2235 : decode cL_law 2235 = .ok (.goto 3, 3) := by decide +kernel
