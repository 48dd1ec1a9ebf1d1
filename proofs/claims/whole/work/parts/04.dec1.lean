theorem dX2_groupOf_24 : decode cX2_groupOf 24 = .ok (.iload 4, 2) := by decide +kernel
theorem dX2_groupOf_26 : decode cX2_groupOf 26 = .ok (.ishl, 1) := by decide +kernel
theorem dX2_groupOf_27 : decode cX2_groupOf 27 = .ok (.iand, 1) := by decide +kernel
theorem dX2_groupOf_28 : decode cX2_groupOf 28 = .ok (.ifCond .eq 13, 3) := by decide +kernel
theorem dX2_groupOf_31 : decode cX2_groupOf 31 = .ok (.iload_n 2, 1) := by decide +kernel
theorem dX2_groupOf_32 : decode cX2_groupOf 32 = .ok (.aload_n 0, 1) := by decide +kernel
theorem dX2_groupOf_33 : decode cX2_groupOf 33 = .ok (.getfield 15, 3) := by decide +kernel
theorem dX2_groupOf_36 : decode cX2_groupOf 36 = .ok (.iload 4, 2) := by decide +kernel
theorem dX2_groupOf_38 : decode cX2_groupOf 38 = .ok (.iaload, 1) := by decide +kernel
theorem dX2_groupOf_39 : decode cX2_groupOf 39 = .ok (.ior, 1) := by decide +kernel
theorem dX2_groupOf_40 : decode cX2_groupOf 40 = .ok (.istore_n 2, 1) := by decide +kernel
theorem dX2_groupOf_41 : decode cX2_groupOf 41 = .ok (.iinc 4 1, 3) := by decide +kernel
theorem dX2_groupOf_44 : decode cX2_groupOf 44 = .ok (.goto (-29), 3) := by decide +kernel
theorem dX2_groupOf_47 : decode cX2_groupOf 47 = .ok (.iinc 3 1, 3) := by decide +kernel
theorem dX2_groupOf_50 : decode cX2_groupOf 50 = .ok (.goto (-44), 3) := by decide +kernel
theorem dX2_groupOf_53 : decode cX2_groupOf 53 = .ok (.iload_n 2, 1) := by decide +kernel
theorem dX2_groupOf_54 : decode cX2_groupOf 54 = .ok (.ireturn, 1) := by decide +kernel
theorem dX2_partsOf_0 : decode cX2_partsOf 0 = .ok (.aload_n 0, 1) := by decide +kernel
theorem dX2_partsOf_1 : decode cX2_partsOf 1 = .ok (.getfield 21, 3) := by decide +kernel
theorem dX2_partsOf_4 : decode cX2_partsOf 4 = .ok (.iload_n 1, 1) := by decide +kernel
theorem dX2_partsOf_5 : decode cX2_partsOf 5 = .ok (.bipush 6, 2) := by decide +kernel
theorem dX2_partsOf_7 : decode cX2_partsOf 7 = .ok (.imul, 1) := by decide +kernel
theorem dX2_partsOf_8 : decode cX2_partsOf 8 = .ok (.iload_n 2, 1) := by decide +kernel
theorem dX2_partsOf_9 : decode cX2_partsOf 9 = .ok (.iadd, 1) := by decide +kernel
theorem dX2_partsOf_10 : decode cX2_partsOf 10 = .ok (.iaload, 1) := by decide +kernel
theorem dX2_partsOf_11 : decode cX2_partsOf 11 = .ok (.ireturn, 1) := by decide +kernel
theorem dX2_partsOfGroup_0 : decode cX2_partsOfGroup 0 = .ok (.iconst 0, 1) := by decide +kernel
theorem dX2_partsOfGroup_1 : decode cX2_partsOfGroup 1 = .ok (.istore_n 3, 1) := by decide +kernel
theorem dX2_partsOfGroup_2 : decode cX2_partsOfGroup 2 = .ok (.iconst 0, 1) := by decide +kernel
theorem dX2_partsOfGroup_3 : decode cX2_partsOfGroup 3 = .ok (.istore 4, 2) := by decide +kernel
theorem dX2_partsOfGroup_5 : decode cX2_partsOfGroup 5 = .ok (.iload 4, 2) := by decide +kernel
theorem dX2_partsOfGroup_7 : decode cX2_partsOfGroup 7 = .ok (.bipush 6, 2) := by decide +kernel
theorem dX2_partsOfGroup_9 : decode cX2_partsOfGroup 9 = .ok (.if_icmp .ge 28, 3) := by decide +kernel
theorem dX2_partsOfGroup_12 : decode cX2_partsOfGroup 12 = .ok (.iload_n 2, 1) := by decide +kernel
theorem dX2_partsOfGroup_13 : decode cX2_partsOfGroup 13 = .ok (.iconst 1, 1) := by decide +kernel
theorem dX2_partsOfGroup_14 : decode cX2_partsOfGroup 14 = .ok (.iload 4, 2) := by decide +kernel
theorem dX2_partsOfGroup_16 : decode cX2_partsOfGroup 16 = .ok (.ishl, 1) := by decide +kernel
theorem dX2_partsOfGroup_17 : decode cX2_partsOfGroup 17 = .ok (.iand, 1) := by decide +kernel
theorem dX2_partsOfGroup_18 : decode cX2_partsOfGroup 18 = .ok (.ifCond .eq 13, 3) := by decide +kernel
theorem dX2_partsOfGroup_21 : decode cX2_partsOfGroup 21 = .ok (.iload_n 3, 1) := by decide +kernel
theorem dX2_partsOfGroup_22 : decode cX2_partsOfGroup 22 = .ok (.aload_n 0, 1) := by decide +kernel
theorem dX2_partsOfGroup_23 : decode cX2_partsOfGroup 23 = .ok (.iload_n 1, 1) := by decide +kernel
theorem dX2_partsOfGroup_24 : decode cX2_partsOfGroup 24 = .ok (.iload 4, 2) := by decide +kernel
theorem dX2_partsOfGroup_26 : decode cX2_partsOfGroup 26 = .ok (.invokevirtual 38, 3) := by decide +kernel
theorem dX2_partsOfGroup_29 : decode cX2_partsOfGroup 29 = .ok (.iadd, 1) := by decide +kernel
theorem dX2_partsOfGroup_30 : decode cX2_partsOfGroup 30 = .ok (.istore_n 3, 1) := by decide +kernel
theorem dX2_partsOfGroup_31 : decode cX2_partsOfGroup 31 = .ok (.iinc 4 1, 3) := by decide +kernel
theorem dX2_partsOfGroup_34 : decode cX2_partsOfGroup 34 = .ok (.goto (-29), 3) := by decide +kernel
theorem dX2_partsOfGroup_37 : decode cX2_partsOfGroup 37 = .ok (.iload_n 3, 1) := by decide +kernel
theorem dX2_partsOfGroup_38 : decode cX2_partsOfGroup 38 = .ok (.ireturn, 1) := by decide +kernel
theorem dX2_partsInAll_0 : decode cX2_partsInAll 0 = .ok (.aload_n 0, 1) := by decide +kernel
theorem dX2_partsInAll_1 : decode cX2_partsInAll 1 = .ok (.iload_n 1, 1) := by decide +kernel
theorem dX2_partsInAll_2 : decode cX2_partsInAll 2 = .ok (.bipush 63, 2) := by decide +kernel
theorem dX2_partsInAll_4 : decode cX2_partsInAll 4 = .ok (.invokevirtual 42, 3) := by decide +kernel
theorem dX2_partsInAll_7 : decode cX2_partsInAll 7 = .ok (.ireturn, 1) := by decide +kernel
theorem dX2_addParts_0 : decode cX2_addParts 0 = .ok (.aload_n 0, 1) := by decide +kernel
theorem dX2_addParts_1 : decode cX2_addParts 1 = .ok (.getfield 21, 3) := by decide +kernel
theorem dX2_addParts_4 : decode cX2_addParts 4 = .ok (.iload_n 1, 1) := by decide +kernel
theorem dX2_addParts_5 : decode cX2_addParts 5 = .ok (.bipush 6, 2) := by decide +kernel
theorem dX2_addParts_7 : decode cX2_addParts 7 = .ok (.imul, 1) := by decide +kernel
theorem dX2_addParts_8 : decode cX2_addParts 8 = .ok (.iload_n 2, 1) := by decide +kernel
theorem dX2_addParts_9 : decode cX2_addParts 9 = .ok (.iadd, 1) := by decide +kernel
theorem dX2_addParts_10 : decode cX2_addParts 10 = .ok (.dup2, 1) := by decide +kernel
theorem dX2_addParts_11 : decode cX2_addParts 11 = .ok (.iaload, 1) := by decide +kernel
theorem dX2_addParts_12 : decode cX2_addParts 12 = .ok (.iload_n 3, 1) := by decide +kernel
theorem dX2_addParts_13 : decode cX2_addParts 13 = .ok (.iadd, 1) := by decide +kernel
theorem dX2_addParts_14 : decode cX2_addParts 14 = .ok (.iastore, 1) := by decide +kernel
theorem dX2_addParts_15 : decode cX2_addParts 15 = .ok (.aload_n 0, 1) := by decide +kernel
theorem dX2_addParts_16 : decode cX2_addParts 16 = .ok (.iload_n 1, 1) := by decide +kernel
theorem dX2_addParts_17 : decode cX2_addParts 17 = .ok (.iload_n 2, 1) := by decide +kernel
theorem dX2_addParts_18 : decode cX2_addParts 18 = .ok (.invokevirtual 38, 3) := by decide +kernel
theorem dX2_addParts_21 : decode cX2_addParts 21 = .ok (.ireturn, 1) := by decide +kernel
theorem dX2_placedOn_0 : decode cX2_placedOn 0 = .ok (.aload_n 0, 1) := by decide +kernel
theorem dX2_placedOn_1 : decode cX2_placedOn 1 = .ok (.getfield 24, 3) := by decide +kernel
theorem dX2_placedOn_4 : decode cX2_placedOn 4 = .ok (.iload_n 1, 1) := by decide +kernel
theorem dX2_placedOn_5 : decode cX2_placedOn 5 = .ok (.bipush 6, 2) := by decide +kernel
theorem dX2_placedOn_7 : decode cX2_placedOn 7 = .ok (.imul, 1) := by decide +kernel
theorem dX2_placedOn_8 : decode cX2_placedOn 8 = .ok (.iload_n 2, 1) := by decide +kernel
theorem dX2_placedOn_9 : decode cX2_placedOn 9 = .ok (.iadd, 1) := by decide +kernel
theorem dX2_placedOn_10 : decode cX2_placedOn 10 = .ok (.iaload, 1) := by decide +kernel
theorem dX2_placedOn_11 : decode cX2_placedOn 11 = .ok (.ireturn, 1) := by decide +kernel
theorem dX2_addPlaced_0 : decode cX2_addPlaced 0 = .ok (.aload_n 0, 1) := by decide +kernel
theorem dX2_addPlaced_1 : decode cX2_addPlaced 1 = .ok (.getfield 24, 3) := by decide +kernel
theorem dX2_addPlaced_4 : decode cX2_addPlaced 4 = .ok (.iload_n 1, 1) := by decide +kernel
theorem dX2_addPlaced_5 : decode cX2_addPlaced 5 = .ok (.bipush 6, 2) := by decide +kernel
theorem dX2_addPlaced_7 : decode cX2_addPlaced 7 = .ok (.imul, 1) := by decide +kernel
theorem dX2_addPlaced_8 : decode cX2_addPlaced 8 = .ok (.iload_n 2, 1) := by decide +kernel
theorem dX2_addPlaced_9 : decode cX2_addPlaced 9 = .ok (.iadd, 1) := by decide +kernel
theorem dX2_addPlaced_10 : decode cX2_addPlaced 10 = .ok (.dup2, 1) := by decide +kernel
theorem dX2_addPlaced_11 : decode cX2_addPlaced 11 = .ok (.iaload, 1) := by decide +kernel
theorem dX2_addPlaced_12 : decode cX2_addPlaced 12 = .ok (.iload_n 3, 1) := by decide +kernel
theorem dX2_addPlaced_13 : decode cX2_addPlaced 13 = .ok (.iadd, 1) := by decide +kernel
theorem dX2_addPlaced_14 : decode cX2_addPlaced 14 = .ok (.iastore, 1) := by decide +kernel
theorem dX2_addPlaced_15 : decode cX2_addPlaced 15 = .ok (.aload_n 0, 1) := by decide +kernel
theorem dX2_addPlaced_16 : decode cX2_addPlaced 16 = .ok (.iload_n 1, 1) := by decide +kernel
theorem dX2_addPlaced_17 : decode cX2_addPlaced 17 = .ok (.iload_n 2, 1) := by decide +kernel
theorem dX2_addPlaced_18 : decode cX2_addPlaced 18 = .ok (.invokevirtual 45, 3) := by decide +kernel
theorem dX2_addPlaced_21 : decode cX2_addPlaced 21 = .ok (.ireturn, 1) := by decide +kernel
theorem dX2_carriesParts_0 : decode cX2_carriesParts 0 = .ok (.iconst 0, 1) := by decide +kernel
theorem dX2_carriesParts_1 : decode cX2_carriesParts 1 = .ok (.istore_n 2, 1) := by decide +kernel
theorem dX2_carriesParts_2 : decode cX2_carriesParts 2 = .ok (.iload_n 2, 1) := by decide +kernel
theorem dX2_carriesParts_3 : decode cX2_carriesParts 3 = .ok (.iconst 4, 1) := by decide +kernel
theorem dX2_carriesParts_4 : decode cX2_carriesParts 4 = .ok (.if_icmp .ge 20, 3) := by decide +kernel
theorem dX2_carriesParts_7 : decode cX2_carriesParts 7 = .ok (.aload_n 0, 1) := by decide +kernel
theorem dX2_carriesParts_8 : decode cX2_carriesParts 8 = .ok (.iload_n 2, 1) := by decide +kernel
theorem dX2_carriesParts_9 : decode cX2_carriesParts 9 = .ok (.iload_n 1, 1) := by decide +kernel
theorem dX2_carriesParts_10 : decode cX2_carriesParts 10 = .ok (.invokevirtual 45, 3) := by decide +kernel
theorem dX2_carriesParts_13 : decode cX2_carriesParts 13 = .ok (.ifCond .le 5, 3) := by decide +kernel
theorem dX2_carriesParts_16 : decode cX2_carriesParts 16 = .ok (.iconst 1, 1) := by decide +kernel
theorem dX2_carriesParts_17 : decode cX2_carriesParts 17 = .ok (.ireturn, 1) := by decide +kernel
theorem dX2_carriesParts_18 : decode cX2_carriesParts 18 = .ok (.iinc 2 1, 3) := by decide +kernel
theorem dX2_carriesParts_21 : decode cX2_carriesParts 21 = .ok (.goto (-19), 3) := by decide +kernel
theorem dX2_carriesParts_24 : decode cX2_carriesParts 24 = .ok (.iconst 0, 1) := by decide +kernel
theorem dX2_carriesParts_25 : decode cX2_carriesParts 25 = .ok (.ireturn, 1) := by decide +kernel
theorem dX2_freeParts_0 : decode cX2_freeParts 0 = .ok (.aload_n 0, 1) := by decide +kernel
theorem dX2_freeParts_1 : decode cX2_freeParts 1 = .ok (.iload_n 1, 1) := by decide +kernel
theorem dX2_freeParts_2 : decode cX2_freeParts 2 = .ok (.iload_n 2, 1) := by decide +kernel
theorem dX2_freeParts_3 : decode cX2_freeParts 3 = .ok (.invokevirtual 38, 3) := by decide +kernel
theorem dX2_freeParts_6 : decode cX2_freeParts 6 = .ok (.istore_n 3, 1) := by decide +kernel
theorem dX2_freeParts_7 : decode cX2_freeParts 7 = .ok (.iconst 0, 1) := by decide +kernel
theorem dX2_freeParts_8 : decode cX2_freeParts 8 = .ok (.istore 4, 2) := by decide +kernel
theorem dX2_freeParts_10 : decode cX2_freeParts 10 = .ok (.iload 4, 2) := by decide +kernel
theorem dX2_freeParts_12 : decode cX2_freeParts 12 = .ok (.bipush 6, 2) := by decide +kernel
theorem dX2_freeParts_14 : decode cX2_freeParts 14 = .ok (.if_icmp .ge 30, 3) := by decide +kernel
theorem dX2_freeParts_17 : decode cX2_freeParts 17 = .ok (.aload_n 0, 1) := by decide +kernel
theorem dX2_freeParts_18 : decode cX2_freeParts 18 = .ok (.getfield 18, 3) := by decide +kernel
theorem dX2_freeParts_21 : decode cX2_freeParts 21 = .ok (.iload 4, 2) := by decide +kernel
theorem dX2_freeParts_23 : decode cX2_freeParts 23 = .ok (.iaload, 1) := by decide +kernel
theorem dX2_freeParts_24 : decode cX2_freeParts 24 = .ok (.iload_n 2, 1) := by decide +kernel
theorem dX2_freeParts_25 : decode cX2_freeParts 25 = .ok (.if_icmp .ne 13, 3) := by decide +kernel
theorem dX2_freeParts_28 : decode cX2_freeParts 28 = .ok (.iload_n 3, 1) := by decide +kernel
theorem dX2_freeParts_29 : decode cX2_freeParts 29 = .ok (.aload_n 0, 1) := by decide +kernel
theorem dX2_freeParts_30 : decode cX2_freeParts 30 = .ok (.iload_n 1, 1) := by decide +kernel
theorem dX2_freeParts_31 : decode cX2_freeParts 31 = .ok (.iload 4, 2) := by decide +kernel
theorem dX2_freeParts_33 : decode cX2_freeParts 33 = .ok (.invokevirtual 45, 3) := by decide +kernel
theorem dX2_freeParts_36 : decode cX2_freeParts 36 = .ok (.isub, 1) := by decide +kernel
theorem dX2_freeParts_37 : decode cX2_freeParts 37 = .ok (.istore_n 3, 1) := by decide +kernel
theorem dX2_freeParts_38 : decode cX2_freeParts 38 = .ok (.iinc 4 1, 3) := by decide +kernel
theorem dX2_freeParts_41 : decode cX2_freeParts 41 = .ok (.goto (-31), 3) := by decide +kernel
theorem dX2_freeParts_44 : decode cX2_freeParts 44 = .ok (.iload_n 3, 1) := by decide +kernel
theorem dX2_freeParts_45 : decode cX2_freeParts 45 = .ok (.ireturn, 1) := by decide +kernel
theorem dX2_someGroupHoldsMore_0 : decode cX2_someGroupHoldsMore 0 = .ok (.iconst 0, 1) := by decide +kernel
theorem dX2_someGroupHoldsMore_1 : decode cX2_someGroupHoldsMore 1 = .ok (.istore_n 3, 1) := by decide +kernel
theorem dX2_someGroupHoldsMore_2 : decode cX2_someGroupHoldsMore 2 = .ok (.iload_n 3, 1) := by decide +kernel
theorem dX2_someGroupHoldsMore_3 : decode cX2_someGroupHoldsMore 3 = .ok (.bipush 6, 2) := by decide +kernel
theorem dX2_someGroupHoldsMore_5 : decode cX2_someGroupHoldsMore 5 = .ok (.if_icmp .ge 25, 3) := by decide +kernel
theorem dX2_someGroupHoldsMore_8 : decode cX2_someGroupHoldsMore 8 = .ok (.aload_n 0, 1) := by decide +kernel
theorem dX2_someGroupHoldsMore_9 : decode cX2_someGroupHoldsMore 9 = .ok (.iload_n 1, 1) := by decide +kernel
theorem dX2_someGroupHoldsMore_10 : decode cX2_someGroupHoldsMore 10 = .ok (.aload_n 0, 1) := by decide +kernel
theorem dX2_someGroupHoldsMore_11 : decode cX2_someGroupHoldsMore 11 = .ok (.iload_n 3, 1) := by decide +kernel
theorem dX2_someGroupHoldsMore_12 : decode cX2_someGroupHoldsMore 12 = .ok (.invokevirtual 34, 3) := by decide +kernel
theorem dX2_someGroupHoldsMore_15 : decode cX2_someGroupHoldsMore 15 = .ok (.invokevirtual 42, 3) := by decide +kernel
theorem dX2_someGroupHoldsMore_18 : decode cX2_someGroupHoldsMore 18 = .ok (.iload_n 2, 1) := by decide +kernel
theorem dX2_someGroupHoldsMore_19 : decode cX2_someGroupHoldsMore 19 = .ok (.if_icmp .le 5, 3) := by decide +kernel
theorem dX2_someGroupHoldsMore_22 : decode cX2_someGroupHoldsMore 22 = .ok (.iconst 1, 1) := by decide +kernel
theorem dX2_someGroupHoldsMore_23 : decode cX2_someGroupHoldsMore 23 = .ok (.ireturn, 1) := by decide +kernel
theorem dX2_someGroupHoldsMore_24 : decode cX2_someGroupHoldsMore 24 = .ok (.iinc 3 1, 3) := by decide +kernel
theorem dX2_someGroupHoldsMore_27 : decode cX2_someGroupHoldsMore 27 = .ok (.goto (-25), 3) := by decide +kernel
theorem dX2_someGroupHoldsMore_30 : decode cX2_someGroupHoldsMore 30 = .ok (.iconst 0, 1) := by decide +kernel
theorem dX2_someGroupHoldsMore_31 : decode cX2_someGroupHoldsMore 31 = .ok (.ireturn, 1) := by decide +kernel
theorem dX2_groupWouldPassCap_0 : decode cX2_groupWouldPassCap 0 = .ok (.aload_n 0, 1) := by decide +kernel
theorem dX2_groupWouldPassCap_1 : decode cX2_groupWouldPassCap 1 = .ok (.iload_n 1, 1) := by decide +kernel
theorem dX2_groupWouldPassCap_2 : decode cX2_groupWouldPassCap 2 = .ok (.aload_n 0, 1) := by decide +kernel
theorem dX2_groupWouldPassCap_3 : decode cX2_groupWouldPassCap 3 = .ok (.iload_n 2, 1) := by decide +kernel
theorem dX2_groupWouldPassCap_4 : decode cX2_groupWouldPassCap 4 = .ok (.invokevirtual 34, 3) := by decide +kernel
theorem dX2_groupWouldPassCap_7 : decode cX2_groupWouldPassCap 7 = .ok (.invokevirtual 42, 3) := by decide +kernel
theorem dX2_groupWouldPassCap_10 : decode cX2_groupWouldPassCap 10 = .ok (.iload_n 3, 1) := by decide +kernel
theorem dX2_groupWouldPassCap_11 : decode cX2_groupWouldPassCap 11 = .ok (.iadd, 1) := by decide +kernel
theorem dX2_groupWouldPassCap_12 : decode cX2_groupWouldPassCap 12 = .ok (.aload_n 0, 1) := by decide +kernel
theorem dX2_groupWouldPassCap_13 : decode cX2_groupWouldPassCap 13 = .ok (.getfield 9, 3) := by decide +kernel
theorem dX2_groupWouldPassCap_16 : decode cX2_groupWouldPassCap 16 = .ok (.iload_n 1, 1) := by decide +kernel
theorem dX2_groupWouldPassCap_17 : decode cX2_groupWouldPassCap 17 = .ok (.iaload, 1) := by decide +kernel
theorem dX2_groupWouldPassCap_18 : decode cX2_groupWouldPassCap 18 = .ok (.if_icmp .le 7, 3) := by decide +kernel
theorem dX2_groupWouldPassCap_21 : decode cX2_groupWouldPassCap 21 = .ok (.iconst 1, 1) := by decide +kernel
theorem dX2_groupWouldPassCap_22 : decode cX2_groupWouldPassCap 22 = .ok (.goto 4, 3) := by decide +kernel
theorem dX2_groupWouldPassCap_25 : decode cX2_groupWouldPassCap 25 = .ok (.iconst 0, 1) := by decide +kernel
theorem dX2_groupWouldPassCap_26 : decode cX2_groupWouldPassCap 26 = .ok (.ireturn, 1) := by decide +kernel
theorem dX2_joinedWouldPassCap_0 : decode cX2_joinedWouldPassCap 0 = .ok (.aload_n 0, 1) := by decide +kernel
theorem dX2_joinedWouldPassCap_1 : decode cX2_joinedWouldPassCap 1 = .ok (.iload_n 1, 1) := by decide +kernel
theorem dX2_joinedWouldPassCap_2 : decode cX2_joinedWouldPassCap 2 = .ok (.invokevirtual 34, 3) := by decide +kernel
theorem dX2_joinedWouldPassCap_5 : decode cX2_joinedWouldPassCap 5 = .ok (.aload_n 0, 1) := by decide +kernel
theorem dX2_joinedWouldPassCap_6 : decode cX2_joinedWouldPassCap 6 = .ok (.iload_n 2, 1) := by decide +kernel
theorem dX2_joinedWouldPassCap_7 : decode cX2_joinedWouldPassCap 7 = .ok (.invokevirtual 34, 3) := by decide +kernel
theorem dX2_joinedWouldPassCap_10 : decode cX2_joinedWouldPassCap 10 = .ok (.ior, 1) := by decide +kernel
theorem dX2_joinedWouldPassCap_11 : decode cX2_joinedWouldPassCap 11 = .ok (.istore_n 3, 1) := by decide +kernel
theorem dX2_joinedWouldPassCap_12 : decode cX2_joinedWouldPassCap 12 = .ok (.iconst 0, 1) := by decide +kernel
theorem dX2_joinedWouldPassCap_13 : decode cX2_joinedWouldPassCap 13 = .ok (.istore 4, 2) := by decide +kernel
theorem dX2_joinedWouldPassCap_15 : decode cX2_joinedWouldPassCap 15 = .ok (.iload 4, 2) := by decide +kernel
theorem dX2_joinedWouldPassCap_17 : decode cX2_joinedWouldPassCap 17 = .ok (.iconst 4, 1) := by decide +kernel
theorem dX2_joinedWouldPassCap_18 : decode cX2_joinedWouldPassCap 18 = .ok (.if_icmp .ge 28, 3) := by decide +kernel
theorem dX2_joinedWouldPassCap_21 : decode cX2_joinedWouldPassCap 21 = .ok (.aload_n 0, 1) := by decide +kernel
theorem dX2_joinedWouldPassCap_22 : decode cX2_joinedWouldPassCap 22 = .ok (.iload 4, 2) := by decide +kernel
theorem dX2_joinedWouldPassCap_24 : decode cX2_joinedWouldPassCap 24 = .ok (.iload_n 3, 1) := by decide +kernel
theorem dX2_joinedWouldPassCap_25 : decode cX2_joinedWouldPassCap 25 = .ok (.invokevirtual 42, 3) := by decide +kernel
theorem dX2_joinedWouldPassCap_28 : decode cX2_joinedWouldPassCap 28 = .ok (.aload_n 0, 1) := by decide +kernel
theorem dX2_joinedWouldPassCap_29 : decode cX2_joinedWouldPassCap 29 = .ok (.getfield 9, 3) := by decide +kernel
theorem dX2_joinedWouldPassCap_32 : decode cX2_joinedWouldPassCap 32 = .ok (.iload 4, 2) := by decide +kernel
theorem dX2_joinedWouldPassCap_34 : decode cX2_joinedWouldPassCap 34 = .ok (.iaload, 1) := by decide +kernel
theorem dX2_joinedWouldPassCap_35 : decode cX2_joinedWouldPassCap 35 = .ok (.if_icmp .le 5, 3) := by decide +kernel
theorem dX2_joinedWouldPassCap_38 : decode cX2_joinedWouldPassCap 38 = .ok (.iconst 1, 1) := by decide +kernel
theorem dX2_joinedWouldPassCap_39 : decode cX2_joinedWouldPassCap 39 = .ok (.ireturn, 1) := by decide +kernel
theorem dX2_joinedWouldPassCap_40 : decode cX2_joinedWouldPassCap 40 = .ok (.iinc 4 1, 3) := by decide +kernel
theorem dX2_joinedWouldPassCap_43 : decode cX2_joinedWouldPassCap 43 = .ok (.goto (-28), 3) := by decide +kernel
theorem dX2_joinedWouldPassCap_46 : decode cX2_joinedWouldPassCap 46 = .ok (.iconst 0, 1) := by decide +kernel
theorem dX2_joinedWouldPassCap_47 : decode cX2_joinedWouldPassCap 47 = .ok (.ireturn, 1) := by decide +kernel
theorem dX3_init_0 : decode cX3_init 0 = .ok (.aload_n 0, 1) := by decide +kernel
theorem dX3_init_1 : decode cX3_init 1 = .ok (.invokespecial 1, 3) := by decide +kernel
theorem dX3_init_4 : decode cX3_init 4 = .ok (.aload_n 0, 1) := by decide +kernel
theorem dX3_init_5 : decode cX3_init 5 = .ok (.iconst 4, 1) := by decide +kernel
theorem dX3_init_6 : decode cX3_init 6 = .ok (.newarray .int, 2) := by decide +kernel
theorem dX3_init_8 : decode cX3_init 8 = .ok (.putfield 9, 3) := by decide +kernel
theorem dX3_init_11 : decode cX3_init 11 = .ok (.aload_n 0, 1) := by decide +kernel
theorem dX3_init_12 : decode cX3_init 12 = .ok (.bipush 12, 2) := by decide +kernel
theorem dX3_init_14 : decode cX3_init 14 = .ok (.newarray .int, 2) := by decide +kernel
theorem dX3_init_16 : decode cX3_init 16 = .ok (.putfield 13, 3) := by decide +kernel
theorem dX3_init_19 : decode cX3_init 19 = .ok (.aload_n 0, 1) := by decide +kernel
theorem dX3_init_20 : decode cX3_init 20 = .ok (.new 16, 3) := by decide +kernel
theorem dX3_init_23 : decode cX3_init 23 = .ok (.dup, 1) := by decide +kernel
theorem dX3_init_24 : decode cX3_init 24 = .ok (.invokespecial 18, 3) := by decide +kernel
theorem dX3_init_27 : decode cX3_init 27 = .ok (.putfield 19, 3) := by decide +kernel
theorem dX3_init_30 : decode cX3_init 30 = .ok (.aload_n 0, 1) := by decide +kernel
theorem dX3_init_31 : decode cX3_init 31 = .ok (.new 23, 3) := by decide +kernel
theorem dX3_init_34 : decode cX3_init 34 = .ok (.dup, 1) := by decide +kernel
theorem dX3_init_35 : decode cX3_init 35 = .ok (.invokespecial 25, 3) := by decide +kernel
theorem dX3_init_38 : decode cX3_init 38 = .ok (.putfield 26, 3) := by decide +kernel
theorem dX3_init_41 : decode cX3_init 41 = .ok (.aload_n 0, 1) := by decide +kernel
theorem dX3_init_42 : decode cX3_init 42 = .ok (.new 30, 3) := by decide +kernel
theorem dX3_init_45 : decode cX3_init 45 = .ok (.dup, 1) := by decide +kernel
theorem dX3_init_46 : decode cX3_init 46 = .ok (.invokespecial 32, 3) := by decide +kernel
theorem dX3_init_49 : decode cX3_init 49 = .ok (.putfield 33, 3) := by decide +kernel
theorem dX3_init_52 : decode cX3_init 52 = .ok (.aload_n 0, 1) := by decide +kernel
theorem dX3_init_53 : decode cX3_init 53 = .ok (.bipush 9, 2) := by decide +kernel
theorem dX3_init_55 : decode cX3_init 55 = .ok (.newarray .boolean, 2) := by decide +kernel
theorem dX3_init_57 : decode cX3_init 57 = .ok (.putfield 37, 3) := by decide +kernel
theorem dX3_init_60 : decode cX3_init 60 = .ok (.aload_n 0, 1) := by decide +kernel
theorem dX3_init_61 : decode cX3_init 61 = .ok (.iconst 0, 1) := by decide +kernel
theorem dX3_init_62 : decode cX3_init 62 = .ok (.putfield 41, 3) := by decide +kernel
theorem dX3_init_65 : decode cX3_init 65 = .ok (.aload_n 0, 1) := by decide +kernel
theorem dX3_init_66 : decode cX3_init 66 = .ok (.iconst 0, 1) := by decide +kernel
theorem dX3_init_67 : decode cX3_init 67 = .ok (.putfield 45, 3) := by decide +kernel
theorem dX3_init_70 : decode cX3_init 70 = .ok (.aload_n 0, 1) := by decide +kernel
theorem dX3_init_71 : decode cX3_init 71 = .ok (.getfield 9, 3) := by decide +kernel
theorem dX3_init_74 : decode cX3_init 74 = .ok (.iconst 1, 1) := by decide +kernel
theorem dX3_init_75 : decode cX3_init 75 = .ok (.invokestatic 49, 3) := by decide +kernel
theorem dX3_init_78 : decode cX3_init 78 = .ok (.aload_n 0, 1) := by decide +kernel
theorem dX3_init_79 : decode cX3_init 79 = .ok (.getfield 13, 3) := by decide +kernel
theorem dX3_init_82 : decode cX3_init 82 = .ok (.sipush 1000, 3) := by decide +kernel
theorem dX3_init_85 : decode cX3_init 85 = .ok (.invokestatic 49, 3) := by decide +kernel
theorem dX3_init_88 : decode cX3_init 88 = .ok (.return_, 1) := by decide +kernel
theorem dX3_species_0 : decode cX3_species 0 = .ok (.iload_n 1, 1) := by decide +kernel
theorem dX3_species_1 : decode cX3_species 1 = .ok (.invokestatic 55, 3) := by decide +kernel
theorem dX3_species_4 : decode cX3_species 4 = .ok (.ifCond .eq 24, 3) := by decide +kernel
theorem dX3_species_7 : decode cX3_species 7 = .ok (.iload_n 2, 1) := by decide +kernel
theorem dX3_species_8 : decode cX3_species 8 = .ok (.iconst 1, 1) := by decide +kernel
theorem dX3_species_9 : decode cX3_species 9 = .ok (.sipush 1000, 3) := by decide +kernel
theorem dX3_species_12 : decode cX3_species 12 = .ok (.invokestatic 59, 3) := by decide +kernel
theorem dX3_species_15 : decode cX3_species 15 = .ok (.ifCond .eq 13, 3) := by decide +kernel
theorem dX3_species_18 : decode cX3_species 18 = .ok (.iload_n 3, 1) := by decide +kernel
theorem dX3_species_19 : decode cX3_species 19 = .ok (.iconst 0, 1) := by decide +kernel
theorem dX3_species_20 : decode cX3_species 20 = .ok (.ldc 63, 2) := by decide +kernel
theorem dX3_species_22 : decode cX3_species 22 = .ok (.invokestatic 59, 3) := by decide +kernel
theorem dX3_species_25 : decode cX3_species 25 = .ok (.ifCond .ne 13, 3) := by decide +kernel
theorem dX3_species_28 : decode cX3_species 28 = .ok (.new 64, 3) := by decide +kernel
theorem dX3_species_31 : decode cX3_species 31 = .ok (.dup, 1) := by decide +kernel
theorem dX3_species_32 : decode cX3_species 32 = .ok (.ldc 66, 2) := by decide +kernel
theorem dX3_species_34 : decode cX3_species 34 = .ok (.invokespecial 68, 3) := by decide +kernel
theorem dX3_species_37 : decode cX3_species 37 = .ok (.athrow, 1) := by decide +kernel
theorem dX3_species_38 : decode cX3_species 38 = .ok (.aload_n 0, 1) := by decide +kernel
theorem dX3_species_39 : decode cX3_species 39 = .ok (.getfield 19, 3) := by decide +kernel
theorem dX3_species_42 : decode cX3_species 42 = .ok (.iload_n 1, 1) := by decide +kernel
theorem dX3_species_43 : decode cX3_species 43 = .ok (.iload_n 3, 1) := by decide +kernel
theorem dX3_species_44 : decode cX3_species 44 = .ok (.invokevirtual 71, 3) := by decide +kernel
theorem dX3_species_47 : decode cX3_species 47 = .ok (.ifCond .eq 13, 3) := by decide +kernel
theorem dX3_species_50 : decode cX3_species 50 = .ok (.new 64, 3) := by decide +kernel
theorem dX3_species_53 : decode cX3_species 53 = .ok (.dup, 1) := by decide +kernel
theorem dX3_species_54 : decode cX3_species 54 = .ok (.ldc 75, 2) := by decide +kernel
theorem dX3_species_56 : decode cX3_species 56 = .ok (.invokespecial 68, 3) := by decide +kernel
theorem dX3_species_59 : decode cX3_species 59 = .ok (.athrow, 1) := by decide +kernel
theorem dX3_species_60 : decode cX3_species 60 = .ok (.aload_n 0, 1) := by decide +kernel
theorem dX3_species_61 : decode cX3_species 61 = .ok (.getfield 9, 3) := by decide +kernel
theorem dX3_species_64 : decode cX3_species 64 = .ok (.iload_n 1, 1) := by decide +kernel
theorem dX3_species_65 : decode cX3_species 65 = .ok (.iload_n 2, 1) := by decide +kernel
theorem dX3_species_66 : decode cX3_species 66 = .ok (.iastore, 1) := by decide +kernel
theorem dX3_species_67 : decode cX3_species 67 = .ok (.aload_n 0, 1) := by decide +kernel
theorem dX3_species_68 : decode cX3_species 68 = .ok (.getfield 19, 3) := by decide +kernel
theorem dX3_species_71 : decode cX3_species 71 = .ok (.iload_n 1, 1) := by decide +kernel
theorem dX3_species_72 : decode cX3_species 72 = .ok (.iload_n 3, 1) := by decide +kernel
theorem dX3_species_73 : decode cX3_species 73 = .ok (.invokevirtual 77, 3) := by decide +kernel
theorem dX3_species_76 : decode cX3_species 76 = .ok (.return_, 1) := by decide +kernel
theorem dX3_factor_0 : decode cX3_factor 0 = .ok (.iload_n 1, 1) := by decide +kernel
theorem dX3_factor_1 : decode cX3_factor 1 = .ok (.invokestatic 55, 3) := by decide +kernel
theorem dX3_factor_4 : decode cX3_factor 4 = .ok (.ifCond .eq 21, 3) := by decide +kernel
theorem dX3_factor_7 : decode cX3_factor 7 = .ok (.iload_n 2, 1) := by decide +kernel
theorem dX3_factor_8 : decode cX3_factor 8 = .ok (.invokestatic 81, 3) := by decide +kernel
theorem dX3_factor_11 : decode cX3_factor 11 = .ok (.ifCond .eq 14, 3) := by decide +kernel
theorem dX3_factor_14 : decode cX3_factor 14 = .ok (.iload_n 3, 1) := by decide +kernel
theorem dX3_factor_15 : decode cX3_factor 15 = .ok (.iconst 0, 1) := by decide +kernel
theorem dX3_factor_16 : decode cX3_factor 16 = .ok (.sipush 5000, 3) := by decide +kernel
theorem dX3_factor_19 : decode cX3_factor 19 = .ok (.invokestatic 59, 3) := by decide +kernel
theorem dX3_factor_22 : decode cX3_factor 22 = .ok (.ifCond .ne 13, 3) := by decide +kernel
theorem dX3_factor_25 : decode cX3_factor 25 = .ok (.new 64, 3) := by decide +kernel
theorem dX3_factor_28 : decode cX3_factor 28 = .ok (.dup, 1) := by decide +kernel
theorem dX3_factor_29 : decode cX3_factor 29 = .ok (.ldc 84, 2) := by decide +kernel
theorem dX3_factor_31 : decode cX3_factor 31 = .ok (.invokespecial 68, 3) := by decide +kernel
theorem dX3_factor_34 : decode cX3_factor 34 = .ok (.athrow, 1) := by decide +kernel
theorem dX3_factor_35 : decode cX3_factor 35 = .ok (.aload_n 0, 1) := by decide +kernel
theorem dX3_factor_36 : decode cX3_factor 36 = .ok (.getfield 13, 3) := by decide +kernel
theorem dX3_factor_39 : decode cX3_factor 39 = .ok (.iload_n 1, 1) := by decide +kernel
theorem dX3_factor_40 : decode cX3_factor 40 = .ok (.iconst 3, 1) := by decide +kernel
theorem dX3_factor_41 : decode cX3_factor 41 = .ok (.imul, 1) := by decide +kernel
theorem dX3_factor_42 : decode cX3_factor 42 = .ok (.iload_n 2, 1) := by decide +kernel
theorem dX3_factor_43 : decode cX3_factor 43 = .ok (.iadd, 1) := by decide +kernel
theorem dX3_factor_44 : decode cX3_factor 44 = .ok (.iload_n 3, 1) := by decide +kernel
theorem dX3_factor_45 : decode cX3_factor 45 = .ok (.iastore, 1) := by decide +kernel
theorem dX3_factor_46 : decode cX3_factor 46 = .ok (.return_, 1) := by decide +kernel
theorem dX3_vessel_0 : decode cX3_vessel 0 = .ok (.iload_n 1, 1) := by decide +kernel
theorem dX3_vessel_1 : decode cX3_vessel 1 = .ok (.invokestatic 86, 3) := by decide +kernel
theorem dX3_vessel_4 : decode cX3_vessel 4 = .ok (.ifCond .eq 10, 3) := by decide +kernel
theorem dX3_vessel_7 : decode cX3_vessel 7 = .ok (.iload_n 2, 1) := by decide +kernel
theorem dX3_vessel_8 : decode cX3_vessel 8 = .ok (.invokestatic 89, 3) := by decide +kernel
theorem dX3_vessel_11 : decode cX3_vessel 11 = .ok (.ifCond .ne 13, 3) := by decide +kernel
theorem dX3_vessel_14 : decode cX3_vessel 14 = .ok (.new 64, 3) := by decide +kernel
theorem dX3_vessel_17 : decode cX3_vessel 17 = .ok (.dup, 1) := by decide +kernel
theorem dX3_vessel_18 : decode cX3_vessel 18 = .ok (.ldc 92, 2) := by decide +kernel
theorem dX3_vessel_20 : decode cX3_vessel 20 = .ok (.invokespecial 68, 3) := by decide +kernel
theorem dX3_vessel_23 : decode cX3_vessel 23 = .ok (.athrow, 1) := by decide +kernel
theorem dX3_vessel_24 : decode cX3_vessel 24 = .ok (.aload_n 0, 1) := by decide +kernel
theorem dX3_vessel_25 : decode cX3_vessel 25 = .ok (.getfield 19, 3) := by decide +kernel
theorem dX3_vessel_28 : decode cX3_vessel 28 = .ok (.iload_n 1, 1) := by decide +kernel
theorem dX3_vessel_29 : decode cX3_vessel 29 = .ok (.invokevirtual 94, 3) := by decide +kernel
theorem dX3_vessel_32 : decode cX3_vessel 32 = .ok (.ifCond .eq 13, 3) := by decide +kernel
theorem dX3_vessel_35 : decode cX3_vessel 35 = .ok (.new 97, 3) := by decide +kernel
theorem dX3_vessel_38 : decode cX3_vessel 38 = .ok (.dup, 1) := by decide +kernel
theorem dX3_vessel_39 : decode cX3_vessel 39 = .ok (.ldc 99, 2) := by decide +kernel
theorem dX3_vessel_41 : decode cX3_vessel 41 = .ok (.invokespecial 101, 3) := by decide +kernel
theorem dX3_vessel_44 : decode cX3_vessel 44 = .ok (.athrow, 1) := by decide +kernel
theorem dX3_vessel_45 : decode cX3_vessel 45 = .ok (.aload_n 0, 1) := by decide +kernel
theorem dX3_vessel_46 : decode cX3_vessel 46 = .ok (.getfield 19, 3) := by decide +kernel
theorem dX3_vessel_49 : decode cX3_vessel 49 = .ok (.iload_n 1, 1) := by decide +kernel
theorem dX3_vessel_50 : decode cX3_vessel 50 = .ok (.iload_n 2, 1) := by decide +kernel
theorem dX3_vessel_51 : decode cX3_vessel 51 = .ok (.invokevirtual 102, 3) := by decide +kernel
theorem dX3_vessel_54 : decode cX3_vessel 54 = .ok (.return_, 1) := by decide +kernel
theorem dX3_link_0 : decode cX3_link 0 = .ok (.iload_n 1, 1) := by decide +kernel
theorem dX3_link_1 : decode cX3_link 1 = .ok (.iload_n 2, 1) := by decide +kernel
theorem dX3_link_2 : decode cX3_link 2 = .ok (.invokestatic 105, 3) := by decide +kernel
theorem dX3_link_5 : decode cX3_link 5 = .ok (.ifCond .ne 13, 3) := by decide +kernel
theorem dX3_link_8 : decode cX3_link 8 = .ok (.new 64, 3) := by decide +kernel
theorem dX3_link_11 : decode cX3_link 11 = .ok (.dup, 1) := by decide +kernel
theorem dX3_link_12 : decode cX3_link 12 = .ok (.ldc 108, 2) := by decide +kernel
theorem dX3_link_14 : decode cX3_link 14 = .ok (.invokespecial 68, 3) := by decide +kernel
theorem dX3_link_17 : decode cX3_link 17 = .ok (.athrow, 1) := by decide +kernel
theorem dX3_link_18 : decode cX3_link 18 = .ok (.aload_n 0, 1) := by decide +kernel
theorem dX3_link_19 : decode cX3_link 19 = .ok (.getfield 19, 3) := by decide +kernel
theorem dX3_link_22 : decode cX3_link 22 = .ok (.iload_n 1, 1) := by decide +kernel
theorem dX3_link_23 : decode cX3_link 23 = .ok (.iload_n 2, 1) := by decide +kernel
theorem dX3_link_24 : decode cX3_link 24 = .ok (.invokevirtual 110, 3) := by decide +kernel
theorem dX3_link_27 : decode cX3_link 27 = .ok (.ifCond .eq 13, 3) := by decide +kernel
theorem dX3_link_30 : decode cX3_link 30 = .ok (.new 97, 3) := by decide +kernel
theorem dX3_link_33 : decode cX3_link 33 = .ok (.dup, 1) := by decide +kernel
theorem dX3_link_34 : decode cX3_link 34 = .ok (.ldc 113, 2) := by decide +kernel
theorem dX3_link_36 : decode cX3_link 36 = .ok (.invokespecial 101, 3) := by decide +kernel
theorem dX3_link_39 : decode cX3_link 39 = .ok (.athrow, 1) := by decide +kernel
theorem dX3_link_40 : decode cX3_link 40 = .ok (.aload_n 0, 1) := by decide +kernel
theorem dX3_link_41 : decode cX3_link 41 = .ok (.getfield 19, 3) := by decide +kernel
theorem dX3_link_44 : decode cX3_link 44 = .ok (.iload_n 1, 1) := by decide +kernel
theorem dX3_link_45 : decode cX3_link 45 = .ok (.iload_n 2, 1) := by decide +kernel
theorem dX3_link_46 : decode cX3_link 46 = .ok (.invokevirtual 115, 3) := by decide +kernel
theorem dX3_link_49 : decode cX3_link 49 = .ok (.return_, 1) := by decide +kernel
theorem dX3_unlink_0 : decode cX3_unlink 0 = .ok (.iload_n 1, 1) := by decide +kernel
theorem dX3_unlink_1 : decode cX3_unlink 1 = .ok (.iload_n 2, 1) := by decide +kernel
theorem dX3_unlink_2 : decode cX3_unlink 2 = .ok (.invokestatic 105, 3) := by decide +kernel
theorem dX3_unlink_5 : decode cX3_unlink 5 = .ok (.ifCond .ne 13, 3) := by decide +kernel
theorem dX3_unlink_8 : decode cX3_unlink 8 = .ok (.new 64, 3) := by decide +kernel
theorem dX3_unlink_11 : decode cX3_unlink 11 = .ok (.dup, 1) := by decide +kernel
theorem dX3_unlink_12 : decode cX3_unlink 12 = .ok (.ldc 108, 2) := by decide +kernel
theorem dX3_unlink_14 : decode cX3_unlink 14 = .ok (.invokespecial 68, 3) := by decide +kernel
theorem dX3_unlink_17 : decode cX3_unlink 17 = .ok (.athrow, 1) := by decide +kernel
theorem dX3_unlink_18 : decode cX3_unlink 18 = .ok (.aload_n 0, 1) := by decide +kernel
theorem dX3_unlink_19 : decode cX3_unlink 19 = .ok (.getfield 19, 3) := by decide +kernel
theorem dX3_unlink_22 : decode cX3_unlink 22 = .ok (.iload_n 1, 1) := by decide +kernel
theorem dX3_unlink_23 : decode cX3_unlink 23 = .ok (.iload_n 2, 1) := by decide +kernel
theorem dX3_unlink_24 : decode cX3_unlink 24 = .ok (.invokevirtual 118, 3) := by decide +kernel
theorem dX3_unlink_27 : decode cX3_unlink 27 = .ok (.ifCond .ne 13, 3) := by decide +kernel
theorem dX3_unlink_30 : decode cX3_unlink 30 = .ok (.new 97, 3) := by decide +kernel
theorem dX3_unlink_33 : decode cX3_unlink 33 = .ok (.dup, 1) := by decide +kernel
theorem dX3_unlink_34 : decode cX3_unlink 34 = .ok (.ldc 121, 2) := by decide +kernel
theorem dX3_unlink_36 : decode cX3_unlink 36 = .ok (.invokespecial 101, 3) := by decide +kernel
theorem dX3_unlink_39 : decode cX3_unlink 39 = .ok (.athrow, 1) := by decide +kernel
theorem dX3_unlink_40 : decode cX3_unlink 40 = .ok (.aload_n 0, 1) := by decide +kernel
theorem dX3_unlink_41 : decode cX3_unlink 41 = .ok (.getfield 19, 3) := by decide +kernel
theorem dX3_unlink_44 : decode cX3_unlink 44 = .ok (.iload_n 1, 1) := by decide +kernel
theorem dX3_unlink_45 : decode cX3_unlink 45 = .ok (.iload_n 2, 1) := by decide +kernel
theorem dX3_unlink_46 : decode cX3_unlink 46 = .ok (.invokevirtual 123, 3) := by decide +kernel
theorem dX3_unlink_49 : decode cX3_unlink 49 = .ok (.return_, 1) := by decide +kernel
theorem dX3_issue_0 : decode cX3_issue 0 = .ok (.iload_n 1, 1) := by decide +kernel
theorem dX3_issue_1 : decode cX3_issue 1 = .ok (.invokestatic 55, 3) := by decide +kernel
theorem dX3_issue_4 : decode cX3_issue 4 = .ok (.ifCond .eq 20, 3) := by decide +kernel
theorem dX3_issue_7 : decode cX3_issue 7 = .ok (.iload_n 2, 1) := by decide +kernel
theorem dX3_issue_8 : decode cX3_issue 8 = .ok (.invokestatic 89, 3) := by decide +kernel
theorem dX3_issue_11 : decode cX3_issue 11 = .ok (.ifCond .eq 13, 3) := by decide +kernel
theorem dX3_issue_14 : decode cX3_issue 14 = .ok (.iload_n 3, 1) := by decide +kernel
theorem dX3_issue_15 : decode cX3_issue 15 = .ok (.iconst 1, 1) := by decide +kernel
theorem dX3_issue_16 : decode cX3_issue 16 = .ok (.ldc 63, 2) := by decide +kernel
theorem dX3_issue_18 : decode cX3_issue 18 = .ok (.invokestatic 59, 3) := by decide +kernel
theorem dX3_issue_21 : decode cX3_issue 21 = .ok (.ifCond .ne 13, 3) := by decide +kernel
theorem dX3_issue_24 : decode cX3_issue 24 = .ok (.new 64, 3) := by decide +kernel
theorem dX3_issue_27 : decode cX3_issue 27 = .ok (.dup, 1) := by decide +kernel
theorem dX3_issue_28 : decode cX3_issue 28 = .ok (.ldc 126, 2) := by decide +kernel
theorem dX3_issue_30 : decode cX3_issue 30 = .ok (.invokespecial 68, 3) := by decide +kernel
theorem dX3_issue_33 : decode cX3_issue 33 = .ok (.athrow, 1) := by decide +kernel
theorem dX3_issue_34 : decode cX3_issue 34 = .ok (.aload_n 0, 1) := by decide +kernel
theorem dX3_issue_35 : decode cX3_issue 35 = .ok (.getfield 41, 3) := by decide +kernel
theorem dX3_issue_38 : decode cX3_issue 38 = .ok (.ifCond .le 13, 3) := by decide +kernel
theorem dX3_issue_41 : decode cX3_issue 41 = .ok (.new 97, 3) := by decide +kernel
theorem dX3_issue_44 : decode cX3_issue 44 = .ok (.dup, 1) := by decide +kernel
theorem dX3_issue_45 : decode cX3_issue 45 = .ok (.ldc 128, 2) := by decide +kernel
theorem dX3_issue_47 : decode cX3_issue 47 = .ok (.invokespecial 101, 3) := by decide +kernel
theorem dX3_issue_50 : decode cX3_issue 50 = .ok (.athrow, 1) := by decide +kernel
theorem dX3_issue_51 : decode cX3_issue 51 = .ok (.aload_n 0, 1) := by decide +kernel
theorem dX3_issue_52 : decode cX3_issue 52 = .ok (.getfield 19, 3) := by decide +kernel
theorem dX3_issue_55 : decode cX3_issue 55 = .ok (.iload_n 1, 1) := by decide +kernel
theorem dX3_issue_56 : decode cX3_issue 56 = .ok (.invokevirtual 130, 3) := by decide +kernel
theorem dX3_issue_59 : decode cX3_issue 59 = .ok (.iload_n 3, 1) := by decide +kernel
theorem dX3_issue_60 : decode cX3_issue 60 = .ok (.iadd, 1) := by decide +kernel
theorem dX3_issue_61 : decode cX3_issue 61 = .ok (.ldc 63, 2) := by decide +kernel
theorem dX3_issue_63 : decode cX3_issue 63 = .ok (.if_icmp .gt 16, 3) := by decide +kernel
theorem dX3_issue_66 : decode cX3_issue 66 = .ok (.aload_n 0, 1) := by decide +kernel
theorem dX3_issue_67 : decode cX3_issue 67 = .ok (.getfield 19, 3) := by decide +kernel
theorem dX3_issue_70 : decode cX3_issue 70 = .ok (.iload_n 1, 1) := by decide +kernel
theorem dX3_issue_71 : decode cX3_issue 71 = .ok (.iload_n 2, 1) := by decide +kernel
theorem dX3_issue_72 : decode cX3_issue 72 = .ok (.iload_n 3, 1) := by decide +kernel
theorem dX3_issue_73 : decode cX3_issue 73 = .ok (.invokevirtual 134, 3) := by decide +kernel
theorem dX3_issue_76 : decode cX3_issue 76 = .ok (.ifCond .eq 13, 3) := by decide +kernel
theorem dX3_issue_79 : decode cX3_issue 79 = .ok (.new 97, 3) := by decide +kernel
theorem dX3_issue_82 : decode cX3_issue 82 = .ok (.dup, 1) := by decide +kernel
theorem dX3_issue_83 : decode cX3_issue 83 = .ok (.ldc 137, 2) := by decide +kernel
theorem dX3_issue_85 : decode cX3_issue 85 = .ok (.invokespecial 101, 3) := by decide +kernel
theorem dX3_issue_88 : decode cX3_issue 88 = .ok (.athrow, 1) := by decide +kernel
theorem dX3_issue_89 : decode cX3_issue 89 = .ok (.aload_n 0, 1) := by decide +kernel
theorem dX3_issue_90 : decode cX3_issue 90 = .ok (.getfield 19, 3) := by decide +kernel
theorem dX3_issue_93 : decode cX3_issue 93 = .ok (.iload_n 1, 1) := by decide +kernel
theorem dX3_issue_94 : decode cX3_issue 94 = .ok (.iload_n 2, 1) := by decide +kernel
theorem dX3_issue_95 : decode cX3_issue 95 = .ok (.iload_n 3, 1) := by decide +kernel
theorem dX3_issue_96 : decode cX3_issue 96 = .ok (.invokevirtual 139, 3) := by decide +kernel
theorem dX3_issue_99 : decode cX3_issue 99 = .ok (.ireturn, 1) := by decide +kernel
theorem dX3_sell_0 : decode cX3_sell 0 = .ok (.iload_n 1, 1) := by decide +kernel
theorem dX3_sell_1 : decode cX3_sell 1 = .ok (.invokestatic 55, 3) := by decide +kernel
theorem dX3_sell_4 : decode cX3_sell 4 = .ok (.ifCond .eq 22, 3) := by decide +kernel
theorem dX3_sell_7 : decode cX3_sell 7 = .ok (.iload_n 2, 1) := by decide +kernel
theorem dX3_sell_8 : decode cX3_sell 8 = .ok (.iload_n 3, 1) := by decide +kernel
theorem dX3_sell_9 : decode cX3_sell 9 = .ok (.invokestatic 105, 3) := by decide +kernel
theorem dX3_sell_12 : decode cX3_sell 12 = .ok (.ifCond .eq 14, 3) := by decide +kernel
theorem dX3_sell_15 : decode cX3_sell 15 = .ok (.iload 4, 2) := by decide +kernel
theorem dX3_sell_17 : decode cX3_sell 17 = .ok (.iconst 1, 1) := by decide +kernel
theorem dX3_sell_18 : decode cX3_sell 18 = .ok (.ldc 63, 2) := by decide +kernel
theorem dX3_sell_20 : decode cX3_sell 20 = .ok (.invokestatic 59, 3) := by decide +kernel
theorem dX3_sell_23 : decode cX3_sell 23 = .ok (.ifCond .ne 13, 3) := by decide +kernel
theorem dX3_sell_26 : decode cX3_sell 26 = .ok (.new 64, 3) := by decide +kernel
theorem dX3_sell_29 : decode cX3_sell 29 = .ok (.dup, 1) := by decide +kernel
theorem dX3_sell_30 : decode cX3_sell 30 = .ok (.ldc 143, 2) := by decide +kernel
theorem dX3_sell_32 : decode cX3_sell 32 = .ok (.invokespecial 68, 3) := by decide +kernel
theorem dX3_sell_35 : decode cX3_sell 35 = .ok (.athrow, 1) := by decide +kernel
theorem dX3_sell_36 : decode cX3_sell 36 = .ok (.aload_n 0, 1) := by decide +kernel
theorem dX3_sell_37 : decode cX3_sell 37 = .ok (.getfield 19, 3) := by decide +kernel
theorem dX3_sell_40 : decode cX3_sell 40 = .ok (.iload_n 1, 1) := by decide +kernel
theorem dX3_sell_41 : decode cX3_sell 41 = .ok (.iload_n 2, 1) := by decide +kernel
theorem dX3_sell_42 : decode cX3_sell 42 = .ok (.invokevirtual 145, 3) := by decide +kernel
theorem dX3_sell_45 : decode cX3_sell 45 = .ok (.iload 4, 2) := by decide +kernel
theorem dX3_sell_47 : decode cX3_sell 47 = .ok (.if_icmp .ge 13, 3) := by decide +kernel
theorem dX3_sell_50 : decode cX3_sell 50 = .ok (.new 97, 3) := by decide +kernel
theorem dX3_sell_53 : decode cX3_sell 53 = .ok (.dup, 1) := by decide +kernel
theorem dX3_sell_54 : decode cX3_sell 54 = .ok (.ldc 149, 2) := by decide +kernel
theorem dX3_sell_56 : decode cX3_sell 56 = .ok (.invokespecial 101, 3) := by decide +kernel
theorem dX3_sell_59 : decode cX3_sell 59 = .ok (.athrow, 1) := by decide +kernel
theorem dX3_sell_60 : decode cX3_sell 60 = .ok (.aload_n 0, 1) := by decide +kernel
theorem dX3_sell_61 : decode cX3_sell 61 = .ok (.getfield 19, 3) := by decide +kernel
theorem dX3_sell_64 : decode cX3_sell 64 = .ok (.iload_n 2, 1) := by decide +kernel
theorem dX3_sell_65 : decode cX3_sell 65 = .ok (.iload_n 3, 1) := by decide +kernel
theorem dX3_sell_66 : decode cX3_sell 66 = .ok (.invokevirtual 151, 3) := by decide +kernel
theorem dX3_sell_69 : decode cX3_sell 69 = .ok (.ifCond .ne 27, 3) := by decide +kernel
theorem dX3_sell_72 : decode cX3_sell 72 = .ok (.aload_n 0, 1) := by decide +kernel
theorem dX3_sell_73 : decode cX3_sell 73 = .ok (.getfield 19, 3) := by decide +kernel
theorem dX3_sell_76 : decode cX3_sell 76 = .ok (.iload_n 1, 1) := by decide +kernel
theorem dX3_sell_77 : decode cX3_sell 77 = .ok (.iload_n 3, 1) := by decide +kernel
theorem dX3_sell_78 : decode cX3_sell 78 = .ok (.iload 4, 2) := by decide +kernel
theorem dX3_sell_80 : decode cX3_sell 80 = .ok (.invokevirtual 134, 3) := by decide +kernel
theorem dX3_sell_83 : decode cX3_sell 83 = .ok (.ifCond .eq 13, 3) := by decide +kernel
theorem dX3_sell_86 : decode cX3_sell 86 = .ok (.new 97, 3) := by decide +kernel
theorem dX3_sell_89 : decode cX3_sell 89 = .ok (.dup, 1) := by decide +kernel
theorem dX3_sell_90 : decode cX3_sell 90 = .ok (.ldc 154, 2) := by decide +kernel
theorem dX3_sell_92 : decode cX3_sell 92 = .ok (.invokespecial 101, 3) := by decide +kernel
theorem dX3_sell_95 : decode cX3_sell 95 = .ok (.athrow, 1) := by decide +kernel
theorem dX3_sell_96 : decode cX3_sell 96 = .ok (.aload_n 0, 1) := by decide +kernel
theorem dX3_sell_97 : decode cX3_sell 97 = .ok (.getfield 19, 3) := by decide +kernel
theorem dX3_sell_100 : decode cX3_sell 100 = .ok (.iload_n 1, 1) := by decide +kernel
theorem dX3_sell_101 : decode cX3_sell 101 = .ok (.iload_n 2, 1) := by decide +kernel
theorem dX3_sell_102 : decode cX3_sell 102 = .ok (.iload 4, 2) := by decide +kernel
theorem dX3_sell_104 : decode cX3_sell 104 = .ok (.ineg, 1) := by decide +kernel
theorem dX3_sell_105 : decode cX3_sell 105 = .ok (.invokevirtual 139, 3) := by decide +kernel
theorem dX3_sell_108 : decode cX3_sell 108 = .ok (.pop, 1) := by decide +kernel
theorem dX3_sell_109 : decode cX3_sell 109 = .ok (.aload_n 0, 1) := by decide +kernel
theorem dX3_sell_110 : decode cX3_sell 110 = .ok (.getfield 19, 3) := by decide +kernel
theorem dX3_sell_113 : decode cX3_sell 113 = .ok (.iload_n 1, 1) := by decide +kernel
theorem dX3_sell_114 : decode cX3_sell 114 = .ok (.iload_n 3, 1) := by decide +kernel
theorem dX3_sell_115 : decode cX3_sell 115 = .ok (.iload 4, 2) := by decide +kernel
theorem dX3_sell_117 : decode cX3_sell 117 = .ok (.invokevirtual 139, 3) := by decide +kernel
theorem dX3_sell_120 : decode cX3_sell 120 = .ok (.pop, 1) := by decide +kernel
theorem dX3_sell_121 : decode cX3_sell 121 = .ok (.return_, 1) := by decide +kernel
theorem dX3_place_0 : decode cX3_place 0 = .ok (.iload_n 1, 1) := by decide +kernel
theorem dX3_place_1 : decode cX3_place 1 = .ok (.invokestatic 55, 3) := by decide +kernel
theorem dX3_place_4 : decode cX3_place 4 = .ok (.ifCond .eq 10, 3) := by decide +kernel
theorem dX3_place_7 : decode cX3_place 7 = .ok (.iload_n 2, 1) := by decide +kernel
theorem dX3_place_8 : decode cX3_place 8 = .ok (.invokestatic 86, 3) := by decide +kernel
theorem dX3_place_11 : decode cX3_place 11 = .ok (.ifCond .ne 13, 3) := by decide +kernel
theorem dX3_place_14 : decode cX3_place 14 = .ok (.new 64, 3) := by decide +kernel
theorem dX3_place_17 : decode cX3_place 17 = .ok (.dup, 1) := by decide +kernel
theorem dX3_place_18 : decode cX3_place 18 = .ok (.ldc 156, 2) := by decide +kernel
theorem dX3_place_20 : decode cX3_place 20 = .ok (.invokespecial 68, 3) := by decide +kernel
theorem dX3_place_23 : decode cX3_place 23 = .ok (.athrow, 1) := by decide +kernel
theorem dX3_place_24 : decode cX3_place 24 = .ok (.iload_n 3, 1) := by decide +kernel
theorem dX3_place_25 : decode cX3_place 25 = .ok (.aload_n 0, 1) := by decide +kernel
theorem dX3_place_26 : decode cX3_place 26 = .ok (.getfield 19, 3) := by decide +kernel
theorem dX3_place_29 : decode cX3_place 29 = .ok (.iload_n 1, 1) := by decide +kernel
theorem dX3_place_30 : decode cX3_place 30 = .ok (.aload_n 0, 1) := by decide +kernel
theorem dX3_place_31 : decode cX3_place 31 = .ok (.getfield 19, 3) := by decide +kernel
theorem dX3_place_34 : decode cX3_place 34 = .ok (.iload_n 2, 1) := by decide +kernel
theorem dX3_place_35 : decode cX3_place 35 = .ok (.invokevirtual 158, 3) := by decide +kernel
theorem dX3_place_38 : decode cX3_place 38 = .ok (.invokevirtual 145, 3) := by decide +kernel
theorem dX3_place_41 : decode cX3_place 41 = .ok (.if_icmp .le 13, 3) := by decide +kernel
theorem dX3_place_44 : decode cX3_place 44 = .ok (.new 97, 3) := by decide +kernel
theorem dX3_place_47 : decode cX3_place 47 = .ok (.dup, 1) := by decide +kernel
theorem dX3_place_48 : decode cX3_place 48 = .ok (.ldc 149, 2) := by decide +kernel
theorem dX3_place_50 : decode cX3_place 50 = .ok (.invokespecial 101, 3) := by decide +kernel
theorem dX3_place_53 : decode cX3_place 53 = .ok (.athrow, 1) := by decide +kernel
theorem dX3_place_54 : decode cX3_place 54 = .ok (.iload_n 3, 1) := by decide +kernel
theorem dX3_place_55 : decode cX3_place 55 = .ok (.aload_n 0, 1) := by decide +kernel
theorem dX3_place_56 : decode cX3_place 56 = .ok (.getfield 19, 3) := by decide +kernel
theorem dX3_place_59 : decode cX3_place 59 = .ok (.iload_n 1, 1) := by decide +kernel
theorem dX3_place_60 : decode cX3_place 60 = .ok (.iload_n 2, 1) := by decide +kernel
theorem dX3_place_61 : decode cX3_place 61 = .ok (.invokevirtual 161, 3) := by decide +kernel
theorem dX3_place_64 : decode cX3_place 64 = .ok (.ineg, 1) := by decide +kernel
theorem dX3_place_65 : decode cX3_place 65 = .ok (.if_icmp .ge 13, 3) := by decide +kernel
theorem dX3_place_68 : decode cX3_place 68 = .ok (.new 97, 3) := by decide +kernel
theorem dX3_place_71 : decode cX3_place 71 = .ok (.dup, 1) := by decide +kernel
theorem dX3_place_72 : decode cX3_place 72 = .ok (.ldc 164, 2) := by decide +kernel
theorem dX3_place_74 : decode cX3_place 74 = .ok (.invokespecial 101, 3) := by decide +kernel
theorem dX3_place_77 : decode cX3_place 77 = .ok (.athrow, 1) := by decide +kernel
theorem dX3_place_78 : decode cX3_place 78 = .ok (.aload_n 0, 1) := by decide +kernel
theorem dX3_place_79 : decode cX3_place 79 = .ok (.getfield 19, 3) := by decide +kernel
theorem dX3_place_82 : decode cX3_place 82 = .ok (.iload_n 1, 1) := by decide +kernel
theorem dX3_place_83 : decode cX3_place 83 = .ok (.iload_n 2, 1) := by decide +kernel
theorem dX3_place_84 : decode cX3_place 84 = .ok (.iload_n 3, 1) := by decide +kernel
theorem dX3_place_85 : decode cX3_place 85 = .ok (.invokevirtual 166, 3) := by decide +kernel
theorem dX3_place_88 : decode cX3_place 88 = .ok (.ireturn, 1) := by decide +kernel
theorem dX3_open_0 : decode cX3_open 0 = .ok (.iload_n 1, 1) := by decide +kernel
theorem dX3_open_1 : decode cX3_open 1 = .ok (.invokestatic 169, 3) := by decide +kernel
theorem dX3_open_4 : decode cX3_open 4 = .ok (.ifCond .eq 25, 3) := by decide +kernel
theorem dX3_open_7 : decode cX3_open 7 = .ok (.iload_n 2, 1) := by decide +kernel
theorem dX3_open_8 : decode cX3_open 8 = .ok (.invokestatic 169, 3) := by decide +kernel
theorem dX3_open_11 : decode cX3_open 11 = .ok (.ifCond .eq 18, 3) := by decide +kernel
theorem dX3_open_14 : decode cX3_open 14 = .ok (.iload_n 3, 1) := by decide +kernel
theorem dX3_open_15 : decode cX3_open 15 = .ok (.invokestatic 169, 3) := by decide +kernel
theorem dX3_open_18 : decode cX3_open 18 = .ok (.ifCond .eq 11, 3) := by decide +kernel
theorem dX3_open_21 : decode cX3_open 21 = .ok (.iload 4, 2) := by decide +kernel
theorem dX3_open_23 : decode cX3_open 23 = .ok (.invokestatic 169, 3) := by decide +kernel
theorem dX3_open_26 : decode cX3_open 26 = .ok (.ifCond .ne 13, 3) := by decide +kernel
theorem dX3_open_29 : decode cX3_open 29 = .ok (.new 64, 3) := by decide +kernel
theorem dX3_open_32 : decode cX3_open 32 = .ok (.dup, 1) := by decide +kernel
theorem dX3_open_33 : decode cX3_open 33 = .ok (.ldc 172, 2) := by decide +kernel
theorem dX3_open_35 : decode cX3_open 35 = .ok (.invokespecial 68, 3) := by decide +kernel
theorem dX3_open_38 : decode cX3_open 38 = .ok (.athrow, 1) := by decide +kernel
theorem dX3_open_39 : decode cX3_open 39 = .ok (.aload_n 0, 1) := by decide +kernel
theorem dX3_open_40 : decode cX3_open 40 = .ok (.getfield 45, 3) := by decide +kernel
theorem dX3_open_43 : decode cX3_open 43 = .ok (.ifCond .ne 12, 3) := by decide +kernel
theorem dX3_open_46 : decode cX3_open 46 = .ok (.aload_n 0, 1) := by decide +kernel
theorem dX3_open_47 : decode cX3_open 47 = .ok (.getfield 41, 3) := by decide +kernel
theorem dX3_open_50 : decode cX3_open 50 = .ok (.bipush 8, 2) := by decide +kernel
theorem dX3_open_52 : decode cX3_open 52 = .ok (.if_icmp .lt 13, 3) := by decide +kernel
theorem dX3_open_55 : decode cX3_open 55 = .ok (.new 97, 3) := by decide +kernel
theorem dX3_open_58 : decode cX3_open 58 = .ok (.dup, 1) := by decide +kernel
theorem dX3_open_59 : decode cX3_open 59 = .ok (.ldc 174, 2) := by decide +kernel
theorem dX3_open_61 : decode cX3_open 61 = .ok (.invokespecial 101, 3) := by decide +kernel
theorem dX3_open_64 : decode cX3_open 64 = .ok (.athrow, 1) := by decide +kernel
theorem dX3_open_65 : decode cX3_open 65 = .ok (.aload_n 0, 1) := by decide +kernel
theorem dX3_open_66 : decode cX3_open 66 = .ok (.dup, 1) := by decide +kernel
theorem dX3_open_67 : decode cX3_open 67 = .ok (.getfield 41, 3) := by decide +kernel
theorem dX3_open_70 : decode cX3_open 70 = .ok (.iconst 1, 1) := by decide +kernel
theorem dX3_open_71 : decode cX3_open 71 = .ok (.iadd, 1) := by decide +kernel
theorem dX3_open_72 : decode cX3_open 72 = .ok (.putfield 41, 3) := by decide +kernel
theorem dX3_open_75 : decode cX3_open 75 = .ok (.aload_n 0, 1) := by decide +kernel
theorem dX3_open_76 : decode cX3_open 76 = .ok (.iconst 1, 1) := by decide +kernel
theorem dX3_open_77 : decode cX3_open 77 = .ok (.putfield 45, 3) := by decide +kernel
theorem dX3_open_80 : decode cX3_open 80 = .ok (.aload_n 0, 1) := by decide +kernel
theorem dX3_open_81 : decode cX3_open 81 = .ok (.getfield 26, 3) := by decide +kernel
theorem dX3_open_84 : decode cX3_open 84 = .ok (.aload_n 0, 1) := by decide +kernel
theorem dX3_open_85 : decode cX3_open 85 = .ok (.getfield 41, 3) := by decide +kernel
theorem dX3_open_88 : decode cX3_open 88 = .ok (.iconst 0, 1) := by decide +kernel
theorem dX3_open_89 : decode cX3_open 89 = .ok (.iload_n 1, 1) := by decide +kernel
theorem dX3_open_90 : decode cX3_open 90 = .ok (.aload_n 0, 1) := by decide +kernel
theorem dX3_open_91 : decode cX3_open 91 = .ok (.getfield 19, 3) := by decide +kernel
theorem dX3_open_94 : decode cX3_open 94 = .ok (.invokevirtual 176, 3) := by decide +kernel
theorem dX3_open_97 : decode cX3_open 97 = .ok (.aload_n 0, 1) := by decide +kernel
theorem dX3_open_98 : decode cX3_open 98 = .ok (.getfield 26, 3) := by decide +kernel
theorem dX3_open_101 : decode cX3_open 101 = .ok (.aload_n 0, 1) := by decide +kernel
theorem dX3_open_102 : decode cX3_open 102 = .ok (.getfield 41, 3) := by decide +kernel
theorem dX3_open_105 : decode cX3_open 105 = .ok (.iconst 1, 1) := by decide +kernel
theorem dX3_open_106 : decode cX3_open 106 = .ok (.iload_n 2, 1) := by decide +kernel
theorem dX3_open_107 : decode cX3_open 107 = .ok (.aload_n 0, 1) := by decide +kernel
theorem dX3_open_108 : decode cX3_open 108 = .ok (.getfield 19, 3) := by decide +kernel
theorem dX3_open_111 : decode cX3_open 111 = .ok (.invokevirtual 176, 3) := by decide +kernel
theorem dX3_open_114 : decode cX3_open 114 = .ok (.aload_n 0, 1) := by decide +kernel
theorem dX3_open_115 : decode cX3_open 115 = .ok (.getfield 26, 3) := by decide +kernel
theorem dX3_open_118 : decode cX3_open 118 = .ok (.aload_n 0, 1) := by decide +kernel
theorem dX3_open_119 : decode cX3_open 119 = .ok (.getfield 41, 3) := by decide +kernel
theorem dX3_open_122 : decode cX3_open 122 = .ok (.iconst 2, 1) := by decide +kernel
theorem dX3_open_123 : decode cX3_open 123 = .ok (.iload_n 3, 1) := by decide +kernel
theorem dX3_open_124 : decode cX3_open 124 = .ok (.aload_n 0, 1) := by decide +kernel
theorem dX3_open_125 : decode cX3_open 125 = .ok (.getfield 19, 3) := by decide +kernel
theorem dX3_open_128 : decode cX3_open 128 = .ok (.invokevirtual 176, 3) := by decide +kernel
theorem dX3_open_131 : decode cX3_open 131 = .ok (.aload_n 0, 1) := by decide +kernel
theorem dX3_open_132 : decode cX3_open 132 = .ok (.getfield 26, 3) := by decide +kernel
theorem dX3_open_135 : decode cX3_open 135 = .ok (.aload_n 0, 1) := by decide +kernel
theorem dX3_open_136 : decode cX3_open 136 = .ok (.getfield 41, 3) := by decide +kernel
theorem dX3_open_139 : decode cX3_open 139 = .ok (.iconst 3, 1) := by decide +kernel
theorem dX3_open_140 : decode cX3_open 140 = .ok (.iload 4, 2) := by decide +kernel
theorem dX3_open_142 : decode cX3_open 142 = .ok (.aload_n 0, 1) := by decide +kernel
theorem dX3_open_143 : decode cX3_open 143 = .ok (.getfield 19, 3) := by decide +kernel
theorem dX3_open_146 : decode cX3_open 146 = .ok (.invokevirtual 176, 3) := by decide +kernel
theorem dX3_open_149 : decode cX3_open 149 = .ok (.aload_n 0, 1) := by decide +kernel
theorem dX3_open_150 : decode cX3_open 150 = .ok (.getfield 26, 3) := by decide +kernel
theorem dX3_open_153 : decode cX3_open 153 = .ok (.aload_n 0, 1) := by decide +kernel
theorem dX3_open_154 : decode cX3_open 154 = .ok (.getfield 41, 3) := by decide +kernel
theorem dX3_open_157 : decode cX3_open 157 = .ok (.invokevirtual 180, 3) := by decide +kernel
theorem dX3_open_160 : decode cX3_open 160 = .ok (.aload_n 0, 1) := by decide +kernel
theorem dX3_open_161 : decode cX3_open 161 = .ok (.getfield 41, 3) := by decide +kernel
theorem dX3_open_164 : decode cX3_open 164 = .ok (.ireturn, 1) := by decide +kernel
theorem dX3_end_0 : decode cX3_end 0 = .ok (.aload_n 0, 1) := by decide +kernel
theorem dX3_end_1 : decode cX3_end 1 = .ok (.getfield 45, 3) := by decide +kernel
theorem dX3_end_4 : decode cX3_end 4 = .ok (.ifCond .ne 13, 3) := by decide +kernel
theorem dX3_end_7 : decode cX3_end 7 = .ok (.new 97, 3) := by decide +kernel
theorem dX3_end_10 : decode cX3_end 10 = .ok (.dup, 1) := by decide +kernel
theorem dX3_end_11 : decode cX3_end 11 = .ok (.ldc 184, 2) := by decide +kernel
theorem dX3_end_13 : decode cX3_end 13 = .ok (.invokespecial 101, 3) := by decide +kernel
theorem dX3_end_16 : decode cX3_end 16 = .ok (.athrow, 1) := by decide +kernel
theorem dX3_end_17 : decode cX3_end 17 = .ok (.aload_n 0, 1) := by decide +kernel
theorem dX3_end_18 : decode cX3_end 18 = .ok (.iconst 0, 1) := by decide +kernel
theorem dX3_end_19 : decode cX3_end 19 = .ok (.putfield 45, 3) := by decide +kernel
theorem dX3_end_22 : decode cX3_end 22 = .ok (.aload_n 0, 1) := by decide +kernel
theorem dX3_end_23 : decode cX3_end 23 = .ok (.getfield 26, 3) := by decide +kernel
theorem dX3_end_26 : decode cX3_end 26 = .ok (.aload_n 0, 1) := by decide +kernel
theorem dX3_end_27 : decode cX3_end 27 = .ok (.getfield 41, 3) := by decide +kernel
theorem dX3_end_30 : decode cX3_end 30 = .ok (.invokevirtual 186, 3) := by decide +kernel
theorem dX3_end_33 : decode cX3_end 33 = .ok (.aload_n 0, 1) := by decide +kernel
theorem dX3_end_34 : decode cX3_end 34 = .ok (.getfield 26, 3) := by decide +kernel
theorem dX3_end_37 : decode cX3_end 37 = .ok (.aload_n 0, 1) := by decide +kernel
theorem dX3_end_38 : decode cX3_end 38 = .ok (.getfield 41, 3) := by decide +kernel
theorem dX3_end_41 : decode cX3_end 41 = .ok (.invokevirtual 189, 3) := by decide +kernel
theorem dX3_end_44 : decode cX3_end 44 = .ok (.ireturn, 1) := by decide +kernel
theorem dX3_lease_0 : decode cX3_lease 0 = .ok (.iload_n 1, 1) := by decide +kernel
theorem dX3_lease_1 : decode cX3_lease 1 = .ok (.invokestatic 55, 3) := by decide +kernel
theorem dX3_lease_4 : decode cX3_lease 4 = .ok (.ifCond .eq 22, 3) := by decide +kernel
theorem dX3_lease_7 : decode cX3_lease 7 = .ok (.iload_n 2, 1) := by decide +kernel
theorem dX3_lease_8 : decode cX3_lease 8 = .ok (.iload_n 3, 1) := by decide +kernel
theorem dX3_lease_9 : decode cX3_lease 9 = .ok (.invokestatic 192, 3) := by decide +kernel
theorem dX3_lease_12 : decode cX3_lease 12 = .ok (.ifCond .eq 14, 3) := by decide +kernel
theorem dX3_lease_15 : decode cX3_lease 15 = .ok (.iload 4, 2) := by decide +kernel
theorem dX3_lease_17 : decode cX3_lease 17 = .ok (.iconst 1, 1) := by decide +kernel
theorem dX3_lease_18 : decode cX3_lease 18 = .ok (.ldc 63, 2) := by decide +kernel
theorem dX3_lease_20 : decode cX3_lease 20 = .ok (.invokestatic 59, 3) := by decide +kernel
theorem dX3_lease_23 : decode cX3_lease 23 = .ok (.ifCond .ne 13, 3) := by decide +kernel
theorem dX3_lease_26 : decode cX3_lease 26 = .ok (.new 64, 3) := by decide +kernel
theorem dX3_lease_29 : decode cX3_lease 29 = .ok (.dup, 1) := by decide +kernel
theorem dX3_lease_30 : decode cX3_lease 30 = .ok (.ldc 195, 2) := by decide +kernel
theorem dX3_lease_32 : decode cX3_lease 32 = .ok (.invokespecial 68, 3) := by decide +kernel
theorem dX3_lease_35 : decode cX3_lease 35 = .ok (.athrow, 1) := by decide +kernel
theorem dX3_lease_36 : decode cX3_lease 36 = .ok (.aload_n 0, 1) := by decide +kernel
theorem dX3_lease_37 : decode cX3_lease 37 = .ok (.getfield 45, 3) := by decide +kernel
theorem dX3_lease_40 : decode cX3_lease 40 = .ok (.ifCond .eq 13, 3) := by decide +kernel
theorem dX3_lease_43 : decode cX3_lease 43 = .ok (.aload_n 0, 1) := by decide +kernel
theorem dX3_lease_44 : decode cX3_lease 44 = .ok (.getfield 33, 3) := by decide +kernel
theorem dX3_lease_47 : decode cX3_lease 47 = .ok (.invokevirtual 197, 3) := by decide +kernel
theorem dX3_lease_50 : decode cX3_lease 50 = .ok (.ifCond .eq 13, 3) := by decide +kernel
theorem dX3_lease_53 : decode cX3_lease 53 = .ok (.new 97, 3) := by decide +kernel
theorem dX3_lease_56 : decode cX3_lease 56 = .ok (.dup, 1) := by decide +kernel
theorem dX3_lease_57 : decode cX3_lease 57 = .ok (.ldc 201, 2) := by decide +kernel
theorem dX3_lease_59 : decode cX3_lease 59 = .ok (.invokespecial 101, 3) := by decide +kernel
theorem dX3_lease_62 : decode cX3_lease 62 = .ok (.athrow, 1) := by decide +kernel
theorem dX3_lease_63 : decode cX3_lease 63 = .ok (.aload_n 0, 1) := by decide +kernel
theorem dX3_lease_64 : decode cX3_lease 64 = .ok (.getfield 26, 3) := by decide +kernel
theorem dX3_lease_67 : decode cX3_lease 67 = .ok (.aload_n 0, 1) := by decide +kernel
theorem dX3_lease_68 : decode cX3_lease 68 = .ok (.getfield 41, 3) := by decide +kernel
theorem dX3_lease_71 : decode cX3_lease 71 = .ok (.iload_n 2, 1) := by decide +kernel
theorem dX3_lease_72 : decode cX3_lease 72 = .ok (.iload_n 1, 1) := by decide +kernel
theorem dX3_lease_73 : decode cX3_lease 73 = .ok (.iload 4, 2) := by decide +kernel
theorem dX3_lease_75 : decode cX3_lease 75 = .ok (.invokevirtual 203, 3) := by decide +kernel
theorem dX3_lease_78 : decode cX3_lease 78 = .ok (.ifCond .ne 13, 3) := by decide +kernel
theorem dX3_lease_81 : decode cX3_lease 81 = .ok (.new 97, 3) := by decide +kernel
theorem dX3_lease_84 : decode cX3_lease 84 = .ok (.dup, 1) := by decide +kernel
theorem dX3_lease_85 : decode cX3_lease 85 = .ok (.ldc 207, 2) := by decide +kernel
theorem dX3_lease_87 : decode cX3_lease 87 = .ok (.invokespecial 101, 3) := by decide +kernel
theorem dX3_lease_90 : decode cX3_lease 90 = .ok (.athrow, 1) := by decide +kernel
theorem dX3_lease_91 : decode cX3_lease 91 = .ok (.aload_n 0, 1) := by decide +kernel
theorem dX3_lease_92 : decode cX3_lease 92 = .ok (.getfield 33, 3) := by decide +kernel
theorem dX3_lease_95 : decode cX3_lease 95 = .ok (.iconst 0, 1) := by decide +kernel
theorem dX3_lease_96 : decode cX3_lease 96 = .ok (.aload_n 0, 1) := by decide +kernel
theorem dX3_lease_97 : decode cX3_lease 97 = .ok (.getfield 41, 3) := by decide +kernel
theorem dX3_lease_100 : decode cX3_lease 100 = .ok (.iload_n 2, 1) := by decide +kernel
theorem dX3_lease_101 : decode cX3_lease 101 = .ok (.iload_n 1, 1) := by decide +kernel
theorem dX3_lease_102 : decode cX3_lease 102 = .ok (.iload_n 3, 1) := by decide +kernel
theorem dX3_lease_103 : decode cX3_lease 103 = .ok (.iload 4, 2) := by decide +kernel
theorem dX3_lease_105 : decode cX3_lease 105 = .ok (.iload 4, 2) := by decide +kernel
theorem dX3_lease_107 : decode cX3_lease 107 = .ok (.invokevirtual 209, 3) := by decide +kernel
theorem dX3_lease_110 : decode cX3_lease 110 = .ok (.istore 5, 2) := by decide +kernel
theorem dX3_lease_112 : decode cX3_lease 112 = .ok (.aload_n 0, 1) := by decide +kernel
theorem dX3_lease_113 : decode cX3_lease 113 = .ok (.getfield 33, 3) := by decide +kernel
theorem dX3_lease_116 : decode cX3_lease 116 = .ok (.iload 5, 2) := by decide +kernel
theorem dX3_lease_118 : decode cX3_lease 118 = .ok (.aload_n 0, 1) := by decide +kernel
theorem dX3_lease_119 : decode cX3_lease 119 = .ok (.getfield 26, 3) := by decide +kernel
theorem dX3_lease_122 : decode cX3_lease 122 = .ok (.invokevirtual 213, 3) := by decide +kernel
theorem dX3_lease_125 : decode cX3_lease 125 = .ok (.iload 5, 2) := by decide +kernel
theorem dX3_lease_127 : decode cX3_lease 127 = .ok (.ireturn, 1) := by decide +kernel
theorem dX3_land_0 : decode cX3_land 0 = .ok (.aload_n 0, 1) := by decide +kernel
theorem dX3_land_1 : decode cX3_land 1 = .ok (.iload_n 1, 1) := by decide +kernel
theorem dX3_land_2 : decode cX3_land 2 = .ok (.invokevirtual 217, 3) := by decide +kernel
theorem dX3_land_5 : decode cX3_land 5 = .ok (.ifCond .eq 36, 3) := by decide +kernel
theorem dX3_land_8 : decode cX3_land 8 = .ok (.iload_n 2, 1) := by decide +kernel
theorem dX3_land_9 : decode cX3_land 9 = .ok (.invokestatic 86, 3) := by decide +kernel
theorem dX3_land_12 : decode cX3_land 12 = .ok (.ifCond .eq 29, 3) := by decide +kernel
theorem dX3_land_15 : decode cX3_land 15 = .ok (.iload_n 3, 1) := by decide +kernel
theorem dX3_land_16 : decode cX3_land 16 = .ok (.invokestatic 55, 3) := by decide +kernel
theorem dX3_land_19 : decode cX3_land 19 = .ok (.ifCond .eq 22, 3) := by decide +kernel
theorem dX3_land_22 : decode cX3_land 22 = .ok (.iload 4, 2) := by decide +kernel
theorem dX3_land_24 : decode cX3_land 24 = .ok (.invokestatic 81, 3) := by decide +kernel
theorem dX3_land_27 : decode cX3_land 27 = .ok (.ifCond .eq 14, 3) := by decide +kernel
theorem dX3_land_30 : decode cX3_land 30 = .ok (.iload 5, 2) := by decide +kernel
theorem dX3_land_32 : decode cX3_land 32 = .ok (.iconst 1, 1) := by decide +kernel
theorem dX3_land_33 : decode cX3_land 33 = .ok (.ldc 63, 2) := by decide +kernel
theorem dX3_land_35 : decode cX3_land 35 = .ok (.invokestatic 59, 3) := by decide +kernel
theorem dX3_land_38 : decode cX3_land 38 = .ok (.ifCond .ne 13, 3) := by decide +kernel
theorem dX3_land_41 : decode cX3_land 41 = .ok (.new 64, 3) := by decide +kernel
theorem dX3_land_44 : decode cX3_land 44 = .ok (.dup, 1) := by decide +kernel
theorem dX3_land_45 : decode cX3_land 45 = .ok (.ldc 220, 2) := by decide +kernel
theorem dX3_land_47 : decode cX3_land 47 = .ok (.invokespecial 68, 3) := by decide +kernel
theorem dX3_land_50 : decode cX3_land 50 = .ok (.athrow, 1) := by decide +kernel
theorem dX3_land_51 : decode cX3_land 51 = .ok (.aload_n 0, 1) := by decide +kernel
theorem dX3_land_52 : decode cX3_land 52 = .ok (.getfield 13, 3) := by decide +kernel
theorem dX3_land_55 : decode cX3_land 55 = .ok (.iload_n 3, 1) := by decide +kernel
theorem dX3_land_56 : decode cX3_land 56 = .ok (.iconst 3, 1) := by decide +kernel
theorem dX3_land_57 : decode cX3_land 57 = .ok (.imul, 1) := by decide +kernel
theorem dX3_land_58 : decode cX3_land 58 = .ok (.iload 4, 2) := by decide +kernel
theorem dX3_land_60 : decode cX3_land 60 = .ok (.iadd, 1) := by decide +kernel
theorem dX3_land_61 : decode cX3_land 61 = .ok (.iaload, 1) := by decide +kernel
theorem dX3_land_62 : decode cX3_land 62 = .ok (.istore 7, 2) := by decide +kernel
theorem dX3_land_64 : decode cX3_land 64 = .ok (.iload 7, 2) := by decide +kernel
theorem dX3_land_66 : decode cX3_land 66 = .ok (.ifCond .ne 13, 3) := by decide +kernel
theorem dX3_land_69 : decode cX3_land 69 = .ok (.new 64, 3) := by decide +kernel
theorem dX3_land_72 : decode cX3_land 72 = .ok (.dup, 1) := by decide +kernel
theorem dX3_land_73 : decode cX3_land 73 = .ok (.ldc 222, 2) := by decide +kernel
theorem dX3_land_75 : decode cX3_land 75 = .ok (.invokespecial 68, 3) := by decide +kernel
theorem dX3_land_78 : decode cX3_land 78 = .ok (.athrow, 1) := by decide +kernel
theorem dX3_land_79 : decode cX3_land 79 = .ok (.aload_n 0, 1) := by decide +kernel
theorem dX3_land_80 : decode cX3_land 80 = .ok (.iload_n 1, 1) := by decide +kernel
theorem dX3_land_81 : decode cX3_land 81 = .ok (.invokevirtual 224, 3) := by decide +kernel
theorem dX3_land_84 : decode cX3_land 84 = .ok (.ifCond .eq 13, 3) := by decide +kernel
theorem dX3_land_87 : decode cX3_land 87 = .ok (.aload_n 0, 1) := by decide +kernel
theorem dX3_land_88 : decode cX3_land 88 = .ok (.getfield 33, 3) := by decide +kernel
theorem dX3_land_91 : decode cX3_land 91 = .ok (.invokevirtual 197, 3) := by decide +kernel
theorem dX3_land_94 : decode cX3_land 94 = .ok (.ifCond .eq 13, 3) := by decide +kernel
theorem dX3_land_97 : decode cX3_land 97 = .ok (.new 97, 3) := by decide +kernel
theorem dX3_land_100 : decode cX3_land 100 = .ok (.dup, 1) := by decide +kernel
theorem dX3_land_101 : decode cX3_land 101 = .ok (.ldc 227, 2) := by decide +kernel
theorem dX3_land_103 : decode cX3_land 103 = .ok (.invokespecial 101, 3) := by decide +kernel
theorem dX3_land_106 : decode cX3_land 106 = .ok (.athrow, 1) := by decide +kernel
theorem dX3_land_107 : decode cX3_land 107 = .ok (.aload_n 0, 1) := by decide +kernel
theorem dX3_land_108 : decode cX3_land 108 = .ok (.getfield 33, 3) := by decide +kernel
theorem dX3_land_111 : decode cX3_land 111 = .ok (.iconst 1, 1) := by decide +kernel
theorem dX3_land_112 : decode cX3_land 112 = .ok (.iload_n 1, 1) := by decide +kernel
theorem dX3_land_113 : decode cX3_land 113 = .ok (.iload_n 2, 1) := by decide +kernel
theorem dX3_land_114 : decode cX3_land 114 = .ok (.iload_n 3, 1) := by decide +kernel
theorem dX3_land_115 : decode cX3_land 115 = .ok (.iconst (-1), 1) := by decide +kernel
theorem dX3_land_116 : decode cX3_land 116 = .ok (.iload 5, 2) := by decide +kernel
theorem dX3_land_118 : decode cX3_land 118 = .ok (.iload 5, 2) := by decide +kernel
theorem dX3_land_120 : decode cX3_land 120 = .ok (.iload 7, 2) := by decide +kernel
theorem dX3_land_122 : decode cX3_land 122 = .ok (.iload 6, 2) := by decide +kernel
theorem dX3_land_124 : decode cX3_land 124 = .ok (.invokestatic 229, 3) := by decide +kernel
theorem dX3_land_127 : decode cX3_land 127 = .ok (.invokevirtual 209, 3) := by decide +kernel
theorem dX3_land_130 : decode cX3_land 130 = .ok (.istore 8, 2) := by decide +kernel
theorem dX3_land_132 : decode cX3_land 132 = .ok (.aload_n 0, 1) := by decide +kernel
theorem dX3_land_133 : decode cX3_land 133 = .ok (.iload_n 1, 1) := by decide +kernel
theorem dX3_land_134 : decode cX3_land 134 = .ok (.invokevirtual 233, 3) := by decide +kernel
theorem dX3_land_137 : decode cX3_land 137 = .ok (.iload 8, 2) := by decide +kernel
theorem dX3_land_139 : decode cX3_land 139 = .ok (.ireturn, 1) := by decide +kernel
theorem dX3_equivalent_0 : decode cX3_equivalent 0 = .ok (.iload_n 1, 1) := by decide +kernel
theorem dX3_equivalent_1 : decode cX3_equivalent 1 = .ok (.invokestatic 86, 3) := by decide +kernel
theorem dX3_equivalent_4 : decode cX3_equivalent 4 = .ok (.ifCond .eq 23, 3) := by decide +kernel
theorem dX3_equivalent_7 : decode cX3_equivalent 7 = .ok (.iload_n 2, 1) := by decide +kernel
theorem dX3_equivalent_8 : decode cX3_equivalent 8 = .ok (.iload_n 3, 1) := by decide +kernel
theorem dX3_equivalent_9 : decode cX3_equivalent 9 = .ok (.invokestatic 236, 3) := by decide +kernel
theorem dX3_equivalent_12 : decode cX3_equivalent 12 = .ok (.ifCond .eq 15, 3) := by decide +kernel
theorem dX3_equivalent_15 : decode cX3_equivalent 15 = .ok (.iload 4, 2) := by decide +kernel
theorem dX3_equivalent_17 : decode cX3_equivalent 17 = .ok (.iconst 1, 1) := by decide +kernel
theorem dX3_equivalent_18 : decode cX3_equivalent 18 = .ok (.sipush 1000, 3) := by decide +kernel
theorem dX3_equivalent_21 : decode cX3_equivalent 21 = .ok (.invokestatic 59, 3) := by decide +kernel
theorem dX3_equivalent_24 : decode cX3_equivalent 24 = .ok (.ifCond .ne 13, 3) := by decide +kernel
theorem dX3_equivalent_27 : decode cX3_equivalent 27 = .ok (.new 64, 3) := by decide +kernel
theorem dX3_equivalent_30 : decode cX3_equivalent 30 = .ok (.dup, 1) := by decide +kernel
theorem dX3_equivalent_31 : decode cX3_equivalent 31 = .ok (.ldc 239, 2) := by decide +kernel
theorem dX3_equivalent_33 : decode cX3_equivalent 33 = .ok (.invokespecial 68, 3) := by decide +kernel
theorem dX3_equivalent_36 : decode cX3_equivalent 36 = .ok (.athrow, 1) := by decide +kernel
theorem dX3_equivalent_37 : decode cX3_equivalent 37 = .ok (.aload_n 0, 1) := by decide +kernel
theorem dX3_equivalent_38 : decode cX3_equivalent 38 = .ok (.getfield 45, 3) := by decide +kernel
theorem dX3_equivalent_41 : decode cX3_equivalent 41 = .ok (.ifCond .eq 13, 3) := by decide +kernel
theorem dX3_equivalent_44 : decode cX3_equivalent 44 = .ok (.aload_n 0, 1) := by decide +kernel
theorem dX3_equivalent_45 : decode cX3_equivalent 45 = .ok (.getfield 33, 3) := by decide +kernel
theorem dX3_equivalent_48 : decode cX3_equivalent 48 = .ok (.invokevirtual 197, 3) := by decide +kernel
theorem dX3_equivalent_51 : decode cX3_equivalent 51 = .ok (.ifCond .eq 13, 3) := by decide +kernel
theorem dX3_equivalent_54 : decode cX3_equivalent 54 = .ok (.new 97, 3) := by decide +kernel
theorem dX3_equivalent_57 : decode cX3_equivalent 57 = .ok (.dup, 1) := by decide +kernel
theorem dX3_equivalent_58 : decode cX3_equivalent 58 = .ok (.ldc 201, 2) := by decide +kernel
theorem dX3_equivalent_60 : decode cX3_equivalent 60 = .ok (.invokespecial 101, 3) := by decide +kernel
theorem dX3_equivalent_63 : decode cX3_equivalent 63 = .ok (.athrow, 1) := by decide +kernel
theorem dX3_equivalent_64 : decode cX3_equivalent 64 = .ok (.iload 4, 2) := by decide +kernel
theorem dX3_equivalent_66 : decode cX3_equivalent 66 = .ok (.aload_n 0, 1) := by decide +kernel
theorem dX3_equivalent_67 : decode cX3_equivalent 67 = .ok (.getfield 9, 3) := by decide +kernel
theorem dX3_equivalent_70 : decode cX3_equivalent 70 = .ok (.iload_n 2, 1) := by decide +kernel
theorem dX3_equivalent_71 : decode cX3_equivalent 71 = .ok (.iaload, 1) := by decide +kernel
theorem dX3_equivalent_72 : decode cX3_equivalent 72 = .ok (.aload_n 0, 1) := by decide +kernel
theorem dX3_equivalent_73 : decode cX3_equivalent 73 = .ok (.getfield 9, 3) := by decide +kernel
theorem dX3_equivalent_76 : decode cX3_equivalent 76 = .ok (.iload_n 3, 1) := by decide +kernel
theorem dX3_equivalent_77 : decode cX3_equivalent 77 = .ok (.iaload, 1) := by decide +kernel
theorem dX3_equivalent_78 : decode cX3_equivalent 78 = .ok (.invokestatic 241, 3) := by decide +kernel
theorem dX3_equivalent_81 : decode cX3_equivalent 81 = .ok (.istore 5, 2) := by decide +kernel
theorem dX3_equivalent_83 : decode cX3_equivalent 83 = .ok (.aload_n 0, 1) := by decide +kernel
theorem dX3_equivalent_84 : decode cX3_equivalent 84 = .ok (.getfield 26, 3) := by decide +kernel
theorem dX3_equivalent_87 : decode cX3_equivalent 87 = .ok (.aload_n 0, 1) := by decide +kernel
theorem dX3_equivalent_88 : decode cX3_equivalent 88 = .ok (.getfield 41, 3) := by decide +kernel
theorem dX3_equivalent_91 : decode cX3_equivalent 91 = .ok (.iload_n 1, 1) := by decide +kernel
theorem dX3_equivalent_92 : decode cX3_equivalent 92 = .ok (.iload_n 2, 1) := by decide +kernel
theorem dX3_equivalent_93 : decode cX3_equivalent 93 = .ok (.iload_n 3, 1) := by decide +kernel
theorem dX3_equivalent_94 : decode cX3_equivalent 94 = .ok (.iload 4, 2) := by decide +kernel
theorem dX3_equivalent_96 : decode cX3_equivalent 96 = .ok (.iload 5, 2) := by decide +kernel
theorem dX3_equivalent_98 : decode cX3_equivalent 98 = .ok (.invokevirtual 244, 3) := by decide +kernel
theorem dX3_equivalent_101 : decode cX3_equivalent 101 = .ok (.ifCond .ne 13, 3) := by decide +kernel
theorem dX3_equivalent_104 : decode cX3_equivalent 104 = .ok (.new 97, 3) := by decide +kernel
theorem dX3_equivalent_107 : decode cX3_equivalent 107 = .ok (.dup, 1) := by decide +kernel
theorem dX3_equivalent_108 : decode cX3_equivalent 108 = .ok (.ldc 248, 2) := by decide +kernel
theorem dX3_equivalent_110 : decode cX3_equivalent 110 = .ok (.invokespecial 101, 3) := by decide +kernel
theorem dX3_equivalent_113 : decode cX3_equivalent 113 = .ok (.athrow, 1) := by decide +kernel
theorem dX3_equivalent_114 : decode cX3_equivalent 114 = .ok (.aload_n 0, 1) := by decide +kernel
theorem dX3_equivalent_115 : decode cX3_equivalent 115 = .ok (.getfield 33, 3) := by decide +kernel
theorem dX3_equivalent_118 : decode cX3_equivalent 118 = .ok (.iconst 2, 1) := by decide +kernel
theorem dX3_equivalent_119 : decode cX3_equivalent 119 = .ok (.aload_n 0, 1) := by decide +kernel
theorem dX3_equivalent_120 : decode cX3_equivalent 120 = .ok (.getfield 41, 3) := by decide +kernel
theorem dX3_equivalent_123 : decode cX3_equivalent 123 = .ok (.iload_n 1, 1) := by decide +kernel
theorem dX3_equivalent_124 : decode cX3_equivalent 124 = .ok (.iload_n 2, 1) := by decide +kernel
theorem dX3_equivalent_125 : decode cX3_equivalent 125 = .ok (.iload_n 3, 1) := by decide +kernel
theorem dX3_equivalent_126 : decode cX3_equivalent 126 = .ok (.iload 4, 2) := by decide +kernel
theorem dX3_equivalent_128 : decode cX3_equivalent 128 = .ok (.iload 5, 2) := by decide +kernel
theorem dX3_equivalent_130 : decode cX3_equivalent 130 = .ok (.invokevirtual 209, 3) := by decide +kernel
theorem dX3_equivalent_133 : decode cX3_equivalent 133 = .ok (.istore 6, 2) := by decide +kernel
theorem dX3_equivalent_135 : decode cX3_equivalent 135 = .ok (.aload_n 0, 1) := by decide +kernel
theorem dX3_equivalent_136 : decode cX3_equivalent 136 = .ok (.getfield 33, 3) := by decide +kernel
theorem dX3_equivalent_139 : decode cX3_equivalent 139 = .ok (.iload 6, 2) := by decide +kernel
theorem dX3_equivalent_141 : decode cX3_equivalent 141 = .ok (.aload_n 0, 1) := by decide +kernel
theorem dX3_equivalent_142 : decode cX3_equivalent 142 = .ok (.getfield 26, 3) := by decide +kernel
theorem dX3_equivalent_145 : decode cX3_equivalent 145 = .ok (.invokevirtual 213, 3) := by decide +kernel
theorem dX3_equivalent_148 : decode cX3_equivalent 148 = .ok (.iload 6, 2) := by decide +kernel
theorem dX3_equivalent_150 : decode cX3_equivalent 150 = .ok (.ireturn, 1) := by decide +kernel
theorem dX3_strike_0 : decode cX3_strike 0 = .ok (.aload_n 0, 1) := by decide +kernel
theorem dX3_strike_1 : decode cX3_strike 1 = .ok (.getfield 33, 3) := by decide +kernel
theorem dX3_strike_4 : decode cX3_strike 4 = .ok (.iload_n 1, 1) := by decide +kernel
theorem dX3_strike_5 : decode cX3_strike 5 = .ok (.invokevirtual 250, 3) := by decide +kernel
theorem dX3_strike_8 : decode cX3_strike 8 = .ok (.ifCond .ne 13, 3) := by decide +kernel
theorem dX3_strike_11 : decode cX3_strike 11 = .ok (.new 253, 3) := by decide +kernel
theorem dX3_strike_14 : decode cX3_strike 14 = .ok (.dup, 1) := by decide +kernel
theorem dX3_strike_15 : decode cX3_strike 15 = .ok (.ldc 255, 2) := by decide +kernel
theorem dX3_strike_17 : decode cX3_strike 17 = .ok (.invokespecial 257, 3) := by decide +kernel
theorem dX3_strike_20 : decode cX3_strike 20 = .ok (.athrow, 1) := by decide +kernel
theorem dX3_strike_21 : decode cX3_strike 21 = .ok (.aload_n 0, 1) := by decide +kernel
theorem dX3_strike_22 : decode cX3_strike 22 = .ok (.getfield 33, 3) := by decide +kernel
theorem dX3_strike_25 : decode cX3_strike 25 = .ok (.iload_n 1, 1) := by decide +kernel
theorem dX3_strike_26 : decode cX3_strike 26 = .ok (.invokevirtual 258, 3) := by decide +kernel
theorem dX3_strike_29 : decode cX3_strike 29 = .ok (.ifCond .ne 14, 3) := by decide +kernel
theorem dX3_strike_32 : decode cX3_strike 32 = .ok (.new 97, 3) := by decide +kernel
theorem dX3_strike_35 : decode cX3_strike 35 = .ok (.dup, 1) := by decide +kernel
theorem dX3_strike_36 : decode cX3_strike 36 = .ok (.ldc_w 261, 3) := by decide +kernel
theorem dX3_strike_39 : decode cX3_strike 39 = .ok (.invokespecial 101, 3) := by decide +kernel
theorem dX3_strike_42 : decode cX3_strike 42 = .ok (.athrow, 1) := by decide +kernel
theorem dX3_strike_43 : decode cX3_strike 43 = .ok (.aload_n 0, 1) := by decide +kernel
theorem dX3_strike_44 : decode cX3_strike 44 = .ok (.getfield 33, 3) := by decide +kernel
theorem dX3_strike_47 : decode cX3_strike 47 = .ok (.iload_n 1, 1) := by decide +kernel
theorem dX3_strike_48 : decode cX3_strike 48 = .ok (.invokevirtual 263, 3) := by decide +kernel
theorem dX3_strike_51 : decode cX3_strike 51 = .ok (.istore_n 2, 1) := by decide +kernel
theorem dX3_strike_52 : decode cX3_strike 52 = .ok (.aload_n 0, 1) := by decide +kernel
theorem dX3_strike_53 : decode cX3_strike 53 = .ok (.iload_n 2, 1) := by decide +kernel
theorem dX3_strike_54 : decode cX3_strike 54 = .ok (.invokevirtual 224, 3) := by decide +kernel
theorem dX3_strike_57 : decode cX3_strike 57 = .ok (.ifCond .ne 14, 3) := by decide +kernel
theorem dX3_strike_60 : decode cX3_strike 60 = .ok (.new 97, 3) := by decide +kernel
theorem dX3_strike_63 : decode cX3_strike 63 = .ok (.dup, 1) := by decide +kernel
theorem dX3_strike_64 : decode cX3_strike 64 = .ok (.ldc_w 266, 3) := by decide +kernel
theorem dX3_strike_67 : decode cX3_strike 67 = .ok (.invokespecial 101, 3) := by decide +kernel
theorem dX3_strike_70 : decode cX3_strike 70 = .ok (.athrow, 1) := by decide +kernel
theorem dX3_strike_71 : decode cX3_strike 71 = .ok (.aload_n 0, 1) := by decide +kernel
theorem dX3_strike_72 : decode cX3_strike 72 = .ok (.getfield 33, 3) := by decide +kernel
theorem dX3_strike_75 : decode cX3_strike 75 = .ok (.iload_n 1, 1) := by decide +kernel
theorem dX3_strike_76 : decode cX3_strike 76 = .ok (.invokevirtual 268, 3) := by decide +kernel
theorem dX3_strike_79 : decode cX3_strike 79 = .ok (.aload_n 0, 1) := by decide +kernel
theorem dX3_strike_80 : decode cX3_strike 80 = .ok (.iload_n 2, 1) := by decide +kernel
theorem dX3_strike_81 : decode cX3_strike 81 = .ok (.invokevirtual 233, 3) := by decide +kernel
theorem dX3_strike_84 : decode cX3_strike 84 = .ok (.return_, 1) := by decide +kernel
theorem dX3_reopen_0 : decode cX3_reopen 0 = .ok (.aload_n 0, 1) := by decide +kernel
theorem dX3_reopen_1 : decode cX3_reopen 1 = .ok (.iload_n 1, 1) := by decide +kernel
theorem dX3_reopen_2 : decode cX3_reopen 2 = .ok (.invokevirtual 217, 3) := by decide +kernel
theorem dX3_reopen_5 : decode cX3_reopen 5 = .ok (.ifCond .ne 14, 3) := by decide +kernel
theorem dX3_reopen_8 : decode cX3_reopen 8 = .ok (.new 64, 3) := by decide +kernel
theorem dX3_reopen_11 : decode cX3_reopen 11 = .ok (.dup, 1) := by decide +kernel
theorem dX3_reopen_12 : decode cX3_reopen 12 = .ok (.ldc_w 271, 3) := by decide +kernel
theorem dX3_reopen_15 : decode cX3_reopen 15 = .ok (.invokespecial 68, 3) := by decide +kernel
theorem dX3_reopen_18 : decode cX3_reopen 18 = .ok (.athrow, 1) := by decide +kernel
theorem dX3_reopen_19 : decode cX3_reopen 19 = .ok (.aload_n 0, 1) := by decide +kernel
theorem dX3_reopen_20 : decode cX3_reopen 20 = .ok (.iload_n 1, 1) := by decide +kernel
theorem dX3_reopen_21 : decode cX3_reopen 21 = .ok (.invokevirtual 224, 3) := by decide +kernel
theorem dX3_reopen_24 : decode cX3_reopen 24 = .ok (.ifCond .eq 14, 3) := by decide +kernel
theorem dX3_reopen_27 : decode cX3_reopen 27 = .ok (.new 97, 3) := by decide +kernel
theorem dX3_reopen_30 : decode cX3_reopen 30 = .ok (.dup, 1) := by decide +kernel
theorem dX3_reopen_31 : decode cX3_reopen 31 = .ok (.ldc_w 273, 3) := by decide +kernel
theorem dX3_reopen_34 : decode cX3_reopen 34 = .ok (.invokespecial 101, 3) := by decide +kernel
theorem dX3_reopen_37 : decode cX3_reopen 37 = .ok (.athrow, 1) := by decide +kernel
theorem dX3_reopen_38 : decode cX3_reopen 38 = .ok (.aload_n 0, 1) := by decide +kernel
theorem dX3_reopen_39 : decode cX3_reopen 39 = .ok (.getfield 37, 3) := by decide +kernel
theorem dX3_reopen_42 : decode cX3_reopen 42 = .ok (.iload_n 1, 1) := by decide +kernel
theorem dX3_reopen_43 : decode cX3_reopen 43 = .ok (.iconst 1, 1) := by decide +kernel
theorem dX3_reopen_44 : decode cX3_reopen 44 = .ok (.bastore, 1) := by decide +kernel
theorem dX3_reopen_45 : decode cX3_reopen 45 = .ok (.return_, 1) := by decide +kernel
theorem dX3_account_0 : decode cX3_account 0 = .ok (.aload_n 0, 1) := by decide +kernel
theorem dX3_account_1 : decode cX3_account 1 = .ok (.iload_n 1, 1) := by decide +kernel
theorem dX3_account_2 : decode cX3_account 2 = .ok (.invokevirtual 217, 3) := by decide +kernel
theorem dX3_account_5 : decode cX3_account 5 = .ok (.ifCond .eq 28, 3) := by decide +kernel
theorem dX3_account_8 : decode cX3_account 8 = .ok (.iload_n 2, 1) := by decide +kernel
theorem dX3_account_9 : decode cX3_account 9 = .ok (.invokestatic 86, 3) := by decide +kernel
theorem dX3_account_12 : decode cX3_account 12 = .ok (.ifCond .eq 21, 3) := by decide +kernel
theorem dX3_account_15 : decode cX3_account 15 = .ok (.iload_n 3, 1) := by decide +kernel
theorem dX3_account_16 : decode cX3_account 16 = .ok (.invokestatic 55, 3) := by decide +kernel
theorem dX3_account_19 : decode cX3_account 19 = .ok (.ifCond .eq 14, 3) := by decide +kernel
theorem dX3_account_22 : decode cX3_account 22 = .ok (.iload 4, 2) := by decide +kernel
theorem dX3_account_24 : decode cX3_account 24 = .ok (.iconst 0, 1) := by decide +kernel
theorem dX3_account_25 : decode cX3_account 25 = .ok (.bipush 8, 2) := by decide +kernel
theorem dX3_account_27 : decode cX3_account 27 = .ok (.invokestatic 59, 3) := by decide +kernel
theorem dX3_account_30 : decode cX3_account 30 = .ok (.ifCond .ne 14, 3) := by decide +kernel
theorem dX3_account_33 : decode cX3_account 33 = .ok (.new 64, 3) := by decide +kernel
theorem dX3_account_36 : decode cX3_account 36 = .ok (.dup, 1) := by decide +kernel
theorem dX3_account_37 : decode cX3_account 37 = .ok (.ldc_w 275, 3) := by decide +kernel
theorem dX3_account_40 : decode cX3_account 40 = .ok (.invokespecial 68, 3) := by decide +kernel
theorem dX3_account_43 : decode cX3_account 43 = .ok (.athrow, 1) := by decide +kernel
theorem dX3_account_44 : decode cX3_account 44 = .ok (.aload_n 0, 1) := by decide +kernel
theorem dX3_account_45 : decode cX3_account 45 = .ok (.getfield 26, 3) := by decide +kernel
theorem dX3_account_48 : decode cX3_account 48 = .ok (.iload_n 1, 1) := by decide +kernel
theorem dX3_account_49 : decode cX3_account 49 = .ok (.iload_n 2, 1) := by decide +kernel
theorem dX3_account_50 : decode cX3_account 50 = .ok (.iload_n 3, 1) := by decide +kernel
theorem dX3_account_51 : decode cX3_account 51 = .ok (.invokestatic 277, 3) := by decide +kernel
theorem dX3_account_54 : decode cX3_account 54 = .ok (.iload 4, 2) := by decide +kernel
theorem dX3_account_56 : decode cX3_account 56 = .ok (.invokevirtual 280, 3) := by decide +kernel
theorem dX3_account_59 : decode cX3_account 59 = .ok (.ireturn, 1) := by decide +kernel
theorem dX3_levy_0 : decode cX3_levy 0 = .ok (.iload_n 1, 1) := by decide +kernel
theorem dX3_levy_1 : decode cX3_levy 1 = .ok (.invokestatic 89, 3) := by decide +kernel
theorem dX3_levy_4 : decode cX3_levy 4 = .ok (.ifCond .eq 11, 3) := by decide +kernel
theorem dX3_levy_7 : decode cX3_levy 7 = .ok (.aload_n 0, 1) := by decide +kernel
theorem dX3_levy_8 : decode cX3_levy 8 = .ok (.iload_n 2, 1) := by decide +kernel
theorem dX3_levy_9 : decode cX3_levy 9 = .ok (.invokevirtual 217, 3) := by decide +kernel
theorem dX3_levy_12 : decode cX3_levy 12 = .ok (.ifCond .ne 14, 3) := by decide +kernel
theorem dX3_levy_15 : decode cX3_levy 15 = .ok (.new 64, 3) := by decide +kernel
theorem dX3_levy_18 : decode cX3_levy 18 = .ok (.dup, 1) := by decide +kernel
theorem dX3_levy_19 : decode cX3_levy 19 = .ok (.ldc_w 283, 3) := by decide +kernel
theorem dX3_levy_22 : decode cX3_levy 22 = .ok (.invokespecial 68, 3) := by decide +kernel
theorem dX3_levy_25 : decode cX3_levy 25 = .ok (.athrow, 1) := by decide +kernel
theorem dX3_levy_26 : decode cX3_levy 26 = .ok (.lconst 0, 1) := by decide +kernel
theorem dX3_levy_27 : decode cX3_levy 27 = .ok (.lstore_n 3, 1) := by decide +kernel
theorem dX3_levy_28 : decode cX3_levy 28 = .ok (.iconst 0, 1) := by decide +kernel
theorem dX3_levy_29 : decode cX3_levy 29 = .ok (.istore 5, 2) := by decide +kernel
theorem dX3_levy_31 : decode cX3_levy 31 = .ok (.iload 5, 2) := by decide +kernel
theorem dX3_levy_33 : decode cX3_levy 33 = .ok (.bipush 6, 2) := by decide +kernel
theorem dX3_levy_35 : decode cX3_levy 35 = .ok (.if_icmp .ge 32, 3) := by decide +kernel
theorem dX3_levy_38 : decode cX3_levy 38 = .ok (.aload_n 0, 1) := by decide +kernel
theorem dX3_levy_39 : decode cX3_levy 39 = .ok (.getfield 19, 3) := by decide +kernel
theorem dX3_levy_42 : decode cX3_levy 42 = .ok (.iload 5, 2) := by decide +kernel
theorem dX3_levy_44 : decode cX3_levy 44 = .ok (.invokevirtual 158, 3) := by decide +kernel
theorem dX3_levy_47 : decode cX3_levy 47 = .ok (.iload_n 1, 1) := by decide +kernel
theorem dX3_levy_48 : decode cX3_levy 48 = .ok (.if_icmp .ne 13, 3) := by decide +kernel
theorem dX3_levy_51 : decode cX3_levy 51 = .ok (.lload_n 3, 1) := by decide +kernel
theorem dX3_levy_52 : decode cX3_levy 52 = .ok (.aload_n 0, 1) := by decide +kernel
theorem dX3_levy_53 : decode cX3_levy 53 = .ok (.iload 5, 2) := by decide +kernel
theorem dX3_levy_55 : decode cX3_levy 55 = .ok (.iload_n 2, 1) := by decide +kernel
theorem dX3_levy_56 : decode cX3_levy 56 = .ok (.invokevirtual 285, 3) := by decide +kernel
theorem dX3_levy_59 : decode cX3_levy 59 = .ok (.ladd, 1) := by decide +kernel
theorem dX3_levy_60 : decode cX3_levy 60 = .ok (.lstore_n 3, 1) := by decide +kernel
theorem dX3_levy_61 : decode cX3_levy 61 = .ok (.iinc 5 1, 3) := by decide +kernel
theorem dX3_levy_64 : decode cX3_levy 64 = .ok (.goto (-33), 3) := by decide +kernel
theorem dX3_levy_67 : decode cX3_levy 67 = .ok (.lload_n 3, 1) := by decide +kernel
