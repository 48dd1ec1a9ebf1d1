theorem dX3_levy_68 : decode cX3_levy 68 = .ok (.lreturn, 1) := by decide +kernel
theorem dX3_held_0 : decode cX3_held 0 = .ok (.iload_n 1, 1) := by decide +kernel
theorem dX3_held_1 : decode cX3_held 1 = .ok (.invokestatic 55, 3) := by decide +kernel
theorem dX3_held_4 : decode cX3_held 4 = .ok (.ifCond .eq 19, 3) := by decide +kernel
theorem dX3_held_7 : decode cX3_held 7 = .ok (.iload_n 2, 1) := by decide +kernel
theorem dX3_held_8 : decode cX3_held 8 = .ok (.invokestatic 89, 3) := by decide +kernel
theorem dX3_held_11 : decode cX3_held 11 = .ok (.ifCond .eq 12, 3) := by decide +kernel
theorem dX3_held_14 : decode cX3_held 14 = .ok (.iload_n 3, 1) := by decide +kernel
theorem dX3_held_15 : decode cX3_held 15 = .ok (.iconst 0, 1) := by decide +kernel
theorem dX3_held_16 : decode cX3_held 16 = .ok (.iconst 2, 1) := by decide +kernel
theorem dX3_held_17 : decode cX3_held 17 = .ok (.invokestatic 59, 3) := by decide +kernel
theorem dX3_held_20 : decode cX3_held 20 = .ok (.ifCond .ne 14, 3) := by decide +kernel
theorem dX3_held_23 : decode cX3_held 23 = .ok (.new 64, 3) := by decide +kernel
theorem dX3_held_26 : decode cX3_held 26 = .ok (.dup, 1) := by decide +kernel
theorem dX3_held_27 : decode cX3_held 27 = .ok (.ldc_w 289, 3) := by decide +kernel
theorem dX3_held_30 : decode cX3_held 30 = .ok (.invokespecial 68, 3) := by decide +kernel
theorem dX3_held_33 : decode cX3_held 33 = .ok (.athrow, 1) := by decide +kernel
theorem dX3_held_34 : decode cX3_held 34 = .ok (.iload_n 3, 1) := by decide +kernel
theorem dX3_held_35 : decode cX3_held 35 = .ok (.lookupswitch 45 #[(0, 25), (1, 35)], 25) := by decide +kernel
theorem dX3_held_60 : decode cX3_held 60 = .ok (.aload_n 0, 1) := by decide +kernel
theorem dX3_held_61 : decode cX3_held 61 = .ok (.getfield 19, 3) := by decide +kernel
theorem dX3_held_64 : decode cX3_held 64 = .ok (.iload_n 1, 1) := by decide +kernel
theorem dX3_held_65 : decode cX3_held 65 = .ok (.iload_n 2, 1) := by decide +kernel
theorem dX3_held_66 : decode cX3_held 66 = .ok (.invokevirtual 291, 3) := by decide +kernel
theorem dX3_held_69 : decode cX3_held 69 = .ok (.ireturn, 1) := by decide +kernel
theorem dX3_held_70 : decode cX3_held 70 = .ok (.aload_n 0, 1) := by decide +kernel
theorem dX3_held_71 : decode cX3_held 71 = .ok (.getfield 19, 3) := by decide +kernel
theorem dX3_held_74 : decode cX3_held 74 = .ok (.iload_n 1, 1) := by decide +kernel
theorem dX3_held_75 : decode cX3_held 75 = .ok (.iload_n 2, 1) := by decide +kernel
theorem dX3_held_76 : decode cX3_held 76 = .ok (.invokevirtual 145, 3) := by decide +kernel
theorem dX3_held_79 : decode cX3_held 79 = .ok (.ireturn, 1) := by decide +kernel
theorem dX3_held_80 : decode cX3_held 80 = .ok (.aload_n 0, 1) := by decide +kernel
theorem dX3_held_81 : decode cX3_held 81 = .ok (.getfield 19, 3) := by decide +kernel
theorem dX3_held_84 : decode cX3_held 84 = .ok (.iload_n 1, 1) := by decide +kernel
theorem dX3_held_85 : decode cX3_held 85 = .ok (.aload_n 0, 1) := by decide +kernel
theorem dX3_held_86 : decode cX3_held 86 = .ok (.getfield 19, 3) := by decide +kernel
theorem dX3_held_89 : decode cX3_held 89 = .ok (.iload_n 2, 1) := by decide +kernel
theorem dX3_held_90 : decode cX3_held 90 = .ok (.invokevirtual 294, 3) := by decide +kernel
theorem dX3_held_93 : decode cX3_held 93 = .ok (.invokevirtual 297, 3) := by decide +kernel
theorem dX3_held_96 : decode cX3_held 96 = .ok (.ireturn, 1) := by decide +kernel
theorem dX3_event_0 : decode cX3_event 0 = .ok (.aload_n 0, 1) := by decide +kernel
theorem dX3_event_1 : decode cX3_event 1 = .ok (.getfield 33, 3) := by decide +kernel
theorem dX3_event_4 : decode cX3_event 4 = .ok (.iload_n 1, 1) := by decide +kernel
theorem dX3_event_5 : decode cX3_event 5 = .ok (.invokevirtual 250, 3) := by decide +kernel
theorem dX3_event_8 : decode cX3_event 8 = .ok (.ifCond .ne 13, 3) := by decide +kernel
theorem dX3_event_11 : decode cX3_event 11 = .ok (.new 253, 3) := by decide +kernel
theorem dX3_event_14 : decode cX3_event 14 = .ok (.dup, 1) := by decide +kernel
theorem dX3_event_15 : decode cX3_event 15 = .ok (.ldc 255, 2) := by decide +kernel
theorem dX3_event_17 : decode cX3_event 17 = .ok (.invokespecial 257, 3) := by decide +kernel
theorem dX3_event_20 : decode cX3_event 20 = .ok (.athrow, 1) := by decide +kernel
theorem dX3_event_21 : decode cX3_event 21 = .ok (.iload_n 2, 1) := by decide +kernel
theorem dX3_event_22 : decode cX3_event 22 = .ok (.iconst 0, 1) := by decide +kernel
theorem dX3_event_23 : decode cX3_event 23 = .ok (.iconst 3, 1) := by decide +kernel
theorem dX3_event_24 : decode cX3_event 24 = .ok (.invokestatic 59, 3) := by decide +kernel
theorem dX3_event_27 : decode cX3_event 27 = .ok (.ifCond .ne 14, 3) := by decide +kernel
theorem dX3_event_30 : decode cX3_event 30 = .ok (.new 64, 3) := by decide +kernel
theorem dX3_event_33 : decode cX3_event 33 = .ok (.dup, 1) := by decide +kernel
theorem dX3_event_34 : decode cX3_event 34 = .ok (.ldc_w 300, 3) := by decide +kernel
theorem dX3_event_37 : decode cX3_event 37 = .ok (.invokespecial 68, 3) := by decide +kernel
theorem dX3_event_40 : decode cX3_event 40 = .ok (.athrow, 1) := by decide +kernel
theorem dX3_event_41 : decode cX3_event 41 = .ok (.aload_n 0, 1) := by decide +kernel
theorem dX3_event_42 : decode cX3_event 42 = .ok (.getfield 33, 3) := by decide +kernel
theorem dX3_event_45 : decode cX3_event 45 = .ok (.iload_n 1, 1) := by decide +kernel
theorem dX3_event_46 : decode cX3_event 46 = .ok (.iload_n 2, 1) := by decide +kernel
theorem dX3_event_47 : decode cX3_event 47 = .ok (.invokevirtual 302, 3) := by decide +kernel
theorem dX3_event_50 : decode cX3_event 50 = .ok (.ireturn, 1) := by decide +kernel
theorem dX3_about_0 : decode cX3_about 0 = .ok (.iload_n 1, 1) := by decide +kernel
theorem dX3_about_1 : decode cX3_about 1 = .ok (.tableswitch 65 0 3 #[31, 36, 49, 57], 31) := by decide +kernel
theorem dX3_about_32 : decode cX3_about 32 = .ok (.aload_n 0, 1) := by decide +kernel
theorem dX3_about_33 : decode cX3_about 33 = .ok (.getfield 41, 3) := by decide +kernel
theorem dX3_about_36 : decode cX3_about 36 = .ok (.ireturn, 1) := by decide +kernel
theorem dX3_about_37 : decode cX3_about 37 = .ok (.aload_n 0, 1) := by decide +kernel
theorem dX3_about_38 : decode cX3_about 38 = .ok (.getfield 45, 3) := by decide +kernel
theorem dX3_about_41 : decode cX3_about 41 = .ok (.ifCond .eq 7, 3) := by decide +kernel
theorem dX3_about_44 : decode cX3_about 44 = .ok (.iconst 1, 1) := by decide +kernel
theorem dX3_about_45 : decode cX3_about 45 = .ok (.goto 4, 3) := by decide +kernel
theorem dX3_about_48 : decode cX3_about 48 = .ok (.iconst 0, 1) := by decide +kernel
theorem dX3_about_49 : decode cX3_about 49 = .ok (.ireturn, 1) := by decide +kernel
theorem dX3_about_50 : decode cX3_about 50 = .ok (.aload_n 0, 1) := by decide +kernel
theorem dX3_about_51 : decode cX3_about 51 = .ok (.getfield 33, 3) := by decide +kernel
theorem dX3_about_54 : decode cX3_about 54 = .ok (.invokevirtual 303, 3) := by decide +kernel
theorem dX3_about_57 : decode cX3_about 57 = .ok (.ireturn, 1) := by decide +kernel
theorem dX3_about_58 : decode cX3_about 58 = .ok (.aload_n 0, 1) := by decide +kernel
theorem dX3_about_59 : decode cX3_about 59 = .ok (.getfield 33, 3) := by decide +kernel
theorem dX3_about_62 : decode cX3_about 62 = .ok (.invokevirtual 307, 3) := by decide +kernel
theorem dX3_about_65 : decode cX3_about 65 = .ok (.ireturn, 1) := by decide +kernel
theorem dX3_about_66 : decode cX3_about 66 = .ok (.new 64, 3) := by decide +kernel
theorem dX3_about_69 : decode cX3_about 69 = .ok (.dup, 1) := by decide +kernel
theorem dX3_about_70 : decode cX3_about 70 = .ok (.ldc_w 300, 3) := by decide +kernel
theorem dX3_about_73 : decode cX3_about 73 = .ok (.invokespecial 68, 3) := by decide +kernel
theorem dX3_about_76 : decode cX3_about 76 = .ok (.athrow, 1) := by decide +kernel
theorem dX3_isWithin_0 : decode cX3_isWithin 0 = .ok (.iload_n 0, 1) := by decide +kernel
theorem dX3_isWithin_1 : decode cX3_isWithin 1 = .ok (.iload_n 1, 1) := by decide +kernel
theorem dX3_isWithin_2 : decode cX3_isWithin 2 = .ok (.if_icmp .lt 12, 3) := by decide +kernel
theorem dX3_isWithin_5 : decode cX3_isWithin 5 = .ok (.iload_n 0, 1) := by decide +kernel
theorem dX3_isWithin_6 : decode cX3_isWithin 6 = .ok (.iload_n 2, 1) := by decide +kernel
theorem dX3_isWithin_7 : decode cX3_isWithin 7 = .ok (.if_icmp .gt 7, 3) := by decide +kernel
theorem dX3_isWithin_10 : decode cX3_isWithin 10 = .ok (.iconst 1, 1) := by decide +kernel
theorem dX3_isWithin_11 : decode cX3_isWithin 11 = .ok (.goto 4, 3) := by decide +kernel
theorem dX3_isWithin_14 : decode cX3_isWithin 14 = .ok (.iconst 0, 1) := by decide +kernel
theorem dX3_isWithin_15 : decode cX3_isWithin 15 = .ok (.ireturn, 1) := by decide +kernel
theorem dX3_isSpecies_0 : decode cX3_isSpecies 0 = .ok (.iload_n 0, 1) := by decide +kernel
theorem dX3_isSpecies_1 : decode cX3_isSpecies 1 = .ok (.iconst 0, 1) := by decide +kernel
theorem dX3_isSpecies_2 : decode cX3_isSpecies 2 = .ok (.iconst 3, 1) := by decide +kernel
theorem dX3_isSpecies_3 : decode cX3_isSpecies 3 = .ok (.invokestatic 59, 3) := by decide +kernel
theorem dX3_isSpecies_6 : decode cX3_isSpecies 6 = .ok (.ireturn, 1) := by decide +kernel
theorem dX3_areTwoSpecies_0 : decode cX3_areTwoSpecies 0 = .ok (.iload_n 0, 1) := by decide +kernel
theorem dX3_areTwoSpecies_1 : decode cX3_areTwoSpecies 1 = .ok (.invokestatic 55, 3) := by decide +kernel
theorem dX3_areTwoSpecies_4 : decode cX3_areTwoSpecies 4 = .ok (.ifCond .eq 19, 3) := by decide +kernel
theorem dX3_areTwoSpecies_7 : decode cX3_areTwoSpecies 7 = .ok (.iload_n 1, 1) := by decide +kernel
theorem dX3_areTwoSpecies_8 : decode cX3_areTwoSpecies 8 = .ok (.invokestatic 55, 3) := by decide +kernel
theorem dX3_areTwoSpecies_11 : decode cX3_areTwoSpecies 11 = .ok (.ifCond .eq 12, 3) := by decide +kernel
theorem dX3_areTwoSpecies_14 : decode cX3_areTwoSpecies 14 = .ok (.iload_n 0, 1) := by decide +kernel
theorem dX3_areTwoSpecies_15 : decode cX3_areTwoSpecies 15 = .ok (.iload_n 1, 1) := by decide +kernel
theorem dX3_areTwoSpecies_16 : decode cX3_areTwoSpecies 16 = .ok (.if_icmp .eq 7, 3) := by decide +kernel
theorem dX3_areTwoSpecies_19 : decode cX3_areTwoSpecies 19 = .ok (.iconst 1, 1) := by decide +kernel
theorem dX3_areTwoSpecies_20 : decode cX3_areTwoSpecies 20 = .ok (.goto 4, 3) := by decide +kernel
theorem dX3_areTwoSpecies_23 : decode cX3_areTwoSpecies 23 = .ok (.iconst 0, 1) := by decide +kernel
theorem dX3_areTwoSpecies_24 : decode cX3_areTwoSpecies 24 = .ok (.ireturn, 1) := by decide +kernel
theorem dX3_isForm_0 : decode cX3_isForm 0 = .ok (.iload_n 0, 1) := by decide +kernel
theorem dX3_isForm_1 : decode cX3_isForm 1 = .ok (.iconst 0, 1) := by decide +kernel
theorem dX3_isForm_2 : decode cX3_isForm 2 = .ok (.iconst 2, 1) := by decide +kernel
theorem dX3_isForm_3 : decode cX3_isForm 3 = .ok (.invokestatic 59, 3) := by decide +kernel
theorem dX3_isForm_6 : decode cX3_isForm 6 = .ok (.ireturn, 1) := by decide +kernel
theorem dX3_isOwner_0 : decode cX3_isOwner 0 = .ok (.iload_n 0, 1) := by decide +kernel
theorem dX3_isOwner_1 : decode cX3_isOwner 1 = .ok (.iconst 0, 1) := by decide +kernel
theorem dX3_isOwner_2 : decode cX3_isOwner 2 = .ok (.iconst 5, 1) := by decide +kernel
theorem dX3_isOwner_3 : decode cX3_isOwner 3 = .ok (.invokestatic 59, 3) := by decide +kernel
theorem dX3_isOwner_6 : decode cX3_isOwner 6 = .ok (.ireturn, 1) := by decide +kernel
theorem dX3_areTwoOwners_0 : decode cX3_areTwoOwners 0 = .ok (.iload_n 0, 1) := by decide +kernel
theorem dX3_areTwoOwners_1 : decode cX3_areTwoOwners 1 = .ok (.invokestatic 89, 3) := by decide +kernel
theorem dX3_areTwoOwners_4 : decode cX3_areTwoOwners 4 = .ok (.ifCond .eq 19, 3) := by decide +kernel
theorem dX3_areTwoOwners_7 : decode cX3_areTwoOwners 7 = .ok (.iload_n 1, 1) := by decide +kernel
theorem dX3_areTwoOwners_8 : decode cX3_areTwoOwners 8 = .ok (.invokestatic 89, 3) := by decide +kernel
theorem dX3_areTwoOwners_11 : decode cX3_areTwoOwners 11 = .ok (.ifCond .eq 12, 3) := by decide +kernel
theorem dX3_areTwoOwners_14 : decode cX3_areTwoOwners 14 = .ok (.iload_n 0, 1) := by decide +kernel
theorem dX3_areTwoOwners_15 : decode cX3_areTwoOwners 15 = .ok (.iload_n 1, 1) := by decide +kernel
theorem dX3_areTwoOwners_16 : decode cX3_areTwoOwners 16 = .ok (.if_icmp .eq 7, 3) := by decide +kernel
theorem dX3_areTwoOwners_19 : decode cX3_areTwoOwners 19 = .ok (.iconst 1, 1) := by decide +kernel
theorem dX3_areTwoOwners_20 : decode cX3_areTwoOwners 20 = .ok (.goto 4, 3) := by decide +kernel
theorem dX3_areTwoOwners_23 : decode cX3_areTwoOwners 23 = .ok (.iconst 0, 1) := by decide +kernel
theorem dX3_areTwoOwners_24 : decode cX3_areTwoOwners 24 = .ok (.ireturn, 1) := by decide +kernel
theorem dX3_isVessel_0 : decode cX3_isVessel 0 = .ok (.iload_n 0, 1) := by decide +kernel
theorem dX3_isVessel_1 : decode cX3_isVessel 1 = .ok (.iconst 0, 1) := by decide +kernel
theorem dX3_isVessel_2 : decode cX3_isVessel 2 = .ok (.iconst 5, 1) := by decide +kernel
theorem dX3_isVessel_3 : decode cX3_isVessel 3 = .ok (.invokestatic 59, 3) := by decide +kernel
theorem dX3_isVessel_6 : decode cX3_isVessel 6 = .ok (.ireturn, 1) := by decide +kernel
theorem dX3_areTwoVessels_0 : decode cX3_areTwoVessels 0 = .ok (.iload_n 0, 1) := by decide +kernel
theorem dX3_areTwoVessels_1 : decode cX3_areTwoVessels 1 = .ok (.invokestatic 86, 3) := by decide +kernel
theorem dX3_areTwoVessels_4 : decode cX3_areTwoVessels 4 = .ok (.ifCond .eq 19, 3) := by decide +kernel
theorem dX3_areTwoVessels_7 : decode cX3_areTwoVessels 7 = .ok (.iload_n 1, 1) := by decide +kernel
theorem dX3_areTwoVessels_8 : decode cX3_areTwoVessels 8 = .ok (.invokestatic 86, 3) := by decide +kernel
theorem dX3_areTwoVessels_11 : decode cX3_areTwoVessels 11 = .ok (.ifCond .eq 12, 3) := by decide +kernel
theorem dX3_areTwoVessels_14 : decode cX3_areTwoVessels 14 = .ok (.iload_n 0, 1) := by decide +kernel
theorem dX3_areTwoVessels_15 : decode cX3_areTwoVessels 15 = .ok (.iload_n 1, 1) := by decide +kernel
theorem dX3_areTwoVessels_16 : decode cX3_areTwoVessels 16 = .ok (.if_icmp .eq 7, 3) := by decide +kernel
theorem dX3_areTwoVessels_19 : decode cX3_areTwoVessels 19 = .ok (.iconst 1, 1) := by decide +kernel
theorem dX3_areTwoVessels_20 : decode cX3_areTwoVessels 20 = .ok (.goto 4, 3) := by decide +kernel
theorem dX3_areTwoVessels_23 : decode cX3_areTwoVessels 23 = .ok (.iconst 0, 1) := by decide +kernel
theorem dX3_areTwoVessels_24 : decode cX3_areTwoVessels 24 = .ok (.ireturn, 1) := by decide +kernel
theorem dX3_isLimit_0 : decode cX3_isLimit 0 = .ok (.iload_n 0, 1) := by decide +kernel
theorem dX3_isLimit_1 : decode cX3_isLimit 1 = .ok (.iconst 0, 1) := by decide +kernel
theorem dX3_isLimit_2 : decode cX3_isLimit 2 = .ok (.ldc 63, 2) := by decide +kernel
theorem dX3_isLimit_4 : decode cX3_isLimit 4 = .ok (.invokestatic 59, 3) := by decide +kernel
theorem dX3_isLimit_7 : decode cX3_isLimit 7 = .ok (.ireturn, 1) := by decide +kernel
theorem dX3_wasOpened_0 : decode cX3_wasOpened 0 = .ok (.iload_n 1, 1) := by decide +kernel
theorem dX3_wasOpened_1 : decode cX3_wasOpened 1 = .ok (.iconst 1, 1) := by decide +kernel
theorem dX3_wasOpened_2 : decode cX3_wasOpened 2 = .ok (.aload_n 0, 1) := by decide +kernel
theorem dX3_wasOpened_3 : decode cX3_wasOpened 3 = .ok (.getfield 41, 3) := by decide +kernel
theorem dX3_wasOpened_6 : decode cX3_wasOpened 6 = .ok (.invokestatic 59, 3) := by decide +kernel
theorem dX3_wasOpened_9 : decode cX3_wasOpened 9 = .ok (.ireturn, 1) := by decide +kernel
theorem dX3_isOpen_0 : decode cX3_isOpen 0 = .ok (.aload_n 0, 1) := by decide +kernel
theorem dX3_isOpen_1 : decode cX3_isOpen 1 = .ok (.getfield 45, 3) := by decide +kernel
theorem dX3_isOpen_4 : decode cX3_isOpen 4 = .ok (.ifCond .eq 15, 3) := by decide +kernel
theorem dX3_isOpen_7 : decode cX3_isOpen 7 = .ok (.iload_n 1, 1) := by decide +kernel
theorem dX3_isOpen_8 : decode cX3_isOpen 8 = .ok (.aload_n 0, 1) := by decide +kernel
theorem dX3_isOpen_9 : decode cX3_isOpen 9 = .ok (.getfield 41, 3) := by decide +kernel
theorem dX3_isOpen_12 : decode cX3_isOpen 12 = .ok (.if_icmp .ne 7, 3) := by decide +kernel
theorem dX3_isOpen_15 : decode cX3_isOpen 15 = .ok (.iconst 1, 1) := by decide +kernel
theorem dX3_isOpen_16 : decode cX3_isOpen 16 = .ok (.goto 4, 3) := by decide +kernel
theorem dX3_isOpen_19 : decode cX3_isOpen 19 = .ok (.iconst 0, 1) := by decide +kernel
theorem dX3_isOpen_20 : decode cX3_isOpen 20 = .ok (.ireturn, 1) := by decide +kernel
theorem dX3_takesChanges_0 : decode cX3_takesChanges 0 = .ok (.aload_n 0, 1) := by decide +kernel
theorem dX3_takesChanges_1 : decode cX3_takesChanges 1 = .ok (.iload_n 1, 1) := by decide +kernel
theorem dX3_takesChanges_2 : decode cX3_takesChanges 2 = .ok (.invokevirtual 310, 3) := by decide +kernel
theorem dX3_takesChanges_5 : decode cX3_takesChanges 5 = .ok (.ifCond .ne 12, 3) := by decide +kernel
theorem dX3_takesChanges_8 : decode cX3_takesChanges 8 = .ok (.aload_n 0, 1) := by decide +kernel
theorem dX3_takesChanges_9 : decode cX3_takesChanges 9 = .ok (.getfield 37, 3) := by decide +kernel
theorem dX3_takesChanges_12 : decode cX3_takesChanges 12 = .ok (.iload_n 1, 1) := by decide +kernel
theorem dX3_takesChanges_13 : decode cX3_takesChanges 13 = .ok (.baload, 1) := by decide +kernel
theorem dX3_takesChanges_14 : decode cX3_takesChanges 14 = .ok (.ifCond .eq 7, 3) := by decide +kernel
theorem dX3_takesChanges_17 : decode cX3_takesChanges 17 = .ok (.iconst 1, 1) := by decide +kernel
theorem dX3_takesChanges_18 : decode cX3_takesChanges 18 = .ok (.goto 4, 3) := by decide +kernel
theorem dX3_takesChanges_21 : decode cX3_takesChanges 21 = .ok (.iconst 0, 1) := by decide +kernel
theorem dX3_takesChanges_22 : decode cX3_takesChanges 22 = .ok (.ireturn, 1) := by decide +kernel
theorem dX3_liveWeight_0 : decode cX3_liveWeight 0 = .ok (.iload_n 0, 1) := by decide +kernel
theorem dX3_liveWeight_1 : decode cX3_liveWeight 1 = .ok (.i2l, 1) := by decide +kernel
theorem dX3_liveWeight_2 : decode cX3_liveWeight 2 = .ok (.iload_n 1, 1) := by decide +kernel
theorem dX3_liveWeight_3 : decode cX3_liveWeight 3 = .ok (.i2l, 1) := by decide +kernel
theorem dX3_liveWeight_4 : decode cX3_liveWeight 4 = .ok (.lmul, 1) := by decide +kernel
theorem dX3_liveWeight_5 : decode cX3_liveWeight 5 = .ok (.ldc2_w 313, 3) := by decide +kernel
theorem dX3_liveWeight_8 : decode cX3_liveWeight 8 = .ok (.ladd, 1) := by decide +kernel
theorem dX3_liveWeight_9 : decode cX3_liveWeight 9 = .ok (.ldc2_w 315, 3) := by decide +kernel
theorem dX3_liveWeight_12 : decode cX3_liveWeight 12 = .ok (.ldiv, 1) := by decide +kernel
theorem dX3_liveWeight_13 : decode cX3_liveWeight 13 = .ok (.l2i, 1) := by decide +kernel
theorem dX3_liveWeight_14 : decode cX3_liveWeight 14 = .ok (.istore_n 3, 1) := by decide +kernel
theorem dX3_liveWeight_15 : decode cX3_liveWeight 15 = .ok (.iload_n 2, 1) := by decide +kernel
theorem dX3_liveWeight_16 : decode cX3_liveWeight 16 = .ok (.ifCond .eq 11, 3) := by decide +kernel
theorem dX3_liveWeight_19 : decode cX3_liveWeight 19 = .ok (.iload_n 3, 1) := by decide +kernel
theorem dX3_liveWeight_20 : decode cX3_liveWeight 20 = .ok (.iconst 1, 1) := by decide +kernel
theorem dX3_liveWeight_21 : decode cX3_liveWeight 21 = .ok (.iadd, 1) := by decide +kernel
theorem dX3_liveWeight_22 : decode cX3_liveWeight 22 = .ok (.iconst 2, 1) := by decide +kernel
theorem dX3_liveWeight_23 : decode cX3_liveWeight 23 = .ok (.idiv, 1) := by decide +kernel
theorem dX3_liveWeight_24 : decode cX3_liveWeight 24 = .ok (.goto 4, 3) := by decide +kernel
theorem dX3_liveWeight_27 : decode cX3_liveWeight 27 = .ok (.iload_n 3, 1) := by decide +kernel
theorem dX3_liveWeight_28 : decode cX3_liveWeight 28 = .ok (.ireturn, 1) := by decide +kernel
theorem dX3_equalWeight_0 : decode cX3_equalWeight 0 = .ok (.iload_n 0, 1) := by decide +kernel
theorem dX3_equalWeight_1 : decode cX3_equalWeight 1 = .ok (.iload_n 1, 1) := by decide +kernel
theorem dX3_equalWeight_2 : decode cX3_equalWeight 2 = .ok (.imul, 1) := by decide +kernel
theorem dX3_equalWeight_3 : decode cX3_equalWeight 3 = .ok (.iload_n 2, 1) := by decide +kernel
theorem dX3_equalWeight_4 : decode cX3_equalWeight 4 = .ok (.iadd, 1) := by decide +kernel
theorem dX3_equalWeight_5 : decode cX3_equalWeight 5 = .ok (.iconst 1, 1) := by decide +kernel
theorem dX3_equalWeight_6 : decode cX3_equalWeight 6 = .ok (.isub, 1) := by decide +kernel
theorem dX3_equalWeight_7 : decode cX3_equalWeight 7 = .ok (.iload_n 2, 1) := by decide +kernel
theorem dX3_equalWeight_8 : decode cX3_equalWeight 8 = .ok (.idiv, 1) := by decide +kernel
theorem dX3_equalWeight_9 : decode cX3_equalWeight 9 = .ok (.ireturn, 1) := by decide +kernel
theorem dX3_workAnew_0 : decode cX3_workAnew 0 = .ok (.iload_n 1, 1) := by decide +kernel
theorem dX3_workAnew_1 : decode cX3_workAnew 1 = .ok (.istore_n 2, 1) := by decide +kernel
theorem dX3_workAnew_2 : decode cX3_workAnew 2 = .ok (.iload_n 2, 1) := by decide +kernel
theorem dX3_workAnew_3 : decode cX3_workAnew 3 = .ok (.aload_n 0, 1) := by decide +kernel
theorem dX3_workAnew_4 : decode cX3_workAnew 4 = .ok (.getfield 41, 3) := by decide +kernel
theorem dX3_workAnew_7 : decode cX3_workAnew 7 = .ok (.if_icmp .gt 45, 3) := by decide +kernel
theorem dX3_workAnew_10 : decode cX3_workAnew 10 = .ok (.aload_n 0, 1) := by decide +kernel
theorem dX3_workAnew_11 : decode cX3_workAnew 11 = .ok (.getfield 26, 3) := by decide +kernel
theorem dX3_workAnew_14 : decode cX3_workAnew 14 = .ok (.iload_n 2, 1) := by decide +kernel
theorem dX3_workAnew_15 : decode cX3_workAnew 15 = .ok (.invokevirtual 180, 3) := by decide +kernel
theorem dX3_workAnew_18 : decode cX3_workAnew 18 = .ok (.aload_n 0, 1) := by decide +kernel
theorem dX3_workAnew_19 : decode cX3_workAnew 19 = .ok (.getfield 33, 3) := by decide +kernel
theorem dX3_workAnew_22 : decode cX3_workAnew 22 = .ok (.iload_n 2, 1) := by decide +kernel
theorem dX3_workAnew_23 : decode cX3_workAnew 23 = .ok (.aload_n 0, 1) := by decide +kernel
theorem dX3_workAnew_24 : decode cX3_workAnew 24 = .ok (.getfield 26, 3) := by decide +kernel
theorem dX3_workAnew_27 : decode cX3_workAnew 27 = .ok (.invokevirtual 317, 3) := by decide +kernel
theorem dX3_workAnew_30 : decode cX3_workAnew 30 = .ok (.aload_n 0, 1) := by decide +kernel
theorem dX3_workAnew_31 : decode cX3_workAnew 31 = .ok (.iload_n 2, 1) := by decide +kernel
theorem dX3_workAnew_32 : decode cX3_workAnew 32 = .ok (.invokevirtual 310, 3) := by decide +kernel
theorem dX3_workAnew_35 : decode cX3_workAnew 35 = .ok (.ifCond .ne 11, 3) := by decide +kernel
theorem dX3_workAnew_38 : decode cX3_workAnew 38 = .ok (.aload_n 0, 1) := by decide +kernel
theorem dX3_workAnew_39 : decode cX3_workAnew 39 = .ok (.getfield 26, 3) := by decide +kernel
theorem dX3_workAnew_42 : decode cX3_workAnew 42 = .ok (.iload_n 2, 1) := by decide +kernel
theorem dX3_workAnew_43 : decode cX3_workAnew 43 = .ok (.invokevirtual 186, 3) := by decide +kernel
theorem dX3_workAnew_46 : decode cX3_workAnew 46 = .ok (.iinc 2 1, 3) := by decide +kernel
theorem dX3_workAnew_49 : decode cX3_workAnew 49 = .ok (.goto (-47), 3) := by decide +kernel
theorem dX3_workAnew_52 : decode cX3_workAnew 52 = .ok (.return_, 1) := by decide +kernel
theorem dX3_levyOfVessel_0 : decode cX3_levyOfVessel 0 = .ok (.lconst 0, 1) := by decide +kernel
theorem dX3_levyOfVessel_1 : decode cX3_levyOfVessel 1 = .ok (.lstore_n 3, 1) := by decide +kernel
theorem dX3_levyOfVessel_2 : decode cX3_levyOfVessel 2 = .ok (.iconst 0, 1) := by decide +kernel
theorem dX3_levyOfVessel_3 : decode cX3_levyOfVessel 3 = .ok (.istore 5, 2) := by decide +kernel
theorem dX3_levyOfVessel_5 : decode cX3_levyOfVessel 5 = .ok (.iload 5, 2) := by decide +kernel
theorem dX3_levyOfVessel_7 : decode cX3_levyOfVessel 7 = .ok (.iconst 4, 1) := by decide +kernel
theorem dX3_levyOfVessel_8 : decode cX3_levyOfVessel 8 = .ok (.if_icmp .ge 33, 3) := by decide +kernel
theorem dX3_levyOfVessel_11 : decode cX3_levyOfVessel 11 = .ok (.lload_n 3, 1) := by decide +kernel
theorem dX3_levyOfVessel_12 : decode cX3_levyOfVessel 12 = .ok (.aload_n 0, 1) := by decide +kernel
theorem dX3_levyOfVessel_13 : decode cX3_levyOfVessel 13 = .ok (.getfield 26, 3) := by decide +kernel
theorem dX3_levyOfVessel_16 : decode cX3_levyOfVessel 16 = .ok (.iload_n 2, 1) := by decide +kernel
theorem dX3_levyOfVessel_17 : decode cX3_levyOfVessel 17 = .ok (.iload_n 1, 1) := by decide +kernel
theorem dX3_levyOfVessel_18 : decode cX3_levyOfVessel 18 = .ok (.iload 5, 2) := by decide +kernel
theorem dX3_levyOfVessel_20 : decode cX3_levyOfVessel 20 = .ok (.invokevirtual 320, 3) := by decide +kernel
theorem dX3_levyOfVessel_23 : decode cX3_levyOfVessel 23 = .ok (.i2l, 1) := by decide +kernel
theorem dX3_levyOfVessel_24 : decode cX3_levyOfVessel 24 = .ok (.aload_n 0, 1) := by decide +kernel
theorem dX3_levyOfVessel_25 : decode cX3_levyOfVessel 25 = .ok (.getfield 9, 3) := by decide +kernel
theorem dX3_levyOfVessel_28 : decode cX3_levyOfVessel 28 = .ok (.iload 5, 2) := by decide +kernel
theorem dX3_levyOfVessel_30 : decode cX3_levyOfVessel 30 = .ok (.iaload, 1) := by decide +kernel
theorem dX3_levyOfVessel_31 : decode cX3_levyOfVessel 31 = .ok (.i2l, 1) := by decide +kernel
theorem dX3_levyOfVessel_32 : decode cX3_levyOfVessel 32 = .ok (.lmul, 1) := by decide +kernel
theorem dX3_levyOfVessel_33 : decode cX3_levyOfVessel 33 = .ok (.ladd, 1) := by decide +kernel
theorem dX3_levyOfVessel_34 : decode cX3_levyOfVessel 34 = .ok (.lstore_n 3, 1) := by decide +kernel
theorem dX3_levyOfVessel_35 : decode cX3_levyOfVessel 35 = .ok (.iinc 5 1, 3) := by decide +kernel
theorem dX3_levyOfVessel_38 : decode cX3_levyOfVessel 38 = .ok (.goto (-33), 3) := by decide +kernel
theorem dX3_levyOfVessel_41 : decode cX3_levyOfVessel 41 = .ok (.lload_n 3, 1) := by decide +kernel
theorem dX3_levyOfVessel_42 : decode cX3_levyOfVessel 42 = .ok (.lreturn, 1) := by decide +kernel
theorem dX4_init_0 : decode cX4_init 0 = .ok (.aload_n 0, 1) := by decide +kernel
theorem dX4_init_1 : decode cX4_init 1 = .ok (.invokespecial 1, 3) := by decide +kernel
theorem dX4_init_4 : decode cX4_init 4 = .ok (.aload_n 0, 1) := by decide +kernel
theorem dX4_init_5 : decode cX4_init 5 = .ok (.iconst 4, 1) := by decide +kernel
theorem dX4_init_6 : decode cX4_init 6 = .ok (.newarray .int, 2) := by decide +kernel
theorem dX4_init_8 : decode cX4_init 8 = .ok (.putfield 7, 3) := by decide +kernel
theorem dX4_init_11 : decode cX4_init 11 = .ok (.aload_n 0, 1) := by decide +kernel
theorem dX4_init_12 : decode cX4_init 12 = .ok (.iconst 4, 1) := by decide +kernel
theorem dX4_init_13 : decode cX4_init 13 = .ok (.newarray .int, 2) := by decide +kernel
theorem dX4_init_15 : decode cX4_init 15 = .ok (.putfield 13, 3) := by decide +kernel
theorem dX4_init_18 : decode cX4_init 18 = .ok (.aload_n 0, 1) := by decide +kernel
theorem dX4_init_19 : decode cX4_init 19 = .ok (.bipush 12, 2) := by decide +kernel
theorem dX4_init_21 : decode cX4_init 21 = .ok (.newarray .int, 2) := by decide +kernel
theorem dX4_init_23 : decode cX4_init 23 = .ok (.putfield 16, 3) := by decide +kernel
theorem dX4_init_26 : decode cX4_init 26 = .ok (.aload_n 0, 1) := by decide +kernel
theorem dX4_init_27 : decode cX4_init 27 = .ok (.bipush 6, 2) := by decide +kernel
theorem dX4_init_29 : decode cX4_init 29 = .ok (.newarray .int, 2) := by decide +kernel
theorem dX4_init_31 : decode cX4_init 31 = .ok (.putfield 19, 3) := by decide +kernel
theorem dX4_init_34 : decode cX4_init 34 = .ok (.aload_n 0, 1) := by decide +kernel
theorem dX4_init_35 : decode cX4_init 35 = .ok (.bipush 24, 2) := by decide +kernel
theorem dX4_init_37 : decode cX4_init 37 = .ok (.newarray .int, 2) := by decide +kernel
theorem dX4_init_39 : decode cX4_init 39 = .ok (.putfield 22, 3) := by decide +kernel
theorem dX4_init_42 : decode cX4_init 42 = .ok (.aload_n 0, 1) := by decide +kernel
theorem dX4_init_43 : decode cX4_init 43 = .ok (.bipush 24, 2) := by decide +kernel
theorem dX4_init_45 : decode cX4_init 45 = .ok (.newarray .int, 2) := by decide +kernel
theorem dX4_init_47 : decode cX4_init 47 = .ok (.putfield 25, 3) := by decide +kernel
theorem dX4_init_50 : decode cX4_init 50 = .ok (.aload_n 0, 1) := by decide +kernel
theorem dX4_init_51 : decode cX4_init 51 = .ok (.bipush 36, 2) := by decide +kernel
theorem dX4_init_53 : decode cX4_init 53 = .ok (.newarray .boolean, 2) := by decide +kernel
theorem dX4_init_55 : decode cX4_init 55 = .ok (.putfield 28, 3) := by decide +kernel
theorem dX4_init_58 : decode cX4_init 58 = .ok (.aload_n 0, 1) := by decide +kernel
theorem dX4_init_59 : decode cX4_init 59 = .ok (.bipush 6, 2) := by decide +kernel
theorem dX4_init_61 : decode cX4_init 61 = .ok (.newarray .boolean, 2) := by decide +kernel
theorem dX4_init_63 : decode cX4_init 63 = .ok (.putfield 32, 3) := by decide +kernel
theorem dX4_init_66 : decode cX4_init 66 = .ok (.aload_n 0, 1) := by decide +kernel
theorem dX4_init_67 : decode cX4_init 67 = .ok (.bipush 9, 2) := by decide +kernel
theorem dX4_init_69 : decode cX4_init 69 = .ok (.newarray .boolean, 2) := by decide +kernel
theorem dX4_init_71 : decode cX4_init 71 = .ok (.putfield 35, 3) := by decide +kernel
theorem dX4_init_74 : decode cX4_init 74 = .ok (.aload_n 0, 1) := by decide +kernel
theorem dX4_init_75 : decode cX4_init 75 = .ok (.sipush 216, 3) := by decide +kernel
theorem dX4_init_78 : decode cX4_init 78 = .ok (.newarray .int, 2) := by decide +kernel
theorem dX4_init_80 : decode cX4_init 80 = .ok (.putfield 38, 3) := by decide +kernel
theorem dX4_init_83 : decode cX4_init 83 = .ok (.aload_n 0, 1) := by decide +kernel
theorem dX4_init_84 : decode cX4_init 84 = .ok (.sipush 216, 3) := by decide +kernel
theorem dX4_init_87 : decode cX4_init 87 = .ok (.newarray .int, 2) := by decide +kernel
theorem dX4_init_89 : decode cX4_init 89 = .ok (.putfield 41, 3) := by decide +kernel
theorem dX4_init_92 : decode cX4_init 92 = .ok (.aload_n 0, 1) := by decide +kernel
theorem dX4_init_93 : decode cX4_init 93 = .ok (.sipush 216, 3) := by decide +kernel
theorem dX4_init_96 : decode cX4_init 96 = .ok (.newarray .int, 2) := by decide +kernel
theorem dX4_init_98 : decode cX4_init 98 = .ok (.putfield 44, 3) := by decide +kernel
theorem dX4_init_101 : decode cX4_init 101 = .ok (.aload_n 0, 1) := by decide +kernel
theorem dX4_init_102 : decode cX4_init 102 = .ok (.sipush 216, 3) := by decide +kernel
theorem dX4_init_105 : decode cX4_init 105 = .ok (.newarray .int, 2) := by decide +kernel
theorem dX4_init_107 : decode cX4_init 107 = .ok (.putfield 47, 3) := by decide +kernel
theorem dX4_init_110 : decode cX4_init 110 = .ok (.aload_n 0, 1) := by decide +kernel
theorem dX4_init_111 : decode cX4_init 111 = .ok (.sipush 216, 3) := by decide +kernel
theorem dX4_init_114 : decode cX4_init 114 = .ok (.newarray .int, 2) := by decide +kernel
theorem dX4_init_116 : decode cX4_init 116 = .ok (.putfield 50, 3) := by decide +kernel
theorem dX4_init_119 : decode cX4_init 119 = .ok (.aload_n 0, 1) := by decide +kernel
theorem dX4_init_120 : decode cX4_init 120 = .ok (.sipush 216, 3) := by decide +kernel
theorem dX4_init_123 : decode cX4_init 123 = .ok (.newarray .int, 2) := by decide +kernel
theorem dX4_init_125 : decode cX4_init 125 = .ok (.putfield 53, 3) := by decide +kernel
theorem dX4_init_128 : decode cX4_init 128 = .ok (.aload_n 0, 1) := by decide +kernel
theorem dX4_init_129 : decode cX4_init 129 = .ok (.sipush 216, 3) := by decide +kernel
theorem dX4_init_132 : decode cX4_init 132 = .ok (.newarray .int, 2) := by decide +kernel
theorem dX4_init_134 : decode cX4_init 134 = .ok (.putfield 56, 3) := by decide +kernel
theorem dX4_init_137 : decode cX4_init 137 = .ok (.aload_n 0, 1) := by decide +kernel
theorem dX4_init_138 : decode cX4_init 138 = .ok (.sipush 216, 3) := by decide +kernel
theorem dX4_init_141 : decode cX4_init 141 = .ok (.newarray .int, 2) := by decide +kernel
theorem dX4_init_143 : decode cX4_init 143 = .ok (.putfield 59, 3) := by decide +kernel
theorem dX4_init_146 : decode cX4_init 146 = .ok (.aload_n 0, 1) := by decide +kernel
theorem dX4_init_147 : decode cX4_init 147 = .ok (.sipush 200, 3) := by decide +kernel
theorem dX4_init_150 : decode cX4_init 150 = .ok (.newarray .int, 2) := by decide +kernel
theorem dX4_init_152 : decode cX4_init 152 = .ok (.putfield 62, 3) := by decide +kernel
theorem dX4_init_155 : decode cX4_init 155 = .ok (.aload_n 0, 1) := by decide +kernel
theorem dX4_init_156 : decode cX4_init 156 = .ok (.sipush 200, 3) := by decide +kernel
theorem dX4_init_159 : decode cX4_init 159 = .ok (.newarray .int, 2) := by decide +kernel
theorem dX4_init_161 : decode cX4_init 161 = .ok (.putfield 65, 3) := by decide +kernel
theorem dX4_init_164 : decode cX4_init 164 = .ok (.aload_n 0, 1) := by decide +kernel
theorem dX4_init_165 : decode cX4_init 165 = .ok (.sipush 200, 3) := by decide +kernel
theorem dX4_init_168 : decode cX4_init 168 = .ok (.newarray .int, 2) := by decide +kernel
theorem dX4_init_170 : decode cX4_init 170 = .ok (.putfield 68, 3) := by decide +kernel
theorem dX4_init_173 : decode cX4_init 173 = .ok (.aload_n 0, 1) := by decide +kernel
theorem dX4_init_174 : decode cX4_init 174 = .ok (.sipush 200, 3) := by decide +kernel
theorem dX4_init_177 : decode cX4_init 177 = .ok (.newarray .int, 2) := by decide +kernel
theorem dX4_init_179 : decode cX4_init 179 = .ok (.putfield 71, 3) := by decide +kernel
theorem dX4_init_182 : decode cX4_init 182 = .ok (.aload_n 0, 1) := by decide +kernel
theorem dX4_init_183 : decode cX4_init 183 = .ok (.sipush 200, 3) := by decide +kernel
theorem dX4_init_186 : decode cX4_init 186 = .ok (.newarray .int, 2) := by decide +kernel
theorem dX4_init_188 : decode cX4_init 188 = .ok (.putfield 74, 3) := by decide +kernel
theorem dX4_init_191 : decode cX4_init 191 = .ok (.aload_n 0, 1) := by decide +kernel
theorem dX4_init_192 : decode cX4_init 192 = .ok (.sipush 200, 3) := by decide +kernel
theorem dX4_init_195 : decode cX4_init 195 = .ok (.newarray .int, 2) := by decide +kernel
theorem dX4_init_197 : decode cX4_init 197 = .ok (.putfield 77, 3) := by decide +kernel
theorem dX4_init_200 : decode cX4_init 200 = .ok (.aload_n 0, 1) := by decide +kernel
theorem dX4_init_201 : decode cX4_init 201 = .ok (.sipush 200, 3) := by decide +kernel
theorem dX4_init_204 : decode cX4_init 204 = .ok (.newarray .int, 2) := by decide +kernel
theorem dX4_init_206 : decode cX4_init 206 = .ok (.putfield 80, 3) := by decide +kernel
theorem dX4_init_209 : decode cX4_init 209 = .ok (.aload_n 0, 1) := by decide +kernel
theorem dX4_init_210 : decode cX4_init 210 = .ok (.sipush 200, 3) := by decide +kernel
theorem dX4_init_213 : decode cX4_init 213 = .ok (.newarray .boolean, 2) := by decide +kernel
theorem dX4_init_215 : decode cX4_init 215 = .ok (.putfield 83, 3) := by decide +kernel
theorem dX4_init_218 : decode cX4_init 218 = .ok (.aload_n 0, 1) := by decide +kernel
theorem dX4_init_219 : decode cX4_init 219 = .ok (.sipush 200, 3) := by decide +kernel
theorem dX4_init_222 : decode cX4_init 222 = .ok (.newarray .boolean, 2) := by decide +kernel
theorem dX4_init_224 : decode cX4_init 224 = .ok (.putfield 86, 3) := by decide +kernel
theorem dX4_init_227 : decode cX4_init 227 = .ok (.aload_n 0, 1) := by decide +kernel
theorem dX4_init_228 : decode cX4_init 228 = .ok (.bipush 6, 2) := by decide +kernel
theorem dX4_init_230 : decode cX4_init 230 = .ok (.newarray .long, 2) := by decide +kernel
theorem dX4_init_232 : decode cX4_init 232 = .ok (.putfield 89, 3) := by decide +kernel
theorem dX4_init_235 : decode cX4_init 235 = .ok (.iconst 0, 1) := by decide +kernel
theorem dX4_init_236 : decode cX4_init 236 = .ok (.istore_n 1, 1) := by decide +kernel
theorem dX4_init_237 : decode cX4_init 237 = .ok (.iload_n 1, 1) := by decide +kernel
theorem dX4_init_238 : decode cX4_init 238 = .ok (.iconst 4, 1) := by decide +kernel
theorem dX4_init_239 : decode cX4_init 239 = .ok (.if_icmp .ge 24, 3) := by decide +kernel
theorem dX4_init_242 : decode cX4_init 242 = .ok (.aload_n 0, 1) := by decide +kernel
theorem dX4_init_243 : decode cX4_init 243 = .ok (.getfield 7, 3) := by decide +kernel
theorem dX4_init_246 : decode cX4_init 246 = .ok (.iload_n 1, 1) := by decide +kernel
theorem dX4_init_247 : decode cX4_init 247 = .ok (.iconst 1, 1) := by decide +kernel
theorem dX4_init_248 : decode cX4_init 248 = .ok (.iastore, 1) := by decide +kernel
theorem dX4_init_249 : decode cX4_init 249 = .ok (.aload_n 0, 1) := by decide +kernel
theorem dX4_init_250 : decode cX4_init 250 = .ok (.getfield 13, 3) := by decide +kernel
theorem dX4_init_253 : decode cX4_init 253 = .ok (.iload_n 1, 1) := by decide +kernel
theorem dX4_init_254 : decode cX4_init 254 = .ok (.ldc 93, 2) := by decide +kernel
theorem dX4_init_256 : decode cX4_init 256 = .ok (.iastore, 1) := by decide +kernel
theorem dX4_init_257 : decode cX4_init 257 = .ok (.iinc 1 1, 3) := by decide +kernel
theorem dX4_init_260 : decode cX4_init 260 = .ok (.goto (-23), 3) := by decide +kernel
theorem dX4_init_263 : decode cX4_init 263 = .ok (.iconst 0, 1) := by decide +kernel
theorem dX4_init_264 : decode cX4_init 264 = .ok (.istore_n 1, 1) := by decide +kernel
theorem dX4_init_265 : decode cX4_init 265 = .ok (.iload_n 1, 1) := by decide +kernel
theorem dX4_init_266 : decode cX4_init 266 = .ok (.bipush 12, 2) := by decide +kernel
theorem dX4_init_268 : decode cX4_init 268 = .ok (.if_icmp .ge 18, 3) := by decide +kernel
theorem dX4_init_271 : decode cX4_init 271 = .ok (.aload_n 0, 1) := by decide +kernel
theorem dX4_init_272 : decode cX4_init 272 = .ok (.getfield 16, 3) := by decide +kernel
theorem dX4_init_275 : decode cX4_init 275 = .ok (.iload_n 1, 1) := by decide +kernel
theorem dX4_init_276 : decode cX4_init 276 = .ok (.sipush 1000, 3) := by decide +kernel
theorem dX4_init_279 : decode cX4_init 279 = .ok (.iastore, 1) := by decide +kernel
theorem dX4_init_280 : decode cX4_init 280 = .ok (.iinc 1 1, 3) := by decide +kernel
theorem dX4_init_283 : decode cX4_init 283 = .ok (.goto (-18), 3) := by decide +kernel
theorem dX4_init_286 : decode cX4_init 286 = .ok (.iconst 0, 1) := by decide +kernel
theorem dX4_init_287 : decode cX4_init 287 = .ok (.istore_n 1, 1) := by decide +kernel
theorem dX4_init_288 : decode cX4_init 288 = .ok (.iload_n 1, 1) := by decide +kernel
theorem dX4_init_289 : decode cX4_init 289 = .ok (.bipush 6, 2) := by decide +kernel
theorem dX4_init_291 : decode cX4_init 291 = .ok (.if_icmp .ge 16, 3) := by decide +kernel
theorem dX4_init_294 : decode cX4_init 294 = .ok (.aload_n 0, 1) := by decide +kernel
theorem dX4_init_295 : decode cX4_init 295 = .ok (.getfield 19, 3) := by decide +kernel
theorem dX4_init_298 : decode cX4_init 298 = .ok (.iload_n 1, 1) := by decide +kernel
theorem dX4_init_299 : decode cX4_init 299 = .ok (.iload_n 1, 1) := by decide +kernel
theorem dX4_init_300 : decode cX4_init 300 = .ok (.iastore, 1) := by decide +kernel
theorem dX4_init_301 : decode cX4_init 301 = .ok (.iinc 1 1, 3) := by decide +kernel
theorem dX4_init_304 : decode cX4_init 304 = .ok (.goto (-16), 3) := by decide +kernel
theorem dX4_init_307 : decode cX4_init 307 = .ok (.return_, 1) := by decide +kernel
theorem dX4_thrown_0 : decode cX4_thrown 0 = .ok (.aload_n 0, 1) := by decide +kernel
theorem dX4_thrown_1 : decode cX4_thrown 1 = .ok (.getfield 94, 3) := by decide +kernel
theorem dX4_thrown_4 : decode cX4_thrown 4 = .ok (.ireturn, 1) := by decide +kernel
theorem dX4_refuse_0 : decode cX4_refuse 0 = .ok (.aload_n 0, 1) := by decide +kernel
theorem dX4_refuse_1 : decode cX4_refuse 1 = .ok (.iload_n 1, 1) := by decide +kernel
theorem dX4_refuse_2 : decode cX4_refuse 2 = .ok (.ifCond .eq 7, 3) := by decide +kernel
theorem dX4_refuse_5 : decode cX4_refuse 5 = .ok (.iconst 1, 1) := by decide +kernel
theorem dX4_refuse_6 : decode cX4_refuse 6 = .ok (.goto 12, 3) := by decide +kernel
theorem dX4_refuse_9 : decode cX4_refuse 9 = .ok (.iload_n 2, 1) := by decide +kernel
theorem dX4_refuse_10 : decode cX4_refuse 10 = .ok (.ifCond .eq 7, 3) := by decide +kernel
theorem dX4_refuse_13 : decode cX4_refuse 13 = .ok (.iconst 2, 1) := by decide +kernel
theorem dX4_refuse_14 : decode cX4_refuse 14 = .ok (.goto 4, 3) := by decide +kernel
theorem dX4_refuse_17 : decode cX4_refuse 17 = .ok (.iconst 0, 1) := by decide +kernel
theorem dX4_refuse_18 : decode cX4_refuse 18 = .ok (.putfield 94, 3) := by decide +kernel
theorem dX4_refuse_21 : decode cX4_refuse 21 = .ok (.aload_n 0, 1) := by decide +kernel
theorem dX4_refuse_22 : decode cX4_refuse 22 = .ok (.getfield 94, 3) := by decide +kernel
theorem dX4_refuse_25 : decode cX4_refuse 25 = .ok (.ifCond .le 7, 3) := by decide +kernel
theorem dX4_refuse_28 : decode cX4_refuse 28 = .ok (.iconst 1, 1) := by decide +kernel
theorem dX4_refuse_29 : decode cX4_refuse 29 = .ok (.goto 4, 3) := by decide +kernel
theorem dX4_refuse_32 : decode cX4_refuse 32 = .ok (.iconst 0, 1) := by decide +kernel
theorem dX4_refuse_33 : decode cX4_refuse 33 = .ok (.ireturn, 1) := by decide +kernel
theorem dX4_in_0 : decode cX4_in 0 = .ok (.lload_n 0, 1) := by decide +kernel
theorem dX4_in_1 : decode cX4_in 1 = .ok (.lload_n 2, 1) := by decide +kernel
theorem dX4_in_2 : decode cX4_in 2 = .ok (.lcmp, 1) := by decide +kernel
theorem dX4_in_3 : decode cX4_in 3 = .ok (.ifCond .lt 14, 3) := by decide +kernel
theorem dX4_in_6 : decode cX4_in 6 = .ok (.lload_n 0, 1) := by decide +kernel
theorem dX4_in_7 : decode cX4_in 7 = .ok (.lload 4, 2) := by decide +kernel
theorem dX4_in_9 : decode cX4_in 9 = .ok (.lcmp, 1) := by decide +kernel
theorem dX4_in_10 : decode cX4_in 10 = .ok (.ifCond .gt 7, 3) := by decide +kernel
theorem dX4_in_13 : decode cX4_in 13 = .ok (.iconst 1, 1) := by decide +kernel
theorem dX4_in_14 : decode cX4_in 14 = .ok (.goto 4, 3) := by decide +kernel
theorem dX4_in_17 : decode cX4_in 17 = .ok (.iconst 0, 1) := by decide +kernel
theorem dX4_in_18 : decode cX4_in 18 = .ok (.ireturn, 1) := by decide +kernel
theorem dX4_isSpecies_0 : decode cX4_isSpecies 0 = .ok (.iload_n 0, 1) := by decide +kernel
theorem dX4_isSpecies_1 : decode cX4_isSpecies 1 = .ok (.i2l, 1) := by decide +kernel
theorem dX4_isSpecies_2 : decode cX4_isSpecies 2 = .ok (.lconst 0, 1) := by decide +kernel
theorem dX4_isSpecies_3 : decode cX4_isSpecies 3 = .ok (.ldc2_w 98, 3) := by decide +kernel
theorem dX4_isSpecies_6 : decode cX4_isSpecies 6 = .ok (.invokestatic 100, 3) := by decide +kernel
theorem dX4_isSpecies_9 : decode cX4_isSpecies 9 = .ok (.ireturn, 1) := by decide +kernel
theorem dX4_isOne_0 : decode cX4_isOne 0 = .ok (.iload_n 0, 1) := by decide +kernel
theorem dX4_isOne_1 : decode cX4_isOne 1 = .ok (.i2l, 1) := by decide +kernel
theorem dX4_isOne_2 : decode cX4_isOne 2 = .ok (.lconst 0, 1) := by decide +kernel
theorem dX4_isOne_3 : decode cX4_isOne 3 = .ok (.ldc2_w 104, 3) := by decide +kernel
theorem dX4_isOne_6 : decode cX4_isOne 6 = .ok (.invokestatic 100, 3) := by decide +kernel
theorem dX4_isOne_9 : decode cX4_isOne 9 = .ok (.ireturn, 1) := by decide +kernel
theorem dX4_gather_0 : decode cX4_gather 0 = .ok (.iconst 0, 1) := by decide +kernel
theorem dX4_gather_1 : decode cX4_gather 1 = .ok (.istore_n 2, 1) := by decide +kernel
theorem dX4_gather_2 : decode cX4_gather 2 = .ok (.iload_n 2, 1) := by decide +kernel
theorem dX4_gather_3 : decode cX4_gather 3 = .ok (.bipush 6, 2) := by decide +kernel
theorem dX4_gather_5 : decode cX4_gather 5 = .ok (.if_icmp .ge 25, 3) := by decide +kernel
theorem dX4_gather_8 : decode cX4_gather 8 = .ok (.aload_n 0, 1) := by decide +kernel
theorem dX4_gather_9 : decode cX4_gather 9 = .ok (.getfield 32, 3) := by decide +kernel
theorem dX4_gather_12 : decode cX4_gather 12 = .ok (.iload_n 2, 1) := by decide +kernel
theorem dX4_gather_13 : decode cX4_gather 13 = .ok (.iload_n 2, 1) := by decide +kernel
theorem dX4_gather_14 : decode cX4_gather 14 = .ok (.iload_n 1, 1) := by decide +kernel
theorem dX4_gather_15 : decode cX4_gather 15 = .ok (.if_icmp .ne 7, 3) := by decide +kernel
theorem dX4_gather_18 : decode cX4_gather 18 = .ok (.iconst 1, 1) := by decide +kernel
theorem dX4_gather_19 : decode cX4_gather 19 = .ok (.goto 4, 3) := by decide +kernel
theorem dX4_gather_22 : decode cX4_gather 22 = .ok (.iconst 0, 1) := by decide +kernel
theorem dX4_gather_23 : decode cX4_gather 23 = .ok (.bastore, 1) := by decide +kernel
theorem dX4_gather_24 : decode cX4_gather 24 = .ok (.iinc 2 1, 3) := by decide +kernel
theorem dX4_gather_27 : decode cX4_gather 27 = .ok (.goto (-25), 3) := by decide +kernel
theorem dX4_gather_30 : decode cX4_gather 30 = .ok (.iconst 0, 1) := by decide +kernel
theorem dX4_gather_31 : decode cX4_gather 31 = .ok (.istore_n 2, 1) := by decide +kernel
theorem dX4_gather_32 : decode cX4_gather 32 = .ok (.iload_n 2, 1) := by decide +kernel
theorem dX4_gather_33 : decode cX4_gather 33 = .ok (.bipush 6, 2) := by decide +kernel
theorem dX4_gather_35 : decode cX4_gather 35 = .ok (.if_icmp .ge 85, 3) := by decide +kernel
theorem dX4_gather_38 : decode cX4_gather 38 = .ok (.iconst 0, 1) := by decide +kernel
theorem dX4_gather_39 : decode cX4_gather 39 = .ok (.istore_n 3, 1) := by decide +kernel
theorem dX4_gather_40 : decode cX4_gather 40 = .ok (.iload_n 3, 1) := by decide +kernel
theorem dX4_gather_41 : decode cX4_gather 41 = .ok (.bipush 6, 2) := by decide +kernel
theorem dX4_gather_43 : decode cX4_gather 43 = .ok (.if_icmp .ge 71, 3) := by decide +kernel
theorem dX4_gather_46 : decode cX4_gather 46 = .ok (.iconst 0, 1) := by decide +kernel
theorem dX4_gather_47 : decode cX4_gather 47 = .ok (.istore 4, 2) := by decide +kernel
theorem dX4_gather_49 : decode cX4_gather 49 = .ok (.iload 4, 2) := by decide +kernel
theorem dX4_gather_51 : decode cX4_gather 51 = .ok (.bipush 6, 2) := by decide +kernel
theorem dX4_gather_53 : decode cX4_gather 53 = .ok (.if_icmp .ge 55, 3) := by decide +kernel
theorem dX4_gather_56 : decode cX4_gather 56 = .ok (.aload_n 0, 1) := by decide +kernel
theorem dX4_gather_57 : decode cX4_gather 57 = .ok (.getfield 32, 3) := by decide +kernel
theorem dX4_gather_60 : decode cX4_gather 60 = .ok (.iload 4, 2) := by decide +kernel
theorem dX4_gather_62 : decode cX4_gather 62 = .ok (.aload_n 0, 1) := by decide +kernel
theorem dX4_gather_63 : decode cX4_gather 63 = .ok (.getfield 32, 3) := by decide +kernel
theorem dX4_gather_66 : decode cX4_gather 66 = .ok (.iload 4, 2) := by decide +kernel
theorem dX4_gather_68 : decode cX4_gather 68 = .ok (.baload, 1) := by decide +kernel
theorem dX4_gather_69 : decode cX4_gather 69 = .ok (.ifCond .ne 27, 3) := by decide +kernel
theorem dX4_gather_72 : decode cX4_gather 72 = .ok (.aload_n 0, 1) := by decide +kernel
theorem dX4_gather_73 : decode cX4_gather 73 = .ok (.getfield 32, 3) := by decide +kernel
theorem dX4_gather_76 : decode cX4_gather 76 = .ok (.iload_n 3, 1) := by decide +kernel
theorem dX4_gather_77 : decode cX4_gather 77 = .ok (.baload, 1) := by decide +kernel
theorem dX4_gather_78 : decode cX4_gather 78 = .ok (.ifCond .eq 22, 3) := by decide +kernel
theorem dX4_gather_81 : decode cX4_gather 81 = .ok (.aload_n 0, 1) := by decide +kernel
theorem dX4_gather_82 : decode cX4_gather 82 = .ok (.getfield 28, 3) := by decide +kernel
theorem dX4_gather_85 : decode cX4_gather 85 = .ok (.bipush 6, 2) := by decide +kernel
theorem dX4_gather_87 : decode cX4_gather 87 = .ok (.iload_n 3, 1) := by decide +kernel
theorem dX4_gather_88 : decode cX4_gather 88 = .ok (.imul, 1) := by decide +kernel
theorem dX4_gather_89 : decode cX4_gather 89 = .ok (.iload 4, 2) := by decide +kernel
theorem dX4_gather_91 : decode cX4_gather 91 = .ok (.iadd, 1) := by decide +kernel
theorem dX4_gather_92 : decode cX4_gather 92 = .ok (.baload, 1) := by decide +kernel
theorem dX4_gather_93 : decode cX4_gather 93 = .ok (.ifCond .eq 7, 3) := by decide +kernel
theorem dX4_gather_96 : decode cX4_gather 96 = .ok (.iconst 1, 1) := by decide +kernel
theorem dX4_gather_97 : decode cX4_gather 97 = .ok (.goto 4, 3) := by decide +kernel
theorem dX4_gather_100 : decode cX4_gather 100 = .ok (.iconst 0, 1) := by decide +kernel
theorem dX4_gather_101 : decode cX4_gather 101 = .ok (.bastore, 1) := by decide +kernel
theorem dX4_gather_102 : decode cX4_gather 102 = .ok (.iinc 4 1, 3) := by decide +kernel
theorem dX4_gather_105 : decode cX4_gather 105 = .ok (.goto (-56), 3) := by decide +kernel
theorem dX4_gather_108 : decode cX4_gather 108 = .ok (.iinc 3 1, 3) := by decide +kernel
theorem dX4_gather_111 : decode cX4_gather 111 = .ok (.goto (-71), 3) := by decide +kernel
theorem dX4_gather_114 : decode cX4_gather 114 = .ok (.iinc 2 1, 3) := by decide +kernel
theorem dX4_gather_117 : decode cX4_gather 117 = .ok (.goto (-85), 3) := by decide +kernel
theorem dX4_gather_120 : decode cX4_gather 120 = .ok (.return_, 1) := by decide +kernel
theorem dX4_ofGroup_0 : decode cX4_ofGroup 0 = .ok (.aload_n 0, 1) := by decide +kernel
theorem dX4_ofGroup_1 : decode cX4_ofGroup 1 = .ok (.iload_n 2, 1) := by decide +kernel
theorem dX4_ofGroup_2 : decode cX4_ofGroup 2 = .ok (.invokevirtual 106, 3) := by decide +kernel
theorem dX4_ofGroup_5 : decode cX4_ofGroup 5 = .ok (.iconst 0, 1) := by decide +kernel
theorem dX4_ofGroup_6 : decode cX4_ofGroup 6 = .ok (.istore_n 3, 1) := by decide +kernel
theorem dX4_ofGroup_7 : decode cX4_ofGroup 7 = .ok (.iconst 0, 1) := by decide +kernel
theorem dX4_ofGroup_8 : decode cX4_ofGroup 8 = .ok (.istore 4, 2) := by decide +kernel
theorem dX4_ofGroup_10 : decode cX4_ofGroup 10 = .ok (.iload 4, 2) := by decide +kernel
theorem dX4_ofGroup_12 : decode cX4_ofGroup 12 = .ok (.bipush 6, 2) := by decide +kernel
theorem dX4_ofGroup_14 : decode cX4_ofGroup 14 = .ok (.if_icmp .ge 38, 3) := by decide +kernel
theorem dX4_ofGroup_17 : decode cX4_ofGroup 17 = .ok (.aload_n 0, 1) := by decide +kernel
theorem dX4_ofGroup_18 : decode cX4_ofGroup 18 = .ok (.getfield 32, 3) := by decide +kernel
theorem dX4_ofGroup_21 : decode cX4_ofGroup 21 = .ok (.iload 4, 2) := by decide +kernel
theorem dX4_ofGroup_23 : decode cX4_ofGroup 23 = .ok (.baload, 1) := by decide +kernel
theorem dX4_ofGroup_24 : decode cX4_ofGroup 24 = .ok (.ifCond .eq 20, 3) := by decide +kernel
theorem dX4_ofGroup_27 : decode cX4_ofGroup 27 = .ok (.iload_n 3, 1) := by decide +kernel
theorem dX4_ofGroup_28 : decode cX4_ofGroup 28 = .ok (.aload_n 0, 1) := by decide +kernel
theorem dX4_ofGroup_29 : decode cX4_ofGroup 29 = .ok (.getfield 22, 3) := by decide +kernel
theorem dX4_ofGroup_32 : decode cX4_ofGroup 32 = .ok (.bipush 6, 2) := by decide +kernel
theorem dX4_ofGroup_34 : decode cX4_ofGroup 34 = .ok (.iload_n 1, 1) := by decide +kernel
theorem dX4_ofGroup_35 : decode cX4_ofGroup 35 = .ok (.imul, 1) := by decide +kernel
theorem dX4_ofGroup_36 : decode cX4_ofGroup 36 = .ok (.iload 4, 2) := by decide +kernel
theorem dX4_ofGroup_38 : decode cX4_ofGroup 38 = .ok (.iadd, 1) := by decide +kernel
theorem dX4_ofGroup_39 : decode cX4_ofGroup 39 = .ok (.iaload, 1) := by decide +kernel
theorem dX4_ofGroup_40 : decode cX4_ofGroup 40 = .ok (.iadd, 1) := by decide +kernel
theorem dX4_ofGroup_41 : decode cX4_ofGroup 41 = .ok (.goto 4, 3) := by decide +kernel
theorem dX4_ofGroup_44 : decode cX4_ofGroup 44 = .ok (.iload_n 3, 1) := by decide +kernel
theorem dX4_ofGroup_45 : decode cX4_ofGroup 45 = .ok (.istore_n 3, 1) := by decide +kernel
theorem dX4_ofGroup_46 : decode cX4_ofGroup 46 = .ok (.iinc 4 1, 3) := by decide +kernel
theorem dX4_ofGroup_49 : decode cX4_ofGroup 49 = .ok (.goto (-39), 3) := by decide +kernel
theorem dX4_ofGroup_52 : decode cX4_ofGroup 52 = .ok (.iload_n 3, 1) := by decide +kernel
theorem dX4_ofGroup_53 : decode cX4_ofGroup 53 = .ok (.ireturn, 1) := by decide +kernel
theorem dX4_fits_0 : decode cX4_fits 0 = .ok (.iconst 1, 1) := by decide +kernel
theorem dX4_fits_1 : decode cX4_fits 1 = .ok (.istore_n 3, 1) := by decide +kernel
theorem dX4_fits_2 : decode cX4_fits 2 = .ok (.iconst 0, 1) := by decide +kernel
theorem dX4_fits_3 : decode cX4_fits 3 = .ok (.istore 4, 2) := by decide +kernel
theorem dX4_fits_5 : decode cX4_fits 5 = .ok (.iload 4, 2) := by decide +kernel
theorem dX4_fits_7 : decode cX4_fits 7 = .ok (.bipush 6, 2) := by decide +kernel
theorem dX4_fits_9 : decode cX4_fits 9 = .ok (.if_icmp .ge 30, 3) := by decide +kernel
theorem dX4_fits_12 : decode cX4_fits 12 = .ok (.iload_n 3, 1) := by decide +kernel
theorem dX4_fits_13 : decode cX4_fits 13 = .ok (.ifCond .eq 18, 3) := by decide +kernel
theorem dX4_fits_16 : decode cX4_fits 16 = .ok (.aload_n 0, 1) := by decide +kernel
theorem dX4_fits_17 : decode cX4_fits 17 = .ok (.iload_n 1, 1) := by decide +kernel
theorem dX4_fits_18 : decode cX4_fits 18 = .ok (.iload 4, 2) := by decide +kernel
theorem dX4_fits_20 : decode cX4_fits 20 = .ok (.invokevirtual 110, 3) := by decide +kernel
theorem dX4_fits_23 : decode cX4_fits 23 = .ok (.iload_n 2, 1) := by decide +kernel
theorem dX4_fits_24 : decode cX4_fits 24 = .ok (.if_icmp .gt 7, 3) := by decide +kernel
theorem dX4_fits_27 : decode cX4_fits 27 = .ok (.iconst 1, 1) := by decide +kernel
theorem dX4_fits_28 : decode cX4_fits 28 = .ok (.goto 4, 3) := by decide +kernel
theorem dX4_fits_31 : decode cX4_fits 31 = .ok (.iconst 0, 1) := by decide +kernel
theorem dX4_fits_32 : decode cX4_fits 32 = .ok (.istore_n 3, 1) := by decide +kernel
theorem dX4_fits_33 : decode cX4_fits 33 = .ok (.iinc 4 1, 3) := by decide +kernel
theorem dX4_fits_36 : decode cX4_fits 36 = .ok (.goto (-31), 3) := by decide +kernel
theorem dX4_fits_39 : decode cX4_fits 39 = .ok (.iload_n 3, 1) := by decide +kernel
theorem dX4_fits_40 : decode cX4_fits 40 = .ok (.ireturn, 1) := by decide +kernel
theorem dX4_free_0 : decode cX4_free 0 = .ok (.aload_n 0, 1) := by decide +kernel
theorem dX4_free_1 : decode cX4_free 1 = .ok (.getfield 22, 3) := by decide +kernel
theorem dX4_free_4 : decode cX4_free 4 = .ok (.bipush 6, 2) := by decide +kernel
theorem dX4_free_6 : decode cX4_free 6 = .ok (.iload_n 1, 1) := by decide +kernel
theorem dX4_free_7 : decode cX4_free 7 = .ok (.imul, 1) := by decide +kernel
theorem dX4_free_8 : decode cX4_free 8 = .ok (.iload_n 2, 1) := by decide +kernel
theorem dX4_free_9 : decode cX4_free 9 = .ok (.iadd, 1) := by decide +kernel
theorem dX4_free_10 : decode cX4_free 10 = .ok (.iaload, 1) := by decide +kernel
theorem dX4_free_11 : decode cX4_free 11 = .ok (.istore_n 3, 1) := by decide +kernel
theorem dX4_free_12 : decode cX4_free 12 = .ok (.iconst 0, 1) := by decide +kernel
theorem dX4_free_13 : decode cX4_free 13 = .ok (.istore 4, 2) := by decide +kernel
theorem dX4_free_15 : decode cX4_free 15 = .ok (.iload 4, 2) := by decide +kernel
theorem dX4_free_17 : decode cX4_free 17 = .ok (.bipush 6, 2) := by decide +kernel
theorem dX4_free_19 : decode cX4_free 19 = .ok (.if_icmp .ge 39, 3) := by decide +kernel
theorem dX4_free_22 : decode cX4_free 22 = .ok (.aload_n 0, 1) := by decide +kernel
theorem dX4_free_23 : decode cX4_free 23 = .ok (.getfield 19, 3) := by decide +kernel
theorem dX4_free_26 : decode cX4_free 26 = .ok (.iload 4, 2) := by decide +kernel
theorem dX4_free_28 : decode cX4_free 28 = .ok (.iaload, 1) := by decide +kernel
theorem dX4_free_29 : decode cX4_free 29 = .ok (.iload_n 2, 1) := by decide +kernel
theorem dX4_free_30 : decode cX4_free 30 = .ok (.if_icmp .ne 20, 3) := by decide +kernel
theorem dX4_free_33 : decode cX4_free 33 = .ok (.iload_n 3, 1) := by decide +kernel
theorem dX4_free_34 : decode cX4_free 34 = .ok (.aload_n 0, 1) := by decide +kernel
theorem dX4_free_35 : decode cX4_free 35 = .ok (.getfield 25, 3) := by decide +kernel
theorem dX4_free_38 : decode cX4_free 38 = .ok (.bipush 6, 2) := by decide +kernel
theorem dX4_free_40 : decode cX4_free 40 = .ok (.iload_n 1, 1) := by decide +kernel
theorem dX4_free_41 : decode cX4_free 41 = .ok (.imul, 1) := by decide +kernel
theorem dX4_free_42 : decode cX4_free 42 = .ok (.iload 4, 2) := by decide +kernel
theorem dX4_free_44 : decode cX4_free 44 = .ok (.iadd, 1) := by decide +kernel
theorem dX4_free_45 : decode cX4_free 45 = .ok (.iaload, 1) := by decide +kernel
theorem dX4_free_46 : decode cX4_free 46 = .ok (.isub, 1) := by decide +kernel
theorem dX4_free_47 : decode cX4_free 47 = .ok (.goto 4, 3) := by decide +kernel
theorem dX4_free_50 : decode cX4_free 50 = .ok (.iload_n 3, 1) := by decide +kernel
theorem dX4_free_51 : decode cX4_free 51 = .ok (.istore_n 3, 1) := by decide +kernel
theorem dX4_free_52 : decode cX4_free 52 = .ok (.iinc 4 1, 3) := by decide +kernel
theorem dX4_free_55 : decode cX4_free 55 = .ok (.goto (-40), 3) := by decide +kernel
theorem dX4_free_58 : decode cX4_free 58 = .ok (.iload_n 3, 1) := by decide +kernel
theorem dX4_free_59 : decode cX4_free 59 = .ok (.ireturn, 1) := by decide +kernel
theorem dX4_species_0 : decode cX4_species 0 = .ok (.iload_n 1, 1) := by decide +kernel
theorem dX4_species_1 : decode cX4_species 1 = .ok (.invokestatic 114, 3) := by decide +kernel
theorem dX4_species_4 : decode cX4_species 4 = .ok (.ifCond .eq 40, 3) := by decide +kernel
theorem dX4_species_7 : decode cX4_species 7 = .ok (.iload_n 2, 1) := by decide +kernel
theorem dX4_species_8 : decode cX4_species 8 = .ok (.i2l, 1) := by decide +kernel
theorem dX4_species_9 : decode cX4_species 9 = .ok (.lconst 1, 1) := by decide +kernel
theorem dX4_species_10 : decode cX4_species 10 = .ok (.ldc2_w 118, 3) := by decide +kernel
theorem dX4_species_13 : decode cX4_species 13 = .ok (.invokestatic 100, 3) := by decide +kernel
theorem dX4_species_16 : decode cX4_species 16 = .ok (.ifCond .eq 28, 3) := by decide +kernel
theorem dX4_species_19 : decode cX4_species 19 = .ok (.iload_n 3, 1) := by decide +kernel
theorem dX4_species_20 : decode cX4_species 20 = .ok (.i2l, 1) := by decide +kernel
theorem dX4_species_21 : decode cX4_species 21 = .ok (.lconst 0, 1) := by decide +kernel
theorem dX4_species_22 : decode cX4_species 22 = .ok (.ldc2_w 120, 3) := by decide +kernel
theorem dX4_species_25 : decode cX4_species 25 = .ok (.invokestatic 100, 3) := by decide +kernel
theorem dX4_species_28 : decode cX4_species 28 = .ok (.ifCond .eq 16, 3) := by decide +kernel
theorem dX4_species_31 : decode cX4_species 31 = .ok (.aload_n 0, 1) := by decide +kernel
theorem dX4_species_32 : decode cX4_species 32 = .ok (.iload_n 1, 1) := by decide +kernel
theorem dX4_species_33 : decode cX4_species 33 = .ok (.iload_n 3, 1) := by decide +kernel
theorem dX4_species_34 : decode cX4_species 34 = .ok (.invokevirtual 122, 3) := by decide +kernel
theorem dX4_species_37 : decode cX4_species 37 = .ok (.ifCond .eq 7, 3) := by decide +kernel
theorem dX4_species_40 : decode cX4_species 40 = .ok (.iconst 1, 1) := by decide +kernel
theorem dX4_species_41 : decode cX4_species 41 = .ok (.goto 4, 3) := by decide +kernel
theorem dX4_species_44 : decode cX4_species 44 = .ok (.iconst 0, 1) := by decide +kernel
theorem dX4_species_45 : decode cX4_species 45 = .ok (.istore 4, 2) := by decide +kernel
theorem dX4_species_47 : decode cX4_species 47 = .ok (.aload_n 0, 1) := by decide +kernel
theorem dX4_species_48 : decode cX4_species 48 = .ok (.iload 4, 2) := by decide +kernel
theorem dX4_species_50 : decode cX4_species 50 = .ok (.ifCond .ne 7, 3) := by decide +kernel
theorem dX4_species_53 : decode cX4_species 53 = .ok (.iconst 1, 1) := by decide +kernel
theorem dX4_species_54 : decode cX4_species 54 = .ok (.goto 4, 3) := by decide +kernel
theorem dX4_species_57 : decode cX4_species 57 = .ok (.iconst 0, 1) := by decide +kernel
theorem dX4_species_58 : decode cX4_species 58 = .ok (.iconst 0, 1) := by decide +kernel
theorem dX4_species_59 : decode cX4_species 59 = .ok (.invokevirtual 126, 3) := by decide +kernel
theorem dX4_species_62 : decode cX4_species 62 = .ok (.ifCond .eq 4, 3) := by decide +kernel
theorem dX4_species_65 : decode cX4_species 65 = .ok (.return_, 1) := by decide +kernel
theorem dX4_species_66 : decode cX4_species 66 = .ok (.aload_n 0, 1) := by decide +kernel
theorem dX4_species_67 : decode cX4_species 67 = .ok (.getfield 7, 3) := by decide +kernel
theorem dX4_species_70 : decode cX4_species 70 = .ok (.iload_n 1, 1) := by decide +kernel
theorem dX4_species_71 : decode cX4_species 71 = .ok (.iload_n 2, 1) := by decide +kernel
theorem dX4_species_72 : decode cX4_species 72 = .ok (.iastore, 1) := by decide +kernel
theorem dX4_species_73 : decode cX4_species 73 = .ok (.aload_n 0, 1) := by decide +kernel
theorem dX4_species_74 : decode cX4_species 74 = .ok (.getfield 13, 3) := by decide +kernel
theorem dX4_species_77 : decode cX4_species 77 = .ok (.iload_n 1, 1) := by decide +kernel
theorem dX4_species_78 : decode cX4_species 78 = .ok (.iload_n 3, 1) := by decide +kernel
theorem dX4_species_79 : decode cX4_species 79 = .ok (.iastore, 1) := by decide +kernel
theorem dX4_species_80 : decode cX4_species 80 = .ok (.return_, 1) := by decide +kernel
theorem dX4_factor_0 : decode cX4_factor 0 = .ok (.aload_n 0, 1) := by decide +kernel
theorem dX4_factor_1 : decode cX4_factor 1 = .ok (.iload_n 1, 1) := by decide +kernel
theorem dX4_factor_2 : decode cX4_factor 2 = .ok (.invokestatic 114, 3) := by decide +kernel
theorem dX4_factor_5 : decode cX4_factor 5 = .ok (.ifCond .eq 27, 3) := by decide +kernel
theorem dX4_factor_8 : decode cX4_factor 8 = .ok (.iload_n 2, 1) := by decide +kernel
theorem dX4_factor_9 : decode cX4_factor 9 = .ok (.i2l, 1) := by decide +kernel
theorem dX4_factor_10 : decode cX4_factor 10 = .ok (.lconst 0, 1) := by decide +kernel
theorem dX4_factor_11 : decode cX4_factor 11 = .ok (.ldc2_w 130, 3) := by decide +kernel
theorem dX4_factor_14 : decode cX4_factor 14 = .ok (.invokestatic 100, 3) := by decide +kernel
theorem dX4_factor_17 : decode cX4_factor 17 = .ok (.ifCond .eq 15, 3) := by decide +kernel
theorem dX4_factor_20 : decode cX4_factor 20 = .ok (.iload_n 3, 1) := by decide +kernel
theorem dX4_factor_21 : decode cX4_factor 21 = .ok (.i2l, 1) := by decide +kernel
theorem dX4_factor_22 : decode cX4_factor 22 = .ok (.lconst 0, 1) := by decide +kernel
theorem dX4_factor_23 : decode cX4_factor 23 = .ok (.ldc2_w 132, 3) := by decide +kernel
theorem dX4_factor_26 : decode cX4_factor 26 = .ok (.invokestatic 100, 3) := by decide +kernel
theorem dX4_factor_29 : decode cX4_factor 29 = .ok (.ifCond .ne 7, 3) := by decide +kernel
theorem dX4_factor_32 : decode cX4_factor 32 = .ok (.iconst 1, 1) := by decide +kernel
theorem dX4_factor_33 : decode cX4_factor 33 = .ok (.goto 4, 3) := by decide +kernel
theorem dX4_factor_36 : decode cX4_factor 36 = .ok (.iconst 0, 1) := by decide +kernel
theorem dX4_factor_37 : decode cX4_factor 37 = .ok (.iconst 0, 1) := by decide +kernel
theorem dX4_factor_38 : decode cX4_factor 38 = .ok (.invokevirtual 126, 3) := by decide +kernel
theorem dX4_factor_41 : decode cX4_factor 41 = .ok (.ifCond .eq 4, 3) := by decide +kernel
theorem dX4_factor_44 : decode cX4_factor 44 = .ok (.return_, 1) := by decide +kernel
theorem dX4_factor_45 : decode cX4_factor 45 = .ok (.aload_n 0, 1) := by decide +kernel
theorem dX4_factor_46 : decode cX4_factor 46 = .ok (.getfield 16, 3) := by decide +kernel
theorem dX4_factor_49 : decode cX4_factor 49 = .ok (.iconst 3, 1) := by decide +kernel
theorem dX4_factor_50 : decode cX4_factor 50 = .ok (.iload_n 1, 1) := by decide +kernel
theorem dX4_factor_51 : decode cX4_factor 51 = .ok (.imul, 1) := by decide +kernel
theorem dX4_factor_52 : decode cX4_factor 52 = .ok (.iload_n 2, 1) := by decide +kernel
theorem dX4_factor_53 : decode cX4_factor 53 = .ok (.iadd, 1) := by decide +kernel
theorem dX4_factor_54 : decode cX4_factor 54 = .ok (.iload_n 3, 1) := by decide +kernel
theorem dX4_factor_55 : decode cX4_factor 55 = .ok (.iastore, 1) := by decide +kernel
theorem dX4_factor_56 : decode cX4_factor 56 = .ok (.return_, 1) := by decide +kernel
theorem dX4_vessel_0 : decode cX4_vessel 0 = .ok (.iload_n 1, 1) := by decide +kernel
theorem dX4_vessel_1 : decode cX4_vessel 1 = .ok (.invokestatic 134, 3) := by decide +kernel
theorem dX4_vessel_4 : decode cX4_vessel 4 = .ok (.ifCond .eq 14, 3) := by decide +kernel
theorem dX4_vessel_7 : decode cX4_vessel 7 = .ok (.iload_n 2, 1) := by decide +kernel
theorem dX4_vessel_8 : decode cX4_vessel 8 = .ok (.invokestatic 134, 3) := by decide +kernel
theorem dX4_vessel_11 : decode cX4_vessel 11 = .ok (.ifCond .eq 7, 3) := by decide +kernel
theorem dX4_vessel_14 : decode cX4_vessel 14 = .ok (.iconst 1, 1) := by decide +kernel
theorem dX4_vessel_15 : decode cX4_vessel 15 = .ok (.goto 4, 3) := by decide +kernel
theorem dX4_vessel_18 : decode cX4_vessel 18 = .ok (.iconst 0, 1) := by decide +kernel
theorem dX4_vessel_19 : decode cX4_vessel 19 = .ok (.istore_n 3, 1) := by decide +kernel
theorem dX4_vessel_20 : decode cX4_vessel 20 = .ok (.iconst 0, 1) := by decide +kernel
theorem dX4_vessel_21 : decode cX4_vessel 21 = .ok (.istore 4, 2) := by decide +kernel
theorem dX4_vessel_23 : decode cX4_vessel 23 = .ok (.iconst 0, 1) := by decide +kernel
theorem dX4_vessel_24 : decode cX4_vessel 24 = .ok (.istore 5, 2) := by decide +kernel
theorem dX4_vessel_26 : decode cX4_vessel 26 = .ok (.iload 5, 2) := by decide +kernel
theorem dX4_vessel_28 : decode cX4_vessel 28 = .ok (.iconst 4, 1) := by decide +kernel
theorem dX4_vessel_29 : decode cX4_vessel 29 = .ok (.if_icmp .ge 40, 3) := by decide +kernel
theorem dX4_vessel_32 : decode cX4_vessel 32 = .ok (.iload_n 3, 1) := by decide +kernel
theorem dX4_vessel_33 : decode cX4_vessel 33 = .ok (.ifCond .eq 36, 3) := by decide +kernel
theorem dX4_vessel_36 : decode cX4_vessel 36 = .ok (.iload 4, 2) := by decide +kernel
theorem dX4_vessel_38 : decode cX4_vessel 38 = .ok (.ifCond .ne 18, 3) := by decide +kernel
theorem dX4_vessel_41 : decode cX4_vessel 41 = .ok (.aload_n 0, 1) := by decide +kernel
theorem dX4_vessel_42 : decode cX4_vessel 42 = .ok (.getfield 25, 3) := by decide +kernel
theorem dX4_vessel_45 : decode cX4_vessel 45 = .ok (.bipush 6, 2) := by decide +kernel
theorem dX4_vessel_47 : decode cX4_vessel 47 = .ok (.iload 5, 2) := by decide +kernel
theorem dX4_vessel_49 : decode cX4_vessel 49 = .ok (.imul, 1) := by decide +kernel
theorem dX4_vessel_50 : decode cX4_vessel 50 = .ok (.iload_n 1, 1) := by decide +kernel
theorem dX4_vessel_51 : decode cX4_vessel 51 = .ok (.iadd, 1) := by decide +kernel
theorem dX4_vessel_52 : decode cX4_vessel 52 = .ok (.iaload, 1) := by decide +kernel
theorem dX4_vessel_53 : decode cX4_vessel 53 = .ok (.ifCond .le 7, 3) := by decide +kernel
theorem dX4_vessel_56 : decode cX4_vessel 56 = .ok (.iconst 1, 1) := by decide +kernel
theorem dX4_vessel_57 : decode cX4_vessel 57 = .ok (.goto 4, 3) := by decide +kernel
theorem dX4_vessel_60 : decode cX4_vessel 60 = .ok (.iconst 0, 1) := by decide +kernel
theorem dX4_vessel_61 : decode cX4_vessel 61 = .ok (.istore 4, 2) := by decide +kernel
theorem dX4_vessel_63 : decode cX4_vessel 63 = .ok (.iinc 5 1, 3) := by decide +kernel
theorem dX4_vessel_66 : decode cX4_vessel 66 = .ok (.goto (-40), 3) := by decide +kernel
theorem dX4_vessel_69 : decode cX4_vessel 69 = .ok (.aload_n 0, 1) := by decide +kernel
theorem dX4_vessel_70 : decode cX4_vessel 70 = .ok (.iload_n 3, 1) := by decide +kernel
theorem dX4_vessel_71 : decode cX4_vessel 71 = .ok (.ifCond .ne 7, 3) := by decide +kernel
theorem dX4_vessel_74 : decode cX4_vessel 74 = .ok (.iconst 1, 1) := by decide +kernel
theorem dX4_vessel_75 : decode cX4_vessel 75 = .ok (.goto 4, 3) := by decide +kernel
theorem dX4_vessel_78 : decode cX4_vessel 78 = .ok (.iconst 0, 1) := by decide +kernel
theorem dX4_vessel_79 : decode cX4_vessel 79 = .ok (.iload 4, 2) := by decide +kernel
theorem dX4_vessel_81 : decode cX4_vessel 81 = .ok (.invokevirtual 126, 3) := by decide +kernel
theorem dX4_vessel_84 : decode cX4_vessel 84 = .ok (.ifCond .eq 4, 3) := by decide +kernel
theorem dX4_vessel_87 : decode cX4_vessel 87 = .ok (.return_, 1) := by decide +kernel
theorem dX4_vessel_88 : decode cX4_vessel 88 = .ok (.aload_n 0, 1) := by decide +kernel
theorem dX4_vessel_89 : decode cX4_vessel 89 = .ok (.getfield 19, 3) := by decide +kernel
theorem dX4_vessel_92 : decode cX4_vessel 92 = .ok (.iload_n 1, 1) := by decide +kernel
theorem dX4_vessel_93 : decode cX4_vessel 93 = .ok (.iload_n 2, 1) := by decide +kernel
theorem dX4_vessel_94 : decode cX4_vessel 94 = .ok (.iastore, 1) := by decide +kernel
theorem dX4_vessel_95 : decode cX4_vessel 95 = .ok (.return_, 1) := by decide +kernel
theorem dX4_setLink_0 : decode cX4_setLink 0 = .ok (.aload_n 0, 1) := by decide +kernel
theorem dX4_setLink_1 : decode cX4_setLink 1 = .ok (.getfield 28, 3) := by decide +kernel
theorem dX4_setLink_4 : decode cX4_setLink 4 = .ok (.bipush 6, 2) := by decide +kernel
theorem dX4_setLink_6 : decode cX4_setLink 6 = .ok (.iload_n 1, 1) := by decide +kernel
theorem dX4_setLink_7 : decode cX4_setLink 7 = .ok (.imul, 1) := by decide +kernel
theorem dX4_setLink_8 : decode cX4_setLink 8 = .ok (.iload_n 2, 1) := by decide +kernel
theorem dX4_setLink_9 : decode cX4_setLink 9 = .ok (.iadd, 1) := by decide +kernel
theorem dX4_setLink_10 : decode cX4_setLink 10 = .ok (.iload_n 3, 1) := by decide +kernel
theorem dX4_setLink_11 : decode cX4_setLink 11 = .ok (.bastore, 1) := by decide +kernel
theorem dX4_setLink_12 : decode cX4_setLink 12 = .ok (.aload_n 0, 1) := by decide +kernel
theorem dX4_setLink_13 : decode cX4_setLink 13 = .ok (.getfield 28, 3) := by decide +kernel
theorem dX4_setLink_16 : decode cX4_setLink 16 = .ok (.bipush 6, 2) := by decide +kernel
theorem dX4_setLink_18 : decode cX4_setLink 18 = .ok (.iload_n 2, 1) := by decide +kernel
theorem dX4_setLink_19 : decode cX4_setLink 19 = .ok (.imul, 1) := by decide +kernel
theorem dX4_setLink_20 : decode cX4_setLink 20 = .ok (.iload_n 1, 1) := by decide +kernel
theorem dX4_setLink_21 : decode cX4_setLink 21 = .ok (.iadd, 1) := by decide +kernel
theorem dX4_setLink_22 : decode cX4_setLink 22 = .ok (.iload_n 3, 1) := by decide +kernel
theorem dX4_setLink_23 : decode cX4_setLink 23 = .ok (.bastore, 1) := by decide +kernel
theorem dX4_setLink_24 : decode cX4_setLink 24 = .ok (.return_, 1) := by decide +kernel
theorem dX4_link_0 : decode cX4_link 0 = .ok (.aload_n 0, 1) := by decide +kernel
theorem dX4_link_1 : decode cX4_link 1 = .ok (.iload_n 1, 1) := by decide +kernel
theorem dX4_link_2 : decode cX4_link 2 = .ok (.invokestatic 134, 3) := by decide +kernel
theorem dX4_link_5 : decode cX4_link 5 = .ok (.ifCond .eq 15, 3) := by decide +kernel
theorem dX4_link_8 : decode cX4_link 8 = .ok (.iload_n 2, 1) := by decide +kernel
theorem dX4_link_9 : decode cX4_link 9 = .ok (.invokestatic 134, 3) := by decide +kernel
theorem dX4_link_12 : decode cX4_link 12 = .ok (.ifCond .eq 8, 3) := by decide +kernel
theorem dX4_link_15 : decode cX4_link 15 = .ok (.iload_n 1, 1) := by decide +kernel
theorem dX4_link_16 : decode cX4_link 16 = .ok (.iload_n 2, 1) := by decide +kernel
theorem dX4_link_17 : decode cX4_link 17 = .ok (.if_icmp .ne 7, 3) := by decide +kernel
theorem dX4_link_20 : decode cX4_link 20 = .ok (.iconst 1, 1) := by decide +kernel
theorem dX4_link_21 : decode cX4_link 21 = .ok (.goto 4, 3) := by decide +kernel
theorem dX4_link_24 : decode cX4_link 24 = .ok (.iconst 0, 1) := by decide +kernel
theorem dX4_link_25 : decode cX4_link 25 = .ok (.iconst 0, 1) := by decide +kernel
theorem dX4_link_26 : decode cX4_link 26 = .ok (.invokevirtual 126, 3) := by decide +kernel
theorem dX4_link_29 : decode cX4_link 29 = .ok (.ifCond .eq 4, 3) := by decide +kernel
theorem dX4_link_32 : decode cX4_link 32 = .ok (.return_, 1) := by decide +kernel
theorem dX4_link_33 : decode cX4_link 33 = .ok (.aload_n 0, 1) := by decide +kernel
theorem dX4_link_34 : decode cX4_link 34 = .ok (.getfield 28, 3) := by decide +kernel
theorem dX4_link_37 : decode cX4_link 37 = .ok (.bipush 6, 2) := by decide +kernel
theorem dX4_link_39 : decode cX4_link 39 = .ok (.iload_n 1, 1) := by decide +kernel
theorem dX4_link_40 : decode cX4_link 40 = .ok (.imul, 1) := by decide +kernel
theorem dX4_link_41 : decode cX4_link 41 = .ok (.iload_n 2, 1) := by decide +kernel
theorem dX4_link_42 : decode cX4_link 42 = .ok (.iadd, 1) := by decide +kernel
theorem dX4_link_43 : decode cX4_link 43 = .ok (.baload, 1) := by decide +kernel
theorem dX4_link_44 : decode cX4_link 44 = .ok (.istore_n 3, 1) := by decide +kernel
theorem dX4_link_45 : decode cX4_link 45 = .ok (.aload_n 0, 1) := by decide +kernel
theorem dX4_link_46 : decode cX4_link 46 = .ok (.iload_n 1, 1) := by decide +kernel
theorem dX4_link_47 : decode cX4_link 47 = .ok (.iload_n 2, 1) := by decide +kernel
theorem dX4_link_48 : decode cX4_link 48 = .ok (.iconst 1, 1) := by decide +kernel
theorem dX4_link_49 : decode cX4_link 49 = .ok (.invokevirtual 137, 3) := by decide +kernel
theorem dX4_link_52 : decode cX4_link 52 = .ok (.iconst 1, 1) := by decide +kernel
theorem dX4_link_53 : decode cX4_link 53 = .ok (.istore 4, 2) := by decide +kernel
theorem dX4_link_55 : decode cX4_link 55 = .ok (.iconst 0, 1) := by decide +kernel
theorem dX4_link_56 : decode cX4_link 56 = .ok (.istore 5, 2) := by decide +kernel
theorem dX4_link_58 : decode cX4_link 58 = .ok (.iload 5, 2) := by decide +kernel
theorem dX4_link_60 : decode cX4_link 60 = .ok (.iconst 4, 1) := by decide +kernel
theorem dX4_link_61 : decode cX4_link 61 = .ok (.if_icmp .ge 37, 3) := by decide +kernel
theorem dX4_link_64 : decode cX4_link 64 = .ok (.iload 4, 2) := by decide +kernel
theorem dX4_link_66 : decode cX4_link 66 = .ok (.ifCond .eq 23, 3) := by decide +kernel
theorem dX4_link_69 : decode cX4_link 69 = .ok (.aload_n 0, 1) := by decide +kernel
theorem dX4_link_70 : decode cX4_link 70 = .ok (.iload 5, 2) := by decide +kernel
theorem dX4_link_72 : decode cX4_link 72 = .ok (.aload_n 0, 1) := by decide +kernel
theorem dX4_link_73 : decode cX4_link 73 = .ok (.getfield 13, 3) := by decide +kernel
theorem dX4_link_76 : decode cX4_link 76 = .ok (.iload 5, 2) := by decide +kernel
theorem dX4_link_78 : decode cX4_link 78 = .ok (.iaload, 1) := by decide +kernel
theorem dX4_link_79 : decode cX4_link 79 = .ok (.invokevirtual 122, 3) := by decide +kernel
theorem dX4_link_82 : decode cX4_link 82 = .ok (.ifCond .eq 7, 3) := by decide +kernel
theorem dX4_link_85 : decode cX4_link 85 = .ok (.iconst 1, 1) := by decide +kernel
theorem dX4_link_86 : decode cX4_link 86 = .ok (.goto 4, 3) := by decide +kernel
theorem dX4_link_89 : decode cX4_link 89 = .ok (.iconst 0, 1) := by decide +kernel
theorem dX4_link_90 : decode cX4_link 90 = .ok (.istore 4, 2) := by decide +kernel
theorem dX4_link_92 : decode cX4_link 92 = .ok (.iinc 5 1, 3) := by decide +kernel
theorem dX4_link_95 : decode cX4_link 95 = .ok (.goto (-37), 3) := by decide +kernel
theorem dX4_link_98 : decode cX4_link 98 = .ok (.aload_n 0, 1) := by decide +kernel
theorem dX4_link_99 : decode cX4_link 99 = .ok (.iconst 0, 1) := by decide +kernel
theorem dX4_link_100 : decode cX4_link 100 = .ok (.iload 4, 2) := by decide +kernel
theorem dX4_link_102 : decode cX4_link 102 = .ok (.ifCond .ne 7, 3) := by decide +kernel
theorem dX4_link_105 : decode cX4_link 105 = .ok (.iconst 1, 1) := by decide +kernel
theorem dX4_link_106 : decode cX4_link 106 = .ok (.goto 4, 3) := by decide +kernel
theorem dX4_link_109 : decode cX4_link 109 = .ok (.iconst 0, 1) := by decide +kernel
theorem dX4_link_110 : decode cX4_link 110 = .ok (.invokevirtual 126, 3) := by decide +kernel
theorem dX4_link_113 : decode cX4_link 113 = .ok (.ifCond .eq 10, 3) := by decide +kernel
theorem dX4_link_116 : decode cX4_link 116 = .ok (.aload_n 0, 1) := by decide +kernel
theorem dX4_link_117 : decode cX4_link 117 = .ok (.iload_n 1, 1) := by decide +kernel
theorem dX4_link_118 : decode cX4_link 118 = .ok (.iload_n 2, 1) := by decide +kernel
theorem dX4_link_119 : decode cX4_link 119 = .ok (.iload_n 3, 1) := by decide +kernel
theorem dX4_link_120 : decode cX4_link 120 = .ok (.invokevirtual 137, 3) := by decide +kernel
theorem dX4_link_123 : decode cX4_link 123 = .ok (.return_, 1) := by decide +kernel
theorem dX4_unlink_0 : decode cX4_unlink 0 = .ok (.iload_n 1, 1) := by decide +kernel
theorem dX4_unlink_1 : decode cX4_unlink 1 = .ok (.invokestatic 134, 3) := by decide +kernel
theorem dX4_unlink_4 : decode cX4_unlink 4 = .ok (.ifCond .eq 19, 3) := by decide +kernel
theorem dX4_unlink_7 : decode cX4_unlink 7 = .ok (.iload_n 2, 1) := by decide +kernel
theorem dX4_unlink_8 : decode cX4_unlink 8 = .ok (.invokestatic 134, 3) := by decide +kernel
theorem dX4_unlink_11 : decode cX4_unlink 11 = .ok (.ifCond .eq 12, 3) := by decide +kernel
theorem dX4_unlink_14 : decode cX4_unlink 14 = .ok (.iload_n 1, 1) := by decide +kernel
theorem dX4_unlink_15 : decode cX4_unlink 15 = .ok (.iload_n 2, 1) := by decide +kernel
theorem dX4_unlink_16 : decode cX4_unlink 16 = .ok (.if_icmp .eq 7, 3) := by decide +kernel
theorem dX4_unlink_19 : decode cX4_unlink 19 = .ok (.iconst 1, 1) := by decide +kernel
theorem dX4_unlink_20 : decode cX4_unlink 20 = .ok (.goto 4, 3) := by decide +kernel
theorem dX4_unlink_23 : decode cX4_unlink 23 = .ok (.iconst 0, 1) := by decide +kernel
theorem dX4_unlink_24 : decode cX4_unlink 24 = .ok (.istore_n 3, 1) := by decide +kernel
theorem dX4_unlink_25 : decode cX4_unlink 25 = .ok (.aload_n 0, 1) := by decide +kernel
theorem dX4_unlink_26 : decode cX4_unlink 26 = .ok (.iload_n 3, 1) := by decide +kernel
theorem dX4_unlink_27 : decode cX4_unlink 27 = .ok (.ifCond .ne 7, 3) := by decide +kernel
theorem dX4_unlink_30 : decode cX4_unlink 30 = .ok (.iconst 1, 1) := by decide +kernel
theorem dX4_unlink_31 : decode cX4_unlink 31 = .ok (.goto 4, 3) := by decide +kernel
theorem dX4_unlink_34 : decode cX4_unlink 34 = .ok (.iconst 0, 1) := by decide +kernel
theorem dX4_unlink_35 : decode cX4_unlink 35 = .ok (.iload_n 3, 1) := by decide +kernel
theorem dX4_unlink_36 : decode cX4_unlink 36 = .ok (.ifCond .eq 21, 3) := by decide +kernel
theorem dX4_unlink_39 : decode cX4_unlink 39 = .ok (.aload_n 0, 1) := by decide +kernel
theorem dX4_unlink_40 : decode cX4_unlink 40 = .ok (.getfield 28, 3) := by decide +kernel
theorem dX4_unlink_43 : decode cX4_unlink 43 = .ok (.bipush 6, 2) := by decide +kernel
theorem dX4_unlink_45 : decode cX4_unlink 45 = .ok (.iload_n 1, 1) := by decide +kernel
theorem dX4_unlink_46 : decode cX4_unlink 46 = .ok (.imul, 1) := by decide +kernel
theorem dX4_unlink_47 : decode cX4_unlink 47 = .ok (.iload_n 2, 1) := by decide +kernel
theorem dX4_unlink_48 : decode cX4_unlink 48 = .ok (.iadd, 1) := by decide +kernel
theorem dX4_unlink_49 : decode cX4_unlink 49 = .ok (.baload, 1) := by decide +kernel
theorem dX4_unlink_50 : decode cX4_unlink 50 = .ok (.ifCond .ne 7, 3) := by decide +kernel
theorem dX4_unlink_53 : decode cX4_unlink 53 = .ok (.iconst 1, 1) := by decide +kernel
theorem dX4_unlink_54 : decode cX4_unlink 54 = .ok (.goto 4, 3) := by decide +kernel
theorem dX4_unlink_57 : decode cX4_unlink 57 = .ok (.iconst 0, 1) := by decide +kernel
theorem dX4_unlink_58 : decode cX4_unlink 58 = .ok (.invokevirtual 126, 3) := by decide +kernel
theorem dX4_unlink_61 : decode cX4_unlink 61 = .ok (.ifCond .eq 4, 3) := by decide +kernel
theorem dX4_unlink_64 : decode cX4_unlink 64 = .ok (.return_, 1) := by decide +kernel
theorem dX4_unlink_65 : decode cX4_unlink 65 = .ok (.aload_n 0, 1) := by decide +kernel
theorem dX4_unlink_66 : decode cX4_unlink 66 = .ok (.iload_n 1, 1) := by decide +kernel
theorem dX4_unlink_67 : decode cX4_unlink 67 = .ok (.iload_n 2, 1) := by decide +kernel
theorem dX4_unlink_68 : decode cX4_unlink 68 = .ok (.iconst 0, 1) := by decide +kernel
theorem dX4_unlink_69 : decode cX4_unlink 69 = .ok (.invokevirtual 137, 3) := by decide +kernel
theorem dX4_unlink_72 : decode cX4_unlink 72 = .ok (.return_, 1) := by decide +kernel
theorem dX4_issue_0 : decode cX4_issue 0 = .ok (.iload_n 1, 1) := by decide +kernel
theorem dX4_issue_1 : decode cX4_issue 1 = .ok (.invokestatic 114, 3) := by decide +kernel
theorem dX4_issue_4 : decode cX4_issue 4 = .ok (.ifCond .eq 26, 3) := by decide +kernel
theorem dX4_issue_7 : decode cX4_issue 7 = .ok (.iload_n 2, 1) := by decide +kernel
theorem dX4_issue_8 : decode cX4_issue 8 = .ok (.invokestatic 134, 3) := by decide +kernel
theorem dX4_issue_11 : decode cX4_issue 11 = .ok (.ifCond .eq 19, 3) := by decide +kernel
theorem dX4_issue_14 : decode cX4_issue 14 = .ok (.iload_n 3, 1) := by decide +kernel
theorem dX4_issue_15 : decode cX4_issue 15 = .ok (.i2l, 1) := by decide +kernel
theorem dX4_issue_16 : decode cX4_issue 16 = .ok (.lconst 1, 1) := by decide +kernel
theorem dX4_issue_17 : decode cX4_issue 17 = .ok (.ldc2_w 120, 3) := by decide +kernel
theorem dX4_issue_20 : decode cX4_issue 20 = .ok (.invokestatic 100, 3) := by decide +kernel
theorem dX4_issue_23 : decode cX4_issue 23 = .ok (.ifCond .eq 7, 3) := by decide +kernel
theorem dX4_issue_26 : decode cX4_issue 26 = .ok (.iconst 1, 1) := by decide +kernel
theorem dX4_issue_27 : decode cX4_issue 27 = .ok (.goto 4, 3) := by decide +kernel
theorem dX4_issue_30 : decode cX4_issue 30 = .ok (.iconst 0, 1) := by decide +kernel
theorem dX4_issue_31 : decode cX4_issue 31 = .ok (.istore 4, 2) := by decide +kernel
theorem dX4_issue_33 : decode cX4_issue 33 = .ok (.aload_n 0, 1) := by decide +kernel
theorem dX4_issue_34 : decode cX4_issue 34 = .ok (.iload 4, 2) := by decide +kernel
theorem dX4_issue_36 : decode cX4_issue 36 = .ok (.ifCond .ne 7, 3) := by decide +kernel
theorem dX4_issue_39 : decode cX4_issue 39 = .ok (.iconst 1, 1) := by decide +kernel
theorem dX4_issue_40 : decode cX4_issue 40 = .ok (.goto 4, 3) := by decide +kernel
theorem dX4_issue_43 : decode cX4_issue 43 = .ok (.iconst 0, 1) := by decide +kernel
theorem dX4_issue_44 : decode cX4_issue 44 = .ok (.aload_n 0, 1) := by decide +kernel
theorem dX4_issue_45 : decode cX4_issue 45 = .ok (.getfield 141, 3) := by decide +kernel
theorem dX4_issue_48 : decode cX4_issue 48 = .ok (.ifCond .le 7, 3) := by decide +kernel
theorem dX4_issue_51 : decode cX4_issue 51 = .ok (.iconst 1, 1) := by decide +kernel
theorem dX4_issue_52 : decode cX4_issue 52 = .ok (.goto 4, 3) := by decide +kernel
theorem dX4_issue_55 : decode cX4_issue 55 = .ok (.iconst 0, 1) := by decide +kernel
theorem dX4_issue_56 : decode cX4_issue 56 = .ok (.invokevirtual 126, 3) := by decide +kernel
theorem dX4_issue_59 : decode cX4_issue 59 = .ok (.ifCond .eq 5, 3) := by decide +kernel
theorem dX4_issue_62 : decode cX4_issue 62 = .ok (.iconst 0, 1) := by decide +kernel
theorem dX4_issue_63 : decode cX4_issue 63 = .ok (.ireturn, 1) := by decide +kernel
theorem dX4_issue_64 : decode cX4_issue 64 = .ok (.iload_n 3, 1) := by decide +kernel
theorem dX4_issue_65 : decode cX4_issue 65 = .ok (.istore 5, 2) := by decide +kernel
theorem dX4_issue_67 : decode cX4_issue 67 = .ok (.iconst 0, 1) := by decide +kernel
theorem dX4_issue_68 : decode cX4_issue 68 = .ok (.istore 6, 2) := by decide +kernel
theorem dX4_issue_70 : decode cX4_issue 70 = .ok (.iload 6, 2) := by decide +kernel
theorem dX4_issue_72 : decode cX4_issue 72 = .ok (.bipush 6, 2) := by decide +kernel
theorem dX4_issue_74 : decode cX4_issue 74 = .ok (.if_icmp .ge 26, 3) := by decide +kernel
theorem dX4_issue_77 : decode cX4_issue 77 = .ok (.iload 5, 2) := by decide +kernel
theorem dX4_issue_79 : decode cX4_issue 79 = .ok (.aload_n 0, 1) := by decide +kernel
theorem dX4_issue_80 : decode cX4_issue 80 = .ok (.getfield 22, 3) := by decide +kernel
theorem dX4_issue_83 : decode cX4_issue 83 = .ok (.bipush 6, 2) := by decide +kernel
theorem dX4_issue_85 : decode cX4_issue 85 = .ok (.iload_n 1, 1) := by decide +kernel
theorem dX4_issue_86 : decode cX4_issue 86 = .ok (.imul, 1) := by decide +kernel
theorem dX4_issue_87 : decode cX4_issue 87 = .ok (.iload 6, 2) := by decide +kernel
theorem dX4_issue_89 : decode cX4_issue 89 = .ok (.iadd, 1) := by decide +kernel
theorem dX4_issue_90 : decode cX4_issue 90 = .ok (.iaload, 1) := by decide +kernel
theorem dX4_issue_91 : decode cX4_issue 91 = .ok (.iadd, 1) := by decide +kernel
theorem dX4_issue_92 : decode cX4_issue 92 = .ok (.istore 5, 2) := by decide +kernel
theorem dX4_issue_94 : decode cX4_issue 94 = .ok (.iinc 6 1, 3) := by decide +kernel
theorem dX4_issue_97 : decode cX4_issue 97 = .ok (.goto (-27), 3) := by decide +kernel
theorem dX4_issue_100 : decode cX4_issue 100 = .ok (.aload_n 0, 1) := by decide +kernel
theorem dX4_issue_101 : decode cX4_issue 101 = .ok (.getfield 22, 3) := by decide +kernel
theorem dX4_issue_104 : decode cX4_issue 104 = .ok (.bipush 6, 2) := by decide +kernel
theorem dX4_issue_106 : decode cX4_issue 106 = .ok (.iload_n 1, 1) := by decide +kernel
theorem dX4_issue_107 : decode cX4_issue 107 = .ok (.imul, 1) := by decide +kernel
theorem dX4_issue_108 : decode cX4_issue 108 = .ok (.iload_n 2, 1) := by decide +kernel
theorem dX4_issue_109 : decode cX4_issue 109 = .ok (.iadd, 1) := by decide +kernel
theorem dX4_issue_110 : decode cX4_issue 110 = .ok (.aload_n 0, 1) := by decide +kernel
theorem dX4_issue_111 : decode cX4_issue 111 = .ok (.getfield 22, 3) := by decide +kernel
theorem dX4_issue_114 : decode cX4_issue 114 = .ok (.bipush 6, 2) := by decide +kernel
theorem dX4_issue_116 : decode cX4_issue 116 = .ok (.iload_n 1, 1) := by decide +kernel
theorem dX4_issue_117 : decode cX4_issue 117 = .ok (.imul, 1) := by decide +kernel
theorem dX4_issue_118 : decode cX4_issue 118 = .ok (.iload_n 2, 1) := by decide +kernel
theorem dX4_issue_119 : decode cX4_issue 119 = .ok (.iadd, 1) := by decide +kernel
theorem dX4_issue_120 : decode cX4_issue 120 = .ok (.iaload, 1) := by decide +kernel
theorem dX4_issue_121 : decode cX4_issue 121 = .ok (.iload_n 3, 1) := by decide +kernel
theorem dX4_issue_122 : decode cX4_issue 122 = .ok (.iadd, 1) := by decide +kernel
theorem dX4_issue_123 : decode cX4_issue 123 = .ok (.iastore, 1) := by decide +kernel
theorem dX4_issue_124 : decode cX4_issue 124 = .ok (.aload_n 0, 1) := by decide +kernel
theorem dX4_issue_125 : decode cX4_issue 125 = .ok (.iconst 0, 1) := by decide +kernel
theorem dX4_issue_126 : decode cX4_issue 126 = .ok (.iload 5, 2) := by decide +kernel
theorem dX4_issue_128 : decode cX4_issue 128 = .ok (.ldc 93, 2) := by decide +kernel
theorem dX4_issue_130 : decode cX4_issue 130 = .ok (.if_icmp .gt 17, 3) := by decide +kernel
theorem dX4_issue_133 : decode cX4_issue 133 = .ok (.aload_n 0, 1) := by decide +kernel
theorem dX4_issue_134 : decode cX4_issue 134 = .ok (.iload_n 1, 1) := by decide +kernel
theorem dX4_issue_135 : decode cX4_issue 135 = .ok (.aload_n 0, 1) := by decide +kernel
theorem dX4_issue_136 : decode cX4_issue 136 = .ok (.getfield 13, 3) := by decide +kernel
theorem dX4_issue_139 : decode cX4_issue 139 = .ok (.iload_n 1, 1) := by decide +kernel
theorem dX4_issue_140 : decode cX4_issue 140 = .ok (.iaload, 1) := by decide +kernel
theorem dX4_issue_141 : decode cX4_issue 141 = .ok (.invokevirtual 122, 3) := by decide +kernel
theorem dX4_issue_144 : decode cX4_issue 144 = .ok (.ifCond .ne 7, 3) := by decide +kernel
theorem dX4_issue_147 : decode cX4_issue 147 = .ok (.iconst 1, 1) := by decide +kernel
theorem dX4_issue_148 : decode cX4_issue 148 = .ok (.goto 4, 3) := by decide +kernel
theorem dX4_issue_151 : decode cX4_issue 151 = .ok (.iconst 0, 1) := by decide +kernel
theorem dX4_issue_152 : decode cX4_issue 152 = .ok (.invokevirtual 126, 3) := by decide +kernel
theorem dX4_issue_155 : decode cX4_issue 155 = .ok (.ifCond .eq 29, 3) := by decide +kernel
theorem dX4_issue_158 : decode cX4_issue 158 = .ok (.aload_n 0, 1) := by decide +kernel
theorem dX4_issue_159 : decode cX4_issue 159 = .ok (.getfield 22, 3) := by decide +kernel
theorem dX4_issue_162 : decode cX4_issue 162 = .ok (.bipush 6, 2) := by decide +kernel
theorem dX4_issue_164 : decode cX4_issue 164 = .ok (.iload_n 1, 1) := by decide +kernel
theorem dX4_issue_165 : decode cX4_issue 165 = .ok (.imul, 1) := by decide +kernel
theorem dX4_issue_166 : decode cX4_issue 166 = .ok (.iload_n 2, 1) := by decide +kernel
theorem dX4_issue_167 : decode cX4_issue 167 = .ok (.iadd, 1) := by decide +kernel
theorem dX4_issue_168 : decode cX4_issue 168 = .ok (.aload_n 0, 1) := by decide +kernel
theorem dX4_issue_169 : decode cX4_issue 169 = .ok (.getfield 22, 3) := by decide +kernel
theorem dX4_issue_172 : decode cX4_issue 172 = .ok (.bipush 6, 2) := by decide +kernel
theorem dX4_issue_174 : decode cX4_issue 174 = .ok (.iload_n 1, 1) := by decide +kernel
theorem dX4_issue_175 : decode cX4_issue 175 = .ok (.imul, 1) := by decide +kernel
theorem dX4_issue_176 : decode cX4_issue 176 = .ok (.iload_n 2, 1) := by decide +kernel
theorem dX4_issue_177 : decode cX4_issue 177 = .ok (.iadd, 1) := by decide +kernel
theorem dX4_issue_178 : decode cX4_issue 178 = .ok (.iaload, 1) := by decide +kernel
theorem dX4_issue_179 : decode cX4_issue 179 = .ok (.iload_n 3, 1) := by decide +kernel
