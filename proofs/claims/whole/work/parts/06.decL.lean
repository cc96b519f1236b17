theorem d_L_act_0 : decode b_L_act 0 = .ok (.aload_n 2, 1) := by decide +kernel
theorem d_L_act_1 : decode b_L_act 1 = .ok (.iconst 0, 1) := by decide +kernel
theorem d_L_act_2 : decode b_L_act 2 = .ok (.aload_n 0, 1) := by decide +kernel
theorem d_L_act_3 : decode b_L_act 3 = .ok (.iload_n 1, 1) := by decide +kernel
theorem d_L_act_4 : decode b_L_act 4 = .ok (.invokevirtual 54, 3) := by decide +kernel
theorem d_L_act_7 : decode b_L_act 7 = .ok (.i2l, 1) := by decide +kernel
theorem d_L_act_8 : decode b_L_act 8 = .ok (.lastore, 1) := by decide +kernel
theorem d_L_act_9 : decode b_L_act 9 = .ok (.goto 9, 3) := by decide +kernel
theorem d_L_act_12 : decode b_L_act 12 = .ok (.astore_n 3, 1) := by decide +kernel
theorem d_L_act_13 : decode b_L_act 13 = .ok (.iconst 1, 1) := by decide +kernel
theorem d_L_act_14 : decode b_L_act 14 = .ok (.ireturn, 1) := by decide +kernel
theorem d_L_act_15 : decode b_L_act 15 = .ok (.astore_n 3, 1) := by decide +kernel
theorem d_L_act_16 : decode b_L_act 16 = .ok (.iconst 2, 1) := by decide +kernel
theorem d_L_act_17 : decode b_L_act 17 = .ok (.ireturn, 1) := by decide +kernel
theorem d_L_act_18 : decode b_L_act 18 = .ok (.iconst 0, 1) := by decide +kernel
theorem d_L_act_19 : decode b_L_act 19 = .ok (.ireturn, 1) := by decide +kernel
theorem d_L_allowed_0 : decode b_L_allowed 0 = .ok (.aload_n 1, 1) := by decide +kernel
theorem d_L_allowed_1 : decode b_L_allowed 1 = .ok (.iconst 0, 1) := by decide +kernel
theorem d_L_allowed_2 : decode b_L_allowed 2 = .ok (.aload_n 0, 1) := by decide +kernel
theorem d_L_allowed_3 : decode b_L_allowed 3 = .ok (.invokevirtual 63, 3) := by decide +kernel
theorem d_L_allowed_6 : decode b_L_allowed 6 = .ok (.i2l, 1) := by decide +kernel
theorem d_L_allowed_7 : decode b_L_allowed 7 = .ok (.lastore, 1) := by decide +kernel
theorem d_L_allowed_8 : decode b_L_allowed 8 = .ok (.goto 6, 3) := by decide +kernel
theorem d_L_allowed_11 : decode b_L_allowed 11 = .ok (.astore_n 2, 1) := by decide +kernel
theorem d_L_allowed_12 : decode b_L_allowed 12 = .ok (.iconst 1, 1) := by decide +kernel
theorem d_L_allowed_13 : decode b_L_allowed 13 = .ok (.ireturn, 1) := by decide +kernel
theorem d_L_allowed_14 : decode b_L_allowed 14 = .ok (.iconst 0, 1) := by decide +kernel
theorem d_L_allowed_15 : decode b_L_allowed 15 = .ok (.ireturn, 1) := by decide +kernel
theorem d_L_automaton_0 : decode b_L_automaton 0 = .ok (.aload_n 3, 1) := by decide +kernel
theorem d_L_automaton_1 : decode b_L_automaton 1 = .ok (.iconst 0, 1) := by decide +kernel
theorem d_L_automaton_2 : decode b_L_automaton 2 = .ok (.aload_n 0, 1) := by decide +kernel
theorem d_L_automaton_3 : decode b_L_automaton 3 = .ok (.iload_n 1, 1) := by decide +kernel
theorem d_L_automaton_4 : decode b_L_automaton 4 = .ok (.iload_n 2, 1) := by decide +kernel
theorem d_L_automaton_5 : decode b_L_automaton 5 = .ok (.invokevirtual 7, 3) := by decide +kernel
theorem d_L_automaton_8 : decode b_L_automaton 8 = .ok (.i2l, 1) := by decide +kernel
theorem d_L_automaton_9 : decode b_L_automaton 9 = .ok (.lastore, 1) := by decide +kernel
theorem d_L_automaton_10 : decode b_L_automaton 10 = .ok (.goto 11, 3) := by decide +kernel
theorem d_L_automaton_13 : decode b_L_automaton 13 = .ok (.astore 4, 2) := by decide +kernel
theorem d_L_automaton_15 : decode b_L_automaton 15 = .ok (.iconst 1, 1) := by decide +kernel
theorem d_L_automaton_16 : decode b_L_automaton 16 = .ok (.ireturn, 1) := by decide +kernel
theorem d_L_automaton_17 : decode b_L_automaton 17 = .ok (.astore 4, 2) := by decide +kernel
theorem d_L_automaton_19 : decode b_L_automaton 19 = .ok (.iconst 2, 1) := by decide +kernel
theorem d_L_automaton_20 : decode b_L_automaton 20 = .ok (.ireturn, 1) := by decide +kernel
theorem d_L_automaton_21 : decode b_L_automaton 21 = .ok (.iconst 0, 1) := by decide +kernel
theorem d_L_automaton_22 : decode b_L_automaton 22 = .ok (.ireturn, 1) := by decide +kernel
theorem d_L_conflict_0 : decode b_L_conflict 0 = .ok (.aload_n 3, 1) := by decide +kernel
theorem d_L_conflict_1 : decode b_L_conflict 1 = .ok (.iconst 0, 1) := by decide +kernel
theorem d_L_conflict_2 : decode b_L_conflict 2 = .ok (.aload_n 0, 1) := by decide +kernel
theorem d_L_conflict_3 : decode b_L_conflict 3 = .ok (.iload_n 1, 1) := by decide +kernel
theorem d_L_conflict_4 : decode b_L_conflict 4 = .ok (.iload_n 2, 1) := by decide +kernel
theorem d_L_conflict_5 : decode b_L_conflict 5 = .ok (.invokevirtual 51, 3) := by decide +kernel
theorem d_L_conflict_8 : decode b_L_conflict 8 = .ok (.i2l, 1) := by decide +kernel
theorem d_L_conflict_9 : decode b_L_conflict 9 = .ok (.lastore, 1) := by decide +kernel
theorem d_L_conflict_10 : decode b_L_conflict 10 = .ok (.goto 7, 3) := by decide +kernel
theorem d_L_conflict_13 : decode b_L_conflict 13 = .ok (.astore 4, 2) := by decide +kernel
theorem d_L_conflict_15 : decode b_L_conflict 15 = .ok (.iconst 1, 1) := by decide +kernel
theorem d_L_conflict_16 : decode b_L_conflict 16 = .ok (.ireturn, 1) := by decide +kernel
theorem d_L_conflict_17 : decode b_L_conflict 17 = .ok (.iconst 0, 1) := by decide +kernel
theorem d_L_conflict_18 : decode b_L_conflict 18 = .ok (.ireturn, 1) := by decide +kernel
theorem d_L_edge_0 : decode b_L_edge 0 = .ok (.aload_n 0, 1) := by decide +kernel
theorem d_L_edge_1 : decode b_L_edge 1 = .ok (.iload_n 1, 1) := by decide +kernel
theorem d_L_edge_2 : decode b_L_edge 2 = .ok (.iload_n 2, 1) := by decide +kernel
theorem d_L_edge_3 : decode b_L_edge 3 = .ok (.iload_n 3, 1) := by decide +kernel
theorem d_L_edge_4 : decode b_L_edge 4 = .ok (.iload 4, 2) := by decide +kernel
theorem d_L_edge_6 : decode b_L_edge 6 = .ok (.invokevirtual 21, 3) := by decide +kernel
theorem d_L_edge_9 : decode b_L_edge 9 = .ok (.goto 11, 3) := by decide +kernel
theorem d_L_edge_12 : decode b_L_edge 12 = .ok (.astore 5, 2) := by decide +kernel
theorem d_L_edge_14 : decode b_L_edge 14 = .ok (.iconst 1, 1) := by decide +kernel
theorem d_L_edge_15 : decode b_L_edge 15 = .ok (.ireturn, 1) := by decide +kernel
theorem d_L_edge_16 : decode b_L_edge 16 = .ok (.astore 5, 2) := by decide +kernel
theorem d_L_edge_18 : decode b_L_edge 18 = .ok (.iconst 2, 1) := by decide +kernel
theorem d_L_edge_19 : decode b_L_edge 19 = .ok (.ireturn, 1) := by decide +kernel
theorem d_L_edge_20 : decode b_L_edge 20 = .ok (.iconst 0, 1) := by decide +kernel
theorem d_L_edge_21 : decode b_L_edge 21 = .ok (.ireturn, 1) := by decide +kernel
theorem d_L_event_0 : decode b_L_event 0 = .ok (.aload_n 3, 1) := by decide +kernel
theorem d_L_event_1 : decode b_L_event 1 = .ok (.iconst 0, 1) := by decide +kernel
theorem d_L_event_2 : decode b_L_event 2 = .ok (.aload_n 0, 1) := by decide +kernel
theorem d_L_event_3 : decode b_L_event 3 = .ok (.iload_n 1, 1) := by decide +kernel
theorem d_L_event_4 : decode b_L_event 4 = .ok (.iload_n 2, 1) := by decide +kernel
theorem d_L_event_5 : decode b_L_event 5 = .ok (.invokevirtual 17, 3) := by decide +kernel
theorem d_L_event_8 : decode b_L_event 8 = .ok (.ifCond .eq 7, 3) := by decide +kernel
theorem d_L_event_11 : decode b_L_event 11 = .ok (.lconst 1, 1) := by decide +kernel
theorem d_L_event_12 : decode b_L_event 12 = .ok (.goto 4, 3) := by decide +kernel
theorem d_L_event_15 : decode b_L_event 15 = .ok (.lconst 0, 1) := by decide +kernel
theorem d_L_event_16 : decode b_L_event 16 = .ok (.lastore, 1) := by decide +kernel
theorem d_L_event_17 : decode b_L_event 17 = .ok (.goto 11, 3) := by decide +kernel
theorem d_L_event_20 : decode b_L_event 20 = .ok (.astore 4, 2) := by decide +kernel
theorem d_L_event_22 : decode b_L_event 22 = .ok (.iconst 1, 1) := by decide +kernel
theorem d_L_event_23 : decode b_L_event 23 = .ok (.ireturn, 1) := by decide +kernel
theorem d_L_event_24 : decode b_L_event 24 = .ok (.astore 4, 2) := by decide +kernel
theorem d_L_event_26 : decode b_L_event 26 = .ok (.iconst 2, 1) := by decide +kernel
theorem d_L_event_27 : decode b_L_event 27 = .ok (.ireturn, 1) := by decide +kernel
theorem d_L_event_28 : decode b_L_event 28 = .ok (.iconst 0, 1) := by decide +kernel
theorem d_L_event_29 : decode b_L_event 29 = .ok (.ireturn, 1) := by decide +kernel
theorem d_L_here_0 : decode b_L_here 0 = .ok (.aload_n 1, 1) := by decide +kernel
theorem d_L_here_1 : decode b_L_here 1 = .ok (.iconst 0, 1) := by decide +kernel
theorem d_L_here_2 : decode b_L_here 2 = .ok (.aload_n 0, 1) := by decide +kernel
theorem d_L_here_3 : decode b_L_here 3 = .ok (.invokevirtual 60, 3) := by decide +kernel
theorem d_L_here_6 : decode b_L_here 6 = .ok (.i2l, 1) := by decide +kernel
theorem d_L_here_7 : decode b_L_here 7 = .ok (.lastore, 1) := by decide +kernel
theorem d_L_here_8 : decode b_L_here 8 = .ok (.goto 6, 3) := by decide +kernel
theorem d_L_here_11 : decode b_L_here 11 = .ok (.astore_n 2, 1) := by decide +kernel
theorem d_L_here_12 : decode b_L_here 12 = .ok (.iconst 1, 1) := by decide +kernel
theorem d_L_here_13 : decode b_L_here 13 = .ok (.ireturn, 1) := by decide +kernel
theorem d_L_here_14 : decode b_L_here 14 = .ok (.iconst 0, 1) := by decide +kernel
theorem d_L_here_15 : decode b_L_here 15 = .ok (.ireturn, 1) := by decide +kernel
theorem d_L_home_0 : decode b_L_home 0 = .ok (.aload_n 1, 1) := by decide +kernel
theorem d_L_home_1 : decode b_L_home 1 = .ok (.iconst 0, 1) := by decide +kernel
theorem d_L_home_2 : decode b_L_home 2 = .ok (.aload_n 0, 1) := by decide +kernel
theorem d_L_home_3 : decode b_L_home 3 = .ok (.invokevirtual 66, 3) := by decide +kernel
theorem d_L_home_6 : decode b_L_home 6 = .ok (.i2l, 1) := by decide +kernel
theorem d_L_home_7 : decode b_L_home 7 = .ok (.lastore, 1) := by decide +kernel
theorem d_L_home_8 : decode b_L_home 8 = .ok (.goto 6, 3) := by decide +kernel
theorem d_L_home_11 : decode b_L_home 11 = .ok (.astore_n 2, 1) := by decide +kernel
theorem d_L_home_12 : decode b_L_home 12 = .ok (.iconst 1, 1) := by decide +kernel
theorem d_L_home_13 : decode b_L_home 13 = .ok (.ireturn, 1) := by decide +kernel
theorem d_L_home_14 : decode b_L_home 14 = .ok (.iconst 0, 1) := by decide +kernel
theorem d_L_home_15 : decode b_L_home 15 = .ok (.ireturn, 1) := by decide +kernel
theorem d_L_leads_0 : decode b_L_leads 0 = .ok (.aload_n 3, 1) := by decide +kernel
theorem d_L_leads_1 : decode b_L_leads 1 = .ok (.iconst 0, 1) := by decide +kernel
theorem d_L_leads_2 : decode b_L_leads 2 = .ok (.aload_n 0, 1) := by decide +kernel
theorem d_L_leads_3 : decode b_L_leads 3 = .ok (.iload_n 1, 1) := by decide +kernel
theorem d_L_leads_4 : decode b_L_leads 4 = .ok (.iload_n 2, 1) := by decide +kernel
theorem d_L_leads_5 : decode b_L_leads 5 = .ok (.invokevirtual 32, 3) := by decide +kernel
theorem d_L_leads_8 : decode b_L_leads 8 = .ok (.i2l, 1) := by decide +kernel
theorem d_L_leads_9 : decode b_L_leads 9 = .ok (.lastore, 1) := by decide +kernel
theorem d_L_leads_10 : decode b_L_leads 10 = .ok (.goto 11, 3) := by decide +kernel
theorem d_L_leads_13 : decode b_L_leads 13 = .ok (.astore 4, 2) := by decide +kernel
theorem d_L_leads_15 : decode b_L_leads 15 = .ok (.iconst 1, 1) := by decide +kernel
theorem d_L_leads_16 : decode b_L_leads 16 = .ok (.ireturn, 1) := by decide +kernel
theorem d_L_leads_17 : decode b_L_leads 17 = .ok (.astore 4, 2) := by decide +kernel
theorem d_L_leads_19 : decode b_L_leads 19 = .ok (.iconst 2, 1) := by decide +kernel
theorem d_L_leads_20 : decode b_L_leads 20 = .ok (.ireturn, 1) := by decide +kernel
theorem d_L_leads_21 : decode b_L_leads 21 = .ok (.iconst 0, 1) := by decide +kernel
theorem d_L_leads_22 : decode b_L_leads 22 = .ok (.ireturn, 1) := by decide +kernel
theorem d_L_many_0 : decode b_L_many 0 = .ok (.aload_n 2, 1) := by decide +kernel
theorem d_L_many_1 : decode b_L_many 1 = .ok (.iconst 0, 1) := by decide +kernel
theorem d_L_many_2 : decode b_L_many 2 = .ok (.aload_n 0, 1) := by decide +kernel
theorem d_L_many_3 : decode b_L_many 3 = .ok (.iload_n 1, 1) := by decide +kernel
theorem d_L_many_4 : decode b_L_many 4 = .ok (.invokevirtual 38, 3) := by decide +kernel
theorem d_L_many_7 : decode b_L_many 7 = .ok (.i2l, 1) := by decide +kernel
theorem d_L_many_8 : decode b_L_many 8 = .ok (.lastore, 1) := by decide +kernel
theorem d_L_many_9 : decode b_L_many 9 = .ok (.goto 9, 3) := by decide +kernel
theorem d_L_many_12 : decode b_L_many 12 = .ok (.astore_n 3, 1) := by decide +kernel
theorem d_L_many_13 : decode b_L_many 13 = .ok (.iconst 1, 1) := by decide +kernel
theorem d_L_many_14 : decode b_L_many 14 = .ok (.ireturn, 1) := by decide +kernel
theorem d_L_many_15 : decode b_L_many 15 = .ok (.astore_n 3, 1) := by decide +kernel
theorem d_L_many_16 : decode b_L_many 16 = .ok (.iconst 2, 1) := by decide +kernel
theorem d_L_many_17 : decode b_L_many 17 = .ok (.ireturn, 1) := by decide +kernel
theorem d_L_many_18 : decode b_L_many 18 = .ok (.iconst 0, 1) := by decide +kernel
theorem d_L_many_19 : decode b_L_many 19 = .ok (.ireturn, 1) := by decide +kernel
theorem d_L_part_0 : decode b_L_part 0 = .ok (.aload_n 3, 1) := by decide +kernel
theorem d_L_part_1 : decode b_L_part 1 = .ok (.iconst 0, 1) := by decide +kernel
theorem d_L_part_2 : decode b_L_part 2 = .ok (.aload_n 0, 1) := by decide +kernel
theorem d_L_part_3 : decode b_L_part 3 = .ok (.iload_n 1, 1) := by decide +kernel
theorem d_L_part_4 : decode b_L_part 4 = .ok (.iload_n 2, 1) := by decide +kernel
theorem d_L_part_5 : decode b_L_part 5 = .ok (.invokevirtual 35, 3) := by decide +kernel
theorem d_L_part_8 : decode b_L_part 8 = .ok (.i2l, 1) := by decide +kernel
theorem d_L_part_9 : decode b_L_part 9 = .ok (.lastore, 1) := by decide +kernel
theorem d_L_part_10 : decode b_L_part 10 = .ok (.goto 11, 3) := by decide +kernel
theorem d_L_part_13 : decode b_L_part 13 = .ok (.astore 4, 2) := by decide +kernel
theorem d_L_part_15 : decode b_L_part 15 = .ok (.iconst 1, 1) := by decide +kernel
theorem d_L_part_16 : decode b_L_part 16 = .ok (.ireturn, 1) := by decide +kernel
theorem d_L_part_17 : decode b_L_part 17 = .ok (.astore 4, 2) := by decide +kernel
theorem d_L_part_19 : decode b_L_part 19 = .ok (.iconst 2, 1) := by decide +kernel
theorem d_L_part_20 : decode b_L_part 20 = .ok (.ireturn, 1) := by decide +kernel
theorem d_L_part_21 : decode b_L_part 21 = .ok (.iconst 0, 1) := by decide +kernel
theorem d_L_part_22 : decode b_L_part 22 = .ok (.ireturn, 1) := by decide +kernel
theorem d_L_reset_0 : decode b_L_reset 0 = .ok (.aload_n 0, 1) := by decide +kernel
theorem d_L_reset_1 : decode b_L_reset 1 = .ok (.invokevirtual 57, 3) := by decide +kernel
theorem d_L_reset_4 : decode b_L_reset 4 = .ok (.goto 6, 3) := by decide +kernel
theorem d_L_reset_7 : decode b_L_reset 7 = .ok (.astore_n 1, 1) := by decide +kernel
theorem d_L_reset_8 : decode b_L_reset 8 = .ok (.iconst 1, 1) := by decide +kernel
theorem d_L_reset_9 : decode b_L_reset 9 = .ok (.ireturn, 1) := by decide +kernel
theorem d_L_reset_10 : decode b_L_reset 10 = .ok (.iconst 0, 1) := by decide +kernel
theorem d_L_reset_11 : decode b_L_reset 11 = .ok (.ireturn, 1) := by decide +kernel
theorem d_L_says_0 : decode b_L_says 0 = .ok (.aload_n 3, 1) := by decide +kernel
theorem d_L_says_1 : decode b_L_says 1 = .ok (.iconst 0, 1) := by decide +kernel
theorem d_L_says_2 : decode b_L_says 2 = .ok (.aload_n 0, 1) := by decide +kernel
theorem d_L_says_3 : decode b_L_says 3 = .ok (.iload_n 1, 1) := by decide +kernel
theorem d_L_says_4 : decode b_L_says 4 = .ok (.iload_n 2, 1) := by decide +kernel
theorem d_L_says_5 : decode b_L_says 5 = .ok (.invokevirtual 29, 3) := by decide +kernel
theorem d_L_says_8 : decode b_L_says 8 = .ok (.i2l, 1) := by decide +kernel
theorem d_L_says_9 : decode b_L_says 9 = .ok (.lastore, 1) := by decide +kernel
theorem d_L_says_10 : decode b_L_says 10 = .ok (.goto 11, 3) := by decide +kernel
theorem d_L_says_13 : decode b_L_says 13 = .ok (.astore 4, 2) := by decide +kernel
theorem d_L_says_15 : decode b_L_says 15 = .ok (.iconst 1, 1) := by decide +kernel
theorem d_L_says_16 : decode b_L_says 16 = .ok (.ireturn, 1) := by decide +kernel
theorem d_L_says_17 : decode b_L_says 17 = .ok (.astore 4, 2) := by decide +kernel
theorem d_L_says_19 : decode b_L_says 19 = .ok (.iconst 2, 1) := by decide +kernel
theorem d_L_says_20 : decode b_L_says 20 = .ok (.ireturn, 1) := by decide +kernel
theorem d_L_says_21 : decode b_L_says 21 = .ok (.iconst 0, 1) := by decide +kernel
theorem d_L_says_22 : decode b_L_says 22 = .ok (.ireturn, 1) := by decide +kernel
theorem d_L_tell_0 : decode b_L_tell 0 = .ok (.aload_n 0, 1) := by decide +kernel
theorem d_L_tell_1 : decode b_L_tell 1 = .ok (.iload_n 1, 1) := by decide +kernel
theorem d_L_tell_2 : decode b_L_tell 2 = .ok (.iload_n 2, 1) := by decide +kernel
theorem d_L_tell_3 : decode b_L_tell 3 = .ok (.iload_n 3, 1) := by decide +kernel
theorem d_L_tell_4 : decode b_L_tell 4 = .ok (.iload 4, 2) := by decide +kernel
theorem d_L_tell_6 : decode b_L_tell 6 = .ok (.invokevirtual 25, 3) := by decide +kernel
theorem d_L_tell_9 : decode b_L_tell 9 = .ok (.goto 7, 3) := by decide +kernel
theorem d_L_tell_12 : decode b_L_tell 12 = .ok (.astore 5, 2) := by decide +kernel
theorem d_L_tell_14 : decode b_L_tell 14 = .ok (.iconst 1, 1) := by decide +kernel
theorem d_L_tell_15 : decode b_L_tell 15 = .ok (.ireturn, 1) := by decide +kernel
theorem d_L_tell_16 : decode b_L_tell 16 = .ok (.iconst 0, 1) := by decide +kernel
theorem d_L_tell_17 : decode b_L_tell 17 = .ok (.ireturn, 1) := by decide +kernel
theorem d_L_why_0 : decode b_L_why 0 = .ok (.aload_n 1, 1) := by decide +kernel
theorem d_L_why_1 : decode b_L_why 1 = .ok (.iconst 0, 1) := by decide +kernel
theorem d_L_why_2 : decode b_L_why 2 = .ok (.aload_n 0, 1) := by decide +kernel
theorem d_L_why_3 : decode b_L_why 3 = .ok (.invokevirtual 42, 3) := by decide +kernel
theorem d_L_why_6 : decode b_L_why 6 = .ok (.i2l, 1) := by decide +kernel
theorem d_L_why_7 : decode b_L_why 7 = .ok (.lastore, 1) := by decide +kernel
theorem d_L_why_8 : decode b_L_why 8 = .ok (.goto 6, 3) := by decide +kernel
theorem d_L_why_11 : decode b_L_why 11 = .ok (.astore_n 2, 1) := by decide +kernel
theorem d_L_why_12 : decode b_L_why 12 = .ok (.iconst 1, 1) := by decide +kernel
theorem d_L_why_13 : decode b_L_why 13 = .ok (.ireturn, 1) := by decide +kernel
theorem d_L_why_14 : decode b_L_why 14 = .ok (.iconst 0, 1) := by decide +kernel
theorem d_L_why_15 : decode b_L_why 15 = .ok (.ireturn, 1) := by decide +kernel
theorem d_L_whyEvent_0 : decode b_L_whyEvent 0 = .ok (.aload_n 2, 1) := by decide +kernel
theorem d_L_whyEvent_1 : decode b_L_whyEvent 1 = .ok (.iconst 0, 1) := by decide +kernel
theorem d_L_whyEvent_2 : decode b_L_whyEvent 2 = .ok (.aload_n 0, 1) := by decide +kernel
theorem d_L_whyEvent_3 : decode b_L_whyEvent 3 = .ok (.iload_n 1, 1) := by decide +kernel
theorem d_L_whyEvent_4 : decode b_L_whyEvent 4 = .ok (.invokevirtual 46, 3) := by decide +kernel
theorem d_L_whyEvent_7 : decode b_L_whyEvent 7 = .ok (.i2l, 1) := by decide +kernel
theorem d_L_whyEvent_8 : decode b_L_whyEvent 8 = .ok (.lastore, 1) := by decide +kernel
theorem d_L_whyEvent_9 : decode b_L_whyEvent 9 = .ok (.goto 9, 3) := by decide +kernel
theorem d_L_whyEvent_12 : decode b_L_whyEvent 12 = .ok (.astore_n 3, 1) := by decide +kernel
theorem d_L_whyEvent_13 : decode b_L_whyEvent 13 = .ok (.iconst 1, 1) := by decide +kernel
theorem d_L_whyEvent_14 : decode b_L_whyEvent 14 = .ok (.ireturn, 1) := by decide +kernel
theorem d_L_whyEvent_15 : decode b_L_whyEvent 15 = .ok (.astore_n 3, 1) := by decide +kernel
theorem d_L_whyEvent_16 : decode b_L_whyEvent 16 = .ok (.iconst 2, 1) := by decide +kernel
theorem d_L_whyEvent_17 : decode b_L_whyEvent 17 = .ok (.ireturn, 1) := by decide +kernel
theorem d_L_whyEvent_18 : decode b_L_whyEvent 18 = .ok (.iconst 0, 1) := by decide +kernel
theorem d_L_whyEvent_19 : decode b_L_whyEvent 19 = .ok (.ireturn, 1) := by decide +kernel
