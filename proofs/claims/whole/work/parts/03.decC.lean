theorem d_C_act_0 : decode b_C_act 0 = .ok (.aload_n 0, 1) := by decide +kernel
theorem d_C_act_1 : decode b_C_act 1 = .ok (.invokevirtual 132, 3) := by decide +kernel
theorem d_C_act_4 : decode b_C_act 4 = .ok (.iload_n 1, 1) := by decide +kernel
theorem d_C_act_5 : decode b_C_act 5 = .ok (.invokestatic 68, 3) := by decide +kernel
theorem d_C_act_8 : decode b_C_act 8 = .ok (.aload_n 0, 1) := by decide +kernel
theorem d_C_act_9 : decode b_C_act 9 = .ok (.getfield 40, 3) := by decide +kernel
theorem d_C_act_12 : decode b_C_act 12 = .ok (.aload_n 0, 1) := by decide +kernel
theorem d_C_act_13 : decode b_C_act 13 = .ok (.getfield 118, 3) := by decide +kernel
theorem d_C_act_16 : decode b_C_act 16 = .ok (.iload_n 1, 1) := by decide +kernel
theorem d_C_act_17 : decode b_C_act 17 = .ok (.invokevirtual 126, 3) := by decide +kernel
theorem d_C_act_20 : decode b_C_act 20 = .ok (.istore_n 2, 1) := by decide +kernel
theorem d_C_act_21 : decode b_C_act 21 = .ok (.iload_n 2, 1) := by decide +kernel
theorem d_C_act_22 : decode b_C_act 22 = .ok (.ifCond .ne 21, 3) := by decide +kernel
theorem d_C_act_25 : decode b_C_act 25 = .ok (.aload_n 0, 1) := by decide +kernel
theorem d_C_act_26 : decode b_C_act 26 = .ok (.aload_n 0, 1) := by decide +kernel
theorem d_C_act_27 : decode b_C_act 27 = .ok (.getfield 40, 3) := by decide +kernel
theorem d_C_act_30 : decode b_C_act 30 = .ok (.aload_n 0, 1) := by decide +kernel
theorem d_C_act_31 : decode b_C_act 31 = .ok (.getfield 118, 3) := by decide +kernel
theorem d_C_act_34 : decode b_C_act 34 = .ok (.iload_n 1, 1) := by decide +kernel
theorem d_C_act_35 : decode b_C_act 35 = .ok (.invokevirtual 129, 3) := by decide +kernel
theorem d_C_act_38 : decode b_C_act 38 = .ok (.putfield 118, 3) := by decide +kernel
theorem d_C_act_41 : decode b_C_act 41 = .ok (.iconst 2, 1) := by decide +kernel
theorem d_C_act_42 : decode b_C_act 42 = .ok (.ireturn, 1) := by decide +kernel
theorem d_C_act_43 : decode b_C_act 43 = .ok (.iload_n 2, 1) := by decide +kernel
theorem d_C_act_44 : decode b_C_act 44 = .ok (.iconst 1, 1) := by decide +kernel
theorem d_C_act_45 : decode b_C_act 45 = .ok (.if_icmp .ne 7, 3) := by decide +kernel
theorem d_C_act_48 : decode b_C_act 48 = .ok (.iconst 1, 1) := by decide +kernel
theorem d_C_act_49 : decode b_C_act 49 = .ok (.goto 4, 3) := by decide +kernel
theorem d_C_act_52 : decode b_C_act 52 = .ok (.iconst 0, 1) := by decide +kernel
theorem d_C_act_53 : decode b_C_act 53 = .ok (.ireturn, 1) := by decide +kernel
theorem d_C_allowed_0 : decode b_C_allowed 0 = .ok (.aload_n 0, 1) := by decide +kernel
theorem d_C_allowed_1 : decode b_C_allowed 1 = .ok (.invokevirtual 132, 3) := by decide +kernel
theorem d_C_allowed_4 : decode b_C_allowed 4 = .ok (.iconst 0, 1) := by decide +kernel
theorem d_C_allowed_5 : decode b_C_allowed 5 = .ok (.istore_n 1, 1) := by decide +kernel
theorem d_C_allowed_6 : decode b_C_allowed 6 = .ok (.iconst 0, 1) := by decide +kernel
theorem d_C_allowed_7 : decode b_C_allowed 7 = .ok (.istore_n 2, 1) := by decide +kernel
theorem d_C_allowed_8 : decode b_C_allowed 8 = .ok (.iload_n 2, 1) := by decide +kernel
theorem d_C_allowed_9 : decode b_C_allowed 9 = .ok (.bipush 12, 2) := by decide +kernel
theorem d_C_allowed_11 : decode b_C_allowed 11 = .ok (.if_icmp .ge 30, 3) := by decide +kernel
theorem d_C_allowed_14 : decode b_C_allowed 14 = .ok (.aload_n 0, 1) := by decide +kernel
theorem d_C_allowed_15 : decode b_C_allowed 15 = .ok (.getfield 40, 3) := by decide +kernel
theorem d_C_allowed_18 : decode b_C_allowed 18 = .ok (.aload_n 0, 1) := by decide +kernel
theorem d_C_allowed_19 : decode b_C_allowed 19 = .ok (.getfield 118, 3) := by decide +kernel
theorem d_C_allowed_22 : decode b_C_allowed 22 = .ok (.iload_n 2, 1) := by decide +kernel
theorem d_C_allowed_23 : decode b_C_allowed 23 = .ok (.invokevirtual 126, 3) := by decide +kernel
theorem d_C_allowed_26 : decode b_C_allowed 26 = .ok (.ifCond .ne 9, 3) := by decide +kernel
theorem d_C_allowed_29 : decode b_C_allowed 29 = .ok (.iload_n 1, 1) := by decide +kernel
theorem d_C_allowed_30 : decode b_C_allowed 30 = .ok (.iconst 1, 1) := by decide +kernel
theorem d_C_allowed_31 : decode b_C_allowed 31 = .ok (.iload_n 2, 1) := by decide +kernel
theorem d_C_allowed_32 : decode b_C_allowed 32 = .ok (.ishl, 1) := by decide +kernel
theorem d_C_allowed_33 : decode b_C_allowed 33 = .ok (.ior, 1) := by decide +kernel
theorem d_C_allowed_34 : decode b_C_allowed 34 = .ok (.istore_n 1, 1) := by decide +kernel
theorem d_C_allowed_35 : decode b_C_allowed 35 = .ok (.iinc 2 1, 3) := by decide +kernel
theorem d_C_allowed_38 : decode b_C_allowed 38 = .ok (.goto (-30), 3) := by decide +kernel
theorem d_C_allowed_41 : decode b_C_allowed 41 = .ok (.iload_n 1, 1) := by decide +kernel
theorem d_C_allowed_42 : decode b_C_allowed 42 = .ok (.ireturn, 1) := by decide +kernel
theorem d_C_automaton_0 : decode b_C_automaton 0 = .ok (.iload_n 1, 1) := by decide +kernel
theorem d_C_automaton_1 : decode b_C_automaton 1 = .ok (.iconst 1, 1) := by decide +kernel
theorem d_C_automaton_2 : decode b_C_automaton 2 = .ok (.if_icmp .lt 18, 3) := by decide +kernel
theorem d_C_automaton_5 : decode b_C_automaton 5 = .ok (.iload_n 1, 1) := by decide +kernel
theorem d_C_automaton_6 : decode b_C_automaton 6 = .ok (.bipush 6, 2) := by decide +kernel
theorem d_C_automaton_8 : decode b_C_automaton 8 = .ok (.if_icmp .gt 12, 3) := by decide +kernel
theorem d_C_automaton_11 : decode b_C_automaton 11 = .ok (.iload_n 2, 1) := by decide +kernel
theorem d_C_automaton_12 : decode b_C_automaton 12 = .ok (.ifCond .eq 16, 3) := by decide +kernel
theorem d_C_automaton_15 : decode b_C_automaton 15 = .ok (.iload_n 2, 1) := by decide +kernel
theorem d_C_automaton_16 : decode b_C_automaton 16 = .ok (.iconst 1, 1) := by decide +kernel
theorem d_C_automaton_17 : decode b_C_automaton 17 = .ok (.if_icmp .eq 11, 3) := by decide +kernel
theorem d_C_automaton_20 : decode b_C_automaton 20 = .ok (.new 50, 3) := by decide +kernel
theorem d_C_automaton_23 : decode b_C_automaton 23 = .ok (.dup, 1) := by decide +kernel
theorem d_C_automaton_24 : decode b_C_automaton 24 = .ok (.invokespecial 52, 3) := by decide +kernel
theorem d_C_automaton_27 : decode b_C_automaton 27 = .ok (.athrow, 1) := by decide +kernel
theorem d_C_automaton_28 : decode b_C_automaton 28 = .ok (.aload_n 0, 1) := by decide +kernel
theorem d_C_automaton_29 : decode b_C_automaton 29 = .ok (.getfield 12, 3) := by decide +kernel
theorem d_C_automaton_32 : decode b_C_automaton 32 = .ok (.getfield 53, 3) := by decide +kernel
theorem d_C_automaton_35 : decode b_C_automaton 35 = .ok (.iconst 4, 1) := by decide +kernel
theorem d_C_automaton_36 : decode b_C_automaton 36 = .ok (.if_icmp .ne 11, 3) := by decide +kernel
theorem d_C_automaton_39 : decode b_C_automaton 39 = .ok (.new 57, 3) := by decide +kernel
theorem d_C_automaton_42 : decode b_C_automaton 42 = .ok (.dup, 1) := by decide +kernel
theorem d_C_automaton_43 : decode b_C_automaton 43 = .ok (.invokespecial 59, 3) := by decide +kernel
theorem d_C_automaton_46 : decode b_C_automaton 46 = .ok (.athrow, 1) := by decide +kernel
theorem d_C_automaton_47 : decode b_C_automaton 47 = .ok (.aload_n 0, 1) := by decide +kernel
theorem d_C_automaton_48 : decode b_C_automaton 48 = .ok (.iconst 0, 1) := by decide +kernel
theorem d_C_automaton_49 : decode b_C_automaton 49 = .ok (.putfield 60, 3) := by decide +kernel
theorem d_C_automaton_52 : decode b_C_automaton 52 = .ok (.aload_n 0, 1) := by decide +kernel
theorem d_C_automaton_53 : decode b_C_automaton 53 = .ok (.getfield 12, 3) := by decide +kernel
theorem d_C_automaton_56 : decode b_C_automaton 56 = .ok (.iload_n 1, 1) := by decide +kernel
theorem d_C_automaton_57 : decode b_C_automaton 57 = .ok (.iload_n 2, 1) := by decide +kernel
theorem d_C_automaton_58 : decode b_C_automaton 58 = .ok (.invokevirtual 64, 3) := by decide +kernel
theorem d_C_automaton_61 : decode b_C_automaton 61 = .ok (.ireturn, 1) := by decide +kernel
theorem d_C_clear_0 : decode b_C_clear 0 = .ok (.aload_n 0, 1) := by decide +kernel
theorem d_C_clear_1 : decode b_C_clear 1 = .ok (.iconst 0, 1) := by decide +kernel
theorem d_C_clear_2 : decode b_C_clear 2 = .ok (.putfield 60, 3) := by decide +kernel
theorem d_C_clear_5 : decode b_C_clear 5 = .ok (.aload_n 0, 1) := by decide +kernel
theorem d_C_clear_6 : decode b_C_clear 6 = .ok (.getfield 12, 3) := by decide +kernel
theorem d_C_clear_9 : decode b_C_clear 9 = .ok (.invokevirtual 104, 3) := by decide +kernel
theorem d_C_clear_12 : decode b_C_clear 12 = .ok (.return_, 1) := by decide +kernel
theorem d_C_conflict_0 : decode b_C_conflict 0 = .ok (.aload_n 0, 1) := by decide +kernel
theorem d_C_conflict_1 : decode b_C_conflict 1 = .ok (.getfield 12, 3) := by decide +kernel
theorem d_C_conflict_4 : decode b_C_conflict 4 = .ok (.iload_n 1, 1) := by decide +kernel
theorem d_C_conflict_5 : decode b_C_conflict 5 = .ok (.invokevirtual 166, 3) := by decide +kernel
theorem d_C_conflict_8 : decode b_C_conflict 8 = .ok (.ifCond .eq 14, 3) := by decide +kernel
theorem d_C_conflict_11 : decode b_C_conflict 11 = .ok (.aload_n 0, 1) := by decide +kernel
theorem d_C_conflict_12 : decode b_C_conflict 12 = .ok (.getfield 12, 3) := by decide +kernel
theorem d_C_conflict_15 : decode b_C_conflict 15 = .ok (.iload_n 2, 1) := by decide +kernel
theorem d_C_conflict_16 : decode b_C_conflict 16 = .ok (.invokevirtual 166, 3) := by decide +kernel
theorem d_C_conflict_19 : decode b_C_conflict 19 = .ok (.ifCond .ne 11, 3) := by decide +kernel
theorem d_C_conflict_22 : decode b_C_conflict 22 = .ok (.new 50, 3) := by decide +kernel
theorem d_C_conflict_25 : decode b_C_conflict 25 = .ok (.dup, 1) := by decide +kernel
theorem d_C_conflict_26 : decode b_C_conflict 26 = .ok (.invokespecial 52, 3) := by decide +kernel
theorem d_C_conflict_29 : decode b_C_conflict 29 = .ok (.athrow, 1) := by decide +kernel
theorem d_C_conflict_30 : decode b_C_conflict 30 = .ok (.aload_n 0, 1) := by decide +kernel
theorem d_C_conflict_31 : decode b_C_conflict 31 = .ok (.iload_n 1, 1) := by decide +kernel
theorem d_C_conflict_32 : decode b_C_conflict 32 = .ok (.aload_n 0, 1) := by decide +kernel
theorem d_C_conflict_33 : decode b_C_conflict 33 = .ok (.getfield 44, 3) := by decide +kernel
theorem d_C_conflict_36 : decode b_C_conflict 36 = .ok (.invokevirtual 169, 3) := by decide +kernel
theorem d_C_conflict_39 : decode b_C_conflict 39 = .ok (.ifCond .eq 15, 3) := by decide +kernel
theorem d_C_conflict_42 : decode b_C_conflict 42 = .ok (.aload_n 0, 1) := by decide +kernel
theorem d_C_conflict_43 : decode b_C_conflict 43 = .ok (.iload_n 2, 1) := by decide +kernel
theorem d_C_conflict_44 : decode b_C_conflict 44 = .ok (.aload_n 0, 1) := by decide +kernel
theorem d_C_conflict_45 : decode b_C_conflict 45 = .ok (.getfield 47, 3) := by decide +kernel
theorem d_C_conflict_48 : decode b_C_conflict 48 = .ok (.invokevirtual 169, 3) := by decide +kernel
theorem d_C_conflict_51 : decode b_C_conflict 51 = .ok (.ifCond .ne 5, 3) := by decide +kernel
theorem d_C_conflict_54 : decode b_C_conflict 54 = .ok (.iconst (-1), 1) := by decide +kernel
theorem d_C_conflict_55 : decode b_C_conflict 55 = .ok (.ireturn, 1) := by decide +kernel
theorem d_C_conflict_56 : decode b_C_conflict 56 = .ok (.aload_n 0, 1) := by decide +kernel
theorem d_C_conflict_57 : decode b_C_conflict 57 = .ok (.getfield 33, 3) := by decide +kernel
theorem d_C_conflict_60 : decode b_C_conflict 60 = .ok (.aload_n 0, 1) := by decide +kernel
theorem d_C_conflict_61 : decode b_C_conflict 61 = .ok (.getfield 44, 3) := by decide +kernel
theorem d_C_conflict_64 : decode b_C_conflict 64 = .ok (.aload_n 0, 1) := by decide +kernel
theorem d_C_conflict_65 : decode b_C_conflict 65 = .ok (.getfield 47, 3) := by decide +kernel
theorem d_C_conflict_68 : decode b_C_conflict 68 = .ok (.invokevirtual 172, 3) := by decide +kernel
theorem d_C_conflict_71 : decode b_C_conflict 71 = .ok (.ifCond .ne 5, 3) := by decide +kernel
theorem d_C_conflict_74 : decode b_C_conflict 74 = .ok (.iconst (-1), 1) := by decide +kernel
theorem d_C_conflict_75 : decode b_C_conflict 75 = .ok (.ireturn, 1) := by decide +kernel
theorem d_C_conflict_76 : decode b_C_conflict 76 = .ok (.aload_n 0, 1) := by decide +kernel
theorem d_C_conflict_77 : decode b_C_conflict 77 = .ok (.getfield 33, 3) := by decide +kernel
theorem d_C_conflict_80 : decode b_C_conflict 80 = .ok (.invokevirtual 176, 3) := by decide +kernel
theorem d_C_conflict_83 : decode b_C_conflict 83 = .ok (.ifCond .eq 7, 3) := by decide +kernel
theorem d_C_conflict_86 : decode b_C_conflict 86 = .ok (.iconst 1, 1) := by decide +kernel
theorem d_C_conflict_87 : decode b_C_conflict 87 = .ok (.goto 4, 3) := by decide +kernel
theorem d_C_conflict_90 : decode b_C_conflict 90 = .ok (.iconst 0, 1) := by decide +kernel
theorem d_C_conflict_91 : decode b_C_conflict 91 = .ok (.ireturn, 1) := by decide +kernel
theorem d_C_edge_0 : decode b_C_edge 0 = .ok (.aload_n 0, 1) := by decide +kernel
theorem d_C_edge_1 : decode b_C_edge 1 = .ok (.getfield 12, 3) := by decide +kernel
theorem d_C_edge_4 : decode b_C_edge 4 = .ok (.iload_n 1, 1) := by decide +kernel
theorem d_C_edge_5 : decode b_C_edge 5 = .ok (.iload_n 2, 1) := by decide +kernel
theorem d_C_edge_6 : decode b_C_edge 6 = .ok (.invokevirtual 83, 3) := by decide +kernel
theorem d_C_edge_9 : decode b_C_edge 9 = .ok (.ifCond .eq 16, 3) := by decide +kernel
theorem d_C_edge_12 : decode b_C_edge 12 = .ok (.aload_n 0, 1) := by decide +kernel
theorem d_C_edge_13 : decode b_C_edge 13 = .ok (.getfield 12, 3) := by decide +kernel
theorem d_C_edge_16 : decode b_C_edge 16 = .ok (.iload_n 1, 1) := by decide +kernel
theorem d_C_edge_17 : decode b_C_edge 17 = .ok (.iload 4, 2) := by decide +kernel
theorem d_C_edge_19 : decode b_C_edge 19 = .ok (.invokevirtual 83, 3) := by decide +kernel
theorem d_C_edge_22 : decode b_C_edge 22 = .ok (.ifCond .ne 11, 3) := by decide +kernel
theorem d_C_edge_25 : decode b_C_edge 25 = .ok (.new 50, 3) := by decide +kernel
theorem d_C_edge_28 : decode b_C_edge 28 = .ok (.dup, 1) := by decide +kernel
theorem d_C_edge_29 : decode b_C_edge 29 = .ok (.invokespecial 52, 3) := by decide +kernel
theorem d_C_edge_32 : decode b_C_edge 32 = .ok (.athrow, 1) := by decide +kernel
theorem d_C_edge_33 : decode b_C_edge 33 = .ok (.iload_n 3, 1) := by decide +kernel
theorem d_C_edge_34 : decode b_C_edge 34 = .ok (.invokestatic 68, 3) := by decide +kernel
theorem d_C_edge_37 : decode b_C_edge 37 = .ok (.aload_n 0, 1) := by decide +kernel
theorem d_C_edge_38 : decode b_C_edge 38 = .ok (.getfield 12, 3) := by decide +kernel
theorem d_C_edge_41 : decode b_C_edge 41 = .ok (.iload_n 3, 1) := by decide +kernel
theorem d_C_edge_42 : decode b_C_edge 42 = .ok (.invokevirtual 72, 3) := by decide +kernel
theorem d_C_edge_45 : decode b_C_edge 45 = .ok (.ifCond .eq 20, 3) := by decide +kernel
theorem d_C_edge_48 : decode b_C_edge 48 = .ok (.aload_n 0, 1) := by decide +kernel
theorem d_C_edge_49 : decode b_C_edge 49 = .ok (.getfield 12, 3) := by decide +kernel
theorem d_C_edge_52 : decode b_C_edge 52 = .ok (.getfield 87, 3) := by decide +kernel
theorem d_C_edge_55 : decode b_C_edge 55 = .ok (.iload_n 1, 1) := by decide +kernel
theorem d_C_edge_56 : decode b_C_edge 56 = .ok (.aaload, 1) := by decide +kernel
theorem d_C_edge_57 : decode b_C_edge 57 = .ok (.iload_n 2, 1) := by decide +kernel
theorem d_C_edge_58 : decode b_C_edge 58 = .ok (.iload_n 3, 1) := by decide +kernel
theorem d_C_edge_59 : decode b_C_edge 59 = .ok (.invokevirtual 91, 3) := by decide +kernel
theorem d_C_edge_62 : decode b_C_edge 62 = .ok (.ifCond .eq 11, 3) := by decide +kernel
theorem d_C_edge_65 : decode b_C_edge 65 = .ok (.new 57, 3) := by decide +kernel
theorem d_C_edge_68 : decode b_C_edge 68 = .ok (.dup, 1) := by decide +kernel
theorem d_C_edge_69 : decode b_C_edge 69 = .ok (.invokespecial 59, 3) := by decide +kernel
theorem d_C_edge_72 : decode b_C_edge 72 = .ok (.athrow, 1) := by decide +kernel
theorem d_C_edge_73 : decode b_C_edge 73 = .ok (.aload_n 0, 1) := by decide +kernel
theorem d_C_edge_74 : decode b_C_edge 74 = .ok (.iconst 0, 1) := by decide +kernel
theorem d_C_edge_75 : decode b_C_edge 75 = .ok (.putfield 60, 3) := by decide +kernel
theorem d_C_edge_78 : decode b_C_edge 78 = .ok (.aload_n 0, 1) := by decide +kernel
theorem d_C_edge_79 : decode b_C_edge 79 = .ok (.getfield 12, 3) := by decide +kernel
theorem d_C_edge_82 : decode b_C_edge 82 = .ok (.getfield 87, 3) := by decide +kernel
theorem d_C_edge_85 : decode b_C_edge 85 = .ok (.iload_n 1, 1) := by decide +kernel
theorem d_C_edge_86 : decode b_C_edge 86 = .ok (.aaload, 1) := by decide +kernel
theorem d_C_edge_87 : decode b_C_edge 87 = .ok (.iload_n 2, 1) := by decide +kernel
theorem d_C_edge_88 : decode b_C_edge 88 = .ok (.iload_n 3, 1) := by decide +kernel
theorem d_C_edge_89 : decode b_C_edge 89 = .ok (.iload 4, 2) := by decide +kernel
theorem d_C_edge_91 : decode b_C_edge 91 = .ok (.invokevirtual 96, 3) := by decide +kernel
theorem d_C_edge_94 : decode b_C_edge 94 = .ok (.return_, 1) := by decide +kernel
theorem d_C_event_0 : decode b_C_event 0 = .ok (.iload_n 1, 1) := by decide +kernel
theorem d_C_event_1 : decode b_C_event 1 = .ok (.invokestatic 68, 3) := by decide +kernel
theorem d_C_event_4 : decode b_C_event 4 = .ok (.aload_n 0, 1) := by decide +kernel
theorem d_C_event_5 : decode b_C_event 5 = .ok (.getfield 12, 3) := by decide +kernel
theorem d_C_event_8 : decode b_C_event 8 = .ok (.iload_n 1, 1) := by decide +kernel
theorem d_C_event_9 : decode b_C_event 9 = .ok (.invokevirtual 72, 3) := by decide +kernel
theorem d_C_event_12 : decode b_C_event 12 = .ok (.ifCond .eq 25, 3) := by decide +kernel
theorem d_C_event_15 : decode b_C_event 15 = .ok (.aload_n 0, 1) := by decide +kernel
theorem d_C_event_16 : decode b_C_event 16 = .ok (.getfield 12, 3) := by decide +kernel
theorem d_C_event_19 : decode b_C_event 19 = .ok (.iload_n 1, 1) := by decide +kernel
theorem d_C_event_20 : decode b_C_event 20 = .ok (.invokevirtual 76, 3) := by decide +kernel
theorem d_C_event_23 : decode b_C_event 23 = .ok (.iload_n 2, 1) := by decide +kernel
theorem d_C_event_24 : decode b_C_event 24 = .ok (.if_icmp .eq 11, 3) := by decide +kernel
theorem d_C_event_27 : decode b_C_event 27 = .ok (.new 57, 3) := by decide +kernel
theorem d_C_event_30 : decode b_C_event 30 = .ok (.dup, 1) := by decide +kernel
theorem d_C_event_31 : decode b_C_event 31 = .ok (.invokespecial 59, 3) := by decide +kernel
theorem d_C_event_34 : decode b_C_event 34 = .ok (.athrow, 1) := by decide +kernel
theorem d_C_event_35 : decode b_C_event 35 = .ok (.iconst 0, 1) := by decide +kernel
theorem d_C_event_36 : decode b_C_event 36 = .ok (.ireturn, 1) := by decide +kernel
theorem d_C_event_37 : decode b_C_event 37 = .ok (.aload_n 0, 1) := by decide +kernel
theorem d_C_event_38 : decode b_C_event 38 = .ok (.iconst 0, 1) := by decide +kernel
theorem d_C_event_39 : decode b_C_event 39 = .ok (.putfield 60, 3) := by decide +kernel
theorem d_C_event_42 : decode b_C_event 42 = .ok (.aload_n 0, 1) := by decide +kernel
theorem d_C_event_43 : decode b_C_event 43 = .ok (.getfield 12, 3) := by decide +kernel
theorem d_C_event_46 : decode b_C_event 46 = .ok (.iload_n 1, 1) := by decide +kernel
theorem d_C_event_47 : decode b_C_event 47 = .ok (.iload_n 2, 1) := by decide +kernel
theorem d_C_event_48 : decode b_C_event 48 = .ok (.invokevirtual 79, 3) := by decide +kernel
theorem d_C_event_51 : decode b_C_event 51 = .ok (.iconst 1, 1) := by decide +kernel
theorem d_C_event_52 : decode b_C_event 52 = .ok (.ireturn, 1) := by decide +kernel
theorem d_C_hasBit_0 : decode b_C_hasBit 0 = .ok (.iload_n 0, 1) := by decide +kernel
theorem d_C_hasBit_1 : decode b_C_hasBit 1 = .ok (.iload_n 1, 1) := by decide +kernel
theorem d_C_hasBit_2 : decode b_C_hasBit 2 = .ok (.ishr, 1) := by decide +kernel
theorem d_C_hasBit_3 : decode b_C_hasBit 3 = .ok (.iconst 1, 1) := by decide +kernel
theorem d_C_hasBit_4 : decode b_C_hasBit 4 = .ok (.iand, 1) := by decide +kernel
theorem d_C_hasBit_5 : decode b_C_hasBit 5 = .ok (.iconst 1, 1) := by decide +kernel
theorem d_C_hasBit_6 : decode b_C_hasBit 6 = .ok (.if_icmp .ne 7, 3) := by decide +kernel
theorem d_C_hasBit_9 : decode b_C_hasBit 9 = .ok (.iconst 1, 1) := by decide +kernel
theorem d_C_hasBit_10 : decode b_C_hasBit 10 = .ok (.goto 4, 3) := by decide +kernel
theorem d_C_hasBit_13 : decode b_C_hasBit 13 = .ok (.iconst 0, 1) := by decide +kernel
theorem d_C_hasBit_14 : decode b_C_hasBit 14 = .ok (.ireturn, 1) := by decide +kernel
theorem d_C_here_0 : decode b_C_here 0 = .ok (.aload_n 0, 1) := by decide +kernel
theorem d_C_here_1 : decode b_C_here 1 = .ok (.invokevirtual 132, 3) := by decide +kernel
theorem d_C_here_4 : decode b_C_here 4 = .ok (.aload_n 0, 1) := by decide +kernel
theorem d_C_here_5 : decode b_C_here 5 = .ok (.getfield 118, 3) := by decide +kernel
theorem d_C_here_8 : decode b_C_here 8 = .ok (.ireturn, 1) := by decide +kernel
theorem d_C_home_0 : decode b_C_home 0 = .ok (.aload_n 0, 1) := by decide +kernel
theorem d_C_home_1 : decode b_C_home 1 = .ok (.invokevirtual 132, 3) := by decide +kernel
theorem d_C_home_4 : decode b_C_home 4 = .ok (.aload_n 0, 1) := by decide +kernel
theorem d_C_home_5 : decode b_C_home 5 = .ok (.getfield 40, 3) := by decide +kernel
theorem d_C_home_8 : decode b_C_home 8 = .ok (.getfield 180, 3) := by decide +kernel
theorem d_C_home_11 : decode b_C_home 11 = .ok (.aload_n 0, 1) := by decide +kernel
theorem d_C_home_12 : decode b_C_home 12 = .ok (.getfield 118, 3) := by decide +kernel
theorem d_C_home_15 : decode b_C_home 15 = .ok (.iaload, 1) := by decide +kernel
theorem d_C_home_16 : decode b_C_home 16 = .ok (.ireturn, 1) := by decide +kernel
theorem d_C_init_0 : decode b_C_init 0 = .ok (.aload_n 0, 1) := by decide +kernel
theorem d_C_init_1 : decode b_C_init 1 = .ok (.invokespecial 3, 3) := by decide +kernel
theorem d_C_init_4 : decode b_C_init 4 = .ok (.aload_n 0, 1) := by decide +kernel
theorem d_C_init_5 : decode b_C_init 5 = .ok (.new 9, 3) := by decide +kernel
theorem d_C_init_8 : decode b_C_init 8 = .ok (.dup, 1) := by decide +kernel
theorem d_C_init_9 : decode b_C_init 9 = .ok (.invokespecial 11, 3) := by decide +kernel
theorem d_C_init_12 : decode b_C_init 12 = .ok (.putfield 12, 3) := by decide +kernel
theorem d_C_init_15 : decode b_C_init 15 = .ok (.new 16, 3) := by decide +kernel
theorem d_C_init_18 : decode b_C_init 18 = .ok (.dup, 1) := by decide +kernel
theorem d_C_init_19 : decode b_C_init 19 = .ok (.invokespecial 18, 3) := by decide +kernel
theorem d_C_init_22 : decode b_C_init 22 = .ok (.astore_n 1, 1) := by decide +kernel
theorem d_C_init_23 : decode b_C_init 23 = .ok (.aload_n 0, 1) := by decide +kernel
theorem d_C_init_24 : decode b_C_init 24 = .ok (.new 19, 3) := by decide +kernel
theorem d_C_init_27 : decode b_C_init 27 = .ok (.dup, 1) := by decide +kernel
theorem d_C_init_28 : decode b_C_init 28 = .ok (.aload_n 0, 1) := by decide +kernel
theorem d_C_init_29 : decode b_C_init 29 = .ok (.getfield 12, 3) := by decide +kernel
theorem d_C_init_32 : decode b_C_init 32 = .ok (.aload_n 1, 1) := by decide +kernel
theorem d_C_init_33 : decode b_C_init 33 = .ok (.invokespecial 21, 3) := by decide +kernel
theorem d_C_init_36 : decode b_C_init 36 = .ok (.putfield 24, 3) := by decide +kernel
theorem d_C_init_39 : decode b_C_init 39 = .ok (.aload_n 0, 1) := by decide +kernel
theorem d_C_init_40 : decode b_C_init 40 = .ok (.new 28, 3) := by decide +kernel
theorem d_C_init_43 : decode b_C_init 43 = .ok (.dup, 1) := by decide +kernel
theorem d_C_init_44 : decode b_C_init 44 = .ok (.aload_n 1, 1) := by decide +kernel
theorem d_C_init_45 : decode b_C_init 45 = .ok (.invokespecial 30, 3) := by decide +kernel
theorem d_C_init_48 : decode b_C_init 48 = .ok (.putfield 33, 3) := by decide +kernel
theorem d_C_init_51 : decode b_C_init 51 = .ok (.aload_n 0, 1) := by decide +kernel
theorem d_C_init_52 : decode b_C_init 52 = .ok (.new 37, 3) := by decide +kernel
theorem d_C_init_55 : decode b_C_init 55 = .ok (.dup, 1) := by decide +kernel
theorem d_C_init_56 : decode b_C_init 56 = .ok (.invokespecial 39, 3) := by decide +kernel
theorem d_C_init_59 : decode b_C_init 59 = .ok (.putfield 40, 3) := by decide +kernel
theorem d_C_init_62 : decode b_C_init 62 = .ok (.aload_n 0, 1) := by decide +kernel
theorem d_C_init_63 : decode b_C_init 63 = .ok (.new 37, 3) := by decide +kernel
theorem d_C_init_66 : decode b_C_init 66 = .ok (.dup, 1) := by decide +kernel
theorem d_C_init_67 : decode b_C_init 67 = .ok (.invokespecial 39, 3) := by decide +kernel
theorem d_C_init_70 : decode b_C_init 70 = .ok (.putfield 44, 3) := by decide +kernel
theorem d_C_init_73 : decode b_C_init 73 = .ok (.aload_n 0, 1) := by decide +kernel
theorem d_C_init_74 : decode b_C_init 74 = .ok (.new 37, 3) := by decide +kernel
theorem d_C_init_77 : decode b_C_init 77 = .ok (.dup, 1) := by decide +kernel
theorem d_C_init_78 : decode b_C_init 78 = .ok (.invokespecial 39, 3) := by decide +kernel
theorem d_C_init_81 : decode b_C_init 81 = .ok (.putfield 47, 3) := by decide +kernel
theorem d_C_init_84 : decode b_C_init 84 = .ok (.return_, 1) := by decide +kernel
theorem d_C_leads_0 : decode b_C_leads 0 = .ok (.aload_n 0, 1) := by decide +kernel
theorem d_C_leads_1 : decode b_C_leads 1 = .ok (.iload_n 1, 1) := by decide +kernel
theorem d_C_leads_2 : decode b_C_leads 2 = .ok (.iload_n 2, 1) := by decide +kernel
theorem d_C_leads_3 : decode b_C_leads 3 = .ok (.invokevirtual 122, 3) := by decide +kernel
theorem d_C_leads_6 : decode b_C_leads 6 = .ok (.aload_n 0, 1) := by decide +kernel
theorem d_C_leads_7 : decode b_C_leads 7 = .ok (.getfield 40, 3) := by decide +kernel
theorem d_C_leads_10 : decode b_C_leads 10 = .ok (.iload_n 1, 1) := by decide +kernel
theorem d_C_leads_11 : decode b_C_leads 11 = .ok (.iload_n 2, 1) := by decide +kernel
theorem d_C_leads_12 : decode b_C_leads 12 = .ok (.invokevirtual 129, 3) := by decide +kernel
theorem d_C_leads_15 : decode b_C_leads 15 = .ok (.ireturn, 1) := by decide +kernel
theorem d_C_make_0 : decode b_C_make 0 = .ok (.aload_n 0, 1) := by decide +kernel
theorem d_C_make_1 : decode b_C_make 1 = .ok (.iconst 0, 1) := by decide +kernel
theorem d_C_make_2 : decode b_C_make 2 = .ok (.putfield 60, 3) := by decide +kernel
theorem d_C_make_5 : decode b_C_make 5 = .ok (.aload_n 0, 1) := by decide +kernel
theorem d_C_make_6 : decode b_C_make 6 = .ok (.getfield 12, 3) := by decide +kernel
theorem d_C_make_9 : decode b_C_make 9 = .ok (.invokevirtual 107, 3) := by decide +kernel
theorem d_C_make_12 : decode b_C_make 12 = .ok (.istore_n 1, 1) := by decide +kernel
theorem d_C_make_13 : decode b_C_make 13 = .ok (.aload_n 0, 1) := by decide +kernel
theorem d_C_make_14 : decode b_C_make 14 = .ok (.getfield 12, 3) := by decide +kernel
theorem d_C_make_17 : decode b_C_make 17 = .ok (.iload_n 1, 1) := by decide +kernel
theorem d_C_make_18 : decode b_C_make 18 = .ok (.invokevirtual 111, 3) := by decide +kernel
theorem d_C_make_21 : decode b_C_make 21 = .ok (.ifCond .ne 6, 3) := by decide +kernel
theorem d_C_make_24 : decode b_C_make 24 = .ok (.bipush (-2), 2) := by decide +kernel
theorem d_C_make_26 : decode b_C_make 26 = .ok (.ireturn, 1) := by decide +kernel
theorem d_C_make_27 : decode b_C_make 27 = .ok (.aload_n 0, 1) := by decide +kernel
theorem d_C_make_28 : decode b_C_make 28 = .ok (.getfield 24, 3) := by decide +kernel
theorem d_C_make_31 : decode b_C_make 31 = .ok (.iload_n 1, 1) := by decide +kernel
theorem d_C_make_32 : decode b_C_make 32 = .ok (.aload_n 0, 1) := by decide +kernel
theorem d_C_make_33 : decode b_C_make 33 = .ok (.getfield 40, 3) := by decide +kernel
theorem d_C_make_36 : decode b_C_make 36 = .ok (.invokevirtual 114, 3) := by decide +kernel
theorem d_C_make_39 : decode b_C_make 39 = .ok (.ifCond .ne 5, 3) := by decide +kernel
theorem d_C_make_42 : decode b_C_make 42 = .ok (.iconst (-1), 1) := by decide +kernel
theorem d_C_make_43 : decode b_C_make 43 = .ok (.ireturn, 1) := by decide +kernel
theorem d_C_make_44 : decode b_C_make 44 = .ok (.aload_n 0, 1) := by decide +kernel
theorem d_C_make_45 : decode b_C_make 45 = .ok (.iconst 1, 1) := by decide +kernel
theorem d_C_make_46 : decode b_C_make 46 = .ok (.putfield 60, 3) := by decide +kernel
theorem d_C_make_49 : decode b_C_make 49 = .ok (.aload_n 0, 1) := by decide +kernel
theorem d_C_make_50 : decode b_C_make 50 = .ok (.iconst 1, 1) := by decide +kernel
theorem d_C_make_51 : decode b_C_make 51 = .ok (.putfield 118, 3) := by decide +kernel
theorem d_C_make_54 : decode b_C_make 54 = .ok (.aload_n 0, 1) := by decide +kernel
theorem d_C_make_55 : decode b_C_make 55 = .ok (.getfield 40, 3) := by decide +kernel
theorem d_C_make_58 : decode b_C_make 58 = .ok (.getfield 121, 3) := by decide +kernel
theorem d_C_make_61 : decode b_C_make 61 = .ok (.ireturn, 1) := by decide +kernel
theorem d_C_many_0 : decode b_C_many 0 = .ok (.iload_n 1, 1) := by decide +kernel
theorem d_C_many_1 : decode b_C_many 1 = .ok (.ifCond .eq 16, 3) := by decide +kernel
theorem d_C_many_4 : decode b_C_many 4 = .ok (.iload_n 1, 1) := by decide +kernel
theorem d_C_many_5 : decode b_C_many 5 = .ok (.iconst 1, 1) := by decide +kernel
theorem d_C_many_6 : decode b_C_many 6 = .ok (.if_icmp .eq 11, 3) := by decide +kernel
theorem d_C_many_9 : decode b_C_many 9 = .ok (.new 50, 3) := by decide +kernel
theorem d_C_many_12 : decode b_C_many 12 = .ok (.dup, 1) := by decide +kernel
theorem d_C_many_13 : decode b_C_many 13 = .ok (.invokespecial 52, 3) := by decide +kernel
theorem d_C_many_16 : decode b_C_many 16 = .ok (.athrow, 1) := by decide +kernel
theorem d_C_many_17 : decode b_C_many 17 = .ok (.aload_n 0, 1) := by decide +kernel
theorem d_C_many_18 : decode b_C_many 18 = .ok (.invokevirtual 148, 3) := by decide +kernel
theorem d_C_many_21 : decode b_C_many 21 = .ok (.iload_n 1, 1) := by decide +kernel
theorem d_C_many_22 : decode b_C_many 22 = .ok (.ifCond .ne 13, 3) := by decide +kernel
theorem d_C_many_25 : decode b_C_many 25 = .ok (.aload_n 0, 1) := by decide +kernel
theorem d_C_many_26 : decode b_C_many 26 = .ok (.getfield 40, 3) := by decide +kernel
theorem d_C_many_29 : decode b_C_many 29 = .ok (.getfield 151, 3) := by decide +kernel
theorem d_C_many_32 : decode b_C_many 32 = .ok (.goto 10, 3) := by decide +kernel
theorem d_C_many_35 : decode b_C_many 35 = .ok (.aload_n 0, 1) := by decide +kernel
theorem d_C_many_36 : decode b_C_many 36 = .ok (.getfield 40, 3) := by decide +kernel
theorem d_C_many_39 : decode b_C_many 39 = .ok (.getfield 154, 3) := by decide +kernel
theorem d_C_many_42 : decode b_C_many 42 = .ok (.ireturn, 1) := by decide +kernel
theorem d_C_part_0 : decode b_C_part 0 = .ok (.aload_n 0, 1) := by decide +kernel
theorem d_C_part_1 : decode b_C_part 1 = .ok (.invokevirtual 132, 3) := by decide +kernel
theorem d_C_part_4 : decode b_C_part 4 = .ok (.aload_n 0, 1) := by decide +kernel
theorem d_C_part_5 : decode b_C_part 5 = .ok (.iload_n 1, 1) := by decide +kernel
theorem d_C_part_6 : decode b_C_part 6 = .ok (.invokevirtual 135, 3) := by decide +kernel
theorem d_C_part_9 : decode b_C_part 9 = .ok (.aload_n 0, 1) := by decide +kernel
theorem d_C_part_10 : decode b_C_part 10 = .ok (.getfield 12, 3) := by decide +kernel
theorem d_C_part_13 : decode b_C_part 13 = .ok (.iload_n 2, 1) := by decide +kernel
theorem d_C_part_14 : decode b_C_part 14 = .ok (.invokevirtual 138, 3) := by decide +kernel
theorem d_C_part_17 : decode b_C_part 17 = .ok (.ifCond .ne 11, 3) := by decide +kernel
theorem d_C_part_20 : decode b_C_part 20 = .ok (.new 50, 3) := by decide +kernel
theorem d_C_part_23 : decode b_C_part 23 = .ok (.dup, 1) := by decide +kernel
theorem d_C_part_24 : decode b_C_part 24 = .ok (.invokespecial 52, 3) := by decide +kernel
theorem d_C_part_27 : decode b_C_part 27 = .ok (.athrow, 1) := by decide +kernel
theorem d_C_part_28 : decode b_C_part 28 = .ok (.aload_n 0, 1) := by decide +kernel
theorem d_C_part_29 : decode b_C_part 29 = .ok (.getfield 40, 3) := by decide +kernel
theorem d_C_part_32 : decode b_C_part 32 = .ok (.getfield 141, 3) := by decide +kernel
theorem d_C_part_35 : decode b_C_part 35 = .ok (.iload_n 1, 1) := by decide +kernel
theorem d_C_part_36 : decode b_C_part 36 = .ok (.iaload, 1) := by decide +kernel
theorem d_C_part_37 : decode b_C_part 37 = .ok (.iload_n 2, 1) := by decide +kernel
theorem d_C_part_38 : decode b_C_part 38 = .ok (.invokestatic 145, 3) := by decide +kernel
theorem d_C_part_41 : decode b_C_part 41 = .ok (.ireturn, 1) := by decide +kernel
theorem d_C_requireEvent_0 : decode b_C_requireEvent 0 = .ok (.iload_n 0, 1) := by decide +kernel
theorem d_C_requireEvent_1 : decode b_C_requireEvent 1 = .ok (.ifCond .lt 9, 3) := by decide +kernel
theorem d_C_requireEvent_4 : decode b_C_requireEvent 4 = .ok (.iload_n 0, 1) := by decide +kernel
theorem d_C_requireEvent_5 : decode b_C_requireEvent 5 = .ok (.bipush 12, 2) := by decide +kernel
theorem d_C_requireEvent_7 : decode b_C_requireEvent 7 = .ok (.if_icmp .lt 11, 3) := by decide +kernel
theorem d_C_requireEvent_10 : decode b_C_requireEvent 10 = .ok (.new 50, 3) := by decide +kernel
theorem d_C_requireEvent_13 : decode b_C_requireEvent 13 = .ok (.dup, 1) := by decide +kernel
theorem d_C_requireEvent_14 : decode b_C_requireEvent 14 = .ok (.invokespecial 52, 3) := by decide +kernel
theorem d_C_requireEvent_17 : decode b_C_requireEvent 17 = .ok (.athrow, 1) := by decide +kernel
theorem d_C_requireEvent_18 : decode b_C_requireEvent 18 = .ok (.return_, 1) := by decide +kernel
theorem d_C_requireResult_0 : decode b_C_requireResult 0 = .ok (.aload_n 0, 1) := by decide +kernel
theorem d_C_requireResult_1 : decode b_C_requireResult 1 = .ok (.getfield 60, 3) := by decide +kernel
theorem d_C_requireResult_4 : decode b_C_requireResult 4 = .ok (.ifCond .ne 11, 3) := by decide +kernel
theorem d_C_requireResult_7 : decode b_C_requireResult 7 = .ok (.new 57, 3) := by decide +kernel
theorem d_C_requireResult_10 : decode b_C_requireResult 10 = .ok (.dup, 1) := by decide +kernel
theorem d_C_requireResult_11 : decode b_C_requireResult 11 = .ok (.invokespecial 59, 3) := by decide +kernel
theorem d_C_requireResult_14 : decode b_C_requireResult 14 = .ok (.athrow, 1) := by decide +kernel
theorem d_C_requireResult_15 : decode b_C_requireResult 15 = .ok (.return_, 1) := by decide +kernel
theorem d_C_requireState_0 : decode b_C_requireState 0 = .ok (.iload_n 1, 1) := by decide +kernel
theorem d_C_requireState_1 : decode b_C_requireState 1 = .ok (.iconst 1, 1) := by decide +kernel
theorem d_C_requireState_2 : decode b_C_requireState 2 = .ok (.if_icmp .lt 14, 3) := by decide +kernel
theorem d_C_requireState_5 : decode b_C_requireState 5 = .ok (.iload_n 1, 1) := by decide +kernel
theorem d_C_requireState_6 : decode b_C_requireState 6 = .ok (.aload_n 0, 1) := by decide +kernel
theorem d_C_requireState_7 : decode b_C_requireState 7 = .ok (.getfield 40, 3) := by decide +kernel
theorem d_C_requireState_10 : decode b_C_requireState 10 = .ok (.getfield 121, 3) := by decide +kernel
theorem d_C_requireState_13 : decode b_C_requireState 13 = .ok (.if_icmp .le 11, 3) := by decide +kernel
theorem d_C_requireState_16 : decode b_C_requireState 16 = .ok (.new 50, 3) := by decide +kernel
theorem d_C_requireState_19 : decode b_C_requireState 19 = .ok (.dup, 1) := by decide +kernel
theorem d_C_requireState_20 : decode b_C_requireState 20 = .ok (.invokespecial 52, 3) := by decide +kernel
theorem d_C_requireState_23 : decode b_C_requireState 23 = .ok (.athrow, 1) := by decide +kernel
theorem d_C_requireState_24 : decode b_C_requireState 24 = .ok (.return_, 1) := by decide +kernel
theorem d_C_requireStateAndEvent_0 : decode b_C_requireStateAndEvent 0 = .ok (.aload_n 0, 1) := by decide +kernel
theorem d_C_requireStateAndEvent_1 : decode b_C_requireStateAndEvent 1 = .ok (.invokevirtual 132, 3) := by decide +kernel
theorem d_C_requireStateAndEvent_4 : decode b_C_requireStateAndEvent 4 = .ok (.aload_n 0, 1) := by decide +kernel
theorem d_C_requireStateAndEvent_5 : decode b_C_requireStateAndEvent 5 = .ok (.iload_n 1, 1) := by decide +kernel
theorem d_C_requireStateAndEvent_6 : decode b_C_requireStateAndEvent 6 = .ok (.invokevirtual 135, 3) := by decide +kernel
theorem d_C_requireStateAndEvent_9 : decode b_C_requireStateAndEvent 9 = .ok (.iload_n 2, 1) := by decide +kernel
theorem d_C_requireStateAndEvent_10 : decode b_C_requireStateAndEvent 10 = .ok (.invokestatic 68, 3) := by decide +kernel
theorem d_C_requireStateAndEvent_13 : decode b_C_requireStateAndEvent 13 = .ok (.return_, 1) := by decide +kernel
theorem d_C_requireSupervisor_0 : decode b_C_requireSupervisor 0 = .ok (.aload_n 0, 1) := by decide +kernel
theorem d_C_requireSupervisor_1 : decode b_C_requireSupervisor 1 = .ok (.getfield 60, 3) := by decide +kernel
theorem d_C_requireSupervisor_4 : decode b_C_requireSupervisor 4 = .ok (.ifCond .eq 13, 3) := by decide +kernel
theorem d_C_requireSupervisor_7 : decode b_C_requireSupervisor 7 = .ok (.aload_n 0, 1) := by decide +kernel
theorem d_C_requireSupervisor_8 : decode b_C_requireSupervisor 8 = .ok (.getfield 40, 3) := by decide +kernel
theorem d_C_requireSupervisor_11 : decode b_C_requireSupervisor 11 = .ok (.getfield 121, 3) := by decide +kernel
theorem d_C_requireSupervisor_14 : decode b_C_requireSupervisor 14 = .ok (.ifCond .ne 11, 3) := by decide +kernel
theorem d_C_requireSupervisor_17 : decode b_C_requireSupervisor 17 = .ok (.new 57, 3) := by decide +kernel
theorem d_C_requireSupervisor_20 : decode b_C_requireSupervisor 20 = .ok (.dup, 1) := by decide +kernel
theorem d_C_requireSupervisor_21 : decode b_C_requireSupervisor 21 = .ok (.invokespecial 59, 3) := by decide +kernel
theorem d_C_requireSupervisor_24 : decode b_C_requireSupervisor 24 = .ok (.athrow, 1) := by decide +kernel
theorem d_C_requireSupervisor_25 : decode b_C_requireSupervisor 25 = .ok (.return_, 1) := by decide +kernel
theorem d_C_reset_0 : decode b_C_reset 0 = .ok (.aload_n 0, 1) := by decide +kernel
theorem d_C_reset_1 : decode b_C_reset 1 = .ok (.invokevirtual 132, 3) := by decide +kernel
theorem d_C_reset_4 : decode b_C_reset 4 = .ok (.aload_n 0, 1) := by decide +kernel
theorem d_C_reset_5 : decode b_C_reset 5 = .ok (.iconst 1, 1) := by decide +kernel
theorem d_C_reset_6 : decode b_C_reset 6 = .ok (.putfield 118, 3) := by decide +kernel
theorem d_C_reset_9 : decode b_C_reset 9 = .ok (.return_, 1) := by decide +kernel
theorem d_C_says_0 : decode b_C_says 0 = .ok (.aload_n 0, 1) := by decide +kernel
theorem d_C_says_1 : decode b_C_says 1 = .ok (.iload_n 1, 1) := by decide +kernel
theorem d_C_says_2 : decode b_C_says 2 = .ok (.iload_n 2, 1) := by decide +kernel
theorem d_C_says_3 : decode b_C_says 3 = .ok (.invokevirtual 122, 3) := by decide +kernel
theorem d_C_says_6 : decode b_C_says 6 = .ok (.aload_n 0, 1) := by decide +kernel
theorem d_C_says_7 : decode b_C_says 7 = .ok (.getfield 40, 3) := by decide +kernel
theorem d_C_says_10 : decode b_C_says 10 = .ok (.iload_n 1, 1) := by decide +kernel
theorem d_C_says_11 : decode b_C_says 11 = .ok (.iload_n 2, 1) := by decide +kernel
theorem d_C_says_12 : decode b_C_says 12 = .ok (.invokevirtual 126, 3) := by decide +kernel
theorem d_C_says_15 : decode b_C_says 15 = .ok (.ireturn, 1) := by decide +kernel
theorem d_C_superviseUnder_0 : decode b_C_superviseUnder 0 = .ok (.aload_n 0, 1) := by decide +kernel
theorem d_C_superviseUnder_1 : decode b_C_superviseUnder 1 = .ok (.getfield 12, 3) := by decide +kernel
theorem d_C_superviseUnder_4 : decode b_C_superviseUnder 4 = .ok (.invokevirtual 183, 3) := by decide +kernel
theorem d_C_superviseUnder_7 : decode b_C_superviseUnder 7 = .ok (.iconst 1, 1) := by decide +kernel
theorem d_C_superviseUnder_8 : decode b_C_superviseUnder 8 = .ok (.iload_n 1, 1) := by decide +kernel
theorem d_C_superviseUnder_9 : decode b_C_superviseUnder 9 = .ok (.ishl, 1) := by decide +kernel
theorem d_C_superviseUnder_10 : decode b_C_superviseUnder 10 = .ok (.ior, 1) := by decide +kernel
theorem d_C_superviseUnder_11 : decode b_C_superviseUnder 11 = .ok (.istore_n 3, 1) := by decide +kernel
theorem d_C_superviseUnder_12 : decode b_C_superviseUnder 12 = .ok (.aload_n 0, 1) := by decide +kernel
theorem d_C_superviseUnder_13 : decode b_C_superviseUnder 13 = .ok (.getfield 12, 3) := by decide +kernel
theorem d_C_superviseUnder_16 : decode b_C_superviseUnder 16 = .ok (.iload_n 3, 1) := by decide +kernel
theorem d_C_superviseUnder_17 : decode b_C_superviseUnder 17 = .ok (.invokevirtual 111, 3) := by decide +kernel
theorem d_C_superviseUnder_20 : decode b_C_superviseUnder 20 = .ok (.ifCond .eq 26, 3) := by decide +kernel
theorem d_C_superviseUnder_23 : decode b_C_superviseUnder 23 = .ok (.aload_n 0, 1) := by decide +kernel
theorem d_C_superviseUnder_24 : decode b_C_superviseUnder 24 = .ok (.getfield 24, 3) := by decide +kernel
theorem d_C_superviseUnder_27 : decode b_C_superviseUnder 27 = .ok (.iload_n 3, 1) := by decide +kernel
theorem d_C_superviseUnder_28 : decode b_C_superviseUnder 28 = .ok (.aload_n 2, 1) := by decide +kernel
theorem d_C_superviseUnder_29 : decode b_C_superviseUnder 29 = .ok (.invokevirtual 114, 3) := by decide +kernel
theorem d_C_superviseUnder_32 : decode b_C_superviseUnder 32 = .ok (.ifCond .eq 14, 3) := by decide +kernel
theorem d_C_superviseUnder_35 : decode b_C_superviseUnder 35 = .ok (.aload_n 2, 1) := by decide +kernel
theorem d_C_superviseUnder_36 : decode b_C_superviseUnder 36 = .ok (.getfield 121, 3) := by decide +kernel
theorem d_C_superviseUnder_39 : decode b_C_superviseUnder 39 = .ok (.ifCond .le 7, 3) := by decide +kernel
theorem d_C_superviseUnder_42 : decode b_C_superviseUnder 42 = .ok (.iconst 1, 1) := by decide +kernel
theorem d_C_superviseUnder_43 : decode b_C_superviseUnder 43 = .ok (.goto 4, 3) := by decide +kernel
theorem d_C_superviseUnder_46 : decode b_C_superviseUnder 46 = .ok (.iconst 0, 1) := by decide +kernel
theorem d_C_superviseUnder_47 : decode b_C_superviseUnder 47 = .ok (.ireturn, 1) := by decide +kernel
theorem d_C_tell_0 : decode b_C_tell 0 = .ok (.aload_n 0, 1) := by decide +kernel
theorem d_C_tell_1 : decode b_C_tell 1 = .ok (.getfield 12, 3) := by decide +kernel
theorem d_C_tell_4 : decode b_C_tell 4 = .ok (.iload_n 1, 1) := by decide +kernel
theorem d_C_tell_5 : decode b_C_tell 5 = .ok (.iload_n 2, 1) := by decide +kernel
theorem d_C_tell_6 : decode b_C_tell 6 = .ok (.invokevirtual 83, 3) := by decide +kernel
theorem d_C_tell_9 : decode b_C_tell 9 = .ok (.ifCond .eq 12, 3) := by decide +kernel
theorem d_C_tell_12 : decode b_C_tell 12 = .ok (.iload_n 3, 1) := by decide +kernel
theorem d_C_tell_13 : decode b_C_tell 13 = .ok (.ifCond .lt 8, 3) := by decide +kernel
theorem d_C_tell_16 : decode b_C_tell 16 = .ok (.iload_n 3, 1) := by decide +kernel
theorem d_C_tell_17 : decode b_C_tell 17 = .ok (.iconst 2, 1) := by decide +kernel
theorem d_C_tell_18 : decode b_C_tell 18 = .ok (.if_icmp .le 11, 3) := by decide +kernel
theorem d_C_tell_21 : decode b_C_tell 21 = .ok (.new 50, 3) := by decide +kernel
theorem d_C_tell_24 : decode b_C_tell 24 = .ok (.dup, 1) := by decide +kernel
theorem d_C_tell_25 : decode b_C_tell 25 = .ok (.invokespecial 52, 3) := by decide +kernel
theorem d_C_tell_28 : decode b_C_tell 28 = .ok (.athrow, 1) := by decide +kernel
theorem d_C_tell_29 : decode b_C_tell 29 = .ok (.aload_n 0, 1) := by decide +kernel
theorem d_C_tell_30 : decode b_C_tell 30 = .ok (.iconst 0, 1) := by decide +kernel
theorem d_C_tell_31 : decode b_C_tell 31 = .ok (.putfield 60, 3) := by decide +kernel
theorem d_C_tell_34 : decode b_C_tell 34 = .ok (.aload_n 0, 1) := by decide +kernel
theorem d_C_tell_35 : decode b_C_tell 35 = .ok (.getfield 12, 3) := by decide +kernel
theorem d_C_tell_38 : decode b_C_tell 38 = .ok (.getfield 87, 3) := by decide +kernel
theorem d_C_tell_41 : decode b_C_tell 41 = .ok (.iload_n 1, 1) := by decide +kernel
theorem d_C_tell_42 : decode b_C_tell 42 = .ok (.aaload, 1) := by decide +kernel
theorem d_C_tell_43 : decode b_C_tell 43 = .ok (.iload_n 2, 1) := by decide +kernel
theorem d_C_tell_44 : decode b_C_tell 44 = .ok (.iload_n 3, 1) := by decide +kernel
theorem d_C_tell_45 : decode b_C_tell 45 = .ok (.iload 4, 2) := by decide +kernel
theorem d_C_tell_47 : decode b_C_tell 47 = .ok (.invokevirtual 100, 3) := by decide +kernel
theorem d_C_tell_50 : decode b_C_tell 50 = .ok (.return_, 1) := by decide +kernel
theorem d_C_why_0 : decode b_C_why 0 = .ok (.aload_n 0, 1) := by decide +kernel
theorem d_C_why_1 : decode b_C_why 1 = .ok (.invokevirtual 148, 3) := by decide +kernel
theorem d_C_why_4 : decode b_C_why 4 = .ok (.aload_n 0, 1) := by decide +kernel
theorem d_C_why_5 : decode b_C_why 5 = .ok (.getfield 40, 3) := by decide +kernel
theorem d_C_why_8 : decode b_C_why 8 = .ok (.getfield 157, 3) := by decide +kernel
theorem d_C_why_11 : decode b_C_why 11 = .ok (.ireturn, 1) := by decide +kernel
theorem d_C_whyEvent_0 : decode b_C_whyEvent 0 = .ok (.aload_n 0, 1) := by decide +kernel
theorem d_C_whyEvent_1 : decode b_C_whyEvent 1 = .ok (.invokevirtual 148, 3) := by decide +kernel
theorem d_C_whyEvent_4 : decode b_C_whyEvent 4 = .ok (.iload_n 1, 1) := by decide +kernel
theorem d_C_whyEvent_5 : decode b_C_whyEvent 5 = .ok (.ifCond .lt 14, 3) := by decide +kernel
theorem d_C_whyEvent_8 : decode b_C_whyEvent 8 = .ok (.iload_n 1, 1) := by decide +kernel
theorem d_C_whyEvent_9 : decode b_C_whyEvent 9 = .ok (.aload_n 0, 1) := by decide +kernel
theorem d_C_whyEvent_10 : decode b_C_whyEvent 10 = .ok (.getfield 40, 3) := by decide +kernel
theorem d_C_whyEvent_13 : decode b_C_whyEvent 13 = .ok (.getfield 157, 3) := by decide +kernel
theorem d_C_whyEvent_16 : decode b_C_whyEvent 16 = .ok (.if_icmp .lt 11, 3) := by decide +kernel
theorem d_C_whyEvent_19 : decode b_C_whyEvent 19 = .ok (.new 160, 3) := by decide +kernel
theorem d_C_whyEvent_22 : decode b_C_whyEvent 22 = .ok (.dup, 1) := by decide +kernel
theorem d_C_whyEvent_23 : decode b_C_whyEvent 23 = .ok (.invokespecial 162, 3) := by decide +kernel
theorem d_C_whyEvent_26 : decode b_C_whyEvent 26 = .ok (.athrow, 1) := by decide +kernel
theorem d_C_whyEvent_27 : decode b_C_whyEvent 27 = .ok (.aload_n 0, 1) := by decide +kernel
theorem d_C_whyEvent_28 : decode b_C_whyEvent 28 = .ok (.getfield 40, 3) := by decide +kernel
theorem d_C_whyEvent_31 : decode b_C_whyEvent 31 = .ok (.getfield 163, 3) := by decide +kernel
theorem d_C_whyEvent_34 : decode b_C_whyEvent 34 = .ok (.aload_n 0, 1) := by decide +kernel
theorem d_C_whyEvent_35 : decode b_C_whyEvent 35 = .ok (.getfield 40, 3) := by decide +kernel
theorem d_C_whyEvent_38 : decode b_C_whyEvent 38 = .ok (.getfield 157, 3) := by decide +kernel
theorem d_C_whyEvent_41 : decode b_C_whyEvent 41 = .ok (.iconst 1, 1) := by decide +kernel
theorem d_C_whyEvent_42 : decode b_C_whyEvent 42 = .ok (.isub, 1) := by decide +kernel
theorem d_C_whyEvent_43 : decode b_C_whyEvent 43 = .ok (.iload_n 1, 1) := by decide +kernel
theorem d_C_whyEvent_44 : decode b_C_whyEvent 44 = .ok (.isub, 1) := by decide +kernel
theorem d_C_whyEvent_45 : decode b_C_whyEvent 45 = .ok (.iaload, 1) := by decide +kernel
theorem d_C_whyEvent_46 : decode b_C_whyEvent 46 = .ok (.ireturn, 1) := by decide +kernel
theorem d_G_add_0 : decode b_G_add 0 = .ok (.aload_n 0, 1) := by decide +kernel
theorem d_G_add_1 : decode b_G_add 1 = .ok (.dup, 1) := by decide +kernel
theorem d_G_add_2 : decode b_G_add 2 = .ok (.getfield 43, 3) := by decide +kernel
theorem d_G_add_5 : decode b_G_add 5 = .ok (.iconst 1, 1) := by decide +kernel
theorem d_G_add_6 : decode b_G_add 6 = .ok (.iadd, 1) := by decide +kernel
theorem d_G_add_7 : decode b_G_add 7 = .ok (.putfield 43, 3) := by decide +kernel
theorem d_G_add_10 : decode b_G_add 10 = .ok (.aload_n 0, 1) := by decide +kernel
theorem d_G_add_11 : decode b_G_add 11 = .ok (.getfield 9, 3) := by decide +kernel
theorem d_G_add_14 : decode b_G_add 14 = .ok (.iload_n 1, 1) := by decide +kernel
theorem d_G_add_15 : decode b_G_add 15 = .ok (.aload_n 0, 1) := by decide +kernel
theorem d_G_add_16 : decode b_G_add 16 = .ok (.getfield 43, 3) := by decide +kernel
theorem d_G_add_19 : decode b_G_add 19 = .ok (.iastore, 1) := by decide +kernel
theorem d_G_add_20 : decode b_G_add 20 = .ok (.aload_n 0, 1) := by decide +kernel
theorem d_G_add_21 : decode b_G_add 21 = .ok (.getfield 15, 3) := by decide +kernel
theorem d_G_add_24 : decode b_G_add 24 = .ok (.aload_n 0, 1) := by decide +kernel
theorem d_G_add_25 : decode b_G_add 25 = .ok (.getfield 43, 3) := by decide +kernel
theorem d_G_add_28 : decode b_G_add 28 = .ok (.iload_n 1, 1) := by decide +kernel
theorem d_G_add_29 : decode b_G_add 29 = .ok (.iastore, 1) := by decide +kernel
theorem d_G_add_30 : decode b_G_add 30 = .ok (.aload_n 0, 1) := by decide +kernel
theorem d_G_add_31 : decode b_G_add 31 = .ok (.getfield 28, 3) := by decide +kernel
theorem d_G_add_34 : decode b_G_add 34 = .ok (.aload_n 0, 1) := by decide +kernel
theorem d_G_add_35 : decode b_G_add 35 = .ok (.getfield 43, 3) := by decide +kernel
theorem d_G_add_38 : decode b_G_add 38 = .ok (.iload_n 2, 1) := by decide +kernel
theorem d_G_add_39 : decode b_G_add 39 = .ok (.iastore, 1) := by decide +kernel
theorem d_G_add_40 : decode b_G_add 40 = .ok (.aload_n 0, 1) := by decide +kernel
theorem d_G_add_41 : decode b_G_add 41 = .ok (.getfield 34, 3) := by decide +kernel
theorem d_G_add_44 : decode b_G_add 44 = .ok (.aload_n 0, 1) := by decide +kernel
theorem d_G_add_45 : decode b_G_add 45 = .ok (.getfield 43, 3) := by decide +kernel
theorem d_G_add_48 : decode b_G_add 48 = .ok (.iconst 0, 1) := by decide +kernel
theorem d_G_add_49 : decode b_G_add 49 = .ok (.iastore, 1) := by decide +kernel
theorem d_G_add_50 : decode b_G_add 50 = .ok (.iconst 0, 1) := by decide +kernel
theorem d_G_add_51 : decode b_G_add 51 = .ok (.istore_n 3, 1) := by decide +kernel
theorem d_G_add_52 : decode b_G_add 52 = .ok (.iload_n 3, 1) := by decide +kernel
theorem d_G_add_53 : decode b_G_add 53 = .ok (.bipush 12, 2) := by decide +kernel
theorem d_G_add_55 : decode b_G_add 55 = .ok (.if_icmp .ge 24, 3) := by decide +kernel
theorem d_G_add_58 : decode b_G_add 58 = .ok (.aload_n 0, 1) := by decide +kernel
theorem d_G_add_59 : decode b_G_add 59 = .ok (.getfield 31, 3) := by decide +kernel
theorem d_G_add_62 : decode b_G_add 62 = .ok (.aload_n 0, 1) := by decide +kernel
theorem d_G_add_63 : decode b_G_add 63 = .ok (.getfield 43, 3) := by decide +kernel
theorem d_G_add_66 : decode b_G_add 66 = .ok (.bipush 12, 2) := by decide +kernel
theorem d_G_add_68 : decode b_G_add 68 = .ok (.imul, 1) := by decide +kernel
theorem d_G_add_69 : decode b_G_add 69 = .ok (.iload_n 3, 1) := by decide +kernel
theorem d_G_add_70 : decode b_G_add 70 = .ok (.iadd, 1) := by decide +kernel
theorem d_G_add_71 : decode b_G_add 71 = .ok (.iconst 0, 1) := by decide +kernel
theorem d_G_add_72 : decode b_G_add 72 = .ok (.iastore, 1) := by decide +kernel
theorem d_G_add_73 : decode b_G_add 73 = .ok (.iinc 3 1, 3) := by decide +kernel
theorem d_G_add_76 : decode b_G_add 76 = .ok (.goto (-24), 3) := by decide +kernel
theorem d_G_add_79 : decode b_G_add 79 = .ok (.return_, 1) := by decide +kernel
theorem d_G_begin_0 : decode b_G_begin 0 = .ok (.iconst 1, 1) := by decide +kernel
theorem d_G_begin_1 : decode b_G_begin 1 = .ok (.istore_n 2, 1) := by decide +kernel
theorem d_G_begin_2 : decode b_G_begin 2 = .ok (.iload_n 2, 1) := by decide +kernel
theorem d_G_begin_3 : decode b_G_begin 3 = .ok (.aload_n 0, 1) := by decide +kernel
theorem d_G_begin_4 : decode b_G_begin 4 = .ok (.getfield 43, 3) := by decide +kernel
theorem d_G_begin_7 : decode b_G_begin 7 = .ok (.if_icmp .gt 21, 3) := by decide +kernel
theorem d_G_begin_10 : decode b_G_begin 10 = .ok (.aload_n 0, 1) := by decide +kernel
theorem d_G_begin_11 : decode b_G_begin 11 = .ok (.getfield 9, 3) := by decide +kernel
theorem d_G_begin_14 : decode b_G_begin 14 = .ok (.aload_n 0, 1) := by decide +kernel
theorem d_G_begin_15 : decode b_G_begin 15 = .ok (.getfield 15, 3) := by decide +kernel
theorem d_G_begin_18 : decode b_G_begin 18 = .ok (.iload_n 2, 1) := by decide +kernel
theorem d_G_begin_19 : decode b_G_begin 19 = .ok (.iaload, 1) := by decide +kernel
theorem d_G_begin_20 : decode b_G_begin 20 = .ok (.iconst 0, 1) := by decide +kernel
theorem d_G_begin_21 : decode b_G_begin 21 = .ok (.iastore, 1) := by decide +kernel
theorem d_G_begin_22 : decode b_G_begin 22 = .ok (.iinc 2 1, 3) := by decide +kernel
theorem d_G_begin_25 : decode b_G_begin 25 = .ok (.goto (-23), 3) := by decide +kernel
theorem d_G_begin_28 : decode b_G_begin 28 = .ok (.aload_n 0, 1) := by decide +kernel
theorem d_G_begin_29 : decode b_G_begin 29 = .ok (.iconst 0, 1) := by decide +kernel
theorem d_G_begin_30 : decode b_G_begin 30 = .ok (.putfield 43, 3) := by decide +kernel
theorem d_G_begin_33 : decode b_G_begin 33 = .ok (.aload_n 0, 1) := by decide +kernel
theorem d_G_begin_34 : decode b_G_begin 34 = .ok (.iload_n 1, 1) := by decide +kernel
theorem d_G_begin_35 : decode b_G_begin 35 = .ok (.iconst 0, 1) := by decide +kernel
theorem d_G_begin_36 : decode b_G_begin 36 = .ok (.invokevirtual 47, 3) := by decide +kernel
theorem d_G_begin_39 : decode b_G_begin 39 = .ok (.return_, 1) := by decide +kernel
theorem d_G_countKept_0 : decode b_G_countKept 0 = .ok (.iconst 0, 1) := by decide +kernel
theorem d_G_countKept_1 : decode b_G_countKept 1 = .ok (.istore_n 1, 1) := by decide +kernel
theorem d_G_countKept_2 : decode b_G_countKept 2 = .ok (.iconst 1, 1) := by decide +kernel
theorem d_G_countKept_3 : decode b_G_countKept 3 = .ok (.istore_n 2, 1) := by decide +kernel
theorem d_G_countKept_4 : decode b_G_countKept 4 = .ok (.iload_n 2, 1) := by decide +kernel
theorem d_G_countKept_5 : decode b_G_countKept 5 = .ok (.aload_n 0, 1) := by decide +kernel
theorem d_G_countKept_6 : decode b_G_countKept 6 = .ok (.getfield 43, 3) := by decide +kernel
theorem d_G_countKept_9 : decode b_G_countKept 9 = .ok (.if_icmp .gt 21, 3) := by decide +kernel
theorem d_G_countKept_12 : decode b_G_countKept 12 = .ok (.aload_n 0, 1) := by decide +kernel
theorem d_G_countKept_13 : decode b_G_countKept 13 = .ok (.getfield 22, 3) := by decide +kernel
theorem d_G_countKept_16 : decode b_G_countKept 16 = .ok (.iload_n 2, 1) := by decide +kernel
theorem d_G_countKept_17 : decode b_G_countKept 17 = .ok (.baload, 1) := by decide +kernel
theorem d_G_countKept_18 : decode b_G_countKept 18 = .ok (.ifCond .eq 6, 3) := by decide +kernel
theorem d_G_countKept_21 : decode b_G_countKept 21 = .ok (.iinc 1 1, 3) := by decide +kernel
theorem d_G_countKept_24 : decode b_G_countKept 24 = .ok (.iinc 2 1, 3) := by decide +kernel
theorem d_G_countKept_27 : decode b_G_countKept 27 = .ok (.goto (-23), 3) := by decide +kernel
theorem d_G_countKept_30 : decode b_G_countKept 30 = .ok (.iload_n 1, 1) := by decide +kernel
theorem d_G_countKept_31 : decode b_G_countKept 31 = .ok (.ireturn, 1) := by decide +kernel
theorem d_G_dropDeadEnds_0 : decode b_G_dropDeadEnds 0 = .ok (.iconst 0, 1) := by decide +kernel
theorem d_G_dropDeadEnds_1 : decode b_G_dropDeadEnds 1 = .ok (.istore_n 1, 1) := by decide +kernel
theorem d_G_dropDeadEnds_2 : decode b_G_dropDeadEnds 2 = .ok (.iconst 1, 1) := by decide +kernel
theorem d_G_dropDeadEnds_3 : decode b_G_dropDeadEnds 3 = .ok (.istore_n 2, 1) := by decide +kernel
theorem d_G_dropDeadEnds_4 : decode b_G_dropDeadEnds 4 = .ok (.iload_n 2, 1) := by decide +kernel
theorem d_G_dropDeadEnds_5 : decode b_G_dropDeadEnds 5 = .ok (.aload_n 0, 1) := by decide +kernel
theorem d_G_dropDeadEnds_6 : decode b_G_dropDeadEnds 6 = .ok (.getfield 43, 3) := by decide +kernel
theorem d_G_dropDeadEnds_9 : decode b_G_dropDeadEnds 9 = .ok (.if_icmp .gt 37, 3) := by decide +kernel
theorem d_G_dropDeadEnds_12 : decode b_G_dropDeadEnds 12 = .ok (.aload_n 0, 1) := by decide +kernel
theorem d_G_dropDeadEnds_13 : decode b_G_dropDeadEnds 13 = .ok (.getfield 22, 3) := by decide +kernel
theorem d_G_dropDeadEnds_16 : decode b_G_dropDeadEnds 16 = .ok (.iload_n 2, 1) := by decide +kernel
theorem d_G_dropDeadEnds_17 : decode b_G_dropDeadEnds 17 = .ok (.baload, 1) := by decide +kernel
theorem d_G_dropDeadEnds_18 : decode b_G_dropDeadEnds 18 = .ok (.ifCond .eq 22, 3) := by decide +kernel
theorem d_G_dropDeadEnds_21 : decode b_G_dropDeadEnds 21 = .ok (.aload_n 0, 1) := by decide +kernel
theorem d_G_dropDeadEnds_22 : decode b_G_dropDeadEnds 22 = .ok (.getfield 25, 3) := by decide +kernel
theorem d_G_dropDeadEnds_25 : decode b_G_dropDeadEnds 25 = .ok (.iload_n 2, 1) := by decide +kernel
theorem d_G_dropDeadEnds_26 : decode b_G_dropDeadEnds 26 = .ok (.iaload, 1) := by decide +kernel
theorem d_G_dropDeadEnds_27 : decode b_G_dropDeadEnds 27 = .ok (.iconst (-1), 1) := by decide +kernel
theorem d_G_dropDeadEnds_28 : decode b_G_dropDeadEnds 28 = .ok (.if_icmp .ne 12, 3) := by decide +kernel
theorem d_G_dropDeadEnds_31 : decode b_G_dropDeadEnds 31 = .ok (.aload_n 0, 1) := by decide +kernel
theorem d_G_dropDeadEnds_32 : decode b_G_dropDeadEnds 32 = .ok (.getfield 22, 3) := by decide +kernel
theorem d_G_dropDeadEnds_35 : decode b_G_dropDeadEnds 35 = .ok (.iload_n 2, 1) := by decide +kernel
theorem d_G_dropDeadEnds_36 : decode b_G_dropDeadEnds 36 = .ok (.iconst 0, 1) := by decide +kernel
theorem d_G_dropDeadEnds_37 : decode b_G_dropDeadEnds 37 = .ok (.bastore, 1) := by decide +kernel
theorem d_G_dropDeadEnds_38 : decode b_G_dropDeadEnds 38 = .ok (.iconst 1, 1) := by decide +kernel
theorem d_G_dropDeadEnds_39 : decode b_G_dropDeadEnds 39 = .ok (.istore_n 1, 1) := by decide +kernel
theorem d_G_dropDeadEnds_40 : decode b_G_dropDeadEnds 40 = .ok (.iinc 2 1, 3) := by decide +kernel
theorem d_G_dropDeadEnds_43 : decode b_G_dropDeadEnds 43 = .ok (.goto (-39), 3) := by decide +kernel
theorem d_G_dropDeadEnds_46 : decode b_G_dropDeadEnds 46 = .ok (.iload_n 1, 1) := by decide +kernel
theorem d_G_dropDeadEnds_47 : decode b_G_dropDeadEnds 47 = .ok (.ireturn, 1) := by decide +kernel
theorem d_G_init_0 : decode b_G_init 0 = .ok (.aload_n 0, 1) := by decide +kernel
theorem d_G_init_1 : decode b_G_init 1 = .ok (.invokespecial 3, 3) := by decide +kernel
theorem d_G_init_4 : decode b_G_init 4 = .ok (.aload_n 0, 1) := by decide +kernel
theorem d_G_init_5 : decode b_G_init 5 = .ok (.sipush 4096, 3) := by decide +kernel
theorem d_G_init_8 : decode b_G_init 8 = .ok (.newarray .int, 2) := by decide +kernel
theorem d_G_init_10 : decode b_G_init 10 = .ok (.putfield 9, 3) := by decide +kernel
theorem d_G_init_13 : decode b_G_init 13 = .ok (.aload_n 0, 1) := by decide +kernel
theorem d_G_init_14 : decode b_G_init 14 = .ok (.sipush 201, 3) := by decide +kernel
theorem d_G_init_17 : decode b_G_init 17 = .ok (.newarray .int, 2) := by decide +kernel
theorem d_G_init_19 : decode b_G_init 19 = .ok (.putfield 15, 3) := by decide +kernel
theorem d_G_init_22 : decode b_G_init 22 = .ok (.aload_n 0, 1) := by decide +kernel
theorem d_G_init_23 : decode b_G_init 23 = .ok (.sipush 201, 3) := by decide +kernel
theorem d_G_init_26 : decode b_G_init 26 = .ok (.newarray .boolean, 2) := by decide +kernel
theorem d_G_init_28 : decode b_G_init 28 = .ok (.putfield 18, 3) := by decide +kernel
theorem d_G_init_31 : decode b_G_init 31 = .ok (.aload_n 0, 1) := by decide +kernel
theorem d_G_init_32 : decode b_G_init 32 = .ok (.sipush 201, 3) := by decide +kernel
theorem d_G_init_35 : decode b_G_init 35 = .ok (.newarray .boolean, 2) := by decide +kernel
theorem d_G_init_37 : decode b_G_init 37 = .ok (.putfield 22, 3) := by decide +kernel
theorem d_G_init_40 : decode b_G_init 40 = .ok (.aload_n 0, 1) := by decide +kernel
theorem d_G_init_41 : decode b_G_init 41 = .ok (.sipush 201, 3) := by decide +kernel
theorem d_G_init_44 : decode b_G_init 44 = .ok (.newarray .int, 2) := by decide +kernel
theorem d_G_init_46 : decode b_G_init 46 = .ok (.putfield 25, 3) := by decide +kernel
theorem d_G_init_49 : decode b_G_init 49 = .ok (.aload_n 0, 1) := by decide +kernel
theorem d_G_init_50 : decode b_G_init 50 = .ok (.sipush 201, 3) := by decide +kernel
theorem d_G_init_53 : decode b_G_init 53 = .ok (.newarray .int, 2) := by decide +kernel
theorem d_G_init_55 : decode b_G_init 55 = .ok (.putfield 28, 3) := by decide +kernel
theorem d_G_init_58 : decode b_G_init 58 = .ok (.aload_n 0, 1) := by decide +kernel
theorem d_G_init_59 : decode b_G_init 59 = .ok (.sipush 2412, 3) := by decide +kernel
theorem d_G_init_62 : decode b_G_init 62 = .ok (.newarray .int, 2) := by decide +kernel
theorem d_G_init_64 : decode b_G_init 64 = .ok (.putfield 31, 3) := by decide +kernel
theorem d_G_init_67 : decode b_G_init 67 = .ok (.aload_n 0, 1) := by decide +kernel
theorem d_G_init_68 : decode b_G_init 68 = .ok (.sipush 201, 3) := by decide +kernel
theorem d_G_init_71 : decode b_G_init 71 = .ok (.newarray .int, 2) := by decide +kernel
theorem d_G_init_73 : decode b_G_init 73 = .ok (.putfield 34, 3) := by decide +kernel
theorem d_G_init_76 : decode b_G_init 76 = .ok (.aload_n 0, 1) := by decide +kernel
theorem d_G_init_77 : decode b_G_init 77 = .ok (.sipush 2412, 3) := by decide +kernel
theorem d_G_init_80 : decode b_G_init 80 = .ok (.newarray .int, 2) := by decide +kernel
theorem d_G_init_82 : decode b_G_init 82 = .ok (.putfield 37, 3) := by decide +kernel
theorem d_G_init_85 : decode b_G_init 85 = .ok (.aload_n 0, 1) := by decide +kernel
theorem d_G_init_86 : decode b_G_init 86 = .ok (.sipush 201, 3) := by decide +kernel
theorem d_G_init_89 : decode b_G_init 89 = .ok (.newarray .int, 2) := by decide +kernel
theorem d_G_init_91 : decode b_G_init 91 = .ok (.putfield 40, 3) := by decide +kernel
theorem d_G_init_94 : decode b_G_init 94 = .ok (.return_, 1) := by decide +kernel
theorem d_G_keptTarget_0 : decode b_G_keptTarget 0 = .ok (.aload_n 0, 1) := by decide +kernel
theorem d_G_keptTarget_1 : decode b_G_keptTarget 1 = .ok (.getfield 31, 3) := by decide +kernel
theorem d_G_keptTarget_4 : decode b_G_keptTarget 4 = .ok (.iload_n 1, 1) := by decide +kernel
theorem d_G_keptTarget_5 : decode b_G_keptTarget 5 = .ok (.bipush 12, 2) := by decide +kernel
theorem d_G_keptTarget_7 : decode b_G_keptTarget 7 = .ok (.imul, 1) := by decide +kernel
theorem d_G_keptTarget_8 : decode b_G_keptTarget 8 = .ok (.iload_n 2, 1) := by decide +kernel
theorem d_G_keptTarget_9 : decode b_G_keptTarget 9 = .ok (.iadd, 1) := by decide +kernel
theorem d_G_keptTarget_10 : decode b_G_keptTarget 10 = .ok (.iaload, 1) := by decide +kernel
theorem d_G_keptTarget_11 : decode b_G_keptTarget 11 = .ok (.istore_n 3, 1) := by decide +kernel
theorem d_G_keptTarget_12 : decode b_G_keptTarget 12 = .ok (.iload_n 3, 1) := by decide +kernel
theorem d_G_keptTarget_13 : decode b_G_keptTarget 13 = .ok (.ifCond .eq 16, 3) := by decide +kernel
theorem d_G_keptTarget_16 : decode b_G_keptTarget 16 = .ok (.aload_n 0, 1) := by decide +kernel
theorem d_G_keptTarget_17 : decode b_G_keptTarget 17 = .ok (.getfield 22, 3) := by decide +kernel
theorem d_G_keptTarget_20 : decode b_G_keptTarget 20 = .ok (.iload_n 3, 1) := by decide +kernel
theorem d_G_keptTarget_21 : decode b_G_keptTarget 21 = .ok (.baload, 1) := by decide +kernel
theorem d_G_keptTarget_22 : decode b_G_keptTarget 22 = .ok (.ifCond .eq 7, 3) := by decide +kernel
theorem d_G_keptTarget_25 : decode b_G_keptTarget 25 = .ok (.iload_n 3, 1) := by decide +kernel
theorem d_G_keptTarget_26 : decode b_G_keptTarget 26 = .ok (.goto 4, 3) := by decide +kernel
theorem d_G_keptTarget_29 : decode b_G_keptTarget 29 = .ok (.iconst 0, 1) := by decide +kernel
theorem d_G_keptTarget_30 : decode b_G_keptTarget 30 = .ok (.ireturn, 1) := by decide +kernel
theorem d_G_link_0 : decode b_G_link 0 = .ok (.iload_n 1, 1) := by decide +kernel
theorem d_G_link_1 : decode b_G_link 1 = .ok (.bipush 12, 2) := by decide +kernel
theorem d_G_link_3 : decode b_G_link 3 = .ok (.imul, 1) := by decide +kernel
theorem d_G_link_4 : decode b_G_link 4 = .ok (.iload_n 2, 1) := by decide +kernel
theorem d_G_link_5 : decode b_G_link 5 = .ok (.iadd, 1) := by decide +kernel
theorem d_G_link_6 : decode b_G_link 6 = .ok (.istore 4, 2) := by decide +kernel
theorem d_G_link_8 : decode b_G_link 8 = .ok (.aload_n 0, 1) := by decide +kernel
theorem d_G_link_9 : decode b_G_link 9 = .ok (.getfield 9, 3) := by decide +kernel
theorem d_G_link_12 : decode b_G_link 12 = .ok (.iload_n 3, 1) := by decide +kernel
theorem d_G_link_13 : decode b_G_link 13 = .ok (.iaload, 1) := by decide +kernel
theorem d_G_link_14 : decode b_G_link 14 = .ok (.ifCond .ne 22, 3) := by decide +kernel
theorem d_G_link_17 : decode b_G_link 17 = .ok (.aload_n 0, 1) := by decide +kernel
theorem d_G_link_18 : decode b_G_link 18 = .ok (.getfield 43, 3) := by decide +kernel
theorem d_G_link_21 : decode b_G_link 21 = .ok (.sipush 200, 3) := by decide +kernel
theorem d_G_link_24 : decode b_G_link 24 = .ok (.if_icmp .ne 5, 3) := by decide +kernel
theorem d_G_link_27 : decode b_G_link 27 = .ok (.iconst 0, 1) := by decide +kernel
theorem d_G_link_28 : decode b_G_link 28 = .ok (.ireturn, 1) := by decide +kernel
theorem d_G_link_29 : decode b_G_link 29 = .ok (.aload_n 0, 1) := by decide +kernel
theorem d_G_link_30 : decode b_G_link 30 = .ok (.iload_n 3, 1) := by decide +kernel
theorem d_G_link_31 : decode b_G_link 31 = .ok (.iload 4, 2) := by decide +kernel
theorem d_G_link_33 : decode b_G_link 33 = .ok (.invokevirtual 47, 3) := by decide +kernel
theorem d_G_link_36 : decode b_G_link 36 = .ok (.aload_n 0, 1) := by decide +kernel
theorem d_G_link_37 : decode b_G_link 37 = .ok (.getfield 9, 3) := by decide +kernel
theorem d_G_link_40 : decode b_G_link 40 = .ok (.iload_n 3, 1) := by decide +kernel
theorem d_G_link_41 : decode b_G_link 41 = .ok (.iaload, 1) := by decide +kernel
theorem d_G_link_42 : decode b_G_link 42 = .ok (.istore 5, 2) := by decide +kernel
theorem d_G_link_44 : decode b_G_link 44 = .ok (.aload_n 0, 1) := by decide +kernel
theorem d_G_link_45 : decode b_G_link 45 = .ok (.getfield 31, 3) := by decide +kernel
theorem d_G_link_48 : decode b_G_link 48 = .ok (.iload 4, 2) := by decide +kernel
theorem d_G_link_50 : decode b_G_link 50 = .ok (.iload 5, 2) := by decide +kernel
theorem d_G_link_52 : decode b_G_link 52 = .ok (.iastore, 1) := by decide +kernel
theorem d_G_link_53 : decode b_G_link 53 = .ok (.aload_n 0, 1) := by decide +kernel
theorem d_G_link_54 : decode b_G_link 54 = .ok (.getfield 37, 3) := by decide +kernel
theorem d_G_link_57 : decode b_G_link 57 = .ok (.iload 4, 2) := by decide +kernel
theorem d_G_link_59 : decode b_G_link 59 = .ok (.aload_n 0, 1) := by decide +kernel
theorem d_G_link_60 : decode b_G_link 60 = .ok (.getfield 34, 3) := by decide +kernel
theorem d_G_link_63 : decode b_G_link 63 = .ok (.iload 5, 2) := by decide +kernel
theorem d_G_link_65 : decode b_G_link 65 = .ok (.iaload, 1) := by decide +kernel
theorem d_G_link_66 : decode b_G_link 66 = .ok (.iastore, 1) := by decide +kernel
theorem d_G_link_67 : decode b_G_link 67 = .ok (.aload_n 0, 1) := by decide +kernel
theorem d_G_link_68 : decode b_G_link 68 = .ok (.getfield 34, 3) := by decide +kernel
theorem d_G_link_71 : decode b_G_link 71 = .ok (.iload 5, 2) := by decide +kernel
theorem d_G_link_73 : decode b_G_link 73 = .ok (.iload 4, 2) := by decide +kernel
theorem d_G_link_75 : decode b_G_link 75 = .ok (.iastore, 1) := by decide +kernel
theorem d_G_link_76 : decode b_G_link 76 = .ok (.iload 5, 2) := by decide +kernel
theorem d_G_link_78 : decode b_G_link 78 = .ok (.ireturn, 1) := by decide +kernel
theorem d_G_measure_0 : decode b_G_measure 0 = .ok (.iconst 0, 1) := by decide +kernel
theorem d_G_measure_1 : decode b_G_measure 1 = .ok (.istore_n 1, 1) := by decide +kernel
theorem d_G_measure_2 : decode b_G_measure 2 = .ok (.iconst 1, 1) := by decide +kernel
theorem d_G_measure_3 : decode b_G_measure 3 = .ok (.istore_n 2, 1) := by decide +kernel
theorem d_G_measure_4 : decode b_G_measure 4 = .ok (.iload_n 2, 1) := by decide +kernel
theorem d_G_measure_5 : decode b_G_measure 5 = .ok (.aload_n 0, 1) := by decide +kernel
theorem d_G_measure_6 : decode b_G_measure 6 = .ok (.getfield 43, 3) := by decide +kernel
theorem d_G_measure_9 : decode b_G_measure 9 = .ok (.if_icmp .gt 62, 3) := by decide +kernel
theorem d_G_measure_12 : decode b_G_measure 12 = .ok (.aload_n 0, 1) := by decide +kernel
theorem d_G_measure_13 : decode b_G_measure 13 = .ok (.getfield 22, 3) := by decide +kernel
theorem d_G_measure_16 : decode b_G_measure 16 = .ok (.iload_n 2, 1) := by decide +kernel
theorem d_G_measure_17 : decode b_G_measure 17 = .ok (.baload, 1) := by decide +kernel
theorem d_G_measure_18 : decode b_G_measure 18 = .ok (.ifCond .eq 16, 3) := by decide +kernel
theorem d_G_measure_21 : decode b_G_measure 21 = .ok (.aload_n 0, 1) := by decide +kernel
theorem d_G_measure_22 : decode b_G_measure 22 = .ok (.getfield 18, 3) := by decide +kernel
theorem d_G_measure_25 : decode b_G_measure 25 = .ok (.iload_n 2, 1) := by decide +kernel
theorem d_G_measure_26 : decode b_G_measure 26 = .ok (.baload, 1) := by decide +kernel
theorem d_G_measure_27 : decode b_G_measure 27 = .ok (.ifCond .eq 7, 3) := by decide +kernel
theorem d_G_measure_30 : decode b_G_measure 30 = .ok (.iconst 1, 1) := by decide +kernel
theorem d_G_measure_31 : decode b_G_measure 31 = .ok (.goto 4, 3) := by decide +kernel
theorem d_G_measure_34 : decode b_G_measure 34 = .ok (.iconst 0, 1) := by decide +kernel
theorem d_G_measure_35 : decode b_G_measure 35 = .ok (.istore_n 3, 1) := by decide +kernel
theorem d_G_measure_36 : decode b_G_measure 36 = .ok (.aload_n 0, 1) := by decide +kernel
theorem d_G_measure_37 : decode b_G_measure 37 = .ok (.getfield 25, 3) := by decide +kernel
theorem d_G_measure_40 : decode b_G_measure 40 = .ok (.iload_n 2, 1) := by decide +kernel
theorem d_G_measure_41 : decode b_G_measure 41 = .ok (.iload_n 3, 1) := by decide +kernel
theorem d_G_measure_42 : decode b_G_measure 42 = .ok (.ifCond .eq 7, 3) := by decide +kernel
theorem d_G_measure_45 : decode b_G_measure 45 = .ok (.iconst 0, 1) := by decide +kernel
theorem d_G_measure_46 : decode b_G_measure 46 = .ok (.goto 4, 3) := by decide +kernel
theorem d_G_measure_49 : decode b_G_measure 49 = .ok (.iconst (-1), 1) := by decide +kernel
theorem d_G_measure_50 : decode b_G_measure 50 = .ok (.iastore, 1) := by decide +kernel
theorem d_G_measure_51 : decode b_G_measure 51 = .ok (.iload_n 3, 1) := by decide +kernel
theorem d_G_measure_52 : decode b_G_measure 52 = .ok (.ifCond .eq 13, 3) := by decide +kernel
theorem d_G_measure_55 : decode b_G_measure 55 = .ok (.aload_n 0, 1) := by decide +kernel
theorem d_G_measure_56 : decode b_G_measure 56 = .ok (.getfield 40, 3) := by decide +kernel
theorem d_G_measure_59 : decode b_G_measure 59 = .ok (.iload_n 1, 1) := by decide +kernel
theorem d_G_measure_60 : decode b_G_measure 60 = .ok (.iload_n 2, 1) := by decide +kernel
theorem d_G_measure_61 : decode b_G_measure 61 = .ok (.iastore, 1) := by decide +kernel
theorem d_G_measure_62 : decode b_G_measure 62 = .ok (.iinc 1 1, 3) := by decide +kernel
theorem d_G_measure_65 : decode b_G_measure 65 = .ok (.iinc 2 1, 3) := by decide +kernel
theorem d_G_measure_68 : decode b_G_measure 68 = .ok (.goto (-64), 3) := by decide +kernel
theorem d_G_measure_71 : decode b_G_measure 71 = .ok (.iconst 0, 1) := by decide +kernel
theorem d_G_measure_72 : decode b_G_measure 72 = .ok (.istore_n 2, 1) := by decide +kernel
theorem d_G_measure_73 : decode b_G_measure 73 = .ok (.iload_n 2, 1) := by decide +kernel
theorem d_G_measure_74 : decode b_G_measure 74 = .ok (.iload_n 1, 1) := by decide +kernel
theorem d_G_measure_75 : decode b_G_measure 75 = .ok (.if_icmp .ge 28, 3) := by decide +kernel
theorem d_G_measure_78 : decode b_G_measure 78 = .ok (.iload_n 2, 1) := by decide +kernel
theorem d_G_measure_79 : decode b_G_measure 79 = .ok (.sipush 200, 3) := by decide +kernel
theorem d_G_measure_82 : decode b_G_measure 82 = .ok (.if_icmp .ge 21, 3) := by decide +kernel
theorem d_G_measure_85 : decode b_G_measure 85 = .ok (.aload_n 0, 1) := by decide +kernel
theorem d_G_measure_86 : decode b_G_measure 86 = .ok (.aload_n 0, 1) := by decide +kernel
theorem d_G_measure_87 : decode b_G_measure 87 = .ok (.getfield 40, 3) := by decide +kernel
theorem d_G_measure_90 : decode b_G_measure 90 = .ok (.iload_n 2, 1) := by decide +kernel
theorem d_G_measure_91 : decode b_G_measure 91 = .ok (.iaload, 1) := by decide +kernel
theorem d_G_measure_92 : decode b_G_measure 92 = .ok (.iload_n 1, 1) := by decide +kernel
theorem d_G_measure_93 : decode b_G_measure 93 = .ok (.invokevirtual 51, 3) := by decide +kernel
theorem d_G_measure_96 : decode b_G_measure 96 = .ok (.istore_n 1, 1) := by decide +kernel
theorem d_G_measure_97 : decode b_G_measure 97 = .ok (.iinc 2 1, 3) := by decide +kernel
theorem d_G_measure_100 : decode b_G_measure 100 = .ok (.goto (-27), 3) := by decide +kernel
theorem d_G_measure_103 : decode b_G_measure 103 = .ok (.return_, 1) := by decide +kernel
theorem d_G_measureInto_0 : decode b_G_measureInto 0 = .ok (.iload_n 2, 1) := by decide +kernel
theorem d_G_measureInto_1 : decode b_G_measureInto 1 = .ok (.istore_n 3, 1) := by decide +kernel
theorem d_G_measureInto_2 : decode b_G_measureInto 2 = .ok (.aload_n 0, 1) := by decide +kernel
theorem d_G_measureInto_3 : decode b_G_measureInto 3 = .ok (.getfield 34, 3) := by decide +kernel
theorem d_G_measureInto_6 : decode b_G_measureInto 6 = .ok (.iload_n 1, 1) := by decide +kernel
theorem d_G_measureInto_7 : decode b_G_measureInto 7 = .ok (.iaload, 1) := by decide +kernel
theorem d_G_measureInto_8 : decode b_G_measureInto 8 = .ok (.istore 4, 2) := by decide +kernel
theorem d_G_measureInto_10 : decode b_G_measureInto 10 = .ok (.iconst 0, 1) := by decide +kernel
theorem d_G_measureInto_11 : decode b_G_measureInto 11 = .ok (.istore 5, 2) := by decide +kernel
theorem d_G_measureInto_13 : decode b_G_measureInto 13 = .ok (.iload 4, 2) := by decide +kernel
theorem d_G_measureInto_15 : decode b_G_measureInto 15 = .ok (.ifCond .eq 80, 3) := by decide +kernel
theorem d_G_measureInto_18 : decode b_G_measureInto 18 = .ok (.iload 5, 2) := by decide +kernel
theorem d_G_measureInto_20 : decode b_G_measureInto 20 = .ok (.sipush 2412, 3) := by decide +kernel
theorem d_G_measureInto_23 : decode b_G_measureInto 23 = .ok (.if_icmp .ge 72, 3) := by decide +kernel
theorem d_G_measureInto_26 : decode b_G_measureInto 26 = .ok (.iload 4, 2) := by decide +kernel
theorem d_G_measureInto_28 : decode b_G_measureInto 28 = .ok (.bipush 12, 2) := by decide +kernel
theorem d_G_measureInto_30 : decode b_G_measureInto 30 = .ok (.idiv, 1) := by decide +kernel
theorem d_G_measureInto_31 : decode b_G_measureInto 31 = .ok (.istore 6, 2) := by decide +kernel
theorem d_G_measureInto_33 : decode b_G_measureInto 33 = .ok (.aload_n 0, 1) := by decide +kernel
theorem d_G_measureInto_34 : decode b_G_measureInto 34 = .ok (.getfield 22, 3) := by decide +kernel
theorem d_G_measureInto_37 : decode b_G_measureInto 37 = .ok (.iload 6, 2) := by decide +kernel
theorem d_G_measureInto_39 : decode b_G_measureInto 39 = .ok (.baload, 1) := by decide +kernel
theorem d_G_measureInto_40 : decode b_G_measureInto 40 = .ok (.ifCond .eq 40, 3) := by decide +kernel
theorem d_G_measureInto_43 : decode b_G_measureInto 43 = .ok (.aload_n 0, 1) := by decide +kernel
theorem d_G_measureInto_44 : decode b_G_measureInto 44 = .ok (.getfield 25, 3) := by decide +kernel
theorem d_G_measureInto_47 : decode b_G_measureInto 47 = .ok (.iload 6, 2) := by decide +kernel
theorem d_G_measureInto_49 : decode b_G_measureInto 49 = .ok (.iaload, 1) := by decide +kernel
theorem d_G_measureInto_50 : decode b_G_measureInto 50 = .ok (.iconst (-1), 1) := by decide +kernel
theorem d_G_measureInto_51 : decode b_G_measureInto 51 = .ok (.if_icmp .ne 29, 3) := by decide +kernel
theorem d_G_measureInto_54 : decode b_G_measureInto 54 = .ok (.aload_n 0, 1) := by decide +kernel
theorem d_G_measureInto_55 : decode b_G_measureInto 55 = .ok (.getfield 25, 3) := by decide +kernel
theorem d_G_measureInto_58 : decode b_G_measureInto 58 = .ok (.iload 6, 2) := by decide +kernel
theorem d_G_measureInto_60 : decode b_G_measureInto 60 = .ok (.aload_n 0, 1) := by decide +kernel
theorem d_G_measureInto_61 : decode b_G_measureInto 61 = .ok (.getfield 25, 3) := by decide +kernel
theorem d_G_measureInto_64 : decode b_G_measureInto 64 = .ok (.iload_n 1, 1) := by decide +kernel
theorem d_G_measureInto_65 : decode b_G_measureInto 65 = .ok (.iaload, 1) := by decide +kernel
theorem d_G_measureInto_66 : decode b_G_measureInto 66 = .ok (.iconst 1, 1) := by decide +kernel
theorem d_G_measureInto_67 : decode b_G_measureInto 67 = .ok (.iadd, 1) := by decide +kernel
theorem d_G_measureInto_68 : decode b_G_measureInto 68 = .ok (.iastore, 1) := by decide +kernel
theorem d_G_measureInto_69 : decode b_G_measureInto 69 = .ok (.aload_n 0, 1) := by decide +kernel
theorem d_G_measureInto_70 : decode b_G_measureInto 70 = .ok (.getfield 40, 3) := by decide +kernel
theorem d_G_measureInto_73 : decode b_G_measureInto 73 = .ok (.iload_n 3, 1) := by decide +kernel
theorem d_G_measureInto_74 : decode b_G_measureInto 74 = .ok (.iload 6, 2) := by decide +kernel
theorem d_G_measureInto_76 : decode b_G_measureInto 76 = .ok (.iastore, 1) := by decide +kernel
theorem d_G_measureInto_77 : decode b_G_measureInto 77 = .ok (.iinc 3 1, 3) := by decide +kernel
theorem d_G_measureInto_80 : decode b_G_measureInto 80 = .ok (.aload_n 0, 1) := by decide +kernel
theorem d_G_measureInto_81 : decode b_G_measureInto 81 = .ok (.getfield 37, 3) := by decide +kernel
theorem d_G_measureInto_84 : decode b_G_measureInto 84 = .ok (.iload 4, 2) := by decide +kernel
theorem d_G_measureInto_86 : decode b_G_measureInto 86 = .ok (.iaload, 1) := by decide +kernel
theorem d_G_measureInto_87 : decode b_G_measureInto 87 = .ok (.istore 4, 2) := by decide +kernel
theorem d_G_measureInto_89 : decode b_G_measureInto 89 = .ok (.iinc 5 1, 3) := by decide +kernel
theorem d_G_measureInto_92 : decode b_G_measureInto 92 = .ok (.goto (-79), 3) := by decide +kernel
theorem d_G_measureInto_95 : decode b_G_measureInto 95 = .ok (.iload_n 3, 1) := by decide +kernel
theorem d_G_measureInto_96 : decode b_G_measureInto 96 = .ok (.ireturn, 1) := by decide +kernel
theorem d_Y_build_0 : decode b_Y_build 0 = .ok (.aload_n 0, 1) := by decide +kernel
theorem d_Y_build_1 : decode b_Y_build 1 = .ok (.iload_n 1, 1) := by decide +kernel
theorem d_Y_build_2 : decode b_Y_build 2 = .ok (.invokevirtual 29, 3) := by decide +kernel
theorem d_Y_build_5 : decode b_Y_build 5 = .ok (.ifCond .ne 5, 3) := by decide +kernel
theorem d_Y_build_8 : decode b_Y_build 8 = .ok (.iconst 0, 1) := by decide +kernel
theorem d_Y_build_9 : decode b_Y_build 9 = .ok (.ireturn, 1) := by decide +kernel
theorem d_Y_build_10 : decode b_Y_build 10 = .ok (.aload_n 0, 1) := by decide +kernel
theorem d_Y_build_11 : decode b_Y_build 11 = .ok (.invokevirtual 33, 3) := by decide +kernel
theorem d_Y_build_14 : decode b_Y_build 14 = .ok (.aload_n 2, 1) := by decide +kernel
theorem d_Y_build_15 : decode b_Y_build 15 = .ok (.aload_n 0, 1) := by decide +kernel
theorem d_Y_build_16 : decode b_Y_build 16 = .ok (.getfield 25, 3) := by decide +kernel
theorem d_Y_build_19 : decode b_Y_build 19 = .ok (.getfield 36, 3) := by decide +kernel
theorem d_Y_build_22 : decode b_Y_build 22 = .ok (.putfield 42, 3) := by decide +kernel
theorem d_Y_build_25 : decode b_Y_build 25 = .ok (.aload_n 2, 1) := by decide +kernel
theorem d_Y_build_26 : decode b_Y_build 26 = .ok (.aload_n 0, 1) := by decide +kernel
theorem d_Y_build_27 : decode b_Y_build 27 = .ok (.getfield 25, 3) := by decide +kernel
theorem d_Y_build_30 : decode b_Y_build 30 = .ok (.invokevirtual 47, 3) := by decide +kernel
theorem d_Y_build_33 : decode b_Y_build 33 = .ok (.putfield 51, 3) := by decide +kernel
theorem d_Y_build_36 : decode b_Y_build 36 = .ok (.aload_n 0, 1) := by decide +kernel
theorem d_Y_build_37 : decode b_Y_build 37 = .ok (.aload_n 2, 1) := by decide +kernel
theorem d_Y_build_38 : decode b_Y_build 38 = .ok (.invokevirtual 54, 3) := by decide +kernel
theorem d_Y_build_41 : decode b_Y_build 41 = .ok (.aload_n 0, 1) := by decide +kernel
theorem d_Y_build_42 : decode b_Y_build 42 = .ok (.aload_n 2, 1) := by decide +kernel
theorem d_Y_build_43 : decode b_Y_build 43 = .ok (.invokevirtual 58, 3) := by decide +kernel
theorem d_Y_build_46 : decode b_Y_build 46 = .ok (.iconst 1, 1) := by decide +kernel
theorem d_Y_build_47 : decode b_Y_build 47 = .ok (.ireturn, 1) := by decide +kernel
theorem d_Y_dropUnruly_0 : decode b_Y_dropUnruly 0 = .ok (.iconst 0, 1) := by decide +kernel
theorem d_Y_dropUnruly_1 : decode b_Y_dropUnruly 1 = .ok (.istore_n 1, 1) := by decide +kernel
theorem d_Y_dropUnruly_2 : decode b_Y_dropUnruly 2 = .ok (.aload_n 0, 1) := by decide +kernel
theorem d_Y_dropUnruly_3 : decode b_Y_dropUnruly 3 = .ok (.getfield 25, 3) := by decide +kernel
theorem d_Y_dropUnruly_6 : decode b_Y_dropUnruly 6 = .ok (.getfield 36, 3) := by decide +kernel
theorem d_Y_dropUnruly_9 : decode b_Y_dropUnruly 9 = .ok (.istore_n 2, 1) := by decide +kernel
theorem d_Y_dropUnruly_10 : decode b_Y_dropUnruly 10 = .ok (.iload_n 2, 1) := by decide +kernel
theorem d_Y_dropUnruly_11 : decode b_Y_dropUnruly 11 = .ok (.iconst 1, 1) := by decide +kernel
theorem d_Y_dropUnruly_12 : decode b_Y_dropUnruly 12 = .ok (.if_icmp .lt 41, 3) := by decide +kernel
theorem d_Y_dropUnruly_15 : decode b_Y_dropUnruly 15 = .ok (.aload_n 0, 1) := by decide +kernel
theorem d_Y_dropUnruly_16 : decode b_Y_dropUnruly 16 = .ok (.getfield 25, 3) := by decide +kernel
theorem d_Y_dropUnruly_19 : decode b_Y_dropUnruly 19 = .ok (.getfield 85, 3) := by decide +kernel
theorem d_Y_dropUnruly_22 : decode b_Y_dropUnruly 22 = .ok (.iload_n 2, 1) := by decide +kernel
theorem d_Y_dropUnruly_23 : decode b_Y_dropUnruly 23 = .ok (.baload, 1) := by decide +kernel
theorem d_Y_dropUnruly_24 : decode b_Y_dropUnruly 24 = .ok (.ifCond .eq 23, 3) := by decide +kernel
theorem d_Y_dropUnruly_27 : decode b_Y_dropUnruly 27 = .ok (.aload_n 0, 1) := by decide +kernel
theorem d_Y_dropUnruly_28 : decode b_Y_dropUnruly 28 = .ok (.iload_n 2, 1) := by decide +kernel
theorem d_Y_dropUnruly_29 : decode b_Y_dropUnruly 29 = .ok (.invokevirtual 117, 3) := by decide +kernel
theorem d_Y_dropUnruly_32 : decode b_Y_dropUnruly 32 = .ok (.ifCond .eq 15, 3) := by decide +kernel
theorem d_Y_dropUnruly_35 : decode b_Y_dropUnruly 35 = .ok (.aload_n 0, 1) := by decide +kernel
theorem d_Y_dropUnruly_36 : decode b_Y_dropUnruly 36 = .ok (.getfield 25, 3) := by decide +kernel
theorem d_Y_dropUnruly_39 : decode b_Y_dropUnruly 39 = .ok (.getfield 85, 3) := by decide +kernel
theorem d_Y_dropUnruly_42 : decode b_Y_dropUnruly 42 = .ok (.iload_n 2, 1) := by decide +kernel
theorem d_Y_dropUnruly_43 : decode b_Y_dropUnruly 43 = .ok (.iconst 0, 1) := by decide +kernel
theorem d_Y_dropUnruly_44 : decode b_Y_dropUnruly 44 = .ok (.bastore, 1) := by decide +kernel
theorem d_Y_dropUnruly_45 : decode b_Y_dropUnruly 45 = .ok (.iconst 1, 1) := by decide +kernel
theorem d_Y_dropUnruly_46 : decode b_Y_dropUnruly 46 = .ok (.istore_n 1, 1) := by decide +kernel
theorem d_Y_dropUnruly_47 : decode b_Y_dropUnruly 47 = .ok (.iinc 2 (-1), 3) := by decide +kernel
theorem d_Y_dropUnruly_50 : decode b_Y_dropUnruly 50 = .ok (.goto (-40), 3) := by decide +kernel
theorem d_Y_dropUnruly_53 : decode b_Y_dropUnruly 53 = .ok (.iload_n 1, 1) := by decide +kernel
theorem d_Y_dropUnruly_54 : decode b_Y_dropUnruly 54 = .ok (.ireturn, 1) := by decide +kernel
theorem d_Y_explore_0 : decode b_Y_explore 0 = .ok (.aload_n 0, 1) := by decide +kernel
theorem d_Y_explore_1 : decode b_Y_explore 1 = .ok (.getfield 25, 3) := by decide +kernel
theorem d_Y_explore_4 : decode b_Y_explore 4 = .ok (.aload_n 0, 1) := by decide +kernel
theorem d_Y_explore_5 : decode b_Y_explore 5 = .ok (.getfield 21, 3) := by decide +kernel
theorem d_Y_explore_8 : decode b_Y_explore 8 = .ok (.iload_n 1, 1) := by decide +kernel
theorem d_Y_explore_9 : decode b_Y_explore 9 = .ok (.invokevirtual 61, 3) := by decide +kernel
theorem d_Y_explore_12 : decode b_Y_explore 12 = .ok (.invokevirtual 67, 3) := by decide +kernel
theorem d_Y_explore_15 : decode b_Y_explore 15 = .ok (.iconst 1, 1) := by decide +kernel
theorem d_Y_explore_16 : decode b_Y_explore 16 = .ok (.istore_n 2, 1) := by decide +kernel
theorem d_Y_explore_17 : decode b_Y_explore 17 = .ok (.iload_n 2, 1) := by decide +kernel
theorem d_Y_explore_18 : decode b_Y_explore 18 = .ok (.aload_n 0, 1) := by decide +kernel
theorem d_Y_explore_19 : decode b_Y_explore 19 = .ok (.getfield 25, 3) := by decide +kernel
theorem d_Y_explore_22 : decode b_Y_explore 22 = .ok (.getfield 36, 3) := by decide +kernel
theorem d_Y_explore_25 : decode b_Y_explore 25 = .ok (.if_icmp .gt 27, 3) := by decide +kernel
theorem d_Y_explore_28 : decode b_Y_explore 28 = .ok (.iload_n 2, 1) := by decide +kernel
theorem d_Y_explore_29 : decode b_Y_explore 29 = .ok (.sipush 200, 3) := by decide +kernel
theorem d_Y_explore_32 : decode b_Y_explore 32 = .ok (.if_icmp .gt 20, 3) := by decide +kernel
theorem d_Y_explore_35 : decode b_Y_explore 35 = .ok (.aload_n 0, 1) := by decide +kernel
theorem d_Y_explore_36 : decode b_Y_explore 36 = .ok (.iload_n 2, 1) := by decide +kernel
theorem d_Y_explore_37 : decode b_Y_explore 37 = .ok (.iload_n 1, 1) := by decide +kernel
theorem d_Y_explore_38 : decode b_Y_explore 38 = .ok (.invokevirtual 71, 3) := by decide +kernel
theorem d_Y_explore_41 : decode b_Y_explore 41 = .ok (.ifCond .ne 5, 3) := by decide +kernel
theorem d_Y_explore_44 : decode b_Y_explore 44 = .ok (.iconst 0, 1) := by decide +kernel
theorem d_Y_explore_45 : decode b_Y_explore 45 = .ok (.ireturn, 1) := by decide +kernel
theorem d_Y_explore_46 : decode b_Y_explore 46 = .ok (.iinc 2 1, 3) := by decide +kernel
theorem d_Y_explore_49 : decode b_Y_explore 49 = .ok (.goto (-32), 3) := by decide +kernel
theorem d_Y_explore_52 : decode b_Y_explore 52 = .ok (.iconst 1, 1) := by decide +kernel
theorem d_Y_explore_53 : decode b_Y_explore 53 = .ok (.ireturn, 1) := by decide +kernel
theorem d_Y_exploreFrom_0 : decode b_Y_exploreFrom 0 = .ok (.aload_n 0, 1) := by decide +kernel
theorem d_Y_exploreFrom_1 : decode b_Y_exploreFrom 1 = .ok (.getfield 25, 3) := by decide +kernel
theorem d_Y_exploreFrom_4 : decode b_Y_exploreFrom 4 = .ok (.getfield 75, 3) := by decide +kernel
theorem d_Y_exploreFrom_7 : decode b_Y_exploreFrom 7 = .ok (.iload_n 1, 1) := by decide +kernel
theorem d_Y_exploreFrom_8 : decode b_Y_exploreFrom 8 = .ok (.iaload, 1) := by decide +kernel
theorem d_Y_exploreFrom_9 : decode b_Y_exploreFrom 9 = .ok (.istore_n 3, 1) := by decide +kernel
theorem d_Y_exploreFrom_10 : decode b_Y_exploreFrom 10 = .ok (.aload_n 0, 1) := by decide +kernel
theorem d_Y_exploreFrom_11 : decode b_Y_exploreFrom 11 = .ok (.getfield 25, 3) := by decide +kernel
theorem d_Y_exploreFrom_14 : decode b_Y_exploreFrom 14 = .ok (.getfield 78, 3) := by decide +kernel
theorem d_Y_exploreFrom_17 : decode b_Y_exploreFrom 17 = .ok (.iload_n 1, 1) := by decide +kernel
theorem d_Y_exploreFrom_18 : decode b_Y_exploreFrom 18 = .ok (.aload_n 0, 1) := by decide +kernel
theorem d_Y_exploreFrom_19 : decode b_Y_exploreFrom 19 = .ok (.getfield 21, 3) := by decide +kernel
theorem d_Y_exploreFrom_22 : decode b_Y_exploreFrom 22 = .ok (.iload_n 3, 1) := by decide +kernel
theorem d_Y_exploreFrom_23 : decode b_Y_exploreFrom 23 = .ok (.iload_n 2, 1) := by decide +kernel
theorem d_Y_exploreFrom_24 : decode b_Y_exploreFrom 24 = .ok (.invokevirtual 82, 3) := by decide +kernel
theorem d_Y_exploreFrom_27 : decode b_Y_exploreFrom 27 = .ok (.bastore, 1) := by decide +kernel
theorem d_Y_exploreFrom_28 : decode b_Y_exploreFrom 28 = .ok (.aload_n 0, 1) := by decide +kernel
theorem d_Y_exploreFrom_29 : decode b_Y_exploreFrom 29 = .ok (.getfield 25, 3) := by decide +kernel
theorem d_Y_exploreFrom_32 : decode b_Y_exploreFrom 32 = .ok (.getfield 85, 3) := by decide +kernel
theorem d_Y_exploreFrom_35 : decode b_Y_exploreFrom 35 = .ok (.iload_n 1, 1) := by decide +kernel
theorem d_Y_exploreFrom_36 : decode b_Y_exploreFrom 36 = .ok (.aload_n 0, 1) := by decide +kernel
theorem d_Y_exploreFrom_37 : decode b_Y_exploreFrom 37 = .ok (.getfield 21, 3) := by decide +kernel
theorem d_Y_exploreFrom_40 : decode b_Y_exploreFrom 40 = .ok (.iload_n 3, 1) := by decide +kernel
theorem d_Y_exploreFrom_41 : decode b_Y_exploreFrom 41 = .ok (.iload_n 2, 1) := by decide +kernel
theorem d_Y_exploreFrom_42 : decode b_Y_exploreFrom 42 = .ok (.invokevirtual 88, 3) := by decide +kernel
theorem d_Y_exploreFrom_45 : decode b_Y_exploreFrom 45 = .ok (.ifCond .ne 7, 3) := by decide +kernel
theorem d_Y_exploreFrom_48 : decode b_Y_exploreFrom 48 = .ok (.iconst 1, 1) := by decide +kernel
theorem d_Y_exploreFrom_49 : decode b_Y_exploreFrom 49 = .ok (.goto 4, 3) := by decide +kernel
theorem d_Y_exploreFrom_52 : decode b_Y_exploreFrom 52 = .ok (.iconst 0, 1) := by decide +kernel
theorem d_Y_exploreFrom_53 : decode b_Y_exploreFrom 53 = .ok (.bastore, 1) := by decide +kernel
theorem d_Y_exploreFrom_54 : decode b_Y_exploreFrom 54 = .ok (.aload_n 0, 1) := by decide +kernel
theorem d_Y_exploreFrom_55 : decode b_Y_exploreFrom 55 = .ok (.getfield 9, 3) := by decide +kernel
theorem d_Y_exploreFrom_58 : decode b_Y_exploreFrom 58 = .ok (.iload_n 1, 1) := by decide +kernel
theorem d_Y_exploreFrom_59 : decode b_Y_exploreFrom 59 = .ok (.aload_n 0, 1) := by decide +kernel
theorem d_Y_exploreFrom_60 : decode b_Y_exploreFrom 60 = .ok (.getfield 21, 3) := by decide +kernel
theorem d_Y_exploreFrom_63 : decode b_Y_exploreFrom 63 = .ok (.iload_n 3, 1) := by decide +kernel
theorem d_Y_exploreFrom_64 : decode b_Y_exploreFrom 64 = .ok (.invokevirtual 91, 3) := by decide +kernel
theorem d_Y_exploreFrom_67 : decode b_Y_exploreFrom 67 = .ok (.iastore, 1) := by decide +kernel
theorem d_Y_exploreFrom_68 : decode b_Y_exploreFrom 68 = .ok (.aload_n 0, 1) := by decide +kernel
theorem d_Y_exploreFrom_69 : decode b_Y_exploreFrom 69 = .ok (.getfield 9, 3) := by decide +kernel
theorem d_Y_exploreFrom_72 : decode b_Y_exploreFrom 72 = .ok (.iload_n 1, 1) := by decide +kernel
theorem d_Y_exploreFrom_73 : decode b_Y_exploreFrom 73 = .ok (.iaload, 1) := by decide +kernel
theorem d_Y_exploreFrom_74 : decode b_Y_exploreFrom 74 = .ok (.aload_n 0, 1) := by decide +kernel
theorem d_Y_exploreFrom_75 : decode b_Y_exploreFrom 75 = .ok (.getfield 21, 3) := by decide +kernel
theorem d_Y_exploreFrom_78 : decode b_Y_exploreFrom 78 = .ok (.iload_n 3, 1) := by decide +kernel
theorem d_Y_exploreFrom_79 : decode b_Y_exploreFrom 79 = .ok (.iload_n 2, 1) := by decide +kernel
theorem d_Y_exploreFrom_80 : decode b_Y_exploreFrom 80 = .ok (.invokevirtual 93, 3) := by decide +kernel
theorem d_Y_exploreFrom_83 : decode b_Y_exploreFrom 83 = .ok (.iand, 1) := by decide +kernel
theorem d_Y_exploreFrom_84 : decode b_Y_exploreFrom 84 = .ok (.istore 4, 2) := by decide +kernel
theorem d_Y_exploreFrom_86 : decode b_Y_exploreFrom 86 = .ok (.iconst 0, 1) := by decide +kernel
theorem d_Y_exploreFrom_87 : decode b_Y_exploreFrom 87 = .ok (.istore 5, 2) := by decide +kernel
theorem d_Y_exploreFrom_89 : decode b_Y_exploreFrom 89 = .ok (.iload 5, 2) := by decide +kernel
theorem d_Y_exploreFrom_91 : decode b_Y_exploreFrom 91 = .ok (.bipush 12, 2) := by decide +kernel
theorem d_Y_exploreFrom_93 : decode b_Y_exploreFrom 93 = .ok (.if_icmp .ge 45, 3) := by decide +kernel
theorem d_Y_exploreFrom_96 : decode b_Y_exploreFrom 96 = .ok (.iload 4, 2) := by decide +kernel
theorem d_Y_exploreFrom_98 : decode b_Y_exploreFrom 98 = .ok (.iload 5, 2) := by decide +kernel
theorem d_Y_exploreFrom_100 : decode b_Y_exploreFrom 100 = .ok (.invokestatic 97, 3) := by decide +kernel
theorem d_Y_exploreFrom_103 : decode b_Y_exploreFrom 103 = .ok (.ifCond .eq 29, 3) := by decide +kernel
theorem d_Y_exploreFrom_106 : decode b_Y_exploreFrom 106 = .ok (.aload_n 0, 1) := by decide +kernel
theorem d_Y_exploreFrom_107 : decode b_Y_exploreFrom 107 = .ok (.getfield 25, 3) := by decide +kernel
theorem d_Y_exploreFrom_110 : decode b_Y_exploreFrom 110 = .ok (.iload_n 1, 1) := by decide +kernel
theorem d_Y_exploreFrom_111 : decode b_Y_exploreFrom 111 = .ok (.iload 5, 2) := by decide +kernel
theorem d_Y_exploreFrom_113 : decode b_Y_exploreFrom 113 = .ok (.aload_n 0, 1) := by decide +kernel
theorem d_Y_exploreFrom_114 : decode b_Y_exploreFrom 114 = .ok (.getfield 21, 3) := by decide +kernel
theorem d_Y_exploreFrom_117 : decode b_Y_exploreFrom 117 = .ok (.iload_n 3, 1) := by decide +kernel
theorem d_Y_exploreFrom_118 : decode b_Y_exploreFrom 118 = .ok (.iload 5, 2) := by decide +kernel
theorem d_Y_exploreFrom_120 : decode b_Y_exploreFrom 120 = .ok (.iload_n 2, 1) := by decide +kernel
theorem d_Y_exploreFrom_121 : decode b_Y_exploreFrom 121 = .ok (.invokevirtual 100, 3) := by decide +kernel
theorem d_Y_exploreFrom_124 : decode b_Y_exploreFrom 124 = .ok (.invokevirtual 104, 3) := by decide +kernel
theorem d_Y_exploreFrom_127 : decode b_Y_exploreFrom 127 = .ok (.ifCond .ne 5, 3) := by decide +kernel
theorem d_Y_exploreFrom_130 : decode b_Y_exploreFrom 130 = .ok (.iconst 0, 1) := by decide +kernel
theorem d_Y_exploreFrom_131 : decode b_Y_exploreFrom 131 = .ok (.ireturn, 1) := by decide +kernel
theorem d_Y_exploreFrom_132 : decode b_Y_exploreFrom 132 = .ok (.iinc 5 1, 3) := by decide +kernel
theorem d_Y_exploreFrom_135 : decode b_Y_exploreFrom 135 = .ok (.goto (-46), 3) := by decide +kernel
theorem d_Y_exploreFrom_138 : decode b_Y_exploreFrom 138 = .ok (.iconst 1, 1) := by decide +kernel
theorem d_Y_exploreFrom_139 : decode b_Y_exploreFrom 139 = .ok (.ireturn, 1) := by decide +kernel
theorem d_Y_firstLost_0 : decode b_Y_firstLost 0 = .ok (.iconst 1, 1) := by decide +kernel
theorem d_Y_firstLost_1 : decode b_Y_firstLost 1 = .ok (.istore_n 1, 1) := by decide +kernel
theorem d_Y_firstLost_2 : decode b_Y_firstLost 2 = .ok (.iload_n 1, 1) := by decide +kernel
theorem d_Y_firstLost_3 : decode b_Y_firstLost 3 = .ok (.aload_n 0, 1) := by decide +kernel
theorem d_Y_firstLost_4 : decode b_Y_firstLost 4 = .ok (.getfield 25, 3) := by decide +kernel
theorem d_Y_firstLost_7 : decode b_Y_firstLost 7 = .ok (.getfield 36, 3) := by decide +kernel
theorem d_Y_firstLost_10 : decode b_Y_firstLost 10 = .ok (.if_icmp .gt 23, 3) := by decide +kernel
theorem d_Y_firstLost_13 : decode b_Y_firstLost 13 = .ok (.aload_n 0, 1) := by decide +kernel
theorem d_Y_firstLost_14 : decode b_Y_firstLost 14 = .ok (.getfield 25, 3) := by decide +kernel
theorem d_Y_firstLost_17 : decode b_Y_firstLost 17 = .ok (.getfield 85, 3) := by decide +kernel
theorem d_Y_firstLost_20 : decode b_Y_firstLost 20 = .ok (.iload_n 1, 1) := by decide +kernel
theorem d_Y_firstLost_21 : decode b_Y_firstLost 21 = .ok (.baload, 1) := by decide +kernel
theorem d_Y_firstLost_22 : decode b_Y_firstLost 22 = .ok (.ifCond .ne 5, 3) := by decide +kernel
theorem d_Y_firstLost_25 : decode b_Y_firstLost 25 = .ok (.iload_n 1, 1) := by decide +kernel
theorem d_Y_firstLost_26 : decode b_Y_firstLost 26 = .ok (.ireturn, 1) := by decide +kernel
theorem d_Y_firstLost_27 : decode b_Y_firstLost 27 = .ok (.iinc 1 1, 3) := by decide +kernel
theorem d_Y_firstLost_30 : decode b_Y_firstLost 30 = .ok (.goto (-28), 3) := by decide +kernel
theorem d_Y_firstLost_33 : decode b_Y_firstLost 33 = .ok (.iconst 0, 1) := by decide +kernel
theorem d_Y_firstLost_34 : decode b_Y_firstLost 34 = .ok (.ireturn, 1) := by decide +kernel
theorem d_Y_init_0 : decode b_Y_init 0 = .ok (.aload_n 0, 1) := by decide +kernel
theorem d_Y_init_1 : decode b_Y_init 1 = .ok (.invokespecial 3, 3) := by decide +kernel
theorem d_Y_init_4 : decode b_Y_init 4 = .ok (.aload_n 0, 1) := by decide +kernel
theorem d_Y_init_5 : decode b_Y_init 5 = .ok (.sipush 201, 3) := by decide +kernel
theorem d_Y_init_8 : decode b_Y_init 8 = .ok (.newarray .int, 2) := by decide +kernel
theorem d_Y_init_10 : decode b_Y_init 10 = .ok (.putfield 9, 3) := by decide +kernel
theorem d_Y_init_13 : decode b_Y_init 13 = .ok (.aload_n 0, 1) := by decide +kernel
theorem d_Y_init_14 : decode b_Y_init 14 = .ok (.sipush 201, 3) := by decide +kernel
theorem d_Y_init_17 : decode b_Y_init 17 = .ok (.newarray .int, 2) := by decide +kernel
theorem d_Y_init_19 : decode b_Y_init 19 = .ok (.putfield 15, 3) := by decide +kernel
theorem d_Y_init_22 : decode b_Y_init 22 = .ok (.aload_n 0, 1) := by decide +kernel
theorem d_Y_init_23 : decode b_Y_init 23 = .ok (.sipush 201, 3) := by decide +kernel
theorem d_Y_init_26 : decode b_Y_init 26 = .ok (.newarray .int, 2) := by decide +kernel
theorem d_Y_init_28 : decode b_Y_init 28 = .ok (.putfield 18, 3) := by decide +kernel
theorem d_Y_init_31 : decode b_Y_init 31 = .ok (.aload_n 0, 1) := by decide +kernel
theorem d_Y_init_32 : decode b_Y_init 32 = .ok (.aload_n 1, 1) := by decide +kernel
theorem d_Y_init_33 : decode b_Y_init 33 = .ok (.putfield 21, 3) := by decide +kernel
theorem d_Y_init_36 : decode b_Y_init 36 = .ok (.aload_n 0, 1) := by decide +kernel
theorem d_Y_init_37 : decode b_Y_init 37 = .ok (.aload_n 2, 1) := by decide +kernel
theorem d_Y_init_38 : decode b_Y_init 38 = .ok (.putfield 25, 3) := by decide +kernel
theorem d_Y_init_41 : decode b_Y_init 41 = .ok (.return_, 1) := by decide +kernel
theorem d_Y_isUnruly_0 : decode b_Y_isUnruly 0 = .ok (.aload_n 0, 1) := by decide +kernel
theorem d_Y_isUnruly_1 : decode b_Y_isUnruly 1 = .ok (.getfield 9, 3) := by decide +kernel
theorem d_Y_isUnruly_4 : decode b_Y_isUnruly 4 = .ok (.iload_n 1, 1) := by decide +kernel
theorem d_Y_isUnruly_5 : decode b_Y_isUnruly 5 = .ok (.iaload, 1) := by decide +kernel
theorem d_Y_isUnruly_6 : decode b_Y_isUnruly 6 = .ok (.aload_n 0, 1) := by decide +kernel
theorem d_Y_isUnruly_7 : decode b_Y_isUnruly 7 = .ok (.getfield 21, 3) := by decide +kernel
theorem d_Y_isUnruly_10 : decode b_Y_isUnruly 10 = .ok (.getfield 120, 3) := by decide +kernel
theorem d_Y_isUnruly_13 : decode b_Y_isUnruly 13 = .ok (.iconst (-1), 1) := by decide +kernel
theorem d_Y_isUnruly_14 : decode b_Y_isUnruly 14 = .ok (.ixor, 1) := by decide +kernel
theorem d_Y_isUnruly_15 : decode b_Y_isUnruly 15 = .ok (.iand, 1) := by decide +kernel
theorem d_Y_isUnruly_16 : decode b_Y_isUnruly 16 = .ok (.istore_n 2, 1) := by decide +kernel
theorem d_Y_isUnruly_17 : decode b_Y_isUnruly 17 = .ok (.iconst 0, 1) := by decide +kernel
theorem d_Y_isUnruly_18 : decode b_Y_isUnruly 18 = .ok (.istore_n 3, 1) := by decide +kernel
theorem d_Y_isUnruly_19 : decode b_Y_isUnruly 19 = .ok (.iload_n 3, 1) := by decide +kernel
theorem d_Y_isUnruly_20 : decode b_Y_isUnruly 20 = .ok (.bipush 12, 2) := by decide +kernel
theorem d_Y_isUnruly_22 : decode b_Y_isUnruly 22 = .ok (.if_icmp .ge 31, 3) := by decide +kernel
theorem d_Y_isUnruly_25 : decode b_Y_isUnruly 25 = .ok (.iload_n 2, 1) := by decide +kernel
theorem d_Y_isUnruly_26 : decode b_Y_isUnruly 26 = .ok (.iload_n 3, 1) := by decide +kernel
theorem d_Y_isUnruly_27 : decode b_Y_isUnruly 27 = .ok (.invokestatic 97, 3) := by decide +kernel
theorem d_Y_isUnruly_30 : decode b_Y_isUnruly 30 = .ok (.ifCond .eq 17, 3) := by decide +kernel
theorem d_Y_isUnruly_33 : decode b_Y_isUnruly 33 = .ok (.aload_n 0, 1) := by decide +kernel
theorem d_Y_isUnruly_34 : decode b_Y_isUnruly 34 = .ok (.getfield 25, 3) := by decide +kernel
theorem d_Y_isUnruly_37 : decode b_Y_isUnruly 37 = .ok (.iload_n 1, 1) := by decide +kernel
theorem d_Y_isUnruly_38 : decode b_Y_isUnruly 38 = .ok (.iload_n 3, 1) := by decide +kernel
theorem d_Y_isUnruly_39 : decode b_Y_isUnruly 39 = .ok (.invokevirtual 123, 3) := by decide +kernel
theorem d_Y_isUnruly_42 : decode b_Y_isUnruly 42 = .ok (.ifCond .ne 5, 3) := by decide +kernel
theorem d_Y_isUnruly_45 : decode b_Y_isUnruly 45 = .ok (.iconst 1, 1) := by decide +kernel
theorem d_Y_isUnruly_46 : decode b_Y_isUnruly 46 = .ok (.ireturn, 1) := by decide +kernel
theorem d_Y_isUnruly_47 : decode b_Y_isUnruly 47 = .ok (.iinc 3 1, 3) := by decide +kernel
theorem d_Y_isUnruly_50 : decode b_Y_isUnruly 50 = .ok (.goto (-31), 3) := by decide +kernel
theorem d_Y_isUnruly_53 : decode b_Y_isUnruly 53 = .ok (.iconst 0, 1) := by decide +kernel
theorem d_Y_isUnruly_54 : decode b_Y_isUnruly 54 = .ok (.ireturn, 1) := by decide +kernel
theorem d_Y_keepGood_0 : decode b_Y_keepGood 0 = .ok (.iconst 1, 1) := by decide +kernel
theorem d_Y_keepGood_1 : decode b_Y_keepGood 1 = .ok (.istore_n 1, 1) := by decide +kernel
theorem d_Y_keepGood_2 : decode b_Y_keepGood 2 = .ok (.iconst 0, 1) := by decide +kernel
theorem d_Y_keepGood_3 : decode b_Y_keepGood 3 = .ok (.istore_n 2, 1) := by decide +kernel
theorem d_Y_keepGood_4 : decode b_Y_keepGood 4 = .ok (.iload_n 1, 1) := by decide +kernel
theorem d_Y_keepGood_5 : decode b_Y_keepGood 5 = .ok (.ifCond .eq 40, 3) := by decide +kernel
theorem d_Y_keepGood_8 : decode b_Y_keepGood 8 = .ok (.iload_n 2, 1) := by decide +kernel
theorem d_Y_keepGood_9 : decode b_Y_keepGood 9 = .ok (.sipush 200, 3) := by decide +kernel
theorem d_Y_keepGood_12 : decode b_Y_keepGood 12 = .ok (.if_icmp .gt 33, 3) := by decide +kernel
theorem d_Y_keepGood_15 : decode b_Y_keepGood 15 = .ok (.aload_n 0, 1) := by decide +kernel
theorem d_Y_keepGood_16 : decode b_Y_keepGood 16 = .ok (.invokevirtual 107, 3) := by decide +kernel
theorem d_Y_keepGood_19 : decode b_Y_keepGood 19 = .ok (.istore_n 1, 1) := by decide +kernel
theorem d_Y_keepGood_20 : decode b_Y_keepGood 20 = .ok (.aload_n 0, 1) := by decide +kernel
theorem d_Y_keepGood_21 : decode b_Y_keepGood 21 = .ok (.getfield 25, 3) := by decide +kernel
theorem d_Y_keepGood_24 : decode b_Y_keepGood 24 = .ok (.invokevirtual 111, 3) := by decide +kernel
theorem d_Y_keepGood_27 : decode b_Y_keepGood 27 = .ok (.aload_n 0, 1) := by decide +kernel
theorem d_Y_keepGood_28 : decode b_Y_keepGood 28 = .ok (.getfield 25, 3) := by decide +kernel
theorem d_Y_keepGood_31 : decode b_Y_keepGood 31 = .ok (.invokevirtual 114, 3) := by decide +kernel
theorem d_Y_keepGood_34 : decode b_Y_keepGood 34 = .ok (.ifCond .eq 5, 3) := by decide +kernel
theorem d_Y_keepGood_37 : decode b_Y_keepGood 37 = .ok (.iconst 1, 1) := by decide +kernel
theorem d_Y_keepGood_38 : decode b_Y_keepGood 38 = .ok (.istore_n 1, 1) := by decide +kernel
theorem d_Y_keepGood_39 : decode b_Y_keepGood 39 = .ok (.iinc 2 1, 3) := by decide +kernel
theorem d_Y_keepGood_42 : decode b_Y_keepGood 42 = .ok (.goto (-38), 3) := by decide +kernel
theorem d_Y_keepGood_45 : decode b_Y_keepGood 45 = .ok (.return_, 1) := by decide +kernel
theorem d_Y_stateFor_0 : decode b_Y_stateFor 0 = .ok (.aload_n 0, 1) := by decide +kernel
theorem d_Y_stateFor_1 : decode b_Y_stateFor 1 = .ok (.getfield 15, 3) := by decide +kernel
theorem d_Y_stateFor_4 : decode b_Y_stateFor 4 = .ok (.iload_n 1, 1) := by decide +kernel
theorem d_Y_stateFor_5 : decode b_Y_stateFor 5 = .ok (.iaload, 1) := by decide +kernel
theorem d_Y_stateFor_6 : decode b_Y_stateFor 6 = .ok (.ifCond .ne 33, 3) := by decide +kernel
theorem d_Y_stateFor_9 : decode b_Y_stateFor 9 = .ok (.aload_n 2, 1) := by decide +kernel
theorem d_Y_stateFor_10 : decode b_Y_stateFor 10 = .ok (.dup, 1) := by decide +kernel
theorem d_Y_stateFor_11 : decode b_Y_stateFor 11 = .ok (.getfield 138, 3) := by decide +kernel
theorem d_Y_stateFor_14 : decode b_Y_stateFor 14 = .ok (.iconst 1, 1) := by decide +kernel
theorem d_Y_stateFor_15 : decode b_Y_stateFor 15 = .ok (.iadd, 1) := by decide +kernel
theorem d_Y_stateFor_16 : decode b_Y_stateFor 16 = .ok (.putfield 138, 3) := by decide +kernel
theorem d_Y_stateFor_19 : decode b_Y_stateFor 19 = .ok (.aload_n 0, 1) := by decide +kernel
theorem d_Y_stateFor_20 : decode b_Y_stateFor 20 = .ok (.getfield 15, 3) := by decide +kernel
theorem d_Y_stateFor_23 : decode b_Y_stateFor 23 = .ok (.iload_n 1, 1) := by decide +kernel
theorem d_Y_stateFor_24 : decode b_Y_stateFor 24 = .ok (.aload_n 2, 1) := by decide +kernel
theorem d_Y_stateFor_25 : decode b_Y_stateFor 25 = .ok (.getfield 138, 3) := by decide +kernel
theorem d_Y_stateFor_28 : decode b_Y_stateFor 28 = .ok (.iastore, 1) := by decide +kernel
theorem d_Y_stateFor_29 : decode b_Y_stateFor 29 = .ok (.aload_n 0, 1) := by decide +kernel
theorem d_Y_stateFor_30 : decode b_Y_stateFor 30 = .ok (.getfield 18, 3) := by decide +kernel
theorem d_Y_stateFor_33 : decode b_Y_stateFor 33 = .ok (.aload_n 2, 1) := by decide +kernel
theorem d_Y_stateFor_34 : decode b_Y_stateFor 34 = .ok (.getfield 138, 3) := by decide +kernel
theorem d_Y_stateFor_37 : decode b_Y_stateFor 37 = .ok (.iload_n 1, 1) := by decide +kernel
theorem d_Y_stateFor_38 : decode b_Y_stateFor 38 = .ok (.iastore, 1) := by decide +kernel
theorem d_Y_stateFor_39 : decode b_Y_stateFor 39 = .ok (.aload_n 0, 1) := by decide +kernel
theorem d_Y_stateFor_40 : decode b_Y_stateFor 40 = .ok (.getfield 15, 3) := by decide +kernel
theorem d_Y_stateFor_43 : decode b_Y_stateFor 43 = .ok (.iload_n 1, 1) := by decide +kernel
theorem d_Y_stateFor_44 : decode b_Y_stateFor 44 = .ok (.iaload, 1) := by decide +kernel
theorem d_Y_stateFor_45 : decode b_Y_stateFor 45 = .ok (.ireturn, 1) := by decide +kernel
theorem d_Y_writeState_0 : decode b_Y_writeState 0 = .ok (.aload_n 0, 1) := by decide +kernel
theorem d_Y_writeState_1 : decode b_Y_writeState 1 = .ok (.getfield 18, 3) := by decide +kernel
theorem d_Y_writeState_4 : decode b_Y_writeState 4 = .ok (.iload_n 1, 1) := by decide +kernel
theorem d_Y_writeState_5 : decode b_Y_writeState 5 = .ok (.iaload, 1) := by decide +kernel
theorem d_Y_writeState_6 : decode b_Y_writeState 6 = .ok (.istore_n 3, 1) := by decide +kernel
theorem d_Y_writeState_7 : decode b_Y_writeState 7 = .ok (.aload_n 2, 1) := by decide +kernel
theorem d_Y_writeState_8 : decode b_Y_writeState 8 = .ok (.getfield 147, 3) := by decide +kernel
theorem d_Y_writeState_11 : decode b_Y_writeState 11 = .ok (.iload_n 1, 1) := by decide +kernel
theorem d_Y_writeState_12 : decode b_Y_writeState 12 = .ok (.aload_n 0, 1) := by decide +kernel
theorem d_Y_writeState_13 : decode b_Y_writeState 13 = .ok (.getfield 25, 3) := by decide +kernel
theorem d_Y_writeState_16 : decode b_Y_writeState 16 = .ok (.getfield 75, 3) := by decide +kernel
theorem d_Y_writeState_19 : decode b_Y_writeState 19 = .ok (.iload_n 3, 1) := by decide +kernel
theorem d_Y_writeState_20 : decode b_Y_writeState 20 = .ok (.iaload, 1) := by decide +kernel
theorem d_Y_writeState_21 : decode b_Y_writeState 21 = .ok (.iastore, 1) := by decide +kernel
theorem d_Y_writeState_22 : decode b_Y_writeState 22 = .ok (.aload_n 2, 1) := by decide +kernel
theorem d_Y_writeState_23 : decode b_Y_writeState 23 = .ok (.getfield 148, 3) := by decide +kernel
theorem d_Y_writeState_26 : decode b_Y_writeState 26 = .ok (.iload_n 1, 1) := by decide +kernel
theorem d_Y_writeState_27 : decode b_Y_writeState 27 = .ok (.aload_n 0, 1) := by decide +kernel
theorem d_Y_writeState_28 : decode b_Y_writeState 28 = .ok (.getfield 9, 3) := by decide +kernel
theorem d_Y_writeState_31 : decode b_Y_writeState 31 = .ok (.iload_n 3, 1) := by decide +kernel
theorem d_Y_writeState_32 : decode b_Y_writeState 32 = .ok (.iaload, 1) := by decide +kernel
theorem d_Y_writeState_33 : decode b_Y_writeState 33 = .ok (.iastore, 1) := by decide +kernel
theorem d_Y_writeState_34 : decode b_Y_writeState 34 = .ok (.aload_n 2, 1) := by decide +kernel
theorem d_Y_writeState_35 : decode b_Y_writeState 35 = .ok (.getfield 149, 3) := by decide +kernel
theorem d_Y_writeState_38 : decode b_Y_writeState 38 = .ok (.iload_n 1, 1) := by decide +kernel
theorem d_Y_writeState_39 : decode b_Y_writeState 39 = .ok (.aload_n 0, 1) := by decide +kernel
theorem d_Y_writeState_40 : decode b_Y_writeState 40 = .ok (.getfield 25, 3) := by decide +kernel
theorem d_Y_writeState_43 : decode b_Y_writeState 43 = .ok (.getfield 152, 3) := by decide +kernel
theorem d_Y_writeState_46 : decode b_Y_writeState 46 = .ok (.iload_n 3, 1) := by decide +kernel
theorem d_Y_writeState_47 : decode b_Y_writeState 47 = .ok (.iaload, 1) := by decide +kernel
theorem d_Y_writeState_48 : decode b_Y_writeState 48 = .ok (.iastore, 1) := by decide +kernel
theorem d_Y_writeState_49 : decode b_Y_writeState 49 = .ok (.iconst 0, 1) := by decide +kernel
theorem d_Y_writeState_50 : decode b_Y_writeState 50 = .ok (.istore 4, 2) := by decide +kernel
theorem d_Y_writeState_52 : decode b_Y_writeState 52 = .ok (.iload 4, 2) := by decide +kernel
theorem d_Y_writeState_54 : decode b_Y_writeState 54 = .ok (.bipush 12, 2) := by decide +kernel
theorem d_Y_writeState_56 : decode b_Y_writeState 56 = .ok (.if_icmp .ge 49, 3) := by decide +kernel
theorem d_Y_writeState_59 : decode b_Y_writeState 59 = .ok (.aload_n 0, 1) := by decide +kernel
theorem d_Y_writeState_60 : decode b_Y_writeState 60 = .ok (.getfield 25, 3) := by decide +kernel
theorem d_Y_writeState_63 : decode b_Y_writeState 63 = .ok (.iload_n 3, 1) := by decide +kernel
theorem d_Y_writeState_64 : decode b_Y_writeState 64 = .ok (.iload 4, 2) := by decide +kernel
theorem d_Y_writeState_66 : decode b_Y_writeState 66 = .ok (.invokevirtual 123, 3) := by decide +kernel
theorem d_Y_writeState_69 : decode b_Y_writeState 69 = .ok (.istore 5, 2) := by decide +kernel
theorem d_Y_writeState_71 : decode b_Y_writeState 71 = .ok (.aload_n 2, 1) := by decide +kernel
theorem d_Y_writeState_72 : decode b_Y_writeState 72 = .ok (.getfield 153, 3) := by decide +kernel
theorem d_Y_writeState_75 : decode b_Y_writeState 75 = .ok (.iload_n 1, 1) := by decide +kernel
theorem d_Y_writeState_76 : decode b_Y_writeState 76 = .ok (.bipush 12, 2) := by decide +kernel
theorem d_Y_writeState_78 : decode b_Y_writeState 78 = .ok (.imul, 1) := by decide +kernel
theorem d_Y_writeState_79 : decode b_Y_writeState 79 = .ok (.iload 4, 2) := by decide +kernel
theorem d_Y_writeState_81 : decode b_Y_writeState 81 = .ok (.iadd, 1) := by decide +kernel
theorem d_Y_writeState_82 : decode b_Y_writeState 82 = .ok (.iload 5, 2) := by decide +kernel
theorem d_Y_writeState_84 : decode b_Y_writeState 84 = .ok (.ifCond .ne 7, 3) := by decide +kernel
theorem d_Y_writeState_87 : decode b_Y_writeState 87 = .ok (.iconst 0, 1) := by decide +kernel
theorem d_Y_writeState_88 : decode b_Y_writeState 88 = .ok (.goto 10, 3) := by decide +kernel
theorem d_Y_writeState_91 : decode b_Y_writeState 91 = .ok (.aload_n 0, 1) := by decide +kernel
theorem d_Y_writeState_92 : decode b_Y_writeState 92 = .ok (.iload 5, 2) := by decide +kernel
theorem d_Y_writeState_94 : decode b_Y_writeState 94 = .ok (.aload_n 2, 1) := by decide +kernel
theorem d_Y_writeState_95 : decode b_Y_writeState 95 = .ok (.invokevirtual 139, 3) := by decide +kernel
theorem d_Y_writeState_98 : decode b_Y_writeState 98 = .ok (.iastore, 1) := by decide +kernel
theorem d_Y_writeState_99 : decode b_Y_writeState 99 = .ok (.iinc 4 1, 3) := by decide +kernel
theorem d_Y_writeState_102 : decode b_Y_writeState 102 = .ok (.goto (-50), 3) := by decide +kernel
theorem d_Y_writeState_105 : decode b_Y_writeState 105 = .ok (.return_, 1) := by decide +kernel
theorem d_Y_writeStates_0 : decode b_Y_writeStates 0 = .ok (.aload_n 1, 1) := by decide +kernel
theorem d_Y_writeStates_1 : decode b_Y_writeStates 1 = .ok (.iconst 0, 1) := by decide +kernel
theorem d_Y_writeStates_2 : decode b_Y_writeStates 2 = .ok (.putfield 138, 3) := by decide +kernel
theorem d_Y_writeStates_5 : decode b_Y_writeStates 5 = .ok (.iconst 1, 1) := by decide +kernel
theorem d_Y_writeStates_6 : decode b_Y_writeStates 6 = .ok (.istore_n 2, 1) := by decide +kernel
theorem d_Y_writeStates_7 : decode b_Y_writeStates 7 = .ok (.iload_n 2, 1) := by decide +kernel
theorem d_Y_writeStates_8 : decode b_Y_writeStates 8 = .ok (.aload_n 0, 1) := by decide +kernel
theorem d_Y_writeStates_9 : decode b_Y_writeStates 9 = .ok (.getfield 25, 3) := by decide +kernel
theorem d_Y_writeStates_12 : decode b_Y_writeStates 12 = .ok (.getfield 36, 3) := by decide +kernel
theorem d_Y_writeStates_15 : decode b_Y_writeStates 15 = .ok (.if_icmp .gt 16, 3) := by decide +kernel
theorem d_Y_writeStates_18 : decode b_Y_writeStates 18 = .ok (.aload_n 0, 1) := by decide +kernel
theorem d_Y_writeStates_19 : decode b_Y_writeStates 19 = .ok (.getfield 15, 3) := by decide +kernel
theorem d_Y_writeStates_22 : decode b_Y_writeStates 22 = .ok (.iload_n 2, 1) := by decide +kernel
theorem d_Y_writeStates_23 : decode b_Y_writeStates 23 = .ok (.iconst 0, 1) := by decide +kernel
theorem d_Y_writeStates_24 : decode b_Y_writeStates 24 = .ok (.iastore, 1) := by decide +kernel
theorem d_Y_writeStates_25 : decode b_Y_writeStates 25 = .ok (.iinc 2 1, 3) := by decide +kernel
theorem d_Y_writeStates_28 : decode b_Y_writeStates 28 = .ok (.goto (-21), 3) := by decide +kernel
theorem d_Y_writeStates_31 : decode b_Y_writeStates 31 = .ok (.aload_n 0, 1) := by decide +kernel
theorem d_Y_writeStates_32 : decode b_Y_writeStates 32 = .ok (.getfield 25, 3) := by decide +kernel
theorem d_Y_writeStates_35 : decode b_Y_writeStates 35 = .ok (.getfield 85, 3) := by decide +kernel
theorem d_Y_writeStates_38 : decode b_Y_writeStates 38 = .ok (.iconst 1, 1) := by decide +kernel
theorem d_Y_writeStates_39 : decode b_Y_writeStates 39 = .ok (.baload, 1) := by decide +kernel
theorem d_Y_writeStates_40 : decode b_Y_writeStates 40 = .ok (.ifCond .eq 10, 3) := by decide +kernel
theorem d_Y_writeStates_43 : decode b_Y_writeStates 43 = .ok (.aload_n 0, 1) := by decide +kernel
theorem d_Y_writeStates_44 : decode b_Y_writeStates 44 = .ok (.iconst 1, 1) := by decide +kernel
theorem d_Y_writeStates_45 : decode b_Y_writeStates 45 = .ok (.aload_n 1, 1) := by decide +kernel
theorem d_Y_writeStates_46 : decode b_Y_writeStates 46 = .ok (.invokevirtual 139, 3) := by decide +kernel
theorem d_Y_writeStates_49 : decode b_Y_writeStates 49 = .ok (.pop, 1) := by decide +kernel
theorem d_Y_writeStates_50 : decode b_Y_writeStates 50 = .ok (.iconst 1, 1) := by decide +kernel
theorem d_Y_writeStates_51 : decode b_Y_writeStates 51 = .ok (.istore_n 2, 1) := by decide +kernel
theorem d_Y_writeStates_52 : decode b_Y_writeStates 52 = .ok (.iload_n 2, 1) := by decide +kernel
theorem d_Y_writeStates_53 : decode b_Y_writeStates 53 = .ok (.aload_n 1, 1) := by decide +kernel
theorem d_Y_writeStates_54 : decode b_Y_writeStates 54 = .ok (.getfield 138, 3) := by decide +kernel
theorem d_Y_writeStates_57 : decode b_Y_writeStates 57 = .ok (.if_icmp .gt 22, 3) := by decide +kernel
theorem d_Y_writeStates_60 : decode b_Y_writeStates 60 = .ok (.iload_n 2, 1) := by decide +kernel
theorem d_Y_writeStates_61 : decode b_Y_writeStates 61 = .ok (.sipush 200, 3) := by decide +kernel
theorem d_Y_writeStates_64 : decode b_Y_writeStates 64 = .ok (.if_icmp .gt 15, 3) := by decide +kernel
theorem d_Y_writeStates_67 : decode b_Y_writeStates 67 = .ok (.aload_n 0, 1) := by decide +kernel
theorem d_Y_writeStates_68 : decode b_Y_writeStates 68 = .ok (.iload_n 2, 1) := by decide +kernel
theorem d_Y_writeStates_69 : decode b_Y_writeStates 69 = .ok (.aload_n 1, 1) := by decide +kernel
theorem d_Y_writeStates_70 : decode b_Y_writeStates 70 = .ok (.invokevirtual 143, 3) := by decide +kernel
theorem d_Y_writeStates_73 : decode b_Y_writeStates 73 = .ok (.iinc 2 1, 3) := by decide +kernel
theorem d_Y_writeStates_76 : decode b_Y_writeStates 76 = .ok (.goto (-24), 3) := by decide +kernel
theorem d_Y_writeStates_79 : decode b_Y_writeStates 79 = .ok (.return_, 1) := by decide +kernel
theorem d_Y_writeWord_0 : decode b_Y_writeWord 0 = .ok (.aload_n 0, 1) := by decide +kernel
theorem d_Y_writeWord_1 : decode b_Y_writeWord 1 = .ok (.invokevirtual 126, 3) := by decide +kernel
theorem d_Y_writeWord_4 : decode b_Y_writeWord 4 = .ok (.istore_n 2, 1) := by decide +kernel
theorem d_Y_writeWord_5 : decode b_Y_writeWord 5 = .ok (.iload_n 2, 1) := by decide +kernel
theorem d_Y_writeWord_6 : decode b_Y_writeWord 6 = .ok (.ifCond .ne 9, 3) := by decide +kernel
theorem d_Y_writeWord_9 : decode b_Y_writeWord 9 = .ok (.aload_n 1, 1) := by decide +kernel
theorem d_Y_writeWord_10 : decode b_Y_writeWord 10 = .ok (.iconst (-1), 1) := by decide +kernel
theorem d_Y_writeWord_11 : decode b_Y_writeWord 11 = .ok (.putfield 129, 3) := by decide +kernel
theorem d_Y_writeWord_14 : decode b_Y_writeWord 14 = .ok (.return_, 1) := by decide +kernel
theorem d_Y_writeWord_15 : decode b_Y_writeWord 15 = .ok (.iconst 0, 1) := by decide +kernel
theorem d_Y_writeWord_16 : decode b_Y_writeWord 16 = .ok (.istore_n 3, 1) := by decide +kernel
theorem d_Y_writeWord_17 : decode b_Y_writeWord 17 = .ok (.iload_n 2, 1) := by decide +kernel
theorem d_Y_writeWord_18 : decode b_Y_writeWord 18 = .ok (.iconst 1, 1) := by decide +kernel
theorem d_Y_writeWord_19 : decode b_Y_writeWord 19 = .ok (.if_icmp .le 47, 3) := by decide +kernel
theorem d_Y_writeWord_22 : decode b_Y_writeWord 22 = .ok (.iload_n 3, 1) := by decide +kernel
theorem d_Y_writeWord_23 : decode b_Y_writeWord 23 = .ok (.sipush 200, 3) := by decide +kernel
theorem d_Y_writeWord_26 : decode b_Y_writeWord 26 = .ok (.if_icmp .ge 40, 3) := by decide +kernel
theorem d_Y_writeWord_29 : decode b_Y_writeWord 29 = .ok (.aload_n 1, 1) := by decide +kernel
theorem d_Y_writeWord_30 : decode b_Y_writeWord 30 = .ok (.getfield 132, 3) := by decide +kernel
theorem d_Y_writeWord_33 : decode b_Y_writeWord 33 = .ok (.iload_n 3, 1) := by decide +kernel
theorem d_Y_writeWord_34 : decode b_Y_writeWord 34 = .ok (.aload_n 0, 1) := by decide +kernel
theorem d_Y_writeWord_35 : decode b_Y_writeWord 35 = .ok (.getfield 25, 3) := by decide +kernel
theorem d_Y_writeWord_38 : decode b_Y_writeWord 38 = .ok (.getfield 135, 3) := by decide +kernel
theorem d_Y_writeWord_41 : decode b_Y_writeWord 41 = .ok (.iload_n 2, 1) := by decide +kernel
theorem d_Y_writeWord_42 : decode b_Y_writeWord 42 = .ok (.iaload, 1) := by decide +kernel
theorem d_Y_writeWord_43 : decode b_Y_writeWord 43 = .ok (.bipush 12, 2) := by decide +kernel
theorem d_Y_writeWord_45 : decode b_Y_writeWord 45 = .ok (.irem, 1) := by decide +kernel
theorem d_Y_writeWord_46 : decode b_Y_writeWord 46 = .ok (.iastore, 1) := by decide +kernel
theorem d_Y_writeWord_47 : decode b_Y_writeWord 47 = .ok (.aload_n 0, 1) := by decide +kernel
theorem d_Y_writeWord_48 : decode b_Y_writeWord 48 = .ok (.getfield 25, 3) := by decide +kernel
theorem d_Y_writeWord_51 : decode b_Y_writeWord 51 = .ok (.getfield 135, 3) := by decide +kernel
theorem d_Y_writeWord_54 : decode b_Y_writeWord 54 = .ok (.iload_n 2, 1) := by decide +kernel
theorem d_Y_writeWord_55 : decode b_Y_writeWord 55 = .ok (.iaload, 1) := by decide +kernel
theorem d_Y_writeWord_56 : decode b_Y_writeWord 56 = .ok (.bipush 12, 2) := by decide +kernel
theorem d_Y_writeWord_58 : decode b_Y_writeWord 58 = .ok (.idiv, 1) := by decide +kernel
theorem d_Y_writeWord_59 : decode b_Y_writeWord 59 = .ok (.istore_n 2, 1) := by decide +kernel
theorem d_Y_writeWord_60 : decode b_Y_writeWord 60 = .ok (.iinc 3 1, 3) := by decide +kernel
theorem d_Y_writeWord_63 : decode b_Y_writeWord 63 = .ok (.goto (-46), 3) := by decide +kernel
theorem d_Y_writeWord_66 : decode b_Y_writeWord 66 = .ok (.aload_n 1, 1) := by decide +kernel
theorem d_Y_writeWord_67 : decode b_Y_writeWord 67 = .ok (.iload_n 3, 1) := by decide +kernel
theorem d_Y_writeWord_68 : decode b_Y_writeWord 68 = .ok (.putfield 129, 3) := by decide +kernel
theorem d_Y_writeWord_71 : decode b_Y_writeWord 71 = .ok (.return_, 1) := by decide +kernel
