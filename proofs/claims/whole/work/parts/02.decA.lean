theorem d_A_add_0 : decode b_A_add 0 = .ok (.aload_n 0, 1) := by decide +kernel
theorem d_A_add_1 : decode b_A_add 1 = .ok (.getfield 11, 3) := by decide +kernel
theorem d_A_add_4 : decode b_A_add 4 = .ok (.aload_n 0, 1) := by decide +kernel
theorem d_A_add_5 : decode b_A_add 5 = .ok (.getfield 18, 3) := by decide +kernel
theorem d_A_add_8 : decode b_A_add 8 = .ok (.aaload, 1) := by decide +kernel
theorem d_A_add_9 : decode b_A_add 9 = .ok (.iload_n 1, 1) := by decide +kernel
theorem d_A_add_10 : decode b_A_add 10 = .ok (.iload_n 2, 1) := by decide +kernel
theorem d_A_add_11 : decode b_A_add 11 = .ok (.invokevirtual 22, 3) := by decide +kernel
theorem d_A_add_14 : decode b_A_add 14 = .ok (.aload_n 0, 1) := by decide +kernel
theorem d_A_add_15 : decode b_A_add 15 = .ok (.dup, 1) := by decide +kernel
theorem d_A_add_16 : decode b_A_add 16 = .ok (.getfield 18, 3) := by decide +kernel
theorem d_A_add_19 : decode b_A_add 19 = .ok (.iconst 1, 1) := by decide +kernel
theorem d_A_add_20 : decode b_A_add 20 = .ok (.iadd, 1) := by decide +kernel
theorem d_A_add_21 : decode b_A_add 21 = .ok (.putfield 18, 3) := by decide +kernel
theorem d_A_add_24 : decode b_A_add 24 = .ok (.aload_n 0, 1) := by decide +kernel
theorem d_A_add_25 : decode b_A_add 25 = .ok (.getfield 18, 3) := by decide +kernel
theorem d_A_add_28 : decode b_A_add 28 = .ok (.iconst 1, 1) := by decide +kernel
theorem d_A_add_29 : decode b_A_add 29 = .ok (.isub, 1) := by decide +kernel
theorem d_A_add_30 : decode b_A_add 30 = .ok (.ireturn, 1) := by decide +kernel
theorem d_A_areReady_0 : decode b_A_areReady 0 = .ok (.iconst 0, 1) := by decide +kernel
theorem d_A_areReady_1 : decode b_A_areReady 1 = .ok (.istore_n 2, 1) := by decide +kernel
theorem d_A_areReady_2 : decode b_A_areReady 2 = .ok (.iload_n 2, 1) := by decide +kernel
theorem d_A_areReady_3 : decode b_A_areReady 3 = .ok (.aload_n 0, 1) := by decide +kernel
theorem d_A_areReady_4 : decode b_A_areReady 4 = .ok (.getfield 18, 3) := by decide +kernel
theorem d_A_areReady_7 : decode b_A_areReady 7 = .ok (.if_icmp .ge 32, 3) := by decide +kernel
theorem d_A_areReady_10 : decode b_A_areReady 10 = .ok (.iload_n 1, 1) := by decide +kernel
theorem d_A_areReady_11 : decode b_A_areReady 11 = .ok (.iload_n 2, 1) := by decide +kernel
theorem d_A_areReady_12 : decode b_A_areReady 12 = .ok (.invokestatic 32, 3) := by decide +kernel
theorem d_A_areReady_15 : decode b_A_areReady 15 = .ok (.ifCond .eq 18, 3) := by decide +kernel
theorem d_A_areReady_18 : decode b_A_areReady 18 = .ok (.aload_n 0, 1) := by decide +kernel
theorem d_A_areReady_19 : decode b_A_areReady 19 = .ok (.getfield 11, 3) := by decide +kernel
theorem d_A_areReady_22 : decode b_A_areReady 22 = .ok (.iload_n 2, 1) := by decide +kernel
theorem d_A_areReady_23 : decode b_A_areReady 23 = .ok (.aaload, 1) := by decide +kernel
theorem d_A_areReady_24 : decode b_A_areReady 24 = .ok (.getfield 46, 3) := by decide +kernel
theorem d_A_areReady_27 : decode b_A_areReady 27 = .ok (.iconst (-1), 1) := by decide +kernel
theorem d_A_areReady_28 : decode b_A_areReady 28 = .ok (.if_icmp .ne 5, 3) := by decide +kernel
theorem d_A_areReady_31 : decode b_A_areReady 31 = .ok (.iconst 0, 1) := by decide +kernel
theorem d_A_areReady_32 : decode b_A_areReady 32 = .ok (.ireturn, 1) := by decide +kernel
theorem d_A_areReady_33 : decode b_A_areReady 33 = .ok (.iinc 2 1, 3) := by decide +kernel
theorem d_A_areReady_36 : decode b_A_areReady 36 = .ok (.goto (-34), 3) := by decide +kernel
theorem d_A_areReady_39 : decode b_A_areReady 39 = .ok (.aload_n 0, 1) := by decide +kernel
theorem d_A_areReady_40 : decode b_A_areReady 40 = .ok (.invokevirtual 49, 3) := by decide +kernel
theorem d_A_areReady_43 : decode b_A_areReady 43 = .ok (.ifCond .eq 7, 3) := by decide +kernel
theorem d_A_areReady_46 : decode b_A_areReady 46 = .ok (.iconst 1, 1) := by decide +kernel
theorem d_A_areReady_47 : decode b_A_areReady 47 = .ok (.goto 4, 3) := by decide +kernel
theorem d_A_areReady_50 : decode b_A_areReady 50 = .ok (.iconst 0, 1) := by decide +kernel
theorem d_A_areReady_51 : decode b_A_areReady 51 = .ok (.ireturn, 1) := by decide +kernel
theorem d_A_declare_0 : decode b_A_declare 0 = .ok (.aload_n 0, 1) := by decide +kernel
theorem d_A_declare_1 : decode b_A_declare 1 = .ok (.dup, 1) := by decide +kernel
theorem d_A_declare_2 : decode b_A_declare 2 = .ok (.getfield 26, 3) := by decide +kernel
theorem d_A_declare_5 : decode b_A_declare 5 = .ok (.iconst 1, 1) := by decide +kernel
theorem d_A_declare_6 : decode b_A_declare 6 = .ok (.iload_n 1, 1) := by decide +kernel
theorem d_A_declare_7 : decode b_A_declare 7 = .ok (.ishl, 1) := by decide +kernel
theorem d_A_declare_8 : decode b_A_declare 8 = .ok (.ior, 1) := by decide +kernel
theorem d_A_declare_9 : decode b_A_declare 9 = .ok (.putfield 26, 3) := by decide +kernel
theorem d_A_declare_12 : decode b_A_declare 12 = .ok (.iload_n 2, 1) := by decide +kernel
theorem d_A_declare_13 : decode b_A_declare 13 = .ok (.ifCond .eq 15, 3) := by decide +kernel
theorem d_A_declare_16 : decode b_A_declare 16 = .ok (.aload_n 0, 1) := by decide +kernel
theorem d_A_declare_17 : decode b_A_declare 17 = .ok (.dup, 1) := by decide +kernel
theorem d_A_declare_18 : decode b_A_declare 18 = .ok (.getfield 29, 3) := by decide +kernel
theorem d_A_declare_21 : decode b_A_declare 21 = .ok (.iconst 1, 1) := by decide +kernel
theorem d_A_declare_22 : decode b_A_declare 22 = .ok (.iload_n 1, 1) := by decide +kernel
theorem d_A_declare_23 : decode b_A_declare 23 = .ok (.ishl, 1) := by decide +kernel
theorem d_A_declare_24 : decode b_A_declare 24 = .ok (.ior, 1) := by decide +kernel
theorem d_A_declare_25 : decode b_A_declare 25 = .ok (.putfield 29, 3) := by decide +kernel
theorem d_A_declare_28 : decode b_A_declare 28 = .ok (.return_, 1) := by decide +kernel
theorem d_A_eventsNotStopped_0 : decode b_A_eventsNotStopped 0 = .ok (.sipush 4095, 3) := by decide +kernel
theorem d_A_eventsNotStopped_3 : decode b_A_eventsNotStopped 3 = .ok (.istore_n 3, 1) := by decide +kernel
theorem d_A_eventsNotStopped_4 : decode b_A_eventsNotStopped 4 = .ok (.iconst 0, 1) := by decide +kernel
theorem d_A_eventsNotStopped_5 : decode b_A_eventsNotStopped 5 = .ok (.istore 4, 2) := by decide +kernel
theorem d_A_eventsNotStopped_7 : decode b_A_eventsNotStopped 7 = .ok (.iload 4, 2) := by decide +kernel
theorem d_A_eventsNotStopped_9 : decode b_A_eventsNotStopped 9 = .ok (.aload_n 0, 1) := by decide +kernel
theorem d_A_eventsNotStopped_10 : decode b_A_eventsNotStopped 10 = .ok (.getfield 18, 3) := by decide +kernel
theorem d_A_eventsNotStopped_13 : decode b_A_eventsNotStopped 13 = .ok (.if_icmp .ge 37, 3) := by decide +kernel
theorem d_A_eventsNotStopped_16 : decode b_A_eventsNotStopped 16 = .ok (.iload_n 2, 1) := by decide +kernel
theorem d_A_eventsNotStopped_17 : decode b_A_eventsNotStopped 17 = .ok (.iload 4, 2) := by decide +kernel
theorem d_A_eventsNotStopped_19 : decode b_A_eventsNotStopped 19 = .ok (.invokestatic 32, 3) := by decide +kernel
theorem d_A_eventsNotStopped_22 : decode b_A_eventsNotStopped 22 = .ok (.ifCond .eq 22, 3) := by decide +kernel
theorem d_A_eventsNotStopped_25 : decode b_A_eventsNotStopped 25 = .ok (.iload_n 3, 1) := by decide +kernel
theorem d_A_eventsNotStopped_26 : decode b_A_eventsNotStopped 26 = .ok (.aload_n 0, 1) := by decide +kernel
theorem d_A_eventsNotStopped_27 : decode b_A_eventsNotStopped 27 = .ok (.getfield 11, 3) := by decide +kernel
theorem d_A_eventsNotStopped_30 : decode b_A_eventsNotStopped 30 = .ok (.iload 4, 2) := by decide +kernel
theorem d_A_eventsNotStopped_32 : decode b_A_eventsNotStopped 32 = .ok (.aaload, 1) := by decide +kernel
theorem d_A_eventsNotStopped_33 : decode b_A_eventsNotStopped 33 = .ok (.iload_n 1, 1) := by decide +kernel
theorem d_A_eventsNotStopped_34 : decode b_A_eventsNotStopped 34 = .ok (.iload 4, 2) := by decide +kernel
theorem d_A_eventsNotStopped_36 : decode b_A_eventsNotStopped 36 = .ok (.invokestatic 60, 3) := by decide +kernel
theorem d_A_eventsNotStopped_39 : decode b_A_eventsNotStopped 39 = .ok (.invokevirtual 70, 3) := by decide +kernel
theorem d_A_eventsNotStopped_42 : decode b_A_eventsNotStopped 42 = .ok (.iand, 1) := by decide +kernel
theorem d_A_eventsNotStopped_43 : decode b_A_eventsNotStopped 43 = .ok (.istore_n 3, 1) := by decide +kernel
theorem d_A_eventsNotStopped_44 : decode b_A_eventsNotStopped 44 = .ok (.iinc 4 1, 3) := by decide +kernel
theorem d_A_eventsNotStopped_47 : decode b_A_eventsNotStopped 47 = .ok (.goto (-40), 3) := by decide +kernel
theorem d_A_eventsNotStopped_50 : decode b_A_eventsNotStopped 50 = .ok (.iload_n 3, 1) := by decide +kernel
theorem d_A_eventsNotStopped_51 : decode b_A_eventsNotStopped 51 = .ok (.ireturn, 1) := by decide +kernel
theorem d_A_eventsOfPlants_0 : decode b_A_eventsOfPlants 0 = .ok (.iconst 0, 1) := by decide +kernel
theorem d_A_eventsOfPlants_1 : decode b_A_eventsOfPlants 1 = .ok (.istore_n 2, 1) := by decide +kernel
theorem d_A_eventsOfPlants_2 : decode b_A_eventsOfPlants 2 = .ok (.sipush 4095, 3) := by decide +kernel
theorem d_A_eventsOfPlants_5 : decode b_A_eventsOfPlants 5 = .ok (.istore_n 3, 1) := by decide +kernel
theorem d_A_eventsOfPlants_6 : decode b_A_eventsOfPlants 6 = .ok (.iconst 0, 1) := by decide +kernel
theorem d_A_eventsOfPlants_7 : decode b_A_eventsOfPlants 7 = .ok (.istore 4, 2) := by decide +kernel
theorem d_A_eventsOfPlants_9 : decode b_A_eventsOfPlants 9 = .ok (.iload 4, 2) := by decide +kernel
theorem d_A_eventsOfPlants_11 : decode b_A_eventsOfPlants 11 = .ok (.aload_n 0, 1) := by decide +kernel
theorem d_A_eventsOfPlants_12 : decode b_A_eventsOfPlants 12 = .ok (.getfield 18, 3) := by decide +kernel
theorem d_A_eventsOfPlants_15 : decode b_A_eventsOfPlants 15 = .ok (.if_icmp .ge 54, 3) := by decide +kernel
theorem d_A_eventsOfPlants_18 : decode b_A_eventsOfPlants 18 = .ok (.aload_n 0, 1) := by decide +kernel
theorem d_A_eventsOfPlants_19 : decode b_A_eventsOfPlants 19 = .ok (.getfield 11, 3) := by decide +kernel
theorem d_A_eventsOfPlants_22 : decode b_A_eventsOfPlants 22 = .ok (.iload 4, 2) := by decide +kernel
theorem d_A_eventsOfPlants_24 : decode b_A_eventsOfPlants 24 = .ok (.aaload, 1) := by decide +kernel
theorem d_A_eventsOfPlants_25 : decode b_A_eventsOfPlants 25 = .ok (.getfield 43, 3) := by decide +kernel
theorem d_A_eventsOfPlants_28 : decode b_A_eventsOfPlants 28 = .ok (.ifCond .ne 35, 3) := by decide +kernel
theorem d_A_eventsOfPlants_31 : decode b_A_eventsOfPlants 31 = .ok (.iload_n 2, 1) := by decide +kernel
theorem d_A_eventsOfPlants_32 : decode b_A_eventsOfPlants 32 = .ok (.aload_n 0, 1) := by decide +kernel
theorem d_A_eventsOfPlants_33 : decode b_A_eventsOfPlants 33 = .ok (.getfield 11, 3) := by decide +kernel
theorem d_A_eventsOfPlants_36 : decode b_A_eventsOfPlants 36 = .ok (.iload 4, 2) := by decide +kernel
theorem d_A_eventsOfPlants_38 : decode b_A_eventsOfPlants 38 = .ok (.aaload, 1) := by decide +kernel
theorem d_A_eventsOfPlants_39 : decode b_A_eventsOfPlants 39 = .ok (.getfield 67, 3) := by decide +kernel
theorem d_A_eventsOfPlants_42 : decode b_A_eventsOfPlants 42 = .ok (.ior, 1) := by decide +kernel
theorem d_A_eventsOfPlants_43 : decode b_A_eventsOfPlants 43 = .ok (.istore_n 2, 1) := by decide +kernel
theorem d_A_eventsOfPlants_44 : decode b_A_eventsOfPlants 44 = .ok (.iload_n 3, 1) := by decide +kernel
theorem d_A_eventsOfPlants_45 : decode b_A_eventsOfPlants 45 = .ok (.aload_n 0, 1) := by decide +kernel
theorem d_A_eventsOfPlants_46 : decode b_A_eventsOfPlants 46 = .ok (.getfield 11, 3) := by decide +kernel
theorem d_A_eventsOfPlants_49 : decode b_A_eventsOfPlants 49 = .ok (.iload 4, 2) := by decide +kernel
theorem d_A_eventsOfPlants_51 : decode b_A_eventsOfPlants 51 = .ok (.aaload, 1) := by decide +kernel
theorem d_A_eventsOfPlants_52 : decode b_A_eventsOfPlants 52 = .ok (.iload_n 1, 1) := by decide +kernel
theorem d_A_eventsOfPlants_53 : decode b_A_eventsOfPlants 53 = .ok (.iload 4, 2) := by decide +kernel
theorem d_A_eventsOfPlants_55 : decode b_A_eventsOfPlants 55 = .ok (.invokestatic 60, 3) := by decide +kernel
theorem d_A_eventsOfPlants_58 : decode b_A_eventsOfPlants 58 = .ok (.invokevirtual 70, 3) := by decide +kernel
theorem d_A_eventsOfPlants_61 : decode b_A_eventsOfPlants 61 = .ok (.iand, 1) := by decide +kernel
theorem d_A_eventsOfPlants_62 : decode b_A_eventsOfPlants 62 = .ok (.istore_n 3, 1) := by decide +kernel
theorem d_A_eventsOfPlants_63 : decode b_A_eventsOfPlants 63 = .ok (.iinc 4 1, 3) := by decide +kernel
theorem d_A_eventsOfPlants_66 : decode b_A_eventsOfPlants 66 = .ok (.goto (-57), 3) := by decide +kernel
theorem d_A_eventsOfPlants_69 : decode b_A_eventsOfPlants 69 = .ok (.iload_n 2, 1) := by decide +kernel
theorem d_A_eventsOfPlants_70 : decode b_A_eventsOfPlants 70 = .ok (.iload_n 3, 1) := by decide +kernel
theorem d_A_eventsOfPlants_71 : decode b_A_eventsOfPlants 71 = .ok (.iand, 1) := by decide +kernel
theorem d_A_eventsOfPlants_72 : decode b_A_eventsOfPlants 72 = .ok (.ireturn, 1) := by decide +kernel
theorem d_A_everyone_0 : decode b_A_everyone 0 = .ok (.iconst 1, 1) := by decide +kernel
theorem d_A_everyone_1 : decode b_A_everyone 1 = .ok (.aload_n 0, 1) := by decide +kernel
theorem d_A_everyone_2 : decode b_A_everyone 2 = .ok (.getfield 18, 3) := by decide +kernel
theorem d_A_everyone_5 : decode b_A_everyone 5 = .ok (.ishl, 1) := by decide +kernel
theorem d_A_everyone_6 : decode b_A_everyone 6 = .ok (.iconst 1, 1) := by decide +kernel
theorem d_A_everyone_7 : decode b_A_everyone 7 = .ok (.isub, 1) := by decide +kernel
theorem d_A_everyone_8 : decode b_A_everyone 8 = .ok (.ireturn, 1) := by decide +kernel
theorem d_A_firstCode_0 : decode b_A_firstCode 0 = .ok (.iconst 0, 1) := by decide +kernel
theorem d_A_firstCode_1 : decode b_A_firstCode 1 = .ok (.istore_n 2, 1) := by decide +kernel
theorem d_A_firstCode_2 : decode b_A_firstCode 2 = .ok (.iconst 0, 1) := by decide +kernel
theorem d_A_firstCode_3 : decode b_A_firstCode 3 = .ok (.istore_n 3, 1) := by decide +kernel
theorem d_A_firstCode_4 : decode b_A_firstCode 4 = .ok (.iload_n 3, 1) := by decide +kernel
theorem d_A_firstCode_5 : decode b_A_firstCode 5 = .ok (.aload_n 0, 1) := by decide +kernel
theorem d_A_firstCode_6 : decode b_A_firstCode 6 = .ok (.getfield 18, 3) := by decide +kernel
theorem d_A_firstCode_9 : decode b_A_firstCode 9 = .ok (.if_icmp .ge 32, 3) := by decide +kernel
theorem d_A_firstCode_12 : decode b_A_firstCode 12 = .ok (.iload_n 1, 1) := by decide +kernel
theorem d_A_firstCode_13 : decode b_A_firstCode 13 = .ok (.iload_n 3, 1) := by decide +kernel
theorem d_A_firstCode_14 : decode b_A_firstCode 14 = .ok (.invokestatic 32, 3) := by decide +kernel
theorem d_A_firstCode_17 : decode b_A_firstCode 17 = .ok (.ifCond .eq 18, 3) := by decide +kernel
theorem d_A_firstCode_20 : decode b_A_firstCode 20 = .ok (.iload_n 2, 1) := by decide +kernel
theorem d_A_firstCode_21 : decode b_A_firstCode 21 = .ok (.iload_n 3, 1) := by decide +kernel
theorem d_A_firstCode_22 : decode b_A_firstCode 22 = .ok (.aload_n 0, 1) := by decide +kernel
theorem d_A_firstCode_23 : decode b_A_firstCode 23 = .ok (.getfield 11, 3) := by decide +kernel
theorem d_A_firstCode_26 : decode b_A_firstCode 26 = .ok (.iload_n 3, 1) := by decide +kernel
theorem d_A_firstCode_27 : decode b_A_firstCode 27 = .ok (.aaload, 1) := by decide +kernel
theorem d_A_firstCode_28 : decode b_A_firstCode 28 = .ok (.getfield 46, 3) := by decide +kernel
theorem d_A_firstCode_31 : decode b_A_firstCode 31 = .ok (.invokestatic 53, 3) := by decide +kernel
theorem d_A_firstCode_34 : decode b_A_firstCode 34 = .ok (.istore_n 2, 1) := by decide +kernel
theorem d_A_firstCode_35 : decode b_A_firstCode 35 = .ok (.iinc 3 1, 3) := by decide +kernel
theorem d_A_firstCode_38 : decode b_A_firstCode 38 = .ok (.goto (-34), 3) := by decide +kernel
theorem d_A_firstCode_41 : decode b_A_firstCode 41 = .ok (.iload_n 2, 1) := by decide +kernel
theorem d_A_firstCode_42 : decode b_A_firstCode 42 = .ok (.ireturn, 1) := by decide +kernel
theorem d_A_hasNumber_0 : decode b_A_hasNumber 0 = .ok (.iload_n 1, 1) := by decide +kernel
theorem d_A_hasNumber_1 : decode b_A_hasNumber 1 = .ok (.ifCond .lt 15, 3) := by decide +kernel
theorem d_A_hasNumber_4 : decode b_A_hasNumber 4 = .ok (.iload_n 1, 1) := by decide +kernel
theorem d_A_hasNumber_5 : decode b_A_hasNumber 5 = .ok (.aload_n 0, 1) := by decide +kernel
theorem d_A_hasNumber_6 : decode b_A_hasNumber 6 = .ok (.getfield 18, 3) := by decide +kernel
theorem d_A_hasNumber_9 : decode b_A_hasNumber 9 = .ok (.if_icmp .ge 7, 3) := by decide +kernel
theorem d_A_hasNumber_12 : decode b_A_hasNumber 12 = .ok (.iconst 1, 1) := by decide +kernel
theorem d_A_hasNumber_13 : decode b_A_hasNumber 13 = .ok (.goto 4, 3) := by decide +kernel
theorem d_A_hasNumber_16 : decode b_A_hasNumber 16 = .ok (.iconst 0, 1) := by decide +kernel
theorem d_A_hasNumber_17 : decode b_A_hasNumber 17 = .ok (.ireturn, 1) := by decide +kernel
theorem d_A_hasState_0 : decode b_A_hasState 0 = .ok (.aload_n 0, 1) := by decide +kernel
theorem d_A_hasState_1 : decode b_A_hasState 1 = .ok (.iload_n 1, 1) := by decide +kernel
theorem d_A_hasState_2 : decode b_A_hasState 2 = .ok (.invokevirtual 36, 3) := by decide +kernel
theorem d_A_hasState_5 : decode b_A_hasState 5 = .ok (.ifCond .eq 24, 3) := by decide +kernel
theorem d_A_hasState_8 : decode b_A_hasState 8 = .ok (.iload_n 2, 1) := by decide +kernel
theorem d_A_hasState_9 : decode b_A_hasState 9 = .ok (.ifCond .lt 20, 3) := by decide +kernel
theorem d_A_hasState_12 : decode b_A_hasState 12 = .ok (.iload_n 2, 1) := by decide +kernel
theorem d_A_hasState_13 : decode b_A_hasState 13 = .ok (.aload_n 0, 1) := by decide +kernel
theorem d_A_hasState_14 : decode b_A_hasState 14 = .ok (.getfield 11, 3) := by decide +kernel
theorem d_A_hasState_17 : decode b_A_hasState 17 = .ok (.iload_n 1, 1) := by decide +kernel
theorem d_A_hasState_18 : decode b_A_hasState 18 = .ok (.aaload, 1) := by decide +kernel
theorem d_A_hasState_19 : decode b_A_hasState 19 = .ok (.getfield 40, 3) := by decide +kernel
theorem d_A_hasState_22 : decode b_A_hasState 22 = .ok (.if_icmp .ge 7, 3) := by decide +kernel
theorem d_A_hasState_25 : decode b_A_hasState 25 = .ok (.iconst 1, 1) := by decide +kernel
theorem d_A_hasState_26 : decode b_A_hasState 26 = .ok (.goto 4, 3) := by decide +kernel
theorem d_A_hasState_29 : decode b_A_hasState 29 = .ok (.iconst 0, 1) := by decide +kernel
theorem d_A_hasState_30 : decode b_A_hasState 30 = .ok (.ireturn, 1) := by decide +kernel
theorem d_A_init_0 : decode b_A_init 0 = .ok (.aload_n 0, 1) := by decide +kernel
theorem d_A_init_1 : decode b_A_init 1 = .ok (.invokespecial 3, 3) := by decide +kernel
theorem d_A_init_4 : decode b_A_init 4 = .ok (.aload_n 0, 1) := by decide +kernel
theorem d_A_init_5 : decode b_A_init 5 = .ok (.iconst 4, 1) := by decide +kernel
theorem d_A_init_6 : decode b_A_init 6 = .ok (.anewarray 9, 3) := by decide +kernel
theorem d_A_init_9 : decode b_A_init 9 = .ok (.putfield 11, 3) := by decide +kernel
theorem d_A_init_12 : decode b_A_init 12 = .ok (.iconst 0, 1) := by decide +kernel
theorem d_A_init_13 : decode b_A_init 13 = .ok (.istore_n 1, 1) := by decide +kernel
theorem d_A_init_14 : decode b_A_init 14 = .ok (.iload_n 1, 1) := by decide +kernel
theorem d_A_init_15 : decode b_A_init 15 = .ok (.iconst 4, 1) := by decide +kernel
theorem d_A_init_16 : decode b_A_init 16 = .ok (.if_icmp .ge 22, 3) := by decide +kernel
theorem d_A_init_19 : decode b_A_init 19 = .ok (.aload_n 0, 1) := by decide +kernel
theorem d_A_init_20 : decode b_A_init 20 = .ok (.getfield 11, 3) := by decide +kernel
theorem d_A_init_23 : decode b_A_init 23 = .ok (.iload_n 1, 1) := by decide +kernel
theorem d_A_init_24 : decode b_A_init 24 = .ok (.new 9, 3) := by decide +kernel
theorem d_A_init_27 : decode b_A_init 27 = .ok (.dup, 1) := by decide +kernel
theorem d_A_init_28 : decode b_A_init 28 = .ok (.invokespecial 17, 3) := by decide +kernel
theorem d_A_init_31 : decode b_A_init 31 = .ok (.aastore, 1) := by decide +kernel
theorem d_A_init_32 : decode b_A_init 32 = .ok (.iinc 1 1, 3) := by decide +kernel
theorem d_A_init_35 : decode b_A_init 35 = .ok (.goto (-21), 3) := by decide +kernel
theorem d_A_init_38 : decode b_A_init 38 = .ok (.return_, 1) := by decide +kernel
theorem d_A_isControllable_0 : decode b_A_isControllable 0 = .ok (.aload_n 0, 1) := by decide +kernel
theorem d_A_isControllable_1 : decode b_A_isControllable 1 = .ok (.getfield 29, 3) := by decide +kernel
theorem d_A_isControllable_4 : decode b_A_isControllable 4 = .ok (.iload_n 1, 1) := by decide +kernel
theorem d_A_isControllable_5 : decode b_A_isControllable 5 = .ok (.invokestatic 32, 3) := by decide +kernel
theorem d_A_isControllable_8 : decode b_A_isControllable 8 = .ok (.ireturn, 1) := by decide +kernel
theorem d_A_isDeclared_0 : decode b_A_isDeclared 0 = .ok (.aload_n 0, 1) := by decide +kernel
theorem d_A_isDeclared_1 : decode b_A_isDeclared 1 = .ok (.getfield 26, 3) := by decide +kernel
theorem d_A_isDeclared_4 : decode b_A_isDeclared 4 = .ok (.iload_n 1, 1) := by decide +kernel
theorem d_A_isDeclared_5 : decode b_A_isDeclared 5 = .ok (.invokestatic 32, 3) := by decide +kernel
theorem d_A_isDeclared_8 : decode b_A_isDeclared 8 = .ok (.ireturn, 1) := by decide +kernel
theorem d_A_isForbidden_0 : decode b_A_isForbidden 0 = .ok (.iconst 0, 1) := by decide +kernel
theorem d_A_isForbidden_1 : decode b_A_isForbidden 1 = .ok (.istore_n 3, 1) := by decide +kernel
theorem d_A_isForbidden_2 : decode b_A_isForbidden 2 = .ok (.iload_n 3, 1) := by decide +kernel
theorem d_A_isForbidden_3 : decode b_A_isForbidden 3 = .ok (.aload_n 0, 1) := by decide +kernel
theorem d_A_isForbidden_4 : decode b_A_isForbidden 4 = .ok (.getfield 18, 3) := by decide +kernel
theorem d_A_isForbidden_7 : decode b_A_isForbidden 7 = .ok (.if_icmp .ge 39, 3) := by decide +kernel
theorem d_A_isForbidden_10 : decode b_A_isForbidden 10 = .ok (.iload_n 2, 1) := by decide +kernel
theorem d_A_isForbidden_11 : decode b_A_isForbidden 11 = .ok (.iload_n 3, 1) := by decide +kernel
theorem d_A_isForbidden_12 : decode b_A_isForbidden 12 = .ok (.invokestatic 32, 3) := by decide +kernel
theorem d_A_isForbidden_15 : decode b_A_isForbidden 15 = .ok (.ifCond .eq 25, 3) := by decide +kernel
theorem d_A_isForbidden_18 : decode b_A_isForbidden 18 = .ok (.aload_n 0, 1) := by decide +kernel
theorem d_A_isForbidden_19 : decode b_A_isForbidden 19 = .ok (.getfield 11, 3) := by decide +kernel
theorem d_A_isForbidden_22 : decode b_A_isForbidden 22 = .ok (.iload_n 3, 1) := by decide +kernel
theorem d_A_isForbidden_23 : decode b_A_isForbidden 23 = .ok (.aaload, 1) := by decide +kernel
theorem d_A_isForbidden_24 : decode b_A_isForbidden 24 = .ok (.getfield 64, 3) := by decide +kernel
theorem d_A_isForbidden_27 : decode b_A_isForbidden 27 = .ok (.iload_n 1, 1) := by decide +kernel
theorem d_A_isForbidden_28 : decode b_A_isForbidden 28 = .ok (.iload_n 3, 1) := by decide +kernel
theorem d_A_isForbidden_29 : decode b_A_isForbidden 29 = .ok (.invokestatic 60, 3) := by decide +kernel
theorem d_A_isForbidden_32 : decode b_A_isForbidden 32 = .ok (.invokestatic 32, 3) := by decide +kernel
theorem d_A_isForbidden_35 : decode b_A_isForbidden 35 = .ok (.ifCond .eq 5, 3) := by decide +kernel
theorem d_A_isForbidden_38 : decode b_A_isForbidden 38 = .ok (.iconst 1, 1) := by decide +kernel
theorem d_A_isForbidden_39 : decode b_A_isForbidden 39 = .ok (.ireturn, 1) := by decide +kernel
theorem d_A_isForbidden_40 : decode b_A_isForbidden 40 = .ok (.iinc 3 1, 3) := by decide +kernel
theorem d_A_isForbidden_43 : decode b_A_isForbidden 43 = .ok (.goto (-41), 3) := by decide +kernel
theorem d_A_isForbidden_46 : decode b_A_isForbidden 46 = .ok (.iconst 0, 1) := by decide +kernel
theorem d_A_isForbidden_47 : decode b_A_isForbidden 47 = .ok (.ireturn, 1) := by decide +kernel
theorem d_A_isMarked_0 : decode b_A_isMarked 0 = .ok (.iconst 0, 1) := by decide +kernel
theorem d_A_isMarked_1 : decode b_A_isMarked 1 = .ok (.istore_n 3, 1) := by decide +kernel
theorem d_A_isMarked_2 : decode b_A_isMarked 2 = .ok (.iload_n 3, 1) := by decide +kernel
theorem d_A_isMarked_3 : decode b_A_isMarked 3 = .ok (.aload_n 0, 1) := by decide +kernel
theorem d_A_isMarked_4 : decode b_A_isMarked 4 = .ok (.getfield 18, 3) := by decide +kernel
theorem d_A_isMarked_7 : decode b_A_isMarked 7 = .ok (.if_icmp .ge 39, 3) := by decide +kernel
theorem d_A_isMarked_10 : decode b_A_isMarked 10 = .ok (.iload_n 2, 1) := by decide +kernel
theorem d_A_isMarked_11 : decode b_A_isMarked 11 = .ok (.iload_n 3, 1) := by decide +kernel
theorem d_A_isMarked_12 : decode b_A_isMarked 12 = .ok (.invokestatic 32, 3) := by decide +kernel
theorem d_A_isMarked_15 : decode b_A_isMarked 15 = .ok (.ifCond .eq 25, 3) := by decide +kernel
theorem d_A_isMarked_18 : decode b_A_isMarked 18 = .ok (.aload_n 0, 1) := by decide +kernel
theorem d_A_isMarked_19 : decode b_A_isMarked 19 = .ok (.getfield 11, 3) := by decide +kernel
theorem d_A_isMarked_22 : decode b_A_isMarked 22 = .ok (.iload_n 3, 1) := by decide +kernel
theorem d_A_isMarked_23 : decode b_A_isMarked 23 = .ok (.aaload, 1) := by decide +kernel
theorem d_A_isMarked_24 : decode b_A_isMarked 24 = .ok (.getfield 57, 3) := by decide +kernel
theorem d_A_isMarked_27 : decode b_A_isMarked 27 = .ok (.iload_n 1, 1) := by decide +kernel
theorem d_A_isMarked_28 : decode b_A_isMarked 28 = .ok (.iload_n 3, 1) := by decide +kernel
theorem d_A_isMarked_29 : decode b_A_isMarked 29 = .ok (.invokestatic 60, 3) := by decide +kernel
theorem d_A_isMarked_32 : decode b_A_isMarked 32 = .ok (.invokestatic 32, 3) := by decide +kernel
theorem d_A_isMarked_35 : decode b_A_isMarked 35 = .ok (.ifCond .ne 5, 3) := by decide +kernel
theorem d_A_isMarked_38 : decode b_A_isMarked 38 = .ok (.iconst 0, 1) := by decide +kernel
theorem d_A_isMarked_39 : decode b_A_isMarked 39 = .ok (.ireturn, 1) := by decide +kernel
theorem d_A_isMarked_40 : decode b_A_isMarked 40 = .ok (.iinc 3 1, 3) := by decide +kernel
theorem d_A_isMarked_43 : decode b_A_isMarked 43 = .ok (.goto (-41), 3) := by decide +kernel
theorem d_A_isMarked_46 : decode b_A_isMarked 46 = .ok (.iconst 1, 1) := by decide +kernel
theorem d_A_isMarked_47 : decode b_A_isMarked 47 = .ok (.ireturn, 1) := by decide +kernel
theorem d_A_isRule_0 : decode b_A_isRule 0 = .ok (.aload_n 0, 1) := by decide +kernel
theorem d_A_isRule_1 : decode b_A_isRule 1 = .ok (.iload_n 1, 1) := by decide +kernel
theorem d_A_isRule_2 : decode b_A_isRule 2 = .ok (.invokevirtual 36, 3) := by decide +kernel
theorem d_A_isRule_5 : decode b_A_isRule 5 = .ok (.ifCond .eq 20, 3) := by decide +kernel
theorem d_A_isRule_8 : decode b_A_isRule 8 = .ok (.aload_n 0, 1) := by decide +kernel
theorem d_A_isRule_9 : decode b_A_isRule 9 = .ok (.getfield 11, 3) := by decide +kernel
theorem d_A_isRule_12 : decode b_A_isRule 12 = .ok (.iload_n 1, 1) := by decide +kernel
theorem d_A_isRule_13 : decode b_A_isRule 13 = .ok (.aaload, 1) := by decide +kernel
theorem d_A_isRule_14 : decode b_A_isRule 14 = .ok (.getfield 43, 3) := by decide +kernel
theorem d_A_isRule_17 : decode b_A_isRule 17 = .ok (.iconst 1, 1) := by decide +kernel
theorem d_A_isRule_18 : decode b_A_isRule 18 = .ok (.if_icmp .ne 7, 3) := by decide +kernel
theorem d_A_isRule_21 : decode b_A_isRule 21 = .ok (.iconst 1, 1) := by decide +kernel
theorem d_A_isRule_22 : decode b_A_isRule 22 = .ok (.goto 4, 3) := by decide +kernel
theorem d_A_isRule_25 : decode b_A_isRule 25 = .ok (.iconst 0, 1) := by decide +kernel
theorem d_A_isRule_26 : decode b_A_isRule 26 = .ok (.ireturn, 1) := by decide +kernel
theorem d_A_plants_0 : decode b_A_plants 0 = .ok (.iconst 0, 1) := by decide +kernel
theorem d_A_plants_1 : decode b_A_plants 1 = .ok (.istore_n 1, 1) := by decide +kernel
theorem d_A_plants_2 : decode b_A_plants 2 = .ok (.iconst 0, 1) := by decide +kernel
theorem d_A_plants_3 : decode b_A_plants 3 = .ok (.istore_n 2, 1) := by decide +kernel
theorem d_A_plants_4 : decode b_A_plants 4 = .ok (.iload_n 2, 1) := by decide +kernel
theorem d_A_plants_5 : decode b_A_plants 5 = .ok (.aload_n 0, 1) := by decide +kernel
theorem d_A_plants_6 : decode b_A_plants 6 = .ok (.getfield 18, 3) := by decide +kernel
theorem d_A_plants_9 : decode b_A_plants 9 = .ok (.if_icmp .ge 27, 3) := by decide +kernel
theorem d_A_plants_12 : decode b_A_plants 12 = .ok (.aload_n 0, 1) := by decide +kernel
theorem d_A_plants_13 : decode b_A_plants 13 = .ok (.getfield 11, 3) := by decide +kernel
theorem d_A_plants_16 : decode b_A_plants 16 = .ok (.iload_n 2, 1) := by decide +kernel
theorem d_A_plants_17 : decode b_A_plants 17 = .ok (.aaload, 1) := by decide +kernel
theorem d_A_plants_18 : decode b_A_plants 18 = .ok (.getfield 43, 3) := by decide +kernel
theorem d_A_plants_21 : decode b_A_plants 21 = .ok (.ifCond .ne 9, 3) := by decide +kernel
theorem d_A_plants_24 : decode b_A_plants 24 = .ok (.iload_n 1, 1) := by decide +kernel
theorem d_A_plants_25 : decode b_A_plants 25 = .ok (.iconst 1, 1) := by decide +kernel
theorem d_A_plants_26 : decode b_A_plants 26 = .ok (.iload_n 2, 1) := by decide +kernel
theorem d_A_plants_27 : decode b_A_plants 27 = .ok (.ishl, 1) := by decide +kernel
theorem d_A_plants_28 : decode b_A_plants 28 = .ok (.ior, 1) := by decide +kernel
theorem d_A_plants_29 : decode b_A_plants 29 = .ok (.istore_n 1, 1) := by decide +kernel
theorem d_A_plants_30 : decode b_A_plants 30 = .ok (.iinc 2 1, 3) := by decide +kernel
theorem d_A_plants_33 : decode b_A_plants 33 = .ok (.goto (-29), 3) := by decide +kernel
theorem d_A_plants_36 : decode b_A_plants 36 = .ok (.iload_n 1, 1) := by decide +kernel
theorem d_A_plants_37 : decode b_A_plants 37 = .ok (.ireturn, 1) := by decide +kernel
theorem d_A_removeAll_0 : decode b_A_removeAll 0 = .ok (.aload_n 0, 1) := by decide +kernel
theorem d_A_removeAll_1 : decode b_A_removeAll 1 = .ok (.iconst 0, 1) := by decide +kernel
theorem d_A_removeAll_2 : decode b_A_removeAll 2 = .ok (.putfield 18, 3) := by decide +kernel
theorem d_A_removeAll_5 : decode b_A_removeAll 5 = .ok (.aload_n 0, 1) := by decide +kernel
theorem d_A_removeAll_6 : decode b_A_removeAll 6 = .ok (.iconst 0, 1) := by decide +kernel
theorem d_A_removeAll_7 : decode b_A_removeAll 7 = .ok (.putfield 26, 3) := by decide +kernel
theorem d_A_removeAll_10 : decode b_A_removeAll 10 = .ok (.aload_n 0, 1) := by decide +kernel
theorem d_A_removeAll_11 : decode b_A_removeAll 11 = .ok (.iconst 0, 1) := by decide +kernel
theorem d_A_removeAll_12 : decode b_A_removeAll 12 = .ok (.putfield 29, 3) := by decide +kernel
theorem d_A_removeAll_15 : decode b_A_removeAll 15 = .ok (.return_, 1) := by decide +kernel
theorem d_A_stateIn_0 : decode b_A_stateIn 0 = .ok (.iload_n 0, 1) := by decide +kernel
theorem d_A_stateIn_1 : decode b_A_stateIn 1 = .ok (.iload_n 1, 1) := by decide +kernel
theorem d_A_stateIn_2 : decode b_A_stateIn 2 = .ok (.iconst 3, 1) := by decide +kernel
theorem d_A_stateIn_3 : decode b_A_stateIn 3 = .ok (.imul, 1) := by decide +kernel
theorem d_A_stateIn_4 : decode b_A_stateIn 4 = .ok (.ishr, 1) := by decide +kernel
theorem d_A_stateIn_5 : decode b_A_stateIn 5 = .ok (.bipush 7, 2) := by decide +kernel
theorem d_A_stateIn_7 : decode b_A_stateIn 7 = .ok (.iand, 1) := by decide +kernel
theorem d_A_stateIn_8 : decode b_A_stateIn 8 = .ok (.ireturn, 1) := by decide +kernel
theorem d_A_step_0 : decode b_A_step 0 = .ok (.iload_n 1, 1) := by decide +kernel
theorem d_A_step_1 : decode b_A_step 1 = .ok (.istore 4, 2) := by decide +kernel
theorem d_A_step_3 : decode b_A_step 3 = .ok (.iconst 0, 1) := by decide +kernel
theorem d_A_step_4 : decode b_A_step 4 = .ok (.istore 5, 2) := by decide +kernel
theorem d_A_step_6 : decode b_A_step 6 = .ok (.iload 5, 2) := by decide +kernel
theorem d_A_step_8 : decode b_A_step 8 = .ok (.aload_n 0, 1) := by decide +kernel
theorem d_A_step_9 : decode b_A_step 9 = .ok (.getfield 18, 3) := by decide +kernel
theorem d_A_step_12 : decode b_A_step 12 = .ok (.if_icmp .ge 61, 3) := by decide +kernel
theorem d_A_step_15 : decode b_A_step 15 = .ok (.iload_n 3, 1) := by decide +kernel
theorem d_A_step_16 : decode b_A_step 16 = .ok (.iload 5, 2) := by decide +kernel
theorem d_A_step_18 : decode b_A_step 18 = .ok (.invokestatic 32, 3) := by decide +kernel
theorem d_A_step_21 : decode b_A_step 21 = .ok (.ifCond .eq 46, 3) := by decide +kernel
theorem d_A_step_24 : decode b_A_step 24 = .ok (.aload_n 0, 1) := by decide +kernel
theorem d_A_step_25 : decode b_A_step 25 = .ok (.getfield 11, 3) := by decide +kernel
theorem d_A_step_28 : decode b_A_step 28 = .ok (.iload 5, 2) := by decide +kernel
theorem d_A_step_30 : decode b_A_step 30 = .ok (.aaload, 1) := by decide +kernel
theorem d_A_step_31 : decode b_A_step 31 = .ok (.getfield 67, 3) := by decide +kernel
theorem d_A_step_34 : decode b_A_step 34 = .ok (.iload_n 2, 1) := by decide +kernel
theorem d_A_step_35 : decode b_A_step 35 = .ok (.invokestatic 32, 3) := by decide +kernel
theorem d_A_step_38 : decode b_A_step 38 = .ok (.ifCond .eq 29, 3) := by decide +kernel
theorem d_A_step_41 : decode b_A_step 41 = .ok (.iload 4, 2) := by decide +kernel
theorem d_A_step_43 : decode b_A_step 43 = .ok (.iload 5, 2) := by decide +kernel
theorem d_A_step_45 : decode b_A_step 45 = .ok (.aload_n 0, 1) := by decide +kernel
theorem d_A_step_46 : decode b_A_step 46 = .ok (.getfield 11, 3) := by decide +kernel
theorem d_A_step_49 : decode b_A_step 49 = .ok (.iload 5, 2) := by decide +kernel
theorem d_A_step_51 : decode b_A_step 51 = .ok (.aaload, 1) := by decide +kernel
theorem d_A_step_52 : decode b_A_step 52 = .ok (.iload_n 1, 1) := by decide +kernel
theorem d_A_step_53 : decode b_A_step 53 = .ok (.iload 5, 2) := by decide +kernel
theorem d_A_step_55 : decode b_A_step 55 = .ok (.invokestatic 60, 3) := by decide +kernel
theorem d_A_step_58 : decode b_A_step 58 = .ok (.iload_n 2, 1) := by decide +kernel
theorem d_A_step_59 : decode b_A_step 59 = .ok (.invokevirtual 74, 3) := by decide +kernel
theorem d_A_step_62 : decode b_A_step 62 = .ok (.invokestatic 53, 3) := by decide +kernel
theorem d_A_step_65 : decode b_A_step 65 = .ok (.istore 4, 2) := by decide +kernel
theorem d_A_step_67 : decode b_A_step 67 = .ok (.iinc 5 1, 3) := by decide +kernel
theorem d_A_step_70 : decode b_A_step 70 = .ok (.goto (-64), 3) := by decide +kernel
theorem d_A_step_73 : decode b_A_step 73 = .ok (.iload 4, 2) := by decide +kernel
theorem d_A_step_75 : decode b_A_step 75 = .ok (.ireturn, 1) := by decide +kernel
theorem d_A_withState_0 : decode b_A_withState 0 = .ok (.iload_n 1, 1) := by decide +kernel
theorem d_A_withState_1 : decode b_A_withState 1 = .ok (.iconst 3, 1) := by decide +kernel
theorem d_A_withState_2 : decode b_A_withState 2 = .ok (.imul, 1) := by decide +kernel
theorem d_A_withState_3 : decode b_A_withState 3 = .ok (.istore_n 3, 1) := by decide +kernel
theorem d_A_withState_4 : decode b_A_withState 4 = .ok (.iload_n 0, 1) := by decide +kernel
theorem d_A_withState_5 : decode b_A_withState 5 = .ok (.bipush 7, 2) := by decide +kernel
theorem d_A_withState_7 : decode b_A_withState 7 = .ok (.iload_n 3, 1) := by decide +kernel
theorem d_A_withState_8 : decode b_A_withState 8 = .ok (.ishl, 1) := by decide +kernel
theorem d_A_withState_9 : decode b_A_withState 9 = .ok (.iconst (-1), 1) := by decide +kernel
theorem d_A_withState_10 : decode b_A_withState 10 = .ok (.ixor, 1) := by decide +kernel
theorem d_A_withState_11 : decode b_A_withState 11 = .ok (.iand, 1) := by decide +kernel
theorem d_A_withState_12 : decode b_A_withState 12 = .ok (.iload_n 2, 1) := by decide +kernel
theorem d_A_withState_13 : decode b_A_withState 13 = .ok (.iload_n 3, 1) := by decide +kernel
theorem d_A_withState_14 : decode b_A_withState 14 = .ok (.ishl, 1) := by decide +kernel
theorem d_A_withState_15 : decode b_A_withState 15 = .ok (.ior, 1) := by decide +kernel
theorem d_A_withState_16 : decode b_A_withState 16 = .ok (.ireturn, 1) := by decide +kernel
theorem d_M_addEdge_0 : decode b_M_addEdge 0 = .ok (.aload_n 0, 1) := by decide +kernel
theorem d_M_addEdge_1 : decode b_M_addEdge 1 = .ok (.getfield 15, 3) := by decide +kernel
theorem d_M_addEdge_4 : decode b_M_addEdge 4 = .ok (.iload_n 1, 1) := by decide +kernel
theorem d_M_addEdge_5 : decode b_M_addEdge 5 = .ok (.bipush 12, 2) := by decide +kernel
theorem d_M_addEdge_7 : decode b_M_addEdge 7 = .ok (.imul, 1) := by decide +kernel
theorem d_M_addEdge_8 : decode b_M_addEdge 8 = .ok (.iload_n 2, 1) := by decide +kernel
theorem d_M_addEdge_9 : decode b_M_addEdge 9 = .ok (.iadd, 1) := by decide +kernel
theorem d_M_addEdge_10 : decode b_M_addEdge 10 = .ok (.iload_n 3, 1) := by decide +kernel
theorem d_M_addEdge_11 : decode b_M_addEdge 11 = .ok (.iastore, 1) := by decide +kernel
theorem d_M_addEdge_12 : decode b_M_addEdge 12 = .ok (.aload_n 0, 1) := by decide +kernel
theorem d_M_addEdge_13 : decode b_M_addEdge 13 = .ok (.getfield 9, 3) := by decide +kernel
theorem d_M_addEdge_16 : decode b_M_addEdge 16 = .ok (.iload_n 1, 1) := by decide +kernel
theorem d_M_addEdge_17 : decode b_M_addEdge 17 = .ok (.dup2, 1) := by decide +kernel
theorem d_M_addEdge_18 : decode b_M_addEdge 18 = .ok (.iaload, 1) := by decide +kernel
theorem d_M_addEdge_19 : decode b_M_addEdge 19 = .ok (.iconst 1, 1) := by decide +kernel
theorem d_M_addEdge_20 : decode b_M_addEdge 20 = .ok (.iload_n 2, 1) := by decide +kernel
theorem d_M_addEdge_21 : decode b_M_addEdge 21 = .ok (.ishl, 1) := by decide +kernel
theorem d_M_addEdge_22 : decode b_M_addEdge 22 = .ok (.ior, 1) := by decide +kernel
theorem d_M_addEdge_23 : decode b_M_addEdge 23 = .ok (.iastore, 1) := by decide +kernel
theorem d_M_addEdge_24 : decode b_M_addEdge 24 = .ok (.aload_n 0, 1) := by decide +kernel
theorem d_M_addEdge_25 : decode b_M_addEdge 25 = .ok (.dup, 1) := by decide +kernel
theorem d_M_addEdge_26 : decode b_M_addEdge 26 = .ok (.getfield 34, 3) := by decide +kernel
theorem d_M_addEdge_29 : decode b_M_addEdge 29 = .ok (.iconst 1, 1) := by decide +kernel
theorem d_M_addEdge_30 : decode b_M_addEdge 30 = .ok (.iload_n 2, 1) := by decide +kernel
theorem d_M_addEdge_31 : decode b_M_addEdge 31 = .ok (.ishl, 1) := by decide +kernel
theorem d_M_addEdge_32 : decode b_M_addEdge 32 = .ok (.ior, 1) := by decide +kernel
theorem d_M_addEdge_33 : decode b_M_addEdge 33 = .ok (.putfield 34, 3) := by decide +kernel
theorem d_M_addEdge_36 : decode b_M_addEdge 36 = .ok (.return_, 1) := by decide +kernel
theorem d_M_begin_0 : decode b_M_begin 0 = .ok (.aload_n 0, 1) := by decide +kernel
theorem d_M_begin_1 : decode b_M_begin 1 = .ok (.iload_n 1, 1) := by decide +kernel
theorem d_M_begin_2 : decode b_M_begin 2 = .ok (.putfield 18, 3) := by decide +kernel
theorem d_M_begin_5 : decode b_M_begin 5 = .ok (.aload_n 0, 1) := by decide +kernel
theorem d_M_begin_6 : decode b_M_begin 6 = .ok (.iload_n 2, 1) := by decide +kernel
theorem d_M_begin_7 : decode b_M_begin 7 = .ok (.putfield 22, 3) := by decide +kernel
theorem d_M_begin_10 : decode b_M_begin 10 = .ok (.aload_n 0, 1) := by decide +kernel
theorem d_M_begin_11 : decode b_M_begin 11 = .ok (.iconst (-1), 1) := by decide +kernel
theorem d_M_begin_12 : decode b_M_begin 12 = .ok (.putfield 25, 3) := by decide +kernel
theorem d_M_begin_15 : decode b_M_begin 15 = .ok (.aload_n 0, 1) := by decide +kernel
theorem d_M_begin_16 : decode b_M_begin 16 = .ok (.iconst 0, 1) := by decide +kernel
theorem d_M_begin_17 : decode b_M_begin 17 = .ok (.putfield 28, 3) := by decide +kernel
theorem d_M_begin_20 : decode b_M_begin 20 = .ok (.aload_n 0, 1) := by decide +kernel
theorem d_M_begin_21 : decode b_M_begin 21 = .ok (.iconst 0, 1) := by decide +kernel
theorem d_M_begin_22 : decode b_M_begin 22 = .ok (.putfield 31, 3) := by decide +kernel
theorem d_M_begin_25 : decode b_M_begin 25 = .ok (.aload_n 0, 1) := by decide +kernel
theorem d_M_begin_26 : decode b_M_begin 26 = .ok (.iconst 0, 1) := by decide +kernel
theorem d_M_begin_27 : decode b_M_begin 27 = .ok (.putfield 34, 3) := by decide +kernel
theorem d_M_begin_30 : decode b_M_begin 30 = .ok (.iconst 0, 1) := by decide +kernel
theorem d_M_begin_31 : decode b_M_begin 31 = .ok (.istore_n 3, 1) := by decide +kernel
theorem d_M_begin_32 : decode b_M_begin 32 = .ok (.iload_n 3, 1) := by decide +kernel
theorem d_M_begin_33 : decode b_M_begin 33 = .ok (.bipush 6, 2) := by decide +kernel
theorem d_M_begin_35 : decode b_M_begin 35 = .ok (.if_icmp .ge 16, 3) := by decide +kernel
theorem d_M_begin_38 : decode b_M_begin 38 = .ok (.aload_n 0, 1) := by decide +kernel
theorem d_M_begin_39 : decode b_M_begin 39 = .ok (.getfield 9, 3) := by decide +kernel
theorem d_M_begin_42 : decode b_M_begin 42 = .ok (.iload_n 3, 1) := by decide +kernel
theorem d_M_begin_43 : decode b_M_begin 43 = .ok (.iconst 0, 1) := by decide +kernel
theorem d_M_begin_44 : decode b_M_begin 44 = .ok (.iastore, 1) := by decide +kernel
theorem d_M_begin_45 : decode b_M_begin 45 = .ok (.iinc 3 1, 3) := by decide +kernel
theorem d_M_begin_48 : decode b_M_begin 48 = .ok (.goto (-16), 3) := by decide +kernel
theorem d_M_begin_51 : decode b_M_begin 51 = .ok (.return_, 1) := by decide +kernel
theorem d_M_change_0 : decode b_M_change 0 = .ok (.iload_n 2, 1) := by decide +kernel
theorem d_M_change_1 : decode b_M_change 1 = .ok (.ifCond .ne 12, 3) := by decide +kernel
theorem d_M_change_4 : decode b_M_change 4 = .ok (.aload_n 0, 1) := by decide +kernel
theorem d_M_change_5 : decode b_M_change 5 = .ok (.iload_n 1, 1) := by decide +kernel
theorem d_M_change_6 : decode b_M_change 6 = .ok (.iload_n 3, 1) := by decide +kernel
theorem d_M_change_7 : decode b_M_change 7 = .ok (.invokevirtual 41, 3) := by decide +kernel
theorem d_M_change_10 : decode b_M_change 10 = .ok (.goto 37, 3) := by decide +kernel
theorem d_M_change_13 : decode b_M_change 13 = .ok (.iload_n 2, 1) := by decide +kernel
theorem d_M_change_14 : decode b_M_change 14 = .ok (.iconst 1, 1) := by decide +kernel
theorem d_M_change_15 : decode b_M_change 15 = .ok (.if_icmp .ne 19, 3) := by decide +kernel
theorem d_M_change_18 : decode b_M_change 18 = .ok (.aload_n 0, 1) := by decide +kernel
theorem d_M_change_19 : decode b_M_change 19 = .ok (.aload_n 0, 1) := by decide +kernel
theorem d_M_change_20 : decode b_M_change 20 = .ok (.getfield 28, 3) := by decide +kernel
theorem d_M_change_23 : decode b_M_change 23 = .ok (.iload_n 1, 1) := by decide +kernel
theorem d_M_change_24 : decode b_M_change 24 = .ok (.iload_n 3, 1) := by decide +kernel
theorem d_M_change_25 : decode b_M_change 25 = .ok (.invokestatic 45, 3) := by decide +kernel
theorem d_M_change_28 : decode b_M_change 28 = .ok (.putfield 28, 3) := by decide +kernel
theorem d_M_change_31 : decode b_M_change 31 = .ok (.goto 16, 3) := by decide +kernel
theorem d_M_change_34 : decode b_M_change 34 = .ok (.aload_n 0, 1) := by decide +kernel
theorem d_M_change_35 : decode b_M_change 35 = .ok (.aload_n 0, 1) := by decide +kernel
theorem d_M_change_36 : decode b_M_change 36 = .ok (.getfield 31, 3) := by decide +kernel
theorem d_M_change_39 : decode b_M_change 39 = .ok (.iload_n 1, 1) := by decide +kernel
theorem d_M_change_40 : decode b_M_change 40 = .ok (.iload_n 3, 1) := by decide +kernel
theorem d_M_change_41 : decode b_M_change 41 = .ok (.invokestatic 45, 3) := by decide +kernel
theorem d_M_change_44 : decode b_M_change 44 = .ok (.putfield 31, 3) := by decide +kernel
theorem d_M_change_47 : decode b_M_change 47 = .ok (.return_, 1) := by decide +kernel
theorem d_M_changeInitial_0 : decode b_M_changeInitial 0 = .ok (.iload_n 2, 1) := by decide +kernel
theorem d_M_changeInitial_1 : decode b_M_changeInitial 1 = .ok (.ifCond .eq 11, 3) := by decide +kernel
theorem d_M_changeInitial_4 : decode b_M_changeInitial 4 = .ok (.aload_n 0, 1) := by decide +kernel
theorem d_M_changeInitial_5 : decode b_M_changeInitial 5 = .ok (.iload_n 1, 1) := by decide +kernel
theorem d_M_changeInitial_6 : decode b_M_changeInitial 6 = .ok (.putfield 25, 3) := by decide +kernel
theorem d_M_changeInitial_9 : decode b_M_changeInitial 9 = .ok (.goto 16, 3) := by decide +kernel
theorem d_M_changeInitial_12 : decode b_M_changeInitial 12 = .ok (.aload_n 0, 1) := by decide +kernel
theorem d_M_changeInitial_13 : decode b_M_changeInitial 13 = .ok (.getfield 25, 3) := by decide +kernel
theorem d_M_changeInitial_16 : decode b_M_changeInitial 16 = .ok (.iload_n 1, 1) := by decide +kernel
theorem d_M_changeInitial_17 : decode b_M_changeInitial 17 = .ok (.if_icmp .ne 8, 3) := by decide +kernel
theorem d_M_changeInitial_20 : decode b_M_changeInitial 20 = .ok (.aload_n 0, 1) := by decide +kernel
theorem d_M_changeInitial_21 : decode b_M_changeInitial 21 = .ok (.iconst (-1), 1) := by decide +kernel
theorem d_M_changeInitial_22 : decode b_M_changeInitial 22 = .ok (.putfield 25, 3) := by decide +kernel
theorem d_M_changeInitial_25 : decode b_M_changeInitial 25 = .ok (.return_, 1) := by decide +kernel
theorem d_M_eventsNotStopped_0 : decode b_M_eventsNotStopped 0 = .ok (.aload_n 0, 1) := by decide +kernel
theorem d_M_eventsNotStopped_1 : decode b_M_eventsNotStopped 1 = .ok (.getfield 34, 3) := by decide +kernel
theorem d_M_eventsNotStopped_4 : decode b_M_eventsNotStopped 4 = .ok (.iconst (-1), 1) := by decide +kernel
theorem d_M_eventsNotStopped_5 : decode b_M_eventsNotStopped 5 = .ok (.ixor, 1) := by decide +kernel
theorem d_M_eventsNotStopped_6 : decode b_M_eventsNotStopped 6 = .ok (.aload_n 0, 1) := by decide +kernel
theorem d_M_eventsNotStopped_7 : decode b_M_eventsNotStopped 7 = .ok (.getfield 9, 3) := by decide +kernel
theorem d_M_eventsNotStopped_10 : decode b_M_eventsNotStopped 10 = .ok (.iload_n 1, 1) := by decide +kernel
theorem d_M_eventsNotStopped_11 : decode b_M_eventsNotStopped 11 = .ok (.iaload, 1) := by decide +kernel
theorem d_M_eventsNotStopped_12 : decode b_M_eventsNotStopped 12 = .ok (.ior, 1) := by decide +kernel
theorem d_M_eventsNotStopped_13 : decode b_M_eventsNotStopped 13 = .ok (.ireturn, 1) := by decide +kernel
theorem d_M_follow_0 : decode b_M_follow 0 = .ok (.aload_n 0, 1) := by decide +kernel
theorem d_M_follow_1 : decode b_M_follow 1 = .ok (.getfield 15, 3) := by decide +kernel
theorem d_M_follow_4 : decode b_M_follow 4 = .ok (.iload_n 1, 1) := by decide +kernel
theorem d_M_follow_5 : decode b_M_follow 5 = .ok (.bipush 12, 2) := by decide +kernel
theorem d_M_follow_7 : decode b_M_follow 7 = .ok (.imul, 1) := by decide +kernel
theorem d_M_follow_8 : decode b_M_follow 8 = .ok (.iload_n 2, 1) := by decide +kernel
theorem d_M_follow_9 : decode b_M_follow 9 = .ok (.iadd, 1) := by decide +kernel
theorem d_M_follow_10 : decode b_M_follow 10 = .ok (.iaload, 1) := by decide +kernel
theorem d_M_follow_11 : decode b_M_follow 11 = .ok (.ireturn, 1) := by decide +kernel
theorem d_M_hasEdge_0 : decode b_M_hasEdge 0 = .ok (.aload_n 0, 1) := by decide +kernel
theorem d_M_hasEdge_1 : decode b_M_hasEdge 1 = .ok (.getfield 9, 3) := by decide +kernel
theorem d_M_hasEdge_4 : decode b_M_hasEdge 4 = .ok (.iload_n 1, 1) := by decide +kernel
theorem d_M_hasEdge_5 : decode b_M_hasEdge 5 = .ok (.iaload, 1) := by decide +kernel
theorem d_M_hasEdge_6 : decode b_M_hasEdge 6 = .ok (.iload_n 2, 1) := by decide +kernel
theorem d_M_hasEdge_7 : decode b_M_hasEdge 7 = .ok (.invokestatic 37, 3) := by decide +kernel
theorem d_M_hasEdge_10 : decode b_M_hasEdge 10 = .ok (.ireturn, 1) := by decide +kernel
theorem d_M_init_0 : decode b_M_init 0 = .ok (.aload_n 0, 1) := by decide +kernel
theorem d_M_init_1 : decode b_M_init 1 = .ok (.invokespecial 3, 3) := by decide +kernel
theorem d_M_init_4 : decode b_M_init 4 = .ok (.aload_n 0, 1) := by decide +kernel
theorem d_M_init_5 : decode b_M_init 5 = .ok (.bipush 6, 2) := by decide +kernel
theorem d_M_init_7 : decode b_M_init 7 = .ok (.newarray .int, 2) := by decide +kernel
theorem d_M_init_9 : decode b_M_init 9 = .ok (.putfield 9, 3) := by decide +kernel
theorem d_M_init_12 : decode b_M_init 12 = .ok (.aload_n 0, 1) := by decide +kernel
theorem d_M_init_13 : decode b_M_init 13 = .ok (.bipush 72, 2) := by decide +kernel
theorem d_M_init_15 : decode b_M_init 15 = .ok (.newarray .int, 2) := by decide +kernel
theorem d_M_init_17 : decode b_M_init 17 = .ok (.putfield 15, 3) := by decide +kernel
theorem d_M_init_20 : decode b_M_init 20 = .ok (.return_, 1) := by decide +kernel
theorem d_M_withBit_0 : decode b_M_withBit 0 = .ok (.iload_n 2, 1) := by decide +kernel
theorem d_M_withBit_1 : decode b_M_withBit 1 = .ok (.ifCond .eq 11, 3) := by decide +kernel
theorem d_M_withBit_4 : decode b_M_withBit 4 = .ok (.iload_n 0, 1) := by decide +kernel
theorem d_M_withBit_5 : decode b_M_withBit 5 = .ok (.iconst 1, 1) := by decide +kernel
theorem d_M_withBit_6 : decode b_M_withBit 6 = .ok (.iload_n 1, 1) := by decide +kernel
theorem d_M_withBit_7 : decode b_M_withBit 7 = .ok (.ishl, 1) := by decide +kernel
theorem d_M_withBit_8 : decode b_M_withBit 8 = .ok (.ior, 1) := by decide +kernel
theorem d_M_withBit_9 : decode b_M_withBit 9 = .ok (.goto 10, 3) := by decide +kernel
theorem d_M_withBit_12 : decode b_M_withBit 12 = .ok (.iload_n 0, 1) := by decide +kernel
theorem d_M_withBit_13 : decode b_M_withBit 13 = .ok (.iconst 1, 1) := by decide +kernel
theorem d_M_withBit_14 : decode b_M_withBit 14 = .ok (.iload_n 1, 1) := by decide +kernel
theorem d_M_withBit_15 : decode b_M_withBit 15 = .ok (.ishl, 1) := by decide +kernel
theorem d_M_withBit_16 : decode b_M_withBit 16 = .ok (.iconst (-1), 1) := by decide +kernel
theorem d_M_withBit_17 : decode b_M_withBit 17 = .ok (.ixor, 1) := by decide +kernel
theorem d_M_withBit_18 : decode b_M_withBit 18 = .ok (.iand, 1) := by decide +kernel
theorem d_M_withBit_19 : decode b_M_withBit 19 = .ok (.ireturn, 1) := by decide +kernel
theorem d_P_explore_0 : decode b_P_explore 0 = .ok (.aload_n 0, 1) := by decide +kernel
theorem d_P_explore_1 : decode b_P_explore 1 = .ok (.getfield 18, 3) := by decide +kernel
theorem d_P_explore_4 : decode b_P_explore 4 = .ok (.aload_n 1, 1) := by decide +kernel
theorem d_P_explore_5 : decode b_P_explore 5 = .ok (.iconst 1, 1) := by decide +kernel
theorem d_P_explore_6 : decode b_P_explore 6 = .ok (.aload_n 2, 1) := by decide +kernel
theorem d_P_explore_7 : decode b_P_explore 7 = .ok (.iconst 1, 1) := by decide +kernel
theorem d_P_explore_8 : decode b_P_explore 8 = .ok (.invokestatic 22, 3) := by decide +kernel
theorem d_P_explore_11 : decode b_P_explore 11 = .ok (.invokevirtual 26, 3) := by decide +kernel
theorem d_P_explore_14 : decode b_P_explore 14 = .ok (.aload_n 0, 1) := by decide +kernel
theorem d_P_explore_15 : decode b_P_explore 15 = .ok (.getfield 9, 3) := by decide +kernel
theorem d_P_explore_18 : decode b_P_explore 18 = .ok (.iconst 1, 1) := by decide +kernel
theorem d_P_explore_19 : decode b_P_explore 19 = .ok (.iconst 1, 1) := by decide +kernel
theorem d_P_explore_20 : decode b_P_explore 20 = .ok (.iastore, 1) := by decide +kernel
theorem d_P_explore_21 : decode b_P_explore 21 = .ok (.aload_n 0, 1) := by decide +kernel
theorem d_P_explore_22 : decode b_P_explore 22 = .ok (.getfield 15, 3) := by decide +kernel
theorem d_P_explore_25 : decode b_P_explore 25 = .ok (.iconst 1, 1) := by decide +kernel
theorem d_P_explore_26 : decode b_P_explore 26 = .ok (.iconst 1, 1) := by decide +kernel
theorem d_P_explore_27 : decode b_P_explore 27 = .ok (.iastore, 1) := by decide +kernel
theorem d_P_explore_28 : decode b_P_explore 28 = .ok (.iconst 1, 1) := by decide +kernel
theorem d_P_explore_29 : decode b_P_explore 29 = .ok (.istore_n 3, 1) := by decide +kernel
theorem d_P_explore_30 : decode b_P_explore 30 = .ok (.iload_n 3, 1) := by decide +kernel
theorem d_P_explore_31 : decode b_P_explore 31 = .ok (.aload_n 0, 1) := by decide +kernel
theorem d_P_explore_32 : decode b_P_explore 32 = .ok (.getfield 18, 3) := by decide +kernel
theorem d_P_explore_35 : decode b_P_explore 35 = .ok (.getfield 32, 3) := by decide +kernel
theorem d_P_explore_38 : decode b_P_explore 38 = .ok (.if_icmp .gt 28, 3) := by decide +kernel
theorem d_P_explore_41 : decode b_P_explore 41 = .ok (.iload_n 3, 1) := by decide +kernel
theorem d_P_explore_42 : decode b_P_explore 42 = .ok (.sipush 200, 3) := by decide +kernel
theorem d_P_explore_45 : decode b_P_explore 45 = .ok (.if_icmp .gt 21, 3) := by decide +kernel
theorem d_P_explore_48 : decode b_P_explore 48 = .ok (.aload_n 0, 1) := by decide +kernel
theorem d_P_explore_49 : decode b_P_explore 49 = .ok (.iload_n 3, 1) := by decide +kernel
theorem d_P_explore_50 : decode b_P_explore 50 = .ok (.aload_n 1, 1) := by decide +kernel
theorem d_P_explore_51 : decode b_P_explore 51 = .ok (.aload_n 2, 1) := by decide +kernel
theorem d_P_explore_52 : decode b_P_explore 52 = .ok (.invokevirtual 36, 3) := by decide +kernel
theorem d_P_explore_55 : decode b_P_explore 55 = .ok (.ifCond .ne 5, 3) := by decide +kernel
theorem d_P_explore_58 : decode b_P_explore 58 = .ok (.iconst 0, 1) := by decide +kernel
theorem d_P_explore_59 : decode b_P_explore 59 = .ok (.ireturn, 1) := by decide +kernel
theorem d_P_explore_60 : decode b_P_explore 60 = .ok (.iinc 3 1, 3) := by decide +kernel
theorem d_P_explore_63 : decode b_P_explore 63 = .ok (.goto (-33), 3) := by decide +kernel
theorem d_P_explore_66 : decode b_P_explore 66 = .ok (.iconst 1, 1) := by decide +kernel
theorem d_P_explore_67 : decode b_P_explore 67 = .ok (.ireturn, 1) := by decide +kernel
theorem d_P_exploreFrom_0 : decode b_P_exploreFrom 0 = .ok (.aload_n 0, 1) := by decide +kernel
theorem d_P_exploreFrom_1 : decode b_P_exploreFrom 1 = .ok (.getfield 18, 3) := by decide +kernel
theorem d_P_exploreFrom_4 : decode b_P_exploreFrom 4 = .ok (.getfield 45, 3) := by decide +kernel
theorem d_P_exploreFrom_7 : decode b_P_exploreFrom 7 = .ok (.iload_n 1, 1) := by decide +kernel
theorem d_P_exploreFrom_8 : decode b_P_exploreFrom 8 = .ok (.aload_n 2, 1) := by decide +kernel
theorem d_P_exploreFrom_9 : decode b_P_exploreFrom 9 = .ok (.aload_n 0, 1) := by decide +kernel
theorem d_P_exploreFrom_10 : decode b_P_exploreFrom 10 = .ok (.getfield 9, 3) := by decide +kernel
theorem d_P_exploreFrom_13 : decode b_P_exploreFrom 13 = .ok (.iload_n 1, 1) := by decide +kernel
theorem d_P_exploreFrom_14 : decode b_P_exploreFrom 14 = .ok (.iaload, 1) := by decide +kernel
theorem d_P_exploreFrom_15 : decode b_P_exploreFrom 15 = .ok (.invokevirtual 49, 3) := by decide +kernel
theorem d_P_exploreFrom_18 : decode b_P_exploreFrom 18 = .ok (.ifCond .eq 20, 3) := by decide +kernel
theorem d_P_exploreFrom_21 : decode b_P_exploreFrom 21 = .ok (.aload_n 3, 1) := by decide +kernel
theorem d_P_exploreFrom_22 : decode b_P_exploreFrom 22 = .ok (.aload_n 0, 1) := by decide +kernel
theorem d_P_exploreFrom_23 : decode b_P_exploreFrom 23 = .ok (.getfield 15, 3) := by decide +kernel
theorem d_P_exploreFrom_26 : decode b_P_exploreFrom 26 = .ok (.iload_n 1, 1) := by decide +kernel
theorem d_P_exploreFrom_27 : decode b_P_exploreFrom 27 = .ok (.iaload, 1) := by decide +kernel
theorem d_P_exploreFrom_28 : decode b_P_exploreFrom 28 = .ok (.invokevirtual 49, 3) := by decide +kernel
theorem d_P_exploreFrom_31 : decode b_P_exploreFrom 31 = .ok (.ifCond .eq 7, 3) := by decide +kernel
theorem d_P_exploreFrom_34 : decode b_P_exploreFrom 34 = .ok (.iconst 1, 1) := by decide +kernel
theorem d_P_exploreFrom_35 : decode b_P_exploreFrom 35 = .ok (.goto 4, 3) := by decide +kernel
theorem d_P_exploreFrom_38 : decode b_P_exploreFrom 38 = .ok (.iconst 0, 1) := by decide +kernel
theorem d_P_exploreFrom_39 : decode b_P_exploreFrom 39 = .ok (.bastore, 1) := by decide +kernel
theorem d_P_exploreFrom_40 : decode b_P_exploreFrom 40 = .ok (.aload_n 0, 1) := by decide +kernel
theorem d_P_exploreFrom_41 : decode b_P_exploreFrom 41 = .ok (.getfield 18, 3) := by decide +kernel
theorem d_P_exploreFrom_44 : decode b_P_exploreFrom 44 = .ok (.getfield 53, 3) := by decide +kernel
theorem d_P_exploreFrom_47 : decode b_P_exploreFrom 47 = .ok (.iload_n 1, 1) := by decide +kernel
theorem d_P_exploreFrom_48 : decode b_P_exploreFrom 48 = .ok (.iconst 1, 1) := by decide +kernel
theorem d_P_exploreFrom_49 : decode b_P_exploreFrom 49 = .ok (.bastore, 1) := by decide +kernel
theorem d_P_exploreFrom_50 : decode b_P_exploreFrom 50 = .ok (.iconst 0, 1) := by decide +kernel
theorem d_P_exploreFrom_51 : decode b_P_exploreFrom 51 = .ok (.istore 4, 2) := by decide +kernel
theorem d_P_exploreFrom_53 : decode b_P_exploreFrom 53 = .ok (.iload 4, 2) := by decide +kernel
theorem d_P_exploreFrom_55 : decode b_P_exploreFrom 55 = .ok (.bipush 12, 2) := by decide +kernel
theorem d_P_exploreFrom_57 : decode b_P_exploreFrom 57 = .ok (.if_icmp .ge 93, 3) := by decide +kernel
theorem d_P_exploreFrom_60 : decode b_P_exploreFrom 60 = .ok (.aload_n 2, 1) := by decide +kernel
theorem d_P_exploreFrom_61 : decode b_P_exploreFrom 61 = .ok (.aload_n 0, 1) := by decide +kernel
theorem d_P_exploreFrom_62 : decode b_P_exploreFrom 62 = .ok (.getfield 9, 3) := by decide +kernel
theorem d_P_exploreFrom_65 : decode b_P_exploreFrom 65 = .ok (.iload_n 1, 1) := by decide +kernel
theorem d_P_exploreFrom_66 : decode b_P_exploreFrom 66 = .ok (.iaload, 1) := by decide +kernel
theorem d_P_exploreFrom_67 : decode b_P_exploreFrom 67 = .ok (.iload 4, 2) := by decide +kernel
theorem d_P_exploreFrom_69 : decode b_P_exploreFrom 69 = .ok (.invokevirtual 56, 3) := by decide +kernel
theorem d_P_exploreFrom_72 : decode b_P_exploreFrom 72 = .ok (.istore 5, 2) := by decide +kernel
theorem d_P_exploreFrom_74 : decode b_P_exploreFrom 74 = .ok (.aload_n 3, 1) := by decide +kernel
theorem d_P_exploreFrom_75 : decode b_P_exploreFrom 75 = .ok (.aload_n 0, 1) := by decide +kernel
theorem d_P_exploreFrom_76 : decode b_P_exploreFrom 76 = .ok (.getfield 15, 3) := by decide +kernel
theorem d_P_exploreFrom_79 : decode b_P_exploreFrom 79 = .ok (.iload_n 1, 1) := by decide +kernel
theorem d_P_exploreFrom_80 : decode b_P_exploreFrom 80 = .ok (.iaload, 1) := by decide +kernel
theorem d_P_exploreFrom_81 : decode b_P_exploreFrom 81 = .ok (.iload 4, 2) := by decide +kernel
theorem d_P_exploreFrom_83 : decode b_P_exploreFrom 83 = .ok (.invokevirtual 56, 3) := by decide +kernel
theorem d_P_exploreFrom_86 : decode b_P_exploreFrom 86 = .ok (.istore 6, 2) := by decide +kernel
theorem d_P_exploreFrom_88 : decode b_P_exploreFrom 88 = .ok (.iload 5, 2) := by decide +kernel
theorem d_P_exploreFrom_90 : decode b_P_exploreFrom 90 = .ok (.ifCond .eq 54, 3) := by decide +kernel
theorem d_P_exploreFrom_93 : decode b_P_exploreFrom 93 = .ok (.iload 6, 2) := by decide +kernel
theorem d_P_exploreFrom_95 : decode b_P_exploreFrom 95 = .ok (.ifCond .eq 49, 3) := by decide +kernel
theorem d_P_exploreFrom_98 : decode b_P_exploreFrom 98 = .ok (.aload_n 0, 1) := by decide +kernel
theorem d_P_exploreFrom_99 : decode b_P_exploreFrom 99 = .ok (.getfield 18, 3) := by decide +kernel
theorem d_P_exploreFrom_102 : decode b_P_exploreFrom 102 = .ok (.iload_n 1, 1) := by decide +kernel
theorem d_P_exploreFrom_103 : decode b_P_exploreFrom 103 = .ok (.iload 4, 2) := by decide +kernel
theorem d_P_exploreFrom_105 : decode b_P_exploreFrom 105 = .ok (.aload_n 2, 1) := by decide +kernel
theorem d_P_exploreFrom_106 : decode b_P_exploreFrom 106 = .ok (.iload 5, 2) := by decide +kernel
theorem d_P_exploreFrom_108 : decode b_P_exploreFrom 108 = .ok (.aload_n 3, 1) := by decide +kernel
theorem d_P_exploreFrom_109 : decode b_P_exploreFrom 109 = .ok (.iload 6, 2) := by decide +kernel
theorem d_P_exploreFrom_111 : decode b_P_exploreFrom 111 = .ok (.invokestatic 22, 3) := by decide +kernel
theorem d_P_exploreFrom_114 : decode b_P_exploreFrom 114 = .ok (.invokevirtual 60, 3) := by decide +kernel
theorem d_P_exploreFrom_117 : decode b_P_exploreFrom 117 = .ok (.istore 7, 2) := by decide +kernel
theorem d_P_exploreFrom_119 : decode b_P_exploreFrom 119 = .ok (.iload 7, 2) := by decide +kernel
theorem d_P_exploreFrom_121 : decode b_P_exploreFrom 121 = .ok (.ifCond .ne 5, 3) := by decide +kernel
theorem d_P_exploreFrom_124 : decode b_P_exploreFrom 124 = .ok (.iconst 0, 1) := by decide +kernel
theorem d_P_exploreFrom_125 : decode b_P_exploreFrom 125 = .ok (.ireturn, 1) := by decide +kernel
theorem d_P_exploreFrom_126 : decode b_P_exploreFrom 126 = .ok (.aload_n 0, 1) := by decide +kernel
theorem d_P_exploreFrom_127 : decode b_P_exploreFrom 127 = .ok (.getfield 9, 3) := by decide +kernel
theorem d_P_exploreFrom_130 : decode b_P_exploreFrom 130 = .ok (.iload 7, 2) := by decide +kernel
theorem d_P_exploreFrom_132 : decode b_P_exploreFrom 132 = .ok (.iload 5, 2) := by decide +kernel
theorem d_P_exploreFrom_134 : decode b_P_exploreFrom 134 = .ok (.iastore, 1) := by decide +kernel
theorem d_P_exploreFrom_135 : decode b_P_exploreFrom 135 = .ok (.aload_n 0, 1) := by decide +kernel
theorem d_P_exploreFrom_136 : decode b_P_exploreFrom 136 = .ok (.getfield 15, 3) := by decide +kernel
theorem d_P_exploreFrom_139 : decode b_P_exploreFrom 139 = .ok (.iload 7, 2) := by decide +kernel
theorem d_P_exploreFrom_141 : decode b_P_exploreFrom 141 = .ok (.iload 6, 2) := by decide +kernel
theorem d_P_exploreFrom_143 : decode b_P_exploreFrom 143 = .ok (.iastore, 1) := by decide +kernel
theorem d_P_exploreFrom_144 : decode b_P_exploreFrom 144 = .ok (.iinc 4 1, 3) := by decide +kernel
theorem d_P_exploreFrom_147 : decode b_P_exploreFrom 147 = .ok (.goto (-94), 3) := by decide +kernel
theorem d_P_exploreFrom_150 : decode b_P_exploreFrom 150 = .ok (.iconst 1, 1) := by decide +kernel
theorem d_P_exploreFrom_151 : decode b_P_exploreFrom 151 = .ok (.ireturn, 1) := by decide +kernel
theorem d_P_haveDeadEnd_0 : decode b_P_haveDeadEnd 0 = .ok (.aload_n 0, 1) := by decide +kernel
theorem d_P_haveDeadEnd_1 : decode b_P_haveDeadEnd 1 = .ok (.getfield 18, 3) := by decide +kernel
theorem d_P_haveDeadEnd_4 : decode b_P_haveDeadEnd 4 = .ok (.invokevirtual 64, 3) := by decide +kernel
theorem d_P_haveDeadEnd_7 : decode b_P_haveDeadEnd 7 = .ok (.aload_n 0, 1) := by decide +kernel
theorem d_P_haveDeadEnd_8 : decode b_P_haveDeadEnd 8 = .ok (.getfield 18, 3) := by decide +kernel
theorem d_P_haveDeadEnd_11 : decode b_P_haveDeadEnd 11 = .ok (.invokevirtual 67, 3) := by decide +kernel
theorem d_P_haveDeadEnd_14 : decode b_P_haveDeadEnd 14 = .ok (.ireturn, 1) := by decide +kernel
theorem d_P_init_0 : decode b_P_init 0 = .ok (.aload_n 0, 1) := by decide +kernel
theorem d_P_init_1 : decode b_P_init 1 = .ok (.invokespecial 3, 3) := by decide +kernel
theorem d_P_init_4 : decode b_P_init 4 = .ok (.aload_n 0, 1) := by decide +kernel
theorem d_P_init_5 : decode b_P_init 5 = .ok (.sipush 201, 3) := by decide +kernel
theorem d_P_init_8 : decode b_P_init 8 = .ok (.newarray .int, 2) := by decide +kernel
theorem d_P_init_10 : decode b_P_init 10 = .ok (.putfield 9, 3) := by decide +kernel
theorem d_P_init_13 : decode b_P_init 13 = .ok (.aload_n 0, 1) := by decide +kernel
theorem d_P_init_14 : decode b_P_init 14 = .ok (.sipush 201, 3) := by decide +kernel
theorem d_P_init_17 : decode b_P_init 17 = .ok (.newarray .int, 2) := by decide +kernel
theorem d_P_init_19 : decode b_P_init 19 = .ok (.putfield 15, 3) := by decide +kernel
theorem d_P_init_22 : decode b_P_init 22 = .ok (.aload_n 0, 1) := by decide +kernel
theorem d_P_init_23 : decode b_P_init 23 = .ok (.aload_n 1, 1) := by decide +kernel
theorem d_P_init_24 : decode b_P_init 24 = .ok (.putfield 18, 3) := by decide +kernel
theorem d_P_init_27 : decode b_P_init 27 = .ok (.return_, 1) := by decide +kernel
theorem d_P_pairCode_0 : decode b_P_pairCode 0 = .ok (.aload_n 0, 1) := by decide +kernel
theorem d_P_pairCode_1 : decode b_P_pairCode 1 = .ok (.getfield 40, 3) := by decide +kernel
theorem d_P_pairCode_4 : decode b_P_pairCode 4 = .ok (.iload_n 1, 1) := by decide +kernel
theorem d_P_pairCode_5 : decode b_P_pairCode 5 = .ok (.iaload, 1) := by decide +kernel
theorem d_P_pairCode_6 : decode b_P_pairCode 6 = .ok (.aload_n 2, 1) := by decide +kernel
theorem d_P_pairCode_7 : decode b_P_pairCode 7 = .ok (.getfield 40, 3) := by decide +kernel
theorem d_P_pairCode_10 : decode b_P_pairCode 10 = .ok (.iload_n 3, 1) := by decide +kernel
theorem d_P_pairCode_11 : decode b_P_pairCode 11 = .ok (.iaload, 1) := by decide +kernel
theorem d_P_pairCode_12 : decode b_P_pairCode 12 = .ok (.ior, 1) := by decide +kernel
theorem d_P_pairCode_13 : decode b_P_pairCode 13 = .ok (.ireturn, 1) := by decide +kernel
theorem d_S_init_0 : decode b_S_init 0 = .ok (.aload_n 0, 1) := by decide +kernel
theorem d_S_init_1 : decode b_S_init 1 = .ok (.invokespecial 3, 3) := by decide +kernel
theorem d_S_init_4 : decode b_S_init 4 = .ok (.aload_n 0, 1) := by decide +kernel
theorem d_S_init_5 : decode b_S_init 5 = .ok (.sipush 201, 3) := by decide +kernel
theorem d_S_init_8 : decode b_S_init 8 = .ok (.newarray .int, 2) := by decide +kernel
theorem d_S_init_10 : decode b_S_init 10 = .ok (.putfield 9, 3) := by decide +kernel
theorem d_S_init_13 : decode b_S_init 13 = .ok (.aload_n 0, 1) := by decide +kernel
theorem d_S_init_14 : decode b_S_init 14 = .ok (.sipush 201, 3) := by decide +kernel
theorem d_S_init_17 : decode b_S_init 17 = .ok (.newarray .int, 2) := by decide +kernel
theorem d_S_init_19 : decode b_S_init 19 = .ok (.putfield 15, 3) := by decide +kernel
theorem d_S_init_22 : decode b_S_init 22 = .ok (.aload_n 0, 1) := by decide +kernel
theorem d_S_init_23 : decode b_S_init 23 = .ok (.sipush 201, 3) := by decide +kernel
theorem d_S_init_26 : decode b_S_init 26 = .ok (.newarray .int, 2) := by decide +kernel
theorem d_S_init_28 : decode b_S_init 28 = .ok (.putfield 18, 3) := by decide +kernel
theorem d_S_init_31 : decode b_S_init 31 = .ok (.aload_n 0, 1) := by decide +kernel
theorem d_S_init_32 : decode b_S_init 32 = .ok (.sipush 201, 3) := by decide +kernel
theorem d_S_init_35 : decode b_S_init 35 = .ok (.newarray .int, 2) := by decide +kernel
theorem d_S_init_37 : decode b_S_init 37 = .ok (.putfield 21, 3) := by decide +kernel
theorem d_S_init_40 : decode b_S_init 40 = .ok (.aload_n 0, 1) := by decide +kernel
theorem d_S_init_41 : decode b_S_init 41 = .ok (.sipush 2412, 3) := by decide +kernel
theorem d_S_init_44 : decode b_S_init 44 = .ok (.newarray .int, 2) := by decide +kernel
theorem d_S_init_46 : decode b_S_init 46 = .ok (.putfield 24, 3) := by decide +kernel
theorem d_S_init_49 : decode b_S_init 49 = .ok (.return_, 1) := by decide +kernel
theorem d_S_isMarked_0 : decode b_S_isMarked 0 = .ok (.aload_n 0, 1) := by decide +kernel
theorem d_S_isMarked_1 : decode b_S_isMarked 1 = .ok (.getfield 21, 3) := by decide +kernel
theorem d_S_isMarked_4 : decode b_S_isMarked 4 = .ok (.iload_n 1, 1) := by decide +kernel
theorem d_S_isMarked_5 : decode b_S_isMarked 5 = .ok (.iaload, 1) := by decide +kernel
theorem d_S_isMarked_6 : decode b_S_isMarked 6 = .ok (.ifCond .ne 7, 3) := by decide +kernel
theorem d_S_isMarked_9 : decode b_S_isMarked 9 = .ok (.iconst 1, 1) := by decide +kernel
theorem d_S_isMarked_10 : decode b_S_isMarked 10 = .ok (.goto 4, 3) := by decide +kernel
theorem d_S_isMarked_13 : decode b_S_isMarked 13 = .ok (.iconst 0, 1) := by decide +kernel
theorem d_S_isMarked_14 : decode b_S_isMarked 14 = .ok (.ireturn, 1) := by decide +kernel
theorem d_S_target_0 : decode b_S_target 0 = .ok (.aload_n 0, 1) := by decide +kernel
theorem d_S_target_1 : decode b_S_target 1 = .ok (.getfield 24, 3) := by decide +kernel
theorem d_S_target_4 : decode b_S_target 4 = .ok (.iload_n 1, 1) := by decide +kernel
theorem d_S_target_5 : decode b_S_target 5 = .ok (.bipush 12, 2) := by decide +kernel
theorem d_S_target_7 : decode b_S_target 7 = .ok (.imul, 1) := by decide +kernel
theorem d_S_target_8 : decode b_S_target 8 = .ok (.iload_n 2, 1) := by decide +kernel
theorem d_S_target_9 : decode b_S_target 9 = .ok (.iadd, 1) := by decide +kernel
theorem d_S_target_10 : decode b_S_target 10 = .ok (.iaload, 1) := by decide +kernel
theorem d_S_target_11 : decode b_S_target 11 = .ok (.ireturn, 1) := by decide +kernel
theorem d_S_verdict_0 : decode b_S_verdict 0 = .ok (.aload_n 0, 1) := by decide +kernel
theorem d_S_verdict_1 : decode b_S_verdict 1 = .ok (.iload_n 1, 1) := by decide +kernel
theorem d_S_verdict_2 : decode b_S_verdict 2 = .ok (.iload_n 2, 1) := by decide +kernel
theorem d_S_verdict_3 : decode b_S_verdict 3 = .ok (.invokevirtual 27, 3) := by decide +kernel
theorem d_S_verdict_6 : decode b_S_verdict 6 = .ok (.ifCond .eq 5, 3) := by decide +kernel
theorem d_S_verdict_9 : decode b_S_verdict 9 = .ok (.iconst 0, 1) := by decide +kernel
theorem d_S_verdict_10 : decode b_S_verdict 10 = .ok (.ireturn, 1) := by decide +kernel
theorem d_S_verdict_11 : decode b_S_verdict 11 = .ok (.aload_n 0, 1) := by decide +kernel
theorem d_S_verdict_12 : decode b_S_verdict 12 = .ok (.getfield 18, 3) := by decide +kernel
theorem d_S_verdict_15 : decode b_S_verdict 15 = .ok (.iload_n 1, 1) := by decide +kernel
theorem d_S_verdict_16 : decode b_S_verdict 16 = .ok (.iaload, 1) := by decide +kernel
theorem d_S_verdict_17 : decode b_S_verdict 17 = .ok (.iload_n 2, 1) := by decide +kernel
theorem d_S_verdict_18 : decode b_S_verdict 18 = .ok (.invokestatic 31, 3) := by decide +kernel
theorem d_S_verdict_21 : decode b_S_verdict 21 = .ok (.ifCond .eq 7, 3) := by decide +kernel
theorem d_S_verdict_24 : decode b_S_verdict 24 = .ok (.iconst 1, 1) := by decide +kernel
theorem d_S_verdict_25 : decode b_S_verdict 25 = .ok (.goto 4, 3) := by decide +kernel
theorem d_S_verdict_28 : decode b_S_verdict 28 = .ok (.iconst 2, 1) := by decide +kernel
theorem d_S_verdict_29 : decode b_S_verdict 29 = .ok (.ireturn, 1) := by decide +kernel
